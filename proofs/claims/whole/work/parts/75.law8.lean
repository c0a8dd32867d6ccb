set_option maxHeartbeats 1000000 in
set_option maxRecDepth 100000 in
theorem law_slot {p : Program} {l : Launch} {e : Env} {s : State} {m : MethodId} {below : List Frame} {meth : Method} {c : Code} {Q : State → Prop} {g : GT} {A : Nat → Prop} {ad bd mo : Nat → Nat} {oa b L N rr ix cnt : Nat} {xs : Nat → Int32} (hl9 : l.stackTraces = false) (X : LC p s m meth c g A b L xs) (hL : L ≤ 321) (hi5 : ix + 5 ≤ L) (hc : cnt < 64) (kk : LK p l e s m b below meth c Q g A ad bd mo oa N rr ix (cnt + 1) 751) : LK p l e s m b below meth c Q g A ad bd mo oa N rr ix cnt 509 := by
  obtain ⟨C, hX, hbl, hbA, hXS⟩ := X
  have hx := C.x
  have hb := C.b
  intro np fk fn fo U V code cp en no ou wl wh rl rh th bt xx ra t0 t1 s1 ca cq ch bb wt nx cx pt le sc ss ww xc lo hi xi fz H locs ls hI hT hl
  obtain ⟨⟨hG, h6⟩, ⟨hr0, hr1⟩, ⟨hxU, hxV⟩, ⟨hf1, hf2⟩, ⟨n1, n2, n3, n4⟩, ⟨o1, o2, o3, o4, o5, o6⟩, hE1, hE0, hE2⟩ := id hI
  subst o4
  subst o5
  subst o6
  have hnp := hG.1
  have hN := hG.2.1
  have hrr := hG.2.2.1
  have hN4 : N ≤ 4096 := by rw [hN]; exact Nat.pow_le_pow_right (i := rr) (j := 12) (by decide) hrr
  have hbgU := hxU.1.2.2.1
  have hbgV := hxV.1.2.2.1
  by_cases hs0 : xs (ix + 1) = 0
  · skip
    by_cases hr : inR (xs (ix + 2)) N = true
    · skip
      refine lv_aload_n hx hb dL_law_509 rfl (lv_at hl 1 rfl) ?_
      refine lv_aload_n hx hb dL_law_510 rfl (lv_at hl 0 rfl) ?_
      refine lv_iload hx hb dL_law_511 (lv_at hl 4 rfl) ?_
      refine lv_iconst (v := 1) hx hb dL_law_513 (by decide) ?_
      refine lv_iadd hx hb dL_law_514 ?_
      refine r_sld C hX hbl hbA hT (ix + 1) (nI_add ix 1) (by omega) (by omega) dL_law_515 ?_
      refine lv_aload_n hx hb dL_law_516 rfl (lv_at hl 0 rfl) ?_
      refine lv_iload hx hb dL_law_517 (lv_at hl 4 rfl) ?_
      refine lv_iconst (v := 2) hx hb dL_law_519 (by decide) ?_
      refine lv_iadd hx hb dL_law_520 ?_
      refine r_sld C hX hbl hbA hT (ix + 2) (nI_add ix 2) (by omega) (by omega) dL_law_521 ?_
      refine lv_aload_n hx hb dL_law_522 rfl (lv_at hl 3 rfl) ?_
      have hT := hT.perm (pm1 _ _ _)
      have hM := c_L_slot_ok (q1 := 52) (oa := oa) (f := fz) (Nat.le_of_ble_eq_true rfl) (Nat.le_of_ble_eq_true rfl) rfl rfl rfl (c_X10_slot_0 l g ad bd np fk fn fo stA N U V code cp en no ou wl wh (lo 1) (hi 1) (xs (ix + 1)) (xs (ix + 2)) (by omega) hs0 hr)
      refine r_callH (lc := CMX g ad bd N np fk fn fo U V code cp en no ou wl wh (lo 1) (hi 1) ++ [OUTc g oa fz]) (B := MDX g mo rr np fk fn fo en no ou th (s_bg U) xx ra t0 t1 s1 ca cq ch bb wt nx cx pt le sc ss ww xc lo hi xi) (As := [.ref (bd 1), .int (xs (ix + 1)), .int (xs (ix + 2)), .ref oa]) (n := 4) (rest := []) C hT hM hXS k644 k645 k0 kcw (by decide +kernel) rfl rfl (Nat.le_of_ble_eq_true rfl) hl.1 ⟨Nat.le_of_ble_eq_true rfl, Nat.le_of_ble_eq_true rfl⟩ ⟨by show 77 + cnt + 1 ≤ 600384; omega, by show 107809 + 6 * cnt + 6 ≤ 7288888; omega⟩ dL_law_523 (fun _ => by simp only [List.map_append, List.map_cons, List.map_nil]) (fun u H locs hT => ?_)
      have hT : Wd g A s ((CMX g ad bd N np fk fn fo U V code cp en no ou wl wh (lo 1) (hi 1) ++ [OUTc g oa (vp_updL fz 0 (s_fc U (xs (ix + 2)).toNatClampNeg : Int32).toInt64)]) ++ MDX g mo rr np fk fn fo en no ou th (s_bg U) xx ra t0 t1 s1 ca cq ch bb wt nx cx pt le sc ss ww xc lo hi xi) H locs := hT
      refine W.widen (k := 77 + (cnt + 1)) (n := 107809 + 6 * (cnt + 1)) (by show 77 + cnt + 1 ≤ 77 + (cnt + 1); omega) (by show 107809 + 6 * cnt + 6 ≤ 107809 + 6 * (cnt + 1); omega) ?_
      refine W.eq (g2 := F0 m 526 ls [.int 0]) rfl ?_
      refine lv_istore (lv' := [(5, .int 0), (0, .ref b), (1, .ref (bd 1)), (2, .ref (mo 0)), (3, .ref oa), (4, .int (nI ix))]) hx hb dL_law_526 hl (by decide) rfl (fun ls hl => ?_)
      have hT := hT.perm List.perm_append_comm
      refine lv_aload_n hx hb dL_law_528 rfl (lv_at hl 3 rfl) ?_
      refine lv_aload_n hx hb dL_law_529 rfl (lv_at hl 1 rfl) ?_
      refine lv_iload hx hb dL_law_530 (lv_at hl 5 rfl) ?_
      refine lv_iconst (v := 1) hx hb dL_law_532 (by decide) ?_
      refine lv_iadd hx hb dL_law_533 ?_
      refine r_sld C hX hbl hbA hT (ix + 1) (nI_add ix 1) (by omega) (by omega) dL_law_534 ?_
      refine lv_aload_n hx hb dL_law_535 rfl (lv_at hl 1 rfl) ?_
      refine lv_iload hx hb dL_law_536 (lv_at hl 5 rfl) ?_
      refine lv_iconst (v := 2) hx hb dL_law_538 (by decide) ?_
      refine lv_iadd hx hb dL_law_539 ?_
      refine r_sld C hX hbl hbA hT (ix + 2) (nI_add ix 2) (by omega) (by omega) dL_law_540 ?_
      have hM := c_X11_slot l g mo rr th np no (s_bg U) en xx ra t0 t1 s1 ca cq ch stA fk fn fo bb wt nx cx pt le sc ss ww xc lo hi ou xi 0 N U (xs (ix + 2)) (by decide) hr0.2.2.2.1 hrr hN
      refine r_callP (lc := MDX g mo rr np fk fn fo en no ou th (s_bg U) xx ra t0 t1 s1 ca cq ch bb wt nx cx pt le sc ss ww xc lo hi xi) (B := CMX g ad bd N np fk fn fo U V code cp en no ou wl wh (lo 1) (hi 1) ++ [OUTc g oa (vp_updL fz 0 (s_fc U (xs (ix + 2)).toNatClampNeg : Int32).toInt64)]) (As := [.int (nI 0), .int (xs (ix + 2))]) (n := 2) (q1 := 0) (rest := []) C hT hM k998 k999 k1000 k15 k1001 (by decide +kernel) rfl rfl rfl (by rw [hs0]; rfl) (Nat.le_of_ble_eq_true rfl) hl.1 ⟨Nat.le_of_ble_eq_true rfl, Nat.le_of_ble_eq_true rfl⟩ ⟨by show 77 + (cnt + 1) + 0 ≤ 600384; omega, by show 107809 + 6 * (cnt + 1) + 0 ≤ 7288888; omega⟩ dL_law_541 (fun _ => mdL_fst.trans mdL_fst.symm) (fun u H locs hT => ?_)
      have hT : Wd g A s (MDX g mo rr np fk fn fo en no ou (if inR (xs (ix + 2)) N = true then 0 else 1) (s_bg U) xx ra t0 t1 s1 ca cq ch bb wt nx cx pt le sc ss ww xc lo hi xi ++ (CMX g ad bd N np fk fn fo U V code cp en no ou wl wh (lo 1) (hi 1) ++ [OUTc g oa (vp_updL fz 0 (s_fc U (xs (ix + 2)).toNatClampNeg : Int32).toInt64)])) H locs := hT
      refine W.widen (k := 77 + (cnt + 1)) (n := 107809 + 6 * (cnt + 1)) (Nat.le_refl _) (Nat.le_refl _) ?_
      refine W.eq (g2 := F0 m 544 ls [.int (if inR (xs (ix + 2)) N = true then s_fc U (xs (ix + 2)).toNatClampNeg else 0)]) rfl ?_
      refine lv_istore (lv' := [(6, .int (if inR (xs (ix + 2)) N = true then s_fc U (xs (ix + 2)).toNatClampNeg else 0)), (5, .int 0), (0, .ref b), (1, .ref (bd 1)), (2, .ref (mo 0)), (3, .ref oa), (4, .int (nI ix))]) hx hb dL_law_544 hl (by decide) rfl (fun ls hl => ?_)
      refine lv_aload_n hx hb dL_law_546 rfl (lv_at hl 4 rfl) ?_
      have hM := c_X11_thrown l g mo rr (if inR (xs (ix + 2)) N = true then 0 else 1) np no (s_bg U) en xx ra t0 t1 s1 ca cq ch stA fk fn fo bb wt nx cx pt le sc ss ww xc lo hi ou xi 
      refine r_callP (lc := MDX g mo rr np fk fn fo en no ou (if inR (xs (ix + 2)) N = true then 0 else 1) (s_bg U) xx ra t0 t1 s1 ca cq ch bb wt nx cx pt le sc ss ww xc lo hi xi) (B := CMX g ad bd N np fk fn fo U V code cp en no ou wl wh (lo 1) (hi 1) ++ [OUTc g oa (vp_updL fz 0 (s_fc U (xs (ix + 2)).toNatClampNeg : Int32).toInt64)]) (As := []) (n := 0) (q1 := 0) (rest := []) C hT hM k875 k876 k877 k15 k878 (by decide +kernel) rfl rfl rfl rfl (Nat.le_of_ble_eq_true rfl) hl.1 ⟨Nat.le_of_ble_eq_true rfl, Nat.le_of_ble_eq_true rfl⟩ ⟨by show 77 + (cnt + 1) + 0 ≤ 600384; omega, by show 107809 + 6 * (cnt + 1) + 0 ≤ 7288888; omega⟩ dL_law_547 (fun _ => mdL_fst.trans mdL_fst.symm) (fun u H locs hT => ?_)
      have hT : Wd g A s (MDX g mo rr np fk fn fo en no ou (if inR (xs (ix + 2)) N = true then 0 else 1) (s_bg U) xx ra t0 t1 s1 ca cq ch bb wt nx cx pt le sc ss ww xc lo hi xi ++ (CMX g ad bd N np fk fn fo U V code cp en no ou wl wh (lo 1) (hi 1) ++ [OUTc g oa (vp_updL fz 0 (s_fc U (xs (ix + 2)).toNatClampNeg : Int32).toInt64)])) H locs := hT
      refine W.widen (k := 77 + (cnt + 1)) (n := 107809 + 6 * (cnt + 1)) (Nat.le_refl _) (Nat.le_refl _) ?_
      refine W.eq (g2 := F0 m 550 ls [.int (if inR (xs (ix + 2)) N = true then 0 else 1)]) rfl ?_
      refine lv_iload hx hb dL_law_550 (lv_at hl 1 rfl) ?_
      refine lv_icmp_eq (tgt := 557) hx hb dL_law_552 (by decide) (fun h => ?_) (fun h => ?_)
      case refine_2 => exact absurd (by rw [if_pos hr]) h
      refine lv_iload hx hb dL_law_557 (lv_at hl 1 rfl) ?_
      refine lv_if_ne (tgt := 574) hx hb dL_law_559 (by decide) (fun hz => ?_) (fun hz => ?_)
      case refine_1 => exact absurd rfl hz
      have hT := hT.perm (pm3 _ _ _)
      refine lv_aload_n hx hb dL_law_562 rfl (lv_at hl 5 rfl) ?_
      refine lv_iconst (v := 0) hx hb dL_law_563 (by decide) ?_
      refine r_lald C hT (q0 := 0) rfl 0 rfl (by decide) (by decide) dL_law_564 ?_
      refine lv_iload hx hb dL_law_565 (lv_at hl 0 rfl) ?_
      refine lv_i2l hx hb dL_law_567 rfl ?_
      refine W.lcmp hx hb dL_law_568 ?_
      refine lv_if_eq (tgt := 574) hx hb dL_law_569 (by decide) (fun hq => ?_) (fun hq => ?_)
      case refine_2 => exact absurd ((lg_cmp_eq _ _).mpr (by rw [if_pos hr]; exact pk_uLs)) hq
      have hT := hT.perm (pm4 _ _ _)
      refine lv_goto (tgt := 751) hx hb dL_law_574 (by decide) ?_
      exact kk np fk fn fo U V code cp en no ou wl wh (lo 1) (hi 1) (if inR (xs (ix + 2)) N = true then 0 else 1) (s_bg U) xx ra t0 t1 s1 ca cq ch bb wt nx cx pt le sc ss ww xc lo hi xi (vp_updL fz 0 (s_fc U (xs (ix + 2)).toNatClampNeg : Int32).toInt64) H locs ls (I_mono hI) hT (lv_sub hl [2, 3, 4, 5, 6] rfl)
    · skip
      have hr : inR (xs (ix + 2)) N = false := by cases hq : inR (xs (ix + 2)) N with | true => exact absurd hq hr | false => rfl
      refine lv_aload_n hx hb dL_law_509 rfl (lv_at hl 1 rfl) ?_
      refine lv_aload_n hx hb dL_law_510 rfl (lv_at hl 0 rfl) ?_
      refine lv_iload hx hb dL_law_511 (lv_at hl 4 rfl) ?_
      refine lv_iconst (v := 1) hx hb dL_law_513 (by decide) ?_
      refine lv_iadd hx hb dL_law_514 ?_
      refine r_sld C hX hbl hbA hT (ix + 1) (nI_add ix 1) (by omega) (by omega) dL_law_515 ?_
      refine lv_aload_n hx hb dL_law_516 rfl (lv_at hl 0 rfl) ?_
      refine lv_iload hx hb dL_law_517 (lv_at hl 4 rfl) ?_
      refine lv_iconst (v := 2) hx hb dL_law_519 (by decide) ?_
      refine lv_iadd hx hb dL_law_520 ?_
      refine r_sld C hX hbl hbA hT (ix + 2) (nI_add ix 2) (by omega) (by omega) dL_law_521 ?_
      refine lv_aload_n hx hb dL_law_522 rfl (lv_at hl 3 rfl) ?_
      have hT := hT.perm (pm1 _ _ _)
      have hM := c_L_slot_x (q1 := 52) (oa := oa) (f := fz) (Nat.le_of_ble_eq_true rfl) (Nat.le_of_ble_eq_true rfl) rfl rfl rfl (c_X10_slot_x0 l hl9 g ad bd np fk fn fo stA N U V code cp en no ou wl wh (lo 1) (hi 1) (xs (ix + 1)) (xs (ix + 2)) hs0 hr)
      refine r_callH (lc := CMX g ad bd N np fk fn fo U V code cp en no ou wl wh (lo 1) (hi 1) ++ [OUTc g oa fz]) (B := MDX g mo rr np fk fn fo en no ou th (s_bg U) xx ra t0 t1 s1 ca cq ch bb wt nx cx pt le sc ss ww xc lo hi xi) (As := [.ref (bd 1), .int (xs (ix + 1)), .int (xs (ix + 2)), .ref oa]) (n := 4) (rest := []) C hT hM hXS k644 k645 k0 kcw (by decide +kernel) rfl rfl (Nat.le_of_ble_eq_true rfl) hl.1 ⟨Nat.le_of_ble_eq_true rfl, Nat.le_of_ble_eq_true rfl⟩ ⟨by show 77 + cnt + 1 ≤ 600384; omega, by show 107809 + 6 * cnt + 6 ≤ 7288888; omega⟩ dL_law_523 (fun _ => by simp only [List.map_append, List.map_cons, List.map_nil]) (fun u H locs hT => ?_)
      have hT : Wd g A s ((CMX g ad bd N np fk fn fo U V code cp en no ou wl wh (lo 1) (hi 1) ++ [OUTc g oa fz]) ++ MDX g mo rr np fk fn fo en no ou th (s_bg U) xx ra t0 t1 s1 ca cq ch bb wt nx cx pt le sc ss ww xc lo hi xi) H locs := hT
      refine W.widen (k := 77 + (cnt + 1)) (n := 107809 + 6 * (cnt + 1)) (by show 77 + cnt + 1 ≤ 77 + (cnt + 1); omega) (by show 107809 + 6 * cnt + 6 ≤ 107809 + 6 * (cnt + 1); omega) ?_
      refine W.eq (g2 := F0 m 526 ls [.int 1]) rfl ?_
      refine lv_istore (lv' := [(5, .int 1), (0, .ref b), (1, .ref (bd 1)), (2, .ref (mo 0)), (3, .ref oa), (4, .int (nI ix))]) hx hb dL_law_526 hl (by decide) rfl (fun ls hl => ?_)
      have hT := hT.perm List.perm_append_comm
      refine lv_aload_n hx hb dL_law_528 rfl (lv_at hl 3 rfl) ?_
      refine lv_aload_n hx hb dL_law_529 rfl (lv_at hl 1 rfl) ?_
      refine lv_iload hx hb dL_law_530 (lv_at hl 5 rfl) ?_
      refine lv_iconst (v := 1) hx hb dL_law_532 (by decide) ?_
      refine lv_iadd hx hb dL_law_533 ?_
      refine r_sld C hX hbl hbA hT (ix + 1) (nI_add ix 1) (by omega) (by omega) dL_law_534 ?_
      refine lv_aload_n hx hb dL_law_535 rfl (lv_at hl 1 rfl) ?_
      refine lv_iload hx hb dL_law_536 (lv_at hl 5 rfl) ?_
      refine lv_iconst (v := 2) hx hb dL_law_538 (by decide) ?_
      refine lv_iadd hx hb dL_law_539 ?_
      refine r_sld C hX hbl hbA hT (ix + 2) (nI_add ix 2) (by omega) (by omega) dL_law_540 ?_
      have hM := c_X11_slot l g mo rr th np no (s_bg U) en xx ra t0 t1 s1 ca cq ch stA fk fn fo bb wt nx cx pt le sc ss ww xc lo hi ou xi 0 N U (xs (ix + 2)) (by decide) hr0.2.2.2.1 hrr hN
      refine r_callP (lc := MDX g mo rr np fk fn fo en no ou th (s_bg U) xx ra t0 t1 s1 ca cq ch bb wt nx cx pt le sc ss ww xc lo hi xi) (B := CMX g ad bd N np fk fn fo U V code cp en no ou wl wh (lo 1) (hi 1) ++ [OUTc g oa fz]) (As := [.int (nI 0), .int (xs (ix + 2))]) (n := 2) (q1 := 0) (rest := []) C hT hM k998 k999 k1000 k15 k1001 (by decide +kernel) rfl rfl rfl (by rw [hs0]; rfl) (Nat.le_of_ble_eq_true rfl) hl.1 ⟨Nat.le_of_ble_eq_true rfl, Nat.le_of_ble_eq_true rfl⟩ ⟨by show 77 + (cnt + 1) + 0 ≤ 600384; omega, by show 107809 + 6 * (cnt + 1) + 0 ≤ 7288888; omega⟩ dL_law_541 (fun _ => mdL_fst.trans mdL_fst.symm) (fun u H locs hT => ?_)
      have hT : Wd g A s (MDX g mo rr np fk fn fo en no ou (if inR (xs (ix + 2)) N = true then 0 else 1) (s_bg U) xx ra t0 t1 s1 ca cq ch bb wt nx cx pt le sc ss ww xc lo hi xi ++ (CMX g ad bd N np fk fn fo U V code cp en no ou wl wh (lo 1) (hi 1) ++ [OUTc g oa fz])) H locs := hT
      refine W.widen (k := 77 + (cnt + 1)) (n := 107809 + 6 * (cnt + 1)) (Nat.le_refl _) (Nat.le_refl _) ?_
      refine W.eq (g2 := F0 m 544 ls [.int (if inR (xs (ix + 2)) N = true then s_fc U (xs (ix + 2)).toNatClampNeg else 0)]) rfl ?_
      refine lv_istore (lv' := [(6, .int (if inR (xs (ix + 2)) N = true then s_fc U (xs (ix + 2)).toNatClampNeg else 0)), (5, .int 1), (0, .ref b), (1, .ref (bd 1)), (2, .ref (mo 0)), (3, .ref oa), (4, .int (nI ix))]) hx hb dL_law_544 hl (by decide) rfl (fun ls hl => ?_)
      refine lv_aload_n hx hb dL_law_546 rfl (lv_at hl 4 rfl) ?_
      have hM := c_X11_thrown l g mo rr (if inR (xs (ix + 2)) N = true then 0 else 1) np no (s_bg U) en xx ra t0 t1 s1 ca cq ch stA fk fn fo bb wt nx cx pt le sc ss ww xc lo hi ou xi 
      refine r_callP (lc := MDX g mo rr np fk fn fo en no ou (if inR (xs (ix + 2)) N = true then 0 else 1) (s_bg U) xx ra t0 t1 s1 ca cq ch bb wt nx cx pt le sc ss ww xc lo hi xi) (B := CMX g ad bd N np fk fn fo U V code cp en no ou wl wh (lo 1) (hi 1) ++ [OUTc g oa fz]) (As := []) (n := 0) (q1 := 0) (rest := []) C hT hM k875 k876 k877 k15 k878 (by decide +kernel) rfl rfl rfl rfl (Nat.le_of_ble_eq_true rfl) hl.1 ⟨Nat.le_of_ble_eq_true rfl, Nat.le_of_ble_eq_true rfl⟩ ⟨by show 77 + (cnt + 1) + 0 ≤ 600384; omega, by show 107809 + 6 * (cnt + 1) + 0 ≤ 7288888; omega⟩ dL_law_547 (fun _ => mdL_fst.trans mdL_fst.symm) (fun u H locs hT => ?_)
      have hT : Wd g A s (MDX g mo rr np fk fn fo en no ou (if inR (xs (ix + 2)) N = true then 0 else 1) (s_bg U) xx ra t0 t1 s1 ca cq ch bb wt nx cx pt le sc ss ww xc lo hi xi ++ (CMX g ad bd N np fk fn fo U V code cp en no ou wl wh (lo 1) (hi 1) ++ [OUTc g oa fz])) H locs := hT
      refine W.widen (k := 77 + (cnt + 1)) (n := 107809 + 6 * (cnt + 1)) (Nat.le_refl _) (Nat.le_refl _) ?_
      refine W.eq (g2 := F0 m 550 ls [.int (if inR (xs (ix + 2)) N = true then 0 else 1)]) rfl ?_
      refine lv_iload hx hb dL_law_550 (lv_at hl 1 rfl) ?_
      refine lv_icmp_eq (tgt := 557) hx hb dL_law_552 (by decide) (fun h => ?_) (fun h => ?_)
      case refine_2 => exact absurd (by rw [hr]; rfl) h
      refine lv_iload hx hb dL_law_557 (lv_at hl 1 rfl) ?_
      refine lv_if_ne (tgt := 574) hx hb dL_law_559 (by decide) (fun hz => ?_) (fun hz => ?_)
      case refine_2 => exact absurd hz (by decide)
      have hT := hT.perm (List.perm_append_comm_assoc _ _ _)
      refine lv_goto (tgt := 751) hx hb dL_law_574 (by decide) ?_
      exact kk np fk fn fo U V code cp en no ou wl wh (lo 1) (hi 1) (if inR (xs (ix + 2)) N = true then 0 else 1) (s_bg U) xx ra t0 t1 s1 ca cq ch bb wt nx cx pt le sc ss ww xc lo hi xi fz H locs ls (I_mono hI) hT (lv_sub hl [2, 3, 4, 5, 6] rfl)
  · skip
    by_cases hs1 : xs (ix + 1) = 1
    · skip
      by_cases hr : inR (xs (ix + 2)) N = true
      · skip
        refine lv_aload_n hx hb dL_law_509 rfl (lv_at hl 1 rfl) ?_
        refine lv_aload_n hx hb dL_law_510 rfl (lv_at hl 0 rfl) ?_
        refine lv_iload hx hb dL_law_511 (lv_at hl 4 rfl) ?_
        refine lv_iconst (v := 1) hx hb dL_law_513 (by decide) ?_
        refine lv_iadd hx hb dL_law_514 ?_
        refine r_sld C hX hbl hbA hT (ix + 1) (nI_add ix 1) (by omega) (by omega) dL_law_515 ?_
        refine lv_aload_n hx hb dL_law_516 rfl (lv_at hl 0 rfl) ?_
        refine lv_iload hx hb dL_law_517 (lv_at hl 4 rfl) ?_
        refine lv_iconst (v := 2) hx hb dL_law_519 (by decide) ?_
        refine lv_iadd hx hb dL_law_520 ?_
        refine r_sld C hX hbl hbA hT (ix + 2) (nI_add ix 2) (by omega) (by omega) dL_law_521 ?_
        refine lv_aload_n hx hb dL_law_522 rfl (lv_at hl 3 rfl) ?_
        have hT := hT.perm (pm1 _ _ _)
        have hM := c_L_slot_ok (q1 := 52) (oa := oa) (f := fz) (Nat.le_of_ble_eq_true rfl) (Nat.le_of_ble_eq_true rfl) rfl rfl rfl (c_X10_slot_1 l g ad bd np fk fn fo stA N U V code cp en no ou wl wh (lo 1) (hi 1) (xs (ix + 1)) (xs (ix + 2)) (by omega) hs1 hr)
        refine r_callH (lc := CMX g ad bd N np fk fn fo U V code cp en no ou wl wh (lo 1) (hi 1) ++ [OUTc g oa fz]) (B := MDX g mo rr np fk fn fo en no ou th (s_bg U) xx ra t0 t1 s1 ca cq ch bb wt nx cx pt le sc ss ww xc lo hi xi) (As := [.ref (bd 1), .int (xs (ix + 1)), .int (xs (ix + 2)), .ref oa]) (n := 4) (rest := []) C hT hM hXS k644 k645 k0 kcw (by decide +kernel) rfl rfl (Nat.le_of_ble_eq_true rfl) hl.1 ⟨Nat.le_of_ble_eq_true rfl, Nat.le_of_ble_eq_true rfl⟩ ⟨by show 77 + cnt + 1 ≤ 600384; omega, by show 107809 + 6 * cnt + 6 ≤ 7288888; omega⟩ dL_law_523 (fun _ => by simp only [List.map_append, List.map_cons, List.map_nil]) (fun u H locs hT => ?_)
        have hT : Wd g A s ((CMX g ad bd N np fk fn fo U V code cp en no ou wl wh (lo 1) (hi 1) ++ [OUTc g oa (vp_updL fz 0 (s_fc V (xs (ix + 2)).toNatClampNeg : Int32).toInt64)]) ++ MDX g mo rr np fk fn fo en no ou th (s_bg U) xx ra t0 t1 s1 ca cq ch bb wt nx cx pt le sc ss ww xc lo hi xi) H locs := hT
        refine W.widen (k := 77 + (cnt + 1)) (n := 107809 + 6 * (cnt + 1)) (by show 77 + cnt + 1 ≤ 77 + (cnt + 1); omega) (by show 107809 + 6 * cnt + 6 ≤ 107809 + 6 * (cnt + 1); omega) ?_
        refine W.eq (g2 := F0 m 526 ls [.int 0]) rfl ?_
        refine lv_istore (lv' := [(5, .int 0), (0, .ref b), (1, .ref (bd 1)), (2, .ref (mo 0)), (3, .ref oa), (4, .int (nI ix))]) hx hb dL_law_526 hl (by decide) rfl (fun ls hl => ?_)
        have hT := hT.perm List.perm_append_comm
        refine lv_aload_n hx hb dL_law_528 rfl (lv_at hl 3 rfl) ?_
        refine lv_aload_n hx hb dL_law_529 rfl (lv_at hl 1 rfl) ?_
        refine lv_iload hx hb dL_law_530 (lv_at hl 5 rfl) ?_
        refine lv_iconst (v := 1) hx hb dL_law_532 (by decide) ?_
        refine lv_iadd hx hb dL_law_533 ?_
        refine r_sld C hX hbl hbA hT (ix + 1) (nI_add ix 1) (by omega) (by omega) dL_law_534 ?_
        refine lv_aload_n hx hb dL_law_535 rfl (lv_at hl 1 rfl) ?_
        refine lv_iload hx hb dL_law_536 (lv_at hl 5 rfl) ?_
        refine lv_iconst (v := 2) hx hb dL_law_538 (by decide) ?_
        refine lv_iadd hx hb dL_law_539 ?_
        refine r_sld C hX hbl hbA hT (ix + 2) (nI_add ix 2) (by omega) (by omega) dL_law_540 ?_
        have hM := c_X11_slot l g mo rr th np no (s_bg U) en xx ra t0 t1 s1 ca cq ch stA fk fn fo bb wt nx cx pt le sc ss ww xc lo hi ou xi 1 N V (xs (ix + 2)) (by decide) hr1.2.2.2.1 hrr hN
        refine r_callP (lc := MDX g mo rr np fk fn fo en no ou th (s_bg U) xx ra t0 t1 s1 ca cq ch bb wt nx cx pt le sc ss ww xc lo hi xi) (B := CMX g ad bd N np fk fn fo U V code cp en no ou wl wh (lo 1) (hi 1) ++ [OUTc g oa (vp_updL fz 0 (s_fc V (xs (ix + 2)).toNatClampNeg : Int32).toInt64)]) (As := [.int (nI 1), .int (xs (ix + 2))]) (n := 2) (q1 := 0) (rest := []) C hT hM k998 k999 k1000 k15 k1001 (by decide +kernel) rfl rfl rfl (by rw [hs1]; rfl) (Nat.le_of_ble_eq_true rfl) hl.1 ⟨Nat.le_of_ble_eq_true rfl, Nat.le_of_ble_eq_true rfl⟩ ⟨by show 77 + (cnt + 1) + 0 ≤ 600384; omega, by show 107809 + 6 * (cnt + 1) + 0 ≤ 7288888; omega⟩ dL_law_541 (fun _ => mdL_fst.trans mdL_fst.symm) (fun u H locs hT => ?_)
        have hT : Wd g A s (MDX g mo rr np fk fn fo en no ou (if inR (xs (ix + 2)) N = true then 0 else 1) (s_bg U) xx ra t0 t1 s1 ca cq ch bb wt nx cx pt le sc ss ww xc lo hi xi ++ (CMX g ad bd N np fk fn fo U V code cp en no ou wl wh (lo 1) (hi 1) ++ [OUTc g oa (vp_updL fz 0 (s_fc V (xs (ix + 2)).toNatClampNeg : Int32).toInt64)])) H locs := hT
        refine W.widen (k := 77 + (cnt + 1)) (n := 107809 + 6 * (cnt + 1)) (Nat.le_refl _) (Nat.le_refl _) ?_
        refine W.eq (g2 := F0 m 544 ls [.int (if inR (xs (ix + 2)) N = true then s_fc V (xs (ix + 2)).toNatClampNeg else 0)]) rfl ?_
        refine lv_istore (lv' := [(6, .int (if inR (xs (ix + 2)) N = true then s_fc V (xs (ix + 2)).toNatClampNeg else 0)), (5, .int 0), (0, .ref b), (1, .ref (bd 1)), (2, .ref (mo 0)), (3, .ref oa), (4, .int (nI ix))]) hx hb dL_law_544 hl (by decide) rfl (fun ls hl => ?_)
        refine lv_aload_n hx hb dL_law_546 rfl (lv_at hl 4 rfl) ?_
        have hM := c_X11_thrown l g mo rr (if inR (xs (ix + 2)) N = true then 0 else 1) np no (s_bg U) en xx ra t0 t1 s1 ca cq ch stA fk fn fo bb wt nx cx pt le sc ss ww xc lo hi ou xi 
        refine r_callP (lc := MDX g mo rr np fk fn fo en no ou (if inR (xs (ix + 2)) N = true then 0 else 1) (s_bg U) xx ra t0 t1 s1 ca cq ch bb wt nx cx pt le sc ss ww xc lo hi xi) (B := CMX g ad bd N np fk fn fo U V code cp en no ou wl wh (lo 1) (hi 1) ++ [OUTc g oa (vp_updL fz 0 (s_fc V (xs (ix + 2)).toNatClampNeg : Int32).toInt64)]) (As := []) (n := 0) (q1 := 0) (rest := []) C hT hM k875 k876 k877 k15 k878 (by decide +kernel) rfl rfl rfl rfl (Nat.le_of_ble_eq_true rfl) hl.1 ⟨Nat.le_of_ble_eq_true rfl, Nat.le_of_ble_eq_true rfl⟩ ⟨by show 77 + (cnt + 1) + 0 ≤ 600384; omega, by show 107809 + 6 * (cnt + 1) + 0 ≤ 7288888; omega⟩ dL_law_547 (fun _ => mdL_fst.trans mdL_fst.symm) (fun u H locs hT => ?_)
        have hT : Wd g A s (MDX g mo rr np fk fn fo en no ou (if inR (xs (ix + 2)) N = true then 0 else 1) (s_bg U) xx ra t0 t1 s1 ca cq ch bb wt nx cx pt le sc ss ww xc lo hi xi ++ (CMX g ad bd N np fk fn fo U V code cp en no ou wl wh (lo 1) (hi 1) ++ [OUTc g oa (vp_updL fz 0 (s_fc V (xs (ix + 2)).toNatClampNeg : Int32).toInt64)])) H locs := hT
        refine W.widen (k := 77 + (cnt + 1)) (n := 107809 + 6 * (cnt + 1)) (Nat.le_refl _) (Nat.le_refl _) ?_
        refine W.eq (g2 := F0 m 550 ls [.int (if inR (xs (ix + 2)) N = true then 0 else 1)]) rfl ?_
        refine lv_iload hx hb dL_law_550 (lv_at hl 1 rfl) ?_
        refine lv_icmp_eq (tgt := 557) hx hb dL_law_552 (by decide) (fun h => ?_) (fun h => ?_)
        case refine_2 => exact absurd (by rw [if_pos hr]) h
        refine lv_iload hx hb dL_law_557 (lv_at hl 1 rfl) ?_
        refine lv_if_ne (tgt := 574) hx hb dL_law_559 (by decide) (fun hz => ?_) (fun hz => ?_)
        case refine_1 => exact absurd rfl hz
        have hT := hT.perm (pm3 _ _ _)
        refine lv_aload_n hx hb dL_law_562 rfl (lv_at hl 5 rfl) ?_
        refine lv_iconst (v := 0) hx hb dL_law_563 (by decide) ?_
        refine r_lald C hT (q0 := 0) rfl 0 rfl (by decide) (by decide) dL_law_564 ?_
        refine lv_iload hx hb dL_law_565 (lv_at hl 0 rfl) ?_
        refine lv_i2l hx hb dL_law_567 rfl ?_
        refine W.lcmp hx hb dL_law_568 ?_
        refine lv_if_eq (tgt := 574) hx hb dL_law_569 (by decide) (fun hq => ?_) (fun hq => ?_)
        case refine_2 => exact absurd ((lg_cmp_eq _ _).mpr (by rw [if_pos hr]; exact pk_uLs)) hq
        have hT := hT.perm (pm4 _ _ _)
        refine lv_goto (tgt := 751) hx hb dL_law_574 (by decide) ?_
        exact kk np fk fn fo U V code cp en no ou wl wh (lo 1) (hi 1) (if inR (xs (ix + 2)) N = true then 0 else 1) (s_bg U) xx ra t0 t1 s1 ca cq ch bb wt nx cx pt le sc ss ww xc lo hi xi (vp_updL fz 0 (s_fc V (xs (ix + 2)).toNatClampNeg : Int32).toInt64) H locs ls (I_mono hI) hT (lv_sub hl [2, 3, 4, 5, 6] rfl)
      · skip
        have hr : inR (xs (ix + 2)) N = false := by cases hq : inR (xs (ix + 2)) N with | true => exact absurd hq hr | false => rfl
        refine lv_aload_n hx hb dL_law_509 rfl (lv_at hl 1 rfl) ?_
        refine lv_aload_n hx hb dL_law_510 rfl (lv_at hl 0 rfl) ?_
        refine lv_iload hx hb dL_law_511 (lv_at hl 4 rfl) ?_
        refine lv_iconst (v := 1) hx hb dL_law_513 (by decide) ?_
        refine lv_iadd hx hb dL_law_514 ?_
        refine r_sld C hX hbl hbA hT (ix + 1) (nI_add ix 1) (by omega) (by omega) dL_law_515 ?_
        refine lv_aload_n hx hb dL_law_516 rfl (lv_at hl 0 rfl) ?_
        refine lv_iload hx hb dL_law_517 (lv_at hl 4 rfl) ?_
        refine lv_iconst (v := 2) hx hb dL_law_519 (by decide) ?_
        refine lv_iadd hx hb dL_law_520 ?_
        refine r_sld C hX hbl hbA hT (ix + 2) (nI_add ix 2) (by omega) (by omega) dL_law_521 ?_
        refine lv_aload_n hx hb dL_law_522 rfl (lv_at hl 3 rfl) ?_
        have hT := hT.perm (pm1 _ _ _)
        have hM := c_L_slot_x (q1 := 52) (oa := oa) (f := fz) (Nat.le_of_ble_eq_true rfl) (Nat.le_of_ble_eq_true rfl) rfl rfl rfl (c_X10_slot_x1 l hl9 g ad bd np fk fn fo stA N U V code cp en no ou wl wh (lo 1) (hi 1) (xs (ix + 1)) (xs (ix + 2)) hs1 hr)
        refine r_callH (lc := CMX g ad bd N np fk fn fo U V code cp en no ou wl wh (lo 1) (hi 1) ++ [OUTc g oa fz]) (B := MDX g mo rr np fk fn fo en no ou th (s_bg U) xx ra t0 t1 s1 ca cq ch bb wt nx cx pt le sc ss ww xc lo hi xi) (As := [.ref (bd 1), .int (xs (ix + 1)), .int (xs (ix + 2)), .ref oa]) (n := 4) (rest := []) C hT hM hXS k644 k645 k0 kcw (by decide +kernel) rfl rfl (Nat.le_of_ble_eq_true rfl) hl.1 ⟨Nat.le_of_ble_eq_true rfl, Nat.le_of_ble_eq_true rfl⟩ ⟨by show 77 + cnt + 1 ≤ 600384; omega, by show 107809 + 6 * cnt + 6 ≤ 7288888; omega⟩ dL_law_523 (fun _ => by simp only [List.map_append, List.map_cons, List.map_nil]) (fun u H locs hT => ?_)
        have hT : Wd g A s ((CMX g ad bd N np fk fn fo U V code cp en no ou wl wh (lo 1) (hi 1) ++ [OUTc g oa fz]) ++ MDX g mo rr np fk fn fo en no ou th (s_bg U) xx ra t0 t1 s1 ca cq ch bb wt nx cx pt le sc ss ww xc lo hi xi) H locs := hT
        refine W.widen (k := 77 + (cnt + 1)) (n := 107809 + 6 * (cnt + 1)) (by show 77 + cnt + 1 ≤ 77 + (cnt + 1); omega) (by show 107809 + 6 * cnt + 6 ≤ 107809 + 6 * (cnt + 1); omega) ?_
        refine W.eq (g2 := F0 m 526 ls [.int 1]) rfl ?_
        refine lv_istore (lv' := [(5, .int 1), (0, .ref b), (1, .ref (bd 1)), (2, .ref (mo 0)), (3, .ref oa), (4, .int (nI ix))]) hx hb dL_law_526 hl (by decide) rfl (fun ls hl => ?_)
        have hT := hT.perm List.perm_append_comm
        refine lv_aload_n hx hb dL_law_528 rfl (lv_at hl 3 rfl) ?_
        refine lv_aload_n hx hb dL_law_529 rfl (lv_at hl 1 rfl) ?_
        refine lv_iload hx hb dL_law_530 (lv_at hl 5 rfl) ?_
        refine lv_iconst (v := 1) hx hb dL_law_532 (by decide) ?_
        refine lv_iadd hx hb dL_law_533 ?_
        refine r_sld C hX hbl hbA hT (ix + 1) (nI_add ix 1) (by omega) (by omega) dL_law_534 ?_
        refine lv_aload_n hx hb dL_law_535 rfl (lv_at hl 1 rfl) ?_
        refine lv_iload hx hb dL_law_536 (lv_at hl 5 rfl) ?_
        refine lv_iconst (v := 2) hx hb dL_law_538 (by decide) ?_
        refine lv_iadd hx hb dL_law_539 ?_
        refine r_sld C hX hbl hbA hT (ix + 2) (nI_add ix 2) (by omega) (by omega) dL_law_540 ?_
        have hM := c_X11_slot l g mo rr th np no (s_bg U) en xx ra t0 t1 s1 ca cq ch stA fk fn fo bb wt nx cx pt le sc ss ww xc lo hi ou xi 1 N V (xs (ix + 2)) (by decide) hr1.2.2.2.1 hrr hN
        refine r_callP (lc := MDX g mo rr np fk fn fo en no ou th (s_bg U) xx ra t0 t1 s1 ca cq ch bb wt nx cx pt le sc ss ww xc lo hi xi) (B := CMX g ad bd N np fk fn fo U V code cp en no ou wl wh (lo 1) (hi 1) ++ [OUTc g oa fz]) (As := [.int (nI 1), .int (xs (ix + 2))]) (n := 2) (q1 := 0) (rest := []) C hT hM k998 k999 k1000 k15 k1001 (by decide +kernel) rfl rfl rfl (by rw [hs1]; rfl) (Nat.le_of_ble_eq_true rfl) hl.1 ⟨Nat.le_of_ble_eq_true rfl, Nat.le_of_ble_eq_true rfl⟩ ⟨by show 77 + (cnt + 1) + 0 ≤ 600384; omega, by show 107809 + 6 * (cnt + 1) + 0 ≤ 7288888; omega⟩ dL_law_541 (fun _ => mdL_fst.trans mdL_fst.symm) (fun u H locs hT => ?_)
        have hT : Wd g A s (MDX g mo rr np fk fn fo en no ou (if inR (xs (ix + 2)) N = true then 0 else 1) (s_bg U) xx ra t0 t1 s1 ca cq ch bb wt nx cx pt le sc ss ww xc lo hi xi ++ (CMX g ad bd N np fk fn fo U V code cp en no ou wl wh (lo 1) (hi 1) ++ [OUTc g oa fz])) H locs := hT
        refine W.widen (k := 77 + (cnt + 1)) (n := 107809 + 6 * (cnt + 1)) (Nat.le_refl _) (Nat.le_refl _) ?_
        refine W.eq (g2 := F0 m 544 ls [.int (if inR (xs (ix + 2)) N = true then s_fc V (xs (ix + 2)).toNatClampNeg else 0)]) rfl ?_
        refine lv_istore (lv' := [(6, .int (if inR (xs (ix + 2)) N = true then s_fc V (xs (ix + 2)).toNatClampNeg else 0)), (5, .int 1), (0, .ref b), (1, .ref (bd 1)), (2, .ref (mo 0)), (3, .ref oa), (4, .int (nI ix))]) hx hb dL_law_544 hl (by decide) rfl (fun ls hl => ?_)
        refine lv_aload_n hx hb dL_law_546 rfl (lv_at hl 4 rfl) ?_
        have hM := c_X11_thrown l g mo rr (if inR (xs (ix + 2)) N = true then 0 else 1) np no (s_bg U) en xx ra t0 t1 s1 ca cq ch stA fk fn fo bb wt nx cx pt le sc ss ww xc lo hi ou xi 
        refine r_callP (lc := MDX g mo rr np fk fn fo en no ou (if inR (xs (ix + 2)) N = true then 0 else 1) (s_bg U) xx ra t0 t1 s1 ca cq ch bb wt nx cx pt le sc ss ww xc lo hi xi) (B := CMX g ad bd N np fk fn fo U V code cp en no ou wl wh (lo 1) (hi 1) ++ [OUTc g oa fz]) (As := []) (n := 0) (q1 := 0) (rest := []) C hT hM k875 k876 k877 k15 k878 (by decide +kernel) rfl rfl rfl rfl (Nat.le_of_ble_eq_true rfl) hl.1 ⟨Nat.le_of_ble_eq_true rfl, Nat.le_of_ble_eq_true rfl⟩ ⟨by show 77 + (cnt + 1) + 0 ≤ 600384; omega, by show 107809 + 6 * (cnt + 1) + 0 ≤ 7288888; omega⟩ dL_law_547 (fun _ => mdL_fst.trans mdL_fst.symm) (fun u H locs hT => ?_)
        have hT : Wd g A s (MDX g mo rr np fk fn fo en no ou (if inR (xs (ix + 2)) N = true then 0 else 1) (s_bg U) xx ra t0 t1 s1 ca cq ch bb wt nx cx pt le sc ss ww xc lo hi xi ++ (CMX g ad bd N np fk fn fo U V code cp en no ou wl wh (lo 1) (hi 1) ++ [OUTc g oa fz])) H locs := hT
        refine W.widen (k := 77 + (cnt + 1)) (n := 107809 + 6 * (cnt + 1)) (Nat.le_refl _) (Nat.le_refl _) ?_
        refine W.eq (g2 := F0 m 550 ls [.int (if inR (xs (ix + 2)) N = true then 0 else 1)]) rfl ?_
        refine lv_iload hx hb dL_law_550 (lv_at hl 1 rfl) ?_
        refine lv_icmp_eq (tgt := 557) hx hb dL_law_552 (by decide) (fun h => ?_) (fun h => ?_)
        case refine_2 => exact absurd (by rw [hr]; rfl) h
        refine lv_iload hx hb dL_law_557 (lv_at hl 1 rfl) ?_
        refine lv_if_ne (tgt := 574) hx hb dL_law_559 (by decide) (fun hz => ?_) (fun hz => ?_)
        case refine_2 => exact absurd hz (by decide)
        have hT := hT.perm (List.perm_append_comm_assoc _ _ _)
        refine lv_goto (tgt := 751) hx hb dL_law_574 (by decide) ?_
        exact kk np fk fn fo U V code cp en no ou wl wh (lo 1) (hi 1) (if inR (xs (ix + 2)) N = true then 0 else 1) (s_bg U) xx ra t0 t1 s1 ca cq ch bb wt nx cx pt le sc ss ww xc lo hi xi fz H locs ls (I_mono hI) hT (lv_sub hl [2, 3, 4, 5, 6] rfl)
    · skip
      refine lv_aload_n hx hb dL_law_509 rfl (lv_at hl 1 rfl) ?_
      refine lv_aload_n hx hb dL_law_510 rfl (lv_at hl 0 rfl) ?_
      refine lv_iload hx hb dL_law_511 (lv_at hl 4 rfl) ?_
      refine lv_iconst (v := 1) hx hb dL_law_513 (by decide) ?_
      refine lv_iadd hx hb dL_law_514 ?_
      refine r_sld C hX hbl hbA hT (ix + 1) (nI_add ix 1) (by omega) (by omega) dL_law_515 ?_
      refine lv_aload_n hx hb dL_law_516 rfl (lv_at hl 0 rfl) ?_
      refine lv_iload hx hb dL_law_517 (lv_at hl 4 rfl) ?_
      refine lv_iconst (v := 2) hx hb dL_law_519 (by decide) ?_
      refine lv_iadd hx hb dL_law_520 ?_
      refine r_sld C hX hbl hbA hT (ix + 2) (nI_add ix 2) (by omega) (by omega) dL_law_521 ?_
      refine lv_aload_n hx hb dL_law_522 rfl (lv_at hl 3 rfl) ?_
      have hT := hT.perm (pm1 _ _ _)
      have hM := c_L_slot_ok (q1 := 52) (oa := oa) (f := fz) (Nat.le_of_ble_eq_true rfl) (Nat.le_of_ble_eq_true rfl) rfl rfl rfl (c_X10_slot_n l g ad bd np fk fn fo stA N U V code cp en no ou wl wh (lo 1) (hi 1) (xs (ix + 1)) (xs (ix + 2)) hs0 hs1)
      refine r_callH (lc := CMX g ad bd N np fk fn fo U V code cp en no ou wl wh (lo 1) (hi 1) ++ [OUTc g oa fz]) (B := MDX g mo rr np fk fn fo en no ou th (s_bg U) xx ra t0 t1 s1 ca cq ch bb wt nx cx pt le sc ss ww xc lo hi xi) (As := [.ref (bd 1), .int (xs (ix + 1)), .int (xs (ix + 2)), .ref oa]) (n := 4) (rest := []) C hT hM hXS k644 k645 k0 kcw (by decide +kernel) rfl rfl (Nat.le_of_ble_eq_true rfl) hl.1 ⟨Nat.le_of_ble_eq_true rfl, Nat.le_of_ble_eq_true rfl⟩ ⟨by show 77 + cnt + 1 ≤ 600384; omega, by show 107809 + 6 * cnt + 6 ≤ 7288888; omega⟩ dL_law_523 (fun _ => by simp only [List.map_append, List.map_cons, List.map_nil]) (fun u H locs hT => ?_)
      have hT : Wd g A s ((CMX g ad bd N np fk fn fo U V code cp en no ou wl wh (lo 1) (hi 1) ++ [OUTc g oa (vp_updL fz 0 ((-1) : Int32).toInt64)]) ++ MDX g mo rr np fk fn fo en no ou th (s_bg U) xx ra t0 t1 s1 ca cq ch bb wt nx cx pt le sc ss ww xc lo hi xi) H locs := hT
      refine W.widen (k := 77 + (cnt + 1)) (n := 107809 + 6 * (cnt + 1)) (by show 77 + cnt + 1 ≤ 77 + (cnt + 1); omega) (by show 107809 + 6 * cnt + 6 ≤ 107809 + 6 * (cnt + 1); omega) ?_
      refine W.eq (g2 := F0 m 526 ls [.int 0]) rfl ?_
      refine lv_istore (lv' := [(5, .int 0), (0, .ref b), (1, .ref (bd 1)), (2, .ref (mo 0)), (3, .ref oa), (4, .int (nI ix))]) hx hb dL_law_526 hl (by decide) rfl (fun ls hl => ?_)
      have hT := hT.perm List.perm_append_comm
      refine lv_aload_n hx hb dL_law_528 rfl (lv_at hl 3 rfl) ?_
      refine lv_aload_n hx hb dL_law_529 rfl (lv_at hl 1 rfl) ?_
      refine lv_iload hx hb dL_law_530 (lv_at hl 5 rfl) ?_
      refine lv_iconst (v := 1) hx hb dL_law_532 (by decide) ?_
      refine lv_iadd hx hb dL_law_533 ?_
      refine r_sld C hX hbl hbA hT (ix + 1) (nI_add ix 1) (by omega) (by omega) dL_law_534 ?_
      refine lv_aload_n hx hb dL_law_535 rfl (lv_at hl 1 rfl) ?_
      refine lv_iload hx hb dL_law_536 (lv_at hl 5 rfl) ?_
      refine lv_iconst (v := 2) hx hb dL_law_538 (by decide) ?_
      refine lv_iadd hx hb dL_law_539 ?_
      refine r_sld C hX hbl hbA hT (ix + 2) (nI_add ix 2) (by omega) (by omega) dL_law_540 ?_
      have hM := c_X11_slot_n l g mo rr th np no (s_bg U) en xx ra t0 t1 s1 ca cq ch stA fk fn fo bb wt nx cx pt le sc ss ww xc lo hi ou xi (xs (ix + 1)) (xs (ix + 2)) hs0 hs1
      refine r_callP (lc := MDX g mo rr np fk fn fo en no ou th (s_bg U) xx ra t0 t1 s1 ca cq ch bb wt nx cx pt le sc ss ww xc lo hi xi) (B := CMX g ad bd N np fk fn fo U V code cp en no ou wl wh (lo 1) (hi 1) ++ [OUTc g oa (vp_updL fz 0 ((-1) : Int32).toInt64)]) (As := [.int (xs (ix + 1)), .int (xs (ix + 2))]) (n := 2) (q1 := 0) (rest := []) C hT hM k998 k999 k1000 k15 k1001 (by decide +kernel) rfl rfl rfl rfl (Nat.le_of_ble_eq_true rfl) hl.1 ⟨Nat.le_of_ble_eq_true rfl, Nat.le_of_ble_eq_true rfl⟩ ⟨by show 77 + (cnt + 1) + 0 ≤ 600384; omega, by show 107809 + 6 * (cnt + 1) + 0 ≤ 7288888; omega⟩ dL_law_541 (fun _ => mdL_fst.trans mdL_fst.symm) (fun u H locs hT => ?_)
      have hT : Wd g A s (MDX g mo rr np fk fn fo en no ou 0 (s_bg U) xx ra t0 t1 s1 ca cq ch bb wt nx cx pt le sc ss ww xc lo hi xi ++ (CMX g ad bd N np fk fn fo U V code cp en no ou wl wh (lo 1) (hi 1) ++ [OUTc g oa (vp_updL fz 0 ((-1) : Int32).toInt64)])) H locs := hT
      refine W.widen (k := 77 + (cnt + 1)) (n := 107809 + 6 * (cnt + 1)) (Nat.le_refl _) (Nat.le_refl _) ?_
      refine W.eq (g2 := F0 m 544 ls [.int (-1)]) rfl ?_
      refine lv_istore (lv' := [(6, .int (-1)), (5, .int 0), (0, .ref b), (1, .ref (bd 1)), (2, .ref (mo 0)), (3, .ref oa), (4, .int (nI ix))]) hx hb dL_law_544 hl (by decide) rfl (fun ls hl => ?_)
      refine lv_aload_n hx hb dL_law_546 rfl (lv_at hl 4 rfl) ?_
      have hM := c_X11_thrown l g mo rr 0 np no (s_bg U) en xx ra t0 t1 s1 ca cq ch stA fk fn fo bb wt nx cx pt le sc ss ww xc lo hi ou xi 
      refine r_callP (lc := MDX g mo rr np fk fn fo en no ou 0 (s_bg U) xx ra t0 t1 s1 ca cq ch bb wt nx cx pt le sc ss ww xc lo hi xi) (B := CMX g ad bd N np fk fn fo U V code cp en no ou wl wh (lo 1) (hi 1) ++ [OUTc g oa (vp_updL fz 0 ((-1) : Int32).toInt64)]) (As := []) (n := 0) (q1 := 0) (rest := []) C hT hM k875 k876 k877 k15 k878 (by decide +kernel) rfl rfl rfl rfl (Nat.le_of_ble_eq_true rfl) hl.1 ⟨Nat.le_of_ble_eq_true rfl, Nat.le_of_ble_eq_true rfl⟩ ⟨by show 77 + (cnt + 1) + 0 ≤ 600384; omega, by show 107809 + 6 * (cnt + 1) + 0 ≤ 7288888; omega⟩ dL_law_547 (fun _ => mdL_fst.trans mdL_fst.symm) (fun u H locs hT => ?_)
      have hT : Wd g A s (MDX g mo rr np fk fn fo en no ou 0 (s_bg U) xx ra t0 t1 s1 ca cq ch bb wt nx cx pt le sc ss ww xc lo hi xi ++ (CMX g ad bd N np fk fn fo U V code cp en no ou wl wh (lo 1) (hi 1) ++ [OUTc g oa (vp_updL fz 0 ((-1) : Int32).toInt64)])) H locs := hT
      refine W.widen (k := 77 + (cnt + 1)) (n := 107809 + 6 * (cnt + 1)) (Nat.le_refl _) (Nat.le_refl _) ?_
      refine W.eq (g2 := F0 m 550 ls [.int 0]) rfl ?_
      refine lv_iload hx hb dL_law_550 (lv_at hl 1 rfl) ?_
      refine lv_icmp_eq (tgt := 557) hx hb dL_law_552 (by decide) (fun h => ?_) (fun h => ?_)
      case refine_2 => exact absurd (rfl) h
      refine lv_iload hx hb dL_law_557 (lv_at hl 1 rfl) ?_
      refine lv_if_ne (tgt := 574) hx hb dL_law_559 (by decide) (fun hz => ?_) (fun hz => ?_)
      case refine_1 => exact absurd rfl hz
      have hT := hT.perm (pm3 _ _ _)
      refine lv_aload_n hx hb dL_law_562 rfl (lv_at hl 5 rfl) ?_
      refine lv_iconst (v := 0) hx hb dL_law_563 (by decide) ?_
      refine r_lald C hT (q0 := 0) rfl 0 rfl (by decide) (by decide) dL_law_564 ?_
      refine lv_iload hx hb dL_law_565 (lv_at hl 0 rfl) ?_
      refine lv_i2l hx hb dL_law_567 rfl ?_
      refine W.lcmp hx hb dL_law_568 ?_
      refine lv_if_eq (tgt := 574) hx hb dL_law_569 (by decide) (fun hq => ?_) (fun hq => ?_)
      case refine_2 => exact absurd ((lg_cmp_eq _ _).mpr (pk_uLs)) hq
      have hT := hT.perm (pm4 _ _ _)
      refine lv_goto (tgt := 751) hx hb dL_law_574 (by decide) ?_
      exact kk np fk fn fo U V code cp en no ou wl wh (lo 1) (hi 1) 0 (s_bg U) xx ra t0 t1 s1 ca cq ch bb wt nx cx pt le sc ss ww xc lo hi xi (vp_updL fz 0 ((-1) : Int32).toInt64) H locs ls (I_mono hI) hT (lv_sub hl [2, 3, 4, 5, 6] rfl)
