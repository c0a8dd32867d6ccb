set_option maxHeartbeats 1000000 in
set_option maxRecDepth 100000 in
theorem law_weight {p : Program} {l : Launch} {e : Env} {s : State} {m : MethodId} {below : List Frame} {meth : Method} {c : Code} {Q : State → Prop} {g : GT} {A : Nat → Prop} {ad bd mo : Nat → Nat} {oa b L N rr ix cnt : Nat} {xs : Nat → Int32} (hl9 : l.stackTraces = false) (X : LC p s m meth c g A b L xs) (hL : L ≤ 321) (hi5 : ix + 5 ≤ L) (hc : cnt < 64) (kk : LK p l e s m b below meth c Q g A ad bd mo oa N rr ix (cnt + 1) 751) : LK p l e s m b below meth c Q g A ad bd mo oa N rr ix cnt 448 := by
  obtain ⟨C, hX, hbl, hbA, hXS⟩ := X
  have hx := C.x
  have hb := C.b
  intro np fk fn fo U V code cp en no ou wl wh rl rh th bt xx ra t0 t1 s1 ca cq ch bb wt nx cx pt le sc ss ww xc lo hi xi fz H locs ls hI hT hl
  obtain ⟨⟨hG, h6⟩, ⟨hr0, hr1⟩, ⟨hxU, hxV⟩, ⟨hf1, hf2⟩, ⟨n1, n2, n3, n4⟩, ⟨o1, o2, o3, o4, o5, o6⟩, hE1, hE0, hE2⟩ := id hI
  subst o4
  subst o5
  subst o6
  have hnp := hG.1
  have hN := hG.2.1
  have hrr := hG.2.2.1
  have hN4 : N ≤ 4096 := by rw [hN]; exact Nat.pow_le_pow_right (i := rr) (j := 12) (by decide) hrr
  have hbgU := hxU.1.2.2.1
  have hbgV := hxV.1.2.2.1
  by_cases hs0 : xs (ix + 1) = 0
  · skip
    refine lv_aload_n hx hb dL_law_448 rfl (lv_at hl 1 rfl) ?_
    refine lv_aload_n hx hb dL_law_449 rfl (lv_at hl 0 rfl) ?_
    refine lv_iload hx hb dL_law_450 (lv_at hl 4 rfl) ?_
    refine lv_iconst (v := 1) hx hb dL_law_452 (by decide) ?_
    refine lv_iadd hx hb dL_law_453 ?_
    refine r_sld C hX hbl hbA hT (ix + 1) (nI_add ix 1) (by omega) (by omega) dL_law_454 ?_
    refine lv_aload_n hx hb dL_law_455 rfl (lv_at hl 0 rfl) ?_
    refine lv_iload hx hb dL_law_456 (lv_at hl 4 rfl) ?_
    refine lv_iconst (v := 2) hx hb dL_law_458 (by decide) ?_
    refine lv_iadd hx hb dL_law_459 ?_
    refine r_sld C hX hbl hbA hT (ix + 2) (nI_add ix 2) (by omega) (by omega) dL_law_460 ?_
    refine lv_aload_n hx hb dL_law_461 rfl (lv_at hl 0 rfl) ?_
    refine lv_iload hx hb dL_law_462 (lv_at hl 4 rfl) ?_
    refine lv_iconst (v := 3) hx hb dL_law_464 (by decide) ?_
    refine lv_iadd hx hb dL_law_465 ?_
    refine r_sld C hX hbl hbA hT (ix + 3) (nI_add ix 3) (by omega) (by omega) dL_law_466 ?_
    refine lv_aload_n hx hb dL_law_467 rfl (lv_at hl 0 rfl) ?_
    refine lv_iload hx hb dL_law_468 (lv_at hl 4 rfl) ?_
    refine lv_iconst (v := 4) hx hb dL_law_470 (by decide) ?_
    refine lv_iadd hx hb dL_law_471 ?_
    refine r_sld C hX hbl hbA hT (ix + 4) (nI_add ix 4) (by omega) (by omega) dL_law_472 ?_
    have hM := c_X10_weight_0 l g ad bd np fk fn fo stA N U V code cp en no ou wl wh (lo 1) (hi 1) (xs (ix + 1)) (xs (ix + 2)) (xs (ix + 3)) (xs (ix + 4)) hnp hs0
    refine r_callP (lc := CMX g ad bd N np fk fn fo U V code cp en no ou wl wh (lo 1) (hi 1)) (B := MDX g mo rr np fk fn fo en no ou th (s_bg U) xx ra t0 t1 s1 ca cq ch bb wt nx cx pt le sc ss ww xc lo hi xi ++ [OUTc g oa fz]) (As := [.int (xs (ix + 1)), .int (xs (ix + 2)), .int (xs (ix + 3)), .int (xs (ix + 4))]) (n := 4) (q1 := 52) (rest := []) C hT hM k581 k582 k583 k1 k584 (by decide +kernel) rfl rfl rfl rfl (Nat.le_of_ble_eq_true rfl) hl.1 ⟨Nat.le_of_ble_eq_true rfl, Nat.le_of_ble_eq_true rfl⟩ ⟨by show 77 + cnt + 0 ≤ 600384; omega, by show 107809 + 6 * cnt + 0 ≤ 7288888; omega⟩ dL_law_473 (fun _ => cmL_fst.trans cmL_fst.symm) (fun u H locs hT => ?_)
    have hT : Wd g A s (CMX g ad bd N np fk fn fo U V code cp en no ou wl wh (lo 1) (hi 1) ++ (MDX g mo rr np fk fn fo en no ou th (s_bg U) xx ra t0 t1 s1 ca cq ch bb wt nx cx pt le sc ss ww xc lo hi xi ++ [OUTc g oa fz])) H locs := hT
    refine W.widen (k := 77 + cnt) (n := 107809 + 6 * cnt) (Nat.le_refl _) (Nat.le_refl _) ?_
    refine W.eq (g2 := F0 m 476 ls [.int (weI (s_f0 U) (s_f1 U) np (xs (ix + 2)) (xs (ix + 3)) (xs (ix + 4)))]) rfl ?_
    have hT := hT.perm (List.perm_append_comm_assoc _ _ _)
    refine lv_aload_n hx hb dL_law_476 rfl (lv_at hl 2 rfl) ?_
    refine lv_aload_n hx hb dL_law_477 rfl (lv_at hl 0 rfl) ?_
    refine lv_iload hx hb dL_law_478 (lv_at hl 4 rfl) ?_
    refine lv_iconst (v := 1) hx hb dL_law_480 (by decide) ?_
    refine lv_iadd hx hb dL_law_481 ?_
    refine r_sld C hX hbl hbA hT (ix + 1) (nI_add ix 1) (by omega) (by omega) dL_law_482 ?_
    refine lv_aload_n hx hb dL_law_483 rfl (lv_at hl 0 rfl) ?_
    refine lv_iload hx hb dL_law_484 (lv_at hl 4 rfl) ?_
    refine lv_iconst (v := 2) hx hb dL_law_486 (by decide) ?_
    refine lv_iadd hx hb dL_law_487 ?_
    refine r_sld C hX hbl hbA hT (ix + 2) (nI_add ix 2) (by omega) (by omega) dL_law_488 ?_
    refine lv_aload_n hx hb dL_law_489 rfl (lv_at hl 0 rfl) ?_
    refine lv_iload hx hb dL_law_490 (lv_at hl 4 rfl) ?_
    refine lv_iconst (v := 3) hx hb dL_law_492 (by decide) ?_
    refine lv_iadd hx hb dL_law_493 ?_
    refine r_sld C hX hbl hbA hT (ix + 3) (nI_add ix 3) (by omega) (by omega) dL_law_494 ?_
    refine lv_aload_n hx hb dL_law_495 rfl (lv_at hl 0 rfl) ?_
    refine lv_iload hx hb dL_law_496 (lv_at hl 4 rfl) ?_
    refine lv_iconst (v := 4) hx hb dL_law_498 (by decide) ?_
    refine lv_iadd hx hb dL_law_499 ?_
    refine r_sld C hX hbl hbA hT (ix + 4) (nI_add ix 4) (by omega) (by omega) dL_law_500 ?_
    have hM := c_X11_weight l g mo rr th np no (s_bg U) en xx ra t0 t1 s1 ca cq ch stA fk fn fo bb wt nx cx pt le sc ss ww xc lo hi ou xi 0 N U (xs (ix + 2)) (xs (ix + 3)) (xs (ix + 4)) (by decide) hnp hr0.2.2.2.2.1
    refine r_callP (lc := MDX g mo rr np fk fn fo en no ou th (s_bg U) xx ra t0 t1 s1 ca cq ch bb wt nx cx pt le sc ss ww xc lo hi xi) (B := CMX g ad bd N np fk fn fo U V code cp en no ou wl wh (lo 1) (hi 1) ++ [OUTc g oa fz]) (As := [.int (nI 0), .int (xs (ix + 2)), .int (xs (ix + 3)), .int (xs (ix + 4))]) (n := 4) (q1 := 0) (rest := [.int (weI (s_f0 U) (s_f1 U) np (xs (ix + 2)) (xs (ix + 3)) (xs (ix + 4)))]) C hT hM k993 k994 k995 k15 k996 (by decide +kernel) rfl rfl rfl (by rw [hs0]; rfl) (Nat.le_of_ble_eq_true rfl) hl.1 ⟨Nat.le_of_ble_eq_true rfl, Nat.le_of_ble_eq_true rfl⟩ ⟨by show 77 + cnt + 0 ≤ 600384; omega, by show 107809 + 6 * cnt + 0 ≤ 7288888; omega⟩ dL_law_501 (fun _ => mdL_fst.trans mdL_fst.symm) (fun u H locs hT => ?_)
    have hT : Wd g A s (MDX g mo rr np fk fn fo en no ou 0 (s_bg U) xx ra t0 t1 s1 ca cq ch bb wt nx cx pt le sc ss ww xc lo hi xi ++ (CMX g ad bd N np fk fn fo U V code cp en no ou wl wh (lo 1) (hi 1) ++ [OUTc g oa fz])) H locs := hT
    refine W.widen (k := 77 + cnt) (n := 107809 + 6 * cnt) (Nat.le_refl _) (Nat.le_refl _) ?_
    refine W.eq (g2 := F0 m 504 ls [.int (weI (s_f0 U) (s_f1 U) np (xs (ix + 2)) (xs (ix + 3)) (xs (ix + 4))), .int (weI (s_f0 U) (s_f1 U) np (xs (ix + 2)) (xs (ix + 3)) (xs (ix + 4)))]) rfl ?_
    have hT := hT.perm (List.perm_append_comm_assoc _ _ _)
    refine lv_icmp_eq (tgt := 751) hx hb dL_law_504 (by decide) (fun h => ?_) (fun h => ?_)
    · refine W.widen (k := 77 + (cnt + 1)) (n := 107809 + 6 * (cnt + 1)) (by omega) (by omega) ?_
      exact kk np fk fn fo U V code cp en no ou wl wh (lo 1) (hi 1) 0 (s_bg U) xx ra t0 t1 s1 ca cq ch bb wt nx cx pt le sc ss ww xc lo hi xi fz H locs ls (I_mono hI) hT hl
    · exact absurd (rfl) h
  · skip
    by_cases hs1 : xs (ix + 1) = 1
    · skip
      refine lv_aload_n hx hb dL_law_448 rfl (lv_at hl 1 rfl) ?_
      refine lv_aload_n hx hb dL_law_449 rfl (lv_at hl 0 rfl) ?_
      refine lv_iload hx hb dL_law_450 (lv_at hl 4 rfl) ?_
      refine lv_iconst (v := 1) hx hb dL_law_452 (by decide) ?_
      refine lv_iadd hx hb dL_law_453 ?_
      refine r_sld C hX hbl hbA hT (ix + 1) (nI_add ix 1) (by omega) (by omega) dL_law_454 ?_
      refine lv_aload_n hx hb dL_law_455 rfl (lv_at hl 0 rfl) ?_
      refine lv_iload hx hb dL_law_456 (lv_at hl 4 rfl) ?_
      refine lv_iconst (v := 2) hx hb dL_law_458 (by decide) ?_
      refine lv_iadd hx hb dL_law_459 ?_
      refine r_sld C hX hbl hbA hT (ix + 2) (nI_add ix 2) (by omega) (by omega) dL_law_460 ?_
      refine lv_aload_n hx hb dL_law_461 rfl (lv_at hl 0 rfl) ?_
      refine lv_iload hx hb dL_law_462 (lv_at hl 4 rfl) ?_
      refine lv_iconst (v := 3) hx hb dL_law_464 (by decide) ?_
      refine lv_iadd hx hb dL_law_465 ?_
      refine r_sld C hX hbl hbA hT (ix + 3) (nI_add ix 3) (by omega) (by omega) dL_law_466 ?_
      refine lv_aload_n hx hb dL_law_467 rfl (lv_at hl 0 rfl) ?_
      refine lv_iload hx hb dL_law_468 (lv_at hl 4 rfl) ?_
      refine lv_iconst (v := 4) hx hb dL_law_470 (by decide) ?_
      refine lv_iadd hx hb dL_law_471 ?_
      refine r_sld C hX hbl hbA hT (ix + 4) (nI_add ix 4) (by omega) (by omega) dL_law_472 ?_
      have hM := c_X10_weight_1 l g ad bd np fk fn fo stA N U V code cp en no ou wl wh (lo 1) (hi 1) (xs (ix + 1)) (xs (ix + 2)) (xs (ix + 3)) (xs (ix + 4)) hnp hs1
      refine r_callP (lc := CMX g ad bd N np fk fn fo U V code cp en no ou wl wh (lo 1) (hi 1)) (B := MDX g mo rr np fk fn fo en no ou th (s_bg U) xx ra t0 t1 s1 ca cq ch bb wt nx cx pt le sc ss ww xc lo hi xi ++ [OUTc g oa fz]) (As := [.int (xs (ix + 1)), .int (xs (ix + 2)), .int (xs (ix + 3)), .int (xs (ix + 4))]) (n := 4) (q1 := 52) (rest := []) C hT hM k581 k582 k583 k1 k584 (by decide +kernel) rfl rfl rfl rfl (Nat.le_of_ble_eq_true rfl) hl.1 ⟨Nat.le_of_ble_eq_true rfl, Nat.le_of_ble_eq_true rfl⟩ ⟨by show 77 + cnt + 0 ≤ 600384; omega, by show 107809 + 6 * cnt + 0 ≤ 7288888; omega⟩ dL_law_473 (fun _ => cmL_fst.trans cmL_fst.symm) (fun u H locs hT => ?_)
      have hT : Wd g A s (CMX g ad bd N np fk fn fo U V code cp en no ou wl wh (lo 1) (hi 1) ++ (MDX g mo rr np fk fn fo en no ou th (s_bg U) xx ra t0 t1 s1 ca cq ch bb wt nx cx pt le sc ss ww xc lo hi xi ++ [OUTc g oa fz])) H locs := hT
      refine W.widen (k := 77 + cnt) (n := 107809 + 6 * cnt) (Nat.le_refl _) (Nat.le_refl _) ?_
      refine W.eq (g2 := F0 m 476 ls [.int (weI (s_f0 V) (s_f1 V) np (xs (ix + 2)) (xs (ix + 3)) (xs (ix + 4)))]) rfl ?_
      have hT := hT.perm (List.perm_append_comm_assoc _ _ _)
      refine lv_aload_n hx hb dL_law_476 rfl (lv_at hl 2 rfl) ?_
      refine lv_aload_n hx hb dL_law_477 rfl (lv_at hl 0 rfl) ?_
      refine lv_iload hx hb dL_law_478 (lv_at hl 4 rfl) ?_
      refine lv_iconst (v := 1) hx hb dL_law_480 (by decide) ?_
      refine lv_iadd hx hb dL_law_481 ?_
      refine r_sld C hX hbl hbA hT (ix + 1) (nI_add ix 1) (by omega) (by omega) dL_law_482 ?_
      refine lv_aload_n hx hb dL_law_483 rfl (lv_at hl 0 rfl) ?_
      refine lv_iload hx hb dL_law_484 (lv_at hl 4 rfl) ?_
      refine lv_iconst (v := 2) hx hb dL_law_486 (by decide) ?_
      refine lv_iadd hx hb dL_law_487 ?_
      refine r_sld C hX hbl hbA hT (ix + 2) (nI_add ix 2) (by omega) (by omega) dL_law_488 ?_
      refine lv_aload_n hx hb dL_law_489 rfl (lv_at hl 0 rfl) ?_
      refine lv_iload hx hb dL_law_490 (lv_at hl 4 rfl) ?_
      refine lv_iconst (v := 3) hx hb dL_law_492 (by decide) ?_
      refine lv_iadd hx hb dL_law_493 ?_
      refine r_sld C hX hbl hbA hT (ix + 3) (nI_add ix 3) (by omega) (by omega) dL_law_494 ?_
      refine lv_aload_n hx hb dL_law_495 rfl (lv_at hl 0 rfl) ?_
      refine lv_iload hx hb dL_law_496 (lv_at hl 4 rfl) ?_
      refine lv_iconst (v := 4) hx hb dL_law_498 (by decide) ?_
      refine lv_iadd hx hb dL_law_499 ?_
      refine r_sld C hX hbl hbA hT (ix + 4) (nI_add ix 4) (by omega) (by omega) dL_law_500 ?_
      have hM := c_X11_weight l g mo rr th np no (s_bg U) en xx ra t0 t1 s1 ca cq ch stA fk fn fo bb wt nx cx pt le sc ss ww xc lo hi ou xi 1 N V (xs (ix + 2)) (xs (ix + 3)) (xs (ix + 4)) (by decide) hnp hr1.2.2.2.2.1
      refine r_callP (lc := MDX g mo rr np fk fn fo en no ou th (s_bg U) xx ra t0 t1 s1 ca cq ch bb wt nx cx pt le sc ss ww xc lo hi xi) (B := CMX g ad bd N np fk fn fo U V code cp en no ou wl wh (lo 1) (hi 1) ++ [OUTc g oa fz]) (As := [.int (nI 1), .int (xs (ix + 2)), .int (xs (ix + 3)), .int (xs (ix + 4))]) (n := 4) (q1 := 0) (rest := [.int (weI (s_f0 V) (s_f1 V) np (xs (ix + 2)) (xs (ix + 3)) (xs (ix + 4)))]) C hT hM k993 k994 k995 k15 k996 (by decide +kernel) rfl rfl rfl (by rw [hs1]; rfl) (Nat.le_of_ble_eq_true rfl) hl.1 ⟨Nat.le_of_ble_eq_true rfl, Nat.le_of_ble_eq_true rfl⟩ ⟨by show 77 + cnt + 0 ≤ 600384; omega, by show 107809 + 6 * cnt + 0 ≤ 7288888; omega⟩ dL_law_501 (fun _ => mdL_fst.trans mdL_fst.symm) (fun u H locs hT => ?_)
      have hT : Wd g A s (MDX g mo rr np fk fn fo en no ou 0 (s_bg U) xx ra t0 t1 s1 ca cq ch bb wt nx cx pt le sc ss ww xc lo hi xi ++ (CMX g ad bd N np fk fn fo U V code cp en no ou wl wh (lo 1) (hi 1) ++ [OUTc g oa fz])) H locs := hT
      refine W.widen (k := 77 + cnt) (n := 107809 + 6 * cnt) (Nat.le_refl _) (Nat.le_refl _) ?_
      refine W.eq (g2 := F0 m 504 ls [.int (weI (s_f0 V) (s_f1 V) np (xs (ix + 2)) (xs (ix + 3)) (xs (ix + 4))), .int (weI (s_f0 V) (s_f1 V) np (xs (ix + 2)) (xs (ix + 3)) (xs (ix + 4)))]) rfl ?_
      have hT := hT.perm (List.perm_append_comm_assoc _ _ _)
      refine lv_icmp_eq (tgt := 751) hx hb dL_law_504 (by decide) (fun h => ?_) (fun h => ?_)
      · refine W.widen (k := 77 + (cnt + 1)) (n := 107809 + 6 * (cnt + 1)) (by omega) (by omega) ?_
        exact kk np fk fn fo U V code cp en no ou wl wh (lo 1) (hi 1) 0 (s_bg U) xx ra t0 t1 s1 ca cq ch bb wt nx cx pt le sc ss ww xc lo hi xi fz H locs ls (I_mono hI) hT hl
      · exact absurd (rfl) h
    · skip
      refine lv_aload_n hx hb dL_law_448 rfl (lv_at hl 1 rfl) ?_
      refine lv_aload_n hx hb dL_law_449 rfl (lv_at hl 0 rfl) ?_
      refine lv_iload hx hb dL_law_450 (lv_at hl 4 rfl) ?_
      refine lv_iconst (v := 1) hx hb dL_law_452 (by decide) ?_
      refine lv_iadd hx hb dL_law_453 ?_
      refine r_sld C hX hbl hbA hT (ix + 1) (nI_add ix 1) (by omega) (by omega) dL_law_454 ?_
      refine lv_aload_n hx hb dL_law_455 rfl (lv_at hl 0 rfl) ?_
      refine lv_iload hx hb dL_law_456 (lv_at hl 4 rfl) ?_
      refine lv_iconst (v := 2) hx hb dL_law_458 (by decide) ?_
      refine lv_iadd hx hb dL_law_459 ?_
      refine r_sld C hX hbl hbA hT (ix + 2) (nI_add ix 2) (by omega) (by omega) dL_law_460 ?_
      refine lv_aload_n hx hb dL_law_461 rfl (lv_at hl 0 rfl) ?_
      refine lv_iload hx hb dL_law_462 (lv_at hl 4 rfl) ?_
      refine lv_iconst (v := 3) hx hb dL_law_464 (by decide) ?_
      refine lv_iadd hx hb dL_law_465 ?_
      refine r_sld C hX hbl hbA hT (ix + 3) (nI_add ix 3) (by omega) (by omega) dL_law_466 ?_
      refine lv_aload_n hx hb dL_law_467 rfl (lv_at hl 0 rfl) ?_
      refine lv_iload hx hb dL_law_468 (lv_at hl 4 rfl) ?_
      refine lv_iconst (v := 4) hx hb dL_law_470 (by decide) ?_
      refine lv_iadd hx hb dL_law_471 ?_
      refine r_sld C hX hbl hbA hT (ix + 4) (nI_add ix 4) (by omega) (by omega) dL_law_472 ?_
      have hM := c_X10_weight_n l g ad bd np fk fn fo stA N U V code cp en no ou wl wh (lo 1) (hi 1) (xs (ix + 1)) (xs (ix + 2)) (xs (ix + 3)) (xs (ix + 4)) hs0 hs1
      refine r_callP (lc := CMX g ad bd N np fk fn fo U V code cp en no ou wl wh (lo 1) (hi 1)) (B := MDX g mo rr np fk fn fo en no ou th (s_bg U) xx ra t0 t1 s1 ca cq ch bb wt nx cx pt le sc ss ww xc lo hi xi ++ [OUTc g oa fz]) (As := [.int (xs (ix + 1)), .int (xs (ix + 2)), .int (xs (ix + 3)), .int (xs (ix + 4))]) (n := 4) (q1 := 52) (rest := []) C hT hM k581 k582 k583 k1 k584 (by decide +kernel) rfl rfl rfl rfl (Nat.le_of_ble_eq_true rfl) hl.1 ⟨Nat.le_of_ble_eq_true rfl, Nat.le_of_ble_eq_true rfl⟩ ⟨by show 77 + cnt + 0 ≤ 600384; omega, by show 107809 + 6 * cnt + 0 ≤ 7288888; omega⟩ dL_law_473 (fun _ => cmL_fst.trans cmL_fst.symm) (fun u H locs hT => ?_)
      have hT : Wd g A s (CMX g ad bd N np fk fn fo U V code cp en no ou wl wh (lo 1) (hi 1) ++ (MDX g mo rr np fk fn fo en no ou th (s_bg U) xx ra t0 t1 s1 ca cq ch bb wt nx cx pt le sc ss ww xc lo hi xi ++ [OUTc g oa fz])) H locs := hT
      refine W.widen (k := 77 + cnt) (n := 107809 + 6 * cnt) (Nat.le_refl _) (Nat.le_refl _) ?_
      refine W.eq (g2 := F0 m 476 ls [.int (-2000000)]) rfl ?_
      have hT := hT.perm (List.perm_append_comm_assoc _ _ _)
      refine lv_aload_n hx hb dL_law_476 rfl (lv_at hl 2 rfl) ?_
      refine lv_aload_n hx hb dL_law_477 rfl (lv_at hl 0 rfl) ?_
      refine lv_iload hx hb dL_law_478 (lv_at hl 4 rfl) ?_
      refine lv_iconst (v := 1) hx hb dL_law_480 (by decide) ?_
      refine lv_iadd hx hb dL_law_481 ?_
      refine r_sld C hX hbl hbA hT (ix + 1) (nI_add ix 1) (by omega) (by omega) dL_law_482 ?_
      refine lv_aload_n hx hb dL_law_483 rfl (lv_at hl 0 rfl) ?_
      refine lv_iload hx hb dL_law_484 (lv_at hl 4 rfl) ?_
      refine lv_iconst (v := 2) hx hb dL_law_486 (by decide) ?_
      refine lv_iadd hx hb dL_law_487 ?_
      refine r_sld C hX hbl hbA hT (ix + 2) (nI_add ix 2) (by omega) (by omega) dL_law_488 ?_
      refine lv_aload_n hx hb dL_law_489 rfl (lv_at hl 0 rfl) ?_
      refine lv_iload hx hb dL_law_490 (lv_at hl 4 rfl) ?_
      refine lv_iconst (v := 3) hx hb dL_law_492 (by decide) ?_
      refine lv_iadd hx hb dL_law_493 ?_
      refine r_sld C hX hbl hbA hT (ix + 3) (nI_add ix 3) (by omega) (by omega) dL_law_494 ?_
      refine lv_aload_n hx hb dL_law_495 rfl (lv_at hl 0 rfl) ?_
      refine lv_iload hx hb dL_law_496 (lv_at hl 4 rfl) ?_
      refine lv_iconst (v := 4) hx hb dL_law_498 (by decide) ?_
      refine lv_iadd hx hb dL_law_499 ?_
      refine r_sld C hX hbl hbA hT (ix + 4) (nI_add ix 4) (by omega) (by omega) dL_law_500 ?_
      have hM := c_X11_weight_n l g mo rr th np no (s_bg U) en xx ra t0 t1 s1 ca cq ch stA fk fn fo bb wt nx cx pt le sc ss ww xc lo hi ou xi (xs (ix + 1)) (xs (ix + 2)) (xs (ix + 3)) (xs (ix + 4)) hs0 hs1
      refine r_callP (lc := MDX g mo rr np fk fn fo en no ou th (s_bg U) xx ra t0 t1 s1 ca cq ch bb wt nx cx pt le sc ss ww xc lo hi xi) (B := CMX g ad bd N np fk fn fo U V code cp en no ou wl wh (lo 1) (hi 1) ++ [OUTc g oa fz]) (As := [.int (xs (ix + 1)), .int (xs (ix + 2)), .int (xs (ix + 3)), .int (xs (ix + 4))]) (n := 4) (q1 := 0) (rest := [.int (-2000000)]) C hT hM k993 k994 k995 k15 k996 (by decide +kernel) rfl rfl rfl rfl (Nat.le_of_ble_eq_true rfl) hl.1 ⟨Nat.le_of_ble_eq_true rfl, Nat.le_of_ble_eq_true rfl⟩ ⟨by show 77 + cnt + 0 ≤ 600384; omega, by show 107809 + 6 * cnt + 0 ≤ 7288888; omega⟩ dL_law_501 (fun _ => mdL_fst.trans mdL_fst.symm) (fun u H locs hT => ?_)
      have hT : Wd g A s (MDX g mo rr np fk fn fo en no ou 0 (s_bg U) xx ra t0 t1 s1 ca cq ch bb wt nx cx pt le sc ss ww xc lo hi xi ++ (CMX g ad bd N np fk fn fo U V code cp en no ou wl wh (lo 1) (hi 1) ++ [OUTc g oa fz])) H locs := hT
      refine W.widen (k := 77 + cnt) (n := 107809 + 6 * cnt) (Nat.le_refl _) (Nat.le_refl _) ?_
      refine W.eq (g2 := F0 m 504 ls [.int (-2000000), .int (-2000000)]) rfl ?_
      have hT := hT.perm (List.perm_append_comm_assoc _ _ _)
      refine lv_icmp_eq (tgt := 751) hx hb dL_law_504 (by decide) (fun h => ?_) (fun h => ?_)
      · refine W.widen (k := 77 + (cnt + 1)) (n := 107809 + 6 * (cnt + 1)) (by omega) (by omega) ?_
        exact kk np fk fn fo U V code cp en no ou wl wh (lo 1) (hi 1) 0 (s_bg U) xx ra t0 t1 s1 ca cq ch bb wt nx cx pt le sc ss ww xc lo hi xi fz H locs ls (I_mono hI) hT hl
      · exact absurd (rfl) h

set_option maxHeartbeats 1000000 in
set_option maxRecDepth 100000 in
theorem law_seen {p : Program} {l : Launch} {e : Env} {s : State} {m : MethodId} {below : List Frame} {meth : Method} {c : Code} {Q : State → Prop} {g : GT} {A : Nat → Prop} {ad bd mo : Nat → Nat} {oa b L N rr ix cnt : Nat} {xs : Nat → Int32} (hl9 : l.stackTraces = false) (X : LC p s m meth c g A b L xs) (hL : L ≤ 321) (hi5 : ix + 5 ≤ L) (hc : cnt < 64) (kk : LK p l e s m b below meth c Q g A ad bd mo oa N rr ix (cnt + 1) 751) : LK p l e s m b below meth c Q g A ad bd mo oa N rr ix cnt 577 := by
  obtain ⟨C, hX, hbl, hbA, hXS⟩ := X
  have hx := C.x
  have hb := C.b
  intro np fk fn fo U V code cp en no ou wl wh rl rh th bt xx ra t0 t1 s1 ca cq ch bb wt nx cx pt le sc ss ww xc lo hi xi fz H locs ls hI hT hl
  obtain ⟨⟨hG, h6⟩, ⟨hr0, hr1⟩, ⟨hxU, hxV⟩, ⟨hf1, hf2⟩, ⟨n1, n2, n3, n4⟩, ⟨o1, o2, o3, o4, o5, o6⟩, hE1, hE0, hE2⟩ := id hI
  subst o4
  subst o5
  subst o6
  have hnp := hG.1
  have hN := hG.2.1
  have hrr := hG.2.2.1
  have hN4 : N ≤ 4096 := by rw [hN]; exact Nat.pow_le_pow_right (i := rr) (j := 12) (by decide) hrr
  have hbgU := hxU.1.2.2.1
  have hbgV := hxV.1.2.2.1
  by_cases hs0 : xs (ix + 1) = 0
  · skip
    refine lv_aload_n hx hb dL_law_577 rfl (lv_at hl 1 rfl) ?_
    refine lv_aload_n hx hb dL_law_578 rfl (lv_at hl 0 rfl) ?_
    refine lv_iload hx hb dL_law_579 (lv_at hl 4 rfl) ?_
    refine lv_iconst (v := 1) hx hb dL_law_581 (by decide) ?_
    refine lv_iadd hx hb dL_law_582 ?_
    refine r_sld C hX hbl hbA hT (ix + 1) (nI_add ix 1) (by omega) (by omega) dL_law_583 ?_
    refine lv_aload_n hx hb dL_law_584 rfl (lv_at hl 0 rfl) ?_
    refine lv_iload hx hb dL_law_585 (lv_at hl 4 rfl) ?_
    refine lv_iconst (v := 2) hx hb dL_law_587 (by decide) ?_
    refine lv_iadd hx hb dL_law_588 ?_
    refine r_sld C hX hbl hbA hT (ix + 2) (nI_add ix 2) (by omega) (by omega) dL_law_589 ?_
    have hM := c_X10_seen_0 l g ad bd np fk fn fo stA N U V code cp en no ou wl wh (lo 1) (hi 1) (xs (ix + 1)) (xs (ix + 2)) (by omega) hs0
    refine r_callP (lc := CMX g ad bd N np fk fn fo U V code cp en no ou wl wh (lo 1) (hi 1)) (B := MDX g mo rr np fk fn fo en no ou th (s_bg U) xx ra t0 t1 s1 ca cq ch bb wt nx cx pt le sc ss ww xc lo hi xi ++ [OUTc g oa fz]) (As := [.int (xs (ix + 1)), .int (xs (ix + 2))]) (n := 2) (q1 := 52) (rest := []) C hT hM k590 k591 k592 k1 k593 (by decide +kernel) rfl rfl rfl rfl (Nat.le_of_ble_eq_true rfl) hl.1 ⟨Nat.le_of_ble_eq_true rfl, Nat.le_of_ble_eq_true rfl⟩ ⟨by show 77 + cnt + 0 ≤ 600384; omega, by show 107809 + 6 * cnt + 0 ≤ 7288888; omega⟩ dL_law_590 (fun _ => cmL_fst.trans cmL_fst.symm) (fun u H locs hT => ?_)
    have hT : Wd g A s (CMX g ad bd N np fk fn fo U V code cp en no ou wl wh (lo 1) (hi 1) ++ (MDX g mo rr np fk fn fo en no ou th (s_bg U) xx ra t0 t1 s1 ca cq ch bb wt nx cx pt le sc ss ww xc lo hi xi ++ [OUTc g oa fz])) H locs := hT
    refine W.widen (k := 77 + cnt) (n := 107809 + 6 * cnt) (Nat.le_refl _) (Nat.le_refl _) ?_
    refine W.eq (g2 := F0 m 593 ls [.int (if inR (xs (ix + 2)) N = true then s_fs U (xs (ix + 2)).toNatClampNeg else (-1))]) rfl ?_
    have hT := hT.perm (List.perm_append_comm_assoc _ _ _)
    refine lv_aload_n hx hb dL_law_593 rfl (lv_at hl 2 rfl) ?_
    refine lv_aload_n hx hb dL_law_594 rfl (lv_at hl 0 rfl) ?_
    refine lv_iload hx hb dL_law_595 (lv_at hl 4 rfl) ?_
    refine lv_iconst (v := 1) hx hb dL_law_597 (by decide) ?_
    refine lv_iadd hx hb dL_law_598 ?_
    refine r_sld C hX hbl hbA hT (ix + 1) (nI_add ix 1) (by omega) (by omega) dL_law_599 ?_
    refine lv_aload_n hx hb dL_law_600 rfl (lv_at hl 0 rfl) ?_
    refine lv_iload hx hb dL_law_601 (lv_at hl 4 rfl) ?_
    refine lv_iconst (v := 2) hx hb dL_law_603 (by decide) ?_
    refine lv_iadd hx hb dL_law_604 ?_
    refine r_sld C hX hbl hbA hT (ix + 2) (nI_add ix 2) (by omega) (by omega) dL_law_605 ?_
    have hM := c_X11_seen l g mo rr th np no (s_bg U) en xx ra t0 t1 s1 ca cq ch stA fk fn fo bb wt nx cx pt le sc ss ww xc lo hi ou xi 0 N U (xs (ix + 2)) (by decide) hr0.2.2.2.1 hrr hN
    refine r_callP (lc := MDX g mo rr np fk fn fo en no ou th (s_bg U) xx ra t0 t1 s1 ca cq ch bb wt nx cx pt le sc ss ww xc lo hi xi) (B := CMX g ad bd N np fk fn fo U V code cp en no ou wl wh (lo 1) (hi 1) ++ [OUTc g oa fz]) (As := [.int (nI 0), .int (xs (ix + 2))]) (n := 2) (q1 := 0) (rest := [.int (if inR (xs (ix + 2)) N = true then s_fs U (xs (ix + 2)).toNatClampNeg else (-1))]) C hT hM k1002 k1003 k1004 k15 k1005 (by decide +kernel) rfl rfl rfl (by rw [hs0]; rfl) (Nat.le_of_ble_eq_true rfl) hl.1 ⟨Nat.le_of_ble_eq_true rfl, Nat.le_of_ble_eq_true rfl⟩ ⟨by show 77 + cnt + 0 ≤ 600384; omega, by show 107809 + 6 * cnt + 0 ≤ 7288888; omega⟩ dL_law_606 (fun _ => mdL_fst.trans mdL_fst.symm) (fun u H locs hT => ?_)
    have hT : Wd g A s (MDX g mo rr np fk fn fo en no ou 0 (s_bg U) xx ra t0 t1 s1 ca cq ch bb wt nx cx pt le sc ss ww xc lo hi xi ++ (CMX g ad bd N np fk fn fo U V code cp en no ou wl wh (lo 1) (hi 1) ++ [OUTc g oa fz])) H locs := hT
    refine W.widen (k := 77 + cnt) (n := 107809 + 6 * cnt) (Nat.le_refl _) (Nat.le_refl _) ?_
    refine W.eq (g2 := F0 m 609 ls [.int (if inR (xs (ix + 2)) N = true then s_fs U (xs (ix + 2)).toNatClampNeg else (-1)), .int (if inR (xs (ix + 2)) N = true then s_fs U (xs (ix + 2)).toNatClampNeg else (-1))]) rfl ?_
    have hT := hT.perm (List.perm_append_comm_assoc _ _ _)
    refine lv_icmp_eq (tgt := 751) hx hb dL_law_609 (by decide) (fun h => ?_) (fun h => ?_)
    · refine W.widen (k := 77 + (cnt + 1)) (n := 107809 + 6 * (cnt + 1)) (by omega) (by omega) ?_
      exact kk np fk fn fo U V code cp en no ou wl wh (lo 1) (hi 1) 0 (s_bg U) xx ra t0 t1 s1 ca cq ch bb wt nx cx pt le sc ss ww xc lo hi xi fz H locs ls (I_mono hI) hT hl
    · exact absurd (rfl) h
  · skip
    by_cases hs1 : xs (ix + 1) = 1
    · skip
      refine lv_aload_n hx hb dL_law_577 rfl (lv_at hl 1 rfl) ?_
      refine lv_aload_n hx hb dL_law_578 rfl (lv_at hl 0 rfl) ?_
      refine lv_iload hx hb dL_law_579 (lv_at hl 4 rfl) ?_
      refine lv_iconst (v := 1) hx hb dL_law_581 (by decide) ?_
      refine lv_iadd hx hb dL_law_582 ?_
      refine r_sld C hX hbl hbA hT (ix + 1) (nI_add ix 1) (by omega) (by omega) dL_law_583 ?_
      refine lv_aload_n hx hb dL_law_584 rfl (lv_at hl 0 rfl) ?_
      refine lv_iload hx hb dL_law_585 (lv_at hl 4 rfl) ?_
      refine lv_iconst (v := 2) hx hb dL_law_587 (by decide) ?_
      refine lv_iadd hx hb dL_law_588 ?_
      refine r_sld C hX hbl hbA hT (ix + 2) (nI_add ix 2) (by omega) (by omega) dL_law_589 ?_
      have hM := c_X10_seen_1 l g ad bd np fk fn fo stA N U V code cp en no ou wl wh (lo 1) (hi 1) (xs (ix + 1)) (xs (ix + 2)) (by omega) hs1
      refine r_callP (lc := CMX g ad bd N np fk fn fo U V code cp en no ou wl wh (lo 1) (hi 1)) (B := MDX g mo rr np fk fn fo en no ou th (s_bg U) xx ra t0 t1 s1 ca cq ch bb wt nx cx pt le sc ss ww xc lo hi xi ++ [OUTc g oa fz]) (As := [.int (xs (ix + 1)), .int (xs (ix + 2))]) (n := 2) (q1 := 52) (rest := []) C hT hM k590 k591 k592 k1 k593 (by decide +kernel) rfl rfl rfl rfl (Nat.le_of_ble_eq_true rfl) hl.1 ⟨Nat.le_of_ble_eq_true rfl, Nat.le_of_ble_eq_true rfl⟩ ⟨by show 77 + cnt + 0 ≤ 600384; omega, by show 107809 + 6 * cnt + 0 ≤ 7288888; omega⟩ dL_law_590 (fun _ => cmL_fst.trans cmL_fst.symm) (fun u H locs hT => ?_)
      have hT : Wd g A s (CMX g ad bd N np fk fn fo U V code cp en no ou wl wh (lo 1) (hi 1) ++ (MDX g mo rr np fk fn fo en no ou th (s_bg U) xx ra t0 t1 s1 ca cq ch bb wt nx cx pt le sc ss ww xc lo hi xi ++ [OUTc g oa fz])) H locs := hT
      refine W.widen (k := 77 + cnt) (n := 107809 + 6 * cnt) (Nat.le_refl _) (Nat.le_refl _) ?_
      refine W.eq (g2 := F0 m 593 ls [.int (if inR (xs (ix + 2)) N = true then s_fs V (xs (ix + 2)).toNatClampNeg else (-1))]) rfl ?_
      have hT := hT.perm (List.perm_append_comm_assoc _ _ _)
      refine lv_aload_n hx hb dL_law_593 rfl (lv_at hl 2 rfl) ?_
      refine lv_aload_n hx hb dL_law_594 rfl (lv_at hl 0 rfl) ?_
      refine lv_iload hx hb dL_law_595 (lv_at hl 4 rfl) ?_
      refine lv_iconst (v := 1) hx hb dL_law_597 (by decide) ?_
      refine lv_iadd hx hb dL_law_598 ?_
      refine r_sld C hX hbl hbA hT (ix + 1) (nI_add ix 1) (by omega) (by omega) dL_law_599 ?_
      refine lv_aload_n hx hb dL_law_600 rfl (lv_at hl 0 rfl) ?_
      refine lv_iload hx hb dL_law_601 (lv_at hl 4 rfl) ?_
      refine lv_iconst (v := 2) hx hb dL_law_603 (by decide) ?_
      refine lv_iadd hx hb dL_law_604 ?_
      refine r_sld C hX hbl hbA hT (ix + 2) (nI_add ix 2) (by omega) (by omega) dL_law_605 ?_
      have hM := c_X11_seen l g mo rr th np no (s_bg U) en xx ra t0 t1 s1 ca cq ch stA fk fn fo bb wt nx cx pt le sc ss ww xc lo hi ou xi 1 N V (xs (ix + 2)) (by decide) hr1.2.2.2.1 hrr hN
      refine r_callP (lc := MDX g mo rr np fk fn fo en no ou th (s_bg U) xx ra t0 t1 s1 ca cq ch bb wt nx cx pt le sc ss ww xc lo hi xi) (B := CMX g ad bd N np fk fn fo U V code cp en no ou wl wh (lo 1) (hi 1) ++ [OUTc g oa fz]) (As := [.int (nI 1), .int (xs (ix + 2))]) (n := 2) (q1 := 0) (rest := [.int (if inR (xs (ix + 2)) N = true then s_fs V (xs (ix + 2)).toNatClampNeg else (-1))]) C hT hM k1002 k1003 k1004 k15 k1005 (by decide +kernel) rfl rfl rfl (by rw [hs1]; rfl) (Nat.le_of_ble_eq_true rfl) hl.1 ⟨Nat.le_of_ble_eq_true rfl, Nat.le_of_ble_eq_true rfl⟩ ⟨by show 77 + cnt + 0 ≤ 600384; omega, by show 107809 + 6 * cnt + 0 ≤ 7288888; omega⟩ dL_law_606 (fun _ => mdL_fst.trans mdL_fst.symm) (fun u H locs hT => ?_)
      have hT : Wd g A s (MDX g mo rr np fk fn fo en no ou 0 (s_bg U) xx ra t0 t1 s1 ca cq ch bb wt nx cx pt le sc ss ww xc lo hi xi ++ (CMX g ad bd N np fk fn fo U V code cp en no ou wl wh (lo 1) (hi 1) ++ [OUTc g oa fz])) H locs := hT
      refine W.widen (k := 77 + cnt) (n := 107809 + 6 * cnt) (Nat.le_refl _) (Nat.le_refl _) ?_
      refine W.eq (g2 := F0 m 609 ls [.int (if inR (xs (ix + 2)) N = true then s_fs V (xs (ix + 2)).toNatClampNeg else (-1)), .int (if inR (xs (ix + 2)) N = true then s_fs V (xs (ix + 2)).toNatClampNeg else (-1))]) rfl ?_
      have hT := hT.perm (List.perm_append_comm_assoc _ _ _)
      refine lv_icmp_eq (tgt := 751) hx hb dL_law_609 (by decide) (fun h => ?_) (fun h => ?_)
      · refine W.widen (k := 77 + (cnt + 1)) (n := 107809 + 6 * (cnt + 1)) (by omega) (by omega) ?_
        exact kk np fk fn fo U V code cp en no ou wl wh (lo 1) (hi 1) 0 (s_bg U) xx ra t0 t1 s1 ca cq ch bb wt nx cx pt le sc ss ww xc lo hi xi fz H locs ls (I_mono hI) hT hl
      · exact absurd (rfl) h
    · skip
      refine lv_aload_n hx hb dL_law_577 rfl (lv_at hl 1 rfl) ?_
      refine lv_aload_n hx hb dL_law_578 rfl (lv_at hl 0 rfl) ?_
      refine lv_iload hx hb dL_law_579 (lv_at hl 4 rfl) ?_
      refine lv_iconst (v := 1) hx hb dL_law_581 (by decide) ?_
      refine lv_iadd hx hb dL_law_582 ?_
      refine r_sld C hX hbl hbA hT (ix + 1) (nI_add ix 1) (by omega) (by omega) dL_law_583 ?_
      refine lv_aload_n hx hb dL_law_584 rfl (lv_at hl 0 rfl) ?_
      refine lv_iload hx hb dL_law_585 (lv_at hl 4 rfl) ?_
      refine lv_iconst (v := 2) hx hb dL_law_587 (by decide) ?_
      refine lv_iadd hx hb dL_law_588 ?_
      refine r_sld C hX hbl hbA hT (ix + 2) (nI_add ix 2) (by omega) (by omega) dL_law_589 ?_
      have hM := c_X10_seen_n l g ad bd np fk fn fo stA N U V code cp en no ou wl wh (lo 1) (hi 1) (xs (ix + 1)) (xs (ix + 2)) hs0 hs1
      refine r_callP (lc := CMX g ad bd N np fk fn fo U V code cp en no ou wl wh (lo 1) (hi 1)) (B := MDX g mo rr np fk fn fo en no ou th (s_bg U) xx ra t0 t1 s1 ca cq ch bb wt nx cx pt le sc ss ww xc lo hi xi ++ [OUTc g oa fz]) (As := [.int (xs (ix + 1)), .int (xs (ix + 2))]) (n := 2) (q1 := 52) (rest := []) C hT hM k590 k591 k592 k1 k593 (by decide +kernel) rfl rfl rfl rfl (Nat.le_of_ble_eq_true rfl) hl.1 ⟨Nat.le_of_ble_eq_true rfl, Nat.le_of_ble_eq_true rfl⟩ ⟨by show 77 + cnt + 0 ≤ 600384; omega, by show 107809 + 6 * cnt + 0 ≤ 7288888; omega⟩ dL_law_590 (fun _ => cmL_fst.trans cmL_fst.symm) (fun u H locs hT => ?_)
      have hT : Wd g A s (CMX g ad bd N np fk fn fo U V code cp en no ou wl wh (lo 1) (hi 1) ++ (MDX g mo rr np fk fn fo en no ou th (s_bg U) xx ra t0 t1 s1 ca cq ch bb wt nx cx pt le sc ss ww xc lo hi xi ++ [OUTc g oa fz])) H locs := hT
      refine W.widen (k := 77 + cnt) (n := 107809 + 6 * cnt) (Nat.le_refl _) (Nat.le_refl _) ?_
      refine W.eq (g2 := F0 m 593 ls [.int (-1)]) rfl ?_
      have hT := hT.perm (List.perm_append_comm_assoc _ _ _)
      refine lv_aload_n hx hb dL_law_593 rfl (lv_at hl 2 rfl) ?_
      refine lv_aload_n hx hb dL_law_594 rfl (lv_at hl 0 rfl) ?_
      refine lv_iload hx hb dL_law_595 (lv_at hl 4 rfl) ?_
      refine lv_iconst (v := 1) hx hb dL_law_597 (by decide) ?_
      refine lv_iadd hx hb dL_law_598 ?_
      refine r_sld C hX hbl hbA hT (ix + 1) (nI_add ix 1) (by omega) (by omega) dL_law_599 ?_
      refine lv_aload_n hx hb dL_law_600 rfl (lv_at hl 0 rfl) ?_
      refine lv_iload hx hb dL_law_601 (lv_at hl 4 rfl) ?_
      refine lv_iconst (v := 2) hx hb dL_law_603 (by decide) ?_
      refine lv_iadd hx hb dL_law_604 ?_
      refine r_sld C hX hbl hbA hT (ix + 2) (nI_add ix 2) (by omega) (by omega) dL_law_605 ?_
      have hM := c_X11_seen_n l g mo rr th np no (s_bg U) en xx ra t0 t1 s1 ca cq ch stA fk fn fo bb wt nx cx pt le sc ss ww xc lo hi ou xi (xs (ix + 1)) (xs (ix + 2)) hs0 hs1
      refine r_callP (lc := MDX g mo rr np fk fn fo en no ou th (s_bg U) xx ra t0 t1 s1 ca cq ch bb wt nx cx pt le sc ss ww xc lo hi xi) (B := CMX g ad bd N np fk fn fo U V code cp en no ou wl wh (lo 1) (hi 1) ++ [OUTc g oa fz]) (As := [.int (xs (ix + 1)), .int (xs (ix + 2))]) (n := 2) (q1 := 0) (rest := [.int (-1)]) C hT hM k1002 k1003 k1004 k15 k1005 (by decide +kernel) rfl rfl rfl rfl (Nat.le_of_ble_eq_true rfl) hl.1 ⟨Nat.le_of_ble_eq_true rfl, Nat.le_of_ble_eq_true rfl⟩ ⟨by show 77 + cnt + 0 ≤ 600384; omega, by show 107809 + 6 * cnt + 0 ≤ 7288888; omega⟩ dL_law_606 (fun _ => mdL_fst.trans mdL_fst.symm) (fun u H locs hT => ?_)
      have hT : Wd g A s (MDX g mo rr np fk fn fo en no ou 0 (s_bg U) xx ra t0 t1 s1 ca cq ch bb wt nx cx pt le sc ss ww xc lo hi xi ++ (CMX g ad bd N np fk fn fo U V code cp en no ou wl wh (lo 1) (hi 1) ++ [OUTc g oa fz])) H locs := hT
      refine W.widen (k := 77 + cnt) (n := 107809 + 6 * cnt) (Nat.le_refl _) (Nat.le_refl _) ?_
      refine W.eq (g2 := F0 m 609 ls [.int (-1), .int (-1)]) rfl ?_
      have hT := hT.perm (List.perm_append_comm_assoc _ _ _)
      refine lv_icmp_eq (tgt := 751) hx hb dL_law_609 (by decide) (fun h => ?_) (fun h => ?_)
      · refine W.widen (k := 77 + (cnt + 1)) (n := 107809 + 6 * (cnt + 1)) (by omega) (by omega) ?_
        exact kk np fk fn fo U V code cp en no ou wl wh (lo 1) (hi 1) 0 (s_bg U) xx ra t0 t1 s1 ca cq ch bb wt nx cx pt le sc ss ww xc lo hi xi fz H locs ls (I_mono hI) hT hl
      · exact absurd (rfl) h

set_option maxHeartbeats 1000000 in
set_option maxRecDepth 100000 in
theorem law_cell {p : Program} {l : Launch} {e : Env} {s : State} {m : MethodId} {below : List Frame} {meth : Method} {c : Code} {Q : State → Prop} {g : GT} {A : Nat → Prop} {ad bd mo : Nat → Nat} {oa b L N rr ix cnt : Nat} {xs : Nat → Int32} (hl9 : l.stackTraces = false) (X : LC p s m meth c g A b L xs) (hL : L ≤ 321) (hi5 : ix + 5 ≤ L) (hc : cnt < 64) (kk : LK p l e s m b below meth c Q g A ad bd mo oa N rr ix (cnt + 1) 751) : LK p l e s m b below meth c Q g A ad bd mo oa N rr ix cnt 614 := by
  obtain ⟨C, hX, hbl, hbA, hXS⟩ := X
  have hx := C.x
  have hb := C.b
  intro np fk fn fo U V code cp en no ou wl wh rl rh th bt xx ra t0 t1 s1 ca cq ch bb wt nx cx pt le sc ss ww xc lo hi xi fz H locs ls hI hT hl
  obtain ⟨⟨hG, h6⟩, ⟨hr0, hr1⟩, ⟨hxU, hxV⟩, ⟨hf1, hf2⟩, ⟨n1, n2, n3, n4⟩, ⟨o1, o2, o3, o4, o5, o6⟩, hE1, hE0, hE2⟩ := id hI
  subst o4
  subst o5
  subst o6
  have hnp := hG.1
  have hN := hG.2.1
  have hrr := hG.2.2.1
  have hN4 : N ≤ 4096 := by rw [hN]; exact Nat.pow_le_pow_right (i := rr) (j := 12) (by decide) hrr
  have hbgU := hxU.1.2.2.1
  have hbgV := hxV.1.2.2.1
  by_cases hs0 : xs (ix + 1) = 0
  · skip
    refine lv_aload_n hx hb dL_law_614 rfl (lv_at hl 1 rfl) ?_
    refine lv_aload_n hx hb dL_law_615 rfl (lv_at hl 0 rfl) ?_
    refine lv_iload hx hb dL_law_616 (lv_at hl 4 rfl) ?_
    refine lv_iconst (v := 1) hx hb dL_law_618 (by decide) ?_
    refine lv_iadd hx hb dL_law_619 ?_
    refine r_sld C hX hbl hbA hT (ix + 1) (nI_add ix 1) (by omega) (by omega) dL_law_620 ?_
    refine lv_aload_n hx hb dL_law_621 rfl (lv_at hl 0 rfl) ?_
    refine lv_iload hx hb dL_law_622 (lv_at hl 4 rfl) ?_
    refine lv_iconst (v := 2) hx hb dL_law_624 (by decide) ?_
    refine lv_iadd hx hb dL_law_625 ?_
    refine r_sld C hX hbl hbA hT (ix + 2) (nI_add ix 2) (by omega) (by omega) dL_law_626 ?_
    refine lv_aload_n hx hb dL_law_627 rfl (lv_at hl 0 rfl) ?_
    refine lv_iload hx hb dL_law_628 (lv_at hl 4 rfl) ?_
    refine lv_iconst (v := 3) hx hb dL_law_630 (by decide) ?_
    refine lv_iadd hx hb dL_law_631 ?_
    refine r_sld C hX hbl hbA hT (ix + 3) (nI_add ix 3) (by omega) (by omega) dL_law_632 ?_
    have hM := c_X10_cell_0 l g ad bd np fk fn fo stA N U V code cp en no ou wl wh (lo 1) (hi 1) (xs (ix + 1)) (xs (ix + 2)) (xs (ix + 3)) hs0
    refine r_callP (lc := CMX g ad bd N np fk fn fo U V code cp en no ou wl wh (lo 1) (hi 1)) (B := MDX g mo rr np fk fn fo en no ou th (s_bg U) xx ra t0 t1 s1 ca cq ch bb wt nx cx pt le sc ss ww xc lo hi xi ++ [OUTc g oa fz]) (As := [.int (xs (ix + 1)), .int (xs (ix + 2)), .int (xs (ix + 3))]) (n := 3) (q1 := 52) (rest := []) C hT hM k595 k596 k597 k1 k598 (by decide +kernel) rfl rfl rfl rfl (Nat.le_of_ble_eq_true rfl) hl.1 ⟨Nat.le_of_ble_eq_true rfl, Nat.le_of_ble_eq_true rfl⟩ ⟨by show 77 + cnt + 0 ≤ 600384; omega, by show 107809 + 6 * cnt + 0 ≤ 7288888; omega⟩ dL_law_633 (fun _ => cmL_fst.trans cmL_fst.symm) (fun u H locs hT => ?_)
    have hT : Wd g A s (CMX g ad bd N np fk fn fo U V code cp en no ou wl wh (lo 1) (hi 1) ++ (MDX g mo rr np fk fn fo en no ou th (s_bg U) xx ra t0 t1 s1 ca cq ch bb wt nx cx pt le sc ss ww xc lo hi xi ++ [OUTc g oa fz])) H locs := hT
    refine W.widen (k := 77 + cnt) (n := 107809 + 6 * cnt) (Nat.le_refl _) (Nat.le_refl _) ?_
    refine W.eq (g2 := F0 m 636 ls [.int (if cellB (xs (ix + 2)) (xs (ix + 3)) = true then sgnI (s_fx U (33 * (xs (ix + 2)).toNatClampNeg + (xs (ix + 3)).toNatClampNeg)) else 40000)]) rfl ?_
    have hT := hT.perm (List.perm_append_comm_assoc _ _ _)
    refine lv_aload_n hx hb dL_law_636 rfl (lv_at hl 2 rfl) ?_
    refine lv_aload_n hx hb dL_law_637 rfl (lv_at hl 0 rfl) ?_
    refine lv_iload hx hb dL_law_638 (lv_at hl 4 rfl) ?_
    refine lv_iconst (v := 1) hx hb dL_law_640 (by decide) ?_
    refine lv_iadd hx hb dL_law_641 ?_
    refine r_sld C hX hbl hbA hT (ix + 1) (nI_add ix 1) (by omega) (by omega) dL_law_642 ?_
    refine lv_aload_n hx hb dL_law_643 rfl (lv_at hl 0 rfl) ?_
    refine lv_iload hx hb dL_law_644 (lv_at hl 4 rfl) ?_
    refine lv_iconst (v := 2) hx hb dL_law_646 (by decide) ?_
    refine lv_iadd hx hb dL_law_647 ?_
    refine r_sld C hX hbl hbA hT (ix + 2) (nI_add ix 2) (by omega) (by omega) dL_law_648 ?_
    refine lv_aload_n hx hb dL_law_649 rfl (lv_at hl 0 rfl) ?_
    refine lv_iload hx hb dL_law_650 (lv_at hl 4 rfl) ?_
    refine lv_iconst (v := 3) hx hb dL_law_652 (by decide) ?_
    refine lv_iadd hx hb dL_law_653 ?_
    refine r_sld C hX hbl hbA hT (ix + 3) (nI_add ix 3) (by omega) (by omega) dL_law_654 ?_
    have hM := c_X11_cell l g mo rr th np no (s_bg U) en xx ra t0 t1 s1 ca cq ch stA fk fn fo bb wt nx cx pt le sc ss ww xc lo hi ou xi 0 N U (xs (ix + 2)) (xs (ix + 3)) (by decide) hr0.2.2.2.2.2
    refine r_callP (lc := MDX g mo rr np fk fn fo en no ou th (s_bg U) xx ra t0 t1 s1 ca cq ch bb wt nx cx pt le sc ss ww xc lo hi xi) (B := CMX g ad bd N np fk fn fo U V code cp en no ou wl wh (lo 1) (hi 1) ++ [OUTc g oa fz]) (As := [.int (nI 0), .int (xs (ix + 2)), .int (xs (ix + 3))]) (n := 3) (q1 := 0) (rest := [.int (if cellB (xs (ix + 2)) (xs (ix + 3)) = true then sgnI (s_fx U (33 * (xs (ix + 2)).toNatClampNeg + (xs (ix + 3)).toNatClampNeg)) else 40000)]) C hT hM k1006 k1007 k1008 k15 k1009 (by decide +kernel) rfl rfl rfl (by rw [hs0]; rfl) (Nat.le_of_ble_eq_true rfl) hl.1 ⟨Nat.le_of_ble_eq_true rfl, Nat.le_of_ble_eq_true rfl⟩ ⟨by show 77 + cnt + 0 ≤ 600384; omega, by show 107809 + 6 * cnt + 0 ≤ 7288888; omega⟩ dL_law_655 (fun _ => mdL_fst.trans mdL_fst.symm) (fun u H locs hT => ?_)
    have hT : Wd g A s (MDX g mo rr np fk fn fo en no ou 0 (s_bg U) xx ra t0 t1 s1 ca cq ch bb wt nx cx pt le sc ss ww xc lo hi xi ++ (CMX g ad bd N np fk fn fo U V code cp en no ou wl wh (lo 1) (hi 1) ++ [OUTc g oa fz])) H locs := hT
    refine W.widen (k := 77 + cnt) (n := 107809 + 6 * cnt) (Nat.le_refl _) (Nat.le_refl _) ?_
    refine W.eq (g2 := F0 m 658 ls [.int (if cellB (xs (ix + 2)) (xs (ix + 3)) = true then sgnI (s_fx U (33 * (xs (ix + 2)).toNatClampNeg + (xs (ix + 3)).toNatClampNeg)) else 40000), .int (if cellB (xs (ix + 2)) (xs (ix + 3)) = true then sgnI (s_fx U (33 * (xs (ix + 2)).toNatClampNeg + (xs (ix + 3)).toNatClampNeg)) else 40000)]) rfl ?_
    have hT := hT.perm (List.perm_append_comm_assoc _ _ _)
    refine lv_icmp_eq (tgt := 751) hx hb dL_law_658 (by decide) (fun h => ?_) (fun h => ?_)
    · refine W.widen (k := 77 + (cnt + 1)) (n := 107809 + 6 * (cnt + 1)) (by omega) (by omega) ?_
      exact kk np fk fn fo U V code cp en no ou wl wh (lo 1) (hi 1) 0 (s_bg U) xx ra t0 t1 s1 ca cq ch bb wt nx cx pt le sc ss ww xc lo hi xi fz H locs ls (I_mono hI) hT hl
    · exact absurd (rfl) h
  · skip
    by_cases hs1 : xs (ix + 1) = 1
    · skip
      refine lv_aload_n hx hb dL_law_614 rfl (lv_at hl 1 rfl) ?_
      refine lv_aload_n hx hb dL_law_615 rfl (lv_at hl 0 rfl) ?_
      refine lv_iload hx hb dL_law_616 (lv_at hl 4 rfl) ?_
      refine lv_iconst (v := 1) hx hb dL_law_618 (by decide) ?_
      refine lv_iadd hx hb dL_law_619 ?_
      refine r_sld C hX hbl hbA hT (ix + 1) (nI_add ix 1) (by omega) (by omega) dL_law_620 ?_
      refine lv_aload_n hx hb dL_law_621 rfl (lv_at hl 0 rfl) ?_
      refine lv_iload hx hb dL_law_622 (lv_at hl 4 rfl) ?_
      refine lv_iconst (v := 2) hx hb dL_law_624 (by decide) ?_
      refine lv_iadd hx hb dL_law_625 ?_
      refine r_sld C hX hbl hbA hT (ix + 2) (nI_add ix 2) (by omega) (by omega) dL_law_626 ?_
      refine lv_aload_n hx hb dL_law_627 rfl (lv_at hl 0 rfl) ?_
      refine lv_iload hx hb dL_law_628 (lv_at hl 4 rfl) ?_
      refine lv_iconst (v := 3) hx hb dL_law_630 (by decide) ?_
      refine lv_iadd hx hb dL_law_631 ?_
      refine r_sld C hX hbl hbA hT (ix + 3) (nI_add ix 3) (by omega) (by omega) dL_law_632 ?_
      have hM := c_X10_cell_1 l g ad bd np fk fn fo stA N U V code cp en no ou wl wh (lo 1) (hi 1) (xs (ix + 1)) (xs (ix + 2)) (xs (ix + 3)) hs1
      refine r_callP (lc := CMX g ad bd N np fk fn fo U V code cp en no ou wl wh (lo 1) (hi 1)) (B := MDX g mo rr np fk fn fo en no ou th (s_bg U) xx ra t0 t1 s1 ca cq ch bb wt nx cx pt le sc ss ww xc lo hi xi ++ [OUTc g oa fz]) (As := [.int (xs (ix + 1)), .int (xs (ix + 2)), .int (xs (ix + 3))]) (n := 3) (q1 := 52) (rest := []) C hT hM k595 k596 k597 k1 k598 (by decide +kernel) rfl rfl rfl rfl (Nat.le_of_ble_eq_true rfl) hl.1 ⟨Nat.le_of_ble_eq_true rfl, Nat.le_of_ble_eq_true rfl⟩ ⟨by show 77 + cnt + 0 ≤ 600384; omega, by show 107809 + 6 * cnt + 0 ≤ 7288888; omega⟩ dL_law_633 (fun _ => cmL_fst.trans cmL_fst.symm) (fun u H locs hT => ?_)
      have hT : Wd g A s (CMX g ad bd N np fk fn fo U V code cp en no ou wl wh (lo 1) (hi 1) ++ (MDX g mo rr np fk fn fo en no ou th (s_bg U) xx ra t0 t1 s1 ca cq ch bb wt nx cx pt le sc ss ww xc lo hi xi ++ [OUTc g oa fz])) H locs := hT
      refine W.widen (k := 77 + cnt) (n := 107809 + 6 * cnt) (Nat.le_refl _) (Nat.le_refl _) ?_
      refine W.eq (g2 := F0 m 636 ls [.int (if cellB (xs (ix + 2)) (xs (ix + 3)) = true then sgnI (s_fx V (33 * (xs (ix + 2)).toNatClampNeg + (xs (ix + 3)).toNatClampNeg)) else 40000)]) rfl ?_
      have hT := hT.perm (List.perm_append_comm_assoc _ _ _)
      refine lv_aload_n hx hb dL_law_636 rfl (lv_at hl 2 rfl) ?_
      refine lv_aload_n hx hb dL_law_637 rfl (lv_at hl 0 rfl) ?_
      refine lv_iload hx hb dL_law_638 (lv_at hl 4 rfl) ?_
      refine lv_iconst (v := 1) hx hb dL_law_640 (by decide) ?_
      refine lv_iadd hx hb dL_law_641 ?_
      refine r_sld C hX hbl hbA hT (ix + 1) (nI_add ix 1) (by omega) (by omega) dL_law_642 ?_
      refine lv_aload_n hx hb dL_law_643 rfl (lv_at hl 0 rfl) ?_
      refine lv_iload hx hb dL_law_644 (lv_at hl 4 rfl) ?_
      refine lv_iconst (v := 2) hx hb dL_law_646 (by decide) ?_
      refine lv_iadd hx hb dL_law_647 ?_
      refine r_sld C hX hbl hbA hT (ix + 2) (nI_add ix 2) (by omega) (by omega) dL_law_648 ?_
      refine lv_aload_n hx hb dL_law_649 rfl (lv_at hl 0 rfl) ?_
      refine lv_iload hx hb dL_law_650 (lv_at hl 4 rfl) ?_
      refine lv_iconst (v := 3) hx hb dL_law_652 (by decide) ?_
      refine lv_iadd hx hb dL_law_653 ?_
      refine r_sld C hX hbl hbA hT (ix + 3) (nI_add ix 3) (by omega) (by omega) dL_law_654 ?_
      have hM := c_X11_cell l g mo rr th np no (s_bg U) en xx ra t0 t1 s1 ca cq ch stA fk fn fo bb wt nx cx pt le sc ss ww xc lo hi ou xi 1 N V (xs (ix + 2)) (xs (ix + 3)) (by decide) hr1.2.2.2.2.2
      refine r_callP (lc := MDX g mo rr np fk fn fo en no ou th (s_bg U) xx ra t0 t1 s1 ca cq ch bb wt nx cx pt le sc ss ww xc lo hi xi) (B := CMX g ad bd N np fk fn fo U V code cp en no ou wl wh (lo 1) (hi 1) ++ [OUTc g oa fz]) (As := [.int (nI 1), .int (xs (ix + 2)), .int (xs (ix + 3))]) (n := 3) (q1 := 0) (rest := [.int (if cellB (xs (ix + 2)) (xs (ix + 3)) = true then sgnI (s_fx V (33 * (xs (ix + 2)).toNatClampNeg + (xs (ix + 3)).toNatClampNeg)) else 40000)]) C hT hM k1006 k1007 k1008 k15 k1009 (by decide +kernel) rfl rfl rfl (by rw [hs1]; rfl) (Nat.le_of_ble_eq_true rfl) hl.1 ⟨Nat.le_of_ble_eq_true rfl, Nat.le_of_ble_eq_true rfl⟩ ⟨by show 77 + cnt + 0 ≤ 600384; omega, by show 107809 + 6 * cnt + 0 ≤ 7288888; omega⟩ dL_law_655 (fun _ => mdL_fst.trans mdL_fst.symm) (fun u H locs hT => ?_)
      have hT : Wd g A s (MDX g mo rr np fk fn fo en no ou 0 (s_bg U) xx ra t0 t1 s1 ca cq ch bb wt nx cx pt le sc ss ww xc lo hi xi ++ (CMX g ad bd N np fk fn fo U V code cp en no ou wl wh (lo 1) (hi 1) ++ [OUTc g oa fz])) H locs := hT
      refine W.widen (k := 77 + cnt) (n := 107809 + 6 * cnt) (Nat.le_refl _) (Nat.le_refl _) ?_
      refine W.eq (g2 := F0 m 658 ls [.int (if cellB (xs (ix + 2)) (xs (ix + 3)) = true then sgnI (s_fx V (33 * (xs (ix + 2)).toNatClampNeg + (xs (ix + 3)).toNatClampNeg)) else 40000), .int (if cellB (xs (ix + 2)) (xs (ix + 3)) = true then sgnI (s_fx V (33 * (xs (ix + 2)).toNatClampNeg + (xs (ix + 3)).toNatClampNeg)) else 40000)]) rfl ?_
      have hT := hT.perm (List.perm_append_comm_assoc _ _ _)
      refine lv_icmp_eq (tgt := 751) hx hb dL_law_658 (by decide) (fun h => ?_) (fun h => ?_)
      · refine W.widen (k := 77 + (cnt + 1)) (n := 107809 + 6 * (cnt + 1)) (by omega) (by omega) ?_
        exact kk np fk fn fo U V code cp en no ou wl wh (lo 1) (hi 1) 0 (s_bg U) xx ra t0 t1 s1 ca cq ch bb wt nx cx pt le sc ss ww xc lo hi xi fz H locs ls (I_mono hI) hT hl
      · exact absurd (rfl) h
    · skip
      refine lv_aload_n hx hb dL_law_614 rfl (lv_at hl 1 rfl) ?_
      refine lv_aload_n hx hb dL_law_615 rfl (lv_at hl 0 rfl) ?_
      refine lv_iload hx hb dL_law_616 (lv_at hl 4 rfl) ?_
      refine lv_iconst (v := 1) hx hb dL_law_618 (by decide) ?_
      refine lv_iadd hx hb dL_law_619 ?_
      refine r_sld C hX hbl hbA hT (ix + 1) (nI_add ix 1) (by omega) (by omega) dL_law_620 ?_
      refine lv_aload_n hx hb dL_law_621 rfl (lv_at hl 0 rfl) ?_
      refine lv_iload hx hb dL_law_622 (lv_at hl 4 rfl) ?_
      refine lv_iconst (v := 2) hx hb dL_law_624 (by decide) ?_
      refine lv_iadd hx hb dL_law_625 ?_
      refine r_sld C hX hbl hbA hT (ix + 2) (nI_add ix 2) (by omega) (by omega) dL_law_626 ?_
      refine lv_aload_n hx hb dL_law_627 rfl (lv_at hl 0 rfl) ?_
      refine lv_iload hx hb dL_law_628 (lv_at hl 4 rfl) ?_
      refine lv_iconst (v := 3) hx hb dL_law_630 (by decide) ?_
      refine lv_iadd hx hb dL_law_631 ?_
      refine r_sld C hX hbl hbA hT (ix + 3) (nI_add ix 3) (by omega) (by omega) dL_law_632 ?_
      have hM := c_X10_cell_n l g ad bd np fk fn fo stA N U V code cp en no ou wl wh (lo 1) (hi 1) (xs (ix + 1)) (xs (ix + 2)) (xs (ix + 3)) hs0 hs1
      refine r_callP (lc := CMX g ad bd N np fk fn fo U V code cp en no ou wl wh (lo 1) (hi 1)) (B := MDX g mo rr np fk fn fo en no ou th (s_bg U) xx ra t0 t1 s1 ca cq ch bb wt nx cx pt le sc ss ww xc lo hi xi ++ [OUTc g oa fz]) (As := [.int (xs (ix + 1)), .int (xs (ix + 2)), .int (xs (ix + 3))]) (n := 3) (q1 := 52) (rest := []) C hT hM k595 k596 k597 k1 k598 (by decide +kernel) rfl rfl rfl rfl (Nat.le_of_ble_eq_true rfl) hl.1 ⟨Nat.le_of_ble_eq_true rfl, Nat.le_of_ble_eq_true rfl⟩ ⟨by show 77 + cnt + 0 ≤ 600384; omega, by show 107809 + 6 * cnt + 0 ≤ 7288888; omega⟩ dL_law_633 (fun _ => cmL_fst.trans cmL_fst.symm) (fun u H locs hT => ?_)
      have hT : Wd g A s (CMX g ad bd N np fk fn fo U V code cp en no ou wl wh (lo 1) (hi 1) ++ (MDX g mo rr np fk fn fo en no ou th (s_bg U) xx ra t0 t1 s1 ca cq ch bb wt nx cx pt le sc ss ww xc lo hi xi ++ [OUTc g oa fz])) H locs := hT
      refine W.widen (k := 77 + cnt) (n := 107809 + 6 * cnt) (Nat.le_refl _) (Nat.le_refl _) ?_
      refine W.eq (g2 := F0 m 636 ls [.int 40000]) rfl ?_
      have hT := hT.perm (List.perm_append_comm_assoc _ _ _)
      refine lv_aload_n hx hb dL_law_636 rfl (lv_at hl 2 rfl) ?_
      refine lv_aload_n hx hb dL_law_637 rfl (lv_at hl 0 rfl) ?_
      refine lv_iload hx hb dL_law_638 (lv_at hl 4 rfl) ?_
      refine lv_iconst (v := 1) hx hb dL_law_640 (by decide) ?_
      refine lv_iadd hx hb dL_law_641 ?_
      refine r_sld C hX hbl hbA hT (ix + 1) (nI_add ix 1) (by omega) (by omega) dL_law_642 ?_
      refine lv_aload_n hx hb dL_law_643 rfl (lv_at hl 0 rfl) ?_
      refine lv_iload hx hb dL_law_644 (lv_at hl 4 rfl) ?_
      refine lv_iconst (v := 2) hx hb dL_law_646 (by decide) ?_
      refine lv_iadd hx hb dL_law_647 ?_
      refine r_sld C hX hbl hbA hT (ix + 2) (nI_add ix 2) (by omega) (by omega) dL_law_648 ?_
      refine lv_aload_n hx hb dL_law_649 rfl (lv_at hl 0 rfl) ?_
      refine lv_iload hx hb dL_law_650 (lv_at hl 4 rfl) ?_
      refine lv_iconst (v := 3) hx hb dL_law_652 (by decide) ?_
      refine lv_iadd hx hb dL_law_653 ?_
      refine r_sld C hX hbl hbA hT (ix + 3) (nI_add ix 3) (by omega) (by omega) dL_law_654 ?_
      have hM := c_X11_cell_n l g mo rr th np no (s_bg U) en xx ra t0 t1 s1 ca cq ch stA fk fn fo bb wt nx cx pt le sc ss ww xc lo hi ou xi (xs (ix + 1)) (xs (ix + 2)) (xs (ix + 3)) hs0 hs1
      refine r_callP (lc := MDX g mo rr np fk fn fo en no ou th (s_bg U) xx ra t0 t1 s1 ca cq ch bb wt nx cx pt le sc ss ww xc lo hi xi) (B := CMX g ad bd N np fk fn fo U V code cp en no ou wl wh (lo 1) (hi 1) ++ [OUTc g oa fz]) (As := [.int (xs (ix + 1)), .int (xs (ix + 2)), .int (xs (ix + 3))]) (n := 3) (q1 := 0) (rest := [.int 40000]) C hT hM k1006 k1007 k1008 k15 k1009 (by decide +kernel) rfl rfl rfl rfl (Nat.le_of_ble_eq_true rfl) hl.1 ⟨Nat.le_of_ble_eq_true rfl, Nat.le_of_ble_eq_true rfl⟩ ⟨by show 77 + cnt + 0 ≤ 600384; omega, by show 107809 + 6 * cnt + 0 ≤ 7288888; omega⟩ dL_law_655 (fun _ => mdL_fst.trans mdL_fst.symm) (fun u H locs hT => ?_)
      have hT : Wd g A s (MDX g mo rr np fk fn fo en no ou 0 (s_bg U) xx ra t0 t1 s1 ca cq ch bb wt nx cx pt le sc ss ww xc lo hi xi ++ (CMX g ad bd N np fk fn fo U V code cp en no ou wl wh (lo 1) (hi 1) ++ [OUTc g oa fz])) H locs := hT
      refine W.widen (k := 77 + cnt) (n := 107809 + 6 * cnt) (Nat.le_refl _) (Nat.le_refl _) ?_
      refine W.eq (g2 := F0 m 658 ls [.int 40000, .int 40000]) rfl ?_
      have hT := hT.perm (List.perm_append_comm_assoc _ _ _)
      refine lv_icmp_eq (tgt := 751) hx hb dL_law_658 (by decide) (fun h => ?_) (fun h => ?_)
      · refine W.widen (k := 77 + (cnt + 1)) (n := 107809 + 6 * (cnt + 1)) (by omega) (by omega) ?_
        exact kk np fk fn fo U V code cp en no ou wl wh (lo 1) (hi 1) 0 (s_bg U) xx ra t0 t1 s1 ca cq ch bb wt nx cx pt le sc ss ww xc lo hi xi fz H locs ls (I_mono hI) hT hl
      · exact absurd (rfl) h
