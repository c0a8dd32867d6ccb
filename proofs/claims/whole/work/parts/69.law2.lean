set_option maxHeartbeats 1000000 in
set_option maxRecDepth 100000 in
theorem law_chance {p : Program} {l : Launch} {e : Env} {s : State} {m : MethodId} {below : List Frame} {meth : Method} {c : Code} {Q : State → Prop} {g : GT} {A : Nat → Prop} {ad bd mo : Nat → Nat} {oa b L N rr ix cnt : Nat} {xs : Nat → Int32} (hl9 : l.stackTraces = false) (X : LC p s m meth c g A b L xs) (hL : L ≤ 321) (hi5 : ix + 5 ≤ L) (hc : cnt < 64) (kk : LK p l e s m b below meth c Q g A ad bd mo oa N rr ix (cnt + 1) 751) : LK p l e s m b below meth c Q g A ad bd mo oa N rr ix cnt 386 := by
  obtain ⟨C, hX, hbl, hbA, hXS⟩ := X
  have hx := C.x
  have hb := C.b
  intro np fk fn fo U V code cp en no ou wl wh rl rh th bt xx ra t0 t1 s1 ca cq ch bb wt nx cx pt le sc ss ww xc lo hi xi fz H locs ls hI hT hl
  obtain ⟨⟨hG, h6⟩, ⟨hr0, hr1⟩, ⟨hxU, hxV⟩, ⟨hf1, hf2⟩, ⟨n1, n2, n3, n4⟩, ⟨o1, o2, o3, o4, o5, o6⟩, hE1, hE0, hE2⟩ := id hI
  subst o4
  subst o5
  subst o6
  have hnp := hG.1
  have hN := hG.2.1
  have hrr := hG.2.2.1
  have hN4 : N ≤ 4096 := by rw [hN]; exact Nat.pow_le_pow_right (i := rr) (j := 12) (by decide) hrr
  have hbgU := hxU.1.2.2.1
  have hbgV := hxV.1.2.2.1
  by_cases hs0 : xs (ix + 1) = 0
  · skip
    refine lv_aload_n hx hb dL_law_386 rfl (lv_at hl 1 rfl) ?_
    refine lv_aload_n hx hb dL_law_387 rfl (lv_at hl 0 rfl) ?_
    refine lv_iload hx hb dL_law_388 (lv_at hl 4 rfl) ?_
    refine lv_iconst (v := 1) hx hb dL_law_390 (by decide) ?_
    refine lv_iadd hx hb dL_law_391 ?_
    refine r_sld C hX hbl hbA hT (ix + 1) (nI_add ix 1) (by omega) (by omega) dL_law_392 ?_
    have hM := c_X10_chance_0 l g ad bd np fk fn fo stA N U V code cp en no ou wl wh (lo 1) (hi 1) rr (xs (ix + 1)) hG hxU.1 hs0
    refine r_callP (lc := CMX g ad bd N np fk fn fo U V code cp en no ou wl wh (lo 1) (hi 1)) (B := MDX g mo rr np fk fn fo en no ou th (s_bg U) xx ra t0 t1 s1 ca cq ch bb wt nx cx pt le sc ss ww xc lo hi xi ++ [OUTc g oa fz]) (As := [.int (xs (ix + 1))]) (n := 1) (q1 := 52) (rest := []) C hT hM k568 k569 k570 k1 k571 (by decide +kernel) rfl rfl rfl rfl (Nat.le_of_ble_eq_true rfl) hl.1 ⟨Nat.le_of_ble_eq_true rfl, Nat.le_of_ble_eq_true rfl⟩ ⟨by show 77 + cnt + 0 ≤ 600384; omega, by show 107809 + 6 * cnt + 0 ≤ 7288888; omega⟩ dL_law_393 (fun _ => cmL_fst.trans cmL_fst.symm) (fun u H locs hT => ?_)
    have hT : Wd g A s (CMX g ad bd N np fk fn fo (foreS stA N np fk fo U) V code cp en no ou wl wh (lo 1) (hi 1) ++ (MDX g mo rr np fk fn fo en no ou th (s_bg U) xx ra t0 t1 s1 ca cq ch bb wt nx cx pt le sc ss ww xc lo hi xi ++ [OUTc g oa fz])) H locs := hT.eq (by unfold CMX; rw [fore_n (U := U), fore_nd (U := U), fore_bg (U := U), fore_f (U := U), fore_fc (U := U), fore_fs (U := U), fore_r0 (U := U), fore_t0 (U := U), fore_f0 (U := U), fore_r1 (U := U), fore_t1 (U := U), fore_f1 (U := U), fore_nr (U := U), fore_fx (U := U), fore_mp (U := U), fore_ml (U := U), fore_cx (U := U), fore_xi (U := U)])
    refine W.widen (k := 77 + cnt) (n := 107809 + 6 * cnt) (Nat.le_refl _) (Nat.le_refl _) ?_
    refine W.eq (g2 := F0 m 396 ls [.int (chS stA N np fk fo U)]) rfl ?_
    have hT := hT.perm (List.perm_append_comm_assoc _ _ _)
    refine lv_aload_n hx hb dL_law_396 rfl (lv_at hl 2 rfl) ?_
    refine lv_aload_n hx hb dL_law_397 rfl (lv_at hl 0 rfl) ?_
    refine lv_iload hx hb dL_law_398 (lv_at hl 4 rfl) ?_
    refine lv_iconst (v := 1) hx hb dL_law_400 (by decide) ?_
    refine lv_iadd hx hb dL_law_401 ?_
    refine r_sld C hX hbl hbA hT (ix + 1) (nI_add ix 1) (by omega) (by omega) dL_law_402 ?_
    have hM := c_X11_chance l g mo rr th np no (s_bg U) en xx ra t0 t1 s1 ca cq ch stA fk fn fo bb wt nx cx pt le sc ss ww xc lo hi ou xi 0 N U (by decide) hG hr0 hxU
    refine r_callP (lc := MDX g mo rr np fk fn fo en no ou th (s_bg U) xx ra t0 t1 s1 ca cq ch bb wt nx cx pt le sc ss ww xc lo hi xi) (B := CMX g ad bd N np fk fn fo (foreS stA N np fk fo U) V code cp en no ou wl wh (lo 1) (hi 1) ++ [OUTc g oa fz]) (As := [.int (nI 0)]) (n := 1) (q1 := 0) (rest := [.int (chS stA N np fk fo U)]) C hT hM k982 k983 k984 k15 k985 (by decide +kernel) rfl rfl rfl (by rw [hs0]; rfl) (Nat.le_of_ble_eq_true rfl) hl.1 ⟨Nat.le_of_ble_eq_true rfl, Nat.le_of_ble_eq_true rfl⟩ ⟨by show 77 + cnt + 0 ≤ 600384; omega, by show 107809 + 6 * cnt + 0 ≤ 7288888; omega⟩ dL_law_403 (fun _ => mdL_fst.trans mdL_fst.symm) (fun u H locs hT => ?_)
    obtain ⟨⟨t02, t12, s12, ca2, cq2, ch2, xi2⟩, r_hok⟩ := u
    have m_hok : True := r_hok
    replace hT : Wd g A s (MDX g mo rr np fk fn fo en no ou 0 (s_bg U) xx ra t02 t12 s12 ca2 cq2 ch2 bb wt nx cx pt le sc ss ww xc lo hi xi2 ++ (CMX g ad bd N np fk fn fo (foreS stA N np fk fo U) V code cp en no ou wl wh (lo 1) (hi 1) ++ [OUTc g oa fz])) H locs := hT
    refine W.widen (k := 77 + cnt) (n := 107809 + 6 * cnt) (Nat.le_refl _) (Nat.le_refl _) ?_
    refine W.eq (g2 := F0 m 406 ls [.int (chS stA N np fk fo U), .int (chS stA N np fk fo U)]) rfl ?_
    clear r_hok
    have hT := hT.perm (List.perm_append_comm_assoc _ _ _)
    refine lv_icmp_eq (tgt := 751) hx hb dL_law_406 (by decide) (fun h => ?_) (fun h => ?_)
    · refine W.widen (k := 77 + (cnt + 1)) (n := 107809 + 6 * (cnt + 1)) (by omega) (by omega) ?_
      exact kk np fk fn fo (foreS stA N np fk fo U) V code cp en no ou wl wh (lo 1) (hi 1) 0 (s_bg U) xx ra t02 t12 s12 ca2 cq2 ch2 bb wt nx cx pt le sc ss ww xc lo hi xi2 fz H locs ls (I_fore0 hI) hT hl
    · exact absurd (rfl) h
  · skip
    by_cases hs1 : xs (ix + 1) = 1
    · skip
      refine lv_aload_n hx hb dL_law_386 rfl (lv_at hl 1 rfl) ?_
      refine lv_aload_n hx hb dL_law_387 rfl (lv_at hl 0 rfl) ?_
      refine lv_iload hx hb dL_law_388 (lv_at hl 4 rfl) ?_
      refine lv_iconst (v := 1) hx hb dL_law_390 (by decide) ?_
      refine lv_iadd hx hb dL_law_391 ?_
      refine r_sld C hX hbl hbA hT (ix + 1) (nI_add ix 1) (by omega) (by omega) dL_law_392 ?_
      have hM := c_X10_chance_1 l g ad bd np fk fn fo stA N U V code cp en no ou wl wh (lo 1) (hi 1) rr (xs (ix + 1)) hG hxV.1 hs1
      refine r_callP (lc := CMX g ad bd N np fk fn fo U V code cp en no ou wl wh (lo 1) (hi 1)) (B := MDX g mo rr np fk fn fo en no ou th (s_bg U) xx ra t0 t1 s1 ca cq ch bb wt nx cx pt le sc ss ww xc lo hi xi ++ [OUTc g oa fz]) (As := [.int (xs (ix + 1))]) (n := 1) (q1 := 52) (rest := []) C hT hM k568 k569 k570 k1 k571 (by decide +kernel) rfl rfl rfl rfl (Nat.le_of_ble_eq_true rfl) hl.1 ⟨Nat.le_of_ble_eq_true rfl, Nat.le_of_ble_eq_true rfl⟩ ⟨by show 77 + cnt + 0 ≤ 600384; omega, by show 107809 + 6 * cnt + 0 ≤ 7288888; omega⟩ dL_law_393 (fun _ => cmL_fst.trans cmL_fst.symm) (fun u H locs hT => ?_)
      have hT : Wd g A s (CMX g ad bd N np fk fn fo U (foreS stA N np fk fo V) code cp en no ou wl wh (lo 1) (hi 1) ++ (MDX g mo rr np fk fn fo en no ou th (s_bg U) xx ra t0 t1 s1 ca cq ch bb wt nx cx pt le sc ss ww xc lo hi xi ++ [OUTc g oa fz])) H locs := hT.eq (by unfold CMX; rw [fore_n (U := V), fore_nd (U := V), fore_bg (U := V), fore_f (U := V), fore_fc (U := V), fore_fs (U := V), fore_r0 (U := V), fore_t0 (U := V), fore_f0 (U := V), fore_r1 (U := V), fore_t1 (U := V), fore_f1 (U := V), fore_nr (U := V), fore_fx (U := V), fore_mp (U := V), fore_ml (U := V), fore_cx (U := V), fore_xi (U := V)])
      refine W.widen (k := 77 + cnt) (n := 107809 + 6 * cnt) (Nat.le_refl _) (Nat.le_refl _) ?_
      refine W.eq (g2 := F0 m 396 ls [.int (chS stA N np fk fo V)]) rfl ?_
      have hT := hT.perm (List.perm_append_comm_assoc _ _ _)
      refine lv_aload_n hx hb dL_law_396 rfl (lv_at hl 2 rfl) ?_
      refine lv_aload_n hx hb dL_law_397 rfl (lv_at hl 0 rfl) ?_
      refine lv_iload hx hb dL_law_398 (lv_at hl 4 rfl) ?_
      refine lv_iconst (v := 1) hx hb dL_law_400 (by decide) ?_
      refine lv_iadd hx hb dL_law_401 ?_
      refine r_sld C hX hbl hbA hT (ix + 1) (nI_add ix 1) (by omega) (by omega) dL_law_402 ?_
      have hM := c_X11_chance l g mo rr th np no (s_bg U) en xx ra t0 t1 s1 ca cq ch stA fk fn fo bb wt nx cx pt le sc ss ww xc lo hi ou xi 1 N V (by decide) hG hr1 hxV
      refine r_callP (lc := MDX g mo rr np fk fn fo en no ou th (s_bg U) xx ra t0 t1 s1 ca cq ch bb wt nx cx pt le sc ss ww xc lo hi xi) (B := CMX g ad bd N np fk fn fo U (foreS stA N np fk fo V) code cp en no ou wl wh (lo 1) (hi 1) ++ [OUTc g oa fz]) (As := [.int (nI 1)]) (n := 1) (q1 := 0) (rest := [.int (chS stA N np fk fo V)]) C hT hM k982 k983 k984 k15 k985 (by decide +kernel) rfl rfl rfl (by rw [hs1]; rfl) (Nat.le_of_ble_eq_true rfl) hl.1 ⟨Nat.le_of_ble_eq_true rfl, Nat.le_of_ble_eq_true rfl⟩ ⟨by show 77 + cnt + 0 ≤ 600384; omega, by show 107809 + 6 * cnt + 0 ≤ 7288888; omega⟩ dL_law_403 (fun _ => mdL_fst.trans mdL_fst.symm) (fun u H locs hT => ?_)
      obtain ⟨⟨t02, t12, s12, ca2, cq2, ch2, xi2⟩, r_hok⟩ := u
      have m_hok : True := r_hok
      replace hT : Wd g A s (MDX g mo rr np fk fn fo en no ou 0 (s_bg U) xx ra t02 t12 s12 ca2 cq2 ch2 bb wt nx cx pt le sc ss ww xc lo hi xi2 ++ (CMX g ad bd N np fk fn fo U (foreS stA N np fk fo V) code cp en no ou wl wh (lo 1) (hi 1) ++ [OUTc g oa fz])) H locs := hT
      refine W.widen (k := 77 + cnt) (n := 107809 + 6 * cnt) (Nat.le_refl _) (Nat.le_refl _) ?_
      refine W.eq (g2 := F0 m 406 ls [.int (chS stA N np fk fo V), .int (chS stA N np fk fo V)]) rfl ?_
      clear r_hok
      have hT := hT.perm (List.perm_append_comm_assoc _ _ _)
      refine lv_icmp_eq (tgt := 751) hx hb dL_law_406 (by decide) (fun h => ?_) (fun h => ?_)
      · refine W.widen (k := 77 + (cnt + 1)) (n := 107809 + 6 * (cnt + 1)) (by omega) (by omega) ?_
        exact kk np fk fn fo U (foreS stA N np fk fo V) code cp en no ou wl wh (lo 1) (hi 1) 0 (s_bg U) xx ra t02 t12 s12 ca2 cq2 ch2 bb wt nx cx pt le sc ss ww xc lo hi xi2 fz H locs ls (I_fore1 hI) hT hl
      · exact absurd (rfl) h
    · skip
      refine lv_aload_n hx hb dL_law_386 rfl (lv_at hl 1 rfl) ?_
      refine lv_aload_n hx hb dL_law_387 rfl (lv_at hl 0 rfl) ?_
      refine lv_iload hx hb dL_law_388 (lv_at hl 4 rfl) ?_
      refine lv_iconst (v := 1) hx hb dL_law_390 (by decide) ?_
      refine lv_iadd hx hb dL_law_391 ?_
      refine r_sld C hX hbl hbA hT (ix + 1) (nI_add ix 1) (by omega) (by omega) dL_law_392 ?_
      have hM := c_X10_chance_n l g ad bd np fk fn fo stA N U V code cp en no ou wl wh (lo 1) (hi 1) (xs (ix + 1)) hs0 hs1
      refine r_callP (lc := CMX g ad bd N np fk fn fo U V code cp en no ou wl wh (lo 1) (hi 1)) (B := MDX g mo rr np fk fn fo en no ou th (s_bg U) xx ra t0 t1 s1 ca cq ch bb wt nx cx pt le sc ss ww xc lo hi xi ++ [OUTc g oa fz]) (As := [.int (xs (ix + 1))]) (n := 1) (q1 := 52) (rest := []) C hT hM k568 k569 k570 k1 k571 (by decide +kernel) rfl rfl rfl rfl (Nat.le_of_ble_eq_true rfl) hl.1 ⟨Nat.le_of_ble_eq_true rfl, Nat.le_of_ble_eq_true rfl⟩ ⟨by show 77 + cnt + 0 ≤ 600384; omega, by show 107809 + 6 * cnt + 0 ≤ 7288888; omega⟩ dL_law_393 (fun _ => cmL_fst.trans cmL_fst.symm) (fun u H locs hT => ?_)
      have hT : Wd g A s (CMX g ad bd N np fk fn fo U V code cp en no ou wl wh (lo 1) (hi 1) ++ (MDX g mo rr np fk fn fo en no ou th (s_bg U) xx ra t0 t1 s1 ca cq ch bb wt nx cx pt le sc ss ww xc lo hi xi ++ [OUTc g oa fz])) H locs := hT
      refine W.widen (k := 77 + cnt) (n := 107809 + 6 * cnt) (Nat.le_refl _) (Nat.le_refl _) ?_
      refine W.eq (g2 := F0 m 396 ls [.int (-1)]) rfl ?_
      have hT := hT.perm (List.perm_append_comm_assoc _ _ _)
      refine lv_aload_n hx hb dL_law_396 rfl (lv_at hl 2 rfl) ?_
      refine lv_aload_n hx hb dL_law_397 rfl (lv_at hl 0 rfl) ?_
      refine lv_iload hx hb dL_law_398 (lv_at hl 4 rfl) ?_
      refine lv_iconst (v := 1) hx hb dL_law_400 (by decide) ?_
      refine lv_iadd hx hb dL_law_401 ?_
      refine r_sld C hX hbl hbA hT (ix + 1) (nI_add ix 1) (by omega) (by omega) dL_law_402 ?_
      have hM := c_X11_chance_n l g mo rr th np no (s_bg U) en xx ra t0 t1 s1 ca cq ch stA fk fn fo bb wt nx cx pt le sc ss ww xc lo hi ou xi (xs (ix + 1)) hs0 hs1
      refine r_callP (lc := MDX g mo rr np fk fn fo en no ou th (s_bg U) xx ra t0 t1 s1 ca cq ch bb wt nx cx pt le sc ss ww xc lo hi xi) (B := CMX g ad bd N np fk fn fo U V code cp en no ou wl wh (lo 1) (hi 1) ++ [OUTc g oa fz]) (As := [.int (xs (ix + 1))]) (n := 1) (q1 := 0) (rest := [.int (-1)]) C hT hM k982 k983 k984 k15 k985 (by decide +kernel) rfl rfl rfl rfl (Nat.le_of_ble_eq_true rfl) hl.1 ⟨Nat.le_of_ble_eq_true rfl, Nat.le_of_ble_eq_true rfl⟩ ⟨by show 77 + cnt + 0 ≤ 600384; omega, by show 107809 + 6 * cnt + 0 ≤ 7288888; omega⟩ dL_law_403 (fun _ => mdL_fst.trans mdL_fst.symm) (fun u H locs hT => ?_)
      have hT : Wd g A s (MDX g mo rr np fk fn fo en no ou 0 (s_bg U) xx ra t0 t1 s1 ca cq ch bb wt nx cx pt le sc ss ww xc lo hi xi ++ (CMX g ad bd N np fk fn fo U V code cp en no ou wl wh (lo 1) (hi 1) ++ [OUTc g oa fz])) H locs := hT
      refine W.widen (k := 77 + cnt) (n := 107809 + 6 * cnt) (Nat.le_refl _) (Nat.le_refl _) ?_
      refine W.eq (g2 := F0 m 406 ls [.int (-1), .int (-1)]) rfl ?_
      have hT := hT.perm (List.perm_append_comm_assoc _ _ _)
      refine lv_icmp_eq (tgt := 751) hx hb dL_law_406 (by decide) (fun h => ?_) (fun h => ?_)
      · refine W.widen (k := 77 + (cnt + 1)) (n := 107809 + 6 * (cnt + 1)) (by omega) (by omega) ?_
        exact kk np fk fn fo U V code cp en no ou wl wh (lo 1) (hi 1) 0 (s_bg U) xx ra t0 t1 s1 ca cq ch bb wt nx cx pt le sc ss ww xc lo hi xi fz H locs ls (I_mono hI) hT hl
      · exact absurd (rfl) h

set_option maxHeartbeats 1000000 in
set_option maxRecDepth 100000 in
theorem law_input {p : Program} {l : Launch} {e : Env} {s : State} {m : MethodId} {below : List Frame} {meth : Method} {c : Code} {Q : State → Prop} {g : GT} {A : Nat → Prop} {ad bd mo : Nat → Nat} {oa b L N rr ix cnt : Nat} {xs : Nat → Int32} (hl9 : l.stackTraces = false) (X : LC p s m meth c g A b L xs) (hL : L ≤ 321) (hi5 : ix + 5 ≤ L) (hc : cnt < 64) (kk : LK p l e s m b below meth c Q g A ad bd mo oa N rr ix (cnt + 1) 751) : LK p l e s m b below meth c Q g A ad bd mo oa N rr ix cnt 411 := by
  obtain ⟨C, hX, hbl, hbA, hXS⟩ := X
  have hx := C.x
  have hb := C.b
  intro np fk fn fo U V code cp en no ou wl wh rl rh th bt xx ra t0 t1 s1 ca cq ch bb wt nx cx pt le sc ss ww xc lo hi xi fz H locs ls hI hT hl
  obtain ⟨⟨hG, h6⟩, ⟨hr0, hr1⟩, ⟨hxU, hxV⟩, ⟨hf1, hf2⟩, ⟨n1, n2, n3, n4⟩, ⟨o1, o2, o3, o4, o5, o6⟩, hE1, hE0, hE2⟩ := id hI
  subst o4
  subst o5
  subst o6
  have hnp := hG.1
  have hN := hG.2.1
  have hrr := hG.2.2.1
  have hN4 : N ≤ 4096 := by rw [hN]; exact Nat.pow_le_pow_right (i := rr) (j := 12) (by decide) hrr
  have hbgU := hxU.1.2.2.1
  have hbgV := hxV.1.2.2.1
  by_cases hs0 : xs (ix + 1) = 0
  · skip
    refine lv_aload_n hx hb dL_law_411 rfl (lv_at hl 1 rfl) ?_
    refine lv_aload_n hx hb dL_law_412 rfl (lv_at hl 0 rfl) ?_
    refine lv_iload hx hb dL_law_413 (lv_at hl 4 rfl) ?_
    refine lv_iconst (v := 1) hx hb dL_law_415 (by decide) ?_
    refine lv_iadd hx hb dL_law_416 ?_
    refine r_sld C hX hbl hbA hT (ix + 1) (nI_add ix 1) (by omega) (by omega) dL_law_417 ?_
    refine lv_aload_n hx hb dL_law_418 rfl (lv_at hl 0 rfl) ?_
    refine lv_iload hx hb dL_law_419 (lv_at hl 4 rfl) ?_
    refine lv_iconst (v := 2) hx hb dL_law_421 (by decide) ?_
    refine lv_iadd hx hb dL_law_422 ?_
    refine r_sld C hX hbl hbA hT (ix + 2) (nI_add ix 2) (by omega) (by omega) dL_law_423 ?_
    have hM := c_X10_input_0 l g ad bd np fk fn fo stA N U V code cp en no ou wl wh (lo 1) (hi 1) rr (xs (ix + 1)) (xs (ix + 2)) hG hxU.1 hs0
    refine r_callP (lc := CMX g ad bd N np fk fn fo U V code cp en no ou wl wh (lo 1) (hi 1)) (B := MDX g mo rr np fk fn fo en no ou th (s_bg U) xx ra t0 t1 s1 ca cq ch bb wt nx cx pt le sc ss ww xc lo hi xi ++ [OUTc g oa fz]) (As := [.int (xs (ix + 1)), .int (xs (ix + 2))]) (n := 2) (q1 := 52) (rest := []) C hT hM k576 k577 k578 k1 k579 (by decide +kernel) rfl rfl rfl rfl (Nat.le_of_ble_eq_true rfl) hl.1 ⟨Nat.le_of_ble_eq_true rfl, Nat.le_of_ble_eq_true rfl⟩ ⟨by show 77 + cnt + 0 ≤ 600384; omega, by show 107809 + 6 * cnt + 0 ≤ 7288888; omega⟩ dL_law_424 (fun _ => cmL_fst.trans cmL_fst.symm) (fun u H locs hT => ?_)
    have hT : Wd g A s (CMX g ad bd N np fk fn fo U V code cp en no ou wl wh (lo 1) (hi 1) ++ (MDX g mo rr np fk fn fo en no ou th (s_bg U) xx ra t0 t1 s1 ca cq ch bb wt nx cx pt le sc ss ww xc lo hi xi ++ [OUTc g oa fz])) H locs := hT
    refine W.widen (k := 77 + cnt) (n := 107809 + 6 * cnt) (Nat.le_refl _) (Nat.le_refl _) ?_
    refine W.eq (g2 := F0 m 427 ls [.int (if inR (xs (ix + 2)) np = true then inS stA N fk fo U (xs (ix + 2)).toNatClampNeg else (-9999))]) rfl ?_
    have hT := hT.perm (List.perm_append_comm_assoc _ _ _)
    refine lv_aload_n hx hb dL_law_427 rfl (lv_at hl 2 rfl) ?_
    refine lv_aload_n hx hb dL_law_428 rfl (lv_at hl 0 rfl) ?_
    refine lv_iload hx hb dL_law_429 (lv_at hl 4 rfl) ?_
    refine lv_iconst (v := 1) hx hb dL_law_431 (by decide) ?_
    refine lv_iadd hx hb dL_law_432 ?_
    refine r_sld C hX hbl hbA hT (ix + 1) (nI_add ix 1) (by omega) (by omega) dL_law_433 ?_
    refine lv_aload_n hx hb dL_law_434 rfl (lv_at hl 0 rfl) ?_
    refine lv_iload hx hb dL_law_435 (lv_at hl 4 rfl) ?_
    refine lv_iconst (v := 2) hx hb dL_law_437 (by decide) ?_
    refine lv_iadd hx hb dL_law_438 ?_
    refine r_sld C hX hbl hbA hT (ix + 2) (nI_add ix 2) (by omega) (by omega) dL_law_439 ?_
    have hM := c_X11_input l g mo rr th np no (s_bg U) en xx ra t0 t1 s1 ca cq ch stA fk fn fo bb wt nx cx pt le sc ss ww xc lo hi ou xi 0 N U (xs (ix + 2)) (by decide) hG hr0 hxU
    refine r_callP (lc := MDX g mo rr np fk fn fo en no ou th (s_bg U) xx ra t0 t1 s1 ca cq ch bb wt nx cx pt le sc ss ww xc lo hi xi) (B := CMX g ad bd N np fk fn fo U V code cp en no ou wl wh (lo 1) (hi 1) ++ [OUTc g oa fz]) (As := [.int (nI 0), .int (xs (ix + 2))]) (n := 2) (q1 := 0) (rest := [.int (if inR (xs (ix + 2)) np = true then inS stA N fk fo U (xs (ix + 2)).toNatClampNeg else (-9999))]) C hT hM k989 k990 k991 k15 k992 (by decide +kernel) rfl rfl rfl (by rw [hs0]; rfl) (Nat.le_of_ble_eq_true rfl) hl.1 ⟨Nat.le_of_ble_eq_true rfl, Nat.le_of_ble_eq_true rfl⟩ ⟨by show 77 + cnt + 0 ≤ 600384; omega, by show 107809 + 6 * cnt + 0 ≤ 7288888; omega⟩ dL_law_440 (fun _ => mdL_fst.trans mdL_fst.symm) (fun u H locs hT => ?_)
    have hT : Wd g A s (MDX g mo rr np fk fn fo en no ou 0 (s_bg U) xx ra t0 t1 s1 ca cq ch bb wt nx cx pt le sc ss ww xc lo hi xi ++ (CMX g ad bd N np fk fn fo U V code cp en no ou wl wh (lo 1) (hi 1) ++ [OUTc g oa fz])) H locs := hT
    refine W.widen (k := 77 + cnt) (n := 107809 + 6 * cnt) (Nat.le_refl _) (Nat.le_refl _) ?_
    refine W.eq (g2 := F0 m 443 ls [.int (if inR (xs (ix + 2)) np = true then inS stA N fk fo U (xs (ix + 2)).toNatClampNeg else (-9999)), .int (if inR (xs (ix + 2)) np = true then inS stA N fk fo U (xs (ix + 2)).toNatClampNeg else (-9999))]) rfl ?_
    have hT := hT.perm (List.perm_append_comm_assoc _ _ _)
    refine lv_icmp_eq (tgt := 751) hx hb dL_law_443 (by decide) (fun h => ?_) (fun h => ?_)
    · refine W.widen (k := 77 + (cnt + 1)) (n := 107809 + 6 * (cnt + 1)) (by omega) (by omega) ?_
      exact kk np fk fn fo U V code cp en no ou wl wh (lo 1) (hi 1) 0 (s_bg U) xx ra t0 t1 s1 ca cq ch bb wt nx cx pt le sc ss ww xc lo hi xi fz H locs ls (I_mono hI) hT hl
    · exact absurd (rfl) h
  · skip
    by_cases hs1 : xs (ix + 1) = 1
    · skip
      refine lv_aload_n hx hb dL_law_411 rfl (lv_at hl 1 rfl) ?_
      refine lv_aload_n hx hb dL_law_412 rfl (lv_at hl 0 rfl) ?_
      refine lv_iload hx hb dL_law_413 (lv_at hl 4 rfl) ?_
      refine lv_iconst (v := 1) hx hb dL_law_415 (by decide) ?_
      refine lv_iadd hx hb dL_law_416 ?_
      refine r_sld C hX hbl hbA hT (ix + 1) (nI_add ix 1) (by omega) (by omega) dL_law_417 ?_
      refine lv_aload_n hx hb dL_law_418 rfl (lv_at hl 0 rfl) ?_
      refine lv_iload hx hb dL_law_419 (lv_at hl 4 rfl) ?_
      refine lv_iconst (v := 2) hx hb dL_law_421 (by decide) ?_
      refine lv_iadd hx hb dL_law_422 ?_
      refine r_sld C hX hbl hbA hT (ix + 2) (nI_add ix 2) (by omega) (by omega) dL_law_423 ?_
      have hM := c_X10_input_1 l g ad bd np fk fn fo stA N U V code cp en no ou wl wh (lo 1) (hi 1) rr (xs (ix + 1)) (xs (ix + 2)) hG hxV.1 hs1
      refine r_callP (lc := CMX g ad bd N np fk fn fo U V code cp en no ou wl wh (lo 1) (hi 1)) (B := MDX g mo rr np fk fn fo en no ou th (s_bg U) xx ra t0 t1 s1 ca cq ch bb wt nx cx pt le sc ss ww xc lo hi xi ++ [OUTc g oa fz]) (As := [.int (xs (ix + 1)), .int (xs (ix + 2))]) (n := 2) (q1 := 52) (rest := []) C hT hM k576 k577 k578 k1 k579 (by decide +kernel) rfl rfl rfl rfl (Nat.le_of_ble_eq_true rfl) hl.1 ⟨Nat.le_of_ble_eq_true rfl, Nat.le_of_ble_eq_true rfl⟩ ⟨by show 77 + cnt + 0 ≤ 600384; omega, by show 107809 + 6 * cnt + 0 ≤ 7288888; omega⟩ dL_law_424 (fun _ => cmL_fst.trans cmL_fst.symm) (fun u H locs hT => ?_)
      have hT : Wd g A s (CMX g ad bd N np fk fn fo U V code cp en no ou wl wh (lo 1) (hi 1) ++ (MDX g mo rr np fk fn fo en no ou th (s_bg U) xx ra t0 t1 s1 ca cq ch bb wt nx cx pt le sc ss ww xc lo hi xi ++ [OUTc g oa fz])) H locs := hT
      refine W.widen (k := 77 + cnt) (n := 107809 + 6 * cnt) (Nat.le_refl _) (Nat.le_refl _) ?_
      refine W.eq (g2 := F0 m 427 ls [.int (if inR (xs (ix + 2)) np = true then inS stA N fk fo V (xs (ix + 2)).toNatClampNeg else (-9999))]) rfl ?_
      have hT := hT.perm (List.perm_append_comm_assoc _ _ _)
      refine lv_aload_n hx hb dL_law_427 rfl (lv_at hl 2 rfl) ?_
      refine lv_aload_n hx hb dL_law_428 rfl (lv_at hl 0 rfl) ?_
      refine lv_iload hx hb dL_law_429 (lv_at hl 4 rfl) ?_
      refine lv_iconst (v := 1) hx hb dL_law_431 (by decide) ?_
      refine lv_iadd hx hb dL_law_432 ?_
      refine r_sld C hX hbl hbA hT (ix + 1) (nI_add ix 1) (by omega) (by omega) dL_law_433 ?_
      refine lv_aload_n hx hb dL_law_434 rfl (lv_at hl 0 rfl) ?_
      refine lv_iload hx hb dL_law_435 (lv_at hl 4 rfl) ?_
      refine lv_iconst (v := 2) hx hb dL_law_437 (by decide) ?_
      refine lv_iadd hx hb dL_law_438 ?_
      refine r_sld C hX hbl hbA hT (ix + 2) (nI_add ix 2) (by omega) (by omega) dL_law_439 ?_
      have hM := c_X11_input l g mo rr th np no (s_bg U) en xx ra t0 t1 s1 ca cq ch stA fk fn fo bb wt nx cx pt le sc ss ww xc lo hi ou xi 1 N V (xs (ix + 2)) (by decide) hG hr1 hxV
      refine r_callP (lc := MDX g mo rr np fk fn fo en no ou th (s_bg U) xx ra t0 t1 s1 ca cq ch bb wt nx cx pt le sc ss ww xc lo hi xi) (B := CMX g ad bd N np fk fn fo U V code cp en no ou wl wh (lo 1) (hi 1) ++ [OUTc g oa fz]) (As := [.int (nI 1), .int (xs (ix + 2))]) (n := 2) (q1 := 0) (rest := [.int (if inR (xs (ix + 2)) np = true then inS stA N fk fo V (xs (ix + 2)).toNatClampNeg else (-9999))]) C hT hM k989 k990 k991 k15 k992 (by decide +kernel) rfl rfl rfl (by rw [hs1]; rfl) (Nat.le_of_ble_eq_true rfl) hl.1 ⟨Nat.le_of_ble_eq_true rfl, Nat.le_of_ble_eq_true rfl⟩ ⟨by show 77 + cnt + 0 ≤ 600384; omega, by show 107809 + 6 * cnt + 0 ≤ 7288888; omega⟩ dL_law_440 (fun _ => mdL_fst.trans mdL_fst.symm) (fun u H locs hT => ?_)
      have hT : Wd g A s (MDX g mo rr np fk fn fo en no ou 0 (s_bg U) xx ra t0 t1 s1 ca cq ch bb wt nx cx pt le sc ss ww xc lo hi xi ++ (CMX g ad bd N np fk fn fo U V code cp en no ou wl wh (lo 1) (hi 1) ++ [OUTc g oa fz])) H locs := hT
      refine W.widen (k := 77 + cnt) (n := 107809 + 6 * cnt) (Nat.le_refl _) (Nat.le_refl _) ?_
      refine W.eq (g2 := F0 m 443 ls [.int (if inR (xs (ix + 2)) np = true then inS stA N fk fo V (xs (ix + 2)).toNatClampNeg else (-9999)), .int (if inR (xs (ix + 2)) np = true then inS stA N fk fo V (xs (ix + 2)).toNatClampNeg else (-9999))]) rfl ?_
      have hT := hT.perm (List.perm_append_comm_assoc _ _ _)
      refine lv_icmp_eq (tgt := 751) hx hb dL_law_443 (by decide) (fun h => ?_) (fun h => ?_)
      · refine W.widen (k := 77 + (cnt + 1)) (n := 107809 + 6 * (cnt + 1)) (by omega) (by omega) ?_
        exact kk np fk fn fo U V code cp en no ou wl wh (lo 1) (hi 1) 0 (s_bg U) xx ra t0 t1 s1 ca cq ch bb wt nx cx pt le sc ss ww xc lo hi xi fz H locs ls (I_mono hI) hT hl
      · exact absurd (rfl) h
    · skip
      refine lv_aload_n hx hb dL_law_411 rfl (lv_at hl 1 rfl) ?_
      refine lv_aload_n hx hb dL_law_412 rfl (lv_at hl 0 rfl) ?_
      refine lv_iload hx hb dL_law_413 (lv_at hl 4 rfl) ?_
      refine lv_iconst (v := 1) hx hb dL_law_415 (by decide) ?_
      refine lv_iadd hx hb dL_law_416 ?_
      refine r_sld C hX hbl hbA hT (ix + 1) (nI_add ix 1) (by omega) (by omega) dL_law_417 ?_
      refine lv_aload_n hx hb dL_law_418 rfl (lv_at hl 0 rfl) ?_
      refine lv_iload hx hb dL_law_419 (lv_at hl 4 rfl) ?_
      refine lv_iconst (v := 2) hx hb dL_law_421 (by decide) ?_
      refine lv_iadd hx hb dL_law_422 ?_
      refine r_sld C hX hbl hbA hT (ix + 2) (nI_add ix 2) (by omega) (by omega) dL_law_423 ?_
      have hM := c_X10_input_n l g ad bd np fk fn fo stA N U V code cp en no ou wl wh (lo 1) (hi 1) (xs (ix + 1)) (xs (ix + 2)) hs0 hs1
      refine r_callP (lc := CMX g ad bd N np fk fn fo U V code cp en no ou wl wh (lo 1) (hi 1)) (B := MDX g mo rr np fk fn fo en no ou th (s_bg U) xx ra t0 t1 s1 ca cq ch bb wt nx cx pt le sc ss ww xc lo hi xi ++ [OUTc g oa fz]) (As := [.int (xs (ix + 1)), .int (xs (ix + 2))]) (n := 2) (q1 := 52) (rest := []) C hT hM k576 k577 k578 k1 k579 (by decide +kernel) rfl rfl rfl rfl (Nat.le_of_ble_eq_true rfl) hl.1 ⟨Nat.le_of_ble_eq_true rfl, Nat.le_of_ble_eq_true rfl⟩ ⟨by show 77 + cnt + 0 ≤ 600384; omega, by show 107809 + 6 * cnt + 0 ≤ 7288888; omega⟩ dL_law_424 (fun _ => cmL_fst.trans cmL_fst.symm) (fun u H locs hT => ?_)
      have hT : Wd g A s (CMX g ad bd N np fk fn fo U V code cp en no ou wl wh (lo 1) (hi 1) ++ (MDX g mo rr np fk fn fo en no ou th (s_bg U) xx ra t0 t1 s1 ca cq ch bb wt nx cx pt le sc ss ww xc lo hi xi ++ [OUTc g oa fz])) H locs := hT
      refine W.widen (k := 77 + cnt) (n := 107809 + 6 * cnt) (Nat.le_refl _) (Nat.le_refl _) ?_
      refine W.eq (g2 := F0 m 427 ls [.int (-9999)]) rfl ?_
      have hT := hT.perm (List.perm_append_comm_assoc _ _ _)
      refine lv_aload_n hx hb dL_law_427 rfl (lv_at hl 2 rfl) ?_
      refine lv_aload_n hx hb dL_law_428 rfl (lv_at hl 0 rfl) ?_
      refine lv_iload hx hb dL_law_429 (lv_at hl 4 rfl) ?_
      refine lv_iconst (v := 1) hx hb dL_law_431 (by decide) ?_
      refine lv_iadd hx hb dL_law_432 ?_
      refine r_sld C hX hbl hbA hT (ix + 1) (nI_add ix 1) (by omega) (by omega) dL_law_433 ?_
      refine lv_aload_n hx hb dL_law_434 rfl (lv_at hl 0 rfl) ?_
      refine lv_iload hx hb dL_law_435 (lv_at hl 4 rfl) ?_
      refine lv_iconst (v := 2) hx hb dL_law_437 (by decide) ?_
      refine lv_iadd hx hb dL_law_438 ?_
      refine r_sld C hX hbl hbA hT (ix + 2) (nI_add ix 2) (by omega) (by omega) dL_law_439 ?_
      have hM := c_X11_input_n l g mo rr th np no (s_bg U) en xx ra t0 t1 s1 ca cq ch stA fk fn fo bb wt nx cx pt le sc ss ww xc lo hi ou xi (xs (ix + 1)) (xs (ix + 2)) hs0 hs1
      refine r_callP (lc := MDX g mo rr np fk fn fo en no ou th (s_bg U) xx ra t0 t1 s1 ca cq ch bb wt nx cx pt le sc ss ww xc lo hi xi) (B := CMX g ad bd N np fk fn fo U V code cp en no ou wl wh (lo 1) (hi 1) ++ [OUTc g oa fz]) (As := [.int (xs (ix + 1)), .int (xs (ix + 2))]) (n := 2) (q1 := 0) (rest := [.int (-9999)]) C hT hM k989 k990 k991 k15 k992 (by decide +kernel) rfl rfl rfl rfl (Nat.le_of_ble_eq_true rfl) hl.1 ⟨Nat.le_of_ble_eq_true rfl, Nat.le_of_ble_eq_true rfl⟩ ⟨by show 77 + cnt + 0 ≤ 600384; omega, by show 107809 + 6 * cnt + 0 ≤ 7288888; omega⟩ dL_law_440 (fun _ => mdL_fst.trans mdL_fst.symm) (fun u H locs hT => ?_)
      have hT : Wd g A s (MDX g mo rr np fk fn fo en no ou 0 (s_bg U) xx ra t0 t1 s1 ca cq ch bb wt nx cx pt le sc ss ww xc lo hi xi ++ (CMX g ad bd N np fk fn fo U V code cp en no ou wl wh (lo 1) (hi 1) ++ [OUTc g oa fz])) H locs := hT
      refine W.widen (k := 77 + cnt) (n := 107809 + 6 * cnt) (Nat.le_refl _) (Nat.le_refl _) ?_
      refine W.eq (g2 := F0 m 443 ls [.int (-9999), .int (-9999)]) rfl ?_
      have hT := hT.perm (List.perm_append_comm_assoc _ _ _)
      refine lv_icmp_eq (tgt := 751) hx hb dL_law_443 (by decide) (fun h => ?_) (fun h => ?_)
      · refine W.widen (k := 77 + (cnt + 1)) (n := 107809 + 6 * (cnt + 1)) (by omega) (by omega) ?_
        exact kk np fk fn fo U V code cp en no ou wl wh (lo 1) (hi 1) 0 (s_bg U) xx ra t0 t1 s1 ca cq ch bb wt nx cx pt le sc ss ww xc lo hi xi fz H locs ls (I_mono hI) hT hl
      · exact absurd (rfl) h
