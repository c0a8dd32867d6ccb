set_option maxHeartbeats 1000000 in
set_option maxRecDepth 100000 in
theorem law_predictor {p : Program} {l : Launch} {e : Env} {s : State} {m : MethodId} {below : List Frame} {meth : Method} {c : Code} {Q : State → Prop} {g : GT} {A : Nat → Prop} {ad bd mo : Nat → Nat} {oa b L N rr ix cnt : Nat} {xs : Nat → Int32} (hl9 : l.stackTraces = false) (X : LC p s m meth c g A b L xs) (hL : L ≤ 321) (hi5 : ix + 5 ≤ L) (hc : cnt < 64) (kk : LK p l e s m b below meth c Q g A ad bd mo oa N rr ix (cnt + 1) 751) : LK p l e s m b below meth c Q g A ad bd mo oa N rr ix cnt 144 := by
  obtain ⟨C, hX, hbl, hbA, hXS⟩ := X
  have hx := C.x
  have hb := C.b
  intro np fk fn fo U V code cp en no ou wl wh rl rh th bt xx ra t0 t1 s1 ca cq ch bb wt nx cx pt le sc ss ww xc lo hi xi fz H locs ls hI hT hl
  obtain ⟨⟨hG, h6⟩, ⟨hr0, hr1⟩, ⟨hxU, hxV⟩, ⟨hf1, hf2⟩, ⟨n1, n2, n3, n4⟩, ⟨o1, o2, o3, o4, o5, o6⟩, hE1, hE0, hE2⟩ := id hI
  subst o4
  subst o5
  subst o6
  have hnp := hG.1
  have hN := hG.2.1
  have hrr := hG.2.2.1
  have hN4 : N ≤ 4096 := by rw [hN]; exact Nat.pow_le_pow_right (i := rr) (j := 12) (by decide) hrr
  have hbgU := hxU.1.2.2.1
  have hbgV := hxV.1.2.2.1
  by_cases hal : allowB (xs (ix + 1)) (xs (ix + 2)) = false
  · skip
    refine lv_aload_n hx hb dL_law_144 rfl (lv_at hl 1 rfl) ?_
    refine lv_aload_n hx hb dL_law_145 rfl (lv_at hl 0 rfl) ?_
    refine lv_iload hx hb dL_law_146 (lv_at hl 4 rfl) ?_
    refine lv_iconst (v := 1) hx hb dL_law_148 (by decide) ?_
    refine lv_iadd hx hb dL_law_149 ?_
    refine r_sld C hX hbl hbA hT (ix + 1) (nI_add ix 1) (by omega) (by omega) dL_law_150 ?_
    refine lv_aload_n hx hb dL_law_151 rfl (lv_at hl 0 rfl) ?_
    refine lv_iload hx hb dL_law_152 (lv_at hl 4 rfl) ?_
    refine lv_iconst (v := 2) hx hb dL_law_154 (by decide) ?_
    refine lv_iadd hx hb dL_law_155 ?_
    refine r_sld C hX hbl hbA hT (ix + 2) (nI_add ix 2) (by omega) (by omega) dL_law_156 ?_
    have hM := c_X10_predictor_b l g ad bd np fk fn fo stA N U V code cp en no ou wl wh (lo 1) (hi 1) (xs (ix + 1)) (xs (ix + 2)) hal
    refine r_callP (lc := CMX g ad bd N np fk fn fo U V code cp en no ou wl wh (lo 1) (hi 1)) (B := MDX g mo rr np fk fn fo en no ou th (s_bg U) xx ra t0 t1 s1 ca cq ch bb wt nx cx pt le sc ss ww xc lo hi xi ++ [OUTc g oa fz]) (As := [.int (xs (ix + 1)), .int (xs (ix + 2))]) (n := 2) (q1 := 52) (rest := []) C hT hM k284 k285 k286 k1 k287 (by decide +kernel) rfl rfl rfl rfl (Nat.le_of_ble_eq_true rfl) hl.1 ⟨Nat.le_of_ble_eq_true rfl, Nat.le_of_ble_eq_true rfl⟩ ⟨by show 77 + cnt + 0 ≤ 600384; omega, by show 107809 + 6 * cnt + 0 ≤ 7288888; omega⟩ dL_law_157 (fun _ => cmL_fst.trans cmL_fst.symm) (fun u H locs hT => ?_)
    have hT : Wd g A s (CMX g ad bd N np fk fn fo U V code cp en no ou wl wh (lo 1) (hi 1) ++ (MDX g mo rr np fk fn fo en no ou th (s_bg U) xx ra t0 t1 s1 ca cq ch bb wt nx cx pt le sc ss ww xc lo hi xi ++ [OUTc g oa fz])) H locs := hT
    refine W.widen (k := 77 + cnt) (n := 107809 + 6 * cnt) (Nat.le_refl _) (Nat.le_refl _) ?_
    refine W.eq (g2 := F0 m 160 ls [.int (-1)]) rfl ?_
    have hT := hT.perm (List.perm_append_comm_assoc _ _ _)
    refine lv_aload_n hx hb dL_law_160 rfl (lv_at hl 2 rfl) ?_
    refine lv_aload_n hx hb dL_law_161 rfl (lv_at hl 0 rfl) ?_
    refine lv_iload hx hb dL_law_162 (lv_at hl 4 rfl) ?_
    refine lv_iconst (v := 1) hx hb dL_law_164 (by decide) ?_
    refine lv_iadd hx hb dL_law_165 ?_
    refine r_sld C hX hbl hbA hT (ix + 1) (nI_add ix 1) (by omega) (by omega) dL_law_166 ?_
    refine lv_aload_n hx hb dL_law_167 rfl (lv_at hl 0 rfl) ?_
    refine lv_iload hx hb dL_law_168 (lv_at hl 4 rfl) ?_
    refine lv_iconst (v := 2) hx hb dL_law_170 (by decide) ?_
    refine lv_iadd hx hb dL_law_171 ?_
    refine r_sld C hX hbl hbA hT (ix + 2) (nI_add ix 2) (by omega) (by omega) dL_law_172 ?_
    have hM := c_X11_predictor_b l g mo rr th np no (s_bg U) en xx ra t0 t1 s1 ca cq ch stA fk fn fo bb wt nx cx pt le sc ss ww xc lo hi ou xi (xs (ix + 1)) (xs (ix + 2)) hal
    refine r_callP (lc := MDX g mo rr np fk fn fo en no ou th (s_bg U) xx ra t0 t1 s1 ca cq ch bb wt nx cx pt le sc ss ww xc lo hi xi) (B := CMX g ad bd N np fk fn fo U V code cp en no ou wl wh (lo 1) (hi 1) ++ [OUTc g oa fz]) (As := [.int (xs (ix + 1)), .int (xs (ix + 2))]) (n := 2) (q1 := 0) (rest := [.int (-1)]) C hT hM k887 k888 k889 k15 k890 (by decide +kernel) rfl rfl rfl rfl (Nat.le_of_ble_eq_true rfl) hl.1 ⟨Nat.le_of_ble_eq_true rfl, Nat.le_of_ble_eq_true rfl⟩ ⟨by show 77 + cnt + 0 ≤ 600384; omega, by show 107809 + 6 * cnt + 0 ≤ 7288888; omega⟩ dL_law_173 (fun _ => mdL_fst.trans mdL_fst.symm) (fun u H locs hT => ?_)
    have hT : Wd g A s (MDX g mo rr np fk fn fo en no ou 0 (s_bg U) xx ra t0 t1 s1 ca cq ch bb wt nx cx pt le sc ss ww xc lo hi xi ++ (CMX g ad bd N np fk fn fo U V code cp en no ou wl wh (lo 1) (hi 1) ++ [OUTc g oa fz])) H locs := hT
    refine W.widen (k := 77 + cnt) (n := 107809 + 6 * cnt) (Nat.le_refl _) (Nat.le_refl _) ?_
    refine W.eq (g2 := F0 m 176 ls [.int (-1), .int (-1)]) rfl ?_
    have hT := hT.perm (List.perm_append_comm_assoc _ _ _)
    refine lv_icmp_eq (tgt := 751) hx hb dL_law_176 (by decide) (fun h => ?_) (fun h => ?_)
    · refine W.widen (k := 77 + (cnt + 1)) (n := 107809 + 6 * (cnt + 1)) (by omega) (by omega) ?_
      exact kk np fk fn fo U V code cp en no ou wl wh (lo 1) (hi 1) 0 (s_bg U) xx ra t0 t1 s1 ca cq ch bb wt nx cx pt le sc ss ww xc lo hi xi fz H locs ls (I_mono hI) hT hl
    · exact absurd (rfl) h
  · skip
    have hal : allowB (xs (ix + 1)) (xs (ix + 2)) = true := by cases hq : allowB (xs (ix + 1)) (xs (ix + 2)) with | true => rfl | false => exact absurd hq hal
    by_cases hst : en = true ∨ 0 < s_n U ∨ 0 < s_bg U
    · skip
      refine lv_aload_n hx hb dL_law_144 rfl (lv_at hl 1 rfl) ?_
      refine lv_aload_n hx hb dL_law_145 rfl (lv_at hl 0 rfl) ?_
      refine lv_iload hx hb dL_law_146 (lv_at hl 4 rfl) ?_
      refine lv_iconst (v := 1) hx hb dL_law_148 (by decide) ?_
      refine lv_iadd hx hb dL_law_149 ?_
      refine r_sld C hX hbl hbA hT (ix + 1) (nI_add ix 1) (by omega) (by omega) dL_law_150 ?_
      refine lv_aload_n hx hb dL_law_151 rfl (lv_at hl 0 rfl) ?_
      refine lv_iload hx hb dL_law_152 (lv_at hl 4 rfl) ?_
      refine lv_iconst (v := 2) hx hb dL_law_154 (by decide) ?_
      refine lv_iadd hx hb dL_law_155 ?_
      refine r_sld C hX hbl hbA hT (ix + 2) (nI_add ix 2) (by omega) (by omega) dL_law_156 ?_
      have hM := c_X10_predictor_s l g ad bd np fk fn fo stA N U V code cp en no ou wl wh (lo 1) (hi 1) (xs (ix + 1)) (xs (ix + 2)) hal (by omega) (by omega) hst
      refine r_callP (lc := CMX g ad bd N np fk fn fo U V code cp en no ou wl wh (lo 1) (hi 1)) (B := MDX g mo rr np fk fn fo en no ou th (s_bg U) xx ra t0 t1 s1 ca cq ch bb wt nx cx pt le sc ss ww xc lo hi xi ++ [OUTc g oa fz]) (As := [.int (xs (ix + 1)), .int (xs (ix + 2))]) (n := 2) (q1 := 52) (rest := []) C hT hM k284 k285 k286 k1 k287 (by decide +kernel) rfl rfl rfl rfl (Nat.le_of_ble_eq_true rfl) hl.1 ⟨Nat.le_of_ble_eq_true rfl, Nat.le_of_ble_eq_true rfl⟩ ⟨by show 77 + cnt + 0 ≤ 600384; omega, by show 107809 + 6 * cnt + 0 ≤ 7288888; omega⟩ dL_law_157 (fun _ => cmL_fst.trans cmL_fst.symm) (fun u H locs hT => ?_)
      have hT : Wd g A s (CMX g ad bd N np fk fn fo U V code cp en no ou wl wh (lo 1) (hi 1) ++ (MDX g mo rr np fk fn fo en no ou th (s_bg U) xx ra t0 t1 s1 ca cq ch bb wt nx cx pt le sc ss ww xc lo hi xi ++ [OUTc g oa fz])) H locs := hT
      refine W.widen (k := 77 + cnt) (n := 107809 + 6 * cnt) (Nat.le_refl _) (Nat.le_refl _) ?_
      refine W.eq (g2 := F0 m 160 ls [.int (-4)]) rfl ?_
      have hT := hT.perm (List.perm_append_comm_assoc _ _ _)
      refine lv_aload_n hx hb dL_law_160 rfl (lv_at hl 2 rfl) ?_
      refine lv_aload_n hx hb dL_law_161 rfl (lv_at hl 0 rfl) ?_
      refine lv_iload hx hb dL_law_162 (lv_at hl 4 rfl) ?_
      refine lv_iconst (v := 1) hx hb dL_law_164 (by decide) ?_
      refine lv_iadd hx hb dL_law_165 ?_
      refine r_sld C hX hbl hbA hT (ix + 1) (nI_add ix 1) (by omega) (by omega) dL_law_166 ?_
      refine lv_aload_n hx hb dL_law_167 rfl (lv_at hl 0 rfl) ?_
      refine lv_iload hx hb dL_law_168 (lv_at hl 4 rfl) ?_
      refine lv_iconst (v := 2) hx hb dL_law_170 (by decide) ?_
      refine lv_iadd hx hb dL_law_171 ?_
      refine r_sld C hX hbl hbA hT (ix + 2) (nI_add ix 2) (by omega) (by omega) dL_law_172 ?_
      have hM := c_X11_predictor_s l g mo rr th np no (s_bg U) en xx ra t0 t1 s1 ca cq ch stA fk fn fo bb wt nx cx pt le sc ss ww xc lo hi ou xi (xs (ix + 1)) (xs (ix + 2)) (s_n U) hal (by omega) hst hr0.1.1 (by omega)
      refine r_callP (lc := MDX g mo rr np fk fn fo en no ou th (s_bg U) xx ra t0 t1 s1 ca cq ch bb wt nx cx pt le sc ss ww xc lo hi xi) (B := CMX g ad bd N np fk fn fo U V code cp en no ou wl wh (lo 1) (hi 1) ++ [OUTc g oa fz]) (As := [.int (xs (ix + 1)), .int (xs (ix + 2))]) (n := 2) (q1 := 0) (rest := [.int (-4)]) C hT hM k887 k888 k889 k15 k890 (by decide +kernel) rfl rfl rfl rfl (Nat.le_of_ble_eq_true rfl) hl.1 ⟨Nat.le_of_ble_eq_true rfl, Nat.le_of_ble_eq_true rfl⟩ ⟨by show 77 + cnt + 0 ≤ 600384; omega, by show 107809 + 6 * cnt + 0 ≤ 7288888; omega⟩ dL_law_173 (fun _ => mdL_fst.trans mdL_fst.symm) (fun u H locs hT => ?_)
      have hT : Wd g A s (MDX g mo rr np fk fn fo en no ou 0 (s_bg U) xx ra t0 t1 s1 ca cq ch bb wt nx cx pt le sc ss ww xc lo hi xi ++ (CMX g ad bd N np fk fn fo U V code cp en no ou wl wh (lo 1) (hi 1) ++ [OUTc g oa fz])) H locs := hT
      refine W.widen (k := 77 + cnt) (n := 107809 + 6 * cnt) (Nat.le_refl _) (Nat.le_refl _) ?_
      refine W.eq (g2 := F0 m 176 ls [.int (-4), .int (-4)]) rfl ?_
      have hT := hT.perm (List.perm_append_comm_assoc _ _ _)
      refine lv_icmp_eq (tgt := 751) hx hb dL_law_176 (by decide) (fun h => ?_) (fun h => ?_)
      · refine W.widen (k := 77 + (cnt + 1)) (n := 107809 + 6 * (cnt + 1)) (by omega) (by omega) ?_
        exact kk np fk fn fo U V code cp en no ou wl wh (lo 1) (hi 1) 0 (s_bg U) xx ra t0 t1 s1 ca cq ch bb wt nx cx pt le sc ss ww xc lo hi xi fz H locs ls (I_mono hI) hT hl
      · exact absurd (rfl) h
    · skip
      obtain ⟨hen, hb0, hb1⟩ := wr_split hst
      by_cases h8 : np = 8
      · skip
        refine lv_aload_n hx hb dL_law_144 rfl (lv_at hl 1 rfl) ?_
        refine lv_aload_n hx hb dL_law_145 rfl (lv_at hl 0 rfl) ?_
        refine lv_iload hx hb dL_law_146 (lv_at hl 4 rfl) ?_
        refine lv_iconst (v := 1) hx hb dL_law_148 (by decide) ?_
        refine lv_iadd hx hb dL_law_149 ?_
        refine r_sld C hX hbl hbA hT (ix + 1) (nI_add ix 1) (by omega) (by omega) dL_law_150 ?_
        refine lv_aload_n hx hb dL_law_151 rfl (lv_at hl 0 rfl) ?_
        refine lv_iload hx hb dL_law_152 (lv_at hl 4 rfl) ?_
        refine lv_iconst (v := 2) hx hb dL_law_154 (by decide) ?_
        refine lv_iadd hx hb dL_law_155 ?_
        refine r_sld C hX hbl hbA hT (ix + 2) (nI_add ix 2) (by omega) (by omega) dL_law_156 ?_
        have hM := c_X10_predictor_f l g ad bd np fk fn fo stA N U V code cp en no ou wl wh (lo 1) (hi 1) rr (xs (ix + 1)) (xs (ix + 2)) hG hxU.1 hxV.1 hal h8 hen hb0 hb1
        refine r_callP (lc := CMX g ad bd N np fk fn fo U V code cp en no ou wl wh (lo 1) (hi 1)) (B := MDX g mo rr np fk fn fo en no ou th (s_bg U) xx ra t0 t1 s1 ca cq ch bb wt nx cx pt le sc ss ww xc lo hi xi ++ [OUTc g oa fz]) (As := [.int (xs (ix + 1)), .int (xs (ix + 2))]) (n := 2) (q1 := 52) (rest := []) C hT hM k284 k285 k286 k1 k287 (by decide +kernel) rfl rfl rfl rfl (Nat.le_of_ble_eq_true rfl) hl.1 ⟨Nat.le_of_ble_eq_true rfl, Nat.le_of_ble_eq_true rfl⟩ ⟨by show 77 + cnt + 0 ≤ 600384; omega, by show 107809 + 6 * cnt + 0 ≤ 7288888; omega⟩ dL_law_157 (fun _ => cmL_fst.trans cmL_fst.symm) (fun u H locs hT => ?_)
        have hT : Wd g A s (CMX g ad bd N np fk fn fo (begS np fk fn U) (begS np fk fn V) code cp en no ou wl wh (lo 1) (hi 1) ++ (MDX g mo rr np fk fn fo en no ou th (s_bg U) xx ra t0 t1 s1 ca cq ch bb wt nx cx pt le sc ss ww xc lo hi xi ++ [OUTc g oa fz])) H locs := hT.eq (by unfold CMX; rw [beg_n (U := U), beg_nd (U := U), beg_bg (U := U), beg_f (U := U), beg_fc (U := U), beg_fs (U := U), beg_r0 (U := U), beg_t0 (U := U), beg_f0 (U := U), beg_r1 (U := U), beg_t1 (U := U), beg_f1 (U := U), beg_nr (U := U), beg_fx (U := U), beg_mp (U := U), beg_ml (U := U), beg_cx (U := U), beg_xi (U := U), beg_n (U := V), beg_nd (U := V), beg_bg (U := V), beg_f (U := V), beg_fc (U := V), beg_fs (U := V), beg_r0 (U := V), beg_t0 (U := V), beg_f0 (U := V), beg_r1 (U := V), beg_t1 (U := V), beg_f1 (U := V), beg_nr (U := V), beg_fx (U := V), beg_mp (U := V), beg_ml (U := V), beg_cx (U := V), beg_xi (U := V)])
        refine W.widen (k := 77 + cnt) (n := 107809 + 6 * cnt) (Nat.le_refl _) (Nat.le_refl _) ?_
        refine W.eq (g2 := F0 m 160 ls [.int (-3)]) rfl ?_
        have hT := hT.perm (List.perm_append_comm_assoc _ _ _)
        refine lv_aload_n hx hb dL_law_160 rfl (lv_at hl 2 rfl) ?_
        refine lv_aload_n hx hb dL_law_161 rfl (lv_at hl 0 rfl) ?_
        refine lv_iload hx hb dL_law_162 (lv_at hl 4 rfl) ?_
        refine lv_iconst (v := 1) hx hb dL_law_164 (by decide) ?_
        refine lv_iadd hx hb dL_law_165 ?_
        refine r_sld C hX hbl hbA hT (ix + 1) (nI_add ix 1) (by omega) (by omega) dL_law_166 ?_
        refine lv_aload_n hx hb dL_law_167 rfl (lv_at hl 0 rfl) ?_
        refine lv_iload hx hb dL_law_168 (lv_at hl 4 rfl) ?_
        refine lv_iconst (v := 2) hx hb dL_law_170 (by decide) ?_
        refine lv_iadd hx hb dL_law_171 ?_
        refine r_sld C hX hbl hbA hT (ix + 2) (nI_add ix 2) (by omega) (by omega) dL_law_172 ?_
        have hM := c_X11_predictor_f l g mo rr th np no (s_bg U) en xx ra t0 t1 s1 ca cq ch stA fk fn fo bb wt nx cx pt le sc ss ww xc lo hi ou xi (xs (ix + 1)) (xs (ix + 2)) (s_n U) hal h8 hen hb0 hb1 hr0.1.1 (by omega)
        refine r_callP (lc := MDX g mo rr np fk fn fo en no ou th (s_bg U) xx ra t0 t1 s1 ca cq ch bb wt nx cx pt le sc ss ww xc lo hi xi) (B := CMX g ad bd N np fk fn fo (begS np fk fn U) (begS np fk fn V) code cp en no ou wl wh (lo 1) (hi 1) ++ [OUTc g oa fz]) (As := [.int (xs (ix + 1)), .int (xs (ix + 2))]) (n := 2) (q1 := 0) (rest := [.int (-3)]) C hT hM k887 k888 k889 k15 k890 (by decide +kernel) rfl rfl rfl rfl (Nat.le_of_ble_eq_true rfl) hl.1 ⟨Nat.le_of_ble_eq_true rfl, Nat.le_of_ble_eq_true rfl⟩ ⟨by show 77 + cnt + 0 ≤ 600384; omega, by show 107809 + 6 * cnt + 0 ≤ 7288888; omega⟩ dL_law_173 (fun _ => mdL_fst.trans mdL_fst.symm) (fun u H locs hT => ?_)
        have hT : Wd g A s (MDX g mo rr np fk fn fo en no ou 0 (s_bg U) xx ra t0 t1 s1 ca cq ch bb wt nx cx pt le sc ss ww xc lo hi xi ++ (CMX g ad bd N np fk fn fo (begS np fk fn U) (begS np fk fn V) code cp en no ou wl wh (lo 1) (hi 1) ++ [OUTc g oa fz])) H locs := hT
        refine W.widen (k := 77 + cnt) (n := 107809 + 6 * cnt) (Nat.le_refl _) (Nat.le_refl _) ?_
        refine W.eq (g2 := F0 m 176 ls [.int (-3), .int (-3)]) rfl ?_
        have hT := hT.perm (List.perm_append_comm_assoc _ _ _)
        refine lv_icmp_eq (tgt := 751) hx hb dL_law_176 (by decide) (fun h => ?_) (fun h => ?_)
        · refine W.widen (k := 77 + (cnt + 1)) (n := 107809 + 6 * (cnt + 1)) (by omega) (by omega) ?_
          exact kk np fk fn fo (begS np fk fn U) (begS np fk fn V) code cp en no ou wl wh (lo 1) (hi 1) 0 (s_bg U) xx ra t0 t1 s1 ca cq ch bb wt nx cx pt le sc ss ww xc lo hi xi fz H locs ls (I_predf hen hb0 hb1 hI) hT hl
        · exact absurd (rfl) h
      · skip
        have h8 : np < 8 := by omega
        refine lv_aload_n hx hb dL_law_144 rfl (lv_at hl 1 rfl) ?_
        refine lv_aload_n hx hb dL_law_145 rfl (lv_at hl 0 rfl) ?_
        refine lv_iload hx hb dL_law_146 (lv_at hl 4 rfl) ?_
        refine lv_iconst (v := 1) hx hb dL_law_148 (by decide) ?_
        refine lv_iadd hx hb dL_law_149 ?_
        refine r_sld C hX hbl hbA hT (ix + 1) (nI_add ix 1) (by omega) (by omega) dL_law_150 ?_
        refine lv_aload_n hx hb dL_law_151 rfl (lv_at hl 0 rfl) ?_
        refine lv_iload hx hb dL_law_152 (lv_at hl 4 rfl) ?_
        refine lv_iconst (v := 2) hx hb dL_law_154 (by decide) ?_
        refine lv_iadd hx hb dL_law_155 ?_
        refine r_sld C hX hbl hbA hT (ix + 2) (nI_add ix 2) (by omega) (by omega) dL_law_156 ?_
        have hM := c_X10_predictor l g ad bd np fk fn fo stA N U V code cp en no ou wl wh (lo 1) (hi 1) rr (xs (ix + 1)) (xs (ix + 2)) hG hxU.1 hxV.1 hal h8 hen hb0 hb1
        refine r_callP (lc := CMX g ad bd N np fk fn fo U V code cp en no ou wl wh (lo 1) (hi 1)) (B := MDX g mo rr np fk fn fo en no ou th (s_bg U) xx ra t0 t1 s1 ca cq ch bb wt nx cx pt le sc ss ww xc lo hi xi ++ [OUTc g oa fz]) (As := [.int (xs (ix + 1)), .int (xs (ix + 2))]) (n := 2) (q1 := 52) (rest := []) C hT hM k284 k285 k286 k1 k287 (by decide +kernel) rfl rfl rfl rfl (Nat.le_of_ble_eq_true rfl) hl.1 ⟨Nat.le_of_ble_eq_true rfl, Nat.le_of_ble_eq_true rfl⟩ ⟨by show 77 + cnt + 0 ≤ 600384; omega, by show 107809 + 6 * cnt + 0 ≤ 7288888; omega⟩ dL_law_157 (fun _ => cmL_fst.trans cmL_fst.symm) (fun u H locs hT => ?_)
        have hT : Wd g A s (CMX g ad bd N (np + 1) (upd fk np (xs (ix + 1))) (upd fn np (xs (ix + 2))) fo (begS (np + 1) (upd fk np (xs (ix + 1))) (upd fn np (xs (ix + 2))) U) (begS (np + 1) (upd fk np (xs (ix + 1))) (upd fn np (xs (ix + 2))) V) code cp en no ou wl wh (lo 1) (hi 1) ++ (MDX g mo rr np fk fn fo en no ou th (s_bg U) xx ra t0 t1 s1 ca cq ch bb wt nx cx pt le sc ss ww xc lo hi xi ++ [OUTc g oa fz])) H locs := hT.eq (by unfold CMX; rw [beg_n (U := U), beg_nd (U := U), beg_bg (U := U), beg_f (U := U), beg_fc (U := U), beg_fs (U := U), beg_r0 (U := U), beg_t0 (U := U), beg_f0 (U := U), beg_r1 (U := U), beg_t1 (U := U), beg_f1 (U := U), beg_nr (U := U), beg_fx (U := U), beg_mp (U := U), beg_ml (U := U), beg_cx (U := U), beg_xi (U := U), beg_n (U := V), beg_nd (U := V), beg_bg (U := V), beg_f (U := V), beg_fc (U := V), beg_fs (U := V), beg_r0 (U := V), beg_t0 (U := V), beg_f0 (U := V), beg_r1 (U := V), beg_t1 (U := V), beg_f1 (U := V), beg_nr (U := V), beg_fx (U := V), beg_mp (U := V), beg_ml (U := V), beg_cx (U := V), beg_xi (U := V)])
        refine W.widen (k := 77 + cnt) (n := 107809 + 6 * cnt) (Nat.le_refl _) (Nat.le_refl _) ?_
        refine W.eq (g2 := F0 m 160 ls [.int (nI np)]) rfl ?_
        have hT := hT.perm (List.perm_append_comm_assoc _ _ _)
        refine lv_aload_n hx hb dL_law_160 rfl (lv_at hl 2 rfl) ?_
        refine lv_aload_n hx hb dL_law_161 rfl (lv_at hl 0 rfl) ?_
        refine lv_iload hx hb dL_law_162 (lv_at hl 4 rfl) ?_
        refine lv_iconst (v := 1) hx hb dL_law_164 (by decide) ?_
        refine lv_iadd hx hb dL_law_165 ?_
        refine r_sld C hX hbl hbA hT (ix + 1) (nI_add ix 1) (by omega) (by omega) dL_law_166 ?_
        refine lv_aload_n hx hb dL_law_167 rfl (lv_at hl 0 rfl) ?_
        refine lv_iload hx hb dL_law_168 (lv_at hl 4 rfl) ?_
        refine lv_iconst (v := 2) hx hb dL_law_170 (by decide) ?_
        refine lv_iadd hx hb dL_law_171 ?_
        refine r_sld C hX hbl hbA hT (ix + 2) (nI_add ix 2) (by omega) (by omega) dL_law_172 ?_
        have hM := c_X11_predictor l g mo rr th np no (s_bg U) en xx ra t0 t1 s1 ca cq ch stA fk fn fo bb wt nx cx pt le sc ss ww xc lo hi ou xi N (xs (ix + 1)) (xs (ix + 2)) (s_n U) hal h8 hN4 hG.2.2.2.1 hen hb0 hb1 hr0.1.1 (by omega)
        refine r_callP (lc := MDX g mo rr np fk fn fo en no ou th (s_bg U) xx ra t0 t1 s1 ca cq ch bb wt nx cx pt le sc ss ww xc lo hi xi) (B := CMX g ad bd N (np + 1) (upd fk np (xs (ix + 1))) (upd fn np (xs (ix + 2))) fo (begS (np + 1) (upd fk np (xs (ix + 1))) (upd fn np (xs (ix + 2))) U) (begS (np + 1) (upd fk np (xs (ix + 1))) (upd fn np (xs (ix + 2))) V) code cp en no ou wl wh (lo 1) (hi 1) ++ [OUTc g oa fz]) (As := [.int (xs (ix + 1)), .int (xs (ix + 2))]) (n := 2) (q1 := 0) (rest := [.int (nI np)]) C hT hM k887 k888 k889 k15 k890 (by decide +kernel) rfl rfl rfl rfl (Nat.le_of_ble_eq_true rfl) hl.1 ⟨Nat.le_of_ble_eq_true rfl, Nat.le_of_ble_eq_true rfl⟩ ⟨by show 77 + cnt + 0 ≤ 600384; omega, by show 107809 + 6 * cnt + 0 ≤ 7288888; omega⟩ dL_law_173 (fun _ => mdL_fst.trans mdL_fst.symm) (fun u H locs hT => ?_)
        obtain ⟨⟨wt2, nx2, cx2, pt2, le2, sc2, ss2, ww2, xc2, lo2, hi2⟩, r_hRS, r_hlh⟩ := u
        have m_hRS : ∀ U V, FRS N (np + 1) (upd fk np (xs (ix + 1))) (upd fn np (xs (ix + 2))) U → FRS N (np + 1) (upd fk np (xs (ix + 1))) (upd fn np (xs (ix + 2))) V → (∀ j, j < 2000 → bb (2050 * 0 + j) = s_f U j) → (∀ j, j < 2000 → bb (2050 * 1 + j) = s_f V j) → RS 0 N (np + 1) (upd fk np (xs (ix + 1))) U bb wt2 nx2 cx2 pt2 le2 sc2 ss2 ww2 xc2 ∧ RS 1 N (np + 1) (upd fk np (xs (ix + 1))) V bb wt2 nx2 cx2 pt2 le2 sc2 ss2 ww2 xc2 := r_hRS
        have m_hlh : (lo2 0 = 0 ∧ hi2 0 = 4294967295) ∧ (lo2 1 = 0 ∧ hi2 1 = 4294967295) := r_hlh
        replace hT : Wd g A s (MDX g mo rr (np + 1) (upd fk np (xs (ix + 1))) (upd fn np (xs (ix + 2))) (upd fo np 0) false 0 ou 0 0 xx 0 t0 t1 s1 ca cq ch bb wt2 nx2 cx2 pt2 le2 sc2 ss2 ww2 xc2 lo2 hi2 xi ++ (CMX g ad bd N (np + 1) (upd fk np (xs (ix + 1))) (upd fn np (xs (ix + 2))) fo (begS (np + 1) (upd fk np (xs (ix + 1))) (upd fn np (xs (ix + 2))) U) (begS (np + 1) (upd fk np (xs (ix + 1))) (upd fn np (xs (ix + 2))) V) code cp en no ou wl wh (lo 1) (hi 1) ++ [OUTc g oa fz])) H locs := hT
        refine W.widen (k := 77 + cnt) (n := 107809 + 6 * cnt) (Nat.le_refl _) (Nat.le_refl _) ?_
        refine W.eq (g2 := F0 m 176 ls [.int (nI np), .int (nI np)]) rfl ?_
        clear r_hRS r_hlh
        obtain ⟨e1, e2, hI2⟩ := I_pred hal h8 hen hb0 hb1 hI m_hRS m_hlh
        rw [e2] at hT
        subst e1
        subst hen
        have hT := hT.perm (List.perm_append_comm_assoc _ _ _)
        refine lv_icmp_eq (tgt := 751) hx hb dL_law_176 (by decide) (fun h => ?_) (fun h => ?_)
        · refine W.widen (k := 77 + (cnt + 1)) (n := 107809 + 6 * (cnt + 1)) (by omega) (by omega) ?_
          exact kk (np + 1) (upd fk np (xs (ix + 1))) (upd fn np (xs (ix + 2))) fo (begS (np + 1) (upd fk np (xs (ix + 1))) (upd fn np (xs (ix + 2))) U) (begS (np + 1) (upd fk np (xs (ix + 1))) (upd fn np (xs (ix + 2))) V) code cp false 0 ou wl wh (lo 1) (hi 1) 0 0 xx 0 t0 t1 s1 ca cq ch bb wt2 nx2 cx2 pt2 le2 sc2 ss2 ww2 xc2 lo2 hi2 xi fz H locs ls (hI2) hT hl
        · exact absurd (rfl) h
