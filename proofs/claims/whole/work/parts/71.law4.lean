set_option maxHeartbeats 1000000 in
set_option maxRecDepth 100000 in
theorem law_off {p : Program} {l : Launch} {e : Env} {s : State} {m : MethodId} {below : List Frame} {meth : Method} {c : Code} {Q : State → Prop} {g : GT} {A : Nat → Prop} {ad bd mo : Nat → Nat} {oa b L N rr ix cnt : Nat} {xs : Nat → Int32} (hl9 : l.stackTraces = false) (X : LC p s m meth c g A b L xs) (hL : L ≤ 321) (hi5 : ix + 5 ≤ L) (hc : cnt < 64) (kk : LK p l e s m b below meth c Q g A ad bd mo oa N rr ix (cnt + 1) 751) : LK p l e s m b below meth c Q g A ad bd mo oa N rr ix cnt 181 := by
  obtain ⟨C, hX, hbl, hbA, hXS⟩ := X
  have hx := C.x
  have hb := C.b
  intro np fk fn fo U V code cp en no ou wl wh rl rh th bt xx ra t0 t1 s1 ca cq ch bb wt nx cx pt le sc ss ww xc lo hi xi fz H locs ls hI hT hl
  obtain ⟨⟨hG, h6⟩, ⟨hr0, hr1⟩, ⟨hxU, hxV⟩, ⟨hf1, hf2⟩, ⟨n1, n2, n3, n4⟩, ⟨o1, o2, o3, o4, o5, o6⟩, hE1, hE0, hE2⟩ := id hI
  subst o4
  subst o5
  subst o6
  have hnp := hG.1
  have hN := hG.2.1
  have hrr := hG.2.2.1
  have hN4 : N ≤ 4096 := by rw [hN]; exact Nat.pow_le_pow_right (i := rr) (j := 12) (by decide) hrr
  have hbgU := hxU.1.2.2.1
  have hbgV := hxV.1.2.2.1
  by_cases hok : inR (xs (ix + 1)) np = true ∧ en = false ∧ s_n U = 0 ∧ s_bg U = 0
  · skip
    obtain ⟨hr, hen, hb0, hb1⟩ := hok
    obtain ⟨j, hj, ej⟩ := inR_of (by omega) hr
    refine lv_aload_n hx hb dL_law_181 rfl (lv_at hl 1 rfl) ?_
    refine lv_aload_n hx hb dL_law_182 rfl (lv_at hl 0 rfl) ?_
    refine lv_iload hx hb dL_law_183 (lv_at hl 4 rfl) ?_
    refine lv_iconst (v := 1) hx hb dL_law_185 (by decide) ?_
    refine lv_iadd hx hb dL_law_186 ?_
    refine r_sld C hX hbl hbA hT (ix + 1) (nI_add ix 1) (by omega) (by omega) dL_law_187 ?_
    have hM := c_X10_off l g ad bd np fk fn fo stA N U V code cp en no ou wl wh (lo 1) (hi 1) j hj hnp hen hb0 hb1
    refine r_callP (lc := CMX g ad bd N np fk fn fo U V code cp en no ou wl wh (lo 1) (hi 1)) (B := MDX g mo rr np fk fn fo en no ou th (s_bg U) xx ra t0 t1 s1 ca cq ch bb wt nx cx pt le sc ss ww xc lo hi xi ++ [OUTc g oa fz]) (As := [.int (nI j)]) (n := 1) (q1 := 52) (rest := []) C hT hM k356 k357 k358 k1 k359 (by decide +kernel) rfl rfl rfl (by rw [ej]; rfl) (Nat.le_of_ble_eq_true rfl) hl.1 ⟨Nat.le_of_ble_eq_true rfl, Nat.le_of_ble_eq_true rfl⟩ ⟨by show 77 + cnt + 0 ≤ 600384; omega, by show 107809 + 6 * cnt + 0 ≤ 7288888; omega⟩ dL_law_188 (fun _ => cmL_fst.trans cmL_fst.symm) (fun u H locs hT => ?_)
    have hT : Wd g A s (CMX g ad bd N np fk fn (if fo j = 0 then upd fo j 1 else fo) U V code cp en no ou wl wh (lo 1) (hi 1) ++ (MDX g mo rr np fk fn fo en no ou th (s_bg U) xx ra t0 t1 s1 ca cq ch bb wt nx cx pt le sc ss ww xc lo hi xi ++ [OUTc g oa fz])) H locs := hT
    refine W.widen (k := 77 + cnt) (n := 107809 + 6 * cnt) (Nat.le_refl _) (Nat.le_refl _) ?_
    refine W.eq (g2 := F0 m 191 ls [.int (if fo j = 0 then 1 else 0)]) rfl ?_
    have hT := hT.perm (List.perm_append_comm_assoc _ _ _)
    refine lv_aload_n hx hb dL_law_191 rfl (lv_at hl 2 rfl) ?_
    refine lv_aload_n hx hb dL_law_192 rfl (lv_at hl 0 rfl) ?_
    refine lv_iload hx hb dL_law_193 (lv_at hl 4 rfl) ?_
    refine lv_iconst (v := 1) hx hb dL_law_195 (by decide) ?_
    refine lv_iadd hx hb dL_law_196 ?_
    refine r_sld C hX hbl hbA hT (ix + 1) (nI_add ix 1) (by omega) (by omega) dL_law_197 ?_
    have hM := c_X11_off l g mo rr th np no (s_bg U) en xx ra t0 t1 s1 ca cq ch stA fk fn fo bb wt nx cx pt le sc ss ww xc lo hi ou xi (s_n U) j hj hnp hen hb0 hb1 (hf1 j) hr0.1.1 (by omega)
    refine r_callP (lc := MDX g mo rr np fk fn fo en no ou th (s_bg U) xx ra t0 t1 s1 ca cq ch bb wt nx cx pt le sc ss ww xc lo hi xi) (B := CMX g ad bd N np fk fn (if fo j = 0 then upd fo j 1 else fo) U V code cp en no ou wl wh (lo 1) (hi 1) ++ [OUTc g oa fz]) (As := [.int (nI j)]) (n := 1) (q1 := 0) (rest := [.int (if fo j = 0 then 1 else 0)]) C hT hM k895 k896 k897 k15 k898 (by decide +kernel) rfl rfl rfl (by rw [ej]; rfl) (Nat.le_of_ble_eq_true rfl) hl.1 ⟨Nat.le_of_ble_eq_true rfl, Nat.le_of_ble_eq_true rfl⟩ ⟨by show 77 + cnt + 0 ≤ 600384; omega, by show 107809 + 6 * cnt + 0 ≤ 7288888; omega⟩ dL_law_198 (fun _ => mdL_fst.trans mdL_fst.symm) (fun u H locs hT => ?_)
    have hT : Wd g A s (MDX g mo rr np fk fn (if fo j = 0 then upd fo j 1 else fo) en no ou 0 (s_bg U) xx ra t0 t1 s1 ca cq ch bb wt nx cx pt le sc ss ww xc lo hi xi ++ (CMX g ad bd N np fk fn (if fo j = 0 then upd fo j 1 else fo) U V code cp en no ou wl wh (lo 1) (hi 1) ++ [OUTc g oa fz])) H locs := hT
    refine W.widen (k := 77 + cnt) (n := 107809 + 6 * cnt) (Nat.le_refl _) (Nat.le_refl _) ?_
    refine W.eq (g2 := F0 m 201 ls [.int (if fo j = 0 then 1 else 0), .int (if fo j = 0 then 1 else 0)]) rfl ?_
    have hT := hT.perm (List.perm_append_comm_assoc _ _ _)
    refine lv_icmp_eq (tgt := 751) hx hb dL_law_201 (by decide) (fun h => ?_) (fun h => ?_)
    · refine W.widen (k := 77 + (cnt + 1)) (n := 107809 + 6 * (cnt + 1)) (by omega) (by omega) ?_
      exact kk np fk fn (if fo j = 0 then upd fo j 1 else fo) U V code cp en no ou wl wh (lo 1) (hi 1) 0 (s_bg U) xx ra t0 t1 s1 ca cq ch bb wt nx cx pt le sc ss ww xc lo hi xi fz H locs ls (I_off hj hI) hT hl
    · exact absurd (rfl) h
  · skip
    have hno := off_split hok
    refine lv_aload_n hx hb dL_law_181 rfl (lv_at hl 1 rfl) ?_
    refine lv_aload_n hx hb dL_law_182 rfl (lv_at hl 0 rfl) ?_
    refine lv_iload hx hb dL_law_183 (lv_at hl 4 rfl) ?_
    refine lv_iconst (v := 1) hx hb dL_law_185 (by decide) ?_
    refine lv_iadd hx hb dL_law_186 ?_
    refine r_sld C hX hbl hbA hT (ix + 1) (nI_add ix 1) (by omega) (by omega) dL_law_187 ?_
    have hM := c_X10_off_no l g ad bd np fk fn fo stA N U V code cp en no ou wl wh (lo 1) (hi 1) (xs (ix + 1)) hnp (by omega) (by omega) hno
    refine r_callP (lc := CMX g ad bd N np fk fn fo U V code cp en no ou wl wh (lo 1) (hi 1)) (B := MDX g mo rr np fk fn fo en no ou th (s_bg U) xx ra t0 t1 s1 ca cq ch bb wt nx cx pt le sc ss ww xc lo hi xi ++ [OUTc g oa fz]) (As := [.int (xs (ix + 1))]) (n := 1) (q1 := 52) (rest := []) C hT hM k356 k357 k358 k1 k359 (by decide +kernel) rfl rfl rfl rfl (Nat.le_of_ble_eq_true rfl) hl.1 ⟨Nat.le_of_ble_eq_true rfl, Nat.le_of_ble_eq_true rfl⟩ ⟨by show 77 + cnt + 0 ≤ 600384; omega, by show 107809 + 6 * cnt + 0 ≤ 7288888; omega⟩ dL_law_188 (fun _ => cmL_fst.trans cmL_fst.symm) (fun u H locs hT => ?_)
    have hT : Wd g A s (CMX g ad bd N np fk fn fo U V code cp en no ou wl wh (lo 1) (hi 1) ++ (MDX g mo rr np fk fn fo en no ou th (s_bg U) xx ra t0 t1 s1 ca cq ch bb wt nx cx pt le sc ss ww xc lo hi xi ++ [OUTc g oa fz])) H locs := hT
    refine W.widen (k := 77 + cnt) (n := 107809 + 6 * cnt) (Nat.le_refl _) (Nat.le_refl _) ?_
    refine W.eq (g2 := F0 m 191 ls [.int (if inR (xs (ix + 1)) np = true then (-4) else (-1))]) rfl ?_
    have hT := hT.perm (List.perm_append_comm_assoc _ _ _)
    refine lv_aload_n hx hb dL_law_191 rfl (lv_at hl 2 rfl) ?_
    refine lv_aload_n hx hb dL_law_192 rfl (lv_at hl 0 rfl) ?_
    refine lv_iload hx hb dL_law_193 (lv_at hl 4 rfl) ?_
    refine lv_iconst (v := 1) hx hb dL_law_195 (by decide) ?_
    refine lv_iadd hx hb dL_law_196 ?_
    refine r_sld C hX hbl hbA hT (ix + 1) (nI_add ix 1) (by omega) (by omega) dL_law_197 ?_
    have hM := c_X11_off_no l g mo rr th np no (s_bg U) en xx ra t0 t1 s1 ca cq ch stA fk fn fo bb wt nx cx pt le sc ss ww xc lo hi ou xi (s_n U) (xs (ix + 1)) hnp (by omega) hno hr0.1.1 (by omega)
    refine r_callP (lc := MDX g mo rr np fk fn fo en no ou th (s_bg U) xx ra t0 t1 s1 ca cq ch bb wt nx cx pt le sc ss ww xc lo hi xi) (B := CMX g ad bd N np fk fn fo U V code cp en no ou wl wh (lo 1) (hi 1) ++ [OUTc g oa fz]) (As := [.int (xs (ix + 1))]) (n := 1) (q1 := 0) (rest := [.int (if inR (xs (ix + 1)) np = true then (-4) else (-1))]) C hT hM k895 k896 k897 k15 k898 (by decide +kernel) rfl rfl rfl rfl (Nat.le_of_ble_eq_true rfl) hl.1 ⟨Nat.le_of_ble_eq_true rfl, Nat.le_of_ble_eq_true rfl⟩ ⟨by show 77 + cnt + 0 ≤ 600384; omega, by show 107809 + 6 * cnt + 0 ≤ 7288888; omega⟩ dL_law_198 (fun _ => mdL_fst.trans mdL_fst.symm) (fun u H locs hT => ?_)
    have hT : Wd g A s (MDX g mo rr np fk fn fo en no ou 0 (s_bg U) xx ra t0 t1 s1 ca cq ch bb wt nx cx pt le sc ss ww xc lo hi xi ++ (CMX g ad bd N np fk fn fo U V code cp en no ou wl wh (lo 1) (hi 1) ++ [OUTc g oa fz])) H locs := hT
    refine W.widen (k := 77 + cnt) (n := 107809 + 6 * cnt) (Nat.le_refl _) (Nat.le_refl _) ?_
    refine W.eq (g2 := F0 m 201 ls [.int (if inR (xs (ix + 1)) np = true then (-4) else (-1)), .int (if inR (xs (ix + 1)) np = true then (-4) else (-1))]) rfl ?_
    have hT := hT.perm (List.perm_append_comm_assoc _ _ _)
    refine lv_icmp_eq (tgt := 751) hx hb dL_law_201 (by decide) (fun h => ?_) (fun h => ?_)
    · refine W.widen (k := 77 + (cnt + 1)) (n := 107809 + 6 * (cnt + 1)) (by omega) (by omega) ?_
      exact kk np fk fn fo U V code cp en no ou wl wh (lo 1) (hi 1) 0 (s_bg U) xx ra t0 t1 s1 ca cq ch bb wt nx cx pt le sc ss ww xc lo hi xi fz H locs ls (I_mono hI) hT hl
    · exact absurd (rfl) h

set_option maxHeartbeats 1000000 in
set_option maxRecDepth 100000 in
theorem law_end {p : Program} {l : Launch} {e : Env} {s : State} {m : MethodId} {below : List Frame} {meth : Method} {c : Code} {Q : State → Prop} {g : GT} {A : Nat → Prop} {ad bd mo : Nat → Nat} {oa b L N rr ix cnt : Nat} {xs : Nat → Int32} (hl9 : l.stackTraces = false) (X : LC p s m meth c g A b L xs) (hL : L ≤ 321) (hi5 : ix + 5 ≤ L) (hc : cnt < 64) (kk : LK p l e s m b below meth c Q g A ad bd mo oa N rr ix (cnt + 1) 751) : LK p l e s m b below meth c Q g A ad bd mo oa N rr ix cnt 272 := by
  obtain ⟨C, hX, hbl, hbA, hXS⟩ := X
  have hx := C.x
  have hb := C.b
  intro np fk fn fo U V code cp en no ou wl wh rl rh th bt xx ra t0 t1 s1 ca cq ch bb wt nx cx pt le sc ss ww xc lo hi xi fz H locs ls hI hT hl
  obtain ⟨⟨hG, h6⟩, ⟨hr0, hr1⟩, ⟨hxU, hxV⟩, ⟨hf1, hf2⟩, ⟨n1, n2, n3, n4⟩, ⟨o1, o2, o3, o4, o5, o6⟩, hE1, hE0, hE2⟩ := id hI
  subst o4
  subst o5
  subst o6
  have hnp := hG.1
  have hN := hG.2.1
  have hrr := hG.2.2.1
  have hN4 : N ≤ 4096 := by rw [hN]; exact Nat.pow_le_pow_right (i := rr) (j := 12) (by decide) hrr
  have hbgU := hxU.1.2.2.1
  have hbgV := hxV.1.2.2.1
  by_cases hen : en = true
  · skip
    refine lv_aload_n hx hb dL_law_272 rfl (lv_at hl 1 rfl) ?_
    have hM := c_X10_end_s l g ad bd np fk fn fo stA N U V code cp en no ou wl wh (lo 1) (hi 1) hen
    refine r_callP (lc := CMX g ad bd N np fk fn fo U V code cp en no ou wl wh (lo 1) (hi 1)) (B := MDX g mo rr np fk fn fo en no ou th (s_bg U) xx ra t0 t1 s1 ca cq ch bb wt nx cx pt le sc ss ww xc lo hi xi ++ [OUTc g oa fz]) (As := []) (n := 0) (q1 := 52) (rest := []) C hT hM k494 k495 k496 k1 k497 (by decide +kernel) rfl rfl rfl rfl (Nat.le_of_ble_eq_true rfl) hl.1 ⟨Nat.le_of_ble_eq_true rfl, Nat.le_of_ble_eq_true rfl⟩ ⟨by show 77 + cnt + 0 ≤ 600384; omega, by show 107809 + 6 * cnt + 0 ≤ 7288888; omega⟩ dL_law_273 (fun _ => cmL_fst.trans cmL_fst.symm) (fun u H locs hT => ?_)
    have hT : Wd g A s (CMX g ad bd N np fk fn fo U V code cp en no ou wl wh (lo 1) (hi 1) ++ (MDX g mo rr np fk fn fo en no ou th (s_bg U) xx ra t0 t1 s1 ca cq ch bb wt nx cx pt le sc ss ww xc lo hi xi ++ [OUTc g oa fz])) H locs := hT
    refine W.widen (k := 77 + cnt) (n := 107809 + 6 * cnt) (Nat.le_refl _) (Nat.le_refl _) ?_
    refine W.eq (g2 := F0 m 276 ls [.int (-4)]) rfl ?_
    have hT := hT.perm (List.perm_append_comm_assoc _ _ _)
    refine lv_aload_n hx hb dL_law_276 rfl (lv_at hl 2 rfl) ?_
    have hM := c_X11_end_s l g mo rr th np no (s_bg U) en xx ra t0 t1 s1 ca cq ch stA fk fn fo bb wt nx cx pt le sc ss ww xc lo hi ou xi hen
    refine r_callP (lc := MDX g mo rr np fk fn fo en no ou th (s_bg U) xx ra t0 t1 s1 ca cq ch bb wt nx cx pt le sc ss ww xc lo hi xi) (B := CMX g ad bd N np fk fn fo U V code cp en no ou wl wh (lo 1) (hi 1) ++ [OUTc g oa fz]) (As := []) (n := 0) (q1 := 0) (rest := [.int (-4)]) C hT hM k950 k951 k952 k15 k953 (by decide +kernel) rfl rfl rfl rfl (Nat.le_of_ble_eq_true rfl) hl.1 ⟨Nat.le_of_ble_eq_true rfl, Nat.le_of_ble_eq_true rfl⟩ ⟨by show 77 + cnt + 0 ≤ 600384; omega, by show 107809 + 6 * cnt + 0 ≤ 7288888; omega⟩ dL_law_277 (fun _ => mdL_fst.trans mdL_fst.symm) (fun u H locs hT => ?_)
    have hT : Wd g A s (MDX g mo rr np fk fn fo en no ou 0 (s_bg U) xx ra t0 t1 s1 ca cq ch bb wt nx cx pt le sc ss ww xc lo hi xi ++ (CMX g ad bd N np fk fn fo U V code cp en no ou wl wh (lo 1) (hi 1) ++ [OUTc g oa fz])) H locs := hT
    refine W.widen (k := 77 + cnt) (n := 107809 + 6 * cnt) (Nat.le_refl _) (Nat.le_refl _) ?_
    refine W.eq (g2 := F0 m 280 ls [.int (-4), .int (-4)]) rfl ?_
    have hT := hT.perm (List.perm_append_comm_assoc _ _ _)
    refine lv_icmp_eq (tgt := 751) hx hb dL_law_280 (by decide) (fun h => ?_) (fun h => ?_)
    · refine W.widen (k := 77 + (cnt + 1)) (n := 107809 + 6 * (cnt + 1)) (by omega) (by omega) ?_
      exact kk np fk fn fo U V code cp en no ou wl wh (lo 1) (hi 1) 0 (s_bg U) xx ra t0 t1 s1 ca cq ch bb wt nx cx pt le sc ss ww xc lo hi xi fz H locs ls (I_mono hI) hT hl
    · exact absurd (rfl) h
  · skip
    have hen : en = false := by cases en with | true => exact absurd rfl hen | false => rfl
    obtain ⟨⟨hCW, q1, q2⟩, q3, q4⟩ := hE0 hen
    subst q1
    subst q2
    refine lv_aload_n hx hb dL_law_272 rfl (lv_at hl 1 rfl) ?_
    have hM := c_X10_end l g ad bd np fk fn fo stA N U V code cp en no ou (lo 0) (hi 0) (lo 1) (hi 1) hen (by omega)
    refine r_callP (lc := CMX g ad bd N np fk fn fo U V code cp en no ou (lo 0) (hi 0) (lo 1) (hi 1)) (B := MDX g mo rr np fk fn fo en no ou th (s_bg U) xx ra t0 t1 s1 ca cq ch bb wt nx cx pt le sc ss ww xc lo hi xi ++ [OUTc g oa fz]) (As := []) (n := 0) (q1 := 52) (rest := []) C hT hM k494 k495 k496 k1 k497 (by decide +kernel) rfl rfl rfl rfl (Nat.le_of_ble_eq_true rfl) hl.1 ⟨Nat.le_of_ble_eq_true rfl, Nat.le_of_ble_eq_true rfl⟩ ⟨by show 77 + cnt + 0 ≤ 600384; omega, by show 107809 + 6 * cnt + 0 ≤ 7288888; omega⟩ dL_law_273 (fun _ => cmL_fst.trans cmL_fst.symm) (fun u H locs hT => ?_)
    have hT : Wd g A s (CMX g ad bd N np fk fn fo U V (tkC (no + 4) (eOu (lo 0) no ou 4) 4) 4 true (no + 4) (eOu (lo 0) no ou 4) (eLo (lo 0) 4) (eHi (hi 0) 4) 0 4294967295 ++ (MDX g mo rr np fk fn fo en no ou th (s_bg U) xx ra t0 t1 s1 ca cq ch bb wt nx cx pt le sc ss ww xc lo hi xi ++ [OUTc g oa fz])) H locs := hT
    refine W.widen (k := 77 + cnt) (n := 107809 + 6 * cnt) (Nat.le_refl _) (Nat.le_refl _) ?_
    refine W.eq (g2 := F0 m 276 ls [.int (nI (no + 4))]) rfl ?_
    have hT := hT.perm (List.perm_append_comm_assoc _ _ _)
    refine lv_aload_n hx hb dL_law_276 rfl (lv_at hl 2 rfl) ?_
    have hM := c_X11_end l g mo rr th np no (s_bg U) en xx ra t0 t1 s1 ca cq ch stA fk fn fo bb wt nx cx pt le sc ss ww xc lo hi ou xi hen hCW (by omega) o1
    refine r_callP (lc := MDX g mo rr np fk fn fo en no ou th (s_bg U) xx ra t0 t1 s1 ca cq ch bb wt nx cx pt le sc ss ww xc lo hi xi) (B := CMX g ad bd N np fk fn fo U V (tkC (no + 4) (eOu (lo 0) no ou 4) 4) 4 true (no + 4) (eOu (lo 0) no ou 4) (eLo (lo 0) 4) (eHi (hi 0) 4) 0 4294967295 ++ [OUTc g oa fz]) (As := []) (n := 0) (q1 := 0) (rest := [.int (nI (no + 4))]) C hT hM k950 k951 k952 k15 k953 (by decide +kernel) rfl rfl rfl rfl (Nat.le_of_ble_eq_true rfl) hl.1 ⟨Nat.le_of_ble_eq_true rfl, Nat.le_of_ble_eq_true rfl⟩ ⟨by show 77 + cnt + 0 ≤ 600384; omega, by show 107809 + 6 * cnt + 0 ≤ 7288888; omega⟩ dL_law_277 (fun _ => mdL_fst.trans mdL_fst.symm) (fun u H locs hT => ?_)
    have hT : Wd g A s (MDX g mo rr np fk fn fo true (no + 4) (eOu (lo 0) no ou 4) 0 (s_bg U) (tkC (no + 4) (eOu (lo 0) no ou 4) 4) 4 t0 t1 s1 ca cq ch bb wt nx cx pt le sc ss ww xc lo hi xi ++ (CMX g ad bd N np fk fn fo U V (tkC (no + 4) (eOu (lo 0) no ou 4) 4) 4 true (no + 4) (eOu (lo 0) no ou 4) (eLo (lo 0) 4) (eHi (hi 0) 4) 0 4294967295 ++ [OUTc g oa fz])) H locs := hT
    refine W.widen (k := 77 + cnt) (n := 107809 + 6 * cnt) (Nat.le_refl _) (Nat.le_refl _) ?_
    refine W.eq (g2 := F0 m 280 ls [.int (nI (no + 4)), .int (nI (no + 4))]) rfl ?_
    have hT := hT.perm (List.perm_append_comm_assoc _ _ _)
    refine lv_icmp_eq (tgt := 751) hx hb dL_law_280 (by decide) (fun h => ?_) (fun h => ?_)
    · refine W.widen (k := 77 + (cnt + 1)) (n := 107809 + 6 * (cnt + 1)) (by omega) (by omega) ?_
      exact kk np fk fn fo U V (tkC (no + 4) (eOu (lo 0) no ou 4) 4) 4 true (no + 4) (eOu (lo 0) no ou 4) (eLo (lo 0) 4) (eHi (hi 0) 4) 0 4294967295 0 (s_bg U) (tkC (no + 4) (eOu (lo 0) no ou 4) 4) 4 t0 t1 s1 ca cq ch bb wt nx cx pt le sc ss ww xc lo hi xi fz H locs ls (I_end hen hI) hT hl
    · exact absurd (rfl) h

set_option maxHeartbeats 1000000 in
set_option maxRecDepth 100000 in
theorem law_again {p : Program} {l : Launch} {e : Env} {s : State} {m : MethodId} {below : List Frame} {meth : Method} {c : Code} {Q : State → Prop} {g : GT} {A : Nat → Prop} {ad bd mo : Nat → Nat} {oa b L N rr ix cnt : Nat} {xs : Nat → Int32} (hl9 : l.stackTraces = false) (X : LC p s m meth c g A b L xs) (hL : L ≤ 321) (hi5 : ix + 5 ≤ L) (hc : cnt < 64) (kk : LK p l e s m b below meth c Q g A ad bd mo oa N rr ix (cnt + 1) 751) : LK p l e s m b below meth c Q g A ad bd mo oa N rr ix cnt 298 := by
  obtain ⟨C, hX, hbl, hbA, hXS⟩ := X
  have hx := C.x
  have hb := C.b
  intro np fk fn fo U V code cp en no ou wl wh rl rh th bt xx ra t0 t1 s1 ca cq ch bb wt nx cx pt le sc ss ww xc lo hi xi fz H locs ls hI hT hl
  obtain ⟨⟨hG, h6⟩, ⟨hr0, hr1⟩, ⟨hxU, hxV⟩, ⟨hf1, hf2⟩, ⟨n1, n2, n3, n4⟩, ⟨o1, o2, o3, o4, o5, o6⟩, hE1, hE0, hE2⟩ := id hI
  subst o4
  subst o5
  subst o6
  have hnp := hG.1
  have hN := hG.2.1
  have hrr := hG.2.2.1
  have hN4 : N ≤ 4096 := by rw [hN]; exact Nat.pow_le_pow_right (i := rr) (j := 12) (by decide) hrr
  have hbgU := hxU.1.2.2.1
  have hbgV := hxV.1.2.2.1
  refine lv_aload_n hx hb dL_law_298 rfl (lv_at hl 1 rfl) ?_
  have hM := c_X10_again l g ad bd np fk fn fo stA N U V code cp en no ou wl wh (lo 1) (hi 1) rr hG hxV.1 (by omega)
  refine r_callP (lc := CMX g ad bd N np fk fn fo U V code cp en no ou wl wh (lo 1) (hi 1)) (B := MDX g mo rr np fk fn fo en no ou th (s_bg U) xx ra t0 t1 s1 ca cq ch bb wt nx cx pt le sc ss ww xc lo hi xi ++ [OUTc g oa fz]) (As := []) (n := 0) (q1 := 52) (rest := []) C hT hM k528 k529 k530 k1 k531 (by decide +kernel) rfl rfl rfl rfl (Nat.le_of_ble_eq_true rfl) hl.1 ⟨Nat.le_of_ble_eq_true rfl, Nat.le_of_ble_eq_true rfl⟩ ⟨by show 77 + cnt + 0 ≤ 600384; omega, by show 107809 + 6 * cnt + 0 ≤ 7288888; omega⟩ dL_law_299 (fun _ => cmL_fst.trans cmL_fst.symm) (fun u H locs hT => ?_)
  have hT : Wd g A s (CMX g ad bd N np fk fn fo U (resetS N np fk fn V) (tkC no ou 4) 4 en no ou wl wh 0 4294967295 ++ (MDX g mo rr np fk fn fo en no ou th (s_bg U) xx ra t0 t1 s1 ca cq ch bb wt nx cx pt le sc ss ww xc lo hi xi ++ [OUTc g oa fz])) H locs := hT.eq (by unfold CMX; rw [rst_n, rst_nd, rst_bg, rst_f, rst_fc, rst_fs, rst_r0, rst_t0, rst_f0, rst_r1, rst_t1, rst_f1, rst_nr, rst_fx, rst_mp, rst_ml, rst_cx, rst_xi])
  refine W.widen (k := 77 + cnt) (n := 107809 + 6 * cnt) (Nat.le_refl _) (Nat.le_refl _) ?_
  refine W.eq (g2 := F0 m 302 ls [.int (nI (s_n V))]) rfl ?_
  have hT := hT.perm (List.perm_append_comm_assoc _ _ _)
  refine lv_aload_n hx hb dL_law_302 rfl (lv_at hl 2 rfl) ?_
  have hM := c_X11_again l g mo rr th np no (s_bg U) en xx ra t0 t1 s1 ca cq ch stA fk fn fo bb wt nx cx pt le sc ss ww xc lo hi ou xi N (s_n V) hnp hN4 hG.2.2.2.1 hr1.1.1 (by omega) o1
  refine r_callP (lc := MDX g mo rr np fk fn fo en no ou th (s_bg U) xx ra t0 t1 s1 ca cq ch bb wt nx cx pt le sc ss ww xc lo hi xi) (B := CMX g ad bd N np fk fn fo U (resetS N np fk fn V) (tkC no ou 4) 4 en no ou wl wh 0 4294967295 ++ [OUTc g oa fz]) (As := []) (n := 0) (q1 := 0) (rest := [.int (nI (s_n V))]) C hT hM k966 k967 k968 k15 k969 (by decide +kernel) rfl rfl rfl rfl (Nat.le_of_ble_eq_true rfl) hl.1 ⟨Nat.le_of_ble_eq_true rfl, Nat.le_of_ble_eq_true rfl⟩ ⟨by show 77 + cnt + 0 ≤ 600384; omega, by show 107809 + 6 * cnt + 0 ≤ 7288888; omega⟩ dL_law_303 (fun _ => mdL_fst.trans mdL_fst.symm) (fun u H locs hT => ?_)
  obtain ⟨⟨wt2, nx2, cx2, pt2, le2, sc2, ss2, ww2, xc2, lo2, hi2⟩, r_hRS, r_hOT, r_hlh⟩ := u
  have m_hRS : ∀ U, FRS N np fk fn U → (∀ j, j < 2000 → bb (2050 * 1 + j) = s_f U j) → RS 1 N np fk U bb wt2 nx2 cx2 pt2 le2 sc2 ss2 ww2 xc2 := r_hRS
  have m_hOT : ∀ V, RS 0 N np fk V bb wt nx cx pt le sc ss ww xc → RS 0 N np fk V bb wt2 nx2 cx2 pt2 le2 sc2 ss2 ww2 xc2 := r_hOT
  have m_hlh : (lo2 1 = 0 ∧ hi2 1 = 4294967295) ∧ (lo2 0 = lo 0 ∧ hi2 0 = hi 0) := r_hlh
  replace hT : Wd g A s (MDX g mo rr np fk fn fo en no ou 0 (s_bg U) (tkC no ou 4) 4 t0 t1 s1 ca cq ch bb wt2 nx2 cx2 pt2 le2 sc2 ss2 ww2 xc2 lo2 hi2 xi ++ (CMX g ad bd N np fk fn fo U (resetS N np fk fn V) (tkC no ou 4) 4 en no ou wl wh 0 4294967295 ++ [OUTc g oa fz])) H locs := hT
  refine W.widen (k := 77 + cnt) (n := 107809 + 6 * cnt) (Nat.le_refl _) (Nat.le_refl _) ?_
  refine W.eq (g2 := F0 m 306 ls [.int (nI (s_n V)), .int (nI (s_n V))]) rfl ?_
  clear r_hRS r_hOT r_hlh
  have hT := hT.perm (List.perm_append_comm_assoc _ _ _)
  refine lv_icmp_eq (tgt := 751) hx hb dL_law_306 (by decide) (fun h => ?_) (fun h => ?_)
  · refine W.widen (k := 77 + (cnt + 1)) (n := 107809 + 6 * (cnt + 1)) (by omega) (by omega) ?_
    exact kk np fk fn fo U (resetS N np fk fn V) (tkC no ou 4) 4 en no ou wl wh 0 4294967295 0 (s_bg U) (tkC no ou 4) 4 t0 t1 s1 ca cq ch bb wt2 nx2 cx2 pt2 le2 sc2 ss2 ww2 xc2 lo2 hi2 xi fz H locs ls (I_again hI m_hRS m_hOT m_hlh) hT hl
  · exact absurd (rfl) h

set_option maxHeartbeats 1000000 in
set_option maxRecDepth 100000 in
theorem law_clear {p : Program} {l : Launch} {e : Env} {s : State} {m : MethodId} {below : List Frame} {meth : Method} {c : Code} {Q : State → Prop} {g : GT} {A : Nat → Prop} {ad bd mo : Nat → Nat} {oa b L N rr ix cnt : Nat} {xs : Nat → Int32} (hl9 : l.stackTraces = false) (X : LC p s m meth c g A b L xs) (hL : L ≤ 321) (hi5 : ix + 5 ≤ L) (hc : cnt < 64) (kk : LK p l e s m b below meth c Q g A ad bd mo oa N rr ix (cnt + 1) 751) : LK p l e s m b below meth c Q g A ad bd mo oa N rr ix cnt 311 := by
  obtain ⟨C, hX, hbl, hbA, hXS⟩ := X
  have hx := C.x
  have hb := C.b
  intro np fk fn fo U V code cp en no ou wl wh rl rh th bt xx ra t0 t1 s1 ca cq ch bb wt nx cx pt le sc ss ww xc lo hi xi fz H locs ls hI hT hl
  obtain ⟨⟨hG, h6⟩, ⟨hr0, hr1⟩, ⟨hxU, hxV⟩, ⟨hf1, hf2⟩, ⟨n1, n2, n3, n4⟩, ⟨o1, o2, o3, o4, o5, o6⟩, hE1, hE0, hE2⟩ := id hI
  subst o4
  subst o5
  subst o6
  have hnp := hG.1
  have hN := hG.2.1
  have hrr := hG.2.2.1
  have hN4 : N ≤ 4096 := by rw [hN]; exact Nat.pow_le_pow_right (i := rr) (j := 12) (by decide) hrr
  have hbgU := hxU.1.2.2.1
  have hbgV := hxV.1.2.2.1
  refine lv_aload_n hx hb dL_law_311 rfl (lv_at hl 1 rfl) ?_
  have hM := c_X10_clear l g ad bd np fk fn fo stA N U V code cp en no ou wl wh (lo 1) (hi 1) rr hG hxU.1 hxV.1
  refine r_callP (lc := CMX g ad bd N np fk fn fo U V code cp en no ou wl wh (lo 1) (hi 1)) (B := MDX g mo rr np fk fn fo en no ou th (s_bg U) xx ra t0 t1 s1 ca cq ch bb wt nx cx pt le sc ss ww xc lo hi xi ++ [OUTc g oa fz]) (As := []) (n := 0) (q1 := 52) (rest := []) C hT hM k552 k553 k554 k1 k555 (by decide +kernel) rfl rfl rfl rfl (Nat.le_of_ble_eq_true rfl) hl.1 ⟨Nat.le_of_ble_eq_true rfl, Nat.le_of_ble_eq_true rfl⟩ ⟨by show 77 + cnt + 0 ≤ 600384; omega, by show 107809 + 6 * cnt + 0 ≤ 7288888; omega⟩ dL_law_312 (fun _ => cmL_fst.trans cmL_fst.symm) (fun u H locs hT => ?_)
  have hT : Wd g A s (CMX g ad bd N np fk fn fo (resetS N np fk fn U) (resetS N np fk fn V) (tkC 0 ou 4) 4 false 0 ou 0 4294967295 0 4294967295 ++ (MDX g mo rr np fk fn fo en no ou th (s_bg U) xx ra t0 t1 s1 ca cq ch bb wt nx cx pt le sc ss ww xc lo hi xi ++ [OUTc g oa fz])) H locs := hT.eq (by unfold CMX; rw [rst_n (U := U), rst_nd (U := U), rst_bg (U := U), rst_f (U := U), rst_fc (U := U), rst_fs (U := U), rst_r0 (U := U), rst_t0 (U := U), rst_f0 (U := U), rst_r1 (U := U), rst_t1 (U := U), rst_f1 (U := U), rst_nr (U := U), rst_fx (U := U), rst_mp (U := U), rst_ml (U := U), rst_cx (U := U), rst_xi (U := U), rst_n (U := V), rst_nd (U := V), rst_bg (U := V), rst_f (U := V), rst_fc (U := V), rst_fs (U := V), rst_r0 (U := V), rst_t0 (U := V), rst_f0 (U := V), rst_r1 (U := V), rst_t1 (U := V), rst_f1 (U := V), rst_nr (U := V), rst_fx (U := V), rst_mp (U := V), rst_ml (U := V), rst_cx (U := V), rst_xi (U := V)])
  refine W.widen (k := 77 + cnt) (n := 107809 + 6 * cnt) (Nat.le_refl _) (Nat.le_refl _) ?_
  refine W.eq (g2 := F0 m 315 ls [.int 1]) rfl ?_
  have hT := hT.perm (List.perm_append_comm_assoc _ _ _)
  refine lv_aload_n hx hb dL_law_315 rfl (lv_at hl 2 rfl) ?_
  have hM := c_X11_clear l g mo rr th np no (s_bg U) en xx ra t0 t1 s1 ca cq ch stA fk fn fo bb wt nx cx pt le sc ss ww xc lo hi ou xi N hnp hN4 hG.2.2.2.1
  refine r_callP (lc := MDX g mo rr np fk fn fo en no ou th (s_bg U) xx ra t0 t1 s1 ca cq ch bb wt nx cx pt le sc ss ww xc lo hi xi) (B := CMX g ad bd N np fk fn fo (resetS N np fk fn U) (resetS N np fk fn V) (tkC 0 ou 4) 4 false 0 ou 0 4294967295 0 4294967295 ++ [OUTc g oa fz]) (As := []) (n := 0) (q1 := 0) (rest := [.int 1]) C hT hM k970 k971 k972 k15 k973 (by decide +kernel) rfl rfl rfl rfl (Nat.le_of_ble_eq_true rfl) hl.1 ⟨Nat.le_of_ble_eq_true rfl, Nat.le_of_ble_eq_true rfl⟩ ⟨by show 77 + cnt + 0 ≤ 600384; omega, by show 107809 + 6 * cnt + 0 ≤ 7288888; omega⟩ dL_law_316 (fun _ => mdL_fst.trans mdL_fst.symm) (fun u H locs hT => ?_)
  obtain ⟨⟨wt2, nx2, cx2, pt2, le2, sc2, ss2, ww2, xc2, lo2, hi2⟩, r_hRS, r_hlh⟩ := u
  have m_hRS : ∀ U V, FRS N np fk fn U → FRS N np fk fn V → (∀ j, j < 2000 → bb (2050 * 0 + j) = s_f U j) → (∀ j, j < 2000 → bb (2050 * 1 + j) = s_f V j) → RS 0 N np fk U bb wt2 nx2 cx2 pt2 le2 sc2 ss2 ww2 xc2 ∧ RS 1 N np fk V bb wt2 nx2 cx2 pt2 le2 sc2 ss2 ww2 xc2 := r_hRS
  have m_hlh : (lo2 0 = 0 ∧ hi2 0 = 4294967295) ∧ (lo2 1 = 0 ∧ hi2 1 = 4294967295) := r_hlh
  replace hT : Wd g A s (MDX g mo rr np fk fn fo false 0 ou 0 0 xx 0 t0 t1 s1 ca cq ch bb wt2 nx2 cx2 pt2 le2 sc2 ss2 ww2 xc2 lo2 hi2 xi ++ (CMX g ad bd N np fk fn fo (resetS N np fk fn U) (resetS N np fk fn V) (tkC 0 ou 4) 4 false 0 ou 0 4294967295 0 4294967295 ++ [OUTc g oa fz])) H locs := hT
  refine W.widen (k := 77 + cnt) (n := 107809 + 6 * cnt) (Nat.le_refl _) (Nat.le_refl _) ?_
  refine W.eq (g2 := F0 m 319 ls [.int 1, .int 1]) rfl ?_
  clear r_hRS r_hlh
  have hT := hT.perm (List.perm_append_comm_assoc _ _ _)
  refine lv_icmp_eq (tgt := 751) hx hb dL_law_319 (by decide) (fun h => ?_) (fun h => ?_)
  · refine W.widen (k := 77 + (cnt + 1)) (n := 107809 + 6 * (cnt + 1)) (by omega) (by omega) ?_
    exact kk np fk fn fo (resetS N np fk fn U) (resetS N np fk fn V) (tkC 0 ou 4) 4 false 0 ou 0 4294967295 0 4294967295 0 0 xx 0 t0 t1 s1 ca cq ch bb wt2 nx2 cx2 pt2 le2 sc2 ss2 ww2 xc2 lo2 hi2 xi fz H locs ls (I_clear hI m_hRS m_hlh) hT hl
  · exact absurd (rfl) h
