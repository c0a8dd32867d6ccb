set_option maxHeartbeats 1000000 in
set_option maxRecDepth 100000 in
theorem law_octet {p : Program} {l : Launch} {e : Env} {s : State} {m : MethodId} {below : List Frame} {meth : Method} {c : Code} {Q : State → Prop} {g : GT} {A : Nat → Prop} {ad bd mo : Nat → Nat} {oa b L N rr ix cnt : Nat} {xs : Nat → Int32} (hl9 : l.stackTraces = false) (X : LC p s m meth c g A b L xs) (hL : L ≤ 321) (hi5 : ix + 5 ≤ L) (hc : cnt < 64) (kk : LK p l e s m b below meth c Q g A ad bd mo oa N rr ix (cnt + 1) 751) : LK p l e s m b below meth c Q g A ad bd mo oa N rr ix cnt 247 := by
  obtain ⟨C, hX, hbl, hbA, hXS⟩ := X
  have hx := C.x
  have hb := C.b
  intro np fk fn fo U V code cp en no ou wl wh rl rh th bt xx ra t0 t1 s1 ca cq ch bb wt nx cx pt le sc ss ww xc lo hi xi fz H locs ls hI hT hl
  obtain ⟨⟨hG, h6⟩, ⟨hr0, hr1⟩, ⟨hxU, hxV⟩, ⟨hf1, hf2⟩, ⟨n1, n2, n3, n4⟩, ⟨o1, o2, o3, o4, o5, o6⟩, hE1, hE0, hE2⟩ := id hI
  subst o4
  subst o5
  subst o6
  have hnp := hG.1
  have hN := hG.2.1
  have hrr := hG.2.2.1
  have hN4 : N ≤ 4096 := by rw [hN]; exact Nat.pow_le_pow_right (i := rr) (j := 12) (by decide) hrr
  have hbgU := hxU.1.2.2.1
  have hbgV := hxV.1.2.2.1
  by_cases hst : en = true ∨ 0 < s_bg U
  · skip
    refine lv_aload_n hx hb dL_law_247 rfl (lv_at hl 1 rfl) ?_
    refine lv_aload_n hx hb dL_law_248 rfl (lv_at hl 0 rfl) ?_
    refine lv_iload hx hb dL_law_249 (lv_at hl 4 rfl) ?_
    refine lv_iconst (v := 1) hx hb dL_law_251 (by decide) ?_
    refine lv_iadd hx hb dL_law_252 ?_
    refine r_sld C hX hbl hbA hT (ix + 1) (nI_add ix 1) (by omega) (by omega) dL_law_253 ?_
    have hM := c_X10_octet_s l g ad bd np fk fn fo stA N U V code cp en no ou wl wh (lo 1) (hi 1) (xs (ix + 1)) hst (by omega)
    refine r_callP (lc := CMX g ad bd N np fk fn fo U V code cp en no ou wl wh (lo 1) (hi 1)) (B := MDX g mo rr np fk fn fo en no ou th (s_bg U) xx ra t0 t1 s1 ca cq ch bb wt nx cx pt le sc ss ww xc lo hi xi ++ [OUTc g oa fz]) (As := [.int (xs (ix + 1))]) (n := 1) (q1 := 52) (rest := []) C hT hM k490 k491 k492 k1 k493 (by decide +kernel) rfl rfl rfl rfl (Nat.le_of_ble_eq_true rfl) hl.1 ⟨Nat.le_of_ble_eq_true rfl, Nat.le_of_ble_eq_true rfl⟩ ⟨by show 77 + cnt + 0 ≤ 600384; omega, by show 107809 + 6 * cnt + 0 ≤ 7288888; omega⟩ dL_law_254 (fun _ => cmL_fst.trans cmL_fst.symm) (fun u H locs hT => ?_)
    have hT : Wd g A s (CMX g ad bd N np fk fn fo U V code cp en no ou wl wh (lo 1) (hi 1) ++ (MDX g mo rr np fk fn fo en no ou th (s_bg U) xx ra t0 t1 s1 ca cq ch bb wt nx cx pt le sc ss ww xc lo hi xi ++ [OUTc g oa fz])) H locs := hT
    refine W.widen (k := 77 + cnt) (n := 107809 + 6 * cnt) (Nat.le_refl _) (Nat.le_refl _) ?_
    refine W.eq (g2 := F0 m 257 ls [.int (-4)]) rfl ?_
    have hT := hT.perm (List.perm_append_comm_assoc _ _ _)
    refine lv_aload_n hx hb dL_law_257 rfl (lv_at hl 2 rfl) ?_
    refine lv_aload_n hx hb dL_law_258 rfl (lv_at hl 0 rfl) ?_
    refine lv_iload hx hb dL_law_259 (lv_at hl 4 rfl) ?_
    refine lv_iconst (v := 1) hx hb dL_law_261 (by decide) ?_
    refine lv_iadd hx hb dL_law_262 ?_
    refine r_sld C hX hbl hbA hT (ix + 1) (nI_add ix 1) (by omega) (by omega) dL_law_263 ?_
    have hM := c_X11_octet_s l g mo rr th np no (s_bg U) en xx ra t0 t1 s1 ca cq ch stA fk fn fo bb wt nx cx pt le sc ss ww xc lo hi ou xi (xs (ix + 1)) hst (by omega)
    refine r_callP (lc := MDX g mo rr np fk fn fo en no ou th (s_bg U) xx ra t0 t1 s1 ca cq ch bb wt nx cx pt le sc ss ww xc lo hi xi) (B := CMX g ad bd N np fk fn fo U V code cp en no ou wl wh (lo 1) (hi 1) ++ [OUTc g oa fz]) (As := [.int (xs (ix + 1))]) (n := 1) (q1 := 0) (rest := [.int (-4)]) C hT hM k946 k947 k948 k15 k949 (by decide +kernel) rfl rfl rfl rfl (Nat.le_of_ble_eq_true rfl) hl.1 ⟨Nat.le_of_ble_eq_true rfl, Nat.le_of_ble_eq_true rfl⟩ ⟨by show 77 + cnt + 0 ≤ 600384; omega, by show 107809 + 6 * cnt + 0 ≤ 7288888; omega⟩ dL_law_264 (fun _ => mdL_fst.trans mdL_fst.symm) (fun u H locs hT => ?_)
    have hT : Wd g A s (MDX g mo rr np fk fn fo en no ou 0 (s_bg U) xx ra t0 t1 s1 ca cq ch bb wt nx cx pt le sc ss ww xc lo hi xi ++ (CMX g ad bd N np fk fn fo U V code cp en no ou wl wh (lo 1) (hi 1) ++ [OUTc g oa fz])) H locs := hT
    refine W.widen (k := 77 + cnt) (n := 107809 + 6 * cnt) (Nat.le_refl _) (Nat.le_refl _) ?_
    refine W.eq (g2 := F0 m 267 ls [.int (-4), .int (-4)]) rfl ?_
    have hT := hT.perm (List.perm_append_comm_assoc _ _ _)
    refine lv_icmp_eq (tgt := 751) hx hb dL_law_267 (by decide) (fun h => ?_) (fun h => ?_)
    · refine W.widen (k := 77 + (cnt + 1)) (n := 107809 + 6 * (cnt + 1)) (by omega) (by omega) ?_
      exact kk np fk fn fo U V code cp en no ou wl wh (lo 1) (hi 1) 0 (s_bg U) xx ra t0 t1 s1 ca cq ch bb wt nx cx pt le sc ss ww xc lo hi xi fz H locs ls (I_mono hI) hT hl
    · exact absurd (rfl) h
  · skip
    obtain ⟨hen, hb0⟩ := oc_split hst
    obtain ⟨⟨hCW, q1, q2⟩, q3, q4⟩ := hE0 hen
    subst q1
    subst q2
    have hn8 := oct_8 (st := stA) (N := N) (np := np) (fk := fk) (fn := fn) (fo := fo) (b := xs (ix + 1)) (w := (U, lo 0, hi 0, no, ou)) hb0
    obtain ⟨w, hw⟩ : ∃ w, w = octN stA N np fk fn fo (xs (ix + 1)) (U, lo 0, hi 0, no, ou) 8 := ⟨_, rfl⟩
    rw [← hw] at hn8
    refine lv_aload_n hx hb dL_law_247 rfl (lv_at hl 1 rfl) ?_
    refine lv_aload_n hx hb dL_law_248 rfl (lv_at hl 0 rfl) ?_
    refine lv_iload hx hb dL_law_249 (lv_at hl 4 rfl) ?_
    refine lv_iconst (v := 1) hx hb dL_law_251 (by decide) ?_
    refine lv_iadd hx hb dL_law_252 ?_
    refine r_sld C hX hbl hbA hT (ix + 1) (nI_add ix 1) (by omega) (by omega) dL_law_253 ?_
    have hM := c_X10_octet l g ad bd np fk fn fo stA N U V code cp en no ou (lo 0) (hi 0) (lo 1) (hi 1) rr (xs (ix + 1)) hG hxU hCW o1 hen hb0 (by omega) (by omega)
    rw [← hw] at hM
    refine r_callP (lc := CMX g ad bd N np fk fn fo U V code cp en no ou (lo 0) (hi 0) (lo 1) (hi 1)) (B := MDX g mo rr np fk fn fo en no ou th (s_bg U) xx ra t0 t1 s1 ca cq ch bb wt nx cx pt le sc ss ww xc lo hi xi ++ [OUTc g oa fz]) (As := [.int (xs (ix + 1))]) (n := 1) (q1 := 52) (rest := []) C hT hM k490 k491 k492 k1 k493 (by decide +kernel) rfl rfl rfl rfl (Nat.le_of_ble_eq_true rfl) hl.1 ⟨Nat.le_of_ble_eq_true rfl, Nat.le_of_ble_eq_true rfl⟩ ⟨by show 77 + cnt + 0 ≤ 600384; omega, by show 107809 + 6 * cnt + 0 ≤ 7288888; omega⟩ dL_law_254 (fun _ => cmL_fst.trans cmL_fst.symm) (fun u H locs hT => ?_)
    have hT : Wd g A s (CMX g ad bd N np fk fn fo w.1 V code cp en w.2.2.2.1 w.2.2.2.2 w.2.1 w.2.2.1 (lo 1) (hi 1) ++ (MDX g mo rr np fk fn fo en no ou th (s_bg U) xx ra t0 t1 s1 ca cq ch bb wt nx cx pt le sc ss ww xc lo hi xi ++ [OUTc g oa fz])) H locs := hT
    refine W.widen (k := 77 + cnt) (n := 107809 + 6 * cnt) (Nat.le_refl _) (Nat.le_refl _) ?_
    refine W.eq (g2 := F0 m 257 ls [.int (nI w.2.2.2.1)]) rfl ?_
    have hT := hT.perm (List.perm_append_comm_assoc _ _ _)
    refine lv_aload_n hx hb dL_law_257 rfl (lv_at hl 2 rfl) ?_
    refine lv_aload_n hx hb dL_law_258 rfl (lv_at hl 0 rfl) ?_
    refine lv_iload hx hb dL_law_259 (lv_at hl 4 rfl) ?_
    refine lv_iconst (v := 1) hx hb dL_law_261 (by decide) ?_
    refine lv_iadd hx hb dL_law_262 ?_
    refine r_sld C hX hbl hbA hT (ix + 1) (nI_add ix 1) (by omega) (by omega) dL_law_263 ?_
    have hM := c_X11_octet l g mo rr th np no (s_bg U) en xx ra t0 t1 s1 ca cq ch stA fk fn fo bb wt nx cx pt le sc ss ww xc lo hi ou xi N U (xs (ix + 1)) hG hr0 hxU hCW o1 hen hb0 (by omega) (by omega) (by omega)
    refine r_callP (lc := MDX g mo rr np fk fn fo en no ou th (s_bg U) xx ra t0 t1 s1 ca cq ch bb wt nx cx pt le sc ss ww xc lo hi xi) (B := CMX g ad bd N np fk fn fo w.1 V code cp en w.2.2.2.1 w.2.2.2.2 w.2.1 w.2.2.1 (lo 1) (hi 1) ++ [OUTc g oa fz]) (As := [.int (xs (ix + 1))]) (n := 1) (q1 := 0) (rest := [.int (nI w.2.2.2.1)]) C hT hM k946 k947 k948 k15 k949 (by decide +kernel) rfl rfl rfl rfl (Nat.le_of_ble_eq_true rfl) hl.1 ⟨Nat.le_of_ble_eq_true rfl, Nat.le_of_ble_eq_true rfl⟩ ⟨by show 77 + cnt + 0 ≤ 600384; omega, by show 107809 + 6 * cnt + 0 ≤ 7288888; omega⟩ dL_law_264 (fun _ => mdL_fst.trans mdL_fst.symm) (fun u H locs hT => ?_)
    obtain ⟨⟨lo2, hi2, no2, ou2, bb2, wt2, nx2, cx2, pt2, le2, sc2, ss2, ww2, xc2, t02, t12, s12, ca2, cq2, ch2, xi2, bt2⟩, r_hRS, r_hOT, r_hE, r_hl1, r_hb2⟩ := u
    have m_hRS : RS 0 N np fk (octN stA N np fk fn fo (xs (ix + 1)) (U, lo 0, hi 0, no, ou) 8).1 bb2 wt2 nx2 cx2 pt2 le2 sc2 ss2 ww2 xc2 := r_hRS
    have m_hOT : ∀ s2 V, s2 < 2 → ¬ s2 = 0 → RS s2 N np fk V bb wt nx cx pt le sc ss ww xc → RS s2 N np fk V bb2 wt2 nx2 cx2 pt2 le2 sc2 ss2 ww2 xc2 := r_hOT
    have m_hE : (lo2 0, hi2 0, no2, ou2) = (octN stA N np fk fn fo (xs (ix + 1)) (U, lo 0, hi 0, no, ou) 8).2 := r_hE
    have m_hl1 : lo2 1 = lo 1 ∧ hi2 1 = hi 1 := r_hl1
    have m_hb2 : bt2 = s_bg (octN stA N np fk fn fo (xs (ix + 1)) (U, lo 0, hi 0, no, ou) 8).1 := r_hb2
    replace hT : Wd g A s (MDX g mo rr np fk fn fo en no2 ou2 0 bt2 xx ra t02 t12 s12 ca2 cq2 ch2 bb2 wt2 nx2 cx2 pt2 le2 sc2 ss2 ww2 xc2 lo2 hi2 xi2 ++ (CMX g ad bd N np fk fn fo w.1 V code cp en w.2.2.2.1 w.2.2.2.2 w.2.1 w.2.2.1 (lo 1) (hi 1) ++ [OUTc g oa fz])) H locs := hT
    refine W.widen (k := 77 + cnt) (n := 107809 + 6 * cnt) (Nat.le_refl _) (Nat.le_refl _) ?_
    refine W.eq (g2 := F0 m 267 ls [.int (nI no2), .int (nI w.2.2.2.1)]) rfl ?_
    clear r_hRS r_hOT r_hE r_hl1 r_hb2
    rw [← hw] at m_hRS m_hE m_hb2
    obtain ⟨w1, w2, w3, w4, w5⟩ := w
    cases m_hE
    subst m_hb2
    have hT := hT.perm (List.perm_append_comm_assoc _ _ _)
    refine lv_icmp_eq (tgt := 751) hx hb dL_law_267 (by decide) (fun h => ?_) (fun h => ?_)
    · refine W.widen (k := 77 + (cnt + 1)) (n := 107809 + 6 * (cnt + 1)) (by omega) (by omega) ?_
      exact kk np fk fn fo w1 V code cp en no2 ou2 (lo2 0) (hi2 0) (lo 1) (hi 1) 0 (s_bg w1) xx ra t02 t12 s12 ca2 cq2 ch2 bb2 wt2 nx2 cx2 pt2 le2 sc2 ss2 ww2 xc2 lo2 hi2 xi2 fz H locs ls (I_oct (w := (w1, lo2 0, hi2 0, no2, ou2)) hc hen hb0 hw hI m_hRS m_hOT ⟨rfl, m_hl1.1⟩ ⟨rfl, m_hl1.2⟩ hn8) hT hl
    · exact absurd (rfl) h

set_option maxHeartbeats 1000000 in
set_option maxRecDepth 100000 in
theorem law_get {p : Program} {l : Launch} {e : Env} {s : State} {m : MethodId} {below : List Frame} {meth : Method} {c : Code} {Q : State → Prop} {g : GT} {A : Nat → Prop} {ad bd mo : Nat → Nat} {oa b L N rr ix cnt : Nat} {xs : Nat → Int32} (hl9 : l.stackTraces = false) (X : LC p s m meth c g A b L xs) (hL : L ≤ 321) (hi5 : ix + 5 ≤ L) (hc : cnt < 64) (kk : LK p l e s m b below meth c Q g A ad bd mo oa N rr ix (cnt + 1) 751) : LK p l e s m b below meth c Q g A ad bd mo oa N rr ix cnt 285 := by
  obtain ⟨C, hX, hbl, hbA, hXS⟩ := X
  have hx := C.x
  have hb := C.b
  intro np fk fn fo U V code cp en no ou wl wh rl rh th bt xx ra t0 t1 s1 ca cq ch bb wt nx cx pt le sc ss ww xc lo hi xi fz H locs ls hI hT hl
  obtain ⟨⟨hG, h6⟩, ⟨hr0, hr1⟩, ⟨hxU, hxV⟩, ⟨hf1, hf2⟩, ⟨n1, n2, n3, n4⟩, ⟨o1, o2, o3, o4, o5, o6⟩, hE1, hE0, hE2⟩ := id hI
  subst o4
  subst o5
  subst o6
  have hnp := hG.1
  have hN := hG.2.1
  have hrr := hG.2.2.1
  have hN4 : N ≤ 4096 := by rw [hN]; exact Nat.pow_le_pow_right (i := rr) (j := 12) (by decide) hrr
  have hbgU := hxU.1.2.2.1
  have hbgV := hxV.1.2.2.1
  by_cases hen : en = false
  · skip
    refine lv_aload_n hx hb dL_law_285 rfl (lv_at hl 1 rfl) ?_
    have hM := c_X10_get_s l g ad bd np fk fn fo stA N U V code cp en no ou wl wh (lo 1) (hi 1) hen
    refine r_callP (lc := CMX g ad bd N np fk fn fo U V code cp en no ou wl wh (lo 1) (hi 1)) (B := MDX g mo rr np fk fn fo en no ou th (s_bg U) xx ra t0 t1 s1 ca cq ch bb wt nx cx pt le sc ss ww xc lo hi xi ++ [OUTc g oa fz]) (As := []) (n := 0) (q1 := 52) (rest := []) C hT hM k520 k521 k522 k1 k523 (by decide +kernel) rfl rfl rfl rfl (Nat.le_of_ble_eq_true rfl) hl.1 ⟨Nat.le_of_ble_eq_true rfl, Nat.le_of_ble_eq_true rfl⟩ ⟨by show 77 + cnt + 0 ≤ 600384; omega, by show 107809 + 6 * cnt + 0 ≤ 7288888; omega⟩ dL_law_286 (fun _ => cmL_fst.trans cmL_fst.symm) (fun u H locs hT => ?_)
    have hT : Wd g A s (CMX g ad bd N np fk fn fo U V code cp en no ou wl wh (lo 1) (hi 1) ++ (MDX g mo rr np fk fn fo en no ou th (s_bg U) xx ra t0 t1 s1 ca cq ch bb wt nx cx pt le sc ss ww xc lo hi xi ++ [OUTc g oa fz])) H locs := hT
    refine W.widen (k := 77 + cnt) (n := 107809 + 6 * cnt) (Nat.le_refl _) (Nat.le_refl _) ?_
    refine W.eq (g2 := F0 m 289 ls [.int (-4)]) rfl ?_
    have hT := hT.perm (List.perm_append_comm_assoc _ _ _)
    refine lv_aload_n hx hb dL_law_289 rfl (lv_at hl 2 rfl) ?_
    have hM := c_X11_get_s l g mo rr th np no (s_bg U) en xx ra t0 t1 s1 ca cq ch stA fk fn fo bb wt nx cx pt le sc ss ww xc lo hi ou xi hen
    refine r_callP (lc := MDX g mo rr np fk fn fo en no ou th (s_bg U) xx ra t0 t1 s1 ca cq ch bb wt nx cx pt le sc ss ww xc lo hi xi) (B := CMX g ad bd N np fk fn fo U V code cp en no ou wl wh (lo 1) (hi 1) ++ [OUTc g oa fz]) (As := []) (n := 0) (q1 := 0) (rest := [.int (-4)]) C hT hM k962 k963 k964 k15 k965 (by decide +kernel) rfl rfl rfl rfl (Nat.le_of_ble_eq_true rfl) hl.1 ⟨Nat.le_of_ble_eq_true rfl, Nat.le_of_ble_eq_true rfl⟩ ⟨by show 77 + cnt + 0 ≤ 600384; omega, by show 107809 + 6 * cnt + 0 ≤ 7288888; omega⟩ dL_law_290 (fun _ => mdL_fst.trans mdL_fst.symm) (fun u H locs hT => ?_)
    have hT : Wd g A s (MDX g mo rr np fk fn fo en no ou 0 (s_bg U) xx ra t0 t1 s1 ca cq ch bb wt nx cx pt le sc ss ww xc lo hi xi ++ (CMX g ad bd N np fk fn fo U V code cp en no ou wl wh (lo 1) (hi 1) ++ [OUTc g oa fz])) H locs := hT
    refine W.widen (k := 77 + cnt) (n := 107809 + 6 * cnt) (Nat.le_refl _) (Nat.le_refl _) ?_
    refine W.eq (g2 := F0 m 293 ls [.int (-4), .int (-4)]) rfl ?_
    have hT := hT.perm (List.perm_append_comm_assoc _ _ _)
    refine lv_icmp_eq (tgt := 751) hx hb dL_law_293 (by decide) (fun h => ?_) (fun h => ?_)
    · refine W.widen (k := 77 + (cnt + 1)) (n := 107809 + 6 * (cnt + 1)) (by omega) (by omega) ?_
      exact kk np fk fn fo U V code cp en no ou wl wh (lo 1) (hi 1) 0 (s_bg U) xx ra t0 t1 s1 ca cq ch bb wt nx cx pt le sc ss ww xc lo hi xi fz H locs ls (I_mono hI) hT hl
    · exact absurd (rfl) h
  · skip
    have hen : en = true := by cases en with | true => rfl | false => exact absurd rfl hen
    obtain ⟨q1, q2⟩ := hE1 hen
    subst q1
    subst q2
    by_cases hn : s_n U ≤ s_n V
    · skip
      refine lv_aload_n hx hb dL_law_285 rfl (lv_at hl 1 rfl) ?_
      have hM := c_X10_get_n l g ad bd np fk fn fo stA N U V xx ra en no ou wl wh (lo 1) (hi 1) hen (by omega) (by omega)
      refine r_callP (lc := CMX g ad bd N np fk fn fo U V xx ra en no ou wl wh (lo 1) (hi 1)) (B := MDX g mo rr np fk fn fo en no ou th (s_bg U) xx ra t0 t1 s1 ca cq ch bb wt nx cx pt le sc ss ww xc lo hi xi ++ [OUTc g oa fz]) (As := []) (n := 0) (q1 := 52) (rest := []) C hT hM k520 k521 k522 k1 k523 (by decide +kernel) rfl rfl rfl rfl (Nat.le_of_ble_eq_true rfl) hl.1 ⟨Nat.le_of_ble_eq_true rfl, Nat.le_of_ble_eq_true rfl⟩ ⟨by show 77 + cnt + 0 ≤ 600384; omega, by show 107809 + 6 * cnt + 0 ≤ 7288888; omega⟩ dL_law_286 (fun _ => cmL_fst.trans cmL_fst.symm) (fun u H locs hT => ?_)
      have hT : Wd g A s (CMX g ad bd N np fk fn fo U V xx ra en no ou wl wh (lo 1) (hi 1) ++ (MDX g mo rr np fk fn fo en no ou th (s_bg U) xx ra t0 t1 s1 ca cq ch bb wt nx cx pt le sc ss ww xc lo hi xi ++ [OUTc g oa fz])) H locs := hT
      refine W.widen (k := 77 + cnt) (n := 107809 + 6 * cnt) (Nat.le_refl _) (Nat.le_refl _) ?_
      refine W.eq (g2 := F0 m 289 ls [.int (-2)]) rfl ?_
      have hT := hT.perm (List.perm_append_comm_assoc _ _ _)
      refine lv_aload_n hx hb dL_law_289 rfl (lv_at hl 2 rfl) ?_
      have hM := c_X11_get_n l g mo rr th np no (s_bg U) en xx ra t0 t1 s1 ca cq ch stA fk fn fo bb wt nx cx pt le sc ss ww xc lo hi ou xi (s_n U) (s_n V) hen hr0.1.1 hr1.1.1 hn (by omega)
      refine r_callP (lc := MDX g mo rr np fk fn fo en no ou th (s_bg U) xx ra t0 t1 s1 ca cq ch bb wt nx cx pt le sc ss ww xc lo hi xi) (B := CMX g ad bd N np fk fn fo U V xx ra en no ou wl wh (lo 1) (hi 1) ++ [OUTc g oa fz]) (As := []) (n := 0) (q1 := 0) (rest := [.int (-2)]) C hT hM k962 k963 k964 k15 k965 (by decide +kernel) rfl rfl rfl rfl (Nat.le_of_ble_eq_true rfl) hl.1 ⟨Nat.le_of_ble_eq_true rfl, Nat.le_of_ble_eq_true rfl⟩ ⟨by show 77 + cnt + 0 ≤ 600384; omega, by show 107809 + 6 * cnt + 0 ≤ 7288888; omega⟩ dL_law_290 (fun _ => mdL_fst.trans mdL_fst.symm) (fun u H locs hT => ?_)
      have hT : Wd g A s (MDX g mo rr np fk fn fo en no ou 0 (s_bg U) xx ra t0 t1 s1 ca cq ch bb wt nx cx pt le sc ss ww xc lo hi xi ++ (CMX g ad bd N np fk fn fo U V xx ra en no ou wl wh (lo 1) (hi 1) ++ [OUTc g oa fz])) H locs := hT
      refine W.widen (k := 77 + cnt) (n := 107809 + 6 * cnt) (Nat.le_refl _) (Nat.le_refl _) ?_
      refine W.eq (g2 := F0 m 293 ls [.int (-2), .int (-2)]) rfl ?_
      have hT := hT.perm (List.perm_append_comm_assoc _ _ _)
      refine lv_icmp_eq (tgt := 751) hx hb dL_law_293 (by decide) (fun h => ?_) (fun h => ?_)
      · refine W.widen (k := 77 + (cnt + 1)) (n := 107809 + 6 * (cnt + 1)) (by omega) (by omega) ?_
        exact kk np fk fn fo U V xx ra en no ou wl wh (lo 1) (hi 1) 0 (s_bg U) xx ra t0 t1 s1 ca cq ch bb wt nx cx pt le sc ss ww xc lo hi xi fz H locs ls (I_mono hI) hT hl
      · exact absurd (rfl) h
    · skip
      obtain ⟨w, hw⟩ : ∃ w, w = rdN stA N np fk fn fo no ou (V, lo 1, hi 1, xx, ra) 8 := ⟨_, rfl⟩
      refine lv_aload_n hx hb dL_law_285 rfl (lv_at hl 1 rfl) ?_
      have hM := c_X10_get l g ad bd np fk fn fo stA N U V xx ra en no ou wl wh (lo 1) (hi 1) rr hG hxV o2 hen (by omega) (by omega) o3 (nd1 hxV o3) (by omega) (by omega) (by omega)
      rw [← hw] at hM
      refine r_callP (lc := CMX g ad bd N np fk fn fo U V xx ra en no ou wl wh (lo 1) (hi 1)) (B := MDX g mo rr np fk fn fo en no ou th (s_bg U) xx ra t0 t1 s1 ca cq ch bb wt nx cx pt le sc ss ww xc lo hi xi ++ [OUTc g oa fz]) (As := []) (n := 0) (q1 := 52) (rest := []) C hT hM k520 k521 k522 k1 k523 (by decide +kernel) rfl rfl rfl rfl (Nat.le_of_ble_eq_true rfl) hl.1 ⟨Nat.le_of_ble_eq_true rfl, Nat.le_of_ble_eq_true rfl⟩ ⟨by show 77 + cnt + 0 ≤ 600384; omega, by show 107809 + 6 * cnt + 0 ≤ 7288888; omega⟩ dL_law_286 (fun _ => cmL_fst.trans cmL_fst.symm) (fun u H locs hT => ?_)
      have hT : Wd g A s (CMX g ad bd N np fk fn fo U w.1 w.2.2.2.1 w.2.2.2.2 en no ou wl wh w.2.1 w.2.2.1 ++ (MDX g mo rr np fk fn fo en no ou th (s_bg U) xx ra t0 t1 s1 ca cq ch bb wt nx cx pt le sc ss ww xc lo hi xi ++ [OUTc g oa fz])) H locs := hT
      refine W.widen (k := 77 + cnt) (n := 107809 + 6 * cnt) (Nat.le_refl _) (Nat.le_refl _) ?_
      refine W.eq (g2 := F0 m 289 ls [.int (backN (s_f w.1) (s_n w.1) 1)]) rfl ?_
      have hT := hT.perm (List.perm_append_comm_assoc _ _ _)
      refine lv_aload_n hx hb dL_law_289 rfl (lv_at hl 2 rfl) ?_
      have hM := c_X11_get l g mo rr th np no (s_bg U) en xx ra t0 t1 s1 ca cq ch stA fk fn fo bb wt nx cx pt le sc ss ww xc lo hi ou xi N V (s_n U) hG hr1 hxV o2 hen hr0.1.1 (by omega) (by omega) (by omega) (by omega) (by omega)
      refine r_callP (lc := MDX g mo rr np fk fn fo en no ou th (s_bg U) xx ra t0 t1 s1 ca cq ch bb wt nx cx pt le sc ss ww xc lo hi xi) (B := CMX g ad bd N np fk fn fo U w.1 w.2.2.2.1 w.2.2.2.2 en no ou wl wh w.2.1 w.2.2.1 ++ [OUTc g oa fz]) (As := []) (n := 0) (q1 := 0) (rest := [.int (backN (s_f w.1) (s_n w.1) 1)]) C hT hM k962 k963 k964 k15 k965 (by decide +kernel) rfl rfl rfl rfl (Nat.le_of_ble_eq_true rfl) hl.1 ⟨Nat.le_of_ble_eq_true rfl, Nat.le_of_ble_eq_true rfl⟩ ⟨by show 77 + cnt + 0 ≤ 600384; omega, by show 107809 + 6 * cnt + 0 ≤ 7288888; omega⟩ dL_law_290 (fun _ => mdL_fst.trans mdL_fst.symm) (fun u H locs hT => ?_)
      obtain ⟨⟨lo2, hi2, xx2, ra2, bb2, wt2, nx2, cx2, pt2, le2, sc2, ss2, ww2, xc2, t02, t12, s12, ca2, cq2, ch2, xi2⟩, r_hRS, r_hOT, r_hE, r_hl1⟩ := u
      have m_hRS : RS 1 N np fk (rdN stA N np fk fn fo no ou (V, lo 1, hi 1, xx, ra) 8).1 bb2 wt2 nx2 cx2 pt2 le2 sc2 ss2 ww2 xc2 := r_hRS
      have m_hOT : ∀ s2 V, s2 < 2 → ¬ s2 = 1 → RS s2 N np fk V bb wt nx cx pt le sc ss ww xc → RS s2 N np fk V bb2 wt2 nx2 cx2 pt2 le2 sc2 ss2 ww2 xc2 := r_hOT
      have m_hE : (lo2 1, hi2 1, xx2, ra2) = (rdN stA N np fk fn fo no ou (V, lo 1, hi 1, xx, ra) 8).2 := r_hE
      have m_hl1 : lo2 0 = lo 0 ∧ hi2 0 = hi 0 := r_hl1
      replace hT : Wd g A s (MDX g mo rr np fk fn fo en no ou 0 (s_bg U) xx2 ra2 t02 t12 s12 ca2 cq2 ch2 bb2 wt2 nx2 cx2 pt2 le2 sc2 ss2 ww2 xc2 lo2 hi2 xi2 ++ (CMX g ad bd N np fk fn fo U w.1 w.2.2.2.1 w.2.2.2.2 en no ou wl wh w.2.1 w.2.2.1 ++ [OUTc g oa fz])) H locs := hT
      refine W.widen (k := 77 + cnt) (n := 107809 + 6 * cnt) (Nat.le_refl _) (Nat.le_refl _) ?_
      refine W.eq (g2 := F0 m 293 ls [.int (backN (s_f (rdN stA N np fk fn fo no ou (V, lo 1, hi 1, xx, ra) 8).1) (s_n (rdN stA N np fk fn fo no ou (V, lo 1, hi 1, xx, ra) 8).1) 1), .int (backN (s_f w.1) (s_n w.1) 1)]) rfl ?_
      clear r_hRS r_hOT r_hE r_hl1
      rw [← hw] at m_hRS m_hE
      obtain ⟨w1, w2, w3, w4, w5⟩ := w
      cases m_hE
      have hT := hT.perm (List.perm_append_comm_assoc _ _ _)
      refine lv_icmp_eq (tgt := 751) hx hb dL_law_293 (by decide) (fun h => ?_) (fun h => ?_)
      · refine W.widen (k := 77 + (cnt + 1)) (n := 107809 + 6 * (cnt + 1)) (by omega) (by omega) ?_
        exact kk np fk fn fo U w1 xx2 ra2 en no ou wl wh (lo2 1) (hi2 1) 0 (s_bg U) xx2 ra2 t02 t12 s12 ca2 cq2 ch2 bb2 wt2 nx2 cx2 pt2 le2 sc2 ss2 ww2 xc2 lo2 hi2 xi2 fz H locs ls (I_get (w := (w1, lo2 1, hi2 1, xx2, ra2)) hc hen hw hI m_hRS m_hOT rfl rfl) hT hl
      · exact absurd (by rw [← hw]) h
