set_option maxHeartbeats 1000000 in
set_option maxRecDepth 100000 in
theorem law_bit {p : Program} {l : Launch} {e : Env} {s : State} {m : MethodId} {below : List Frame} {meth : Method} {c : Code} {Q : State → Prop} {g : GT} {A : Nat → Prop} {ad bd mo : Nat → Nat} {oa b L N rr ix cnt : Nat} {xs : Nat → Int32} (hl9 : l.stackTraces = false) (X : LC p s m meth c g A b L xs) (hL : L ≤ 321) (hi5 : ix + 5 ≤ L) (hc : cnt < 64) (kk : LK p l e s m b below meth c Q g A ad bd mo oa N rr ix (cnt + 1) 751) : LK p l e s m b below meth c Q g A ad bd mo oa N rr ix cnt 206 := by
  obtain ⟨C, hX, hbl, hbA, hXS⟩ := X
  have hx := C.x
  have hb := C.b
  intro np fk fn fo U V code cp en no ou wl wh rl rh th bt xx ra t0 t1 s1 ca cq ch bb wt nx cx pt le sc ss ww xc lo hi xi fz H locs ls hI hT hl
  obtain ⟨⟨hG, h6⟩, ⟨hr0, hr1⟩, ⟨hxU, hxV⟩, ⟨hf1, hf2⟩, ⟨n1, n2, n3, n4⟩, ⟨o1, o2, o3, o4, o5, o6⟩, hE1, hE0, hE2⟩ := id hI
  subst o4
  subst o5
  subst o6
  have hnp := hG.1
  have hN := hG.2.1
  have hrr := hG.2.2.1
  have hN4 : N ≤ 4096 := by rw [hN]; exact Nat.pow_le_pow_right (i := rr) (j := 12) (by decide) hrr
  have hbgU := hxU.1.2.2.1
  have hbgV := hxV.1.2.2.1
  by_cases h0 : xs (ix + 1) = 0
  · skip
    by_cases hen : en = true
    · skip
      refine lv_aload_n hx hb dL_law_206 rfl (lv_at hl 1 rfl) ?_
      refine lv_aload_n hx hb dL_law_207 rfl (lv_at hl 0 rfl) ?_
      refine lv_iload hx hb dL_law_208 (lv_at hl 4 rfl) ?_
      refine lv_iconst (v := 1) hx hb dL_law_210 (by decide) ?_
      refine lv_iadd hx hb dL_law_211 ?_
      refine r_sld C hX hbl hbA hT (ix + 1) (nI_add ix 1) (by omega) (by omega) dL_law_212 ?_
      refine lv_if_eq (tgt := 220) hx hb dL_law_213 (by decide) (fun hz => ?_) (fun hz => ?_)
      case refine_2 => exact absurd h0 hz
      refine lv_iconst (v := 0) hx hb dL_law_220 (by decide) ?_
      have hM := c_X10_bit_s l g ad bd np fk fn fo stA N U V code cp en no ou wl wh (lo 1) (hi 1) 0 hen
      refine r_callP (lc := CMX g ad bd N np fk fn fo U V code cp en no ou wl wh (lo 1) (hi 1)) (B := MDX g mo rr np fk fn fo en no ou th (s_bg U) xx ra t0 t1 s1 ca cq ch bb wt nx cx pt le sc ss ww xc lo hi xi ++ [OUTc g oa fz]) (As := [.int 0]) (n := 1) (q1 := 52) (rest := []) C hT hM k369 k370 k371 k1 k372 (by decide +kernel) rfl rfl rfl rfl (Nat.le_of_ble_eq_true rfl) hl.1 ⟨Nat.le_of_ble_eq_true rfl, Nat.le_of_ble_eq_true rfl⟩ ⟨by show 77 + cnt + 0 ≤ 600384; omega, by show 107809 + 6 * cnt + 0 ≤ 7288888; omega⟩ dL_law_221 (fun _ => cmL_fst.trans cmL_fst.symm) (fun u H locs hT => ?_)
      have hT : Wd g A s (CMX g ad bd N np fk fn fo U V code cp en no ou wl wh (lo 1) (hi 1) ++ (MDX g mo rr np fk fn fo en no ou th (s_bg U) xx ra t0 t1 s1 ca cq ch bb wt nx cx pt le sc ss ww xc lo hi xi ++ [OUTc g oa fz])) H locs := hT
      refine W.widen (k := 77 + cnt) (n := 107809 + 6 * cnt) (Nat.le_refl _) (Nat.le_refl _) ?_
      refine W.eq (g2 := F0 m 224 ls [.int (-4)]) rfl ?_
      have hT := hT.perm (List.perm_append_comm_assoc _ _ _)
      refine lv_aload_n hx hb dL_law_224 rfl (lv_at hl 2 rfl) ?_
      refine lv_aload_n hx hb dL_law_225 rfl (lv_at hl 0 rfl) ?_
      refine lv_iload hx hb dL_law_226 (lv_at hl 4 rfl) ?_
      refine lv_iconst (v := 1) hx hb dL_law_228 (by decide) ?_
      refine lv_iadd hx hb dL_law_229 ?_
      refine r_sld C hX hbl hbA hT (ix + 1) (nI_add ix 1) (by omega) (by omega) dL_law_230 ?_
      refine lv_if_eq (tgt := 238) hx hb dL_law_231 (by decide) (fun hz => ?_) (fun hz => ?_)
      case refine_2 => exact absurd h0 hz
      refine lv_iconst (v := 0) hx hb dL_law_238 (by decide) ?_
      have hM := c_X11_bit_s l g mo rr th np no (s_bg U) en xx ra t0 t1 s1 ca cq ch stA fk fn fo bb wt nx cx pt le sc ss ww xc lo hi ou xi 0 hen
      refine r_callP (lc := MDX g mo rr np fk fn fo en no ou th (s_bg U) xx ra t0 t1 s1 ca cq ch bb wt nx cx pt le sc ss ww xc lo hi xi) (B := CMX g ad bd N np fk fn fo U V code cp en no ou wl wh (lo 1) (hi 1) ++ [OUTc g oa fz]) (As := [.int 0]) (n := 1) (q1 := 0) (rest := [.int (-4)]) C hT hM k899 k900 k901 k15 k902 (by decide +kernel) rfl rfl rfl rfl (Nat.le_of_ble_eq_true rfl) hl.1 ⟨Nat.le_of_ble_eq_true rfl, Nat.le_of_ble_eq_true rfl⟩ ⟨by show 77 + cnt + 0 ≤ 600384; omega, by show 107809 + 6 * cnt + 0 ≤ 7288888; omega⟩ dL_law_239 (fun _ => mdL_fst.trans mdL_fst.symm) (fun u H locs hT => ?_)
      have hT : Wd g A s (MDX g mo rr np fk fn fo en no ou 0 (s_bg U) xx ra t0 t1 s1 ca cq ch bb wt nx cx pt le sc ss ww xc lo hi xi ++ (CMX g ad bd N np fk fn fo U V code cp en no ou wl wh (lo 1) (hi 1) ++ [OUTc g oa fz])) H locs := hT
      refine W.widen (k := 77 + cnt) (n := 107809 + 6 * cnt) (Nat.le_refl _) (Nat.le_refl _) ?_
      refine W.eq (g2 := F0 m 242 ls [.int (-4), .int (-4)]) rfl ?_
      have hT := hT.perm (List.perm_append_comm_assoc _ _ _)
      refine lv_icmp_eq (tgt := 751) hx hb dL_law_242 (by decide) (fun h => ?_) (fun h => ?_)
      · refine W.widen (k := 77 + (cnt + 1)) (n := 107809 + 6 * (cnt + 1)) (by omega) (by omega) ?_
        exact kk np fk fn fo U V code cp en no ou wl wh (lo 1) (hi 1) 0 (s_bg U) xx ra t0 t1 s1 ca cq ch bb wt nx cx pt le sc ss ww xc lo hi xi fz H locs ls (I_mono hI) hT hl
      · exact absurd (rfl) h
    · skip
      have hen : en = false := by cases en with | true => exact absurd rfl hen | false => rfl
      obtain ⟨⟨hCW, q1, q2⟩, q3, q4⟩ := hE0 hen
      subst q1
      subst q2
      obtain ⟨E, hE⟩ : ∃ E, E = emF 4 (nLo 0 (lo 0) (mdS stA N np fk fo U (lo 0) (hi 0))) (nHi 0 (hi 0) (mdS stA N np fk fo U (lo 0) (hi 0))) no ou := ⟨_, rfl⟩
      refine lv_aload_n hx hb dL_law_206 rfl (lv_at hl 1 rfl) ?_
      refine lv_aload_n hx hb dL_law_207 rfl (lv_at hl 0 rfl) ?_
      refine lv_iload hx hb dL_law_208 (lv_at hl 4 rfl) ?_
      refine lv_iconst (v := 1) hx hb dL_law_210 (by decide) ?_
      refine lv_iadd hx hb dL_law_211 ?_
      refine r_sld C hX hbl hbA hT (ix + 1) (nI_add ix 1) (by omega) (by omega) dL_law_212 ?_
      refine lv_if_eq (tgt := 220) hx hb dL_law_213 (by decide) (fun hz => ?_) (fun hz => ?_)
      case refine_2 => exact absurd h0 hz
      refine lv_iconst (v := 0) hx hb dL_law_220 (by decide) ?_
      have hM := c_X10_bit l g ad bd np fk fn fo stA N U V code cp en no ou (lo 0) (hi 0) (lo 1) (hi 1) rr 0 hG hxU.1 hen (by omega) (by omega)
      rw [← hE] at hM
      refine r_callP (lc := CMX g ad bd N np fk fn fo U V code cp en no ou (lo 0) (hi 0) (lo 1) (hi 1)) (B := MDX g mo rr np fk fn fo en no ou th (s_bg U) xx ra t0 t1 s1 ca cq ch bb wt nx cx pt le sc ss ww xc lo hi xi ++ [OUTc g oa fz]) (As := [.int 0]) (n := 1) (q1 := 52) (rest := []) C hT hM k369 k370 k371 k1 k372 (by decide +kernel) rfl rfl rfl rfl (Nat.le_of_ble_eq_true rfl) hl.1 ⟨Nat.le_of_ble_eq_true rfl, Nat.le_of_ble_eq_true rfl⟩ ⟨by show 77 + cnt + 0 ≤ 600384; omega, by show 107809 + 6 * cnt + 0 ≤ 7288888; omega⟩ dL_law_221 (fun _ => cmL_fst.trans cmL_fst.symm) (fun u H locs hT => ?_)
      have hT : Wd g A s (CMX g ad bd N np fk fn fo (stepS stA N np fk fn fo U 0) V code cp en E.2.2.1 E.2.2.2 E.1 E.2.1 (lo 1) (hi 1) ++ (MDX g mo rr np fk fn fo en no ou th (s_bg U) xx ra t0 t1 s1 ca cq ch bb wt nx cx pt le sc ss ww xc lo hi xi ++ [OUTc g oa fz])) H locs := hT.eq (by unfold CMX; rw [step_n, step_nd, step_bg, step_f, step_fc, step_fs, step_r0, step_t0, step_f0, step_r1, step_t1, step_f1, step_nr, step_fx, step_mp, step_ml, step_cx, step_xi])
      refine W.widen (k := 77 + cnt) (n := 107809 + 6 * cnt) (Nat.le_refl _) (Nat.le_refl _) ?_
      refine W.eq (g2 := F0 m 224 ls [.int (nI E.2.2.1)]) rfl ?_
      have hT := hT.perm (List.perm_append_comm_assoc _ _ _)
      refine lv_aload_n hx hb dL_law_224 rfl (lv_at hl 2 rfl) ?_
      refine lv_aload_n hx hb dL_law_225 rfl (lv_at hl 0 rfl) ?_
      refine lv_iload hx hb dL_law_226 (lv_at hl 4 rfl) ?_
      refine lv_iconst (v := 1) hx hb dL_law_228 (by decide) ?_
      refine lv_iadd hx hb dL_law_229 ?_
      refine r_sld C hX hbl hbA hT (ix + 1) (nI_add ix 1) (by omega) (by omega) dL_law_230 ?_
      refine lv_if_eq (tgt := 238) hx hb dL_law_231 (by decide) (fun hz => ?_) (fun hz => ?_)
      case refine_2 => exact absurd h0 hz
      refine lv_iconst (v := 0) hx hb dL_law_238 (by decide) ?_
      have hM := c_X11_bit l g mo rr th np no (s_bg U) en xx ra t0 t1 s1 ca cq ch stA fk fn fo bb wt nx cx pt le sc ss ww xc lo hi ou xi N U 0 hG hr0 hxU hCW hen (Or.inl rfl) (by omega) (by omega) (by omega)
      refine r_callP (lc := MDX g mo rr np fk fn fo en no ou th (s_bg U) xx ra t0 t1 s1 ca cq ch bb wt nx cx pt le sc ss ww xc lo hi xi) (B := CMX g ad bd N np fk fn fo (stepS stA N np fk fn fo U 0) V code cp en E.2.2.1 E.2.2.2 E.1 E.2.1 (lo 1) (hi 1) ++ [OUTc g oa fz]) (As := [.int 0]) (n := 1) (q1 := 0) (rest := [.int (nI E.2.2.1)]) C hT hM k899 k900 k901 k15 k902 (by decide +kernel) rfl rfl rfl rfl (Nat.le_of_ble_eq_true rfl) hl.1 ⟨Nat.le_of_ble_eq_true rfl, Nat.le_of_ble_eq_true rfl⟩ ⟨by show 77 + cnt + 0 ≤ 600384; omega, by show 107809 + 6 * cnt + 0 ≤ 7288888; omega⟩ dL_law_239 (fun _ => mdL_fst.trans mdL_fst.symm) (fun u H locs hT => ?_)
      obtain ⟨⟨lo2, hi2, no2, ou2, bb2, wt2, nx2, cx2, pt2, le2, sc2, ss2, ww2, xc2, t02, t12, s12, ca2, cq2, ch2, xi2⟩, r_hRS, r_hOT, r_hno, r_hou, r_hlo, r_hhi⟩ := u
      have m_hRS : RS 0 N np fk (stepS stA N np fk fn fo U 0) bb2 wt2 nx2 cx2 pt2 le2 sc2 ss2 ww2 xc2 := r_hRS
      have m_hOT : ∀ s2 V, s2 < 2 → ¬ s2 = 0 → RS s2 N np fk V bb wt nx cx pt le sc ss ww xc → RS s2 N np fk V bb2 wt2 nx2 cx2 pt2 le2 sc2 ss2 ww2 xc2 := r_hOT
      have m_hno : no2 = (emF 4 (nLo 0 (lo 0) (mdS stA N np fk fo U (lo 0) (hi 0))) (nHi 0 (hi 0) (mdS stA N np fk fo U (lo 0) (hi 0))) no ou).2.2.1 := r_hno
      have m_hou : ou2 = (emF 4 (nLo 0 (lo 0) (mdS stA N np fk fo U (lo 0) (hi 0))) (nHi 0 (hi 0) (mdS stA N np fk fo U (lo 0) (hi 0))) no ou).2.2.2 := r_hou
      have m_hlo : lo2 0 = (emF 4 (nLo 0 (lo 0) (mdS stA N np fk fo U (lo 0) (hi 0))) (nHi 0 (hi 0) (mdS stA N np fk fo U (lo 0) (hi 0))) no ou).1 ∧ lo2 1 = lo 1 := r_hlo
      have m_hhi : hi2 0 = (emF 4 (nLo 0 (lo 0) (mdS stA N np fk fo U (lo 0) (hi 0))) (nHi 0 (hi 0) (mdS stA N np fk fo U (lo 0) (hi 0))) no ou).2.1 ∧ hi2 1 = hi 1 := r_hhi
      replace hT : Wd g A s (MDX g mo rr np fk fn fo en no2 ou2 0 ((s_bg U + 1) % 8) xx ra t02 t12 s12 ca2 cq2 ch2 bb2 wt2 nx2 cx2 pt2 le2 sc2 ss2 ww2 xc2 lo2 hi2 xi2 ++ (CMX g ad bd N np fk fn fo (stepS stA N np fk fn fo U 0) V code cp en E.2.2.1 E.2.2.2 E.1 E.2.1 (lo 1) (hi 1) ++ [OUTc g oa fz])) H locs := hT
      refine W.widen (k := 77 + cnt) (n := 107809 + 6 * cnt) (Nat.le_refl _) (Nat.le_refl _) ?_
      refine W.eq (g2 := F0 m 242 ls [.int (nI no2), .int (nI E.2.2.1)]) rfl ?_
      clear r_hRS r_hOT r_hno r_hou r_hlo r_hhi
      rw [← hE] at m_hno m_hou m_hlo m_hhi
      obtain ⟨e1, e2, e3, e4⟩ := E
      dsimp only at m_hno m_hou m_hlo m_hhi
      subst m_hno
      subst m_hou
      have hT := hT.perm (List.perm_append_comm_assoc _ _ _)
      refine lv_icmp_eq (tgt := 751) hx hb dL_law_242 (by decide) (fun h => ?_) (fun h => ?_)
      · refine W.widen (k := 77 + (cnt + 1)) (n := 107809 + 6 * (cnt + 1)) (by omega) (by omega) ?_
        exact kk np fk fn fo (stepS stA N np fk fn fo U 0) V code cp en no2 ou2 e1 e2 (lo 1) (hi 1) 0 ((s_bg U + 1) % 8) xx ra t02 t12 s12 ca2 cq2 ch2 bb2 wt2 nx2 cx2 pt2 le2 sc2 ss2 ww2 xc2 lo2 hi2 xi2 fz H locs ls (I_bit (E := (e1, e2, no2, ou2)) hE hc hen hI m_hRS m_hOT m_hlo m_hhi) hT hl
      · exact absurd (rfl) h
  · skip
    by_cases hen : en = true
    · skip
      refine lv_aload_n hx hb dL_law_206 rfl (lv_at hl 1 rfl) ?_
      refine lv_aload_n hx hb dL_law_207 rfl (lv_at hl 0 rfl) ?_
      refine lv_iload hx hb dL_law_208 (lv_at hl 4 rfl) ?_
      refine lv_iconst (v := 1) hx hb dL_law_210 (by decide) ?_
      refine lv_iadd hx hb dL_law_211 ?_
      refine r_sld C hX hbl hbA hT (ix + 1) (nI_add ix 1) (by omega) (by omega) dL_law_212 ?_
      refine lv_if_eq (tgt := 220) hx hb dL_law_213 (by decide) (fun hz => ?_) (fun hz => ?_)
      case refine_1 => exact absurd hz h0
      refine lv_iconst (v := 1) hx hb dL_law_216 (by decide) ?_
      refine lv_goto (tgt := 221) hx hb dL_law_217 (by decide) ?_
      have hM := c_X10_bit_s l g ad bd np fk fn fo stA N U V code cp en no ou wl wh (lo 1) (hi 1) 1 hen
      refine r_callP (lc := CMX g ad bd N np fk fn fo U V code cp en no ou wl wh (lo 1) (hi 1)) (B := MDX g mo rr np fk fn fo en no ou th (s_bg U) xx ra t0 t1 s1 ca cq ch bb wt nx cx pt le sc ss ww xc lo hi xi ++ [OUTc g oa fz]) (As := [.int 1]) (n := 1) (q1 := 52) (rest := []) C hT hM k369 k370 k371 k1 k372 (by decide +kernel) rfl rfl rfl rfl (Nat.le_of_ble_eq_true rfl) hl.1 ⟨Nat.le_of_ble_eq_true rfl, Nat.le_of_ble_eq_true rfl⟩ ⟨by show 77 + cnt + 0 ≤ 600384; omega, by show 107809 + 6 * cnt + 0 ≤ 7288888; omega⟩ dL_law_221 (fun _ => cmL_fst.trans cmL_fst.symm) (fun u H locs hT => ?_)
      have hT : Wd g A s (CMX g ad bd N np fk fn fo U V code cp en no ou wl wh (lo 1) (hi 1) ++ (MDX g mo rr np fk fn fo en no ou th (s_bg U) xx ra t0 t1 s1 ca cq ch bb wt nx cx pt le sc ss ww xc lo hi xi ++ [OUTc g oa fz])) H locs := hT
      refine W.widen (k := 77 + cnt) (n := 107809 + 6 * cnt) (Nat.le_refl _) (Nat.le_refl _) ?_
      refine W.eq (g2 := F0 m 224 ls [.int (-4)]) rfl ?_
      have hT := hT.perm (List.perm_append_comm_assoc _ _ _)
      refine lv_aload_n hx hb dL_law_224 rfl (lv_at hl 2 rfl) ?_
      refine lv_aload_n hx hb dL_law_225 rfl (lv_at hl 0 rfl) ?_
      refine lv_iload hx hb dL_law_226 (lv_at hl 4 rfl) ?_
      refine lv_iconst (v := 1) hx hb dL_law_228 (by decide) ?_
      refine lv_iadd hx hb dL_law_229 ?_
      refine r_sld C hX hbl hbA hT (ix + 1) (nI_add ix 1) (by omega) (by omega) dL_law_230 ?_
      refine lv_if_eq (tgt := 238) hx hb dL_law_231 (by decide) (fun hz => ?_) (fun hz => ?_)
      case refine_1 => exact absurd hz h0
      refine lv_iconst (v := 1) hx hb dL_law_234 (by decide) ?_
      refine lv_goto (tgt := 239) hx hb dL_law_235 (by decide) ?_
      have hM := c_X11_bit_s l g mo rr th np no (s_bg U) en xx ra t0 t1 s1 ca cq ch stA fk fn fo bb wt nx cx pt le sc ss ww xc lo hi ou xi 1 hen
      refine r_callP (lc := MDX g mo rr np fk fn fo en no ou th (s_bg U) xx ra t0 t1 s1 ca cq ch bb wt nx cx pt le sc ss ww xc lo hi xi) (B := CMX g ad bd N np fk fn fo U V code cp en no ou wl wh (lo 1) (hi 1) ++ [OUTc g oa fz]) (As := [.int 1]) (n := 1) (q1 := 0) (rest := [.int (-4)]) C hT hM k899 k900 k901 k15 k902 (by decide +kernel) rfl rfl rfl rfl (Nat.le_of_ble_eq_true rfl) hl.1 ⟨Nat.le_of_ble_eq_true rfl, Nat.le_of_ble_eq_true rfl⟩ ⟨by show 77 + cnt + 0 ≤ 600384; omega, by show 107809 + 6 * cnt + 0 ≤ 7288888; omega⟩ dL_law_239 (fun _ => mdL_fst.trans mdL_fst.symm) (fun u H locs hT => ?_)
      have hT : Wd g A s (MDX g mo rr np fk fn fo en no ou 0 (s_bg U) xx ra t0 t1 s1 ca cq ch bb wt nx cx pt le sc ss ww xc lo hi xi ++ (CMX g ad bd N np fk fn fo U V code cp en no ou wl wh (lo 1) (hi 1) ++ [OUTc g oa fz])) H locs := hT
      refine W.widen (k := 77 + cnt) (n := 107809 + 6 * cnt) (Nat.le_refl _) (Nat.le_refl _) ?_
      refine W.eq (g2 := F0 m 242 ls [.int (-4), .int (-4)]) rfl ?_
      have hT := hT.perm (List.perm_append_comm_assoc _ _ _)
      refine lv_icmp_eq (tgt := 751) hx hb dL_law_242 (by decide) (fun h => ?_) (fun h => ?_)
      · refine W.widen (k := 77 + (cnt + 1)) (n := 107809 + 6 * (cnt + 1)) (by omega) (by omega) ?_
        exact kk np fk fn fo U V code cp en no ou wl wh (lo 1) (hi 1) 0 (s_bg U) xx ra t0 t1 s1 ca cq ch bb wt nx cx pt le sc ss ww xc lo hi xi fz H locs ls (I_mono hI) hT hl
      · exact absurd (rfl) h
    · skip
      have hen : en = false := by cases en with | true => exact absurd rfl hen | false => rfl
      obtain ⟨⟨hCW, q1, q2⟩, q3, q4⟩ := hE0 hen
      subst q1
      subst q2
      obtain ⟨E, hE⟩ : ∃ E, E = emF 4 (nLo 1 (lo 0) (mdS stA N np fk fo U (lo 0) (hi 0))) (nHi 1 (hi 0) (mdS stA N np fk fo U (lo 0) (hi 0))) no ou := ⟨_, rfl⟩
      refine lv_aload_n hx hb dL_law_206 rfl (lv_at hl 1 rfl) ?_
      refine lv_aload_n hx hb dL_law_207 rfl (lv_at hl 0 rfl) ?_
      refine lv_iload hx hb dL_law_208 (lv_at hl 4 rfl) ?_
      refine lv_iconst (v := 1) hx hb dL_law_210 (by decide) ?_
      refine lv_iadd hx hb dL_law_211 ?_
      refine r_sld C hX hbl hbA hT (ix + 1) (nI_add ix 1) (by omega) (by omega) dL_law_212 ?_
      refine lv_if_eq (tgt := 220) hx hb dL_law_213 (by decide) (fun hz => ?_) (fun hz => ?_)
      case refine_1 => exact absurd hz h0
      refine lv_iconst (v := 1) hx hb dL_law_216 (by decide) ?_
      refine lv_goto (tgt := 221) hx hb dL_law_217 (by decide) ?_
      have hM := c_X10_bit l g ad bd np fk fn fo stA N U V code cp en no ou (lo 0) (hi 0) (lo 1) (hi 1) rr 1 hG hxU.1 hen (by omega) (by omega)
      rw [← hE] at hM
      refine r_callP (lc := CMX g ad bd N np fk fn fo U V code cp en no ou (lo 0) (hi 0) (lo 1) (hi 1)) (B := MDX g mo rr np fk fn fo en no ou th (s_bg U) xx ra t0 t1 s1 ca cq ch bb wt nx cx pt le sc ss ww xc lo hi xi ++ [OUTc g oa fz]) (As := [.int 1]) (n := 1) (q1 := 52) (rest := []) C hT hM k369 k370 k371 k1 k372 (by decide +kernel) rfl rfl rfl rfl (Nat.le_of_ble_eq_true rfl) hl.1 ⟨Nat.le_of_ble_eq_true rfl, Nat.le_of_ble_eq_true rfl⟩ ⟨by show 77 + cnt + 0 ≤ 600384; omega, by show 107809 + 6 * cnt + 0 ≤ 7288888; omega⟩ dL_law_221 (fun _ => cmL_fst.trans cmL_fst.symm) (fun u H locs hT => ?_)
      have hT : Wd g A s (CMX g ad bd N np fk fn fo (stepS stA N np fk fn fo U 1) V code cp en E.2.2.1 E.2.2.2 E.1 E.2.1 (lo 1) (hi 1) ++ (MDX g mo rr np fk fn fo en no ou th (s_bg U) xx ra t0 t1 s1 ca cq ch bb wt nx cx pt le sc ss ww xc lo hi xi ++ [OUTc g oa fz])) H locs := hT.eq (by unfold CMX; rw [step_n, step_nd, step_bg, step_f, step_fc, step_fs, step_r0, step_t0, step_f0, step_r1, step_t1, step_f1, step_nr, step_fx, step_mp, step_ml, step_cx, step_xi])
      refine W.widen (k := 77 + cnt) (n := 107809 + 6 * cnt) (Nat.le_refl _) (Nat.le_refl _) ?_
      refine W.eq (g2 := F0 m 224 ls [.int (nI E.2.2.1)]) rfl ?_
      have hT := hT.perm (List.perm_append_comm_assoc _ _ _)
      refine lv_aload_n hx hb dL_law_224 rfl (lv_at hl 2 rfl) ?_
      refine lv_aload_n hx hb dL_law_225 rfl (lv_at hl 0 rfl) ?_
      refine lv_iload hx hb dL_law_226 (lv_at hl 4 rfl) ?_
      refine lv_iconst (v := 1) hx hb dL_law_228 (by decide) ?_
      refine lv_iadd hx hb dL_law_229 ?_
      refine r_sld C hX hbl hbA hT (ix + 1) (nI_add ix 1) (by omega) (by omega) dL_law_230 ?_
      refine lv_if_eq (tgt := 238) hx hb dL_law_231 (by decide) (fun hz => ?_) (fun hz => ?_)
      case refine_1 => exact absurd hz h0
      refine lv_iconst (v := 1) hx hb dL_law_234 (by decide) ?_
      refine lv_goto (tgt := 239) hx hb dL_law_235 (by decide) ?_
      have hM := c_X11_bit l g mo rr th np no (s_bg U) en xx ra t0 t1 s1 ca cq ch stA fk fn fo bb wt nx cx pt le sc ss ww xc lo hi ou xi N U 1 hG hr0 hxU hCW hen (Or.inr rfl) (by omega) (by omega) (by omega)
      refine r_callP (lc := MDX g mo rr np fk fn fo en no ou th (s_bg U) xx ra t0 t1 s1 ca cq ch bb wt nx cx pt le sc ss ww xc lo hi xi) (B := CMX g ad bd N np fk fn fo (stepS stA N np fk fn fo U 1) V code cp en E.2.2.1 E.2.2.2 E.1 E.2.1 (lo 1) (hi 1) ++ [OUTc g oa fz]) (As := [.int 1]) (n := 1) (q1 := 0) (rest := [.int (nI E.2.2.1)]) C hT hM k899 k900 k901 k15 k902 (by decide +kernel) rfl rfl rfl rfl (Nat.le_of_ble_eq_true rfl) hl.1 ⟨Nat.le_of_ble_eq_true rfl, Nat.le_of_ble_eq_true rfl⟩ ⟨by show 77 + cnt + 0 ≤ 600384; omega, by show 107809 + 6 * cnt + 0 ≤ 7288888; omega⟩ dL_law_239 (fun _ => mdL_fst.trans mdL_fst.symm) (fun u H locs hT => ?_)
      obtain ⟨⟨lo2, hi2, no2, ou2, bb2, wt2, nx2, cx2, pt2, le2, sc2, ss2, ww2, xc2, t02, t12, s12, ca2, cq2, ch2, xi2⟩, r_hRS, r_hOT, r_hno, r_hou, r_hlo, r_hhi⟩ := u
      have m_hRS : RS 0 N np fk (stepS stA N np fk fn fo U 1) bb2 wt2 nx2 cx2 pt2 le2 sc2 ss2 ww2 xc2 := r_hRS
      have m_hOT : ∀ s2 V, s2 < 2 → ¬ s2 = 0 → RS s2 N np fk V bb wt nx cx pt le sc ss ww xc → RS s2 N np fk V bb2 wt2 nx2 cx2 pt2 le2 sc2 ss2 ww2 xc2 := r_hOT
      have m_hno : no2 = (emF 4 (nLo 1 (lo 0) (mdS stA N np fk fo U (lo 0) (hi 0))) (nHi 1 (hi 0) (mdS stA N np fk fo U (lo 0) (hi 0))) no ou).2.2.1 := r_hno
      have m_hou : ou2 = (emF 4 (nLo 1 (lo 0) (mdS stA N np fk fo U (lo 0) (hi 0))) (nHi 1 (hi 0) (mdS stA N np fk fo U (lo 0) (hi 0))) no ou).2.2.2 := r_hou
      have m_hlo : lo2 0 = (emF 4 (nLo 1 (lo 0) (mdS stA N np fk fo U (lo 0) (hi 0))) (nHi 1 (hi 0) (mdS stA N np fk fo U (lo 0) (hi 0))) no ou).1 ∧ lo2 1 = lo 1 := r_hlo
      have m_hhi : hi2 0 = (emF 4 (nLo 1 (lo 0) (mdS stA N np fk fo U (lo 0) (hi 0))) (nHi 1 (hi 0) (mdS stA N np fk fo U (lo 0) (hi 0))) no ou).2.1 ∧ hi2 1 = hi 1 := r_hhi
      replace hT : Wd g A s (MDX g mo rr np fk fn fo en no2 ou2 0 ((s_bg U + 1) % 8) xx ra t02 t12 s12 ca2 cq2 ch2 bb2 wt2 nx2 cx2 pt2 le2 sc2 ss2 ww2 xc2 lo2 hi2 xi2 ++ (CMX g ad bd N np fk fn fo (stepS stA N np fk fn fo U 1) V code cp en E.2.2.1 E.2.2.2 E.1 E.2.1 (lo 1) (hi 1) ++ [OUTc g oa fz])) H locs := hT
      refine W.widen (k := 77 + cnt) (n := 107809 + 6 * cnt) (Nat.le_refl _) (Nat.le_refl _) ?_
      refine W.eq (g2 := F0 m 242 ls [.int (nI no2), .int (nI E.2.2.1)]) rfl ?_
      clear r_hRS r_hOT r_hno r_hou r_hlo r_hhi
      rw [← hE] at m_hno m_hou m_hlo m_hhi
      obtain ⟨e1, e2, e3, e4⟩ := E
      dsimp only at m_hno m_hou m_hlo m_hhi
      subst m_hno
      subst m_hou
      have hT := hT.perm (List.perm_append_comm_assoc _ _ _)
      refine lv_icmp_eq (tgt := 751) hx hb dL_law_242 (by decide) (fun h => ?_) (fun h => ?_)
      · refine W.widen (k := 77 + (cnt + 1)) (n := 107809 + 6 * (cnt + 1)) (by omega) (by omega) ?_
        exact kk np fk fn fo (stepS stA N np fk fn fo U 1) V code cp en no2 ou2 e1 e2 (lo 1) (hi 1) 0 ((s_bg U + 1) % 8) xx ra t02 t12 s12 ca2 cq2 ch2 bb2 wt2 nx2 cx2 pt2 le2 sc2 ss2 ww2 xc2 lo2 hi2 xi2 fz H locs ls (I_bit (E := (e1, e2, no2, ou2)) hE hc hen hI m_hRS m_hOT m_hlo m_hhi) hT hl
      · exact absurd (rfl) h
