set_option maxHeartbeats 400000 in
set_option maxRecDepth 100000 in
theorem c_X11_freshAll (l : Launch) (g : GT) (mo : Nat → Nat) (rr : Nat) (th : Int32) (np : Nat) (no : Nat) (bt : Nat) (en : Bool) (xx : Int64) (ra : Nat) (t0 : Int32) (t1 : Int32) (s1 : Int32) (ca : Int32) (cq : Int32) (ch : Int32) (st : Nat → Int32) (fk : Nat → Int32) (fn : Nat → Int32) (fo : Nat → Int32) (bb : Nat → Int32) (wt : Nat → Int32) (nx : Nat → Int32) (cx : Nat → Int32) (pt : Nat → Int32) (le : Nat → Int32) (sc : Nat → Int32) (ss : Nat → Int32) (ww : Nat → Int32) (xc : Nat → Int32) (lo : Nat → Int64) (hi : Nat → Int64) (ou : Nat → Int32) (xi : Nat → Int32) (N : Nat) (hnp : np ≤ 8) (hN4 : N ≤ 4096) (hal : ∀ j, j < np → allowB (fk j) (fn j) = true) : OM (S := {zq : (Nat → Int32) × (Nat → Int32) × (Nat → Int32) × (Nat → Int32) × (Nat → Int32) × (Nat → Int32) × (Nat → Int32) × (Nat → Int32) × (Nat → Int32) × (Nat → Int64) × (Nat → Int64) // (∀ U V, FRS N np fk fn U → FRS N np fk fn V → (∀ j, j < 2000 → bb (2050 * 0 + j) = s_f U j) → (∀ j, j < 2000 → bb (2050 * 1 + j) = s_f V j) → RS 0 N np fk U bb zq.1 zq.2.1 zq.2.2.1 zq.2.2.2.1 zq.2.2.2.2.1 zq.2.2.2.2.2.1 zq.2.2.2.2.2.2.1 zq.2.2.2.2.2.2.2.1 zq.2.2.2.2.2.2.2.2.1 ∧ RS 1 N np fk V bb zq.1 zq.2.1 zq.2.2.1 zq.2.2.2.1 zq.2.2.2.2.1 zq.2.2.2.2.2.1 zq.2.2.2.2.2.2.1 zq.2.2.2.2.2.2.2.1 zq.2.2.2.2.2.2.2.2.1) ∧ ((zq.2.2.2.2.2.2.2.2.2.1 0 = 0 ∧ zq.2.2.2.2.2.2.2.2.2.2 0 = 4294967295) ∧ (zq.2.2.2.2.2.2.2.2.2.1 1 = 0 ∧ zq.2.2.2.2.2.2.2.2.2.2 1 = 4294967295))}) l g yX11_freshAll cX11_freshAll 1 none ({ frames := 4, cells := 0, slots := 0, locals := 97 } : Room) [.ref (mo 0)] (mdL g mo rr th np no bt en xx ra t0 t1 s1 ca cq ch st fk fn fo bb wt nx cx pt le sc ss ww xc lo hi ou xi) (fun _ => none) (fun zu => (mdL g mo rr th np 0 0 false xx 0 t0 t1 s1 ca cq ch st fk fn fo bb zu.1.1 zu.1.2.1 zu.1.2.2.1 zu.1.2.2.2.1 zu.1.2.2.2.2.1 zu.1.2.2.2.2.2.1 zu.1.2.2.2.2.2.2.1 zu.1.2.2.2.2.2.2.2.1 zu.1.2.2.2.2.2.2.2.2.1 zu.1.2.2.2.2.2.2.2.2.2.1 zu.1.2.2.2.2.2.2.2.2.2.2 ou xi)) := by
  refine OM.startQ (by decide) (Nat.le_of_ble_eq_true rfl) ?_
  intro p e s m below meth c A ls Q H locs hQ C hnm hl hT
  have hx := C.x
  have hb := C.b
  have hl : lv_has ls 1 [(0, .ref (mo 0))] := hl
  refine lv_aload_n hx hb dX11_freshAll_0 rfl (lv_at hl 0 rfl) ?_
  refine lv_iconst (v := 0) hx hb dX11_freshAll_1 (by decide) ?_
  refine W.eq (g2 := F0 m 2 ls [.int (nI 0), .ref (mo 0)]) (congrArg (fun z => F0 m 2 ls (.int z :: [.ref (mo 0)])) (rfl)) ?_
  have hM := c_X11_fresh l g mo rr th np no bt en xx ra t0 t1 s1 ca cq ch st fk fn fo bb wt nx cx pt le sc ss ww xc lo hi ou xi 0 N (by decide) hnp hN4 hal
  refine r_callW C hT (runVW (rm := ({ frames := 3, cells := 0, slots := 0, locals := 73 } : Room)) (As := [.int (nI 0)]) (n := 1) (q1 := 0) (rest := []) C hT hM k743 k745 s12 k15 k746 (by decide +kernel) rfl rfl rfl rfl (Nat.le_of_ble_eq_true rfl) hl.1 ⟨Nat.le_of_ble_eq_true rfl, Nat.le_of_ble_eq_true rfl⟩ ⟨Nat.le_of_ble_eq_true rfl, Nat.le_of_ble_eq_true rfl⟩ dX11_freshAll_2) (fun u H locs hT => ?_)
  obtain ⟨⟨wt2_2, nx2_2, cx2_2, pt2_2, le2_2, sc2_2, ss2_2, ww2_2, xc2_2, lo2_2, hi2_2⟩, hRS_2, hOT_2, hlh_2⟩ := u
  replace hRS_2 : ∀ U, FRS N np fk fn U → (∀ j, j < 2000 → bb (2050 * 0 + j) = s_f U j) → RS 0 N np fk U bb wt2_2 nx2_2 cx2_2 pt2_2 le2_2 sc2_2 ss2_2 ww2_2 xc2_2 := hRS_2
  replace hOT_2 : ∀ s2 V, s2 < 2 → ¬ s2 = 0 → RS s2 N np fk V bb wt nx cx pt le sc ss ww xc → RS s2 N np fk V bb wt2_2 nx2_2 cx2_2 pt2_2 le2_2 sc2_2 ss2_2 ww2_2 xc2_2 := hOT_2
  replace hlh_2 : (lo2_2 0 = 0 ∧ hi2_2 0 = 4294967295) ∧ ∀ s2, ¬ s2 = 0 → lo2_2 s2 = lo s2 ∧ hi2_2 s2 = hi s2 := hlh_2
  have hT : Wd g A s (mdL g mo rr th np no bt en xx ra t0 t1 s1 ca cq ch st fk fn fo bb wt2_2 nx2_2 cx2_2 pt2_2 le2_2 sc2_2 ss2_2 ww2_2 xc2_2 lo2_2 hi2_2 ou xi) H locs := hT
  refine W.eq (g2 := F0 m 5 ls []) rfl ?_
  refine lv_aload_n hx hb dX11_freshAll_5 rfl (lv_at hl 0 rfl) ?_
  refine lv_iconst (v := 1) hx hb dX11_freshAll_6 (by decide) ?_
  refine W.eq (g2 := F0 m 7 ls [.int (nI 1), .ref (mo 0)]) (congrArg (fun z => F0 m 7 ls (.int z :: [.ref (mo 0)])) (rfl)) ?_
  have hM := c_X11_fresh l g mo rr th np no bt en xx ra t0 t1 s1 ca cq ch st fk fn fo bb wt2_2 nx2_2 cx2_2 pt2_2 le2_2 sc2_2 ss2_2 ww2_2 xc2_2 lo2_2 hi2_2 ou xi 1 N (by decide) hnp hN4 hal
  refine r_callW C hT (runVW (rm := ({ frames := 3, cells := 0, slots := 0, locals := 73 } : Room)) (As := [.int (nI 1)]) (n := 1) (q1 := 0) (rest := []) C hT hM k743 k745 s12 k15 k746 (by decide +kernel) rfl rfl rfl rfl (Nat.le_of_ble_eq_true rfl) hl.1 ⟨Nat.le_of_ble_eq_true rfl, Nat.le_of_ble_eq_true rfl⟩ ⟨Nat.le_of_ble_eq_true rfl, Nat.le_of_ble_eq_true rfl⟩ dX11_freshAll_7) (fun u H locs hT => ?_)
  obtain ⟨⟨wt2_7, nx2_7, cx2_7, pt2_7, le2_7, sc2_7, ss2_7, ww2_7, xc2_7, lo2_7, hi2_7⟩, hRS_7, hOT_7, hlh_7⟩ := u
  replace hRS_7 : ∀ U, FRS N np fk fn U → (∀ j, j < 2000 → bb (2050 * 1 + j) = s_f U j) → RS 1 N np fk U bb wt2_7 nx2_7 cx2_7 pt2_7 le2_7 sc2_7 ss2_7 ww2_7 xc2_7 := hRS_7
  replace hOT_7 : ∀ s2 V, s2 < 2 → ¬ s2 = 1 → RS s2 N np fk V bb wt2_2 nx2_2 cx2_2 pt2_2 le2_2 sc2_2 ss2_2 ww2_2 xc2_2 → RS s2 N np fk V bb wt2_7 nx2_7 cx2_7 pt2_7 le2_7 sc2_7 ss2_7 ww2_7 xc2_7 := hOT_7
  replace hlh_7 : (lo2_7 1 = 0 ∧ hi2_7 1 = 4294967295) ∧ ∀ s2, ¬ s2 = 1 → lo2_7 s2 = lo2_2 s2 ∧ hi2_7 s2 = hi2_2 s2 := hlh_7
  have hT : Wd g A s (mdL g mo rr th np no bt en xx ra t0 t1 s1 ca cq ch st fk fn fo bb wt2_7 nx2_7 cx2_7 pt2_7 le2_7 sc2_7 ss2_7 ww2_7 xc2_7 lo2_7 hi2_7 ou xi) H locs := hT
  refine W.eq (g2 := F0 m 10 ls []) rfl ?_
  refine lv_aload_n hx hb dX11_freshAll_10 rfl (lv_at hl 0 rfl) ?_
  refine lv_iconst (v := 0) hx hb dX11_freshAll_11 (by decide) ?_
  refine W.eq (g2 := F0 m 12 ls [.int (nI 0), .ref (mo 0)]) (congrArg (fun z => F0 m 12 ls (.int z :: [.ref (mo 0)])) (rfl)) ?_
  refine pX11_104 C hT (q0 := 0) rfl dX11_freshAll_12 (fun H locs hT => ?_)
  have hT : Wd g A s (mdL g mo rr th np 0 bt en xx ra t0 t1 s1 ca cq ch st fk fn fo bb wt2_7 nx2_7 cx2_7 pt2_7 le2_7 sc2_7 ss2_7 ww2_7 xc2_7 lo2_7 hi2_7 ou xi) H locs := hT
  refine lv_aload_n hx hb dX11_freshAll_15 rfl (lv_at hl 0 rfl) ?_
  refine lv_iconst (v := 0) hx hb dX11_freshAll_16 (by decide) ?_
  refine W.eq (g2 := F0 m 17 ls [.int (nI 0), .ref (mo 0)]) (congrArg (fun z => F0 m 17 ls (.int z :: [.ref (mo 0)])) (rfl)) ?_
  refine pX11_107 C hT (q0 := 0) rfl dX11_freshAll_17 (fun H locs hT => ?_)
  have hT : Wd g A s (mdL g mo rr th np 0 0 en xx ra t0 t1 s1 ca cq ch st fk fn fo bb wt2_7 nx2_7 cx2_7 pt2_7 le2_7 sc2_7 ss2_7 ww2_7 xc2_7 lo2_7 hi2_7 ou xi) H locs := hT
  refine lv_aload_n hx hb dX11_freshAll_20 rfl (lv_at hl 0 rfl) ?_
  refine lv_iconst (v := 0) hx hb dX11_freshAll_21 (by decide) ?_
  refine pX11_110 C hT (q0 := 0) rfl (by decide) dX11_freshAll_22 (fun H locs hT => ?_)
  have hT : Wd g A s (mdL g mo rr th np 0 0 false xx ra t0 t1 s1 ca cq ch st fk fn fo bb wt2_7 nx2_7 cx2_7 pt2_7 le2_7 sc2_7 ss2_7 ww2_7 xc2_7 lo2_7 hi2_7 ou xi) H locs := hT
  refine lv_aload_n hx hb dX11_freshAll_25 rfl (lv_at hl 0 rfl) ?_
  refine lv_iconst (v := 0) hx hb dX11_freshAll_26 (by decide) ?_
  refine W.eq (g2 := F0 m 27 ls [.int (nI 0), .ref (mo 0)]) (congrArg (fun z => F0 m 27 ls (.int z :: [.ref (mo 0)])) (rfl)) ?_
  refine pX11_114 C hT (q0 := 0) rfl dX11_freshAll_27 (fun H locs hT => ?_)
  have hT : Wd g A s (mdL g mo rr th np 0 0 false xx 0 t0 t1 s1 ca cq ch st fk fn fo bb wt2_7 nx2_7 cx2_7 pt2_7 le2_7 sc2_7 ss2_7 ww2_7 xc2_7 lo2_7 hi2_7 ou xi) H locs := hT
  have hT : Wd g A s (mdL g mo rr th np 0 0 false xx 0 t0 t1 s1 ca cq ch st fk fn fo bb wt2_7 nx2_7 cx2_7 pt2_7 le2_7 sc2_7 ss2_7 ww2_7 xc2_7 lo2_7 hi2_7 ou xi) H locs := hT
  exact e_vret C hQ ⟨(wt2_7, nx2_7, cx2_7, pt2_7, le2_7, sc2_7, ss2_7, ww2_7, xc2_7, lo2_7, hi2_7), (fun U V hU hV b0 b1 => ⟨hOT_7 0 U (by decide) (by decide) (hRS_2 U hU b0), hRS_7 V hV b1⟩), ⟨⟨(hlh_7.2 0 (by decide)).1.trans hlh_2.1.1, (hlh_7.2 0 (by decide)).2.trans hlh_2.1.2⟩, hlh_7.1⟩⟩ hT rfl dX11_freshAll_30

set_option maxHeartbeats 400000 in
set_option maxRecDepth 100000 in
theorem c_X11_clear (l : Launch) (g : GT) (mo : Nat → Nat) (rr : Nat) (th : Int32) (np : Nat) (no : Nat) (bt : Nat) (en : Bool) (xx : Int64) (ra : Nat) (t0 : Int32) (t1 : Int32) (s1 : Int32) (ca : Int32) (cq : Int32) (ch : Int32) (st : Nat → Int32) (fk : Nat → Int32) (fn : Nat → Int32) (fo : Nat → Int32) (bb : Nat → Int32) (wt : Nat → Int32) (nx : Nat → Int32) (cx : Nat → Int32) (pt : Nat → Int32) (le : Nat → Int32) (sc : Nat → Int32) (ss : Nat → Int32) (ww : Nat → Int32) (xc : Nat → Int32) (lo : Nat → Int64) (hi : Nat → Int64) (ou : Nat → Int32) (xi : Nat → Int32) (N : Nat) (hnp : np ≤ 8) (hN4 : N ≤ 4096) (hal : ∀ j, j < np → allowB (fk j) (fn j) = true) : OM (S := {zq : (Nat → Int32) × (Nat → Int32) × (Nat → Int32) × (Nat → Int32) × (Nat → Int32) × (Nat → Int32) × (Nat → Int32) × (Nat → Int32) × (Nat → Int32) × (Nat → Int64) × (Nat → Int64) // (∀ U V, FRS N np fk fn U → FRS N np fk fn V → (∀ j, j < 2000 → bb (2050 * 0 + j) = s_f U j) → (∀ j, j < 2000 → bb (2050 * 1 + j) = s_f V j) → RS 0 N np fk U bb zq.1 zq.2.1 zq.2.2.1 zq.2.2.2.1 zq.2.2.2.2.1 zq.2.2.2.2.2.1 zq.2.2.2.2.2.2.1 zq.2.2.2.2.2.2.2.1 zq.2.2.2.2.2.2.2.2.1 ∧ RS 1 N np fk V bb zq.1 zq.2.1 zq.2.2.1 zq.2.2.2.1 zq.2.2.2.2.1 zq.2.2.2.2.2.1 zq.2.2.2.2.2.2.1 zq.2.2.2.2.2.2.2.1 zq.2.2.2.2.2.2.2.2.1) ∧ ((zq.2.2.2.2.2.2.2.2.2.1 0 = 0 ∧ zq.2.2.2.2.2.2.2.2.2.2 0 = 4294967295) ∧ (zq.2.2.2.2.2.2.2.2.2.1 1 = 0 ∧ zq.2.2.2.2.2.2.2.2.2.2 1 = 4294967295))}) l g yX11_clear cX11_clear 1 (some .int) ({ frames := 5, cells := 0, slots := 0, locals := 117 } : Room) [.ref (mo 0)] (mdL g mo rr th np no bt en xx ra t0 t1 s1 ca cq ch st fk fn fo bb wt nx cx pt le sc ss ww xc lo hi ou xi) (fun zu => some (.int 1)) (fun zu => (mdL g mo rr 0 np 0 0 false xx 0 t0 t1 s1 ca cq ch st fk fn fo bb zu.1.1 zu.1.2.1 zu.1.2.2.1 zu.1.2.2.2.1 zu.1.2.2.2.2.1 zu.1.2.2.2.2.2.1 zu.1.2.2.2.2.2.2.1 zu.1.2.2.2.2.2.2.2.1 zu.1.2.2.2.2.2.2.2.2.1 zu.1.2.2.2.2.2.2.2.2.2.1 zu.1.2.2.2.2.2.2.2.2.2.2 ou xi)) := by
  refine OM.startQ (by decide) (Nat.le_of_ble_eq_true rfl) ?_
  intro p e s m below meth c A ls Q H locs hQ C hnm hl hT
  have hx := C.x
  have hb := C.b
  have hl : lv_has ls 1 [(0, .ref (mo 0))] := hl
  refine lv_aload_n hx hb dX11_clear_0 rfl (lv_at hl 0 rfl) ?_
  refine lv_iconst (v := 0) hx hb dX11_clear_1 (by decide) ?_
  refine pX11_77 C hT (q0 := 0) rfl dX11_clear_2 (fun H locs hT => ?_)
  have hT : Wd g A s (mdL g mo rr 0 np no bt en xx ra t0 t1 s1 ca cq ch st fk fn fo bb wt nx cx pt le sc ss ww xc lo hi ou xi) H locs := hT
  refine lv_aload_n hx hb dX11_clear_5 rfl (lv_at hl 0 rfl) ?_
  have hM := c_X11_freshAll l g mo rr 0 np no bt en xx ra t0 t1 s1 ca cq ch st fk fn fo bb wt nx cx pt le sc ss ww xc lo hi ou xi N hnp hN4 hal
  refine r_callW C hT (runVW (rm := ({ frames := 4, cells := 0, slots := 0, locals := 97 } : Room)) (As := []) (n := 0) (q1 := 0) (rest := []) C hT hM k739 k741 s11 k15 k742 (by decide +kernel) rfl rfl rfl rfl (Nat.le_of_ble_eq_true rfl) hl.1 ⟨Nat.le_of_ble_eq_true rfl, Nat.le_of_ble_eq_true rfl⟩ ⟨Nat.le_of_ble_eq_true rfl, Nat.le_of_ble_eq_true rfl⟩ dX11_clear_6) (fun u H locs hT => ?_)
  obtain ⟨⟨wt2_6, nx2_6, cx2_6, pt2_6, le2_6, sc2_6, ss2_6, ww2_6, xc2_6, lo2_6, hi2_6⟩, hRS_6, hlh_6⟩ := u
  replace hRS_6 : ∀ U V, FRS N np fk fn U → FRS N np fk fn V → (∀ j, j < 2000 → bb (2050 * 0 + j) = s_f U j) → (∀ j, j < 2000 → bb (2050 * 1 + j) = s_f V j) → RS 0 N np fk U bb wt2_6 nx2_6 cx2_6 pt2_6 le2_6 sc2_6 ss2_6 ww2_6 xc2_6 ∧ RS 1 N np fk V bb wt2_6 nx2_6 cx2_6 pt2_6 le2_6 sc2_6 ss2_6 ww2_6 xc2_6 := hRS_6
  replace hlh_6 : (lo2_6 0 = 0 ∧ hi2_6 0 = 4294967295) ∧ (lo2_6 1 = 0 ∧ hi2_6 1 = 4294967295) := hlh_6
  have hT : Wd g A s (mdL g mo rr 0 np 0 0 false xx 0 t0 t1 s1 ca cq ch st fk fn fo bb wt2_6 nx2_6 cx2_6 pt2_6 le2_6 sc2_6 ss2_6 ww2_6 xc2_6 lo2_6 hi2_6 ou xi) H locs := hT
  refine W.eq (g2 := F0 m 9 ls []) rfl ?_
  refine lv_iconst (v := 1) hx hb dX11_clear_9 (by decide) ?_
  have hT : Wd g A s (mdL g mo rr 0 np 0 0 false xx 0 t0 t1 s1 ca cq ch st fk fn fo bb wt2_6 nx2_6 cx2_6 pt2_6 le2_6 sc2_6 ss2_6 ww2_6 xc2_6 lo2_6 hi2_6 ou xi) H locs := hT
  exact e_iret C hQ ⟨(wt2_6, nx2_6, cx2_6, pt2_6, le2_6, sc2_6, ss2_6, ww2_6, xc2_6, lo2_6, hi2_6), hRS_6, hlh_6⟩ hT (by rfl) dX11_clear_10

set_option maxHeartbeats 400000 in
set_option maxRecDepth 100000 in
theorem c_X11_again (l : Launch) (g : GT) (mo : Nat → Nat) (rr : Nat) (th : Int32) (np : Nat) (no : Nat) (bt : Nat) (en : Bool) (xx : Int64) (ra : Nat) (t0 : Int32) (t1 : Int32) (s1 : Int32) (ca : Int32) (cq : Int32) (ch : Int32) (st : Nat → Int32) (fk : Nat → Int32) (fn : Nat → Int32) (fo : Nat → Int32) (bb : Nat → Int32) (wt : Nat → Int32) (nx : Nat → Int32) (cx : Nat → Int32) (pt : Nat → Int32) (le : Nat → Int32) (sc : Nat → Int32) (ss : Nat → Int32) (ww : Nat → Int32) (xc : Nat → Int32) (lo : Nat → Int64) (hi : Nat → Int64) (ou : Nat → Int32) (xi : Nat → Int32) (N : Nat) (n : Nat) (hnp : np ≤ 8) (hN4 : N ≤ 4096) (hal : ∀ j, j < np → allowB (fk j) (fn j) = true) (hw : wt 1 = nI n) (hno : no ≤ 3200) (hou : ouI no ou) : OM (S := {zq : (Nat → Int32) × (Nat → Int32) × (Nat → Int32) × (Nat → Int32) × (Nat → Int32) × (Nat → Int32) × (Nat → Int32) × (Nat → Int32) × (Nat → Int32) × (Nat → Int64) × (Nat → Int64) // (∀ U, FRS N np fk fn U → (∀ j, j < 2000 → bb (2050 * 1 + j) = s_f U j) → RS 1 N np fk U bb zq.1 zq.2.1 zq.2.2.1 zq.2.2.2.1 zq.2.2.2.2.1 zq.2.2.2.2.2.1 zq.2.2.2.2.2.2.1 zq.2.2.2.2.2.2.2.1 zq.2.2.2.2.2.2.2.2.1) ∧ (∀ V, RS 0 N np fk V bb wt nx cx pt le sc ss ww xc → RS 0 N np fk V bb zq.1 zq.2.1 zq.2.2.1 zq.2.2.2.1 zq.2.2.2.2.1 zq.2.2.2.2.2.1 zq.2.2.2.2.2.2.1 zq.2.2.2.2.2.2.2.1 zq.2.2.2.2.2.2.2.2.1) ∧ ((zq.2.2.2.2.2.2.2.2.2.1 1 = 0 ∧ zq.2.2.2.2.2.2.2.2.2.2 1 = 4294967295) ∧ (zq.2.2.2.2.2.2.2.2.2.1 0 = lo 0 ∧ zq.2.2.2.2.2.2.2.2.2.2 0 = hi 0))}) l g yX11_again cX11_again 2 (some .int) ({ frames := 4, cells := 0, slots := 0, locals := 97 } : Room) [.ref (mo 0)] (mdL g mo rr th np no bt en xx ra t0 t1 s1 ca cq ch st fk fn fo bb wt nx cx pt le sc ss ww xc lo hi ou xi) (fun zu => some (.int (nI n))) (fun zu => (mdL g mo rr 0 np no bt en (tkC no ou 4) 4 t0 t1 s1 ca cq ch st fk fn fo bb zu.1.1 zu.1.2.1 zu.1.2.2.1 zu.1.2.2.2.1 zu.1.2.2.2.2.1 zu.1.2.2.2.2.2.1 zu.1.2.2.2.2.2.2.1 zu.1.2.2.2.2.2.2.2.1 zu.1.2.2.2.2.2.2.2.2.1 zu.1.2.2.2.2.2.2.2.2.2.1 zu.1.2.2.2.2.2.2.2.2.2.2 ou xi)) := by
  refine OM.startQ (by decide) (Nat.le_of_ble_eq_true rfl) ?_
  intro p e s m below meth c A ls Q H locs hQ C hnm hl hT
  have hx := C.x
  have hb := C.b
  have hl : lv_has ls 2 [(0, .ref (mo 0))] := hl
  refine lv_aload_n hx hb dX11_again_0 rfl (lv_at hl 0 rfl) ?_
  refine lv_iconst (v := 0) hx hb dX11_again_1 (by decide) ?_
  refine pX11_77 C hT (q0 := 0) rfl dX11_again_2 (fun H locs hT => ?_)
  have hT : Wd g A s (mdL g mo rr 0 np no bt en xx ra t0 t1 s1 ca cq ch st fk fn fo bb wt nx cx pt le sc ss ww xc lo hi ou xi) H locs := hT
  refine lv_aload_n hx hb dX11_again_5 rfl (lv_at hl 0 rfl) ?_
  refine gX11_26 C hT (q0 := 0) rfl dX11_again_6 ?_
  refine lv_iconst (v := 1) hx hb dX11_again_9 (by decide) ?_
  refine r_iald C hT (q0 := 6) rfl 1 rfl (by decide) (by decide) dX11_again_10 ?_
  refine W.eq (g2 := F0 m 11 ls [.int (nI n)]) (congrArg (fun z => F0 m 11 ls (.int z :: [])) (hw)) ?_
  refine lv_istore_n (lv' := [(1, .int (nI n)), (0, .ref (mo 0))]) hx hb dX11_again_11 rfl hl (by decide) rfl (fun ls hl => ?_)
  refine lv_aload_n hx hb dX11_again_12 rfl (lv_at hl 1 rfl) ?_
  refine lv_iconst (v := 1) hx hb dX11_again_13 (by decide) ?_
  refine W.eq (g2 := F0 m 14 ls [.int (nI 1), .ref (mo 0)]) (congrArg (fun z => F0 m 14 ls (.int z :: [.ref (mo 0)])) (rfl)) ?_
  have hM := c_X11_fresh l g mo rr 0 np no bt en xx ra t0 t1 s1 ca cq ch st fk fn fo bb wt nx cx pt le sc ss ww xc lo hi ou xi 1 N (by decide) hnp hN4 hal
  refine r_callW C hT (runVW (rm := ({ frames := 3, cells := 0, slots := 0, locals := 73 } : Room)) (As := [.int (nI 1)]) (n := 1) (q1 := 0) (rest := []) C hT hM k743 k745 s12 k15 k746 (by decide +kernel) rfl rfl rfl rfl (Nat.le_of_ble_eq_true rfl) hl.1 ⟨Nat.le_of_ble_eq_true rfl, Nat.le_of_ble_eq_true rfl⟩ ⟨Nat.le_of_ble_eq_true rfl, Nat.le_of_ble_eq_true rfl⟩ dX11_again_14) (fun u H locs hT => ?_)
  obtain ⟨⟨wt2_14, nx2_14, cx2_14, pt2_14, le2_14, sc2_14, ss2_14, ww2_14, xc2_14, lo2_14, hi2_14⟩, hRS_14, hOT_14, hlh_14⟩ := u
  replace hRS_14 : ∀ U, FRS N np fk fn U → (∀ j, j < 2000 → bb (2050 * 1 + j) = s_f U j) → RS 1 N np fk U bb wt2_14 nx2_14 cx2_14 pt2_14 le2_14 sc2_14 ss2_14 ww2_14 xc2_14 := hRS_14
  replace hOT_14 : ∀ s2 V, s2 < 2 → ¬ s2 = 1 → RS s2 N np fk V bb wt nx cx pt le sc ss ww xc → RS s2 N np fk V bb wt2_14 nx2_14 cx2_14 pt2_14 le2_14 sc2_14 ss2_14 ww2_14 xc2_14 := hOT_14
  replace hlh_14 : (lo2_14 1 = 0 ∧ hi2_14 1 = 4294967295) ∧ ∀ s2, ¬ s2 = 1 → lo2_14 s2 = lo s2 ∧ hi2_14 s2 = hi s2 := hlh_14
  have hT : Wd g A s (mdL g mo rr 0 np no bt en xx ra t0 t1 s1 ca cq ch st fk fn fo bb wt2_14 nx2_14 cx2_14 pt2_14 le2_14 sc2_14 ss2_14 ww2_14 xc2_14 lo2_14 hi2_14 ou xi) H locs := hT
  refine W.eq (g2 := F0 m 17 ls []) rfl ?_
  refine lv_aload_n hx hb dX11_again_17 rfl (lv_at hl 1 rfl) ?_
  have hM := c_X11_loadX l g mo rr 0 np no bt en xx ra t0 t1 s1 ca cq ch st fk fn fo bb wt2_14 nx2_14 cx2_14 pt2_14 le2_14 sc2_14 ss2_14 ww2_14 xc2_14 lo2_14 hi2_14 ou xi hno hou
  refine r_callW C hT (runVW (rm := ({ frames := 1, cells := 0, slots := 0, locals := 21 } : Room)) (As := []) (n := 0) (q1 := 0) (rest := []) C hT hM k954 k956 s26 k15 k957 (by decide +kernel) rfl rfl rfl rfl (Nat.le_of_ble_eq_true rfl) hl.1 ⟨Nat.le_of_ble_eq_true rfl, Nat.le_of_ble_eq_true rfl⟩ ⟨Nat.le_of_ble_eq_true rfl, Nat.le_of_ble_eq_true rfl⟩ dX11_again_18) (fun u H locs hT => ?_)
  have hT : Wd g A s (mdL g mo rr 0 np no bt en (tkC no ou 4) 4 t0 t1 s1 ca cq ch st fk fn fo bb wt2_14 nx2_14 cx2_14 pt2_14 le2_14 sc2_14 ss2_14 ww2_14 xc2_14 lo2_14 hi2_14 ou xi) H locs := hT
  refine W.eq (g2 := F0 m 21 ls []) rfl ?_
  refine lv_iload_n hx hb dX11_again_21 rfl (lv_at hl 0 rfl) ?_
  have hT : Wd g A s (mdL g mo rr 0 np no bt en (tkC no ou 4) 4 t0 t1 s1 ca cq ch st fk fn fo bb wt2_14 nx2_14 cx2_14 pt2_14 le2_14 sc2_14 ss2_14 ww2_14 xc2_14 lo2_14 hi2_14 ou xi) H locs := hT
  exact e_iret C hQ ⟨(wt2_14, nx2_14, cx2_14, pt2_14, le2_14, sc2_14, ss2_14, ww2_14, xc2_14, lo2_14, hi2_14), hRS_14, (fun V h => hOT_14 0 V (by decide) (by decide) h), ⟨hlh_14.1, hlh_14.2 0 (by decide)⟩⟩ hT (by rfl) dX11_again_22

set_option maxHeartbeats 400000 in
set_option maxRecDepth 100000 in
theorem c_X11_bit_s (l : Launch) (g : GT) (mo : Nat → Nat) (rr : Nat) (th : Int32) (np : Nat) (no : Nat) (bt : Nat) (en : Bool) (xx : Int64) (ra : Nat) (t0 : Int32) (t1 : Int32) (s1 : Int32) (ca : Int32) (cq : Int32) (ch : Int32) (st : Nat → Int32) (fk : Nat → Int32) (fn : Nat → Int32) (fo : Nat → Int32) (bb : Nat → Int32) (wt : Nat → Int32) (nx : Nat → Int32) (cx : Nat → Int32) (pt : Nat → Int32) (le : Nat → Int32) (sc : Nat → Int32) (ss : Nat → Int32) (ww : Nat → Int32) (xc : Nat → Int32) (lo : Nat → Int64) (hi : Nat → Int64) (ou : Nat → Int32) (xi : Nat → Int32) (on : Int32) (hen : en = true) : OM (S := Unit) l g yX11_bit cX11_bit 2 (some .int) ({ frames := 0, cells := 0, slots := 0, locals := 0 } : Room) [.ref (mo 0), .int on] (mdL g mo rr th np no bt en xx ra t0 t1 s1 ca cq ch st fk fn fo bb wt nx cx pt le sc ss ww xc lo hi ou xi) (fun _ => some (.int (-4))) (fun _ => (mdL g mo rr 0 np no bt en xx ra t0 t1 s1 ca cq ch st fk fn fo bb wt nx cx pt le sc ss ww xc lo hi ou xi)) := by
  refine OM.startQ (by decide) (Nat.le_of_ble_eq_true rfl) ?_
  intro p e s m below meth c A ls Q H locs hQ C hnm hl hT
  have hx := C.x
  have hb := C.b
  have hl : lv_has ls 2 [(0, .ref (mo 0)), (1, .int on)] := hl
  refine lv_aload_n hx hb dX11_bit_0 rfl (lv_at hl 0 rfl) ?_
  refine lv_iconst (v := 0) hx hb dX11_bit_1 (by decide) ?_
  refine pX11_77 C hT (q0 := 0) rfl dX11_bit_2 (fun H locs hT => ?_)
  have hT : Wd g A s (mdL g mo rr 0 np no bt en xx ra t0 t1 s1 ca cq ch st fk fn fo bb wt nx cx pt le sc ss ww xc lo hi ou xi) H locs := hT
  refine lv_aload_n hx hb dX11_bit_5 rfl (lv_at hl 0 rfl) ?_
  refine gX11_110 C hT (q0 := 0) rfl dX11_bit_6 ?_
  refine lv_if_eq (tgt := 15) hx hb dX11_bit_9 (by decide) (fun h_1 => ?_) (fun h_1 => ?_)
  · skip
    exact absurd (b01_f h_1) (by rw [hen]; decide)
  · skip
    refine lv_bipush (v := (-4)) hx hb dX11_bit_12 (by decide) ?_
    exact e_iret C hQ () hT rfl dX11_bit_14

set_option maxHeartbeats 400000 in
set_option maxRecDepth 100000 in
theorem c_X11_end_s (l : Launch) (g : GT) (mo : Nat → Nat) (rr : Nat) (th : Int32) (np : Nat) (no : Nat) (bt : Nat) (en : Bool) (xx : Int64) (ra : Nat) (t0 : Int32) (t1 : Int32) (s1 : Int32) (ca : Int32) (cq : Int32) (ch : Int32) (st : Nat → Int32) (fk : Nat → Int32) (fn : Nat → Int32) (fo : Nat → Int32) (bb : Nat → Int32) (wt : Nat → Int32) (nx : Nat → Int32) (cx : Nat → Int32) (pt : Nat → Int32) (le : Nat → Int32) (sc : Nat → Int32) (ss : Nat → Int32) (ww : Nat → Int32) (xc : Nat → Int32) (lo : Nat → Int64) (hi : Nat → Int64) (ou : Nat → Int32) (xi : Nat → Int32) (hen : en = true) : OM (S := Unit) l g yX11_end cX11_end 2 (some .int) ({ frames := 0, cells := 0, slots := 0, locals := 0 } : Room) [.ref (mo 0)] (mdL g mo rr th np no bt en xx ra t0 t1 s1 ca cq ch st fk fn fo bb wt nx cx pt le sc ss ww xc lo hi ou xi) (fun _ => some (.int (-4))) (fun _ => (mdL g mo rr 0 np no bt en xx ra t0 t1 s1 ca cq ch st fk fn fo bb wt nx cx pt le sc ss ww xc lo hi ou xi)) := by
  refine OM.startQ (by decide) (Nat.le_of_ble_eq_true rfl) ?_
  intro p e s m below meth c A ls Q H locs hQ C hnm hl hT
  have hx := C.x
  have hb := C.b
  have hl : lv_has ls 2 [(0, .ref (mo 0))] := hl
  refine lv_aload_n hx hb dX11_end_0 rfl (lv_at hl 0 rfl) ?_
  refine lv_iconst (v := 0) hx hb dX11_end_1 (by decide) ?_
  refine pX11_77 C hT (q0 := 0) rfl dX11_end_2 (fun H locs hT => ?_)
  have hT : Wd g A s (mdL g mo rr 0 np no bt en xx ra t0 t1 s1 ca cq ch st fk fn fo bb wt nx cx pt le sc ss ww xc lo hi ou xi) H locs := hT
  refine lv_aload_n hx hb dX11_end_5 rfl (lv_at hl 0 rfl) ?_
  refine gX11_110 C hT (q0 := 0) rfl dX11_end_6 ?_
  refine lv_if_eq (tgt := 15) hx hb dX11_end_9 (by decide) (fun h_1 => ?_) (fun h_1 => ?_)
  · skip
    exact absurd (b01_f h_1) (by rw [hen]; decide)
  · skip
    refine lv_bipush (v := (-4)) hx hb dX11_end_12 (by decide) ?_
    exact e_iret C hQ () hT rfl dX11_end_14

set_option maxHeartbeats 400000 in
set_option maxRecDepth 100000 in
theorem c_X11_bit (l : Launch) (g : GT) (mo : Nat → Nat) (rr : Nat) (th : Int32) (np : Nat) (no : Nat) (bt : Nat) (en : Bool) (xx : Int64) (ra : Nat) (t0 : Int32) (t1 : Int32) (s1 : Int32) (ca : Int32) (cq : Int32) (ch : Int32) (st : Nat → Int32) (fk : Nat → Int32) (fn : Nat → Int32) (fo : Nat → Int32) (bb : Nat → Int32) (wt : Nat → Int32) (nx : Nat → Int32) (cx : Nat → Int32) (pt : Nat → Int32) (le : Nat → Int32) (sc : Nat → Int32) (ss : Nat → Int32) (ww : Nat → Int32) (xc : Nat → Int32) (lo : Nat → Int64) (hi : Nat → Int64) (ou : Nat → Int32) (xi : Nat → Int32) (N : Nat) (U : SSt) (on : Int32) (hG : GI st N rr np fk fn) (hRS : RS 0 N np fk U bb wt nx cx pt le sc ss ww xc) (hX : SX N np fk U) (hCI : CI (lo 0) (hi 0)) (hen : en = false) (hon : on = 0 ∨ on = 1) (hnl : s_n U < 2000) (hno : no ≤ 2992) (hbt : bt ≤ 8) : OM (S := {zq : (Nat → Int64) × (Nat → Int64) × (Nat) × (Nat → Int32) × (Nat → Int32) × (Nat → Int32) × (Nat → Int32) × (Nat → Int32) × (Nat → Int32) × (Nat → Int32) × (Nat → Int32) × (Nat → Int32) × (Nat → Int32) × (Nat → Int32) × (Int32) × (Int32) × (Int32) × (Int32) × (Int32) × (Int32) × (Nat → Int32) // (RS 0 N np fk (stepS st N np fk fn fo U on) zq.2.2.2.2.1 zq.2.2.2.2.2.1 zq.2.2.2.2.2.2.1 zq.2.2.2.2.2.2.2.1 zq.2.2.2.2.2.2.2.2.1 zq.2.2.2.2.2.2.2.2.2.1 zq.2.2.2.2.2.2.2.2.2.2.1 zq.2.2.2.2.2.2.2.2.2.2.2.1 zq.2.2.2.2.2.2.2.2.2.2.2.2.1 zq.2.2.2.2.2.2.2.2.2.2.2.2.2.1) ∧ (∀ s2 V, s2 < 2 → ¬ s2 = 0 → RS s2 N np fk V bb wt nx cx pt le sc ss ww xc → RS s2 N np fk V zq.2.2.2.2.1 zq.2.2.2.2.2.1 zq.2.2.2.2.2.2.1 zq.2.2.2.2.2.2.2.1 zq.2.2.2.2.2.2.2.2.1 zq.2.2.2.2.2.2.2.2.2.1 zq.2.2.2.2.2.2.2.2.2.2.1 zq.2.2.2.2.2.2.2.2.2.2.2.1 zq.2.2.2.2.2.2.2.2.2.2.2.2.1 zq.2.2.2.2.2.2.2.2.2.2.2.2.2.1) ∧ (zq.2.2.1 = (emF 4 (nLo on (lo 0) (mdS st N np fk fo U (lo 0) (hi 0))) (nHi on (hi 0) (mdS st N np fk fo U (lo 0) (hi 0))) no ou).2.2.1) ∧ (zq.2.2.2.1 = (emF 4 (nLo on (lo 0) (mdS st N np fk fo U (lo 0) (hi 0))) (nHi on (hi 0) (mdS st N np fk fo U (lo 0) (hi 0))) no ou).2.2.2) ∧ (zq.1 0 = (emF 4 (nLo on (lo 0) (mdS st N np fk fo U (lo 0) (hi 0))) (nHi on (hi 0) (mdS st N np fk fo U (lo 0) (hi 0))) no ou).1 ∧ zq.1 1 = lo 1) ∧ (zq.2.1 0 = (emF 4 (nLo on (lo 0) (mdS st N np fk fo U (lo 0) (hi 0))) (nHi on (hi 0) (mdS st N np fk fo U (lo 0) (hi 0))) no ou).2.1 ∧ zq.2.1 1 = hi 1)}) l g yX11_bit cX11_bit 2 (some .int) ({ frames := 5, cells := 0, slots := 0, locals := 124 } : Room) [.ref (mo 0), .int on] (mdL g mo rr th np no bt en xx ra t0 t1 s1 ca cq ch st fk fn fo bb wt nx cx pt le sc ss ww xc lo hi ou xi) (fun zu => some (.int (nI zu.1.2.2.1))) (fun zu => (mdL g mo rr 0 np zu.1.2.2.1 ((bt + 1) % 8) en xx ra zu.1.2.2.2.2.2.2.2.2.2.2.2.2.2.2.1 zu.1.2.2.2.2.2.2.2.2.2.2.2.2.2.2.2.1 zu.1.2.2.2.2.2.2.2.2.2.2.2.2.2.2.2.2.1 zu.1.2.2.2.2.2.2.2.2.2.2.2.2.2.2.2.2.2.1 zu.1.2.2.2.2.2.2.2.2.2.2.2.2.2.2.2.2.2.2.1 zu.1.2.2.2.2.2.2.2.2.2.2.2.2.2.2.2.2.2.2.2.1 st fk fn fo zu.1.2.2.2.2.1 zu.1.2.2.2.2.2.1 zu.1.2.2.2.2.2.2.1 zu.1.2.2.2.2.2.2.2.1 zu.1.2.2.2.2.2.2.2.2.1 zu.1.2.2.2.2.2.2.2.2.2.1 zu.1.2.2.2.2.2.2.2.2.2.2.1 zu.1.2.2.2.2.2.2.2.2.2.2.2.1 zu.1.2.2.2.2.2.2.2.2.2.2.2.2.1 zu.1.2.2.2.2.2.2.2.2.2.2.2.2.2.1 zu.1.1 zu.1.2.1 zu.1.2.2.2.1 zu.1.2.2.2.2.2.2.2.2.2.2.2.2.2.2.2.2.2.2.2.2)) := by
  refine OM.startQ (by decide) (Nat.le_of_ble_eq_true rfl) ?_
  intro p e s m below meth c A ls Q H locs hQ C hnm hl hT
  have hx := C.x
  have hb := C.b
  have hl : lv_has ls 2 [(0, .ref (mo 0)), (1, .int on)] := hl
  refine lv_aload_n hx hb dX11_bit_0 rfl (lv_at hl 0 rfl) ?_
  refine lv_iconst (v := 0) hx hb dX11_bit_1 (by decide) ?_
  refine pX11_77 C hT (q0 := 0) rfl dX11_bit_2 (fun H locs hT => ?_)
  have hT : Wd g A s (mdL g mo rr 0 np no bt en xx ra t0 t1 s1 ca cq ch st fk fn fo bb wt nx cx pt le sc ss ww xc lo hi ou xi) H locs := hT
  refine lv_aload_n hx hb dX11_bit_5 rfl (lv_at hl 0 rfl) ?_
  refine gX11_110 C hT (q0 := 0) rfl dX11_bit_6 ?_
  refine lv_if_eq (tgt := 15) hx hb dX11_bit_9 (by decide) (fun h_1 => ?_) (fun h_1 => ?_)
  · skip
    refine lv_aload_n hx hb dX11_bit_15 rfl (lv_at hl 0 rfl) ?_
    have hM := c_X11_isFull l g mo rr 0 np no bt en xx ra t0 t1 s1 ca cq ch st fk fn fo bb wt nx cx pt le sc ss ww xc lo hi ou xi (s_n U) hRS.1.1 hnl hno
    refine r_callRO (js := [0, 1, 2, 3, 4, 5, 6, 7, 8, 9, 10, 11, 12, 13, 14, 15, 16, 17, 18]) C hT (runV (js := [0, 1, 2, 3, 4, 5, 6, 7, 8, 9, 10, 11, 12, 13, 14, 15, 16, 17, 18]) (rm := ({ frames := 0, cells := 0, slots := 0, locals := 0 } : Room)) (As := []) (n := 0) (q1 := 0) (rest := []) C hT hM rfl rfl k903 k905 s18 k15 k906 (by decide +kernel) rfl rfl rfl rfl (Nat.le_of_ble_eq_true rfl) hl.1 ⟨Nat.le_of_ble_eq_true rfl, Nat.le_of_ble_eq_true rfl⟩ ⟨Nat.le_of_ble_eq_true rfl, Nat.le_of_ble_eq_true rfl⟩ dX11_bit_16) rfl rfl (fun u H locs hT => ?_)
    refine W.eq (g2 := F0 m 19 ls [.int 0]) rfl ?_
    refine lv_if_eq (tgt := 25) hx hb dX11_bit_19 (by decide) (fun h_2 => ?_) (fun h_2 => ?_)
    · skip
      refine lv_aload_n hx hb dX11_bit_25 rfl (lv_at hl 0 rfl) ?_
      refine lv_iload_n hx hb dX11_bit_26 rfl (lv_at hl 1 rfl) ?_
      refine r_ite (ls := ls) (J := 35) (a1 := 0) (a2 := 1) (rest := [.ref (mo 0)]) (lv_if_eq (tgt := 34) hx hb dX11_bit_27 (by decide)) (fun h_3 kont => ?_) (fun h_3 kont => ?_) ?_
      · skip
        refine lv_iconst (v := 0) hx hb dX11_bit_34 (by decide) ?_
        exact kont
      · skip
        refine lv_iconst (v := 1) hx hb dX11_bit_30 (by decide) ?_
        refine lv_goto (tgt := 35) hx hb dX11_bit_31 (by decide) ?_
        exact kont
      refine W.eq (g2 := F0 m 35 ls [.int on, .ref (mo 0)]) (congrArg (fun z => F0 m 35 ls (.int z :: [.ref (mo 0)])) (on_if hon)) ?_
      have hM := c_X11_writeBit l g mo rr 0 np no bt en xx ra t0 t1 s1 ca cq ch st fk fn fo bb wt nx cx pt le sc ss ww xc lo hi ou xi N U on hG hRS hX hCI hon hnl (by omega) hbt
      refine r_callW C hT (runVW (rm := ({ frames := 4, cells := 0, slots := 0, locals := 101 } : Room)) (As := [.int on]) (n := 1) (q1 := 0) (rest := []) C hT hM k907 k909 s19 k15 k910 (by decide +kernel) rfl rfl rfl rfl (Nat.le_of_ble_eq_true rfl) hl.1 ⟨Nat.le_of_ble_eq_true rfl, Nat.le_of_ble_eq_true rfl⟩ ⟨Nat.le_of_ble_eq_true rfl, Nat.le_of_ble_eq_true rfl⟩ dX11_bit_35) (fun u H locs hT => ?_)
      obtain ⟨⟨lo2_35, hi2_35, no2_35, ou2_35, bb2_35, wt2_35, nx2_35, cx2_35, pt2_35, le2_35, sc2_35, ss2_35, ww2_35, xc2_35, t02_35, t12_35, s12_35, ca2_35, cq2_35, ch2_35, xi2_35⟩, hRS_35, hOT_35, hno_35, hou_35, hlo_35, hhi_35⟩ := u
      replace hRS_35 : RS 0 N np fk (stepS st N np fk fn fo U on) bb2_35 wt2_35 nx2_35 cx2_35 pt2_35 le2_35 sc2_35 ss2_35 ww2_35 xc2_35 := hRS_35
      replace hOT_35 : ∀ s2 V, s2 < 2 → ¬ s2 = 0 → RS s2 N np fk V bb wt nx cx pt le sc ss ww xc → RS s2 N np fk V bb2_35 wt2_35 nx2_35 cx2_35 pt2_35 le2_35 sc2_35 ss2_35 ww2_35 xc2_35 := hOT_35
      replace hno_35 : no2_35 = (emF 4 (nLo on (lo 0) (mdS st N np fk fo U (lo 0) (hi 0))) (nHi on (hi 0) (mdS st N np fk fo U (lo 0) (hi 0))) no ou).2.2.1 := hno_35
      replace hou_35 : ou2_35 = (emF 4 (nLo on (lo 0) (mdS st N np fk fo U (lo 0) (hi 0))) (nHi on (hi 0) (mdS st N np fk fo U (lo 0) (hi 0))) no ou).2.2.2 := hou_35
      replace hlo_35 : lo2_35 0 = (emF 4 (nLo on (lo 0) (mdS st N np fk fo U (lo 0) (hi 0))) (nHi on (hi 0) (mdS st N np fk fo U (lo 0) (hi 0))) no ou).1 ∧ lo2_35 1 = lo 1 := hlo_35
      replace hhi_35 : hi2_35 0 = (emF 4 (nLo on (lo 0) (mdS st N np fk fo U (lo 0) (hi 0))) (nHi on (hi 0) (mdS st N np fk fo U (lo 0) (hi 0))) no ou).2.1 ∧ hi2_35 1 = hi 1 := hhi_35
      have hT : Wd g A s (mdL g mo rr 0 np no2_35 ((bt + 1) % 8) en xx ra t02_35 t12_35 s12_35 ca2_35 cq2_35 ch2_35 st fk fn fo bb2_35 wt2_35 nx2_35 cx2_35 pt2_35 le2_35 sc2_35 ss2_35 ww2_35 xc2_35 lo2_35 hi2_35 ou2_35 xi2_35) H locs := hT
      refine W.eq (g2 := F0 m 38 ls []) rfl ?_
      refine lv_aload_n hx hb dX11_bit_38 rfl (lv_at hl 0 rfl) ?_
      refine gX11_104 C hT (q0 := 0) rfl dX11_bit_39 ?_
      have hT : Wd g A s (mdL g mo rr 0 np no2_35 ((bt + 1) % 8) en xx ra t02_35 t12_35 s12_35 ca2_35 cq2_35 ch2_35 st fk fn fo bb2_35 wt2_35 nx2_35 cx2_35 pt2_35 le2_35 sc2_35 ss2_35 ww2_35 xc2_35 lo2_35 hi2_35 ou2_35 xi2_35) H locs := hT
      exact e_iret C hQ ⟨(lo2_35, hi2_35, no2_35, ou2_35, bb2_35, wt2_35, nx2_35, cx2_35, pt2_35, le2_35, sc2_35, ss2_35, ww2_35, xc2_35, t02_35, t12_35, s12_35, ca2_35, cq2_35, ch2_35, xi2_35), hRS_35, hOT_35, hno_35, hou_35, hlo_35, hhi_35⟩ hT (by rfl) dX11_bit_42
    · skip
      exact absurd (by decide) h_2
  · skip
    exact absurd (b01_t h_1) (by rw [hen]; decide)

set_option maxHeartbeats 400000 in
set_option maxRecDepth 100000 in
theorem c_X11_octet_s (l : Launch) (g : GT) (mo : Nat → Nat) (rr : Nat) (th : Int32) (np : Nat) (no : Nat) (bt : Nat) (en : Bool) (xx : Int64) (ra : Nat) (t0 : Int32) (t1 : Int32) (s1 : Int32) (ca : Int32) (cq : Int32) (ch : Int32) (st : Nat → Int32) (fk : Nat → Int32) (fn : Nat → Int32) (fo : Nat → Int32) (bb : Nat → Int32) (wt : Nat → Int32) (nx : Nat → Int32) (cx : Nat → Int32) (pt : Nat → Int32) (le : Nat → Int32) (sc : Nat → Int32) (ss : Nat → Int32) (ww : Nat → Int32) (xc : Nat → Int32) (lo : Nat → Int64) (hi : Nat → Int64) (ou : Nat → Int32) (xi : Nat → Int32) (x : Int32) (hst : en = true ∨ 0 < bt) (hbt : bt ≤ 8) : OM (S := Unit) l g yX11_octet cX11_octet 3 (some .int) ({ frames := 0, cells := 0, slots := 0, locals := 0 } : Room) [.ref (mo 0), .int x] (mdL g mo rr th np no bt en xx ra t0 t1 s1 ca cq ch st fk fn fo bb wt nx cx pt le sc ss ww xc lo hi ou xi) (fun _ => some (.int (-4))) (fun _ => (mdL g mo rr 0 np no bt en xx ra t0 t1 s1 ca cq ch st fk fn fo bb wt nx cx pt le sc ss ww xc lo hi ou xi)) := by
  refine OM.startQ (by decide) (Nat.le_of_ble_eq_true rfl) ?_
  intro p e s m below meth c A ls Q H locs hQ C hnm hl hT
  have hx := C.x
  have hb := C.b
  have hl : lv_has ls 3 [(0, .ref (mo 0)), (1, .int x)] := hl
  refine lv_aload_n hx hb dX11_octet_0 rfl (lv_at hl 0 rfl) ?_
  refine lv_iconst (v := 0) hx hb dX11_octet_1 (by decide) ?_
  refine pX11_77 C hT (q0 := 0) rfl dX11_octet_2 (fun H locs hT => ?_)
  have hT : Wd g A s (mdL g mo rr 0 np no bt en xx ra t0 t1 s1 ca cq ch st fk fn fo bb wt nx cx pt le sc ss ww xc lo hi ou xi) H locs := hT
  refine lv_aload_n hx hb dX11_octet_5 rfl (lv_at hl 0 rfl) ?_
  refine gX11_110 C hT (q0 := 0) rfl dX11_octet_6 ?_
  refine lv_if_ne (tgt := 19) hx hb dX11_octet_9 (by decide) (fun h_1 => ?_) (fun h_1 => ?_)
  · skip
    have h_1 := b01_t h_1
    refine lv_bipush (v := (-4)) hx hb dX11_octet_19 (by decide) ?_
    exact e_iret C hQ () hT rfl dX11_octet_21
  · skip
    have h_1 := b01_f h_1
    refine lv_aload_n hx hb dX11_octet_12 rfl (lv_at hl 0 rfl) ?_
    refine gX11_107 C hT (q0 := 0) rfl dX11_octet_13 ?_
    refine lv_if_le (tgt := 22) hx hb dX11_octet_16 (by decide) (fun h_2 => ?_) (fun h_2 => ?_)
    · skip
      exact oct_dead hst hbt h_1 h_2
    · skip
      refine lv_bipush (v := (-4)) hx hb dX11_octet_19 (by decide) ?_
      exact e_iret C hQ () hT rfl dX11_octet_21

set_option maxHeartbeats 400000 in
set_option maxRecDepth 100000 in
theorem c_X11_octet (l : Launch) (g : GT) (mo : Nat → Nat) (rr : Nat) (th : Int32) (np : Nat) (no : Nat) (bt : Nat) (en : Bool) (xx : Int64) (ra : Nat) (t0 : Int32) (t1 : Int32) (s1 : Int32) (ca : Int32) (cq : Int32) (ch : Int32) (st : Nat → Int32) (fk : Nat → Int32) (fn : Nat → Int32) (fo : Nat → Int32) (bb : Nat → Int32) (wt : Nat → Int32) (nx : Nat → Int32) (cx : Nat → Int32) (pt : Nat → Int32) (le : Nat → Int32) (sc : Nat → Int32) (ss : Nat → Int32) (ww : Nat → Int32) (xc : Nat → Int32) (lo : Nat → Int64) (hi : Nat → Int64) (ou : Nat → Int32) (xi : Nat → Int32) (N : Nat) (U : SSt) (x : Int32) (hG : GI st N rr np fk fn) (hRS : RS 0 N np fk U bb wt nx cx pt le sc ss ww xc) (hX : SX N np fk U) (hCI : CI (lo 0) (hi 0)) (hou : ouI no ou) (hen : en = false) (hb0 : bt = 0) (hbs : bt = s_bg U) (hnl : s_n U + 8 ≤ 2000) (hno : no ≤ 2992) : OM (S := {zq : (Nat → Int64) × (Nat → Int64) × (Nat) × (Nat → Int32) × (Nat → Int32) × (Nat → Int32) × (Nat → Int32) × (Nat → Int32) × (Nat → Int32) × (Nat → Int32) × (Nat → Int32) × (Nat → Int32) × (Nat → Int32) × (Nat → Int32) × (Int32) × (Int32) × (Int32) × (Int32) × (Int32) × (Int32) × (Nat → Int32) × (Nat) // (RS 0 N np fk (octN st N np fk fn fo x (U, lo 0, hi 0, no, ou) 8).1 zq.2.2.2.2.1 zq.2.2.2.2.2.1 zq.2.2.2.2.2.2.1 zq.2.2.2.2.2.2.2.1 zq.2.2.2.2.2.2.2.2.1 zq.2.2.2.2.2.2.2.2.2.1 zq.2.2.2.2.2.2.2.2.2.2.1 zq.2.2.2.2.2.2.2.2.2.2.2.1 zq.2.2.2.2.2.2.2.2.2.2.2.2.1 zq.2.2.2.2.2.2.2.2.2.2.2.2.2.1) ∧ (∀ s2 V, s2 < 2 → ¬ s2 = 0 → RS s2 N np fk V bb wt nx cx pt le sc ss ww xc → RS s2 N np fk V zq.2.2.2.2.1 zq.2.2.2.2.2.1 zq.2.2.2.2.2.2.1 zq.2.2.2.2.2.2.2.1 zq.2.2.2.2.2.2.2.2.1 zq.2.2.2.2.2.2.2.2.2.1 zq.2.2.2.2.2.2.2.2.2.2.1 zq.2.2.2.2.2.2.2.2.2.2.2.1 zq.2.2.2.2.2.2.2.2.2.2.2.2.1 zq.2.2.2.2.2.2.2.2.2.2.2.2.2.1) ∧ ((zq.1 0, zq.2.1 0, zq.2.2.1, zq.2.2.2.1) = (octN st N np fk fn fo x (U, lo 0, hi 0, no, ou) 8).2) ∧ (zq.1 1 = lo 1 ∧ zq.2.1 1 = hi 1) ∧ (zq.2.2.2.2.2.2.2.2.2.2.2.2.2.2.2.2.2.2.2.2.2 = s_bg (octN st N np fk fn fo x (U, lo 0, hi 0, no, ou) 8).1)}) l g yX11_octet cX11_octet 3 (some .int) ({ frames := 5, cells := 0, slots := 0, locals := 124 } : Room) [.ref (mo 0), .int x] (mdL g mo rr th np no bt en xx ra t0 t1 s1 ca cq ch st fk fn fo bb wt nx cx pt le sc ss ww xc lo hi ou xi) (fun zu => some (.int (nI zu.1.2.2.1))) (fun zu => (mdL g mo rr 0 np zu.1.2.2.1 zu.1.2.2.2.2.2.2.2.2.2.2.2.2.2.2.2.2.2.2.2.2.2 en xx ra zu.1.2.2.2.2.2.2.2.2.2.2.2.2.2.2.1 zu.1.2.2.2.2.2.2.2.2.2.2.2.2.2.2.2.1 zu.1.2.2.2.2.2.2.2.2.2.2.2.2.2.2.2.2.1 zu.1.2.2.2.2.2.2.2.2.2.2.2.2.2.2.2.2.2.1 zu.1.2.2.2.2.2.2.2.2.2.2.2.2.2.2.2.2.2.2.1 zu.1.2.2.2.2.2.2.2.2.2.2.2.2.2.2.2.2.2.2.2.1 st fk fn fo zu.1.2.2.2.2.1 zu.1.2.2.2.2.2.1 zu.1.2.2.2.2.2.2.1 zu.1.2.2.2.2.2.2.2.1 zu.1.2.2.2.2.2.2.2.2.1 zu.1.2.2.2.2.2.2.2.2.2.1 zu.1.2.2.2.2.2.2.2.2.2.2.1 zu.1.2.2.2.2.2.2.2.2.2.2.2.1 zu.1.2.2.2.2.2.2.2.2.2.2.2.2.1 zu.1.2.2.2.2.2.2.2.2.2.2.2.2.2.1 zu.1.1 zu.1.2.1 zu.1.2.2.2.1 zu.1.2.2.2.2.2.2.2.2.2.2.2.2.2.2.2.2.2.2.2.2.1)) := by
  refine OM.startQ (by decide) (Nat.le_of_ble_eq_true rfl) ?_
  intro p e s m below meth c A ls Q H locs hQ C hnm hl hT
  have hx := C.x
  have hb := C.b
  have hl : lv_has ls 3 [(0, .ref (mo 0)), (1, .int x)] := hl
  have hW0 : WI (N := N) (np := np) (fk := fk) (U, lo 0, hi 0, no, ou) (s_n U) no := ⟨hX, hCI, hou, Nat.le_refl _, Nat.le_refl _⟩
  refine lv_aload_n hx hb dX11_octet_0 rfl (lv_at hl 0 rfl) ?_
  refine lv_iconst (v := 0) hx hb dX11_octet_1 (by decide) ?_
  refine pX11_77 C hT (q0 := 0) rfl dX11_octet_2 (fun H locs hT => ?_)
  have hT : Wd g A s (mdL g mo rr 0 np no bt en xx ra t0 t1 s1 ca cq ch st fk fn fo bb wt nx cx pt le sc ss ww xc lo hi ou xi) H locs := hT
  refine lv_aload_n hx hb dX11_octet_5 rfl (lv_at hl 0 rfl) ?_
  refine gX11_110 C hT (q0 := 0) rfl dX11_octet_6 ?_
  refine lv_if_ne (tgt := 19) hx hb dX11_octet_9 (by decide) (fun h_1 => ?_) (fun h_1 => ?_)
  · skip
    exact absurd (b01_t h_1) (by rw [hen]; decide)
  · skip
    refine lv_aload_n hx hb dX11_octet_12 rfl (lv_at hl 0 rfl) ?_
    refine gX11_107 C hT (q0 := 0) rfl dX11_octet_13 ?_
    refine lv_if_le (tgt := 22) hx hb dX11_octet_16 (by decide) (fun h_2 => ?_) (fun h_2 => ?_)
    · skip
      refine lv_aload_n hx hb dX11_octet_22 rfl (lv_at hl 0 rfl) ?_
      have hM := c_X11_isFull l g mo rr 0 np no bt en xx ra t0 t1 s1 ca cq ch st fk fn fo bb wt nx cx pt le sc ss ww xc lo hi ou xi (s_n U) hRS.1.1 (by omega) hno
      refine r_callRO (js := [0, 1, 2, 3, 4, 5, 6, 7, 8, 9, 10, 11, 12, 13, 14, 15, 16, 17, 18]) C hT (runV (js := [0, 1, 2, 3, 4, 5, 6, 7, 8, 9, 10, 11, 12, 13, 14, 15, 16, 17, 18]) (rm := ({ frames := 0, cells := 0, slots := 0, locals := 0 } : Room)) (As := []) (n := 0) (q1 := 0) (rest := []) C hT hM rfl rfl k903 k905 s18 k15 k906 (by decide +kernel) rfl rfl rfl rfl (Nat.le_of_ble_eq_true rfl) hl.1 ⟨Nat.le_of_ble_eq_true rfl, Nat.le_of_ble_eq_true rfl⟩ ⟨Nat.le_of_ble_eq_true rfl, Nat.le_of_ble_eq_true rfl⟩ dX11_octet_23) rfl rfl (fun u H locs hT => ?_)
      refine W.eq (g2 := F0 m 26 ls [.int 0]) rfl ?_
      refine lv_if_eq (tgt := 32) hx hb dX11_octet_26 (by decide) (fun h_3 => ?_) (fun h_3 => ?_)
      · skip
        refine lv_bipush (v := 7) hx hb dX11_octet_32 (by decide) ?_
        refine lv_istore_n (lv' := [(2, .int 7), (0, .ref (mo 0)), (1, .int x)]) hx hb dX11_octet_34 rfl hl (by decide) rfl (fun ls hl => ?_)
        have loop_35 : ∀ (fu : Nat) (i : Nat) (vx2 : Int32) (U1 : SSt) (bb1 : Nat → Int32) (wt1 : Nat → Int32) (nx1 : Nat → Int32) (cx1 : Nat → Int32) (pt1 : Nat → Int32) (le1 : Nat → Int32) (sc1 : Nat → Int32) (ss1 : Nat → Int32) (ww1 : Nat → Int32) (xc1 : Nat → Int32) (t01 : Int32) (t11 : Int32) (s11 : Int32) (ca1 : Int32) (cq1 : Int32) (ch1 : Int32) (xi1 : Nat → Int32) (lo1 : Nat → Int64) (hi1 : Nat → Int64) (no1 : Nat) (ou1 : Nat → Int32) (bt1 : Nat) (H : Heap) (locs : List Loc) (ls : Array Slot) (hli : i ≤ 8) (vex2 : vx2 = 7 - nI i) (hE1 : octN st N np fk fn fo x (U, lo 0, hi 0, no, ou) i = (U1, lo1 0, hi1 0, no1, ou1)) (hR1 : RS 0 N np fk U1 bb1 wt1 nx1 cx1 pt1 le1 sc1 ss1 ww1 xc1) (hO1 : ∀ s2 V, s2 < 2 → ¬ s2 = 0 → RS s2 N np fk V bb wt nx cx pt le sc ss ww xc → RS s2 N np fk V bb1 wt1 nx1 cx1 pt1 le1 sc1 ss1 ww1 xc1) (hL1 : lo1 1 = lo 1 ∧ hi1 1 = hi 1) (hB1 : bt1 = s_bg U1) (hX1 : SX N np fk U1) (hC1 : CI (lo1 0) (hi1 0)) (hn1 : s_n U1 ≤ s_n U + i) (hno1 : no1 ≤ no + 4 * i), 8 - i < fu → Wd g A s (mdL g mo rr 0 np no1 bt1 en xx ra t01 t11 s11 ca1 cq1 ch1 st fk fn fo bb1 wt1 nx1 cx1 pt1 le1 sc1 ss1 ww1 xc1 lo1 hi1 ou1 xi1) H locs → lv_has ls 3 [(0, .ref (mo 0)), (1, .int x), (2, .int vx2)] → W p l e ({ frames := 5, cells := 0, slots := 0, locals := 124 } : Room) s m ([.ref (mo 0), .int x] : List Value).toArray below meth c H locs 0 0 Q (F0 m 35 ls []) := by
          intro fu
          induction fu with
          | zero => intro i vx2 U1 bb1 wt1 nx1 cx1 pt1 le1 sc1 ss1 ww1 xc1 t01 t11 s11 ca1 cq1 ch1 xi1 lo1 hi1 no1 ou1 bt1 H locs ls hli vex2 hE1 hR1 hO1 hL1 hB1 hX1 hC1 hn1 hno1 hm; exact absurd hm (Nat.not_lt_zero _)
          | succ fu ih =>
            intro i vx2 U1 bb1 wt1 nx1 cx1 pt1 le1 sc1 ss1 ww1 xc1 t01 t11 s11 ca1 cq1 ch1 xi1 lo1 hi1 no1 ou1 bt1 H locs ls hli vex2 hE1 hR1 hO1 hL1 hB1 hX1 hC1 hn1 hno1 hm hT hl
            refine lv_iload_n hx hb dX11_octet_35 rfl (lv_at hl 2 rfl) ?_
            refine lv_if_lt (tgt := 54) hx hb dX11_octet_36 (by decide) (fun h_4 => ?_) (fun h_4 => ?_)
            · skip
              have hin := oc_end hli vex2 h_4
              rw [hin] at hE1
              have hf1 : (octN st N np fk fn fo x (U, lo 0, hi 0, no, ou) 8).1 = U1 := by rw [hE1]
              have hf2 : (lo1 0, hi1 0, no1, ou1) = (octN st N np fk fn fo x (U, lo 0, hi 0, no, ou) 8).2 := by rw [hE1]
              refine lv_aload_n hx hb dX11_octet_54 rfl (lv_at hl 0 rfl) ?_
              refine gX11_104 C hT (q0 := 0) rfl dX11_octet_55 ?_
              have hT : Wd g A s (mdL g mo rr 0 np no1 bt1 en xx ra t01 t11 s11 ca1 cq1 ch1 st fk fn fo bb1 wt1 nx1 cx1 pt1 le1 sc1 ss1 ww1 xc1 lo1 hi1 ou1 xi1) H locs := hT
              exact e_iret C hQ ⟨(lo1, hi1, no1, ou1, bb1, wt1, nx1, cx1, pt1, le1, sc1, ss1, ww1, xc1, t01, t11, s11, ca1, cq1, ch1, xi1, bt1), (by rw [hf1]; exact hR1), hO1, hf2, hL1, (by rw [hf1]; exact hB1)⟩ hT (by rfl) dX11_octet_58
            · skip
              have hin := oc_go hli vex2 h_4
              refine lv_aload_n hx hb dX11_octet_39 rfl (lv_at hl 0 rfl) ?_
              refine lv_iload_n hx hb dX11_octet_40 rfl (lv_at hl 1 rfl) ?_
              refine lv_iload_n hx hb dX11_octet_41 rfl (lv_at hl 2 rfl) ?_
              refine lv_ishr hx hb dX11_octet_42 ?_
              refine lv_iconst (v := 1) hx hb dX11_octet_43 (by decide) ?_
              refine lv_iand hx hb dX11_octet_44 ?_
              refine W.eq (g2 := F0 m 45 ls [.int (bitI x (7 - i)), .ref (mo 0)]) (congrArg (fun z => F0 m 45 ls (.int z :: [.ref (mo 0)])) ((by rw [oc_bit hin vex2]; rfl))) ?_
              have hM := c_X11_writeBit l g mo rr 0 np no1 bt1 en xx ra t01 t11 s11 ca1 cq1 ch1 st fk fn fo bb1 wt1 nx1 cx1 pt1 le1 sc1 ss1 ww1 xc1 lo1 hi1 ou1 xi1 N U1 (bitI x (7 - i)) hG hR1 hX1 hC1 (bitI_01 _ _) (by omega) (by omega) (by have := hX1.1.2.2.1; omega)
              refine r_callW C hT (runVW (rm := ({ frames := 4, cells := 0, slots := 0, locals := 101 } : Room)) (As := [.int (bitI x (7 - i))]) (n := 1) (q1 := 0) (rest := []) C hT hM k907 k909 s19 k15 k910 (by decide +kernel) rfl rfl rfl rfl (Nat.le_of_ble_eq_true rfl) hl.1 ⟨Nat.le_of_ble_eq_true rfl, Nat.le_of_ble_eq_true rfl⟩ ⟨Nat.le_of_ble_eq_true rfl, Nat.le_of_ble_eq_true rfl⟩ dX11_octet_45) (fun u H locs hT => ?_)
              obtain ⟨⟨lo2_45, hi2_45, no2_45, ou2_45, bb2_45, wt2_45, nx2_45, cx2_45, pt2_45, le2_45, sc2_45, ss2_45, ww2_45, xc2_45, t02_45, t12_45, s12_45, ca2_45, cq2_45, ch2_45, xi2_45⟩, hRS_45, hOT_45, hno_45, hou_45, hlo_45, hhi_45⟩ := u
              replace hRS_45 : RS 0 N np fk (stepS st N np fk fn fo U1 (bitI x (7 - i))) bb2_45 wt2_45 nx2_45 cx2_45 pt2_45 le2_45 sc2_45 ss2_45 ww2_45 xc2_45 := hRS_45
              replace hOT_45 : ∀ s2 V, s2 < 2 → ¬ s2 = 0 → RS s2 N np fk V bb1 wt1 nx1 cx1 pt1 le1 sc1 ss1 ww1 xc1 → RS s2 N np fk V bb2_45 wt2_45 nx2_45 cx2_45 pt2_45 le2_45 sc2_45 ss2_45 ww2_45 xc2_45 := hOT_45
              replace hno_45 : no2_45 = (emF 4 (nLo (bitI x (7 - i)) (lo1 0) (mdS st N np fk fo U1 (lo1 0) (hi1 0))) (nHi (bitI x (7 - i)) (hi1 0) (mdS st N np fk fo U1 (lo1 0) (hi1 0))) no1 ou1).2.2.1 := hno_45
              replace hou_45 : ou2_45 = (emF 4 (nLo (bitI x (7 - i)) (lo1 0) (mdS st N np fk fo U1 (lo1 0) (hi1 0))) (nHi (bitI x (7 - i)) (hi1 0) (mdS st N np fk fo U1 (lo1 0) (hi1 0))) no1 ou1).2.2.2 := hou_45
              replace hlo_45 : lo2_45 0 = (emF 4 (nLo (bitI x (7 - i)) (lo1 0) (mdS st N np fk fo U1 (lo1 0) (hi1 0))) (nHi (bitI x (7 - i)) (hi1 0) (mdS st N np fk fo U1 (lo1 0) (hi1 0))) no1 ou1).1 ∧ lo2_45 1 = lo1 1 := hlo_45
              replace hhi_45 : hi2_45 0 = (emF 4 (nLo (bitI x (7 - i)) (lo1 0) (mdS st N np fk fo U1 (lo1 0) (hi1 0))) (nHi (bitI x (7 - i)) (hi1 0) (mdS st N np fk fo U1 (lo1 0) (hi1 0))) no1 ou1).2.1 ∧ hi2_45 1 = hi1 1 := hhi_45
              have hT : Wd g A s (mdL g mo rr 0 np no2_45 ((bt1 + 1) % 8) en xx ra t02_45 t12_45 s12_45 ca2_45 cq2_45 ch2_45 st fk fn fo bb2_45 wt2_45 nx2_45 cx2_45 pt2_45 le2_45 sc2_45 ss2_45 ww2_45 xc2_45 lo2_45 hi2_45 ou2_45 xi2_45) H locs := hT
              refine W.eq (g2 := F0 m 48 ls []) rfl ?_
              have hE2 := octN_s hE1
              have hW2 := WI_oct (fo := fo) (b := x) hG hW0 (i + 1) (by omega)
              rw [hE2] at hW2
              replace hE2 : octN st N np fk fn fo x (U, lo 0, hi 0, no, ou) (i + 1) = (stepS st N np fk fn fo U1 (bitI x (7 - i)), lo2_45 0, hi2_45 0, no2_45, ou2_45) := by rw [hE2, hlo_45.1, hhi_45.1, hno_45, hou_45]
              obtain ⟨x_5, ex_5⟩ : ∃ y : Int32, y = vx2 + (-1) := ⟨_, rfl⟩
              refine lv_iinc (v := x_5) (lv' := [(2, .int x_5), (0, .ref (mo 0)), (1, .int x)]) hx hb dX11_octet_48 hl (k := 2) rfl (by rw [ex_5]; rfl) (by decide) rfl (fun ls hl => ?_)
              refine lv_goto (tgt := 35) hx hb dX11_octet_51 (by decide) ?_
              exact ih (i + 1) x_5 (stepS st N np fk fn fo U1 (bitI x (7 - i))) bb2_45 wt2_45 nx2_45 cx2_45 pt2_45 le2_45 sc2_45 ss2_45 ww2_45 xc2_45 t02_45 t12_45 s12_45 ca2_45 cq2_45 ch2_45 xi2_45 lo2_45 hi2_45 no2_45 ou2_45 ((bt1 + 1) % 8) H locs ls hin (by rw [ex_5, vex2]; exact oc_dn i) hE2 hRS_45 (fun s2 V h2 hne h => hOT_45 s2 V h2 hne (hO1 s2 V h2 hne h)) ⟨hlo_45.2.trans hL1.1, hhi_45.2.trans hL1.2⟩ (by rw [hB1]; exact bt_step hX1.1.2.2.1) (SX_step hG hX1 (by omega)) (by rw [hlo_45.1, hhi_45.1]; exact hW2.2.1) (by have h9 := n_step (st := st) (N := N) (np := np) (fk := fk) (fn := fn) (fo := fo) (U := U1) (on := bitI x (7 - i)); omega) (by rw [hno_45]; exact hW2.2.2.2.2) (by omega) hT (lv_sub hl [1, 2, 0] rfl)
        exact loop_35 (8 - 0 + 1) 0 7 U bb wt nx cx pt le sc ss ww xc t0 t1 s1 ca cq ch xi lo hi no ou bt H locs ls (by decide) (by decide) rfl hRS (fun s2 V _ _ h => h) ⟨rfl, rfl⟩ hbs hX hCI (by omega) (by omega) (Nat.lt_succ_self _) hT (lv_sub hl [1, 2, 0] rfl)
      · skip
        exact absurd (by decide) h_3
    · skip
      exact absurd (by rw [hb0]; decide) h_2
