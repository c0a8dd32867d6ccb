set_option maxHeartbeats 400000 in
set_option maxRecDepth 100000 in
theorem c_X11_end (l : Launch) (g : GT) (mo : Nat → Nat) (rr : Nat) (th : Int32) (np : Nat) (no : Nat) (bt : Nat) (en : Bool) (xx : Int64) (ra : Nat) (t0 : Int32) (t1 : Int32) (s1 : Int32) (ca : Int32) (cq : Int32) (ch : Int32) (st : Nat → Int32) (fk : Nat → Int32) (fn : Nat → Int32) (fo : Nat → Int32) (bb : Nat → Int32) (wt : Nat → Int32) (nx : Nat → Int32) (cx : Nat → Int32) (pt : Nat → Int32) (le : Nat → Int32) (sc : Nat → Int32) (ss : Nat → Int32) (ww : Nat → Int32) (xc : Nat → Int32) (lo : Nat → Int64) (hi : Nat → Int64) (ou : Nat → Int32) (xi : Nat → Int32) (hen : en = false) (hCI : CI (lo 0) (hi 0)) (hno : no + 4 ≤ 3200) (hou : ouI no ou) : OM (S := Unit) l g yX11_end cX11_end 2 (some .int) ({ frames := 2, cells := 0, slots := 0, locals := 42 } : Room) [.ref (mo 0)] (mdL g mo rr th np no bt en xx ra t0 t1 s1 ca cq ch st fk fn fo bb wt nx cx pt le sc ss ww xc lo hi ou xi) (fun _ => some (.int (nI (no + 4)))) (fun _ => (mdL g mo rr 0 np (no + 4) bt true (tkC (no + 4) (eOu (lo 0) no ou 4) 4) 4 t0 t1 s1 ca cq ch st fk fn fo bb wt nx cx pt le sc ss ww xc lo hi (eOu (lo 0) no ou 4) xi)) := by
  refine OM.startQ (by decide) (Nat.le_of_ble_eq_true rfl) ?_
  intro p e s m below meth c A ls Q H locs hQ C hnm hl hT
  have hx := C.x
  have hb := C.b
  have hl : lv_has ls 2 [(0, .ref (mo 0))] := hl
  refine lv_aload_n hx hb dX11_end_0 rfl (lv_at hl 0 rfl) ?_
  refine lv_iconst (v := 0) hx hb dX11_end_1 (by decide) ?_
  refine pX11_77 C hT (q0 := 0) rfl dX11_end_2 (fun H locs hT => ?_)
  have hT : Wd g A s (mdL g mo rr 0 np no bt en xx ra t0 t1 s1 ca cq ch st fk fn fo bb wt nx cx pt le sc ss ww xc lo hi ou xi) H locs := hT
  refine lv_aload_n hx hb dX11_end_5 rfl (lv_at hl 0 rfl) ?_
  refine gX11_110 C hT (q0 := 0) rfl dX11_end_6 ?_
  refine lv_if_eq (tgt := 15) hx hb dX11_end_9 (by decide) (fun h_1 => ?_) (fun h_1 => ?_)
  · skip
    refine lv_bipush (v := 24) hx hb dX11_end_15 (by decide) ?_
    refine lv_istore_n (lv' := [(1, .int 24), (0, .ref (mo 0))]) hx hb dX11_end_17 rfl hl (by decide) rfl (fun ls hl => ?_)
    have loop_18 : ∀ (fu : Nat) (i : Nat) (vx1 : Int32) (no1 : Nat) (ou1 : Nat → Int32) (H : Heap) (locs : List Loc) (ls : Array Slot) (hli : i ≤ 4) (vex1 : vx1 = 24 - 8 * nI i) (hn1 : no1 = no + i) (ho1 : ou1 = eOu (lo 0) no ou i), 4 - i < fu → Wd g A s (mdL g mo rr 0 np no1 bt en xx ra t0 t1 s1 ca cq ch st fk fn fo bb wt nx cx pt le sc ss ww xc lo hi ou1 xi) H locs → lv_has ls 2 [(0, .ref (mo 0)), (1, .int vx1)] → W p l e ({ frames := 2, cells := 0, slots := 0, locals := 42 } : Room) s m ([.ref (mo 0)] : List Value).toArray below meth c H locs 0 0 Q (F0 m 18 ls []) := by
      intro fu
      induction fu with
      | zero => intro i vx1 no1 ou1 H locs ls hli vex1 hn1 ho1 hm; exact absurd hm (Nat.not_lt_zero _)
      | succ fu ih =>
        intro i vx1 no1 ou1 H locs ls hli vex1 hn1 ho1 hm hT hl
        refine lv_iload_n hx hb dX11_end_18 rfl (lv_at hl 1 rfl) ?_
        refine lv_if_lt (tgt := 60) hx hb dX11_end_19 (by decide) (fun h_2 => ?_) (fun h_2 => ?_)
        · skip
          have hin := en_end hli vex1 h_2
          rw [hin] at hn1 ho1
          rw [hn1, ho1] at hT
          refine lv_aload_n hx hb dX11_end_60 rfl (lv_at hl 0 rfl) ?_
          have hT : Wd g A s (mdL g mo rr 0 np (no + 4) bt en xx ra t0 t1 s1 ca cq ch st fk fn fo bb wt nx cx pt le sc ss ww xc lo hi (eOu (lo 0) no ou 4) xi) H locs := hT
          refine lv_iconst (v := 1) hx hb dX11_end_61 (by decide) ?_
          refine pX11_110 C hT (q0 := 0) rfl (by decide) dX11_end_62 (fun H locs hT => ?_)
          have hT : Wd g A s (mdL g mo rr 0 np (no + 4) bt true xx ra t0 t1 s1 ca cq ch st fk fn fo bb wt nx cx pt le sc ss ww xc lo hi (eOu (lo 0) no ou 4) xi) H locs := hT
          refine lv_aload_n hx hb dX11_end_65 rfl (lv_at hl 0 rfl) ?_
          have hM := c_X11_loadX l g mo rr 0 np (no + 4) bt true xx ra t0 t1 s1 ca cq ch st fk fn fo bb wt nx cx pt le sc ss ww xc lo hi (eOu (lo 0) no ou 4) xi hno (eOu_I _ hou 4)
          refine r_callW C hT (runVW (rm := ({ frames := 1, cells := 0, slots := 0, locals := 21 } : Room)) (As := []) (n := 0) (q1 := 0) (rest := []) C hT hM k954 k956 s26 k15 k957 (by decide +kernel) rfl rfl rfl rfl (Nat.le_of_ble_eq_true rfl) hl.1 ⟨Nat.le_of_ble_eq_true rfl, Nat.le_of_ble_eq_true rfl⟩ ⟨Nat.le_of_ble_eq_true rfl, Nat.le_of_ble_eq_true rfl⟩ dX11_end_66) (fun u H locs hT => ?_)
          have hT : Wd g A s (mdL g mo rr 0 np (no + 4) bt true (tkC (no + 4) (eOu (lo 0) no ou 4) 4) 4 t0 t1 s1 ca cq ch st fk fn fo bb wt nx cx pt le sc ss ww xc lo hi (eOu (lo 0) no ou 4) xi) H locs := hT
          refine W.eq (g2 := F0 m 69 ls []) rfl ?_
          refine lv_aload_n hx hb dX11_end_69 rfl (lv_at hl 0 rfl) ?_
          refine gX11_104 C hT (q0 := 0) rfl dX11_end_70 ?_
          exact e_iret C hQ () hT rfl dX11_end_73
        · skip
          have hin := en_go hli vex1 h_2
          refine lv_aload_n hx hb dX11_end_22 rfl (lv_at hl 0 rfl) ?_
          refine gX11_60 C hT (q0 := 0) rfl dX11_end_23 ?_
          refine lv_aload_n hx hb dX11_end_26 rfl (lv_at hl 0 rfl) ?_
          refine gX11_104 C hT (q0 := 0) rfl dX11_end_27 ?_
          refine lv_aload_n hx hb dX11_end_30 rfl (lv_at hl 0 rfl) ?_
          refine gX11_53 C hT (q0 := 0) rfl dX11_end_31 ?_
          refine lv_iconst (v := 0) hx hb dX11_end_34 (by decide) ?_
          refine r_lald C hT (q0 := 15) rfl 0 rfl (by decide) (by decide) dX11_end_35 ?_
          refine lv_iload_n hx hb dX11_end_36 rfl (lv_at hl 1 rfl) ?_
          refine lv_lshr hx hb dX11_end_37 rfl ?_
          refine lv_l2i hx hb dX11_end_38 rfl ?_
          refine lv_sipush (v := 255) hx hb dX11_end_39 (by decide) ?_
          refine lv_iand hx hb dX11_end_42 ?_
          refine W.eq (g2 := F0 m 43 ls [.int (topB (eLo (lo 0) i)), .int (nI no1), .ref (mo 17)]) (congrArg (fun z => F0 m 43 ls (.int z :: [.int (nI no1), .ref (mo 17)])) (end_R hCI hin vex1)) ?_
          refine r_iast C hT (q0 := 17) rfl no1 rfl (by omega) (by decide) dX11_end_43 (fun H locs hT => ?_)
          have hT : Wd g A s (mdL g mo rr 0 np no1 bt en xx ra t0 t1 s1 ca cq ch st fk fn fo bb wt nx cx pt le sc ss ww xc lo hi (upd ou1 no1 (topB (eLo (lo 0) i))) xi) H locs := hT
          refine lv_aload_n hx hb dX11_end_44 rfl (lv_at hl 0 rfl) ?_
          refine lv_dup hx hb dX11_end_45 rfl ?_
          refine gX11_104 C hT (q0 := 0) rfl dX11_end_46 ?_
          refine lv_iconst (v := 1) hx hb dX11_end_49 (by decide) ?_
          refine lv_iadd hx hb dX11_end_50 ?_
          refine W.eq (g2 := F0 m 51 ls [.int (nI (no1 + 1)), .ref (mo 0)]) (congrArg (fun z => F0 m 51 ls (.int z :: [.ref (mo 0)])) (nI_1 no1)) ?_
          refine pX11_104 C hT (q0 := 0) rfl dX11_end_51 (fun H locs hT => ?_)
          have hT : Wd g A s (mdL g mo rr 0 np (no1 + 1) bt en xx ra t0 t1 s1 ca cq ch st fk fn fo bb wt nx cx pt le sc ss ww xc lo hi (upd ou1 no1 (topB (eLo (lo 0) i))) xi) H locs := hT
          obtain ⟨x_3, ex_3⟩ : ∃ y : Int32, y = vx1 + (-8) := ⟨_, rfl⟩
          refine lv_iinc (v := x_3) (lv' := [(1, .int x_3), (0, .ref (mo 0))]) hx hb dX11_end_54 hl (k := 1) rfl (by rw [ex_3]; rfl) (by decide) rfl (fun ls hl => ?_)
          refine lv_goto (tgt := 18) hx hb dX11_end_57 (by decide) ?_
          exact ih (i + 1) x_3 (no1 + 1) (upd ou1 no1 (topB (eLo (lo 0) i))) H locs ls hin (by rw [ex_3, vex1]; exact en_dn i) (by omega) (by rw [ho1, hn1]; rfl) (by omega) hT (lv_sub hl [1, 0] rfl)
    exact loop_18 (4 - 0 + 1) 0 24 no ou H locs ls (by decide) (by decide) rfl rfl (Nat.lt_succ_self _) hT (lv_sub hl [1, 0] rfl)
  · skip
    exact absurd (b01_t h_1) (by rw [hen]; decide)

set_option maxHeartbeats 400000 in
set_option maxRecDepth 100000 in
theorem c_X11_get_s (l : Launch) (g : GT) (mo : Nat → Nat) (rr : Nat) (th : Int32) (np : Nat) (no : Nat) (bt : Nat) (en : Bool) (xx : Int64) (ra : Nat) (t0 : Int32) (t1 : Int32) (s1 : Int32) (ca : Int32) (cq : Int32) (ch : Int32) (st : Nat → Int32) (fk : Nat → Int32) (fn : Nat → Int32) (fo : Nat → Int32) (bb : Nat → Int32) (wt : Nat → Int32) (nx : Nat → Int32) (cx : Nat → Int32) (pt : Nat → Int32) (le : Nat → Int32) (sc : Nat → Int32) (ss : Nat → Int32) (ww : Nat → Int32) (xc : Nat → Int32) (lo : Nat → Int64) (hi : Nat → Int64) (ou : Nat → Int32) (xi : Nat → Int32) (hen : en = false) : OM (S := Unit) l g yX11_get cX11_get 5 (some .int) ({ frames := 0, cells := 0, slots := 0, locals := 0 } : Room) [.ref (mo 0)] (mdL g mo rr th np no bt en xx ra t0 t1 s1 ca cq ch st fk fn fo bb wt nx cx pt le sc ss ww xc lo hi ou xi) (fun _ => some (.int (-4))) (fun _ => (mdL g mo rr 0 np no bt en xx ra t0 t1 s1 ca cq ch st fk fn fo bb wt nx cx pt le sc ss ww xc lo hi ou xi)) := by
  refine OM.startQ (by decide) (Nat.le_of_ble_eq_true rfl) ?_
  intro p e s m below meth c A ls Q H locs hQ C hnm hl hT
  have hx := C.x
  have hb := C.b
  have hl : lv_has ls 5 [(0, .ref (mo 0))] := hl
  refine lv_aload_n hx hb dX11_get_0 rfl (lv_at hl 0 rfl) ?_
  refine lv_iconst (v := 0) hx hb dX11_get_1 (by decide) ?_
  refine pX11_77 C hT (q0 := 0) rfl dX11_get_2 (fun H locs hT => ?_)
  have hT : Wd g A s (mdL g mo rr 0 np no bt en xx ra t0 t1 s1 ca cq ch st fk fn fo bb wt nx cx pt le sc ss ww xc lo hi ou xi) H locs := hT
  refine lv_aload_n hx hb dX11_get_5 rfl (lv_at hl 0 rfl) ?_
  refine gX11_110 C hT (q0 := 0) rfl dX11_get_6 ?_
  refine lv_if_ne (tgt := 15) hx hb dX11_get_9 (by decide) (fun h_1 => ?_) (fun h_1 => ?_)
  · skip
    exact absurd (b01_t h_1) (by rw [hen]; decide)
  · skip
    refine lv_bipush (v := (-4)) hx hb dX11_get_12 (by decide) ?_
    exact e_iret C hQ () hT rfl dX11_get_14

set_option maxHeartbeats 400000 in
set_option maxRecDepth 100000 in
theorem c_X11_get_n (l : Launch) (g : GT) (mo : Nat → Nat) (rr : Nat) (th : Int32) (np : Nat) (no : Nat) (bt : Nat) (en : Bool) (xx : Int64) (ra : Nat) (t0 : Int32) (t1 : Int32) (s1 : Int32) (ca : Int32) (cq : Int32) (ch : Int32) (st : Nat → Int32) (fk : Nat → Int32) (fn : Nat → Int32) (fo : Nat → Int32) (bb : Nat → Int32) (wt : Nat → Int32) (nx : Nat → Int32) (cx : Nat → Int32) (pt : Nat → Int32) (le : Nat → Int32) (sc : Nat → Int32) (ss : Nat → Int32) (ww : Nat → Int32) (xc : Nat → Int32) (lo : Nat → Int64) (hi : Nat → Int64) (ou : Nat → Int32) (xi : Nat → Int32) (n : Nat) (n2 : Nat) (hen : en = true) (hw0 : wt 0 = nI n) (hw1 : wt 1 = nI n2) (hn : n ≤ n2) (hn2 : n2 ≤ 2000) : OM (S := Unit) l g yX11_get cX11_get 5 (some .int) ({ frames := 0, cells := 0, slots := 0, locals := 0 } : Room) [.ref (mo 0)] (mdL g mo rr th np no bt en xx ra t0 t1 s1 ca cq ch st fk fn fo bb wt nx cx pt le sc ss ww xc lo hi ou xi) (fun _ => some (.int (-2))) (fun _ => (mdL g mo rr 0 np no bt en xx ra t0 t1 s1 ca cq ch st fk fn fo bb wt nx cx pt le sc ss ww xc lo hi ou xi)) := by
  refine OM.startQ (by decide) (Nat.le_of_ble_eq_true rfl) ?_
  intro p e s m below meth c A ls Q H locs hQ C hnm hl hT
  have hx := C.x
  have hb := C.b
  have hl : lv_has ls 5 [(0, .ref (mo 0))] := hl
  refine lv_aload_n hx hb dX11_get_0 rfl (lv_at hl 0 rfl) ?_
  refine lv_iconst (v := 0) hx hb dX11_get_1 (by decide) ?_
  refine pX11_77 C hT (q0 := 0) rfl dX11_get_2 (fun H locs hT => ?_)
  have hT : Wd g A s (mdL g mo rr 0 np no bt en xx ra t0 t1 s1 ca cq ch st fk fn fo bb wt nx cx pt le sc ss ww xc lo hi ou xi) H locs := hT
  refine lv_aload_n hx hb dX11_get_5 rfl (lv_at hl 0 rfl) ?_
  refine gX11_110 C hT (q0 := 0) rfl dX11_get_6 ?_
  refine lv_if_ne (tgt := 15) hx hb dX11_get_9 (by decide) (fun h_1 => ?_) (fun h_1 => ?_)
  · skip
    refine lv_aload_n hx hb dX11_get_15 rfl (lv_at hl 0 rfl) ?_
    refine gX11_26 C hT (q0 := 0) rfl dX11_get_16 ?_
    refine lv_iconst (v := 1) hx hb dX11_get_19 (by decide) ?_
    refine r_iald C hT (q0 := 6) rfl 1 rfl (by decide) (by decide) dX11_get_20 ?_
    refine W.eq (g2 := F0 m 21 ls [.int (nI n2)]) (congrArg (fun z => F0 m 21 ls (.int z :: [])) (hw1)) ?_
    refine lv_aload_n hx hb dX11_get_21 rfl (lv_at hl 0 rfl) ?_
    refine gX11_26 C hT (q0 := 0) rfl dX11_get_22 ?_
    refine lv_iconst (v := 0) hx hb dX11_get_25 (by decide) ?_
    refine r_iald C hT (q0 := 6) rfl 0 rfl (by decide) (by decide) dX11_get_26 ?_
    refine W.eq (g2 := F0 m 27 ls [.int (nI n), .int (nI n2)]) (congrArg (fun z => F0 m 27 ls (.int z :: [.int (nI n2)])) (hw0)) ?_
    refine lv_icmp_lt (tgt := 33) hx hb dX11_get_27 (by decide) (fun h_2 => ?_) (fun h_2 => ?_)
    · skip
      exact absurd h_2 (fun q => by have := (nI_ltI (by omega) (by omega)).mp q; omega)
    · skip
      refine lv_bipush (v := (-2)) hx hb dX11_get_30 (by decide) ?_
      exact e_iret C hQ () hT rfl dX11_get_32
  · skip
    exact absurd (b01_f h_1) (by rw [hen]; decide)

set_option maxHeartbeats 400000 in
set_option maxRecDepth 100000 in
theorem c_X11_get (l : Launch) (g : GT) (mo : Nat → Nat) (rr : Nat) (th : Int32) (np : Nat) (no : Nat) (bt : Nat) (en : Bool) (xx : Int64) (ra : Nat) (t0 : Int32) (t1 : Int32) (s1 : Int32) (ca : Int32) (cq : Int32) (ch : Int32) (st : Nat → Int32) (fk : Nat → Int32) (fn : Nat → Int32) (fo : Nat → Int32) (bb : Nat → Int32) (wt : Nat → Int32) (nx : Nat → Int32) (cx : Nat → Int32) (pt : Nat → Int32) (le : Nat → Int32) (sc : Nat → Int32) (ss : Nat → Int32) (ww : Nat → Int32) (xc : Nat → Int32) (lo : Nat → Int64) (hi : Nat → Int64) (ou : Nat → Int32) (xi : Nat → Int32) (N : Nat) (V : SSt) (n : Nat) (hG : GI st N rr np fk fn) (hRS : RS 1 N np fk V bb wt nx cx pt le sc ss ww xc) (hX : SX N np fk V) (hCI : CI (lo 1) (hi 1)) (hen : en = true) (hw0 : wt 0 = nI n) (hn : s_n V < n) (hn2 : n ≤ 2000) (hnl : s_n V + 8 ≤ 2000) (hno : no ≤ 3200) (hra : ra + 32 < 2 ^ 20) : OM (S := {zq : (Nat → Int64) × (Nat → Int64) × (Int64) × (Nat) × (Nat → Int32) × (Nat → Int32) × (Nat → Int32) × (Nat → Int32) × (Nat → Int32) × (Nat → Int32) × (Nat → Int32) × (Nat → Int32) × (Nat → Int32) × (Nat → Int32) × (Int32) × (Int32) × (Int32) × (Int32) × (Int32) × (Int32) × (Nat → Int32) // (RS 1 N np fk (rdN st N np fk fn fo no ou (V, lo 1, hi 1, xx, ra) 8).1 zq.2.2.2.2.1 zq.2.2.2.2.2.1 zq.2.2.2.2.2.2.1 zq.2.2.2.2.2.2.2.1 zq.2.2.2.2.2.2.2.2.1 zq.2.2.2.2.2.2.2.2.2.1 zq.2.2.2.2.2.2.2.2.2.2.1 zq.2.2.2.2.2.2.2.2.2.2.2.1 zq.2.2.2.2.2.2.2.2.2.2.2.2.1 zq.2.2.2.2.2.2.2.2.2.2.2.2.2.1) ∧ (∀ s2 V, s2 < 2 → ¬ s2 = 1 → RS s2 N np fk V bb wt nx cx pt le sc ss ww xc → RS s2 N np fk V zq.2.2.2.2.1 zq.2.2.2.2.2.1 zq.2.2.2.2.2.2.1 zq.2.2.2.2.2.2.2.1 zq.2.2.2.2.2.2.2.2.1 zq.2.2.2.2.2.2.2.2.2.1 zq.2.2.2.2.2.2.2.2.2.2.1 zq.2.2.2.2.2.2.2.2.2.2.2.1 zq.2.2.2.2.2.2.2.2.2.2.2.2.1 zq.2.2.2.2.2.2.2.2.2.2.2.2.2.1) ∧ ((zq.1 1, zq.2.1 1, zq.2.2.1, zq.2.2.2.1) = (rdN st N np fk fn fo no ou (V, lo 1, hi 1, xx, ra) 8).2) ∧ (zq.1 0 = lo 0 ∧ zq.2.1 0 = hi 0)}) l g yX11_get cX11_get 5 (some .int) ({ frames := 4, cells := 0, slots := 0, locals := 101 } : Room) [.ref (mo 0)] (mdL g mo rr th np no bt en xx ra t0 t1 s1 ca cq ch st fk fn fo bb wt nx cx pt le sc ss ww xc lo hi ou xi) (fun zu => some (.int (backN (s_f (rdN st N np fk fn fo no ou (V, lo 1, hi 1, xx, ra) 8).1) (s_n (rdN st N np fk fn fo no ou (V, lo 1, hi 1, xx, ra) 8).1) 1))) (fun zu => (mdL g mo rr 0 np no bt en zu.1.2.2.1 zu.1.2.2.2.1 zu.1.2.2.2.2.2.2.2.2.2.2.2.2.2.2.1 zu.1.2.2.2.2.2.2.2.2.2.2.2.2.2.2.2.1 zu.1.2.2.2.2.2.2.2.2.2.2.2.2.2.2.2.2.1 zu.1.2.2.2.2.2.2.2.2.2.2.2.2.2.2.2.2.2.1 zu.1.2.2.2.2.2.2.2.2.2.2.2.2.2.2.2.2.2.2.1 zu.1.2.2.2.2.2.2.2.2.2.2.2.2.2.2.2.2.2.2.2.1 st fk fn fo zu.1.2.2.2.2.1 zu.1.2.2.2.2.2.1 zu.1.2.2.2.2.2.2.1 zu.1.2.2.2.2.2.2.2.1 zu.1.2.2.2.2.2.2.2.2.1 zu.1.2.2.2.2.2.2.2.2.2.1 zu.1.2.2.2.2.2.2.2.2.2.2.1 zu.1.2.2.2.2.2.2.2.2.2.2.2.1 zu.1.2.2.2.2.2.2.2.2.2.2.2.2.1 zu.1.2.2.2.2.2.2.2.2.2.2.2.2.2.1 zu.1.1 zu.1.2.1 ou zu.1.2.2.2.2.2.2.2.2.2.2.2.2.2.2.2.2.2.2.2.2)) := by
  refine OM.startQ (by decide) (Nat.le_of_ble_eq_true rfl) ?_
  intro p e s m below meth c A ls Q H locs hQ C hnm hl hT
  have hx := C.x
  have hb := C.b
  have hl : lv_has ls 5 [(0, .ref (mo 0))] := hl
  have hD0 : DI (N := N) (np := np) (fk := fk) (V, lo 1, hi 1, xx, ra) (s_n V) ra := ⟨hX, hCI, Nat.le_refl _, Nat.le_refl _⟩
  have hw1 := hRS.1.1
  refine lv_aload_n hx hb dX11_get_0 rfl (lv_at hl 0 rfl) ?_
  refine lv_iconst (v := 0) hx hb dX11_get_1 (by decide) ?_
  refine pX11_77 C hT (q0 := 0) rfl dX11_get_2 (fun H locs hT => ?_)
  have hT : Wd g A s (mdL g mo rr 0 np no bt en xx ra t0 t1 s1 ca cq ch st fk fn fo bb wt nx cx pt le sc ss ww xc lo hi ou xi) H locs := hT
  refine lv_aload_n hx hb dX11_get_5 rfl (lv_at hl 0 rfl) ?_
  refine gX11_110 C hT (q0 := 0) rfl dX11_get_6 ?_
  refine lv_if_ne (tgt := 15) hx hb dX11_get_9 (by decide) (fun h_1 => ?_) (fun h_1 => ?_)
  · skip
    refine lv_aload_n hx hb dX11_get_15 rfl (lv_at hl 0 rfl) ?_
    refine gX11_26 C hT (q0 := 0) rfl dX11_get_16 ?_
    refine lv_iconst (v := 1) hx hb dX11_get_19 (by decide) ?_
    refine r_iald C hT (q0 := 6) rfl 1 rfl (by decide) (by decide) dX11_get_20 ?_
    refine W.eq (g2 := F0 m 21 ls [.int (nI (s_n V))]) (congrArg (fun z => F0 m 21 ls (.int z :: [])) (hw1)) ?_
    refine lv_aload_n hx hb dX11_get_21 rfl (lv_at hl 0 rfl) ?_
    refine gX11_26 C hT (q0 := 0) rfl dX11_get_22 ?_
    refine lv_iconst (v := 0) hx hb dX11_get_25 (by decide) ?_
    refine r_iald C hT (q0 := 6) rfl 0 rfl (by decide) (by decide) dX11_get_26 ?_
    refine W.eq (g2 := F0 m 27 ls [.int (nI n), .int (nI (s_n V))]) (congrArg (fun z => F0 m 27 ls (.int z :: [.int (nI (s_n V))])) (hw0)) ?_
    refine lv_icmp_lt (tgt := 33) hx hb dX11_get_27 (by decide) (fun h_2 => ?_) (fun h_2 => ?_)
    · skip
      refine lv_iconst (v := 0) hx hb dX11_get_33 (by decide) ?_
      refine lv_istore_n (lv' := [(1, .int 0), (0, .ref (mo 0))]) hx hb dX11_get_34 rfl hl (by decide) rfl (fun ls hl => ?_)
      have loop_35 : ∀ (fu : Nat) (i : Nat) (vx1 : Int32) (V1 : SSt) (bb1 : Nat → Int32) (wt1 : Nat → Int32) (nx1 : Nat → Int32) (cx1 : Nat → Int32) (pt1 : Nat → Int32) (le1 : Nat → Int32) (sc1 : Nat → Int32) (ss1 : Nat → Int32) (ww1 : Nat → Int32) (xc1 : Nat → Int32) (t01 : Int32) (t11 : Int32) (s11 : Int32) (ca1 : Int32) (cq1 : Int32) (ch1 : Int32) (xi1 : Nat → Int32) (lo1 : Nat → Int64) (hi1 : Nat → Int64) (xx1 : Int64) (ra1 : Nat) (H : Heap) (locs : List Loc) (ls : Array Slot) (hli : i ≤ 8) (vex1 : vx1 = nI i) (hE1 : rdN st N np fk fn fo no ou (V, lo 1, hi 1, xx, ra) i = (V1, lo1 1, hi1 1, xx1, ra1)) (hR1 : RS 1 N np fk V1 bb1 wt1 nx1 cx1 pt1 le1 sc1 ss1 ww1 xc1) (hO1 : ∀ s2 V, s2 < 2 → ¬ s2 = 1 → RS s2 N np fk V bb wt nx cx pt le sc ss ww xc → RS s2 N np fk V bb1 wt1 nx1 cx1 pt1 le1 sc1 ss1 ww1 xc1) (hL1 : lo1 0 = lo 0 ∧ hi1 0 = hi 0), 8 - i < fu → Wd g A s (mdL g mo rr 0 np no bt en xx1 ra1 t01 t11 s11 ca1 cq1 ch1 st fk fn fo bb1 wt1 nx1 cx1 pt1 le1 sc1 ss1 ww1 xc1 lo1 hi1 ou xi1) H locs → lv_has ls 5 [(0, .ref (mo 0)), (1, .int vx1)] → W p l e ({ frames := 4, cells := 0, slots := 0, locals := 101 } : Room) s m ([.ref (mo 0)] : List Value).toArray below meth c H locs 0 0 Q (F0 m 35 ls []) := by
        intro fu
        induction fu with
        | zero => intro i vx1 V1 bb1 wt1 nx1 cx1 pt1 le1 sc1 ss1 ww1 xc1 t01 t11 s11 ca1 cq1 ch1 xi1 lo1 hi1 xx1 ra1 H locs ls hli vex1 hE1 hR1 hO1 hL1 hm; exact absurd hm (Nat.not_lt_zero _)
        | succ fu ih =>
          intro i vx1 V1 bb1 wt1 nx1 cx1 pt1 le1 sc1 ss1 ww1 xc1 t01 t11 s11 ca1 cq1 ch1 xi1 lo1 hi1 xx1 ra1 H locs ls hli vex1 hE1 hR1 hO1 hL1 hm hT hl
          refine lv_iload_n hx hb dX11_get_35 rfl (lv_at hl 1 rfl) ?_
          refine lv_bipush (v := 8) hx hb dX11_get_36 (by decide) ?_
          refine lv_icmp_ge (tgt := 219) hx hb dX11_get_38 (by decide) (fun h_3 => ?_) (fun h_3 => ?_)
          · skip
            have hin := lp_end (n := 8) vex1 (by decide) hli h_3
            rw [hin] at hE1
            have hf1 : (rdN st N np fk fn fo no ou (V, lo 1, hi 1, xx, ra) 8).1 = V1 := by rw [hE1]
            have hf2 : (lo1 1, hi1 1, xx1, ra1) = (rdN st N np fk fn fo no ou (V, lo 1, hi 1, xx, ra) 8).2 := by rw [hE1]
            have hI1 := DI_rd (fo := fo) (no := no) (ou := ou) hG hD0 8 (by omega)
            rw [hE1] at hI1
            have hx9 := hI1.1.1
            refine lv_aload_n hx hb dX11_get_219 rfl (lv_at hl 0 rfl) ?_
            refine lv_iconst (v := 1) hx hb dX11_get_220 (by decide) ?_
            refine W.eq (g2 := F0 m 221 ls [.int (nI 1), .ref (mo 0)]) (congrArg (fun z => F0 m 221 ls (.int z :: [.ref (mo 0)])) (rfl)) ?_
            refine lv_iconst (v := 1) hx hb dX11_get_221 (by decide) ?_
            refine W.eq (g2 := F0 m 222 ls [.int (nI 1), .int (nI 1), .ref (mo 0)]) (congrArg (fun z => F0 m 222 ls (.int z :: [.int (nI 1), .ref (mo 0)])) (rfl)) ?_
            have hM := c_X11_latest l g mo rr 0 np no bt en xx1 ra1 t01 t11 s11 ca1 cq1 ch1 st fk fn fo bb1 wt1 nx1 cx1 pt1 le1 sc1 ss1 ww1 xc1 lo1 hi1 ou xi1 1 1 (s_n V1) (by decide) hR1.1.1 hx9.1 (by decide) (by decide)
            refine r_callRO (js := [0, 1, 2, 3, 4, 5, 6, 7, 8, 9, 10, 11, 12, 13, 14, 15, 16, 17, 18]) C hT (runV (js := [0, 1, 2, 3, 4, 5, 6, 7, 8, 9, 10, 11, 12, 13, 14, 15, 16, 17, 18]) (rm := ({ frames := 0, cells := 0, slots := 0, locals := 0 } : Room)) (As := [.int (nI 1), .int (nI 1)]) (n := 2) (q1 := 0) (rest := []) C hT hM rfl rfl k766 k768 s15 k15 k769 (by decide +kernel) rfl rfl rfl rfl (Nat.le_of_ble_eq_true rfl) hl.1 ⟨Nat.le_of_ble_eq_true rfl, Nat.le_of_ble_eq_true rfl⟩ ⟨Nat.le_of_ble_eq_true rfl, Nat.le_of_ble_eq_true rfl⟩ dX11_get_222) rfl rfl (fun u H locs hT => ?_)
            refine W.eq (g2 := F0 m 225 ls [.int (backN (vb bb1 1) (s_n V1) 1)]) rfl ?_
            refine W.eq (g2 := F0 m 225 ls [.int (backN (s_f (rdN st N np fk fn fo no ou (V, lo 1, hi 1, xx, ra) 8).1) (s_n (rdN st N np fk fn fo no ou (V, lo 1, hi 1, xx, ra) 8).1) 1)]) (congrArg (fun z => F0 m 225 ls (.int z :: [])) ((by rw [hf1]; exact congrFun (back_cg (F := vb bb1 1) (f := s_f V1) (n := s_n V1) (fun j hj => hR1.1.2.2 j (Nat.lt_of_lt_of_le hj hx9.1))) 1))) ?_
            have hT : Wd g A s (mdL g mo rr 0 np no bt en xx1 ra1 t01 t11 s11 ca1 cq1 ch1 st fk fn fo bb1 wt1 nx1 cx1 pt1 le1 sc1 ss1 ww1 xc1 lo1 hi1 ou xi1) H locs := hT
            exact e_iret C hQ ⟨(lo1, hi1, xx1, ra1, bb1, wt1, nx1, cx1, pt1, le1, sc1, ss1, ww1, xc1, t01, t11, s11, ca1, cq1, ch1, xi1), (by rw [hf1]; exact hR1), hO1, hf2, hL1⟩ hT (by rfl) dX11_get_225
          · skip
            have hin := lp_go (n := 8) vex1 (by decide) hli h_3
            have hI1 := DI_rd (fo := fo) (no := no) (ou := ou) hG hD0 i (by omega)
            rw [hE1] at hI1
            have hn9 : s_n V1 ≤ s_n V + i := hI1.2.2.1
            have hr9 : ra1 ≤ ra + 4 * i := hI1.2.2.2
            have hX1 : SX N np fk V1 := hI1.1
            have hC1 : CI (lo1 1) (hi1 1) := hI1.2.1
            refine lv_aload_n hx hb dX11_get_41 rfl (lv_at hl 0 rfl) ?_
            refine lv_iconst (v := 1) hx hb dX11_get_42 (by decide) ?_
            refine W.eq (g2 := F0 m 43 ls [.int (nI 1), .ref (mo 0)]) (congrArg (fun z => F0 m 43 ls (.int z :: [.ref (mo 0)])) (rfl)) ?_
            have hM := c_X11_work l g mo rr 0 np no bt en xx1 ra1 t01 t11 s11 ca1 cq1 ch1 st fk fn fo bb1 wt1 nx1 cx1 pt1 le1 sc1 ss1 ww1 xc1 lo1 hi1 ou xi1 1 N V1 (by decide) hG hR1 hX1
            refine r_callW C hT (runVW (rm := ({ frames := 3, cells := 0, slots := 0, locals := 70 } : Room)) (As := [.int (nI 1)]) (n := 1) (q1 := 0) (rest := []) C hT hM k911 k913 s20 k15 k914 (by decide +kernel) rfl rfl rfl rfl (Nat.le_of_ble_eq_true rfl) hl.1 ⟨Nat.le_of_ble_eq_true rfl, Nat.le_of_ble_eq_true rfl⟩ ⟨Nat.le_of_ble_eq_true rfl, Nat.le_of_ble_eq_true rfl⟩ dX11_get_43) (fun u H locs hT => ?_)
            have hT : Wd g A s (mdL g mo rr 0 np no bt en xx1 ra1 (t0S st N np fk fo V1) (t1S st N np fk fo V1) (nI (lbN (s_f V1) (s_n V1))) (nI (8448 * 1 + 33 * s_nd V1 + tN st (mxS st N np fk fo V1) / 128)) (nI (tN st (mxS st N np fk fo V1) % 128)) (chS st N np fk fo V1) st fk fn fo bb1 wt1 nx1 cx1 pt1 le1 sc1 ss1 ww1 xc1 lo1 hi1 ou (setTo (inQ st N np fk fo V1) xi1 (np + 1))) H locs := hT
            refine W.eq (g2 := F0 m 46 ls []) rfl ?_
            refine lv_aload_n hx hb dX11_get_46 rfl (lv_at hl 0 rfl) ?_
            refine gX11_53 C hT (q0 := 0) rfl dX11_get_47 ?_
            refine lv_iconst (v := 1) hx hb dX11_get_50 (by decide) ?_
            refine r_lald C hT (q0 := 15) rfl 1 rfl (by decide) (by decide) dX11_get_51 ?_
            refine lv_aload_n hx hb dX11_get_52 rfl (lv_at hl 0 rfl) ?_
            refine gX11_57 C hT (q0 := 0) rfl dX11_get_53 ?_
            refine lv_iconst (v := 1) hx hb dX11_get_56 (by decide) ?_
            refine r_lald C hT (q0 := 16) rfl 1 rfl (by decide) (by decide) dX11_get_57 ?_
            refine lv_aload_n hx hb dX11_get_58 rfl (lv_at hl 0 rfl) ?_
            refine gX11_53 C hT (q0 := 0) rfl dX11_get_59 ?_
            refine lv_iconst (v := 1) hx hb dX11_get_62 (by decide) ?_
            refine r_lald C hT (q0 := 15) rfl 1 rfl (by decide) (by decide) dX11_get_63 ?_
            refine lv_lsub hx hb dX11_get_64 ?_
            refine lv_ldc2 (v := 4096) hx hb C.ow (C.ts _ k936) dX11_get_65 ?_
            refine lv_ldiv hx hb dX11_get_68 (by decide) ?_
            refine lv_aload_n hx hb dX11_get_69 rfl (lv_at hl 0 rfl) ?_
            refine gX11_170 C hT (q0 := 0) rfl dX11_get_70 ?_
            refine lv_i2l hx hb dX11_get_73 rfl ?_
            refine lv_lmul hx hb dX11_get_74 ?_
            refine lv_ladd hx hb dX11_get_75 ?_
            refine W.eq (g2 := F0 m 76 ls [.long (mdS st N np fk fo V1 (lo1 1) (hi1 1))]) (congrArg (fun z => F0 m 76 ls (.long z :: [])) (mid_R hC1 (chS_n st N np fk fo V1))) ?_
            refine lv_lstore_n (lv' := [(2, .long (mdS st N np fk fo V1 (lo1 1) (hi1 1))), (0, .ref (mo 0)), (1, .int vx1)]) hx hb dX11_get_76 rfl hl (by decide) rfl (fun ls hl => ?_)
            refine lv_aload_n hx hb dX11_get_77 rfl (lv_at hl 1 rfl) ?_
            refine gX11_201 C hT (q0 := 0) rfl dX11_get_78 ?_
            refine lv_lload_n hx hb dX11_get_81 rfl (lv_at hl 0 rfl) ?_
            refine W.lcmp hx hb dX11_get_82 ?_
            refine r_ite (ls := ls) (J := 91) (a1 := 0) (a2 := 1) (rest := []) (lv_if_gt (tgt := 90) hx hb dX11_get_83 (by decide)) (fun h_4 kont => ?_) (fun h_4 kont => ?_) ?_
            · skip
              refine lv_iconst (v := 0) hx hb dX11_get_90 (by decide) ?_
              exact kont
            · skip
              refine lv_iconst (v := 1) hx hb dX11_get_86 (by decide) ?_
              refine lv_goto (tgt := 91) hx hb dX11_get_87 (by decide) ?_
              exact kont
            refine W.eq (g2 := F0 m 91 ls [.int (rdS st N np fk fo V1 (lo1 1) (hi1 1) xx1)]) (congrArg (fun z => F0 m 91 ls (.int z :: [])) (rdS_eq st N np fk fo V1 (lo1 1) (hi1 1) xx1)) ?_
            refine lv_istore (lv' := [(4, .int (rdS st N np fk fo V1 (lo1 1) (hi1 1) xx1)), (2, .long (mdS st N np fk fo V1 (lo1 1) (hi1 1))), (0, .ref (mo 0)), (1, .int vx1)]) hx hb dX11_get_91 hl (by decide) rfl (fun ls hl => ?_)
            refine lv_iload hx hb dX11_get_93 (lv_at hl 0 rfl) ?_
            refine lv_iconst (v := 1) hx hb dX11_get_95 (by decide) ?_
            refine lv_icmp_ne (tgt := 109) hx hb dX11_get_96 (by decide) (fun h_5 => ?_) (fun h_5 => ?_)
            · skip
              have hon0 : rdS st N np fk fo V1 (lo1 1) (hi1 1) xx1 = 0 := by rcases rdS_01 st N np fk fo V1 (lo1 1) (hi1 1) xx1 with q | q; exact q; exact absurd q h_5
              have hi0 : vp_updL lo1 1 (mdS st N np fk fo V1 (lo1 1) (hi1 1) + 1) 1 = nLo (rdS st N np fk fo V1 (lo1 1) (hi1 1) xx1) (lo1 1) (mdS st N np fk fo V1 (lo1 1) (hi1 1)) := by rw [pk_uLs, nLo, if_pos hon0]
              have hi2 : hi1 1 = nHi (rdS st N np fk fo V1 (lo1 1) (hi1 1) xx1) (hi1 1) (mdS st N np fk fo V1 (lo1 1) (hi1 1)) := by rw [nHi, if_pos hon0]
              refine lv_aload_n hx hb dX11_get_109 rfl (lv_at hl 2 rfl) ?_
              refine gX11_53 C hT (q0 := 0) rfl dX11_get_110 ?_
              refine lv_iconst (v := 1) hx hb dX11_get_113 (by decide) ?_
              refine lv_lload_n hx hb dX11_get_114 rfl (lv_at hl 1 rfl) ?_
              refine lv_lconst (v := 1) hx hb dX11_get_115 (by decide) ?_
              refine lv_ladd hx hb dX11_get_116 ?_
              refine W.eq (g2 := F0 m 117 ls [.long (mdS st N np fk fo V1 (lo1 1) (hi1 1) + 1), .int 1, .ref (mo 15)]) (congrArg (fun z => F0 m 117 ls (.long z :: [.int 1, .ref (mo 15)])) (rfl)) ?_
              refine r_last C hT (q0 := 15) rfl 1 rfl (by decide) (by decide) dX11_get_117 (fun H locs hT => ?_)
              have hT : Wd g A s (mdL g mo rr 0 np no bt en xx1 ra1 (t0S st N np fk fo V1) (t1S st N np fk fo V1) (nI (lbN (s_f V1) (s_n V1))) (nI (8448 * 1 + 33 * s_nd V1 + tN st (mxS st N np fk fo V1) / 128)) (nI (tN st (mxS st N np fk fo V1) % 128)) (chS st N np fk fo V1) st fk fn fo bb1 wt1 nx1 cx1 pt1 le1 sc1 ss1 ww1 xc1 (vp_updL lo1 1 (mdS st N np fk fo V1 (lo1 1) (hi1 1) + 1)) hi1 ou (setTo (inQ st N np fk fo V1) xi1 (np + 1))) H locs := hT
              have loop_118 : ∀ (fu : Nat) (j : Nat) (a1 : Int64) (b1 : Int64) (loA : Nat → Int64) (hiA : Nat → Int64) (xxA : Int64) (raA : Nat) (H : Heap) (locs : List Loc) (ls : Array Slot) (hj : j ≤ 4) (hl0 : loA 1 = a1) (hl1 : loA 0 = lo1 0) (hh0 : hiA 1 = b1) (hh1 : hiA 0 = hi1 0) (hCD : CD j a1 b1) (hra1 : raA = ra1 + j) (hEA : rdF no ou (4 - j) a1 b1 xxA raA = rdF no ou 4 (nLo (rdS st N np fk fo V1 (lo1 1) (hi1 1) xx1) (lo1 1) (mdS st N np fk fo V1 (lo1 1) (hi1 1))) (nHi (rdS st N np fk fo V1 (lo1 1) (hi1 1) xx1) (hi1 1) (mdS st N np fk fo V1 (lo1 1) (hi1 1))) xx1 ra1), 4 - j < fu → Wd g A s (mdL g mo rr 0 np no bt en xxA raA (t0S st N np fk fo V1) (t1S st N np fk fo V1) (nI (lbN (s_f V1) (s_n V1))) (nI (8448 * 1 + 33 * s_nd V1 + tN st (mxS st N np fk fo V1) / 128)) (nI (tN st (mxS st N np fk fo V1) % 128)) (chS st N np fk fo V1) st fk fn fo bb1 wt1 nx1 cx1 pt1 le1 sc1 ss1 ww1 xc1 loA hiA ou (setTo (inQ st N np fk fo V1) xi1 (np + 1))) H locs → lv_has ls 5 [(0, .ref (mo 0)), (1, .int vx1), (2, .long (mdS st N np fk fo V1 (lo1 1) (hi1 1))), (4, .int (rdS st N np fk fo V1 (lo1 1) (hi1 1) xx1))] → W p l e ({ frames := 4, cells := 0, slots := 0, locals := 101 } : Room) s m ([.ref (mo 0)] : List Value).toArray below meth c H locs 0 0 Q (F0 m 118 ls []) := by
                intro fu_118
                induction fu_118 with
                | zero => intro j a1 b1 loA hiA xxA raA H locs ls hj hl0 hl1 hh0 hh1 hCD hra1 hEA hm; exact absurd hm (Nat.not_lt_zero _)
                | succ fu_118 ih_118 =>
                  intro j a1 b1 loA hiA xxA raA H locs ls hj hl0 hl1 hh0 hh1 hCD hra1 hEA hm_118 hT hl
                  refine lv_aload_n hx hb dX11_get_118 rfl (lv_at hl 0 rfl) ?_
                  refine gX11_53 C hT (q0 := 0) rfl dX11_get_119 ?_
                  refine lv_iconst (v := 1) hx hb dX11_get_122 (by decide) ?_
                  refine r_lald C hT (q0 := 15) rfl 1 rfl (by decide) (by decide) dX11_get_123 ?_
                  refine W.eq (g2 := F0 m 124 ls [.long a1]) (congrArg (fun z => F0 m 124 ls (.long z :: [])) (hl0)) ?_
                  refine lv_bipush (v := 24) hx hb dX11_get_124 (by decide) ?_
                  refine lv_lshr hx hb dX11_get_126 rfl ?_
                  refine lv_aload_n hx hb dX11_get_127 rfl (lv_at hl 0 rfl) ?_
                  refine gX11_57 C hT (q0 := 0) rfl dX11_get_128 ?_
                  refine lv_iconst (v := 1) hx hb dX11_get_131 (by decide) ?_
                  refine r_lald C hT (q0 := 16) rfl 1 rfl (by decide) (by decide) dX11_get_132 ?_
                  refine W.eq (g2 := F0 m 133 ls [.long b1, .long (a1 >>> ((24 : Int32).toInt64 &&& 63))]) (congrArg (fun z => F0 m 133 ls (.long z :: [.long (a1 >>> ((24 : Int32).toInt64 &&& 63))])) (hh0)) ?_
                  refine lv_bipush (v := 24) hx hb dX11_get_133 (by decide) ?_
                  refine lv_lshr hx hb dX11_get_135 rfl ?_
                  refine W.lcmp hx hb dX11_get_136 ?_
                  refine lv_if_ne (tgt := 206) hx hb dX11_get_137 (by decide) (fun h_6 => ?_) (fun h_6 => ?_)
                  · skip
                    have h_6 : ¬ a1 >>> ((24 : Int32).toInt64 &&& 63) = b1 >>> ((24 : Int32).toInt64 &&& 63) := fun q => h_6 ((lg_cmp_eq _ _).mpr q)
                    have hset : setB a1 b1 = false := decide_eq_false h_6
                    have hend := (rdF_n (no := no) (ou := ou) (k := 4 - j) (code := xxA) (cp := raA) hset).symm.trans hEA
                    refine lv_aload_n hx hb dX11_get_206 rfl (lv_at hl 0 rfl) ?_
                    refine lv_iconst (v := 1) hx hb dX11_get_207 (by decide) ?_
                    refine W.eq (g2 := F0 m 208 ls [.int (nI 1), .ref (mo 0)]) (congrArg (fun z => F0 m 208 ls (.int z :: [.ref (mo 0)])) (rfl)) ?_
                    refine lv_iload hx hb dX11_get_208 (lv_at hl 3 rfl) ?_
                    have hM := c_X11_learn l g mo rr 0 np no bt en xxA raA (chS st N np fk fo V1) st fk fn fo bb1 wt1 nx1 cx1 pt1 le1 sc1 ss1 ww1 xc1 loA hiA ou (setTo (inQ st N np fk fo V1) xi1 (np + 1)) 1 N V1 (rdS st N np fk fo V1 (lo1 1) (hi1 1) xx1) (by decide) hG hR1 hX1 (fun j hj => inQ_lt hj) inQ_np (rdS_01 _ _ _ _ _ _ _ _ _) (by omega)
                    refine r_callW C hT (runVW (rm := ({ frames := 3, cells := 0, slots := 0, locals := 73 } : Room)) (As := [.int (nI 1), .int (rdS st N np fk fo V1 (lo1 1) (hi1 1) xx1)]) (n := 2) (q1 := 0) (rest := []) C hT hM k938 k940 s25 k15 k941 (by decide +kernel) rfl rfl rfl rfl (Nat.le_of_ble_eq_true rfl) hl.1 ⟨Nat.le_of_ble_eq_true rfl, Nat.le_of_ble_eq_true rfl⟩ ⟨Nat.le_of_ble_eq_true rfl, Nat.le_of_ble_eq_true rfl⟩ dX11_get_210) (fun u H locs hT => ?_)
                    obtain ⟨⟨bb2_210, wt2_210, nx2_210, cx2_210, pt2_210, le2_210, sc2_210, ss2_210, ww2_210, xc2_210⟩, hRS_210, hOT_210⟩ := u
                    replace hRS_210 : RS 1 N np fk (stepS st N np fk fn fo V1 (rdS st N np fk fo V1 (lo1 1) (hi1 1) xx1)) bb2_210 wt2_210 nx2_210 cx2_210 pt2_210 le2_210 sc2_210 ss2_210 ww2_210 xc2_210 := hRS_210
                    replace hOT_210 : ∀ s2 V, s2 < 2 → ¬ s2 = 1 → RS s2 N np fk V bb1 wt1 nx1 cx1 pt1 le1 sc1 ss1 ww1 xc1 → RS s2 N np fk V bb2_210 wt2_210 nx2_210 cx2_210 pt2_210 le2_210 sc2_210 ss2_210 ww2_210 xc2_210 := hOT_210
                    have hT : Wd g A s (mdL g mo rr 0 np no bt en xxA raA (t0S st N np fk fo V1) (t1S st N np fk fo V1) (nI (lbN (s_f V1) (s_n V1))) (nI (8448 * 1 + 33 * s_nd V1 + tN st (mxS st N np fk fo V1) / 128)) (nI (tN st (mxS st N np fk fo V1) % 128)) (chS st N np fk fo V1) st fk fn fo bb2_210 wt2_210 nx2_210 cx2_210 pt2_210 le2_210 sc2_210 ss2_210 ww2_210 xc2_210 loA hiA ou (setTo (inQ st N np fk fo V1) xi1 (np + 1))) H locs := hT
                    refine W.eq (g2 := F0 m 213 ls []) rfl ?_
                    have hE2 : rdN st N np fk fn fo no ou (V, lo 1, hi 1, xx, ra) (i + 1) = (stepS st N np fk fn fo V1 (rdS st N np fk fo V1 (lo1 1) (hi1 1) xx1), loA 1, hiA 1, xxA, raA) := by rw [rdN_s hE1, ← hend, hl0, hh0]
                    obtain ⟨x_7, ex_7⟩ : ∃ y : Int32, y = vx1 + 1 := ⟨_, rfl⟩
                    refine lv_iinc (v := x_7) (lv' := [(1, .int x_7), (0, .ref (mo 0)), (2, .long (mdS st N np fk fo V1 (lo1 1) (hi1 1))), (4, .int (rdS st N np fk fo V1 (lo1 1) (hi1 1) xx1))]) hx hb dX11_get_213 hl (k := 1) rfl (by rw [ex_7]; rfl) (by decide) rfl (fun ls hl => ?_)
                    refine lv_goto (tgt := 35) hx hb dX11_get_216 (by decide) ?_
                    exact ih (i + 1) x_7 (stepS st N np fk fn fo V1 (rdS st N np fk fo V1 (lo1 1) (hi1 1) xx1)) bb2_210 wt2_210 nx2_210 cx2_210 pt2_210 le2_210 sc2_210 ss2_210 ww2_210 xc2_210 (t0S st N np fk fo V1) (t1S st N np fk fo V1) (nI (lbN (s_f V1) (s_n V1))) (nI (8448 * 1 + 33 * s_nd V1 + tN st (mxS st N np fk fo V1) / 128)) (nI (tN st (mxS st N np fk fo V1) % 128)) (chS st N np fk fo V1) (setTo (inQ st N np fk fo V1) xi1 (np + 1)) loA hiA xxA raA H locs ls hin (by rw [ex_7, vex1]; exact nI_1 i) hE2 hRS_210 (fun s2 V h2 hne h => hOT_210 s2 V h2 hne (hO1 s2 V h2 hne h)) ⟨hl1.trans hL1.1, hh1.trans hL1.2⟩ (by omega) hT (lv_sub hl [1, 0] rfl)
                  · skip
                    have h_6 : a1 >>> ((24 : Int32).toInt64 &&& 63) = b1 >>> ((24 : Int32).toInt64 &&& 63) := (lg_cmp_eq _ _).mp h_6
                    have hset : setB a1 b1 = true := decide_eq_true h_6
                    have hj4 := CD_lt hj hCD hset
                    refine lv_aload_n hx hb dX11_get_140 rfl (lv_at hl 0 rfl) ?_
                    refine gX11_53 C hT (q0 := 0) rfl dX11_get_141 ?_
                    refine lv_iconst (v := 1) hx hb dX11_get_144 (by decide) ?_
                    refine lv_aload_n hx hb dX11_get_145 rfl (lv_at hl 0 rfl) ?_
                    refine gX11_53 C hT (q0 := 0) rfl dX11_get_146 ?_
                    refine lv_iconst (v := 1) hx hb dX11_get_149 (by decide) ?_
                    refine r_lald C hT (q0 := 15) rfl 1 rfl (by decide) (by decide) dX11_get_150 ?_
                    refine W.eq (g2 := F0 m 151 ls [.long a1, .int 1, .ref (mo 15)]) (congrArg (fun z => F0 m 151 ls (.long z :: [.int 1, .ref (mo 15)])) (hl0)) ?_
                    refine lv_bipush (v := 8) hx hb dX11_get_151 (by decide) ?_
                    refine lv_lshl hx hb dX11_get_153 rfl ?_
                    refine lv_ldc2 (v := 4294967295) hx hb C.ow (C.ts _ k751) dX11_get_154 ?_
                    refine lv_land hx hb dX11_get_157 ?_
                    refine W.eq (g2 := F0 m 158 ls [.long (shLo a1), .int 1, .ref (mo 15)]) (congrArg (fun z => F0 m 158 ls (.long z :: [.int 1, .ref (mo 15)])) (rfl)) ?_
                    refine r_last C hT (q0 := 15) rfl 1 rfl (by decide) (by decide) dX11_get_158 (fun H locs hT => ?_)
                    have hT : Wd g A s (mdL g mo rr 0 np no bt en xxA raA (t0S st N np fk fo V1) (t1S st N np fk fo V1) (nI (lbN (s_f V1) (s_n V1))) (nI (8448 * 1 + 33 * s_nd V1 + tN st (mxS st N np fk fo V1) / 128)) (nI (tN st (mxS st N np fk fo V1) % 128)) (chS st N np fk fo V1) st fk fn fo bb1 wt1 nx1 cx1 pt1 le1 sc1 ss1 ww1 xc1 (vp_updL loA 1 (shLo a1)) hiA ou (setTo (inQ st N np fk fo V1) xi1 (np + 1))) H locs := hT
                    refine lv_aload_n hx hb dX11_get_159 rfl (lv_at hl 0 rfl) ?_
                    refine gX11_57 C hT (q0 := 0) rfl dX11_get_160 ?_
                    refine lv_iconst (v := 1) hx hb dX11_get_163 (by decide) ?_
                    refine lv_aload_n hx hb dX11_get_164 rfl (lv_at hl 0 rfl) ?_
                    refine gX11_57 C hT (q0 := 0) rfl dX11_get_165 ?_
                    refine lv_iconst (v := 1) hx hb dX11_get_168 (by decide) ?_
                    refine r_lald C hT (q0 := 16) rfl 1 rfl (by decide) (by decide) dX11_get_169 ?_
                    refine W.eq (g2 := F0 m 170 ls [.long b1, .int 1, .ref (mo 16)]) (congrArg (fun z => F0 m 170 ls (.long z :: [.int 1, .ref (mo 16)])) (hh0)) ?_
                    refine lv_bipush (v := 8) hx hb dX11_get_170 (by decide) ?_
                    refine lv_lshl hx hb dX11_get_172 rfl ?_
                    refine lv_ldc2 (v := 4294967295) hx hb C.ow (C.ts _ k751) dX11_get_173 ?_
                    refine lv_land hx hb dX11_get_176 ?_
                    refine lv_ldc2 (v := 255) hx hb C.ow (C.ts _ k937) dX11_get_177 ?_
                    refine lv_lor hx hb dX11_get_180 ?_
                    refine W.eq (g2 := F0 m 181 ls [.long (shHi b1), .int 1, .ref (mo 16)]) (congrArg (fun z => F0 m 181 ls (.long z :: [.int 1, .ref (mo 16)])) (rfl)) ?_
                    refine r_last C hT (q0 := 16) rfl 1 rfl (by decide) (by decide) dX11_get_181 (fun H locs hT => ?_)
                    have hT : Wd g A s (mdL g mo rr 0 np no bt en xxA raA (t0S st N np fk fo V1) (t1S st N np fk fo V1) (nI (lbN (s_f V1) (s_n V1))) (nI (8448 * 1 + 33 * s_nd V1 + tN st (mxS st N np fk fo V1) / 128)) (nI (tN st (mxS st N np fk fo V1) % 128)) (chS st N np fk fo V1) st fk fn fo bb1 wt1 nx1 cx1 pt1 le1 sc1 ss1 ww1 xc1 (vp_updL loA 1 (shLo a1)) (vp_updL hiA 1 (shHi b1)) ou (setTo (inQ st N np fk fo V1) xi1 (np + 1))) H locs := hT
                    refine lv_aload_n hx hb dX11_get_182 rfl (lv_at hl 0 rfl) ?_
                    refine lv_aload_n hx hb dX11_get_183 rfl (lv_at hl 0 rfl) ?_
                    refine gX11_201 C hT (q0 := 0) rfl dX11_get_184 ?_
                    refine lv_bipush (v := 8) hx hb dX11_get_187 (by decide) ?_
                    refine lv_lshl hx hb dX11_get_189 rfl ?_
                    refine lv_ldc2 (v := 4294967295) hx hb C.ow (C.ts _ k751) dX11_get_190 ?_
                    refine lv_land hx hb dX11_get_193 ?_
                    refine lv_aload_n hx hb dX11_get_194 rfl (lv_at hl 0 rfl) ?_
                    have hM := c_X11_nextOut l g mo rr 0 np no bt en xxA raA (t0S st N np fk fo V1) (t1S st N np fk fo V1) (nI (lbN (s_f V1) (s_n V1))) (nI (8448 * 1 + 33 * s_nd V1 + tN st (mxS st N np fk fo V1) / 128)) (nI (tN st (mxS st N np fk fo V1) % 128)) (chS st N np fk fo V1) st fk fn fo bb1 wt1 nx1 cx1 pt1 le1 sc1 ss1 ww1 xc1 (vp_updL loA 1 (shLo a1)) (vp_updL hiA 1 (shHi b1)) ou (setTo (inQ st N np fk fo V1) xi1 (np + 1)) hno (by omega)
                    refine r_callW C hT (runVW (rm := ({ frames := 0, cells := 0, slots := 0, locals := 0 } : Room)) (As := []) (n := 0) (q1 := 0) (rest := [.long ((xxA <<< ((8 : Int32).toInt64 &&& 63)) &&& 4294967295), .ref (mo 0)]) C hT hM k958 k960 s27 k15 k961 (by decide +kernel) rfl rfl rfl rfl (Nat.le_of_ble_eq_true rfl) hl.1 ⟨Nat.le_of_ble_eq_true rfl, Nat.le_of_ble_eq_true rfl⟩ ⟨Nat.le_of_ble_eq_true rfl, Nat.le_of_ble_eq_true rfl⟩ dX11_get_195) (fun u H locs hT => ?_)
                    have hT : Wd g A s (mdL g mo rr 0 np no bt en xxA (raA + 1) (t0S st N np fk fo V1) (t1S st N np fk fo V1) (nI (lbN (s_f V1) (s_n V1))) (nI (8448 * 1 + 33 * s_nd V1 + tN st (mxS st N np fk fo V1) / 128)) (nI (tN st (mxS st N np fk fo V1) % 128)) (chS st N np fk fo V1) st fk fn fo bb1 wt1 nx1 cx1 pt1 le1 sc1 ss1 ww1 xc1 (vp_updL loA 1 (shLo a1)) (vp_updL hiA 1 (shHi b1)) ou (setTo (inQ st N np fk fo V1) xi1 (np + 1))) H locs := hT
                    refine W.eq (g2 := F0 m 198 ls [.int (nxtI no ou raA), .long ((xxA <<< ((8 : Int32).toInt64 &&& 63)) &&& 4294967295), .ref (mo 0)]) rfl ?_
                    refine lv_i2l hx hb dX11_get_198 rfl ?_
                    refine lv_lor hx hb dX11_get_199 ?_
                    refine W.eq (g2 := F0 m 200 ls [.long (codeN xxA no ou raA), .ref (mo 0)]) (congrArg (fun z => F0 m 200 ls (.long z :: [.ref (mo 0)])) (rfl)) ?_
                    refine pX11_201 C hT (q0 := 0) rfl dX11_get_200 (fun H locs hT => ?_)
                    have hT : Wd g A s (mdL g mo rr 0 np no bt en (codeN xxA no ou raA) (raA + 1) (t0S st N np fk fo V1) (t1S st N np fk fo V1) (nI (lbN (s_f V1) (s_n V1))) (nI (8448 * 1 + 33 * s_nd V1 + tN st (mxS st N np fk fo V1) / 128)) (nI (tN st (mxS st N np fk fo V1) % 128)) (chS st N np fk fo V1) st fk fn fo bb1 wt1 nx1 cx1 pt1 le1 sc1 ss1 ww1 xc1 (vp_updL loA 1 (shLo a1)) (vp_updL hiA 1 (shHi b1)) ou (setTo (inQ st N np fk fo V1) xi1 (np + 1))) H locs := hT
                    refine lv_goto (tgt := 118) hx hb dX11_get_203 (by decide) ?_
                    exact ih_118 (j + 1) (shLo a1) (shHi b1) (vp_updL loA 1 (shLo a1)) (vp_updL hiA 1 (shHi b1)) (codeN xxA no ou raA) (raA + 1) H locs ls (by omega) pk_uLs (by rw [pk_uLn (by decide)]; exact hl1) pk_uLs (by rw [pk_uLn (by decide)]; exact hh1) (CD_s hj4 hCD hset) (by omega) (by rw [← hEA, show 4 - j = (4 - (j + 1)) + 1 by omega]; exact (rdF_y hset).symm) (by omega) hT (lv_sub hl [0, 1, 2, 3] rfl)
              exact loop_118 (4 - 0 + 1) 0 (nLo (rdS st N np fk fo V1 (lo1 1) (hi1 1) xx1) (lo1 1) (mdS st N np fk fo V1 (lo1 1) (hi1 1))) (nHi (rdS st N np fk fo V1 (lo1 1) (hi1 1) xx1) (hi1 1) (mdS st N np fk fo V1 (lo1 1) (hi1 1))) (vp_updL lo1 1 (mdS st N np fk fo V1 (lo1 1) (hi1 1) + 1)) hi1 xx1 ra1 H locs ls (by decide) hi0 (by first | rfl | exact pk_uLn (by decide)) hi2 (by first | rfl | exact pk_uLn (by decide)) (nar_I hI1.2.1 (chS_n st N np fk fo V1)) rfl rfl (Nat.lt_succ_self _) hT (lv_sub hl [2, 3, 1, 0] rfl)
            · skip
              have hon1 : ¬ rdS st N np fk fo V1 (lo1 1) (hi1 1) xx1 = 0 := by rw [h_5]; decide
              have hi0 : lo1 1 = nLo (rdS st N np fk fo V1 (lo1 1) (hi1 1) xx1) (lo1 1) (mdS st N np fk fo V1 (lo1 1) (hi1 1)) := by rw [nLo, if_neg hon1]
              have hi2 : vp_updL hi1 1 (mdS st N np fk fo V1 (lo1 1) (hi1 1)) 1 = nHi (rdS st N np fk fo V1 (lo1 1) (hi1 1) xx1) (hi1 1) (mdS st N np fk fo V1 (lo1 1) (hi1 1)) := by rw [pk_uLs, nHi, if_neg hon1]
              refine lv_aload_n hx hb dX11_get_99 rfl (lv_at hl 2 rfl) ?_
              refine gX11_57 C hT (q0 := 0) rfl dX11_get_100 ?_
              refine lv_iconst (v := 1) hx hb dX11_get_103 (by decide) ?_
              refine lv_lload_n hx hb dX11_get_104 rfl (lv_at hl 1 rfl) ?_
              refine r_last C hT (q0 := 16) rfl 1 rfl (by decide) (by decide) dX11_get_105 (fun H locs hT => ?_)
              have hT : Wd g A s (mdL g mo rr 0 np no bt en xx1 ra1 (t0S st N np fk fo V1) (t1S st N np fk fo V1) (nI (lbN (s_f V1) (s_n V1))) (nI (8448 * 1 + 33 * s_nd V1 + tN st (mxS st N np fk fo V1) / 128)) (nI (tN st (mxS st N np fk fo V1) % 128)) (chS st N np fk fo V1) st fk fn fo bb1 wt1 nx1 cx1 pt1 le1 sc1 ss1 ww1 xc1 lo1 (vp_updL hi1 1 (mdS st N np fk fo V1 (lo1 1) (hi1 1))) ou (setTo (inQ st N np fk fo V1) xi1 (np + 1))) H locs := hT
              refine lv_goto (tgt := 118) hx hb dX11_get_106 (by decide) ?_
              have loop_118 : ∀ (fu : Nat) (j : Nat) (a1 : Int64) (b1 : Int64) (loA : Nat → Int64) (hiA : Nat → Int64) (xxA : Int64) (raA : Nat) (H : Heap) (locs : List Loc) (ls : Array Slot) (hj : j ≤ 4) (hl0 : loA 1 = a1) (hl1 : loA 0 = lo1 0) (hh0 : hiA 1 = b1) (hh1 : hiA 0 = hi1 0) (hCD : CD j a1 b1) (hra1 : raA = ra1 + j) (hEA : rdF no ou (4 - j) a1 b1 xxA raA = rdF no ou 4 (nLo (rdS st N np fk fo V1 (lo1 1) (hi1 1) xx1) (lo1 1) (mdS st N np fk fo V1 (lo1 1) (hi1 1))) (nHi (rdS st N np fk fo V1 (lo1 1) (hi1 1) xx1) (hi1 1) (mdS st N np fk fo V1 (lo1 1) (hi1 1))) xx1 ra1), 4 - j < fu → Wd g A s (mdL g mo rr 0 np no bt en xxA raA (t0S st N np fk fo V1) (t1S st N np fk fo V1) (nI (lbN (s_f V1) (s_n V1))) (nI (8448 * 1 + 33 * s_nd V1 + tN st (mxS st N np fk fo V1) / 128)) (nI (tN st (mxS st N np fk fo V1) % 128)) (chS st N np fk fo V1) st fk fn fo bb1 wt1 nx1 cx1 pt1 le1 sc1 ss1 ww1 xc1 loA hiA ou (setTo (inQ st N np fk fo V1) xi1 (np + 1))) H locs → lv_has ls 5 [(0, .ref (mo 0)), (1, .int vx1), (2, .long (mdS st N np fk fo V1 (lo1 1) (hi1 1))), (4, .int (rdS st N np fk fo V1 (lo1 1) (hi1 1) xx1))] → W p l e ({ frames := 4, cells := 0, slots := 0, locals := 101 } : Room) s m ([.ref (mo 0)] : List Value).toArray below meth c H locs 0 0 Q (F0 m 118 ls []) := by
                intro fu_118
                induction fu_118 with
                | zero => intro j a1 b1 loA hiA xxA raA H locs ls hj hl0 hl1 hh0 hh1 hCD hra1 hEA hm; exact absurd hm (Nat.not_lt_zero _)
                | succ fu_118 ih_118 =>
                  intro j a1 b1 loA hiA xxA raA H locs ls hj hl0 hl1 hh0 hh1 hCD hra1 hEA hm_118 hT hl
                  refine lv_aload_n hx hb dX11_get_118 rfl (lv_at hl 0 rfl) ?_
                  refine gX11_53 C hT (q0 := 0) rfl dX11_get_119 ?_
                  refine lv_iconst (v := 1) hx hb dX11_get_122 (by decide) ?_
                  refine r_lald C hT (q0 := 15) rfl 1 rfl (by decide) (by decide) dX11_get_123 ?_
                  refine W.eq (g2 := F0 m 124 ls [.long a1]) (congrArg (fun z => F0 m 124 ls (.long z :: [])) (hl0)) ?_
                  refine lv_bipush (v := 24) hx hb dX11_get_124 (by decide) ?_
                  refine lv_lshr hx hb dX11_get_126 rfl ?_
                  refine lv_aload_n hx hb dX11_get_127 rfl (lv_at hl 0 rfl) ?_
                  refine gX11_57 C hT (q0 := 0) rfl dX11_get_128 ?_
                  refine lv_iconst (v := 1) hx hb dX11_get_131 (by decide) ?_
                  refine r_lald C hT (q0 := 16) rfl 1 rfl (by decide) (by decide) dX11_get_132 ?_
                  refine W.eq (g2 := F0 m 133 ls [.long b1, .long (a1 >>> ((24 : Int32).toInt64 &&& 63))]) (congrArg (fun z => F0 m 133 ls (.long z :: [.long (a1 >>> ((24 : Int32).toInt64 &&& 63))])) (hh0)) ?_
                  refine lv_bipush (v := 24) hx hb dX11_get_133 (by decide) ?_
                  refine lv_lshr hx hb dX11_get_135 rfl ?_
                  refine W.lcmp hx hb dX11_get_136 ?_
                  refine lv_if_ne (tgt := 206) hx hb dX11_get_137 (by decide) (fun h_8 => ?_) (fun h_8 => ?_)
                  · skip
                    have h_8 : ¬ a1 >>> ((24 : Int32).toInt64 &&& 63) = b1 >>> ((24 : Int32).toInt64 &&& 63) := fun q => h_8 ((lg_cmp_eq _ _).mpr q)
                    have hset : setB a1 b1 = false := decide_eq_false h_8
                    have hend := (rdF_n (no := no) (ou := ou) (k := 4 - j) (code := xxA) (cp := raA) hset).symm.trans hEA
                    refine lv_aload_n hx hb dX11_get_206 rfl (lv_at hl 0 rfl) ?_
                    refine lv_iconst (v := 1) hx hb dX11_get_207 (by decide) ?_
                    refine W.eq (g2 := F0 m 208 ls [.int (nI 1), .ref (mo 0)]) (congrArg (fun z => F0 m 208 ls (.int z :: [.ref (mo 0)])) (rfl)) ?_
                    refine lv_iload hx hb dX11_get_208 (lv_at hl 3 rfl) ?_
                    have hM := c_X11_learn l g mo rr 0 np no bt en xxA raA (chS st N np fk fo V1) st fk fn fo bb1 wt1 nx1 cx1 pt1 le1 sc1 ss1 ww1 xc1 loA hiA ou (setTo (inQ st N np fk fo V1) xi1 (np + 1)) 1 N V1 (rdS st N np fk fo V1 (lo1 1) (hi1 1) xx1) (by decide) hG hR1 hX1 (fun j hj => inQ_lt hj) inQ_np (rdS_01 _ _ _ _ _ _ _ _ _) (by omega)
                    refine r_callW C hT (runVW (rm := ({ frames := 3, cells := 0, slots := 0, locals := 73 } : Room)) (As := [.int (nI 1), .int (rdS st N np fk fo V1 (lo1 1) (hi1 1) xx1)]) (n := 2) (q1 := 0) (rest := []) C hT hM k938 k940 s25 k15 k941 (by decide +kernel) rfl rfl rfl rfl (Nat.le_of_ble_eq_true rfl) hl.1 ⟨Nat.le_of_ble_eq_true rfl, Nat.le_of_ble_eq_true rfl⟩ ⟨Nat.le_of_ble_eq_true rfl, Nat.le_of_ble_eq_true rfl⟩ dX11_get_210) (fun u H locs hT => ?_)
                    obtain ⟨⟨bb2_210, wt2_210, nx2_210, cx2_210, pt2_210, le2_210, sc2_210, ss2_210, ww2_210, xc2_210⟩, hRS_210, hOT_210⟩ := u
                    replace hRS_210 : RS 1 N np fk (stepS st N np fk fn fo V1 (rdS st N np fk fo V1 (lo1 1) (hi1 1) xx1)) bb2_210 wt2_210 nx2_210 cx2_210 pt2_210 le2_210 sc2_210 ss2_210 ww2_210 xc2_210 := hRS_210
                    replace hOT_210 : ∀ s2 V, s2 < 2 → ¬ s2 = 1 → RS s2 N np fk V bb1 wt1 nx1 cx1 pt1 le1 sc1 ss1 ww1 xc1 → RS s2 N np fk V bb2_210 wt2_210 nx2_210 cx2_210 pt2_210 le2_210 sc2_210 ss2_210 ww2_210 xc2_210 := hOT_210
                    have hT : Wd g A s (mdL g mo rr 0 np no bt en xxA raA (t0S st N np fk fo V1) (t1S st N np fk fo V1) (nI (lbN (s_f V1) (s_n V1))) (nI (8448 * 1 + 33 * s_nd V1 + tN st (mxS st N np fk fo V1) / 128)) (nI (tN st (mxS st N np fk fo V1) % 128)) (chS st N np fk fo V1) st fk fn fo bb2_210 wt2_210 nx2_210 cx2_210 pt2_210 le2_210 sc2_210 ss2_210 ww2_210 xc2_210 loA hiA ou (setTo (inQ st N np fk fo V1) xi1 (np + 1))) H locs := hT
                    refine W.eq (g2 := F0 m 213 ls []) rfl ?_
                    have hE2 : rdN st N np fk fn fo no ou (V, lo 1, hi 1, xx, ra) (i + 1) = (stepS st N np fk fn fo V1 (rdS st N np fk fo V1 (lo1 1) (hi1 1) xx1), loA 1, hiA 1, xxA, raA) := by rw [rdN_s hE1, ← hend, hl0, hh0]
                    obtain ⟨x_9, ex_9⟩ : ∃ y : Int32, y = vx1 + 1 := ⟨_, rfl⟩
                    refine lv_iinc (v := x_9) (lv' := [(1, .int x_9), (0, .ref (mo 0)), (2, .long (mdS st N np fk fo V1 (lo1 1) (hi1 1))), (4, .int (rdS st N np fk fo V1 (lo1 1) (hi1 1) xx1))]) hx hb dX11_get_213 hl (k := 1) rfl (by rw [ex_9]; rfl) (by decide) rfl (fun ls hl => ?_)
                    refine lv_goto (tgt := 35) hx hb dX11_get_216 (by decide) ?_
                    exact ih (i + 1) x_9 (stepS st N np fk fn fo V1 (rdS st N np fk fo V1 (lo1 1) (hi1 1) xx1)) bb2_210 wt2_210 nx2_210 cx2_210 pt2_210 le2_210 sc2_210 ss2_210 ww2_210 xc2_210 (t0S st N np fk fo V1) (t1S st N np fk fo V1) (nI (lbN (s_f V1) (s_n V1))) (nI (8448 * 1 + 33 * s_nd V1 + tN st (mxS st N np fk fo V1) / 128)) (nI (tN st (mxS st N np fk fo V1) % 128)) (chS st N np fk fo V1) (setTo (inQ st N np fk fo V1) xi1 (np + 1)) loA hiA xxA raA H locs ls hin (by rw [ex_9, vex1]; exact nI_1 i) hE2 hRS_210 (fun s2 V h2 hne h => hOT_210 s2 V h2 hne (hO1 s2 V h2 hne h)) ⟨hl1.trans hL1.1, hh1.trans hL1.2⟩ (by omega) hT (lv_sub hl [1, 0] rfl)
                  · skip
                    have h_8 : a1 >>> ((24 : Int32).toInt64 &&& 63) = b1 >>> ((24 : Int32).toInt64 &&& 63) := (lg_cmp_eq _ _).mp h_8
                    have hset : setB a1 b1 = true := decide_eq_true h_8
                    have hj4 := CD_lt hj hCD hset
                    refine lv_aload_n hx hb dX11_get_140 rfl (lv_at hl 0 rfl) ?_
                    refine gX11_53 C hT (q0 := 0) rfl dX11_get_141 ?_
                    refine lv_iconst (v := 1) hx hb dX11_get_144 (by decide) ?_
                    refine lv_aload_n hx hb dX11_get_145 rfl (lv_at hl 0 rfl) ?_
                    refine gX11_53 C hT (q0 := 0) rfl dX11_get_146 ?_
                    refine lv_iconst (v := 1) hx hb dX11_get_149 (by decide) ?_
                    refine r_lald C hT (q0 := 15) rfl 1 rfl (by decide) (by decide) dX11_get_150 ?_
                    refine W.eq (g2 := F0 m 151 ls [.long a1, .int 1, .ref (mo 15)]) (congrArg (fun z => F0 m 151 ls (.long z :: [.int 1, .ref (mo 15)])) (hl0)) ?_
                    refine lv_bipush (v := 8) hx hb dX11_get_151 (by decide) ?_
                    refine lv_lshl hx hb dX11_get_153 rfl ?_
                    refine lv_ldc2 (v := 4294967295) hx hb C.ow (C.ts _ k751) dX11_get_154 ?_
                    refine lv_land hx hb dX11_get_157 ?_
                    refine W.eq (g2 := F0 m 158 ls [.long (shLo a1), .int 1, .ref (mo 15)]) (congrArg (fun z => F0 m 158 ls (.long z :: [.int 1, .ref (mo 15)])) (rfl)) ?_
                    refine r_last C hT (q0 := 15) rfl 1 rfl (by decide) (by decide) dX11_get_158 (fun H locs hT => ?_)
                    have hT : Wd g A s (mdL g mo rr 0 np no bt en xxA raA (t0S st N np fk fo V1) (t1S st N np fk fo V1) (nI (lbN (s_f V1) (s_n V1))) (nI (8448 * 1 + 33 * s_nd V1 + tN st (mxS st N np fk fo V1) / 128)) (nI (tN st (mxS st N np fk fo V1) % 128)) (chS st N np fk fo V1) st fk fn fo bb1 wt1 nx1 cx1 pt1 le1 sc1 ss1 ww1 xc1 (vp_updL loA 1 (shLo a1)) hiA ou (setTo (inQ st N np fk fo V1) xi1 (np + 1))) H locs := hT
                    refine lv_aload_n hx hb dX11_get_159 rfl (lv_at hl 0 rfl) ?_
                    refine gX11_57 C hT (q0 := 0) rfl dX11_get_160 ?_
                    refine lv_iconst (v := 1) hx hb dX11_get_163 (by decide) ?_
                    refine lv_aload_n hx hb dX11_get_164 rfl (lv_at hl 0 rfl) ?_
                    refine gX11_57 C hT (q0 := 0) rfl dX11_get_165 ?_
                    refine lv_iconst (v := 1) hx hb dX11_get_168 (by decide) ?_
                    refine r_lald C hT (q0 := 16) rfl 1 rfl (by decide) (by decide) dX11_get_169 ?_
                    refine W.eq (g2 := F0 m 170 ls [.long b1, .int 1, .ref (mo 16)]) (congrArg (fun z => F0 m 170 ls (.long z :: [.int 1, .ref (mo 16)])) (hh0)) ?_
                    refine lv_bipush (v := 8) hx hb dX11_get_170 (by decide) ?_
                    refine lv_lshl hx hb dX11_get_172 rfl ?_
                    refine lv_ldc2 (v := 4294967295) hx hb C.ow (C.ts _ k751) dX11_get_173 ?_
                    refine lv_land hx hb dX11_get_176 ?_
                    refine lv_ldc2 (v := 255) hx hb C.ow (C.ts _ k937) dX11_get_177 ?_
                    refine lv_lor hx hb dX11_get_180 ?_
                    refine W.eq (g2 := F0 m 181 ls [.long (shHi b1), .int 1, .ref (mo 16)]) (congrArg (fun z => F0 m 181 ls (.long z :: [.int 1, .ref (mo 16)])) (rfl)) ?_
                    refine r_last C hT (q0 := 16) rfl 1 rfl (by decide) (by decide) dX11_get_181 (fun H locs hT => ?_)
                    have hT : Wd g A s (mdL g mo rr 0 np no bt en xxA raA (t0S st N np fk fo V1) (t1S st N np fk fo V1) (nI (lbN (s_f V1) (s_n V1))) (nI (8448 * 1 + 33 * s_nd V1 + tN st (mxS st N np fk fo V1) / 128)) (nI (tN st (mxS st N np fk fo V1) % 128)) (chS st N np fk fo V1) st fk fn fo bb1 wt1 nx1 cx1 pt1 le1 sc1 ss1 ww1 xc1 (vp_updL loA 1 (shLo a1)) (vp_updL hiA 1 (shHi b1)) ou (setTo (inQ st N np fk fo V1) xi1 (np + 1))) H locs := hT
                    refine lv_aload_n hx hb dX11_get_182 rfl (lv_at hl 0 rfl) ?_
                    refine lv_aload_n hx hb dX11_get_183 rfl (lv_at hl 0 rfl) ?_
                    refine gX11_201 C hT (q0 := 0) rfl dX11_get_184 ?_
                    refine lv_bipush (v := 8) hx hb dX11_get_187 (by decide) ?_
                    refine lv_lshl hx hb dX11_get_189 rfl ?_
                    refine lv_ldc2 (v := 4294967295) hx hb C.ow (C.ts _ k751) dX11_get_190 ?_
                    refine lv_land hx hb dX11_get_193 ?_
                    refine lv_aload_n hx hb dX11_get_194 rfl (lv_at hl 0 rfl) ?_
                    have hM := c_X11_nextOut l g mo rr 0 np no bt en xxA raA (t0S st N np fk fo V1) (t1S st N np fk fo V1) (nI (lbN (s_f V1) (s_n V1))) (nI (8448 * 1 + 33 * s_nd V1 + tN st (mxS st N np fk fo V1) / 128)) (nI (tN st (mxS st N np fk fo V1) % 128)) (chS st N np fk fo V1) st fk fn fo bb1 wt1 nx1 cx1 pt1 le1 sc1 ss1 ww1 xc1 (vp_updL loA 1 (shLo a1)) (vp_updL hiA 1 (shHi b1)) ou (setTo (inQ st N np fk fo V1) xi1 (np + 1)) hno (by omega)
                    refine r_callW C hT (runVW (rm := ({ frames := 0, cells := 0, slots := 0, locals := 0 } : Room)) (As := []) (n := 0) (q1 := 0) (rest := [.long ((xxA <<< ((8 : Int32).toInt64 &&& 63)) &&& 4294967295), .ref (mo 0)]) C hT hM k958 k960 s27 k15 k961 (by decide +kernel) rfl rfl rfl rfl (Nat.le_of_ble_eq_true rfl) hl.1 ⟨Nat.le_of_ble_eq_true rfl, Nat.le_of_ble_eq_true rfl⟩ ⟨Nat.le_of_ble_eq_true rfl, Nat.le_of_ble_eq_true rfl⟩ dX11_get_195) (fun u H locs hT => ?_)
                    have hT : Wd g A s (mdL g mo rr 0 np no bt en xxA (raA + 1) (t0S st N np fk fo V1) (t1S st N np fk fo V1) (nI (lbN (s_f V1) (s_n V1))) (nI (8448 * 1 + 33 * s_nd V1 + tN st (mxS st N np fk fo V1) / 128)) (nI (tN st (mxS st N np fk fo V1) % 128)) (chS st N np fk fo V1) st fk fn fo bb1 wt1 nx1 cx1 pt1 le1 sc1 ss1 ww1 xc1 (vp_updL loA 1 (shLo a1)) (vp_updL hiA 1 (shHi b1)) ou (setTo (inQ st N np fk fo V1) xi1 (np + 1))) H locs := hT
                    refine W.eq (g2 := F0 m 198 ls [.int (nxtI no ou raA), .long ((xxA <<< ((8 : Int32).toInt64 &&& 63)) &&& 4294967295), .ref (mo 0)]) rfl ?_
                    refine lv_i2l hx hb dX11_get_198 rfl ?_
                    refine lv_lor hx hb dX11_get_199 ?_
                    refine W.eq (g2 := F0 m 200 ls [.long (codeN xxA no ou raA), .ref (mo 0)]) (congrArg (fun z => F0 m 200 ls (.long z :: [.ref (mo 0)])) (rfl)) ?_
                    refine pX11_201 C hT (q0 := 0) rfl dX11_get_200 (fun H locs hT => ?_)
                    have hT : Wd g A s (mdL g mo rr 0 np no bt en (codeN xxA no ou raA) (raA + 1) (t0S st N np fk fo V1) (t1S st N np fk fo V1) (nI (lbN (s_f V1) (s_n V1))) (nI (8448 * 1 + 33 * s_nd V1 + tN st (mxS st N np fk fo V1) / 128)) (nI (tN st (mxS st N np fk fo V1) % 128)) (chS st N np fk fo V1) st fk fn fo bb1 wt1 nx1 cx1 pt1 le1 sc1 ss1 ww1 xc1 (vp_updL loA 1 (shLo a1)) (vp_updL hiA 1 (shHi b1)) ou (setTo (inQ st N np fk fo V1) xi1 (np + 1))) H locs := hT
                    refine lv_goto (tgt := 118) hx hb dX11_get_203 (by decide) ?_
                    exact ih_118 (j + 1) (shLo a1) (shHi b1) (vp_updL loA 1 (shLo a1)) (vp_updL hiA 1 (shHi b1)) (codeN xxA no ou raA) (raA + 1) H locs ls (by omega) pk_uLs (by rw [pk_uLn (by decide)]; exact hl1) pk_uLs (by rw [pk_uLn (by decide)]; exact hh1) (CD_s hj4 hCD hset) (by omega) (by rw [← hEA, show 4 - j = (4 - (j + 1)) + 1 by omega]; exact (rdF_y hset).symm) (by omega) hT (lv_sub hl [0, 1, 2, 3] rfl)
              exact loop_118 (4 - 0 + 1) 0 (nLo (rdS st N np fk fo V1 (lo1 1) (hi1 1) xx1) (lo1 1) (mdS st N np fk fo V1 (lo1 1) (hi1 1))) (nHi (rdS st N np fk fo V1 (lo1 1) (hi1 1) xx1) (hi1 1) (mdS st N np fk fo V1 (lo1 1) (hi1 1))) lo1 (vp_updL hi1 1 (mdS st N np fk fo V1 (lo1 1) (hi1 1))) xx1 ra1 H locs ls (by decide) hi0 (by first | rfl | exact pk_uLn (by decide)) hi2 (by first | rfl | exact pk_uLn (by decide)) (nar_I hI1.2.1 (chS_n st N np fk fo V1)) rfl rfl (Nat.lt_succ_self _) hT (lv_sub hl [2, 3, 1, 0] rfl)
      exact loop_35 (8 - 0 + 1) 0 0 V bb wt nx cx pt le sc ss ww xc t0 t1 s1 ca cq ch xi lo hi xx ra H locs ls (by decide) rfl rfl hRS (fun s2 V _ _ h => h) ⟨rfl, rfl⟩ (Nat.lt_succ_self _) hT (lv_sub hl [1, 0] rfl)
    · skip
      exact absurd (nI_lt hn (by omega)) h_2
  · skip
    exact absurd (b01_f h_1) (by rw [hen]; decide)

set_option maxHeartbeats 400000 in
set_option maxRecDepth 100000 in
theorem c_X11_predictor_b (l : Launch) (g : GT) (mo : Nat → Nat) (rr : Nat) (th : Int32) (np : Nat) (no : Nat) (bt : Nat) (en : Bool) (xx : Int64) (ra : Nat) (t0 : Int32) (t1 : Int32) (s1 : Int32) (ca : Int32) (cq : Int32) (ch : Int32) (st : Nat → Int32) (fk : Nat → Int32) (fn : Nat → Int32) (fo : Nat → Int32) (bb : Nat → Int32) (wt : Nat → Int32) (nx : Nat → Int32) (cx : Nat → Int32) (pt : Nat → Int32) (le : Nat → Int32) (sc : Nat → Int32) (ss : Nat → Int32) (ww : Nat → Int32) (xc : Nat → Int32) (lo : Nat → Int64) (hi : Nat → Int64) (ou : Nat → Int32) (xi : Nat → Int32) (kd : Int32) (nn : Int32) (hal : allowB kd nn = false) : OM (S := Unit) l g yX11_predictor cX11_predictor 4 (some .int) ({ frames := 0, cells := 0, slots := 0, locals := 0 } : Room) [.ref (mo 0), .int kd, .int nn] (mdL g mo rr th np no bt en xx ra t0 t1 s1 ca cq ch st fk fn fo bb wt nx cx pt le sc ss ww xc lo hi ou xi) (fun _ => some (.int (-1))) (fun _ => (mdL g mo rr 0 np no bt en xx ra t0 t1 s1 ca cq ch st fk fn fo bb wt nx cx pt le sc ss ww xc lo hi ou xi)) := by
  refine OM.startQ (by decide) (Nat.le_of_ble_eq_true rfl) ?_
  intro p e s m below meth c A ls Q H locs hQ C hnm hl hT
  have hx := C.x
  have hb := C.b
  have hl : lv_has ls 4 [(0, .ref (mo 0)), (1, .int kd), (2, .int nn)] := hl
  refine lv_aload_n hx hb dX11_predictor_0 rfl (lv_at hl 0 rfl) ?_
  refine lv_iconst (v := 0) hx hb dX11_predictor_1 (by decide) ?_
  refine pX11_77 C hT (q0 := 0) rfl dX11_predictor_2 (fun H locs hT => ?_)
  have hT : Wd g A s (mdL g mo rr 0 np no bt en xx ra t0 t1 s1 ca cq ch st fk fn fo bb wt nx cx pt le sc ss ww xc lo hi ou xi) H locs := hT
  refine lv_iload_n hx hb dX11_predictor_5 rfl (lv_at hl 1 rfl) ?_
  refine lv_if_ne (tgt := 27) hx hb dX11_predictor_6 (by decide) (fun h_1 => ?_) (fun h_1 => ?_)
  · skip
    refine lv_iload_n hx hb dX11_predictor_27 rfl (lv_at hl 1 rfl) ?_
    refine lv_iconst (v := 1) hx hb dX11_predictor_28 (by decide) ?_
    refine lv_icmp_ne (tgt := 36) hx hb dX11_predictor_29 (by decide) (fun h_2 => ?_) (fun h_2 => ?_)
    · skip
      refine lv_iload_n hx hb dX11_predictor_36 rfl (lv_at hl 1 rfl) ?_
      refine lv_iconst (v := 2) hx hb dX11_predictor_37 (by decide) ?_
      refine lv_icmp_ne (tgt := 60) hx hb dX11_predictor_38 (by decide) (fun h_3 => ?_) (fun h_3 => ?_)
      · skip
        refine lv_iload_n hx hb dX11_predictor_60 rfl (lv_at hl 1 rfl) ?_
        refine lv_iconst (v := 3) hx hb dX11_predictor_61 (by decide) ?_
        refine lv_icmp_ne (tgt := 84) hx hb dX11_predictor_62 (by decide) (fun h_4 => ?_) (fun h_4 => ?_)
        · skip
          refine lv_iload_n hx hb dX11_predictor_84 rfl (lv_at hl 1 rfl) ?_
          refine lv_iconst (v := 4) hx hb dX11_predictor_85 (by decide) ?_
          refine lv_icmp_ne (tgt := 104) hx hb dX11_predictor_86 (by decide) (fun h_5 => ?_) (fun h_5 => ?_)
          · skip
            have hgd : allowB kd nn = false := by simp [allowB, h_1, h_2, h_3, h_4, h_5]
            refine lv_iconst (v := 0) hx hb dX11_predictor_104 (by decide) ?_
            refine lv_istore_n (lv' := [(3, .int 0), (0, .ref (mo 0)), (1, .int kd), (2, .int nn)]) hx hb dX11_predictor_105 rfl hl (by decide) rfl (fun ls hl => ?_)
            refine lv_iload_n hx hb dX11_predictor_106 rfl (lv_at hl 0 rfl) ?_
            refine lv_if_ne (tgt := 112) hx hb dX11_predictor_107 (by decide) (fun h_6 => ?_) (fun h_6 => ?_)
            · skip
              exact absurd (by decide) h_6
            · skip
              refine lv_iconst (v := (-1)) hx hb dX11_predictor_110 (by decide) ?_
              exact e_iret C hQ () hT rfl dX11_predictor_111
          · skip
            refine lv_iload_n hx hb dX11_predictor_89 rfl (lv_at hl 2 rfl) ?_
            refine lv_iconst (v := 3) hx hb dX11_predictor_90 (by decide) ?_
            refine lv_icmp_lt (tgt := 104) hx hb dX11_predictor_91 (by decide) (fun h_7 => ?_) (fun h_7 => ?_)
            · skip
              have hgd : allowB kd nn = false := by simp [allowB, h_1, h_2, h_3, h_4, h_5, h_7]
              refine lv_iconst (v := 0) hx hb dX11_predictor_104 (by decide) ?_
              refine lv_istore_n (lv' := [(3, .int 0), (0, .ref (mo 0)), (1, .int kd), (2, .int nn)]) hx hb dX11_predictor_105 rfl hl (by decide) rfl (fun ls hl => ?_)
              refine lv_iload_n hx hb dX11_predictor_106 rfl (lv_at hl 0 rfl) ?_
              refine lv_if_ne (tgt := 112) hx hb dX11_predictor_107 (by decide) (fun h_8 => ?_) (fun h_8 => ?_)
              · skip
                exact absurd (by decide) h_8
              · skip
                refine lv_iconst (v := (-1)) hx hb dX11_predictor_110 (by decide) ?_
                exact e_iret C hQ () hT rfl dX11_predictor_111
            · skip
              refine lv_iload_n hx hb dX11_predictor_94 rfl (lv_at hl 2 rfl) ?_
              refine lv_bipush (v := 8) hx hb dX11_predictor_95 (by decide) ?_
              refine lv_icmp_gt (tgt := 104) hx hb dX11_predictor_97 (by decide) (fun h_9 => ?_) (fun h_9 => ?_)
              · skip
                have hgd : allowB kd nn = false := by simp [allowB, h_1, h_2, h_3, h_4, h_5, h_7, h_9]
                refine lv_iconst (v := 0) hx hb dX11_predictor_104 (by decide) ?_
                refine lv_istore_n (lv' := [(3, .int 0), (0, .ref (mo 0)), (1, .int kd), (2, .int nn)]) hx hb dX11_predictor_105 rfl hl (by decide) rfl (fun ls hl => ?_)
                refine lv_iload_n hx hb dX11_predictor_106 rfl (lv_at hl 0 rfl) ?_
                refine lv_if_ne (tgt := 112) hx hb dX11_predictor_107 (by decide) (fun h_10 => ?_) (fun h_10 => ?_)
                · skip
                  exact absurd (by decide) h_10
                · skip
                  refine lv_iconst (v := (-1)) hx hb dX11_predictor_110 (by decide) ?_
                  exact e_iret C hQ () hT rfl dX11_predictor_111
              · skip
                have hgd : allowB kd nn = true := by simp [allowB, h_1, h_2, h_3, h_4, h_5, h_7, h_9]
                refine lv_iconst (v := 1) hx hb dX11_predictor_100 (by decide) ?_
                refine lv_goto (tgt := 105) hx hb dX11_predictor_101 (by decide) ?_
                refine lv_istore_n (lv' := [(3, .int 1), (0, .ref (mo 0)), (1, .int kd), (2, .int nn)]) hx hb dX11_predictor_105 rfl hl (by decide) rfl (fun ls hl => ?_)
                refine lv_iload_n hx hb dX11_predictor_106 rfl (lv_at hl 0 rfl) ?_
                refine lv_if_ne (tgt := 112) hx hb dX11_predictor_107 (by decide) (fun h_11 => ?_) (fun h_11 => ?_)
                · skip
                  exact absurd hgd (by rw [hal]; decide)
                · skip
                  exact absurd h_11 (by decide)
        · skip
          refine lv_iload_n hx hb dX11_predictor_65 rfl (lv_at hl 2 rfl) ?_
          refine lv_iconst (v := 1) hx hb dX11_predictor_66 (by decide) ?_
          refine lv_icmp_lt (tgt := 80) hx hb dX11_predictor_67 (by decide) (fun h_12 => ?_) (fun h_12 => ?_)
          · skip
            have hgd : allowB kd nn = false := by simp [allowB, h_1, h_2, h_3, h_4, h_12]
            refine lv_iconst (v := 0) hx hb dX11_predictor_80 (by decide) ?_
            refine lv_goto (tgt := 105) hx hb dX11_predictor_81 (by decide) ?_
            refine lv_istore_n (lv' := [(3, .int 0), (0, .ref (mo 0)), (1, .int kd), (2, .int nn)]) hx hb dX11_predictor_105 rfl hl (by decide) rfl (fun ls hl => ?_)
            refine lv_iload_n hx hb dX11_predictor_106 rfl (lv_at hl 0 rfl) ?_
            refine lv_if_ne (tgt := 112) hx hb dX11_predictor_107 (by decide) (fun h_13 => ?_) (fun h_13 => ?_)
            · skip
              exact absurd (by decide) h_13
            · skip
              refine lv_iconst (v := (-1)) hx hb dX11_predictor_110 (by decide) ?_
              exact e_iret C hQ () hT rfl dX11_predictor_111
          · skip
            refine lv_iload_n hx hb dX11_predictor_70 rfl (lv_at hl 2 rfl) ?_
            refine lv_bipush (v := 15) hx hb dX11_predictor_71 (by decide) ?_
            refine lv_icmp_gt (tgt := 80) hx hb dX11_predictor_73 (by decide) (fun h_14 => ?_) (fun h_14 => ?_)
            · skip
              have hgd : allowB kd nn = false := by simp [allowB, h_1, h_2, h_3, h_4, h_12, h_14]
              refine lv_iconst (v := 0) hx hb dX11_predictor_80 (by decide) ?_
              refine lv_goto (tgt := 105) hx hb dX11_predictor_81 (by decide) ?_
              refine lv_istore_n (lv' := [(3, .int 0), (0, .ref (mo 0)), (1, .int kd), (2, .int nn)]) hx hb dX11_predictor_105 rfl hl (by decide) rfl (fun ls hl => ?_)
              refine lv_iload_n hx hb dX11_predictor_106 rfl (lv_at hl 0 rfl) ?_
              refine lv_if_ne (tgt := 112) hx hb dX11_predictor_107 (by decide) (fun h_15 => ?_) (fun h_15 => ?_)
              · skip
                exact absurd (by decide) h_15
              · skip
                refine lv_iconst (v := (-1)) hx hb dX11_predictor_110 (by decide) ?_
                exact e_iret C hQ () hT rfl dX11_predictor_111
            · skip
              have hgd : allowB kd nn = true := by simp [allowB, h_1, h_2, h_3, h_4, h_12, h_14]
              refine lv_iconst (v := 1) hx hb dX11_predictor_76 (by decide) ?_
              refine lv_goto (tgt := 105) hx hb dX11_predictor_77 (by decide) ?_
              refine lv_istore_n (lv' := [(3, .int 1), (0, .ref (mo 0)), (1, .int kd), (2, .int nn)]) hx hb dX11_predictor_105 rfl hl (by decide) rfl (fun ls hl => ?_)
              refine lv_iload_n hx hb dX11_predictor_106 rfl (lv_at hl 0 rfl) ?_
              refine lv_if_ne (tgt := 112) hx hb dX11_predictor_107 (by decide) (fun h_16 => ?_) (fun h_16 => ?_)
              · skip
                exact absurd hgd (by rw [hal]; decide)
              · skip
                exact absurd h_16 (by decide)
      · skip
        refine lv_iload_n hx hb dX11_predictor_41 rfl (lv_at hl 2 rfl) ?_
        refine lv_iconst (v := 1) hx hb dX11_predictor_42 (by decide) ?_
        refine lv_icmp_lt (tgt := 56) hx hb dX11_predictor_43 (by decide) (fun h_17 => ?_) (fun h_17 => ?_)
        · skip
          have hgd : allowB kd nn = false := by simp [allowB, h_1, h_2, h_3, h_17]
          refine lv_iconst (v := 0) hx hb dX11_predictor_56 (by decide) ?_
          refine lv_goto (tgt := 105) hx hb dX11_predictor_57 (by decide) ?_
          refine lv_istore_n (lv' := [(3, .int 0), (0, .ref (mo 0)), (1, .int kd), (2, .int nn)]) hx hb dX11_predictor_105 rfl hl (by decide) rfl (fun ls hl => ?_)
          refine lv_iload_n hx hb dX11_predictor_106 rfl (lv_at hl 0 rfl) ?_
          refine lv_if_ne (tgt := 112) hx hb dX11_predictor_107 (by decide) (fun h_18 => ?_) (fun h_18 => ?_)
          · skip
            exact absurd (by decide) h_18
          · skip
            refine lv_iconst (v := (-1)) hx hb dX11_predictor_110 (by decide) ?_
            exact e_iret C hQ () hT rfl dX11_predictor_111
        · skip
          refine lv_iload_n hx hb dX11_predictor_46 rfl (lv_at hl 2 rfl) ?_
          refine lv_bipush (v := 64) hx hb dX11_predictor_47 (by decide) ?_
          refine lv_icmp_gt (tgt := 56) hx hb dX11_predictor_49 (by decide) (fun h_19 => ?_) (fun h_19 => ?_)
          · skip
            have hgd : allowB kd nn = false := by simp [allowB, h_1, h_2, h_3, h_17, h_19]
            refine lv_iconst (v := 0) hx hb dX11_predictor_56 (by decide) ?_
            refine lv_goto (tgt := 105) hx hb dX11_predictor_57 (by decide) ?_
            refine lv_istore_n (lv' := [(3, .int 0), (0, .ref (mo 0)), (1, .int kd), (2, .int nn)]) hx hb dX11_predictor_105 rfl hl (by decide) rfl (fun ls hl => ?_)
            refine lv_iload_n hx hb dX11_predictor_106 rfl (lv_at hl 0 rfl) ?_
            refine lv_if_ne (tgt := 112) hx hb dX11_predictor_107 (by decide) (fun h_20 => ?_) (fun h_20 => ?_)
            · skip
              exact absurd (by decide) h_20
            · skip
              refine lv_iconst (v := (-1)) hx hb dX11_predictor_110 (by decide) ?_
              exact e_iret C hQ () hT rfl dX11_predictor_111
          · skip
            have hgd : allowB kd nn = true := by simp [allowB, h_1, h_2, h_3, h_17, h_19]
            refine lv_iconst (v := 1) hx hb dX11_predictor_52 (by decide) ?_
            refine lv_goto (tgt := 105) hx hb dX11_predictor_53 (by decide) ?_
            refine lv_istore_n (lv' := [(3, .int 1), (0, .ref (mo 0)), (1, .int kd), (2, .int nn)]) hx hb dX11_predictor_105 rfl hl (by decide) rfl (fun ls hl => ?_)
            refine lv_iload_n hx hb dX11_predictor_106 rfl (lv_at hl 0 rfl) ?_
            refine lv_if_ne (tgt := 112) hx hb dX11_predictor_107 (by decide) (fun h_21 => ?_) (fun h_21 => ?_)
            · skip
              exact absurd hgd (by rw [hal]; decide)
            · skip
              exact absurd h_21 (by decide)
    · skip
      have hgd : allowB kd nn = true := by simp [allowB, h_1, h_2]
      refine lv_iconst (v := 1) hx hb dX11_predictor_32 (by decide) ?_
      refine lv_goto (tgt := 105) hx hb dX11_predictor_33 (by decide) ?_
      refine lv_istore_n (lv' := [(3, .int 1), (0, .ref (mo 0)), (1, .int kd), (2, .int nn)]) hx hb dX11_predictor_105 rfl hl (by decide) rfl (fun ls hl => ?_)
      refine lv_iload_n hx hb dX11_predictor_106 rfl (lv_at hl 0 rfl) ?_
      refine lv_if_ne (tgt := 112) hx hb dX11_predictor_107 (by decide) (fun h_22 => ?_) (fun h_22 => ?_)
      · skip
        exact absurd hgd (by rw [hal]; decide)
      · skip
        exact absurd h_22 (by decide)
  · skip
    refine lv_iload_n hx hb dX11_predictor_9 rfl (lv_at hl 2 rfl) ?_
    refine lv_if_lt (tgt := 23) hx hb dX11_predictor_10 (by decide) (fun h_23 => ?_) (fun h_23 => ?_)
    · skip
      have hgd : allowB kd nn = false := by simp [allowB, h_1, h_23]
      refine lv_iconst (v := 0) hx hb dX11_predictor_23 (by decide) ?_
      refine lv_goto (tgt := 105) hx hb dX11_predictor_24 (by decide) ?_
      refine lv_istore_n (lv' := [(3, .int 0), (0, .ref (mo 0)), (1, .int kd), (2, .int nn)]) hx hb dX11_predictor_105 rfl hl (by decide) rfl (fun ls hl => ?_)
      refine lv_iload_n hx hb dX11_predictor_106 rfl (lv_at hl 0 rfl) ?_
      refine lv_if_ne (tgt := 112) hx hb dX11_predictor_107 (by decide) (fun h_24 => ?_) (fun h_24 => ?_)
      · skip
        exact absurd (by decide) h_24
      · skip
        refine lv_iconst (v := (-1)) hx hb dX11_predictor_110 (by decide) ?_
        exact e_iret C hQ () hT rfl dX11_predictor_111
    · skip
      refine lv_iload_n hx hb dX11_predictor_13 rfl (lv_at hl 2 rfl) ?_
      refine lv_bipush (v := 6) hx hb dX11_predictor_14 (by decide) ?_
      refine lv_icmp_gt (tgt := 23) hx hb dX11_predictor_16 (by decide) (fun h_25 => ?_) (fun h_25 => ?_)
      · skip
        have hgd : allowB kd nn = false := by simp [allowB, h_1, h_23, h_25]
        refine lv_iconst (v := 0) hx hb dX11_predictor_23 (by decide) ?_
        refine lv_goto (tgt := 105) hx hb dX11_predictor_24 (by decide) ?_
        refine lv_istore_n (lv' := [(3, .int 0), (0, .ref (mo 0)), (1, .int kd), (2, .int nn)]) hx hb dX11_predictor_105 rfl hl (by decide) rfl (fun ls hl => ?_)
        refine lv_iload_n hx hb dX11_predictor_106 rfl (lv_at hl 0 rfl) ?_
        refine lv_if_ne (tgt := 112) hx hb dX11_predictor_107 (by decide) (fun h_26 => ?_) (fun h_26 => ?_)
        · skip
          exact absurd (by decide) h_26
        · skip
          refine lv_iconst (v := (-1)) hx hb dX11_predictor_110 (by decide) ?_
          exact e_iret C hQ () hT rfl dX11_predictor_111
      · skip
        have hgd : allowB kd nn = true := by simp [allowB, h_1, h_23, h_25]
        refine lv_iconst (v := 1) hx hb dX11_predictor_19 (by decide) ?_
        refine lv_goto (tgt := 105) hx hb dX11_predictor_20 (by decide) ?_
        refine lv_istore_n (lv' := [(3, .int 1), (0, .ref (mo 0)), (1, .int kd), (2, .int nn)]) hx hb dX11_predictor_105 rfl hl (by decide) rfl (fun ls hl => ?_)
        refine lv_iload_n hx hb dX11_predictor_106 rfl (lv_at hl 0 rfl) ?_
        refine lv_if_ne (tgt := 112) hx hb dX11_predictor_107 (by decide) (fun h_27 => ?_) (fun h_27 => ?_)
        · skip
          exact absurd hgd (by rw [hal]; decide)
        · skip
          exact absurd h_27 (by decide)

set_option maxHeartbeats 400000 in
set_option maxRecDepth 100000 in
theorem c_X11_predictor_s (l : Launch) (g : GT) (mo : Nat → Nat) (rr : Nat) (th : Int32) (np : Nat) (no : Nat) (bt : Nat) (en : Bool) (xx : Int64) (ra : Nat) (t0 : Int32) (t1 : Int32) (s1 : Int32) (ca : Int32) (cq : Int32) (ch : Int32) (st : Nat → Int32) (fk : Nat → Int32) (fn : Nat → Int32) (fo : Nat → Int32) (bb : Nat → Int32) (wt : Nat → Int32) (nx : Nat → Int32) (cx : Nat → Int32) (pt : Nat → Int32) (le : Nat → Int32) (sc : Nat → Int32) (ss : Nat → Int32) (ww : Nat → Int32) (xc : Nat → Int32) (lo : Nat → Int64) (hi : Nat → Int64) (ou : Nat → Int32) (xi : Nat → Int32) (kd : Int32) (nn : Int32) (n : Nat) (hal2 : allowB kd nn = true) (hn : n ≤ 2000) (hst : en = true ∨ 0 < n ∨ 0 < bt) (hw : wt 0 = nI n) (hbt : bt ≤ 8) : OM (S := Unit) l g yX11_predictor cX11_predictor 4 (some .int) ({ frames := 1, cells := 0, slots := 0, locals := 20 } : Room) [.ref (mo 0), .int kd, .int nn] (mdL g mo rr th np no bt en xx ra t0 t1 s1 ca cq ch st fk fn fo bb wt nx cx pt le sc ss ww xc lo hi ou xi) (fun _ => some (.int (-4))) (fun _ => (mdL g mo rr 0 np no bt en xx ra t0 t1 s1 ca cq ch st fk fn fo bb wt nx cx pt le sc ss ww xc lo hi ou xi)) := by
  refine OM.startQ (by decide) (Nat.le_of_ble_eq_true rfl) ?_
  intro p e s m below meth c A ls Q H locs hQ C hnm hl hT
  have hx := C.x
  have hb := C.b
  have hl : lv_has ls 4 [(0, .ref (mo 0)), (1, .int kd), (2, .int nn)] := hl
  have kont_112 : ∀ (H : Heap) (locs : List Loc) (ls : Array Slot), Wd g A s (mdL g mo rr 0 np no bt en xx ra t0 t1 s1 ca cq ch st fk fn fo bb wt nx cx pt le sc ss ww xc lo hi ou xi) H locs → lv_has ls 4 [(0, .ref (mo 0)), (1, .int kd), (2, .int nn)] → W p l e ({ frames := 1, cells := 0, slots := 0, locals := 20 } : Room) s m ([.ref (mo 0), .int kd, .int nn] : List Value).toArray below meth c H locs 0 0 Q (F0 m 112 ls []) := by
    intro H locs ls hT hl
    refine lv_aload_n hx hb dX11_predictor_112 rfl (lv_at hl 0 rfl) ?_
    have hM := c_X11_hasWritten l g mo rr 0 np no bt en xx ra t0 t1 s1 ca cq ch st fk fn fo bb wt nx cx pt le sc ss ww xc lo hi ou xi n (by first | assumption | omega) (by first | assumption | omega) (by first | assumption | omega)
    refine r_callRO (js := [0, 1, 2, 3, 4, 5, 6, 7, 8, 9, 10, 11, 12, 13, 14, 15, 16, 17, 18]) C hT (runV (js := [0, 1, 2, 3, 4, 5, 6, 7, 8, 9, 10, 11, 12, 13, 14, 15, 16, 17, 18]) (rm := ({ frames := 0, cells := 0, slots := 0, locals := 0 } : Room)) (As := []) (n := 0) (q1 := 0) (rest := []) C hT hM rfl rfl k891 k893 s17 k15 k894 (by decide +kernel) rfl rfl rfl rfl (Nat.le_of_ble_eq_true rfl) hl.1 ⟨Nat.le_of_ble_eq_true rfl, Nat.le_of_ble_eq_true rfl⟩ ⟨Nat.le_of_ble_eq_true rfl, Nat.le_of_ble_eq_true rfl⟩ dX11_predictor_113) rfl rfl (fun u H locs hT => ?_)
    refine W.eq (g2 := F0 m 116 ls [.int (b01 (decide (0 < n) || (decide (0 < bt) || en)))]) rfl ?_
    refine lv_if_eq (tgt := 122) hx hb dX11_predictor_116 (by decide) (fun h_1 => ?_) (fun h_1 => ?_)
    · skip
      exact off_dead2 (Or.inr hst) hal2 (b01_f h_1)
    · skip
      refine lv_bipush (v := (-4)) hx hb dX11_predictor_119 (by decide) ?_
      exact e_iret C hQ () hT rfl dX11_predictor_121
  refine lv_aload_n hx hb dX11_predictor_0 rfl (lv_at hl 0 rfl) ?_
  refine lv_iconst (v := 0) hx hb dX11_predictor_1 (by decide) ?_
  refine pX11_77 C hT (q0 := 0) rfl dX11_predictor_2 (fun H locs hT => ?_)
  have hT : Wd g A s (mdL g mo rr 0 np no bt en xx ra t0 t1 s1 ca cq ch st fk fn fo bb wt nx cx pt le sc ss ww xc lo hi ou xi) H locs := hT
  refine lv_iload_n hx hb dX11_predictor_5 rfl (lv_at hl 1 rfl) ?_
  refine lv_if_ne (tgt := 27) hx hb dX11_predictor_6 (by decide) (fun h_2 => ?_) (fun h_2 => ?_)
  · skip
    refine lv_iload_n hx hb dX11_predictor_27 rfl (lv_at hl 1 rfl) ?_
    refine lv_iconst (v := 1) hx hb dX11_predictor_28 (by decide) ?_
    refine lv_icmp_ne (tgt := 36) hx hb dX11_predictor_29 (by decide) (fun h_3 => ?_) (fun h_3 => ?_)
    · skip
      refine lv_iload_n hx hb dX11_predictor_36 rfl (lv_at hl 1 rfl) ?_
      refine lv_iconst (v := 2) hx hb dX11_predictor_37 (by decide) ?_
      refine lv_icmp_ne (tgt := 60) hx hb dX11_predictor_38 (by decide) (fun h_4 => ?_) (fun h_4 => ?_)
      · skip
        refine lv_iload_n hx hb dX11_predictor_60 rfl (lv_at hl 1 rfl) ?_
        refine lv_iconst (v := 3) hx hb dX11_predictor_61 (by decide) ?_
        refine lv_icmp_ne (tgt := 84) hx hb dX11_predictor_62 (by decide) (fun h_5 => ?_) (fun h_5 => ?_)
        · skip
          refine lv_iload_n hx hb dX11_predictor_84 rfl (lv_at hl 1 rfl) ?_
          refine lv_iconst (v := 4) hx hb dX11_predictor_85 (by decide) ?_
          refine lv_icmp_ne (tgt := 104) hx hb dX11_predictor_86 (by decide) (fun h_6 => ?_) (fun h_6 => ?_)
          · skip
            have hgd : allowB kd nn = false := by simp [allowB, h_2, h_3, h_4, h_5, h_6]
            refine lv_iconst (v := 0) hx hb dX11_predictor_104 (by decide) ?_
            refine lv_istore_n (lv' := [(3, .int 0), (0, .ref (mo 0)), (1, .int kd), (2, .int nn)]) hx hb dX11_predictor_105 rfl hl (by decide) rfl (fun ls hl => ?_)
            refine lv_iload_n hx hb dX11_predictor_106 rfl (lv_at hl 0 rfl) ?_
            refine lv_if_ne (tgt := 112) hx hb dX11_predictor_107 (by decide) (fun h_7 => ?_) (fun h_7 => ?_)
            · skip
              exact absurd (by decide) h_7
            · skip
              exact absurd hal2 (by rw [hgd]; decide)
          · skip
            refine lv_iload_n hx hb dX11_predictor_89 rfl (lv_at hl 2 rfl) ?_
            refine lv_iconst (v := 3) hx hb dX11_predictor_90 (by decide) ?_
            refine lv_icmp_lt (tgt := 104) hx hb dX11_predictor_91 (by decide) (fun h_8 => ?_) (fun h_8 => ?_)
            · skip
              have hgd : allowB kd nn = false := by simp [allowB, h_2, h_3, h_4, h_5, h_6, h_8]
              refine lv_iconst (v := 0) hx hb dX11_predictor_104 (by decide) ?_
              refine lv_istore_n (lv' := [(3, .int 0), (0, .ref (mo 0)), (1, .int kd), (2, .int nn)]) hx hb dX11_predictor_105 rfl hl (by decide) rfl (fun ls hl => ?_)
              refine lv_iload_n hx hb dX11_predictor_106 rfl (lv_at hl 0 rfl) ?_
              refine lv_if_ne (tgt := 112) hx hb dX11_predictor_107 (by decide) (fun h_9 => ?_) (fun h_9 => ?_)
              · skip
                exact absurd (by decide) h_9
              · skip
                exact absurd hal2 (by rw [hgd]; decide)
            · skip
              refine lv_iload_n hx hb dX11_predictor_94 rfl (lv_at hl 2 rfl) ?_
              refine lv_bipush (v := 8) hx hb dX11_predictor_95 (by decide) ?_
              refine lv_icmp_gt (tgt := 104) hx hb dX11_predictor_97 (by decide) (fun h_10 => ?_) (fun h_10 => ?_)
              · skip
                have hgd : allowB kd nn = false := by simp [allowB, h_2, h_3, h_4, h_5, h_6, h_8, h_10]
                refine lv_iconst (v := 0) hx hb dX11_predictor_104 (by decide) ?_
                refine lv_istore_n (lv' := [(3, .int 0), (0, .ref (mo 0)), (1, .int kd), (2, .int nn)]) hx hb dX11_predictor_105 rfl hl (by decide) rfl (fun ls hl => ?_)
                refine lv_iload_n hx hb dX11_predictor_106 rfl (lv_at hl 0 rfl) ?_
                refine lv_if_ne (tgt := 112) hx hb dX11_predictor_107 (by decide) (fun h_11 => ?_) (fun h_11 => ?_)
                · skip
                  exact absurd (by decide) h_11
                · skip
                  exact absurd hal2 (by rw [hgd]; decide)
              · skip
                have hgd : allowB kd nn = true := by simp [allowB, h_2, h_3, h_4, h_5, h_6, h_8, h_10]
                refine lv_iconst (v := 1) hx hb dX11_predictor_100 (by decide) ?_
                refine lv_goto (tgt := 105) hx hb dX11_predictor_101 (by decide) ?_
                refine lv_istore_n (lv' := [(3, .int 1), (0, .ref (mo 0)), (1, .int kd), (2, .int nn)]) hx hb dX11_predictor_105 rfl hl (by decide) rfl (fun ls hl => ?_)
                refine lv_iload_n hx hb dX11_predictor_106 rfl (lv_at hl 0 rfl) ?_
                refine lv_if_ne (tgt := 112) hx hb dX11_predictor_107 (by decide) (fun h_12 => ?_) (fun h_12 => ?_)
                · skip
                  exact kont_112  H locs ls  hT (lv_sub hl [1, 2, 3] rfl)
                · skip
                  exact absurd h_12 (by decide)
        · skip
          refine lv_iload_n hx hb dX11_predictor_65 rfl (lv_at hl 2 rfl) ?_
          refine lv_iconst (v := 1) hx hb dX11_predictor_66 (by decide) ?_
          refine lv_icmp_lt (tgt := 80) hx hb dX11_predictor_67 (by decide) (fun h_13 => ?_) (fun h_13 => ?_)
          · skip
            have hgd : allowB kd nn = false := by simp [allowB, h_2, h_3, h_4, h_5, h_13]
            refine lv_iconst (v := 0) hx hb dX11_predictor_80 (by decide) ?_
            refine lv_goto (tgt := 105) hx hb dX11_predictor_81 (by decide) ?_
            refine lv_istore_n (lv' := [(3, .int 0), (0, .ref (mo 0)), (1, .int kd), (2, .int nn)]) hx hb dX11_predictor_105 rfl hl (by decide) rfl (fun ls hl => ?_)
            refine lv_iload_n hx hb dX11_predictor_106 rfl (lv_at hl 0 rfl) ?_
            refine lv_if_ne (tgt := 112) hx hb dX11_predictor_107 (by decide) (fun h_14 => ?_) (fun h_14 => ?_)
            · skip
              exact absurd (by decide) h_14
            · skip
              exact absurd hal2 (by rw [hgd]; decide)
          · skip
            refine lv_iload_n hx hb dX11_predictor_70 rfl (lv_at hl 2 rfl) ?_
            refine lv_bipush (v := 15) hx hb dX11_predictor_71 (by decide) ?_
            refine lv_icmp_gt (tgt := 80) hx hb dX11_predictor_73 (by decide) (fun h_15 => ?_) (fun h_15 => ?_)
            · skip
              have hgd : allowB kd nn = false := by simp [allowB, h_2, h_3, h_4, h_5, h_13, h_15]
              refine lv_iconst (v := 0) hx hb dX11_predictor_80 (by decide) ?_
              refine lv_goto (tgt := 105) hx hb dX11_predictor_81 (by decide) ?_
              refine lv_istore_n (lv' := [(3, .int 0), (0, .ref (mo 0)), (1, .int kd), (2, .int nn)]) hx hb dX11_predictor_105 rfl hl (by decide) rfl (fun ls hl => ?_)
              refine lv_iload_n hx hb dX11_predictor_106 rfl (lv_at hl 0 rfl) ?_
              refine lv_if_ne (tgt := 112) hx hb dX11_predictor_107 (by decide) (fun h_16 => ?_) (fun h_16 => ?_)
              · skip
                exact absurd (by decide) h_16
              · skip
                exact absurd hal2 (by rw [hgd]; decide)
            · skip
              have hgd : allowB kd nn = true := by simp [allowB, h_2, h_3, h_4, h_5, h_13, h_15]
              refine lv_iconst (v := 1) hx hb dX11_predictor_76 (by decide) ?_
              refine lv_goto (tgt := 105) hx hb dX11_predictor_77 (by decide) ?_
              refine lv_istore_n (lv' := [(3, .int 1), (0, .ref (mo 0)), (1, .int kd), (2, .int nn)]) hx hb dX11_predictor_105 rfl hl (by decide) rfl (fun ls hl => ?_)
              refine lv_iload_n hx hb dX11_predictor_106 rfl (lv_at hl 0 rfl) ?_
              refine lv_if_ne (tgt := 112) hx hb dX11_predictor_107 (by decide) (fun h_17 => ?_) (fun h_17 => ?_)
              · skip
                exact kont_112  H locs ls  hT (lv_sub hl [1, 2, 3] rfl)
              · skip
                exact absurd h_17 (by decide)
      · skip
        refine lv_iload_n hx hb dX11_predictor_41 rfl (lv_at hl 2 rfl) ?_
        refine lv_iconst (v := 1) hx hb dX11_predictor_42 (by decide) ?_
        refine lv_icmp_lt (tgt := 56) hx hb dX11_predictor_43 (by decide) (fun h_18 => ?_) (fun h_18 => ?_)
        · skip
          have hgd : allowB kd nn = false := by simp [allowB, h_2, h_3, h_4, h_18]
          refine lv_iconst (v := 0) hx hb dX11_predictor_56 (by decide) ?_
          refine lv_goto (tgt := 105) hx hb dX11_predictor_57 (by decide) ?_
          refine lv_istore_n (lv' := [(3, .int 0), (0, .ref (mo 0)), (1, .int kd), (2, .int nn)]) hx hb dX11_predictor_105 rfl hl (by decide) rfl (fun ls hl => ?_)
          refine lv_iload_n hx hb dX11_predictor_106 rfl (lv_at hl 0 rfl) ?_
          refine lv_if_ne (tgt := 112) hx hb dX11_predictor_107 (by decide) (fun h_19 => ?_) (fun h_19 => ?_)
          · skip
            exact absurd (by decide) h_19
          · skip
            exact absurd hal2 (by rw [hgd]; decide)
        · skip
          refine lv_iload_n hx hb dX11_predictor_46 rfl (lv_at hl 2 rfl) ?_
          refine lv_bipush (v := 64) hx hb dX11_predictor_47 (by decide) ?_
          refine lv_icmp_gt (tgt := 56) hx hb dX11_predictor_49 (by decide) (fun h_20 => ?_) (fun h_20 => ?_)
          · skip
            have hgd : allowB kd nn = false := by simp [allowB, h_2, h_3, h_4, h_18, h_20]
            refine lv_iconst (v := 0) hx hb dX11_predictor_56 (by decide) ?_
            refine lv_goto (tgt := 105) hx hb dX11_predictor_57 (by decide) ?_
            refine lv_istore_n (lv' := [(3, .int 0), (0, .ref (mo 0)), (1, .int kd), (2, .int nn)]) hx hb dX11_predictor_105 rfl hl (by decide) rfl (fun ls hl => ?_)
            refine lv_iload_n hx hb dX11_predictor_106 rfl (lv_at hl 0 rfl) ?_
            refine lv_if_ne (tgt := 112) hx hb dX11_predictor_107 (by decide) (fun h_21 => ?_) (fun h_21 => ?_)
            · skip
              exact absurd (by decide) h_21
            · skip
              exact absurd hal2 (by rw [hgd]; decide)
          · skip
            have hgd : allowB kd nn = true := by simp [allowB, h_2, h_3, h_4, h_18, h_20]
            refine lv_iconst (v := 1) hx hb dX11_predictor_52 (by decide) ?_
            refine lv_goto (tgt := 105) hx hb dX11_predictor_53 (by decide) ?_
            refine lv_istore_n (lv' := [(3, .int 1), (0, .ref (mo 0)), (1, .int kd), (2, .int nn)]) hx hb dX11_predictor_105 rfl hl (by decide) rfl (fun ls hl => ?_)
            refine lv_iload_n hx hb dX11_predictor_106 rfl (lv_at hl 0 rfl) ?_
            refine lv_if_ne (tgt := 112) hx hb dX11_predictor_107 (by decide) (fun h_22 => ?_) (fun h_22 => ?_)
            · skip
              exact kont_112  H locs ls  hT (lv_sub hl [1, 2, 3] rfl)
            · skip
              exact absurd h_22 (by decide)
    · skip
      have hgd : allowB kd nn = true := by simp [allowB, h_2, h_3]
      refine lv_iconst (v := 1) hx hb dX11_predictor_32 (by decide) ?_
      refine lv_goto (tgt := 105) hx hb dX11_predictor_33 (by decide) ?_
      refine lv_istore_n (lv' := [(3, .int 1), (0, .ref (mo 0)), (1, .int kd), (2, .int nn)]) hx hb dX11_predictor_105 rfl hl (by decide) rfl (fun ls hl => ?_)
      refine lv_iload_n hx hb dX11_predictor_106 rfl (lv_at hl 0 rfl) ?_
      refine lv_if_ne (tgt := 112) hx hb dX11_predictor_107 (by decide) (fun h_23 => ?_) (fun h_23 => ?_)
      · skip
        exact kont_112  H locs ls  hT (lv_sub hl [1, 2, 3] rfl)
      · skip
        exact absurd h_23 (by decide)
  · skip
    refine lv_iload_n hx hb dX11_predictor_9 rfl (lv_at hl 2 rfl) ?_
    refine lv_if_lt (tgt := 23) hx hb dX11_predictor_10 (by decide) (fun h_24 => ?_) (fun h_24 => ?_)
    · skip
      have hgd : allowB kd nn = false := by simp [allowB, h_2, h_24]
      refine lv_iconst (v := 0) hx hb dX11_predictor_23 (by decide) ?_
      refine lv_goto (tgt := 105) hx hb dX11_predictor_24 (by decide) ?_
      refine lv_istore_n (lv' := [(3, .int 0), (0, .ref (mo 0)), (1, .int kd), (2, .int nn)]) hx hb dX11_predictor_105 rfl hl (by decide) rfl (fun ls hl => ?_)
      refine lv_iload_n hx hb dX11_predictor_106 rfl (lv_at hl 0 rfl) ?_
      refine lv_if_ne (tgt := 112) hx hb dX11_predictor_107 (by decide) (fun h_25 => ?_) (fun h_25 => ?_)
      · skip
        exact absurd (by decide) h_25
      · skip
        exact absurd hal2 (by rw [hgd]; decide)
    · skip
      refine lv_iload_n hx hb dX11_predictor_13 rfl (lv_at hl 2 rfl) ?_
      refine lv_bipush (v := 6) hx hb dX11_predictor_14 (by decide) ?_
      refine lv_icmp_gt (tgt := 23) hx hb dX11_predictor_16 (by decide) (fun h_26 => ?_) (fun h_26 => ?_)
      · skip
        have hgd : allowB kd nn = false := by simp [allowB, h_2, h_24, h_26]
        refine lv_iconst (v := 0) hx hb dX11_predictor_23 (by decide) ?_
        refine lv_goto (tgt := 105) hx hb dX11_predictor_24 (by decide) ?_
        refine lv_istore_n (lv' := [(3, .int 0), (0, .ref (mo 0)), (1, .int kd), (2, .int nn)]) hx hb dX11_predictor_105 rfl hl (by decide) rfl (fun ls hl => ?_)
        refine lv_iload_n hx hb dX11_predictor_106 rfl (lv_at hl 0 rfl) ?_
        refine lv_if_ne (tgt := 112) hx hb dX11_predictor_107 (by decide) (fun h_27 => ?_) (fun h_27 => ?_)
        · skip
          exact absurd (by decide) h_27
        · skip
          exact absurd hal2 (by rw [hgd]; decide)
      · skip
        have hgd : allowB kd nn = true := by simp [allowB, h_2, h_24, h_26]
        refine lv_iconst (v := 1) hx hb dX11_predictor_19 (by decide) ?_
        refine lv_goto (tgt := 105) hx hb dX11_predictor_20 (by decide) ?_
        refine lv_istore_n (lv' := [(3, .int 1), (0, .ref (mo 0)), (1, .int kd), (2, .int nn)]) hx hb dX11_predictor_105 rfl hl (by decide) rfl (fun ls hl => ?_)
        refine lv_iload_n hx hb dX11_predictor_106 rfl (lv_at hl 0 rfl) ?_
        refine lv_if_ne (tgt := 112) hx hb dX11_predictor_107 (by decide) (fun h_28 => ?_) (fun h_28 => ?_)
        · skip
          exact kont_112  H locs ls  hT (lv_sub hl [1, 2, 3] rfl)
        · skip
          exact absurd h_28 (by decide)

set_option maxHeartbeats 400000 in
set_option maxRecDepth 100000 in
theorem c_X11_predictor_f (l : Launch) (g : GT) (mo : Nat → Nat) (rr : Nat) (th : Int32) (np : Nat) (no : Nat) (bt : Nat) (en : Bool) (xx : Int64) (ra : Nat) (t0 : Int32) (t1 : Int32) (s1 : Int32) (ca : Int32) (cq : Int32) (ch : Int32) (st : Nat → Int32) (fk : Nat → Int32) (fn : Nat → Int32) (fo : Nat → Int32) (bb : Nat → Int32) (wt : Nat → Int32) (nx : Nat → Int32) (cx : Nat → Int32) (pt : Nat → Int32) (le : Nat → Int32) (sc : Nat → Int32) (ss : Nat → Int32) (ww : Nat → Int32) (xc : Nat → Int32) (lo : Nat → Int64) (hi : Nat → Int64) (ou : Nat → Int32) (xi : Nat → Int32) (kd : Int32) (nn : Int32) (n : Nat) (hal2 : allowB kd nn = true) (h8 : np = 8) (hen : en = false) (hb0 : n = 0) (hb1 : bt = 0) (hw : wt 0 = nI n) (hbt : bt ≤ 8) : OM (S := Unit) l g yX11_predictor cX11_predictor 4 (some .int) ({ frames := 1, cells := 0, slots := 0, locals := 20 } : Room) [.ref (mo 0), .int kd, .int nn] (mdL g mo rr th np no bt en xx ra t0 t1 s1 ca cq ch st fk fn fo bb wt nx cx pt le sc ss ww xc lo hi ou xi) (fun _ => some (.int (-3))) (fun _ => (mdL g mo rr 0 np no bt en xx ra t0 t1 s1 ca cq ch st fk fn fo bb wt nx cx pt le sc ss ww xc lo hi ou xi)) := by
  refine OM.startQ (by decide) (Nat.le_of_ble_eq_true rfl) ?_
  intro p e s m below meth c A ls Q H locs hQ C hnm hl hT
  have hx := C.x
  have hb := C.b
  have hl : lv_has ls 4 [(0, .ref (mo 0)), (1, .int kd), (2, .int nn)] := hl
  have kont_112 : ∀ (H : Heap) (locs : List Loc) (ls : Array Slot), Wd g A s (mdL g mo rr 0 np no bt en xx ra t0 t1 s1 ca cq ch st fk fn fo bb wt nx cx pt le sc ss ww xc lo hi ou xi) H locs → lv_has ls 4 [(0, .ref (mo 0)), (1, .int kd), (2, .int nn)] → W p l e ({ frames := 1, cells := 0, slots := 0, locals := 20 } : Room) s m ([.ref (mo 0), .int kd, .int nn] : List Value).toArray below meth c H locs 0 0 Q (F0 m 112 ls []) := by
    intro H locs ls hT hl
    refine lv_aload_n hx hb dX11_predictor_112 rfl (lv_at hl 0 rfl) ?_
    have hM := c_X11_hasWritten l g mo rr 0 np no bt en xx ra t0 t1 s1 ca cq ch st fk fn fo bb wt nx cx pt le sc ss ww xc lo hi ou xi n (by first | assumption | omega) (by omega) (by first | assumption | omega)
    refine r_callRO (js := [0, 1, 2, 3, 4, 5, 6, 7, 8, 9, 10, 11, 12, 13, 14, 15, 16, 17, 18]) C hT (runV (js := [0, 1, 2, 3, 4, 5, 6, 7, 8, 9, 10, 11, 12, 13, 14, 15, 16, 17, 18]) (rm := ({ frames := 0, cells := 0, slots := 0, locals := 0 } : Room)) (As := []) (n := 0) (q1 := 0) (rest := []) C hT hM rfl rfl k891 k893 s17 k15 k894 (by decide +kernel) rfl rfl rfl rfl (Nat.le_of_ble_eq_true rfl) hl.1 ⟨Nat.le_of_ble_eq_true rfl, Nat.le_of_ble_eq_true rfl⟩ ⟨Nat.le_of_ble_eq_true rfl, Nat.le_of_ble_eq_true rfl⟩ dX11_predictor_113) rfl rfl (fun u H locs hT => ?_)
    refine W.eq (g2 := F0 m 116 ls [.int (b01 (decide (0 < n) || (decide (0 < bt) || en)))]) rfl ?_
    refine lv_if_eq (tgt := 122) hx hb dX11_predictor_116 (by decide) (fun h_1 => ?_) (fun h_1 => ?_)
    · skip
      refine lv_aload_n hx hb dX11_predictor_122 rfl (lv_at hl 0 rfl) ?_
      refine gX11_91 C hT (q0 := 0) rfl dX11_predictor_123 ?_
      refine lv_bipush (v := 8) hx hb dX11_predictor_126 (by decide) ?_
      refine lv_icmp_ne (tgt := 134) hx hb dX11_predictor_128 (by decide) (fun h_2 => ?_) (fun h_2 => ?_)
      · skip
        exact absurd (by rw [h8]; rfl) h_2
      · skip
        refine lv_bipush (v := (-3)) hx hb dX11_predictor_131 (by decide) ?_
        exact e_iret C hQ () hT rfl dX11_predictor_133
    · skip
      exact absurd (b01_t h_1) (by rw [hen, hb0, hb1]; decide)
  refine lv_aload_n hx hb dX11_predictor_0 rfl (lv_at hl 0 rfl) ?_
  refine lv_iconst (v := 0) hx hb dX11_predictor_1 (by decide) ?_
  refine pX11_77 C hT (q0 := 0) rfl dX11_predictor_2 (fun H locs hT => ?_)
  have hT : Wd g A s (mdL g mo rr 0 np no bt en xx ra t0 t1 s1 ca cq ch st fk fn fo bb wt nx cx pt le sc ss ww xc lo hi ou xi) H locs := hT
  refine lv_iload_n hx hb dX11_predictor_5 rfl (lv_at hl 1 rfl) ?_
  refine lv_if_ne (tgt := 27) hx hb dX11_predictor_6 (by decide) (fun h_3 => ?_) (fun h_3 => ?_)
  · skip
    refine lv_iload_n hx hb dX11_predictor_27 rfl (lv_at hl 1 rfl) ?_
    refine lv_iconst (v := 1) hx hb dX11_predictor_28 (by decide) ?_
    refine lv_icmp_ne (tgt := 36) hx hb dX11_predictor_29 (by decide) (fun h_4 => ?_) (fun h_4 => ?_)
    · skip
      refine lv_iload_n hx hb dX11_predictor_36 rfl (lv_at hl 1 rfl) ?_
      refine lv_iconst (v := 2) hx hb dX11_predictor_37 (by decide) ?_
      refine lv_icmp_ne (tgt := 60) hx hb dX11_predictor_38 (by decide) (fun h_5 => ?_) (fun h_5 => ?_)
      · skip
        refine lv_iload_n hx hb dX11_predictor_60 rfl (lv_at hl 1 rfl) ?_
        refine lv_iconst (v := 3) hx hb dX11_predictor_61 (by decide) ?_
        refine lv_icmp_ne (tgt := 84) hx hb dX11_predictor_62 (by decide) (fun h_6 => ?_) (fun h_6 => ?_)
        · skip
          refine lv_iload_n hx hb dX11_predictor_84 rfl (lv_at hl 1 rfl) ?_
          refine lv_iconst (v := 4) hx hb dX11_predictor_85 (by decide) ?_
          refine lv_icmp_ne (tgt := 104) hx hb dX11_predictor_86 (by decide) (fun h_7 => ?_) (fun h_7 => ?_)
          · skip
            have hgd : allowB kd nn = false := by simp [allowB, h_3, h_4, h_5, h_6, h_7]
            refine lv_iconst (v := 0) hx hb dX11_predictor_104 (by decide) ?_
            refine lv_istore_n (lv' := [(3, .int 0), (0, .ref (mo 0)), (1, .int kd), (2, .int nn)]) hx hb dX11_predictor_105 rfl hl (by decide) rfl (fun ls hl => ?_)
            refine lv_iload_n hx hb dX11_predictor_106 rfl (lv_at hl 0 rfl) ?_
            refine lv_if_ne (tgt := 112) hx hb dX11_predictor_107 (by decide) (fun h_8 => ?_) (fun h_8 => ?_)
            · skip
              exact absurd (by decide) h_8
            · skip
              exact absurd hal2 (by rw [hgd]; decide)
          · skip
            refine lv_iload_n hx hb dX11_predictor_89 rfl (lv_at hl 2 rfl) ?_
            refine lv_iconst (v := 3) hx hb dX11_predictor_90 (by decide) ?_
            refine lv_icmp_lt (tgt := 104) hx hb dX11_predictor_91 (by decide) (fun h_9 => ?_) (fun h_9 => ?_)
            · skip
              have hgd : allowB kd nn = false := by simp [allowB, h_3, h_4, h_5, h_6, h_7, h_9]
              refine lv_iconst (v := 0) hx hb dX11_predictor_104 (by decide) ?_
              refine lv_istore_n (lv' := [(3, .int 0), (0, .ref (mo 0)), (1, .int kd), (2, .int nn)]) hx hb dX11_predictor_105 rfl hl (by decide) rfl (fun ls hl => ?_)
              refine lv_iload_n hx hb dX11_predictor_106 rfl (lv_at hl 0 rfl) ?_
              refine lv_if_ne (tgt := 112) hx hb dX11_predictor_107 (by decide) (fun h_10 => ?_) (fun h_10 => ?_)
              · skip
                exact absurd (by decide) h_10
              · skip
                exact absurd hal2 (by rw [hgd]; decide)
            · skip
              refine lv_iload_n hx hb dX11_predictor_94 rfl (lv_at hl 2 rfl) ?_
              refine lv_bipush (v := 8) hx hb dX11_predictor_95 (by decide) ?_
              refine lv_icmp_gt (tgt := 104) hx hb dX11_predictor_97 (by decide) (fun h_11 => ?_) (fun h_11 => ?_)
              · skip
                have hgd : allowB kd nn = false := by simp [allowB, h_3, h_4, h_5, h_6, h_7, h_9, h_11]
                refine lv_iconst (v := 0) hx hb dX11_predictor_104 (by decide) ?_
                refine lv_istore_n (lv' := [(3, .int 0), (0, .ref (mo 0)), (1, .int kd), (2, .int nn)]) hx hb dX11_predictor_105 rfl hl (by decide) rfl (fun ls hl => ?_)
                refine lv_iload_n hx hb dX11_predictor_106 rfl (lv_at hl 0 rfl) ?_
                refine lv_if_ne (tgt := 112) hx hb dX11_predictor_107 (by decide) (fun h_12 => ?_) (fun h_12 => ?_)
                · skip
                  exact absurd (by decide) h_12
                · skip
                  exact absurd hal2 (by rw [hgd]; decide)
              · skip
                have hgd : allowB kd nn = true := by simp [allowB, h_3, h_4, h_5, h_6, h_7, h_9, h_11]
                refine lv_iconst (v := 1) hx hb dX11_predictor_100 (by decide) ?_
                refine lv_goto (tgt := 105) hx hb dX11_predictor_101 (by decide) ?_
                refine lv_istore_n (lv' := [(3, .int 1), (0, .ref (mo 0)), (1, .int kd), (2, .int nn)]) hx hb dX11_predictor_105 rfl hl (by decide) rfl (fun ls hl => ?_)
                refine lv_iload_n hx hb dX11_predictor_106 rfl (lv_at hl 0 rfl) ?_
                refine lv_if_ne (tgt := 112) hx hb dX11_predictor_107 (by decide) (fun h_13 => ?_) (fun h_13 => ?_)
                · skip
                  exact kont_112  H locs ls  hT (lv_sub hl [1, 2, 3] rfl)
                · skip
                  exact absurd h_13 (by decide)
        · skip
          refine lv_iload_n hx hb dX11_predictor_65 rfl (lv_at hl 2 rfl) ?_
          refine lv_iconst (v := 1) hx hb dX11_predictor_66 (by decide) ?_
          refine lv_icmp_lt (tgt := 80) hx hb dX11_predictor_67 (by decide) (fun h_14 => ?_) (fun h_14 => ?_)
          · skip
            have hgd : allowB kd nn = false := by simp [allowB, h_3, h_4, h_5, h_6, h_14]
            refine lv_iconst (v := 0) hx hb dX11_predictor_80 (by decide) ?_
            refine lv_goto (tgt := 105) hx hb dX11_predictor_81 (by decide) ?_
            refine lv_istore_n (lv' := [(3, .int 0), (0, .ref (mo 0)), (1, .int kd), (2, .int nn)]) hx hb dX11_predictor_105 rfl hl (by decide) rfl (fun ls hl => ?_)
            refine lv_iload_n hx hb dX11_predictor_106 rfl (lv_at hl 0 rfl) ?_
            refine lv_if_ne (tgt := 112) hx hb dX11_predictor_107 (by decide) (fun h_15 => ?_) (fun h_15 => ?_)
            · skip
              exact absurd (by decide) h_15
            · skip
              exact absurd hal2 (by rw [hgd]; decide)
          · skip
            refine lv_iload_n hx hb dX11_predictor_70 rfl (lv_at hl 2 rfl) ?_
            refine lv_bipush (v := 15) hx hb dX11_predictor_71 (by decide) ?_
            refine lv_icmp_gt (tgt := 80) hx hb dX11_predictor_73 (by decide) (fun h_16 => ?_) (fun h_16 => ?_)
            · skip
              have hgd : allowB kd nn = false := by simp [allowB, h_3, h_4, h_5, h_6, h_14, h_16]
              refine lv_iconst (v := 0) hx hb dX11_predictor_80 (by decide) ?_
              refine lv_goto (tgt := 105) hx hb dX11_predictor_81 (by decide) ?_
              refine lv_istore_n (lv' := [(3, .int 0), (0, .ref (mo 0)), (1, .int kd), (2, .int nn)]) hx hb dX11_predictor_105 rfl hl (by decide) rfl (fun ls hl => ?_)
              refine lv_iload_n hx hb dX11_predictor_106 rfl (lv_at hl 0 rfl) ?_
              refine lv_if_ne (tgt := 112) hx hb dX11_predictor_107 (by decide) (fun h_17 => ?_) (fun h_17 => ?_)
              · skip
                exact absurd (by decide) h_17
              · skip
                exact absurd hal2 (by rw [hgd]; decide)
            · skip
              have hgd : allowB kd nn = true := by simp [allowB, h_3, h_4, h_5, h_6, h_14, h_16]
              refine lv_iconst (v := 1) hx hb dX11_predictor_76 (by decide) ?_
              refine lv_goto (tgt := 105) hx hb dX11_predictor_77 (by decide) ?_
              refine lv_istore_n (lv' := [(3, .int 1), (0, .ref (mo 0)), (1, .int kd), (2, .int nn)]) hx hb dX11_predictor_105 rfl hl (by decide) rfl (fun ls hl => ?_)
              refine lv_iload_n hx hb dX11_predictor_106 rfl (lv_at hl 0 rfl) ?_
              refine lv_if_ne (tgt := 112) hx hb dX11_predictor_107 (by decide) (fun h_18 => ?_) (fun h_18 => ?_)
              · skip
                exact kont_112  H locs ls  hT (lv_sub hl [1, 2, 3] rfl)
              · skip
                exact absurd h_18 (by decide)
      · skip
        refine lv_iload_n hx hb dX11_predictor_41 rfl (lv_at hl 2 rfl) ?_
        refine lv_iconst (v := 1) hx hb dX11_predictor_42 (by decide) ?_
        refine lv_icmp_lt (tgt := 56) hx hb dX11_predictor_43 (by decide) (fun h_19 => ?_) (fun h_19 => ?_)
        · skip
          have hgd : allowB kd nn = false := by simp [allowB, h_3, h_4, h_5, h_19]
          refine lv_iconst (v := 0) hx hb dX11_predictor_56 (by decide) ?_
          refine lv_goto (tgt := 105) hx hb dX11_predictor_57 (by decide) ?_
          refine lv_istore_n (lv' := [(3, .int 0), (0, .ref (mo 0)), (1, .int kd), (2, .int nn)]) hx hb dX11_predictor_105 rfl hl (by decide) rfl (fun ls hl => ?_)
          refine lv_iload_n hx hb dX11_predictor_106 rfl (lv_at hl 0 rfl) ?_
          refine lv_if_ne (tgt := 112) hx hb dX11_predictor_107 (by decide) (fun h_20 => ?_) (fun h_20 => ?_)
          · skip
            exact absurd (by decide) h_20
          · skip
            exact absurd hal2 (by rw [hgd]; decide)
        · skip
          refine lv_iload_n hx hb dX11_predictor_46 rfl (lv_at hl 2 rfl) ?_
          refine lv_bipush (v := 64) hx hb dX11_predictor_47 (by decide) ?_
          refine lv_icmp_gt (tgt := 56) hx hb dX11_predictor_49 (by decide) (fun h_21 => ?_) (fun h_21 => ?_)
          · skip
            have hgd : allowB kd nn = false := by simp [allowB, h_3, h_4, h_5, h_19, h_21]
            refine lv_iconst (v := 0) hx hb dX11_predictor_56 (by decide) ?_
            refine lv_goto (tgt := 105) hx hb dX11_predictor_57 (by decide) ?_
            refine lv_istore_n (lv' := [(3, .int 0), (0, .ref (mo 0)), (1, .int kd), (2, .int nn)]) hx hb dX11_predictor_105 rfl hl (by decide) rfl (fun ls hl => ?_)
            refine lv_iload_n hx hb dX11_predictor_106 rfl (lv_at hl 0 rfl) ?_
            refine lv_if_ne (tgt := 112) hx hb dX11_predictor_107 (by decide) (fun h_22 => ?_) (fun h_22 => ?_)
            · skip
              exact absurd (by decide) h_22
            · skip
              exact absurd hal2 (by rw [hgd]; decide)
          · skip
            have hgd : allowB kd nn = true := by simp [allowB, h_3, h_4, h_5, h_19, h_21]
            refine lv_iconst (v := 1) hx hb dX11_predictor_52 (by decide) ?_
            refine lv_goto (tgt := 105) hx hb dX11_predictor_53 (by decide) ?_
            refine lv_istore_n (lv' := [(3, .int 1), (0, .ref (mo 0)), (1, .int kd), (2, .int nn)]) hx hb dX11_predictor_105 rfl hl (by decide) rfl (fun ls hl => ?_)
            refine lv_iload_n hx hb dX11_predictor_106 rfl (lv_at hl 0 rfl) ?_
            refine lv_if_ne (tgt := 112) hx hb dX11_predictor_107 (by decide) (fun h_23 => ?_) (fun h_23 => ?_)
            · skip
              exact kont_112  H locs ls  hT (lv_sub hl [1, 2, 3] rfl)
            · skip
              exact absurd h_23 (by decide)
    · skip
      have hgd : allowB kd nn = true := by simp [allowB, h_3, h_4]
      refine lv_iconst (v := 1) hx hb dX11_predictor_32 (by decide) ?_
      refine lv_goto (tgt := 105) hx hb dX11_predictor_33 (by decide) ?_
      refine lv_istore_n (lv' := [(3, .int 1), (0, .ref (mo 0)), (1, .int kd), (2, .int nn)]) hx hb dX11_predictor_105 rfl hl (by decide) rfl (fun ls hl => ?_)
      refine lv_iload_n hx hb dX11_predictor_106 rfl (lv_at hl 0 rfl) ?_
      refine lv_if_ne (tgt := 112) hx hb dX11_predictor_107 (by decide) (fun h_24 => ?_) (fun h_24 => ?_)
      · skip
        exact kont_112  H locs ls  hT (lv_sub hl [1, 2, 3] rfl)
      · skip
        exact absurd h_24 (by decide)
  · skip
    refine lv_iload_n hx hb dX11_predictor_9 rfl (lv_at hl 2 rfl) ?_
    refine lv_if_lt (tgt := 23) hx hb dX11_predictor_10 (by decide) (fun h_25 => ?_) (fun h_25 => ?_)
    · skip
      have hgd : allowB kd nn = false := by simp [allowB, h_3, h_25]
      refine lv_iconst (v := 0) hx hb dX11_predictor_23 (by decide) ?_
      refine lv_goto (tgt := 105) hx hb dX11_predictor_24 (by decide) ?_
      refine lv_istore_n (lv' := [(3, .int 0), (0, .ref (mo 0)), (1, .int kd), (2, .int nn)]) hx hb dX11_predictor_105 rfl hl (by decide) rfl (fun ls hl => ?_)
      refine lv_iload_n hx hb dX11_predictor_106 rfl (lv_at hl 0 rfl) ?_
      refine lv_if_ne (tgt := 112) hx hb dX11_predictor_107 (by decide) (fun h_26 => ?_) (fun h_26 => ?_)
      · skip
        exact absurd (by decide) h_26
      · skip
        exact absurd hal2 (by rw [hgd]; decide)
    · skip
      refine lv_iload_n hx hb dX11_predictor_13 rfl (lv_at hl 2 rfl) ?_
      refine lv_bipush (v := 6) hx hb dX11_predictor_14 (by decide) ?_
      refine lv_icmp_gt (tgt := 23) hx hb dX11_predictor_16 (by decide) (fun h_27 => ?_) (fun h_27 => ?_)
      · skip
        have hgd : allowB kd nn = false := by simp [allowB, h_3, h_25, h_27]
        refine lv_iconst (v := 0) hx hb dX11_predictor_23 (by decide) ?_
        refine lv_goto (tgt := 105) hx hb dX11_predictor_24 (by decide) ?_
        refine lv_istore_n (lv' := [(3, .int 0), (0, .ref (mo 0)), (1, .int kd), (2, .int nn)]) hx hb dX11_predictor_105 rfl hl (by decide) rfl (fun ls hl => ?_)
        refine lv_iload_n hx hb dX11_predictor_106 rfl (lv_at hl 0 rfl) ?_
        refine lv_if_ne (tgt := 112) hx hb dX11_predictor_107 (by decide) (fun h_28 => ?_) (fun h_28 => ?_)
        · skip
          exact absurd (by decide) h_28
        · skip
          exact absurd hal2 (by rw [hgd]; decide)
      · skip
        have hgd : allowB kd nn = true := by simp [allowB, h_3, h_25, h_27]
        refine lv_iconst (v := 1) hx hb dX11_predictor_19 (by decide) ?_
        refine lv_goto (tgt := 105) hx hb dX11_predictor_20 (by decide) ?_
        refine lv_istore_n (lv' := [(3, .int 1), (0, .ref (mo 0)), (1, .int kd), (2, .int nn)]) hx hb dX11_predictor_105 rfl hl (by decide) rfl (fun ls hl => ?_)
        refine lv_iload_n hx hb dX11_predictor_106 rfl (lv_at hl 0 rfl) ?_
        refine lv_if_ne (tgt := 112) hx hb dX11_predictor_107 (by decide) (fun h_29 => ?_) (fun h_29 => ?_)
        · skip
          exact kont_112  H locs ls  hT (lv_sub hl [1, 2, 3] rfl)
        · skip
          exact absurd h_29 (by decide)

set_option maxHeartbeats 400000 in
set_option maxRecDepth 100000 in
theorem c_X11_predictor (l : Launch) (g : GT) (mo : Nat → Nat) (rr : Nat) (th : Int32) (np : Nat) (no : Nat) (bt : Nat) (en : Bool) (xx : Int64) (ra : Nat) (t0 : Int32) (t1 : Int32) (s1 : Int32) (ca : Int32) (cq : Int32) (ch : Int32) (st : Nat → Int32) (fk : Nat → Int32) (fn : Nat → Int32) (fo : Nat → Int32) (bb : Nat → Int32) (wt : Nat → Int32) (nx : Nat → Int32) (cx : Nat → Int32) (pt : Nat → Int32) (le : Nat → Int32) (sc : Nat → Int32) (ss : Nat → Int32) (ww : Nat → Int32) (xc : Nat → Int32) (lo : Nat → Int64) (hi : Nat → Int64) (ou : Nat → Int32) (xi : Nat → Int32) (N : Nat) (kd : Int32) (nn : Int32) (n : Nat) (hal2 : allowB kd nn = true) (h8 : np < 8) (hN4 : N ≤ 4096) (hal : ∀ j, j < np → allowB (fk j) (fn j) = true) (hen : en = false) (hb0 : n = 0) (hb1 : bt = 0) (hw : wt 0 = nI n) (hbt : bt ≤ 8) : OM (S := {zq : (Nat → Int32) × (Nat → Int32) × (Nat → Int32) × (Nat → Int32) × (Nat → Int32) × (Nat → Int32) × (Nat → Int32) × (Nat → Int32) × (Nat → Int32) × (Nat → Int64) × (Nat → Int64) // (∀ U V, FRS N (np + 1) (upd fk np kd) (upd fn np nn) U → FRS N (np + 1) (upd fk np kd) (upd fn np nn) V → (∀ j, j < 2000 → bb (2050 * 0 + j) = s_f U j) → (∀ j, j < 2000 → bb (2050 * 1 + j) = s_f V j) → RS 0 N (np + 1) (upd fk np kd) U bb zq.1 zq.2.1 zq.2.2.1 zq.2.2.2.1 zq.2.2.2.2.1 zq.2.2.2.2.2.1 zq.2.2.2.2.2.2.1 zq.2.2.2.2.2.2.2.1 zq.2.2.2.2.2.2.2.2.1 ∧ RS 1 N (np + 1) (upd fk np kd) V bb zq.1 zq.2.1 zq.2.2.1 zq.2.2.2.1 zq.2.2.2.2.1 zq.2.2.2.2.2.1 zq.2.2.2.2.2.2.1 zq.2.2.2.2.2.2.2.1 zq.2.2.2.2.2.2.2.2.1) ∧ ((zq.2.2.2.2.2.2.2.2.2.1 0 = 0 ∧ zq.2.2.2.2.2.2.2.2.2.2 0 = 4294967295) ∧ (zq.2.2.2.2.2.2.2.2.2.1 1 = 0 ∧ zq.2.2.2.2.2.2.2.2.2.2 1 = 4294967295))}) l g yX11_predictor cX11_predictor 4 (some .int) ({ frames := 5, cells := 0, slots := 0, locals := 117 } : Room) [.ref (mo 0), .int kd, .int nn] (mdL g mo rr th np no bt en xx ra t0 t1 s1 ca cq ch st fk fn fo bb wt nx cx pt le sc ss ww xc lo hi ou xi) (fun zu => some (.int (nI np))) (fun zu => (mdL g mo rr 0 (np + 1) 0 0 false xx 0 t0 t1 s1 ca cq ch st (upd fk np kd) (upd fn np nn) (upd fo np 0) bb zu.1.1 zu.1.2.1 zu.1.2.2.1 zu.1.2.2.2.1 zu.1.2.2.2.2.1 zu.1.2.2.2.2.2.1 zu.1.2.2.2.2.2.2.1 zu.1.2.2.2.2.2.2.2.1 zu.1.2.2.2.2.2.2.2.2.1 zu.1.2.2.2.2.2.2.2.2.2.1 zu.1.2.2.2.2.2.2.2.2.2.2 ou xi)) := by
  refine OM.startQ (by decide) (Nat.le_of_ble_eq_true rfl) ?_
  intro p e s m below meth c A ls Q H locs hQ C hnm hl hT
  have hx := C.x
  have hb := C.b
  have hl : lv_has ls 4 [(0, .ref (mo 0)), (1, .int kd), (2, .int nn)] := hl
  have kont_112 : ∀ (H : Heap) (locs : List Loc) (ls : Array Slot), Wd g A s (mdL g mo rr 0 np no bt en xx ra t0 t1 s1 ca cq ch st fk fn fo bb wt nx cx pt le sc ss ww xc lo hi ou xi) H locs → lv_has ls 4 [(0, .ref (mo 0)), (1, .int kd), (2, .int nn)] → W p l e ({ frames := 5, cells := 0, slots := 0, locals := 117 } : Room) s m ([.ref (mo 0), .int kd, .int nn] : List Value).toArray below meth c H locs 0 0 Q (F0 m 112 ls []) := by
    intro H locs ls hT hl
    refine lv_aload_n hx hb dX11_predictor_112 rfl (lv_at hl 0 rfl) ?_
    have hM := c_X11_hasWritten l g mo rr 0 np no bt en xx ra t0 t1 s1 ca cq ch st fk fn fo bb wt nx cx pt le sc ss ww xc lo hi ou xi n hw (by omega) hbt
    refine r_callRO (js := [0, 1, 2, 3, 4, 5, 6, 7, 8, 9, 10, 11, 12, 13, 14, 15, 16, 17, 18]) C hT (runV (js := [0, 1, 2, 3, 4, 5, 6, 7, 8, 9, 10, 11, 12, 13, 14, 15, 16, 17, 18]) (rm := ({ frames := 0, cells := 0, slots := 0, locals := 0 } : Room)) (As := []) (n := 0) (q1 := 0) (rest := []) C hT hM rfl rfl k891 k893 s17 k15 k894 (by decide +kernel) rfl rfl rfl rfl (Nat.le_of_ble_eq_true rfl) hl.1 ⟨Nat.le_of_ble_eq_true rfl, Nat.le_of_ble_eq_true rfl⟩ ⟨Nat.le_of_ble_eq_true rfl, Nat.le_of_ble_eq_true rfl⟩ dX11_predictor_113) rfl rfl (fun u H locs hT => ?_)
    refine W.eq (g2 := F0 m 116 ls [.int (b01 (decide (0 < n) || (decide (0 < bt) || en)))]) rfl ?_
    refine lv_if_eq (tgt := 122) hx hb dX11_predictor_116 (by decide) (fun h_1 => ?_) (fun h_1 => ?_)
    · skip
      refine lv_aload_n hx hb dX11_predictor_122 rfl (lv_at hl 0 rfl) ?_
      refine gX11_91 C hT (q0 := 0) rfl dX11_predictor_123 ?_
      refine lv_bipush (v := 8) hx hb dX11_predictor_126 (by decide) ?_
      refine lv_icmp_ne (tgt := 134) hx hb dX11_predictor_128 (by decide) (fun h_2 => ?_) (fun h_2 => ?_)
      · skip
        refine lv_aload_n hx hb dX11_predictor_134 rfl (lv_at hl 0 rfl) ?_
        refine gX11_13 C hT (q0 := 0) rfl dX11_predictor_135 ?_
        refine lv_aload_n hx hb dX11_predictor_138 rfl (lv_at hl 0 rfl) ?_
        refine gX11_91 C hT (q0 := 0) rfl dX11_predictor_139 ?_
        refine lv_iload_n hx hb dX11_predictor_142 rfl (lv_at hl 1 rfl) ?_
        refine r_iast C hT (q0 := 2) rfl np rfl h8 (by decide) dX11_predictor_143 (fun H locs hT => ?_)
        have hT : Wd g A s (mdL g mo rr 0 np no bt en xx ra t0 t1 s1 ca cq ch st (upd fk np kd) fn fo bb wt nx cx pt le sc ss ww xc lo hi ou xi) H locs := hT
        refine lv_aload_n hx hb dX11_predictor_144 rfl (lv_at hl 0 rfl) ?_
        refine gX11_16 C hT (q0 := 0) rfl dX11_predictor_145 ?_
        refine lv_aload_n hx hb dX11_predictor_148 rfl (lv_at hl 0 rfl) ?_
        refine gX11_91 C hT (q0 := 0) rfl dX11_predictor_149 ?_
        refine lv_iload_n hx hb dX11_predictor_152 rfl (lv_at hl 2 rfl) ?_
        refine r_iast C hT (q0 := 3) rfl np rfl h8 (by decide) dX11_predictor_153 (fun H locs hT => ?_)
        have hT : Wd g A s (mdL g mo rr 0 np no bt en xx ra t0 t1 s1 ca cq ch st (upd fk np kd) (upd fn np nn) fo bb wt nx cx pt le sc ss ww xc lo hi ou xi) H locs := hT
        refine lv_aload_n hx hb dX11_predictor_154 rfl (lv_at hl 0 rfl) ?_
        refine gX11_19 C hT (q0 := 0) rfl dX11_predictor_155 ?_
        refine lv_aload_n hx hb dX11_predictor_158 rfl (lv_at hl 0 rfl) ?_
        refine gX11_91 C hT (q0 := 0) rfl dX11_predictor_159 ?_
        refine lv_iconst (v := 0) hx hb dX11_predictor_162 (by decide) ?_
        refine r_zast C hT (q0 := 4) rfl np rfl h8 (by decide) (by decide) dX11_predictor_163 (fun H locs hT => ?_)
        have hT : Wd g A s (mdL g mo rr 0 np no bt en xx ra t0 t1 s1 ca cq ch st (upd fk np kd) (upd fn np nn) (upd fo np 0) bb wt nx cx pt le sc ss ww xc lo hi ou xi) H locs := hT
        refine lv_aload_n hx hb dX11_predictor_164 rfl (lv_at hl 0 rfl) ?_
        refine lv_dup hx hb dX11_predictor_165 rfl ?_
        refine gX11_91 C hT (q0 := 0) rfl dX11_predictor_166 ?_
        refine lv_iconst (v := 1) hx hb dX11_predictor_169 (by decide) ?_
        refine lv_iadd hx hb dX11_predictor_170 ?_
        refine W.eq (g2 := F0 m 171 ls [.int (nI (np + 1)), .ref (mo 0)]) (congrArg (fun z => F0 m 171 ls (.int z :: [.ref (mo 0)])) (nI_1 np)) ?_
        refine pX11_91 C hT (q0 := 0) rfl dX11_predictor_171 (fun H locs hT => ?_)
        have hT : Wd g A s (mdL g mo rr 0 (np + 1) no bt en xx ra t0 t1 s1 ca cq ch st (upd fk np kd) (upd fn np nn) (upd fo np 0) bb wt nx cx pt le sc ss ww xc lo hi ou xi) H locs := hT
        refine lv_aload_n hx hb dX11_predictor_174 rfl (lv_at hl 0 rfl) ?_
        have hM := c_X11_freshAll l g mo rr 0 (np + 1) no bt en xx ra t0 t1 s1 ca cq ch st (upd fk np kd) (upd fn np nn) (upd fo np 0) bb wt nx cx pt le sc ss ww xc lo hi ou xi N h8 hN4 (hal_s hal hal2)
        refine r_callW C hT (runVW (rm := ({ frames := 4, cells := 0, slots := 0, locals := 97 } : Room)) (As := []) (n := 0) (q1 := 0) (rest := []) C hT hM k739 k741 s11 k15 k742 (by decide +kernel) rfl rfl rfl rfl (Nat.le_of_ble_eq_true rfl) hl.1 ⟨Nat.le_of_ble_eq_true rfl, Nat.le_of_ble_eq_true rfl⟩ ⟨Nat.le_of_ble_eq_true rfl, Nat.le_of_ble_eq_true rfl⟩ dX11_predictor_175) (fun u H locs hT => ?_)
        obtain ⟨⟨wt2_175, nx2_175, cx2_175, pt2_175, le2_175, sc2_175, ss2_175, ww2_175, xc2_175, lo2_175, hi2_175⟩, hRS_175, hlh_175⟩ := u
        replace hRS_175 : ∀ U V, FRS N (np + 1) (upd fk np kd) (upd fn np nn) U → FRS N (np + 1) (upd fk np kd) (upd fn np nn) V → (∀ j, j < 2000 → bb (2050 * 0 + j) = s_f U j) → (∀ j, j < 2000 → bb (2050 * 1 + j) = s_f V j) → RS 0 N (np + 1) (upd fk np kd) U bb wt2_175 nx2_175 cx2_175 pt2_175 le2_175 sc2_175 ss2_175 ww2_175 xc2_175 ∧ RS 1 N (np + 1) (upd fk np kd) V bb wt2_175 nx2_175 cx2_175 pt2_175 le2_175 sc2_175 ss2_175 ww2_175 xc2_175 := hRS_175
        replace hlh_175 : (lo2_175 0 = 0 ∧ hi2_175 0 = 4294967295) ∧ (lo2_175 1 = 0 ∧ hi2_175 1 = 4294967295) := hlh_175
        have hT : Wd g A s (mdL g mo rr 0 (np + 1) 0 0 false xx 0 t0 t1 s1 ca cq ch st (upd fk np kd) (upd fn np nn) (upd fo np 0) bb wt2_175 nx2_175 cx2_175 pt2_175 le2_175 sc2_175 ss2_175 ww2_175 xc2_175 lo2_175 hi2_175 ou xi) H locs := hT
        refine W.eq (g2 := F0 m 178 ls []) rfl ?_
        refine lv_aload_n hx hb dX11_predictor_178 rfl (lv_at hl 0 rfl) ?_
        refine gX11_91 C hT (q0 := 0) rfl dX11_predictor_179 ?_
        refine lv_iconst (v := 1) hx hb dX11_predictor_182 (by decide) ?_
        refine lv_isub hx hb dX11_predictor_183 ?_
        refine W.eq (g2 := F0 m 184 ls [.int (nI np)]) (congrArg (fun z => F0 m 184 ls (.int z :: [])) (nI_p1 np)) ?_
        have hT : Wd g A s (mdL g mo rr 0 (np + 1) 0 0 false xx 0 t0 t1 s1 ca cq ch st (upd fk np kd) (upd fn np nn) (upd fo np 0) bb wt2_175 nx2_175 cx2_175 pt2_175 le2_175 sc2_175 ss2_175 ww2_175 xc2_175 lo2_175 hi2_175 ou xi) H locs := hT
        exact e_iret C hQ ⟨(wt2_175, nx2_175, cx2_175, pt2_175, le2_175, sc2_175, ss2_175, ww2_175, xc2_175, lo2_175, hi2_175), hRS_175, hlh_175⟩ hT (by rfl) dX11_predictor_184
      · skip
        exact absurd (i32_eqN (b := 8) (by omega) (by decide) h_2) (by omega)
    · skip
      exact absurd (b01_t h_1) (by rw [hen, hb0, hb1]; decide)
  refine lv_aload_n hx hb dX11_predictor_0 rfl (lv_at hl 0 rfl) ?_
  refine lv_iconst (v := 0) hx hb dX11_predictor_1 (by decide) ?_
  refine pX11_77 C hT (q0 := 0) rfl dX11_predictor_2 (fun H locs hT => ?_)
  have hT : Wd g A s (mdL g mo rr 0 np no bt en xx ra t0 t1 s1 ca cq ch st fk fn fo bb wt nx cx pt le sc ss ww xc lo hi ou xi) H locs := hT
  refine lv_iload_n hx hb dX11_predictor_5 rfl (lv_at hl 1 rfl) ?_
  refine lv_if_ne (tgt := 27) hx hb dX11_predictor_6 (by decide) (fun h_3 => ?_) (fun h_3 => ?_)
  · skip
    refine lv_iload_n hx hb dX11_predictor_27 rfl (lv_at hl 1 rfl) ?_
    refine lv_iconst (v := 1) hx hb dX11_predictor_28 (by decide) ?_
    refine lv_icmp_ne (tgt := 36) hx hb dX11_predictor_29 (by decide) (fun h_4 => ?_) (fun h_4 => ?_)
    · skip
      refine lv_iload_n hx hb dX11_predictor_36 rfl (lv_at hl 1 rfl) ?_
      refine lv_iconst (v := 2) hx hb dX11_predictor_37 (by decide) ?_
      refine lv_icmp_ne (tgt := 60) hx hb dX11_predictor_38 (by decide) (fun h_5 => ?_) (fun h_5 => ?_)
      · skip
        refine lv_iload_n hx hb dX11_predictor_60 rfl (lv_at hl 1 rfl) ?_
        refine lv_iconst (v := 3) hx hb dX11_predictor_61 (by decide) ?_
        refine lv_icmp_ne (tgt := 84) hx hb dX11_predictor_62 (by decide) (fun h_6 => ?_) (fun h_6 => ?_)
        · skip
          refine lv_iload_n hx hb dX11_predictor_84 rfl (lv_at hl 1 rfl) ?_
          refine lv_iconst (v := 4) hx hb dX11_predictor_85 (by decide) ?_
          refine lv_icmp_ne (tgt := 104) hx hb dX11_predictor_86 (by decide) (fun h_7 => ?_) (fun h_7 => ?_)
          · skip
            have hgd : allowB kd nn = false := by simp [allowB, h_3, h_4, h_5, h_6, h_7]
            refine lv_iconst (v := 0) hx hb dX11_predictor_104 (by decide) ?_
            refine lv_istore_n (lv' := [(3, .int 0), (0, .ref (mo 0)), (1, .int kd), (2, .int nn)]) hx hb dX11_predictor_105 rfl hl (by decide) rfl (fun ls hl => ?_)
            refine lv_iload_n hx hb dX11_predictor_106 rfl (lv_at hl 0 rfl) ?_
            refine lv_if_ne (tgt := 112) hx hb dX11_predictor_107 (by decide) (fun h_8 => ?_) (fun h_8 => ?_)
            · skip
              exact absurd (by decide) h_8
            · skip
              exact absurd hal2 (by rw [hgd]; decide)
          · skip
            refine lv_iload_n hx hb dX11_predictor_89 rfl (lv_at hl 2 rfl) ?_
            refine lv_iconst (v := 3) hx hb dX11_predictor_90 (by decide) ?_
            refine lv_icmp_lt (tgt := 104) hx hb dX11_predictor_91 (by decide) (fun h_9 => ?_) (fun h_9 => ?_)
            · skip
              have hgd : allowB kd nn = false := by simp [allowB, h_3, h_4, h_5, h_6, h_7, h_9]
              refine lv_iconst (v := 0) hx hb dX11_predictor_104 (by decide) ?_
              refine lv_istore_n (lv' := [(3, .int 0), (0, .ref (mo 0)), (1, .int kd), (2, .int nn)]) hx hb dX11_predictor_105 rfl hl (by decide) rfl (fun ls hl => ?_)
              refine lv_iload_n hx hb dX11_predictor_106 rfl (lv_at hl 0 rfl) ?_
              refine lv_if_ne (tgt := 112) hx hb dX11_predictor_107 (by decide) (fun h_10 => ?_) (fun h_10 => ?_)
              · skip
                exact absurd (by decide) h_10
              · skip
                exact absurd hal2 (by rw [hgd]; decide)
            · skip
              refine lv_iload_n hx hb dX11_predictor_94 rfl (lv_at hl 2 rfl) ?_
              refine lv_bipush (v := 8) hx hb dX11_predictor_95 (by decide) ?_
              refine lv_icmp_gt (tgt := 104) hx hb dX11_predictor_97 (by decide) (fun h_11 => ?_) (fun h_11 => ?_)
              · skip
                have hgd : allowB kd nn = false := by simp [allowB, h_3, h_4, h_5, h_6, h_7, h_9, h_11]
                refine lv_iconst (v := 0) hx hb dX11_predictor_104 (by decide) ?_
                refine lv_istore_n (lv' := [(3, .int 0), (0, .ref (mo 0)), (1, .int kd), (2, .int nn)]) hx hb dX11_predictor_105 rfl hl (by decide) rfl (fun ls hl => ?_)
                refine lv_iload_n hx hb dX11_predictor_106 rfl (lv_at hl 0 rfl) ?_
                refine lv_if_ne (tgt := 112) hx hb dX11_predictor_107 (by decide) (fun h_12 => ?_) (fun h_12 => ?_)
                · skip
                  exact absurd (by decide) h_12
                · skip
                  exact absurd hal2 (by rw [hgd]; decide)
              · skip
                have hgd : allowB kd nn = true := by simp [allowB, h_3, h_4, h_5, h_6, h_7, h_9, h_11]
                refine lv_iconst (v := 1) hx hb dX11_predictor_100 (by decide) ?_
                refine lv_goto (tgt := 105) hx hb dX11_predictor_101 (by decide) ?_
                refine lv_istore_n (lv' := [(3, .int 1), (0, .ref (mo 0)), (1, .int kd), (2, .int nn)]) hx hb dX11_predictor_105 rfl hl (by decide) rfl (fun ls hl => ?_)
                refine lv_iload_n hx hb dX11_predictor_106 rfl (lv_at hl 0 rfl) ?_
                refine lv_if_ne (tgt := 112) hx hb dX11_predictor_107 (by decide) (fun h_13 => ?_) (fun h_13 => ?_)
                · skip
                  exact kont_112  H locs ls  hT (lv_sub hl [1, 2, 3] rfl)
                · skip
                  exact absurd h_13 (by decide)
        · skip
          refine lv_iload_n hx hb dX11_predictor_65 rfl (lv_at hl 2 rfl) ?_
          refine lv_iconst (v := 1) hx hb dX11_predictor_66 (by decide) ?_
          refine lv_icmp_lt (tgt := 80) hx hb dX11_predictor_67 (by decide) (fun h_14 => ?_) (fun h_14 => ?_)
          · skip
            have hgd : allowB kd nn = false := by simp [allowB, h_3, h_4, h_5, h_6, h_14]
            refine lv_iconst (v := 0) hx hb dX11_predictor_80 (by decide) ?_
            refine lv_goto (tgt := 105) hx hb dX11_predictor_81 (by decide) ?_
            refine lv_istore_n (lv' := [(3, .int 0), (0, .ref (mo 0)), (1, .int kd), (2, .int nn)]) hx hb dX11_predictor_105 rfl hl (by decide) rfl (fun ls hl => ?_)
            refine lv_iload_n hx hb dX11_predictor_106 rfl (lv_at hl 0 rfl) ?_
            refine lv_if_ne (tgt := 112) hx hb dX11_predictor_107 (by decide) (fun h_15 => ?_) (fun h_15 => ?_)
            · skip
              exact absurd (by decide) h_15
            · skip
              exact absurd hal2 (by rw [hgd]; decide)
          · skip
            refine lv_iload_n hx hb dX11_predictor_70 rfl (lv_at hl 2 rfl) ?_
            refine lv_bipush (v := 15) hx hb dX11_predictor_71 (by decide) ?_
            refine lv_icmp_gt (tgt := 80) hx hb dX11_predictor_73 (by decide) (fun h_16 => ?_) (fun h_16 => ?_)
            · skip
              have hgd : allowB kd nn = false := by simp [allowB, h_3, h_4, h_5, h_6, h_14, h_16]
              refine lv_iconst (v := 0) hx hb dX11_predictor_80 (by decide) ?_
              refine lv_goto (tgt := 105) hx hb dX11_predictor_81 (by decide) ?_
              refine lv_istore_n (lv' := [(3, .int 0), (0, .ref (mo 0)), (1, .int kd), (2, .int nn)]) hx hb dX11_predictor_105 rfl hl (by decide) rfl (fun ls hl => ?_)
              refine lv_iload_n hx hb dX11_predictor_106 rfl (lv_at hl 0 rfl) ?_
              refine lv_if_ne (tgt := 112) hx hb dX11_predictor_107 (by decide) (fun h_17 => ?_) (fun h_17 => ?_)
              · skip
                exact absurd (by decide) h_17
              · skip
                exact absurd hal2 (by rw [hgd]; decide)
            · skip
              have hgd : allowB kd nn = true := by simp [allowB, h_3, h_4, h_5, h_6, h_14, h_16]
              refine lv_iconst (v := 1) hx hb dX11_predictor_76 (by decide) ?_
              refine lv_goto (tgt := 105) hx hb dX11_predictor_77 (by decide) ?_
              refine lv_istore_n (lv' := [(3, .int 1), (0, .ref (mo 0)), (1, .int kd), (2, .int nn)]) hx hb dX11_predictor_105 rfl hl (by decide) rfl (fun ls hl => ?_)
              refine lv_iload_n hx hb dX11_predictor_106 rfl (lv_at hl 0 rfl) ?_
              refine lv_if_ne (tgt := 112) hx hb dX11_predictor_107 (by decide) (fun h_18 => ?_) (fun h_18 => ?_)
              · skip
                exact kont_112  H locs ls  hT (lv_sub hl [1, 2, 3] rfl)
              · skip
                exact absurd h_18 (by decide)
      · skip
        refine lv_iload_n hx hb dX11_predictor_41 rfl (lv_at hl 2 rfl) ?_
        refine lv_iconst (v := 1) hx hb dX11_predictor_42 (by decide) ?_
        refine lv_icmp_lt (tgt := 56) hx hb dX11_predictor_43 (by decide) (fun h_19 => ?_) (fun h_19 => ?_)
        · skip
          have hgd : allowB kd nn = false := by simp [allowB, h_3, h_4, h_5, h_19]
          refine lv_iconst (v := 0) hx hb dX11_predictor_56 (by decide) ?_
          refine lv_goto (tgt := 105) hx hb dX11_predictor_57 (by decide) ?_
          refine lv_istore_n (lv' := [(3, .int 0), (0, .ref (mo 0)), (1, .int kd), (2, .int nn)]) hx hb dX11_predictor_105 rfl hl (by decide) rfl (fun ls hl => ?_)
          refine lv_iload_n hx hb dX11_predictor_106 rfl (lv_at hl 0 rfl) ?_
          refine lv_if_ne (tgt := 112) hx hb dX11_predictor_107 (by decide) (fun h_20 => ?_) (fun h_20 => ?_)
          · skip
            exact absurd (by decide) h_20
          · skip
            exact absurd hal2 (by rw [hgd]; decide)
        · skip
          refine lv_iload_n hx hb dX11_predictor_46 rfl (lv_at hl 2 rfl) ?_
          refine lv_bipush (v := 64) hx hb dX11_predictor_47 (by decide) ?_
          refine lv_icmp_gt (tgt := 56) hx hb dX11_predictor_49 (by decide) (fun h_21 => ?_) (fun h_21 => ?_)
          · skip
            have hgd : allowB kd nn = false := by simp [allowB, h_3, h_4, h_5, h_19, h_21]
            refine lv_iconst (v := 0) hx hb dX11_predictor_56 (by decide) ?_
            refine lv_goto (tgt := 105) hx hb dX11_predictor_57 (by decide) ?_
            refine lv_istore_n (lv' := [(3, .int 0), (0, .ref (mo 0)), (1, .int kd), (2, .int nn)]) hx hb dX11_predictor_105 rfl hl (by decide) rfl (fun ls hl => ?_)
            refine lv_iload_n hx hb dX11_predictor_106 rfl (lv_at hl 0 rfl) ?_
            refine lv_if_ne (tgt := 112) hx hb dX11_predictor_107 (by decide) (fun h_22 => ?_) (fun h_22 => ?_)
            · skip
              exact absurd (by decide) h_22
            · skip
              exact absurd hal2 (by rw [hgd]; decide)
          · skip
            have hgd : allowB kd nn = true := by simp [allowB, h_3, h_4, h_5, h_19, h_21]
            refine lv_iconst (v := 1) hx hb dX11_predictor_52 (by decide) ?_
            refine lv_goto (tgt := 105) hx hb dX11_predictor_53 (by decide) ?_
            refine lv_istore_n (lv' := [(3, .int 1), (0, .ref (mo 0)), (1, .int kd), (2, .int nn)]) hx hb dX11_predictor_105 rfl hl (by decide) rfl (fun ls hl => ?_)
            refine lv_iload_n hx hb dX11_predictor_106 rfl (lv_at hl 0 rfl) ?_
            refine lv_if_ne (tgt := 112) hx hb dX11_predictor_107 (by decide) (fun h_23 => ?_) (fun h_23 => ?_)
            · skip
              exact kont_112  H locs ls  hT (lv_sub hl [1, 2, 3] rfl)
            · skip
              exact absurd h_23 (by decide)
    · skip
      have hgd : allowB kd nn = true := by simp [allowB, h_3, h_4]
      refine lv_iconst (v := 1) hx hb dX11_predictor_32 (by decide) ?_
      refine lv_goto (tgt := 105) hx hb dX11_predictor_33 (by decide) ?_
      refine lv_istore_n (lv' := [(3, .int 1), (0, .ref (mo 0)), (1, .int kd), (2, .int nn)]) hx hb dX11_predictor_105 rfl hl (by decide) rfl (fun ls hl => ?_)
      refine lv_iload_n hx hb dX11_predictor_106 rfl (lv_at hl 0 rfl) ?_
      refine lv_if_ne (tgt := 112) hx hb dX11_predictor_107 (by decide) (fun h_24 => ?_) (fun h_24 => ?_)
      · skip
        exact kont_112  H locs ls  hT (lv_sub hl [1, 2, 3] rfl)
      · skip
        exact absurd h_24 (by decide)
  · skip
    refine lv_iload_n hx hb dX11_predictor_9 rfl (lv_at hl 2 rfl) ?_
    refine lv_if_lt (tgt := 23) hx hb dX11_predictor_10 (by decide) (fun h_25 => ?_) (fun h_25 => ?_)
    · skip
      have hgd : allowB kd nn = false := by simp [allowB, h_3, h_25]
      refine lv_iconst (v := 0) hx hb dX11_predictor_23 (by decide) ?_
      refine lv_goto (tgt := 105) hx hb dX11_predictor_24 (by decide) ?_
      refine lv_istore_n (lv' := [(3, .int 0), (0, .ref (mo 0)), (1, .int kd), (2, .int nn)]) hx hb dX11_predictor_105 rfl hl (by decide) rfl (fun ls hl => ?_)
      refine lv_iload_n hx hb dX11_predictor_106 rfl (lv_at hl 0 rfl) ?_
      refine lv_if_ne (tgt := 112) hx hb dX11_predictor_107 (by decide) (fun h_26 => ?_) (fun h_26 => ?_)
      · skip
        exact absurd (by decide) h_26
      · skip
        exact absurd hal2 (by rw [hgd]; decide)
    · skip
      refine lv_iload_n hx hb dX11_predictor_13 rfl (lv_at hl 2 rfl) ?_
      refine lv_bipush (v := 6) hx hb dX11_predictor_14 (by decide) ?_
      refine lv_icmp_gt (tgt := 23) hx hb dX11_predictor_16 (by decide) (fun h_27 => ?_) (fun h_27 => ?_)
      · skip
        have hgd : allowB kd nn = false := by simp [allowB, h_3, h_25, h_27]
        refine lv_iconst (v := 0) hx hb dX11_predictor_23 (by decide) ?_
        refine lv_goto (tgt := 105) hx hb dX11_predictor_24 (by decide) ?_
        refine lv_istore_n (lv' := [(3, .int 0), (0, .ref (mo 0)), (1, .int kd), (2, .int nn)]) hx hb dX11_predictor_105 rfl hl (by decide) rfl (fun ls hl => ?_)
        refine lv_iload_n hx hb dX11_predictor_106 rfl (lv_at hl 0 rfl) ?_
        refine lv_if_ne (tgt := 112) hx hb dX11_predictor_107 (by decide) (fun h_28 => ?_) (fun h_28 => ?_)
        · skip
          exact absurd (by decide) h_28
        · skip
          exact absurd hal2 (by rw [hgd]; decide)
      · skip
        have hgd : allowB kd nn = true := by simp [allowB, h_3, h_25, h_27]
        refine lv_iconst (v := 1) hx hb dX11_predictor_19 (by decide) ?_
        refine lv_goto (tgt := 105) hx hb dX11_predictor_20 (by decide) ?_
        refine lv_istore_n (lv' := [(3, .int 1), (0, .ref (mo 0)), (1, .int kd), (2, .int nn)]) hx hb dX11_predictor_105 rfl hl (by decide) rfl (fun ls hl => ?_)
        refine lv_iload_n hx hb dX11_predictor_106 rfl (lv_at hl 0 rfl) ?_
        refine lv_if_ne (tgt := 112) hx hb dX11_predictor_107 (by decide) (fun h_29 => ?_) (fun h_29 => ?_)
        · skip
          exact kont_112  H locs ls  hT (lv_sub hl [1, 2, 3] rfl)
        · skip
          exact absurd h_29 (by decide)

set_option maxHeartbeats 400000 in
set_option maxRecDepth 100000 in
theorem c_X11_equal (l : Launch) (g : GT) (mo : Nat → Nat) (rr : Nat) (th : Int32) (np : Nat) (no : Nat) (bt : Nat) (en : Bool) (xx : Int64) (ra : Nat) (t0 : Int32) (t1 : Int32) (s1 : Int32) (ca : Int32) (cq : Int32) (ch : Int32) (st : Nat → Int32) (fk : Nat → Int32) (fn : Nat → Int32) (fo : Nat → Int32) (bb : Nat → Int32) (wt : Nat → Int32) (nx : Nat → Int32) (cx : Nat → Int32) (pt : Nat → Int32) (le : Nat → Int32) (sc : Nat → Int32) (ss : Nat → Int32) (ww : Nat → Int32) (xc : Nat → Int32) (lo : Nat → Int64) (hi : Nat → Int64) (ou : Nat → Int32) (xi : Nat → Int32) (N : Nat) (U : SSt) (V : SSt) (h0 : RS 0 N np fk U bb wt nx cx pt le sc ss ww xc) (h1 : RS 1 N np fk V bb wt nx cx pt le sc ss ww xc) (hU : SX N np fk U) (hV : SX N np fk V) (hN4 : N ≤ 4096) (hnp : np ≤ 8) : OM (S := Unit) l g yX11_equal cX11_equal 3 (some .int) ({ frames := 0, cells := 0, slots := 0, locals := 0 } : Room) [.ref (mo 0)] (mdL g mo rr th np no bt en xx ra t0 t1 s1 ca cq ch st fk fn fo bb wt nx cx pt le sc ss ww xc lo hi ou xi) (fun _ => some (.int (b01 (eqB N U V)))) (fun _ => (mdL g mo rr 0 np no bt en xx ra t0 t1 s1 ca cq ch st fk fn fo bb wt nx cx pt le sc ss ww xc lo hi ou xi)) := by
  refine OM.startQ (by decide) (Nat.le_of_ble_eq_true rfl) ?_
  intro p e s m below meth c A ls Q H locs hQ C hnm hl hT
  have hx := C.x
  have hb := C.b
  have hl : lv_has ls 3 [(0, .ref (mo 0))] := hl
  have hEQ := eqB_R h0 h1 hU hV hN4 hnp
  have hn2 := hU.1.1
  have hn3 := hV.1.1
  have hd2 := hU.1.2.1
  have hd3 := hV.1.2.1
  have kont_239 : ∀ (vx1 : Int32) (H : Heap) (locs : List Loc) (ls : Array Slot) (vex1 : vx1 = b01 (eqP4 U V bb sc ss ww xc 8448)), Wd g A s (mdL g mo rr 0 np no bt en xx ra t0 t1 s1 ca cq ch st fk fn fo bb wt nx cx pt le sc ss ww xc lo hi ou xi) H locs → lv_has ls 3 [(0, .ref (mo 0)), (1, .int vx1)] → W p l e ({ frames := 0, cells := 0, slots := 0, locals := 0 } : Room) s m ([.ref (mo 0)] : List Value).toArray below meth c H locs 0 0 Q (F0 m 239 ls []) := by
    intro vx1 H locs ls vex1 hT hl
    refine lv_iload_n hx hb dX11_equal_239 rfl (lv_at hl 1 rfl) ?_
    refine lv_if_eq (tgt := 247) hx hb dX11_equal_240 (by decide) (fun h_1 => ?_) (fun h_1 => ?_)
    · skip
      have hz := b01_f (vex1 ▸ h_1)
      refine lv_iconst (v := 0) hx hb dX11_equal_247 (by decide) ?_
      exact e_iret C hQ () hT (by rw [← hEQ, hz]; rfl) dX11_equal_248
    · skip
      have hz := b01_t (vex1 ▸ h_1)
      refine lv_iconst (v := 1) hx hb dX11_equal_243 (by decide) ?_
      refine lv_goto (tgt := 248) hx hb dX11_equal_244 (by decide) ?_
      exact e_iret C hQ () hT (by rw [← hEQ, hz]; rfl) dX11_equal_248
  have kont_195 : ∀ (vx1 : Int32) (H : Heap) (locs : List Loc) (ls : Array Slot) (vex1 : vx1 = b01 (eqP3 U V bb sc ss ww 4608)), Wd g A s (mdL g mo rr 0 np no bt en xx ra t0 t1 s1 ca cq ch st fk fn fo bb wt nx cx pt le sc ss ww xc lo hi ou xi) H locs → lv_has ls 3 [(0, .ref (mo 0)), (1, .int vx1)] → W p l e ({ frames := 0, cells := 0, slots := 0, locals := 0 } : Room) s m ([.ref (mo 0)] : List Value).toArray below meth c H locs 0 0 Q (F0 m 195 ls []) := by
    intro vx1 H locs ls vex1 hT hl
    refine lv_iconst (v := 0) hx hb dX11_equal_195 (by decide) ?_
    refine lv_istore_n (lv' := [(2, .int 0), (0, .ref (mo 0)), (1, .int vx1)]) hx hb dX11_equal_196 rfl hl (by decide) rfl (fun ls hl => ?_)
    have loop_197 : ∀ (fu : Nat) (i : Nat) (vx1 : Int32) (vx2 : Int32) (H : Heap) (locs : List Loc) (ls : Array Slot) (hli : i ≤ 8448) (vex2 : vx2 = nI i) (vex1 : vx1 = b01 (eqP4 U V bb sc ss ww xc i)), 8448 - i < fu → Wd g A s (mdL g mo rr 0 np no bt en xx ra t0 t1 s1 ca cq ch st fk fn fo bb wt nx cx pt le sc ss ww xc lo hi ou xi) H locs → lv_has ls 3 [(0, .ref (mo 0)), (1, .int vx1), (2, .int vx2)] → W p l e ({ frames := 0, cells := 0, slots := 0, locals := 0 } : Room) s m ([.ref (mo 0)] : List Value).toArray below meth c H locs 0 0 Q (F0 m 197 ls []) := by
      intro fu
      induction fu with
      | zero => intro i vx1 vx2 H locs ls hli vex2 vex1 hm; exact absurd hm (Nat.not_lt_zero _)
      | succ fu ih =>
        intro i vx1 vx2 H locs ls hli vex2 vex1 hm hT hl
        refine lv_iload_n hx hb dX11_equal_197 rfl (lv_at hl 2 rfl) ?_
        refine lv_sipush (v := 8448) hx hb dX11_equal_198 (by decide) ?_
        refine lv_icmp_ge (tgt := 239) hx hb dX11_equal_201 (by decide) (fun h_2 => ?_) (fun h_2 => ?_)
        · skip
          have hin := lp_end (n := 8448) vex2 (by omega) hli h_2
          have hkv := vex1
          rw [hin] at hkv
          exact kont_239 vx1 H locs ls hkv hT (lv_sub hl [0, 1] rfl)
        · skip
          have hin := lp_go (n := 8448) vex2 (by omega) hli h_2
          refine lv_iload_n hx hb dX11_equal_204 rfl (lv_at hl 1 rfl) ?_
          refine lv_if_eq (tgt := 239) hx hb dX11_equal_205 (by decide) (fun h_3 => ?_) (fun h_3 => ?_)
          · skip
            have htf : eqP4 U V bb sc ss ww xc i = false := b01_f (vex1 ▸ h_3)
            have hkv := h_3.trans (eq_m hli htf)
            exact kont_239 vx1 H locs ls hkv hT (lv_sub hl [0, 1] rfl)
          · skip
            have htr : eqP4 U V bb sc ss ww xc i = true := b01_t (vex1 ▸ h_3)
            refine lv_aload_n hx hb dX11_equal_208 rfl (lv_at hl 0 rfl) ?_
            refine gX11_50 C hT (q0 := 0) rfl dX11_equal_209 ?_
            refine lv_iload_n hx hb dX11_equal_212 rfl (lv_at hl 2 rfl) ?_
            refine r_iald C hT (q0 := 14) rfl i vex2 (by omega) (by decide) dX11_equal_213 ?_
            refine lv_aload_n hx hb dX11_equal_214 rfl (lv_at hl 0 rfl) ?_
            refine gX11_50 C hT (q0 := 0) rfl dX11_equal_215 ?_
            refine lv_sipush (v := 8448) hx hb dX11_equal_218 (by decide) ?_
            refine lv_iload_n hx hb dX11_equal_221 rfl (lv_at hl 2 rfl) ?_
            refine W.eq (g2 := F0 m 222 ls [.int (nI i), .int 8448, .ref (mo 14), .int (xc i)]) (congrArg (fun z => F0 m 222 ls (.int z :: [.int 8448, .ref (mo 14), .int (xc i)])) (vex2)) ?_
            refine lv_iadd hx hb dX11_equal_222 ?_
            refine W.eq (g2 := F0 m 223 ls [.int (nI (8448 + i)), .ref (mo 14), .int (xc i)]) (congrArg (fun z => F0 m 223 ls (.int z :: [.ref (mo 14), .int (xc i)])) (nI_add _ _)) ?_
            refine r_iald C hT (q0 := 14) rfl (8448 + i) rfl (by omega) (by decide) dX11_equal_223 ?_
            refine lv_icmp_ne (tgt := 231) hx hb dX11_equal_224 (by decide) (fun h_4 => ?_) (fun h_4 => ?_)
            · skip
              have hnx := eq_n (P := eqP3 U V bb sc ss ww 4608) (f := xc) (g := fun k => xc (8448 + k)) h_4
              refine lv_iconst (v := 0) hx hb dX11_equal_231 (by decide) ?_
              refine lv_istore_n (lv' := [(1, .int 0), (0, .ref (mo 0)), (2, .int vx2)]) hx hb dX11_equal_232 rfl hl (by decide) rfl (fun ls hl => ?_)
              obtain ⟨x_5, ex_5⟩ : ∃ y : Int32, y = vx2 + 1 := ⟨_, rfl⟩
              refine lv_iinc (v := x_5) (lv' := [(2, .int x_5), (1, .int 0), (0, .ref (mo 0))]) hx hb dX11_equal_233 hl (k := 2) rfl (by rw [ex_5]; rfl) (by decide) rfl (fun ls hl => ?_)
              refine lv_goto (tgt := 197) hx hb dX11_equal_236 (by decide) ?_
              exact ih (i + 1) 0 x_5 H locs ls hin (by rw [ex_5, vex2]; exact nI_1 i) hnx (by omega) hT (lv_sub hl [2, 1, 0] rfl)
            · skip
              have hnx := eq_y (P := eqP3 U V bb sc ss ww 4608) (f := xc) (g := fun k => xc (8448 + k)) htr h_4
              refine lv_iconst (v := 1) hx hb dX11_equal_227 (by decide) ?_
              refine lv_goto (tgt := 232) hx hb dX11_equal_228 (by decide) ?_
              refine lv_istore_n (lv' := [(1, .int 1), (0, .ref (mo 0)), (2, .int vx2)]) hx hb dX11_equal_232 rfl hl (by decide) rfl (fun ls hl => ?_)
              obtain ⟨x_6, ex_6⟩ : ∃ y : Int32, y = vx2 + 1 := ⟨_, rfl⟩
              refine lv_iinc (v := x_6) (lv' := [(2, .int x_6), (1, .int 1), (0, .ref (mo 0))]) hx hb dX11_equal_233 hl (k := 2) rfl (by rw [ex_6]; rfl) (by decide) rfl (fun ls hl => ?_)
              refine lv_goto (tgt := 197) hx hb dX11_equal_236 (by decide) ?_
              exact ih (i + 1) 1 x_6 H locs ls hin (by rw [ex_6, vex2]; exact nI_1 i) hnx (by omega) hT (lv_sub hl [2, 1, 0] rfl)
    exact loop_197 (8448 - 0 + 1) 0 vx1 0 H locs ls (Nat.zero_le _) rfl (by rw [vex1]; exact congrArg b01 (by simp [eqP4, eqTo])) (Nat.lt_succ_self _) hT (lv_sub hl [1, 2, 0] rfl)
  have kont_151 : ∀ (vx1 : Int32) (H : Heap) (locs : List Loc) (ls : Array Slot) (vex1 : vx1 = b01 (eqP2 U V bb sc ss 4096)), Wd g A s (mdL g mo rr 0 np no bt en xx ra t0 t1 s1 ca cq ch st fk fn fo bb wt nx cx pt le sc ss ww xc lo hi ou xi) H locs → lv_has ls 3 [(0, .ref (mo 0)), (1, .int vx1)] → W p l e ({ frames := 0, cells := 0, slots := 0, locals := 0 } : Room) s m ([.ref (mo 0)] : List Value).toArray below meth c H locs 0 0 Q (F0 m 151 ls []) := by
    intro vx1 H locs ls vex1 hT hl
    refine lv_iconst (v := 0) hx hb dX11_equal_151 (by decide) ?_
    refine lv_istore_n (lv' := [(2, .int 0), (0, .ref (mo 0)), (1, .int vx1)]) hx hb dX11_equal_152 rfl hl (by decide) rfl (fun ls hl => ?_)
    have loop_153 : ∀ (fu : Nat) (i : Nat) (vx1 : Int32) (vx2 : Int32) (H : Heap) (locs : List Loc) (ls : Array Slot) (hli : i ≤ 4608) (vex2 : vx2 = nI i) (vex1 : vx1 = b01 (eqP3 U V bb sc ss ww i)), 4608 - i < fu → Wd g A s (mdL g mo rr 0 np no bt en xx ra t0 t1 s1 ca cq ch st fk fn fo bb wt nx cx pt le sc ss ww xc lo hi ou xi) H locs → lv_has ls 3 [(0, .ref (mo 0)), (1, .int vx1), (2, .int vx2)] → W p l e ({ frames := 0, cells := 0, slots := 0, locals := 0 } : Room) s m ([.ref (mo 0)] : List Value).toArray below meth c H locs 0 0 Q (F0 m 153 ls []) := by
      intro fu
      induction fu with
      | zero => intro i vx1 vx2 H locs ls hli vex2 vex1 hm; exact absurd hm (Nat.not_lt_zero _)
      | succ fu ih =>
        intro i vx1 vx2 H locs ls hli vex2 vex1 hm hT hl
        refine lv_iload_n hx hb dX11_equal_153 rfl (lv_at hl 2 rfl) ?_
        refine lv_sipush (v := 4608) hx hb dX11_equal_154 (by decide) ?_
        refine lv_icmp_ge (tgt := 195) hx hb dX11_equal_157 (by decide) (fun h_7 => ?_) (fun h_7 => ?_)
        · skip
          have hin := lp_end (n := 4608) vex2 (by omega) hli h_7
          have hkv := vex1
          rw [hin] at hkv
          exact kont_195 vx1 H locs ls hkv hT (lv_sub hl [0, 1] rfl)
        · skip
          have hin := lp_go (n := 4608) vex2 (by omega) hli h_7
          refine lv_iload_n hx hb dX11_equal_160 rfl (lv_at hl 1 rfl) ?_
          refine lv_if_eq (tgt := 195) hx hb dX11_equal_161 (by decide) (fun h_8 => ?_) (fun h_8 => ?_)
          · skip
            have htf : eqP3 U V bb sc ss ww i = false := b01_f (vex1 ▸ h_8)
            have hkv := h_8.trans (eq_m hli htf)
            exact kont_195 vx1 H locs ls hkv hT (lv_sub hl [0, 1] rfl)
          · skip
            have htr : eqP3 U V bb sc ss ww i = true := b01_t (vex1 ▸ h_8)
            refine lv_aload_n hx hb dX11_equal_164 rfl (lv_at hl 0 rfl) ?_
            refine gX11_47 C hT (q0 := 0) rfl dX11_equal_165 ?_
            refine lv_iload_n hx hb dX11_equal_168 rfl (lv_at hl 2 rfl) ?_
            refine r_iald C hT (q0 := 13) rfl i vex2 (by omega) (by decide) dX11_equal_169 ?_
            refine lv_aload_n hx hb dX11_equal_170 rfl (lv_at hl 0 rfl) ?_
            refine gX11_47 C hT (q0 := 0) rfl dX11_equal_171 ?_
            refine lv_sipush (v := 4608) hx hb dX11_equal_174 (by decide) ?_
            refine lv_iload_n hx hb dX11_equal_177 rfl (lv_at hl 2 rfl) ?_
            refine W.eq (g2 := F0 m 178 ls [.int (nI i), .int 4608, .ref (mo 13), .int (ww i)]) (congrArg (fun z => F0 m 178 ls (.int z :: [.int 4608, .ref (mo 13), .int (ww i)])) (vex2)) ?_
            refine lv_iadd hx hb dX11_equal_178 ?_
            refine W.eq (g2 := F0 m 179 ls [.int (nI (4608 + i)), .ref (mo 13), .int (ww i)]) (congrArg (fun z => F0 m 179 ls (.int z :: [.ref (mo 13), .int (ww i)])) (nI_add _ _)) ?_
            refine r_iald C hT (q0 := 13) rfl (4608 + i) rfl (by omega) (by decide) dX11_equal_179 ?_
            refine lv_icmp_ne (tgt := 187) hx hb dX11_equal_180 (by decide) (fun h_9 => ?_) (fun h_9 => ?_)
            · skip
              have hnx := eq_n (P := eqP2 U V bb sc ss 4096) (f := ww) (g := fun k => ww (4608 + k)) h_9
              refine lv_iconst (v := 0) hx hb dX11_equal_187 (by decide) ?_
              refine lv_istore_n (lv' := [(1, .int 0), (0, .ref (mo 0)), (2, .int vx2)]) hx hb dX11_equal_188 rfl hl (by decide) rfl (fun ls hl => ?_)
              obtain ⟨x_10, ex_10⟩ : ∃ y : Int32, y = vx2 + 1 := ⟨_, rfl⟩
              refine lv_iinc (v := x_10) (lv' := [(2, .int x_10), (1, .int 0), (0, .ref (mo 0))]) hx hb dX11_equal_189 hl (k := 2) rfl (by rw [ex_10]; rfl) (by decide) rfl (fun ls hl => ?_)
              refine lv_goto (tgt := 153) hx hb dX11_equal_192 (by decide) ?_
              exact ih (i + 1) 0 x_10 H locs ls hin (by rw [ex_10, vex2]; exact nI_1 i) hnx (by omega) hT (lv_sub hl [2, 1, 0] rfl)
            · skip
              have hnx := eq_y (P := eqP2 U V bb sc ss 4096) (f := ww) (g := fun k => ww (4608 + k)) htr h_9
              refine lv_iconst (v := 1) hx hb dX11_equal_183 (by decide) ?_
              refine lv_goto (tgt := 188) hx hb dX11_equal_184 (by decide) ?_
              refine lv_istore_n (lv' := [(1, .int 1), (0, .ref (mo 0)), (2, .int vx2)]) hx hb dX11_equal_188 rfl hl (by decide) rfl (fun ls hl => ?_)
              obtain ⟨x_11, ex_11⟩ : ∃ y : Int32, y = vx2 + 1 := ⟨_, rfl⟩
              refine lv_iinc (v := x_11) (lv' := [(2, .int x_11), (1, .int 1), (0, .ref (mo 0))]) hx hb dX11_equal_189 hl (k := 2) rfl (by rw [ex_11]; rfl) (by decide) rfl (fun ls hl => ?_)
              refine lv_goto (tgt := 153) hx hb dX11_equal_192 (by decide) ?_
              exact ih (i + 1) 1 x_11 H locs ls hin (by rw [ex_11, vex2]; exact nI_1 i) hnx (by omega) hT (lv_sub hl [2, 1, 0] rfl)
    exact loop_153 (4608 - 0 + 1) 0 vx1 0 H locs ls (Nat.zero_le _) rfl (by rw [vex1]; exact congrArg b01 (by simp [eqP3, eqTo])) (Nat.lt_succ_self _) hT (lv_sub hl [1, 2, 0] rfl)
  have kont_88 : ∀ (vx1 : Int32) (H : Heap) (locs : List Loc) (ls : Array Slot) (vex1 : vx1 = b01 (eqP1 U V bb (s_n U))), Wd g A s (mdL g mo rr 0 np no bt en xx ra t0 t1 s1 ca cq ch st fk fn fo bb wt nx cx pt le sc ss ww xc lo hi ou xi) H locs → lv_has ls 3 [(0, .ref (mo 0)), (1, .int vx1)] → W p l e ({ frames := 0, cells := 0, slots := 0, locals := 0 } : Room) s m ([.ref (mo 0)] : List Value).toArray below meth c H locs 0 0 Q (F0 m 88 ls []) := by
    intro vx1 H locs ls vex1 hT hl
    refine lv_iconst (v := 0) hx hb dX11_equal_88 (by decide) ?_
    refine lv_istore_n (lv' := [(2, .int 0), (0, .ref (mo 0)), (1, .int vx1)]) hx hb dX11_equal_89 rfl hl (by decide) rfl (fun ls hl => ?_)
    have loop_90 : ∀ (fu : Nat) (i : Nat) (vx1 : Int32) (vx2 : Int32) (H : Heap) (locs : List Loc) (ls : Array Slot) (hli : i ≤ 4096) (vex2 : vx2 = nI i) (vex1 : vx1 = b01 (eqP2 U V bb sc ss i)), 4096 - i < fu → Wd g A s (mdL g mo rr 0 np no bt en xx ra t0 t1 s1 ca cq ch st fk fn fo bb wt nx cx pt le sc ss ww xc lo hi ou xi) H locs → lv_has ls 3 [(0, .ref (mo 0)), (1, .int vx1), (2, .int vx2)] → W p l e ({ frames := 0, cells := 0, slots := 0, locals := 0 } : Room) s m ([.ref (mo 0)] : List Value).toArray below meth c H locs 0 0 Q (F0 m 90 ls []) := by
      intro fu
      induction fu with
      | zero => intro i vx1 vx2 H locs ls hli vex2 vex1 hm; exact absurd hm (Nat.not_lt_zero _)
      | succ fu ih =>
        intro i vx1 vx2 H locs ls hli vex2 vex1 hm hT hl
        refine lv_iload_n hx hb dX11_equal_90 rfl (lv_at hl 2 rfl) ?_
        refine lv_sipush (v := 4096) hx hb dX11_equal_91 (by decide) ?_
        refine lv_icmp_ge (tgt := 151) hx hb dX11_equal_94 (by decide) (fun h_12 => ?_) (fun h_12 => ?_)
        · skip
          have hin := lp_end (n := 4096) vex2 (by omega) hli h_12
          have hkv := vex1
          rw [hin] at hkv
          exact kont_151 vx1 H locs ls hkv hT (lv_sub hl [0, 1] rfl)
        · skip
          have hin := lp_go (n := 4096) vex2 (by omega) hli h_12
          refine lv_iload_n hx hb dX11_equal_97 rfl (lv_at hl 1 rfl) ?_
          refine lv_if_eq (tgt := 151) hx hb dX11_equal_98 (by decide) (fun h_13 => ?_) (fun h_13 => ?_)
          · skip
            have htf : eqP2 U V bb sc ss i = false := b01_f (vex1 ▸ h_13)
            have hkv := h_13.trans (eq2_m hli htf)
            exact kont_151 vx1 H locs ls hkv hT (lv_sub hl [0, 1] rfl)
          · skip
            have htr : eqP2 U V bb sc ss i = true := b01_t (vex1 ▸ h_13)
            refine lv_aload_n hx hb dX11_equal_101 rfl (lv_at hl 0 rfl) ?_
            refine gX11_41 C hT (q0 := 0) rfl dX11_equal_102 ?_
            refine lv_iload_n hx hb dX11_equal_105 rfl (lv_at hl 2 rfl) ?_
            refine r_iald C hT (q0 := 11) rfl i vex2 (by omega) (by decide) dX11_equal_106 ?_
            refine lv_aload_n hx hb dX11_equal_107 rfl (lv_at hl 0 rfl) ?_
            refine gX11_41 C hT (q0 := 0) rfl dX11_equal_108 ?_
            refine lv_sipush (v := 4096) hx hb dX11_equal_111 (by decide) ?_
            refine lv_iload_n hx hb dX11_equal_114 rfl (lv_at hl 2 rfl) ?_
            refine W.eq (g2 := F0 m 115 ls [.int (nI i), .int 4096, .ref (mo 11), .int (sc i)]) (congrArg (fun z => F0 m 115 ls (.int z :: [.int 4096, .ref (mo 11), .int (sc i)])) (vex2)) ?_
            refine lv_iadd hx hb dX11_equal_115 ?_
            refine W.eq (g2 := F0 m 116 ls [.int (nI (4096 + i)), .ref (mo 11), .int (sc i)]) (congrArg (fun z => F0 m 116 ls (.int z :: [.ref (mo 11), .int (sc i)])) (nI_add _ _)) ?_
            refine r_iald C hT (q0 := 11) rfl (4096 + i) rfl (by omega) (by decide) dX11_equal_116 ?_
            refine lv_icmp_ne (tgt := 143) hx hb dX11_equal_117 (by decide) (fun h_14 => ?_) (fun h_14 => ?_)
            · skip
              have hnx := eq2_n (P := eqP1 U V bb (s_n U)) (f := sc) (g := fun k => sc (4096 + k)) (f2 := ss) (g2 := fun k => ss (4096 + k)) (Or.inl h_14)
              refine lv_iconst (v := 0) hx hb dX11_equal_143 (by decide) ?_
              refine lv_istore_n (lv' := [(1, .int 0), (0, .ref (mo 0)), (2, .int vx2)]) hx hb dX11_equal_144 rfl hl (by decide) rfl (fun ls hl => ?_)
              obtain ⟨x_15, ex_15⟩ : ∃ y : Int32, y = vx2 + 1 := ⟨_, rfl⟩
              refine lv_iinc (v := x_15) (lv' := [(2, .int x_15), (1, .int 0), (0, .ref (mo 0))]) hx hb dX11_equal_145 hl (k := 2) rfl (by rw [ex_15]; rfl) (by decide) rfl (fun ls hl => ?_)
              refine lv_goto (tgt := 90) hx hb dX11_equal_148 (by decide) ?_
              exact ih (i + 1) 0 x_15 H locs ls hin (by rw [ex_15, vex2]; exact nI_1 i) hnx (by omega) hT (lv_sub hl [2, 1, 0] rfl)
            · skip
              have hq1 := h_14
              refine lv_aload_n hx hb dX11_equal_120 rfl (lv_at hl 0 rfl) ?_
              refine gX11_44 C hT (q0 := 0) rfl dX11_equal_121 ?_
              refine lv_iload_n hx hb dX11_equal_124 rfl (lv_at hl 2 rfl) ?_
              refine r_iald C hT (q0 := 12) rfl i vex2 (by omega) (by decide) dX11_equal_125 ?_
              refine lv_aload_n hx hb dX11_equal_126 rfl (lv_at hl 0 rfl) ?_
              refine gX11_44 C hT (q0 := 0) rfl dX11_equal_127 ?_
              refine lv_sipush (v := 4096) hx hb dX11_equal_130 (by decide) ?_
              refine lv_iload_n hx hb dX11_equal_133 rfl (lv_at hl 2 rfl) ?_
              refine W.eq (g2 := F0 m 134 ls [.int (nI i), .int 4096, .ref (mo 12), .int (ss i)]) (congrArg (fun z => F0 m 134 ls (.int z :: [.int 4096, .ref (mo 12), .int (ss i)])) (vex2)) ?_
              refine lv_iadd hx hb dX11_equal_134 ?_
              refine W.eq (g2 := F0 m 135 ls [.int (nI (4096 + i)), .ref (mo 12), .int (ss i)]) (congrArg (fun z => F0 m 135 ls (.int z :: [.ref (mo 12), .int (ss i)])) (nI_add _ _)) ?_
              refine r_iald C hT (q0 := 12) rfl (4096 + i) rfl (by omega) (by decide) dX11_equal_135 ?_
              refine lv_icmp_ne (tgt := 143) hx hb dX11_equal_136 (by decide) (fun h_16 => ?_) (fun h_16 => ?_)
              · skip
                have hnx := eq2_n (P := eqP1 U V bb (s_n U)) (f := sc) (g := fun k => sc (4096 + k)) (f2 := ss) (g2 := fun k => ss (4096 + k)) (Or.inr h_16)
                refine lv_iconst (v := 0) hx hb dX11_equal_143 (by decide) ?_
                refine lv_istore_n (lv' := [(1, .int 0), (0, .ref (mo 0)), (2, .int vx2)]) hx hb dX11_equal_144 rfl hl (by decide) rfl (fun ls hl => ?_)
                obtain ⟨x_17, ex_17⟩ : ∃ y : Int32, y = vx2 + 1 := ⟨_, rfl⟩
                refine lv_iinc (v := x_17) (lv' := [(2, .int x_17), (1, .int 0), (0, .ref (mo 0))]) hx hb dX11_equal_145 hl (k := 2) rfl (by rw [ex_17]; rfl) (by decide) rfl (fun ls hl => ?_)
                refine lv_goto (tgt := 90) hx hb dX11_equal_148 (by decide) ?_
                exact ih (i + 1) 0 x_17 H locs ls hin (by rw [ex_17, vex2]; exact nI_1 i) hnx (by omega) hT (lv_sub hl [2, 1, 0] rfl)
              · skip
                have hnx := eq2_y (P := eqP1 U V bb (s_n U)) (f := sc) (g := fun k => sc (4096 + k)) (f2 := ss) (g2 := fun k => ss (4096 + k)) htr hq1 h_16
                refine lv_iconst (v := 1) hx hb dX11_equal_139 (by decide) ?_
                refine lv_goto (tgt := 144) hx hb dX11_equal_140 (by decide) ?_
                refine lv_istore_n (lv' := [(1, .int 1), (0, .ref (mo 0)), (2, .int vx2)]) hx hb dX11_equal_144 rfl hl (by decide) rfl (fun ls hl => ?_)
                obtain ⟨x_18, ex_18⟩ : ∃ y : Int32, y = vx2 + 1 := ⟨_, rfl⟩
                refine lv_iinc (v := x_18) (lv' := [(2, .int x_18), (1, .int 1), (0, .ref (mo 0))]) hx hb dX11_equal_145 hl (k := 2) rfl (by rw [ex_18]; rfl) (by decide) rfl (fun ls hl => ?_)
                refine lv_goto (tgt := 90) hx hb dX11_equal_148 (by decide) ?_
                exact ih (i + 1) 1 x_18 H locs ls hin (by rw [ex_18, vex2]; exact nI_1 i) hnx (by omega) hT (lv_sub hl [2, 1, 0] rfl)
    exact loop_90 (4096 - 0 + 1) 0 vx1 0 H locs ls (Nat.zero_le _) rfl (by rw [vex1]; exact congrArg b01 (by simp [eqP2, eqTo])) (Nat.lt_succ_self _) hT (lv_sub hl [1, 2, 0] rfl)
  have kont_41 : ∀ (vx1 : Int32) (H : Heap) (locs : List Loc) (ls : Array Slot) (vex1 : vx1 = b01 (eqP0 U V)), Wd g A s (mdL g mo rr 0 np no bt en xx ra t0 t1 s1 ca cq ch st fk fn fo bb wt nx cx pt le sc ss ww xc lo hi ou xi) H locs → lv_has ls 3 [(0, .ref (mo 0)), (1, .int vx1)] → W p l e ({ frames := 0, cells := 0, slots := 0, locals := 0 } : Room) s m ([.ref (mo 0)] : List Value).toArray below meth c H locs 0 0 Q (F0 m 41 ls []) := by
    intro vx1 H locs ls vex1 hT hl
    refine lv_iconst (v := 0) hx hb dX11_equal_41 (by decide) ?_
    refine lv_istore_n (lv' := [(2, .int 0), (0, .ref (mo 0)), (1, .int vx1)]) hx hb dX11_equal_42 rfl hl (by decide) rfl (fun ls hl => ?_)
    have loop_43 : ∀ (fu : Nat) (i : Nat) (vx1 : Int32) (vx2 : Int32) (H : Heap) (locs : List Loc) (ls : Array Slot) (hli : i ≤ s_n U) (vex2 : vx2 = nI i) (vex1 : vx1 = b01 (eqP1 U V bb i)), s_n U - i < fu → Wd g A s (mdL g mo rr 0 np no bt en xx ra t0 t1 s1 ca cq ch st fk fn fo bb wt nx cx pt le sc ss ww xc lo hi ou xi) H locs → lv_has ls 3 [(0, .ref (mo 0)), (1, .int vx1), (2, .int vx2)] → W p l e ({ frames := 0, cells := 0, slots := 0, locals := 0 } : Room) s m ([.ref (mo 0)] : List Value).toArray below meth c H locs 0 0 Q (F0 m 43 ls []) := by
      intro fu
      induction fu with
      | zero => intro i vx1 vx2 H locs ls hli vex2 vex1 hm; exact absurd hm (Nat.not_lt_zero _)
      | succ fu ih =>
        intro i vx1 vx2 H locs ls hli vex2 vex1 hm hT hl
        refine lv_iload_n hx hb dX11_equal_43 rfl (lv_at hl 2 rfl) ?_
        refine lv_aload_n hx hb dX11_equal_44 rfl (lv_at hl 0 rfl) ?_
        refine gX11_26 C hT (q0 := 0) rfl dX11_equal_45 ?_
        refine lv_iconst (v := 0) hx hb dX11_equal_48 (by decide) ?_
        refine r_iald C hT (q0 := 6) rfl 0 rfl (by decide) (by decide) dX11_equal_49 ?_
        refine W.eq (g2 := F0 m 50 ls [.int (nI (s_n U)), .int vx2]) (congrArg (fun z => F0 m 50 ls (.int z :: [.int vx2])) (h0.1.1)) ?_
        refine lv_icmp_ge (tgt := 88) hx hb dX11_equal_50 (by decide) (fun h_19 => ?_) (fun h_19 => ?_)
        · skip
          have hin := lp_end (n := s_n U) vex2 (by omega) hli h_19
          have hkv := vex1
          rw [hin] at hkv
          exact kont_88 vx1 H locs ls hkv hT (lv_sub hl [0, 1] rfl)
        · skip
          have hin := lp_go (n := s_n U) vex2 (by omega) hli h_19
          refine lv_iload_n hx hb dX11_equal_53 rfl (lv_at hl 1 rfl) ?_
          refine lv_if_eq (tgt := 88) hx hb dX11_equal_54 (by decide) (fun h_20 => ?_) (fun h_20 => ?_)
          · skip
            have htf : eqP1 U V bb i = false := b01_f (vex1 ▸ h_20)
            have hkv := h_20.trans (eq_m hli htf)
            exact kont_88 vx1 H locs ls hkv hT (lv_sub hl [0, 1] rfl)
          · skip
            have htr : eqP1 U V bb i = true := b01_t (vex1 ▸ h_20)
            refine lv_aload_n hx hb dX11_equal_57 rfl (lv_at hl 0 rfl) ?_
            refine gX11_23 C hT (q0 := 0) rfl dX11_equal_58 ?_
            refine lv_iload_n hx hb dX11_equal_61 rfl (lv_at hl 2 rfl) ?_
            refine r_iald C hT (q0 := 5) rfl i vex2 (by omega) (by decide) dX11_equal_62 ?_
            refine lv_aload_n hx hb dX11_equal_63 rfl (lv_at hl 0 rfl) ?_
            refine gX11_23 C hT (q0 := 0) rfl dX11_equal_64 ?_
            refine lv_sipush (v := 2050) hx hb dX11_equal_67 (by decide) ?_
            refine lv_iload_n hx hb dX11_equal_70 rfl (lv_at hl 2 rfl) ?_
            refine W.eq (g2 := F0 m 71 ls [.int (nI i), .int 2050, .ref (mo 5), .int (bb i)]) (congrArg (fun z => F0 m 71 ls (.int z :: [.int 2050, .ref (mo 5), .int (bb i)])) (vex2)) ?_
            refine lv_iadd hx hb dX11_equal_71 ?_
            refine W.eq (g2 := F0 m 72 ls [.int (nI (2050 + i)), .ref (mo 5), .int (bb i)]) (congrArg (fun z => F0 m 72 ls (.int z :: [.ref (mo 5), .int (bb i)])) (nI_add _ _)) ?_
            refine r_iald C hT (q0 := 5) rfl (2050 + i) rfl (by omega) (by decide) dX11_equal_72 ?_
            refine lv_icmp_ne (tgt := 80) hx hb dX11_equal_73 (by decide) (fun h_21 => ?_) (fun h_21 => ?_)
            · skip
              have hnx := eq_n (P := eqP0 U V) (f := bb) (g := fun k => bb (2050 + k)) h_21
              refine lv_iconst (v := 0) hx hb dX11_equal_80 (by decide) ?_
              refine lv_istore_n (lv' := [(1, .int 0), (0, .ref (mo 0)), (2, .int vx2)]) hx hb dX11_equal_81 rfl hl (by decide) rfl (fun ls hl => ?_)
              obtain ⟨x_22, ex_22⟩ : ∃ y : Int32, y = vx2 + 1 := ⟨_, rfl⟩
              refine lv_iinc (v := x_22) (lv' := [(2, .int x_22), (1, .int 0), (0, .ref (mo 0))]) hx hb dX11_equal_82 hl (k := 2) rfl (by rw [ex_22]; rfl) (by decide) rfl (fun ls hl => ?_)
              refine lv_goto (tgt := 43) hx hb dX11_equal_85 (by decide) ?_
              exact ih (i + 1) 0 x_22 H locs ls hin (by rw [ex_22, vex2]; exact nI_1 i) hnx (by omega) hT (lv_sub hl [2, 1, 0] rfl)
            · skip
              have hnx := eq_y (P := eqP0 U V) (f := bb) (g := fun k => bb (2050 + k)) htr h_21
              refine lv_iconst (v := 1) hx hb dX11_equal_76 (by decide) ?_
              refine lv_goto (tgt := 81) hx hb dX11_equal_77 (by decide) ?_
              refine lv_istore_n (lv' := [(1, .int 1), (0, .ref (mo 0)), (2, .int vx2)]) hx hb dX11_equal_81 rfl hl (by decide) rfl (fun ls hl => ?_)
              obtain ⟨x_23, ex_23⟩ : ∃ y : Int32, y = vx2 + 1 := ⟨_, rfl⟩
              refine lv_iinc (v := x_23) (lv' := [(2, .int x_23), (1, .int 1), (0, .ref (mo 0))]) hx hb dX11_equal_82 hl (k := 2) rfl (by rw [ex_23]; rfl) (by decide) rfl (fun ls hl => ?_)
              refine lv_goto (tgt := 43) hx hb dX11_equal_85 (by decide) ?_
              exact ih (i + 1) 1 x_23 H locs ls hin (by rw [ex_23, vex2]; exact nI_1 i) hnx (by omega) hT (lv_sub hl [2, 1, 0] rfl)
    exact loop_43 (s_n U - 0 + 1) 0 vx1 0 H locs ls (Nat.zero_le _) rfl (by rw [vex1]; exact congrArg b01 (by simp [eqP1, eqTo])) (Nat.lt_succ_self _) hT (lv_sub hl [1, 2, 0] rfl)
  refine lv_aload_n hx hb dX11_equal_0 rfl (lv_at hl 0 rfl) ?_
  refine lv_iconst (v := 0) hx hb dX11_equal_1 (by decide) ?_
  refine pX11_77 C hT (q0 := 0) rfl dX11_equal_2 (fun H locs hT => ?_)
  have hT : Wd g A s (mdL g mo rr 0 np no bt en xx ra t0 t1 s1 ca cq ch st fk fn fo bb wt nx cx pt le sc ss ww xc lo hi ou xi) H locs := hT
  refine lv_aload_n hx hb dX11_equal_5 rfl (lv_at hl 0 rfl) ?_
  refine gX11_26 C hT (q0 := 0) rfl dX11_equal_6 ?_
  refine lv_iconst (v := 0) hx hb dX11_equal_9 (by decide) ?_
  refine r_iald C hT (q0 := 6) rfl 0 rfl (by decide) (by decide) dX11_equal_10 ?_
  refine W.eq (g2 := F0 m 11 ls [.int (nI (s_n U))]) (congrArg (fun z => F0 m 11 ls (.int z :: [])) (h0.1.1)) ?_
  refine lv_aload_n hx hb dX11_equal_11 rfl (lv_at hl 0 rfl) ?_
  refine gX11_26 C hT (q0 := 0) rfl dX11_equal_12 ?_
  refine lv_iconst (v := 1) hx hb dX11_equal_15 (by decide) ?_
  refine r_iald C hT (q0 := 6) rfl 1 rfl (by decide) (by decide) dX11_equal_16 ?_
  refine W.eq (g2 := F0 m 17 ls [.int (nI (s_n V)), .int (nI (s_n U))]) (congrArg (fun z => F0 m 17 ls (.int z :: [.int (nI (s_n U))])) (h1.1.1)) ?_
  refine lv_icmp_ne (tgt := 39) hx hb dX11_equal_17 (by decide) (fun h_24 => ?_) (fun h_24 => ?_)
  · skip
    have hkv : 0 = b01 (eqP0 U V) := eq0_n (Or.inl (fun q => h_24 (congrArg nI q)))
    refine lv_iconst (v := 0) hx hb dX11_equal_39 (by decide) ?_
    refine lv_istore_n (lv' := [(1, .int 0), (0, .ref (mo 0))]) hx hb dX11_equal_40 rfl hl (by decide) rfl (fun ls hl => ?_)
    exact kont_41 0 H locs ls hkv hT (lv_sub hl [1, 0] rfl)
  · skip
    have hq0 := i32_eqN (by omega) (by omega) h_24
    refine lv_aload_n hx hb dX11_equal_20 rfl (lv_at hl 0 rfl) ?_
    refine gX11_29 C hT (q0 := 0) rfl dX11_equal_21 ?_
    refine lv_iconst (v := 0) hx hb dX11_equal_24 (by decide) ?_
    refine r_iald C hT (q0 := 7) rfl 0 rfl (by decide) (by decide) dX11_equal_25 ?_
    refine W.eq (g2 := F0 m 26 ls [.int (nI (s_nd U))]) (congrArg (fun z => F0 m 26 ls (.int z :: [])) (h0.1.2.1)) ?_
    refine lv_aload_n hx hb dX11_equal_26 rfl (lv_at hl 0 rfl) ?_
    refine gX11_29 C hT (q0 := 0) rfl dX11_equal_27 ?_
    refine lv_iconst (v := 1) hx hb dX11_equal_30 (by decide) ?_
    refine r_iald C hT (q0 := 7) rfl 1 rfl (by decide) (by decide) dX11_equal_31 ?_
    refine W.eq (g2 := F0 m 32 ls [.int (nI (s_nd V)), .int (nI (s_nd U))]) (congrArg (fun z => F0 m 32 ls (.int z :: [.int (nI (s_nd U))])) (h1.1.2.1)) ?_
    refine lv_icmp_ne (tgt := 39) hx hb dX11_equal_32 (by decide) (fun h_25 => ?_) (fun h_25 => ?_)
    · skip
      have hkv : 0 = b01 (eqP0 U V) := eq0_n (Or.inr (fun q => h_25 (congrArg nI q)))
      refine lv_iconst (v := 0) hx hb dX11_equal_39 (by decide) ?_
      refine lv_istore_n (lv' := [(1, .int 0), (0, .ref (mo 0))]) hx hb dX11_equal_40 rfl hl (by decide) rfl (fun ls hl => ?_)
      exact kont_41 0 H locs ls hkv hT (lv_sub hl [1, 0] rfl)
    · skip
      have hkv : 1 = b01 (eqP0 U V) := eq0_y hq0 (i32_eqN (by omega) (by omega) h_25)
      refine lv_iconst (v := 1) hx hb dX11_equal_35 (by decide) ?_
      refine lv_goto (tgt := 40) hx hb dX11_equal_36 (by decide) ?_
      refine lv_istore_n (lv' := [(1, .int 1), (0, .ref (mo 0))]) hx hb dX11_equal_40 rfl hl (by decide) rfl (fun ls hl => ?_)
      exact kont_41 1 H locs ls hkv hT (lv_sub hl [1, 0] rfl)
