set_option maxHeartbeats 400000 in
set_option maxRecDepth 100000 in
theorem c_X8_beginByte (l : Launch) (g : GT) (ad : Nat → Nat) (np : Nat) (fk : Nat → Int32) (fn : Nat → Int32) (fo : Nat → Int32) (st : Nat → Int32) (n : Nat) (nd : Nat) (bg : Nat) (f : Nat → Int32) (N : Nat) (fc : Nat → Int32) (fs : Nat → Int32) (r0 : Int32) (t0 : Int32) (f0 : Nat → Int32) (r1 : Int32) (t1 : Int32) (f1 : Nat → Int32) (nr : Int32) (fx : Nat → Int32) (mp : Nat → Nat) (ml : Nat → Nat) (cx : Nat → Int32) (xi : Nat → Int32) (hnp : np ≤ 8) (hn : n ≤ 2000) (hal : ∀ j, j < np → allowB (fk j) (fn j) = true) (hmp : ∀ j, j < 8 → mp j < 2 ^ 19) (hml : ∀ j, j < 8 → ml j ≤ 32) : OM (S := Unit) l g yX8_beginByte cX8_beginByte 4 none ({ frames := 3, cells := 0, slots := 0, locals := 69 } : Room) [.ref (ad 0)] (sideL g ad np fk fn fo st n nd bg f N fc fs r0 t0 f0 r1 t1 f1 nr fx mp ml cx xi) (fun _ => none) (fun _ => (sideL g ad np fk fn fo st n nd bg f N fc fs r0 t0 f0 r1 t1 f1 nr fx (bgP f n fk fn mp ml np) (bgL f n fk fn mp ml np) (bgC f n fk fn cx np) xi)) := by
  refine OM.startQ (by decide) (Nat.le_of_ble_eq_true rfl) ?_
  intro p e s m below meth c A ls Q H locs hQ C hnm hl hT
  have hx := C.x
  have hb := C.b
  have hl : lv_has ls 4 [(0, .ref (ad 0))] := hl
  refine lv_iconst (v := 0) hx hb dX8_beginByte_0 (by decide) ?_
  refine lv_istore_n (lv' := [(1, .int 0), (0, .ref (ad 0))]) hx hb dX8_beginByte_1 rfl hl (by decide) rfl (fun ls hl => ?_)
  have loop_2 : ∀ (fu : Nat) (i : Nat) (vx1 : Int32) (mp1 : Nat → Nat) (ml1 : Nat → Nat) (cx1 : Nat → Int32) (H : Heap) (locs : List Loc) (ls : Array Slot) (hi : i ≤ np) (vex1 : vx1 = nI i) (hP1 : mp1 = bgP f n fk fn mp ml i) (hL1 : ml1 = bgL f n fk fn mp ml i) (hC1 : cx1 = bgC f n fk fn cx i), np - i < fu → Wd g A s (sideL g ad np fk fn fo st n nd bg f N fc fs r0 t0 f0 r1 t1 f1 nr fx mp1 ml1 cx1 xi) H locs → lv_has ls 4 [(0, .ref (ad 0)), (1, .int vx1)] → W p l e ({ frames := 3, cells := 0, slots := 0, locals := 69 } : Room) s m ([.ref (ad 0)] : List Value).toArray below meth c H locs 0 0 Q (F0 m 2 ls []) := by
    intro fu
    induction fu with
    | zero => intro i vx1 mp1 ml1 cx1 H locs ls hi vex1 hP1 hL1 hC1 hm; exact absurd hm (Nat.not_lt_zero _)
    | succ fu ih =>
      intro i vx1 mp1 ml1 cx1 H locs ls hi vex1 hP1 hL1 hC1 hm hT hl
      refine lv_iload_n hx hb dX8_beginByte_2 rfl (lv_at hl 1 rfl) ?_
      refine lv_aload_n hx hb dX8_beginByte_3 rfl (lv_at hl 0 rfl) ?_
      refine gX8_48 C hT (q0 := 0) rfl dX8_beginByte_4 ?_
      refine gX8_79 C hT (q0 := 1) rfl dX8_beginByte_7 ?_
      refine lv_icmp_ge (tgt := 89) hx hb dX8_beginByte_10 (by decide) (fun h_1 => ?_) (fun h_1 => ?_)
      · skip
        have hin := lp_end vex1 (by omega) hi h_1
        exact e_vret C hQ () (by subst hP1 hL1 hC1; rw [hin] at hT; exact hT) rfl dX8_beginByte_89
      · skip
        have hin := lp_go vex1 (by omega) hi h_1
        have hi8 : i < 8 := by omega
        have hali := hal i hin
        have ep1 : mp1 i = mp i := by rw [hP1]; simp [bgP]
        have el1 : ml1 i = ml i := by rw [hL1]; simp [bgL]
        refine lv_aload_n hx hb dX8_beginByte_13 rfl (lv_at hl 0 rfl) ?_
        refine gX8_48 C hT (q0 := 0) rfl dX8_beginByte_14 ?_
        refine gX8_84 C hT (q0 := 1) rfl dX8_beginByte_17 ?_
        refine lv_iload_n hx hb dX8_beginByte_20 rfl (lv_at hl 1 rfl) ?_
        refine r_iald C hT (q0 := 2) rfl i vex1 hi8 (by decide) dX8_beginByte_21 ?_
        refine W.eq (g2 := F0 m 22 ls [.int (fk i)]) (congrArg (fun z => F0 m 22 ls (.int z :: [])) (rfl)) ?_
        refine lv_istore_n (lv' := [(2, .int (fk i)), (0, .ref (ad 0)), (1, .int vx1)]) hx hb dX8_beginByte_22 rfl hl (by decide) rfl (fun ls hl => ?_)
        refine lv_aload_n hx hb dX8_beginByte_23 rfl (lv_at hl 1 rfl) ?_
        refine gX8_48 C hT (q0 := 0) rfl dX8_beginByte_24 ?_
        refine gX8_87 C hT (q0 := 1) rfl dX8_beginByte_27 ?_
        refine lv_iload_n hx hb dX8_beginByte_30 rfl (lv_at hl 2 rfl) ?_
        refine r_iald C hT (q0 := 3) rfl i vex1 hi8 (by decide) dX8_beginByte_31 ?_
        refine W.eq (g2 := F0 m 32 ls [.int (fn i)]) (congrArg (fun z => F0 m 32 ls (.int z :: [])) (rfl)) ?_
        refine lv_istore_n (lv' := [(3, .int (fn i)), (2, .int (fk i)), (0, .ref (ad 0)), (1, .int vx1)]) hx hb dX8_beginByte_32 rfl hl (by decide) rfl (fun ls hl => ?_)
        refine lv_iload_n hx hb dX8_beginByte_33 rfl (lv_at hl 1 rfl) ?_
        refine lv_iconst (v := 4) hx hb dX8_beginByte_34 (by decide) ?_
        refine lv_icmp_ne (tgt := 68) hx hb dX8_beginByte_35 (by decide) (fun h_2 => ?_) (fun h_2 => ?_)
        · skip
          have hk4 := h_2
          refine lv_aload_n hx hb dX8_beginByte_68 rfl (lv_at hl 2 rfl) ?_
          refine gX8_41 C hT (q0 := 0) rfl dX8_beginByte_69 ?_
          refine lv_iload_n hx hb dX8_beginByte_72 rfl (lv_at hl 3 rfl) ?_
          refine lv_aload_n hx hb dX8_beginByte_73 rfl (lv_at hl 2 rfl) ?_
          refine gX8_12 C hT (q0 := 0) rfl dX8_beginByte_74 ?_
          refine lv_iload_n hx hb dX8_beginByte_77 rfl (lv_at hl 1 rfl) ?_
          refine lv_iload_n hx hb dX8_beginByte_78 rfl (lv_at hl 0 rfl) ?_
          have hM := c_X2_contextOf l g (ad 7) (ad 8) n nd bg f (fk i) (fn i) (by first | assumption | omega) hali
          refine r_call0 (js := [7, 8]) C hT (runV (js := [7, 8]) (rm := ({ frames := 2, cells := 0, slots := 0, locals := 45 } : Room)) (As := [.int (fk i), .int (fn i)]) (n := 2) (q1 := 0) (rest := [.int vx1, .ref (ad 27)]) C hT hM rfl rfl k327 k328 k329 k6 k330 (by decide +kernel) rfl rfl rfl rfl (Nat.le_of_ble_eq_true rfl) hl.1 ⟨Nat.le_of_ble_eq_true rfl, Nat.le_of_ble_eq_true rfl⟩ ⟨Nat.le_of_ble_eq_true rfl, Nat.le_of_ble_eq_true rfl⟩ dX8_beginByte_79) rfl rfl (fun _ => rfl) (fun u H locs hT => ?_)
          have hT : Wd g A s (sideL g ad np fk fn fo st n nd bg f N fc fs r0 t0 f0 r1 t1 f1 nr fx mp1 ml1 cx1 xi) H locs := hT
          refine W.eq (g2 := F0 m 82 ls [.int (ctxI f n (fk i) (fn i)), .int vx1, .ref (ad 27)]) rfl ?_
          refine r_iast C hT (q0 := 27) rfl i vex1 hi8 (by decide) dX8_beginByte_82 (fun H locs hT => ?_)
          have hT : Wd g A s (sideL g ad np fk fn fo st n nd bg f N fc fs r0 t0 f0 r1 t1 f1 nr fx mp1 ml1 (upd cx1 i (ctxI f n (fk i) (fn i))) xi) H locs := hT
          obtain ⟨x_3, ex_3⟩ : ∃ y : Int32, y = vx1 + 1 := ⟨_, rfl⟩
          refine lv_iinc (v := x_3) (lv' := [(1, .int x_3), (3, .int (fn i)), (2, .int (fk i)), (0, .ref (ad 0))]) hx hb dX8_beginByte_83 hl (k := 3) rfl (by rw [ex_3]; rfl) (by decide) rfl (fun ls hl => ?_)
          refine lv_goto (tgt := 2) hx hb dX8_beginByte_86 (by decide) ?_
          exact ih (i + 1) x_3 mp1 ml1 (upd cx1 i (ctxI f n (fk i) (fn i))) H locs ls (by first | assumption | omega | rfl) (by rw [ex_3, vex1]; exact nI_1 i) (by rw [hP1]; first | exact bgP_n hk4 | (rw [hL1, updN_2, updN_self, updN_self]; exact bgP_s hk4 et1)) (by rw [hL1]; first | exact bgL_n hk4 | (rw [hP1, updN_2, updN_self]; exact bgL_s hk4 et1)) (by rw [hC1]; first | exact bgC_n hk4 | exact bgC_s hk4) (by omega) hT (lv_sub hl [3, 0] rfl)
        · skip
          have hk4 := h_2
          obtain ⟨t, ht3, ht8, vet⟩ := allow4 (hk4 ▸ hali)
          have et1 : (fn i).toNatClampNeg = t := by rw [vet, nI_clamp (by omega)]
          refine lv_aload_n hx hb dX8_beginByte_38 rfl (lv_at hl 2 rfl) ?_
          refine gX8_37 C hT (q0 := 0) rfl dX8_beginByte_39 ?_
          refine lv_iload_n hx hb dX8_beginByte_42 rfl (lv_at hl 3 rfl) ?_
          refine r_aald C hT (q0 := 18) rfl i vex1 hi8 (by decide) (b := ad (19 + i)) rfl dX8_beginByte_43 ?_
          refine lv_aload_n hx hb dX8_beginByte_44 rfl (lv_at hl 2 rfl) ?_
          refine gX8_12 C hT (q0 := 0) rfl dX8_beginByte_45 ?_
          have hM := c_X3_follow l g (ad (19 + i)) (mp1 i) (ml1 i) (ad 7) (ad 8) n nd bg f (by first | assumption | omega) (by rw [ep1]; have := hmp i hi8; omega) (by rw [el1]; exact hml i hi8)
          refine r_call0 (js := [19 + i, 7, 8]) C hT (runV (js := [19 + i, 7, 8]) (rm := ({ frames := 1, cells := 0, slots := 0, locals := 23 } : Room)) (As := [.ref (ad 7)]) (n := 1) (q1 := 0) (rest := []) C hT hM (sideL_js hi8) (sideL_nd hi8) k303 k304 k305 k12 k306 (by decide +kernel) rfl rfl rfl rfl (Nat.le_of_ble_eq_true rfl) hl.1 ⟨Nat.le_of_ble_eq_true rfl, Nat.le_of_ble_eq_true rfl⟩ ⟨Nat.le_of_ble_eq_true rfl, Nat.le_of_ble_eq_true rfl⟩ dX8_beginByte_48) (sideL_js hi8) (sideL_nd hi8) (fun _ => rfl) (fun u H locs hT => ?_)
          have hT : Wd g A s (sideL g ad np fk fn fo st n nd bg f N fc fs r0 t0 f0 r1 t1 f1 nr fx (updN mp1 i (folP f n (mp1 i) (ml1 i))) (updN ml1 i (folL f n (mp1 i) (ml1 i))) cx1 xi) H locs := hT.eq (sideL_sl hi8)
          refine W.eq (g2 := F0 m 51 ls []) rfl ?_
          refine lv_aload_n hx hb dX8_beginByte_51 rfl (lv_at hl 2 rfl) ?_
          refine gX8_37 C hT (q0 := 0) rfl dX8_beginByte_52 ?_
          refine lv_iload_n hx hb dX8_beginByte_55 rfl (lv_at hl 3 rfl) ?_
          refine r_aald C hT (q0 := 18) rfl i vex1 hi8 (by decide) (b := ad (19 + i)) rfl dX8_beginByte_56 ?_
          refine lv_aload_n hx hb dX8_beginByte_57 rfl (lv_at hl 2 rfl) ?_
          refine gX8_12 C hT (q0 := 0) rfl dX8_beginByte_58 ?_
          refine lv_iload_n hx hb dX8_beginByte_61 rfl (lv_at hl 0 rfl) ?_
          refine W.eq (g2 := F0 m 62 ls [.int (nI t), .ref (ad 7), .ref (ad (19 + i))]) (congrArg (fun z => F0 m 62 ls (.int z :: [.ref (ad 7), .ref (ad (19 + i))])) (vet)) ?_
          have hM := c_X3_find l g (ad (19 + i)) ((updN mp1 i (folP f n (mp1 i) (ml1 i))) i) ((updN ml1 i (folL f n (mp1 i) (ml1 i))) i) (ad 7) (ad 8) n nd bg f t (by first | assumption | omega) (by rw [updN_self]; exact folL_le (by rw [el1]; exact hml i hi8)) (by omega)
          refine r_call0 (js := [19 + i, 7, 8]) C hT (runV (js := [19 + i, 7, 8]) (rm := ({ frames := 2, cells := 0, slots := 0, locals := 45 } : Room)) (As := [.ref (ad 7), .int (nI t)]) (n := 2) (q1 := 0) (rest := []) C hT hM (sideL_js hi8) (sideL_nd hi8) k316 k317 k318 k12 k319 (by decide +kernel) rfl rfl rfl rfl (Nat.le_of_ble_eq_true rfl) hl.1 ⟨Nat.le_of_ble_eq_true rfl, Nat.le_of_ble_eq_true rfl⟩ ⟨Nat.le_of_ble_eq_true rfl, Nat.le_of_ble_eq_true rfl⟩ dX8_beginByte_62) (sideL_js hi8) (sideL_nd hi8) (fun _ => rfl) (fun u H locs hT => ?_)
          have hT : Wd g A s (sideL g ad np fk fn fo st n nd bg f N fc fs r0 t0 f0 r1 t1 f1 nr fx (updN (updN mp1 i (folP f n (mp1 i) (ml1 i))) i (findP f n t ((updN mp1 i (folP f n (mp1 i) (ml1 i))) i) ((updN ml1 i (folL f n (mp1 i) (ml1 i))) i))) (updN (updN ml1 i (folL f n (mp1 i) (ml1 i))) i (findL f n t ((updN ml1 i (folL f n (mp1 i) (ml1 i))) i))) cx1 xi) H locs := hT.eq (sideL_sl hi8)
          refine W.eq (g2 := F0 m 65 ls []) rfl ?_
          refine lv_goto (tgt := 83) hx hb dX8_beginByte_65 (by decide) ?_
          obtain ⟨x_4, ex_4⟩ : ∃ y : Int32, y = vx1 + 1 := ⟨_, rfl⟩
          refine lv_iinc (v := x_4) (lv' := [(1, .int x_4), (3, .int (fn i)), (2, .int (fk i)), (0, .ref (ad 0))]) hx hb dX8_beginByte_83 hl (k := 3) rfl (by rw [ex_4]; rfl) (by decide) rfl (fun ls hl => ?_)
          refine lv_goto (tgt := 2) hx hb dX8_beginByte_86 (by decide) ?_
          exact ih (i + 1) x_4 (updN (updN mp1 i (folP f n (mp1 i) (ml1 i))) i (findP f n t ((updN mp1 i (folP f n (mp1 i) (ml1 i))) i) ((updN ml1 i (folL f n (mp1 i) (ml1 i))) i))) (updN (updN ml1 i (folL f n (mp1 i) (ml1 i))) i (findL f n t ((updN ml1 i (folL f n (mp1 i) (ml1 i))) i))) cx1 H locs ls (by first | assumption | omega | rfl) (by rw [ex_4, vex1]; exact nI_1 i) (by rw [hP1]; first | exact bgP_n hk4 | (rw [hL1, updN_2, updN_self, updN_self]; exact bgP_s hk4 et1)) (by rw [hL1]; first | exact bgL_n hk4 | (rw [hP1, updN_2, updN_self]; exact bgL_s hk4 et1)) (by rw [hC1]; first | exact bgC_n hk4 | exact bgC_s hk4) (by omega) hT (lv_sub hl [3, 0] rfl)
  exact loop_2 (np - 0 + 1) 0 0 mp ml cx H locs ls (by first | assumption | omega | rfl) rfl (bgP_0 f n fk fn mp ml) (bgL_0 f n fk fn mp ml) (bgC_0 f n fk fn cx) (Nat.lt_succ_self _) hT (lv_sub hl [1, 0] rfl)
