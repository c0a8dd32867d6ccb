set_option maxHeartbeats 400000 in
set_option maxRecDepth 100000 in
theorem c_X8_learn (l : Launch) (g : GT) (ad : Nat → Nat) (np : Nat) (fk : Nat → Int32) (fn : Nat → Int32) (fo : Nat → Int32) (st : Nat → Int32) (n : Nat) (nd : Nat) (bg : Nat) (f : Nat → Int32) (N : Nat) (fc : Nat → Int32) (fs : Nat → Int32) (t0 : Int32) (f0 : Nat → Int32) (t1 : Int32) (f1 : Nat → Int32) (fx : Nat → Int32) (mp : Nat → Nat) (ml : Nat → Nat) (cx : Nat → Int32) (xi : Nat → Int32) (rr : Nat) (k0 : Nat) (k1 : Nat) (q : Nat) (on : Int32) (hnp : np ≤ 8) (hnd : nd < 256) (hb : bg < 7) (hN : N = 2 ^ rr) (hrr : rr ≤ 12) (hk0 : k0 < 256) (hk1 : k1 < 256) (hq : q < 8448) : OM (S := Unit) l g yX8_learn cX8_learn 3 none ({ frames := 3, cells := 0, slots := 0, locals := 70 } : Room) [.ref (ad 0), .int on] (sideL g ad np fk fn fo st n nd bg f N fc fs (nI (9 * k0)) t0 f0 (nI (9 * k1)) t1 f1 (nI q) fx mp ml cx xi) (fun _ => none) (fun _ => (sideL g ad np fk fn fo st n (2 * nd + bitN on) (bg + 1) f N (slC fo fk N nd cx on fc fs np) (slS fo fk N nd cx on fc fs np) (nI (9 * k0)) t0 (wLearn f0 xi (9 * k0) (errI on t0) 9) (nI (9 * k1)) t1 (wLearn f1 xi (9 * k1) (errI on t1) 9) (nI q) (upd fx q (cellUp on (fx q))) mp ml cx xi)) := by
  refine OM.startQ (by decide) (Nat.le_of_ble_eq_true rfl) ?_
  intro p e s m below meth c A ls Q H locs hQ C hnm hl hT
  have hx := C.x
  have hb := C.b
  have hl : lv_has ls 3 [(0, .ref (ad 0)), (1, .int on)] := hl
  have hN31 : N < 2 ^ 31 := pow12 hrr hN
  refine lv_aload_n hx hb dX8_learn_0 rfl (lv_at hl 0 rfl) ?_
  refine gX8_21 C hT (q0 := 0) rfl dX8_learn_1 ?_
  refine lv_iload_n hx hb dX8_learn_4 rfl (lv_at hl 1 rfl) ?_
  refine lv_aload_n hx hb dX8_learn_5 rfl (lv_at hl 0 rfl) ?_
  refine gX8_45 C hT (q0 := 0) rfl dX8_learn_6 ?_
  have hM := c_X4_learn l g (ad 12) (ad 13) t0 f0 (ad 28) xi k0 on hk0
  refine r_call0 (js := [12, 13, 28]) C hT (runV (js := [12, 13, 28]) (rm := ({ frames := 2, cells := 0, slots := 0, locals := 45 } : Room)) (As := [.int on, .ref (ad 28)]) (n := 2) (q1 := 0) (rest := []) C hT hM rfl rfl k461 k462 k463 k7 k464 (by decide +kernel) rfl rfl rfl rfl (Nat.le_of_ble_eq_true rfl) hl.1 ⟨Nat.le_of_ble_eq_true rfl, Nat.le_of_ble_eq_true rfl⟩ ⟨Nat.le_of_ble_eq_true rfl, Nat.le_of_ble_eq_true rfl⟩ dX8_learn_9) rfl rfl (fun _ => rfl) (fun u H locs hT => ?_)
  have hT : Wd g A s (sideL g ad np fk fn fo st n nd bg f N fc fs (nI (9 * k0)) t0 (wLearn f0 xi (9 * k0) (errI on t0) 9) (nI (9 * k1)) t1 f1 (nI q) fx mp ml cx xi) H locs := hT
  refine W.eq (g2 := F0 m 12 ls []) rfl ?_
  refine lv_aload_n hx hb dX8_learn_12 rfl (lv_at hl 0 rfl) ?_
  refine gX8_25 C hT (q0 := 0) rfl dX8_learn_13 ?_
  refine lv_iload_n hx hb dX8_learn_16 rfl (lv_at hl 1 rfl) ?_
  refine lv_aload_n hx hb dX8_learn_17 rfl (lv_at hl 0 rfl) ?_
  refine gX8_45 C hT (q0 := 0) rfl dX8_learn_18 ?_
  have hM := c_X4_learn l g (ad 14) (ad 15) t1 f1 (ad 28) xi k1 on hk1
  refine r_call0 (js := [14, 15, 28]) C hT (runV (js := [14, 15, 28]) (rm := ({ frames := 2, cells := 0, slots := 0, locals := 45 } : Room)) (As := [.int on, .ref (ad 28)]) (n := 2) (q1 := 0) (rest := []) C hT hM rfl rfl k461 k462 k463 k7 k464 (by decide +kernel) rfl rfl rfl rfl (Nat.le_of_ble_eq_true rfl) hl.1 ⟨Nat.le_of_ble_eq_true rfl, Nat.le_of_ble_eq_true rfl⟩ ⟨Nat.le_of_ble_eq_true rfl, Nat.le_of_ble_eq_true rfl⟩ dX8_learn_21) rfl rfl (fun _ => rfl) (fun u H locs hT => ?_)
  have hT : Wd g A s (sideL g ad np fk fn fo st n nd bg f N fc fs (nI (9 * k0)) t0 (wLearn f0 xi (9 * k0) (errI on t0) 9) (nI (9 * k1)) t1 (wLearn f1 xi (9 * k1) (errI on t1) 9) (nI q) fx mp ml cx xi) H locs := hT
  refine W.eq (g2 := F0 m 24 ls []) rfl ?_
  refine lv_aload_n hx hb dX8_learn_24 rfl (lv_at hl 0 rfl) ?_
  refine gX8_31 C hT (q0 := 0) rfl dX8_learn_25 ?_
  refine lv_iload_n hx hb dX8_learn_28 rfl (lv_at hl 1 rfl) ?_
  have hM := c_X1_learn l g (ad 16) (ad 17) fx q on (by first | assumption | omega)
  refine r_call0 (js := [16, 17]) C hT (runV (js := [16, 17]) (rm := ({ frames := 0, cells := 0, slots := 0, locals := 0 } : Room)) (As := [.int on]) (n := 1) (q1 := 0) (rest := []) C hT hM rfl rfl k468 k469 k470 k9 k471 (by decide +kernel) rfl rfl rfl rfl (Nat.le_of_ble_eq_true rfl) hl.1 ⟨Nat.le_of_ble_eq_true rfl, Nat.le_of_ble_eq_true rfl⟩ ⟨Nat.le_of_ble_eq_true rfl, Nat.le_of_ble_eq_true rfl⟩ dX8_learn_29) rfl rfl (fun _ => rfl) (fun u H locs hT => ?_)
  have hT : Wd g A s (sideL g ad np fk fn fo st n nd bg f N fc fs (nI (9 * k0)) t0 (wLearn f0 xi (9 * k0) (errI on t0) 9) (nI (9 * k1)) t1 (wLearn f1 xi (9 * k1) (errI on t1) 9) (nI q) (upd fx q (cellUp on (fx q))) mp ml cx xi) H locs := hT
  refine W.eq (g2 := F0 m 32 ls []) rfl ?_
  refine lv_iconst (v := 0) hx hb dX8_learn_32 (by decide) ?_
  refine lv_istore_n (lv' := [(2, .int 0), (0, .ref (ad 0)), (1, .int on)]) hx hb dX8_learn_33 rfl hl (by decide) rfl (fun ls hl => ?_)
  have loop_34 : ∀ (fu : Nat) (i : Nat) (vx2 : Int32) (fc1 : Nat → Int32) (fs1 : Nat → Int32) (H : Heap) (locs : List Loc) (ls : Array Slot) (hi : i ≤ np) (vex2 : vx2 = nI i) (hF1 : fc1 = slC fo fk N nd cx on fc fs i) (hS1 : fs1 = slS fo fk N nd cx on fc fs i), np - i < fu → Wd g A s (sideL g ad np fk fn fo st n nd bg f N fc1 fs1 (nI (9 * k0)) t0 (wLearn f0 xi (9 * k0) (errI on t0) 9) (nI (9 * k1)) t1 (wLearn f1 xi (9 * k1) (errI on t1) 9) (nI q) (upd fx q (cellUp on (fx q))) mp ml cx xi) H locs → lv_has ls 3 [(0, .ref (ad 0)), (1, .int on), (2, .int vx2)] → W p l e ({ frames := 3, cells := 0, slots := 0, locals := 70 } : Room) s m ([.ref (ad 0), .int on] : List Value).toArray below meth c H locs 0 0 Q (F0 m 34 ls []) := by
    intro fu
    induction fu with
    | zero => intro i vx2 fc1 fs1 H locs ls hi vex2 hF1 hS1 hm; exact absurd hm (Nat.not_lt_zero _)
    | succ fu ih =>
      intro i vx2 fc1 fs1 H locs ls hi vex2 hF1 hS1 hm hT hl
      refine lv_iload_n hx hb dX8_learn_34 rfl (lv_at hl 2 rfl) ?_
      refine lv_aload_n hx hb dX8_learn_35 rfl (lv_at hl 0 rfl) ?_
      refine gX8_48 C hT (q0 := 0) rfl dX8_learn_36 ?_
      refine gX8_79 C hT (q0 := 1) rfl dX8_learn_39 ?_
      refine lv_icmp_ge (tgt := 104) hx hb dX8_learn_42 (by decide) (fun h_1 => ?_) (fun h_1 => ?_)
      · skip
        have hin := lp_end vex2 (by omega) hi h_1
        rw [hin] at hF1 hS1
        refine lv_aload_n hx hb dX8_learn_104 rfl (lv_at hl 0 rfl) ?_
        refine gX8_12 C hT (q0 := 0) rfl dX8_learn_105 ?_
        refine lv_iload_n hx hb dX8_learn_108 rfl (lv_at hl 1 rfl) ?_
        have hM := c_X2_add l g (ad 7) (ad 8) n nd bg f on (by first | assumption | omega) (by first | assumption | omega)
        refine r_call0 (js := [7, 8]) C hT (runV (js := [7, 8]) (rm := ({ frames := 0, cells := 0, slots := 0, locals := 0 } : Room)) (As := [.int on]) (n := 1) (q1 := 0) (rest := []) C hT hM rfl rfl k485 k486 k487 k6 k488 (by decide +kernel) rfl rfl rfl rfl (Nat.le_of_ble_eq_true rfl) hl.1 ⟨Nat.le_of_ble_eq_true rfl, Nat.le_of_ble_eq_true rfl⟩ ⟨Nat.le_of_ble_eq_true rfl, Nat.le_of_ble_eq_true rfl⟩ dX8_learn_109) rfl rfl (fun _ => rfl) (fun u H locs hT => ?_)
        have hT : Wd g A s (sideL g ad np fk fn fo st n (2 * nd + bitN on) (bg + 1) f N fc1 fs1 (nI (9 * k0)) t0 (wLearn f0 xi (9 * k0) (errI on t0) 9) (nI (9 * k1)) t1 (wLearn f1 xi (9 * k1) (errI on t1) 9) (nI q) (upd fx q (cellUp on (fx q))) mp ml cx xi) H locs := hT
        refine W.eq (g2 := F0 m 112 ls [.int 0]) rfl ?_
        refine lv_if_eq (tgt := 119) hx hb dX8_learn_112 (by decide) (fun h_2 => ?_) (fun h_2 => ?_)
        · skip
          exact e_vret C hQ () (by exact hT.eq (by rw [hF1, hS1])) rfl dX8_learn_119
        · skip
          exact absurd rfl h_2
      · skip
        have hin := lp_go vex2 (by omega) hi h_1
        have hi8 : i < 8 := by omega
        refine lv_aload_n hx hb dX8_learn_45 rfl (lv_at hl 0 rfl) ?_
        refine gX8_48 C hT (q0 := 0) rfl dX8_learn_46 ?_
        refine gX8_106 C hT (q0 := 1) rfl dX8_learn_49 ?_
        refine lv_iload_n hx hb dX8_learn_52 rfl (lv_at hl 2 rfl) ?_
        refine r_zald C hT (q0 := 4) rfl i vex2 hi8 (by decide) dX8_learn_53 ?_
        refine W.eq (g2 := F0 m 54 ls [.int (fo i)]) (congrArg (fun z => F0 m 54 ls (.int z :: [])) (rfl)) ?_
        refine lv_if_ne (tgt := 98) hx hb dX8_learn_54 (by decide) (fun h_3 => ?_) (fun h_3 => ?_)
        · skip
          have hok : slOk fo fk i = false := by simp [slOk, h_3]
          obtain ⟨x_4, ex_4⟩ : ∃ y : Int32, y = vx2 + 1 := ⟨_, rfl⟩
          refine lv_iinc (v := x_4) (lv' := [(2, .int x_4), (0, .ref (ad 0)), (1, .int on)]) hx hb dX8_learn_98 hl (k := 2) rfl (by rw [ex_4]; rfl) (by decide) rfl (fun ls hl => ?_)
          refine lv_goto (tgt := 34) hx hb dX8_learn_101 (by decide) ?_
          exact ih (i + 1) x_4 fc1 fs1 H locs ls (by first | assumption | omega | rfl) (by rw [ex_4, vex2]; exact nI_1 i) (by first | (rw [hF1]; exact slC_n hok) | (rw [hF1, hS1]; exact slC_y hok)) (by first | (rw [hS1]; exact slS_n hok) | (rw [hS1]; exact slS_y hok)) (by omega) hT (lv_sub hl [1, 2, 0] rfl)
        · skip
          have hfo := h_3
          refine lv_aload_n hx hb dX8_learn_57 rfl (lv_at hl 0 rfl) ?_
          refine gX8_48 C hT (q0 := 0) rfl dX8_learn_58 ?_
          refine gX8_84 C hT (q0 := 1) rfl dX8_learn_61 ?_
          refine lv_iload_n hx hb dX8_learn_64 rfl (lv_at hl 2 rfl) ?_
          refine r_iald C hT (q0 := 2) rfl i vex2 hi8 (by decide) dX8_learn_65 ?_
          refine W.eq (g2 := F0 m 66 ls [.int (fk i)]) (congrArg (fun z => F0 m 66 ls (.int z :: [])) (rfl)) ?_
          refine lv_iconst (v := 4) hx hb dX8_learn_66 (by decide) ?_
          refine lv_icmp_eq (tgt := 98) hx hb dX8_learn_67 (by decide) (fun h_5 => ?_) (fun h_5 => ?_)
          · skip
            have hok : slOk fo fk i = false := by simp [slOk, h_5]
            obtain ⟨x_6, ex_6⟩ : ∃ y : Int32, y = vx2 + 1 := ⟨_, rfl⟩
            refine lv_iinc (v := x_6) (lv' := [(2, .int x_6), (0, .ref (ad 0)), (1, .int on)]) hx hb dX8_learn_98 hl (k := 2) rfl (by rw [ex_6]; rfl) (by decide) rfl (fun ls hl => ?_)
            refine lv_goto (tgt := 34) hx hb dX8_learn_101 (by decide) ?_
            exact ih (i + 1) x_6 fc1 fs1 H locs ls (by first | assumption | omega | rfl) (by rw [ex_6, vex2]; exact nI_1 i) (by first | (rw [hF1]; exact slC_n hok) | (rw [hF1, hS1]; exact slC_y hok)) (by first | (rw [hS1]; exact slS_n hok) | (rw [hS1]; exact slS_y hok)) (by omega) hT (lv_sub hl [1, 2, 0] rfl)
          · skip
            have hok : slOk fo fk i = true := by simp [slOk, hfo, h_5]
            refine lv_aload_n hx hb dX8_learn_70 rfl (lv_at hl 0 rfl) ?_
            refine gX8_61 C hT (q0 := 0) rfl dX8_learn_71 ?_
            refine lv_aload_n hx hb dX8_learn_74 rfl (lv_at hl 0 rfl) ?_
            refine gX8_61 C hT (q0 := 0) rfl dX8_learn_75 ?_
            refine lv_aload_n hx hb dX8_learn_78 rfl (lv_at hl 0 rfl) ?_
            refine gX8_41 C hT (q0 := 0) rfl dX8_learn_79 ?_
            refine lv_iload_n hx hb dX8_learn_82 rfl (lv_at hl 2 rfl) ?_
            refine r_iald C hT (q0 := 27) rfl i vex2 hi8 (by decide) dX8_learn_83 ?_
            refine W.eq (g2 := F0 m 84 ls [.int (cx i), .ref (ad 9), .ref (ad 9)]) (congrArg (fun z => F0 m 84 ls (.int z :: [.ref (ad 9), .ref (ad 9)])) (rfl)) ?_
            refine lv_aload_n hx hb dX8_learn_84 rfl (lv_at hl 0 rfl) ?_
            refine gX8_12 C hT (q0 := 0) rfl dX8_learn_85 ?_
            refine gX8_117 C hT (q0 := 7) rfl dX8_learn_88 ?_
            have hM := c_X9_placeOf l g (ad 9) (ad 10) (ad 11) N fc1 (cx i) (nI nd)
            refine r_call0 (js := [9, 10]) C hT (runV (js := [9, 10]) (rm := ({ frames := 1, cells := 0, slots := 0, locals := 22 } : Room)) (As := [.int (cx i), .int (nI nd)]) (n := 2) (q1 := 0) (rest := [.ref (ad 9)]) C hT hM rfl rfl k394 k395 k396 k11 k397 (by decide +kernel) rfl rfl rfl rfl (Nat.le_of_ble_eq_true rfl) hl.1 ⟨Nat.le_of_ble_eq_true rfl, Nat.le_of_ble_eq_true rfl⟩ ⟨Nat.le_of_ble_eq_true rfl, Nat.le_of_ble_eq_true rfl⟩ dX8_learn_91) rfl rfl (fun _ => rfl) (fun u H locs hT => ?_)
            have hT : Wd g A s (sideL g ad np fk fn fo st n nd bg f N fc1 fs1 (nI (9 * k0)) t0 (wLearn f0 xi (9 * k0) (errI on t0) 9) (nI (9 * k1)) t1 (wLearn f1 xi (9 * k1) (errI on t1) 9) (nI q) (upd fx q (cellUp on (fx q))) mp ml cx xi) H locs := hT
            refine W.eq (g2 := F0 m 94 ls [.int (hashI (cx i) (nI nd) &&& (nI N - 1)), .ref (ad 9)]) rfl ?_
            refine W.eq (g2 := F0 m 94 ls [.int (nI (slotN N (cx i) (nI nd))), .ref (ad 9)]) (congrArg (fun z => F0 m 94 ls (.int z :: [.ref (ad 9)])) (slot_eq hrr hN)) ?_
            refine lv_iload_n hx hb dX8_learn_94 rfl (lv_at hl 1 rfl) ?_
            have hM := c_X9_learn l g (ad 9) (ad 10) (ad 11) N fc1 fs1 (slotN N (cx i) (nI nd)) on (slot_lt hN) (by first | assumption | omega)
            refine r_call0 (js := [9, 10, 11]) C hT (runV (js := [9, 10, 11]) (rm := ({ frames := 1, cells := 0, slots := 0, locals := 23 } : Room)) (As := [.int (nI (slotN N (cx i) (nI nd))), .int on]) (n := 2) (q1 := 0) (rest := []) C hT hM rfl rfl k473 k474 k475 k11 k476 (by decide +kernel) rfl rfl rfl rfl (Nat.le_of_ble_eq_true rfl) hl.1 ⟨Nat.le_of_ble_eq_true rfl, Nat.le_of_ble_eq_true rfl⟩ ⟨Nat.le_of_ble_eq_true rfl, Nat.le_of_ble_eq_true rfl⟩ dX8_learn_95) rfl rfl (fun _ => rfl) (fun u H locs hT => ?_)
            have hT : Wd g A s (sideL g ad np fk fn fo st n nd bg f N (upd fc1 (slotN N (cx i) (nI nd)) (slotUp on (fc1 (slotN N (cx i) (nI nd))) (fs1 (slotN N (cx i) (nI nd))))) (upd fs1 (slotN N (cx i) (nI nd)) (cntUp (fs1 (slotN N (cx i) (nI nd))))) (nI (9 * k0)) t0 (wLearn f0 xi (9 * k0) (errI on t0) 9) (nI (9 * k1)) t1 (wLearn f1 xi (9 * k1) (errI on t1) 9) (nI q) (upd fx q (cellUp on (fx q))) mp ml cx xi) H locs := hT
            refine W.eq (g2 := F0 m 98 ls []) rfl ?_
            obtain ⟨x_7, ex_7⟩ : ∃ y : Int32, y = vx2 + 1 := ⟨_, rfl⟩
            refine lv_iinc (v := x_7) (lv' := [(2, .int x_7), (0, .ref (ad 0)), (1, .int on)]) hx hb dX8_learn_98 hl (k := 2) rfl (by rw [ex_7]; rfl) (by decide) rfl (fun ls hl => ?_)
            refine lv_goto (tgt := 34) hx hb dX8_learn_101 (by decide) ?_
            exact ih (i + 1) x_7 (upd fc1 (slotN N (cx i) (nI nd)) (slotUp on (fc1 (slotN N (cx i) (nI nd))) (fs1 (slotN N (cx i) (nI nd))))) (upd fs1 (slotN N (cx i) (nI nd)) (cntUp (fs1 (slotN N (cx i) (nI nd))))) H locs ls (by first | assumption | omega | rfl) (by rw [ex_7, vex2]; exact nI_1 i) (by first | (rw [hF1]; exact slC_n hok) | (rw [hF1, hS1]; exact slC_y hok)) (by first | (rw [hS1]; exact slS_n hok) | (rw [hS1]; exact slS_y hok)) (by omega) hT (lv_sub hl [1, 2, 0] rfl)
  exact loop_34 (np - 0 + 1) 0 0 fc fs H locs ls (by first | assumption | omega | rfl) rfl (slC_0 fo fk N nd cx on fc fs) (slS_0 fo fk N nd cx on fc fs) (Nat.lt_succ_self _) hT (lv_sub hl [1, 2, 0] rfl)

set_option maxHeartbeats 400000 in
set_option maxRecDepth 100000 in
theorem c_X8_learn_last (l : Launch) (g : GT) (ad : Nat → Nat) (np : Nat) (fk : Nat → Int32) (fn : Nat → Int32) (fo : Nat → Int32) (st : Nat → Int32) (n : Nat) (nd : Nat) (bg : Nat) (f : Nat → Int32) (N : Nat) (fc : Nat → Int32) (fs : Nat → Int32) (t0 : Int32) (f0 : Nat → Int32) (t1 : Int32) (f1 : Nat → Int32) (fx : Nat → Int32) (mp : Nat → Nat) (ml : Nat → Nat) (cx : Nat → Int32) (xi : Nat → Int32) (rr : Nat) (k0 : Nat) (k1 : Nat) (q : Nat) (on : Int32) (hnp : np ≤ 8) (hnd : nd < 256) (hn : n < 2000) (hb7 : bg = 7) (hal : ∀ j, j < np → allowB (fk j) (fn j) = true) (hmp : ∀ j, j < 8 → mp j < 2 ^ 19) (hml : ∀ j, j < 8 → ml j ≤ 32) (hN : N = 2 ^ rr) (hrr : rr ≤ 12) (hk0 : k0 < 256) (hk1 : k1 < 256) (hq : q < 8448) : OM (S := Unit) l g yX8_learn cX8_learn 3 none ({ frames := 4, cells := 0, slots := 0, locals := 92 } : Room) [.ref (ad 0), .int on] (sideL g ad np fk fn fo st n nd bg f N fc fs (nI (9 * k0)) t0 f0 (nI (9 * k1)) t1 f1 (nI q) fx mp ml cx xi) (fun _ => none) (fun _ => (sideL g ad np fk fn fo st (n + 1) 1 0 (upd f n (nI ((2 * nd + bitN on) % 256))) N (slC fo fk N nd cx on fc fs np) (slS fo fk N nd cx on fc fs np) (nI (9 * k0)) t0 (wLearn f0 xi (9 * k0) (errI on t0) 9) (nI (9 * k1)) t1 (wLearn f1 xi (9 * k1) (errI on t1) 9) (nI q) (upd fx q (cellUp on (fx q))) (bgP (upd f n (nI ((2 * nd + bitN on) % 256))) (n + 1) fk fn mp ml np) (bgL (upd f n (nI ((2 * nd + bitN on) % 256))) (n + 1) fk fn mp ml np) (bgC (upd f n (nI ((2 * nd + bitN on) % 256))) (n + 1) fk fn cx np) xi)) := by
  refine OM.startQ (by decide) (Nat.le_of_ble_eq_true rfl) ?_
  intro p e s m below meth c A ls Q H locs hQ C hnm hl hT
  have hx := C.x
  have hb := C.b
  have hl : lv_has ls 3 [(0, .ref (ad 0)), (1, .int on)] := hl
  have hN31 : N < 2 ^ 31 := pow12 hrr hN
  refine lv_aload_n hx hb dX8_learn_0 rfl (lv_at hl 0 rfl) ?_
  refine gX8_21 C hT (q0 := 0) rfl dX8_learn_1 ?_
  refine lv_iload_n hx hb dX8_learn_4 rfl (lv_at hl 1 rfl) ?_
  refine lv_aload_n hx hb dX8_learn_5 rfl (lv_at hl 0 rfl) ?_
  refine gX8_45 C hT (q0 := 0) rfl dX8_learn_6 ?_
  have hM := c_X4_learn l g (ad 12) (ad 13) t0 f0 (ad 28) xi k0 on hk0
  refine r_call0 (js := [12, 13, 28]) C hT (runV (js := [12, 13, 28]) (rm := ({ frames := 2, cells := 0, slots := 0, locals := 45 } : Room)) (As := [.int on, .ref (ad 28)]) (n := 2) (q1 := 0) (rest := []) C hT hM rfl rfl k461 k462 k463 k7 k464 (by decide +kernel) rfl rfl rfl rfl (Nat.le_of_ble_eq_true rfl) hl.1 ⟨Nat.le_of_ble_eq_true rfl, Nat.le_of_ble_eq_true rfl⟩ ⟨Nat.le_of_ble_eq_true rfl, Nat.le_of_ble_eq_true rfl⟩ dX8_learn_9) rfl rfl (fun _ => rfl) (fun u H locs hT => ?_)
  have hT : Wd g A s (sideL g ad np fk fn fo st n nd bg f N fc fs (nI (9 * k0)) t0 (wLearn f0 xi (9 * k0) (errI on t0) 9) (nI (9 * k1)) t1 f1 (nI q) fx mp ml cx xi) H locs := hT
  refine W.eq (g2 := F0 m 12 ls []) rfl ?_
  refine lv_aload_n hx hb dX8_learn_12 rfl (lv_at hl 0 rfl) ?_
  refine gX8_25 C hT (q0 := 0) rfl dX8_learn_13 ?_
  refine lv_iload_n hx hb dX8_learn_16 rfl (lv_at hl 1 rfl) ?_
  refine lv_aload_n hx hb dX8_learn_17 rfl (lv_at hl 0 rfl) ?_
  refine gX8_45 C hT (q0 := 0) rfl dX8_learn_18 ?_
  have hM := c_X4_learn l g (ad 14) (ad 15) t1 f1 (ad 28) xi k1 on hk1
  refine r_call0 (js := [14, 15, 28]) C hT (runV (js := [14, 15, 28]) (rm := ({ frames := 2, cells := 0, slots := 0, locals := 45 } : Room)) (As := [.int on, .ref (ad 28)]) (n := 2) (q1 := 0) (rest := []) C hT hM rfl rfl k461 k462 k463 k7 k464 (by decide +kernel) rfl rfl rfl rfl (Nat.le_of_ble_eq_true rfl) hl.1 ⟨Nat.le_of_ble_eq_true rfl, Nat.le_of_ble_eq_true rfl⟩ ⟨Nat.le_of_ble_eq_true rfl, Nat.le_of_ble_eq_true rfl⟩ dX8_learn_21) rfl rfl (fun _ => rfl) (fun u H locs hT => ?_)
  have hT : Wd g A s (sideL g ad np fk fn fo st n nd bg f N fc fs (nI (9 * k0)) t0 (wLearn f0 xi (9 * k0) (errI on t0) 9) (nI (9 * k1)) t1 (wLearn f1 xi (9 * k1) (errI on t1) 9) (nI q) fx mp ml cx xi) H locs := hT
  refine W.eq (g2 := F0 m 24 ls []) rfl ?_
  refine lv_aload_n hx hb dX8_learn_24 rfl (lv_at hl 0 rfl) ?_
  refine gX8_31 C hT (q0 := 0) rfl dX8_learn_25 ?_
  refine lv_iload_n hx hb dX8_learn_28 rfl (lv_at hl 1 rfl) ?_
  have hM := c_X1_learn l g (ad 16) (ad 17) fx q on (by first | assumption | omega)
  refine r_call0 (js := [16, 17]) C hT (runV (js := [16, 17]) (rm := ({ frames := 0, cells := 0, slots := 0, locals := 0 } : Room)) (As := [.int on]) (n := 1) (q1 := 0) (rest := []) C hT hM rfl rfl k468 k469 k470 k9 k471 (by decide +kernel) rfl rfl rfl rfl (Nat.le_of_ble_eq_true rfl) hl.1 ⟨Nat.le_of_ble_eq_true rfl, Nat.le_of_ble_eq_true rfl⟩ ⟨Nat.le_of_ble_eq_true rfl, Nat.le_of_ble_eq_true rfl⟩ dX8_learn_29) rfl rfl (fun _ => rfl) (fun u H locs hT => ?_)
  have hT : Wd g A s (sideL g ad np fk fn fo st n nd bg f N fc fs (nI (9 * k0)) t0 (wLearn f0 xi (9 * k0) (errI on t0) 9) (nI (9 * k1)) t1 (wLearn f1 xi (9 * k1) (errI on t1) 9) (nI q) (upd fx q (cellUp on (fx q))) mp ml cx xi) H locs := hT
  refine W.eq (g2 := F0 m 32 ls []) rfl ?_
  refine lv_iconst (v := 0) hx hb dX8_learn_32 (by decide) ?_
  refine lv_istore_n (lv' := [(2, .int 0), (0, .ref (ad 0)), (1, .int on)]) hx hb dX8_learn_33 rfl hl (by decide) rfl (fun ls hl => ?_)
  have loop_34 : ∀ (fu : Nat) (i : Nat) (vx2 : Int32) (fc1 : Nat → Int32) (fs1 : Nat → Int32) (H : Heap) (locs : List Loc) (ls : Array Slot) (hi : i ≤ np) (vex2 : vx2 = nI i) (hF1 : fc1 = slC fo fk N nd cx on fc fs i) (hS1 : fs1 = slS fo fk N nd cx on fc fs i), np - i < fu → Wd g A s (sideL g ad np fk fn fo st n nd bg f N fc1 fs1 (nI (9 * k0)) t0 (wLearn f0 xi (9 * k0) (errI on t0) 9) (nI (9 * k1)) t1 (wLearn f1 xi (9 * k1) (errI on t1) 9) (nI q) (upd fx q (cellUp on (fx q))) mp ml cx xi) H locs → lv_has ls 3 [(0, .ref (ad 0)), (1, .int on), (2, .int vx2)] → W p l e ({ frames := 4, cells := 0, slots := 0, locals := 92 } : Room) s m ([.ref (ad 0), .int on] : List Value).toArray below meth c H locs 0 0 Q (F0 m 34 ls []) := by
    intro fu
    induction fu with
    | zero => intro i vx2 fc1 fs1 H locs ls hi vex2 hF1 hS1 hm; exact absurd hm (Nat.not_lt_zero _)
    | succ fu ih =>
      intro i vx2 fc1 fs1 H locs ls hi vex2 hF1 hS1 hm hT hl
      refine lv_iload_n hx hb dX8_learn_34 rfl (lv_at hl 2 rfl) ?_
      refine lv_aload_n hx hb dX8_learn_35 rfl (lv_at hl 0 rfl) ?_
      refine gX8_48 C hT (q0 := 0) rfl dX8_learn_36 ?_
      refine gX8_79 C hT (q0 := 1) rfl dX8_learn_39 ?_
      refine lv_icmp_ge (tgt := 104) hx hb dX8_learn_42 (by decide) (fun h_1 => ?_) (fun h_1 => ?_)
      · skip
        have hin := lp_end vex2 (by omega) hi h_1
        rw [hin] at hF1 hS1
        refine lv_aload_n hx hb dX8_learn_104 rfl (lv_at hl 0 rfl) ?_
        refine gX8_12 C hT (q0 := 0) rfl dX8_learn_105 ?_
        refine lv_iload_n hx hb dX8_learn_108 rfl (lv_at hl 1 rfl) ?_
        have hM := c_X2_add_last l g (ad 7) (ad 8) n nd bg f on (by first | assumption | omega) (by first | assumption | omega) (by first | assumption | omega)
        refine r_call0 (js := [7, 8]) C hT (runV (js := [7, 8]) (rm := ({ frames := 0, cells := 0, slots := 0, locals := 0 } : Room)) (As := [.int on]) (n := 1) (q1 := 0) (rest := []) C hT hM rfl rfl k485 k486 k487 k6 k488 (by decide +kernel) rfl rfl rfl rfl (Nat.le_of_ble_eq_true rfl) hl.1 ⟨Nat.le_of_ble_eq_true rfl, Nat.le_of_ble_eq_true rfl⟩ ⟨Nat.le_of_ble_eq_true rfl, Nat.le_of_ble_eq_true rfl⟩ dX8_learn_109) rfl rfl (fun _ => rfl) (fun u H locs hT => ?_)
        have hT : Wd g A s (sideL g ad np fk fn fo st (n + 1) 1 0 (upd f n (nI ((2 * nd + bitN on) % 256))) N fc1 fs1 (nI (9 * k0)) t0 (wLearn f0 xi (9 * k0) (errI on t0) 9) (nI (9 * k1)) t1 (wLearn f1 xi (9 * k1) (errI on t1) 9) (nI q) (upd fx q (cellUp on (fx q))) mp ml cx xi) H locs := hT
        refine W.eq (g2 := F0 m 112 ls [.int 1]) rfl ?_
        refine lv_if_eq (tgt := 119) hx hb dX8_learn_112 (by decide) (fun h_2 => ?_) (fun h_2 => ?_)
        · skip
          exact absurd h_2 (by decide)
        · skip
          refine lv_aload_n hx hb dX8_learn_115 rfl (lv_at hl 0 rfl) ?_
          have hM := c_X8_beginByte l g ad np fk fn fo st (n + 1) 1 0 (upd f n (nI ((2 * nd + bitN on) % 256))) N fc1 fs1 (nI (9 * k0)) t0 (wLearn f0 xi (9 * k0) (errI on t0) 9) (nI (9 * k1)) t1 (wLearn f1 xi (9 * k1) (errI on t1) 9) (nI q) (upd fx q (cellUp on (fx q))) mp ml cx xi (by first | assumption | omega) (by first | assumption | omega) (by first | assumption | omega) (by first | assumption | omega) (by first | assumption | omega)
          refine r_callW C hT (runVW (rm := ({ frames := 3, cells := 0, slots := 0, locals := 69 } : Room)) (As := []) (n := 0) (q1 := 0) (rest := []) C hT hM k489 k300 k301 k5 k302 (by decide +kernel) rfl rfl rfl rfl (Nat.le_of_ble_eq_true rfl) hl.1 ⟨Nat.le_of_ble_eq_true rfl, Nat.le_of_ble_eq_true rfl⟩ ⟨Nat.le_of_ble_eq_true rfl, Nat.le_of_ble_eq_true rfl⟩ dX8_learn_116) (fun u H locs hT => ?_)
          have hT : Wd g A s (sideL g ad np fk fn fo st (n + 1) 1 0 (upd f n (nI ((2 * nd + bitN on) % 256))) N fc1 fs1 (nI (9 * k0)) t0 (wLearn f0 xi (9 * k0) (errI on t0) 9) (nI (9 * k1)) t1 (wLearn f1 xi (9 * k1) (errI on t1) 9) (nI q) (upd fx q (cellUp on (fx q))) (bgP (upd f n (nI ((2 * nd + bitN on) % 256))) (n + 1) fk fn mp ml np) (bgL (upd f n (nI ((2 * nd + bitN on) % 256))) (n + 1) fk fn mp ml np) (bgC (upd f n (nI ((2 * nd + bitN on) % 256))) (n + 1) fk fn cx np) xi) H locs := hT
          refine W.eq (g2 := F0 m 119 ls []) rfl ?_
          exact e_vret C hQ () (by exact hT.eq (by rw [hF1, hS1])) rfl dX8_learn_119
      · skip
        have hin := lp_go vex2 (by omega) hi h_1
        have hi8 : i < 8 := by omega
        refine lv_aload_n hx hb dX8_learn_45 rfl (lv_at hl 0 rfl) ?_
        refine gX8_48 C hT (q0 := 0) rfl dX8_learn_46 ?_
        refine gX8_106 C hT (q0 := 1) rfl dX8_learn_49 ?_
        refine lv_iload_n hx hb dX8_learn_52 rfl (lv_at hl 2 rfl) ?_
        refine r_zald C hT (q0 := 4) rfl i vex2 hi8 (by decide) dX8_learn_53 ?_
        refine W.eq (g2 := F0 m 54 ls [.int (fo i)]) (congrArg (fun z => F0 m 54 ls (.int z :: [])) (rfl)) ?_
        refine lv_if_ne (tgt := 98) hx hb dX8_learn_54 (by decide) (fun h_3 => ?_) (fun h_3 => ?_)
        · skip
          have hok : slOk fo fk i = false := by simp [slOk, h_3]
          obtain ⟨x_4, ex_4⟩ : ∃ y : Int32, y = vx2 + 1 := ⟨_, rfl⟩
          refine lv_iinc (v := x_4) (lv' := [(2, .int x_4), (0, .ref (ad 0)), (1, .int on)]) hx hb dX8_learn_98 hl (k := 2) rfl (by rw [ex_4]; rfl) (by decide) rfl (fun ls hl => ?_)
          refine lv_goto (tgt := 34) hx hb dX8_learn_101 (by decide) ?_
          exact ih (i + 1) x_4 fc1 fs1 H locs ls (by first | assumption | omega | rfl) (by rw [ex_4, vex2]; exact nI_1 i) (by first | (rw [hF1]; exact slC_n hok) | (rw [hF1, hS1]; exact slC_y hok)) (by first | (rw [hS1]; exact slS_n hok) | (rw [hS1]; exact slS_y hok)) (by omega) hT (lv_sub hl [1, 2, 0] rfl)
        · skip
          have hfo := h_3
          refine lv_aload_n hx hb dX8_learn_57 rfl (lv_at hl 0 rfl) ?_
          refine gX8_48 C hT (q0 := 0) rfl dX8_learn_58 ?_
          refine gX8_84 C hT (q0 := 1) rfl dX8_learn_61 ?_
          refine lv_iload_n hx hb dX8_learn_64 rfl (lv_at hl 2 rfl) ?_
          refine r_iald C hT (q0 := 2) rfl i vex2 hi8 (by decide) dX8_learn_65 ?_
          refine W.eq (g2 := F0 m 66 ls [.int (fk i)]) (congrArg (fun z => F0 m 66 ls (.int z :: [])) (rfl)) ?_
          refine lv_iconst (v := 4) hx hb dX8_learn_66 (by decide) ?_
          refine lv_icmp_eq (tgt := 98) hx hb dX8_learn_67 (by decide) (fun h_5 => ?_) (fun h_5 => ?_)
          · skip
            have hok : slOk fo fk i = false := by simp [slOk, h_5]
            obtain ⟨x_6, ex_6⟩ : ∃ y : Int32, y = vx2 + 1 := ⟨_, rfl⟩
            refine lv_iinc (v := x_6) (lv' := [(2, .int x_6), (0, .ref (ad 0)), (1, .int on)]) hx hb dX8_learn_98 hl (k := 2) rfl (by rw [ex_6]; rfl) (by decide) rfl (fun ls hl => ?_)
            refine lv_goto (tgt := 34) hx hb dX8_learn_101 (by decide) ?_
            exact ih (i + 1) x_6 fc1 fs1 H locs ls (by first | assumption | omega | rfl) (by rw [ex_6, vex2]; exact nI_1 i) (by first | (rw [hF1]; exact slC_n hok) | (rw [hF1, hS1]; exact slC_y hok)) (by first | (rw [hS1]; exact slS_n hok) | (rw [hS1]; exact slS_y hok)) (by omega) hT (lv_sub hl [1, 2, 0] rfl)
          · skip
            have hok : slOk fo fk i = true := by simp [slOk, hfo, h_5]
            refine lv_aload_n hx hb dX8_learn_70 rfl (lv_at hl 0 rfl) ?_
            refine gX8_61 C hT (q0 := 0) rfl dX8_learn_71 ?_
            refine lv_aload_n hx hb dX8_learn_74 rfl (lv_at hl 0 rfl) ?_
            refine gX8_61 C hT (q0 := 0) rfl dX8_learn_75 ?_
            refine lv_aload_n hx hb dX8_learn_78 rfl (lv_at hl 0 rfl) ?_
            refine gX8_41 C hT (q0 := 0) rfl dX8_learn_79 ?_
            refine lv_iload_n hx hb dX8_learn_82 rfl (lv_at hl 2 rfl) ?_
            refine r_iald C hT (q0 := 27) rfl i vex2 hi8 (by decide) dX8_learn_83 ?_
            refine W.eq (g2 := F0 m 84 ls [.int (cx i), .ref (ad 9), .ref (ad 9)]) (congrArg (fun z => F0 m 84 ls (.int z :: [.ref (ad 9), .ref (ad 9)])) (rfl)) ?_
            refine lv_aload_n hx hb dX8_learn_84 rfl (lv_at hl 0 rfl) ?_
            refine gX8_12 C hT (q0 := 0) rfl dX8_learn_85 ?_
            refine gX8_117 C hT (q0 := 7) rfl dX8_learn_88 ?_
            have hM := c_X9_placeOf l g (ad 9) (ad 10) (ad 11) N fc1 (cx i) (nI nd)
            refine r_call0 (js := [9, 10]) C hT (runV (js := [9, 10]) (rm := ({ frames := 1, cells := 0, slots := 0, locals := 22 } : Room)) (As := [.int (cx i), .int (nI nd)]) (n := 2) (q1 := 0) (rest := [.ref (ad 9)]) C hT hM rfl rfl k394 k395 k396 k11 k397 (by decide +kernel) rfl rfl rfl rfl (Nat.le_of_ble_eq_true rfl) hl.1 ⟨Nat.le_of_ble_eq_true rfl, Nat.le_of_ble_eq_true rfl⟩ ⟨Nat.le_of_ble_eq_true rfl, Nat.le_of_ble_eq_true rfl⟩ dX8_learn_91) rfl rfl (fun _ => rfl) (fun u H locs hT => ?_)
            have hT : Wd g A s (sideL g ad np fk fn fo st n nd bg f N fc1 fs1 (nI (9 * k0)) t0 (wLearn f0 xi (9 * k0) (errI on t0) 9) (nI (9 * k1)) t1 (wLearn f1 xi (9 * k1) (errI on t1) 9) (nI q) (upd fx q (cellUp on (fx q))) mp ml cx xi) H locs := hT
            refine W.eq (g2 := F0 m 94 ls [.int (hashI (cx i) (nI nd) &&& (nI N - 1)), .ref (ad 9)]) rfl ?_
            refine W.eq (g2 := F0 m 94 ls [.int (nI (slotN N (cx i) (nI nd))), .ref (ad 9)]) (congrArg (fun z => F0 m 94 ls (.int z :: [.ref (ad 9)])) (slot_eq hrr hN)) ?_
            refine lv_iload_n hx hb dX8_learn_94 rfl (lv_at hl 1 rfl) ?_
            have hM := c_X9_learn l g (ad 9) (ad 10) (ad 11) N fc1 fs1 (slotN N (cx i) (nI nd)) on (slot_lt hN) (by first | assumption | omega)
            refine r_call0 (js := [9, 10, 11]) C hT (runV (js := [9, 10, 11]) (rm := ({ frames := 1, cells := 0, slots := 0, locals := 23 } : Room)) (As := [.int (nI (slotN N (cx i) (nI nd))), .int on]) (n := 2) (q1 := 0) (rest := []) C hT hM rfl rfl k473 k474 k475 k11 k476 (by decide +kernel) rfl rfl rfl rfl (Nat.le_of_ble_eq_true rfl) hl.1 ⟨Nat.le_of_ble_eq_true rfl, Nat.le_of_ble_eq_true rfl⟩ ⟨Nat.le_of_ble_eq_true rfl, Nat.le_of_ble_eq_true rfl⟩ dX8_learn_95) rfl rfl (fun _ => rfl) (fun u H locs hT => ?_)
            have hT : Wd g A s (sideL g ad np fk fn fo st n nd bg f N (upd fc1 (slotN N (cx i) (nI nd)) (slotUp on (fc1 (slotN N (cx i) (nI nd))) (fs1 (slotN N (cx i) (nI nd))))) (upd fs1 (slotN N (cx i) (nI nd)) (cntUp (fs1 (slotN N (cx i) (nI nd))))) (nI (9 * k0)) t0 (wLearn f0 xi (9 * k0) (errI on t0) 9) (nI (9 * k1)) t1 (wLearn f1 xi (9 * k1) (errI on t1) 9) (nI q) (upd fx q (cellUp on (fx q))) mp ml cx xi) H locs := hT
            refine W.eq (g2 := F0 m 98 ls []) rfl ?_
            obtain ⟨x_7, ex_7⟩ : ∃ y : Int32, y = vx2 + 1 := ⟨_, rfl⟩
            refine lv_iinc (v := x_7) (lv' := [(2, .int x_7), (0, .ref (ad 0)), (1, .int on)]) hx hb dX8_learn_98 hl (k := 2) rfl (by rw [ex_7]; rfl) (by decide) rfl (fun ls hl => ?_)
            refine lv_goto (tgt := 34) hx hb dX8_learn_101 (by decide) ?_
            exact ih (i + 1) x_7 (upd fc1 (slotN N (cx i) (nI nd)) (slotUp on (fc1 (slotN N (cx i) (nI nd))) (fs1 (slotN N (cx i) (nI nd))))) (upd fs1 (slotN N (cx i) (nI nd)) (cntUp (fs1 (slotN N (cx i) (nI nd))))) H locs ls (by first | assumption | omega | rfl) (by rw [ex_7, vex2]; exact nI_1 i) (by first | (rw [hF1]; exact slC_n hok) | (rw [hF1, hS1]; exact slC_y hok)) (by first | (rw [hS1]; exact slS_n hok) | (rw [hS1]; exact slS_y hok)) (by omega) hT (lv_sub hl [1, 2, 0] rfl)
  exact loop_34 (np - 0 + 1) 0 0 fc fs H locs ls (by first | assumption | omega | rfl) rfl (slC_0 fo fk N nd cx on fc fs) (slS_0 fo fk N nd cx on fc fs) (Nat.lt_succ_self _) hT (lv_sub hl [1, 2, 0] rfl)

set_option maxHeartbeats 400000 in
set_option maxRecDepth 100000 in
theorem c_X8_reset (l : Launch) (g : GT) (ad : Nat → Nat) (np : Nat) (fk : Nat → Int32) (fn : Nat → Int32) (fo : Nat → Int32) (st : Nat → Int32) (n : Nat) (nd : Nat) (bg : Nat) (f : Nat → Int32) (N : Nat) (fc : Nat → Int32) (fs : Nat → Int32) (r0 : Int32) (t0 : Int32) (f0 : Nat → Int32) (r1 : Int32) (t1 : Int32) (f1 : Nat → Int32) (nr : Int32) (fx : Nat → Int32) (mp : Nat → Nat) (ml : Nat → Nat) (cx : Nat → Int32) (xi : Nat → Int32) (rr : Nat) (hnp : np ≤ 8) (hal : ∀ j, j < np → allowB (fk j) (fn j) = true) (hmp : ∀ j, j < 8 → mp j < 2 ^ 19) (hN : N = 2 ^ rr) (hrr : rr ≤ 12) : OM (S := Unit) l g yX8_reset cX8_reset 2 none ({ frames := 4, cells := 0, slots := 0, locals := 101 } : Room) [.ref (ad 0)] (sideL g ad np fk fn fo st n nd bg f N fc fs r0 t0 f0 r1 t1 f1 nr fx mp ml cx xi) (fun _ => none) (fun _ => (sideL g ad np fk fn fo st 0 1 0 f N (fillTo fc 32768 N) (fillTo fs 0 N) r0 t0 (wFill f0 256) r1 t1 (wFill f1 256) nr (cFill fx 8448) (bgP f 0 fk fn mp (zTo ml 8) np) (bgL f 0 fk fn mp (zTo ml 8) np) (bgC f 0 fk fn cx np) xi)) := by
  refine OM.startQ (by decide) (Nat.le_of_ble_eq_true rfl) ?_
  intro p e s m below meth c A ls Q H locs hQ C hnm hl hT
  have hx := C.x
  have hb := C.b
  have hl : lv_has ls 2 [(0, .ref (ad 0))] := hl
  have hN31 : N < 2 ^ 31 := pow12 hrr hN
  refine lv_aload_n hx hb dX8_reset_0 rfl (lv_at hl 0 rfl) ?_
  refine gX8_12 C hT (q0 := 0) rfl dX8_reset_1 ?_
  have hM := c_X2_reset l g (ad 7) (ad 8) n nd bg
  refine r_call0 (js := [7]) C hT (runV (js := [7]) (rm := ({ frames := 0, cells := 0, slots := 0, locals := 0 } : Room)) (As := []) (n := 0) (q1 := 0) (rest := []) C hT hM rfl rfl k536 k537 k538 k6 k539 (by decide +kernel) rfl rfl rfl rfl (Nat.le_of_ble_eq_true rfl) hl.1 ⟨Nat.le_of_ble_eq_true rfl, Nat.le_of_ble_eq_true rfl⟩ ⟨Nat.le_of_ble_eq_true rfl, Nat.le_of_ble_eq_true rfl⟩ dX8_reset_4) rfl rfl (fun _ => rfl) (fun u H locs hT => ?_)
  have hT : Wd g A s (sideL g ad np fk fn fo st 0 1 0 f N fc fs r0 t0 f0 r1 t1 f1 nr fx mp ml cx xi) H locs := hT
  refine W.eq (g2 := F0 m 7 ls []) rfl ?_
  refine lv_aload_n hx hb dX8_reset_7 rfl (lv_at hl 0 rfl) ?_
  refine gX8_61 C hT (q0 := 0) rfl dX8_reset_8 ?_
  have hM := c_X9_reset l g (ad 9) (ad 10) (ad 11) N fc fs (by first | assumption | omega)
  refine r_call0 (js := [9, 10, 11]) C hT (runV (js := [9, 10, 11]) (rm := ({ frames := 1, cells := 0, slots := 0, locals := 23 } : Room)) (As := []) (n := 0) (q1 := 0) (rest := []) C hT hM rfl rfl k540 k541 k542 k11 k543 (by decide +kernel) rfl rfl rfl rfl (Nat.le_of_ble_eq_true rfl) hl.1 ⟨Nat.le_of_ble_eq_true rfl, Nat.le_of_ble_eq_true rfl⟩ ⟨Nat.le_of_ble_eq_true rfl, Nat.le_of_ble_eq_true rfl⟩ dX8_reset_11) rfl rfl (fun _ => rfl) (fun u H locs hT => ?_)
  have hT : Wd g A s (sideL g ad np fk fn fo st 0 1 0 f N (fillTo fc 32768 N) (fillTo fs 0 N) r0 t0 f0 r1 t1 f1 nr fx mp ml cx xi) H locs := hT
  refine W.eq (g2 := F0 m 14 ls []) rfl ?_
  refine lv_aload_n hx hb dX8_reset_14 rfl (lv_at hl 0 rfl) ?_
  refine gX8_21 C hT (q0 := 0) rfl dX8_reset_15 ?_
  have hM := c_X4_reset l g (ad 12) (ad 13) r0 t0 f0
  refine r_call0 (js := [12, 13]) C hT (runV (js := [12, 13]) (rm := ({ frames := 2, cells := 0, slots := 0, locals := 44 } : Room)) (As := []) (n := 0) (q1 := 0) (rest := []) C hT hM rfl rfl k544 k545 k546 k7 k547 (by decide +kernel) rfl rfl rfl rfl (Nat.le_of_ble_eq_true rfl) hl.1 ⟨Nat.le_of_ble_eq_true rfl, Nat.le_of_ble_eq_true rfl⟩ ⟨Nat.le_of_ble_eq_true rfl, Nat.le_of_ble_eq_true rfl⟩ dX8_reset_18) rfl rfl (fun _ => rfl) (fun u H locs hT => ?_)
  have hT : Wd g A s (sideL g ad np fk fn fo st 0 1 0 f N (fillTo fc 32768 N) (fillTo fs 0 N) r0 t0 (wFill f0 256) r1 t1 f1 nr fx mp ml cx xi) H locs := hT
  refine W.eq (g2 := F0 m 21 ls []) rfl ?_
  refine lv_aload_n hx hb dX8_reset_21 rfl (lv_at hl 0 rfl) ?_
  refine gX8_25 C hT (q0 := 0) rfl dX8_reset_22 ?_
  have hM := c_X4_reset l g (ad 14) (ad 15) r1 t1 f1
  refine r_call0 (js := [14, 15]) C hT (runV (js := [14, 15]) (rm := ({ frames := 2, cells := 0, slots := 0, locals := 44 } : Room)) (As := []) (n := 0) (q1 := 0) (rest := []) C hT hM rfl rfl k544 k545 k546 k7 k547 (by decide +kernel) rfl rfl rfl rfl (Nat.le_of_ble_eq_true rfl) hl.1 ⟨Nat.le_of_ble_eq_true rfl, Nat.le_of_ble_eq_true rfl⟩ ⟨Nat.le_of_ble_eq_true rfl, Nat.le_of_ble_eq_true rfl⟩ dX8_reset_25) rfl rfl (fun _ => rfl) (fun u H locs hT => ?_)
  have hT : Wd g A s (sideL g ad np fk fn fo st 0 1 0 f N (fillTo fc 32768 N) (fillTo fs 0 N) r0 t0 (wFill f0 256) r1 t1 (wFill f1 256) nr fx mp ml cx xi) H locs := hT
  refine W.eq (g2 := F0 m 28 ls []) rfl ?_
  refine lv_aload_n hx hb dX8_reset_28 rfl (lv_at hl 0 rfl) ?_
  refine gX8_31 C hT (q0 := 0) rfl dX8_reset_29 ?_
  have hM := c_X1_reset l g (ad 16) (ad 17) nr fx
  refine r_call0 (js := [16, 17]) C hT (runV (js := [16, 17]) (rm := ({ frames := 2, cells := 0, slots := 0, locals := 81 } : Room)) (As := []) (n := 0) (q1 := 0) (rest := []) C hT hM rfl rfl k548 k549 k550 k9 k551 (by decide +kernel) rfl rfl rfl rfl (Nat.le_of_ble_eq_true rfl) hl.1 ⟨Nat.le_of_ble_eq_true rfl, Nat.le_of_ble_eq_true rfl⟩ ⟨Nat.le_of_ble_eq_true rfl, Nat.le_of_ble_eq_true rfl⟩ dX8_reset_32) rfl rfl (fun _ => rfl) (fun u H locs hT => ?_)
  have hT : Wd g A s (sideL g ad np fk fn fo st 0 1 0 f N (fillTo fc 32768 N) (fillTo fs 0 N) r0 t0 (wFill f0 256) r1 t1 (wFill f1 256) nr (cFill fx 8448) mp ml cx xi) H locs := hT
  refine W.eq (g2 := F0 m 35 ls []) rfl ?_
  refine lv_iconst (v := 0) hx hb dX8_reset_35 (by decide) ?_
  refine lv_istore_n (lv' := [(1, .int 0), (0, .ref (ad 0))]) hx hb dX8_reset_36 rfl hl (by decide) rfl (fun ls hl => ?_)
  have loop_37 : ∀ (fu : Nat) (i : Nat) (vx1 : Int32) (mp1 : Nat → Nat) (ml1 : Nat → Nat) (H : Heap) (locs : List Loc) (ls : Array Slot) (hi : i ≤ 8) (vex1 : vx1 = nI i) (hP1 : mp1 = mp) (hL1 : ml1 = zTo ml i), 8 - i < fu → Wd g A s (sideL g ad np fk fn fo st 0 1 0 f N (fillTo fc 32768 N) (fillTo fs 0 N) r0 t0 (wFill f0 256) r1 t1 (wFill f1 256) nr (cFill fx 8448) mp1 ml1 cx xi) H locs → lv_has ls 2 [(0, .ref (ad 0)), (1, .int vx1)] → W p l e ({ frames := 4, cells := 0, slots := 0, locals := 101 } : Room) s m ([.ref (ad 0)] : List Value).toArray below meth c H locs 0 0 Q (F0 m 37 ls []) := by
    intro fu
    induction fu with
    | zero => intro i vx1 mp1 ml1 H locs ls hi vex1 hP1 hL1 hm; exact absurd hm (Nat.not_lt_zero _)
    | succ fu ih =>
      intro i vx1 mp1 ml1 H locs ls hi vex1 hP1 hL1 hm hT hl
      refine lv_iload_n hx hb dX8_reset_37 rfl (lv_at hl 1 rfl) ?_
      refine lv_aload_n hx hb dX8_reset_38 rfl (lv_at hl 0 rfl) ?_
      refine gX8_37 C hT (q0 := 0) rfl dX8_reset_39 ?_
      refine r_alen C hT (q0 := 18) 3 rfl rfl dX8_reset_42 ?_
      refine W.eq (g2 := F0 m 43 ls [.int (nI 8), .int vx1]) rfl ?_
      refine lv_icmp_ge (tgt := 62) hx hb dX8_reset_43 (by decide) (fun h_1 => ?_) (fun h_1 => ?_)
      · skip
        have hin := lp_end (n := 8) vex1 (by decide) hi h_1
        rw [hin] at hL1
        refine lv_aload_n hx hb dX8_reset_62 rfl (lv_at hl 0 rfl) ?_
        have hM := c_X8_beginByte l g ad np fk fn fo st 0 1 0 f N (fillTo fc 32768 N) (fillTo fs 0 N) r0 t0 (wFill f0 256) r1 t1 (wFill f1 256) nr (cFill fx 8448) mp1 ml1 cx xi (by first | assumption | omega) (by omega) (by first | assumption | omega) (by rw [hP1]; exact hmp) (by rw [hL1]; exact fun j hj => zTo_le hj)
        refine r_callW C hT (runVW (rm := ({ frames := 3, cells := 0, slots := 0, locals := 69 } : Room)) (As := []) (n := 0) (q1 := 0) (rest := []) C hT hM k489 k300 k301 k5 k302 (by decide +kernel) rfl rfl rfl rfl (Nat.le_of_ble_eq_true rfl) hl.1 ⟨Nat.le_of_ble_eq_true rfl, Nat.le_of_ble_eq_true rfl⟩ ⟨Nat.le_of_ble_eq_true rfl, Nat.le_of_ble_eq_true rfl⟩ dX8_reset_63) (fun u H locs hT => ?_)
        have hT : Wd g A s (sideL g ad np fk fn fo st 0 1 0 f N (fillTo fc 32768 N) (fillTo fs 0 N) r0 t0 (wFill f0 256) r1 t1 (wFill f1 256) nr (cFill fx 8448) (bgP f 0 fk fn mp1 ml1 np) (bgL f 0 fk fn mp1 ml1 np) (bgC f 0 fk fn cx np) xi) H locs := hT
        refine W.eq (g2 := F0 m 66 ls []) rfl ?_
        exact e_vret C hQ () (by exact hT.eq (by rw [hP1, hL1])) rfl dX8_reset_66
      · skip
        have hi8 := lp_go (n := 8) vex1 (by decide) hi h_1
        refine lv_aload_n hx hb dX8_reset_46 rfl (lv_at hl 0 rfl) ?_
        refine gX8_37 C hT (q0 := 0) rfl dX8_reset_47 ?_
        refine lv_iload_n hx hb dX8_reset_50 rfl (lv_at hl 1 rfl) ?_
        refine r_aald C hT (q0 := 18) rfl i vex1 hi8 (by decide) (b := ad (19 + i)) rfl dX8_reset_51 ?_
        refine lv_iconst (v := 0) hx hb dX8_reset_52 (by decide) ?_
        refine W.eq (g2 := F0 m 53 ls [.int (nI 0), .ref (ad (19 + i))]) (congrArg (fun z => F0 m 53 ls (.int z :: [.ref (ad (19 + i))])) (rfl)) ?_
        refine pX8_72 C hT (q0 := 19 + i) (sideL_mt hi8) dX8_reset_53 (fun H locs hT => ?_)
        have hT : Wd g A s (sideL g ad np fk fn fo st 0 1 0 f N (fillTo fc 32768 N) (fillTo fs 0 N) r0 t0 (wFill f0 256) r1 t1 (wFill f1 256) nr (cFill fx 8448) (updN mp1 i (mp1 i)) (updN ml1 i 0) cx xi) H locs := hT.eq (sideL_set hi8)
        obtain ⟨x_2, ex_2⟩ : ∃ y : Int32, y = vx1 + 1 := ⟨_, rfl⟩
        refine lv_iinc (v := x_2) (lv' := [(1, .int x_2), (0, .ref (ad 0))]) hx hb dX8_reset_56 hl (k := 1) rfl (by rw [ex_2]; rfl) (by decide) rfl (fun ls hl => ?_)
        refine lv_goto (tgt := 37) hx hb dX8_reset_59 (by decide) ?_
        exact ih (i + 1) x_2 (updN mp1 i (mp1 i)) (updN ml1 i 0) H locs ls (by first | assumption | omega | rfl) (by rw [ex_2, vex1]; exact nI_1 i) (by rw [updN_id]; exact hP1) (by rw [hL1]; exact zTo_s ml i) (by omega) hT (lv_sub hl [1, 0] rfl)
  exact loop_37 (8 - 0 + 1) 0 0 mp ml H locs ls (by first | assumption | omega | rfl) rfl rfl (zTo_0 ml) (Nat.lt_succ_self _) hT (lv_sub hl [1, 0] rfl)

set_option maxHeartbeats 400000 in
set_option maxRecDepth 100000 in
theorem c_X8_firstMatchLength (l : Launch) (g : GT) (ad : Nat → Nat) (np : Nat) (fk : Nat → Int32) (fn : Nat → Int32) (fo : Nat → Int32) (st : Nat → Int32) (n : Nat) (nd : Nat) (bg : Nat) (f : Nat → Int32) (N : Nat) (fc : Nat → Int32) (fs : Nat → Int32) (r0 : Int32) (t0 : Int32) (f0 : Nat → Int32) (r1 : Int32) (t1 : Int32) (f1 : Nat → Int32) (nr : Int32) (fx : Nat → Int32) (mp : Nat → Nat) (ml : Nat → Nat) (cx : Nat → Int32) (xi : Nat → Int32) (hnp : np ≤ 8) : OM (S := Unit) l g yX8_firstMatchLength cX8_firstMatchLength 2 (some .int) ({ frames := 0, cells := 0, slots := 0, locals := 0 } : Room) [.ref (ad 0)] (sideL g ad np fk fn fo st n nd bg f N fc fs r0 t0 f0 r1 t1 f1 nr fx mp ml cx xi) (fun _ => some (.int (nI (fmF fk ml np 0)))) (fun _ => (sideL g ad np fk fn fo st n nd bg f N fc fs r0 t0 f0 r1 t1 f1 nr fx mp ml cx xi)) := by
  refine OM.startQ (by decide) (Nat.le_of_ble_eq_true rfl) ?_
  intro p e s m below meth c A ls Q H locs hQ C hnm hl hT
  have hx := C.x
  have hb := C.b
  have hl : lv_has ls 2 [(0, .ref (ad 0))] := hl
  refine lv_iconst (v := 0) hx hb dX8_firstMatchLength_0 (by decide) ?_
  refine lv_istore_n (lv' := [(1, .int 0), (0, .ref (ad 0))]) hx hb dX8_firstMatchLength_1 rfl hl (by decide) rfl (fun ls hl => ?_)
  have loop_2 : ∀ (fu : Nat) (i : Nat) (vx1 : Int32) (H : Heap) (locs : List Loc) (ls : Array Slot) (hi : i ≤ np) (vex1 : vx1 = nI i) (hM1 : fmF fk ml (np - i) i = fmF fk ml np 0), np - i < fu → Wd g A s (sideL g ad np fk fn fo st n nd bg f N fc fs r0 t0 f0 r1 t1 f1 nr fx mp ml cx xi) H locs → lv_has ls 2 [(0, .ref (ad 0)), (1, .int vx1)] → W p l e ({ frames := 0, cells := 0, slots := 0, locals := 0 } : Room) s m ([.ref (ad 0)] : List Value).toArray below meth c H locs 0 0 Q (F0 m 2 ls []) := by
    intro fu
    induction fu with
    | zero => intro i vx1 H locs ls hi vex1 hM1 hm; exact absurd hm (Nat.not_lt_zero _)
    | succ fu ih =>
      intro i vx1 H locs ls hi vex1 hM1 hm hT hl
      refine lv_iload_n hx hb dX8_firstMatchLength_2 rfl (lv_at hl 1 rfl) ?_
      refine lv_aload_n hx hb dX8_firstMatchLength_3 rfl (lv_at hl 0 rfl) ?_
      refine gX8_48 C hT (q0 := 0) rfl dX8_firstMatchLength_4 ?_
      refine gX8_79 C hT (q0 := 1) rfl dX8_firstMatchLength_7 ?_
      refine lv_icmp_ge (tgt := 42) hx hb dX8_firstMatchLength_10 (by decide) (fun h_1 => ?_) (fun h_1 => ?_)
      · skip
        have hin := lp_end vex1 (by omega) hi h_1
        refine lv_iconst (v := 0) hx hb dX8_firstMatchLength_42 (by decide) ?_
        exact e_iret C hQ () hT (by rw [← hM1, hin, Nat.sub_self]; rfl) dX8_firstMatchLength_43
      · skip
        have hin := lp_go vex1 (by omega) hi h_1
        have hi8 : i < 8 := by omega
        refine lv_aload_n hx hb dX8_firstMatchLength_13 rfl (lv_at hl 0 rfl) ?_
        refine gX8_48 C hT (q0 := 0) rfl dX8_firstMatchLength_14 ?_
        refine gX8_84 C hT (q0 := 1) rfl dX8_firstMatchLength_17 ?_
        refine lv_iload_n hx hb dX8_firstMatchLength_20 rfl (lv_at hl 1 rfl) ?_
        refine r_iald C hT (q0 := 2) rfl i vex1 hi8 (by decide) dX8_firstMatchLength_21 ?_
        refine lv_iconst (v := 4) hx hb dX8_firstMatchLength_22 (by decide) ?_
        refine lv_icmp_ne (tgt := 36) hx hb dX8_firstMatchLength_23 (by decide) (fun h_2 => ?_) (fun h_2 => ?_)
        · skip
          obtain ⟨x_3, ex_3⟩ : ∃ y : Int32, y = vx1 + 1 := ⟨_, rfl⟩
          refine lv_iinc (v := x_3) (lv' := [(1, .int x_3), (0, .ref (ad 0))]) hx hb dX8_firstMatchLength_36 hl (k := 1) rfl (by rw [ex_3]; rfl) (by decide) rfl (fun ls hl => ?_)
          refine lv_goto (tgt := 2) hx hb dX8_firstMatchLength_39 (by decide) ?_
          exact ih (i + 1) x_3 H locs ls (by first | assumption | omega | rfl) (by rw [ex_3, vex1]; exact nI_1 i) (by rw [← hM1]; exact fmF_f hin h_2) (by omega) hT (lv_sub hl [1, 0] rfl)
        · skip
          refine lv_aload_n hx hb dX8_firstMatchLength_26 rfl (lv_at hl 0 rfl) ?_
          refine gX8_37 C hT (q0 := 0) rfl dX8_firstMatchLength_27 ?_
          refine lv_iload_n hx hb dX8_firstMatchLength_30 rfl (lv_at hl 1 rfl) ?_
          refine r_aald C hT (q0 := 18) rfl i vex1 hi8 (by decide) (b := ad (19 + i)) rfl dX8_firstMatchLength_31 ?_
          refine gX8_72 C hT (q0 := 19 + i) (sideL_mt hi8) dX8_firstMatchLength_32 ?_
          exact e_iret C hQ () hT (by rw [← hM1, fmF_t hin h_2]) dX8_firstMatchLength_35
  exact loop_2 (np - 0 + 1) 0 0 H locs ls (by first | assumption | omega | rfl) rfl rfl (Nat.lt_succ_self _) hT (lv_sub hl [1, 0] rfl)

set_option maxHeartbeats 400000 in
set_option maxRecDepth 100000 in
theorem c_X8_sameAs (l : Launch) (g : GT) (ad : Nat → Nat) (bd : Nat → Nat) (N : Nat) (n : Nat) (nd : Nat) (bg : Nat) (f : Nat → Int32) (fc : Nat → Int32) (fs : Nat → Int32) (r0 : Int32) (t0 : Int32) (f0 : Nat → Int32) (r1 : Int32) (t1 : Int32) (f1 : Nat → Int32) (nr : Int32) (fx : Nat → Int32) (nb : Nat) (ndb : Nat) (bgb : Nat) (fb : Nat → Int32) (fcb : Nat → Int32) (fsb : Nat → Int32) (r0b : Int32) (t0b : Int32) (f0b : Nat → Int32) (r1b : Int32) (t1b : Int32) (f1b : Nat → Int32) (nrb : Int32) (fxb : Nat → Int32) (hn : n ≤ 2000) (hnb : nb ≤ 2000) (hd : nd < 65536) (hdb : ndb < 65536) (hN31 : N < 2 ^ 31) : OM (S := Unit) l g yX8_sameAs cX8_sameAs 2 (some .boolean) ({ frames := 2, cells := 0, slots := 0, locals := 43 } : Room) [.ref (ad 0), .ref (bd 0)] [(ad 0, .inr (8, [.ref (ad 1), .ref (ad 5), .ref (ad 7), .ref (ad 9), .ref (ad 12), .ref (ad 14), .ref (ad 16), .ref (ad 18), .ref (ad 27), .ref (ad 28)])), (ad 7, .inr (2, [.ref (ad 8), .int (nI n), .int (nI nd), .int (nI bg)])), (ad 8, .inl (g.2.1 0, 2000, .inl f)), (ad 9, .inr (9, [.ref (ad 10), .ref (ad 11)])), (ad 10, .inl (g.2.1 0, N, .inl fc)), (ad 11, .inl (g.2.1 0, N, .inl fs)), (ad 12, .inr (4, [.ref (ad 13), .int r0, .int t0])), (ad 13, .inl (g.2.1 0, 2304, .inl f0)), (ad 14, .inr (4, [.ref (ad 15), .int r1, .int t1])), (ad 15, .inl (g.2.1 0, 2304, .inl f1)), (ad 16, .inr (1, [.ref (ad 17), .int nr])), (ad 17, .inl (g.2.1 0, 8448, .inl fx)), (bd 0, .inr (8, [.ref (ad 1), .ref (ad 5), .ref (bd 7), .ref (bd 9), .ref (bd 12), .ref (bd 14), .ref (bd 16), .ref (bd 18), .ref (bd 27), .ref (bd 28)])), (bd 7, .inr (2, [.ref (bd 8), .int (nI nb), .int (nI ndb), .int (nI bgb)])), (bd 8, .inl (g.2.1 0, 2000, .inl fb)), (bd 9, .inr (9, [.ref (bd 10), .ref (bd 11)])), (bd 10, .inl (g.2.1 0, N, .inl fcb)), (bd 11, .inl (g.2.1 0, N, .inl fsb)), (bd 12, .inr (4, [.ref (bd 13), .int r0b, .int t0b])), (bd 13, .inl (g.2.1 0, 2304, .inl f0b)), (bd 14, .inr (4, [.ref (bd 15), .int r1b, .int t1b])), (bd 15, .inl (g.2.1 0, 2304, .inl f1b)), (bd 16, .inr (1, [.ref (bd 17), .int nrb])), (bd 17, .inl (g.2.1 0, 8448, .inl fxb))] (fun _ => some (.int (b01 ((decide (n = nb) && (decide (nd = ndb) && eqTo f fb n)) && ((eqTo fc fcb N && eqTo fs fsb N) && (eqTo f0 f0b 2304 && (eqTo f1 f1b 2304 && eqTo fx fxb 8448))))))) (fun _ => [(ad 0, .inr (8, [.ref (ad 1), .ref (ad 5), .ref (ad 7), .ref (ad 9), .ref (ad 12), .ref (ad 14), .ref (ad 16), .ref (ad 18), .ref (ad 27), .ref (ad 28)])), (ad 7, .inr (2, [.ref (ad 8), .int (nI n), .int (nI nd), .int (nI bg)])), (ad 8, .inl (g.2.1 0, 2000, .inl f)), (ad 9, .inr (9, [.ref (ad 10), .ref (ad 11)])), (ad 10, .inl (g.2.1 0, N, .inl fc)), (ad 11, .inl (g.2.1 0, N, .inl fs)), (ad 12, .inr (4, [.ref (ad 13), .int r0, .int t0])), (ad 13, .inl (g.2.1 0, 2304, .inl f0)), (ad 14, .inr (4, [.ref (ad 15), .int r1, .int t1])), (ad 15, .inl (g.2.1 0, 2304, .inl f1)), (ad 16, .inr (1, [.ref (ad 17), .int nr])), (ad 17, .inl (g.2.1 0, 8448, .inl fx)), (bd 0, .inr (8, [.ref (ad 1), .ref (ad 5), .ref (bd 7), .ref (bd 9), .ref (bd 12), .ref (bd 14), .ref (bd 16), .ref (bd 18), .ref (bd 27), .ref (bd 28)])), (bd 7, .inr (2, [.ref (bd 8), .int (nI nb), .int (nI ndb), .int (nI bgb)])), (bd 8, .inl (g.2.1 0, 2000, .inl fb)), (bd 9, .inr (9, [.ref (bd 10), .ref (bd 11)])), (bd 10, .inl (g.2.1 0, N, .inl fcb)), (bd 11, .inl (g.2.1 0, N, .inl fsb)), (bd 12, .inr (4, [.ref (bd 13), .int r0b, .int t0b])), (bd 13, .inl (g.2.1 0, 2304, .inl f0b)), (bd 14, .inr (4, [.ref (bd 15), .int r1b, .int t1b])), (bd 15, .inl (g.2.1 0, 2304, .inl f1b)), (bd 16, .inr (1, [.ref (bd 17), .int nrb])), (bd 17, .inl (g.2.1 0, 8448, .inl fxb))]) := by
  refine OM.startQ (by decide) (Nat.le_of_ble_eq_true rfl) ?_
  intro p e s m below meth c A ls Q H locs hQ C hnm hl hT
  have hx := C.x
  have hb := C.b
  have hl : lv_has ls 2 [(0, .ref (ad 0)), (1, .ref (bd 0))] := hl
  refine lv_aload_n hx hb dX8_sameAs_0 rfl (lv_at hl 0 rfl) ?_
  refine gX8_12 C hT (q0 := 0) rfl dX8_sameAs_1 ?_
  refine lv_aload_n hx hb dX8_sameAs_4 rfl (lv_at hl 1 rfl) ?_
  refine gX8_12 C hT (q0 := 12) rfl dX8_sameAs_5 ?_
  have hM := c_X2_sameAs l g (ad 7) (ad 8) n nd bg f (bd 7) (bd 8) nb ndb bgb fb (by first | assumption | omega) hnb (by first | assumption | omega) hdb
  refine r_call0 (js := [1, 2, 13, 14]) C hT (runV (js := [1, 2, 13, 14]) (rm := ({ frames := 1, cells := 0, slots := 0, locals := 21 } : Room)) (As := [.ref (bd 7)]) (n := 1) (q1 := 0) (rest := []) C hT hM rfl rfl k621 k622 k623 k6 k624 (by decide +kernel) rfl rfl rfl rfl (Nat.le_of_ble_eq_true rfl) hl.1 ⟨Nat.le_of_ble_eq_true rfl, Nat.le_of_ble_eq_true rfl⟩ ⟨Nat.le_of_ble_eq_true rfl, Nat.le_of_ble_eq_true rfl⟩ dX8_sameAs_8) rfl rfl (fun _ => rfl) (fun u H locs hT => ?_)
  have hT : Wd g A s [(ad 0, .inr (8, [.ref (ad 1), .ref (ad 5), .ref (ad 7), .ref (ad 9), .ref (ad 12), .ref (ad 14), .ref (ad 16), .ref (ad 18), .ref (ad 27), .ref (ad 28)])), (ad 7, .inr (2, [.ref (ad 8), .int (nI n), .int (nI nd), .int (nI bg)])), (ad 8, .inl (g.2.1 0, 2000, .inl f)), (ad 9, .inr (9, [.ref (ad 10), .ref (ad 11)])), (ad 10, .inl (g.2.1 0, N, .inl fc)), (ad 11, .inl (g.2.1 0, N, .inl fs)), (ad 12, .inr (4, [.ref (ad 13), .int r0, .int t0])), (ad 13, .inl (g.2.1 0, 2304, .inl f0)), (ad 14, .inr (4, [.ref (ad 15), .int r1, .int t1])), (ad 15, .inl (g.2.1 0, 2304, .inl f1)), (ad 16, .inr (1, [.ref (ad 17), .int nr])), (ad 17, .inl (g.2.1 0, 8448, .inl fx)), (bd 0, .inr (8, [.ref (ad 1), .ref (ad 5), .ref (bd 7), .ref (bd 9), .ref (bd 12), .ref (bd 14), .ref (bd 16), .ref (bd 18), .ref (bd 27), .ref (bd 28)])), (bd 7, .inr (2, [.ref (bd 8), .int (nI nb), .int (nI ndb), .int (nI bgb)])), (bd 8, .inl (g.2.1 0, 2000, .inl fb)), (bd 9, .inr (9, [.ref (bd 10), .ref (bd 11)])), (bd 10, .inl (g.2.1 0, N, .inl fcb)), (bd 11, .inl (g.2.1 0, N, .inl fsb)), (bd 12, .inr (4, [.ref (bd 13), .int r0b, .int t0b])), (bd 13, .inl (g.2.1 0, 2304, .inl f0b)), (bd 14, .inr (4, [.ref (bd 15), .int r1b, .int t1b])), (bd 15, .inl (g.2.1 0, 2304, .inl f1b)), (bd 16, .inr (1, [.ref (bd 17), .int nrb])), (bd 17, .inl (g.2.1 0, 8448, .inl fxb))] H locs := hT
  refine W.eq (g2 := F0 m 11 ls [.int (b01 (decide (n = nb) && (decide (nd = ndb) && eqTo f fb n)))]) rfl ?_
  refine lv_if_eq (tgt := 92) hx hb dX8_sameAs_11 (by decide) (fun h_1 => ?_) (fun h_1 => ?_)
  · skip
    have h_1 := b01_f h_1
    refine lv_iconst (v := 0) hx hb dX8_sameAs_92 (by decide) ?_
    exact e_zret C hQ () hT (by simp only [b01, h_1, Bool.and_true, Bool.true_and, Bool.and_false, Bool.false_and, if_true, if_false, Bool.false_eq_true]) (by decide) dX8_sameAs_93
  · skip
    have h_1 := b01_t h_1
    refine lv_aload_n hx hb dX8_sameAs_14 rfl (lv_at hl 0 rfl) ?_
    refine gX8_61 C hT (q0 := 0) rfl dX8_sameAs_15 ?_
    refine lv_aload_n hx hb dX8_sameAs_18 rfl (lv_at hl 1 rfl) ?_
    refine gX8_61 C hT (q0 := 12) rfl dX8_sameAs_19 ?_
    have hM := c_X9_sameAs l g (ad 9) (ad 10) (ad 11) N fc fs (bd 9) (bd 10) (bd 11) fcb fsb (by first | assumption | omega)
    refine r_call0 (js := [3, 4, 5, 15, 16, 17]) C hT (runV (js := [3, 4, 5, 15, 16, 17]) (rm := ({ frames := 1, cells := 0, slots := 0, locals := 22 } : Room)) (As := [.ref (bd 9)]) (n := 1) (q1 := 0) (rest := []) C hT hM rfl rfl k625 k626 k627 k11 k628 (by decide +kernel) rfl rfl rfl rfl (Nat.le_of_ble_eq_true rfl) hl.1 ⟨Nat.le_of_ble_eq_true rfl, Nat.le_of_ble_eq_true rfl⟩ ⟨Nat.le_of_ble_eq_true rfl, Nat.le_of_ble_eq_true rfl⟩ dX8_sameAs_22) rfl rfl (fun _ => rfl) (fun u H locs hT => ?_)
    have hT : Wd g A s [(ad 0, .inr (8, [.ref (ad 1), .ref (ad 5), .ref (ad 7), .ref (ad 9), .ref (ad 12), .ref (ad 14), .ref (ad 16), .ref (ad 18), .ref (ad 27), .ref (ad 28)])), (ad 7, .inr (2, [.ref (ad 8), .int (nI n), .int (nI nd), .int (nI bg)])), (ad 8, .inl (g.2.1 0, 2000, .inl f)), (ad 9, .inr (9, [.ref (ad 10), .ref (ad 11)])), (ad 10, .inl (g.2.1 0, N, .inl fc)), (ad 11, .inl (g.2.1 0, N, .inl fs)), (ad 12, .inr (4, [.ref (ad 13), .int r0, .int t0])), (ad 13, .inl (g.2.1 0, 2304, .inl f0)), (ad 14, .inr (4, [.ref (ad 15), .int r1, .int t1])), (ad 15, .inl (g.2.1 0, 2304, .inl f1)), (ad 16, .inr (1, [.ref (ad 17), .int nr])), (ad 17, .inl (g.2.1 0, 8448, .inl fx)), (bd 0, .inr (8, [.ref (ad 1), .ref (ad 5), .ref (bd 7), .ref (bd 9), .ref (bd 12), .ref (bd 14), .ref (bd 16), .ref (bd 18), .ref (bd 27), .ref (bd 28)])), (bd 7, .inr (2, [.ref (bd 8), .int (nI nb), .int (nI ndb), .int (nI bgb)])), (bd 8, .inl (g.2.1 0, 2000, .inl fb)), (bd 9, .inr (9, [.ref (bd 10), .ref (bd 11)])), (bd 10, .inl (g.2.1 0, N, .inl fcb)), (bd 11, .inl (g.2.1 0, N, .inl fsb)), (bd 12, .inr (4, [.ref (bd 13), .int r0b, .int t0b])), (bd 13, .inl (g.2.1 0, 2304, .inl f0b)), (bd 14, .inr (4, [.ref (bd 15), .int r1b, .int t1b])), (bd 15, .inl (g.2.1 0, 2304, .inl f1b)), (bd 16, .inr (1, [.ref (bd 17), .int nrb])), (bd 17, .inl (g.2.1 0, 8448, .inl fxb))] H locs := hT
    refine W.eq (g2 := F0 m 25 ls [.int (b01 (eqTo fc fcb N && eqTo fs fsb N))]) rfl ?_
    refine lv_if_eq (tgt := 92) hx hb dX8_sameAs_25 (by decide) (fun h_2 => ?_) (fun h_2 => ?_)
    · skip
      have h_2 := b01_f h_2
      refine lv_iconst (v := 0) hx hb dX8_sameAs_92 (by decide) ?_
      exact e_zret C hQ () hT (by simp only [b01, h_1, h_2, Bool.and_true, Bool.true_and, Bool.and_false, Bool.false_and, if_true, if_false, Bool.false_eq_true]) (by decide) dX8_sameAs_93
    · skip
      have h_2 := b01_t h_2
      refine lv_aload_n hx hb dX8_sameAs_28 rfl (lv_at hl 0 rfl) ?_
      refine gX8_21 C hT (q0 := 0) rfl dX8_sameAs_29 ?_
      refine gX8_167 C hT (q0 := 6) rfl dX8_sameAs_32 ?_
      refine lv_aload_n hx hb dX8_sameAs_35 rfl (lv_at hl 1 rfl) ?_
      refine gX8_21 C hT (q0 := 12) rfl dX8_sameAs_36 ?_
      refine gX8_167 C hT (q0 := 18) rfl dX8_sameAs_39 ?_
      have hM := c_X5_same l g (ad 13) (bd 13) 2304 f0 f0b (by decide)
      refine r_call0 (js := [7, 19]) C hT (runS (js := [7, 19]) (rm := ({ frames := 0, cells := 0, slots := 0, locals := 0 } : Room)) (As := [.ref (ad 13), .ref (bd 13)]) (n := 2) (rest := []) C hT hM rfl rfl k632 k630 k2 k631 (by decide +kernel) rfl rfl (Nat.le_of_ble_eq_true rfl) hl.1 ⟨Nat.le_of_ble_eq_true rfl, Nat.le_of_ble_eq_true rfl⟩ ⟨Nat.le_of_ble_eq_true rfl, Nat.le_of_ble_eq_true rfl⟩ dX8_sameAs_42) rfl rfl (fun _ => rfl) (fun u H locs hT => ?_)
      have hT : Wd g A s [(ad 0, .inr (8, [.ref (ad 1), .ref (ad 5), .ref (ad 7), .ref (ad 9), .ref (ad 12), .ref (ad 14), .ref (ad 16), .ref (ad 18), .ref (ad 27), .ref (ad 28)])), (ad 7, .inr (2, [.ref (ad 8), .int (nI n), .int (nI nd), .int (nI bg)])), (ad 8, .inl (g.2.1 0, 2000, .inl f)), (ad 9, .inr (9, [.ref (ad 10), .ref (ad 11)])), (ad 10, .inl (g.2.1 0, N, .inl fc)), (ad 11, .inl (g.2.1 0, N, .inl fs)), (ad 12, .inr (4, [.ref (ad 13), .int r0, .int t0])), (ad 13, .inl (g.2.1 0, 2304, .inl f0)), (ad 14, .inr (4, [.ref (ad 15), .int r1, .int t1])), (ad 15, .inl (g.2.1 0, 2304, .inl f1)), (ad 16, .inr (1, [.ref (ad 17), .int nr])), (ad 17, .inl (g.2.1 0, 8448, .inl fx)), (bd 0, .inr (8, [.ref (ad 1), .ref (ad 5), .ref (bd 7), .ref (bd 9), .ref (bd 12), .ref (bd 14), .ref (bd 16), .ref (bd 18), .ref (bd 27), .ref (bd 28)])), (bd 7, .inr (2, [.ref (bd 8), .int (nI nb), .int (nI ndb), .int (nI bgb)])), (bd 8, .inl (g.2.1 0, 2000, .inl fb)), (bd 9, .inr (9, [.ref (bd 10), .ref (bd 11)])), (bd 10, .inl (g.2.1 0, N, .inl fcb)), (bd 11, .inl (g.2.1 0, N, .inl fsb)), (bd 12, .inr (4, [.ref (bd 13), .int r0b, .int t0b])), (bd 13, .inl (g.2.1 0, 2304, .inl f0b)), (bd 14, .inr (4, [.ref (bd 15), .int r1b, .int t1b])), (bd 15, .inl (g.2.1 0, 2304, .inl f1b)), (bd 16, .inr (1, [.ref (bd 17), .int nrb])), (bd 17, .inl (g.2.1 0, 8448, .inl fxb))] H locs := hT
      refine W.eq (g2 := F0 m 45 ls [.int (b01 (eqTo f0 f0b 2304))]) rfl ?_
      refine lv_if_eq (tgt := 92) hx hb dX8_sameAs_45 (by decide) (fun h_3 => ?_) (fun h_3 => ?_)
      · skip
        have h_3 := b01_f h_3
        refine lv_iconst (v := 0) hx hb dX8_sameAs_92 (by decide) ?_
        exact e_zret C hQ () hT (by simp only [b01, h_1, h_2, h_3, Bool.and_true, Bool.true_and, Bool.and_false, Bool.false_and, if_true, if_false, Bool.false_eq_true]) (by decide) dX8_sameAs_93
      · skip
        have h_3 := b01_t h_3
        refine lv_aload_n hx hb dX8_sameAs_48 rfl (lv_at hl 0 rfl) ?_
        refine gX8_25 C hT (q0 := 0) rfl dX8_sameAs_49 ?_
        refine gX8_167 C hT (q0 := 8) rfl dX8_sameAs_52 ?_
        refine lv_aload_n hx hb dX8_sameAs_55 rfl (lv_at hl 1 rfl) ?_
        refine gX8_25 C hT (q0 := 12) rfl dX8_sameAs_56 ?_
        refine gX8_167 C hT (q0 := 20) rfl dX8_sameAs_59 ?_
        have hM := c_X5_same l g (ad 15) (bd 15) 2304 f1 f1b (by decide)
        refine r_call0 (js := [9, 21]) C hT (runS (js := [9, 21]) (rm := ({ frames := 0, cells := 0, slots := 0, locals := 0 } : Room)) (As := [.ref (ad 15), .ref (bd 15)]) (n := 2) (rest := []) C hT hM rfl rfl k632 k630 k2 k631 (by decide +kernel) rfl rfl (Nat.le_of_ble_eq_true rfl) hl.1 ⟨Nat.le_of_ble_eq_true rfl, Nat.le_of_ble_eq_true rfl⟩ ⟨Nat.le_of_ble_eq_true rfl, Nat.le_of_ble_eq_true rfl⟩ dX8_sameAs_62) rfl rfl (fun _ => rfl) (fun u H locs hT => ?_)
        have hT : Wd g A s [(ad 0, .inr (8, [.ref (ad 1), .ref (ad 5), .ref (ad 7), .ref (ad 9), .ref (ad 12), .ref (ad 14), .ref (ad 16), .ref (ad 18), .ref (ad 27), .ref (ad 28)])), (ad 7, .inr (2, [.ref (ad 8), .int (nI n), .int (nI nd), .int (nI bg)])), (ad 8, .inl (g.2.1 0, 2000, .inl f)), (ad 9, .inr (9, [.ref (ad 10), .ref (ad 11)])), (ad 10, .inl (g.2.1 0, N, .inl fc)), (ad 11, .inl (g.2.1 0, N, .inl fs)), (ad 12, .inr (4, [.ref (ad 13), .int r0, .int t0])), (ad 13, .inl (g.2.1 0, 2304, .inl f0)), (ad 14, .inr (4, [.ref (ad 15), .int r1, .int t1])), (ad 15, .inl (g.2.1 0, 2304, .inl f1)), (ad 16, .inr (1, [.ref (ad 17), .int nr])), (ad 17, .inl (g.2.1 0, 8448, .inl fx)), (bd 0, .inr (8, [.ref (ad 1), .ref (ad 5), .ref (bd 7), .ref (bd 9), .ref (bd 12), .ref (bd 14), .ref (bd 16), .ref (bd 18), .ref (bd 27), .ref (bd 28)])), (bd 7, .inr (2, [.ref (bd 8), .int (nI nb), .int (nI ndb), .int (nI bgb)])), (bd 8, .inl (g.2.1 0, 2000, .inl fb)), (bd 9, .inr (9, [.ref (bd 10), .ref (bd 11)])), (bd 10, .inl (g.2.1 0, N, .inl fcb)), (bd 11, .inl (g.2.1 0, N, .inl fsb)), (bd 12, .inr (4, [.ref (bd 13), .int r0b, .int t0b])), (bd 13, .inl (g.2.1 0, 2304, .inl f0b)), (bd 14, .inr (4, [.ref (bd 15), .int r1b, .int t1b])), (bd 15, .inl (g.2.1 0, 2304, .inl f1b)), (bd 16, .inr (1, [.ref (bd 17), .int nrb])), (bd 17, .inl (g.2.1 0, 8448, .inl fxb))] H locs := hT
        refine W.eq (g2 := F0 m 65 ls [.int (b01 (eqTo f1 f1b 2304))]) rfl ?_
        refine lv_if_eq (tgt := 92) hx hb dX8_sameAs_65 (by decide) (fun h_4 => ?_) (fun h_4 => ?_)
        · skip
          have h_4 := b01_f h_4
          refine lv_iconst (v := 0) hx hb dX8_sameAs_92 (by decide) ?_
          exact e_zret C hQ () hT (by simp only [b01, h_1, h_2, h_3, h_4, Bool.and_true, Bool.true_and, Bool.and_false, Bool.false_and, if_true, if_false, Bool.false_eq_true]) (by decide) dX8_sameAs_93
        · skip
          have h_4 := b01_t h_4
          refine lv_aload_n hx hb dX8_sameAs_68 rfl (lv_at hl 0 rfl) ?_
          refine gX8_31 C hT (q0 := 0) rfl dX8_sameAs_69 ?_
          refine gX8_174 C hT (q0 := 10) rfl dX8_sameAs_72 ?_
          refine lv_aload_n hx hb dX8_sameAs_75 rfl (lv_at hl 1 rfl) ?_
          refine gX8_31 C hT (q0 := 12) rfl dX8_sameAs_76 ?_
          refine gX8_174 C hT (q0 := 22) rfl dX8_sameAs_79 ?_
          have hM := c_X5_same l g (ad 17) (bd 17) 8448 fx fxb (by decide)
          refine r_call0 (js := [11, 23]) C hT (runS (js := [11, 23]) (rm := ({ frames := 0, cells := 0, slots := 0, locals := 0 } : Room)) (As := [.ref (ad 17), .ref (bd 17)]) (n := 2) (rest := []) C hT hM rfl rfl k632 k630 k2 k631 (by decide +kernel) rfl rfl (Nat.le_of_ble_eq_true rfl) hl.1 ⟨Nat.le_of_ble_eq_true rfl, Nat.le_of_ble_eq_true rfl⟩ ⟨Nat.le_of_ble_eq_true rfl, Nat.le_of_ble_eq_true rfl⟩ dX8_sameAs_82) rfl rfl (fun _ => rfl) (fun u H locs hT => ?_)
          have hT : Wd g A s [(ad 0, .inr (8, [.ref (ad 1), .ref (ad 5), .ref (ad 7), .ref (ad 9), .ref (ad 12), .ref (ad 14), .ref (ad 16), .ref (ad 18), .ref (ad 27), .ref (ad 28)])), (ad 7, .inr (2, [.ref (ad 8), .int (nI n), .int (nI nd), .int (nI bg)])), (ad 8, .inl (g.2.1 0, 2000, .inl f)), (ad 9, .inr (9, [.ref (ad 10), .ref (ad 11)])), (ad 10, .inl (g.2.1 0, N, .inl fc)), (ad 11, .inl (g.2.1 0, N, .inl fs)), (ad 12, .inr (4, [.ref (ad 13), .int r0, .int t0])), (ad 13, .inl (g.2.1 0, 2304, .inl f0)), (ad 14, .inr (4, [.ref (ad 15), .int r1, .int t1])), (ad 15, .inl (g.2.1 0, 2304, .inl f1)), (ad 16, .inr (1, [.ref (ad 17), .int nr])), (ad 17, .inl (g.2.1 0, 8448, .inl fx)), (bd 0, .inr (8, [.ref (ad 1), .ref (ad 5), .ref (bd 7), .ref (bd 9), .ref (bd 12), .ref (bd 14), .ref (bd 16), .ref (bd 18), .ref (bd 27), .ref (bd 28)])), (bd 7, .inr (2, [.ref (bd 8), .int (nI nb), .int (nI ndb), .int (nI bgb)])), (bd 8, .inl (g.2.1 0, 2000, .inl fb)), (bd 9, .inr (9, [.ref (bd 10), .ref (bd 11)])), (bd 10, .inl (g.2.1 0, N, .inl fcb)), (bd 11, .inl (g.2.1 0, N, .inl fsb)), (bd 12, .inr (4, [.ref (bd 13), .int r0b, .int t0b])), (bd 13, .inl (g.2.1 0, 2304, .inl f0b)), (bd 14, .inr (4, [.ref (bd 15), .int r1b, .int t1b])), (bd 15, .inl (g.2.1 0, 2304, .inl f1b)), (bd 16, .inr (1, [.ref (bd 17), .int nrb])), (bd 17, .inl (g.2.1 0, 8448, .inl fxb))] H locs := hT
          refine W.eq (g2 := F0 m 85 ls [.int (b01 (eqTo fx fxb 8448))]) rfl ?_
          refine lv_if_eq (tgt := 92) hx hb dX8_sameAs_85 (by decide) (fun h_5 => ?_) (fun h_5 => ?_)
          · skip
            have h_5 := b01_f h_5
            refine lv_iconst (v := 0) hx hb dX8_sameAs_92 (by decide) ?_
            exact e_zret C hQ () hT (by simp only [b01, h_1, h_2, h_3, h_4, h_5, Bool.and_true, Bool.true_and, Bool.and_false, Bool.false_and, if_true, if_false, Bool.false_eq_true]) (by decide) dX8_sameAs_93
          · skip
            have h_5 := b01_t h_5
            refine lv_iconst (v := 1) hx hb dX8_sameAs_88 (by decide) ?_
            refine lv_goto (tgt := 93) hx hb dX8_sameAs_89 (by decide) ?_
            exact e_zret C hQ () hT (by simp only [b01, h_1, h_2, h_3, h_4, h_5, Bool.and_true, Bool.true_and, Bool.and_false, Bool.false_and, if_true, if_false, Bool.false_eq_true]) (by decide) dX8_sameAs_93
