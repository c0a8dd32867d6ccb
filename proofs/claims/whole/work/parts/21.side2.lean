set_option maxHeartbeats 400000 in
set_option maxRecDepth 100000 in
theorem c_X8_inputOf (l : Launch) (g : GT) (ad : Nat → Nat) (np : Nat) (fk : Nat → Int32) (fn : Nat → Int32) (fo : Nat → Int32) (st : Nat → Int32) (n : Nat) (nd : Nat) (bg : Nat) (f : Nat → Int32) (N : Nat) (fc : Nat → Int32) (fs : Nat → Int32) (r0 : Int32) (t0 : Int32) (f0 : Nat → Int32) (r1 : Int32) (t1 : Int32) (f1 : Nat → Int32) (nr : Int32) (fx : Nat → Int32) (mp : Nat → Nat) (ml : Nat → Nat) (cx : Nat → Int32) (xi : Nat → Int32) (rr : Nat) (i : Nat) (hnp : np ≤ 8) (hn : n ≤ 2000) (hmp : ∀ j, j < 8 → mp j < 2 ^ 19) (hml : ∀ j, j < 8 → ml j ≤ 32) (hbg : bg ≤ 7) (hN : N = 2 ^ rr) (hrr : rr ≤ 12) (hfc : ∀ j, j < N → 0 ≤ (fc j).toInt ∧ (fc j).toInt < 65536) (hin : i < np) : OM (S := Unit) l g yX8_inputOf cX8_inputOf 2 (some .int) ({ frames := 3, cells := 0, slots := 0, locals := 66 } : Room) [.ref (ad 0), .int (nI i)] (sideL g ad np fk fn fo st n nd bg f N fc fs r0 t0 f0 r1 t1 f1 nr fx mp ml cx xi) (fun _ => some (.int (inI fk fo st n nd bg f N fc mp ml cx i))) (fun _ => (sideL g ad np fk fn fo st n nd bg f N fc fs r0 t0 f0 r1 t1 f1 nr fx mp ml cx xi)) := by
  refine OM.startQ (by decide) (Nat.le_of_ble_eq_true rfl) ?_
  intro p e s m below meth c A ls Q H locs hQ C hnm hl hT
  have hx := C.x
  have hb := C.b
  have hl : lv_has ls 2 [(0, .ref (ad 0)), (1, .int (nI i))] := hl
  have hi8 : i < 8 := by omega
  have hN31 : N < 2 ^ 31 := pow12 hrr hN
  refine lv_aload_n hx hb dX8_inputOf_0 rfl (lv_at hl 0 rfl) ?_
  refine gX8_48 C hT (q0 := 0) rfl dX8_inputOf_1 ?_
  refine lv_iload_n hx hb dX8_inputOf_4 rfl (lv_at hl 1 rfl) ?_
  have hM := c_X7_has l g (ad 1) (ad 2) (ad 3) (ad 4) np (nI i)
  refine r_call0 (js := [1]) C hT (runV (js := [1]) (rm := ({ frames := 0, cells := 0, slots := 0, locals := 0 } : Room)) (As := [.int (nI i)]) (n := 1) (q1 := 0) (rest := []) C hT hM rfl rfl k389 k361 k362 k4 k363 (by decide +kernel) rfl rfl rfl rfl (Nat.le_of_ble_eq_true rfl) hl.1 ⟨Nat.le_of_ble_eq_true rfl, Nat.le_of_ble_eq_true rfl⟩ ⟨Nat.le_of_ble_eq_true rfl, Nat.le_of_ble_eq_true rfl⟩ dX8_inputOf_5) rfl rfl (fun _ => rfl) (fun u H locs hT => ?_)
  have hT : Wd g A s (sideL g ad np fk fn fo st n nd bg f N fc fs r0 t0 f0 r1 t1 f1 nr fx mp ml cx xi) H locs := hT
  refine W.eq (g2 := F0 m 8 ls [.int (b01 (inR (nI i) np))]) rfl ?_
  refine lv_if_eq (tgt := 23) hx hb dX8_inputOf_8 (by decide) (fun h_1 => ?_) (fun h_1 => ?_)
  · skip
    exact absurd (b01_f h_1) (by rw [inR_nI hin (by omega)]; decide)
  · skip
    refine lv_aload_n hx hb dX8_inputOf_11 rfl (lv_at hl 0 rfl) ?_
    refine gX8_48 C hT (q0 := 0) rfl dX8_inputOf_12 ?_
    refine gX8_106 C hT (q0 := 1) rfl dX8_inputOf_15 ?_
    refine lv_iload_n hx hb dX8_inputOf_18 rfl (lv_at hl 1 rfl) ?_
    refine r_zald C hT (q0 := 4) rfl i rfl hi8 (by decide) dX8_inputOf_19 ?_
    refine lv_if_eq (tgt := 25) hx hb dX8_inputOf_20 (by decide) (fun h_2 => ?_) (fun h_2 => ?_)
    · skip
      refine lv_aload_n hx hb dX8_inputOf_25 rfl (lv_at hl 0 rfl) ?_
      refine gX8_48 C hT (q0 := 0) rfl dX8_inputOf_26 ?_
      refine gX8_84 C hT (q0 := 1) rfl dX8_inputOf_29 ?_
      refine lv_iload_n hx hb dX8_inputOf_32 rfl (lv_at hl 1 rfl) ?_
      refine r_iald C hT (q0 := 2) rfl i rfl hi8 (by decide) dX8_inputOf_33 ?_
      refine lv_iconst (v := 4) hx hb dX8_inputOf_34 (by decide) ?_
      refine lv_icmp_ne (tgt := 52) hx hb dX8_inputOf_35 (by decide) (fun h_3 => ?_) (fun h_3 => ?_)
      · skip
        refine lv_aload_n hx hb dX8_inputOf_52 rfl (lv_at hl 0 rfl) ?_
        refine gX8_52 C hT (q0 := 0) rfl dX8_inputOf_53 ?_
        refine lv_aload_n hx hb dX8_inputOf_56 rfl (lv_at hl 0 rfl) ?_
        refine gX8_61 C hT (q0 := 0) rfl dX8_inputOf_57 ?_
        refine gX8_114 C hT (q0 := 9) rfl dX8_inputOf_60 ?_
        refine lv_aload_n hx hb dX8_inputOf_63 rfl (lv_at hl 0 rfl) ?_
        refine gX8_61 C hT (q0 := 0) rfl dX8_inputOf_64 ?_
        refine lv_aload_n hx hb dX8_inputOf_67 rfl (lv_at hl 0 rfl) ?_
        refine gX8_41 C hT (q0 := 0) rfl dX8_inputOf_68 ?_
        refine lv_iload_n hx hb dX8_inputOf_71 rfl (lv_at hl 1 rfl) ?_
        refine r_iald C hT (q0 := 27) rfl i rfl hi8 (by decide) dX8_inputOf_72 ?_
        refine lv_aload_n hx hb dX8_inputOf_73 rfl (lv_at hl 0 rfl) ?_
        refine gX8_12 C hT (q0 := 0) rfl dX8_inputOf_74 ?_
        refine gX8_117 C hT (q0 := 7) rfl dX8_inputOf_77 ?_
        have hM := c_X9_placeOf l g (ad 9) (ad 10) (ad 11) N fc (cx i) (nI nd)
        refine r_call0 (js := [9, 10]) C hT (runV (js := [9, 10]) (rm := ({ frames := 1, cells := 0, slots := 0, locals := 22 } : Room)) (As := [.int (cx i), .int (nI nd)]) (n := 2) (q1 := 0) (rest := [.ref (ad 10), .ref (ad 5)]) C hT hM rfl rfl k394 k395 k396 k11 k397 (by decide +kernel) rfl rfl rfl rfl (Nat.le_of_ble_eq_true rfl) hl.1 ⟨Nat.le_of_ble_eq_true rfl, Nat.le_of_ble_eq_true rfl⟩ ⟨Nat.le_of_ble_eq_true rfl, Nat.le_of_ble_eq_true rfl⟩ dX8_inputOf_80) rfl rfl (fun _ => rfl) (fun u H locs hT => ?_)
        have hT : Wd g A s (sideL g ad np fk fn fo st n nd bg f N fc fs r0 t0 f0 r1 t1 f1 nr fx mp ml cx xi) H locs := hT
        refine W.eq (g2 := F0 m 83 ls [.int (hashI (cx i) (nI nd) &&& (nI N - 1)), .ref (ad 10), .ref (ad 5)]) rfl ?_
        refine W.eq (g2 := F0 m 83 ls [.int (nI (slotN N (cx i) (nI nd))), .ref (ad 10), .ref (ad 5)]) (congrArg (fun z => F0 m 83 ls (.int z :: [.ref (ad 10), .ref (ad 5)])) (slot_eq hrr hN)) ?_
        refine r_iald C hT (q0 := 10) rfl (slotN N (cx i) (nI nd)) rfl (slot_lt hN) (by omega) dX8_inputOf_83 ?_
        refine lv_iconst (v := 4) hx hb dX8_inputOf_84 (by decide) ?_
        refine lv_ishr hx hb dX8_inputOf_85 ?_
        refine W.eq (g2 := F0 m 86 ls [.int (nI (chN (fc (slotN N (cx i) (nI nd))))), .ref (ad 5)]) (congrArg (fun z => F0 m 86 ls (.int z :: [.ref (ad 5)])) ((ch_eq (hfc _ (slot_lt hN))))) ?_
        have hM := c_X5_stretched l g (ad 5) (ad 6) st (chN (fc (slotN N (cx i) (nI nd)))) (ch_lt (hfc _ (slot_lt hN)))
        refine r_call0 (js := [5, 6]) C hT (runV (js := [5, 6]) (rm := ({ frames := 2, cells := 0, slots := 0, locals := 45 } : Room)) (As := [.int (nI (chN (fc (slotN N (cx i) (nI nd)))))]) (n := 1) (q1 := 0) (rest := []) C hT hM rfl rfl k399 k400 k401 k2 k402 (by decide +kernel) rfl rfl rfl rfl (Nat.le_of_ble_eq_true rfl) hl.1 ⟨Nat.le_of_ble_eq_true rfl, Nat.le_of_ble_eq_true rfl⟩ ⟨Nat.le_of_ble_eq_true rfl, Nat.le_of_ble_eq_true rfl⟩ dX8_inputOf_86) rfl rfl (fun _ => rfl) (fun u H locs hT => ?_)
        have hT : Wd g A s (sideL g ad np fk fn fo st n nd bg f N fc fs r0 t0 f0 r1 t1 f1 nr fx mp ml cx xi) H locs := hT
        refine W.eq (g2 := F0 m 89 ls [.int (st (chN (fc (slotN N (cx i) (nI nd)))))]) rfl ?_
        exact e_iret C hQ () hT (by rw [inI, if_neg (not_not_intro h_2), if_neg h_3]) dX8_inputOf_89
      · skip
        refine lv_aload_n hx hb dX8_inputOf_38 rfl (lv_at hl 0 rfl) ?_
        refine gX8_37 C hT (q0 := 0) rfl dX8_inputOf_39 ?_
        refine lv_iload_n hx hb dX8_inputOf_42 rfl (lv_at hl 1 rfl) ?_
        refine r_aald C hT (q0 := 18) rfl i rfl hi8 (by decide) (b := ad (19 + i)) rfl dX8_inputOf_43 ?_
        refine lv_aload_n hx hb dX8_inputOf_44 rfl (lv_at hl 0 rfl) ?_
        refine gX8_12 C hT (q0 := 0) rfl dX8_inputOf_45 ?_
        have hM := c_X3_told l g (ad (19 + i)) (mp i) (ml i) (ad 7) (ad 8) n nd bg f (by first | assumption | omega) (by have := hmp i hi8; omega) (hml i hi8) hbg
        refine r_call0 (js := [19 + i, 7, 8]) C hT (runV (js := [19 + i, 7, 8]) (rm := ({ frames := 1, cells := 0, slots := 0, locals := 23 } : Room)) (As := [.ref (ad 7)]) (n := 1) (q1 := 0) (rest := []) C hT hM (sideL_js hi8) (sideL_nd hi8) k390 k391 k392 k12 k393 (by decide +kernel) rfl rfl rfl rfl (Nat.le_of_ble_eq_true rfl) hl.1 ⟨Nat.le_of_ble_eq_true rfl, Nat.le_of_ble_eq_true rfl⟩ ⟨Nat.le_of_ble_eq_true rfl, Nat.le_of_ble_eq_true rfl⟩ dX8_inputOf_48) (sideL_js hi8) (sideL_nd hi8) (fun _ => rfl) (fun u H locs hT => ?_)
        have hT : Wd g A s (sideL g ad np fk fn fo st n nd bg f N fc fs r0 t0 f0 r1 t1 f1 nr fx mp ml cx xi) H locs := hT.eq (sideL_id hi8)
        refine W.eq (g2 := F0 m 51 ls [.int (toldM (byteN f n (mp i) ||| 256) bg nd (ml i))]) rfl ?_
        exact e_iret C hQ () hT (by rw [inI, if_neg (not_not_intro h_2), if_pos h_3]) dX8_inputOf_51
    · skip
      refine lv_iconst (v := 0) hx hb dX8_inputOf_23 (by decide) ?_
      exact e_iret C hQ () hT (by rw [inI, if_pos h_2]) dX8_inputOf_24

set_option maxHeartbeats 400000 in
set_option maxRecDepth 100000 in
theorem c_X8_foretell (l : Launch) (g : GT) (ad : Nat → Nat) (np : Nat) (fk : Nat → Int32) (fn : Nat → Int32) (fo : Nat → Int32) (st : Nat → Int32) (n : Nat) (nd : Nat) (bg : Nat) (f : Nat → Int32) (N : Nat) (fc : Nat → Int32) (fs : Nat → Int32) (r0 : Int32) (t0 : Int32) (f0 : Nat → Int32) (r1 : Int32) (t1 : Int32) (f1 : Nat → Int32) (nr : Int32) (fx : Nat → Int32) (mp : Nat → Nat) (ml : Nat → Nat) (cx : Nat → Int32) (xi : Nat → Int32) (rr : Nat) (hnp : np ≤ 8) (hn : n ≤ 2000) (hmp : ∀ j, j < 8 → mp j < 2 ^ 19) (hml : ∀ j, j < 8 → ml j ≤ 32) (hbg : bg ≤ 7) (hnd : nd < 256) (hN : N = 2 ^ rr) (hrr : rr ≤ 12) (hfc : ∀ j, j < N → 0 ≤ (fc j).toInt ∧ (fc j).toInt < 65536) (hfb : ∀ j, j < n → 0 ≤ (f j).toInt ∧ (f j).toInt < 256) (hst : ∀ j, j < 4096 → -2047 ≤ (st j).toInt ∧ (st j).toInt ≤ 2047) : OM (S := Unit) l g yX8_foretell cX8_foretell 4 (some .int) ({ frames := 4, cells := 0, slots := 0, locals := 87 } : Room) [.ref (ad 0)] (sideL g ad np fk fn fo st n nd bg f N fc fs r0 t0 f0 r1 t1 f1 nr fx mp ml cx xi) (fun _ => some (.int (chanceI (mixN (toldI f0 (xiI fk fo st n nd bg f N fc mp ml cx xi np) (9 * nd)) (toldI f1 (xiI fk fo st n nd bg f N fc mp ml cx xi np) (9 * lbN f n))) (corrI fx nd (tN st (mixN (toldI f0 (xiI fk fo st n nd bg f N fc mp ml cx xi np) (9 * nd)) (toldI f1 (xiI fk fo st n nd bg f N fc mp ml cx xi np) (9 * lbN f n)))))))) (fun _ => (sideL g ad np fk fn fo st n nd bg f N fc fs (nI (9 * nd)) (toldI f0 (xiI fk fo st n nd bg f N fc mp ml cx xi np) (9 * nd)) f0 (nI (9 * lbN f n)) (toldI f1 (xiI fk fo st n nd bg f N fc mp ml cx xi np) (9 * lbN f n)) f1 (nI (nearN nd (tN st (mixN (toldI f0 (xiI fk fo st n nd bg f N fc mp ml cx xi np) (9 * nd)) (toldI f1 (xiI fk fo st n nd bg f N fc mp ml cx xi np) (9 * lbN f n)))))) fx mp ml cx (xiI fk fo st n nd bg f N fc mp ml cx xi np))) := by
  refine OM.startQ (by decide) (Nat.le_of_ble_eq_true rfl) ?_
  intro p e s m below meth c A ls Q H locs hQ C hnm hl hT
  have hx := C.x
  have hb := C.b
  have hl : lv_has ls 4 [(0, .ref (ad 0))] := hl
  have hN31 : N < 2 ^ 31 := pow12 hrr hN
  refine lv_iconst (v := 0) hx hb dX8_foretell_0 (by decide) ?_
  refine lv_istore_n (lv' := [(1, .int 0), (0, .ref (ad 0))]) hx hb dX8_foretell_1 rfl hl (by decide) rfl (fun ls hl => ?_)
  have loop_2 : ∀ (fu : Nat) (i : Nat) (vx1 : Int32) (xi1 : Nat → Int32) (H : Heap) (locs : List Loc) (ls : Array Slot) (hi : i ≤ np) (vex1 : vx1 = nI i) (hX1 : xi1 = xiI fk fo st n nd bg f N fc mp ml cx xi i), np - i < fu → Wd g A s (sideL g ad np fk fn fo st n nd bg f N fc fs r0 t0 f0 r1 t1 f1 nr fx mp ml cx xi1) H locs → lv_has ls 4 [(0, .ref (ad 0)), (1, .int vx1)] → W p l e ({ frames := 4, cells := 0, slots := 0, locals := 87 } : Room) s m ([.ref (ad 0)] : List Value).toArray below meth c H locs 0 0 Q (F0 m 2 ls []) := by
    intro fu
    induction fu with
    | zero => intro i vx1 xi1 H locs ls hi vex1 hX1 hm; exact absurd hm (Nat.not_lt_zero _)
    | succ fu ih =>
      intro i vx1 xi1 H locs ls hi vex1 hX1 hm hT hl
      refine lv_iload_n hx hb dX8_foretell_2 rfl (lv_at hl 1 rfl) ?_
      refine lv_aload_n hx hb dX8_foretell_3 rfl (lv_at hl 0 rfl) ?_
      refine gX8_48 C hT (q0 := 0) rfl dX8_foretell_4 ?_
      refine gX8_79 C hT (q0 := 1) rfl dX8_foretell_7 ?_
      refine lv_icmp_ge (tgt := 30) hx hb dX8_foretell_10 (by decide) (fun h_1 => ?_) (fun h_1 => ?_)
      · skip
        have hin := lp_end vex1 (by omega) hi h_1
        rw [hin] at hX1
        refine lv_aload_n hx hb dX8_foretell_30 rfl (lv_at hl 0 rfl) ?_
        refine gX8_21 C hT (q0 := 0) rfl dX8_foretell_31 ?_
        refine lv_aload_n hx hb dX8_foretell_34 rfl (lv_at hl 0 rfl) ?_
        refine gX8_12 C hT (q0 := 0) rfl dX8_foretell_35 ?_
        refine gX8_117 C hT (q0 := 7) rfl dX8_foretell_38 ?_
        refine lv_aload_n hx hb dX8_foretell_41 rfl (lv_at hl 0 rfl) ?_
        refine gX8_45 C hT (q0 := 0) rfl dX8_foretell_42 ?_
        have hM := c_X4_tell l g (ad 12) (ad 13) r0 t0 f0 (ad 28) xi1 nd (by first | assumption | omega)
        refine r_call0 (js := [12, 13, 28]) C hT (runV (js := [12, 13, 28]) (rm := ({ frames := 2, cells := 0, slots := 0, locals := 45 } : Room)) (As := [.int (nI nd), .ref (ad 28)]) (n := 2) (q1 := 0) (rest := []) C hT hM rfl rfl k404 k405 k406 k7 k407 (by decide +kernel) rfl rfl rfl rfl (Nat.le_of_ble_eq_true rfl) hl.1 ⟨Nat.le_of_ble_eq_true rfl, Nat.le_of_ble_eq_true rfl⟩ ⟨Nat.le_of_ble_eq_true rfl, Nat.le_of_ble_eq_true rfl⟩ dX8_foretell_45) rfl rfl (fun _ => rfl) (fun u H locs hT => ?_)
        have hT : Wd g A s (sideL g ad np fk fn fo st n nd bg f N fc fs (nI (9 * nd)) (toldI f0 xi1 (9 * nd)) f0 r1 t1 f1 nr fx mp ml cx xi1) H locs := hT
        refine W.eq (g2 := F0 m 48 ls [.int (toldI f0 xi1 (9 * nd))]) rfl ?_
        refine W.eq (g2 := F0 m 48 ls [.int (toldI f0 (xiI fk fo st n nd bg f N fc mp ml cx xi np) (9 * nd))]) (congrArg (fun z => F0 m 48 ls (.int z :: [])) ((by rw [hX1]))) ?_
        refine lv_aload_n hx hb dX8_foretell_48 rfl (lv_at hl 0 rfl) ?_
        refine gX8_25 C hT (q0 := 0) rfl dX8_foretell_49 ?_
        refine lv_aload_n hx hb dX8_foretell_52 rfl (lv_at hl 0 rfl) ?_
        refine gX8_12 C hT (q0 := 0) rfl dX8_foretell_53 ?_
        refine lv_iconst (v := 1) hx hb dX8_foretell_56 (by decide) ?_
        refine W.eq (g2 := F0 m 57 ls [.int (nI 1), .ref (ad 7), .ref (ad 14), .int (toldI f0 (xiI fk fo st n nd bg f N fc mp ml cx xi np) (9 * nd))]) (congrArg (fun z => F0 m 57 ls (.int z :: [.ref (ad 7), .ref (ad 14), .int (toldI f0 (xiI fk fo st n nd bg f N fc mp ml cx xi np) (9 * nd))])) (rfl)) ?_
        have hM := c_X2_back l g (ad 7) (ad 8) n nd bg f 1 (by first | assumption | omega) (by decide)
        refine r_call0 (js := [7, 8]) C hT (runV (js := [7, 8]) (rm := ({ frames := 0, cells := 0, slots := 0, locals := 0 } : Room)) (As := [.int (nI 1)]) (n := 1) (q1 := 0) (rest := [.ref (ad 14), .int (toldI f0 (xiI fk fo st n nd bg f N fc mp ml cx xi np) (9 * nd))]) C hT hM rfl rfl k418 k312 k313 k6 k314 (by decide +kernel) rfl rfl rfl rfl (Nat.le_of_ble_eq_true rfl) hl.1 ⟨Nat.le_of_ble_eq_true rfl, Nat.le_of_ble_eq_true rfl⟩ ⟨Nat.le_of_ble_eq_true rfl, Nat.le_of_ble_eq_true rfl⟩ dX8_foretell_57) rfl rfl (fun _ => rfl) (fun u H locs hT => ?_)
        have hT : Wd g A s (sideL g ad np fk fn fo st n nd bg f N fc fs (nI (9 * nd)) (toldI f0 xi1 (9 * nd)) f0 r1 t1 f1 nr fx mp ml cx xi1) H locs := hT
        refine W.eq (g2 := F0 m 60 ls [.int (backN f n 1), .ref (ad 14), .int (toldI f0 (xiI fk fo st n nd bg f N fc mp ml cx xi np) (9 * nd))]) rfl ?_
        refine W.eq (g2 := F0 m 60 ls [.int (nI (lbN f n)), .ref (ad 14), .int (toldI f0 (xiI fk fo st n nd bg f N fc mp ml cx xi np) (9 * nd))]) (congrArg (fun z => F0 m 60 ls (.int z :: [.ref (ad 14), .int (toldI f0 (xiI fk fo st n nd bg f N fc mp ml cx xi np) (9 * nd))])) (lb_eq hfb)) ?_
        refine lv_aload_n hx hb dX8_foretell_60 rfl (lv_at hl 0 rfl) ?_
        refine gX8_45 C hT (q0 := 0) rfl dX8_foretell_61 ?_
        have hM := c_X4_tell l g (ad 14) (ad 15) r1 t1 f1 (ad 28) xi1 (lbN f n) (lb_lt hfb)
        refine r_call0 (js := [14, 15, 28]) C hT (runV (js := [14, 15, 28]) (rm := ({ frames := 2, cells := 0, slots := 0, locals := 45 } : Room)) (As := [.int (nI (lbN f n)), .ref (ad 28)]) (n := 2) (q1 := 0) (rest := [.int (toldI f0 (xiI fk fo st n nd bg f N fc mp ml cx xi np) (9 * nd))]) C hT hM rfl rfl k404 k405 k406 k7 k407 (by decide +kernel) rfl rfl rfl rfl (Nat.le_of_ble_eq_true rfl) hl.1 ⟨Nat.le_of_ble_eq_true rfl, Nat.le_of_ble_eq_true rfl⟩ ⟨Nat.le_of_ble_eq_true rfl, Nat.le_of_ble_eq_true rfl⟩ dX8_foretell_64) rfl rfl (fun _ => rfl) (fun u H locs hT => ?_)
        have hT : Wd g A s (sideL g ad np fk fn fo st n nd bg f N fc fs (nI (9 * nd)) (toldI f0 xi1 (9 * nd)) f0 (nI (9 * (lbN f n))) (toldI f1 xi1 (9 * (lbN f n))) f1 nr fx mp ml cx xi1) H locs := hT
        refine W.eq (g2 := F0 m 67 ls [.int (toldI f1 xi1 (9 * (lbN f n))), .int (toldI f0 (xiI fk fo st n nd bg f N fc mp ml cx xi np) (9 * nd))]) rfl ?_
        refine W.eq (g2 := F0 m 67 ls [.int (toldI f1 (xiI fk fo st n nd bg f N fc mp ml cx xi np) (9 * lbN f n)), .int (toldI f0 (xiI fk fo st n nd bg f N fc mp ml cx xi np) (9 * nd))]) (congrArg (fun z => F0 m 67 ls (.int z :: [.int (toldI f0 (xiI fk fo st n nd bg f N fc mp ml cx xi np) (9 * nd))])) ((by rw [hX1]))) ?_
        refine lv_iadd hx hb dX8_foretell_67 ?_
        refine W.eq (g2 := F0 m 68 ls [.int ((toldI f0 (xiI fk fo st n nd bg f N fc mp ml cx xi np) (9 * nd)) + (toldI f1 (xiI fk fo st n nd bg f N fc mp ml cx xi np) (9 * lbN f n)))]) (congrArg (fun z => F0 m 68 ls (.int z :: [])) (rfl)) ?_
        refine lv_istore_n (lv' := [(1, .int ((toldI f0 (xiI fk fo st n nd bg f N fc mp ml cx xi np) (9 * nd)) + (toldI f1 (xiI fk fo st n nd bg f N fc mp ml cx xi np) (9 * lbN f n)))), (0, .ref (ad 0))]) hx hb dX8_foretell_68 rfl hl (by decide) rfl (fun ls hl => ?_)
        refine lv_iload_n hx hb dX8_foretell_69 rfl (lv_at hl 0 rfl) ?_
        refine lv_iconst (v := 1) hx hb dX8_foretell_70 (by decide) ?_
        refine lv_iadd hx hb dX8_foretell_71 ?_
        refine lv_iconst (v := 1) hx hb dX8_foretell_72 (by decide) ?_
        refine lv_ishr hx hb dX8_foretell_73 ?_
        refine W.eq (g2 := F0 m 74 ls [.int (nI (mixN (toldI f0 (xiI fk fo st n nd bg f N fc mp ml cx xi np) (9 * nd)) (toldI f1 (xiI fk fo st n nd bg f N fc mp ml cx xi np) (9 * lbN f n))))]) (congrArg (fun z => F0 m 74 ls (.int z :: [])) (mix_eq _ _ _ _ _ _)) ?_
        refine lv_istore_n (lv' := [(2, .int (nI (mixN (toldI f0 (xiI fk fo st n nd bg f N fc mp ml cx xi np) (9 * nd)) (toldI f1 (xiI fk fo st n nd bg f N fc mp ml cx xi np) (9 * lbN f n))))), (1, .int ((toldI f0 (xiI fk fo st n nd bg f N fc mp ml cx xi np) (9 * nd)) + (toldI f1 (xiI fk fo st n nd bg f N fc mp ml cx xi np) (9 * lbN f n)))), (0, .ref (ad 0))]) hx hb dX8_foretell_74 rfl hl (by decide) rfl (fun ls hl => ?_)
        refine lv_aload_n hx hb dX8_foretell_75 rfl (lv_at hl 2 rfl) ?_
        refine gX8_31 C hT (q0 := 0) rfl dX8_foretell_76 ?_
        refine lv_aload_n hx hb dX8_foretell_79 rfl (lv_at hl 2 rfl) ?_
        refine gX8_12 C hT (q0 := 0) rfl dX8_foretell_80 ?_
        refine gX8_117 C hT (q0 := 7) rfl dX8_foretell_83 ?_
        refine lv_aload_n hx hb dX8_foretell_86 rfl (lv_at hl 2 rfl) ?_
        refine gX8_52 C hT (q0 := 0) rfl dX8_foretell_87 ?_
        refine lv_iload_n hx hb dX8_foretell_90 rfl (lv_at hl 0 rfl) ?_
        have hM := c_X5_stretched l g (ad 5) (ad 6) st (mixN (toldI f0 (xiI fk fo st n nd bg f N fc mp ml cx xi np) (9 * nd)) (toldI f1 (xiI fk fo st n nd bg f N fc mp ml cx xi np) (9 * lbN f n))) (mix_lt _ _ _ _ _ _)
        refine r_call0 (js := [5, 6]) C hT (runV (js := [5, 6]) (rm := ({ frames := 2, cells := 0, slots := 0, locals := 45 } : Room)) (As := [.int (nI (mixN (toldI f0 (xiI fk fo st n nd bg f N fc mp ml cx xi np) (9 * nd)) (toldI f1 (xiI fk fo st n nd bg f N fc mp ml cx xi np) (9 * lbN f n))))]) (n := 1) (q1 := 0) (rest := [.int (nI nd), .ref (ad 16)]) C hT hM rfl rfl k399 k400 k401 k2 k402 (by decide +kernel) rfl rfl rfl rfl (Nat.le_of_ble_eq_true rfl) hl.1 ⟨Nat.le_of_ble_eq_true rfl, Nat.le_of_ble_eq_true rfl⟩ ⟨Nat.le_of_ble_eq_true rfl, Nat.le_of_ble_eq_true rfl⟩ dX8_foretell_91) rfl rfl (fun _ => rfl) (fun u H locs hT => ?_)
        have hT : Wd g A s (sideL g ad np fk fn fo st n nd bg f N fc fs (nI (9 * nd)) (toldI f0 xi1 (9 * nd)) f0 (nI (9 * (lbN f n))) (toldI f1 xi1 (9 * (lbN f n))) f1 nr fx mp ml cx xi1) H locs := hT
        refine W.eq (g2 := F0 m 94 ls [.int (st (mixN (toldI f0 (xiI fk fo st n nd bg f N fc mp ml cx xi np) (9 * nd)) (toldI f1 (xiI fk fo st n nd bg f N fc mp ml cx xi np) (9 * lbN f n)))), .int (nI nd), .ref (ad 16)]) rfl ?_
        have hM := c_X1_correct l g (ad 16) (ad 17) nr fx nd (st (mixN (toldI f0 (xiI fk fo st n nd bg f N fc mp ml cx xi np) (9 * nd)) (toldI f1 (xiI fk fo st n nd bg f N fc mp ml cx xi np) (9 * lbN f n)))) (tN st (mixN (toldI f0 (xiI fk fo st n nd bg f N fc mp ml cx xi np) (9 * nd)) (toldI f1 (xiI fk fo st n nd bg f N fc mp ml cx xi np) (9 * lbN f n)))) hnd (tN_lt (hst _ (mix_lt _ _ _ _ _ _))) (tN_eq (hst _ (mix_lt _ _ _ _ _ _)))
        refine r_call0 (js := [16, 17]) C hT (runV (js := [16, 17]) (rm := ({ frames := 2, cells := 0, slots := 0, locals := 45 } : Room)) (As := [.int (nI nd), .int (st (mixN (toldI f0 (xiI fk fo st n nd bg f N fc mp ml cx xi np) (9 * nd)) (toldI f1 (xiI fk fo st n nd bg f N fc mp ml cx xi np) (9 * lbN f n))))]) (n := 2) (q1 := 0) (rest := []) C hT hM rfl rfl k419 k420 k421 k9 k422 (by decide +kernel) rfl rfl rfl rfl (Nat.le_of_ble_eq_true rfl) hl.1 ⟨Nat.le_of_ble_eq_true rfl, Nat.le_of_ble_eq_true rfl⟩ ⟨Nat.le_of_ble_eq_true rfl, Nat.le_of_ble_eq_true rfl⟩ dX8_foretell_94) rfl rfl (fun _ => rfl) (fun u H locs hT => ?_)
        have hT : Wd g A s (sideL g ad np fk fn fo st n nd bg f N fc fs (nI (9 * nd)) (toldI f0 xi1 (9 * nd)) f0 (nI (9 * (lbN f n))) (toldI f1 xi1 (9 * (lbN f n))) f1 (nI (nearN nd (tN st (mixN (toldI f0 (xiI fk fo st n nd bg f N fc mp ml cx xi np) (9 * nd)) (toldI f1 (xiI fk fo st n nd bg f N fc mp ml cx xi np) (9 * lbN f n)))))) fx mp ml cx xi1) H locs := hT
        refine W.eq (g2 := F0 m 97 ls [.int (corrI fx nd (tN st (mixN (toldI f0 (xiI fk fo st n nd bg f N fc mp ml cx xi np) (9 * nd)) (toldI f1 (xiI fk fo st n nd bg f N fc mp ml cx xi np) (9 * lbN f n)))))]) rfl ?_
        refine lv_istore_n (lv' := [(3, .int (corrI fx nd (tN st (mixN (toldI f0 (xiI fk fo st n nd bg f N fc mp ml cx xi np) (9 * nd)) (toldI f1 (xiI fk fo st n nd bg f N fc mp ml cx xi np) (9 * lbN f n)))))), (2, .int (nI (mixN (toldI f0 (xiI fk fo st n nd bg f N fc mp ml cx xi np) (9 * nd)) (toldI f1 (xiI fk fo st n nd bg f N fc mp ml cx xi np) (9 * lbN f n))))), (1, .int ((toldI f0 (xiI fk fo st n nd bg f N fc mp ml cx xi np) (9 * nd)) + (toldI f1 (xiI fk fo st n nd bg f N fc mp ml cx xi np) (9 * lbN f n)))), (0, .ref (ad 0))]) hx hb dX8_foretell_97 rfl hl (by decide) rfl (fun ls hl => ?_)
        refine lv_iload_n hx hb dX8_foretell_98 rfl (lv_at hl 1 rfl) ?_
        refine lv_iconst (v := 3) hx hb dX8_foretell_99 (by decide) ?_
        refine lv_iload_n hx hb dX8_foretell_100 rfl (lv_at hl 0 rfl) ?_
        refine lv_imul hx hb dX8_foretell_101 ?_
        refine lv_iadd hx hb dX8_foretell_102 ?_
        refine lv_iconst (v := 2) hx hb dX8_foretell_103 (by decide) ?_
        refine lv_iadd hx hb dX8_foretell_104 ?_
        refine lv_iconst (v := 2) hx hb dX8_foretell_105 (by decide) ?_
        refine lv_ishr hx hb dX8_foretell_106 ?_
        refine lv_iconst (v := 1) hx hb dX8_foretell_107 (by decide) ?_
        refine lv_sipush (v := 4095) hx hb dX8_foretell_108 (by decide) ?_
        have hM := c_X5_bound l g ((((nI (mixN (toldI f0 (xiI fk fo st n nd bg f N fc mp ml cx xi np) (9 * nd)) (toldI f1 (xiI fk fo st n nd bg f N fc mp ml cx xi np) (9 * lbN f n)))) + (3 * (corrI fx nd (tN st (mixN (toldI f0 (xiI fk fo st n nd bg f N fc mp ml cx xi np) (9 * nd)) (toldI f1 (xiI fk fo st n nd bg f N fc mp ml cx xi np) (9 * lbN f n))))))) + 2) >>> (2 &&& 31)) 1 4095
        refine r_call0 (js := []) C hT (runS (js := []) (rm := ({ frames := 1, cells := 0, slots := 0, locals := 23 } : Room)) (As := [.int ((((nI (mixN (toldI f0 (xiI fk fo st n nd bg f N fc mp ml cx xi np) (9 * nd)) (toldI f1 (xiI fk fo st n nd bg f N fc mp ml cx xi np) (9 * lbN f n)))) + (3 * (corrI fx nd (tN st (mixN (toldI f0 (xiI fk fo st n nd bg f N fc mp ml cx xi np) (9 * nd)) (toldI f1 (xiI fk fo st n nd bg f N fc mp ml cx xi np) (9 * lbN f n))))))) + 2) >>> (2 &&& 31)), .int 1, .int 4095]) (n := 3) (rest := []) C hT hM rfl rfl k431 k31 k2 k32 (by decide +kernel) rfl rfl (Nat.le_of_ble_eq_true rfl) hl.1 ⟨Nat.le_of_ble_eq_true rfl, Nat.le_of_ble_eq_true rfl⟩ ⟨Nat.le_of_ble_eq_true rfl, Nat.le_of_ble_eq_true rfl⟩ dX8_foretell_111) rfl rfl (fun _ => rfl) (fun u H locs hT => ?_)
        have hT : Wd g A s (sideL g ad np fk fn fo st n nd bg f N fc fs (nI (9 * nd)) (toldI f0 xi1 (9 * nd)) f0 (nI (9 * (lbN f n))) (toldI f1 xi1 (9 * (lbN f n))) f1 (nI (nearN nd (tN st (mixN (toldI f0 (xiI fk fo st n nd bg f N fc mp ml cx xi np) (9 * nd)) (toldI f1 (xiI fk fo st n nd bg f N fc mp ml cx xi np) (9 * lbN f n)))))) fx mp ml cx xi1) H locs := hT
        refine W.eq (g2 := F0 m 114 ls [.int (boundI ((((nI (mixN (toldI f0 (xiI fk fo st n nd bg f N fc mp ml cx xi np) (9 * nd)) (toldI f1 (xiI fk fo st n nd bg f N fc mp ml cx xi np) (9 * lbN f n)))) + (3 * (corrI fx nd (tN st (mixN (toldI f0 (xiI fk fo st n nd bg f N fc mp ml cx xi np) (9 * nd)) (toldI f1 (xiI fk fo st n nd bg f N fc mp ml cx xi np) (9 * lbN f n))))))) + 2) >>> (2 &&& 31)) 1 4095)]) rfl ?_
        refine W.eq (g2 := F0 m 114 ls [.int (chanceI (mixN (toldI f0 (xiI fk fo st n nd bg f N fc mp ml cx xi np) (9 * nd)) (toldI f1 (xiI fk fo st n nd bg f N fc mp ml cx xi np) (9 * lbN f n))) (corrI fx nd (tN st (mixN (toldI f0 (xiI fk fo st n nd bg f N fc mp ml cx xi np) (9 * nd)) (toldI f1 (xiI fk fo st n nd bg f N fc mp ml cx xi np) (9 * lbN f n))))))]) (congrArg (fun z => F0 m 114 ls (.int z :: [])) (rfl)) ?_
        exact e_iret C hQ () (by exact hT.eq (by rw [hX1])) rfl dX8_foretell_114
      · skip
        have hin := lp_go vex1 (by omega) hi h_1
        have hi8 : i < 8 := by omega
        refine lv_aload_n hx hb dX8_foretell_13 rfl (lv_at hl 0 rfl) ?_
        refine gX8_45 C hT (q0 := 0) rfl dX8_foretell_14 ?_
        refine lv_iload_n hx hb dX8_foretell_17 rfl (lv_at hl 1 rfl) ?_
        refine lv_aload_n hx hb dX8_foretell_18 rfl (lv_at hl 0 rfl) ?_
        refine lv_iload_n hx hb dX8_foretell_19 rfl (lv_at hl 1 rfl) ?_
        refine W.eq (g2 := F0 m 20 ls [.int (nI i), .ref (ad 0), .int vx1, .ref (ad 28)]) (congrArg (fun z => F0 m 20 ls (.int z :: [.ref (ad 0), .int vx1, .ref (ad 28)])) (vex1)) ?_
        have hM := c_X8_inputOf l g ad np fk fn fo st n nd bg f N fc fs r0 t0 f0 r1 t1 f1 nr fx mp ml cx xi1 rr i (by first | assumption | omega) (by first | assumption | omega) (by first | assumption | omega) (by first | assumption | omega) (by first | assumption | omega) (by first | assumption | omega) (by first | assumption | omega) (by first | assumption | omega) (by first | assumption | omega)
        refine r_callW C hT (runVW (rm := ({ frames := 3, cells := 0, slots := 0, locals := 66 } : Room)) (As := [.int (nI i)]) (n := 1) (q1 := 0) (rest := [.int vx1, .ref (ad 28)]) C hT hM k385 k386 k387 k5 k388 (by decide +kernel) rfl rfl rfl rfl (Nat.le_of_ble_eq_true rfl) hl.1 ⟨Nat.le_of_ble_eq_true rfl, Nat.le_of_ble_eq_true rfl⟩ ⟨Nat.le_of_ble_eq_true rfl, Nat.le_of_ble_eq_true rfl⟩ dX8_foretell_20) (fun u H locs hT => ?_)
        have hT : Wd g A s (sideL g ad np fk fn fo st n nd bg f N fc fs r0 t0 f0 r1 t1 f1 nr fx mp ml cx xi1) H locs := hT
        refine W.eq (g2 := F0 m 23 ls [.int (inI fk fo st n nd bg f N fc mp ml cx i), .int vx1, .ref (ad 28)]) rfl ?_
        refine r_iast C hT (q0 := 28) rfl i vex1 (by omega) (by decide) dX8_foretell_23 (fun H locs hT => ?_)
        have hT : Wd g A s (sideL g ad np fk fn fo st n nd bg f N fc fs r0 t0 f0 r1 t1 f1 nr fx mp ml cx (upd xi1 i (inI fk fo st n nd bg f N fc mp ml cx i))) H locs := hT
        obtain ⟨x_2, ex_2⟩ : ∃ y : Int32, y = vx1 + 1 := ⟨_, rfl⟩
        refine lv_iinc (v := x_2) (lv' := [(1, .int x_2), (0, .ref (ad 0))]) hx hb dX8_foretell_24 hl (k := 1) rfl (by rw [ex_2]; rfl) (by decide) rfl (fun ls hl => ?_)
        refine lv_goto (tgt := 2) hx hb dX8_foretell_27 (by decide) ?_
        exact ih (i + 1) x_2 (upd xi1 i (inI fk fo st n nd bg f N fc mp ml cx i)) H locs ls (by first | assumption | omega | rfl) (by rw [ex_2, vex1]; exact nI_1 i) (by rw [hX1]; exact xiI_s _) (by omega) hT (lv_sub hl [1, 0] rfl)
  exact loop_2 (np - 0 + 1) 0 0 xi H locs ls (by first | assumption | omega | rfl) rfl (xiI_0 _) (Nat.lt_succ_self _) hT (lv_sub hl [1, 0] rfl)
