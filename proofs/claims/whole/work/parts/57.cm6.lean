set_option maxHeartbeats 400000 in
set_option maxRecDepth 100000 in
theorem c_X10_octet_s (l : Launch) (g : GT) (ad : Nat → Nat) (bd : Nat → Nat) (np : Nat) (fk : Nat → Int32) (fn : Nat → Int32) (fo : Nat → Int32) (st : Nat → Int32) (N : Nat) (U : SSt) (V : SSt) (code : Int64) (cp : Nat) (en : Bool) (no : Nat) (ou : Nat → Int32) (wl : Int64) (wh : Int64) (rl : Int64) (rh : Int64) (x : Int32) (hst : en = true ∨ 0 < s_bg U) (hbg : s_bg U ≤ 8) : OM (S := Unit) l g yX10_octet cX10_octet 3 (some .int) ({ frames := 0, cells := 0, slots := 0, locals := 0 } : Room) [.ref (bd 1), .int x] (cmL g ad bd np fk fn fo st N (s_n U) (s_nd U) (s_bg U) (s_f U) (s_fc U) (s_fs U) (s_r0 U) (s_t0 U) (s_f0 U) (s_r1 U) (s_t1 U) (s_f1 U) (s_nr U) (s_fx U) (s_mp U) (s_ml U) (s_cx U) (s_xi U) (s_n V) (s_nd V) (s_bg V) (s_f V) (s_fc V) (s_fs V) (s_r0 V) (s_t0 V) (s_f0 V) (s_r1 V) (s_t1 V) (s_f1 V) (s_nr V) (s_fx V) (s_mp V) (s_ml V) (s_cx V) (s_xi V) code cp en no ou wl wh rl rh) (fun _ => some (.int (-4))) (fun _ => (cmL g ad bd np fk fn fo st N (s_n U) (s_nd U) (s_bg U) (s_f U) (s_fc U) (s_fs U) (s_r0 U) (s_t0 U) (s_f0 U) (s_r1 U) (s_t1 U) (s_f1 U) (s_nr U) (s_fx U) (s_mp U) (s_ml U) (s_cx U) (s_xi U) (s_n V) (s_nd V) (s_bg V) (s_f V) (s_fc V) (s_fs V) (s_r0 V) (s_t0 V) (s_f0 V) (s_r1 V) (s_t1 V) (s_f1 V) (s_nr V) (s_fx V) (s_mp V) (s_ml V) (s_cx V) (s_xi V) code cp en no ou wl wh rl rh)) := by
  refine OM.startQ (by decide) (Nat.le_of_ble_eq_true rfl) ?_
  intro p e s m below meth c A ls Q H locs hQ C hnm hl hT
  have hx := C.x
  have hb := C.b
  have hl : lv_has ls 3 [(0, .ref (bd 1)), (1, .int x)] := hl
  refine lv_aload_n hx hb dX10_octet_0 rfl (lv_at hl 0 rfl) ?_
  refine gX10_60 C hT (q0 := 52) rfl dX10_octet_1 ?_
  refine lv_if_ne (tgt := 20) hx hb dX10_octet_4 (by decide) (fun h_1 => ?_) (fun h_1 => ?_)
  · skip
    have h_1 := b01_t h_1
    refine lv_bipush (v := (-4)) hx hb dX10_octet_20 (by decide) ?_
    exact e_iret C hQ () hT rfl dX10_octet_22
  · skip
    have h_1 := b01_f h_1
    refine lv_aload_n hx hb dX10_octet_7 rfl (lv_at hl 0 rfl) ?_
    refine gX10_32 C hT (q0 := 52) rfl dX10_octet_8 ?_
    refine gX10_64 C hT (q0 := 0) rfl dX10_octet_11 ?_
    refine gX10_99 C hT (q0 := 7) rfl dX10_octet_14 ?_
    refine lv_if_eq (tgt := 23) hx hb dX10_octet_17 (by decide) (fun h_2 => ?_) (fun h_2 => ?_)
    · skip
      exact oct_dead2 hst hbg h_1 h_2
    · skip
      refine lv_bipush (v := (-4)) hx hb dX10_octet_20 (by decide) ?_
      exact e_iret C hQ () hT rfl dX10_octet_22

set_option maxHeartbeats 400000 in
set_option maxRecDepth 100000 in
theorem c_X10_octet (l : Launch) (g : GT) (ad : Nat → Nat) (bd : Nat → Nat) (np : Nat) (fk : Nat → Int32) (fn : Nat → Int32) (fo : Nat → Int32) (st : Nat → Int32) (N : Nat) (U : SSt) (V : SSt) (code : Int64) (cp : Nat) (en : Bool) (no : Nat) (ou : Nat → Int32) (wl : Int64) (wh : Int64) (rl : Int64) (rh : Int64) (rr : Nat) (x : Int32) (hG : GI st N rr np fk fn) (hX : SX N np fk U) (hCI : CI wl wh) (hou : ouI no ou) (hen : en = false) (hb0 : s_bg U = 0) (hnl : s_n U + 8 ≤ 2000) (hno : no ≤ 2992) : OM (S := Unit) l g yX10_octet cX10_octet 3 (some .int) ({ frames := 6, cells := 0, slots := 0, locals := 136 } : Room) [.ref (bd 1), .int x] (cmL g ad bd np fk fn fo st N (s_n U) (s_nd U) (s_bg U) (s_f U) (s_fc U) (s_fs U) (s_r0 U) (s_t0 U) (s_f0 U) (s_r1 U) (s_t1 U) (s_f1 U) (s_nr U) (s_fx U) (s_mp U) (s_ml U) (s_cx U) (s_xi U) (s_n V) (s_nd V) (s_bg V) (s_f V) (s_fc V) (s_fs V) (s_r0 V) (s_t0 V) (s_f0 V) (s_r1 V) (s_t1 V) (s_f1 V) (s_nr V) (s_fx V) (s_mp V) (s_ml V) (s_cx V) (s_xi V) code cp en no ou wl wh rl rh) (fun _ => some (.int (nI (octN st N np fk fn fo x (U, wl, wh, no, ou) 8).2.2.2.1))) (fun _ => (cmL g ad bd np fk fn fo st N (s_n ((octN st N np fk fn fo x (U, wl, wh, no, ou) 8).1)) (s_nd ((octN st N np fk fn fo x (U, wl, wh, no, ou) 8).1)) (s_bg ((octN st N np fk fn fo x (U, wl, wh, no, ou) 8).1)) (s_f ((octN st N np fk fn fo x (U, wl, wh, no, ou) 8).1)) (s_fc ((octN st N np fk fn fo x (U, wl, wh, no, ou) 8).1)) (s_fs ((octN st N np fk fn fo x (U, wl, wh, no, ou) 8).1)) (s_r0 ((octN st N np fk fn fo x (U, wl, wh, no, ou) 8).1)) (s_t0 ((octN st N np fk fn fo x (U, wl, wh, no, ou) 8).1)) (s_f0 ((octN st N np fk fn fo x (U, wl, wh, no, ou) 8).1)) (s_r1 ((octN st N np fk fn fo x (U, wl, wh, no, ou) 8).1)) (s_t1 ((octN st N np fk fn fo x (U, wl, wh, no, ou) 8).1)) (s_f1 ((octN st N np fk fn fo x (U, wl, wh, no, ou) 8).1)) (s_nr ((octN st N np fk fn fo x (U, wl, wh, no, ou) 8).1)) (s_fx ((octN st N np fk fn fo x (U, wl, wh, no, ou) 8).1)) (s_mp ((octN st N np fk fn fo x (U, wl, wh, no, ou) 8).1)) (s_ml ((octN st N np fk fn fo x (U, wl, wh, no, ou) 8).1)) (s_cx ((octN st N np fk fn fo x (U, wl, wh, no, ou) 8).1)) (s_xi ((octN st N np fk fn fo x (U, wl, wh, no, ou) 8).1)) (s_n V) (s_nd V) (s_bg V) (s_f V) (s_fc V) (s_fs V) (s_r0 V) (s_t0 V) (s_f0 V) (s_r1 V) (s_t1 V) (s_f1 V) (s_nr V) (s_fx V) (s_mp V) (s_ml V) (s_cx V) (s_xi V) code cp en ((octN st N np fk fn fo x (U, wl, wh, no, ou) 8).2.2.2.1) ((octN st N np fk fn fo x (U, wl, wh, no, ou) 8).2.2.2.2) ((octN st N np fk fn fo x (U, wl, wh, no, ou) 8).2.1) ((octN st N np fk fn fo x (U, wl, wh, no, ou) 8).2.2.1) rl rh)) := by
  refine OM.startQ (by decide) (Nat.le_of_ble_eq_true rfl) ?_
  intro p e s m below meth c A ls Q H locs hQ C hnm hl hT
  have hx := C.x
  have hb := C.b
  have hl : lv_has ls 3 [(0, .ref (bd 1)), (1, .int x)] := hl
  have hW0 : WI (N := N) (np := np) (fk := fk) (U, wl, wh, no, ou) (s_n U) no := ⟨hX, hCI, hou, Nat.le_refl _, Nat.le_refl _⟩
  refine lv_aload_n hx hb dX10_octet_0 rfl (lv_at hl 0 rfl) ?_
  refine gX10_60 C hT (q0 := 52) rfl dX10_octet_1 ?_
  refine lv_if_ne (tgt := 20) hx hb dX10_octet_4 (by decide) (fun h_1 => ?_) (fun h_1 => ?_)
  · skip
    exact absurd (b01_t h_1) (by rw [hen]; decide)
  · skip
    refine lv_aload_n hx hb dX10_octet_7 rfl (lv_at hl 0 rfl) ?_
    refine gX10_32 C hT (q0 := 52) rfl dX10_octet_8 ?_
    refine gX10_64 C hT (q0 := 0) rfl dX10_octet_11 ?_
    refine gX10_99 C hT (q0 := 7) rfl dX10_octet_14 ?_
    refine lv_if_eq (tgt := 23) hx hb dX10_octet_17 (by decide) (fun h_2 => ?_) (fun h_2 => ?_)
    · skip
      refine lv_aload_n hx hb dX10_octet_23 rfl (lv_at hl 0 rfl) ?_
      have hM := c_X10_isFull l g ad bd np fk fn fo st N U V code cp en no ou wl wh rl rh (by omega) hno
      refine r_callRO (js := [0, 1, 2, 3, 4, 5, 6, 7, 8, 9, 10, 11, 12, 13, 14, 15, 16, 17, 18, 19, 20, 21, 22, 23, 24, 25, 26, 27, 28, 29, 30, 31, 32, 33, 34, 35, 36, 37, 38, 39, 40, 41, 42, 43, 44, 45, 46, 47, 48, 49, 50, 51, 52, 53, 54, 55, 56]) C hT (runV (js := [0, 1, 2, 3, 4, 5, 6, 7, 8, 9, 10, 11, 12, 13, 14, 15, 16, 17, 18, 19, 20, 21, 22, 23, 24, 25, 26, 27, 28, 29, 30, 31, 32, 33, 34, 35, 36, 37, 38, 39, 40, 41, 42, 43, 44, 45, 46, 47, 48, 49, 50, 51, 52, 53, 54, 55, 56]) (rm := ({ frames := 0, cells := 0, slots := 0, locals := 0 } : Room)) (As := []) (n := 0) (q1 := 52) (rest := []) C hT hM rfl rfl k373 k375 s4 k1 k376 (by decide +kernel) rfl rfl rfl rfl (Nat.le_of_ble_eq_true rfl) hl.1 ⟨Nat.le_of_ble_eq_true rfl, Nat.le_of_ble_eq_true rfl⟩ ⟨Nat.le_of_ble_eq_true rfl, Nat.le_of_ble_eq_true rfl⟩ dX10_octet_24) rfl rfl (fun u H locs hT => ?_)
      refine W.eq (g2 := F0 m 27 ls [.int 0]) rfl ?_
      refine lv_if_eq (tgt := 33) hx hb dX10_octet_27 (by decide) (fun h_3 => ?_) (fun h_3 => ?_)
      · skip
        refine lv_bipush (v := 7) hx hb dX10_octet_33 (by decide) ?_
        refine lv_istore_n (lv' := [(2, .int 7), (0, .ref (bd 1)), (1, .int x)]) hx hb dX10_octet_35 rfl hl (by decide) rfl (fun ls hl => ?_)
        have loop_36 : ∀ (fu : Nat) (i : Nat) (vx2 : Int32) (U1 : SSt) (wl1 : Int64) (wh1 : Int64) (no1 : Nat) (ou1 : Nat → Int32) (H : Heap) (locs : List Loc) (ls : Array Slot) (hli : i ≤ 8) (vex2 : vx2 = 7 - nI i) (hE1 : octN st N np fk fn fo x (U, wl, wh, no, ou) i = (U1, wl1, wh1, no1, ou1)), 8 - i < fu → Wd g A s (cmL g ad bd np fk fn fo st N (s_n U1) (s_nd U1) (s_bg U1) (s_f U1) (s_fc U1) (s_fs U1) (s_r0 U1) (s_t0 U1) (s_f0 U1) (s_r1 U1) (s_t1 U1) (s_f1 U1) (s_nr U1) (s_fx U1) (s_mp U1) (s_ml U1) (s_cx U1) (s_xi U1) (s_n V) (s_nd V) (s_bg V) (s_f V) (s_fc V) (s_fs V) (s_r0 V) (s_t0 V) (s_f0 V) (s_r1 V) (s_t1 V) (s_f1 V) (s_nr V) (s_fx V) (s_mp V) (s_ml V) (s_cx V) (s_xi V) code cp en no1 ou1 wl1 wh1 rl rh) H locs → lv_has ls 3 [(0, .ref (bd 1)), (1, .int x), (2, .int vx2)] → W p l e ({ frames := 6, cells := 0, slots := 0, locals := 136 } : Room) s m ([.ref (bd 1), .int x] : List Value).toArray below meth c H locs 0 0 Q (F0 m 36 ls []) := by
          intro fu
          induction fu with
          | zero => intro i vx2 U1 wl1 wh1 no1 ou1 H locs ls hli vex2 hE1 hm; exact absurd hm (Nat.not_lt_zero _)
          | succ fu ih =>
            intro i vx2 U1 wl1 wh1 no1 ou1 H locs ls hli vex2 hE1 hm hT hl
            refine lv_iload_n hx hb dX10_octet_36 rfl (lv_at hl 2 rfl) ?_
            refine lv_if_lt (tgt := 64) hx hb dX10_octet_37 (by decide) (fun h_4 => ?_) (fun h_4 => ?_)
            · skip
              have hin := oc_end hli vex2 h_4
              rw [hin] at hE1
              refine lv_aload_n hx hb dX10_octet_64 rfl (lv_at hl 0 rfl) ?_
              refine gX10_42 C hT (q0 := 52) rfl dX10_octet_65 ?_
              refine gX10_95 C hT (q0 := 53) rfl dX10_octet_68 ?_
              exact e_iret C hQ () (by rw [hE1]; exact hT) (by rw [hE1]) dX10_octet_71
            · skip
              have hin := oc_go hli vex2 h_4
              have hW2 := WI_oct (fo := fo) (b := x) hG hW0 i (by omega)
              rw [hE1] at hW2
              have hI9 : SI N U1 := hW2.1.1
              have hn9 : s_n U1 ≤ s_n U + i := hW2.2.2.2.1
              have ho9 : no1 ≤ no + 4 * i := hW2.2.2.2.2
              refine lv_aload_n hx hb dX10_octet_40 rfl (lv_at hl 0 rfl) ?_
              refine lv_iload_n hx hb dX10_octet_41 rfl (lv_at hl 1 rfl) ?_
              refine lv_iload_n hx hb dX10_octet_42 rfl (lv_at hl 2 rfl) ?_
              refine lv_ishr hx hb dX10_octet_43 ?_
              refine lv_iconst (v := 1) hx hb dX10_octet_44 (by decide) ?_
              refine lv_iand hx hb dX10_octet_45 ?_
              refine W.eq (g2 := F0 m 46 ls [.int (bitI x (7 - i)), .ref (bd 1)]) (congrArg (fun z => F0 m 46 ls (.int z :: [.ref (bd 1)])) ((by rw [oc_bit hin vex2]; rfl))) ?_
              refine lv_iconst (v := 1) hx hb dX10_octet_46 (by decide) ?_
              refine r_iteN (ls := ls) (J := 55) (a1 := 0) (a2 := 1) (rest := [.ref (bd 1)]) (lv_icmp_ne (tgt := 54) hx hb dX10_octet_47 (by decide)) (fun h_5 kont => ?_) (fun h_5 kont => ?_) ?_
              · skip
                refine lv_iconst (v := 0) hx hb dX10_octet_54 (by decide) ?_
                exact kont
              · skip
                refine lv_iconst (v := 1) hx hb dX10_octet_50 (by decide) ?_
                refine lv_goto (tgt := 55) hx hb dX10_octet_51 (by decide) ?_
                exact kont
              refine W.eq (g2 := F0 m 55 ls [.int (bitI x (7 - i)), .ref (bd 1)]) (congrArg (fun z => F0 m 55 ls (.int z :: [.ref (bd 1)])) (bit_ne (bitI_01 _ _))) ?_
              have hM := c_X10_writeBit l g ad bd np fk fn fo st N U1 V code cp en no1 ou1 wl1 wh1 rl rh rr (bitI x (7 - i)) hG hI9 (by omega) (by omega)
              refine r_callW C hT (runVW (rm := ({ frames := 5, cells := 0, slots := 0, locals := 114 } : Room)) (As := [.int (bitI x (7 - i))]) (n := 1) (q1 := 52) (rest := []) C hT hM k377 k379 s5 k1 k380 (by decide +kernel) rfl rfl rfl rfl (Nat.le_of_ble_eq_true rfl) hl.1 ⟨Nat.le_of_ble_eq_true rfl, Nat.le_of_ble_eq_true rfl⟩ ⟨Nat.le_of_ble_eq_true rfl, Nat.le_of_ble_eq_true rfl⟩ dX10_octet_55) (fun u H locs hT => ?_)
              have hT : Wd g A s (cmL g ad bd np fk fn fo st N (if (s_bg U1) = 7 then (s_n U1) + 1 else (s_n U1)) (if (s_bg U1) = 7 then 1 else 2 * (s_nd U1) + bitN (bitI x (7 - i))) (if (s_bg U1) = 7 then 0 else (s_bg U1) + 1) (if (s_bg U1) = 7 then lfS (bitI x (7 - i)) U1 else (s_f U1)) (lcS N np fk fo U1 (bitI x (7 - i))) (lsS N np fk fo U1 (bitI x (7 - i))) (nI (9 * (s_nd U1))) (t0S st N np fk fo U1) (lw0S st N np fk fo U1 (bitI x (7 - i))) (nI (9 * lbN (s_f U1) (s_n U1))) (t1S st N np fk fo U1) (lw1S st N np fk fo U1 (bitI x (7 - i))) (nI (nearS st N np fk fo U1)) (lxS st N np fk fo U1 (bitI x (7 - i))) (if (s_bg U1) = 7 then bgP (lfS (bitI x (7 - i)) U1) ((s_n U1) + 1) fk fn (s_mp U1) (s_ml U1) np else (s_mp U1)) (if (s_bg U1) = 7 then bgL (lfS (bitI x (7 - i)) U1) ((s_n U1) + 1) fk fn (s_mp U1) (s_ml U1) np else (s_ml U1)) (if (s_bg U1) = 7 then bgC (lfS (bitI x (7 - i)) U1) ((s_n U1) + 1) fk fn (s_cx U1) np else (s_cx U1)) (xiS st N np fk fo U1) (s_n V) (s_nd V) (s_bg V) (s_f V) (s_fc V) (s_fs V) (s_r0 V) (s_t0 V) (s_f0 V) (s_r1 V) (s_t1 V) (s_f1 V) (s_nr V) (s_fx V) (s_mp V) (s_ml V) (s_cx V) (s_xi V) code cp en ((emF 4 (nLo (bitI x (7 - i)) wl1 (mdS st N np fk fo U1 wl1 wh1)) (nHi (bitI x (7 - i)) wh1 (mdS st N np fk fo U1 wl1 wh1)) no1 ou1).2.2.1) ((emF 4 (nLo (bitI x (7 - i)) wl1 (mdS st N np fk fo U1 wl1 wh1)) (nHi (bitI x (7 - i)) wh1 (mdS st N np fk fo U1 wl1 wh1)) no1 ou1).2.2.2) ((emF 4 (nLo (bitI x (7 - i)) wl1 (mdS st N np fk fo U1 wl1 wh1)) (nHi (bitI x (7 - i)) wh1 (mdS st N np fk fo U1 wl1 wh1)) no1 ou1).1) ((emF 4 (nLo (bitI x (7 - i)) wl1 (mdS st N np fk fo U1 wl1 wh1)) (nHi (bitI x (7 - i)) wh1 (mdS st N np fk fo U1 wl1 wh1)) no1 ou1).2.1) rl rh) H locs := hT
              refine W.eq (g2 := F0 m 58 ls []) rfl ?_
              have hT : Wd g A s (cmL g ad bd np fk fn fo st N (s_n (stepS st N np fk fn fo U1 (bitI x (7 - i)))) (s_nd (stepS st N np fk fn fo U1 (bitI x (7 - i)))) (s_bg (stepS st N np fk fn fo U1 (bitI x (7 - i)))) (s_f (stepS st N np fk fn fo U1 (bitI x (7 - i)))) (s_fc (stepS st N np fk fn fo U1 (bitI x (7 - i)))) (s_fs (stepS st N np fk fn fo U1 (bitI x (7 - i)))) (s_r0 (stepS st N np fk fn fo U1 (bitI x (7 - i)))) (s_t0 (stepS st N np fk fn fo U1 (bitI x (7 - i)))) (s_f0 (stepS st N np fk fn fo U1 (bitI x (7 - i)))) (s_r1 (stepS st N np fk fn fo U1 (bitI x (7 - i)))) (s_t1 (stepS st N np fk fn fo U1 (bitI x (7 - i)))) (s_f1 (stepS st N np fk fn fo U1 (bitI x (7 - i)))) (s_nr (stepS st N np fk fn fo U1 (bitI x (7 - i)))) (s_fx (stepS st N np fk fn fo U1 (bitI x (7 - i)))) (s_mp (stepS st N np fk fn fo U1 (bitI x (7 - i)))) (s_ml (stepS st N np fk fn fo U1 (bitI x (7 - i)))) (s_cx (stepS st N np fk fn fo U1 (bitI x (7 - i)))) (s_xi (stepS st N np fk fn fo U1 (bitI x (7 - i)))) (s_n V) (s_nd V) (s_bg V) (s_f V) (s_fc V) (s_fs V) (s_r0 V) (s_t0 V) (s_f0 V) (s_r1 V) (s_t1 V) (s_f1 V) (s_nr V) (s_fx V) (s_mp V) (s_ml V) (s_cx V) (s_xi V) code cp en ((emF 4 (nLo (bitI x (7 - i)) wl1 (mdS st N np fk fo U1 wl1 wh1)) (nHi (bitI x (7 - i)) wh1 (mdS st N np fk fo U1 wl1 wh1)) no1 ou1).2.2.1) ((emF 4 (nLo (bitI x (7 - i)) wl1 (mdS st N np fk fo U1 wl1 wh1)) (nHi (bitI x (7 - i)) wh1 (mdS st N np fk fo U1 wl1 wh1)) no1 ou1).2.2.2) ((emF 4 (nLo (bitI x (7 - i)) wl1 (mdS st N np fk fo U1 wl1 wh1)) (nHi (bitI x (7 - i)) wh1 (mdS st N np fk fo U1 wl1 wh1)) no1 ou1).1) ((emF 4 (nLo (bitI x (7 - i)) wl1 (mdS st N np fk fo U1 wl1 wh1)) (nHi (bitI x (7 - i)) wh1 (mdS st N np fk fo U1 wl1 wh1)) no1 ou1).2.1) rl rh) H locs := hT.eq (by rw [step_n, step_nd, step_bg, step_f, step_fc, step_fs, step_r0, step_t0, step_f0, step_r1, step_t1, step_f1, step_nr, step_fx, step_mp, step_ml, step_cx, step_xi])
              obtain ⟨x_6, ex_6⟩ : ∃ y : Int32, y = vx2 + (-1) := ⟨_, rfl⟩
              refine lv_iinc (v := x_6) (lv' := [(2, .int x_6), (0, .ref (bd 1)), (1, .int x)]) hx hb dX10_octet_58 hl (k := 2) rfl (by rw [ex_6]; rfl) (by decide) rfl (fun ls hl => ?_)
              refine lv_goto (tgt := 36) hx hb dX10_octet_61 (by decide) ?_
              exact ih (i + 1) x_6 (stepS st N np fk fn fo U1 (bitI x (7 - i))) ((emF 4 (nLo (bitI x (7 - i)) wl1 (mdS st N np fk fo U1 wl1 wh1)) (nHi (bitI x (7 - i)) wh1 (mdS st N np fk fo U1 wl1 wh1)) no1 ou1).1) ((emF 4 (nLo (bitI x (7 - i)) wl1 (mdS st N np fk fo U1 wl1 wh1)) (nHi (bitI x (7 - i)) wh1 (mdS st N np fk fo U1 wl1 wh1)) no1 ou1).2.1) ((emF 4 (nLo (bitI x (7 - i)) wl1 (mdS st N np fk fo U1 wl1 wh1)) (nHi (bitI x (7 - i)) wh1 (mdS st N np fk fo U1 wl1 wh1)) no1 ou1).2.2.1) ((emF 4 (nLo (bitI x (7 - i)) wl1 (mdS st N np fk fo U1 wl1 wh1)) (nHi (bitI x (7 - i)) wh1 (mdS st N np fk fo U1 wl1 wh1)) no1 ou1).2.2.2) H locs ls hin (by rw [ex_6, vex2]; exact oc_dn i) (octN_s hE1) (by omega) hT (lv_sub hl [1, 2, 0] rfl)
        exact loop_36 (8 - 0 + 1) 0 7 U wl wh no ou H locs ls (by decide) (by decide) rfl (Nat.lt_succ_self _) hT (lv_sub hl [1, 2, 0] rfl)
      · skip
        exact absurd (by decide) h_3
    · skip
      exact absurd (by rw [hb0]; rfl) h_2

set_option maxHeartbeats 400000 in
set_option maxRecDepth 100000 in
theorem c_X10_get_s (l : Launch) (g : GT) (ad : Nat → Nat) (bd : Nat → Nat) (np : Nat) (fk : Nat → Int32) (fn : Nat → Int32) (fo : Nat → Int32) (st : Nat → Int32) (N : Nat) (U : SSt) (V : SSt) (code : Int64) (cp : Nat) (en : Bool) (no : Nat) (ou : Nat → Int32) (wl : Int64) (wh : Int64) (rl : Int64) (rh : Int64) (hen : en = false) : OM (S := Unit) l g yX10_get cX10_get 3 (some .int) ({ frames := 0, cells := 0, slots := 0, locals := 0 } : Room) [.ref (bd 1)] (cmL g ad bd np fk fn fo st N (s_n U) (s_nd U) (s_bg U) (s_f U) (s_fc U) (s_fs U) (s_r0 U) (s_t0 U) (s_f0 U) (s_r1 U) (s_t1 U) (s_f1 U) (s_nr U) (s_fx U) (s_mp U) (s_ml U) (s_cx U) (s_xi U) (s_n V) (s_nd V) (s_bg V) (s_f V) (s_fc V) (s_fs V) (s_r0 V) (s_t0 V) (s_f0 V) (s_r1 V) (s_t1 V) (s_f1 V) (s_nr V) (s_fx V) (s_mp V) (s_ml V) (s_cx V) (s_xi V) code cp en no ou wl wh rl rh) (fun _ => some (.int (-4))) (fun _ => (cmL g ad bd np fk fn fo st N (s_n U) (s_nd U) (s_bg U) (s_f U) (s_fc U) (s_fs U) (s_r0 U) (s_t0 U) (s_f0 U) (s_r1 U) (s_t1 U) (s_f1 U) (s_nr U) (s_fx U) (s_mp U) (s_ml U) (s_cx U) (s_xi U) (s_n V) (s_nd V) (s_bg V) (s_f V) (s_fc V) (s_fs V) (s_r0 V) (s_t0 V) (s_f0 V) (s_r1 V) (s_t1 V) (s_f1 V) (s_nr V) (s_fx V) (s_mp V) (s_ml V) (s_cx V) (s_xi V) code cp en no ou wl wh rl rh)) := by
  refine OM.startQ (by decide) (Nat.le_of_ble_eq_true rfl) ?_
  intro p e s m below meth c A ls Q H locs hQ C hnm hl hT
  have hx := C.x
  have hb := C.b
  have hl : lv_has ls 3 [(0, .ref (bd 1))] := hl
  refine lv_aload_n hx hb dX10_get_0 rfl (lv_at hl 0 rfl) ?_
  refine gX10_60 C hT (q0 := 52) rfl dX10_get_1 ?_
  refine lv_if_ne (tgt := 10) hx hb dX10_get_4 (by decide) (fun h_1 => ?_) (fun h_1 => ?_)
  · skip
    exact absurd (b01_t h_1) (by rw [hen]; decide)
  · skip
    refine lv_bipush (v := (-4)) hx hb dX10_get_7 (by decide) ?_
    exact e_iret C hQ () hT rfl dX10_get_9

set_option maxHeartbeats 400000 in
set_option maxRecDepth 100000 in
theorem c_X10_get_n (l : Launch) (g : GT) (ad : Nat → Nat) (bd : Nat → Nat) (np : Nat) (fk : Nat → Int32) (fn : Nat → Int32) (fo : Nat → Int32) (st : Nat → Int32) (N : Nat) (U : SSt) (V : SSt) (code : Int64) (cp : Nat) (en : Bool) (no : Nat) (ou : Nat → Int32) (wl : Int64) (wh : Int64) (rl : Int64) (rh : Int64) (hen : en = true) (hn : s_n U ≤ s_n V) (hn2 : s_n V ≤ 2000) : OM (S := Unit) l g yX10_get cX10_get 3 (some .int) ({ frames := 0, cells := 0, slots := 0, locals := 0 } : Room) [.ref (bd 1)] (cmL g ad bd np fk fn fo st N (s_n U) (s_nd U) (s_bg U) (s_f U) (s_fc U) (s_fs U) (s_r0 U) (s_t0 U) (s_f0 U) (s_r1 U) (s_t1 U) (s_f1 U) (s_nr U) (s_fx U) (s_mp U) (s_ml U) (s_cx U) (s_xi U) (s_n V) (s_nd V) (s_bg V) (s_f V) (s_fc V) (s_fs V) (s_r0 V) (s_t0 V) (s_f0 V) (s_r1 V) (s_t1 V) (s_f1 V) (s_nr V) (s_fx V) (s_mp V) (s_ml V) (s_cx V) (s_xi V) code cp en no ou wl wh rl rh) (fun _ => some (.int (-2))) (fun _ => (cmL g ad bd np fk fn fo st N (s_n U) (s_nd U) (s_bg U) (s_f U) (s_fc U) (s_fs U) (s_r0 U) (s_t0 U) (s_f0 U) (s_r1 U) (s_t1 U) (s_f1 U) (s_nr U) (s_fx U) (s_mp U) (s_ml U) (s_cx U) (s_xi U) (s_n V) (s_nd V) (s_bg V) (s_f V) (s_fc V) (s_fs V) (s_r0 V) (s_t0 V) (s_f0 V) (s_r1 V) (s_t1 V) (s_f1 V) (s_nr V) (s_fx V) (s_mp V) (s_ml V) (s_cx V) (s_xi V) code cp en no ou wl wh rl rh)) := by
  refine OM.startQ (by decide) (Nat.le_of_ble_eq_true rfl) ?_
  intro p e s m below meth c A ls Q H locs hQ C hnm hl hT
  have hx := C.x
  have hb := C.b
  have hl : lv_has ls 3 [(0, .ref (bd 1))] := hl
  refine lv_aload_n hx hb dX10_get_0 rfl (lv_at hl 0 rfl) ?_
  refine gX10_60 C hT (q0 := 52) rfl dX10_get_1 ?_
  refine lv_if_ne (tgt := 10) hx hb dX10_get_4 (by decide) (fun h_1 => ?_) (fun h_1 => ?_)
  · skip
    refine lv_aload_n hx hb dX10_get_10 rfl (lv_at hl 0 rfl) ?_
    refine gX10_36 C hT (q0 := 52) rfl dX10_get_11 ?_
    refine gX10_64 C hT (q0 := 29) rfl dX10_get_14 ?_
    refine gX10_115 C hT (q0 := 30) rfl dX10_get_17 ?_
    refine lv_aload_n hx hb dX10_get_20 rfl (lv_at hl 0 rfl) ?_
    refine gX10_32 C hT (q0 := 52) rfl dX10_get_21 ?_
    refine gX10_64 C hT (q0 := 0) rfl dX10_get_24 ?_
    refine gX10_115 C hT (q0 := 7) rfl dX10_get_27 ?_
    refine lv_icmp_lt (tgt := 36) hx hb dX10_get_30 (by decide) (fun h_2 => ?_) (fun h_2 => ?_)
    · skip
      exact absurd h_2 (fun q => by have := (nI_ltI (by omega) (by omega)).mp q; omega)
    · skip
      refine lv_bipush (v := (-2)) hx hb dX10_get_33 (by decide) ?_
      exact e_iret C hQ () hT rfl dX10_get_35
  · skip
    exact absurd (b01_f h_1) (by rw [hen]; decide)

set_option maxHeartbeats 400000 in
set_option maxRecDepth 100000 in
theorem c_X10_get (l : Launch) (g : GT) (ad : Nat → Nat) (bd : Nat → Nat) (np : Nat) (fk : Nat → Int32) (fn : Nat → Int32) (fo : Nat → Int32) (st : Nat → Int32) (N : Nat) (U : SSt) (V : SSt) (code : Int64) (cp : Nat) (en : Bool) (no : Nat) (ou : Nat → Int32) (wl : Int64) (wh : Int64) (rl : Int64) (rh : Int64) (rr : Nat) (hG : GI st N rr np fk fn) (hX : SX N np fk V) (hCI : CI rl rh) (hen : en = true) (hn : s_n V < s_n U) (hn2 : s_n U ≤ 2000) (hb0 : s_bg V = 0) (hb1 : s_nd V = 1) (hnl : s_n V + 8 ≤ 2000) (hno : no ≤ 3028) (hcp : cp + 40 < 2 ^ 20) : OM (S := Unit) l g yX10_get cX10_get 3 (some .int) ({ frames := 6, cells := 0, slots := 0, locals := 138 } : Room) [.ref (bd 1)] (cmL g ad bd np fk fn fo st N (s_n U) (s_nd U) (s_bg U) (s_f U) (s_fc U) (s_fs U) (s_r0 U) (s_t0 U) (s_f0 U) (s_r1 U) (s_t1 U) (s_f1 U) (s_nr U) (s_fx U) (s_mp U) (s_ml U) (s_cx U) (s_xi U) (s_n V) (s_nd V) (s_bg V) (s_f V) (s_fc V) (s_fs V) (s_r0 V) (s_t0 V) (s_f0 V) (s_r1 V) (s_t1 V) (s_f1 V) (s_nr V) (s_fx V) (s_mp V) (s_ml V) (s_cx V) (s_xi V) code cp en no ou wl wh rl rh) (fun _ => some (.int (backN (s_f (rdN st N np fk fn fo no ou (V, rl, rh, code, cp) 8).1) (s_n (rdN st N np fk fn fo no ou (V, rl, rh, code, cp) 8).1) 1))) (fun _ => (cmL g ad bd np fk fn fo st N (s_n U) (s_nd U) (s_bg U) (s_f U) (s_fc U) (s_fs U) (s_r0 U) (s_t0 U) (s_f0 U) (s_r1 U) (s_t1 U) (s_f1 U) (s_nr U) (s_fx U) (s_mp U) (s_ml U) (s_cx U) (s_xi U) (s_n ((rdN st N np fk fn fo no ou (V, rl, rh, code, cp) 8).1)) (s_nd ((rdN st N np fk fn fo no ou (V, rl, rh, code, cp) 8).1)) (s_bg ((rdN st N np fk fn fo no ou (V, rl, rh, code, cp) 8).1)) (s_f ((rdN st N np fk fn fo no ou (V, rl, rh, code, cp) 8).1)) (s_fc ((rdN st N np fk fn fo no ou (V, rl, rh, code, cp) 8).1)) (s_fs ((rdN st N np fk fn fo no ou (V, rl, rh, code, cp) 8).1)) (s_r0 ((rdN st N np fk fn fo no ou (V, rl, rh, code, cp) 8).1)) (s_t0 ((rdN st N np fk fn fo no ou (V, rl, rh, code, cp) 8).1)) (s_f0 ((rdN st N np fk fn fo no ou (V, rl, rh, code, cp) 8).1)) (s_r1 ((rdN st N np fk fn fo no ou (V, rl, rh, code, cp) 8).1)) (s_t1 ((rdN st N np fk fn fo no ou (V, rl, rh, code, cp) 8).1)) (s_f1 ((rdN st N np fk fn fo no ou (V, rl, rh, code, cp) 8).1)) (s_nr ((rdN st N np fk fn fo no ou (V, rl, rh, code, cp) 8).1)) (s_fx ((rdN st N np fk fn fo no ou (V, rl, rh, code, cp) 8).1)) (s_mp ((rdN st N np fk fn fo no ou (V, rl, rh, code, cp) 8).1)) (s_ml ((rdN st N np fk fn fo no ou (V, rl, rh, code, cp) 8).1)) (s_cx ((rdN st N np fk fn fo no ou (V, rl, rh, code, cp) 8).1)) (s_xi ((rdN st N np fk fn fo no ou (V, rl, rh, code, cp) 8).1)) ((rdN st N np fk fn fo no ou (V, rl, rh, code, cp) 8).2.2.2.1) ((rdN st N np fk fn fo no ou (V, rl, rh, code, cp) 8).2.2.2.2) en no ou wl wh ((rdN st N np fk fn fo no ou (V, rl, rh, code, cp) 8).2.1) ((rdN st N np fk fn fo no ou (V, rl, rh, code, cp) 8).2.2.1))) := by
  refine OM.startQ (by decide) (Nat.le_of_ble_eq_true rfl) ?_
  intro p e s m below meth c A ls Q H locs hQ C hnm hl hT
  have hx := C.x
  have hb := C.b
  have hl : lv_has ls 3 [(0, .ref (bd 1))] := hl
  have hD0 : DI (N := N) (np := np) (fk := fk) (V, rl, rh, code, cp) (s_n V) cp := ⟨hX, hCI, Nat.le_refl _, Nat.le_refl _⟩
  refine lv_aload_n hx hb dX10_get_0 rfl (lv_at hl 0 rfl) ?_
  refine gX10_60 C hT (q0 := 52) rfl dX10_get_1 ?_
  refine lv_if_ne (tgt := 10) hx hb dX10_get_4 (by decide) (fun h_1 => ?_) (fun h_1 => ?_)
  · skip
    refine lv_aload_n hx hb dX10_get_10 rfl (lv_at hl 0 rfl) ?_
    refine gX10_36 C hT (q0 := 52) rfl dX10_get_11 ?_
    refine gX10_64 C hT (q0 := 29) rfl dX10_get_14 ?_
    refine gX10_115 C hT (q0 := 30) rfl dX10_get_17 ?_
    refine lv_aload_n hx hb dX10_get_20 rfl (lv_at hl 0 rfl) ?_
    refine gX10_32 C hT (q0 := 52) rfl dX10_get_21 ?_
    refine gX10_64 C hT (q0 := 0) rfl dX10_get_24 ?_
    refine gX10_115 C hT (q0 := 7) rfl dX10_get_27 ?_
    refine lv_icmp_lt (tgt := 36) hx hb dX10_get_30 (by decide) (fun h_2 => ?_) (fun h_2 => ?_)
    · skip
      refine lv_iconst (v := 0) hx hb dX10_get_36 (by decide) ?_
      refine lv_istore_n (lv' := [(1, .int 0), (0, .ref (bd 1))]) hx hb dX10_get_37 rfl hl (by decide) rfl (fun ls hl => ?_)
      refine lv_iconst (v := 0) hx hb dX10_get_38 (by decide) ?_
      refine lv_istore_n (lv' := [(2, .int 0), (1, .int 0), (0, .ref (bd 1))]) hx hb dX10_get_39 rfl hl (by decide) rfl (fun ls hl => ?_)
      have loop_40 : ∀ (fu : Nat) (i : Nat) (vx1 : Int32) (vx2 : Int32) (V1 : SSt) (rl1 : Int64) (rh1 : Int64) (code1 : Int64) (cp1 : Nat) (H : Heap) (locs : List Loc) (ls : Array Slot) (hli : i ≤ 8) (vex2 : vx2 = nI i) (vex1 : vx1 = nI (rdB st N np fk fn fo no ou (V, rl, rh, code, cp) i)) (hE1 : rdN st N np fk fn fo no ou (V, rl, rh, code, cp) i = (V1, rl1, rh1, code1, cp1)), 8 - i < fu → Wd g A s (cmL g ad bd np fk fn fo st N (s_n U) (s_nd U) (s_bg U) (s_f U) (s_fc U) (s_fs U) (s_r0 U) (s_t0 U) (s_f0 U) (s_r1 U) (s_t1 U) (s_f1 U) (s_nr U) (s_fx U) (s_mp U) (s_ml U) (s_cx U) (s_xi U) (s_n V1) (s_nd V1) (s_bg V1) (s_f V1) (s_fc V1) (s_fs V1) (s_r0 V1) (s_t0 V1) (s_f0 V1) (s_r1 V1) (s_t1 V1) (s_f1 V1) (s_nr V1) (s_fx V1) (s_mp V1) (s_ml V1) (s_cx V1) (s_xi V1) code1 cp1 en no ou wl wh rl1 rh1) H locs → lv_has ls 3 [(0, .ref (bd 1)), (1, .int vx1), (2, .int vx2)] → W p l e ({ frames := 6, cells := 0, slots := 0, locals := 138 } : Room) s m ([.ref (bd 1)] : List Value).toArray below meth c H locs 0 0 Q (F0 m 40 ls []) := by
        intro fu
        induction fu with
        | zero => intro i vx1 vx2 V1 rl1 rh1 code1 cp1 H locs ls hli vex2 vex1 hE1 hm; exact absurd hm (Nat.not_lt_zero _)
        | succ fu ih =>
          intro i vx1 vx2 V1 rl1 rh1 code1 cp1 H locs ls hli vex2 vex1 hE1 hm hT hl
          refine lv_iload_n hx hb dX10_get_40 rfl (lv_at hl 2 rfl) ?_
          refine lv_bipush (v := 8) hx hb dX10_get_41 (by decide) ?_
          refine lv_icmp_ge (tgt := 69) hx hb dX10_get_43 (by decide) (fun h_3 => ?_) (fun h_3 => ?_)
          · skip
            have hin := lp_end (n := 8) vex2 (by decide) hli h_3
            rw [hin] at hE1 vex1
            refine lv_iload_n hx hb dX10_get_69 rfl (lv_at hl 1 rfl) ?_
            exact e_iret C hQ () (by rw [hE1]; exact hT) (by rw [vex1, (rdN_8 hb0 hb1).2.1]) dX10_get_70
          · skip
            have hin := lp_go (n := 8) vex2 (by decide) hli h_3
            have hI1 := DI_rd (fo := fo) (no := no) (ou := ou) hG hD0 i (by omega)
            rw [hE1] at hI1
            have hI9 : SI N V1 := hI1.1.1
            have hn9 : s_n V1 ≤ s_n V + i := hI1.2.2.1
            have hr9 : cp1 ≤ cp + 4 * i := hI1.2.2.2
            have hB9 : rdB st N np fk fn fo no ou (V, rl, rh, code, cp) i < 256 := Nat.lt_of_lt_of_le (rdB_lt _ i) (Nat.pow_le_pow_right (i := i) (j := 8) (by decide) hli)
            refine lv_iload_n hx hb dX10_get_46 rfl (lv_at hl 1 rfl) ?_
            refine W.eq (g2 := F0 m 47 ls [.int (nI (rdB st N np fk fn fo no ou (V, rl, rh, code, cp) i))]) (congrArg (fun z => F0 m 47 ls (.int z :: [])) (vex1)) ?_
            refine lv_iconst (v := 1) hx hb dX10_get_47 (by decide) ?_
            refine lv_ishl hx hb dX10_get_48 ?_
            refine lv_aload_n hx hb dX10_get_49 rfl (lv_at hl 0 rfl) ?_
            have hM := c_X10_readBit l g ad bd np fk fn fo st N U V1 code1 cp1 en no ou wl wh rl1 rh1 rr hG hI9 hno (by omega) (by omega)
            refine r_callW C hT (runVW (rm := ({ frames := 5, cells := 0, slots := 0, locals := 114 } : Room)) (As := []) (n := 0) (q1 := 52) (rest := [.int ((nI (rdB st N np fk fn fo no ou (V, rl, rh, code, cp) i)) <<< (1 &&& 31))]) C hT hM k524 k526 s8 k1 k527 (by decide +kernel) rfl rfl rfl rfl (Nat.le_of_ble_eq_true rfl) hl.1 ⟨Nat.le_of_ble_eq_true rfl, Nat.le_of_ble_eq_true rfl⟩ ⟨Nat.le_of_ble_eq_true rfl, Nat.le_of_ble_eq_true rfl⟩ dX10_get_50) (fun u H locs hT => ?_)
            have hT : Wd g A s (cmL g ad bd np fk fn fo st N (s_n U) (s_nd U) (s_bg U) (s_f U) (s_fc U) (s_fs U) (s_r0 U) (s_t0 U) (s_f0 U) (s_r1 U) (s_t1 U) (s_f1 U) (s_nr U) (s_fx U) (s_mp U) (s_ml U) (s_cx U) (s_xi U) (if (s_bg V1) = 7 then (s_n V1) + 1 else (s_n V1)) (if (s_bg V1) = 7 then 1 else 2 * (s_nd V1) + bitN (rdS st N np fk fo V1 rl1 rh1 code1)) (if (s_bg V1) = 7 then 0 else (s_bg V1) + 1) (if (s_bg V1) = 7 then lfS (rdS st N np fk fo V1 rl1 rh1 code1) V1 else (s_f V1)) (lcS N np fk fo V1 (rdS st N np fk fo V1 rl1 rh1 code1)) (lsS N np fk fo V1 (rdS st N np fk fo V1 rl1 rh1 code1)) (nI (9 * (s_nd V1))) (t0S st N np fk fo V1) (lw0S st N np fk fo V1 (rdS st N np fk fo V1 rl1 rh1 code1)) (nI (9 * lbN (s_f V1) (s_n V1))) (t1S st N np fk fo V1) (lw1S st N np fk fo V1 (rdS st N np fk fo V1 rl1 rh1 code1)) (nI (nearS st N np fk fo V1)) (lxS st N np fk fo V1 (rdS st N np fk fo V1 rl1 rh1 code1)) (if (s_bg V1) = 7 then bgP (lfS (rdS st N np fk fo V1 rl1 rh1 code1) V1) ((s_n V1) + 1) fk fn (s_mp V1) (s_ml V1) np else (s_mp V1)) (if (s_bg V1) = 7 then bgL (lfS (rdS st N np fk fo V1 rl1 rh1 code1) V1) ((s_n V1) + 1) fk fn (s_mp V1) (s_ml V1) np else (s_ml V1)) (if (s_bg V1) = 7 then bgC (lfS (rdS st N np fk fo V1 rl1 rh1 code1) V1) ((s_n V1) + 1) fk fn (s_cx V1) np else (s_cx V1)) (xiS st N np fk fo V1) ((rdF no ou 4 (nLo (rdS st N np fk fo V1 rl1 rh1 code1) rl1 (mdS st N np fk fo V1 rl1 rh1)) (nHi (rdS st N np fk fo V1 rl1 rh1 code1) rh1 (mdS st N np fk fo V1 rl1 rh1)) code1 cp1).2.2.1) ((rdF no ou 4 (nLo (rdS st N np fk fo V1 rl1 rh1 code1) rl1 (mdS st N np fk fo V1 rl1 rh1)) (nHi (rdS st N np fk fo V1 rl1 rh1 code1) rh1 (mdS st N np fk fo V1 rl1 rh1)) code1 cp1).2.2.2) en no ou wl wh ((rdF no ou 4 (nLo (rdS st N np fk fo V1 rl1 rh1 code1) rl1 (mdS st N np fk fo V1 rl1 rh1)) (nHi (rdS st N np fk fo V1 rl1 rh1 code1) rh1 (mdS st N np fk fo V1 rl1 rh1)) code1 cp1).1) ((rdF no ou 4 (nLo (rdS st N np fk fo V1 rl1 rh1 code1) rl1 (mdS st N np fk fo V1 rl1 rh1)) (nHi (rdS st N np fk fo V1 rl1 rh1 code1) rh1 (mdS st N np fk fo V1 rl1 rh1)) code1 cp1).2.1)) H locs := hT
            refine W.eq (g2 := F0 m 53 ls [.int (rdS st N np fk fo V1 rl1 rh1 code1), .int ((nI (rdB st N np fk fn fo no ou (V, rl, rh, code, cp) i)) <<< (1 &&& 31))]) rfl ?_
            have hT : Wd g A s (cmL g ad bd np fk fn fo st N (s_n U) (s_nd U) (s_bg U) (s_f U) (s_fc U) (s_fs U) (s_r0 U) (s_t0 U) (s_f0 U) (s_r1 U) (s_t1 U) (s_f1 U) (s_nr U) (s_fx U) (s_mp U) (s_ml U) (s_cx U) (s_xi U) (s_n (stepS st N np fk fn fo V1 (rdS st N np fk fo V1 rl1 rh1 code1))) (s_nd (stepS st N np fk fn fo V1 (rdS st N np fk fo V1 rl1 rh1 code1))) (s_bg (stepS st N np fk fn fo V1 (rdS st N np fk fo V1 rl1 rh1 code1))) (s_f (stepS st N np fk fn fo V1 (rdS st N np fk fo V1 rl1 rh1 code1))) (s_fc (stepS st N np fk fn fo V1 (rdS st N np fk fo V1 rl1 rh1 code1))) (s_fs (stepS st N np fk fn fo V1 (rdS st N np fk fo V1 rl1 rh1 code1))) (s_r0 (stepS st N np fk fn fo V1 (rdS st N np fk fo V1 rl1 rh1 code1))) (s_t0 (stepS st N np fk fn fo V1 (rdS st N np fk fo V1 rl1 rh1 code1))) (s_f0 (stepS st N np fk fn fo V1 (rdS st N np fk fo V1 rl1 rh1 code1))) (s_r1 (stepS st N np fk fn fo V1 (rdS st N np fk fo V1 rl1 rh1 code1))) (s_t1 (stepS st N np fk fn fo V1 (rdS st N np fk fo V1 rl1 rh1 code1))) (s_f1 (stepS st N np fk fn fo V1 (rdS st N np fk fo V1 rl1 rh1 code1))) (s_nr (stepS st N np fk fn fo V1 (rdS st N np fk fo V1 rl1 rh1 code1))) (s_fx (stepS st N np fk fn fo V1 (rdS st N np fk fo V1 rl1 rh1 code1))) (s_mp (stepS st N np fk fn fo V1 (rdS st N np fk fo V1 rl1 rh1 code1))) (s_ml (stepS st N np fk fn fo V1 (rdS st N np fk fo V1 rl1 rh1 code1))) (s_cx (stepS st N np fk fn fo V1 (rdS st N np fk fo V1 rl1 rh1 code1))) (s_xi (stepS st N np fk fn fo V1 (rdS st N np fk fo V1 rl1 rh1 code1))) ((rdF no ou 4 (nLo (rdS st N np fk fo V1 rl1 rh1 code1) rl1 (mdS st N np fk fo V1 rl1 rh1)) (nHi (rdS st N np fk fo V1 rl1 rh1 code1) rh1 (mdS st N np fk fo V1 rl1 rh1)) code1 cp1).2.2.1) ((rdF no ou 4 (nLo (rdS st N np fk fo V1 rl1 rh1 code1) rl1 (mdS st N np fk fo V1 rl1 rh1)) (nHi (rdS st N np fk fo V1 rl1 rh1 code1) rh1 (mdS st N np fk fo V1 rl1 rh1)) code1 cp1).2.2.2) en no ou wl wh ((rdF no ou 4 (nLo (rdS st N np fk fo V1 rl1 rh1 code1) rl1 (mdS st N np fk fo V1 rl1 rh1)) (nHi (rdS st N np fk fo V1 rl1 rh1 code1) rh1 (mdS st N np fk fo V1 rl1 rh1)) code1 cp1).1) ((rdF no ou 4 (nLo (rdS st N np fk fo V1 rl1 rh1 code1) rl1 (mdS st N np fk fo V1 rl1 rh1)) (nHi (rdS st N np fk fo V1 rl1 rh1 code1) rh1 (mdS st N np fk fo V1 rl1 rh1)) code1 cp1).2.1)) H locs := hT.eq (by rw [step_n, step_nd, step_bg, step_f, step_fc, step_fs, step_r0, step_t0, step_f0, step_r1, step_t1, step_f1, step_nr, step_fx, step_mp, step_ml, step_cx, step_xi])
            refine r_ite (ls := ls) (J := 61) (a1 := 0) (a2 := 1) (rest := [.int ((nI (rdB st N np fk fn fo no ou (V, rl, rh, code, cp) i)) <<< (1 &&& 31))]) (lv_if_eq (tgt := 60) hx hb dX10_get_53 (by decide)) (fun h_4 kont => ?_) (fun h_4 kont => ?_) ?_
            · skip
              refine lv_iconst (v := 0) hx hb dX10_get_60 (by decide) ?_
              exact kont
            · skip
              refine lv_iconst (v := 1) hx hb dX10_get_56 (by decide) ?_
              refine lv_goto (tgt := 61) hx hb dX10_get_57 (by decide) ?_
              exact kont
            refine lv_ior hx hb dX10_get_61 ?_
            refine W.eq (g2 := F0 m 62 ls [.int (nI (2 * rdB st N np fk fn fo no ou (V, rl, rh, code, cp) i + bitN (rdS st N np fk fo V1 rl1 rh1 code1)))]) (congrArg (fun z => F0 m 62 ls (.int z :: [])) (node_bit hB9)) ?_
            refine lv_istore_n (lv' := [(1, .int (nI (2 * rdB st N np fk fn fo no ou (V, rl, rh, code, cp) i + bitN (rdS st N np fk fo V1 rl1 rh1 code1)))), (0, .ref (bd 1)), (2, .int vx2)]) hx hb dX10_get_62 rfl hl (by decide) rfl (fun ls hl => ?_)
            obtain ⟨x_5, ex_5⟩ : ∃ y : Int32, y = vx2 + 1 := ⟨_, rfl⟩
            refine lv_iinc (v := x_5) (lv' := [(2, .int x_5), (1, .int (nI (2 * rdB st N np fk fn fo no ou (V, rl, rh, code, cp) i + bitN (rdS st N np fk fo V1 rl1 rh1 code1)))), (0, .ref (bd 1))]) hx hb dX10_get_63 hl (k := 2) rfl (by rw [ex_5]; rfl) (by decide) rfl (fun ls hl => ?_)
            refine lv_goto (tgt := 40) hx hb dX10_get_66 (by decide) ?_
            exact ih (i + 1) (nI (2 * rdB st N np fk fn fo no ou (V, rl, rh, code, cp) i + bitN (rdS st N np fk fo V1 rl1 rh1 code1))) x_5 (stepS st N np fk fn fo V1 (rdS st N np fk fo V1 rl1 rh1 code1)) ((rdF no ou 4 (nLo (rdS st N np fk fo V1 rl1 rh1 code1) rl1 (mdS st N np fk fo V1 rl1 rh1)) (nHi (rdS st N np fk fo V1 rl1 rh1 code1) rh1 (mdS st N np fk fo V1 rl1 rh1)) code1 cp1).1) ((rdF no ou 4 (nLo (rdS st N np fk fo V1 rl1 rh1 code1) rl1 (mdS st N np fk fo V1 rl1 rh1)) (nHi (rdS st N np fk fo V1 rl1 rh1 code1) rh1 (mdS st N np fk fo V1 rl1 rh1)) code1 cp1).2.1) ((rdF no ou 4 (nLo (rdS st N np fk fo V1 rl1 rh1 code1) rl1 (mdS st N np fk fo V1 rl1 rh1)) (nHi (rdS st N np fk fo V1 rl1 rh1 code1) rh1 (mdS st N np fk fo V1 rl1 rh1)) code1 cp1).2.2.1) ((rdF no ou 4 (nLo (rdS st N np fk fo V1 rl1 rh1 code1) rl1 (mdS st N np fk fo V1 rl1 rh1)) (nHi (rdS st N np fk fo V1 rl1 rh1 code1) rh1 (mdS st N np fk fo V1 rl1 rh1)) code1 cp1).2.2.2) H locs ls hin (by rw [ex_5, vex2]; exact nI_1 i) (by rw [rdB_t hE1]) (rdN_t hE1) (by omega) hT (lv_sub hl [2, 1, 0] rfl)
      exact loop_40 (8 - 0 + 1) 0 0 0 V rl rh code cp H locs ls (by decide) rfl rfl rfl (Nat.lt_succ_self _) hT (lv_sub hl [2, 1, 0] rfl)
    · skip
      exact absurd (nI_lt hn (by omega)) h_2
  · skip
    exact absurd (b01_f h_1) (by rw [hen]; decide)

set_option maxHeartbeats 400000 in
set_option maxRecDepth 100000 in
theorem c_X10_slot_n (l : Launch) (g : GT) (ad : Nat → Nat) (bd : Nat → Nat) (np : Nat) (fk : Nat → Int32) (fn : Nat → Int32) (fo : Nat → Int32) (st : Nat → Int32) (N : Nat) (U : SSt) (V : SSt) (code : Int64) (cp : Nat) (en : Bool) (no : Nat) (ou : Nat → Int32) (wl : Int64) (wh : Int64) (rl : Int64) (rh : Int64) (sd : Int32) (i : Int32) (hs0 : ¬ sd = 0) (hs1 : ¬ sd = 1) : OM (S := Unit) l g yX10_slot cX10_slot 4 (some .int) ({ frames := 1, cells := 0, slots := 0, locals := 21 } : Room) [.ref (bd 1), .int sd, .int i] (cmL g ad bd np fk fn fo st N (s_n U) (s_nd U) (s_bg U) (s_f U) (s_fc U) (s_fs U) (s_r0 U) (s_t0 U) (s_f0 U) (s_r1 U) (s_t1 U) (s_f1 U) (s_nr U) (s_fx U) (s_mp U) (s_ml U) (s_cx U) (s_xi U) (s_n V) (s_nd V) (s_bg V) (s_f V) (s_fc V) (s_fs V) (s_r0 V) (s_t0 V) (s_f0 V) (s_r1 V) (s_t1 V) (s_f1 V) (s_nr V) (s_fx V) (s_mp V) (s_ml V) (s_cx V) (s_xi V) code cp en no ou wl wh rl rh) (fun _ => some (.int (-1))) (fun _ => (cmL g ad bd np fk fn fo st N (s_n U) (s_nd U) (s_bg U) (s_f U) (s_fc U) (s_fs U) (s_r0 U) (s_t0 U) (s_f0 U) (s_r1 U) (s_t1 U) (s_f1 U) (s_nr U) (s_fx U) (s_mp U) (s_ml U) (s_cx U) (s_xi U) (s_n V) (s_nd V) (s_bg V) (s_f V) (s_fc V) (s_fs V) (s_r0 V) (s_t0 V) (s_f0 V) (s_r1 V) (s_t1 V) (s_f1 V) (s_nr V) (s_fx V) (s_mp V) (s_ml V) (s_cx V) (s_xi V) code cp en no ou wl wh rl rh)) := by
  refine OM.startQ (by decide) (Nat.le_of_ble_eq_true rfl) ?_
  intro p e s m below meth c A ls Q H locs hQ C hnm hl hT
  have hx := C.x
  have hb := C.b
  have hl : lv_has ls 4 [(0, .ref (bd 1)), (1, .int sd), (2, .int i)] := hl
  refine lv_aload_n hx hb dX10_slot_0 rfl (lv_at hl 0 rfl) ?_
  refine lv_iload_n hx hb dX10_slot_1 rfl (lv_at hl 1 rfl) ?_
  have hM := c_X10_sideOf_n l g ad bd np fk fn fo st N U V code cp en no ou wl wh rl rh sd (by first | assumption | omega) (by first | assumption | omega)
  refine r_callRO (js := [0, 1, 2, 3, 4, 5, 6, 7, 8, 9, 10, 11, 12, 13, 14, 15, 16, 17, 18, 19, 20, 21, 22, 23, 24, 25, 26, 27, 28, 29, 30, 31, 32, 33, 34, 35, 36, 37, 38, 39, 40, 41, 42, 43, 44, 45, 46, 47, 48, 49, 50, 51, 52, 53, 54, 55, 56]) C hT (runV (js := [0, 1, 2, 3, 4, 5, 6, 7, 8, 9, 10, 11, 12, 13, 14, 15, 16, 17, 18, 19, 20, 21, 22, 23, 24, 25, 26, 27, 28, 29, 30, 31, 32, 33, 34, 35, 36, 37, 38, 39, 40, 41, 42, 43, 44, 45, 46, 47, 48, 49, 50, 51, 52, 53, 54, 55, 56]) (rm := ({ frames := 0, cells := 0, slots := 0, locals := 0 } : Room)) (As := [.int sd]) (n := 1) (q1 := 52) (rest := []) C hT hM rfl rfl k572 k574 s9 k1 k575 (by decide +kernel) rfl rfl rfl rfl (Nat.le_of_ble_eq_true rfl) hl.1 ⟨Nat.le_of_ble_eq_true rfl, Nat.le_of_ble_eq_true rfl⟩ ⟨Nat.le_of_ble_eq_true rfl, Nat.le_of_ble_eq_true rfl⟩ dX10_slot_2) rfl rfl (fun u H locs hT => ?_)
  refine W.eq (g2 := F0 m 5 ls [.null]) rfl ?_
  refine lv_astore_nN (lv' := [(3, .null), (0, .ref (bd 1)), (1, .int sd), (2, .int i)]) hx hb dX10_slot_5 rfl hl (by decide) rfl (fun ls hl => ?_)
  refine lv_aload_nN hx hb dX10_slot_6 rfl (lv_at hl 0 rfl) ?_
  refine lv_ifnonnullN hx hb dX10_slot_7 ?_
  refine lv_iconst (v := (-1)) hx hb dX10_slot_10 (by decide) ?_
  exact e_iret C hQ () hT rfl dX10_slot_11

set_option maxHeartbeats 400000 in
set_option maxRecDepth 100000 in
theorem c_X10_slot_0 (l : Launch) (g : GT) (ad : Nat → Nat) (bd : Nat → Nat) (np : Nat) (fk : Nat → Int32) (fn : Nat → Int32) (fo : Nat → Int32) (st : Nat → Int32) (N : Nat) (U : SSt) (V : SSt) (code : Int64) (cp : Nat) (en : Bool) (no : Nat) (ou : Nat → Int32) (wl : Int64) (wh : Int64) (rl : Int64) (rh : Int64) (sd : Int32) (i : Int32) (hN31 : N < 2 ^ 31) (hsd : sd = 0) (hr : inR i N = true) : OM (S := Unit) l g yX10_slot cX10_slot 4 (some .int) ({ frames := 1, cells := 0, slots := 0, locals := 21 } : Room) [.ref (bd 1), .int sd, .int i] (cmL g ad bd np fk fn fo st N (s_n U) (s_nd U) (s_bg U) (s_f U) (s_fc U) (s_fs U) (s_r0 U) (s_t0 U) (s_f0 U) (s_r1 U) (s_t1 U) (s_f1 U) (s_nr U) (s_fx U) (s_mp U) (s_ml U) (s_cx U) (s_xi U) (s_n V) (s_nd V) (s_bg V) (s_f V) (s_fc V) (s_fs V) (s_r0 V) (s_t0 V) (s_f0 V) (s_r1 V) (s_t1 V) (s_f1 V) (s_nr V) (s_fx V) (s_mp V) (s_ml V) (s_cx V) (s_xi V) code cp en no ou wl wh rl rh) (fun _ => some (.int (s_fc U i.toNatClampNeg))) (fun _ => (cmL g ad bd np fk fn fo st N (s_n U) (s_nd U) (s_bg U) (s_f U) (s_fc U) (s_fs U) (s_r0 U) (s_t0 U) (s_f0 U) (s_r1 U) (s_t1 U) (s_f1 U) (s_nr U) (s_fx U) (s_mp U) (s_ml U) (s_cx U) (s_xi U) (s_n V) (s_nd V) (s_bg V) (s_f V) (s_fc V) (s_fs V) (s_r0 V) (s_t0 V) (s_f0 V) (s_r1 V) (s_t1 V) (s_f1 V) (s_nr V) (s_fx V) (s_mp V) (s_ml V) (s_cx V) (s_xi V) code cp en no ou wl wh rl rh)) := by
  refine OM.startQ (by decide) (Nat.le_of_ble_eq_true rfl) ?_
  intro p e s m below meth c A ls Q H locs hQ C hnm hl hT
  have hx := C.x
  have hb := C.b
  have hl : lv_has ls 4 [(0, .ref (bd 1)), (1, .int sd), (2, .int i)] := hl
  refine lv_aload_n hx hb dX10_slot_0 rfl (lv_at hl 0 rfl) ?_
  refine lv_iload_n hx hb dX10_slot_1 rfl (lv_at hl 1 rfl) ?_
  have hM := c_X10_sideOf_0 l g ad bd np fk fn fo st N U V code cp en no ou wl wh rl rh sd (by first | assumption | omega)
  refine r_callRO (js := [0, 1, 2, 3, 4, 5, 6, 7, 8, 9, 10, 11, 12, 13, 14, 15, 16, 17, 18, 19, 20, 21, 22, 23, 24, 25, 26, 27, 28, 29, 30, 31, 32, 33, 34, 35, 36, 37, 38, 39, 40, 41, 42, 43, 44, 45, 46, 47, 48, 49, 50, 51, 52, 53, 54, 55, 56]) C hT (runV (js := [0, 1, 2, 3, 4, 5, 6, 7, 8, 9, 10, 11, 12, 13, 14, 15, 16, 17, 18, 19, 20, 21, 22, 23, 24, 25, 26, 27, 28, 29, 30, 31, 32, 33, 34, 35, 36, 37, 38, 39, 40, 41, 42, 43, 44, 45, 46, 47, 48, 49, 50, 51, 52, 53, 54, 55, 56]) (rm := ({ frames := 0, cells := 0, slots := 0, locals := 0 } : Room)) (As := [.int sd]) (n := 1) (q1 := 52) (rest := []) C hT hM rfl rfl k572 k574 s9 k1 k575 (by decide +kernel) rfl rfl rfl rfl (Nat.le_of_ble_eq_true rfl) hl.1 ⟨Nat.le_of_ble_eq_true rfl, Nat.le_of_ble_eq_true rfl⟩ ⟨Nat.le_of_ble_eq_true rfl, Nat.le_of_ble_eq_true rfl⟩ dX10_slot_2) rfl rfl (fun u H locs hT => ?_)
  refine W.eq (g2 := F0 m 5 ls [.ref (ad 0)]) rfl ?_
  refine lv_astore_n (lv' := [(3, .ref (ad 0)), (0, .ref (bd 1)), (1, .int sd), (2, .int i)]) hx hb dX10_slot_5 rfl hl (by decide) rfl (fun ls hl => ?_)
  refine lv_aload_n hx hb dX10_slot_6 rfl (lv_at hl 0 rfl) ?_
  refine lv_ifnonnull (tgt := 12) hx hb dX10_slot_7 (by decide) ?_
  refine lv_aload_n hx hb dX10_slot_12 rfl (lv_at hl 0 rfl) ?_
  refine gX10_156 C hT (q0 := 0) rfl dX10_slot_13 ?_
  refine lv_iload_n hx hb dX10_slot_16 rfl (lv_at hl 3 rfl) ?_
  have hM := c_X9_has l g (ad 9) (ad 10) (ad 11) N (s_fc U) i
  refine r_callRO (js := [9, 10]) C hT (runV (js := [9, 10]) (rm := ({ frames := 0, cells := 0, slots := 0, locals := 0 } : Room)) (As := [.int i]) (n := 1) (q1 := 0) (rest := []) C hT hM rfl rfl k594 k478 k479 k11 k480 (by decide +kernel) rfl rfl rfl rfl (Nat.le_of_ble_eq_true rfl) hl.1 ⟨Nat.le_of_ble_eq_true rfl, Nat.le_of_ble_eq_true rfl⟩ ⟨Nat.le_of_ble_eq_true rfl, Nat.le_of_ble_eq_true rfl⟩ dX10_slot_17) rfl rfl (fun u H locs hT => ?_)
  refine W.eq (g2 := F0 m 20 ls [.int (b01 (inR i N))]) rfl ?_
  refine lv_if_ne (tgt := 33) hx hb dX10_slot_20 (by decide) (fun h_1 => ?_) (fun h_1 => ?_)
  · skip
    obtain ⟨j, hj, vej⟩ := inR_of hN31 hr
    refine lv_aload_n hx hb dX10_slot_33 rfl (lv_at hl 0 rfl) ?_
    refine gX10_156 C hT (q0 := 0) rfl dX10_slot_34 ?_
    refine gX10_170 C hT (q0 := 9) rfl dX10_slot_37 ?_
    refine lv_iload_n hx hb dX10_slot_40 rfl (lv_at hl 3 rfl) ?_
    refine r_iald C hT (q0 := 10) rfl j vej hj (by omega) dX10_slot_41 ?_
    exact e_iret C hQ () hT (by rw [vej, nI_clamp (by omega)]) dX10_slot_42
  · skip
    exact absurd (b01_f h_1) (by rw [hr]; decide)

set_option maxHeartbeats 400000 in
set_option maxRecDepth 100000 in
theorem c_X10_slot_1 (l : Launch) (g : GT) (ad : Nat → Nat) (bd : Nat → Nat) (np : Nat) (fk : Nat → Int32) (fn : Nat → Int32) (fo : Nat → Int32) (st : Nat → Int32) (N : Nat) (U : SSt) (V : SSt) (code : Int64) (cp : Nat) (en : Bool) (no : Nat) (ou : Nat → Int32) (wl : Int64) (wh : Int64) (rl : Int64) (rh : Int64) (sd : Int32) (i : Int32) (hN31 : N < 2 ^ 31) (hsd : sd = 1) (hr : inR i N = true) : OM (S := Unit) l g yX10_slot cX10_slot 4 (some .int) ({ frames := 1, cells := 0, slots := 0, locals := 21 } : Room) [.ref (bd 1), .int sd, .int i] (cmL g ad bd np fk fn fo st N (s_n U) (s_nd U) (s_bg U) (s_f U) (s_fc U) (s_fs U) (s_r0 U) (s_t0 U) (s_f0 U) (s_r1 U) (s_t1 U) (s_f1 U) (s_nr U) (s_fx U) (s_mp U) (s_ml U) (s_cx U) (s_xi U) (s_n V) (s_nd V) (s_bg V) (s_f V) (s_fc V) (s_fs V) (s_r0 V) (s_t0 V) (s_f0 V) (s_r1 V) (s_t1 V) (s_f1 V) (s_nr V) (s_fx V) (s_mp V) (s_ml V) (s_cx V) (s_xi V) code cp en no ou wl wh rl rh) (fun _ => some (.int (s_fc V i.toNatClampNeg))) (fun _ => (cmL g ad bd np fk fn fo st N (s_n U) (s_nd U) (s_bg U) (s_f U) (s_fc U) (s_fs U) (s_r0 U) (s_t0 U) (s_f0 U) (s_r1 U) (s_t1 U) (s_f1 U) (s_nr U) (s_fx U) (s_mp U) (s_ml U) (s_cx U) (s_xi U) (s_n V) (s_nd V) (s_bg V) (s_f V) (s_fc V) (s_fs V) (s_r0 V) (s_t0 V) (s_f0 V) (s_r1 V) (s_t1 V) (s_f1 V) (s_nr V) (s_fx V) (s_mp V) (s_ml V) (s_cx V) (s_xi V) code cp en no ou wl wh rl rh)) := by
  refine OM.startQ (by decide) (Nat.le_of_ble_eq_true rfl) ?_
  intro p e s m below meth c A ls Q H locs hQ C hnm hl hT
  have hx := C.x
  have hb := C.b
  have hl : lv_has ls 4 [(0, .ref (bd 1)), (1, .int sd), (2, .int i)] := hl
  refine lv_aload_n hx hb dX10_slot_0 rfl (lv_at hl 0 rfl) ?_
  refine lv_iload_n hx hb dX10_slot_1 rfl (lv_at hl 1 rfl) ?_
  have hM := c_X10_sideOf_1 l g ad bd np fk fn fo st N U V code cp en no ou wl wh rl rh sd (by first | assumption | omega)
  refine r_callRO (js := [0, 1, 2, 3, 4, 5, 6, 7, 8, 9, 10, 11, 12, 13, 14, 15, 16, 17, 18, 19, 20, 21, 22, 23, 24, 25, 26, 27, 28, 29, 30, 31, 32, 33, 34, 35, 36, 37, 38, 39, 40, 41, 42, 43, 44, 45, 46, 47, 48, 49, 50, 51, 52, 53, 54, 55, 56]) C hT (runV (js := [0, 1, 2, 3, 4, 5, 6, 7, 8, 9, 10, 11, 12, 13, 14, 15, 16, 17, 18, 19, 20, 21, 22, 23, 24, 25, 26, 27, 28, 29, 30, 31, 32, 33, 34, 35, 36, 37, 38, 39, 40, 41, 42, 43, 44, 45, 46, 47, 48, 49, 50, 51, 52, 53, 54, 55, 56]) (rm := ({ frames := 0, cells := 0, slots := 0, locals := 0 } : Room)) (As := [.int sd]) (n := 1) (q1 := 52) (rest := []) C hT hM rfl rfl k572 k574 s9 k1 k575 (by decide +kernel) rfl rfl rfl rfl (Nat.le_of_ble_eq_true rfl) hl.1 ⟨Nat.le_of_ble_eq_true rfl, Nat.le_of_ble_eq_true rfl⟩ ⟨Nat.le_of_ble_eq_true rfl, Nat.le_of_ble_eq_true rfl⟩ dX10_slot_2) rfl rfl (fun u H locs hT => ?_)
  refine W.eq (g2 := F0 m 5 ls [.ref (mixA ad bd 0)]) rfl ?_
  refine lv_astore_n (lv' := [(3, .ref (mixA ad bd 0)), (0, .ref (bd 1)), (1, .int sd), (2, .int i)]) hx hb dX10_slot_5 rfl hl (by decide) rfl (fun ls hl => ?_)
  refine lv_aload_n hx hb dX10_slot_6 rfl (lv_at hl 0 rfl) ?_
  refine lv_ifnonnull (tgt := 12) hx hb dX10_slot_7 (by decide) ?_
  refine lv_aload_n hx hb dX10_slot_12 rfl (lv_at hl 0 rfl) ?_
  refine gX10_156 C hT (q0 := 29) rfl dX10_slot_13 ?_
  refine lv_iload_n hx hb dX10_slot_16 rfl (lv_at hl 3 rfl) ?_
  have hM := c_X9_has l g (mixA ad bd 9) (mixA ad bd 10) (mixA ad bd 11) N (s_fc V) i
  refine r_callRO (js := [32, 33]) C hT (runV (js := [32, 33]) (rm := ({ frames := 0, cells := 0, slots := 0, locals := 0 } : Room)) (As := [.int i]) (n := 1) (q1 := 0) (rest := []) C hT hM rfl rfl k594 k478 k479 k11 k480 (by decide +kernel) rfl rfl rfl rfl (Nat.le_of_ble_eq_true rfl) hl.1 ⟨Nat.le_of_ble_eq_true rfl, Nat.le_of_ble_eq_true rfl⟩ ⟨Nat.le_of_ble_eq_true rfl, Nat.le_of_ble_eq_true rfl⟩ dX10_slot_17) rfl rfl (fun u H locs hT => ?_)
  refine W.eq (g2 := F0 m 20 ls [.int (b01 (inR i N))]) rfl ?_
  refine lv_if_ne (tgt := 33) hx hb dX10_slot_20 (by decide) (fun h_1 => ?_) (fun h_1 => ?_)
  · skip
    obtain ⟨j, hj, vej⟩ := inR_of hN31 hr
    refine lv_aload_n hx hb dX10_slot_33 rfl (lv_at hl 0 rfl) ?_
    refine gX10_156 C hT (q0 := 29) rfl dX10_slot_34 ?_
    refine gX10_170 C hT (q0 := 32) rfl dX10_slot_37 ?_
    refine lv_iload_n hx hb dX10_slot_40 rfl (lv_at hl 3 rfl) ?_
    refine r_iald C hT (q0 := 33) rfl j vej hj (by omega) dX10_slot_41 ?_
    exact e_iret C hQ () hT (by rw [vej, nI_clamp (by omega)]) dX10_slot_42
  · skip
    exact absurd (b01_f h_1) (by rw [hr]; decide)
