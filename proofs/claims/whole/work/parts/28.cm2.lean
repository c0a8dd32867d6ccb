set_option maxHeartbeats 400000 in
set_option maxRecDepth 100000 in
theorem c_X10_sideOf_0 (l : Launch) (g : GT) (ad : Nat → Nat) (bd : Nat → Nat) (np : Nat) (fk : Nat → Int32) (fn : Nat → Int32) (fo : Nat → Int32) (st : Nat → Int32) (N : Nat) (U : SSt) (V : SSt) (code : Int64) (cp : Nat) (en : Bool) (no : Nat) (ou : Nat → Int32) (wl : Int64) (wh : Int64) (rl : Int64) (rh : Int64) (sd : Int32) (hsd : sd = 0) : OM (S := Unit) l g yX10_sideOf cX10_sideOf 2 (some (.object "ContextMix$Side")) ({ frames := 0, cells := 0, slots := 0, locals := 0 } : Room) [.ref (bd 1), .int sd] (cmL g ad bd np fk fn fo st N (s_n U) (s_nd U) (s_bg U) (s_f U) (s_fc U) (s_fs U) (s_r0 U) (s_t0 U) (s_f0 U) (s_r1 U) (s_t1 U) (s_f1 U) (s_nr U) (s_fx U) (s_mp U) (s_ml U) (s_cx U) (s_xi U) (s_n V) (s_nd V) (s_bg V) (s_f V) (s_fc V) (s_fs V) (s_r0 V) (s_t0 V) (s_f0 V) (s_r1 V) (s_t1 V) (s_f1 V) (s_nr V) (s_fx V) (s_mp V) (s_ml V) (s_cx V) (s_xi V) code cp en no ou wl wh rl rh) (fun _ => some (.ref (ad 0))) (fun _ => (cmL g ad bd np fk fn fo st N (s_n U) (s_nd U) (s_bg U) (s_f U) (s_fc U) (s_fs U) (s_r0 U) (s_t0 U) (s_f0 U) (s_r1 U) (s_t1 U) (s_f1 U) (s_nr U) (s_fx U) (s_mp U) (s_ml U) (s_cx U) (s_xi U) (s_n V) (s_nd V) (s_bg V) (s_f V) (s_fc V) (s_fs V) (s_r0 V) (s_t0 V) (s_f0 V) (s_r1 V) (s_t1 V) (s_f1 V) (s_nr V) (s_fx V) (s_mp V) (s_ml V) (s_cx V) (s_xi V) code cp en no ou wl wh rl rh)) := by
  refine OM.startQ (by decide) (Nat.le_of_ble_eq_true rfl) ?_
  intro p e s m below meth c A ls Q H locs hQ C hnm hl hT
  have hx := C.x
  have hb := C.b
  have hl : lv_has ls 2 [(0, .ref (bd 1)), (1, .int sd)] := hl
  refine lv_iload_n hx hb dX10_sideOf_0 rfl (lv_at hl 1 rfl) ?_
  refine lv_if_ne (tgt := 9) hx hb dX10_sideOf_1 (by decide) (fun h_1 => ?_) (fun h_1 => ?_)
  · skip
    exact absurd hsd h_1
  · skip
    refine lv_aload_n hx hb dX10_sideOf_4 rfl (lv_at hl 0 rfl) ?_
    refine gX10_32 C hT (q0 := 52) rfl dX10_sideOf_5 ?_
    exact e_aret C hQ () hT rfl (Or.inr ⟨_, rfl⟩) dX10_sideOf_8

set_option maxHeartbeats 400000 in
set_option maxRecDepth 100000 in
theorem c_X10_sideOf_1 (l : Launch) (g : GT) (ad : Nat → Nat) (bd : Nat → Nat) (np : Nat) (fk : Nat → Int32) (fn : Nat → Int32) (fo : Nat → Int32) (st : Nat → Int32) (N : Nat) (U : SSt) (V : SSt) (code : Int64) (cp : Nat) (en : Bool) (no : Nat) (ou : Nat → Int32) (wl : Int64) (wh : Int64) (rl : Int64) (rh : Int64) (sd : Int32) (hsd : sd = 1) : OM (S := Unit) l g yX10_sideOf cX10_sideOf 2 (some (.object "ContextMix$Side")) ({ frames := 0, cells := 0, slots := 0, locals := 0 } : Room) [.ref (bd 1), .int sd] (cmL g ad bd np fk fn fo st N (s_n U) (s_nd U) (s_bg U) (s_f U) (s_fc U) (s_fs U) (s_r0 U) (s_t0 U) (s_f0 U) (s_r1 U) (s_t1 U) (s_f1 U) (s_nr U) (s_fx U) (s_mp U) (s_ml U) (s_cx U) (s_xi U) (s_n V) (s_nd V) (s_bg V) (s_f V) (s_fc V) (s_fs V) (s_r0 V) (s_t0 V) (s_f0 V) (s_r1 V) (s_t1 V) (s_f1 V) (s_nr V) (s_fx V) (s_mp V) (s_ml V) (s_cx V) (s_xi V) code cp en no ou wl wh rl rh) (fun _ => some (.ref (mixA ad bd 0))) (fun _ => (cmL g ad bd np fk fn fo st N (s_n U) (s_nd U) (s_bg U) (s_f U) (s_fc U) (s_fs U) (s_r0 U) (s_t0 U) (s_f0 U) (s_r1 U) (s_t1 U) (s_f1 U) (s_nr U) (s_fx U) (s_mp U) (s_ml U) (s_cx U) (s_xi U) (s_n V) (s_nd V) (s_bg V) (s_f V) (s_fc V) (s_fs V) (s_r0 V) (s_t0 V) (s_f0 V) (s_r1 V) (s_t1 V) (s_f1 V) (s_nr V) (s_fx V) (s_mp V) (s_ml V) (s_cx V) (s_xi V) code cp en no ou wl wh rl rh)) := by
  refine OM.startQ (by decide) (Nat.le_of_ble_eq_true rfl) ?_
  intro p e s m below meth c A ls Q H locs hQ C hnm hl hT
  have hx := C.x
  have hb := C.b
  have hl : lv_has ls 2 [(0, .ref (bd 1)), (1, .int sd)] := hl
  refine lv_iload_n hx hb dX10_sideOf_0 rfl (lv_at hl 1 rfl) ?_
  refine lv_if_ne (tgt := 9) hx hb dX10_sideOf_1 (by decide) (fun h_1 => ?_) (fun h_1 => ?_)
  · skip
    refine lv_iload_n hx hb dX10_sideOf_9 rfl (lv_at hl 1 rfl) ?_
    refine lv_iconst (v := 1) hx hb dX10_sideOf_10 (by decide) ?_
    refine lv_icmp_ne (tgt := 21) hx hb dX10_sideOf_11 (by decide) (fun h_2 => ?_) (fun h_2 => ?_)
    · skip
      exact absurd hsd h_2
    · skip
      refine lv_aload_n hx hb dX10_sideOf_14 rfl (lv_at hl 0 rfl) ?_
      refine gX10_36 C hT (q0 := 52) rfl dX10_sideOf_15 ?_
      refine lv_goto (tgt := 22) hx hb dX10_sideOf_18 (by decide) ?_
      exact e_aret C hQ () hT rfl (Or.inr ⟨_, rfl⟩) dX10_sideOf_22
  · skip
    exact absurd (h_1.symm.trans hsd) (by decide)

set_option maxHeartbeats 400000 in
set_option maxRecDepth 100000 in
theorem c_X10_sideOf_n (l : Launch) (g : GT) (ad : Nat → Nat) (bd : Nat → Nat) (np : Nat) (fk : Nat → Int32) (fn : Nat → Int32) (fo : Nat → Int32) (st : Nat → Int32) (N : Nat) (U : SSt) (V : SSt) (code : Int64) (cp : Nat) (en : Bool) (no : Nat) (ou : Nat → Int32) (wl : Int64) (wh : Int64) (rl : Int64) (rh : Int64) (sd : Int32) (hs0 : ¬ sd = 0) (hs1 : ¬ sd = 1) : OM (S := Unit) l g yX10_sideOf cX10_sideOf 2 (some (.object "ContextMix$Side")) ({ frames := 0, cells := 0, slots := 0, locals := 0 } : Room) [.ref (bd 1), .int sd] (cmL g ad bd np fk fn fo st N (s_n U) (s_nd U) (s_bg U) (s_f U) (s_fc U) (s_fs U) (s_r0 U) (s_t0 U) (s_f0 U) (s_r1 U) (s_t1 U) (s_f1 U) (s_nr U) (s_fx U) (s_mp U) (s_ml U) (s_cx U) (s_xi U) (s_n V) (s_nd V) (s_bg V) (s_f V) (s_fc V) (s_fs V) (s_r0 V) (s_t0 V) (s_f0 V) (s_r1 V) (s_t1 V) (s_f1 V) (s_nr V) (s_fx V) (s_mp V) (s_ml V) (s_cx V) (s_xi V) code cp en no ou wl wh rl rh) (fun _ => some (.null)) (fun _ => (cmL g ad bd np fk fn fo st N (s_n U) (s_nd U) (s_bg U) (s_f U) (s_fc U) (s_fs U) (s_r0 U) (s_t0 U) (s_f0 U) (s_r1 U) (s_t1 U) (s_f1 U) (s_nr U) (s_fx U) (s_mp U) (s_ml U) (s_cx U) (s_xi U) (s_n V) (s_nd V) (s_bg V) (s_f V) (s_fc V) (s_fs V) (s_r0 V) (s_t0 V) (s_f0 V) (s_r1 V) (s_t1 V) (s_f1 V) (s_nr V) (s_fx V) (s_mp V) (s_ml V) (s_cx V) (s_xi V) code cp en no ou wl wh rl rh)) := by
  refine OM.startQ (by decide) (Nat.le_of_ble_eq_true rfl) ?_
  intro p e s m below meth c A ls Q H locs hQ C hnm hl hT
  have hx := C.x
  have hb := C.b
  have hl : lv_has ls 2 [(0, .ref (bd 1)), (1, .int sd)] := hl
  refine lv_iload_n hx hb dX10_sideOf_0 rfl (lv_at hl 1 rfl) ?_
  refine lv_if_ne (tgt := 9) hx hb dX10_sideOf_1 (by decide) (fun h_1 => ?_) (fun h_1 => ?_)
  · skip
    refine lv_iload_n hx hb dX10_sideOf_9 rfl (lv_at hl 1 rfl) ?_
    refine lv_iconst (v := 1) hx hb dX10_sideOf_10 (by decide) ?_
    refine lv_icmp_ne (tgt := 21) hx hb dX10_sideOf_11 (by decide) (fun h_2 => ?_) (fun h_2 => ?_)
    · skip
      refine lv_null hx hb dX10_sideOf_21 ?_
      exact e_aret C hQ () hT rfl (Or.inl rfl) dX10_sideOf_22
    · skip
      exact absurd h_2 hs1
  · skip
    exact absurd h_1 hs0

set_option maxHeartbeats 400000 in
set_option maxRecDepth 100000 in
theorem c_X10_chance_n (l : Launch) (g : GT) (ad : Nat → Nat) (bd : Nat → Nat) (np : Nat) (fk : Nat → Int32) (fn : Nat → Int32) (fo : Nat → Int32) (st : Nat → Int32) (N : Nat) (U : SSt) (V : SSt) (code : Int64) (cp : Nat) (en : Bool) (no : Nat) (ou : Nat → Int32) (wl : Int64) (wh : Int64) (rl : Int64) (rh : Int64) (sd : Int32) (hs0 : ¬ sd = 0) (hs1 : ¬ sd = 1) : OM (S := Unit) l g yX10_chance cX10_chance 3 (some .int) ({ frames := 1, cells := 0, slots := 0, locals := 21 } : Room) [.ref (bd 1), .int sd] (cmL g ad bd np fk fn fo st N (s_n U) (s_nd U) (s_bg U) (s_f U) (s_fc U) (s_fs U) (s_r0 U) (s_t0 U) (s_f0 U) (s_r1 U) (s_t1 U) (s_f1 U) (s_nr U) (s_fx U) (s_mp U) (s_ml U) (s_cx U) (s_xi U) (s_n V) (s_nd V) (s_bg V) (s_f V) (s_fc V) (s_fs V) (s_r0 V) (s_t0 V) (s_f0 V) (s_r1 V) (s_t1 V) (s_f1 V) (s_nr V) (s_fx V) (s_mp V) (s_ml V) (s_cx V) (s_xi V) code cp en no ou wl wh rl rh) (fun _ => some (.int (-1))) (fun _ => (cmL g ad bd np fk fn fo st N (s_n U) (s_nd U) (s_bg U) (s_f U) (s_fc U) (s_fs U) (s_r0 U) (s_t0 U) (s_f0 U) (s_r1 U) (s_t1 U) (s_f1 U) (s_nr U) (s_fx U) (s_mp U) (s_ml U) (s_cx U) (s_xi U) (s_n V) (s_nd V) (s_bg V) (s_f V) (s_fc V) (s_fs V) (s_r0 V) (s_t0 V) (s_f0 V) (s_r1 V) (s_t1 V) (s_f1 V) (s_nr V) (s_fx V) (s_mp V) (s_ml V) (s_cx V) (s_xi V) code cp en no ou wl wh rl rh)) := by
  refine OM.startQ (by decide) (Nat.le_of_ble_eq_true rfl) ?_
  intro p e s m below meth c A ls Q H locs hQ C hnm hl hT
  have hx := C.x
  have hb := C.b
  have hl : lv_has ls 3 [(0, .ref (bd 1)), (1, .int sd)] := hl
  refine lv_aload_n hx hb dX10_chance_0 rfl (lv_at hl 0 rfl) ?_
  refine lv_iload_n hx hb dX10_chance_1 rfl (lv_at hl 1 rfl) ?_
  have hM := c_X10_sideOf_n l g ad bd np fk fn fo st N U V code cp en no ou wl wh rl rh sd (by first | assumption | omega) (by first | assumption | omega)
  refine r_callRO (js := [0, 1, 2, 3, 4, 5, 6, 7, 8, 9, 10, 11, 12, 13, 14, 15, 16, 17, 18, 19, 20, 21, 22, 23, 24, 25, 26, 27, 28, 29, 30, 31, 32, 33, 34, 35, 36, 37, 38, 39, 40, 41, 42, 43, 44, 45, 46, 47, 48, 49, 50, 51, 52, 53, 54, 55, 56]) C hT (runV (js := [0, 1, 2, 3, 4, 5, 6, 7, 8, 9, 10, 11, 12, 13, 14, 15, 16, 17, 18, 19, 20, 21, 22, 23, 24, 25, 26, 27, 28, 29, 30, 31, 32, 33, 34, 35, 36, 37, 38, 39, 40, 41, 42, 43, 44, 45, 46, 47, 48, 49, 50, 51, 52, 53, 54, 55, 56]) (rm := ({ frames := 0, cells := 0, slots := 0, locals := 0 } : Room)) (As := [.int sd]) (n := 1) (q1 := 52) (rest := []) C hT hM rfl rfl k572 k574 s9 k1 k575 (by decide +kernel) rfl rfl rfl rfl (Nat.le_of_ble_eq_true rfl) hl.1 ⟨Nat.le_of_ble_eq_true rfl, Nat.le_of_ble_eq_true rfl⟩ ⟨Nat.le_of_ble_eq_true rfl, Nat.le_of_ble_eq_true rfl⟩ dX10_chance_2) rfl rfl (fun u H locs hT => ?_)
  refine W.eq (g2 := F0 m 5 ls [.null]) rfl ?_
  refine lv_astore_nN (lv' := [(2, .null), (0, .ref (bd 1)), (1, .int sd)]) hx hb dX10_chance_5 rfl hl (by decide) rfl (fun ls hl => ?_)
  refine lv_aload_nN hx hb dX10_chance_6 rfl (lv_at hl 0 rfl) ?_
  refine lv_ifnonnullN hx hb dX10_chance_7 ?_
  refine lv_iconst (v := (-1)) hx hb dX10_chance_10 (by decide) ?_
  refine lv_goto (tgt := 18) hx hb dX10_chance_11 (by decide) ?_
  exact e_iret C hQ () hT rfl dX10_chance_18

set_option maxHeartbeats 400000 in
set_option maxRecDepth 100000 in
theorem c_X10_input_n (l : Launch) (g : GT) (ad : Nat → Nat) (bd : Nat → Nat) (np : Nat) (fk : Nat → Int32) (fn : Nat → Int32) (fo : Nat → Int32) (st : Nat → Int32) (N : Nat) (U : SSt) (V : SSt) (code : Int64) (cp : Nat) (en : Bool) (no : Nat) (ou : Nat → Int32) (wl : Int64) (wh : Int64) (rl : Int64) (rh : Int64) (sd : Int32) (i : Int32) (hs0 : ¬ sd = 0) (hs1 : ¬ sd = 1) : OM (S := Unit) l g yX10_input cX10_input 4 (some .int) ({ frames := 1, cells := 0, slots := 0, locals := 21 } : Room) [.ref (bd 1), .int sd, .int i] (cmL g ad bd np fk fn fo st N (s_n U) (s_nd U) (s_bg U) (s_f U) (s_fc U) (s_fs U) (s_r0 U) (s_t0 U) (s_f0 U) (s_r1 U) (s_t1 U) (s_f1 U) (s_nr U) (s_fx U) (s_mp U) (s_ml U) (s_cx U) (s_xi U) (s_n V) (s_nd V) (s_bg V) (s_f V) (s_fc V) (s_fs V) (s_r0 V) (s_t0 V) (s_f0 V) (s_r1 V) (s_t1 V) (s_f1 V) (s_nr V) (s_fx V) (s_mp V) (s_ml V) (s_cx V) (s_xi V) code cp en no ou wl wh rl rh) (fun _ => some (.int (-9999))) (fun _ => (cmL g ad bd np fk fn fo st N (s_n U) (s_nd U) (s_bg U) (s_f U) (s_fc U) (s_fs U) (s_r0 U) (s_t0 U) (s_f0 U) (s_r1 U) (s_t1 U) (s_f1 U) (s_nr U) (s_fx U) (s_mp U) (s_ml U) (s_cx U) (s_xi U) (s_n V) (s_nd V) (s_bg V) (s_f V) (s_fc V) (s_fs V) (s_r0 V) (s_t0 V) (s_f0 V) (s_r1 V) (s_t1 V) (s_f1 V) (s_nr V) (s_fx V) (s_mp V) (s_ml V) (s_cx V) (s_xi V) code cp en no ou wl wh rl rh)) := by
  refine OM.startQ (by decide) (Nat.le_of_ble_eq_true rfl) ?_
  intro p e s m below meth c A ls Q H locs hQ C hnm hl hT
  have hx := C.x
  have hb := C.b
  have hl : lv_has ls 4 [(0, .ref (bd 1)), (1, .int sd), (2, .int i)] := hl
  refine lv_aload_n hx hb dX10_input_0 rfl (lv_at hl 0 rfl) ?_
  refine lv_iload_n hx hb dX10_input_1 rfl (lv_at hl 1 rfl) ?_
  have hM := c_X10_sideOf_n l g ad bd np fk fn fo st N U V code cp en no ou wl wh rl rh sd (by first | assumption | omega) (by first | assumption | omega)
  refine r_callRO (js := [0, 1, 2, 3, 4, 5, 6, 7, 8, 9, 10, 11, 12, 13, 14, 15, 16, 17, 18, 19, 20, 21, 22, 23, 24, 25, 26, 27, 28, 29, 30, 31, 32, 33, 34, 35, 36, 37, 38, 39, 40, 41, 42, 43, 44, 45, 46, 47, 48, 49, 50, 51, 52, 53, 54, 55, 56]) C hT (runV (js := [0, 1, 2, 3, 4, 5, 6, 7, 8, 9, 10, 11, 12, 13, 14, 15, 16, 17, 18, 19, 20, 21, 22, 23, 24, 25, 26, 27, 28, 29, 30, 31, 32, 33, 34, 35, 36, 37, 38, 39, 40, 41, 42, 43, 44, 45, 46, 47, 48, 49, 50, 51, 52, 53, 54, 55, 56]) (rm := ({ frames := 0, cells := 0, slots := 0, locals := 0 } : Room)) (As := [.int sd]) (n := 1) (q1 := 52) (rest := []) C hT hM rfl rfl k572 k574 s9 k1 k575 (by decide +kernel) rfl rfl rfl rfl (Nat.le_of_ble_eq_true rfl) hl.1 ⟨Nat.le_of_ble_eq_true rfl, Nat.le_of_ble_eq_true rfl⟩ ⟨Nat.le_of_ble_eq_true rfl, Nat.le_of_ble_eq_true rfl⟩ dX10_input_2) rfl rfl (fun u H locs hT => ?_)
  refine W.eq (g2 := F0 m 5 ls [.null]) rfl ?_
  refine lv_astore_nN (lv' := [(3, .null), (0, .ref (bd 1)), (1, .int sd), (2, .int i)]) hx hb dX10_input_5 rfl hl (by decide) rfl (fun ls hl => ?_)
  refine lv_aload_nN hx hb dX10_input_6 rfl (lv_at hl 0 rfl) ?_
  refine lv_ifnullN (tgt := 21) hx hb dX10_input_7 (by decide) ?_
  refine lv_sipush (v := (-9999)) hx hb dX10_input_21 (by decide) ?_
  exact e_iret C hQ () hT rfl dX10_input_24

set_option maxHeartbeats 400000 in
set_option maxRecDepth 100000 in
theorem c_X10_weight_n (l : Launch) (g : GT) (ad : Nat → Nat) (bd : Nat → Nat) (np : Nat) (fk : Nat → Int32) (fn : Nat → Int32) (fo : Nat → Int32) (st : Nat → Int32) (N : Nat) (U : SSt) (V : SSt) (code : Int64) (cp : Nat) (en : Bool) (no : Nat) (ou : Nat → Int32) (wl : Int64) (wh : Int64) (rl : Int64) (rh : Int64) (sd : Int32) (mx : Int32) (se : Int32) (i : Int32) (hs0 : ¬ sd = 0) (hs1 : ¬ sd = 1) : OM (S := Unit) l g yX10_weight cX10_weight 7 (some .int) ({ frames := 1, cells := 0, slots := 0, locals := 21 } : Room) [.ref (bd 1), .int sd, .int mx, .int se, .int i] (cmL g ad bd np fk fn fo st N (s_n U) (s_nd U) (s_bg U) (s_f U) (s_fc U) (s_fs U) (s_r0 U) (s_t0 U) (s_f0 U) (s_r1 U) (s_t1 U) (s_f1 U) (s_nr U) (s_fx U) (s_mp U) (s_ml U) (s_cx U) (s_xi U) (s_n V) (s_nd V) (s_bg V) (s_f V) (s_fc V) (s_fs V) (s_r0 V) (s_t0 V) (s_f0 V) (s_r1 V) (s_t1 V) (s_f1 V) (s_nr V) (s_fx V) (s_mp V) (s_ml V) (s_cx V) (s_xi V) code cp en no ou wl wh rl rh) (fun _ => some (.int (-2000000))) (fun _ => (cmL g ad bd np fk fn fo st N (s_n U) (s_nd U) (s_bg U) (s_f U) (s_fc U) (s_fs U) (s_r0 U) (s_t0 U) (s_f0 U) (s_r1 U) (s_t1 U) (s_f1 U) (s_nr U) (s_fx U) (s_mp U) (s_ml U) (s_cx U) (s_xi U) (s_n V) (s_nd V) (s_bg V) (s_f V) (s_fc V) (s_fs V) (s_r0 V) (s_t0 V) (s_f0 V) (s_r1 V) (s_t1 V) (s_f1 V) (s_nr V) (s_fx V) (s_mp V) (s_ml V) (s_cx V) (s_xi V) code cp en no ou wl wh rl rh)) := by
  refine OM.startQ (by decide) (Nat.le_of_ble_eq_true rfl) ?_
  intro p e s m below meth c A ls Q H locs hQ C hnm hl hT
  have hx := C.x
  have hb := C.b
  have hl : lv_has ls 7 [(0, .ref (bd 1)), (1, .int sd), (2, .int mx), (3, .int se), (4, .int i)] := hl
  refine lv_aload_n hx hb dX10_weight_0 rfl (lv_at hl 0 rfl) ?_
  refine lv_iload_n hx hb dX10_weight_1 rfl (lv_at hl 1 rfl) ?_
  have hM := c_X10_sideOf_n l g ad bd np fk fn fo st N U V code cp en no ou wl wh rl rh sd (by first | assumption | omega) (by first | assumption | omega)
  refine r_callRO (js := [0, 1, 2, 3, 4, 5, 6, 7, 8, 9, 10, 11, 12, 13, 14, 15, 16, 17, 18, 19, 20, 21, 22, 23, 24, 25, 26, 27, 28, 29, 30, 31, 32, 33, 34, 35, 36, 37, 38, 39, 40, 41, 42, 43, 44, 45, 46, 47, 48, 49, 50, 51, 52, 53, 54, 55, 56]) C hT (runV (js := [0, 1, 2, 3, 4, 5, 6, 7, 8, 9, 10, 11, 12, 13, 14, 15, 16, 17, 18, 19, 20, 21, 22, 23, 24, 25, 26, 27, 28, 29, 30, 31, 32, 33, 34, 35, 36, 37, 38, 39, 40, 41, 42, 43, 44, 45, 46, 47, 48, 49, 50, 51, 52, 53, 54, 55, 56]) (rm := ({ frames := 0, cells := 0, slots := 0, locals := 0 } : Room)) (As := [.int sd]) (n := 1) (q1 := 52) (rest := []) C hT hM rfl rfl k572 k574 s9 k1 k575 (by decide +kernel) rfl rfl rfl rfl (Nat.le_of_ble_eq_true rfl) hl.1 ⟨Nat.le_of_ble_eq_true rfl, Nat.le_of_ble_eq_true rfl⟩ ⟨Nat.le_of_ble_eq_true rfl, Nat.le_of_ble_eq_true rfl⟩ dX10_weight_2) rfl rfl (fun u H locs hT => ?_)
  refine W.eq (g2 := F0 m 5 ls [.null]) rfl ?_
  refine lv_astoreN (lv' := [(5, .null), (0, .ref (bd 1)), (1, .int sd), (2, .int mx), (3, .int se), (4, .int i)]) hx hb dX10_weight_5 hl (by decide) rfl (fun ls hl => ?_)
  refine lv_aloadN hx hb dX10_weight_7 (lv_at hl 0 rfl) ?_
  refine lv_ifnullN (tgt := 32) hx hb dX10_weight_9 (by decide) ?_
  refine lv_ldc (v := (-2000000)) hx hb C.ow (C.ts _ k585) dX10_weight_32 ?_
  exact e_iret C hQ () hT rfl dX10_weight_34

set_option maxHeartbeats 400000 in
set_option maxRecDepth 100000 in
theorem c_X10_seen_n (l : Launch) (g : GT) (ad : Nat → Nat) (bd : Nat → Nat) (np : Nat) (fk : Nat → Int32) (fn : Nat → Int32) (fo : Nat → Int32) (st : Nat → Int32) (N : Nat) (U : SSt) (V : SSt) (code : Int64) (cp : Nat) (en : Bool) (no : Nat) (ou : Nat → Int32) (wl : Int64) (wh : Int64) (rl : Int64) (rh : Int64) (sd : Int32) (i : Int32) (hs0 : ¬ sd = 0) (hs1 : ¬ sd = 1) : OM (S := Unit) l g yX10_seen cX10_seen 4 (some .int) ({ frames := 1, cells := 0, slots := 0, locals := 21 } : Room) [.ref (bd 1), .int sd, .int i] (cmL g ad bd np fk fn fo st N (s_n U) (s_nd U) (s_bg U) (s_f U) (s_fc U) (s_fs U) (s_r0 U) (s_t0 U) (s_f0 U) (s_r1 U) (s_t1 U) (s_f1 U) (s_nr U) (s_fx U) (s_mp U) (s_ml U) (s_cx U) (s_xi U) (s_n V) (s_nd V) (s_bg V) (s_f V) (s_fc V) (s_fs V) (s_r0 V) (s_t0 V) (s_f0 V) (s_r1 V) (s_t1 V) (s_f1 V) (s_nr V) (s_fx V) (s_mp V) (s_ml V) (s_cx V) (s_xi V) code cp en no ou wl wh rl rh) (fun _ => some (.int (-1))) (fun _ => (cmL g ad bd np fk fn fo st N (s_n U) (s_nd U) (s_bg U) (s_f U) (s_fc U) (s_fs U) (s_r0 U) (s_t0 U) (s_f0 U) (s_r1 U) (s_t1 U) (s_f1 U) (s_nr U) (s_fx U) (s_mp U) (s_ml U) (s_cx U) (s_xi U) (s_n V) (s_nd V) (s_bg V) (s_f V) (s_fc V) (s_fs V) (s_r0 V) (s_t0 V) (s_f0 V) (s_r1 V) (s_t1 V) (s_f1 V) (s_nr V) (s_fx V) (s_mp V) (s_ml V) (s_cx V) (s_xi V) code cp en no ou wl wh rl rh)) := by
  refine OM.startQ (by decide) (Nat.le_of_ble_eq_true rfl) ?_
  intro p e s m below meth c A ls Q H locs hQ C hnm hl hT
  have hx := C.x
  have hb := C.b
  have hl : lv_has ls 4 [(0, .ref (bd 1)), (1, .int sd), (2, .int i)] := hl
  refine lv_aload_n hx hb dX10_seen_0 rfl (lv_at hl 0 rfl) ?_
  refine lv_iload_n hx hb dX10_seen_1 rfl (lv_at hl 1 rfl) ?_
  have hM := c_X10_sideOf_n l g ad bd np fk fn fo st N U V code cp en no ou wl wh rl rh sd (by first | assumption | omega) (by first | assumption | omega)
  refine r_callRO (js := [0, 1, 2, 3, 4, 5, 6, 7, 8, 9, 10, 11, 12, 13, 14, 15, 16, 17, 18, 19, 20, 21, 22, 23, 24, 25, 26, 27, 28, 29, 30, 31, 32, 33, 34, 35, 36, 37, 38, 39, 40, 41, 42, 43, 44, 45, 46, 47, 48, 49, 50, 51, 52, 53, 54, 55, 56]) C hT (runV (js := [0, 1, 2, 3, 4, 5, 6, 7, 8, 9, 10, 11, 12, 13, 14, 15, 16, 17, 18, 19, 20, 21, 22, 23, 24, 25, 26, 27, 28, 29, 30, 31, 32, 33, 34, 35, 36, 37, 38, 39, 40, 41, 42, 43, 44, 45, 46, 47, 48, 49, 50, 51, 52, 53, 54, 55, 56]) (rm := ({ frames := 0, cells := 0, slots := 0, locals := 0 } : Room)) (As := [.int sd]) (n := 1) (q1 := 52) (rest := []) C hT hM rfl rfl k572 k574 s9 k1 k575 (by decide +kernel) rfl rfl rfl rfl (Nat.le_of_ble_eq_true rfl) hl.1 ⟨Nat.le_of_ble_eq_true rfl, Nat.le_of_ble_eq_true rfl⟩ ⟨Nat.le_of_ble_eq_true rfl, Nat.le_of_ble_eq_true rfl⟩ dX10_seen_2) rfl rfl (fun u H locs hT => ?_)
  refine W.eq (g2 := F0 m 5 ls [.null]) rfl ?_
  refine lv_astore_nN (lv' := [(3, .null), (0, .ref (bd 1)), (1, .int sd), (2, .int i)]) hx hb dX10_seen_5 rfl hl (by decide) rfl (fun ls hl => ?_)
  refine lv_aload_nN hx hb dX10_seen_6 rfl (lv_at hl 0 rfl) ?_
  refine lv_ifnullN (tgt := 21) hx hb dX10_seen_7 (by decide) ?_
  refine lv_iconst (v := (-1)) hx hb dX10_seen_21 (by decide) ?_
  exact e_iret C hQ () hT rfl dX10_seen_22

set_option maxHeartbeats 400000 in
set_option maxRecDepth 100000 in
theorem c_X10_cell_n (l : Launch) (g : GT) (ad : Nat → Nat) (bd : Nat → Nat) (np : Nat) (fk : Nat → Int32) (fn : Nat → Int32) (fo : Nat → Int32) (st : Nat → Int32) (N : Nat) (U : SSt) (V : SSt) (code : Int64) (cp : Nat) (en : Bool) (no : Nat) (ou : Nat → Int32) (wl : Int64) (wh : Int64) (rl : Int64) (rh : Int64) (sd : Int32) (nn : Int32) (j : Int32) (hs0 : ¬ sd = 0) (hs1 : ¬ sd = 1) : OM (S := Unit) l g yX10_cell cX10_cell 6 (some .int) ({ frames := 1, cells := 0, slots := 0, locals := 21 } : Room) [.ref (bd 1), .int sd, .int nn, .int j] (cmL g ad bd np fk fn fo st N (s_n U) (s_nd U) (s_bg U) (s_f U) (s_fc U) (s_fs U) (s_r0 U) (s_t0 U) (s_f0 U) (s_r1 U) (s_t1 U) (s_f1 U) (s_nr U) (s_fx U) (s_mp U) (s_ml U) (s_cx U) (s_xi U) (s_n V) (s_nd V) (s_bg V) (s_f V) (s_fc V) (s_fs V) (s_r0 V) (s_t0 V) (s_f0 V) (s_r1 V) (s_t1 V) (s_f1 V) (s_nr V) (s_fx V) (s_mp V) (s_ml V) (s_cx V) (s_xi V) code cp en no ou wl wh rl rh) (fun _ => some (.int 40000)) (fun _ => (cmL g ad bd np fk fn fo st N (s_n U) (s_nd U) (s_bg U) (s_f U) (s_fc U) (s_fs U) (s_r0 U) (s_t0 U) (s_f0 U) (s_r1 U) (s_t1 U) (s_f1 U) (s_nr U) (s_fx U) (s_mp U) (s_ml U) (s_cx U) (s_xi U) (s_n V) (s_nd V) (s_bg V) (s_f V) (s_fc V) (s_fs V) (s_r0 V) (s_t0 V) (s_f0 V) (s_r1 V) (s_t1 V) (s_f1 V) (s_nr V) (s_fx V) (s_mp V) (s_ml V) (s_cx V) (s_xi V) code cp en no ou wl wh rl rh)) := by
  refine OM.startQ (by decide) (Nat.le_of_ble_eq_true rfl) ?_
  intro p e s m below meth c A ls Q H locs hQ C hnm hl hT
  have hx := C.x
  have hb := C.b
  have hl : lv_has ls 6 [(0, .ref (bd 1)), (1, .int sd), (2, .int nn), (3, .int j)] := hl
  refine lv_aload_n hx hb dX10_cell_0 rfl (lv_at hl 0 rfl) ?_
  refine lv_iload_n hx hb dX10_cell_1 rfl (lv_at hl 1 rfl) ?_
  have hM := c_X10_sideOf_n l g ad bd np fk fn fo st N U V code cp en no ou wl wh rl rh sd (by first | assumption | omega) (by first | assumption | omega)
  refine r_callRO (js := [0, 1, 2, 3, 4, 5, 6, 7, 8, 9, 10, 11, 12, 13, 14, 15, 16, 17, 18, 19, 20, 21, 22, 23, 24, 25, 26, 27, 28, 29, 30, 31, 32, 33, 34, 35, 36, 37, 38, 39, 40, 41, 42, 43, 44, 45, 46, 47, 48, 49, 50, 51, 52, 53, 54, 55, 56]) C hT (runV (js := [0, 1, 2, 3, 4, 5, 6, 7, 8, 9, 10, 11, 12, 13, 14, 15, 16, 17, 18, 19, 20, 21, 22, 23, 24, 25, 26, 27, 28, 29, 30, 31, 32, 33, 34, 35, 36, 37, 38, 39, 40, 41, 42, 43, 44, 45, 46, 47, 48, 49, 50, 51, 52, 53, 54, 55, 56]) (rm := ({ frames := 0, cells := 0, slots := 0, locals := 0 } : Room)) (As := [.int sd]) (n := 1) (q1 := 52) (rest := []) C hT hM rfl rfl k572 k574 s9 k1 k575 (by decide +kernel) rfl rfl rfl rfl (Nat.le_of_ble_eq_true rfl) hl.1 ⟨Nat.le_of_ble_eq_true rfl, Nat.le_of_ble_eq_true rfl⟩ ⟨Nat.le_of_ble_eq_true rfl, Nat.le_of_ble_eq_true rfl⟩ dX10_cell_2) rfl rfl (fun u H locs hT => ?_)
  refine W.eq (g2 := F0 m 5 ls [.null]) rfl ?_
  refine lv_astoreN (lv' := [(4, .null), (0, .ref (bd 1)), (1, .int sd), (2, .int nn), (3, .int j)]) hx hb dX10_cell_5 hl (by decide) rfl (fun ls hl => ?_)
  refine lv_aloadN hx hb dX10_cell_7 (lv_at hl 0 rfl) ?_
  refine lv_ifnullN (tgt := 20) hx hb dX10_cell_9 (by decide) ?_
  refine lv_ldc (v := 40000) hx hb C.ow (C.ts _ k600) dX10_cell_20 ?_
  exact e_iret C hQ () hT rfl dX10_cell_22

set_option maxHeartbeats 400000 in
set_option maxRecDepth 100000 in
theorem c_X10_chance_0 (l : Launch) (g : GT) (ad : Nat → Nat) (bd : Nat → Nat) (np : Nat) (fk : Nat → Int32) (fn : Nat → Int32) (fo : Nat → Int32) (st : Nat → Int32) (N : Nat) (U : SSt) (V : SSt) (code : Int64) (cp : Nat) (en : Bool) (no : Nat) (ou : Nat → Int32) (wl : Int64) (wh : Int64) (rl : Int64) (rh : Int64) (rr : Nat) (sd : Int32) (hG : GI st N rr np fk fn) (hU : SI N U) (hsd : sd = 0) : OM (S := Unit) l g yX10_chance cX10_chance 3 (some .int) ({ frames := 5, cells := 0, slots := 0, locals := 110 } : Room) [.ref (bd 1), .int sd] (cmL g ad bd np fk fn fo st N (s_n U) (s_nd U) (s_bg U) (s_f U) (s_fc U) (s_fs U) (s_r0 U) (s_t0 U) (s_f0 U) (s_r1 U) (s_t1 U) (s_f1 U) (s_nr U) (s_fx U) (s_mp U) (s_ml U) (s_cx U) (s_xi U) (s_n V) (s_nd V) (s_bg V) (s_f V) (s_fc V) (s_fs V) (s_r0 V) (s_t0 V) (s_f0 V) (s_r1 V) (s_t1 V) (s_f1 V) (s_nr V) (s_fx V) (s_mp V) (s_ml V) (s_cx V) (s_xi V) code cp en no ou wl wh rl rh) (fun _ => some (.int (chS st N np fk fo U))) (fun _ => (cmL g ad bd np fk fn fo st N (s_n U) (s_nd U) (s_bg U) (s_f U) (s_fc U) (s_fs U) (nI (9 * s_nd U)) (t0S st N np fk fo U) (s_f0 U) (nI (9 * lbN (s_f U) (s_n U))) (t1S st N np fk fo U) (s_f1 U) (nI (nearN (s_nd U) (tN st (mxS st N np fk fo U)))) (s_fx U) (s_mp U) (s_ml U) (s_cx U) (xiS st N np fk fo U) (s_n V) (s_nd V) (s_bg V) (s_f V) (s_fc V) (s_fs V) (s_r0 V) (s_t0 V) (s_f0 V) (s_r1 V) (s_t1 V) (s_f1 V) (s_nr V) (s_fx V) (s_mp V) (s_ml V) (s_cx V) (s_xi V) code cp en no ou wl wh rl rh)) := by
  refine OM.startQ (by decide) (Nat.le_of_ble_eq_true rfl) ?_
  intro p e s m below meth c A ls Q H locs hQ C hnm hl hT
  have hx := C.x
  have hb := C.b
  have hl : lv_has ls 3 [(0, .ref (bd 1)), (1, .int sd)] := hl
  refine lv_aload_n hx hb dX10_chance_0 rfl (lv_at hl 0 rfl) ?_
  refine lv_iload_n hx hb dX10_chance_1 rfl (lv_at hl 1 rfl) ?_
  have hM := c_X10_sideOf_0 l g ad bd np fk fn fo st N U V code cp en no ou wl wh rl rh sd (by first | assumption | omega)
  refine r_callRO (js := [0, 1, 2, 3, 4, 5, 6, 7, 8, 9, 10, 11, 12, 13, 14, 15, 16, 17, 18, 19, 20, 21, 22, 23, 24, 25, 26, 27, 28, 29, 30, 31, 32, 33, 34, 35, 36, 37, 38, 39, 40, 41, 42, 43, 44, 45, 46, 47, 48, 49, 50, 51, 52, 53, 54, 55, 56]) C hT (runV (js := [0, 1, 2, 3, 4, 5, 6, 7, 8, 9, 10, 11, 12, 13, 14, 15, 16, 17, 18, 19, 20, 21, 22, 23, 24, 25, 26, 27, 28, 29, 30, 31, 32, 33, 34, 35, 36, 37, 38, 39, 40, 41, 42, 43, 44, 45, 46, 47, 48, 49, 50, 51, 52, 53, 54, 55, 56]) (rm := ({ frames := 0, cells := 0, slots := 0, locals := 0 } : Room)) (As := [.int sd]) (n := 1) (q1 := 52) (rest := []) C hT hM rfl rfl k572 k574 s9 k1 k575 (by decide +kernel) rfl rfl rfl rfl (Nat.le_of_ble_eq_true rfl) hl.1 ⟨Nat.le_of_ble_eq_true rfl, Nat.le_of_ble_eq_true rfl⟩ ⟨Nat.le_of_ble_eq_true rfl, Nat.le_of_ble_eq_true rfl⟩ dX10_chance_2) rfl rfl (fun u H locs hT => ?_)
  refine W.eq (g2 := F0 m 5 ls [.ref (ad 0)]) rfl ?_
  refine lv_astore_n (lv' := [(2, .ref (ad 0)), (0, .ref (bd 1)), (1, .int sd)]) hx hb dX10_chance_5 rfl hl (by decide) rfl (fun ls hl => ?_)
  refine lv_aload_n hx hb dX10_chance_6 rfl (lv_at hl 0 rfl) ?_
  refine lv_ifnonnull (tgt := 14) hx hb dX10_chance_7 (by decide) ?_
  refine lv_aload_n hx hb dX10_chance_14 rfl (lv_at hl 0 rfl) ?_
  have hM := c_X8_foretell l g ad np fk fn fo st (s_n U) (s_nd U) (s_bg U) (s_f U) N (s_fc U) (s_fs U) (s_r0 U) (s_t0 U) (s_f0 U) (s_r1 U) (s_t1 U) (s_f1 U) (s_nr U) (s_fx U) (s_mp U) (s_ml U) (s_cx U) (s_xi U) rr hG.1 hU.1 hU.2.2.2.2.2.1 hU.2.2.2.2.2.2 hU.2.2.1 hU.2.1 hG.2.1 hG.2.2.1 hU.2.2.2.1 hU.2.2.2.2.1 hG.2.2.2.2
  have hT2 := hT.perm (perm_w (obC ad) (shL g ad np fk fn fo st) (prL g ad N (s_n U) (s_nd U) (s_bg U) (s_f U) (s_fc U) (s_fs U) (s_r0 U) (s_t0 U) (s_f0 U) (s_r1 U) (s_t1 U) (s_f1 U) (s_nr U) (s_fx U) (s_mp U) (s_ml U) (s_cx U) (s_xi U)) (obC (mixA ad bd) :: (prL g (mixA ad bd) N (s_n V) (s_nd V) (s_bg V) (s_f V) (s_fc V) (s_fs V) (s_r0 V) (s_t0 V) (s_f0 V) (s_r1 V) (s_t1 V) (s_f1 V) (s_nr V) (s_fx V) (s_mp V) (s_ml V) (s_cx V) (s_xi V) ++ exL g ad bd code cp en no ou wl wh rl rh)))
  refine r_callP (lc := sideL g ad np fk fn fo st (s_n U) (s_nd U) (s_bg U) (s_f U) N (s_fc U) (s_fs U) (s_r0 U) (s_t0 U) (s_f0 U) (s_r1 U) (s_t1 U) (s_f1 U) (s_nr U) (s_fx U) (s_mp U) (s_ml U) (s_cx U) (s_xi U)) (B := (obC (mixA ad bd) :: (prL g (mixA ad bd) N (s_n V) (s_nd V) (s_bg V) (s_f V) (s_fc V) (s_fs V) (s_r0 V) (s_t0 V) (s_f0 V) (s_r1 V) (s_t1 V) (s_f1 V) (s_nr V) (s_fx V) (s_mp V) (s_ml V) (s_cx V) (s_xi V) ++ exL g ad bd code cp en no ou wl wh rl rh))) (rm := ({ frames := 4, cells := 0, slots := 0, locals := 87 } : Room)) (As := []) (n := 0) (q1 := 0) (rest := []) C hT2 hM k381 k382 k383 k5 k384 (by decide +kernel) rfl rfl rfl rfl (Nat.le_of_ble_eq_true rfl) hl.1 ⟨Nat.le_of_ble_eq_true rfl, Nat.le_of_ble_eq_true rfl⟩ ⟨Nat.le_of_ble_eq_true rfl, Nat.le_of_ble_eq_true rfl⟩ dX10_chance_15 (fun _ => sideL_fst.trans sideL_fst.symm) (fun u H locs hT => ?_)
  have hT : Wd g A s (cmL g ad bd np fk fn fo st N (s_n U) (s_nd U) (s_bg U) (s_f U) (s_fc U) (s_fs U) (nI (9 * (s_nd U))) (toldI (s_f0 U) (xiI fk fo st (s_n U) (s_nd U) (s_bg U) (s_f U) N (s_fc U) (s_mp U) (s_ml U) (s_cx U) (s_xi U) np) (9 * (s_nd U))) (s_f0 U) (nI (9 * lbN (s_f U) (s_n U))) (toldI (s_f1 U) (xiI fk fo st (s_n U) (s_nd U) (s_bg U) (s_f U) N (s_fc U) (s_mp U) (s_ml U) (s_cx U) (s_xi U) np) (9 * lbN (s_f U) (s_n U))) (s_f1 U) (nI (nearN (s_nd U) (tN st (mixN (toldI (s_f0 U) (xiI fk fo st (s_n U) (s_nd U) (s_bg U) (s_f U) N (s_fc U) (s_mp U) (s_ml U) (s_cx U) (s_xi U) np) (9 * (s_nd U))) (toldI (s_f1 U) (xiI fk fo st (s_n U) (s_nd U) (s_bg U) (s_f U) N (s_fc U) (s_mp U) (s_ml U) (s_cx U) (s_xi U) np) (9 * lbN (s_f U) (s_n U))))))) (s_fx U) (s_mp U) (s_ml U) (s_cx U) (xiI fk fo st (s_n U) (s_nd U) (s_bg U) (s_f U) N (s_fc U) (s_mp U) (s_ml U) (s_cx U) (s_xi U) np) (s_n V) (s_nd V) (s_bg V) (s_f V) (s_fc V) (s_fs V) (s_r0 V) (s_t0 V) (s_f0 V) (s_r1 V) (s_t1 V) (s_f1 V) (s_nr V) (s_fx V) (s_mp V) (s_ml V) (s_cx V) (s_xi V) code cp en no ou wl wh rl rh) H locs := hT.perm (perm_w (obC ad) (shL g ad np fk fn fo st) (prL g ad N (s_n U) (s_nd U) (s_bg U) (s_f U) (s_fc U) (s_fs U) (nI (9 * (s_nd U))) (toldI (s_f0 U) (xiI fk fo st (s_n U) (s_nd U) (s_bg U) (s_f U) N (s_fc U) (s_mp U) (s_ml U) (s_cx U) (s_xi U) np) (9 * (s_nd U))) (s_f0 U) (nI (9 * lbN (s_f U) (s_n U))) (toldI (s_f1 U) (xiI fk fo st (s_n U) (s_nd U) (s_bg U) (s_f U) N (s_fc U) (s_mp U) (s_ml U) (s_cx U) (s_xi U) np) (9 * lbN (s_f U) (s_n U))) (s_f1 U) (nI (nearN (s_nd U) (tN st (mixN (toldI (s_f0 U) (xiI fk fo st (s_n U) (s_nd U) (s_bg U) (s_f U) N (s_fc U) (s_mp U) (s_ml U) (s_cx U) (s_xi U) np) (9 * (s_nd U))) (toldI (s_f1 U) (xiI fk fo st (s_n U) (s_nd U) (s_bg U) (s_f U) N (s_fc U) (s_mp U) (s_ml U) (s_cx U) (s_xi U) np) (9 * lbN (s_f U) (s_n U))))))) (s_fx U) (s_mp U) (s_ml U) (s_cx U) (xiI fk fo st (s_n U) (s_nd U) (s_bg U) (s_f U) N (s_fc U) (s_mp U) (s_ml U) (s_cx U) (s_xi U) np)) (obC (mixA ad bd) :: (prL g (mixA ad bd) N (s_n V) (s_nd V) (s_bg V) (s_f V) (s_fc V) (s_fs V) (s_r0 V) (s_t0 V) (s_f0 V) (s_r1 V) (s_t1 V) (s_f1 V) (s_nr V) (s_fx V) (s_mp V) (s_ml V) (s_cx V) (s_xi V) ++ exL g ad bd code cp en no ou wl wh rl rh))).symm
  refine W.eq (g2 := F0 m 18 ls [.int (chanceI (mixN (toldI (s_f0 U) (xiI fk fo st (s_n U) (s_nd U) (s_bg U) (s_f U) N (s_fc U) (s_mp U) (s_ml U) (s_cx U) (s_xi U) np) (9 * (s_nd U))) (toldI (s_f1 U) (xiI fk fo st (s_n U) (s_nd U) (s_bg U) (s_f U) N (s_fc U) (s_mp U) (s_ml U) (s_cx U) (s_xi U) np) (9 * lbN (s_f U) (s_n U)))) (corrI (s_fx U) (s_nd U) (tN st (mixN (toldI (s_f0 U) (xiI fk fo st (s_n U) (s_nd U) (s_bg U) (s_f U) N (s_fc U) (s_mp U) (s_ml U) (s_cx U) (s_xi U) np) (9 * (s_nd U))) (toldI (s_f1 U) (xiI fk fo st (s_n U) (s_nd U) (s_bg U) (s_f U) N (s_fc U) (s_mp U) (s_ml U) (s_cx U) (s_xi U) np) (9 * lbN (s_f U) (s_n U)))))))]) rfl ?_
  exact e_iret C hQ () (by exact hT) (by rfl) dX10_chance_18

set_option maxHeartbeats 400000 in
set_option maxRecDepth 100000 in
theorem c_X10_input_0 (l : Launch) (g : GT) (ad : Nat → Nat) (bd : Nat → Nat) (np : Nat) (fk : Nat → Int32) (fn : Nat → Int32) (fo : Nat → Int32) (st : Nat → Int32) (N : Nat) (U : SSt) (V : SSt) (code : Int64) (cp : Nat) (en : Bool) (no : Nat) (ou : Nat → Int32) (wl : Int64) (wh : Int64) (rl : Int64) (rh : Int64) (rr : Nat) (sd : Int32) (i : Int32) (hG : GI st N rr np fk fn) (hU : SI N U) (hsd : sd = 0) : OM (S := Unit) l g yX10_input cX10_input 4 (some .int) ({ frames := 4, cells := 0, slots := 0, locals := 87 } : Room) [.ref (bd 1), .int sd, .int i] (cmL g ad bd np fk fn fo st N (s_n U) (s_nd U) (s_bg U) (s_f U) (s_fc U) (s_fs U) (s_r0 U) (s_t0 U) (s_f0 U) (s_r1 U) (s_t1 U) (s_f1 U) (s_nr U) (s_fx U) (s_mp U) (s_ml U) (s_cx U) (s_xi U) (s_n V) (s_nd V) (s_bg V) (s_f V) (s_fc V) (s_fs V) (s_r0 V) (s_t0 V) (s_f0 V) (s_r1 V) (s_t1 V) (s_f1 V) (s_nr V) (s_fx V) (s_mp V) (s_ml V) (s_cx V) (s_xi V) code cp en no ou wl wh rl rh) (fun _ => some (.int (if inR i np = true then inS st N fk fo U i.toNatClampNeg else (-9999)))) (fun _ => (cmL g ad bd np fk fn fo st N (s_n U) (s_nd U) (s_bg U) (s_f U) (s_fc U) (s_fs U) (s_r0 U) (s_t0 U) (s_f0 U) (s_r1 U) (s_t1 U) (s_f1 U) (s_nr U) (s_fx U) (s_mp U) (s_ml U) (s_cx U) (s_xi U) (s_n V) (s_nd V) (s_bg V) (s_f V) (s_fc V) (s_fs V) (s_r0 V) (s_t0 V) (s_f0 V) (s_r1 V) (s_t1 V) (s_f1 V) (s_nr V) (s_fx V) (s_mp V) (s_ml V) (s_cx V) (s_xi V) code cp en no ou wl wh rl rh)) := by
  refine OM.startQ (by decide) (Nat.le_of_ble_eq_true rfl) ?_
  intro p e s m below meth c A ls Q H locs hQ C hnm hl hT
  have hx := C.x
  have hb := C.b
  have hl : lv_has ls 4 [(0, .ref (bd 1)), (1, .int sd), (2, .int i)] := hl
  have hnp8 := hG.1
  refine lv_aload_n hx hb dX10_input_0 rfl (lv_at hl 0 rfl) ?_
  refine lv_iload_n hx hb dX10_input_1 rfl (lv_at hl 1 rfl) ?_
  have hM := c_X10_sideOf_0 l g ad bd np fk fn fo st N U V code cp en no ou wl wh rl rh sd (by first | assumption | omega)
  refine r_callRO (js := [0, 1, 2, 3, 4, 5, 6, 7, 8, 9, 10, 11, 12, 13, 14, 15, 16, 17, 18, 19, 20, 21, 22, 23, 24, 25, 26, 27, 28, 29, 30, 31, 32, 33, 34, 35, 36, 37, 38, 39, 40, 41, 42, 43, 44, 45, 46, 47, 48, 49, 50, 51, 52, 53, 54, 55, 56]) C hT (runV (js := [0, 1, 2, 3, 4, 5, 6, 7, 8, 9, 10, 11, 12, 13, 14, 15, 16, 17, 18, 19, 20, 21, 22, 23, 24, 25, 26, 27, 28, 29, 30, 31, 32, 33, 34, 35, 36, 37, 38, 39, 40, 41, 42, 43, 44, 45, 46, 47, 48, 49, 50, 51, 52, 53, 54, 55, 56]) (rm := ({ frames := 0, cells := 0, slots := 0, locals := 0 } : Room)) (As := [.int sd]) (n := 1) (q1 := 52) (rest := []) C hT hM rfl rfl k572 k574 s9 k1 k575 (by decide +kernel) rfl rfl rfl rfl (Nat.le_of_ble_eq_true rfl) hl.1 ⟨Nat.le_of_ble_eq_true rfl, Nat.le_of_ble_eq_true rfl⟩ ⟨Nat.le_of_ble_eq_true rfl, Nat.le_of_ble_eq_true rfl⟩ dX10_input_2) rfl rfl (fun u H locs hT => ?_)
  refine W.eq (g2 := F0 m 5 ls [.ref (ad 0)]) rfl ?_
  refine lv_astore_n (lv' := [(3, .ref (ad 0)), (0, .ref (bd 1)), (1, .int sd), (2, .int i)]) hx hb dX10_input_5 rfl hl (by decide) rfl (fun ls hl => ?_)
  refine lv_aload_n hx hb dX10_input_6 rfl (lv_at hl 0 rfl) ?_
  refine lv_ifnull hx hb dX10_input_7 ?_
  refine lv_aload_n hx hb dX10_input_10 rfl (lv_at hl 1 rfl) ?_
  refine gX10_23 C hT (q0 := 52) rfl dX10_input_11 ?_
  refine lv_iload_n hx hb dX10_input_14 rfl (lv_at hl 3 rfl) ?_
  have hM := c_X7_has l g (ad 1) (ad 2) (ad 3) (ad 4) np i
  refine r_callRO (js := [1]) C hT (runV (js := [1]) (rm := ({ frames := 0, cells := 0, slots := 0, locals := 0 } : Room)) (As := [.int i]) (n := 1) (q1 := 0) (rest := []) C hT hM rfl rfl k360 k361 k362 k4 k363 (by decide +kernel) rfl rfl rfl rfl (Nat.le_of_ble_eq_true rfl) hl.1 ⟨Nat.le_of_ble_eq_true rfl, Nat.le_of_ble_eq_true rfl⟩ ⟨Nat.le_of_ble_eq_true rfl, Nat.le_of_ble_eq_true rfl⟩ dX10_input_15) rfl rfl (fun u H locs hT => ?_)
  refine W.eq (g2 := F0 m 18 ls [.int (b01 (inR i np))]) rfl ?_
  refine lv_if_ne (tgt := 25) hx hb dX10_input_18 (by decide) (fun h_1 => ?_) (fun h_1 => ?_)
  · skip
    have h_1 := b01_t h_1
    obtain ⟨j, hj, vej⟩ := inR_of (by omega) h_1
    refine lv_aload_n hx hb dX10_input_25 rfl (lv_at hl 0 rfl) ?_
    refine lv_iload_n hx hb dX10_input_26 rfl (lv_at hl 3 rfl) ?_
    refine W.eq (g2 := F0 m 27 ls [.int (nI j), .ref (ad 0)]) (congrArg (fun z => F0 m 27 ls (.int z :: [.ref (ad 0)])) (vej)) ?_
    have hM := c_X8_inputOf l g ad np fk fn fo st (s_n U) (s_nd U) (s_bg U) (s_f U) N (s_fc U) (s_fs U) (s_r0 U) (s_t0 U) (s_f0 U) (s_r1 U) (s_t1 U) (s_f1 U) (s_nr U) (s_fx U) (s_mp U) (s_ml U) (s_cx U) (s_xi U) rr j hG.1 hU.1 hU.2.2.2.2.2.1 hU.2.2.2.2.2.2 hU.2.2.1 hG.2.1 hG.2.2.1 hU.2.2.2.1 hj
    have hT2 := hT.perm (perm_w (obC ad) (shL g ad np fk fn fo st) (prL g ad N (s_n U) (s_nd U) (s_bg U) (s_f U) (s_fc U) (s_fs U) (s_r0 U) (s_t0 U) (s_f0 U) (s_r1 U) (s_t1 U) (s_f1 U) (s_nr U) (s_fx U) (s_mp U) (s_ml U) (s_cx U) (s_xi U)) (obC (mixA ad bd) :: (prL g (mixA ad bd) N (s_n V) (s_nd V) (s_bg V) (s_f V) (s_fc V) (s_fs V) (s_r0 V) (s_t0 V) (s_f0 V) (s_r1 V) (s_t1 V) (s_f1 V) (s_nr V) (s_fx V) (s_mp V) (s_ml V) (s_cx V) (s_xi V) ++ exL g ad bd code cp en no ou wl wh rl rh)))
    refine r_callP (lc := sideL g ad np fk fn fo st (s_n U) (s_nd U) (s_bg U) (s_f U) N (s_fc U) (s_fs U) (s_r0 U) (s_t0 U) (s_f0 U) (s_r1 U) (s_t1 U) (s_f1 U) (s_nr U) (s_fx U) (s_mp U) (s_ml U) (s_cx U) (s_xi U)) (B := (obC (mixA ad bd) :: (prL g (mixA ad bd) N (s_n V) (s_nd V) (s_bg V) (s_f V) (s_fc V) (s_fs V) (s_r0 V) (s_t0 V) (s_f0 V) (s_r1 V) (s_t1 V) (s_f1 V) (s_nr V) (s_fx V) (s_mp V) (s_ml V) (s_cx V) (s_xi V) ++ exL g ad bd code cp en no ou wl wh rl rh))) (rm := ({ frames := 3, cells := 0, slots := 0, locals := 66 } : Room)) (As := [.int (nI j)]) (n := 1) (q1 := 0) (rest := []) C hT2 hM k580 k386 k387 k5 k388 (by decide +kernel) rfl rfl rfl rfl (Nat.le_of_ble_eq_true rfl) hl.1 ⟨Nat.le_of_ble_eq_true rfl, Nat.le_of_ble_eq_true rfl⟩ ⟨Nat.le_of_ble_eq_true rfl, Nat.le_of_ble_eq_true rfl⟩ dX10_input_27 (fun _ => sideL_fst.trans sideL_fst.symm) (fun u H locs hT => ?_)
    have hT : Wd g A s (cmL g ad bd np fk fn fo st N (s_n U) (s_nd U) (s_bg U) (s_f U) (s_fc U) (s_fs U) (s_r0 U) (s_t0 U) (s_f0 U) (s_r1 U) (s_t1 U) (s_f1 U) (s_nr U) (s_fx U) (s_mp U) (s_ml U) (s_cx U) (s_xi U) (s_n V) (s_nd V) (s_bg V) (s_f V) (s_fc V) (s_fs V) (s_r0 V) (s_t0 V) (s_f0 V) (s_r1 V) (s_t1 V) (s_f1 V) (s_nr V) (s_fx V) (s_mp V) (s_ml V) (s_cx V) (s_xi V) code cp en no ou wl wh rl rh) H locs := hT.perm (perm_w (obC ad) (shL g ad np fk fn fo st) (prL g ad N (s_n U) (s_nd U) (s_bg U) (s_f U) (s_fc U) (s_fs U) (s_r0 U) (s_t0 U) (s_f0 U) (s_r1 U) (s_t1 U) (s_f1 U) (s_nr U) (s_fx U) (s_mp U) (s_ml U) (s_cx U) (s_xi U)) (obC (mixA ad bd) :: (prL g (mixA ad bd) N (s_n V) (s_nd V) (s_bg V) (s_f V) (s_fc V) (s_fs V) (s_r0 V) (s_t0 V) (s_f0 V) (s_r1 V) (s_t1 V) (s_f1 V) (s_nr V) (s_fx V) (s_mp V) (s_ml V) (s_cx V) (s_xi V) ++ exL g ad bd code cp en no ou wl wh rl rh))).symm
    refine W.eq (g2 := F0 m 30 ls [.int (inI fk fo st (s_n U) (s_nd U) (s_bg U) (s_f U) N (s_fc U) (s_mp U) (s_ml U) (s_cx U) j)]) rfl ?_
    exact e_iret C hQ () hT (by rw [if_pos h_1, vej, nI_clamp (by omega)]; rfl) dX10_input_30
  · skip
    have h_1 := b01_f h_1
    refine lv_sipush (v := (-9999)) hx hb dX10_input_21 (by decide) ?_
    exact e_iret C hQ () hT (by rw [if_neg (by rw [h_1]; decide)]) dX10_input_24

set_option maxHeartbeats 400000 in
set_option maxRecDepth 100000 in
theorem c_X10_weight_0 (l : Launch) (g : GT) (ad : Nat → Nat) (bd : Nat → Nat) (np : Nat) (fk : Nat → Int32) (fn : Nat → Int32) (fo : Nat → Int32) (st : Nat → Int32) (N : Nat) (U : SSt) (V : SSt) (code : Int64) (cp : Nat) (en : Bool) (no : Nat) (ou : Nat → Int32) (wl : Int64) (wh : Int64) (rl : Int64) (rh : Int64) (sd : Int32) (mx : Int32) (se : Int32) (i : Int32) (hnp : np ≤ 8) (hsd : sd = 0) : OM (S := Unit) l g yX10_weight cX10_weight 7 (some .int) ({ frames := 3, cells := 0, slots := 0, locals := 67 } : Room) [.ref (bd 1), .int sd, .int mx, .int se, .int i] (cmL g ad bd np fk fn fo st N (s_n U) (s_nd U) (s_bg U) (s_f U) (s_fc U) (s_fs U) (s_r0 U) (s_t0 U) (s_f0 U) (s_r1 U) (s_t1 U) (s_f1 U) (s_nr U) (s_fx U) (s_mp U) (s_ml U) (s_cx U) (s_xi U) (s_n V) (s_nd V) (s_bg V) (s_f V) (s_fc V) (s_fs V) (s_r0 V) (s_t0 V) (s_f0 V) (s_r1 V) (s_t1 V) (s_f1 V) (s_nr V) (s_fx V) (s_mp V) (s_ml V) (s_cx V) (s_xi V) code cp en no ou wl wh rl rh) (fun _ => some (.int (weI (s_f0 U) (s_f1 U) np mx se i))) (fun _ => (cmL g ad bd np fk fn fo st N (s_n U) (s_nd U) (s_bg U) (s_f U) (s_fc U) (s_fs U) (s_r0 U) (s_t0 U) (s_f0 U) (s_r1 U) (s_t1 U) (s_f1 U) (s_nr U) (s_fx U) (s_mp U) (s_ml U) (s_cx U) (s_xi U) (s_n V) (s_nd V) (s_bg V) (s_f V) (s_fc V) (s_fs V) (s_r0 V) (s_t0 V) (s_f0 V) (s_r1 V) (s_t1 V) (s_f1 V) (s_nr V) (s_fx V) (s_mp V) (s_ml V) (s_cx V) (s_xi V) code cp en no ou wl wh rl rh)) := by
  refine OM.startQ (by decide) (Nat.le_of_ble_eq_true rfl) ?_
  intro p e s m below meth c A ls Q H locs hQ C hnm hl hT
  have hx := C.x
  have hb := C.b
  have hl : lv_has ls 7 [(0, .ref (bd 1)), (1, .int sd), (2, .int mx), (3, .int se), (4, .int i)] := hl
  refine lv_aload_n hx hb dX10_weight_0 rfl (lv_at hl 0 rfl) ?_
  refine lv_iload_n hx hb dX10_weight_1 rfl (lv_at hl 1 rfl) ?_
  have hM := c_X10_sideOf_0 l g ad bd np fk fn fo st N U V code cp en no ou wl wh rl rh sd (by first | assumption | omega)
  refine r_callRO (js := [0, 1, 2, 3, 4, 5, 6, 7, 8, 9, 10, 11, 12, 13, 14, 15, 16, 17, 18, 19, 20, 21, 22, 23, 24, 25, 26, 27, 28, 29, 30, 31, 32, 33, 34, 35, 36, 37, 38, 39, 40, 41, 42, 43, 44, 45, 46, 47, 48, 49, 50, 51, 52, 53, 54, 55, 56]) C hT (runV (js := [0, 1, 2, 3, 4, 5, 6, 7, 8, 9, 10, 11, 12, 13, 14, 15, 16, 17, 18, 19, 20, 21, 22, 23, 24, 25, 26, 27, 28, 29, 30, 31, 32, 33, 34, 35, 36, 37, 38, 39, 40, 41, 42, 43, 44, 45, 46, 47, 48, 49, 50, 51, 52, 53, 54, 55, 56]) (rm := ({ frames := 0, cells := 0, slots := 0, locals := 0 } : Room)) (As := [.int sd]) (n := 1) (q1 := 52) (rest := []) C hT hM rfl rfl k572 k574 s9 k1 k575 (by decide +kernel) rfl rfl rfl rfl (Nat.le_of_ble_eq_true rfl) hl.1 ⟨Nat.le_of_ble_eq_true rfl, Nat.le_of_ble_eq_true rfl⟩ ⟨Nat.le_of_ble_eq_true rfl, Nat.le_of_ble_eq_true rfl⟩ dX10_weight_2) rfl rfl (fun u H locs hT => ?_)
  refine W.eq (g2 := F0 m 5 ls [.ref (ad 0)]) rfl ?_
  refine lv_astore (lv' := [(5, .ref (ad 0)), (0, .ref (bd 1)), (1, .int sd), (2, .int mx), (3, .int se), (4, .int i)]) hx hb dX10_weight_5 hl (by decide) rfl (fun ls hl => ?_)
  refine lv_aload hx hb dX10_weight_7 (lv_at hl 0 rfl) ?_
  refine lv_ifnull hx hb dX10_weight_9 ?_
  refine lv_iload_n hx hb dX10_weight_12 rfl (lv_at hl 3 rfl) ?_
  refine lv_if_lt (tgt := 32) hx hb dX10_weight_13 (by decide) (fun h_1 => ?_) (fun h_1 => ?_)
  · skip
    refine lv_ldc (v := (-2000000)) hx hb C.ow (C.ts _ k585) dX10_weight_32 ?_
    exact e_iret C hQ () hT (by unfold weI; first | (rw [if_pos h_1]; done) | (rw [if_neg h_1, if_pos h_1]; done) | (rw [if_neg h_1, if_neg h_1, if_pos h_1]; done) | (rw [if_neg h_1, if_neg h_1, if_neg h_1, if_pos h_1])) dX10_weight_34
  · skip
    refine lv_iload_n hx hb dX10_weight_16 rfl (lv_at hl 3 rfl) ?_
    refine lv_iconst (v := 1) hx hb dX10_weight_17 (by decide) ?_
    refine lv_icmp_gt (tgt := 32) hx hb dX10_weight_18 (by decide) (fun h_2 => ?_) (fun h_2 => ?_)
    · skip
      refine lv_ldc (v := (-2000000)) hx hb C.ow (C.ts _ k585) dX10_weight_32 ?_
      exact e_iret C hQ () hT (by unfold weI; first | (rw [if_pos h_1]; done) | (rw [if_neg h_1, if_pos h_2]; done) | (rw [if_neg h_1, if_neg h_2, if_pos h_2]; done) | (rw [if_neg h_1, if_neg h_2, if_neg h_2, if_pos h_2])) dX10_weight_34
    · skip
      refine lv_iload_n hx hb dX10_weight_21 rfl (lv_at hl 4 rfl) ?_
      refine lv_if_lt (tgt := 32) hx hb dX10_weight_22 (by decide) (fun h_3 => ?_) (fun h_3 => ?_)
      · skip
        refine lv_ldc (v := (-2000000)) hx hb C.ow (C.ts _ k585) dX10_weight_32 ?_
        exact e_iret C hQ () hT (by unfold weI; first | (rw [if_pos h_1]; done) | (rw [if_neg h_1, if_pos h_2]; done) | (rw [if_neg h_1, if_neg h_2, if_pos h_3]; done) | (rw [if_neg h_1, if_neg h_2, if_neg h_3, if_pos h_3])) dX10_weight_34
      · skip
        refine lv_iload_n hx hb dX10_weight_25 rfl (lv_at hl 4 rfl) ?_
        refine lv_sipush (v := 256) hx hb dX10_weight_26 (by decide) ?_
        refine lv_icmp_lt (tgt := 35) hx hb dX10_weight_29 (by decide) (fun h_4 => ?_) (fun h_4 => ?_)
        · skip
          obtain ⟨k, hk, vek⟩ := set_of h_3 h_4
          refine lv_iload_n hx hb dX10_weight_35 rfl (lv_at hl 3 rfl) ?_
          refine lv_if_ne (tgt := 47) hx hb dX10_weight_36 (by decide) (fun h_5 => ?_) (fun h_5 => ?_)
          · skip
            refine lv_aload hx hb dX10_weight_47 (lv_at hl 0 rfl) ?_
            refine gX10_149 C hT (q0 := 0) rfl dX10_weight_49 ?_
            refine lv_astore (lv' := [(6, .ref (ad 14)), (5, .ref (ad 0)), (0, .ref (bd 1)), (1, .int sd), (2, .int mx), (3, .int se), (4, .int i)]) hx hb dX10_weight_52 hl (by decide) rfl (fun ls hl => ?_)
            refine lv_iload hx hb dX10_weight_54 (lv_at hl 6 rfl) ?_
            refine lv_aload_n hx hb dX10_weight_56 rfl (lv_at hl 2 rfl) ?_
            refine gX10_23 C hT (q0 := 52) rfl dX10_weight_57 ?_
            refine gX10_152 C hT (q0 := 1) rfl dX10_weight_60 ?_
            refine lv_icmp_ne (tgt := 75) hx hb dX10_weight_63 (by decide) (fun h_6 => ?_) (fun h_6 => ?_)
            · skip
              refine lv_aload_n hx hb dX10_weight_75 rfl (lv_at hl 2 rfl) ?_
              refine gX10_23 C hT (q0 := 52) rfl dX10_weight_76 ?_
              refine lv_iload hx hb dX10_weight_79 (lv_at hl 6 rfl) ?_
              have hM := c_X7_has l g (ad 1) (ad 2) (ad 3) (ad 4) np i
              refine r_callRO (js := [1]) C hT (runV (js := [1]) (rm := ({ frames := 0, cells := 0, slots := 0, locals := 0 } : Room)) (As := [.int i]) (n := 1) (q1 := 0) (rest := []) C hT hM rfl rfl k360 k361 k362 k4 k363 (by decide +kernel) rfl rfl rfl rfl (Nat.le_of_ble_eq_true rfl) hl.1 ⟨Nat.le_of_ble_eq_true rfl, Nat.le_of_ble_eq_true rfl⟩ ⟨Nat.le_of_ble_eq_true rfl, Nat.le_of_ble_eq_true rfl⟩ dX10_weight_81) rfl rfl (fun u H locs hT => ?_)
              refine W.eq (g2 := F0 m 84 ls [.int (b01 (inR i np))]) rfl ?_
              refine lv_if_eq (tgt := 98) hx hb dX10_weight_84 (by decide) (fun h_7 => ?_) (fun h_7 => ?_)
              · skip
                have h_7 := b01_f h_7
                refine lv_ldc (v := (-2000000)) hx hb C.ow (C.ts _ k585) dX10_weight_98 ?_
                exact e_iret C hQ () hT (by unfold weI; rw [if_neg h_1, if_neg h_2, if_neg h_3, if_neg (not_not_intro h_4), if_neg h_6]; first | (rw [if_pos h_7, vek, vej, nI_clamp (by omega), nI_clamp (by omega)]; first | (rw [if_pos h_5]; done) | (rw [if_neg h_5]; done)) | (rw [if_neg (by rw [h_7]; decide)])) dX10_weight_100
              · skip
                have h_7 := b01_t h_7
                obtain ⟨j, hj, vej⟩ := inR_of (by omega) h_7
                refine lv_aload hx hb dX10_weight_87 (lv_at hl 0 rfl) ?_
                refine lv_iload_n hx hb dX10_weight_89 rfl (lv_at hl 5 rfl) ?_
                refine W.eq (g2 := F0 m 90 ls [.int (nI k), .ref (ad 14)]) (congrArg (fun z => F0 m 90 ls (.int z :: [.ref (ad 14)])) (vek)) ?_
                refine lv_iload hx hb dX10_weight_90 (lv_at hl 6 rfl) ?_
                refine W.eq (g2 := F0 m 92 ls [.int (nI j), .int (nI k), .ref (ad 14)]) (congrArg (fun z => F0 m 92 ls (.int z :: [.int (nI k), .ref (ad 14)])) (vej)) ?_
                have hM := c_X4_weightAt l g (ad 14) (ad 15) (s_r1 U) (s_t1 U) (s_f1 U) k j (by first | assumption | omega) (by omega)
                refine r_callRO (js := [14, 15]) C hT (runV (js := [14, 15]) (rm := ({ frames := 2, cells := 0, slots := 0, locals := 45 } : Room)) (As := [.int (nI k), .int (nI j)]) (n := 2) (q1 := 0) (rest := []) C hT hM rfl rfl k586 k587 k588 k7 k589 (by decide +kernel) rfl rfl rfl rfl (Nat.le_of_ble_eq_true rfl) hl.1 ⟨Nat.le_of_ble_eq_true rfl, Nat.le_of_ble_eq_true rfl⟩ ⟨Nat.le_of_ble_eq_true rfl, Nat.le_of_ble_eq_true rfl⟩ dX10_weight_92) rfl rfl (fun u H locs hT => ?_)
                refine W.eq (g2 := F0 m 95 ls [.int ((s_f1 U) (9 * k + j))]) rfl ?_
                refine lv_goto (tgt := 100) hx hb dX10_weight_95 (by decide) ?_
                exact e_iret C hQ () hT (by unfold weI; rw [if_neg h_1, if_neg h_2, if_neg h_3, if_neg (not_not_intro h_4), if_neg h_6]; first | (rw [if_pos h_7, vek, vej, nI_clamp (by omega), nI_clamp (by omega)]; first | (rw [if_pos h_5]; done) | (rw [if_neg h_5]; done)) | (rw [if_neg (by rw [h_7]; decide)])) dX10_weight_100
            · skip
              refine lv_aload hx hb dX10_weight_66 (lv_at hl 0 rfl) ?_
              refine lv_iload_n hx hb dX10_weight_68 rfl (lv_at hl 5 rfl) ?_
              refine W.eq (g2 := F0 m 69 ls [.int (nI k), .ref (ad 14)]) (congrArg (fun z => F0 m 69 ls (.int z :: [.ref (ad 14)])) (vek)) ?_
              refine lv_bipush (v := 8) hx hb dX10_weight_69 (by decide) ?_
              refine W.eq (g2 := F0 m 71 ls [.int (nI 8), .int (nI k), .ref (ad 14)]) (congrArg (fun z => F0 m 71 ls (.int z :: [.int (nI k), .ref (ad 14)])) (rfl)) ?_
              have hM := c_X4_weightAt l g (ad 14) (ad 15) (s_r1 U) (s_t1 U) (s_f1 U) k 8 (by first | assumption | omega) (by decide)
              refine r_callRO (js := [14, 15]) C hT (runV (js := [14, 15]) (rm := ({ frames := 2, cells := 0, slots := 0, locals := 45 } : Room)) (As := [.int (nI k), .int (nI 8)]) (n := 2) (q1 := 0) (rest := []) C hT hM rfl rfl k586 k587 k588 k7 k589 (by decide +kernel) rfl rfl rfl rfl (Nat.le_of_ble_eq_true rfl) hl.1 ⟨Nat.le_of_ble_eq_true rfl, Nat.le_of_ble_eq_true rfl⟩ ⟨Nat.le_of_ble_eq_true rfl, Nat.le_of_ble_eq_true rfl⟩ dX10_weight_71) rfl rfl (fun u H locs hT => ?_)
              refine W.eq (g2 := F0 m 74 ls [.int ((s_f1 U) (9 * k + 8))]) rfl ?_
              exact e_iret C hQ () hT (by unfold weI; rw [if_neg h_1, if_neg h_2, if_neg h_3, if_neg (not_not_intro h_4), if_pos h_6, vek, nI_clamp (by omega)]; first | (rw [if_pos h_5]; done) | (rw [if_neg h_5])) dX10_weight_74
          · skip
            refine lv_aload hx hb dX10_weight_39 (lv_at hl 0 rfl) ?_
            refine gX10_145 C hT (q0 := 0) rfl dX10_weight_41 ?_
            refine lv_goto (tgt := 52) hx hb dX10_weight_44 (by decide) ?_
            refine lv_astore (lv' := [(6, .ref (ad 12)), (5, .ref (ad 0)), (0, .ref (bd 1)), (1, .int sd), (2, .int mx), (3, .int se), (4, .int i)]) hx hb dX10_weight_52 hl (by decide) rfl (fun ls hl => ?_)
            refine lv_iload hx hb dX10_weight_54 (lv_at hl 6 rfl) ?_
            refine lv_aload_n hx hb dX10_weight_56 rfl (lv_at hl 2 rfl) ?_
            refine gX10_23 C hT (q0 := 52) rfl dX10_weight_57 ?_
            refine gX10_152 C hT (q0 := 1) rfl dX10_weight_60 ?_
            refine lv_icmp_ne (tgt := 75) hx hb dX10_weight_63 (by decide) (fun h_8 => ?_) (fun h_8 => ?_)
            · skip
              refine lv_aload_n hx hb dX10_weight_75 rfl (lv_at hl 2 rfl) ?_
              refine gX10_23 C hT (q0 := 52) rfl dX10_weight_76 ?_
              refine lv_iload hx hb dX10_weight_79 (lv_at hl 6 rfl) ?_
              have hM := c_X7_has l g (ad 1) (ad 2) (ad 3) (ad 4) np i
              refine r_callRO (js := [1]) C hT (runV (js := [1]) (rm := ({ frames := 0, cells := 0, slots := 0, locals := 0 } : Room)) (As := [.int i]) (n := 1) (q1 := 0) (rest := []) C hT hM rfl rfl k360 k361 k362 k4 k363 (by decide +kernel) rfl rfl rfl rfl (Nat.le_of_ble_eq_true rfl) hl.1 ⟨Nat.le_of_ble_eq_true rfl, Nat.le_of_ble_eq_true rfl⟩ ⟨Nat.le_of_ble_eq_true rfl, Nat.le_of_ble_eq_true rfl⟩ dX10_weight_81) rfl rfl (fun u H locs hT => ?_)
              refine W.eq (g2 := F0 m 84 ls [.int (b01 (inR i np))]) rfl ?_
              refine lv_if_eq (tgt := 98) hx hb dX10_weight_84 (by decide) (fun h_9 => ?_) (fun h_9 => ?_)
              · skip
                have h_9 := b01_f h_9
                refine lv_ldc (v := (-2000000)) hx hb C.ow (C.ts _ k585) dX10_weight_98 ?_
                exact e_iret C hQ () hT (by unfold weI; rw [if_neg h_1, if_neg h_2, if_neg h_3, if_neg (not_not_intro h_4), if_neg h_8]; first | (rw [if_pos h_9, vek, vej, nI_clamp (by omega), nI_clamp (by omega)]; first | (rw [if_pos h_5]; done) | (rw [if_neg h_5]; done)) | (rw [if_neg (by rw [h_9]; decide)])) dX10_weight_100
              · skip
                have h_9 := b01_t h_9
                obtain ⟨j, hj, vej⟩ := inR_of (by omega) h_9
                refine lv_aload hx hb dX10_weight_87 (lv_at hl 0 rfl) ?_
                refine lv_iload_n hx hb dX10_weight_89 rfl (lv_at hl 5 rfl) ?_
                refine W.eq (g2 := F0 m 90 ls [.int (nI k), .ref (ad 12)]) (congrArg (fun z => F0 m 90 ls (.int z :: [.ref (ad 12)])) (vek)) ?_
                refine lv_iload hx hb dX10_weight_90 (lv_at hl 6 rfl) ?_
                refine W.eq (g2 := F0 m 92 ls [.int (nI j), .int (nI k), .ref (ad 12)]) (congrArg (fun z => F0 m 92 ls (.int z :: [.int (nI k), .ref (ad 12)])) (vej)) ?_
                have hM := c_X4_weightAt l g (ad 12) (ad 13) (s_r0 U) (s_t0 U) (s_f0 U) k j (by first | assumption | omega) (by omega)
                refine r_callRO (js := [12, 13]) C hT (runV (js := [12, 13]) (rm := ({ frames := 2, cells := 0, slots := 0, locals := 45 } : Room)) (As := [.int (nI k), .int (nI j)]) (n := 2) (q1 := 0) (rest := []) C hT hM rfl rfl k586 k587 k588 k7 k589 (by decide +kernel) rfl rfl rfl rfl (Nat.le_of_ble_eq_true rfl) hl.1 ⟨Nat.le_of_ble_eq_true rfl, Nat.le_of_ble_eq_true rfl⟩ ⟨Nat.le_of_ble_eq_true rfl, Nat.le_of_ble_eq_true rfl⟩ dX10_weight_92) rfl rfl (fun u H locs hT => ?_)
                refine W.eq (g2 := F0 m 95 ls [.int ((s_f0 U) (9 * k + j))]) rfl ?_
                refine lv_goto (tgt := 100) hx hb dX10_weight_95 (by decide) ?_
                exact e_iret C hQ () hT (by unfold weI; rw [if_neg h_1, if_neg h_2, if_neg h_3, if_neg (not_not_intro h_4), if_neg h_8]; first | (rw [if_pos h_9, vek, vej, nI_clamp (by omega), nI_clamp (by omega)]; first | (rw [if_pos h_5]; done) | (rw [if_neg h_5]; done)) | (rw [if_neg (by rw [h_9]; decide)])) dX10_weight_100
            · skip
              refine lv_aload hx hb dX10_weight_66 (lv_at hl 0 rfl) ?_
              refine lv_iload_n hx hb dX10_weight_68 rfl (lv_at hl 5 rfl) ?_
              refine W.eq (g2 := F0 m 69 ls [.int (nI k), .ref (ad 12)]) (congrArg (fun z => F0 m 69 ls (.int z :: [.ref (ad 12)])) (vek)) ?_
              refine lv_bipush (v := 8) hx hb dX10_weight_69 (by decide) ?_
              refine W.eq (g2 := F0 m 71 ls [.int (nI 8), .int (nI k), .ref (ad 12)]) (congrArg (fun z => F0 m 71 ls (.int z :: [.int (nI k), .ref (ad 12)])) (rfl)) ?_
              have hM := c_X4_weightAt l g (ad 12) (ad 13) (s_r0 U) (s_t0 U) (s_f0 U) k 8 (by first | assumption | omega) (by decide)
              refine r_callRO (js := [12, 13]) C hT (runV (js := [12, 13]) (rm := ({ frames := 2, cells := 0, slots := 0, locals := 45 } : Room)) (As := [.int (nI k), .int (nI 8)]) (n := 2) (q1 := 0) (rest := []) C hT hM rfl rfl k586 k587 k588 k7 k589 (by decide +kernel) rfl rfl rfl rfl (Nat.le_of_ble_eq_true rfl) hl.1 ⟨Nat.le_of_ble_eq_true rfl, Nat.le_of_ble_eq_true rfl⟩ ⟨Nat.le_of_ble_eq_true rfl, Nat.le_of_ble_eq_true rfl⟩ dX10_weight_71) rfl rfl (fun u H locs hT => ?_)
              refine W.eq (g2 := F0 m 74 ls [.int ((s_f0 U) (9 * k + 8))]) rfl ?_
              exact e_iret C hQ () hT (by unfold weI; rw [if_neg h_1, if_neg h_2, if_neg h_3, if_neg (not_not_intro h_4), if_pos h_8, vek, nI_clamp (by omega)]; first | (rw [if_pos h_5]; done) | (rw [if_neg h_5])) dX10_weight_74
        · skip
          refine lv_ldc (v := (-2000000)) hx hb C.ow (C.ts _ k585) dX10_weight_32 ?_
          exact e_iret C hQ () hT (by unfold weI; first | (rw [if_pos h_1]; done) | (rw [if_neg h_1, if_pos h_2]; done) | (rw [if_neg h_1, if_neg h_2, if_pos h_3]; done) | (rw [if_neg h_1, if_neg h_2, if_neg h_3, if_pos h_4])) dX10_weight_34

set_option maxHeartbeats 400000 in
set_option maxRecDepth 100000 in
theorem c_X10_seen_0 (l : Launch) (g : GT) (ad : Nat → Nat) (bd : Nat → Nat) (np : Nat) (fk : Nat → Int32) (fn : Nat → Int32) (fo : Nat → Int32) (st : Nat → Int32) (N : Nat) (U : SSt) (V : SSt) (code : Int64) (cp : Nat) (en : Bool) (no : Nat) (ou : Nat → Int32) (wl : Int64) (wh : Int64) (rl : Int64) (rh : Int64) (sd : Int32) (i : Int32) (hN31 : N < 2 ^ 31) (hsd : sd = 0) : OM (S := Unit) l g yX10_seen cX10_seen 4 (some .int) ({ frames := 1, cells := 0, slots := 0, locals := 21 } : Room) [.ref (bd 1), .int sd, .int i] (cmL g ad bd np fk fn fo st N (s_n U) (s_nd U) (s_bg U) (s_f U) (s_fc U) (s_fs U) (s_r0 U) (s_t0 U) (s_f0 U) (s_r1 U) (s_t1 U) (s_f1 U) (s_nr U) (s_fx U) (s_mp U) (s_ml U) (s_cx U) (s_xi U) (s_n V) (s_nd V) (s_bg V) (s_f V) (s_fc V) (s_fs V) (s_r0 V) (s_t0 V) (s_f0 V) (s_r1 V) (s_t1 V) (s_f1 V) (s_nr V) (s_fx V) (s_mp V) (s_ml V) (s_cx V) (s_xi V) code cp en no ou wl wh rl rh) (fun _ => some (.int (if inR i N = true then s_fs U i.toNatClampNeg else (-1)))) (fun _ => (cmL g ad bd np fk fn fo st N (s_n U) (s_nd U) (s_bg U) (s_f U) (s_fc U) (s_fs U) (s_r0 U) (s_t0 U) (s_f0 U) (s_r1 U) (s_t1 U) (s_f1 U) (s_nr U) (s_fx U) (s_mp U) (s_ml U) (s_cx U) (s_xi U) (s_n V) (s_nd V) (s_bg V) (s_f V) (s_fc V) (s_fs V) (s_r0 V) (s_t0 V) (s_f0 V) (s_r1 V) (s_t1 V) (s_f1 V) (s_nr V) (s_fx V) (s_mp V) (s_ml V) (s_cx V) (s_xi V) code cp en no ou wl wh rl rh)) := by
  refine OM.startQ (by decide) (Nat.le_of_ble_eq_true rfl) ?_
  intro p e s m below meth c A ls Q H locs hQ C hnm hl hT
  have hx := C.x
  have hb := C.b
  have hl : lv_has ls 4 [(0, .ref (bd 1)), (1, .int sd), (2, .int i)] := hl
  refine lv_aload_n hx hb dX10_seen_0 rfl (lv_at hl 0 rfl) ?_
  refine lv_iload_n hx hb dX10_seen_1 rfl (lv_at hl 1 rfl) ?_
  have hM := c_X10_sideOf_0 l g ad bd np fk fn fo st N U V code cp en no ou wl wh rl rh sd (by first | assumption | omega)
  refine r_callRO (js := [0, 1, 2, 3, 4, 5, 6, 7, 8, 9, 10, 11, 12, 13, 14, 15, 16, 17, 18, 19, 20, 21, 22, 23, 24, 25, 26, 27, 28, 29, 30, 31, 32, 33, 34, 35, 36, 37, 38, 39, 40, 41, 42, 43, 44, 45, 46, 47, 48, 49, 50, 51, 52, 53, 54, 55, 56]) C hT (runV (js := [0, 1, 2, 3, 4, 5, 6, 7, 8, 9, 10, 11, 12, 13, 14, 15, 16, 17, 18, 19, 20, 21, 22, 23, 24, 25, 26, 27, 28, 29, 30, 31, 32, 33, 34, 35, 36, 37, 38, 39, 40, 41, 42, 43, 44, 45, 46, 47, 48, 49, 50, 51, 52, 53, 54, 55, 56]) (rm := ({ frames := 0, cells := 0, slots := 0, locals := 0 } : Room)) (As := [.int sd]) (n := 1) (q1 := 52) (rest := []) C hT hM rfl rfl k572 k574 s9 k1 k575 (by decide +kernel) rfl rfl rfl rfl (Nat.le_of_ble_eq_true rfl) hl.1 ⟨Nat.le_of_ble_eq_true rfl, Nat.le_of_ble_eq_true rfl⟩ ⟨Nat.le_of_ble_eq_true rfl, Nat.le_of_ble_eq_true rfl⟩ dX10_seen_2) rfl rfl (fun u H locs hT => ?_)
  refine W.eq (g2 := F0 m 5 ls [.ref (ad 0)]) rfl ?_
  refine lv_astore_n (lv' := [(3, .ref (ad 0)), (0, .ref (bd 1)), (1, .int sd), (2, .int i)]) hx hb dX10_seen_5 rfl hl (by decide) rfl (fun ls hl => ?_)
  refine lv_aload_n hx hb dX10_seen_6 rfl (lv_at hl 0 rfl) ?_
  refine lv_ifnull hx hb dX10_seen_7 ?_
  refine lv_aload_n hx hb dX10_seen_10 rfl (lv_at hl 0 rfl) ?_
  refine gX10_156 C hT (q0 := 0) rfl dX10_seen_11 ?_
  refine lv_iload_n hx hb dX10_seen_14 rfl (lv_at hl 3 rfl) ?_
  have hM := c_X9_has l g (ad 9) (ad 10) (ad 11) N (s_fc U) i
  refine r_callRO (js := [9, 10]) C hT (runV (js := [9, 10]) (rm := ({ frames := 0, cells := 0, slots := 0, locals := 0 } : Room)) (As := [.int i]) (n := 1) (q1 := 0) (rest := []) C hT hM rfl rfl k594 k478 k479 k11 k480 (by decide +kernel) rfl rfl rfl rfl (Nat.le_of_ble_eq_true rfl) hl.1 ⟨Nat.le_of_ble_eq_true rfl, Nat.le_of_ble_eq_true rfl⟩ ⟨Nat.le_of_ble_eq_true rfl, Nat.le_of_ble_eq_true rfl⟩ dX10_seen_15) rfl rfl (fun u H locs hT => ?_)
  refine W.eq (g2 := F0 m 18 ls [.int (b01 (inR i N))]) rfl ?_
  refine lv_if_ne (tgt := 23) hx hb dX10_seen_18 (by decide) (fun h_1 => ?_) (fun h_1 => ?_)
  · skip
    have h_1 := b01_t h_1
    obtain ⟨j, hj, vej⟩ := inR_of hN31 h_1
    refine lv_aload_n hx hb dX10_seen_23 rfl (lv_at hl 0 rfl) ?_
    refine gX10_156 C hT (q0 := 0) rfl dX10_seen_24 ?_
    refine gX10_174 C hT (q0 := 9) rfl dX10_seen_27 ?_
    refine lv_iload_n hx hb dX10_seen_30 rfl (lv_at hl 3 rfl) ?_
    refine r_iald C hT (q0 := 11) rfl j vej hj (by omega) dX10_seen_31 ?_
    exact e_iret C hQ () hT (by rw [if_pos h_1, vej, nI_clamp (by omega)]) dX10_seen_32
  · skip
    have h_1 := b01_f h_1
    refine lv_iconst (v := (-1)) hx hb dX10_seen_21 (by decide) ?_
    exact e_iret C hQ () hT (by rw [if_neg (by rw [h_1]; decide)]) dX10_seen_22

set_option maxHeartbeats 400000 in
set_option maxRecDepth 100000 in
theorem c_X10_cell_0 (l : Launch) (g : GT) (ad : Nat → Nat) (bd : Nat → Nat) (np : Nat) (fk : Nat → Int32) (fn : Nat → Int32) (fo : Nat → Int32) (st : Nat → Int32) (N : Nat) (U : SSt) (V : SSt) (code : Int64) (cp : Nat) (en : Bool) (no : Nat) (ou : Nat → Int32) (wl : Int64) (wh : Int64) (rl : Int64) (rh : Int64) (sd : Int32) (nn : Int32) (j : Int32) (hsd : sd = 0) : OM (S := Unit) l g yX10_cell cX10_cell 6 (some .int) ({ frames := 2, cells := 0, slots := 0, locals := 43 } : Room) [.ref (bd 1), .int sd, .int nn, .int j] (cmL g ad bd np fk fn fo st N (s_n U) (s_nd U) (s_bg U) (s_f U) (s_fc U) (s_fs U) (s_r0 U) (s_t0 U) (s_f0 U) (s_r1 U) (s_t1 U) (s_f1 U) (s_nr U) (s_fx U) (s_mp U) (s_ml U) (s_cx U) (s_xi U) (s_n V) (s_nd V) (s_bg V) (s_f V) (s_fc V) (s_fs V) (s_r0 V) (s_t0 V) (s_f0 V) (s_r1 V) (s_t1 V) (s_f1 V) (s_nr V) (s_fx V) (s_mp V) (s_ml V) (s_cx V) (s_xi V) code cp en no ou wl wh rl rh) (fun _ => some (.int (if cellB nn j = true then sgnI (s_fx U (33 * nn.toNatClampNeg + j.toNatClampNeg)) else 40000))) (fun _ => (cmL g ad bd np fk fn fo st N (s_n U) (s_nd U) (s_bg U) (s_f U) (s_fc U) (s_fs U) (s_r0 U) (s_t0 U) (s_f0 U) (s_r1 U) (s_t1 U) (s_f1 U) (s_nr U) (s_fx U) (s_mp U) (s_ml U) (s_cx U) (s_xi U) (s_n V) (s_nd V) (s_bg V) (s_f V) (s_fc V) (s_fs V) (s_r0 V) (s_t0 V) (s_f0 V) (s_r1 V) (s_t1 V) (s_f1 V) (s_nr V) (s_fx V) (s_mp V) (s_ml V) (s_cx V) (s_xi V) code cp en no ou wl wh rl rh)) := by
  refine OM.startQ (by decide) (Nat.le_of_ble_eq_true rfl) ?_
  intro p e s m below meth c A ls Q H locs hQ C hnm hl hT
  have hx := C.x
  have hb := C.b
  have hl : lv_has ls 6 [(0, .ref (bd 1)), (1, .int sd), (2, .int nn), (3, .int j)] := hl
  refine lv_aload_n hx hb dX10_cell_0 rfl (lv_at hl 0 rfl) ?_
  refine lv_iload_n hx hb dX10_cell_1 rfl (lv_at hl 1 rfl) ?_
  have hM := c_X10_sideOf_0 l g ad bd np fk fn fo st N U V code cp en no ou wl wh rl rh sd (by first | assumption | omega)
  refine r_callRO (js := [0, 1, 2, 3, 4, 5, 6, 7, 8, 9, 10, 11, 12, 13, 14, 15, 16, 17, 18, 19, 20, 21, 22, 23, 24, 25, 26, 27, 28, 29, 30, 31, 32, 33, 34, 35, 36, 37, 38, 39, 40, 41, 42, 43, 44, 45, 46, 47, 48, 49, 50, 51, 52, 53, 54, 55, 56]) C hT (runV (js := [0, 1, 2, 3, 4, 5, 6, 7, 8, 9, 10, 11, 12, 13, 14, 15, 16, 17, 18, 19, 20, 21, 22, 23, 24, 25, 26, 27, 28, 29, 30, 31, 32, 33, 34, 35, 36, 37, 38, 39, 40, 41, 42, 43, 44, 45, 46, 47, 48, 49, 50, 51, 52, 53, 54, 55, 56]) (rm := ({ frames := 0, cells := 0, slots := 0, locals := 0 } : Room)) (As := [.int sd]) (n := 1) (q1 := 52) (rest := []) C hT hM rfl rfl k572 k574 s9 k1 k575 (by decide +kernel) rfl rfl rfl rfl (Nat.le_of_ble_eq_true rfl) hl.1 ⟨Nat.le_of_ble_eq_true rfl, Nat.le_of_ble_eq_true rfl⟩ ⟨Nat.le_of_ble_eq_true rfl, Nat.le_of_ble_eq_true rfl⟩ dX10_cell_2) rfl rfl (fun u H locs hT => ?_)
  refine W.eq (g2 := F0 m 5 ls [.ref (ad 0)]) rfl ?_
  refine lv_astore (lv' := [(4, .ref (ad 0)), (0, .ref (bd 1)), (1, .int sd), (2, .int nn), (3, .int j)]) hx hb dX10_cell_5 hl (by decide) rfl (fun ls hl => ?_)
  refine lv_aload hx hb dX10_cell_7 (lv_at hl 0 rfl) ?_
  refine lv_ifnull hx hb dX10_cell_9 ?_
  refine lv_iload_n hx hb dX10_cell_12 rfl (lv_at hl 3 rfl) ?_
  refine lv_iload_n hx hb dX10_cell_13 rfl (lv_at hl 4 rfl) ?_
  have hM := c_X1_has l g nn j
  refine r_callRO (js := []) C hT (runS (js := []) (rm := ({ frames := 0, cells := 0, slots := 0, locals := 0 } : Room)) (As := [.int nn, .int j]) (n := 2) (rest := []) C hT hM rfl rfl k599 k429 k9 k430 (by decide +kernel) rfl rfl (Nat.le_of_ble_eq_true rfl) hl.1 ⟨Nat.le_of_ble_eq_true rfl, Nat.le_of_ble_eq_true rfl⟩ ⟨Nat.le_of_ble_eq_true rfl, Nat.le_of_ble_eq_true rfl⟩ dX10_cell_14) rfl rfl (fun u H locs hT => ?_)
  refine W.eq (g2 := F0 m 17 ls [.int (b01 (cellB nn j))]) rfl ?_
  refine lv_if_ne (tgt := 23) hx hb dX10_cell_17 (by decide) (fun h_1 => ?_) (fun h_1 => ?_)
  · skip
    have h_1 := b01_t h_1
    obtain ⟨k, t, hk, ht, vek, vet⟩ := cellB_of h_1
    refine lv_aload hx hb dX10_cell_23 (lv_at hl 0 rfl) ?_
    refine gX10_182 C hT (q0 := 0) rfl dX10_cell_25 ?_
    refine lv_iload_n hx hb dX10_cell_28 rfl (lv_at hl 3 rfl) ?_
    refine W.eq (g2 := F0 m 29 ls [.int (nI k), .ref (ad 16)]) (congrArg (fun z => F0 m 29 ls (.int z :: [.ref (ad 16)])) (vek)) ?_
    refine lv_iload_n hx hb dX10_cell_29 rfl (lv_at hl 4 rfl) ?_
    refine W.eq (g2 := F0 m 30 ls [.int (nI t), .int (nI k), .ref (ad 16)]) (congrArg (fun z => F0 m 30 ls (.int z :: [.int (nI k), .ref (ad 16)])) (vet)) ?_
    have hM := c_X1_cellAt l g (ad 16) (ad 17) (s_nr U) (s_fx U) k t (by first | assumption | omega) (by first | assumption | omega)
    refine r_callRO (js := [16, 17]) C hT (runV (js := [16, 17]) (rm := ({ frames := 1, cells := 0, slots := 0, locals := 21 } : Room)) (As := [.int (nI k), .int (nI t)]) (n := 2) (q1 := 0) (rest := []) C hT hM rfl rfl k601 k425 k426 k9 k427 (by decide +kernel) rfl rfl rfl rfl (Nat.le_of_ble_eq_true rfl) hl.1 ⟨Nat.le_of_ble_eq_true rfl, Nat.le_of_ble_eq_true rfl⟩ ⟨Nat.le_of_ble_eq_true rfl, Nat.le_of_ble_eq_true rfl⟩ dX10_cell_30) rfl rfl (fun u H locs hT => ?_)
    refine W.eq (g2 := F0 m 33 ls [.int ((s_fx U) (33 * k + t))]) rfl ?_
    refine lv_istore (lv' := [(5, .int ((s_fx U) (33 * k + t))), (4, .ref (ad 0)), (0, .ref (bd 1)), (1, .int sd), (2, .int nn), (3, .int j)]) hx hb dX10_cell_33 hl (by decide) rfl (fun ls hl => ?_)
    refine lv_iload hx hb dX10_cell_35 (lv_at hl 0 rfl) ?_
    refine lv_sipush (v := 32767) hx hb dX10_cell_37 (by decide) ?_
    refine lv_icmp_le (tgt := 51) hx hb dX10_cell_40 (by decide) (fun h_2 => ?_) (fun h_2 => ?_)
    · skip
      refine lv_iload hx hb dX10_cell_51 (lv_at hl 0 rfl) ?_
      exact e_iret C hQ () hT (by rw [if_pos h_1, vek, vet, nI_clamp (by omega), nI_clamp (by omega), sgnI]; first | (rw [if_pos h_2]; done) | (rw [if_neg h_2])) dX10_cell_53
    · skip
      refine lv_iload hx hb dX10_cell_43 (lv_at hl 0 rfl) ?_
      refine lv_ldc (v := 65536) hx hb C.ow (C.ts _ k602) dX10_cell_45 ?_
      refine lv_isub hx hb dX10_cell_47 ?_
      refine lv_goto (tgt := 53) hx hb dX10_cell_48 (by decide) ?_
      exact e_iret C hQ () hT (by rw [if_pos h_1, vek, vet, nI_clamp (by omega), nI_clamp (by omega), sgnI]; first | (rw [if_pos h_2]; done) | (rw [if_neg h_2])) dX10_cell_53
  · skip
    have h_1 := b01_f h_1
    refine lv_ldc (v := 40000) hx hb C.ow (C.ts _ k600) dX10_cell_20 ?_
    exact e_iret C hQ () hT (by rw [if_neg (by rw [h_1]; decide)]) dX10_cell_22

set_option maxHeartbeats 400000 in
set_option maxRecDepth 100000 in
theorem c_X10_chance_1 (l : Launch) (g : GT) (ad : Nat → Nat) (bd : Nat → Nat) (np : Nat) (fk : Nat → Int32) (fn : Nat → Int32) (fo : Nat → Int32) (st : Nat → Int32) (N : Nat) (U : SSt) (V : SSt) (code : Int64) (cp : Nat) (en : Bool) (no : Nat) (ou : Nat → Int32) (wl : Int64) (wh : Int64) (rl : Int64) (rh : Int64) (rr : Nat) (sd : Int32) (hG : GI st N rr np fk fn) (hV : SI N V) (hsd : sd = 1) : OM (S := Unit) l g yX10_chance cX10_chance 3 (some .int) ({ frames := 5, cells := 0, slots := 0, locals := 110 } : Room) [.ref (bd 1), .int sd] (cmL g ad bd np fk fn fo st N (s_n U) (s_nd U) (s_bg U) (s_f U) (s_fc U) (s_fs U) (s_r0 U) (s_t0 U) (s_f0 U) (s_r1 U) (s_t1 U) (s_f1 U) (s_nr U) (s_fx U) (s_mp U) (s_ml U) (s_cx U) (s_xi U) (s_n V) (s_nd V) (s_bg V) (s_f V) (s_fc V) (s_fs V) (s_r0 V) (s_t0 V) (s_f0 V) (s_r1 V) (s_t1 V) (s_f1 V) (s_nr V) (s_fx V) (s_mp V) (s_ml V) (s_cx V) (s_xi V) code cp en no ou wl wh rl rh) (fun _ => some (.int (chS st N np fk fo V))) (fun _ => (cmL g ad bd np fk fn fo st N (s_n U) (s_nd U) (s_bg U) (s_f U) (s_fc U) (s_fs U) (s_r0 U) (s_t0 U) (s_f0 U) (s_r1 U) (s_t1 U) (s_f1 U) (s_nr U) (s_fx U) (s_mp U) (s_ml U) (s_cx U) (s_xi U) (s_n V) (s_nd V) (s_bg V) (s_f V) (s_fc V) (s_fs V) (nI (9 * s_nd V)) (t0S st N np fk fo V) (s_f0 V) (nI (9 * lbN (s_f V) (s_n V))) (t1S st N np fk fo V) (s_f1 V) (nI (nearN (s_nd V) (tN st (mxS st N np fk fo V)))) (s_fx V) (s_mp V) (s_ml V) (s_cx V) (xiS st N np fk fo V) code cp en no ou wl wh rl rh)) := by
  refine OM.startQ (by decide) (Nat.le_of_ble_eq_true rfl) ?_
  intro p e s m below meth c A ls Q H locs hQ C hnm hl hT
  have hx := C.x
  have hb := C.b
  have hl : lv_has ls 3 [(0, .ref (bd 1)), (1, .int sd)] := hl
  refine lv_aload_n hx hb dX10_chance_0 rfl (lv_at hl 0 rfl) ?_
  refine lv_iload_n hx hb dX10_chance_1 rfl (lv_at hl 1 rfl) ?_
  have hM := c_X10_sideOf_1 l g ad bd np fk fn fo st N U V code cp en no ou wl wh rl rh sd (by first | assumption | omega)
  refine r_callRO (js := [0, 1, 2, 3, 4, 5, 6, 7, 8, 9, 10, 11, 12, 13, 14, 15, 16, 17, 18, 19, 20, 21, 22, 23, 24, 25, 26, 27, 28, 29, 30, 31, 32, 33, 34, 35, 36, 37, 38, 39, 40, 41, 42, 43, 44, 45, 46, 47, 48, 49, 50, 51, 52, 53, 54, 55, 56]) C hT (runV (js := [0, 1, 2, 3, 4, 5, 6, 7, 8, 9, 10, 11, 12, 13, 14, 15, 16, 17, 18, 19, 20, 21, 22, 23, 24, 25, 26, 27, 28, 29, 30, 31, 32, 33, 34, 35, 36, 37, 38, 39, 40, 41, 42, 43, 44, 45, 46, 47, 48, 49, 50, 51, 52, 53, 54, 55, 56]) (rm := ({ frames := 0, cells := 0, slots := 0, locals := 0 } : Room)) (As := [.int sd]) (n := 1) (q1 := 52) (rest := []) C hT hM rfl rfl k572 k574 s9 k1 k575 (by decide +kernel) rfl rfl rfl rfl (Nat.le_of_ble_eq_true rfl) hl.1 ⟨Nat.le_of_ble_eq_true rfl, Nat.le_of_ble_eq_true rfl⟩ ⟨Nat.le_of_ble_eq_true rfl, Nat.le_of_ble_eq_true rfl⟩ dX10_chance_2) rfl rfl (fun u H locs hT => ?_)
  refine W.eq (g2 := F0 m 5 ls [.ref (mixA ad bd 0)]) rfl ?_
  refine lv_astore_n (lv' := [(2, .ref (mixA ad bd 0)), (0, .ref (bd 1)), (1, .int sd)]) hx hb dX10_chance_5 rfl hl (by decide) rfl (fun ls hl => ?_)
  refine lv_aload_n hx hb dX10_chance_6 rfl (lv_at hl 0 rfl) ?_
  refine lv_ifnonnull (tgt := 14) hx hb dX10_chance_7 (by decide) ?_
  refine lv_aload_n hx hb dX10_chance_14 rfl (lv_at hl 0 rfl) ?_
  have hM := c_X8_foretell l g (mixA ad bd) np fk fn fo st (s_n V) (s_nd V) (s_bg V) (s_f V) N (s_fc V) (s_fs V) (s_r0 V) (s_t0 V) (s_f0 V) (s_r1 V) (s_t1 V) (s_f1 V) (s_nr V) (s_fx V) (s_mp V) (s_ml V) (s_cx V) (s_xi V) rr hG.1 hV.1 hV.2.2.2.2.2.1 hV.2.2.2.2.2.2 hV.2.2.1 hV.2.1 hG.2.1 hG.2.2.1 hV.2.2.2.1 hV.2.2.2.2.1 hG.2.2.2.2
  have hT2 := hT.perm (perm_r (obC ad) (obC (mixA ad bd)) (shL g ad np fk fn fo st) (prL g ad N (s_n U) (s_nd U) (s_bg U) (s_f U) (s_fc U) (s_fs U) (s_r0 U) (s_t0 U) (s_f0 U) (s_r1 U) (s_t1 U) (s_f1 U) (s_nr U) (s_fx U) (s_mp U) (s_ml U) (s_cx U) (s_xi U)) (prL g (mixA ad bd) N (s_n V) (s_nd V) (s_bg V) (s_f V) (s_fc V) (s_fs V) (s_r0 V) (s_t0 V) (s_f0 V) (s_r1 V) (s_t1 V) (s_f1 V) (s_nr V) (s_fx V) (s_mp V) (s_ml V) (s_cx V) (s_xi V)) (exL g ad bd code cp en no ou wl wh rl rh))
  refine r_callP (lc := sideL g (mixA ad bd) np fk fn fo st (s_n V) (s_nd V) (s_bg V) (s_f V) N (s_fc V) (s_fs V) (s_r0 V) (s_t0 V) (s_f0 V) (s_r1 V) (s_t1 V) (s_f1 V) (s_nr V) (s_fx V) (s_mp V) (s_ml V) (s_cx V) (s_xi V)) (B := (obC ad :: (prL g ad N (s_n U) (s_nd U) (s_bg U) (s_f U) (s_fc U) (s_fs U) (s_r0 U) (s_t0 U) (s_f0 U) (s_r1 U) (s_t1 U) (s_f1 U) (s_nr U) (s_fx U) (s_mp U) (s_ml U) (s_cx U) (s_xi U) ++ exL g ad bd code cp en no ou wl wh rl rh))) (rm := ({ frames := 4, cells := 0, slots := 0, locals := 87 } : Room)) (As := []) (n := 0) (q1 := 0) (rest := []) C hT2 hM k381 k382 k383 k5 k384 (by decide +kernel) rfl rfl rfl rfl (Nat.le_of_ble_eq_true rfl) hl.1 ⟨Nat.le_of_ble_eq_true rfl, Nat.le_of_ble_eq_true rfl⟩ ⟨Nat.le_of_ble_eq_true rfl, Nat.le_of_ble_eq_true rfl⟩ dX10_chance_15 (fun _ => sideL_fst.trans sideL_fst.symm) (fun u H locs hT => ?_)
  have hT : Wd g A s (cmL g ad bd np fk fn fo st N (s_n U) (s_nd U) (s_bg U) (s_f U) (s_fc U) (s_fs U) (s_r0 U) (s_t0 U) (s_f0 U) (s_r1 U) (s_t1 U) (s_f1 U) (s_nr U) (s_fx U) (s_mp U) (s_ml U) (s_cx U) (s_xi U) (s_n V) (s_nd V) (s_bg V) (s_f V) (s_fc V) (s_fs V) (nI (9 * (s_nd V))) (toldI (s_f0 V) (xiI fk fo st (s_n V) (s_nd V) (s_bg V) (s_f V) N (s_fc V) (s_mp V) (s_ml V) (s_cx V) (s_xi V) np) (9 * (s_nd V))) (s_f0 V) (nI (9 * lbN (s_f V) (s_n V))) (toldI (s_f1 V) (xiI fk fo st (s_n V) (s_nd V) (s_bg V) (s_f V) N (s_fc V) (s_mp V) (s_ml V) (s_cx V) (s_xi V) np) (9 * lbN (s_f V) (s_n V))) (s_f1 V) (nI (nearN (s_nd V) (tN st (mixN (toldI (s_f0 V) (xiI fk fo st (s_n V) (s_nd V) (s_bg V) (s_f V) N (s_fc V) (s_mp V) (s_ml V) (s_cx V) (s_xi V) np) (9 * (s_nd V))) (toldI (s_f1 V) (xiI fk fo st (s_n V) (s_nd V) (s_bg V) (s_f V) N (s_fc V) (s_mp V) (s_ml V) (s_cx V) (s_xi V) np) (9 * lbN (s_f V) (s_n V))))))) (s_fx V) (s_mp V) (s_ml V) (s_cx V) (xiI fk fo st (s_n V) (s_nd V) (s_bg V) (s_f V) N (s_fc V) (s_mp V) (s_ml V) (s_cx V) (s_xi V) np) code cp en no ou wl wh rl rh) H locs := hT.perm (perm_r (obC ad) (obC (mixA ad bd)) (shL g ad np fk fn fo st) (prL g ad N (s_n U) (s_nd U) (s_bg U) (s_f U) (s_fc U) (s_fs U) (s_r0 U) (s_t0 U) (s_f0 U) (s_r1 U) (s_t1 U) (s_f1 U) (s_nr U) (s_fx U) (s_mp U) (s_ml U) (s_cx U) (s_xi U)) (prL g (mixA ad bd) N (s_n V) (s_nd V) (s_bg V) (s_f V) (s_fc V) (s_fs V) (nI (9 * (s_nd V))) (toldI (s_f0 V) (xiI fk fo st (s_n V) (s_nd V) (s_bg V) (s_f V) N (s_fc V) (s_mp V) (s_ml V) (s_cx V) (s_xi V) np) (9 * (s_nd V))) (s_f0 V) (nI (9 * lbN (s_f V) (s_n V))) (toldI (s_f1 V) (xiI fk fo st (s_n V) (s_nd V) (s_bg V) (s_f V) N (s_fc V) (s_mp V) (s_ml V) (s_cx V) (s_xi V) np) (9 * lbN (s_f V) (s_n V))) (s_f1 V) (nI (nearN (s_nd V) (tN st (mixN (toldI (s_f0 V) (xiI fk fo st (s_n V) (s_nd V) (s_bg V) (s_f V) N (s_fc V) (s_mp V) (s_ml V) (s_cx V) (s_xi V) np) (9 * (s_nd V))) (toldI (s_f1 V) (xiI fk fo st (s_n V) (s_nd V) (s_bg V) (s_f V) N (s_fc V) (s_mp V) (s_ml V) (s_cx V) (s_xi V) np) (9 * lbN (s_f V) (s_n V))))))) (s_fx V) (s_mp V) (s_ml V) (s_cx V) (xiI fk fo st (s_n V) (s_nd V) (s_bg V) (s_f V) N (s_fc V) (s_mp V) (s_ml V) (s_cx V) (s_xi V) np)) (exL g ad bd code cp en no ou wl wh rl rh)).symm
  refine W.eq (g2 := F0 m 18 ls [.int (chanceI (mixN (toldI (s_f0 V) (xiI fk fo st (s_n V) (s_nd V) (s_bg V) (s_f V) N (s_fc V) (s_mp V) (s_ml V) (s_cx V) (s_xi V) np) (9 * (s_nd V))) (toldI (s_f1 V) (xiI fk fo st (s_n V) (s_nd V) (s_bg V) (s_f V) N (s_fc V) (s_mp V) (s_ml V) (s_cx V) (s_xi V) np) (9 * lbN (s_f V) (s_n V)))) (corrI (s_fx V) (s_nd V) (tN st (mixN (toldI (s_f0 V) (xiI fk fo st (s_n V) (s_nd V) (s_bg V) (s_f V) N (s_fc V) (s_mp V) (s_ml V) (s_cx V) (s_xi V) np) (9 * (s_nd V))) (toldI (s_f1 V) (xiI fk fo st (s_n V) (s_nd V) (s_bg V) (s_f V) N (s_fc V) (s_mp V) (s_ml V) (s_cx V) (s_xi V) np) (9 * lbN (s_f V) (s_n V)))))))]) rfl ?_
  exact e_iret C hQ () (by exact hT) (by rfl) dX10_chance_18

set_option maxHeartbeats 400000 in
set_option maxRecDepth 100000 in
theorem c_X10_input_1 (l : Launch) (g : GT) (ad : Nat → Nat) (bd : Nat → Nat) (np : Nat) (fk : Nat → Int32) (fn : Nat → Int32) (fo : Nat → Int32) (st : Nat → Int32) (N : Nat) (U : SSt) (V : SSt) (code : Int64) (cp : Nat) (en : Bool) (no : Nat) (ou : Nat → Int32) (wl : Int64) (wh : Int64) (rl : Int64) (rh : Int64) (rr : Nat) (sd : Int32) (i : Int32) (hG : GI st N rr np fk fn) (hV : SI N V) (hsd : sd = 1) : OM (S := Unit) l g yX10_input cX10_input 4 (some .int) ({ frames := 4, cells := 0, slots := 0, locals := 87 } : Room) [.ref (bd 1), .int sd, .int i] (cmL g ad bd np fk fn fo st N (s_n U) (s_nd U) (s_bg U) (s_f U) (s_fc U) (s_fs U) (s_r0 U) (s_t0 U) (s_f0 U) (s_r1 U) (s_t1 U) (s_f1 U) (s_nr U) (s_fx U) (s_mp U) (s_ml U) (s_cx U) (s_xi U) (s_n V) (s_nd V) (s_bg V) (s_f V) (s_fc V) (s_fs V) (s_r0 V) (s_t0 V) (s_f0 V) (s_r1 V) (s_t1 V) (s_f1 V) (s_nr V) (s_fx V) (s_mp V) (s_ml V) (s_cx V) (s_xi V) code cp en no ou wl wh rl rh) (fun _ => some (.int (if inR i np = true then inS st N fk fo V i.toNatClampNeg else (-9999)))) (fun _ => (cmL g ad bd np fk fn fo st N (s_n U) (s_nd U) (s_bg U) (s_f U) (s_fc U) (s_fs U) (s_r0 U) (s_t0 U) (s_f0 U) (s_r1 U) (s_t1 U) (s_f1 U) (s_nr U) (s_fx U) (s_mp U) (s_ml U) (s_cx U) (s_xi U) (s_n V) (s_nd V) (s_bg V) (s_f V) (s_fc V) (s_fs V) (s_r0 V) (s_t0 V) (s_f0 V) (s_r1 V) (s_t1 V) (s_f1 V) (s_nr V) (s_fx V) (s_mp V) (s_ml V) (s_cx V) (s_xi V) code cp en no ou wl wh rl rh)) := by
  refine OM.startQ (by decide) (Nat.le_of_ble_eq_true rfl) ?_
  intro p e s m below meth c A ls Q H locs hQ C hnm hl hT
  have hx := C.x
  have hb := C.b
  have hl : lv_has ls 4 [(0, .ref (bd 1)), (1, .int sd), (2, .int i)] := hl
  have hnp8 := hG.1
  refine lv_aload_n hx hb dX10_input_0 rfl (lv_at hl 0 rfl) ?_
  refine lv_iload_n hx hb dX10_input_1 rfl (lv_at hl 1 rfl) ?_
  have hM := c_X10_sideOf_1 l g ad bd np fk fn fo st N U V code cp en no ou wl wh rl rh sd (by first | assumption | omega)
  refine r_callRO (js := [0, 1, 2, 3, 4, 5, 6, 7, 8, 9, 10, 11, 12, 13, 14, 15, 16, 17, 18, 19, 20, 21, 22, 23, 24, 25, 26, 27, 28, 29, 30, 31, 32, 33, 34, 35, 36, 37, 38, 39, 40, 41, 42, 43, 44, 45, 46, 47, 48, 49, 50, 51, 52, 53, 54, 55, 56]) C hT (runV (js := [0, 1, 2, 3, 4, 5, 6, 7, 8, 9, 10, 11, 12, 13, 14, 15, 16, 17, 18, 19, 20, 21, 22, 23, 24, 25, 26, 27, 28, 29, 30, 31, 32, 33, 34, 35, 36, 37, 38, 39, 40, 41, 42, 43, 44, 45, 46, 47, 48, 49, 50, 51, 52, 53, 54, 55, 56]) (rm := ({ frames := 0, cells := 0, slots := 0, locals := 0 } : Room)) (As := [.int sd]) (n := 1) (q1 := 52) (rest := []) C hT hM rfl rfl k572 k574 s9 k1 k575 (by decide +kernel) rfl rfl rfl rfl (Nat.le_of_ble_eq_true rfl) hl.1 ⟨Nat.le_of_ble_eq_true rfl, Nat.le_of_ble_eq_true rfl⟩ ⟨Nat.le_of_ble_eq_true rfl, Nat.le_of_ble_eq_true rfl⟩ dX10_input_2) rfl rfl (fun u H locs hT => ?_)
  refine W.eq (g2 := F0 m 5 ls [.ref (mixA ad bd 0)]) rfl ?_
  refine lv_astore_n (lv' := [(3, .ref (mixA ad bd 0)), (0, .ref (bd 1)), (1, .int sd), (2, .int i)]) hx hb dX10_input_5 rfl hl (by decide) rfl (fun ls hl => ?_)
  refine lv_aload_n hx hb dX10_input_6 rfl (lv_at hl 0 rfl) ?_
  refine lv_ifnull hx hb dX10_input_7 ?_
  refine lv_aload_n hx hb dX10_input_10 rfl (lv_at hl 1 rfl) ?_
  refine gX10_23 C hT (q0 := 52) rfl dX10_input_11 ?_
  refine lv_iload_n hx hb dX10_input_14 rfl (lv_at hl 3 rfl) ?_
  have hM := c_X7_has l g (ad 1) (ad 2) (ad 3) (ad 4) np i
  refine r_callRO (js := [1]) C hT (runV (js := [1]) (rm := ({ frames := 0, cells := 0, slots := 0, locals := 0 } : Room)) (As := [.int i]) (n := 1) (q1 := 0) (rest := []) C hT hM rfl rfl k360 k361 k362 k4 k363 (by decide +kernel) rfl rfl rfl rfl (Nat.le_of_ble_eq_true rfl) hl.1 ⟨Nat.le_of_ble_eq_true rfl, Nat.le_of_ble_eq_true rfl⟩ ⟨Nat.le_of_ble_eq_true rfl, Nat.le_of_ble_eq_true rfl⟩ dX10_input_15) rfl rfl (fun u H locs hT => ?_)
  refine W.eq (g2 := F0 m 18 ls [.int (b01 (inR i np))]) rfl ?_
  refine lv_if_ne (tgt := 25) hx hb dX10_input_18 (by decide) (fun h_1 => ?_) (fun h_1 => ?_)
  · skip
    have h_1 := b01_t h_1
    obtain ⟨j, hj, vej⟩ := inR_of (by omega) h_1
    refine lv_aload_n hx hb dX10_input_25 rfl (lv_at hl 0 rfl) ?_
    refine lv_iload_n hx hb dX10_input_26 rfl (lv_at hl 3 rfl) ?_
    refine W.eq (g2 := F0 m 27 ls [.int (nI j), .ref (mixA ad bd 0)]) (congrArg (fun z => F0 m 27 ls (.int z :: [.ref (mixA ad bd 0)])) (vej)) ?_
    have hM := c_X8_inputOf l g (mixA ad bd) np fk fn fo st (s_n V) (s_nd V) (s_bg V) (s_f V) N (s_fc V) (s_fs V) (s_r0 V) (s_t0 V) (s_f0 V) (s_r1 V) (s_t1 V) (s_f1 V) (s_nr V) (s_fx V) (s_mp V) (s_ml V) (s_cx V) (s_xi V) rr j hG.1 hV.1 hV.2.2.2.2.2.1 hV.2.2.2.2.2.2 hV.2.2.1 hG.2.1 hG.2.2.1 hV.2.2.2.1 hj
    have hT2 := hT.perm (perm_r (obC ad) (obC (mixA ad bd)) (shL g ad np fk fn fo st) (prL g ad N (s_n U) (s_nd U) (s_bg U) (s_f U) (s_fc U) (s_fs U) (s_r0 U) (s_t0 U) (s_f0 U) (s_r1 U) (s_t1 U) (s_f1 U) (s_nr U) (s_fx U) (s_mp U) (s_ml U) (s_cx U) (s_xi U)) (prL g (mixA ad bd) N (s_n V) (s_nd V) (s_bg V) (s_f V) (s_fc V) (s_fs V) (s_r0 V) (s_t0 V) (s_f0 V) (s_r1 V) (s_t1 V) (s_f1 V) (s_nr V) (s_fx V) (s_mp V) (s_ml V) (s_cx V) (s_xi V)) (exL g ad bd code cp en no ou wl wh rl rh))
    refine r_callP (lc := sideL g (mixA ad bd) np fk fn fo st (s_n V) (s_nd V) (s_bg V) (s_f V) N (s_fc V) (s_fs V) (s_r0 V) (s_t0 V) (s_f0 V) (s_r1 V) (s_t1 V) (s_f1 V) (s_nr V) (s_fx V) (s_mp V) (s_ml V) (s_cx V) (s_xi V)) (B := (obC ad :: (prL g ad N (s_n U) (s_nd U) (s_bg U) (s_f U) (s_fc U) (s_fs U) (s_r0 U) (s_t0 U) (s_f0 U) (s_r1 U) (s_t1 U) (s_f1 U) (s_nr U) (s_fx U) (s_mp U) (s_ml U) (s_cx U) (s_xi U) ++ exL g ad bd code cp en no ou wl wh rl rh))) (rm := ({ frames := 3, cells := 0, slots := 0, locals := 66 } : Room)) (As := [.int (nI j)]) (n := 1) (q1 := 0) (rest := []) C hT2 hM k580 k386 k387 k5 k388 (by decide +kernel) rfl rfl rfl rfl (Nat.le_of_ble_eq_true rfl) hl.1 ⟨Nat.le_of_ble_eq_true rfl, Nat.le_of_ble_eq_true rfl⟩ ⟨Nat.le_of_ble_eq_true rfl, Nat.le_of_ble_eq_true rfl⟩ dX10_input_27 (fun _ => sideL_fst.trans sideL_fst.symm) (fun u H locs hT => ?_)
    have hT : Wd g A s (cmL g ad bd np fk fn fo st N (s_n U) (s_nd U) (s_bg U) (s_f U) (s_fc U) (s_fs U) (s_r0 U) (s_t0 U) (s_f0 U) (s_r1 U) (s_t1 U) (s_f1 U) (s_nr U) (s_fx U) (s_mp U) (s_ml U) (s_cx U) (s_xi U) (s_n V) (s_nd V) (s_bg V) (s_f V) (s_fc V) (s_fs V) (s_r0 V) (s_t0 V) (s_f0 V) (s_r1 V) (s_t1 V) (s_f1 V) (s_nr V) (s_fx V) (s_mp V) (s_ml V) (s_cx V) (s_xi V) code cp en no ou wl wh rl rh) H locs := hT.perm (perm_r (obC ad) (obC (mixA ad bd)) (shL g ad np fk fn fo st) (prL g ad N (s_n U) (s_nd U) (s_bg U) (s_f U) (s_fc U) (s_fs U) (s_r0 U) (s_t0 U) (s_f0 U) (s_r1 U) (s_t1 U) (s_f1 U) (s_nr U) (s_fx U) (s_mp U) (s_ml U) (s_cx U) (s_xi U)) (prL g (mixA ad bd) N (s_n V) (s_nd V) (s_bg V) (s_f V) (s_fc V) (s_fs V) (s_r0 V) (s_t0 V) (s_f0 V) (s_r1 V) (s_t1 V) (s_f1 V) (s_nr V) (s_fx V) (s_mp V) (s_ml V) (s_cx V) (s_xi V)) (exL g ad bd code cp en no ou wl wh rl rh)).symm
    refine W.eq (g2 := F0 m 30 ls [.int (inI fk fo st (s_n V) (s_nd V) (s_bg V) (s_f V) N (s_fc V) (s_mp V) (s_ml V) (s_cx V) j)]) rfl ?_
    exact e_iret C hQ () hT (by rw [if_pos h_1, vej, nI_clamp (by omega)]; rfl) dX10_input_30
  · skip
    have h_1 := b01_f h_1
    refine lv_sipush (v := (-9999)) hx hb dX10_input_21 (by decide) ?_
    exact e_iret C hQ () hT (by rw [if_neg (by rw [h_1]; decide)]) dX10_input_24

set_option maxHeartbeats 400000 in
set_option maxRecDepth 100000 in
theorem c_X10_weight_1 (l : Launch) (g : GT) (ad : Nat → Nat) (bd : Nat → Nat) (np : Nat) (fk : Nat → Int32) (fn : Nat → Int32) (fo : Nat → Int32) (st : Nat → Int32) (N : Nat) (U : SSt) (V : SSt) (code : Int64) (cp : Nat) (en : Bool) (no : Nat) (ou : Nat → Int32) (wl : Int64) (wh : Int64) (rl : Int64) (rh : Int64) (sd : Int32) (mx : Int32) (se : Int32) (i : Int32) (hnp : np ≤ 8) (hsd : sd = 1) : OM (S := Unit) l g yX10_weight cX10_weight 7 (some .int) ({ frames := 3, cells := 0, slots := 0, locals := 67 } : Room) [.ref (bd 1), .int sd, .int mx, .int se, .int i] (cmL g ad bd np fk fn fo st N (s_n U) (s_nd U) (s_bg U) (s_f U) (s_fc U) (s_fs U) (s_r0 U) (s_t0 U) (s_f0 U) (s_r1 U) (s_t1 U) (s_f1 U) (s_nr U) (s_fx U) (s_mp U) (s_ml U) (s_cx U) (s_xi U) (s_n V) (s_nd V) (s_bg V) (s_f V) (s_fc V) (s_fs V) (s_r0 V) (s_t0 V) (s_f0 V) (s_r1 V) (s_t1 V) (s_f1 V) (s_nr V) (s_fx V) (s_mp V) (s_ml V) (s_cx V) (s_xi V) code cp en no ou wl wh rl rh) (fun _ => some (.int (weI (s_f0 V) (s_f1 V) np mx se i))) (fun _ => (cmL g ad bd np fk fn fo st N (s_n U) (s_nd U) (s_bg U) (s_f U) (s_fc U) (s_fs U) (s_r0 U) (s_t0 U) (s_f0 U) (s_r1 U) (s_t1 U) (s_f1 U) (s_nr U) (s_fx U) (s_mp U) (s_ml U) (s_cx U) (s_xi U) (s_n V) (s_nd V) (s_bg V) (s_f V) (s_fc V) (s_fs V) (s_r0 V) (s_t0 V) (s_f0 V) (s_r1 V) (s_t1 V) (s_f1 V) (s_nr V) (s_fx V) (s_mp V) (s_ml V) (s_cx V) (s_xi V) code cp en no ou wl wh rl rh)) := by
  refine OM.startQ (by decide) (Nat.le_of_ble_eq_true rfl) ?_
  intro p e s m below meth c A ls Q H locs hQ C hnm hl hT
  have hx := C.x
  have hb := C.b
  have hl : lv_has ls 7 [(0, .ref (bd 1)), (1, .int sd), (2, .int mx), (3, .int se), (4, .int i)] := hl
  refine lv_aload_n hx hb dX10_weight_0 rfl (lv_at hl 0 rfl) ?_
  refine lv_iload_n hx hb dX10_weight_1 rfl (lv_at hl 1 rfl) ?_
  have hM := c_X10_sideOf_1 l g ad bd np fk fn fo st N U V code cp en no ou wl wh rl rh sd (by first | assumption | omega)
  refine r_callRO (js := [0, 1, 2, 3, 4, 5, 6, 7, 8, 9, 10, 11, 12, 13, 14, 15, 16, 17, 18, 19, 20, 21, 22, 23, 24, 25, 26, 27, 28, 29, 30, 31, 32, 33, 34, 35, 36, 37, 38, 39, 40, 41, 42, 43, 44, 45, 46, 47, 48, 49, 50, 51, 52, 53, 54, 55, 56]) C hT (runV (js := [0, 1, 2, 3, 4, 5, 6, 7, 8, 9, 10, 11, 12, 13, 14, 15, 16, 17, 18, 19, 20, 21, 22, 23, 24, 25, 26, 27, 28, 29, 30, 31, 32, 33, 34, 35, 36, 37, 38, 39, 40, 41, 42, 43, 44, 45, 46, 47, 48, 49, 50, 51, 52, 53, 54, 55, 56]) (rm := ({ frames := 0, cells := 0, slots := 0, locals := 0 } : Room)) (As := [.int sd]) (n := 1) (q1 := 52) (rest := []) C hT hM rfl rfl k572 k574 s9 k1 k575 (by decide +kernel) rfl rfl rfl rfl (Nat.le_of_ble_eq_true rfl) hl.1 ⟨Nat.le_of_ble_eq_true rfl, Nat.le_of_ble_eq_true rfl⟩ ⟨Nat.le_of_ble_eq_true rfl, Nat.le_of_ble_eq_true rfl⟩ dX10_weight_2) rfl rfl (fun u H locs hT => ?_)
  refine W.eq (g2 := F0 m 5 ls [.ref (mixA ad bd 0)]) rfl ?_
  refine lv_astore (lv' := [(5, .ref (mixA ad bd 0)), (0, .ref (bd 1)), (1, .int sd), (2, .int mx), (3, .int se), (4, .int i)]) hx hb dX10_weight_5 hl (by decide) rfl (fun ls hl => ?_)
  refine lv_aload hx hb dX10_weight_7 (lv_at hl 0 rfl) ?_
  refine lv_ifnull hx hb dX10_weight_9 ?_
  refine lv_iload_n hx hb dX10_weight_12 rfl (lv_at hl 3 rfl) ?_
  refine lv_if_lt (tgt := 32) hx hb dX10_weight_13 (by decide) (fun h_1 => ?_) (fun h_1 => ?_)
  · skip
    refine lv_ldc (v := (-2000000)) hx hb C.ow (C.ts _ k585) dX10_weight_32 ?_
    exact e_iret C hQ () hT (by unfold weI; first | (rw [if_pos h_1]; done) | (rw [if_neg h_1, if_pos h_1]; done) | (rw [if_neg h_1, if_neg h_1, if_pos h_1]; done) | (rw [if_neg h_1, if_neg h_1, if_neg h_1, if_pos h_1])) dX10_weight_34
  · skip
    refine lv_iload_n hx hb dX10_weight_16 rfl (lv_at hl 3 rfl) ?_
    refine lv_iconst (v := 1) hx hb dX10_weight_17 (by decide) ?_
    refine lv_icmp_gt (tgt := 32) hx hb dX10_weight_18 (by decide) (fun h_2 => ?_) (fun h_2 => ?_)
    · skip
      refine lv_ldc (v := (-2000000)) hx hb C.ow (C.ts _ k585) dX10_weight_32 ?_
      exact e_iret C hQ () hT (by unfold weI; first | (rw [if_pos h_1]; done) | (rw [if_neg h_1, if_pos h_2]; done) | (rw [if_neg h_1, if_neg h_2, if_pos h_2]; done) | (rw [if_neg h_1, if_neg h_2, if_neg h_2, if_pos h_2])) dX10_weight_34
    · skip
      refine lv_iload_n hx hb dX10_weight_21 rfl (lv_at hl 4 rfl) ?_
      refine lv_if_lt (tgt := 32) hx hb dX10_weight_22 (by decide) (fun h_3 => ?_) (fun h_3 => ?_)
      · skip
        refine lv_ldc (v := (-2000000)) hx hb C.ow (C.ts _ k585) dX10_weight_32 ?_
        exact e_iret C hQ () hT (by unfold weI; first | (rw [if_pos h_1]; done) | (rw [if_neg h_1, if_pos h_2]; done) | (rw [if_neg h_1, if_neg h_2, if_pos h_3]; done) | (rw [if_neg h_1, if_neg h_2, if_neg h_3, if_pos h_3])) dX10_weight_34
      · skip
        refine lv_iload_n hx hb dX10_weight_25 rfl (lv_at hl 4 rfl) ?_
        refine lv_sipush (v := 256) hx hb dX10_weight_26 (by decide) ?_
        refine lv_icmp_lt (tgt := 35) hx hb dX10_weight_29 (by decide) (fun h_4 => ?_) (fun h_4 => ?_)
        · skip
          obtain ⟨k, hk, vek⟩ := set_of h_3 h_4
          refine lv_iload_n hx hb dX10_weight_35 rfl (lv_at hl 3 rfl) ?_
          refine lv_if_ne (tgt := 47) hx hb dX10_weight_36 (by decide) (fun h_5 => ?_) (fun h_5 => ?_)
          · skip
            refine lv_aload hx hb dX10_weight_47 (lv_at hl 0 rfl) ?_
            refine gX10_149 C hT (q0 := 29) rfl dX10_weight_49 ?_
            refine lv_astore (lv' := [(6, .ref (mixA ad bd 14)), (5, .ref (mixA ad bd 0)), (0, .ref (bd 1)), (1, .int sd), (2, .int mx), (3, .int se), (4, .int i)]) hx hb dX10_weight_52 hl (by decide) rfl (fun ls hl => ?_)
            refine lv_iload hx hb dX10_weight_54 (lv_at hl 6 rfl) ?_
            refine lv_aload_n hx hb dX10_weight_56 rfl (lv_at hl 2 rfl) ?_
            refine gX10_23 C hT (q0 := 52) rfl dX10_weight_57 ?_
            refine gX10_152 C hT (q0 := 1) rfl dX10_weight_60 ?_
            refine lv_icmp_ne (tgt := 75) hx hb dX10_weight_63 (by decide) (fun h_6 => ?_) (fun h_6 => ?_)
            · skip
              refine lv_aload_n hx hb dX10_weight_75 rfl (lv_at hl 2 rfl) ?_
              refine gX10_23 C hT (q0 := 52) rfl dX10_weight_76 ?_
              refine lv_iload hx hb dX10_weight_79 (lv_at hl 6 rfl) ?_
              have hM := c_X7_has l g (ad 1) (ad 2) (ad 3) (ad 4) np i
              refine r_callRO (js := [1]) C hT (runV (js := [1]) (rm := ({ frames := 0, cells := 0, slots := 0, locals := 0 } : Room)) (As := [.int i]) (n := 1) (q1 := 0) (rest := []) C hT hM rfl rfl k360 k361 k362 k4 k363 (by decide +kernel) rfl rfl rfl rfl (Nat.le_of_ble_eq_true rfl) hl.1 ⟨Nat.le_of_ble_eq_true rfl, Nat.le_of_ble_eq_true rfl⟩ ⟨Nat.le_of_ble_eq_true rfl, Nat.le_of_ble_eq_true rfl⟩ dX10_weight_81) rfl rfl (fun u H locs hT => ?_)
              refine W.eq (g2 := F0 m 84 ls [.int (b01 (inR i np))]) rfl ?_
              refine lv_if_eq (tgt := 98) hx hb dX10_weight_84 (by decide) (fun h_7 => ?_) (fun h_7 => ?_)
              · skip
                have h_7 := b01_f h_7
                refine lv_ldc (v := (-2000000)) hx hb C.ow (C.ts _ k585) dX10_weight_98 ?_
                exact e_iret C hQ () hT (by unfold weI; rw [if_neg h_1, if_neg h_2, if_neg h_3, if_neg (not_not_intro h_4), if_neg h_6]; first | (rw [if_pos h_7, vek, vej, nI_clamp (by omega), nI_clamp (by omega)]; first | (rw [if_pos h_5]; done) | (rw [if_neg h_5]; done)) | (rw [if_neg (by rw [h_7]; decide)])) dX10_weight_100
              · skip
                have h_7 := b01_t h_7
                obtain ⟨j, hj, vej⟩ := inR_of (by omega) h_7
                refine lv_aload hx hb dX10_weight_87 (lv_at hl 0 rfl) ?_
                refine lv_iload_n hx hb dX10_weight_89 rfl (lv_at hl 5 rfl) ?_
                refine W.eq (g2 := F0 m 90 ls [.int (nI k), .ref (mixA ad bd 14)]) (congrArg (fun z => F0 m 90 ls (.int z :: [.ref (mixA ad bd 14)])) (vek)) ?_
                refine lv_iload hx hb dX10_weight_90 (lv_at hl 6 rfl) ?_
                refine W.eq (g2 := F0 m 92 ls [.int (nI j), .int (nI k), .ref (mixA ad bd 14)]) (congrArg (fun z => F0 m 92 ls (.int z :: [.int (nI k), .ref (mixA ad bd 14)])) (vej)) ?_
                have hM := c_X4_weightAt l g (mixA ad bd 14) (mixA ad bd 15) (s_r1 V) (s_t1 V) (s_f1 V) k j (by first | assumption | omega) (by omega)
                refine r_callRO (js := [37, 38]) C hT (runV (js := [37, 38]) (rm := ({ frames := 2, cells := 0, slots := 0, locals := 45 } : Room)) (As := [.int (nI k), .int (nI j)]) (n := 2) (q1 := 0) (rest := []) C hT hM rfl rfl k586 k587 k588 k7 k589 (by decide +kernel) rfl rfl rfl rfl (Nat.le_of_ble_eq_true rfl) hl.1 ⟨Nat.le_of_ble_eq_true rfl, Nat.le_of_ble_eq_true rfl⟩ ⟨Nat.le_of_ble_eq_true rfl, Nat.le_of_ble_eq_true rfl⟩ dX10_weight_92) rfl rfl (fun u H locs hT => ?_)
                refine W.eq (g2 := F0 m 95 ls [.int ((s_f1 V) (9 * k + j))]) rfl ?_
                refine lv_goto (tgt := 100) hx hb dX10_weight_95 (by decide) ?_
                exact e_iret C hQ () hT (by unfold weI; rw [if_neg h_1, if_neg h_2, if_neg h_3, if_neg (not_not_intro h_4), if_neg h_6]; first | (rw [if_pos h_7, vek, vej, nI_clamp (by omega), nI_clamp (by omega)]; first | (rw [if_pos h_5]; done) | (rw [if_neg h_5]; done)) | (rw [if_neg (by rw [h_7]; decide)])) dX10_weight_100
            · skip
              refine lv_aload hx hb dX10_weight_66 (lv_at hl 0 rfl) ?_
              refine lv_iload_n hx hb dX10_weight_68 rfl (lv_at hl 5 rfl) ?_
              refine W.eq (g2 := F0 m 69 ls [.int (nI k), .ref (mixA ad bd 14)]) (congrArg (fun z => F0 m 69 ls (.int z :: [.ref (mixA ad bd 14)])) (vek)) ?_
              refine lv_bipush (v := 8) hx hb dX10_weight_69 (by decide) ?_
              refine W.eq (g2 := F0 m 71 ls [.int (nI 8), .int (nI k), .ref (mixA ad bd 14)]) (congrArg (fun z => F0 m 71 ls (.int z :: [.int (nI k), .ref (mixA ad bd 14)])) (rfl)) ?_
              have hM := c_X4_weightAt l g (mixA ad bd 14) (mixA ad bd 15) (s_r1 V) (s_t1 V) (s_f1 V) k 8 (by first | assumption | omega) (by decide)
              refine r_callRO (js := [37, 38]) C hT (runV (js := [37, 38]) (rm := ({ frames := 2, cells := 0, slots := 0, locals := 45 } : Room)) (As := [.int (nI k), .int (nI 8)]) (n := 2) (q1 := 0) (rest := []) C hT hM rfl rfl k586 k587 k588 k7 k589 (by decide +kernel) rfl rfl rfl rfl (Nat.le_of_ble_eq_true rfl) hl.1 ⟨Nat.le_of_ble_eq_true rfl, Nat.le_of_ble_eq_true rfl⟩ ⟨Nat.le_of_ble_eq_true rfl, Nat.le_of_ble_eq_true rfl⟩ dX10_weight_71) rfl rfl (fun u H locs hT => ?_)
              refine W.eq (g2 := F0 m 74 ls [.int ((s_f1 V) (9 * k + 8))]) rfl ?_
              exact e_iret C hQ () hT (by unfold weI; rw [if_neg h_1, if_neg h_2, if_neg h_3, if_neg (not_not_intro h_4), if_pos h_6, vek, nI_clamp (by omega)]; first | (rw [if_pos h_5]; done) | (rw [if_neg h_5])) dX10_weight_74
          · skip
            refine lv_aload hx hb dX10_weight_39 (lv_at hl 0 rfl) ?_
            refine gX10_145 C hT (q0 := 29) rfl dX10_weight_41 ?_
            refine lv_goto (tgt := 52) hx hb dX10_weight_44 (by decide) ?_
            refine lv_astore (lv' := [(6, .ref (mixA ad bd 12)), (5, .ref (mixA ad bd 0)), (0, .ref (bd 1)), (1, .int sd), (2, .int mx), (3, .int se), (4, .int i)]) hx hb dX10_weight_52 hl (by decide) rfl (fun ls hl => ?_)
            refine lv_iload hx hb dX10_weight_54 (lv_at hl 6 rfl) ?_
            refine lv_aload_n hx hb dX10_weight_56 rfl (lv_at hl 2 rfl) ?_
            refine gX10_23 C hT (q0 := 52) rfl dX10_weight_57 ?_
            refine gX10_152 C hT (q0 := 1) rfl dX10_weight_60 ?_
            refine lv_icmp_ne (tgt := 75) hx hb dX10_weight_63 (by decide) (fun h_8 => ?_) (fun h_8 => ?_)
            · skip
              refine lv_aload_n hx hb dX10_weight_75 rfl (lv_at hl 2 rfl) ?_
              refine gX10_23 C hT (q0 := 52) rfl dX10_weight_76 ?_
              refine lv_iload hx hb dX10_weight_79 (lv_at hl 6 rfl) ?_
              have hM := c_X7_has l g (ad 1) (ad 2) (ad 3) (ad 4) np i
              refine r_callRO (js := [1]) C hT (runV (js := [1]) (rm := ({ frames := 0, cells := 0, slots := 0, locals := 0 } : Room)) (As := [.int i]) (n := 1) (q1 := 0) (rest := []) C hT hM rfl rfl k360 k361 k362 k4 k363 (by decide +kernel) rfl rfl rfl rfl (Nat.le_of_ble_eq_true rfl) hl.1 ⟨Nat.le_of_ble_eq_true rfl, Nat.le_of_ble_eq_true rfl⟩ ⟨Nat.le_of_ble_eq_true rfl, Nat.le_of_ble_eq_true rfl⟩ dX10_weight_81) rfl rfl (fun u H locs hT => ?_)
              refine W.eq (g2 := F0 m 84 ls [.int (b01 (inR i np))]) rfl ?_
              refine lv_if_eq (tgt := 98) hx hb dX10_weight_84 (by decide) (fun h_9 => ?_) (fun h_9 => ?_)
              · skip
                have h_9 := b01_f h_9
                refine lv_ldc (v := (-2000000)) hx hb C.ow (C.ts _ k585) dX10_weight_98 ?_
                exact e_iret C hQ () hT (by unfold weI; rw [if_neg h_1, if_neg h_2, if_neg h_3, if_neg (not_not_intro h_4), if_neg h_8]; first | (rw [if_pos h_9, vek, vej, nI_clamp (by omega), nI_clamp (by omega)]; first | (rw [if_pos h_5]; done) | (rw [if_neg h_5]; done)) | (rw [if_neg (by rw [h_9]; decide)])) dX10_weight_100
              · skip
                have h_9 := b01_t h_9
                obtain ⟨j, hj, vej⟩ := inR_of (by omega) h_9
                refine lv_aload hx hb dX10_weight_87 (lv_at hl 0 rfl) ?_
                refine lv_iload_n hx hb dX10_weight_89 rfl (lv_at hl 5 rfl) ?_
                refine W.eq (g2 := F0 m 90 ls [.int (nI k), .ref (mixA ad bd 12)]) (congrArg (fun z => F0 m 90 ls (.int z :: [.ref (mixA ad bd 12)])) (vek)) ?_
                refine lv_iload hx hb dX10_weight_90 (lv_at hl 6 rfl) ?_
                refine W.eq (g2 := F0 m 92 ls [.int (nI j), .int (nI k), .ref (mixA ad bd 12)]) (congrArg (fun z => F0 m 92 ls (.int z :: [.int (nI k), .ref (mixA ad bd 12)])) (vej)) ?_
                have hM := c_X4_weightAt l g (mixA ad bd 12) (mixA ad bd 13) (s_r0 V) (s_t0 V) (s_f0 V) k j (by first | assumption | omega) (by omega)
                refine r_callRO (js := [35, 36]) C hT (runV (js := [35, 36]) (rm := ({ frames := 2, cells := 0, slots := 0, locals := 45 } : Room)) (As := [.int (nI k), .int (nI j)]) (n := 2) (q1 := 0) (rest := []) C hT hM rfl rfl k586 k587 k588 k7 k589 (by decide +kernel) rfl rfl rfl rfl (Nat.le_of_ble_eq_true rfl) hl.1 ⟨Nat.le_of_ble_eq_true rfl, Nat.le_of_ble_eq_true rfl⟩ ⟨Nat.le_of_ble_eq_true rfl, Nat.le_of_ble_eq_true rfl⟩ dX10_weight_92) rfl rfl (fun u H locs hT => ?_)
                refine W.eq (g2 := F0 m 95 ls [.int ((s_f0 V) (9 * k + j))]) rfl ?_
                refine lv_goto (tgt := 100) hx hb dX10_weight_95 (by decide) ?_
                exact e_iret C hQ () hT (by unfold weI; rw [if_neg h_1, if_neg h_2, if_neg h_3, if_neg (not_not_intro h_4), if_neg h_8]; first | (rw [if_pos h_9, vek, vej, nI_clamp (by omega), nI_clamp (by omega)]; first | (rw [if_pos h_5]; done) | (rw [if_neg h_5]; done)) | (rw [if_neg (by rw [h_9]; decide)])) dX10_weight_100
            · skip
              refine lv_aload hx hb dX10_weight_66 (lv_at hl 0 rfl) ?_
              refine lv_iload_n hx hb dX10_weight_68 rfl (lv_at hl 5 rfl) ?_
              refine W.eq (g2 := F0 m 69 ls [.int (nI k), .ref (mixA ad bd 12)]) (congrArg (fun z => F0 m 69 ls (.int z :: [.ref (mixA ad bd 12)])) (vek)) ?_
              refine lv_bipush (v := 8) hx hb dX10_weight_69 (by decide) ?_
              refine W.eq (g2 := F0 m 71 ls [.int (nI 8), .int (nI k), .ref (mixA ad bd 12)]) (congrArg (fun z => F0 m 71 ls (.int z :: [.int (nI k), .ref (mixA ad bd 12)])) (rfl)) ?_
              have hM := c_X4_weightAt l g (mixA ad bd 12) (mixA ad bd 13) (s_r0 V) (s_t0 V) (s_f0 V) k 8 (by first | assumption | omega) (by decide)
              refine r_callRO (js := [35, 36]) C hT (runV (js := [35, 36]) (rm := ({ frames := 2, cells := 0, slots := 0, locals := 45 } : Room)) (As := [.int (nI k), .int (nI 8)]) (n := 2) (q1 := 0) (rest := []) C hT hM rfl rfl k586 k587 k588 k7 k589 (by decide +kernel) rfl rfl rfl rfl (Nat.le_of_ble_eq_true rfl) hl.1 ⟨Nat.le_of_ble_eq_true rfl, Nat.le_of_ble_eq_true rfl⟩ ⟨Nat.le_of_ble_eq_true rfl, Nat.le_of_ble_eq_true rfl⟩ dX10_weight_71) rfl rfl (fun u H locs hT => ?_)
              refine W.eq (g2 := F0 m 74 ls [.int ((s_f0 V) (9 * k + 8))]) rfl ?_
              exact e_iret C hQ () hT (by unfold weI; rw [if_neg h_1, if_neg h_2, if_neg h_3, if_neg (not_not_intro h_4), if_pos h_8, vek, nI_clamp (by omega)]; first | (rw [if_pos h_5]; done) | (rw [if_neg h_5])) dX10_weight_74
        · skip
          refine lv_ldc (v := (-2000000)) hx hb C.ow (C.ts _ k585) dX10_weight_32 ?_
          exact e_iret C hQ () hT (by unfold weI; first | (rw [if_pos h_1]; done) | (rw [if_neg h_1, if_pos h_2]; done) | (rw [if_neg h_1, if_neg h_2, if_pos h_3]; done) | (rw [if_neg h_1, if_neg h_2, if_neg h_3, if_pos h_4])) dX10_weight_34

set_option maxHeartbeats 400000 in
set_option maxRecDepth 100000 in
theorem c_X10_seen_1 (l : Launch) (g : GT) (ad : Nat → Nat) (bd : Nat → Nat) (np : Nat) (fk : Nat → Int32) (fn : Nat → Int32) (fo : Nat → Int32) (st : Nat → Int32) (N : Nat) (U : SSt) (V : SSt) (code : Int64) (cp : Nat) (en : Bool) (no : Nat) (ou : Nat → Int32) (wl : Int64) (wh : Int64) (rl : Int64) (rh : Int64) (sd : Int32) (i : Int32) (hN31 : N < 2 ^ 31) (hsd : sd = 1) : OM (S := Unit) l g yX10_seen cX10_seen 4 (some .int) ({ frames := 1, cells := 0, slots := 0, locals := 21 } : Room) [.ref (bd 1), .int sd, .int i] (cmL g ad bd np fk fn fo st N (s_n U) (s_nd U) (s_bg U) (s_f U) (s_fc U) (s_fs U) (s_r0 U) (s_t0 U) (s_f0 U) (s_r1 U) (s_t1 U) (s_f1 U) (s_nr U) (s_fx U) (s_mp U) (s_ml U) (s_cx U) (s_xi U) (s_n V) (s_nd V) (s_bg V) (s_f V) (s_fc V) (s_fs V) (s_r0 V) (s_t0 V) (s_f0 V) (s_r1 V) (s_t1 V) (s_f1 V) (s_nr V) (s_fx V) (s_mp V) (s_ml V) (s_cx V) (s_xi V) code cp en no ou wl wh rl rh) (fun _ => some (.int (if inR i N = true then s_fs V i.toNatClampNeg else (-1)))) (fun _ => (cmL g ad bd np fk fn fo st N (s_n U) (s_nd U) (s_bg U) (s_f U) (s_fc U) (s_fs U) (s_r0 U) (s_t0 U) (s_f0 U) (s_r1 U) (s_t1 U) (s_f1 U) (s_nr U) (s_fx U) (s_mp U) (s_ml U) (s_cx U) (s_xi U) (s_n V) (s_nd V) (s_bg V) (s_f V) (s_fc V) (s_fs V) (s_r0 V) (s_t0 V) (s_f0 V) (s_r1 V) (s_t1 V) (s_f1 V) (s_nr V) (s_fx V) (s_mp V) (s_ml V) (s_cx V) (s_xi V) code cp en no ou wl wh rl rh)) := by
  refine OM.startQ (by decide) (Nat.le_of_ble_eq_true rfl) ?_
  intro p e s m below meth c A ls Q H locs hQ C hnm hl hT
  have hx := C.x
  have hb := C.b
  have hl : lv_has ls 4 [(0, .ref (bd 1)), (1, .int sd), (2, .int i)] := hl
  refine lv_aload_n hx hb dX10_seen_0 rfl (lv_at hl 0 rfl) ?_
  refine lv_iload_n hx hb dX10_seen_1 rfl (lv_at hl 1 rfl) ?_
  have hM := c_X10_sideOf_1 l g ad bd np fk fn fo st N U V code cp en no ou wl wh rl rh sd (by first | assumption | omega)
  refine r_callRO (js := [0, 1, 2, 3, 4, 5, 6, 7, 8, 9, 10, 11, 12, 13, 14, 15, 16, 17, 18, 19, 20, 21, 22, 23, 24, 25, 26, 27, 28, 29, 30, 31, 32, 33, 34, 35, 36, 37, 38, 39, 40, 41, 42, 43, 44, 45, 46, 47, 48, 49, 50, 51, 52, 53, 54, 55, 56]) C hT (runV (js := [0, 1, 2, 3, 4, 5, 6, 7, 8, 9, 10, 11, 12, 13, 14, 15, 16, 17, 18, 19, 20, 21, 22, 23, 24, 25, 26, 27, 28, 29, 30, 31, 32, 33, 34, 35, 36, 37, 38, 39, 40, 41, 42, 43, 44, 45, 46, 47, 48, 49, 50, 51, 52, 53, 54, 55, 56]) (rm := ({ frames := 0, cells := 0, slots := 0, locals := 0 } : Room)) (As := [.int sd]) (n := 1) (q1 := 52) (rest := []) C hT hM rfl rfl k572 k574 s9 k1 k575 (by decide +kernel) rfl rfl rfl rfl (Nat.le_of_ble_eq_true rfl) hl.1 ⟨Nat.le_of_ble_eq_true rfl, Nat.le_of_ble_eq_true rfl⟩ ⟨Nat.le_of_ble_eq_true rfl, Nat.le_of_ble_eq_true rfl⟩ dX10_seen_2) rfl rfl (fun u H locs hT => ?_)
  refine W.eq (g2 := F0 m 5 ls [.ref (mixA ad bd 0)]) rfl ?_
  refine lv_astore_n (lv' := [(3, .ref (mixA ad bd 0)), (0, .ref (bd 1)), (1, .int sd), (2, .int i)]) hx hb dX10_seen_5 rfl hl (by decide) rfl (fun ls hl => ?_)
  refine lv_aload_n hx hb dX10_seen_6 rfl (lv_at hl 0 rfl) ?_
  refine lv_ifnull hx hb dX10_seen_7 ?_
  refine lv_aload_n hx hb dX10_seen_10 rfl (lv_at hl 0 rfl) ?_
  refine gX10_156 C hT (q0 := 29) rfl dX10_seen_11 ?_
  refine lv_iload_n hx hb dX10_seen_14 rfl (lv_at hl 3 rfl) ?_
  have hM := c_X9_has l g (mixA ad bd 9) (mixA ad bd 10) (mixA ad bd 11) N (s_fc V) i
  refine r_callRO (js := [32, 33]) C hT (runV (js := [32, 33]) (rm := ({ frames := 0, cells := 0, slots := 0, locals := 0 } : Room)) (As := [.int i]) (n := 1) (q1 := 0) (rest := []) C hT hM rfl rfl k594 k478 k479 k11 k480 (by decide +kernel) rfl rfl rfl rfl (Nat.le_of_ble_eq_true rfl) hl.1 ⟨Nat.le_of_ble_eq_true rfl, Nat.le_of_ble_eq_true rfl⟩ ⟨Nat.le_of_ble_eq_true rfl, Nat.le_of_ble_eq_true rfl⟩ dX10_seen_15) rfl rfl (fun u H locs hT => ?_)
  refine W.eq (g2 := F0 m 18 ls [.int (b01 (inR i N))]) rfl ?_
  refine lv_if_ne (tgt := 23) hx hb dX10_seen_18 (by decide) (fun h_1 => ?_) (fun h_1 => ?_)
  · skip
    have h_1 := b01_t h_1
    obtain ⟨j, hj, vej⟩ := inR_of hN31 h_1
    refine lv_aload_n hx hb dX10_seen_23 rfl (lv_at hl 0 rfl) ?_
    refine gX10_156 C hT (q0 := 29) rfl dX10_seen_24 ?_
    refine gX10_174 C hT (q0 := 32) rfl dX10_seen_27 ?_
    refine lv_iload_n hx hb dX10_seen_30 rfl (lv_at hl 3 rfl) ?_
    refine r_iald C hT (q0 := 34) rfl j vej hj (by omega) dX10_seen_31 ?_
    exact e_iret C hQ () hT (by rw [if_pos h_1, vej, nI_clamp (by omega)]) dX10_seen_32
  · skip
    have h_1 := b01_f h_1
    refine lv_iconst (v := (-1)) hx hb dX10_seen_21 (by decide) ?_
    exact e_iret C hQ () hT (by rw [if_neg (by rw [h_1]; decide)]) dX10_seen_22

set_option maxHeartbeats 400000 in
set_option maxRecDepth 100000 in
theorem c_X10_cell_1 (l : Launch) (g : GT) (ad : Nat → Nat) (bd : Nat → Nat) (np : Nat) (fk : Nat → Int32) (fn : Nat → Int32) (fo : Nat → Int32) (st : Nat → Int32) (N : Nat) (U : SSt) (V : SSt) (code : Int64) (cp : Nat) (en : Bool) (no : Nat) (ou : Nat → Int32) (wl : Int64) (wh : Int64) (rl : Int64) (rh : Int64) (sd : Int32) (nn : Int32) (j : Int32) (hsd : sd = 1) : OM (S := Unit) l g yX10_cell cX10_cell 6 (some .int) ({ frames := 2, cells := 0, slots := 0, locals := 43 } : Room) [.ref (bd 1), .int sd, .int nn, .int j] (cmL g ad bd np fk fn fo st N (s_n U) (s_nd U) (s_bg U) (s_f U) (s_fc U) (s_fs U) (s_r0 U) (s_t0 U) (s_f0 U) (s_r1 U) (s_t1 U) (s_f1 U) (s_nr U) (s_fx U) (s_mp U) (s_ml U) (s_cx U) (s_xi U) (s_n V) (s_nd V) (s_bg V) (s_f V) (s_fc V) (s_fs V) (s_r0 V) (s_t0 V) (s_f0 V) (s_r1 V) (s_t1 V) (s_f1 V) (s_nr V) (s_fx V) (s_mp V) (s_ml V) (s_cx V) (s_xi V) code cp en no ou wl wh rl rh) (fun _ => some (.int (if cellB nn j = true then sgnI (s_fx V (33 * nn.toNatClampNeg + j.toNatClampNeg)) else 40000))) (fun _ => (cmL g ad bd np fk fn fo st N (s_n U) (s_nd U) (s_bg U) (s_f U) (s_fc U) (s_fs U) (s_r0 U) (s_t0 U) (s_f0 U) (s_r1 U) (s_t1 U) (s_f1 U) (s_nr U) (s_fx U) (s_mp U) (s_ml U) (s_cx U) (s_xi U) (s_n V) (s_nd V) (s_bg V) (s_f V) (s_fc V) (s_fs V) (s_r0 V) (s_t0 V) (s_f0 V) (s_r1 V) (s_t1 V) (s_f1 V) (s_nr V) (s_fx V) (s_mp V) (s_ml V) (s_cx V) (s_xi V) code cp en no ou wl wh rl rh)) := by
  refine OM.startQ (by decide) (Nat.le_of_ble_eq_true rfl) ?_
  intro p e s m below meth c A ls Q H locs hQ C hnm hl hT
  have hx := C.x
  have hb := C.b
  have hl : lv_has ls 6 [(0, .ref (bd 1)), (1, .int sd), (2, .int nn), (3, .int j)] := hl
  refine lv_aload_n hx hb dX10_cell_0 rfl (lv_at hl 0 rfl) ?_
  refine lv_iload_n hx hb dX10_cell_1 rfl (lv_at hl 1 rfl) ?_
  have hM := c_X10_sideOf_1 l g ad bd np fk fn fo st N U V code cp en no ou wl wh rl rh sd (by first | assumption | omega)
  refine r_callRO (js := [0, 1, 2, 3, 4, 5, 6, 7, 8, 9, 10, 11, 12, 13, 14, 15, 16, 17, 18, 19, 20, 21, 22, 23, 24, 25, 26, 27, 28, 29, 30, 31, 32, 33, 34, 35, 36, 37, 38, 39, 40, 41, 42, 43, 44, 45, 46, 47, 48, 49, 50, 51, 52, 53, 54, 55, 56]) C hT (runV (js := [0, 1, 2, 3, 4, 5, 6, 7, 8, 9, 10, 11, 12, 13, 14, 15, 16, 17, 18, 19, 20, 21, 22, 23, 24, 25, 26, 27, 28, 29, 30, 31, 32, 33, 34, 35, 36, 37, 38, 39, 40, 41, 42, 43, 44, 45, 46, 47, 48, 49, 50, 51, 52, 53, 54, 55, 56]) (rm := ({ frames := 0, cells := 0, slots := 0, locals := 0 } : Room)) (As := [.int sd]) (n := 1) (q1 := 52) (rest := []) C hT hM rfl rfl k572 k574 s9 k1 k575 (by decide +kernel) rfl rfl rfl rfl (Nat.le_of_ble_eq_true rfl) hl.1 ⟨Nat.le_of_ble_eq_true rfl, Nat.le_of_ble_eq_true rfl⟩ ⟨Nat.le_of_ble_eq_true rfl, Nat.le_of_ble_eq_true rfl⟩ dX10_cell_2) rfl rfl (fun u H locs hT => ?_)
  refine W.eq (g2 := F0 m 5 ls [.ref (mixA ad bd 0)]) rfl ?_
  refine lv_astore (lv' := [(4, .ref (mixA ad bd 0)), (0, .ref (bd 1)), (1, .int sd), (2, .int nn), (3, .int j)]) hx hb dX10_cell_5 hl (by decide) rfl (fun ls hl => ?_)
  refine lv_aload hx hb dX10_cell_7 (lv_at hl 0 rfl) ?_
  refine lv_ifnull hx hb dX10_cell_9 ?_
  refine lv_iload_n hx hb dX10_cell_12 rfl (lv_at hl 3 rfl) ?_
  refine lv_iload_n hx hb dX10_cell_13 rfl (lv_at hl 4 rfl) ?_
  have hM := c_X1_has l g nn j
  refine r_callRO (js := []) C hT (runS (js := []) (rm := ({ frames := 0, cells := 0, slots := 0, locals := 0 } : Room)) (As := [.int nn, .int j]) (n := 2) (rest := []) C hT hM rfl rfl k599 k429 k9 k430 (by decide +kernel) rfl rfl (Nat.le_of_ble_eq_true rfl) hl.1 ⟨Nat.le_of_ble_eq_true rfl, Nat.le_of_ble_eq_true rfl⟩ ⟨Nat.le_of_ble_eq_true rfl, Nat.le_of_ble_eq_true rfl⟩ dX10_cell_14) rfl rfl (fun u H locs hT => ?_)
  refine W.eq (g2 := F0 m 17 ls [.int (b01 (cellB nn j))]) rfl ?_
  refine lv_if_ne (tgt := 23) hx hb dX10_cell_17 (by decide) (fun h_1 => ?_) (fun h_1 => ?_)
  · skip
    have h_1 := b01_t h_1
    obtain ⟨k, t, hk, ht, vek, vet⟩ := cellB_of h_1
    refine lv_aload hx hb dX10_cell_23 (lv_at hl 0 rfl) ?_
    refine gX10_182 C hT (q0 := 29) rfl dX10_cell_25 ?_
    refine lv_iload_n hx hb dX10_cell_28 rfl (lv_at hl 3 rfl) ?_
    refine W.eq (g2 := F0 m 29 ls [.int (nI k), .ref (mixA ad bd 16)]) (congrArg (fun z => F0 m 29 ls (.int z :: [.ref (mixA ad bd 16)])) (vek)) ?_
    refine lv_iload_n hx hb dX10_cell_29 rfl (lv_at hl 4 rfl) ?_
    refine W.eq (g2 := F0 m 30 ls [.int (nI t), .int (nI k), .ref (mixA ad bd 16)]) (congrArg (fun z => F0 m 30 ls (.int z :: [.int (nI k), .ref (mixA ad bd 16)])) (vet)) ?_
    have hM := c_X1_cellAt l g (mixA ad bd 16) (mixA ad bd 17) (s_nr V) (s_fx V) k t (by first | assumption | omega) (by first | assumption | omega)
    refine r_callRO (js := [39, 40]) C hT (runV (js := [39, 40]) (rm := ({ frames := 1, cells := 0, slots := 0, locals := 21 } : Room)) (As := [.int (nI k), .int (nI t)]) (n := 2) (q1 := 0) (rest := []) C hT hM rfl rfl k601 k425 k426 k9 k427 (by decide +kernel) rfl rfl rfl rfl (Nat.le_of_ble_eq_true rfl) hl.1 ⟨Nat.le_of_ble_eq_true rfl, Nat.le_of_ble_eq_true rfl⟩ ⟨Nat.le_of_ble_eq_true rfl, Nat.le_of_ble_eq_true rfl⟩ dX10_cell_30) rfl rfl (fun u H locs hT => ?_)
    refine W.eq (g2 := F0 m 33 ls [.int ((s_fx V) (33 * k + t))]) rfl ?_
    refine lv_istore (lv' := [(5, .int ((s_fx V) (33 * k + t))), (4, .ref (mixA ad bd 0)), (0, .ref (bd 1)), (1, .int sd), (2, .int nn), (3, .int j)]) hx hb dX10_cell_33 hl (by decide) rfl (fun ls hl => ?_)
    refine lv_iload hx hb dX10_cell_35 (lv_at hl 0 rfl) ?_
    refine lv_sipush (v := 32767) hx hb dX10_cell_37 (by decide) ?_
    refine lv_icmp_le (tgt := 51) hx hb dX10_cell_40 (by decide) (fun h_2 => ?_) (fun h_2 => ?_)
    · skip
      refine lv_iload hx hb dX10_cell_51 (lv_at hl 0 rfl) ?_
      exact e_iret C hQ () hT (by rw [if_pos h_1, vek, vet, nI_clamp (by omega), nI_clamp (by omega), sgnI]; first | (rw [if_pos h_2]; done) | (rw [if_neg h_2])) dX10_cell_53
    · skip
      refine lv_iload hx hb dX10_cell_43 (lv_at hl 0 rfl) ?_
      refine lv_ldc (v := 65536) hx hb C.ow (C.ts _ k602) dX10_cell_45 ?_
      refine lv_isub hx hb dX10_cell_47 ?_
      refine lv_goto (tgt := 53) hx hb dX10_cell_48 (by decide) ?_
      exact e_iret C hQ () hT (by rw [if_pos h_1, vek, vet, nI_clamp (by omega), nI_clamp (by omega), sgnI]; first | (rw [if_pos h_2]; done) | (rw [if_neg h_2])) dX10_cell_53
  · skip
    have h_1 := b01_f h_1
    refine lv_ldc (v := 40000) hx hb C.ow (C.ts _ k600) dX10_cell_20 ?_
    exact e_iret C hQ () hT (by rw [if_neg (by rw [h_1]; decide)]) dX10_cell_22

set_option maxHeartbeats 400000 in
set_option maxRecDepth 100000 in
theorem c_X10_spoil (l : Launch) (g : GT) (ad : Nat → Nat) (bd : Nat → Nat) (np : Nat) (fk : Nat → Int32) (fn : Nat → Int32) (fo : Nat → Int32) (st : Nat → Int32) (N : Nat) (U : SSt) (V : SSt) (code : Int64) (cp : Nat) (en : Bool) (no : Nat) (ou : Nat → Int32) (wl : Int64) (wh : Int64) (rl : Int64) (rh : Int64) (i : Int32) (mk : Int32) (hno : no ≤ 3028) : OM (S := Unit) l g yX10_spoil cX10_spoil 3 (some .int) ({ frames := 2, cells := 0, slots := 0, locals := 43 } : Room) [.ref (bd 1), .int i, .int mk] (cmL g ad bd np fk fn fo st N (s_n U) (s_nd U) (s_bg U) (s_f U) (s_fc U) (s_fs U) (s_r0 U) (s_t0 U) (s_f0 U) (s_r1 U) (s_t1 U) (s_f1 U) (s_nr U) (s_fx U) (s_mp U) (s_ml U) (s_cx U) (s_xi U) (s_n V) (s_nd V) (s_bg V) (s_f V) (s_fc V) (s_fs V) (s_r0 V) (s_t0 V) (s_f0 V) (s_r1 V) (s_t1 V) (s_f1 V) (s_nr V) (s_fx V) (s_mp V) (s_ml V) (s_cx V) (s_xi V) code cp en no ou wl wh rl rh) (fun _ => some (.int (if spoB i mk no = true then ou i.toNatClampNeg ^^^ mk else (-1)))) (fun _ => (cmL g ad bd np fk fn fo st N (s_n U) (s_nd U) (s_bg U) (s_f U) (s_fc U) (s_fs U) (s_r0 U) (s_t0 U) (s_f0 U) (s_r1 U) (s_t1 U) (s_f1 U) (s_nr U) (s_fx U) (s_mp U) (s_ml U) (s_cx U) (s_xi U) (s_n V) (s_nd V) (s_bg V) (s_f V) (s_fc V) (s_fs V) (s_r0 V) (s_t0 V) (s_f0 V) (s_r1 V) (s_t1 V) (s_f1 V) (s_nr V) (s_fx V) (s_mp V) (s_ml V) (s_cx V) (s_xi V) code cp en no (if spoB i mk no = true then upd ou i.toNatClampNeg (ou i.toNatClampNeg ^^^ mk) else ou) wl wh rl rh)) := by
  refine OM.startQ (by decide) (Nat.le_of_ble_eq_true rfl) ?_
  intro p e s m below meth c A ls Q H locs hQ C hnm hl hT
  have hx := C.x
  have hb := C.b
  have hl : lv_has ls 3 [(0, .ref (bd 1)), (1, .int i), (2, .int mk)] := hl
  refine lv_aload_n hx hb dX10_spoil_0 rfl (lv_at hl 0 rfl) ?_
  refine gX10_42 C hT (q0 := 52) rfl dX10_spoil_1 ?_
  refine lv_iload_n hx hb dX10_spoil_4 rfl (lv_at hl 1 rfl) ?_
  have hM := c_X6_has l g (bd 2) (bd 3) no i
  refine r_callRO (js := [53]) C hT (runV (js := [53]) (rm := ({ frames := 0, cells := 0, slots := 0, locals := 0 } : Room)) (As := [.int i]) (n := 1) (q1 := 0) (rest := []) C hT hM rfl rfl k510 k511 k512 k13 k513 (by decide +kernel) rfl rfl rfl rfl (Nat.le_of_ble_eq_true rfl) hl.1 ⟨Nat.le_of_ble_eq_true rfl, Nat.le_of_ble_eq_true rfl⟩ ⟨Nat.le_of_ble_eq_true rfl, Nat.le_of_ble_eq_true rfl⟩ dX10_spoil_5) rfl rfl (fun u H locs hT => ?_)
  refine W.eq (g2 := F0 m 8 ls [.int (b01 (inR i no))]) rfl ?_
  refine lv_if_eq (tgt := 23) hx hb dX10_spoil_8 (by decide) (fun h_1 => ?_) (fun h_1 => ?_)
  · skip
    have h_1 := b01_f h_1
    have hsp : spoB i mk no = false := by simp [spoB, h_1]
    refine lv_iconst (v := (-1)) hx hb dX10_spoil_23 (by decide) ?_
    exact e_iret C hQ () (by rw [hsp]; exact hT) (by rw [hsp]; rfl) dX10_spoil_24
  · skip
    have h_1 := b01_t h_1
    obtain ⟨j, hj, vej⟩ := inR_of (by omega) h_1
    refine lv_iload_n hx hb dX10_spoil_11 rfl (lv_at hl 2 rfl) ?_
    refine lv_iconst (v := 1) hx hb dX10_spoil_12 (by decide) ?_
    refine lv_icmp_lt (tgt := 23) hx hb dX10_spoil_13 (by decide) (fun h_2 => ?_) (fun h_2 => ?_)
    · skip
      have hsp : spoB i mk no = false := by simp [spoB, h_2]
      refine lv_iconst (v := (-1)) hx hb dX10_spoil_23 (by decide) ?_
      exact e_iret C hQ () (by rw [hsp]; exact hT) (by rw [hsp]; rfl) dX10_spoil_24
    · skip
      refine lv_iload_n hx hb dX10_spoil_16 rfl (lv_at hl 2 rfl) ?_
      refine lv_sipush (v := 255) hx hb dX10_spoil_17 (by decide) ?_
      refine lv_icmp_le (tgt := 25) hx hb dX10_spoil_20 (by decide) (fun h_3 => ?_) (fun h_3 => ?_)
      · skip
        have hsp : spoB i mk no = true := by simp [spoB, h_3, h_1, h_2]
        refine lv_aload_n hx hb dX10_spoil_25 rfl (lv_at hl 0 rfl) ?_
        refine gX10_42 C hT (q0 := 52) rfl dX10_spoil_26 ?_
        refine lv_iload_n hx hb dX10_spoil_29 rfl (lv_at hl 1 rfl) ?_
        refine W.eq (g2 := F0 m 30 ls [.int (nI j), .ref (bd 2)]) (congrArg (fun z => F0 m 30 ls (.int z :: [.ref (bd 2)])) (vej)) ?_
        refine lv_iload_n hx hb dX10_spoil_30 rfl (lv_at hl 2 rfl) ?_
        have hM := c_X6_flip l g (bd 2) (bd 3) no ou j mk (by first | assumption | omega) hno
        refine r_call0 (js := [53, 54]) C hT (runV (js := [53, 54]) (rm := ({ frames := 1, cells := 0, slots := 0, locals := 21 } : Room)) (As := [.int (nI j), .int mk]) (n := 2) (q1 := 0) (rest := []) C hT hM rfl rfl k564 k565 k566 k13 k567 (by decide +kernel) rfl rfl rfl rfl (Nat.le_of_ble_eq_true rfl) hl.1 ⟨Nat.le_of_ble_eq_true rfl, Nat.le_of_ble_eq_true rfl⟩ ⟨Nat.le_of_ble_eq_true rfl, Nat.le_of_ble_eq_true rfl⟩ dX10_spoil_31) rfl rfl (fun _ => by simp only [List.map_cons, List.map_nil]) (fun u H locs hT => ?_)
        have hT : Wd g A s (cmL g ad bd np fk fn fo st N (s_n U) (s_nd U) (s_bg U) (s_f U) (s_fc U) (s_fs U) (s_r0 U) (s_t0 U) (s_f0 U) (s_r1 U) (s_t1 U) (s_f1 U) (s_nr U) (s_fx U) (s_mp U) (s_ml U) (s_cx U) (s_xi U) (s_n V) (s_nd V) (s_bg V) (s_f V) (s_fc V) (s_fs V) (s_r0 V) (s_t0 V) (s_f0 V) (s_r1 V) (s_t1 V) (s_f1 V) (s_nr V) (s_fx V) (s_mp V) (s_ml V) (s_cx V) (s_xi V) code cp en no (upd ou j (ou j ^^^ mk)) wl wh rl rh) H locs := hT
        refine W.eq (g2 := F0 m 34 ls []) rfl ?_
        refine lv_aload_n hx hb dX10_spoil_34 rfl (lv_at hl 0 rfl) ?_
        refine gX10_42 C hT (q0 := 52) rfl dX10_spoil_35 ?_
        refine lv_iload_n hx hb dX10_spoil_38 rfl (lv_at hl 1 rfl) ?_
        refine W.eq (g2 := F0 m 39 ls [.int (nI j), .ref (bd 2)]) (congrArg (fun z => F0 m 39 ls (.int z :: [.ref (bd 2)])) (vej)) ?_
        have hM := c_X6_byteAt l g (bd 2) (bd 3) no (upd ou j (ou j ^^^ mk)) (nI j) hno
        refine r_callRO (js := [53, 54]) C hT (runV (js := [53, 54]) (rm := ({ frames := 1, cells := 0, slots := 0, locals := 21 } : Room)) (As := [.int (nI j)]) (n := 1) (q1 := 0) (rest := []) C hT hM rfl rfl k514 k515 k516 k13 k517 (by decide +kernel) rfl rfl rfl rfl (Nat.le_of_ble_eq_true rfl) hl.1 ⟨Nat.le_of_ble_eq_true rfl, Nat.le_of_ble_eq_true rfl⟩ ⟨Nat.le_of_ble_eq_true rfl, Nat.le_of_ble_eq_true rfl⟩ dX10_spoil_39) rfl rfl (fun u H locs hT => ?_)
        refine W.eq (g2 := F0 m 42 ls [.int (if inR (nI j) no = true then (upd ou j (ou j ^^^ mk)) (nI j).toNatClampNeg else 0)]) rfl ?_
        exact e_iret C hQ () (by rw [if_pos hsp, vej, nI_clamp (by omega)]; exact hT) (by rw [if_pos hsp, if_pos (inR_nI hj (by omega)), vej, nI_clamp (by omega)]; simp [upd]) dX10_spoil_42
      · skip
        have hsp : spoB i mk no = false := by simp [spoB, h_3]
        refine lv_iconst (v := (-1)) hx hb dX10_spoil_23 (by decide) ?_
        exact e_iret C hQ () (by rw [hsp]; exact hT) (by rw [hsp]; rfl) dX10_spoil_24

set_option maxHeartbeats 400000 in
set_option maxRecDepth 100000 in
theorem c_X10_equal (l : Launch) (g : GT) (ad : Nat → Nat) (bd : Nat → Nat) (np : Nat) (fk : Nat → Int32) (fn : Nat → Int32) (fo : Nat → Int32) (st : Nat → Int32) (N : Nat) (U : SSt) (V : SSt) (code : Int64) (cp : Nat) (en : Bool) (no : Nat) (ou : Nat → Int32) (wl : Int64) (wh : Int64) (rl : Int64) (rh : Int64) (hU : SI N U) (hV : SI N V) (hN31 : N < 2 ^ 31) : OM (S := Unit) l g yX10_equal cX10_equal 1 (some .int) ({ frames := 3, cells := 0, slots := 0, locals := 64 } : Room) [.ref (bd 1)] (cmL g ad bd np fk fn fo st N (s_n U) (s_nd U) (s_bg U) (s_f U) (s_fc U) (s_fs U) (s_r0 U) (s_t0 U) (s_f0 U) (s_r1 U) (s_t1 U) (s_f1 U) (s_nr U) (s_fx U) (s_mp U) (s_ml U) (s_cx U) (s_xi U) (s_n V) (s_nd V) (s_bg V) (s_f V) (s_fc V) (s_fs V) (s_r0 V) (s_t0 V) (s_f0 V) (s_r1 V) (s_t1 V) (s_f1 V) (s_nr V) (s_fx V) (s_mp V) (s_ml V) (s_cx V) (s_xi V) code cp en no ou wl wh rl rh) (fun _ => some (.int (b01 (eqB N U V)))) (fun _ => (cmL g ad bd np fk fn fo st N (s_n U) (s_nd U) (s_bg U) (s_f U) (s_fc U) (s_fs U) (s_r0 U) (s_t0 U) (s_f0 U) (s_r1 U) (s_t1 U) (s_f1 U) (s_nr U) (s_fx U) (s_mp U) (s_ml U) (s_cx U) (s_xi U) (s_n V) (s_nd V) (s_bg V) (s_f V) (s_fc V) (s_fs V) (s_r0 V) (s_t0 V) (s_f0 V) (s_r1 V) (s_t1 V) (s_f1 V) (s_nr V) (s_fx V) (s_mp V) (s_ml V) (s_cx V) (s_xi V) code cp en no ou wl wh rl rh)) := by
  refine OM.startQ (by decide) (Nat.le_of_ble_eq_true rfl) ?_
  intro p e s m below meth c A ls Q H locs hQ C hnm hl hT
  have hx := C.x
  have hb := C.b
  have hl : lv_has ls 1 [(0, .ref (bd 1))] := hl
  have hd1 := hU.2.1
  have hd2 := hV.2.1
  refine lv_aload_n hx hb dX10_equal_0 rfl (lv_at hl 0 rfl) ?_
  refine gX10_32 C hT (q0 := 52) rfl dX10_equal_1 ?_
  refine lv_aload_n hx hb dX10_equal_4 rfl (lv_at hl 0 rfl) ?_
  refine gX10_36 C hT (q0 := 52) rfl dX10_equal_5 ?_
  have hM := c_X8_sameAs l g ad (mixA ad bd) N (s_n U) (s_nd U) (s_bg U) (s_f U) (s_fc U) (s_fs U) (s_r0 U) (s_t0 U) (s_f0 U) (s_r1 U) (s_t1 U) (s_f1 U) (s_nr U) (s_fx U) (s_n V) (s_nd V) (s_bg V) (s_f V) (s_fc V) (s_fs V) (s_r0 V) (s_t0 V) (s_f0 V) (s_r1 V) (s_t1 V) (s_f1 V) (s_nr V) (s_fx V) hU.1 hV.1 (by omega) (by omega) (by first | assumption | omega)
  refine r_callRO (js := [0, 7, 8, 9, 10, 11, 12, 13, 14, 15, 16, 17, 29, 30, 31, 32, 33, 34, 35, 36, 37, 38, 39, 40]) C hT (runV (js := [0, 7, 8, 9, 10, 11, 12, 13, 14, 15, 16, 17, 29, 30, 31, 32, 33, 34, 35, 36, 37, 38, 39, 40]) (rm := ({ frames := 2, cells := 0, slots := 0, locals := 43 } : Room)) (As := [.ref ((mixA ad bd) 0)]) (n := 1) (q1 := 0) (rest := []) C hT hM rfl rfl k617 k618 k619 k5 k620 (by decide +kernel) rfl rfl rfl rfl (Nat.le_of_ble_eq_true rfl) hl.1 ⟨Nat.le_of_ble_eq_true rfl, Nat.le_of_ble_eq_true rfl⟩ ⟨Nat.le_of_ble_eq_true rfl, Nat.le_of_ble_eq_true rfl⟩ dX10_equal_8) rfl rfl (fun u H locs hT => ?_)
  refine W.eq (g2 := F0 m 11 ls [.int (b01 ((decide ((s_n U) = (s_n V)) && (decide ((s_nd U) = (s_nd V)) && eqTo (s_f U) (s_f V) (s_n U))) && ((eqTo (s_fc U) (s_fc V) N && eqTo (s_fs U) (s_fs V) N) && (eqTo (s_f0 U) (s_f0 V) 2304 && (eqTo (s_f1 U) (s_f1 V) 2304 && eqTo (s_fx U) (s_fx V) 8448)))))]) rfl ?_
  refine lv_if_eq (tgt := 18) hx hb dX10_equal_11 (by decide) (fun h_1 => ?_) (fun h_1 => ?_)
  · skip
    have h_1 := b01_f h_1
    refine lv_iconst (v := 0) hx hb dX10_equal_18 (by decide) ?_
    exact e_iret C hQ () hT (by first | (rw [show eqB N U V = true from h_1]; rfl) | (rw [show eqB N U V = false from h_1]; rfl)) dX10_equal_19
  · skip
    have h_1 := b01_t h_1
    refine lv_iconst (v := 1) hx hb dX10_equal_14 (by decide) ?_
    refine lv_goto (tgt := 19) hx hb dX10_equal_15 (by decide) ?_
    exact e_iret C hQ () hT (by first | (rw [show eqB N U V = true from h_1]; rfl) | (rw [show eqB N U V = false from h_1]; rfl)) dX10_equal_19

set_option maxHeartbeats 400000 in
set_option maxRecDepth 100000 in
theorem c_X10_count (l : Launch) (g : GT) (ad : Nat → Nat) (bd : Nat → Nat) (np : Nat) (fk : Nat → Int32) (fn : Nat → Int32) (fo : Nat → Int32) (st : Nat → Int32) (N : Nat) (U : SSt) (V : SSt) (code : Int64) (cp : Nat) (en : Bool) (no : Nat) (ou : Nat → Int32) (wl : Int64) (wh : Int64) (rl : Int64) (rh : Int64) (q : Int32) (hnp : np ≤ 8) : OM (S := Unit) l g yX10_count cX10_count 2 (some .int) ({ frames := 1, cells := 0, slots := 0, locals := 21 } : Room) [.ref (bd 1), .int q] (cmL g ad bd np fk fn fo st N (s_n U) (s_nd U) (s_bg U) (s_f U) (s_fc U) (s_fs U) (s_r0 U) (s_t0 U) (s_f0 U) (s_r1 U) (s_t1 U) (s_f1 U) (s_nr U) (s_fx U) (s_mp U) (s_ml U) (s_cx U) (s_xi U) (s_n V) (s_nd V) (s_bg V) (s_f V) (s_fc V) (s_fs V) (s_r0 V) (s_t0 V) (s_f0 V) (s_r1 V) (s_t1 V) (s_f1 V) (s_nr V) (s_fx V) (s_mp V) (s_ml V) (s_cx V) (s_xi V) code cp en no ou wl wh rl rh) (fun _ => some (.int (cntI np N no fk en U V q))) (fun _ => (cmL g ad bd np fk fn fo st N (s_n U) (s_nd U) (s_bg U) (s_f U) (s_fc U) (s_fs U) (s_r0 U) (s_t0 U) (s_f0 U) (s_r1 U) (s_t1 U) (s_f1 U) (s_nr U) (s_fx U) (s_mp U) (s_ml U) (s_cx U) (s_xi U) (s_n V) (s_nd V) (s_bg V) (s_f V) (s_fc V) (s_fs V) (s_r0 V) (s_t0 V) (s_f0 V) (s_r1 V) (s_t1 V) (s_f1 V) (s_nr V) (s_fx V) (s_mp V) (s_ml V) (s_cx V) (s_xi V) code cp en no ou wl wh rl rh)) := by
  refine OM.startQ (by decide) (Nat.le_of_ble_eq_true rfl) ?_
  intro p e s m below meth c A ls Q H locs hQ C hnm hl hT
  have hx := C.x
  have hb := C.b
  have hl : lv_has ls 2 [(0, .ref (bd 1)), (1, .int q)] := hl
  refine lv_iload_n hx hb dX10_count_0 rfl (lv_at hl 1 rfl) ?_
  by_cases h_1 : q = 0
  · skip
    refine lv_tableIn (off := 47) (tgt := 48) hx hb dX10_count_1 (by rw [h_1]; decide) (by rw [h_1]; decide) (by rw [h_1]; rfl) (by decide) ?_
    refine lv_aload_n hx hb dX10_count_48 rfl (lv_at hl 0 rfl) ?_
    refine gX10_23 C hT (q0 := 52) rfl dX10_count_49 ?_
    refine gX10_152 C hT (q0 := 1) rfl dX10_count_52 ?_
    exact e_iret C hQ () hT (by unfold cntI; rw [if_pos h_1]) dX10_count_55
  by_cases h_2 : q = 1
  · skip
    refine lv_tableIn (off := 55) (tgt := 56) hx hb dX10_count_1 (by rw [h_2]; decide) (by rw [h_2]; decide) (by rw [h_2]; rfl) (by decide) ?_
    refine lv_aload_n hx hb dX10_count_56 rfl (lv_at hl 0 rfl) ?_
    refine gX10_32 C hT (q0 := 52) rfl dX10_count_57 ?_
    refine gX10_64 C hT (q0 := 0) rfl dX10_count_60 ?_
    refine gX10_115 C hT (q0 := 7) rfl dX10_count_63 ?_
    exact e_iret C hQ () hT (by unfold cntI; rw [if_neg h_1, if_pos h_2]) dX10_count_66
  by_cases h_3 : q = 2
  · skip
    refine lv_tableIn (off := 66) (tgt := 67) hx hb dX10_count_1 (by rw [h_3]; decide) (by rw [h_3]; decide) (by rw [h_3]; rfl) (by decide) ?_
    refine lv_aload_n hx hb dX10_count_67 rfl (lv_at hl 0 rfl) ?_
    refine gX10_32 C hT (q0 := 52) rfl dX10_count_68 ?_
    refine gX10_64 C hT (q0 := 0) rfl dX10_count_71 ?_
    refine gX10_99 C hT (q0 := 7) rfl dX10_count_74 ?_
    exact e_iret C hQ () hT (by unfold cntI; rw [if_neg h_1, if_neg h_2, if_pos h_3]) dX10_count_77
  by_cases h_4 : q = 3
  · skip
    refine lv_tableIn (off := 77) (tgt := 78) hx hb dX10_count_1 (by rw [h_4]; decide) (by rw [h_4]; decide) (by rw [h_4]; rfl) (by decide) ?_
    refine lv_aload_n hx hb dX10_count_78 rfl (lv_at hl 0 rfl) ?_
    refine gX10_42 C hT (q0 := 52) rfl dX10_count_79 ?_
    refine gX10_95 C hT (q0 := 53) rfl dX10_count_82 ?_
    exact e_iret C hQ () hT (by unfold cntI; rw [if_neg h_1, if_neg h_2, if_neg h_3, if_pos h_4]) dX10_count_85
  by_cases h_5 : q = 4
  · skip
    refine lv_tableIn (off := 85) (tgt := 86) hx hb dX10_count_1 (by rw [h_5]; decide) (by rw [h_5]; decide) (by rw [h_5]; rfl) (by decide) ?_
    refine lv_aload_n hx hb dX10_count_86 rfl (lv_at hl 0 rfl) ?_
    refine gX10_36 C hT (q0 := 52) rfl dX10_count_87 ?_
    refine gX10_64 C hT (q0 := 29) rfl dX10_count_90 ?_
    refine gX10_115 C hT (q0 := 30) rfl dX10_count_93 ?_
    exact e_iret C hQ () hT (by unfold cntI; rw [if_neg h_1, if_neg h_2, if_neg h_3, if_neg h_4, if_pos h_5]) dX10_count_96
  by_cases h_6 : q = 5
  · skip
    refine lv_tableIn (off := 96) (tgt := 97) hx hb dX10_count_1 (by rw [h_6]; decide) (by rw [h_6]; decide) (by rw [h_6]; rfl) (by decide) ?_
    refine lv_aload_n hx hb dX10_count_97 rfl (lv_at hl 0 rfl) ?_
    refine gX10_32 C hT (q0 := 52) rfl dX10_count_98 ?_
    refine gX10_156 C hT (q0 := 0) rfl dX10_count_101 ?_
    refine gX10_170 C hT (q0 := 9) rfl dX10_count_104 ?_
    refine r_alen C hT (q0 := 10) 0 rfl rfl dX10_count_107 ?_
    refine W.eq (g2 := F0 m 108 ls [.int (nI N)]) rfl ?_
    exact e_iret C hQ () hT (by unfold cntI; rw [if_neg h_1, if_neg h_2, if_neg h_3, if_neg h_4, if_neg h_5, if_pos h_6]) dX10_count_108
  by_cases h_7 : q = 6
  · skip
    refine lv_tableIn (off := 108) (tgt := 109) hx hb dX10_count_1 (by rw [h_7]; decide) (by rw [h_7]; decide) (by rw [h_7]; rfl) (by decide) ?_
    refine lv_aload_n hx hb dX10_count_109 rfl (lv_at hl 0 rfl) ?_
    refine gX10_60 C hT (q0 := 52) rfl dX10_count_110 ?_
    refine lv_if_eq (tgt := 120) hx hb dX10_count_113 (by decide) (fun h_8 => ?_) (fun h_8 => ?_)
    · skip
      have h_8 := b01_f h_8
      refine lv_iconst (v := 0) hx hb dX10_count_120 (by decide) ?_
      exact e_iret C hQ () hT (by unfold cntI; rw [if_neg h_1, if_neg h_2, if_neg h_3, if_neg h_4, if_neg h_5, if_neg h_6, if_pos h_7]; rw [h_8]; rfl) dX10_count_121
    · skip
      have h_8 := b01_t h_8
      refine lv_iconst (v := 1) hx hb dX10_count_116 (by decide) ?_
      refine lv_goto (tgt := 121) hx hb dX10_count_117 (by decide) ?_
      exact e_iret C hQ () hT (by unfold cntI; rw [if_neg h_1, if_neg h_2, if_neg h_3, if_neg h_4, if_neg h_5, if_neg h_6, if_pos h_7]; rw [h_8]; rfl) dX10_count_121
  by_cases h_9 : q = 7
  · skip
    refine lv_tableIn (off := 121) (tgt := 122) hx hb dX10_count_1 (by rw [h_9]; decide) (by rw [h_9]; decide) (by rw [h_9]; rfl) (by decide) ?_
    refine lv_aload_n hx hb dX10_count_122 rfl (lv_at hl 0 rfl) ?_
    refine gX10_32 C hT (q0 := 52) rfl dX10_count_123 ?_
    have hM := c_X8_firstMatchLength l g ad np fk fn fo st (s_n U) (s_nd U) (s_bg U) (s_f U) N (s_fc U) (s_fs U) (s_r0 U) (s_t0 U) (s_f0 U) (s_r1 U) (s_t1 U) (s_f1 U) (s_nr U) (s_fx U) (s_mp U) (s_ml U) (s_cx U) (s_xi U) (by first | assumption | omega)
    have hT2 := hT.perm (perm_w (obC ad) (shL g ad np fk fn fo st) (prL g ad N (s_n U) (s_nd U) (s_bg U) (s_f U) (s_fc U) (s_fs U) (s_r0 U) (s_t0 U) (s_f0 U) (s_r1 U) (s_t1 U) (s_f1 U) (s_nr U) (s_fx U) (s_mp U) (s_ml U) (s_cx U) (s_xi U)) (obC (mixA ad bd) :: (prL g (mixA ad bd) N (s_n V) (s_nd V) (s_bg V) (s_f V) (s_fc V) (s_fs V) (s_r0 V) (s_t0 V) (s_f0 V) (s_r1 V) (s_t1 V) (s_f1 V) (s_nr V) (s_fx V) (s_mp V) (s_ml V) (s_cx V) (s_xi V) ++ exL g ad bd code cp en no ou wl wh rl rh)))
    refine r_callP (lc := sideL g ad np fk fn fo st (s_n U) (s_nd U) (s_bg U) (s_f U) N (s_fc U) (s_fs U) (s_r0 U) (s_t0 U) (s_f0 U) (s_r1 U) (s_t1 U) (s_f1 U) (s_nr U) (s_fx U) (s_mp U) (s_ml U) (s_cx U) (s_xi U)) (B := (obC (mixA ad bd) :: (prL g (mixA ad bd) N (s_n V) (s_nd V) (s_bg V) (s_f V) (s_fc V) (s_fs V) (s_r0 V) (s_t0 V) (s_f0 V) (s_r1 V) (s_t1 V) (s_f1 V) (s_nr V) (s_fx V) (s_mp V) (s_ml V) (s_cx V) (s_xi V) ++ exL g ad bd code cp en no ou wl wh rl rh))) (rm := ({ frames := 0, cells := 0, slots := 0, locals := 0 } : Room)) (As := []) (n := 0) (q1 := 0) (rest := []) C hT2 hM k637 k638 k639 k5 k640 (by decide +kernel) rfl rfl rfl rfl (Nat.le_of_ble_eq_true rfl) hl.1 ⟨Nat.le_of_ble_eq_true rfl, Nat.le_of_ble_eq_true rfl⟩ ⟨Nat.le_of_ble_eq_true rfl, Nat.le_of_ble_eq_true rfl⟩ dX10_count_126 (fun _ => sideL_fst.trans sideL_fst.symm) (fun u H locs hT => ?_)
    have hT : Wd g A s (cmL g ad bd np fk fn fo st N (s_n U) (s_nd U) (s_bg U) (s_f U) (s_fc U) (s_fs U) (s_r0 U) (s_t0 U) (s_f0 U) (s_r1 U) (s_t1 U) (s_f1 U) (s_nr U) (s_fx U) (s_mp U) (s_ml U) (s_cx U) (s_xi U) (s_n V) (s_nd V) (s_bg V) (s_f V) (s_fc V) (s_fs V) (s_r0 V) (s_t0 V) (s_f0 V) (s_r1 V) (s_t1 V) (s_f1 V) (s_nr V) (s_fx V) (s_mp V) (s_ml V) (s_cx V) (s_xi V) code cp en no ou wl wh rl rh) H locs := hT.perm (perm_w (obC ad) (shL g ad np fk fn fo st) (prL g ad N (s_n U) (s_nd U) (s_bg U) (s_f U) (s_fc U) (s_fs U) (s_r0 U) (s_t0 U) (s_f0 U) (s_r1 U) (s_t1 U) (s_f1 U) (s_nr U) (s_fx U) (s_mp U) (s_ml U) (s_cx U) (s_xi U)) (obC (mixA ad bd) :: (prL g (mixA ad bd) N (s_n V) (s_nd V) (s_bg V) (s_f V) (s_fc V) (s_fs V) (s_r0 V) (s_t0 V) (s_f0 V) (s_r1 V) (s_t1 V) (s_f1 V) (s_nr V) (s_fx V) (s_mp V) (s_ml V) (s_cx V) (s_xi V) ++ exL g ad bd code cp en no ou wl wh rl rh))).symm
    refine W.eq (g2 := F0 m 129 ls [.int (nI (fmF fk (s_ml U) np 0))]) rfl ?_
    exact e_iret C hQ () hT (by unfold cntI; rw [if_neg h_1, if_neg h_2, if_neg h_3, if_neg h_4, if_neg h_5, if_neg h_6, if_neg h_7, if_pos h_9]) dX10_count_129
  refine lv_tableOut (tgt := 130) hx hb dX10_count_1 (swOut8 h_1 h_2 h_3 h_4 h_5 h_6 h_7 h_9) (by decide) ?_
  refine lv_iconst (v := (-1)) hx hb dX10_count_130 (by decide) ?_
  exact e_iret C hQ () hT (by unfold cntI; rw [if_neg h_1, if_neg h_2, if_neg h_3, if_neg h_4, if_neg h_5, if_neg h_6, if_neg h_7, if_neg h_9]) dX10_count_131
