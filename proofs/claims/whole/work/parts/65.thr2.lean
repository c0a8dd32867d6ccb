set_option maxHeartbeats 400000 in
set_option maxRecDepth 100000 in
theorem c_X10_slot_x0 (l : Launch) (hl9 : l.stackTraces = false) (g : GT) (ad : Nat → Nat) (bd : Nat → Nat) (np : Nat) (fk : Nat → Int32) (fn : Nat → Int32) (fo : Nat → Int32) (st : Nat → Int32) (N : Nat) (U : SSt) (V : SSt) (code : Int64) (cp : Nat) (en : Bool) (no : Nat) (ou : Nat → Int32) (wl : Int64) (wh : Int64) (rl : Int64) (rh : Int64) (sd : Int32) (i : Int32) (hsd : sd = 0) (hr : inR i N = false) : OMT l g yX10_slot cX10_slot 4 (some .int) ({ frames := 7, cells := 1, slots := 6, locals := 120 } : Room) [.ref (bd 1), .int sd, .int i] (cmL g ad bd np fk fn fo st N (s_n U) (s_nd U) (s_bg U) (s_f U) (s_fc U) (s_fs U) (s_r0 U) (s_t0 U) (s_f0 U) (s_r1 U) (s_t1 U) (s_f1 U) (s_nr U) (s_fx U) (s_mp U) (s_ml U) (s_cx U) (s_xi U) (s_n V) (s_nd V) (s_bg V) (s_f V) (s_fc V) (s_fs V) (s_r0 V) (s_t0 V) (s_f0 V) (s_r1 V) (s_t1 V) (s_f1 V) (s_nr V) (s_fx V) (s_mp V) (s_ml V) (s_cx V) (s_xi V) code cp en no ou wl wh rl rh) EXC := by
  refine OMT.startQ (by decide) (Nat.le_of_ble_eq_true rfl) ?_
  intro p e s m below meth c A ls Q H locs hQ C hnm hl hT hXS htab
  have hx := C.x
  have hb := C.b
  have hl : lv_has ls 4 [(0, .ref (bd 1)), (1, .int sd), (2, .int i)] := hl
  refine lv_aload_n hx hb dX10_slot_0 rfl (lv_at hl 0 rfl) ?_
  refine lv_iload_n hx hb dX10_slot_1 rfl (lv_at hl 1 rfl) ?_
  have hM := c_X10_sideOf_0 l g ad bd np fk fn fo st N U V code cp en no ou wl wh rl rh sd (by first | assumption | omega)
  refine r_callRO (js := [0, 1, 2, 3, 4, 5, 6, 7, 8, 9, 10, 11, 12, 13, 14, 15, 16, 17, 18, 19, 20, 21, 22, 23, 24, 25, 26, 27, 28, 29, 30, 31, 32, 33, 34, 35, 36, 37, 38, 39, 40, 41, 42, 43, 44, 45, 46, 47, 48, 49, 50, 51, 52, 53, 54, 55, 56]) C hT (runV (js := [0, 1, 2, 3, 4, 5, 6, 7, 8, 9, 10, 11, 12, 13, 14, 15, 16, 17, 18, 19, 20, 21, 22, 23, 24, 25, 26, 27, 28, 29, 30, 31, 32, 33, 34, 35, 36, 37, 38, 39, 40, 41, 42, 43, 44, 45, 46, 47, 48, 49, 50, 51, 52, 53, 54, 55, 56]) (rm := ({ frames := 0, cells := 0, slots := 0, locals := 0 } : Room)) (As := [.int sd]) (n := 1) (q1 := 52) (rest := []) C hT hM rfl rfl k572 k574 s9 k1 k575 (by decide +kernel) rfl rfl rfl rfl (Nat.le_of_ble_eq_true rfl) hl.1 ⟨Nat.le_of_ble_eq_true rfl, Nat.le_of_ble_eq_true rfl⟩ ⟨Nat.le_of_ble_eq_true rfl, Nat.le_of_ble_eq_true rfl⟩ dX10_slot_2) rfl rfl (fun u H locs hT => ?_)
  refine W.eq (g2 := F0 m 5 ls [.ref (ad 0)]) rfl ?_
  refine lv_astore_n (lv' := [(3, .ref (ad 0)), (0, .ref (bd 1)), (1, .int sd), (2, .int i)]) hx hb dX10_slot_5 rfl hl (by decide) rfl (fun ls hl => ?_)
  refine lv_aload_n hx hb dX10_slot_6 rfl (lv_at hl 0 rfl) ?_
  refine lv_ifnonnull (tgt := 12) hx hb dX10_slot_7 (by decide) ?_
  refine lv_aload_n hx hb dX10_slot_12 rfl (lv_at hl 0 rfl) ?_
  refine gX10_156 C hT (q0 := 0) rfl dX10_slot_13 ?_
  refine lv_iload_n hx hb dX10_slot_16 rfl (lv_at hl 3 rfl) ?_
  have hM := c_X9_has l g (ad 9) (ad 10) (ad 11) N (s_fc U) i
  refine r_callRO (js := [9, 10]) C hT (runV (js := [9, 10]) (rm := ({ frames := 0, cells := 0, slots := 0, locals := 0 } : Room)) (As := [.int i]) (n := 1) (q1 := 0) (rest := []) C hT hM rfl rfl k594 k478 k479 k11 k480 (by decide +kernel) rfl rfl rfl rfl (Nat.le_of_ble_eq_true rfl) hl.1 ⟨Nat.le_of_ble_eq_true rfl, Nat.le_of_ble_eq_true rfl⟩ ⟨Nat.le_of_ble_eq_true rfl, Nat.le_of_ble_eq_true rfl⟩ dX10_slot_17) rfl rfl (fun u H locs hT => ?_)
  refine W.eq (g2 := F0 m 20 ls [.int (b01 (inR i N))]) rfl ?_
  refine lv_if_ne (tgt := 33) hx hb dX10_slot_20 (by decide) (fun h_1 => ?_) (fun h_1 => ?_)
  · skip
    exact absurd (b01_t h_1) (by rw [hr]; decide)
  · skip
    obtain ⟨⟨z1, z2⟩, ⟨sa, z3⟩, z4, z5⟩ := hXS
    subst hQ
    exact vx_throwS (names := XNM) C.x C.b hl9 C.ow (by decide) (by decide) (C.ts _ k725) (C.ts _ k20) z3 (vx_hat (fun w h => C.ts w (xat_good w h)) xat_bad (xat_use z4 z5)) xat_ot z1 z2 hT.2.2 (hl.1.trans C.ml.symm) dX10_slot_23 dX10_slot_26 dX10_slot_27 dX10_slot_29 dX10_slot_32 (fun x hx => (htab x hx).elim) (Nat.le_of_ble_eq_true rfl) (Nat.le_of_ble_eq_true rfl) (Nat.le_of_ble_eq_true rfl) (Nat.le_of_ble_eq_true rfl) C.lk (fun t _ hz hk => ⟨(), trivial, ⟨rfl, (tb_out hT hz hk).1⟩, (tb_out hT hz hk).2⟩) hT.2.2.2.2 (Nat.le_of_ble_eq_true rfl) (Nat.le_of_ble_eq_true rfl)

set_option maxHeartbeats 400000 in
set_option maxRecDepth 100000 in
theorem c_X10_slot_x1 (l : Launch) (hl9 : l.stackTraces = false) (g : GT) (ad : Nat → Nat) (bd : Nat → Nat) (np : Nat) (fk : Nat → Int32) (fn : Nat → Int32) (fo : Nat → Int32) (st : Nat → Int32) (N : Nat) (U : SSt) (V : SSt) (code : Int64) (cp : Nat) (en : Bool) (no : Nat) (ou : Nat → Int32) (wl : Int64) (wh : Int64) (rl : Int64) (rh : Int64) (sd : Int32) (i : Int32) (hsd : sd = 1) (hr : inR i N = false) : OMT l g yX10_slot cX10_slot 4 (some .int) ({ frames := 7, cells := 1, slots := 6, locals := 120 } : Room) [.ref (bd 1), .int sd, .int i] (cmL g ad bd np fk fn fo st N (s_n U) (s_nd U) (s_bg U) (s_f U) (s_fc U) (s_fs U) (s_r0 U) (s_t0 U) (s_f0 U) (s_r1 U) (s_t1 U) (s_f1 U) (s_nr U) (s_fx U) (s_mp U) (s_ml U) (s_cx U) (s_xi U) (s_n V) (s_nd V) (s_bg V) (s_f V) (s_fc V) (s_fs V) (s_r0 V) (s_t0 V) (s_f0 V) (s_r1 V) (s_t1 V) (s_f1 V) (s_nr V) (s_fx V) (s_mp V) (s_ml V) (s_cx V) (s_xi V) code cp en no ou wl wh rl rh) EXC := by
  refine OMT.startQ (by decide) (Nat.le_of_ble_eq_true rfl) ?_
  intro p e s m below meth c A ls Q H locs hQ C hnm hl hT hXS htab
  have hx := C.x
  have hb := C.b
  have hl : lv_has ls 4 [(0, .ref (bd 1)), (1, .int sd), (2, .int i)] := hl
  refine lv_aload_n hx hb dX10_slot_0 rfl (lv_at hl 0 rfl) ?_
  refine lv_iload_n hx hb dX10_slot_1 rfl (lv_at hl 1 rfl) ?_
  have hM := c_X10_sideOf_1 l g ad bd np fk fn fo st N U V code cp en no ou wl wh rl rh sd (by first | assumption | omega)
  refine r_callRO (js := [0, 1, 2, 3, 4, 5, 6, 7, 8, 9, 10, 11, 12, 13, 14, 15, 16, 17, 18, 19, 20, 21, 22, 23, 24, 25, 26, 27, 28, 29, 30, 31, 32, 33, 34, 35, 36, 37, 38, 39, 40, 41, 42, 43, 44, 45, 46, 47, 48, 49, 50, 51, 52, 53, 54, 55, 56]) C hT (runV (js := [0, 1, 2, 3, 4, 5, 6, 7, 8, 9, 10, 11, 12, 13, 14, 15, 16, 17, 18, 19, 20, 21, 22, 23, 24, 25, 26, 27, 28, 29, 30, 31, 32, 33, 34, 35, 36, 37, 38, 39, 40, 41, 42, 43, 44, 45, 46, 47, 48, 49, 50, 51, 52, 53, 54, 55, 56]) (rm := ({ frames := 0, cells := 0, slots := 0, locals := 0 } : Room)) (As := [.int sd]) (n := 1) (q1 := 52) (rest := []) C hT hM rfl rfl k572 k574 s9 k1 k575 (by decide +kernel) rfl rfl rfl rfl (Nat.le_of_ble_eq_true rfl) hl.1 ⟨Nat.le_of_ble_eq_true rfl, Nat.le_of_ble_eq_true rfl⟩ ⟨Nat.le_of_ble_eq_true rfl, Nat.le_of_ble_eq_true rfl⟩ dX10_slot_2) rfl rfl (fun u H locs hT => ?_)
  refine W.eq (g2 := F0 m 5 ls [.ref (mixA ad bd 0)]) rfl ?_
  refine lv_astore_n (lv' := [(3, .ref (mixA ad bd 0)), (0, .ref (bd 1)), (1, .int sd), (2, .int i)]) hx hb dX10_slot_5 rfl hl (by decide) rfl (fun ls hl => ?_)
  refine lv_aload_n hx hb dX10_slot_6 rfl (lv_at hl 0 rfl) ?_
  refine lv_ifnonnull (tgt := 12) hx hb dX10_slot_7 (by decide) ?_
  refine lv_aload_n hx hb dX10_slot_12 rfl (lv_at hl 0 rfl) ?_
  refine gX10_156 C hT (q0 := 29) rfl dX10_slot_13 ?_
  refine lv_iload_n hx hb dX10_slot_16 rfl (lv_at hl 3 rfl) ?_
  have hM := c_X9_has l g (mixA ad bd 9) (mixA ad bd 10) (mixA ad bd 11) N (s_fc V) i
  refine r_callRO (js := [32, 33]) C hT (runV (js := [32, 33]) (rm := ({ frames := 0, cells := 0, slots := 0, locals := 0 } : Room)) (As := [.int i]) (n := 1) (q1 := 0) (rest := []) C hT hM rfl rfl k594 k478 k479 k11 k480 (by decide +kernel) rfl rfl rfl rfl (Nat.le_of_ble_eq_true rfl) hl.1 ⟨Nat.le_of_ble_eq_true rfl, Nat.le_of_ble_eq_true rfl⟩ ⟨Nat.le_of_ble_eq_true rfl, Nat.le_of_ble_eq_true rfl⟩ dX10_slot_17) rfl rfl (fun u H locs hT => ?_)
  refine W.eq (g2 := F0 m 20 ls [.int (b01 (inR i N))]) rfl ?_
  refine lv_if_ne (tgt := 33) hx hb dX10_slot_20 (by decide) (fun h_1 => ?_) (fun h_1 => ?_)
  · skip
    exact absurd (b01_t h_1) (by rw [hr]; decide)
  · skip
    obtain ⟨⟨z1, z2⟩, ⟨sa, z3⟩, z4, z5⟩ := hXS
    subst hQ
    exact vx_throwS (names := XNM) C.x C.b hl9 C.ow (by decide) (by decide) (C.ts _ k725) (C.ts _ k20) z3 (vx_hat (fun w h => C.ts w (xat_good w h)) xat_bad (xat_use z4 z5)) xat_ot z1 z2 hT.2.2 (hl.1.trans C.ml.symm) dX10_slot_23 dX10_slot_26 dX10_slot_27 dX10_slot_29 dX10_slot_32 (fun x hx => (htab x hx).elim) (Nat.le_of_ble_eq_true rfl) (Nat.le_of_ble_eq_true rfl) (Nat.le_of_ble_eq_true rfl) (Nat.le_of_ble_eq_true rfl) C.lk (fun t _ hz hk => ⟨(), trivial, ⟨rfl, (tb_out hT hz hk).1⟩, (tb_out hT hz hk).2⟩) hT.2.2.2.2 (Nat.le_of_ble_eq_true rfl) (Nat.le_of_ble_eq_true rfl)
