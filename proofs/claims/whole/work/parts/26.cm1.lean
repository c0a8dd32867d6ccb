set_option maxHeartbeats 400000 in
set_option maxRecDepth 100000 in
theorem c_X10_squash (l : Launch) (g : GT) (ad : Nat → Nat) (bd : Nat → Nat) (np : Nat) (fk : Nat → Int32) (fn : Nat → Int32) (fo : Nat → Int32) (st : Nat → Int32) (N : Nat) (U : SSt) (V : SSt) (code : Int64) (cp : Nat) (en : Bool) (no : Nat) (ou : Nat → Int32) (wl : Int64) (wh : Int64) (rl : Int64) (rh : Int64) (d : Int32) : OM (S := Unit) l g yX10_squash cX10_squash 2 (some .int) ({ frames := 1, cells := 0, slots := 0, locals := 22 } : Room) [.ref (bd 1), .int d] (cmL g ad bd np fk fn fo st N (s_n U) (s_nd U) (s_bg U) (s_f U) (s_fc U) (s_fs U) (s_r0 U) (s_t0 U) (s_f0 U) (s_r1 U) (s_t1 U) (s_f1 U) (s_nr U) (s_fx U) (s_mp U) (s_ml U) (s_cx U) (s_xi U) (s_n V) (s_nd V) (s_bg V) (s_f V) (s_fc V) (s_fs V) (s_r0 V) (s_t0 V) (s_f0 V) (s_r1 V) (s_t1 V) (s_f1 V) (s_nr V) (s_fx V) (s_mp V) (s_ml V) (s_cx V) (s_xi V) code cp en no ou wl wh rl rh) (fun _ => some (.int (sqI d))) (fun _ => (cmL g ad bd np fk fn fo st N (s_n U) (s_nd U) (s_bg U) (s_f U) (s_fc U) (s_fs U) (s_r0 U) (s_t0 U) (s_f0 U) (s_r1 U) (s_t1 U) (s_f1 U) (s_nr U) (s_fx U) (s_mp U) (s_ml U) (s_cx U) (s_xi U) (s_n V) (s_nd V) (s_bg V) (s_f V) (s_fc V) (s_fs V) (s_r0 V) (s_t0 V) (s_f0 V) (s_r1 V) (s_t1 V) (s_f1 V) (s_nr V) (s_fx V) (s_mp V) (s_ml V) (s_cx V) (s_xi V) code cp en no ou wl wh rl rh)) := by
  refine OM.startQ (by decide) (Nat.le_of_ble_eq_true rfl) ?_
  intro p e s m below meth c A ls Q H locs hQ C hnm hl hT
  have hx := C.x
  have hb := C.b
  have hl : lv_has ls 2 [(0, .ref (bd 1)), (1, .int d)] := hl
  refine lv_iload_n hx hb dX10_squash_0 rfl (lv_at hl 1 rfl) ?_
  have hM := c_X5_squashed l g d
  refine r_callRO (js := []) C hT (runS (js := []) (rm := ({ frames := 0, cells := 0, slots := 0, locals := 0 } : Room)) (As := [.int d]) (n := 1) (rest := []) C hT hM rfl rfl k607 k46 k2 k47 (by decide +kernel) rfl rfl (Nat.le_of_ble_eq_true rfl) hl.1 ⟨Nat.le_of_ble_eq_true rfl, Nat.le_of_ble_eq_true rfl⟩ ⟨Nat.le_of_ble_eq_true rfl, Nat.le_of_ble_eq_true rfl⟩ dX10_squash_1) rfl rfl (fun u H locs hT => ?_)
  refine W.eq (g2 := F0 m 4 ls [.int (sqI d)]) rfl ?_
  exact e_iret C hQ () hT rfl dX10_squash_4

set_option maxHeartbeats 400000 in
set_option maxRecDepth 100000 in
theorem c_X10_stretch (l : Launch) (g : GT) (ad : Nat → Nat) (bd : Nat → Nat) (np : Nat) (fk : Nat → Int32) (fn : Nat → Int32) (fo : Nat → Int32) (st : Nat → Int32) (N : Nat) (U : SSt) (V : SSt) (code : Int64) (cp : Nat) (en : Bool) (no : Nat) (ou : Nat → Int32) (wl : Int64) (wh : Int64) (rl : Int64) (rh : Int64) (q : Int32) : OM (S := Unit) l g yX10_stretch cX10_stretch 2 (some .int) ({ frames := 3, cells := 0, slots := 0, locals := 66 } : Room) [.ref (bd 1), .int q] (cmL g ad bd np fk fn fo st N (s_n U) (s_nd U) (s_bg U) (s_f U) (s_fc U) (s_fs U) (s_r0 U) (s_t0 U) (s_f0 U) (s_r1 U) (s_t1 U) (s_f1 U) (s_nr U) (s_fx U) (s_mp U) (s_ml U) (s_cx U) (s_xi U) (s_n V) (s_nd V) (s_bg V) (s_f V) (s_fc V) (s_fs V) (s_r0 V) (s_t0 V) (s_f0 V) (s_r1 V) (s_t1 V) (s_f1 V) (s_nr V) (s_fx V) (s_mp V) (s_ml V) (s_cx V) (s_xi V) code cp en no ou wl wh rl rh) (fun _ => some (.int (if inR q 4096 = true then st q.toNatClampNeg else (-9999)))) (fun _ => (cmL g ad bd np fk fn fo st N (s_n U) (s_nd U) (s_bg U) (s_f U) (s_fc U) (s_fs U) (s_r0 U) (s_t0 U) (s_f0 U) (s_r1 U) (s_t1 U) (s_f1 U) (s_nr U) (s_fx U) (s_mp U) (s_ml U) (s_cx U) (s_xi U) (s_n V) (s_nd V) (s_bg V) (s_f V) (s_fc V) (s_fs V) (s_r0 V) (s_t0 V) (s_f0 V) (s_r1 V) (s_t1 V) (s_f1 V) (s_nr V) (s_fx V) (s_mp V) (s_ml V) (s_cx V) (s_xi V) code cp en no ou wl wh rl rh)) := by
  refine OM.startQ (by decide) (Nat.le_of_ble_eq_true rfl) ?_
  intro p e s m below meth c A ls Q H locs hQ C hnm hl hT
  have hx := C.x
  have hb := C.b
  have hl : lv_has ls 2 [(0, .ref (bd 1)), (1, .int q)] := hl
  refine lv_iload_n hx hb dX10_stretch_0 rfl (lv_at hl 1 rfl) ?_
  refine lv_if_lt (tgt := 11) hx hb dX10_stretch_1 (by decide) (fun h_1 => ?_) (fun h_1 => ?_)
  · skip
    have hr : inR q 4096 = false := by simp [inR, h_1]
    refine lv_sipush (v := (-9999)) hx hb dX10_stretch_11 (by decide) ?_
    refine lv_goto (tgt := 25) hx hb dX10_stretch_14 (by decide) ?_
    exact e_iret C hQ () hT (by first | (rw [if_pos hr, vek, nI_clamp (by omega)]; done) | (rw [if_neg (by rw [hr]; decide)])) dX10_stretch_25
  · skip
    have hq0 := h_1
    refine lv_iload_n hx hb dX10_stretch_4 rfl (lv_at hl 1 rfl) ?_
    refine lv_sipush (v := 4095) hx hb dX10_stretch_5 (by decide) ?_
    refine lv_icmp_le (tgt := 17) hx hb dX10_stretch_8 (by decide) (fun h_2 => ?_) (fun h_2 => ?_)
    · skip
      have hr : inR q 4096 = true := inR_le hq0 h_2
      obtain ⟨k, hk, vek⟩ := inR_of (by decide) hr
      refine lv_aload_n hx hb dX10_stretch_17 rfl (lv_at hl 0 rfl) ?_
      refine gX10_16 C hT (q0 := 52) rfl dX10_stretch_18 ?_
      refine lv_iload_n hx hb dX10_stretch_21 rfl (lv_at hl 1 rfl) ?_
      refine W.eq (g2 := F0 m 22 ls [.int (nI k), .ref (ad 5)]) (congrArg (fun z => F0 m 22 ls (.int z :: [.ref (ad 5)])) (vek)) ?_
      have hM := c_X5_stretched l g (ad 5) (ad 6) st k (by first | assumption | omega)
      refine r_callRO (js := [5, 6]) C hT (runV (js := [5, 6]) (rm := ({ frames := 2, cells := 0, slots := 0, locals := 45 } : Room)) (As := [.int (nI k)]) (n := 1) (q1 := 0) (rest := []) C hT hM rfl rfl k612 k400 k401 k2 k402 (by decide +kernel) rfl rfl rfl rfl (Nat.le_of_ble_eq_true rfl) hl.1 ⟨Nat.le_of_ble_eq_true rfl, Nat.le_of_ble_eq_true rfl⟩ ⟨Nat.le_of_ble_eq_true rfl, Nat.le_of_ble_eq_true rfl⟩ dX10_stretch_22) rfl rfl (fun u H locs hT => ?_)
      refine W.eq (g2 := F0 m 25 ls [.int (st k)]) rfl ?_
      exact e_iret C hQ () hT (by first | (rw [if_pos hr, vek, nI_clamp (by omega)]; done) | (rw [if_neg (by rw [hr]; decide)])) dX10_stretch_25
    · skip
      have hr : inR q 4096 = false := inR_gt h_2
      refine lv_sipush (v := (-9999)) hx hb dX10_stretch_11 (by decide) ?_
      refine lv_goto (tgt := 25) hx hb dX10_stretch_14 (by decide) ?_
      exact e_iret C hQ () hT (by first | (rw [if_pos hr, vek, nI_clamp (by omega)]; done) | (rw [if_neg (by rw [hr]; decide)])) dX10_stretch_25

set_option maxHeartbeats 400000 in
set_option maxRecDepth 100000 in
theorem c_X10_isFull (l : Launch) (g : GT) (ad : Nat → Nat) (bd : Nat → Nat) (np : Nat) (fk : Nat → Int32) (fn : Nat → Int32) (fo : Nat → Int32) (st : Nat → Int32) (N : Nat) (U : SSt) (V : SSt) (code : Int64) (cp : Nat) (en : Bool) (no : Nat) (ou : Nat → Int32) (wl : Int64) (wh : Int64) (rl : Int64) (rh : Int64) (hn : s_n U < 2000) (hno : no ≤ 2992) : OM (S := Unit) l g yX10_isFull cX10_isFull 1 (some .boolean) ({ frames := 0, cells := 0, slots := 0, locals := 0 } : Room) [.ref (bd 1)] (cmL g ad bd np fk fn fo st N (s_n U) (s_nd U) (s_bg U) (s_f U) (s_fc U) (s_fs U) (s_r0 U) (s_t0 U) (s_f0 U) (s_r1 U) (s_t1 U) (s_f1 U) (s_nr U) (s_fx U) (s_mp U) (s_ml U) (s_cx U) (s_xi U) (s_n V) (s_nd V) (s_bg V) (s_f V) (s_fc V) (s_fs V) (s_r0 V) (s_t0 V) (s_f0 V) (s_r1 V) (s_t1 V) (s_f1 V) (s_nr V) (s_fx V) (s_mp V) (s_ml V) (s_cx V) (s_xi V) code cp en no ou wl wh rl rh) (fun _ => some (.int 0)) (fun _ => (cmL g ad bd np fk fn fo st N (s_n U) (s_nd U) (s_bg U) (s_f U) (s_fc U) (s_fs U) (s_r0 U) (s_t0 U) (s_f0 U) (s_r1 U) (s_t1 U) (s_f1 U) (s_nr U) (s_fx U) (s_mp U) (s_ml U) (s_cx U) (s_xi U) (s_n V) (s_nd V) (s_bg V) (s_f V) (s_fc V) (s_fs V) (s_r0 V) (s_t0 V) (s_f0 V) (s_r1 V) (s_t1 V) (s_f1 V) (s_nr V) (s_fx V) (s_mp V) (s_ml V) (s_cx V) (s_xi V) code cp en no ou wl wh rl rh)) := by
  refine OM.startQ (by decide) (Nat.le_of_ble_eq_true rfl) ?_
  intro p e s m below meth c A ls Q H locs hQ C hnm hl hT
  have hx := C.x
  have hb := C.b
  have hl : lv_has ls 1 [(0, .ref (bd 1))] := hl
  refine lv_aload_n hx hb dX10_isFull_0 rfl (lv_at hl 0 rfl) ?_
  refine gX10_32 C hT (q0 := 52) rfl dX10_isFull_1 ?_
  refine gX10_64 C hT (q0 := 0) rfl dX10_isFull_4 ?_
  refine gX10_115 C hT (q0 := 7) rfl dX10_isFull_7 ?_
  refine lv_sipush (v := 2000) hx hb dX10_isFull_10 (by decide) ?_
  refine lv_icmp_ge (tgt := 29) hx hb dX10_isFull_13 (by decide) (fun h_1 => ?_) (fun h_1 => ?_)
  · skip
    exact absurd h_1 (nI_ge (b := 2000) hn (by decide))
  · skip
    refine lv_aload_n hx hb dX10_isFull_16 rfl (lv_at hl 0 rfl) ?_
    refine gX10_42 C hT (q0 := 52) rfl dX10_isFull_17 ?_
    refine gX10_95 C hT (q0 := 53) rfl dX10_isFull_20 ?_
    refine lv_sipush (v := 2992) hx hb dX10_isFull_23 (by decide) ?_
    refine lv_icmp_le (tgt := 33) hx hb dX10_isFull_26 (by decide) (fun h_2 => ?_) (fun h_2 => ?_)
    · skip
      refine lv_iconst (v := 0) hx hb dX10_isFull_33 (by decide) ?_
      exact e_zret C hQ () hT rfl (by decide) dX10_isFull_34
    · skip
      exact absurd (nI_le (b := 2992) hno (by decide)) h_2

set_option maxHeartbeats 400000 in
set_option maxRecDepth 100000 in
theorem c_X10_out (l : Launch) (g : GT) (ad : Nat → Nat) (bd : Nat → Nat) (np : Nat) (fk : Nat → Int32) (fn : Nat → Int32) (fo : Nat → Int32) (st : Nat → Int32) (N : Nat) (U : SSt) (V : SSt) (code : Int64) (cp : Nat) (en : Bool) (no : Nat) (ou : Nat → Int32) (wl : Int64) (wh : Int64) (rl : Int64) (rh : Int64) (i : Int32) (hno : no ≤ 3028) : OM (S := Unit) l g yX10_out cX10_out 2 (some .int) ({ frames := 2, cells := 0, slots := 0, locals := 42 } : Room) [.ref (bd 1), .int i] (cmL g ad bd np fk fn fo st N (s_n U) (s_nd U) (s_bg U) (s_f U) (s_fc U) (s_fs U) (s_r0 U) (s_t0 U) (s_f0 U) (s_r1 U) (s_t1 U) (s_f1 U) (s_nr U) (s_fx U) (s_mp U) (s_ml U) (s_cx U) (s_xi U) (s_n V) (s_nd V) (s_bg V) (s_f V) (s_fc V) (s_fs V) (s_r0 V) (s_t0 V) (s_f0 V) (s_r1 V) (s_t1 V) (s_f1 V) (s_nr V) (s_fx V) (s_mp V) (s_ml V) (s_cx V) (s_xi V) code cp en no ou wl wh rl rh) (fun _ => some (.int (if inR i no = true then ou i.toNatClampNeg else (-1)))) (fun _ => (cmL g ad bd np fk fn fo st N (s_n U) (s_nd U) (s_bg U) (s_f U) (s_fc U) (s_fs U) (s_r0 U) (s_t0 U) (s_f0 U) (s_r1 U) (s_t1 U) (s_f1 U) (s_nr U) (s_fx U) (s_mp U) (s_ml U) (s_cx U) (s_xi U) (s_n V) (s_nd V) (s_bg V) (s_f V) (s_fc V) (s_fs V) (s_r0 V) (s_t0 V) (s_f0 V) (s_r1 V) (s_t1 V) (s_f1 V) (s_nr V) (s_fx V) (s_mp V) (s_ml V) (s_cx V) (s_xi V) code cp en no ou wl wh rl rh)) := by
  refine OM.startQ (by decide) (Nat.le_of_ble_eq_true rfl) ?_
  intro p e s m below meth c A ls Q H locs hQ C hnm hl hT
  have hx := C.x
  have hb := C.b
  have hl : lv_has ls 2 [(0, .ref (bd 1)), (1, .int i)] := hl
  refine lv_aload_n hx hb dX10_out_0 rfl (lv_at hl 0 rfl) ?_
  refine gX10_42 C hT (q0 := 52) rfl dX10_out_1 ?_
  refine lv_iload_n hx hb dX10_out_4 rfl (lv_at hl 1 rfl) ?_
  have hM := c_X6_has l g (bd 2) (bd 3) no i
  refine r_callRO (js := [53]) C hT (runV (js := [53]) (rm := ({ frames := 0, cells := 0, slots := 0, locals := 0 } : Room)) (As := [.int i]) (n := 1) (q1 := 0) (rest := []) C hT hM rfl rfl k510 k511 k512 k13 k513 (by decide +kernel) rfl rfl rfl rfl (Nat.le_of_ble_eq_true rfl) hl.1 ⟨Nat.le_of_ble_eq_true rfl, Nat.le_of_ble_eq_true rfl⟩ ⟨Nat.le_of_ble_eq_true rfl, Nat.le_of_ble_eq_true rfl⟩ dX10_out_5) rfl rfl (fun u H locs hT => ?_)
  refine W.eq (g2 := F0 m 8 ls [.int (b01 (inR i no))]) rfl ?_
  refine lv_if_eq (tgt := 22) hx hb dX10_out_8 (by decide) (fun h_1 => ?_) (fun h_1 => ?_)
  · skip
    have h_1 := b01_f h_1
    refine lv_iconst (v := (-1)) hx hb dX10_out_22 (by decide) ?_
    exact e_iret C hQ () hT (by first | (rw [if_pos h_1, if_pos h_1]; done) | (rw [if_neg (by rw [h_1]; decide)])) dX10_out_23
  · skip
    have h_1 := b01_t h_1
    refine lv_aload_n hx hb dX10_out_11 rfl (lv_at hl 0 rfl) ?_
    refine gX10_42 C hT (q0 := 52) rfl dX10_out_12 ?_
    refine lv_iload_n hx hb dX10_out_15 rfl (lv_at hl 1 rfl) ?_
    have hM := c_X6_byteAt l g (bd 2) (bd 3) no ou i (by first | assumption | omega)
    refine r_callRO (js := [53, 54]) C hT (runV (js := [53, 54]) (rm := ({ frames := 1, cells := 0, slots := 0, locals := 21 } : Room)) (As := [.int i]) (n := 1) (q1 := 0) (rest := []) C hT hM rfl rfl k514 k515 k516 k13 k517 (by decide +kernel) rfl rfl rfl rfl (Nat.le_of_ble_eq_true rfl) hl.1 ⟨Nat.le_of_ble_eq_true rfl, Nat.le_of_ble_eq_true rfl⟩ ⟨Nat.le_of_ble_eq_true rfl, Nat.le_of_ble_eq_true rfl⟩ dX10_out_16) rfl rfl (fun u H locs hT => ?_)
    refine W.eq (g2 := F0 m 19 ls [.int (if inR i no = true then ou i.toNatClampNeg else 0)]) rfl ?_
    refine lv_goto (tgt := 23) hx hb dX10_out_19 (by decide) ?_
    exact e_iret C hQ () hT (by first | (rw [if_pos h_1, if_pos h_1]; done) | (rw [if_neg (by rw [h_1]; decide)])) dX10_out_23

set_option maxHeartbeats 400000 in
set_option maxRecDepth 100000 in
theorem c_X10_takeByte (l : Launch) (g : GT) (ad : Nat → Nat) (bd : Nat → Nat) (np : Nat) (fk : Nat → Int32) (fn : Nat → Int32) (fo : Nat → Int32) (st : Nat → Int32) (N : Nat) (U : SSt) (V : SSt) (code : Int64) (cp : Nat) (en : Bool) (no : Nat) (ou : Nat → Int32) (wl : Int64) (wh : Int64) (rl : Int64) (rh : Int64) (hno : no ≤ 3028) (hcp : cp < 2 ^ 20) : OM (S := Unit) l g yX10_takeByte cX10_takeByte 2 none ({ frames := 2, cells := 0, slots := 0, locals := 42 } : Room) [.ref (bd 1)] (cmL g ad bd np fk fn fo st N (s_n U) (s_nd U) (s_bg U) (s_f U) (s_fc U) (s_fs U) (s_r0 U) (s_t0 U) (s_f0 U) (s_r1 U) (s_t1 U) (s_f1 U) (s_nr U) (s_fx U) (s_mp U) (s_ml U) (s_cx U) (s_xi U) (s_n V) (s_nd V) (s_bg V) (s_f V) (s_fc V) (s_fs V) (s_r0 V) (s_t0 V) (s_f0 V) (s_r1 V) (s_t1 V) (s_f1 V) (s_nr V) (s_fx V) (s_mp V) (s_ml V) (s_cx V) (s_xi V) code cp en no ou wl wh rl rh) (fun _ => none) (fun _ => (cmL g ad bd np fk fn fo st N (s_n U) (s_nd U) (s_bg U) (s_f U) (s_fc U) (s_fs U) (s_r0 U) (s_t0 U) (s_f0 U) (s_r1 U) (s_t1 U) (s_f1 U) (s_nr U) (s_fx U) (s_mp U) (s_ml U) (s_cx U) (s_xi U) (s_n V) (s_nd V) (s_bg V) (s_f V) (s_fc V) (s_fs V) (s_r0 V) (s_t0 V) (s_f0 V) (s_r1 V) (s_t1 V) (s_f1 V) (s_nr V) (s_fx V) (s_mp V) (s_ml V) (s_cx V) (s_xi V) (((code <<< ((8 : Int32).toInt64 &&& 63)) &&& 4294967295) ||| (nxtI no ou cp).toInt64) (cp + 1) en no ou wl wh rl rh)) := by
  refine OM.startQ (by decide) (Nat.le_of_ble_eq_true rfl) ?_
  intro p e s m below meth c A ls Q H locs hQ C hnm hl hT
  have hx := C.x
  have hb := C.b
  have hl : lv_has ls 2 [(0, .ref (bd 1))] := hl
  refine lv_aload_n hx hb dX10_takeByte_0 rfl (lv_at hl 0 rfl) ?_
  refine gX10_42 C hT (q0 := 52) rfl dX10_takeByte_1 ?_
  refine lv_aload_n hx hb dX10_takeByte_4 rfl (lv_at hl 0 rfl) ?_
  refine gX10_224 C hT (q0 := 52) rfl dX10_takeByte_5 ?_
  have hM := c_X6_has l g (bd 2) (bd 3) no (nI cp)
  refine r_callRO (js := [53]) C hT (runV (js := [53]) (rm := ({ frames := 0, cells := 0, slots := 0, locals := 0 } : Room)) (As := [.int (nI cp)]) (n := 1) (q1 := 0) (rest := []) C hT hM rfl rfl k510 k511 k512 k13 k513 (by decide +kernel) rfl rfl rfl rfl (Nat.le_of_ble_eq_true rfl) hl.1 ⟨Nat.le_of_ble_eq_true rfl, Nat.le_of_ble_eq_true rfl⟩ ⟨Nat.le_of_ble_eq_true rfl, Nat.le_of_ble_eq_true rfl⟩ dX10_takeByte_8) rfl rfl (fun u H locs hT => ?_)
  refine W.eq (g2 := F0 m 11 ls [.int (b01 (inR (nI cp) no))]) rfl ?_
  refine lv_if_eq (tgt := 28) hx hb dX10_takeByte_11 (by decide) (fun h_1 => ?_) (fun h_1 => ?_)
  · skip
    have h_1 := b01_f h_1
    refine lv_iconst (v := 0) hx hb dX10_takeByte_28 (by decide) ?_
    refine W.eq (g2 := F0 m 29 ls [.int (nxtI no ou cp)]) (congrArg (fun z => F0 m 29 ls (.int z :: [])) (nxt_f (by omega) h_1)) ?_
    refine lv_istore_n (lv' := [(1, .int (nxtI no ou cp)), (0, .ref (bd 1))]) hx hb dX10_takeByte_29 rfl hl (by decide) rfl (fun ls hl => ?_)
    refine lv_aload_n hx hb dX10_takeByte_30 rfl (lv_at hl 1 rfl) ?_
    refine lv_aload_n hx hb dX10_takeByte_31 rfl (lv_at hl 1 rfl) ?_
    refine gX10_217 C hT (q0 := 52) rfl dX10_takeByte_32 ?_
    refine lv_bipush (v := 8) hx hb dX10_takeByte_35 (by decide) ?_
    refine lv_lshl hx hb dX10_takeByte_37 rfl ?_
    refine lv_ldc2 (v := 4294967295) hx hb C.ow (C.ts _ k519) dX10_takeByte_38 ?_
    refine lv_land hx hb dX10_takeByte_41 ?_
    refine lv_iload_n hx hb dX10_takeByte_42 rfl (lv_at hl 0 rfl) ?_
    refine lv_i2l hx hb dX10_takeByte_43 rfl ?_
    refine lv_lor hx hb dX10_takeByte_44 ?_
    refine W.eq (g2 := F0 m 45 ls [.long (((code <<< ((8 : Int32).toInt64 &&& 63)) &&& 4294967295) ||| (nxtI no ou cp).toInt64), .ref (bd 1)]) (congrArg (fun z => F0 m 45 ls (.long z :: [.ref (bd 1)])) (rfl)) ?_
    refine pX10_217 C hT (q0 := 52) rfl dX10_takeByte_45 (fun H locs hT => ?_)
    have hT : Wd g A s (cmL g ad bd np fk fn fo st N (s_n U) (s_nd U) (s_bg U) (s_f U) (s_fc U) (s_fs U) (s_r0 U) (s_t0 U) (s_f0 U) (s_r1 U) (s_t1 U) (s_f1 U) (s_nr U) (s_fx U) (s_mp U) (s_ml U) (s_cx U) (s_xi U) (s_n V) (s_nd V) (s_bg V) (s_f V) (s_fc V) (s_fs V) (s_r0 V) (s_t0 V) (s_f0 V) (s_r1 V) (s_t1 V) (s_f1 V) (s_nr V) (s_fx V) (s_mp V) (s_ml V) (s_cx V) (s_xi V) (((code <<< ((8 : Int32).toInt64 &&& 63)) &&& 4294967295) ||| (nxtI no ou cp).toInt64) cp en no ou wl wh rl rh) H locs := hT
    refine lv_aload_n hx hb dX10_takeByte_48 rfl (lv_at hl 1 rfl) ?_
    refine lv_dup hx hb dX10_takeByte_49 rfl ?_
    refine gX10_224 C hT (q0 := 52) rfl dX10_takeByte_50 ?_
    refine lv_iconst (v := 1) hx hb dX10_takeByte_53 (by decide) ?_
    refine lv_iadd hx hb dX10_takeByte_54 ?_
    refine W.eq (g2 := F0 m 55 ls [.int (nI (cp + 1)), .ref (bd 1)]) (congrArg (fun z => F0 m 55 ls (.int z :: [.ref (bd 1)])) (nI_1 cp)) ?_
    refine pX10_224 C hT (q0 := 52) rfl dX10_takeByte_55 (fun H locs hT => ?_)
    have hT : Wd g A s (cmL g ad bd np fk fn fo st N (s_n U) (s_nd U) (s_bg U) (s_f U) (s_fc U) (s_fs U) (s_r0 U) (s_t0 U) (s_f0 U) (s_r1 U) (s_t1 U) (s_f1 U) (s_nr U) (s_fx U) (s_mp U) (s_ml U) (s_cx U) (s_xi U) (s_n V) (s_nd V) (s_bg V) (s_f V) (s_fc V) (s_fs V) (s_r0 V) (s_t0 V) (s_f0 V) (s_r1 V) (s_t1 V) (s_f1 V) (s_nr V) (s_fx V) (s_mp V) (s_ml V) (s_cx V) (s_xi V) (((code <<< ((8 : Int32).toInt64 &&& 63)) &&& 4294967295) ||| (nxtI no ou cp).toInt64) (cp + 1) en no ou wl wh rl rh) H locs := hT
    exact e_vret C hQ () hT rfl dX10_takeByte_58
  · skip
    have h_1 := b01_t h_1
    refine lv_aload_n hx hb dX10_takeByte_14 rfl (lv_at hl 0 rfl) ?_
    refine gX10_42 C hT (q0 := 52) rfl dX10_takeByte_15 ?_
    refine lv_aload_n hx hb dX10_takeByte_18 rfl (lv_at hl 0 rfl) ?_
    refine gX10_224 C hT (q0 := 52) rfl dX10_takeByte_19 ?_
    have hM := c_X6_byteAt l g (bd 2) (bd 3) no ou (nI cp) (by first | assumption | omega)
    refine r_callRO (js := [53, 54]) C hT (runV (js := [53, 54]) (rm := ({ frames := 1, cells := 0, slots := 0, locals := 21 } : Room)) (As := [.int (nI cp)]) (n := 1) (q1 := 0) (rest := []) C hT hM rfl rfl k514 k515 k516 k13 k517 (by decide +kernel) rfl rfl rfl rfl (Nat.le_of_ble_eq_true rfl) hl.1 ⟨Nat.le_of_ble_eq_true rfl, Nat.le_of_ble_eq_true rfl⟩ ⟨Nat.le_of_ble_eq_true rfl, Nat.le_of_ble_eq_true rfl⟩ dX10_takeByte_22) rfl rfl (fun u H locs hT => ?_)
    refine W.eq (g2 := F0 m 25 ls [.int (if inR (nI cp) no = true then ou (nI cp).toNatClampNeg else 0)]) rfl ?_
    refine W.eq (g2 := F0 m 25 ls [.int (nxtI no ou cp)]) (congrArg (fun z => F0 m 25 ls (.int z :: [])) (nxt_t hno h_1)) ?_
    refine lv_goto (tgt := 29) hx hb dX10_takeByte_25 (by decide) ?_
    refine lv_istore_n (lv' := [(1, .int (nxtI no ou cp)), (0, .ref (bd 1))]) hx hb dX10_takeByte_29 rfl hl (by decide) rfl (fun ls hl => ?_)
    refine lv_aload_n hx hb dX10_takeByte_30 rfl (lv_at hl 1 rfl) ?_
    refine lv_aload_n hx hb dX10_takeByte_31 rfl (lv_at hl 1 rfl) ?_
    refine gX10_217 C hT (q0 := 52) rfl dX10_takeByte_32 ?_
    refine lv_bipush (v := 8) hx hb dX10_takeByte_35 (by decide) ?_
    refine lv_lshl hx hb dX10_takeByte_37 rfl ?_
    refine lv_ldc2 (v := 4294967295) hx hb C.ow (C.ts _ k519) dX10_takeByte_38 ?_
    refine lv_land hx hb dX10_takeByte_41 ?_
    refine lv_iload_n hx hb dX10_takeByte_42 rfl (lv_at hl 0 rfl) ?_
    refine lv_i2l hx hb dX10_takeByte_43 rfl ?_
    refine lv_lor hx hb dX10_takeByte_44 ?_
    refine W.eq (g2 := F0 m 45 ls [.long (((code <<< ((8 : Int32).toInt64 &&& 63)) &&& 4294967295) ||| (nxtI no ou cp).toInt64), .ref (bd 1)]) (congrArg (fun z => F0 m 45 ls (.long z :: [.ref (bd 1)])) (rfl)) ?_
    refine pX10_217 C hT (q0 := 52) rfl dX10_takeByte_45 (fun H locs hT => ?_)
    have hT : Wd g A s (cmL g ad bd np fk fn fo st N (s_n U) (s_nd U) (s_bg U) (s_f U) (s_fc U) (s_fs U) (s_r0 U) (s_t0 U) (s_f0 U) (s_r1 U) (s_t1 U) (s_f1 U) (s_nr U) (s_fx U) (s_mp U) (s_ml U) (s_cx U) (s_xi U) (s_n V) (s_nd V) (s_bg V) (s_f V) (s_fc V) (s_fs V) (s_r0 V) (s_t0 V) (s_f0 V) (s_r1 V) (s_t1 V) (s_f1 V) (s_nr V) (s_fx V) (s_mp V) (s_ml V) (s_cx V) (s_xi V) (((code <<< ((8 : Int32).toInt64 &&& 63)) &&& 4294967295) ||| (nxtI no ou cp).toInt64) cp en no ou wl wh rl rh) H locs := hT
    refine lv_aload_n hx hb dX10_takeByte_48 rfl (lv_at hl 1 rfl) ?_
    refine lv_dup hx hb dX10_takeByte_49 rfl ?_
    refine gX10_224 C hT (q0 := 52) rfl dX10_takeByte_50 ?_
    refine lv_iconst (v := 1) hx hb dX10_takeByte_53 (by decide) ?_
    refine lv_iadd hx hb dX10_takeByte_54 ?_
    refine W.eq (g2 := F0 m 55 ls [.int (nI (cp + 1)), .ref (bd 1)]) (congrArg (fun z => F0 m 55 ls (.int z :: [.ref (bd 1)])) (nI_1 cp)) ?_
    refine pX10_224 C hT (q0 := 52) rfl dX10_takeByte_55 (fun H locs hT => ?_)
    have hT : Wd g A s (cmL g ad bd np fk fn fo st N (s_n U) (s_nd U) (s_bg U) (s_f U) (s_fc U) (s_fs U) (s_r0 U) (s_t0 U) (s_f0 U) (s_r1 U) (s_t1 U) (s_f1 U) (s_nr U) (s_fx U) (s_mp U) (s_ml U) (s_cx U) (s_xi U) (s_n V) (s_nd V) (s_bg V) (s_f V) (s_fc V) (s_fs V) (s_r0 V) (s_t0 V) (s_f0 V) (s_r1 V) (s_t1 V) (s_f1 V) (s_nr V) (s_fx V) (s_mp V) (s_ml V) (s_cx V) (s_xi V) (((code <<< ((8 : Int32).toInt64 &&& 63)) &&& 4294967295) ||| (nxtI no ou cp).toInt64) (cp + 1) en no ou wl wh rl rh) H locs := hT
    exact e_vret C hQ () hT rfl dX10_takeByte_58

set_option maxHeartbeats 400000 in
set_option maxRecDepth 100000 in
theorem c_X10_beginReading (l : Launch) (g : GT) (ad : Nat → Nat) (bd : Nat → Nat) (np : Nat) (fk : Nat → Int32) (fn : Nat → Int32) (fo : Nat → Int32) (st : Nat → Int32) (N : Nat) (U : SSt) (V : SSt) (code : Int64) (cp : Nat) (en : Bool) (no : Nat) (ou : Nat → Int32) (wl : Int64) (wh : Int64) (rl : Int64) (rh : Int64) (hno : no ≤ 3028) : OM (S := Unit) l g yX10_beginReading cX10_beginReading 2 none ({ frames := 3, cells := 0, slots := 0, locals := 63 } : Room) [.ref (bd 1)] (cmL g ad bd np fk fn fo st N (s_n U) (s_nd U) (s_bg U) (s_f U) (s_fc U) (s_fs U) (s_r0 U) (s_t0 U) (s_f0 U) (s_r1 U) (s_t1 U) (s_f1 U) (s_nr U) (s_fx U) (s_mp U) (s_ml U) (s_cx U) (s_xi U) (s_n V) (s_nd V) (s_bg V) (s_f V) (s_fc V) (s_fs V) (s_r0 V) (s_t0 V) (s_f0 V) (s_r1 V) (s_t1 V) (s_f1 V) (s_nr V) (s_fx V) (s_mp V) (s_ml V) (s_cx V) (s_xi V) code cp en no ou wl wh rl rh) (fun _ => none) (fun _ => (cmL g ad bd np fk fn fo st N (s_n U) (s_nd U) (s_bg U) (s_f U) (s_fc U) (s_fs U) (s_r0 U) (s_t0 U) (s_f0 U) (s_r1 U) (s_t1 U) (s_f1 U) (s_nr U) (s_fx U) (s_mp U) (s_ml U) (s_cx U) (s_xi U) (s_n V) (s_nd V) (s_bg V) (s_f V) (s_fc V) (s_fs V) (s_r0 V) (s_t0 V) (s_f0 V) (s_r1 V) (s_t1 V) (s_f1 V) (s_nr V) (s_fx V) (s_mp V) (s_ml V) (s_cx V) (s_xi V) (tkC no ou 4) 4 en no ou wl wh 0 4294967295)) := by
  refine OM.startQ (by decide) (Nat.le_of_ble_eq_true rfl) ?_
  intro p e s m below meth c A ls Q H locs hQ C hnm hl hT
  have hx := C.x
  have hb := C.b
  have hl : lv_has ls 2 [(0, .ref (bd 1))] := hl
  refine lv_aload_n hx hb dX10_beginReading_0 rfl (lv_at hl 0 rfl) ?_
  refine gX10_53 C hT (q0 := 52) rfl dX10_beginReading_1 ?_
  have hM := c_X0_reset l g (bd 5) rl rh
  refine r_call0 (js := [56]) C hT (runV (js := [56]) (rm := ({ frames := 0, cells := 0, slots := 0, locals := 0 } : Room)) (As := []) (n := 0) (q1 := 0) (rest := []) C hT hM rfl rfl k502 k503 k504 k14 k505 (by decide +kernel) rfl rfl rfl rfl (Nat.le_of_ble_eq_true rfl) hl.1 ⟨Nat.le_of_ble_eq_true rfl, Nat.le_of_ble_eq_true rfl⟩ ⟨Nat.le_of_ble_eq_true rfl, Nat.le_of_ble_eq_true rfl⟩ dX10_beginReading_4) rfl rfl (fun _ => by simp only [List.map_cons, List.map_nil]) (fun u H locs hT => ?_)
  have hT : Wd g A s (cmL g ad bd np fk fn fo st N (s_n U) (s_nd U) (s_bg U) (s_f U) (s_fc U) (s_fs U) (s_r0 U) (s_t0 U) (s_f0 U) (s_r1 U) (s_t1 U) (s_f1 U) (s_nr U) (s_fx U) (s_mp U) (s_ml U) (s_cx U) (s_xi U) (s_n V) (s_nd V) (s_bg V) (s_f V) (s_fc V) (s_fs V) (s_r0 V) (s_t0 V) (s_f0 V) (s_r1 V) (s_t1 V) (s_f1 V) (s_nr V) (s_fx V) (s_mp V) (s_ml V) (s_cx V) (s_xi V) code cp en no ou wl wh 0 4294967295) H locs := hT
  refine W.eq (g2 := F0 m 7 ls []) rfl ?_
  refine lv_aload_n hx hb dX10_beginReading_7 rfl (lv_at hl 0 rfl) ?_
  refine lv_lconst (v := 0) hx hb dX10_beginReading_8 (by decide) ?_
  refine pX10_217 C hT (q0 := 52) rfl dX10_beginReading_9 (fun H locs hT => ?_)
  have hT : Wd g A s (cmL g ad bd np fk fn fo st N (s_n U) (s_nd U) (s_bg U) (s_f U) (s_fc U) (s_fs U) (s_r0 U) (s_t0 U) (s_f0 U) (s_r1 U) (s_t1 U) (s_f1 U) (s_nr U) (s_fx U) (s_mp U) (s_ml U) (s_cx U) (s_xi U) (s_n V) (s_nd V) (s_bg V) (s_f V) (s_fc V) (s_fs V) (s_r0 V) (s_t0 V) (s_f0 V) (s_r1 V) (s_t1 V) (s_f1 V) (s_nr V) (s_fx V) (s_mp V) (s_ml V) (s_cx V) (s_xi V) 0 cp en no ou wl wh 0 4294967295) H locs := hT
  refine lv_aload_n hx hb dX10_beginReading_12 rfl (lv_at hl 0 rfl) ?_
  refine lv_iconst (v := 0) hx hb dX10_beginReading_13 (by decide) ?_
  refine W.eq (g2 := F0 m 14 ls [.int (nI 0), .ref (bd 1)]) (congrArg (fun z => F0 m 14 ls (.int z :: [.ref (bd 1)])) (rfl)) ?_
  refine pX10_224 C hT (q0 := 52) rfl dX10_beginReading_14 (fun H locs hT => ?_)
  have hT : Wd g A s (cmL g ad bd np fk fn fo st N (s_n U) (s_nd U) (s_bg U) (s_f U) (s_fc U) (s_fs U) (s_r0 U) (s_t0 U) (s_f0 U) (s_r1 U) (s_t1 U) (s_f1 U) (s_nr U) (s_fx U) (s_mp U) (s_ml U) (s_cx U) (s_xi U) (s_n V) (s_nd V) (s_bg V) (s_f V) (s_fc V) (s_fs V) (s_r0 V) (s_t0 V) (s_f0 V) (s_r1 V) (s_t1 V) (s_f1 V) (s_nr V) (s_fx V) (s_mp V) (s_ml V) (s_cx V) (s_xi V) 0 0 en no ou wl wh 0 4294967295) H locs := hT
  refine lv_iconst (v := 0) hx hb dX10_beginReading_17 (by decide) ?_
  refine lv_istore_n (lv' := [(1, .int 0), (0, .ref (bd 1))]) hx hb dX10_beginReading_18 rfl hl (by decide) rfl (fun ls hl => ?_)
  have loop_19 : ∀ (fu : Nat) (i : Nat) (vx1 : Int32) (code1 : Int64) (cp1 : Nat) (H : Heap) (locs : List Loc) (ls : Array Slot) (hi : i ≤ 4) (vex1 : vx1 = nI i) (hc1 : code1 = tkC no ou i) (hp1 : cp1 = i), 4 - i < fu → Wd g A s (cmL g ad bd np fk fn fo st N (s_n U) (s_nd U) (s_bg U) (s_f U) (s_fc U) (s_fs U) (s_r0 U) (s_t0 U) (s_f0 U) (s_r1 U) (s_t1 U) (s_f1 U) (s_nr U) (s_fx U) (s_mp U) (s_ml U) (s_cx U) (s_xi U) (s_n V) (s_nd V) (s_bg V) (s_f V) (s_fc V) (s_fs V) (s_r0 V) (s_t0 V) (s_f0 V) (s_r1 V) (s_t1 V) (s_f1 V) (s_nr V) (s_fx V) (s_mp V) (s_ml V) (s_cx V) (s_xi V) code1 cp1 en no ou wl wh 0 4294967295) H locs → lv_has ls 2 [(0, .ref (bd 1)), (1, .int vx1)] → W p l e ({ frames := 3, cells := 0, slots := 0, locals := 63 } : Room) s m ([.ref (bd 1)] : List Value).toArray below meth c H locs 0 0 Q (F0 m 19 ls []) := by
    intro fu
    induction fu with
    | zero => intro i vx1 code1 cp1 H locs ls hi vex1 hc1 hp1 hm; exact absurd hm (Nat.not_lt_zero _)
    | succ fu ih =>
      intro i vx1 code1 cp1 H locs ls hi vex1 hc1 hp1 hm hT hl
      refine lv_iload_n hx hb dX10_beginReading_19 rfl (lv_at hl 1 rfl) ?_
      refine lv_iconst (v := 4) hx hb dX10_beginReading_20 (by decide) ?_
      refine lv_icmp_ge (tgt := 34) hx hb dX10_beginReading_21 (by decide) (fun h_1 => ?_) (fun h_1 => ?_)
      · skip
        have hin := lp_end (n := 4) vex1 (by decide) hi h_1
        exact e_vret C hQ () (by subst hc1 hp1; rw [hin] at hT; exact hT) rfl dX10_beginReading_34
      · skip
        have hin := lp_go (n := 4) vex1 (by decide) hi h_1
        refine lv_aload_n hx hb dX10_beginReading_24 rfl (lv_at hl 0 rfl) ?_
        have hM := c_X10_takeByte l g ad bd np fk fn fo st N U V code1 cp1 en no ou wl wh 0 4294967295 (by first | assumption | omega) (by omega)
        refine r_callW C hT (runVW (rm := ({ frames := 2, cells := 0, slots := 0, locals := 42 } : Room)) (As := []) (n := 0) (q1 := 52) (rest := []) C hT hM k506 k508 s7 k1 k509 (by decide +kernel) rfl rfl rfl rfl (Nat.le_of_ble_eq_true rfl) hl.1 ⟨Nat.le_of_ble_eq_true rfl, Nat.le_of_ble_eq_true rfl⟩ ⟨Nat.le_of_ble_eq_true rfl, Nat.le_of_ble_eq_true rfl⟩ dX10_beginReading_25) (fun u H locs hT => ?_)
        have hT : Wd g A s (cmL g ad bd np fk fn fo st N (s_n U) (s_nd U) (s_bg U) (s_f U) (s_fc U) (s_fs U) (s_r0 U) (s_t0 U) (s_f0 U) (s_r1 U) (s_t1 U) (s_f1 U) (s_nr U) (s_fx U) (s_mp U) (s_ml U) (s_cx U) (s_xi U) (s_n V) (s_nd V) (s_bg V) (s_f V) (s_fc V) (s_fs V) (s_r0 V) (s_t0 V) (s_f0 V) (s_r1 V) (s_t1 V) (s_f1 V) (s_nr V) (s_fx V) (s_mp V) (s_ml V) (s_cx V) (s_xi V) (((code1 <<< ((8 : Int32).toInt64 &&& 63)) &&& 4294967295) ||| (nxtI no ou cp1).toInt64) (cp1 + 1) en no ou wl wh 0 4294967295) H locs := hT
        refine W.eq (g2 := F0 m 28 ls []) rfl ?_
        obtain ⟨x_2, ex_2⟩ : ∃ y : Int32, y = vx1 + 1 := ⟨_, rfl⟩
        refine lv_iinc (v := x_2) (lv' := [(1, .int x_2), (0, .ref (bd 1))]) hx hb dX10_beginReading_28 hl (k := 1) rfl (by rw [ex_2]; rfl) (by decide) rfl (fun ls hl => ?_)
        refine lv_goto (tgt := 19) hx hb dX10_beginReading_31 (by decide) ?_
        exact ih (i + 1) x_2 (((code1 <<< ((8 : Int32).toInt64 &&& 63)) &&& 4294967295) ||| (nxtI no ou cp1).toInt64) (cp1 + 1) H locs ls (by first | assumption | omega | rfl) (by rw [ex_2, vex1]; exact nI_1 i) (by rw [hc1, hp1]; exact tkC_s no ou i) (by rw [hp1]) (by omega) hT (lv_sub hl [1, 0] rfl)
  exact loop_19 (4 - 0 + 1) 0 0 0 0 H locs ls (by first | assumption | omega | rfl) rfl rfl rfl (Nat.lt_succ_self _) hT (lv_sub hl [1, 0] rfl)

set_option maxHeartbeats 400000 in
set_option maxRecDepth 100000 in
theorem c_X10_off (l : Launch) (g : GT) (ad : Nat → Nat) (bd : Nat → Nat) (np : Nat) (fk : Nat → Int32) (fn : Nat → Int32) (fo : Nat → Int32) (st : Nat → Int32) (N : Nat) (U : SSt) (V : SSt) (code : Int64) (cp : Nat) (en : Bool) (no : Nat) (ou : Nat → Int32) (wl : Int64) (wh : Int64) (rl : Int64) (rh : Int64) (j : Nat) (hj : j < np) (hnp : np ≤ 8) (hen : en = false) (hb0 : s_n U = 0) (hb1 : s_bg U = 0) : OM (S := Unit) l g yX10_off cX10_off 2 (some .int) ({ frames := 2, cells := 0, slots := 0, locals := 42 } : Room) [.ref (bd 1), .int (nI j)] (cmL g ad bd np fk fn fo st N (s_n U) (s_nd U) (s_bg U) (s_f U) (s_fc U) (s_fs U) (s_r0 U) (s_t0 U) (s_f0 U) (s_r1 U) (s_t1 U) (s_f1 U) (s_nr U) (s_fx U) (s_mp U) (s_ml U) (s_cx U) (s_xi U) (s_n V) (s_nd V) (s_bg V) (s_f V) (s_fc V) (s_fs V) (s_r0 V) (s_t0 V) (s_f0 V) (s_r1 V) (s_t1 V) (s_f1 V) (s_nr V) (s_fx V) (s_mp V) (s_ml V) (s_cx V) (s_xi V) code cp en no ou wl wh rl rh) (fun _ => some (.int (if fo j = 0 then 1 else 0))) (fun _ => (cmL g ad bd np fk fn (if fo j = 0 then upd fo j 1 else fo) st N (s_n U) (s_nd U) (s_bg U) (s_f U) (s_fc U) (s_fs U) (s_r0 U) (s_t0 U) (s_f0 U) (s_r1 U) (s_t1 U) (s_f1 U) (s_nr U) (s_fx U) (s_mp U) (s_ml U) (s_cx U) (s_xi U) (s_n V) (s_nd V) (s_bg V) (s_f V) (s_fc V) (s_fs V) (s_r0 V) (s_t0 V) (s_f0 V) (s_r1 V) (s_t1 V) (s_f1 V) (s_nr V) (s_fx V) (s_mp V) (s_ml V) (s_cx V) (s_xi V) code cp en no ou wl wh rl rh)) := by
  refine OM.startQ (by decide) (Nat.le_of_ble_eq_true rfl) ?_
  intro p e s m below meth c A ls Q H locs hQ C hnm hl hT
  have hx := C.x
  have hb := C.b
  have hl : lv_has ls 2 [(0, .ref (bd 1)), (1, .int (nI j))] := hl
  refine lv_aload_n hx hb dX10_off_0 rfl (lv_at hl 0 rfl) ?_
  refine gX10_23 C hT (q0 := 52) rfl dX10_off_1 ?_
  refine lv_iload_n hx hb dX10_off_4 rfl (lv_at hl 1 rfl) ?_
  have hM := c_X7_has l g (ad 1) (ad 2) (ad 3) (ad 4) np (nI j)
  refine r_callRO (js := [1]) C hT (runV (js := [1]) (rm := ({ frames := 0, cells := 0, slots := 0, locals := 0 } : Room)) (As := [.int (nI j)]) (n := 1) (q1 := 0) (rest := []) C hT hM rfl rfl k360 k361 k362 k4 k363 (by decide +kernel) rfl rfl rfl rfl (Nat.le_of_ble_eq_true rfl) hl.1 ⟨Nat.le_of_ble_eq_true rfl, Nat.le_of_ble_eq_true rfl⟩ ⟨Nat.le_of_ble_eq_true rfl, Nat.le_of_ble_eq_true rfl⟩ dX10_off_5) rfl rfl (fun u H locs hT => ?_)
  refine W.eq (g2 := F0 m 8 ls [.int (b01 (inR (nI j) np))]) rfl ?_
  refine lv_if_ne (tgt := 13) hx hb dX10_off_8 (by decide) (fun h_1 => ?_) (fun h_1 => ?_)
  · skip
    refine lv_aload_n hx hb dX10_off_13 rfl (lv_at hl 0 rfl) ?_
    refine gX10_60 C hT (q0 := 52) rfl dX10_off_14 ?_
    refine lv_if_ne (tgt := 33) hx hb dX10_off_17 (by decide) (fun h_2 => ?_) (fun h_2 => ?_)
    · skip
      exact absurd (b01_t h_2) (by rw [hen]; decide)
    · skip
      refine lv_aload_n hx hb dX10_off_20 rfl (lv_at hl 0 rfl) ?_
      refine gX10_32 C hT (q0 := 52) rfl dX10_off_21 ?_
      refine gX10_64 C hT (q0 := 0) rfl dX10_off_24 ?_
      have hM := c_X2_begun l g (ad 7) (ad 8) (s_n U) (s_nd U) (s_bg U) (by omega) (by omega)
      refine r_callRO (js := [7]) C hT (runV (js := [7]) (rm := ({ frames := 0, cells := 0, slots := 0, locals := 0 } : Room)) (As := []) (n := 0) (q1 := 0) (rest := []) C hT hM rfl rfl k291 k292 k293 k6 k294 (by decide +kernel) rfl rfl rfl rfl (Nat.le_of_ble_eq_true rfl) hl.1 ⟨Nat.le_of_ble_eq_true rfl, Nat.le_of_ble_eq_true rfl⟩ ⟨Nat.le_of_ble_eq_true rfl, Nat.le_of_ble_eq_true rfl⟩ dX10_off_27) rfl rfl (fun u H locs hT => ?_)
      refine W.eq (g2 := F0 m 30 ls [.int (b01 (decide (0 < (s_n U)) || decide (0 < (s_bg U))))]) rfl ?_
      refine lv_if_eq (tgt := 36) hx hb dX10_off_30 (by decide) (fun h_3 => ?_) (fun h_3 => ?_)
      · skip
        refine lv_aload_n hx hb dX10_off_36 rfl (lv_at hl 0 rfl) ?_
        refine gX10_23 C hT (q0 := 52) rfl dX10_off_37 ?_
        refine lv_iload_n hx hb dX10_off_40 rfl (lv_at hl 1 rfl) ?_
        have hM := c_X7_turnOff l g (ad 1) (ad 2) (ad 3) (ad 4) np fk fn fo j (by first | assumption | omega) hnp
        refine r_call0 (js := [1, 2, 3, 4]) C hT (runV (js := [1, 2, 3, 4]) (rm := ({ frames := 1, cells := 0, slots := 0, locals := 21 } : Room)) (As := [.int (nI j)]) (n := 1) (q1 := 0) (rest := []) C hT hM rfl rfl k364 k365 k366 k4 k367 (by decide +kernel) rfl rfl rfl rfl (Nat.le_of_ble_eq_true rfl) hl.1 ⟨Nat.le_of_ble_eq_true rfl, Nat.le_of_ble_eq_true rfl⟩ ⟨Nat.le_of_ble_eq_true rfl, Nat.le_of_ble_eq_true rfl⟩ dX10_off_41) rfl rfl (fun _ => by simp only [List.map_cons, List.map_nil]) (fun u H locs hT => ?_)
        have hT : Wd g A s (cmL g ad bd np fk fn (if fo j = 0 then upd fo j 1 else fo) st N (s_n U) (s_nd U) (s_bg U) (s_f U) (s_fc U) (s_fs U) (s_r0 U) (s_t0 U) (s_f0 U) (s_r1 U) (s_t1 U) (s_f1 U) (s_nr U) (s_fx U) (s_mp U) (s_ml U) (s_cx U) (s_xi U) (s_n V) (s_nd V) (s_bg V) (s_f V) (s_fc V) (s_fs V) (s_r0 V) (s_t0 V) (s_f0 V) (s_r1 V) (s_t1 V) (s_f1 V) (s_nr V) (s_fx V) (s_mp V) (s_ml V) (s_cx V) (s_xi V) code cp en no ou wl wh rl rh) H locs := hT
        refine W.eq (g2 := F0 m 44 ls [.int (if fo j = 0 then 1 else 0)]) rfl ?_
        refine lv_if_eq (tgt := 51) hx hb dX10_off_44 (by decide) (fun h_4 => ?_) (fun h_4 => ?_)
        · skip
          have hf0 : ¬ fo j = 0 := fun q => by rw [if_pos q] at h_4; exact absurd h_4 (by decide)
          refine lv_iconst (v := 0) hx hb dX10_off_51 (by decide) ?_
          exact e_iret C hQ () hT (by first | (rw [if_pos hf0]; done) | (rw [if_neg hf0])) dX10_off_52
        · skip
          have hf0 : fo j = 0 := by by_cases q : fo j = 0; exact q; rw [if_neg q] at h_4; exact absurd rfl h_4
          refine lv_iconst (v := 1) hx hb dX10_off_47 (by decide) ?_
          refine lv_goto (tgt := 52) hx hb dX10_off_48 (by decide) ?_
          exact e_iret C hQ () hT (by first | (rw [if_pos hf0]; done) | (rw [if_neg hf0])) dX10_off_52
      · skip
        exact absurd (b01_t h_3) (by rw [hb0, hb1]; decide)
  · skip
    exact absurd (b01_f h_1) (by rw [inR_nI hj (by omega)]; decide)

set_option maxHeartbeats 400000 in
set_option maxRecDepth 100000 in
theorem c_X10_off_no (l : Launch) (g : GT) (ad : Nat → Nat) (bd : Nat → Nat) (np : Nat) (fk : Nat → Int32) (fn : Nat → Int32) (fo : Nat → Int32) (st : Nat → Int32) (N : Nat) (U : SSt) (V : SSt) (code : Int64) (cp : Nat) (en : Bool) (no : Nat) (ou : Nat → Int32) (wl : Int64) (wh : Int64) (rl : Int64) (rh : Int64) (i : Int32) (hnp : np ≤ 8) (hn : s_n U ≤ 2000) (hbg : s_bg U ≤ 8) (hno : inR i np = false ∨ en = true ∨ 0 < s_n U ∨ 0 < s_bg U) : OM (S := Unit) l g yX10_off cX10_off 2 (some .int) ({ frames := 1, cells := 0, slots := 0, locals := 21 } : Room) [.ref (bd 1), .int i] (cmL g ad bd np fk fn fo st N (s_n U) (s_nd U) (s_bg U) (s_f U) (s_fc U) (s_fs U) (s_r0 U) (s_t0 U) (s_f0 U) (s_r1 U) (s_t1 U) (s_f1 U) (s_nr U) (s_fx U) (s_mp U) (s_ml U) (s_cx U) (s_xi U) (s_n V) (s_nd V) (s_bg V) (s_f V) (s_fc V) (s_fs V) (s_r0 V) (s_t0 V) (s_f0 V) (s_r1 V) (s_t1 V) (s_f1 V) (s_nr V) (s_fx V) (s_mp V) (s_ml V) (s_cx V) (s_xi V) code cp en no ou wl wh rl rh) (fun _ => some (.int (if inR i np = true then (-4) else (-1)))) (fun _ => (cmL g ad bd np fk fn fo st N (s_n U) (s_nd U) (s_bg U) (s_f U) (s_fc U) (s_fs U) (s_r0 U) (s_t0 U) (s_f0 U) (s_r1 U) (s_t1 U) (s_f1 U) (s_nr U) (s_fx U) (s_mp U) (s_ml U) (s_cx U) (s_xi U) (s_n V) (s_nd V) (s_bg V) (s_f V) (s_fc V) (s_fs V) (s_r0 V) (s_t0 V) (s_f0 V) (s_r1 V) (s_t1 V) (s_f1 V) (s_nr V) (s_fx V) (s_mp V) (s_ml V) (s_cx V) (s_xi V) code cp en no ou wl wh rl rh)) := by
  refine OM.startQ (by decide) (Nat.le_of_ble_eq_true rfl) ?_
  intro p e s m below meth c A ls Q H locs hQ C hnm hl hT
  have hx := C.x
  have hb := C.b
  have hl : lv_has ls 2 [(0, .ref (bd 1)), (1, .int i)] := hl
  refine lv_aload_n hx hb dX10_off_0 rfl (lv_at hl 0 rfl) ?_
  refine gX10_23 C hT (q0 := 52) rfl dX10_off_1 ?_
  refine lv_iload_n hx hb dX10_off_4 rfl (lv_at hl 1 rfl) ?_
  have hM := c_X7_has l g (ad 1) (ad 2) (ad 3) (ad 4) np i
  refine r_callRO (js := [1]) C hT (runV (js := [1]) (rm := ({ frames := 0, cells := 0, slots := 0, locals := 0 } : Room)) (As := [.int i]) (n := 1) (q1 := 0) (rest := []) C hT hM rfl rfl k360 k361 k362 k4 k363 (by decide +kernel) rfl rfl rfl rfl (Nat.le_of_ble_eq_true rfl) hl.1 ⟨Nat.le_of_ble_eq_true rfl, Nat.le_of_ble_eq_true rfl⟩ ⟨Nat.le_of_ble_eq_true rfl, Nat.le_of_ble_eq_true rfl⟩ dX10_off_5) rfl rfl (fun u H locs hT => ?_)
  refine W.eq (g2 := F0 m 8 ls [.int (b01 (inR i np))]) rfl ?_
  refine lv_if_ne (tgt := 13) hx hb dX10_off_8 (by decide) (fun h_1 => ?_) (fun h_1 => ?_)
  · skip
    have h_1 := b01_t h_1
    refine lv_aload_n hx hb dX10_off_13 rfl (lv_at hl 0 rfl) ?_
    refine gX10_60 C hT (q0 := 52) rfl dX10_off_14 ?_
    refine lv_if_ne (tgt := 33) hx hb dX10_off_17 (by decide) (fun h_2 => ?_) (fun h_2 => ?_)
    · skip
      have h_2 := b01_t h_2
      refine lv_bipush (v := (-4)) hx hb dX10_off_33 (by decide) ?_
      exact e_iret C hQ () hT (by rw [if_pos h_1]) dX10_off_35
    · skip
      have h_2 := b01_f h_2
      refine lv_aload_n hx hb dX10_off_20 rfl (lv_at hl 0 rfl) ?_
      refine gX10_32 C hT (q0 := 52) rfl dX10_off_21 ?_
      refine gX10_64 C hT (q0 := 0) rfl dX10_off_24 ?_
      have hM := c_X2_begun l g (ad 7) (ad 8) (s_n U) (s_nd U) (s_bg U) hn hbg
      refine r_callRO (js := [7]) C hT (runV (js := [7]) (rm := ({ frames := 0, cells := 0, slots := 0, locals := 0 } : Room)) (As := []) (n := 0) (q1 := 0) (rest := []) C hT hM rfl rfl k291 k292 k293 k6 k294 (by decide +kernel) rfl rfl rfl rfl (Nat.le_of_ble_eq_true rfl) hl.1 ⟨Nat.le_of_ble_eq_true rfl, Nat.le_of_ble_eq_true rfl⟩ ⟨Nat.le_of_ble_eq_true rfl, Nat.le_of_ble_eq_true rfl⟩ dX10_off_27) rfl rfl (fun u H locs hT => ?_)
      refine W.eq (g2 := F0 m 30 ls [.int (b01 (decide (0 < (s_n U)) || decide (0 < (s_bg U))))]) rfl ?_
      refine lv_if_eq (tgt := 36) hx hb dX10_off_30 (by decide) (fun h_3 => ?_) (fun h_3 => ?_)
      · skip
        exact off_dead hno h_1 h_2 (b01_f h_3)
      · skip
        refine lv_bipush (v := (-4)) hx hb dX10_off_33 (by decide) ?_
        exact e_iret C hQ () hT (by rw [if_pos h_1]) dX10_off_35
  · skip
    have h_1 := b01_f h_1
    refine lv_iconst (v := (-1)) hx hb dX10_off_11 (by decide) ?_
    exact e_iret C hQ () hT (by rw [if_neg (by rw [h_1]; decide)]) dX10_off_12
