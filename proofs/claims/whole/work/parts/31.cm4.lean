set_option maxHeartbeats 400000 in
theorem c_X10_writeBit (l : Launch) (g : GT) (ad : Nat → Nat) (bd : Nat → Nat) (np : Nat) (fk : Nat → Int32) (fn : Nat → Int32) (fo : Nat → Int32) (st : Nat → Int32) (N : Nat) (U : SSt) (V : SSt) (code : Int64) (cp : Nat) (en : Bool) (no : Nat) (ou : Nat → Int32) (wl : Int64) (wh : Int64) (rl : Int64) (rh : Int64) (rr : Nat) (on : Int32) (hG : GI st N rr np fk fn) (hU : SI N U) (hno : no + 4 ≤ 3028) (hnl : s_n U < 2000) : OM (S := Unit) l g yX10_writeBit cX10_writeBit 3 none ({ frames := 5, cells := 0, slots := 0, locals := 114 } : Room) [.ref (bd 1), .int on] (cmL g ad bd np fk fn fo st N (s_n U) (s_nd U) (s_bg U) (s_f U) (s_fc U) (s_fs U) (s_r0 U) (s_t0 U) (s_f0 U) (s_r1 U) (s_t1 U) (s_f1 U) (s_nr U) (s_fx U) (s_mp U) (s_ml U) (s_cx U) (s_xi U) (s_n V) (s_nd V) (s_bg V) (s_f V) (s_fc V) (s_fs V) (s_r0 V) (s_t0 V) (s_f0 V) (s_r1 V) (s_t1 V) (s_f1 V) (s_nr V) (s_fx V) (s_mp V) (s_ml V) (s_cx V) (s_xi V) code cp en no ou wl wh rl rh) (fun _ => none) (fun _ => (cmL g ad bd np fk fn fo st N (if s_bg U = 7 then s_n U + 1 else s_n U) (if s_bg U = 7 then 1 else 2 * s_nd U + bitN on) (if s_bg U = 7 then 0 else s_bg U + 1) (if s_bg U = 7 then lfS on U else s_f U) (lcS N np fk fo U on) (lsS N np fk fo U on) (nI (9 * s_nd U)) (t0S st N np fk fo U) (lw0S st N np fk fo U on) (nI (9 * lbN (s_f U) (s_n U))) (t1S st N np fk fo U) (lw1S st N np fk fo U on) (nI (nearS st N np fk fo U)) (lxS st N np fk fo U on) (if s_bg U = 7 then bgP (lfS on U) (s_n U + 1) fk fn (s_mp U) (s_ml U) np else s_mp U) (if s_bg U = 7 then bgL (lfS on U) (s_n U + 1) fk fn (s_mp U) (s_ml U) np else s_ml U) (if s_bg U = 7 then bgC (lfS on U) (s_n U + 1) fk fn (s_cx U) np else s_cx U) (xiS st N np fk fo U) (s_n V) (s_nd V) (s_bg V) (s_f V) (s_fc V) (s_fs V) (s_r0 V) (s_t0 V) (s_f0 V) (s_r1 V) (s_t1 V) (s_f1 V) (s_nr V) (s_fx V) (s_mp V) (s_ml V) (s_cx V) (s_xi V) code cp en ((emF 4 (nLo on wl (mdS st N np fk fo U wl wh)) (nHi on wh (mdS st N np fk fo U wl wh)) no ou).2.2.1) ((emF 4 (nLo on wl (mdS st N np fk fo U wl wh)) (nHi on wh (mdS st N np fk fo U wl wh)) no ou).2.2.2) ((emF 4 (nLo on wl (mdS st N np fk fo U wl wh)) (nHi on wh (mdS st N np fk fo U wl wh)) no ou).1) ((emF 4 (nLo on wl (mdS st N np fk fo U wl wh)) (nHi on wh (mdS st N np fk fo U wl wh)) no ou).2.1) rl rh)) := by
  have hb9 := hU.2.2.1
  rcases Nat.lt_or_ge (s_bg U) 7 with h7 | h7
  · have q := c_X10_writeBit_m l g ad bd np fk fn fo st N U V code cp en no ou wl wh rl rh rr on hG hU h7 hno
    simp only [if_neg (Nat.ne_of_lt h7)]
    exact q
  · have h7 : s_bg U = 7 := by omega
    have q := c_X10_writeBit_l l g ad bd np fk fn fo st N U V code cp en no ou wl wh rl rh rr on hG hU h7 hno hnl
    simp only [if_pos h7]
    exact q

set_option maxHeartbeats 400000 in
set_option maxRecDepth 100000 in
theorem c_X10_again (l : Launch) (g : GT) (ad : Nat → Nat) (bd : Nat → Nat) (np : Nat) (fk : Nat → Int32) (fn : Nat → Int32) (fo : Nat → Int32) (st : Nat → Int32) (N : Nat) (U : SSt) (V : SSt) (code : Int64) (cp : Nat) (en : Bool) (no : Nat) (ou : Nat → Int32) (wl : Int64) (wh : Int64) (rl : Int64) (rh : Int64) (rr : Nat) (hG : GI st N rr np fk fn) (hV : SI N V) (hno : no ≤ 3028) : OM (S := Unit) l g yX10_again cX10_again 2 (some .int) ({ frames := 5, cells := 0, slots := 0, locals := 122 } : Room) [.ref (bd 1)] (cmL g ad bd np fk fn fo st N (s_n U) (s_nd U) (s_bg U) (s_f U) (s_fc U) (s_fs U) (s_r0 U) (s_t0 U) (s_f0 U) (s_r1 U) (s_t1 U) (s_f1 U) (s_nr U) (s_fx U) (s_mp U) (s_ml U) (s_cx U) (s_xi U) (s_n V) (s_nd V) (s_bg V) (s_f V) (s_fc V) (s_fs V) (s_r0 V) (s_t0 V) (s_f0 V) (s_r1 V) (s_t1 V) (s_f1 V) (s_nr V) (s_fx V) (s_mp V) (s_ml V) (s_cx V) (s_xi V) code cp en no ou wl wh rl rh) (fun _ => some (.int (nI (s_n V)))) (fun _ => (cmL g ad bd np fk fn fo st N (s_n U) (s_nd U) (s_bg U) (s_f U) (s_fc U) (s_fs U) (s_r0 U) (s_t0 U) (s_f0 U) (s_r1 U) (s_t1 U) (s_f1 U) (s_nr U) (s_fx U) (s_mp U) (s_ml U) (s_cx U) (s_xi U) 0 1 0 (s_f V) (fillTo (s_fc V) 32768 N) (fillTo (s_fs V) 0 N) (s_r0 V) (s_t0 V) (wFill (s_f0 V) 256) (s_r1 V) (s_t1 V) (wFill (s_f1 V) 256) (s_nr V) (cFill (s_fx V) 8448) (bgP (s_f V) 0 fk fn (s_mp V) (zTo (s_ml V) 8) np) (bgL (s_f V) 0 fk fn (s_mp V) (zTo (s_ml V) 8) np) (bgC (s_f V) 0 fk fn (s_cx V) np) (s_xi V) (tkC no ou 4) 4 en no ou wl wh 0 4294967295)) := by
  refine OM.startQ (by decide) (Nat.le_of_ble_eq_true rfl) ?_
  intro p e s m below meth c A ls Q H locs hQ C hnm hl hT
  have hx := C.x
  have hb := C.b
  have hl : lv_has ls 2 [(0, .ref (bd 1))] := hl
  refine lv_aload_n hx hb dX10_again_0 rfl (lv_at hl 0 rfl) ?_
  refine gX10_36 C hT (q0 := 52) rfl dX10_again_1 ?_
  refine gX10_64 C hT (q0 := 29) rfl dX10_again_4 ?_
  refine gX10_115 C hT (q0 := 30) rfl dX10_again_7 ?_
  refine lv_istore_n (lv' := [(1, .int (nI (s_n V))), (0, .ref (bd 1))]) hx hb dX10_again_10 rfl hl (by decide) rfl (fun ls hl => ?_)
  refine lv_aload_n hx hb dX10_again_11 rfl (lv_at hl 1 rfl) ?_
  refine gX10_36 C hT (q0 := 52) rfl dX10_again_12 ?_
  have hM := c_X8_reset l g (mixA ad bd) np fk fn fo st (s_n V) (s_nd V) (s_bg V) (s_f V) N (s_fc V) (s_fs V) (s_r0 V) (s_t0 V) (s_f0 V) (s_r1 V) (s_t1 V) (s_f1 V) (s_nr V) (s_fx V) (s_mp V) (s_ml V) (s_cx V) (s_xi V) rr hG.1 hG.2.2.2.1 hV.2.2.2.2.2.1 hG.2.1 hG.2.2.1
  have hT2 := hT.perm (perm_r (obC ad) (obC (mixA ad bd)) (shL g ad np fk fn fo st) (prL g ad N (s_n U) (s_nd U) (s_bg U) (s_f U) (s_fc U) (s_fs U) (s_r0 U) (s_t0 U) (s_f0 U) (s_r1 U) (s_t1 U) (s_f1 U) (s_nr U) (s_fx U) (s_mp U) (s_ml U) (s_cx U) (s_xi U)) (prL g (mixA ad bd) N (s_n V) (s_nd V) (s_bg V) (s_f V) (s_fc V) (s_fs V) (s_r0 V) (s_t0 V) (s_f0 V) (s_r1 V) (s_t1 V) (s_f1 V) (s_nr V) (s_fx V) (s_mp V) (s_ml V) (s_cx V) (s_xi V)) (exL g ad bd code cp en no ou wl wh rl rh))
  refine r_callP (lc := sideL g (mixA ad bd) np fk fn fo st (s_n V) (s_nd V) (s_bg V) (s_f V) N (s_fc V) (s_fs V) (s_r0 V) (s_t0 V) (s_f0 V) (s_r1 V) (s_t1 V) (s_f1 V) (s_nr V) (s_fx V) (s_mp V) (s_ml V) (s_cx V) (s_xi V)) (B := (obC ad :: (prL g ad N (s_n U) (s_nd U) (s_bg U) (s_f U) (s_fc U) (s_fs U) (s_r0 U) (s_t0 U) (s_f0 U) (s_r1 U) (s_t1 U) (s_f1 U) (s_nr U) (s_fx U) (s_mp U) (s_ml U) (s_cx U) (s_xi U) ++ exL g ad bd code cp en no ou wl wh rl rh))) (rm := ({ frames := 4, cells := 0, slots := 0, locals := 101 } : Room)) (As := []) (n := 0) (q1 := 0) (rest := []) C hT2 hM k532 k533 k534 k5 k535 (by decide +kernel) rfl rfl rfl rfl (Nat.le_of_ble_eq_true rfl) hl.1 ⟨Nat.le_of_ble_eq_true rfl, Nat.le_of_ble_eq_true rfl⟩ ⟨Nat.le_of_ble_eq_true rfl, Nat.le_of_ble_eq_true rfl⟩ dX10_again_15 (fun _ => sideL_fst.trans sideL_fst.symm) (fun u H locs hT => ?_)
  have hT : Wd g A s (cmL g ad bd np fk fn fo st N (s_n U) (s_nd U) (s_bg U) (s_f U) (s_fc U) (s_fs U) (s_r0 U) (s_t0 U) (s_f0 U) (s_r1 U) (s_t1 U) (s_f1 U) (s_nr U) (s_fx U) (s_mp U) (s_ml U) (s_cx U) (s_xi U) 0 1 0 (s_f V) (fillTo (s_fc V) 32768 N) (fillTo (s_fs V) 0 N) (s_r0 V) (s_t0 V) (wFill (s_f0 V) 256) (s_r1 V) (s_t1 V) (wFill (s_f1 V) 256) (s_nr V) (cFill (s_fx V) 8448) (bgP (s_f V) 0 fk fn (s_mp V) (zTo (s_ml V) 8) np) (bgL (s_f V) 0 fk fn (s_mp V) (zTo (s_ml V) 8) np) (bgC (s_f V) 0 fk fn (s_cx V) np) (s_xi V) code cp en no ou wl wh rl rh) H locs := hT.perm (perm_r (obC ad) (obC (mixA ad bd)) (shL g ad np fk fn fo st) (prL g ad N (s_n U) (s_nd U) (s_bg U) (s_f U) (s_fc U) (s_fs U) (s_r0 U) (s_t0 U) (s_f0 U) (s_r1 U) (s_t1 U) (s_f1 U) (s_nr U) (s_fx U) (s_mp U) (s_ml U) (s_cx U) (s_xi U)) (prL g (mixA ad bd) N 0 1 0 (s_f V) (fillTo (s_fc V) 32768 N) (fillTo (s_fs V) 0 N) (s_r0 V) (s_t0 V) (wFill (s_f0 V) 256) (s_r1 V) (s_t1 V) (wFill (s_f1 V) 256) (s_nr V) (cFill (s_fx V) 8448) (bgP (s_f V) 0 fk fn (s_mp V) (zTo (s_ml V) 8) np) (bgL (s_f V) 0 fk fn (s_mp V) (zTo (s_ml V) 8) np) (bgC (s_f V) 0 fk fn (s_cx V) np) (s_xi V)) (exL g ad bd code cp en no ou wl wh rl rh)).symm
  refine W.eq (g2 := F0 m 18 ls []) rfl ?_
  refine lv_aload_n hx hb dX10_again_18 rfl (lv_at hl 1 rfl) ?_
  have hM := c_X10_beginReading l g ad bd np fk fn fo st N U (mkS 0 1 0 (s_f V) (fillTo (s_fc V) 32768 N) (fillTo (s_fs V) 0 N) (s_r0 V) (s_t0 V) (wFill (s_f0 V) 256) (s_r1 V) (s_t1 V) (wFill (s_f1 V) 256) (s_nr V) (cFill (s_fx V) 8448) (bgP (s_f V) 0 fk fn (s_mp V) (zTo (s_ml V) 8) np) (bgL (s_f V) 0 fk fn (s_mp V) (zTo (s_ml V) 8) np) (bgC (s_f V) 0 fk fn (s_cx V) np) (s_xi V)) code cp en no ou wl wh rl rh hno
  refine r_callW C hT (runVW (rm := ({ frames := 3, cells := 0, slots := 0, locals := 63 } : Room)) (As := []) (n := 0) (q1 := 52) (rest := []) C hT hM k498 k500 s6 k1 k501 (by decide +kernel) rfl rfl rfl rfl (Nat.le_of_ble_eq_true rfl) hl.1 ⟨Nat.le_of_ble_eq_true rfl, Nat.le_of_ble_eq_true rfl⟩ ⟨Nat.le_of_ble_eq_true rfl, Nat.le_of_ble_eq_true rfl⟩ dX10_again_19) (fun u H locs hT => ?_)
  have hT : Wd g A s (cmL g ad bd np fk fn fo st N (s_n U) (s_nd U) (s_bg U) (s_f U) (s_fc U) (s_fs U) (s_r0 U) (s_t0 U) (s_f0 U) (s_r1 U) (s_t1 U) (s_f1 U) (s_nr U) (s_fx U) (s_mp U) (s_ml U) (s_cx U) (s_xi U) (0) (1) (0) (s_f V) (fillTo (s_fc V) 32768 N) (fillTo (s_fs V) 0 N) (s_r0 V) (s_t0 V) (wFill (s_f0 V) 256) (s_r1 V) (s_t1 V) (wFill (s_f1 V) 256) (s_nr V) (cFill (s_fx V) 8448) (bgP (s_f V) 0 fk fn (s_mp V) (zTo (s_ml V) 8) np) (bgL (s_f V) 0 fk fn (s_mp V) (zTo (s_ml V) 8) np) (bgC (s_f V) 0 fk fn (s_cx V) np) (s_xi V) (tkC no ou 4) 4 en no ou wl wh 0 4294967295) H locs := hT
  refine W.eq (g2 := F0 m 22 ls []) rfl ?_
  refine lv_iload_n hx hb dX10_again_22 rfl (lv_at hl 0 rfl) ?_
  exact e_iret C hQ () (by first | exact hT | (simp only [if_true, if_false, not_true_eq_false, not_false_eq_true, ite_true, ite_false, true_and, and_true, false_and, and_false, true_or, or_true, false_or, or_false]; exact hT)) rfl dX10_again_23

set_option maxHeartbeats 400000 in
set_option maxRecDepth 100000 in
theorem c_X10_clear (l : Launch) (g : GT) (ad : Nat → Nat) (bd : Nat → Nat) (np : Nat) (fk : Nat → Int32) (fn : Nat → Int32) (fo : Nat → Int32) (st : Nat → Int32) (N : Nat) (U : SSt) (V : SSt) (code : Int64) (cp : Nat) (en : Bool) (no : Nat) (ou : Nat → Int32) (wl : Int64) (wh : Int64) (rl : Int64) (rh : Int64) (rr : Nat) (hG : GI st N rr np fk fn) (hU : SI N U) (hV : SI N V) : OM (S := Unit) l g yX10_clear cX10_clear 1 (some .int) ({ frames := 5, cells := 0, slots := 0, locals := 122 } : Room) [.ref (bd 1)] (cmL g ad bd np fk fn fo st N (s_n U) (s_nd U) (s_bg U) (s_f U) (s_fc U) (s_fs U) (s_r0 U) (s_t0 U) (s_f0 U) (s_r1 U) (s_t1 U) (s_f1 U) (s_nr U) (s_fx U) (s_mp U) (s_ml U) (s_cx U) (s_xi U) (s_n V) (s_nd V) (s_bg V) (s_f V) (s_fc V) (s_fs V) (s_r0 V) (s_t0 V) (s_f0 V) (s_r1 V) (s_t1 V) (s_f1 V) (s_nr V) (s_fx V) (s_mp V) (s_ml V) (s_cx V) (s_xi V) code cp en no ou wl wh rl rh) (fun _ => some (.int 1)) (fun _ => (cmL g ad bd np fk fn fo st N 0 1 0 (s_f U) (fillTo (s_fc U) 32768 N) (fillTo (s_fs U) 0 N) (s_r0 U) (s_t0 U) (wFill (s_f0 U) 256) (s_r1 U) (s_t1 U) (wFill (s_f1 U) 256) (s_nr U) (cFill (s_fx U) 8448) (bgP (s_f U) 0 fk fn (s_mp U) (zTo (s_ml U) 8) np) (bgL (s_f U) 0 fk fn (s_mp U) (zTo (s_ml U) 8) np) (bgC (s_f U) 0 fk fn (s_cx U) np) (s_xi U) 0 1 0 (s_f V) (fillTo (s_fc V) 32768 N) (fillTo (s_fs V) 0 N) (s_r0 V) (s_t0 V) (wFill (s_f0 V) 256) (s_r1 V) (s_t1 V) (wFill (s_f1 V) 256) (s_nr V) (cFill (s_fx V) 8448) (bgP (s_f V) 0 fk fn (s_mp V) (zTo (s_ml V) 8) np) (bgL (s_f V) 0 fk fn (s_mp V) (zTo (s_ml V) 8) np) (bgC (s_f V) 0 fk fn (s_cx V) np) (s_xi V) (tkC 0 ou 4) 4 false 0 ou 0 4294967295 0 4294967295)) := by
  refine OM.startQ (by decide) (Nat.le_of_ble_eq_true rfl) ?_
  intro p e s m below meth c A ls Q H locs hQ C hnm hl hT
  have hx := C.x
  have hb := C.b
  have hl : lv_has ls 1 [(0, .ref (bd 1))] := hl
  refine lv_aload_n hx hb dX10_clear_0 rfl (lv_at hl 0 rfl) ?_
  refine gX10_32 C hT (q0 := 52) rfl dX10_clear_1 ?_
  have hM := c_X8_reset l g ad np fk fn fo st (s_n U) (s_nd U) (s_bg U) (s_f U) N (s_fc U) (s_fs U) (s_r0 U) (s_t0 U) (s_f0 U) (s_r1 U) (s_t1 U) (s_f1 U) (s_nr U) (s_fx U) (s_mp U) (s_ml U) (s_cx U) (s_xi U) rr hG.1 hG.2.2.2.1 hU.2.2.2.2.2.1 hG.2.1 hG.2.2.1
  have hT2 := hT.perm (perm_w (obC ad) (shL g ad np fk fn fo st) (prL g ad N (s_n U) (s_nd U) (s_bg U) (s_f U) (s_fc U) (s_fs U) (s_r0 U) (s_t0 U) (s_f0 U) (s_r1 U) (s_t1 U) (s_f1 U) (s_nr U) (s_fx U) (s_mp U) (s_ml U) (s_cx U) (s_xi U)) (obC (mixA ad bd) :: (prL g (mixA ad bd) N (s_n V) (s_nd V) (s_bg V) (s_f V) (s_fc V) (s_fs V) (s_r0 V) (s_t0 V) (s_f0 V) (s_r1 V) (s_t1 V) (s_f1 V) (s_nr V) (s_fx V) (s_mp V) (s_ml V) (s_cx V) (s_xi V) ++ exL g ad bd code cp en no ou wl wh rl rh)))
  refine r_callP (lc := sideL g ad np fk fn fo st (s_n U) (s_nd U) (s_bg U) (s_f U) N (s_fc U) (s_fs U) (s_r0 U) (s_t0 U) (s_f0 U) (s_r1 U) (s_t1 U) (s_f1 U) (s_nr U) (s_fx U) (s_mp U) (s_ml U) (s_cx U) (s_xi U)) (B := (obC (mixA ad bd) :: (prL g (mixA ad bd) N (s_n V) (s_nd V) (s_bg V) (s_f V) (s_fc V) (s_fs V) (s_r0 V) (s_t0 V) (s_f0 V) (s_r1 V) (s_t1 V) (s_f1 V) (s_nr V) (s_fx V) (s_mp V) (s_ml V) (s_cx V) (s_xi V) ++ exL g ad bd code cp en no ou wl wh rl rh))) (rm := ({ frames := 4, cells := 0, slots := 0, locals := 101 } : Room)) (As := []) (n := 0) (q1 := 0) (rest := []) C hT2 hM k532 k533 k534 k5 k535 (by decide +kernel) rfl rfl rfl rfl (Nat.le_of_ble_eq_true rfl) hl.1 ⟨Nat.le_of_ble_eq_true rfl, Nat.le_of_ble_eq_true rfl⟩ ⟨Nat.le_of_ble_eq_true rfl, Nat.le_of_ble_eq_true rfl⟩ dX10_clear_4 (fun _ => sideL_fst.trans sideL_fst.symm) (fun u H locs hT => ?_)
  have hT : Wd g A s (cmL g ad bd np fk fn fo st N 0 1 0 (s_f U) (fillTo (s_fc U) 32768 N) (fillTo (s_fs U) 0 N) (s_r0 U) (s_t0 U) (wFill (s_f0 U) 256) (s_r1 U) (s_t1 U) (wFill (s_f1 U) 256) (s_nr U) (cFill (s_fx U) 8448) (bgP (s_f U) 0 fk fn (s_mp U) (zTo (s_ml U) 8) np) (bgL (s_f U) 0 fk fn (s_mp U) (zTo (s_ml U) 8) np) (bgC (s_f U) 0 fk fn (s_cx U) np) (s_xi U) (s_n V) (s_nd V) (s_bg V) (s_f V) (s_fc V) (s_fs V) (s_r0 V) (s_t0 V) (s_f0 V) (s_r1 V) (s_t1 V) (s_f1 V) (s_nr V) (s_fx V) (s_mp V) (s_ml V) (s_cx V) (s_xi V) code cp en no ou wl wh rl rh) H locs := hT.perm (perm_w (obC ad) (shL g ad np fk fn fo st) (prL g ad N 0 1 0 (s_f U) (fillTo (s_fc U) 32768 N) (fillTo (s_fs U) 0 N) (s_r0 U) (s_t0 U) (wFill (s_f0 U) 256) (s_r1 U) (s_t1 U) (wFill (s_f1 U) 256) (s_nr U) (cFill (s_fx U) 8448) (bgP (s_f U) 0 fk fn (s_mp U) (zTo (s_ml U) 8) np) (bgL (s_f U) 0 fk fn (s_mp U) (zTo (s_ml U) 8) np) (bgC (s_f U) 0 fk fn (s_cx U) np) (s_xi U)) (obC (mixA ad bd) :: (prL g (mixA ad bd) N (s_n V) (s_nd V) (s_bg V) (s_f V) (s_fc V) (s_fs V) (s_r0 V) (s_t0 V) (s_f0 V) (s_r1 V) (s_t1 V) (s_f1 V) (s_nr V) (s_fx V) (s_mp V) (s_ml V) (s_cx V) (s_xi V) ++ exL g ad bd code cp en no ou wl wh rl rh))).symm
  refine W.eq (g2 := F0 m 7 ls []) rfl ?_
  refine lv_aload_n hx hb dX10_clear_7 rfl (lv_at hl 0 rfl) ?_
  refine gX10_36 C hT (q0 := 52) rfl dX10_clear_8 ?_
  have hM := c_X8_reset l g (mixA ad bd) np fk fn fo st (s_n V) (s_nd V) (s_bg V) (s_f V) N (s_fc V) (s_fs V) (s_r0 V) (s_t0 V) (s_f0 V) (s_r1 V) (s_t1 V) (s_f1 V) (s_nr V) (s_fx V) (s_mp V) (s_ml V) (s_cx V) (s_xi V) rr hG.1 hG.2.2.2.1 hV.2.2.2.2.2.1 hG.2.1 hG.2.2.1
  have hT2 := hT.perm (perm_r (obC ad) (obC (mixA ad bd)) (shL g ad np fk fn fo st) (prL g ad N 0 1 0 (s_f U) (fillTo (s_fc U) 32768 N) (fillTo (s_fs U) 0 N) (s_r0 U) (s_t0 U) (wFill (s_f0 U) 256) (s_r1 U) (s_t1 U) (wFill (s_f1 U) 256) (s_nr U) (cFill (s_fx U) 8448) (bgP (s_f U) 0 fk fn (s_mp U) (zTo (s_ml U) 8) np) (bgL (s_f U) 0 fk fn (s_mp U) (zTo (s_ml U) 8) np) (bgC (s_f U) 0 fk fn (s_cx U) np) (s_xi U)) (prL g (mixA ad bd) N (s_n V) (s_nd V) (s_bg V) (s_f V) (s_fc V) (s_fs V) (s_r0 V) (s_t0 V) (s_f0 V) (s_r1 V) (s_t1 V) (s_f1 V) (s_nr V) (s_fx V) (s_mp V) (s_ml V) (s_cx V) (s_xi V)) (exL g ad bd code cp en no ou wl wh rl rh))
  refine r_callP (lc := sideL g (mixA ad bd) np fk fn fo st (s_n V) (s_nd V) (s_bg V) (s_f V) N (s_fc V) (s_fs V) (s_r0 V) (s_t0 V) (s_f0 V) (s_r1 V) (s_t1 V) (s_f1 V) (s_nr V) (s_fx V) (s_mp V) (s_ml V) (s_cx V) (s_xi V)) (B := (obC ad :: (prL g ad N 0 1 0 (s_f U) (fillTo (s_fc U) 32768 N) (fillTo (s_fs U) 0 N) (s_r0 U) (s_t0 U) (wFill (s_f0 U) 256) (s_r1 U) (s_t1 U) (wFill (s_f1 U) 256) (s_nr U) (cFill (s_fx U) 8448) (bgP (s_f U) 0 fk fn (s_mp U) (zTo (s_ml U) 8) np) (bgL (s_f U) 0 fk fn (s_mp U) (zTo (s_ml U) 8) np) (bgC (s_f U) 0 fk fn (s_cx U) np) (s_xi U) ++ exL g ad bd code cp en no ou wl wh rl rh))) (rm := ({ frames := 4, cells := 0, slots := 0, locals := 101 } : Room)) (As := []) (n := 0) (q1 := 0) (rest := []) C hT2 hM k532 k533 k534 k5 k535 (by decide +kernel) rfl rfl rfl rfl (Nat.le_of_ble_eq_true rfl) hl.1 ⟨Nat.le_of_ble_eq_true rfl, Nat.le_of_ble_eq_true rfl⟩ ⟨Nat.le_of_ble_eq_true rfl, Nat.le_of_ble_eq_true rfl⟩ dX10_clear_11 (fun _ => sideL_fst.trans sideL_fst.symm) (fun u H locs hT => ?_)
  have hT : Wd g A s (cmL g ad bd np fk fn fo st N 0 1 0 (s_f U) (fillTo (s_fc U) 32768 N) (fillTo (s_fs U) 0 N) (s_r0 U) (s_t0 U) (wFill (s_f0 U) 256) (s_r1 U) (s_t1 U) (wFill (s_f1 U) 256) (s_nr U) (cFill (s_fx U) 8448) (bgP (s_f U) 0 fk fn (s_mp U) (zTo (s_ml U) 8) np) (bgL (s_f U) 0 fk fn (s_mp U) (zTo (s_ml U) 8) np) (bgC (s_f U) 0 fk fn (s_cx U) np) (s_xi U) 0 1 0 (s_f V) (fillTo (s_fc V) 32768 N) (fillTo (s_fs V) 0 N) (s_r0 V) (s_t0 V) (wFill (s_f0 V) 256) (s_r1 V) (s_t1 V) (wFill (s_f1 V) 256) (s_nr V) (cFill (s_fx V) 8448) (bgP (s_f V) 0 fk fn (s_mp V) (zTo (s_ml V) 8) np) (bgL (s_f V) 0 fk fn (s_mp V) (zTo (s_ml V) 8) np) (bgC (s_f V) 0 fk fn (s_cx V) np) (s_xi V) code cp en no ou wl wh rl rh) H locs := hT.perm (perm_r (obC ad) (obC (mixA ad bd)) (shL g ad np fk fn fo st) (prL g ad N 0 1 0 (s_f U) (fillTo (s_fc U) 32768 N) (fillTo (s_fs U) 0 N) (s_r0 U) (s_t0 U) (wFill (s_f0 U) 256) (s_r1 U) (s_t1 U) (wFill (s_f1 U) 256) (s_nr U) (cFill (s_fx U) 8448) (bgP (s_f U) 0 fk fn (s_mp U) (zTo (s_ml U) 8) np) (bgL (s_f U) 0 fk fn (s_mp U) (zTo (s_ml U) 8) np) (bgC (s_f U) 0 fk fn (s_cx U) np) (s_xi U)) (prL g (mixA ad bd) N 0 1 0 (s_f V) (fillTo (s_fc V) 32768 N) (fillTo (s_fs V) 0 N) (s_r0 V) (s_t0 V) (wFill (s_f0 V) 256) (s_r1 V) (s_t1 V) (wFill (s_f1 V) 256) (s_nr V) (cFill (s_fx V) 8448) (bgP (s_f V) 0 fk fn (s_mp V) (zTo (s_ml V) 8) np) (bgL (s_f V) 0 fk fn (s_mp V) (zTo (s_ml V) 8) np) (bgC (s_f V) 0 fk fn (s_cx V) np) (s_xi V)) (exL g ad bd code cp en no ou wl wh rl rh)).symm
  refine W.eq (g2 := F0 m 14 ls []) rfl ?_
  refine lv_aload_n hx hb dX10_clear_14 rfl (lv_at hl 0 rfl) ?_
  refine gX10_42 C hT (q0 := 52) rfl dX10_clear_15 ?_
  refine lv_iconst (v := 0) hx hb dX10_clear_18 (by decide) ?_
  refine W.eq (g2 := F0 m 19 ls [.int (nI 0), .ref (bd 2)]) (congrArg (fun z => F0 m 19 ls (.int z :: [.ref (bd 2)])) (rfl)) ?_
  refine pX10_95 C hT (q0 := 53) rfl dX10_clear_19 (fun H locs hT => ?_)
  have hT : Wd g A s (cmL g ad bd np fk fn fo st N 0 1 0 (s_f U) (fillTo (s_fc U) 32768 N) (fillTo (s_fs U) 0 N) (s_r0 U) (s_t0 U) (wFill (s_f0 U) 256) (s_r1 U) (s_t1 U) (wFill (s_f1 U) 256) (s_nr U) (cFill (s_fx U) 8448) (bgP (s_f U) 0 fk fn (s_mp U) (zTo (s_ml U) 8) np) (bgL (s_f U) 0 fk fn (s_mp U) (zTo (s_ml U) 8) np) (bgC (s_f U) 0 fk fn (s_cx U) np) (s_xi U) 0 1 0 (s_f V) (fillTo (s_fc V) 32768 N) (fillTo (s_fs V) 0 N) (s_r0 V) (s_t0 V) (wFill (s_f0 V) 256) (s_r1 V) (s_t1 V) (wFill (s_f1 V) 256) (s_nr V) (cFill (s_fx V) 8448) (bgP (s_f V) 0 fk fn (s_mp V) (zTo (s_ml V) 8) np) (bgL (s_f V) 0 fk fn (s_mp V) (zTo (s_ml V) 8) np) (bgC (s_f V) 0 fk fn (s_cx V) np) (s_xi V) code cp en 0 ou wl wh rl rh) H locs := hT
  refine lv_aload_n hx hb dX10_clear_22 rfl (lv_at hl 0 rfl) ?_
  refine gX10_49 C hT (q0 := 52) rfl dX10_clear_23 ?_
  have hM := c_X0_reset l g (bd 4) wl wh
  refine r_call0 (js := [55]) C hT (runV (js := [55]) (rm := ({ frames := 0, cells := 0, slots := 0, locals := 0 } : Room)) (As := []) (n := 0) (q1 := 0) (rest := []) C hT hM rfl rfl k502 k503 k504 k14 k505 (by decide +kernel) rfl rfl rfl rfl (Nat.le_of_ble_eq_true rfl) hl.1 ⟨Nat.le_of_ble_eq_true rfl, Nat.le_of_ble_eq_true rfl⟩ ⟨Nat.le_of_ble_eq_true rfl, Nat.le_of_ble_eq_true rfl⟩ dX10_clear_26) rfl rfl (fun _ => by simp only [List.map_cons, List.map_nil]) (fun u H locs hT => ?_)
  have hT : Wd g A s (cmL g ad bd np fk fn fo st N 0 1 0 (s_f U) (fillTo (s_fc U) 32768 N) (fillTo (s_fs U) 0 N) (s_r0 U) (s_t0 U) (wFill (s_f0 U) 256) (s_r1 U) (s_t1 U) (wFill (s_f1 U) 256) (s_nr U) (cFill (s_fx U) 8448) (bgP (s_f U) 0 fk fn (s_mp U) (zTo (s_ml U) 8) np) (bgL (s_f U) 0 fk fn (s_mp U) (zTo (s_ml U) 8) np) (bgC (s_f U) 0 fk fn (s_cx U) np) (s_xi U) 0 1 0 (s_f V) (fillTo (s_fc V) 32768 N) (fillTo (s_fs V) 0 N) (s_r0 V) (s_t0 V) (wFill (s_f0 V) 256) (s_r1 V) (s_t1 V) (wFill (s_f1 V) 256) (s_nr V) (cFill (s_fx V) 8448) (bgP (s_f V) 0 fk fn (s_mp V) (zTo (s_ml V) 8) np) (bgL (s_f V) 0 fk fn (s_mp V) (zTo (s_ml V) 8) np) (bgC (s_f V) 0 fk fn (s_cx V) np) (s_xi V) code cp en 0 ou 0 4294967295 rl rh) H locs := hT
  refine W.eq (g2 := F0 m 29 ls []) rfl ?_
  refine lv_aload_n hx hb dX10_clear_29 rfl (lv_at hl 0 rfl) ?_
  refine lv_iconst (v := 0) hx hb dX10_clear_30 (by decide) ?_
  refine pX10_60 C hT (q0 := 52) rfl (by decide) dX10_clear_31 (fun H locs hT => ?_)
  have hT : Wd g A s (cmL g ad bd np fk fn fo st N 0 1 0 (s_f U) (fillTo (s_fc U) 32768 N) (fillTo (s_fs U) 0 N) (s_r0 U) (s_t0 U) (wFill (s_f0 U) 256) (s_r1 U) (s_t1 U) (wFill (s_f1 U) 256) (s_nr U) (cFill (s_fx U) 8448) (bgP (s_f U) 0 fk fn (s_mp U) (zTo (s_ml U) 8) np) (bgL (s_f U) 0 fk fn (s_mp U) (zTo (s_ml U) 8) np) (bgC (s_f U) 0 fk fn (s_cx U) np) (s_xi U) 0 1 0 (s_f V) (fillTo (s_fc V) 32768 N) (fillTo (s_fs V) 0 N) (s_r0 V) (s_t0 V) (wFill (s_f0 V) 256) (s_r1 V) (s_t1 V) (wFill (s_f1 V) 256) (s_nr V) (cFill (s_fx V) 8448) (bgP (s_f V) 0 fk fn (s_mp V) (zTo (s_ml V) 8) np) (bgL (s_f V) 0 fk fn (s_mp V) (zTo (s_ml V) 8) np) (bgC (s_f V) 0 fk fn (s_cx V) np) (s_xi V) code cp false 0 ou 0 4294967295 rl rh) H locs := hT
  refine lv_aload_n hx hb dX10_clear_34 rfl (lv_at hl 0 rfl) ?_
  have hM := c_X10_beginReading l g ad bd np fk fn fo st N (mkS 0 1 0 (s_f U) (fillTo (s_fc U) 32768 N) (fillTo (s_fs U) 0 N) (s_r0 U) (s_t0 U) (wFill (s_f0 U) 256) (s_r1 U) (s_t1 U) (wFill (s_f1 U) 256) (s_nr U) (cFill (s_fx U) 8448) (bgP (s_f U) 0 fk fn (s_mp U) (zTo (s_ml U) 8) np) (bgL (s_f U) 0 fk fn (s_mp U) (zTo (s_ml U) 8) np) (bgC (s_f U) 0 fk fn (s_cx U) np) (s_xi U)) (mkS 0 1 0 (s_f V) (fillTo (s_fc V) 32768 N) (fillTo (s_fs V) 0 N) (s_r0 V) (s_t0 V) (wFill (s_f0 V) 256) (s_r1 V) (s_t1 V) (wFill (s_f1 V) 256) (s_nr V) (cFill (s_fx V) 8448) (bgP (s_f V) 0 fk fn (s_mp V) (zTo (s_ml V) 8) np) (bgL (s_f V) 0 fk fn (s_mp V) (zTo (s_ml V) 8) np) (bgC (s_f V) 0 fk fn (s_cx V) np) (s_xi V)) code cp false 0 ou 0 4294967295 rl rh (by decide)
  refine r_callW C hT (runVW (rm := ({ frames := 3, cells := 0, slots := 0, locals := 63 } : Room)) (As := []) (n := 0) (q1 := 52) (rest := []) C hT hM k498 k500 s6 k1 k501 (by decide +kernel) rfl rfl rfl rfl (Nat.le_of_ble_eq_true rfl) hl.1 ⟨Nat.le_of_ble_eq_true rfl, Nat.le_of_ble_eq_true rfl⟩ ⟨Nat.le_of_ble_eq_true rfl, Nat.le_of_ble_eq_true rfl⟩ dX10_clear_35) (fun u H locs hT => ?_)
  have hT : Wd g A s (cmL g ad bd np fk fn fo st N (0) (1) (0) (s_f U) (fillTo (s_fc U) 32768 N) (fillTo (s_fs U) 0 N) (s_r0 U) (s_t0 U) (wFill (s_f0 U) 256) (s_r1 U) (s_t1 U) (wFill (s_f1 U) 256) (s_nr U) (cFill (s_fx U) 8448) (bgP (s_f U) 0 fk fn (s_mp U) (zTo (s_ml U) 8) np) (bgL (s_f U) 0 fk fn (s_mp U) (zTo (s_ml U) 8) np) (bgC (s_f U) 0 fk fn (s_cx U) np) (s_xi U) (0) (1) (0) (s_f V) (fillTo (s_fc V) 32768 N) (fillTo (s_fs V) 0 N) (s_r0 V) (s_t0 V) (wFill (s_f0 V) 256) (s_r1 V) (s_t1 V) (wFill (s_f1 V) 256) (s_nr V) (cFill (s_fx V) 8448) (bgP (s_f V) 0 fk fn (s_mp V) (zTo (s_ml V) 8) np) (bgL (s_f V) 0 fk fn (s_mp V) (zTo (s_ml V) 8) np) (bgC (s_f V) 0 fk fn (s_cx V) np) (s_xi V) (tkC 0 ou 4) 4 false 0 ou 0 4294967295 0 4294967295) H locs := hT
  refine W.eq (g2 := F0 m 38 ls []) rfl ?_
  refine lv_iconst (v := 1) hx hb dX10_clear_38 (by decide) ?_
  exact e_iret C hQ () (by exact hT) rfl dX10_clear_39

set_option maxHeartbeats 400000 in
set_option maxRecDepth 100000 in
theorem c_X10_end_s (l : Launch) (g : GT) (ad : Nat → Nat) (bd : Nat → Nat) (np : Nat) (fk : Nat → Int32) (fn : Nat → Int32) (fo : Nat → Int32) (st : Nat → Int32) (N : Nat) (U : SSt) (V : SSt) (code : Int64) (cp : Nat) (en : Bool) (no : Nat) (ou : Nat → Int32) (wl : Int64) (wh : Int64) (rl : Int64) (rh : Int64) (hen : en = true) : OM (S := Unit) l g yX10_end cX10_end 2 (some .int) ({ frames := 0, cells := 0, slots := 0, locals := 0 } : Room) [.ref (bd 1)] (cmL g ad bd np fk fn fo st N (s_n U) (s_nd U) (s_bg U) (s_f U) (s_fc U) (s_fs U) (s_r0 U) (s_t0 U) (s_f0 U) (s_r1 U) (s_t1 U) (s_f1 U) (s_nr U) (s_fx U) (s_mp U) (s_ml U) (s_cx U) (s_xi U) (s_n V) (s_nd V) (s_bg V) (s_f V) (s_fc V) (s_fs V) (s_r0 V) (s_t0 V) (s_f0 V) (s_r1 V) (s_t1 V) (s_f1 V) (s_nr V) (s_fx V) (s_mp V) (s_ml V) (s_cx V) (s_xi V) code cp en no ou wl wh rl rh) (fun _ => some (.int (-4))) (fun _ => (cmL g ad bd np fk fn fo st N (s_n U) (s_nd U) (s_bg U) (s_f U) (s_fc U) (s_fs U) (s_r0 U) (s_t0 U) (s_f0 U) (s_r1 U) (s_t1 U) (s_f1 U) (s_nr U) (s_fx U) (s_mp U) (s_ml U) (s_cx U) (s_xi U) (s_n V) (s_nd V) (s_bg V) (s_f V) (s_fc V) (s_fs V) (s_r0 V) (s_t0 V) (s_f0 V) (s_r1 V) (s_t1 V) (s_f1 V) (s_nr V) (s_fx V) (s_mp V) (s_ml V) (s_cx V) (s_xi V) code cp en no ou wl wh rl rh)) := by
  refine OM.startQ (by decide) (Nat.le_of_ble_eq_true rfl) ?_
  intro p e s m below meth c A ls Q H locs hQ C hnm hl hT
  have hx := C.x
  have hb := C.b
  have hl : lv_has ls 2 [(0, .ref (bd 1))] := hl
  refine lv_aload_n hx hb dX10_end_0 rfl (lv_at hl 0 rfl) ?_
  refine gX10_60 C hT (q0 := 52) rfl dX10_end_1 ?_
  refine lv_if_eq (tgt := 10) hx hb dX10_end_4 (by decide) (fun h_1 => ?_) (fun h_1 => ?_)
  · skip
    exact absurd (b01_f h_1) (by rw [hen]; decide)
  · skip
    refine lv_bipush (v := (-4)) hx hb dX10_end_7 (by decide) ?_
    exact e_iret C hQ () hT rfl dX10_end_9

set_option maxHeartbeats 400000 in
set_option maxRecDepth 100000 in
theorem c_X10_end (l : Launch) (g : GT) (ad : Nat → Nat) (bd : Nat → Nat) (np : Nat) (fk : Nat → Int32) (fn : Nat → Int32) (fo : Nat → Int32) (st : Nat → Int32) (N : Nat) (U : SSt) (V : SSt) (code : Int64) (cp : Nat) (en : Bool) (no : Nat) (ou : Nat → Int32) (wl : Int64) (wh : Int64) (rl : Int64) (rh : Int64) (hen : en = false) (hno : no + 4 ≤ 3028) : OM (S := Unit) l g yX10_end cX10_end 2 (some .int) ({ frames := 4, cells := 0, slots := 0, locals := 84 } : Room) [.ref (bd 1)] (cmL g ad bd np fk fn fo st N (s_n U) (s_nd U) (s_bg U) (s_f U) (s_fc U) (s_fs U) (s_r0 U) (s_t0 U) (s_f0 U) (s_r1 U) (s_t1 U) (s_f1 U) (s_nr U) (s_fx U) (s_mp U) (s_ml U) (s_cx U) (s_xi U) (s_n V) (s_nd V) (s_bg V) (s_f V) (s_fc V) (s_fs V) (s_r0 V) (s_t0 V) (s_f0 V) (s_r1 V) (s_t1 V) (s_f1 V) (s_nr V) (s_fx V) (s_mp V) (s_ml V) (s_cx V) (s_xi V) code cp en no ou wl wh rl rh) (fun _ => some (.int (nI (no + 4)))) (fun _ => (cmL g ad bd np fk fn fo st N (s_n U) (s_nd U) (s_bg U) (s_f U) (s_fc U) (s_fs U) (s_r0 U) (s_t0 U) (s_f0 U) (s_r1 U) (s_t1 U) (s_f1 U) (s_nr U) (s_fx U) (s_mp U) (s_ml U) (s_cx U) (s_xi U) (s_n V) (s_nd V) (s_bg V) (s_f V) (s_fc V) (s_fs V) (s_r0 V) (s_t0 V) (s_f0 V) (s_r1 V) (s_t1 V) (s_f1 V) (s_nr V) (s_fx V) (s_mp V) (s_ml V) (s_cx V) (s_xi V) (tkC (no + 4) (eOu wl no ou 4) 4) 4 true (no + 4) (eOu wl no ou 4) (eLo wl 4) (eHi wh 4) 0 4294967295)) := by
  refine OM.startQ (by decide) (Nat.le_of_ble_eq_true rfl) ?_
  intro p e s m below meth c A ls Q H locs hQ C hnm hl hT
  have hx := C.x
  have hb := C.b
  have hl : lv_has ls 2 [(0, .ref (bd 1))] := hl
  refine lv_aload_n hx hb dX10_end_0 rfl (lv_at hl 0 rfl) ?_
  refine gX10_60 C hT (q0 := 52) rfl dX10_end_1 ?_
  refine lv_if_eq (tgt := 10) hx hb dX10_end_4 (by decide) (fun h_1 => ?_) (fun h_1 => ?_)
  · skip
    refine lv_iconst (v := 0) hx hb dX10_end_10 (by decide) ?_
    refine lv_istore_n (lv' := [(1, .int 0), (0, .ref (bd 1))]) hx hb dX10_end_11 rfl hl (by decide) rfl (fun ls hl => ?_)
    have loop_12 : ∀ (fu : Nat) (i : Nat) (vx1 : Int32) (wl1 : Int64) (wh1 : Int64) (no1 : Nat) (ou1 : Nat → Int32) (H : Heap) (locs : List Loc) (ls : Array Slot) (hi : i ≤ 4) (vex1 : vx1 = nI i) (hl1 : wl1 = eLo wl i) (hh1 : wh1 = eHi wh i) (hn1 : no1 = no + i) (ho1 : ou1 = eOu wl no ou i), 4 - i < fu → Wd g A s (cmL g ad bd np fk fn fo st N (s_n U) (s_nd U) (s_bg U) (s_f U) (s_fc U) (s_fs U) (s_r0 U) (s_t0 U) (s_f0 U) (s_r1 U) (s_t1 U) (s_f1 U) (s_nr U) (s_fx U) (s_mp U) (s_ml U) (s_cx U) (s_xi U) (s_n V) (s_nd V) (s_bg V) (s_f V) (s_fc V) (s_fs V) (s_r0 V) (s_t0 V) (s_f0 V) (s_r1 V) (s_t1 V) (s_f1 V) (s_nr V) (s_fx V) (s_mp V) (s_ml V) (s_cx V) (s_xi V) code cp en no1 ou1 wl1 wh1 rl rh) H locs → lv_has ls 2 [(0, .ref (bd 1)), (1, .int vx1)] → W p l e ({ frames := 4, cells := 0, slots := 0, locals := 84 } : Room) s m ([.ref (bd 1)] : List Value).toArray below meth c H locs 0 0 Q (F0 m 12 ls []) := by
      intro fu
      induction fu with
      | zero => intro i vx1 wl1 wh1 no1 ou1 H locs ls hi vex1 hl1 hh1 hn1 ho1 hm; exact absurd hm (Nat.not_lt_zero _)
      | succ fu ih =>
        intro i vx1 wl1 wh1 no1 ou1 H locs ls hi vex1 hl1 hh1 hn1 ho1 hm hT hl
        refine lv_iload_n hx hb dX10_end_12 rfl (lv_at hl 1 rfl) ?_
        refine lv_iconst (v := 4) hx hb dX10_end_13 (by decide) ?_
        refine lv_icmp_ge (tgt := 44) hx hb dX10_end_14 (by decide) (fun h_2 => ?_) (fun h_2 => ?_)
        · skip
          have hin := lp_end (n := 4) vex1 (by decide) hi h_2
          rw [hin] at hl1 hh1 hn1 ho1
          refine lv_aload_n hx hb dX10_end_44 rfl (lv_at hl 0 rfl) ?_
          refine lv_iconst (v := 1) hx hb dX10_end_45 (by decide) ?_
          refine pX10_60 C hT (q0 := 52) rfl (by decide) dX10_end_46 (fun H locs hT => ?_)
          have hT : Wd g A s (cmL g ad bd np fk fn fo st N (s_n U) (s_nd U) (s_bg U) (s_f U) (s_fc U) (s_fs U) (s_r0 U) (s_t0 U) (s_f0 U) (s_r1 U) (s_t1 U) (s_f1 U) (s_nr U) (s_fx U) (s_mp U) (s_ml U) (s_cx U) (s_xi U) (s_n V) (s_nd V) (s_bg V) (s_f V) (s_fc V) (s_fs V) (s_r0 V) (s_t0 V) (s_f0 V) (s_r1 V) (s_t1 V) (s_f1 V) (s_nr V) (s_fx V) (s_mp V) (s_ml V) (s_cx V) (s_xi V) code cp true no1 ou1 wl1 wh1 rl rh) H locs := hT
          refine lv_aload_n hx hb dX10_end_49 rfl (lv_at hl 0 rfl) ?_
          have hM := c_X10_beginReading l g ad bd np fk fn fo st N U V code cp true no1 ou1 wl1 wh1 rl rh (by omega)
          refine r_callW C hT (runVW (rm := ({ frames := 3, cells := 0, slots := 0, locals := 63 } : Room)) (As := []) (n := 0) (q1 := 52) (rest := []) C hT hM k498 k500 s6 k1 k501 (by decide +kernel) rfl rfl rfl rfl (Nat.le_of_ble_eq_true rfl) hl.1 ⟨Nat.le_of_ble_eq_true rfl, Nat.le_of_ble_eq_true rfl⟩ ⟨Nat.le_of_ble_eq_true rfl, Nat.le_of_ble_eq_true rfl⟩ dX10_end_50) (fun u H locs hT => ?_)
          have hT : Wd g A s (cmL g ad bd np fk fn fo st N (s_n U) (s_nd U) (s_bg U) (s_f U) (s_fc U) (s_fs U) (s_r0 U) (s_t0 U) (s_f0 U) (s_r1 U) (s_t1 U) (s_f1 U) (s_nr U) (s_fx U) (s_mp U) (s_ml U) (s_cx U) (s_xi U) (s_n V) (s_nd V) (s_bg V) (s_f V) (s_fc V) (s_fs V) (s_r0 V) (s_t0 V) (s_f0 V) (s_r1 V) (s_t1 V) (s_f1 V) (s_nr V) (s_fx V) (s_mp V) (s_ml V) (s_cx V) (s_xi V) (tkC no1 ou1 4) 4 true no1 ou1 wl1 wh1 0 4294967295) H locs := hT
          refine W.eq (g2 := F0 m 53 ls []) rfl ?_
          refine lv_aload_n hx hb dX10_end_53 rfl (lv_at hl 0 rfl) ?_
          refine gX10_42 C hT (q0 := 52) rfl dX10_end_54 ?_
          refine gX10_95 C hT (q0 := 53) rfl dX10_end_57 ?_
          exact e_iret C hQ () (by subst hl1 hh1 hn1 ho1; exact hT) (by rw [hn1]) dX10_end_60
        · skip
          have hin := lp_go (n := 4) vex1 (by decide) hi h_2
          refine lv_aload_n hx hb dX10_end_17 rfl (lv_at hl 0 rfl) ?_
          refine gX10_42 C hT (q0 := 52) rfl dX10_end_18 ?_
          refine lv_aload_n hx hb dX10_end_21 rfl (lv_at hl 0 rfl) ?_
          refine gX10_49 C hT (q0 := 52) rfl dX10_end_22 ?_
          have hM := c_X0_highestOfLow l g (bd 4) wl1 wh1
          refine r_callRO (js := [55]) C hT (runV (js := [55]) (rm := ({ frames := 0, cells := 0, slots := 0, locals := 0 } : Room)) (As := []) (n := 0) (q1 := 0) (rest := [.ref (bd 2)]) C hT hM rfl rfl k444 k445 k446 k14 k447 (by decide +kernel) rfl rfl rfl rfl (Nat.le_of_ble_eq_true rfl) hl.1 ⟨Nat.le_of_ble_eq_true rfl, Nat.le_of_ble_eq_true rfl⟩ ⟨Nat.le_of_ble_eq_true rfl, Nat.le_of_ble_eq_true rfl⟩ dX10_end_25) rfl rfl (fun u H locs hT => ?_)
          refine W.eq (g2 := F0 m 28 ls [.int ((wl1 >>> ((24 : Int32).toInt64 &&& 63)).toInt32 &&& 255), .ref (bd 2)]) rfl ?_
          refine W.eq (g2 := F0 m 28 ls [.int (topB wl1), .ref (bd 2)]) (congrArg (fun z => F0 m 28 ls (.int z :: [.ref (bd 2)])) (rfl)) ?_
          have hM := c_X6_add l g (bd 2) (bd 3) no1 ou1 (topB wl1) (by omega)
          refine r_call0 (js := [53, 54]) C hT (runV (js := [53, 54]) (rm := ({ frames := 0, cells := 0, slots := 0, locals := 0 } : Room)) (As := [.int (topB wl1)]) (n := 1) (q1 := 0) (rest := []) C hT hM rfl rfl k448 k449 k450 k13 k451 (by decide +kernel) rfl rfl rfl rfl (Nat.le_of_ble_eq_true rfl) hl.1 ⟨Nat.le_of_ble_eq_true rfl, Nat.le_of_ble_eq_true rfl⟩ ⟨Nat.le_of_ble_eq_true rfl, Nat.le_of_ble_eq_true rfl⟩ dX10_end_28) rfl rfl (fun _ => by simp only [List.map_cons, List.map_nil]) (fun u H locs hT => ?_)
          have hT : Wd g A s (cmL g ad bd np fk fn fo st N (s_n U) (s_nd U) (s_bg U) (s_f U) (s_fc U) (s_fs U) (s_r0 U) (s_t0 U) (s_f0 U) (s_r1 U) (s_t1 U) (s_f1 U) (s_nr U) (s_fx U) (s_mp U) (s_ml U) (s_cx U) (s_xi U) (s_n V) (s_nd V) (s_bg V) (s_f V) (s_fc V) (s_fs V) (s_r0 V) (s_t0 V) (s_f0 V) (s_r1 V) (s_t1 V) (s_f1 V) (s_nr V) (s_fx V) (s_mp V) (s_ml V) (s_cx V) (s_xi V) code cp en (no1 + 1) (upd ou1 no1 (topB wl1)) wl1 wh1 rl rh) H locs := hT
          refine W.eq (g2 := F0 m 31 ls []) rfl ?_
          refine lv_aload_n hx hb dX10_end_31 rfl (lv_at hl 0 rfl) ?_
          refine gX10_49 C hT (q0 := 52) rfl dX10_end_32 ?_
          have hM := c_X0_shift l g (bd 4) wl1 wh1
          refine r_call0 (js := [55]) C hT (runV (js := [55]) (rm := ({ frames := 0, cells := 0, slots := 0, locals := 0 } : Room)) (As := []) (n := 0) (q1 := 0) (rest := []) C hT hM rfl rfl k452 k453 k454 k14 k455 (by decide +kernel) rfl rfl rfl rfl (Nat.le_of_ble_eq_true rfl) hl.1 ⟨Nat.le_of_ble_eq_true rfl, Nat.le_of_ble_eq_true rfl⟩ ⟨Nat.le_of_ble_eq_true rfl, Nat.le_of_ble_eq_true rfl⟩ dX10_end_35) rfl rfl (fun _ => by simp only [List.map_cons, List.map_nil]) (fun u H locs hT => ?_)
          have hT : Wd g A s (cmL g ad bd np fk fn fo st N (s_n U) (s_nd U) (s_bg U) (s_f U) (s_fc U) (s_fs U) (s_r0 U) (s_t0 U) (s_f0 U) (s_r1 U) (s_t1 U) (s_f1 U) (s_nr U) (s_fx U) (s_mp U) (s_ml U) (s_cx U) (s_xi U) (s_n V) (s_nd V) (s_bg V) (s_f V) (s_fc V) (s_fs V) (s_r0 V) (s_t0 V) (s_f0 V) (s_r1 V) (s_t1 V) (s_f1 V) (s_nr V) (s_fx V) (s_mp V) (s_ml V) (s_cx V) (s_xi V) code cp en (no1 + 1) (upd ou1 no1 (topB wl1)) ((wl1 <<< ((8 : Int32).toInt64 &&& 63)) &&& 4294967295) (((wh1 <<< ((8 : Int32).toInt64 &&& 63)) &&& 4294967295) ||| 255) rl rh) H locs := hT
          refine W.eq (g2 := F0 m 38 ls []) rfl ?_
          have hT : Wd g A s (cmL g ad bd np fk fn fo st N (s_n U) (s_nd U) (s_bg U) (s_f U) (s_fc U) (s_fs U) (s_r0 U) (s_t0 U) (s_f0 U) (s_r1 U) (s_t1 U) (s_f1 U) (s_nr U) (s_fx U) (s_mp U) (s_ml U) (s_cx U) (s_xi U) (s_n V) (s_nd V) (s_bg V) (s_f V) (s_fc V) (s_fs V) (s_r0 V) (s_t0 V) (s_f0 V) (s_r1 V) (s_t1 V) (s_f1 V) (s_nr V) (s_fx V) (s_mp V) (s_ml V) (s_cx V) (s_xi V) code cp en (no1 + 1) (upd ou1 no1 (topB wl1)) (shLo wl1) (shHi wh1) rl rh) H locs := hT
          obtain ⟨x_3, ex_3⟩ : ∃ y : Int32, y = vx1 + 1 := ⟨_, rfl⟩
          refine lv_iinc (v := x_3) (lv' := [(1, .int x_3), (0, .ref (bd 1))]) hx hb dX10_end_38 hl (k := 1) rfl (by rw [ex_3]; rfl) (by decide) rfl (fun ls hl => ?_)
          refine lv_goto (tgt := 12) hx hb dX10_end_41 (by decide) ?_
          exact ih (i + 1) x_3 (shLo wl1) (shHi wh1) (no1 + 1) (upd ou1 no1 (topB wl1)) H locs ls (by first | assumption | omega | rfl) (by rw [ex_3, vex1]; exact nI_1 i) (by rw [hl1]; rfl) (by rw [hh1]; rfl) (by omega) (by rw [ho1, hn1, hl1]; rfl) (by omega) hT (lv_sub hl [1, 0] rfl)
    exact loop_12 (4 - 0 + 1) 0 0 wl wh no ou H locs ls (by first | assumption | omega | rfl) rfl rfl rfl rfl rfl (Nat.lt_succ_self _) hT (lv_sub hl [1, 0] rfl)
  · skip
    exact absurd (b01_t h_1) (by rw [hen]; decide)

set_option maxHeartbeats 400000 in
set_option maxRecDepth 100000 in
theorem c_X10_bit_s (l : Launch) (g : GT) (ad : Nat → Nat) (bd : Nat → Nat) (np : Nat) (fk : Nat → Int32) (fn : Nat → Int32) (fo : Nat → Int32) (st : Nat → Int32) (N : Nat) (U : SSt) (V : SSt) (code : Int64) (cp : Nat) (en : Bool) (no : Nat) (ou : Nat → Int32) (wl : Int64) (wh : Int64) (rl : Int64) (rh : Int64) (on : Int32) (hen : en = true) : OM (S := Unit) l g yX10_bit cX10_bit 2 (some .int) ({ frames := 0, cells := 0, slots := 0, locals := 0 } : Room) [.ref (bd 1), .int on] (cmL g ad bd np fk fn fo st N (s_n U) (s_nd U) (s_bg U) (s_f U) (s_fc U) (s_fs U) (s_r0 U) (s_t0 U) (s_f0 U) (s_r1 U) (s_t1 U) (s_f1 U) (s_nr U) (s_fx U) (s_mp U) (s_ml U) (s_cx U) (s_xi U) (s_n V) (s_nd V) (s_bg V) (s_f V) (s_fc V) (s_fs V) (s_r0 V) (s_t0 V) (s_f0 V) (s_r1 V) (s_t1 V) (s_f1 V) (s_nr V) (s_fx V) (s_mp V) (s_ml V) (s_cx V) (s_xi V) code cp en no ou wl wh rl rh) (fun _ => some (.int (-4))) (fun _ => (cmL g ad bd np fk fn fo st N (s_n U) (s_nd U) (s_bg U) (s_f U) (s_fc U) (s_fs U) (s_r0 U) (s_t0 U) (s_f0 U) (s_r1 U) (s_t1 U) (s_f1 U) (s_nr U) (s_fx U) (s_mp U) (s_ml U) (s_cx U) (s_xi U) (s_n V) (s_nd V) (s_bg V) (s_f V) (s_fc V) (s_fs V) (s_r0 V) (s_t0 V) (s_f0 V) (s_r1 V) (s_t1 V) (s_f1 V) (s_nr V) (s_fx V) (s_mp V) (s_ml V) (s_cx V) (s_xi V) code cp en no ou wl wh rl rh)) := by
  refine OM.startQ (by decide) (Nat.le_of_ble_eq_true rfl) ?_
  intro p e s m below meth c A ls Q H locs hQ C hnm hl hT
  have hx := C.x
  have hb := C.b
  have hl : lv_has ls 2 [(0, .ref (bd 1)), (1, .int on)] := hl
  refine lv_aload_n hx hb dX10_bit_0 rfl (lv_at hl 0 rfl) ?_
  refine gX10_60 C hT (q0 := 52) rfl dX10_bit_1 ?_
  refine lv_if_eq (tgt := 10) hx hb dX10_bit_4 (by decide) (fun h_1 => ?_) (fun h_1 => ?_)
  · skip
    exact absurd (b01_f h_1) (by rw [hen]; decide)
  · skip
    refine lv_bipush (v := (-4)) hx hb dX10_bit_7 (by decide) ?_
    exact e_iret C hQ () hT rfl dX10_bit_9

set_option maxHeartbeats 400000 in
set_option maxRecDepth 100000 in
theorem c_X10_bit (l : Launch) (g : GT) (ad : Nat → Nat) (bd : Nat → Nat) (np : Nat) (fk : Nat → Int32) (fn : Nat → Int32) (fo : Nat → Int32) (st : Nat → Int32) (N : Nat) (U : SSt) (V : SSt) (code : Int64) (cp : Nat) (en : Bool) (no : Nat) (ou : Nat → Int32) (wl : Int64) (wh : Int64) (rl : Int64) (rh : Int64) (rr : Nat) (on : Int32) (hG : GI st N rr np fk fn) (hU : SI N U) (hen : en = false) (hno : no ≤ 2992) (hnl : s_n U < 2000) : OM (S := Unit) l g yX10_bit cX10_bit 2 (some .int) ({ frames := 6, cells := 0, slots := 0, locals := 136 } : Room) [.ref (bd 1), .int on] (cmL g ad bd np fk fn fo st N (s_n U) (s_nd U) (s_bg U) (s_f U) (s_fc U) (s_fs U) (s_r0 U) (s_t0 U) (s_f0 U) (s_r1 U) (s_t1 U) (s_f1 U) (s_nr U) (s_fx U) (s_mp U) (s_ml U) (s_cx U) (s_xi U) (s_n V) (s_nd V) (s_bg V) (s_f V) (s_fc V) (s_fs V) (s_r0 V) (s_t0 V) (s_f0 V) (s_r1 V) (s_t1 V) (s_f1 V) (s_nr V) (s_fx V) (s_mp V) (s_ml V) (s_cx V) (s_xi V) code cp en no ou wl wh rl rh) (fun _ => some (.int (nI (emF 4 (nLo on wl (mdS st N np fk fo U wl wh)) (nHi on wh (mdS st N np fk fo U wl wh)) no ou).2.2.1))) (fun _ => (cmL g ad bd np fk fn fo st N (if s_bg U = 7 then s_n U + 1 else s_n U) (if s_bg U = 7 then 1 else 2 * s_nd U + bitN on) (if s_bg U = 7 then 0 else s_bg U + 1) (if s_bg U = 7 then lfS on U else s_f U) (lcS N np fk fo U on) (lsS N np fk fo U on) (nI (9 * s_nd U)) (t0S st N np fk fo U) (lw0S st N np fk fo U on) (nI (9 * lbN (s_f U) (s_n U))) (t1S st N np fk fo U) (lw1S st N np fk fo U on) (nI (nearS st N np fk fo U)) (lxS st N np fk fo U on) (if s_bg U = 7 then bgP (lfS on U) (s_n U + 1) fk fn (s_mp U) (s_ml U) np else s_mp U) (if s_bg U = 7 then bgL (lfS on U) (s_n U + 1) fk fn (s_mp U) (s_ml U) np else s_ml U) (if s_bg U = 7 then bgC (lfS on U) (s_n U + 1) fk fn (s_cx U) np else s_cx U) (xiS st N np fk fo U) (s_n V) (s_nd V) (s_bg V) (s_f V) (s_fc V) (s_fs V) (s_r0 V) (s_t0 V) (s_f0 V) (s_r1 V) (s_t1 V) (s_f1 V) (s_nr V) (s_fx V) (s_mp V) (s_ml V) (s_cx V) (s_xi V) code cp en ((emF 4 (nLo on wl (mdS st N np fk fo U wl wh)) (nHi on wh (mdS st N np fk fo U wl wh)) no ou).2.2.1) ((emF 4 (nLo on wl (mdS st N np fk fo U wl wh)) (nHi on wh (mdS st N np fk fo U wl wh)) no ou).2.2.2) ((emF 4 (nLo on wl (mdS st N np fk fo U wl wh)) (nHi on wh (mdS st N np fk fo U wl wh)) no ou).1) ((emF 4 (nLo on wl (mdS st N np fk fo U wl wh)) (nHi on wh (mdS st N np fk fo U wl wh)) no ou).2.1) rl rh)) := by
  refine OM.startQ (by decide) (Nat.le_of_ble_eq_true rfl) ?_
  intro p e s m below meth c A ls Q H locs hQ C hnm hl hT
  have hx := C.x
  have hb := C.b
  have hl : lv_has ls 2 [(0, .ref (bd 1)), (1, .int on)] := hl
  refine lv_aload_n hx hb dX10_bit_0 rfl (lv_at hl 0 rfl) ?_
  refine gX10_60 C hT (q0 := 52) rfl dX10_bit_1 ?_
  refine lv_if_eq (tgt := 10) hx hb dX10_bit_4 (by decide) (fun h_1 => ?_) (fun h_1 => ?_)
  · skip
    refine lv_aload_n hx hb dX10_bit_10 rfl (lv_at hl 0 rfl) ?_
    have hM := c_X10_isFull l g ad bd np fk fn fo st N U V code cp en no ou wl wh rl rh hnl hno
    refine r_callRO (js := [0, 1, 2, 3, 4, 5, 6, 7, 8, 9, 10, 11, 12, 13, 14, 15, 16, 17, 18, 19, 20, 21, 22, 23, 24, 25, 26, 27, 28, 29, 30, 31, 32, 33, 34, 35, 36, 37, 38, 39, 40, 41, 42, 43, 44, 45, 46, 47, 48, 49, 50, 51, 52, 53, 54, 55, 56]) C hT (runV (js := [0, 1, 2, 3, 4, 5, 6, 7, 8, 9, 10, 11, 12, 13, 14, 15, 16, 17, 18, 19, 20, 21, 22, 23, 24, 25, 26, 27, 28, 29, 30, 31, 32, 33, 34, 35, 36, 37, 38, 39, 40, 41, 42, 43, 44, 45, 46, 47, 48, 49, 50, 51, 52, 53, 54, 55, 56]) (rm := ({ frames := 0, cells := 0, slots := 0, locals := 0 } : Room)) (As := []) (n := 0) (q1 := 52) (rest := []) C hT hM rfl rfl k373 k375 s4 k1 k376 (by decide +kernel) rfl rfl rfl rfl (Nat.le_of_ble_eq_true rfl) hl.1 ⟨Nat.le_of_ble_eq_true rfl, Nat.le_of_ble_eq_true rfl⟩ ⟨Nat.le_of_ble_eq_true rfl, Nat.le_of_ble_eq_true rfl⟩ dX10_bit_11) rfl rfl (fun u H locs hT => ?_)
    refine W.eq (g2 := F0 m 14 ls [.int 0]) rfl ?_
    refine lv_if_eq (tgt := 20) hx hb dX10_bit_14 (by decide) (fun h_2 => ?_) (fun h_2 => ?_)
    · skip
      refine lv_aload_n hx hb dX10_bit_20 rfl (lv_at hl 0 rfl) ?_
      refine lv_iload_n hx hb dX10_bit_21 rfl (lv_at hl 1 rfl) ?_
      have hM := c_X10_writeBit l g ad bd np fk fn fo st N U V code cp en no ou wl wh rl rh rr on (by first | assumption | omega) (by first | assumption | omega) (by omega) (by first | assumption | omega)
      refine r_callW C hT (runVW (rm := ({ frames := 5, cells := 0, slots := 0, locals := 114 } : Room)) (As := [.int on]) (n := 1) (q1 := 52) (rest := []) C hT hM k377 k379 s5 k1 k380 (by decide +kernel) rfl rfl rfl rfl (Nat.le_of_ble_eq_true rfl) hl.1 ⟨Nat.le_of_ble_eq_true rfl, Nat.le_of_ble_eq_true rfl⟩ ⟨Nat.le_of_ble_eq_true rfl, Nat.le_of_ble_eq_true rfl⟩ dX10_bit_22) (fun u H locs hT => ?_)
      have hT : Wd g A s (cmL g ad bd np fk fn fo st N (if (s_bg U) = 7 then (s_n U) + 1 else (s_n U)) (if (s_bg U) = 7 then 1 else 2 * (s_nd U) + bitN on) (if (s_bg U) = 7 then 0 else (s_bg U) + 1) (if (s_bg U) = 7 then lfS on U else (s_f U)) (lcS N np fk fo U on) (lsS N np fk fo U on) (nI (9 * (s_nd U))) (t0S st N np fk fo U) (lw0S st N np fk fo U on) (nI (9 * lbN (s_f U) (s_n U))) (t1S st N np fk fo U) (lw1S st N np fk fo U on) (nI (nearS st N np fk fo U)) (lxS st N np fk fo U on) (if (s_bg U) = 7 then bgP (lfS on U) ((s_n U) + 1) fk fn (s_mp U) (s_ml U) np else (s_mp U)) (if (s_bg U) = 7 then bgL (lfS on U) ((s_n U) + 1) fk fn (s_mp U) (s_ml U) np else (s_ml U)) (if (s_bg U) = 7 then bgC (lfS on U) ((s_n U) + 1) fk fn (s_cx U) np else (s_cx U)) (xiS st N np fk fo U) (s_n V) (s_nd V) (s_bg V) (s_f V) (s_fc V) (s_fs V) (s_r0 V) (s_t0 V) (s_f0 V) (s_r1 V) (s_t1 V) (s_f1 V) (s_nr V) (s_fx V) (s_mp V) (s_ml V) (s_cx V) (s_xi V) code cp en ((emF 4 (nLo on wl (mdS st N np fk fo U wl wh)) (nHi on wh (mdS st N np fk fo U wl wh)) no ou).2.2.1) ((emF 4 (nLo on wl (mdS st N np fk fo U wl wh)) (nHi on wh (mdS st N np fk fo U wl wh)) no ou).2.2.2) ((emF 4 (nLo on wl (mdS st N np fk fo U wl wh)) (nHi on wh (mdS st N np fk fo U wl wh)) no ou).1) ((emF 4 (nLo on wl (mdS st N np fk fo U wl wh)) (nHi on wh (mdS st N np fk fo U wl wh)) no ou).2.1) rl rh) H locs := hT
      refine W.eq (g2 := F0 m 25 ls []) rfl ?_
      refine lv_aload_n hx hb dX10_bit_25 rfl (lv_at hl 0 rfl) ?_
      refine gX10_42 C hT (q0 := 52) rfl dX10_bit_26 ?_
      refine gX10_95 C hT (q0 := 53) rfl dX10_bit_29 ?_
      exact e_iret C hQ () (by first | exact hT | (simp only [h_1, h_2, if_true, if_false, not_true_eq_false, not_false_eq_true, ite_true, ite_false, true_and, and_true, false_and, and_false, true_or, or_true, false_or, or_false]; exact hT)) (by simp only [h_1, h_2, if_true, if_false, not_true_eq_false, not_false_eq_true, ite_true, ite_false, true_and, and_true, false_and, and_false, true_or, or_true, false_or, or_false]) dX10_bit_32
    · skip
      exact absurd rfl h_2
  · skip
    exact absurd (b01_t h_1) (by rw [hen]; decide)

set_option maxHeartbeats 400000 in
set_option maxRecDepth 100000 in
theorem c_X10_predictor_b (l : Launch) (g : GT) (ad : Nat → Nat) (bd : Nat → Nat) (np : Nat) (fk : Nat → Int32) (fn : Nat → Int32) (fo : Nat → Int32) (st : Nat → Int32) (N : Nat) (U : SSt) (V : SSt) (code : Int64) (cp : Nat) (en : Bool) (no : Nat) (ou : Nat → Int32) (wl : Int64) (wh : Int64) (rl : Int64) (rh : Int64) (kd : Int32) (nn : Int32) (hal : allowB kd nn = false) : OM (S := Unit) l g yX10_predictor cX10_predictor 4 (some .int) ({ frames := 1, cells := 0, slots := 0, locals := 21 } : Room) [.ref (bd 1), .int kd, .int nn] (cmL g ad bd np fk fn fo st N (s_n U) (s_nd U) (s_bg U) (s_f U) (s_fc U) (s_fs U) (s_r0 U) (s_t0 U) (s_f0 U) (s_r1 U) (s_t1 U) (s_f1 U) (s_nr U) (s_fx U) (s_mp U) (s_ml U) (s_cx U) (s_xi U) (s_n V) (s_nd V) (s_bg V) (s_f V) (s_fc V) (s_fs V) (s_r0 V) (s_t0 V) (s_f0 V) (s_r1 V) (s_t1 V) (s_f1 V) (s_nr V) (s_fx V) (s_mp V) (s_ml V) (s_cx V) (s_xi V) code cp en no ou wl wh rl rh) (fun _ => some (.int (-1))) (fun _ => (cmL g ad bd np fk fn fo st N (s_n U) (s_nd U) (s_bg U) (s_f U) (s_fc U) (s_fs U) (s_r0 U) (s_t0 U) (s_f0 U) (s_r1 U) (s_t1 U) (s_f1 U) (s_nr U) (s_fx U) (s_mp U) (s_ml U) (s_cx U) (s_xi U) (s_n V) (s_nd V) (s_bg V) (s_f V) (s_fc V) (s_fs V) (s_r0 V) (s_t0 V) (s_f0 V) (s_r1 V) (s_t1 V) (s_f1 V) (s_nr V) (s_fx V) (s_mp V) (s_ml V) (s_cx V) (s_xi V) code cp en no ou wl wh rl rh)) := by
  refine OM.startQ (by decide) (Nat.le_of_ble_eq_true rfl) ?_
  intro p e s m below meth c A ls Q H locs hQ C hnm hl hT
  have hx := C.x
  have hb := C.b
  have hl : lv_has ls 4 [(0, .ref (bd 1)), (1, .int kd), (2, .int nn)] := hl
  refine lv_iload_n hx hb dX10_predictor_0 rfl (lv_at hl 1 rfl) ?_
  refine lv_iload_n hx hb dX10_predictor_1 rfl (lv_at hl 2 rfl) ?_
  have hM := c_X7_allows l g kd nn
  refine r_callRO (js := []) C hT (runS (js := []) (rm := ({ frames := 0, cells := 0, slots := 0, locals := 0 } : Room)) (As := [.int kd, .int nn]) (n := 2) (rest := []) C hT hM rfl rfl k288 k289 k4 k290 (by decide +kernel) rfl rfl (Nat.le_of_ble_eq_true rfl) hl.1 ⟨Nat.le_of_ble_eq_true rfl, Nat.le_of_ble_eq_true rfl⟩ ⟨Nat.le_of_ble_eq_true rfl, Nat.le_of_ble_eq_true rfl⟩ dX10_predictor_2) rfl rfl (fun u H locs hT => ?_)
  refine W.eq (g2 := F0 m 5 ls [.int (b01 (allowB kd nn))]) rfl ?_
  refine lv_if_ne (tgt := 10) hx hb dX10_predictor_5 (by decide) (fun h_1 => ?_) (fun h_1 => ?_)
  · skip
    exact absurd (b01_t h_1) (by rw [hal]; decide)
  · skip
    refine lv_iconst (v := (-1)) hx hb dX10_predictor_8 (by decide) ?_
    exact e_iret C hQ () hT rfl dX10_predictor_9

set_option maxHeartbeats 400000 in
set_option maxRecDepth 100000 in
theorem c_X10_predictor_s (l : Launch) (g : GT) (ad : Nat → Nat) (bd : Nat → Nat) (np : Nat) (fk : Nat → Int32) (fn : Nat → Int32) (fo : Nat → Int32) (st : Nat → Int32) (N : Nat) (U : SSt) (V : SSt) (code : Int64) (cp : Nat) (en : Bool) (no : Nat) (ou : Nat → Int32) (wl : Int64) (wh : Int64) (rl : Int64) (rh : Int64) (kd : Int32) (nn : Int32) (hal : allowB kd nn = true) (hn : s_n U ≤ 2000) (hbg : s_bg U ≤ 8) (hst : en = true ∨ 0 < s_n U ∨ 0 < s_bg U) : OM (S := Unit) l g yX10_predictor cX10_predictor 4 (some .int) ({ frames := 1, cells := 0, slots := 0, locals := 21 } : Room) [.ref (bd 1), .int kd, .int nn] (cmL g ad bd np fk fn fo st N (s_n U) (s_nd U) (s_bg U) (s_f U) (s_fc U) (s_fs U) (s_r0 U) (s_t0 U) (s_f0 U) (s_r1 U) (s_t1 U) (s_f1 U) (s_nr U) (s_fx U) (s_mp U) (s_ml U) (s_cx U) (s_xi U) (s_n V) (s_nd V) (s_bg V) (s_f V) (s_fc V) (s_fs V) (s_r0 V) (s_t0 V) (s_f0 V) (s_r1 V) (s_t1 V) (s_f1 V) (s_nr V) (s_fx V) (s_mp V) (s_ml V) (s_cx V) (s_xi V) code cp en no ou wl wh rl rh) (fun _ => some (.int (-4))) (fun _ => (cmL g ad bd np fk fn fo st N (s_n U) (s_nd U) (s_bg U) (s_f U) (s_fc U) (s_fs U) (s_r0 U) (s_t0 U) (s_f0 U) (s_r1 U) (s_t1 U) (s_f1 U) (s_nr U) (s_fx U) (s_mp U) (s_ml U) (s_cx U) (s_xi U) (s_n V) (s_nd V) (s_bg V) (s_f V) (s_fc V) (s_fs V) (s_r0 V) (s_t0 V) (s_f0 V) (s_r1 V) (s_t1 V) (s_f1 V) (s_nr V) (s_fx V) (s_mp V) (s_ml V) (s_cx V) (s_xi V) code cp en no ou wl wh rl rh)) := by
  refine OM.startQ (by decide) (Nat.le_of_ble_eq_true rfl) ?_
  intro p e s m below meth c A ls Q H locs hQ C hnm hl hT
  have hx := C.x
  have hb := C.b
  have hl : lv_has ls 4 [(0, .ref (bd 1)), (1, .int kd), (2, .int nn)] := hl
  refine lv_iload_n hx hb dX10_predictor_0 rfl (lv_at hl 1 rfl) ?_
  refine lv_iload_n hx hb dX10_predictor_1 rfl (lv_at hl 2 rfl) ?_
  have hM := c_X7_allows l g kd nn
  refine r_callRO (js := []) C hT (runS (js := []) (rm := ({ frames := 0, cells := 0, slots := 0, locals := 0 } : Room)) (As := [.int kd, .int nn]) (n := 2) (rest := []) C hT hM rfl rfl k288 k289 k4 k290 (by decide +kernel) rfl rfl (Nat.le_of_ble_eq_true rfl) hl.1 ⟨Nat.le_of_ble_eq_true rfl, Nat.le_of_ble_eq_true rfl⟩ ⟨Nat.le_of_ble_eq_true rfl, Nat.le_of_ble_eq_true rfl⟩ dX10_predictor_2) rfl rfl (fun u H locs hT => ?_)
  refine W.eq (g2 := F0 m 5 ls [.int (b01 (allowB kd nn))]) rfl ?_
  refine lv_if_ne (tgt := 10) hx hb dX10_predictor_5 (by decide) (fun h_1 => ?_) (fun h_1 => ?_)
  · skip
    refine lv_aload_n hx hb dX10_predictor_10 rfl (lv_at hl 0 rfl) ?_
    refine gX10_60 C hT (q0 := 52) rfl dX10_predictor_11 ?_
    refine lv_if_ne (tgt := 30) hx hb dX10_predictor_14 (by decide) (fun h_2 => ?_) (fun h_2 => ?_)
    · skip
      have h_2 := b01_t h_2
      refine lv_bipush (v := (-4)) hx hb dX10_predictor_30 (by decide) ?_
      exact e_iret C hQ () hT rfl dX10_predictor_32
    · skip
      have h_2 := b01_f h_2
      refine lv_aload_n hx hb dX10_predictor_17 rfl (lv_at hl 0 rfl) ?_
      refine gX10_32 C hT (q0 := 52) rfl dX10_predictor_18 ?_
      refine gX10_64 C hT (q0 := 0) rfl dX10_predictor_21 ?_
      have hM := c_X2_begun l g (ad 7) (ad 8) (s_n U) (s_nd U) (s_bg U) hn hbg
      refine r_callRO (js := [7]) C hT (runV (js := [7]) (rm := ({ frames := 0, cells := 0, slots := 0, locals := 0 } : Room)) (As := []) (n := 0) (q1 := 0) (rest := []) C hT hM rfl rfl k291 k292 k293 k6 k294 (by decide +kernel) rfl rfl rfl rfl (Nat.le_of_ble_eq_true rfl) hl.1 ⟨Nat.le_of_ble_eq_true rfl, Nat.le_of_ble_eq_true rfl⟩ ⟨Nat.le_of_ble_eq_true rfl, Nat.le_of_ble_eq_true rfl⟩ dX10_predictor_24) rfl rfl (fun u H locs hT => ?_)
      refine W.eq (g2 := F0 m 27 ls [.int (b01 (decide (0 < (s_n U)) || decide (0 < (s_bg U))))]) rfl ?_
      refine lv_if_eq (tgt := 33) hx hb dX10_predictor_27 (by decide) (fun h_3 => ?_) (fun h_3 => ?_)
      · skip
        exact off_dead (Or.inr hst) hal h_2 (b01_f h_3)
      · skip
        refine lv_bipush (v := (-4)) hx hb dX10_predictor_30 (by decide) ?_
        exact e_iret C hQ () hT rfl dX10_predictor_32
  · skip
    exact absurd (b01_f h_1) (by rw [hal]; decide)

set_option maxHeartbeats 400000 in
set_option maxRecDepth 100000 in
theorem c_X10_predictor_f (l : Launch) (g : GT) (ad : Nat → Nat) (bd : Nat → Nat) (np : Nat) (fk : Nat → Int32) (fn : Nat → Int32) (fo : Nat → Int32) (st : Nat → Int32) (N : Nat) (U : SSt) (V : SSt) (code : Int64) (cp : Nat) (en : Bool) (no : Nat) (ou : Nat → Int32) (wl : Int64) (wh : Int64) (rl : Int64) (rh : Int64) (rr : Nat) (kd : Int32) (nn : Int32) (hG : GI st N rr np fk fn) (hU : SI N U) (hV : SI N V) (hal : allowB kd nn = true) (h8 : np = 8) (hen : en = false) (hb0 : s_n U = 0) (hb1 : s_bg U = 0) : OM (S := Unit) l g yX10_predictor cX10_predictor 4 (some .int) ({ frames := 4, cells := 0, slots := 0, locals := 92 } : Room) [.ref (bd 1), .int kd, .int nn] (cmL g ad bd np fk fn fo st N (s_n U) (s_nd U) (s_bg U) (s_f U) (s_fc U) (s_fs U) (s_r0 U) (s_t0 U) (s_f0 U) (s_r1 U) (s_t1 U) (s_f1 U) (s_nr U) (s_fx U) (s_mp U) (s_ml U) (s_cx U) (s_xi U) (s_n V) (s_nd V) (s_bg V) (s_f V) (s_fc V) (s_fs V) (s_r0 V) (s_t0 V) (s_f0 V) (s_r1 V) (s_t1 V) (s_f1 V) (s_nr V) (s_fx V) (s_mp V) (s_ml V) (s_cx V) (s_xi V) code cp en no ou wl wh rl rh) (fun _ => some (.int (-3))) (fun _ => (cmL g ad bd np fk fn fo st N (s_n U) (s_nd U) (s_bg U) (s_f U) (s_fc U) (s_fs U) (s_r0 U) (s_t0 U) (s_f0 U) (s_r1 U) (s_t1 U) (s_f1 U) (s_nr U) (s_fx U) (bgP (s_f U) (s_n U) fk fn (s_mp U) (s_ml U) np) (bgL (s_f U) (s_n U) fk fn (s_mp U) (s_ml U) np) (bgC (s_f U) (s_n U) fk fn (s_cx U) np) (s_xi U) (s_n V) (s_nd V) (s_bg V) (s_f V) (s_fc V) (s_fs V) (s_r0 V) (s_t0 V) (s_f0 V) (s_r1 V) (s_t1 V) (s_f1 V) (s_nr V) (s_fx V) (bgP (s_f V) (s_n V) fk fn (s_mp V) (s_ml V) np) (bgL (s_f V) (s_n V) fk fn (s_mp V) (s_ml V) np) (bgC (s_f V) (s_n V) fk fn (s_cx V) np) (s_xi V) code cp en no ou wl wh rl rh)) := by
  refine OM.startQ (by decide) (Nat.le_of_ble_eq_true rfl) ?_
  intro p e s m below meth c A ls Q H locs hQ C hnm hl hT
  have hx := C.x
  have hb := C.b
  have hl : lv_has ls 4 [(0, .ref (bd 1)), (1, .int kd), (2, .int nn)] := hl
  refine lv_iload_n hx hb dX10_predictor_0 rfl (lv_at hl 1 rfl) ?_
  refine lv_iload_n hx hb dX10_predictor_1 rfl (lv_at hl 2 rfl) ?_
  have hM := c_X7_allows l g kd nn
  refine r_callRO (js := []) C hT (runS (js := []) (rm := ({ frames := 0, cells := 0, slots := 0, locals := 0 } : Room)) (As := [.int kd, .int nn]) (n := 2) (rest := []) C hT hM rfl rfl k288 k289 k4 k290 (by decide +kernel) rfl rfl (Nat.le_of_ble_eq_true rfl) hl.1 ⟨Nat.le_of_ble_eq_true rfl, Nat.le_of_ble_eq_true rfl⟩ ⟨Nat.le_of_ble_eq_true rfl, Nat.le_of_ble_eq_true rfl⟩ dX10_predictor_2) rfl rfl (fun u H locs hT => ?_)
  refine W.eq (g2 := F0 m 5 ls [.int (b01 (allowB kd nn))]) rfl ?_
  refine lv_if_ne (tgt := 10) hx hb dX10_predictor_5 (by decide) (fun h_1 => ?_) (fun h_1 => ?_)
  · skip
    refine lv_aload_n hx hb dX10_predictor_10 rfl (lv_at hl 0 rfl) ?_
    refine gX10_60 C hT (q0 := 52) rfl dX10_predictor_11 ?_
    refine lv_if_ne (tgt := 30) hx hb dX10_predictor_14 (by decide) (fun h_2 => ?_) (fun h_2 => ?_)
    · skip
      exact absurd (b01_t h_2) (by rw [hen]; decide)
    · skip
      refine lv_aload_n hx hb dX10_predictor_17 rfl (lv_at hl 0 rfl) ?_
      refine gX10_32 C hT (q0 := 52) rfl dX10_predictor_18 ?_
      refine gX10_64 C hT (q0 := 0) rfl dX10_predictor_21 ?_
      have hM := c_X2_begun l g (ad 7) (ad 8) (s_n U) (s_nd U) (s_bg U) (by omega) (by omega)
      refine r_callRO (js := [7]) C hT (runV (js := [7]) (rm := ({ frames := 0, cells := 0, slots := 0, locals := 0 } : Room)) (As := []) (n := 0) (q1 := 0) (rest := []) C hT hM rfl rfl k291 k292 k293 k6 k294 (by decide +kernel) rfl rfl rfl rfl (Nat.le_of_ble_eq_true rfl) hl.1 ⟨Nat.le_of_ble_eq_true rfl, Nat.le_of_ble_eq_true rfl⟩ ⟨Nat.le_of_ble_eq_true rfl, Nat.le_of_ble_eq_true rfl⟩ dX10_predictor_24) rfl rfl (fun u H locs hT => ?_)
      refine W.eq (g2 := F0 m 27 ls [.int (b01 (decide (0 < (s_n U)) || decide (0 < (s_bg U))))]) rfl ?_
      refine lv_if_eq (tgt := 33) hx hb dX10_predictor_27 (by decide) (fun h_3 => ?_) (fun h_3 => ?_)
      · skip
        refine lv_aload_n hx hb dX10_predictor_33 rfl (lv_at hl 0 rfl) ?_
        refine gX10_23 C hT (q0 := 52) rfl dX10_predictor_34 ?_
        refine lv_iload_n hx hb dX10_predictor_37 rfl (lv_at hl 1 rfl) ?_
        refine lv_iload_n hx hb dX10_predictor_38 rfl (lv_at hl 2 rfl) ?_
        have hM := c_X7_add_full l g (ad 1) (ad 2) (ad 3) (ad 4) np kd nn h8
        refine r_callRO (js := [1]) C hT (runV (js := [1]) (rm := ({ frames := 0, cells := 0, slots := 0, locals := 0 } : Room)) (As := [.int kd, .int nn]) (n := 2) (q1 := 0) (rest := []) C hT hM rfl rfl k295 k296 k297 k4 k298 (by decide +kernel) rfl rfl rfl rfl (Nat.le_of_ble_eq_true rfl) hl.1 ⟨Nat.le_of_ble_eq_true rfl, Nat.le_of_ble_eq_true rfl⟩ ⟨Nat.le_of_ble_eq_true rfl, Nat.le_of_ble_eq_true rfl⟩ dX10_predictor_39) rfl rfl (fun u H locs hT => ?_)
        refine W.eq (g2 := F0 m 42 ls [.int (-3)]) rfl ?_
        refine lv_istore_n (lv' := [(3, .int (-3)), (0, .ref (bd 1)), (1, .int kd), (2, .int nn)]) hx hb dX10_predictor_42 rfl hl (by decide) rfl (fun ls hl => ?_)
        refine lv_aload_n hx hb dX10_predictor_43 rfl (lv_at hl 1 rfl) ?_
        refine gX10_32 C hT (q0 := 52) rfl dX10_predictor_44 ?_
        have hM := c_X8_beginByte l g ad np fk fn fo st (s_n U) (s_nd U) (s_bg U) (s_f U) N (s_fc U) (s_fs U) (s_r0 U) (s_t0 U) (s_f0 U) (s_r1 U) (s_t1 U) (s_f1 U) (s_nr U) (s_fx U) (s_mp U) (s_ml U) (s_cx U) (s_xi U) hG.1 hU.1 hG.2.2.2.1 hU.2.2.2.2.2.1 hU.2.2.2.2.2.2
        have hT2 := hT.perm (perm_w (obC ad) (shL g ad np fk fn fo st) (prL g ad N (s_n U) (s_nd U) (s_bg U) (s_f U) (s_fc U) (s_fs U) (s_r0 U) (s_t0 U) (s_f0 U) (s_r1 U) (s_t1 U) (s_f1 U) (s_nr U) (s_fx U) (s_mp U) (s_ml U) (s_cx U) (s_xi U)) (obC (mixA ad bd) :: (prL g (mixA ad bd) N (s_n V) (s_nd V) (s_bg V) (s_f V) (s_fc V) (s_fs V) (s_r0 V) (s_t0 V) (s_f0 V) (s_r1 V) (s_t1 V) (s_f1 V) (s_nr V) (s_fx V) (s_mp V) (s_ml V) (s_cx V) (s_xi V) ++ exL g ad bd code cp en no ou wl wh rl rh)))
        refine r_callP (lc := sideL g ad np fk fn fo st (s_n U) (s_nd U) (s_bg U) (s_f U) N (s_fc U) (s_fs U) (s_r0 U) (s_t0 U) (s_f0 U) (s_r1 U) (s_t1 U) (s_f1 U) (s_nr U) (s_fx U) (s_mp U) (s_ml U) (s_cx U) (s_xi U)) (B := (obC (mixA ad bd) :: (prL g (mixA ad bd) N (s_n V) (s_nd V) (s_bg V) (s_f V) (s_fc V) (s_fs V) (s_r0 V) (s_t0 V) (s_f0 V) (s_r1 V) (s_t1 V) (s_f1 V) (s_nr V) (s_fx V) (s_mp V) (s_ml V) (s_cx V) (s_xi V) ++ exL g ad bd code cp en no ou wl wh rl rh))) (rm := ({ frames := 3, cells := 0, slots := 0, locals := 69 } : Room)) (As := []) (n := 0) (q1 := 0) (rest := []) C hT2 hM k299 k300 k301 k5 k302 (by decide +kernel) rfl rfl rfl rfl (Nat.le_of_ble_eq_true rfl) hl.1 ⟨Nat.le_of_ble_eq_true rfl, Nat.le_of_ble_eq_true rfl⟩ ⟨Nat.le_of_ble_eq_true rfl, Nat.le_of_ble_eq_true rfl⟩ dX10_predictor_47 (fun _ => sideL_fst.trans sideL_fst.symm) (fun u H locs hT => ?_)
        have hT : Wd g A s (cmL g ad bd np fk fn fo st N (s_n U) (s_nd U) (s_bg U) (s_f U) (s_fc U) (s_fs U) (s_r0 U) (s_t0 U) (s_f0 U) (s_r1 U) (s_t1 U) (s_f1 U) (s_nr U) (s_fx U) (bgP (s_f U) (s_n U) fk fn (s_mp U) (s_ml U) np) (bgL (s_f U) (s_n U) fk fn (s_mp U) (s_ml U) np) (bgC (s_f U) (s_n U) fk fn (s_cx U) np) (s_xi U) (s_n V) (s_nd V) (s_bg V) (s_f V) (s_fc V) (s_fs V) (s_r0 V) (s_t0 V) (s_f0 V) (s_r1 V) (s_t1 V) (s_f1 V) (s_nr V) (s_fx V) (s_mp V) (s_ml V) (s_cx V) (s_xi V) code cp en no ou wl wh rl rh) H locs := hT.perm (perm_w (obC ad) (shL g ad np fk fn fo st) (prL g ad N (s_n U) (s_nd U) (s_bg U) (s_f U) (s_fc U) (s_fs U) (s_r0 U) (s_t0 U) (s_f0 U) (s_r1 U) (s_t1 U) (s_f1 U) (s_nr U) (s_fx U) (bgP (s_f U) (s_n U) fk fn (s_mp U) (s_ml U) np) (bgL (s_f U) (s_n U) fk fn (s_mp U) (s_ml U) np) (bgC (s_f U) (s_n U) fk fn (s_cx U) np) (s_xi U)) (obC (mixA ad bd) :: (prL g (mixA ad bd) N (s_n V) (s_nd V) (s_bg V) (s_f V) (s_fc V) (s_fs V) (s_r0 V) (s_t0 V) (s_f0 V) (s_r1 V) (s_t1 V) (s_f1 V) (s_nr V) (s_fx V) (s_mp V) (s_ml V) (s_cx V) (s_xi V) ++ exL g ad bd code cp en no ou wl wh rl rh))).symm
        refine W.eq (g2 := F0 m 50 ls []) rfl ?_
        refine lv_aload_n hx hb dX10_predictor_50 rfl (lv_at hl 1 rfl) ?_
        refine gX10_36 C hT (q0 := 52) rfl dX10_predictor_51 ?_
        have hM := c_X8_beginByte l g (mixA ad bd) np fk fn fo st (s_n V) (s_nd V) (s_bg V) (s_f V) N (s_fc V) (s_fs V) (s_r0 V) (s_t0 V) (s_f0 V) (s_r1 V) (s_t1 V) (s_f1 V) (s_nr V) (s_fx V) (s_mp V) (s_ml V) (s_cx V) (s_xi V) hG.1 hV.1 hG.2.2.2.1 hV.2.2.2.2.2.1 hV.2.2.2.2.2.2
        have hT2 := hT.perm (perm_r (obC ad) (obC (mixA ad bd)) (shL g ad np fk fn fo st) (prL g ad N (s_n U) (s_nd U) (s_bg U) (s_f U) (s_fc U) (s_fs U) (s_r0 U) (s_t0 U) (s_f0 U) (s_r1 U) (s_t1 U) (s_f1 U) (s_nr U) (s_fx U) (bgP (s_f U) (s_n U) fk fn (s_mp U) (s_ml U) np) (bgL (s_f U) (s_n U) fk fn (s_mp U) (s_ml U) np) (bgC (s_f U) (s_n U) fk fn (s_cx U) np) (s_xi U)) (prL g (mixA ad bd) N (s_n V) (s_nd V) (s_bg V) (s_f V) (s_fc V) (s_fs V) (s_r0 V) (s_t0 V) (s_f0 V) (s_r1 V) (s_t1 V) (s_f1 V) (s_nr V) (s_fx V) (s_mp V) (s_ml V) (s_cx V) (s_xi V)) (exL g ad bd code cp en no ou wl wh rl rh))
        refine r_callP (lc := sideL g (mixA ad bd) np fk fn fo st (s_n V) (s_nd V) (s_bg V) (s_f V) N (s_fc V) (s_fs V) (s_r0 V) (s_t0 V) (s_f0 V) (s_r1 V) (s_t1 V) (s_f1 V) (s_nr V) (s_fx V) (s_mp V) (s_ml V) (s_cx V) (s_xi V)) (B := (obC ad :: (prL g ad N (s_n U) (s_nd U) (s_bg U) (s_f U) (s_fc U) (s_fs U) (s_r0 U) (s_t0 U) (s_f0 U) (s_r1 U) (s_t1 U) (s_f1 U) (s_nr U) (s_fx U) (bgP (s_f U) (s_n U) fk fn (s_mp U) (s_ml U) np) (bgL (s_f U) (s_n U) fk fn (s_mp U) (s_ml U) np) (bgC (s_f U) (s_n U) fk fn (s_cx U) np) (s_xi U) ++ exL g ad bd code cp en no ou wl wh rl rh))) (rm := ({ frames := 3, cells := 0, slots := 0, locals := 69 } : Room)) (As := []) (n := 0) (q1 := 0) (rest := []) C hT2 hM k299 k300 k301 k5 k302 (by decide +kernel) rfl rfl rfl rfl (Nat.le_of_ble_eq_true rfl) hl.1 ⟨Nat.le_of_ble_eq_true rfl, Nat.le_of_ble_eq_true rfl⟩ ⟨Nat.le_of_ble_eq_true rfl, Nat.le_of_ble_eq_true rfl⟩ dX10_predictor_54 (fun _ => sideL_fst.trans sideL_fst.symm) (fun u H locs hT => ?_)
        have hT : Wd g A s (cmL g ad bd np fk fn fo st N (s_n U) (s_nd U) (s_bg U) (s_f U) (s_fc U) (s_fs U) (s_r0 U) (s_t0 U) (s_f0 U) (s_r1 U) (s_t1 U) (s_f1 U) (s_nr U) (s_fx U) (bgP (s_f U) (s_n U) fk fn (s_mp U) (s_ml U) np) (bgL (s_f U) (s_n U) fk fn (s_mp U) (s_ml U) np) (bgC (s_f U) (s_n U) fk fn (s_cx U) np) (s_xi U) (s_n V) (s_nd V) (s_bg V) (s_f V) (s_fc V) (s_fs V) (s_r0 V) (s_t0 V) (s_f0 V) (s_r1 V) (s_t1 V) (s_f1 V) (s_nr V) (s_fx V) (bgP (s_f V) (s_n V) fk fn (s_mp V) (s_ml V) np) (bgL (s_f V) (s_n V) fk fn (s_mp V) (s_ml V) np) (bgC (s_f V) (s_n V) fk fn (s_cx V) np) (s_xi V) code cp en no ou wl wh rl rh) H locs := hT.perm (perm_r (obC ad) (obC (mixA ad bd)) (shL g ad np fk fn fo st) (prL g ad N (s_n U) (s_nd U) (s_bg U) (s_f U) (s_fc U) (s_fs U) (s_r0 U) (s_t0 U) (s_f0 U) (s_r1 U) (s_t1 U) (s_f1 U) (s_nr U) (s_fx U) (bgP (s_f U) (s_n U) fk fn (s_mp U) (s_ml U) np) (bgL (s_f U) (s_n U) fk fn (s_mp U) (s_ml U) np) (bgC (s_f U) (s_n U) fk fn (s_cx U) np) (s_xi U)) (prL g (mixA ad bd) N (s_n V) (s_nd V) (s_bg V) (s_f V) (s_fc V) (s_fs V) (s_r0 V) (s_t0 V) (s_f0 V) (s_r1 V) (s_t1 V) (s_f1 V) (s_nr V) (s_fx V) (bgP (s_f V) (s_n V) fk fn (s_mp V) (s_ml V) np) (bgL (s_f V) (s_n V) fk fn (s_mp V) (s_ml V) np) (bgC (s_f V) (s_n V) fk fn (s_cx V) np) (s_xi V)) (exL g ad bd code cp en no ou wl wh rl rh)).symm
        refine W.eq (g2 := F0 m 57 ls []) rfl ?_
        refine lv_iload_n hx hb dX10_predictor_57 rfl (lv_at hl 0 rfl) ?_
        exact e_iret C hQ () hT rfl dX10_predictor_58
      · skip
        exact absurd (b01_t h_3) (by rw [hb0, hb1]; decide)
  · skip
    exact absurd (b01_f h_1) (by rw [hal]; decide)

set_option maxHeartbeats 400000 in
set_option maxRecDepth 100000 in
theorem c_X10_predictor (l : Launch) (g : GT) (ad : Nat → Nat) (bd : Nat → Nat) (np : Nat) (fk : Nat → Int32) (fn : Nat → Int32) (fo : Nat → Int32) (st : Nat → Int32) (N : Nat) (U : SSt) (V : SSt) (code : Int64) (cp : Nat) (en : Bool) (no : Nat) (ou : Nat → Int32) (wl : Int64) (wh : Int64) (rl : Int64) (rh : Int64) (rr : Nat) (kd : Int32) (nn : Int32) (hG : GI st N rr np fk fn) (hU : SI N U) (hV : SI N V) (hal : allowB kd nn = true) (h8 : np < 8) (hen : en = false) (hb0 : s_n U = 0) (hb1 : s_bg U = 0) : OM (S := Unit) l g yX10_predictor cX10_predictor 4 (some .int) ({ frames := 4, cells := 0, slots := 0, locals := 92 } : Room) [.ref (bd 1), .int kd, .int nn] (cmL g ad bd np fk fn fo st N (s_n U) (s_nd U) (s_bg U) (s_f U) (s_fc U) (s_fs U) (s_r0 U) (s_t0 U) (s_f0 U) (s_r1 U) (s_t1 U) (s_f1 U) (s_nr U) (s_fx U) (s_mp U) (s_ml U) (s_cx U) (s_xi U) (s_n V) (s_nd V) (s_bg V) (s_f V) (s_fc V) (s_fs V) (s_r0 V) (s_t0 V) (s_f0 V) (s_r1 V) (s_t1 V) (s_f1 V) (s_nr V) (s_fx V) (s_mp V) (s_ml V) (s_cx V) (s_xi V) code cp en no ou wl wh rl rh) (fun _ => some (.int (nI np))) (fun _ => (cmL g ad bd (np + 1) (upd fk np kd) (upd fn np nn) fo st N (s_n U) (s_nd U) (s_bg U) (s_f U) (s_fc U) (s_fs U) (s_r0 U) (s_t0 U) (s_f0 U) (s_r1 U) (s_t1 U) (s_f1 U) (s_nr U) (s_fx U) (bgP (s_f U) (s_n U) (upd fk np kd) (upd fn np nn) (s_mp U) (s_ml U) (np + 1)) (bgL (s_f U) (s_n U) (upd fk np kd) (upd fn np nn) (s_mp U) (s_ml U) (np + 1)) (bgC (s_f U) (s_n U) (upd fk np kd) (upd fn np nn) (s_cx U) (np + 1)) (s_xi U) (s_n V) (s_nd V) (s_bg V) (s_f V) (s_fc V) (s_fs V) (s_r0 V) (s_t0 V) (s_f0 V) (s_r1 V) (s_t1 V) (s_f1 V) (s_nr V) (s_fx V) (bgP (s_f V) (s_n V) (upd fk np kd) (upd fn np nn) (s_mp V) (s_ml V) (np + 1)) (bgL (s_f V) (s_n V) (upd fk np kd) (upd fn np nn) (s_mp V) (s_ml V) (np + 1)) (bgC (s_f V) (s_n V) (upd fk np kd) (upd fn np nn) (s_cx V) (np + 1)) (s_xi V) code cp en no ou wl wh rl rh)) := by
  refine OM.startQ (by decide) (Nat.le_of_ble_eq_true rfl) ?_
  intro p e s m below meth c A ls Q H locs hQ C hnm hl hT
  have hx := C.x
  have hb := C.b
  have hl : lv_has ls 4 [(0, .ref (bd 1)), (1, .int kd), (2, .int nn)] := hl
  refine lv_iload_n hx hb dX10_predictor_0 rfl (lv_at hl 1 rfl) ?_
  refine lv_iload_n hx hb dX10_predictor_1 rfl (lv_at hl 2 rfl) ?_
  have hM := c_X7_allows l g kd nn
  refine r_callRO (js := []) C hT (runS (js := []) (rm := ({ frames := 0, cells := 0, slots := 0, locals := 0 } : Room)) (As := [.int kd, .int nn]) (n := 2) (rest := []) C hT hM rfl rfl k288 k289 k4 k290 (by decide +kernel) rfl rfl (Nat.le_of_ble_eq_true rfl) hl.1 ⟨Nat.le_of_ble_eq_true rfl, Nat.le_of_ble_eq_true rfl⟩ ⟨Nat.le_of_ble_eq_true rfl, Nat.le_of_ble_eq_true rfl⟩ dX10_predictor_2) rfl rfl (fun u H locs hT => ?_)
  refine W.eq (g2 := F0 m 5 ls [.int (b01 (allowB kd nn))]) rfl ?_
  refine lv_if_ne (tgt := 10) hx hb dX10_predictor_5 (by decide) (fun h_1 => ?_) (fun h_1 => ?_)
  · skip
    refine lv_aload_n hx hb dX10_predictor_10 rfl (lv_at hl 0 rfl) ?_
    refine gX10_60 C hT (q0 := 52) rfl dX10_predictor_11 ?_
    refine lv_if_ne (tgt := 30) hx hb dX10_predictor_14 (by decide) (fun h_2 => ?_) (fun h_2 => ?_)
    · skip
      exact absurd (b01_t h_2) (by rw [hen]; decide)
    · skip
      refine lv_aload_n hx hb dX10_predictor_17 rfl (lv_at hl 0 rfl) ?_
      refine gX10_32 C hT (q0 := 52) rfl dX10_predictor_18 ?_
      refine gX10_64 C hT (q0 := 0) rfl dX10_predictor_21 ?_
      have hM := c_X2_begun l g (ad 7) (ad 8) (s_n U) (s_nd U) (s_bg U) (by omega) (by omega)
      refine r_callRO (js := [7]) C hT (runV (js := [7]) (rm := ({ frames := 0, cells := 0, slots := 0, locals := 0 } : Room)) (As := []) (n := 0) (q1 := 0) (rest := []) C hT hM rfl rfl k291 k292 k293 k6 k294 (by decide +kernel) rfl rfl rfl rfl (Nat.le_of_ble_eq_true rfl) hl.1 ⟨Nat.le_of_ble_eq_true rfl, Nat.le_of_ble_eq_true rfl⟩ ⟨Nat.le_of_ble_eq_true rfl, Nat.le_of_ble_eq_true rfl⟩ dX10_predictor_24) rfl rfl (fun u H locs hT => ?_)
      refine W.eq (g2 := F0 m 27 ls [.int (b01 (decide (0 < (s_n U)) || decide (0 < (s_bg U))))]) rfl ?_
      refine lv_if_eq (tgt := 33) hx hb dX10_predictor_27 (by decide) (fun h_3 => ?_) (fun h_3 => ?_)
      · skip
        refine lv_aload_n hx hb dX10_predictor_33 rfl (lv_at hl 0 rfl) ?_
        refine gX10_23 C hT (q0 := 52) rfl dX10_predictor_34 ?_
        refine lv_iload_n hx hb dX10_predictor_37 rfl (lv_at hl 1 rfl) ?_
        refine lv_iload_n hx hb dX10_predictor_38 rfl (lv_at hl 2 rfl) ?_
        have hM := c_X7_add l g (ad 1) (ad 2) (ad 3) (ad 4) np fk fn fo kd nn h8
        refine r_call0 (js := [1, 2, 3, 4]) C hT (runV (js := [1, 2, 3, 4]) (rm := ({ frames := 0, cells := 0, slots := 0, locals := 0 } : Room)) (As := [.int kd, .int nn]) (n := 2) (q1 := 0) (rest := []) C hT hM rfl rfl k295 k296 k297 k4 k298 (by decide +kernel) rfl rfl rfl rfl (Nat.le_of_ble_eq_true rfl) hl.1 ⟨Nat.le_of_ble_eq_true rfl, Nat.le_of_ble_eq_true rfl⟩ ⟨Nat.le_of_ble_eq_true rfl, Nat.le_of_ble_eq_true rfl⟩ dX10_predictor_39) rfl rfl (fun _ => by simp only [List.map_cons, List.map_nil]) (fun u H locs hT => ?_)
        have hT : Wd g A s (cmL g ad bd (np + 1) (upd fk np kd) (upd fn np nn) fo st N (s_n U) (s_nd U) (s_bg U) (s_f U) (s_fc U) (s_fs U) (s_r0 U) (s_t0 U) (s_f0 U) (s_r1 U) (s_t1 U) (s_f1 U) (s_nr U) (s_fx U) (s_mp U) (s_ml U) (s_cx U) (s_xi U) (s_n V) (s_nd V) (s_bg V) (s_f V) (s_fc V) (s_fs V) (s_r0 V) (s_t0 V) (s_f0 V) (s_r1 V) (s_t1 V) (s_f1 V) (s_nr V) (s_fx V) (s_mp V) (s_ml V) (s_cx V) (s_xi V) code cp en no ou wl wh rl rh) H locs := hT
        refine W.eq (g2 := F0 m 42 ls [.int (nI np)]) rfl ?_
        refine lv_istore_n (lv' := [(3, .int (nI np)), (0, .ref (bd 1)), (1, .int kd), (2, .int nn)]) hx hb dX10_predictor_42 rfl hl (by decide) rfl (fun ls hl => ?_)
        refine lv_aload_n hx hb dX10_predictor_43 rfl (lv_at hl 1 rfl) ?_
        refine gX10_32 C hT (q0 := 52) rfl dX10_predictor_44 ?_
        have hM := c_X8_beginByte l g ad (np + 1) (upd fk np kd) (upd fn np nn) fo st (s_n U) (s_nd U) (s_bg U) (s_f U) N (s_fc U) (s_fs U) (s_r0 U) (s_t0 U) (s_f0 U) (s_r1 U) (s_t1 U) (s_f1 U) (s_nr U) (s_fx U) (s_mp U) (s_ml U) (s_cx U) (s_xi U) (by omega) hU.1 (hal_s hG.2.2.2.1 hal) hU.2.2.2.2.2.1 hU.2.2.2.2.2.2
        have hT2 := hT.perm (perm_w (obC ad) (shL g ad (np + 1) (upd fk np kd) (upd fn np nn) fo st) (prL g ad N (s_n U) (s_nd U) (s_bg U) (s_f U) (s_fc U) (s_fs U) (s_r0 U) (s_t0 U) (s_f0 U) (s_r1 U) (s_t1 U) (s_f1 U) (s_nr U) (s_fx U) (s_mp U) (s_ml U) (s_cx U) (s_xi U)) (obC (mixA ad bd) :: (prL g (mixA ad bd) N (s_n V) (s_nd V) (s_bg V) (s_f V) (s_fc V) (s_fs V) (s_r0 V) (s_t0 V) (s_f0 V) (s_r1 V) (s_t1 V) (s_f1 V) (s_nr V) (s_fx V) (s_mp V) (s_ml V) (s_cx V) (s_xi V) ++ exL g ad bd code cp en no ou wl wh rl rh)))
        refine r_callP (lc := sideL g ad (np + 1) (upd fk np kd) (upd fn np nn) fo st (s_n U) (s_nd U) (s_bg U) (s_f U) N (s_fc U) (s_fs U) (s_r0 U) (s_t0 U) (s_f0 U) (s_r1 U) (s_t1 U) (s_f1 U) (s_nr U) (s_fx U) (s_mp U) (s_ml U) (s_cx U) (s_xi U)) (B := (obC (mixA ad bd) :: (prL g (mixA ad bd) N (s_n V) (s_nd V) (s_bg V) (s_f V) (s_fc V) (s_fs V) (s_r0 V) (s_t0 V) (s_f0 V) (s_r1 V) (s_t1 V) (s_f1 V) (s_nr V) (s_fx V) (s_mp V) (s_ml V) (s_cx V) (s_xi V) ++ exL g ad bd code cp en no ou wl wh rl rh))) (rm := ({ frames := 3, cells := 0, slots := 0, locals := 69 } : Room)) (As := []) (n := 0) (q1 := 0) (rest := []) C hT2 hM k299 k300 k301 k5 k302 (by decide +kernel) rfl rfl rfl rfl (Nat.le_of_ble_eq_true rfl) hl.1 ⟨Nat.le_of_ble_eq_true rfl, Nat.le_of_ble_eq_true rfl⟩ ⟨Nat.le_of_ble_eq_true rfl, Nat.le_of_ble_eq_true rfl⟩ dX10_predictor_47 (fun _ => sideL_fst.trans sideL_fst.symm) (fun u H locs hT => ?_)
        have hT : Wd g A s (cmL g ad bd (np + 1) (upd fk np kd) (upd fn np nn) fo st N (s_n U) (s_nd U) (s_bg U) (s_f U) (s_fc U) (s_fs U) (s_r0 U) (s_t0 U) (s_f0 U) (s_r1 U) (s_t1 U) (s_f1 U) (s_nr U) (s_fx U) (bgP (s_f U) (s_n U) (upd fk np kd) (upd fn np nn) (s_mp U) (s_ml U) (np + 1)) (bgL (s_f U) (s_n U) (upd fk np kd) (upd fn np nn) (s_mp U) (s_ml U) (np + 1)) (bgC (s_f U) (s_n U) (upd fk np kd) (upd fn np nn) (s_cx U) (np + 1)) (s_xi U) (s_n V) (s_nd V) (s_bg V) (s_f V) (s_fc V) (s_fs V) (s_r0 V) (s_t0 V) (s_f0 V) (s_r1 V) (s_t1 V) (s_f1 V) (s_nr V) (s_fx V) (s_mp V) (s_ml V) (s_cx V) (s_xi V) code cp en no ou wl wh rl rh) H locs := hT.perm (perm_w (obC ad) (shL g ad (np + 1) (upd fk np kd) (upd fn np nn) fo st) (prL g ad N (s_n U) (s_nd U) (s_bg U) (s_f U) (s_fc U) (s_fs U) (s_r0 U) (s_t0 U) (s_f0 U) (s_r1 U) (s_t1 U) (s_f1 U) (s_nr U) (s_fx U) (bgP (s_f U) (s_n U) (upd fk np kd) (upd fn np nn) (s_mp U) (s_ml U) (np + 1)) (bgL (s_f U) (s_n U) (upd fk np kd) (upd fn np nn) (s_mp U) (s_ml U) (np + 1)) (bgC (s_f U) (s_n U) (upd fk np kd) (upd fn np nn) (s_cx U) (np + 1)) (s_xi U)) (obC (mixA ad bd) :: (prL g (mixA ad bd) N (s_n V) (s_nd V) (s_bg V) (s_f V) (s_fc V) (s_fs V) (s_r0 V) (s_t0 V) (s_f0 V) (s_r1 V) (s_t1 V) (s_f1 V) (s_nr V) (s_fx V) (s_mp V) (s_ml V) (s_cx V) (s_xi V) ++ exL g ad bd code cp en no ou wl wh rl rh))).symm
        refine W.eq (g2 := F0 m 50 ls []) rfl ?_
        refine lv_aload_n hx hb dX10_predictor_50 rfl (lv_at hl 1 rfl) ?_
        refine gX10_36 C hT (q0 := 52) rfl dX10_predictor_51 ?_
        have hM := c_X8_beginByte l g (mixA ad bd) (np + 1) (upd fk np kd) (upd fn np nn) fo st (s_n V) (s_nd V) (s_bg V) (s_f V) N (s_fc V) (s_fs V) (s_r0 V) (s_t0 V) (s_f0 V) (s_r1 V) (s_t1 V) (s_f1 V) (s_nr V) (s_fx V) (s_mp V) (s_ml V) (s_cx V) (s_xi V) (by omega) hV.1 (hal_s hG.2.2.2.1 hal) hV.2.2.2.2.2.1 hV.2.2.2.2.2.2
        have hT2 := hT.perm (perm_r (obC ad) (obC (mixA ad bd)) (shL g ad (np + 1) (upd fk np kd) (upd fn np nn) fo st) (prL g ad N (s_n U) (s_nd U) (s_bg U) (s_f U) (s_fc U) (s_fs U) (s_r0 U) (s_t0 U) (s_f0 U) (s_r1 U) (s_t1 U) (s_f1 U) (s_nr U) (s_fx U) (bgP (s_f U) (s_n U) (upd fk np kd) (upd fn np nn) (s_mp U) (s_ml U) (np + 1)) (bgL (s_f U) (s_n U) (upd fk np kd) (upd fn np nn) (s_mp U) (s_ml U) (np + 1)) (bgC (s_f U) (s_n U) (upd fk np kd) (upd fn np nn) (s_cx U) (np + 1)) (s_xi U)) (prL g (mixA ad bd) N (s_n V) (s_nd V) (s_bg V) (s_f V) (s_fc V) (s_fs V) (s_r0 V) (s_t0 V) (s_f0 V) (s_r1 V) (s_t1 V) (s_f1 V) (s_nr V) (s_fx V) (s_mp V) (s_ml V) (s_cx V) (s_xi V)) (exL g ad bd code cp en no ou wl wh rl rh))
        refine r_callP (lc := sideL g (mixA ad bd) (np + 1) (upd fk np kd) (upd fn np nn) fo st (s_n V) (s_nd V) (s_bg V) (s_f V) N (s_fc V) (s_fs V) (s_r0 V) (s_t0 V) (s_f0 V) (s_r1 V) (s_t1 V) (s_f1 V) (s_nr V) (s_fx V) (s_mp V) (s_ml V) (s_cx V) (s_xi V)) (B := (obC ad :: (prL g ad N (s_n U) (s_nd U) (s_bg U) (s_f U) (s_fc U) (s_fs U) (s_r0 U) (s_t0 U) (s_f0 U) (s_r1 U) (s_t1 U) (s_f1 U) (s_nr U) (s_fx U) (bgP (s_f U) (s_n U) (upd fk np kd) (upd fn np nn) (s_mp U) (s_ml U) (np + 1)) (bgL (s_f U) (s_n U) (upd fk np kd) (upd fn np nn) (s_mp U) (s_ml U) (np + 1)) (bgC (s_f U) (s_n U) (upd fk np kd) (upd fn np nn) (s_cx U) (np + 1)) (s_xi U) ++ exL g ad bd code cp en no ou wl wh rl rh))) (rm := ({ frames := 3, cells := 0, slots := 0, locals := 69 } : Room)) (As := []) (n := 0) (q1 := 0) (rest := []) C hT2 hM k299 k300 k301 k5 k302 (by decide +kernel) rfl rfl rfl rfl (Nat.le_of_ble_eq_true rfl) hl.1 ⟨Nat.le_of_ble_eq_true rfl, Nat.le_of_ble_eq_true rfl⟩ ⟨Nat.le_of_ble_eq_true rfl, Nat.le_of_ble_eq_true rfl⟩ dX10_predictor_54 (fun _ => sideL_fst.trans sideL_fst.symm) (fun u H locs hT => ?_)
        have hT : Wd g A s (cmL g ad bd (np + 1) (upd fk np kd) (upd fn np nn) fo st N (s_n U) (s_nd U) (s_bg U) (s_f U) (s_fc U) (s_fs U) (s_r0 U) (s_t0 U) (s_f0 U) (s_r1 U) (s_t1 U) (s_f1 U) (s_nr U) (s_fx U) (bgP (s_f U) (s_n U) (upd fk np kd) (upd fn np nn) (s_mp U) (s_ml U) (np + 1)) (bgL (s_f U) (s_n U) (upd fk np kd) (upd fn np nn) (s_mp U) (s_ml U) (np + 1)) (bgC (s_f U) (s_n U) (upd fk np kd) (upd fn np nn) (s_cx U) (np + 1)) (s_xi U) (s_n V) (s_nd V) (s_bg V) (s_f V) (s_fc V) (s_fs V) (s_r0 V) (s_t0 V) (s_f0 V) (s_r1 V) (s_t1 V) (s_f1 V) (s_nr V) (s_fx V) (bgP (s_f V) (s_n V) (upd fk np kd) (upd fn np nn) (s_mp V) (s_ml V) (np + 1)) (bgL (s_f V) (s_n V) (upd fk np kd) (upd fn np nn) (s_mp V) (s_ml V) (np + 1)) (bgC (s_f V) (s_n V) (upd fk np kd) (upd fn np nn) (s_cx V) (np + 1)) (s_xi V) code cp en no ou wl wh rl rh) H locs := hT.perm (perm_r (obC ad) (obC (mixA ad bd)) (shL g ad (np + 1) (upd fk np kd) (upd fn np nn) fo st) (prL g ad N (s_n U) (s_nd U) (s_bg U) (s_f U) (s_fc U) (s_fs U) (s_r0 U) (s_t0 U) (s_f0 U) (s_r1 U) (s_t1 U) (s_f1 U) (s_nr U) (s_fx U) (bgP (s_f U) (s_n U) (upd fk np kd) (upd fn np nn) (s_mp U) (s_ml U) (np + 1)) (bgL (s_f U) (s_n U) (upd fk np kd) (upd fn np nn) (s_mp U) (s_ml U) (np + 1)) (bgC (s_f U) (s_n U) (upd fk np kd) (upd fn np nn) (s_cx U) (np + 1)) (s_xi U)) (prL g (mixA ad bd) N (s_n V) (s_nd V) (s_bg V) (s_f V) (s_fc V) (s_fs V) (s_r0 V) (s_t0 V) (s_f0 V) (s_r1 V) (s_t1 V) (s_f1 V) (s_nr V) (s_fx V) (bgP (s_f V) (s_n V) (upd fk np kd) (upd fn np nn) (s_mp V) (s_ml V) (np + 1)) (bgL (s_f V) (s_n V) (upd fk np kd) (upd fn np nn) (s_mp V) (s_ml V) (np + 1)) (bgC (s_f V) (s_n V) (upd fk np kd) (upd fn np nn) (s_cx V) (np + 1)) (s_xi V)) (exL g ad bd code cp en no ou wl wh rl rh)).symm
        refine W.eq (g2 := F0 m 57 ls []) rfl ?_
        refine lv_iload_n hx hb dX10_predictor_57 rfl (lv_at hl 0 rfl) ?_
        exact e_iret C hQ () hT rfl dX10_predictor_58
      · skip
        exact absurd (b01_t h_3) (by rw [hb0, hb1]; decide)
  · skip
    exact absurd (b01_f h_1) (by rw [hal]; decide)
