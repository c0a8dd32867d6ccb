set_option maxHeartbeats 400000 in
set_option maxRecDepth 100000 in
theorem c_X11_writeBit (l : Launch) (g : GT) (mo : Nat → Nat) (rr : Nat) (th : Int32) (np : Nat) (no : Nat) (bt : Nat) (en : Bool) (xx : Int64) (ra : Nat) (t0 : Int32) (t1 : Int32) (s1 : Int32) (ca : Int32) (cq : Int32) (ch : Int32) (st : Nat → Int32) (fk : Nat → Int32) (fn : Nat → Int32) (fo : Nat → Int32) (bb : Nat → Int32) (wt : Nat → Int32) (nx : Nat → Int32) (cx : Nat → Int32) (pt : Nat → Int32) (le : Nat → Int32) (sc : Nat → Int32) (ss : Nat → Int32) (ww : Nat → Int32) (xc : Nat → Int32) (lo : Nat → Int64) (hi : Nat → Int64) (ou : Nat → Int32) (xi : Nat → Int32) (N : Nat) (U : SSt) (on : Int32) (hG : GI st N rr np fk fn) (hRS : RS 0 N np fk U bb wt nx cx pt le sc ss ww xc) (hX : SX N np fk U) (hCI : CI (lo 0) (hi 0)) (hon : on = 0 ∨ on = 1) (hnl : s_n U < 2000) (hno : no + 4 ≤ 3200) (hbt : bt ≤ 8) : OM (S := {zq : (Nat → Int64) × (Nat → Int64) × (Nat) × (Nat → Int32) × (Nat → Int32) × (Nat → Int32) × (Nat → Int32) × (Nat → Int32) × (Nat → Int32) × (Nat → Int32) × (Nat → Int32) × (Nat → Int32) × (Nat → Int32) × (Nat → Int32) × (Int32) × (Int32) × (Int32) × (Int32) × (Int32) × (Int32) × (Nat → Int32) // (RS 0 N np fk (stepS st N np fk fn fo U on) zq.2.2.2.2.1 zq.2.2.2.2.2.1 zq.2.2.2.2.2.2.1 zq.2.2.2.2.2.2.2.1 zq.2.2.2.2.2.2.2.2.1 zq.2.2.2.2.2.2.2.2.2.1 zq.2.2.2.2.2.2.2.2.2.2.1 zq.2.2.2.2.2.2.2.2.2.2.2.1 zq.2.2.2.2.2.2.2.2.2.2.2.2.1 zq.2.2.2.2.2.2.2.2.2.2.2.2.2.1) ∧ (∀ s2 V, s2 < 2 → ¬ s2 = 0 → RS s2 N np fk V bb wt nx cx pt le sc ss ww xc → RS s2 N np fk V zq.2.2.2.2.1 zq.2.2.2.2.2.1 zq.2.2.2.2.2.2.1 zq.2.2.2.2.2.2.2.1 zq.2.2.2.2.2.2.2.2.1 zq.2.2.2.2.2.2.2.2.2.1 zq.2.2.2.2.2.2.2.2.2.2.1 zq.2.2.2.2.2.2.2.2.2.2.2.1 zq.2.2.2.2.2.2.2.2.2.2.2.2.1 zq.2.2.2.2.2.2.2.2.2.2.2.2.2.1) ∧ (zq.2.2.1 = (emF 4 (nLo on (lo 0) (mdS st N np fk fo U (lo 0) (hi 0))) (nHi on (hi 0) (mdS st N np fk fo U (lo 0) (hi 0))) no ou).2.2.1) ∧ (zq.2.2.2.1 = (emF 4 (nLo on (lo 0) (mdS st N np fk fo U (lo 0) (hi 0))) (nHi on (hi 0) (mdS st N np fk fo U (lo 0) (hi 0))) no ou).2.2.2) ∧ (zq.1 0 = (emF 4 (nLo on (lo 0) (mdS st N np fk fo U (lo 0) (hi 0))) (nHi on (hi 0) (mdS st N np fk fo U (lo 0) (hi 0))) no ou).1 ∧ zq.1 1 = lo 1) ∧ (zq.2.1 0 = (emF 4 (nLo on (lo 0) (mdS st N np fk fo U (lo 0) (hi 0))) (nHi on (hi 0) (mdS st N np fk fo U (lo 0) (hi 0))) no ou).2.1 ∧ zq.2.1 1 = hi 1)}) l g yX11_writeBit cX11_writeBit 4 none ({ frames := 4, cells := 0, slots := 0, locals := 101 } : Room) [.ref (mo 0), .int on] (mdL g mo rr th np no bt en xx ra t0 t1 s1 ca cq ch st fk fn fo bb wt nx cx pt le sc ss ww xc lo hi ou xi) (fun _ => none) (fun zu => (mdL g mo rr th np zu.1.2.2.1 ((bt + 1) % 8) en xx ra zu.1.2.2.2.2.2.2.2.2.2.2.2.2.2.2.1 zu.1.2.2.2.2.2.2.2.2.2.2.2.2.2.2.2.1 zu.1.2.2.2.2.2.2.2.2.2.2.2.2.2.2.2.2.1 zu.1.2.2.2.2.2.2.2.2.2.2.2.2.2.2.2.2.2.1 zu.1.2.2.2.2.2.2.2.2.2.2.2.2.2.2.2.2.2.2.1 zu.1.2.2.2.2.2.2.2.2.2.2.2.2.2.2.2.2.2.2.2.1 st fk fn fo zu.1.2.2.2.2.1 zu.1.2.2.2.2.2.1 zu.1.2.2.2.2.2.2.1 zu.1.2.2.2.2.2.2.2.1 zu.1.2.2.2.2.2.2.2.2.1 zu.1.2.2.2.2.2.2.2.2.2.1 zu.1.2.2.2.2.2.2.2.2.2.2.1 zu.1.2.2.2.2.2.2.2.2.2.2.2.1 zu.1.2.2.2.2.2.2.2.2.2.2.2.2.1 zu.1.2.2.2.2.2.2.2.2.2.2.2.2.2.1 zu.1.1 zu.1.2.1 zu.1.2.2.2.1 zu.1.2.2.2.2.2.2.2.2.2.2.2.2.2.2.2.2.2.2.2.2)) := by
  refine OM.startQ (by decide) (Nat.le_of_ble_eq_true rfl) ?_
  intro p e s m below meth c A ls Q H locs hQ C hnm hl hT
  have hx := C.x
  have hb := C.b
  have hl : lv_has ls 4 [(0, .ref (mo 0)), (1, .int on)] := hl
  have hch := chS_n st N np fk fo U
  refine lv_aload_n hx hb dX11_writeBit_0 rfl (lv_at hl 0 rfl) ?_
  refine lv_iconst (v := 0) hx hb dX11_writeBit_1 (by decide) ?_
  refine W.eq (g2 := F0 m 2 ls [.int (nI 0), .ref (mo 0)]) (congrArg (fun z => F0 m 2 ls (.int z :: [.ref (mo 0)])) (rfl)) ?_
  have hM := c_X11_work l g mo rr th np no bt en xx ra t0 t1 s1 ca cq ch st fk fn fo bb wt nx cx pt le sc ss ww xc lo hi ou xi 0 N U (by decide) hG hRS hX
  refine r_callW C hT (runVW (rm := ({ frames := 3, cells := 0, slots := 0, locals := 70 } : Room)) (As := [.int (nI 0)]) (n := 1) (q1 := 0) (rest := []) C hT hM k911 k913 s20 k15 k914 (by decide +kernel) rfl rfl rfl rfl (Nat.le_of_ble_eq_true rfl) hl.1 ⟨Nat.le_of_ble_eq_true rfl, Nat.le_of_ble_eq_true rfl⟩ ⟨Nat.le_of_ble_eq_true rfl, Nat.le_of_ble_eq_true rfl⟩ dX11_writeBit_2) (fun u H locs hT => ?_)
  have hT : Wd g A s (mdL g mo rr th np no bt en xx ra (t0S st N np fk fo U) (t1S st N np fk fo U) (nI (lbN (s_f U) (s_n U))) (nI (8448 * 0 + 33 * s_nd U + tN st (mxS st N np fk fo U) / 128)) (nI (tN st (mxS st N np fk fo U) % 128)) (chS st N np fk fo U) st fk fn fo bb wt nx cx pt le sc ss ww xc lo hi ou (setTo (inQ st N np fk fo U) xi (np + 1))) H locs := hT
  refine W.eq (g2 := F0 m 5 ls []) rfl ?_
  refine lv_aload_n hx hb dX11_writeBit_5 rfl (lv_at hl 0 rfl) ?_
  refine gX11_53 C hT (q0 := 0) rfl dX11_writeBit_6 ?_
  refine lv_iconst (v := 0) hx hb dX11_writeBit_9 (by decide) ?_
  refine r_lald C hT (q0 := 15) rfl 0 rfl (by decide) (by decide) dX11_writeBit_10 ?_
  refine lv_aload_n hx hb dX11_writeBit_11 rfl (lv_at hl 0 rfl) ?_
  refine gX11_57 C hT (q0 := 0) rfl dX11_writeBit_12 ?_
  refine lv_iconst (v := 0) hx hb dX11_writeBit_15 (by decide) ?_
  refine r_lald C hT (q0 := 16) rfl 0 rfl (by decide) (by decide) dX11_writeBit_16 ?_
  refine lv_aload_n hx hb dX11_writeBit_17 rfl (lv_at hl 0 rfl) ?_
  refine gX11_53 C hT (q0 := 0) rfl dX11_writeBit_18 ?_
  refine lv_iconst (v := 0) hx hb dX11_writeBit_21 (by decide) ?_
  refine r_lald C hT (q0 := 15) rfl 0 rfl (by decide) (by decide) dX11_writeBit_22 ?_
  refine lv_lsub hx hb dX11_writeBit_23 ?_
  refine lv_ldc2 (v := 4096) hx hb C.ow (C.ts _ k936) dX11_writeBit_24 ?_
  refine lv_ldiv hx hb dX11_writeBit_27 (by decide) ?_
  refine lv_aload_n hx hb dX11_writeBit_28 rfl (lv_at hl 0 rfl) ?_
  refine gX11_170 C hT (q0 := 0) rfl dX11_writeBit_29 ?_
  refine lv_i2l hx hb dX11_writeBit_32 rfl ?_
  refine lv_lmul hx hb dX11_writeBit_33 ?_
  refine lv_ladd hx hb dX11_writeBit_34 ?_
  refine W.eq (g2 := F0 m 35 ls [.long (mdS st N np fk fo U (lo 0) (hi 0))]) (congrArg (fun z => F0 m 35 ls (.long z :: [])) (mid_R hCI hch)) ?_
  refine lv_lstore_n (lv' := [(2, .long (mdS st N np fk fo U (lo 0) (hi 0))), (0, .ref (mo 0)), (1, .int on)]) hx hb dX11_writeBit_35 rfl hl (by decide) rfl (fun ls hl => ?_)
  refine lv_iload_n hx hb dX11_writeBit_36 rfl (lv_at hl 2 rfl) ?_
  refine lv_iconst (v := 1) hx hb dX11_writeBit_37 (by decide) ?_
  refine lv_icmp_ne (tgt := 51) hx hb dX11_writeBit_38 (by decide) (fun h_1 => ?_) (fun h_1 => ?_)
  · skip
    have hon0 : on = 0 := by rcases hon with q | q; exact q; exact absurd q h_1
    have hi0 : vp_updL lo 0 (mdS st N np fk fo U (lo 0) (hi 0) + 1) 0 = nLo on (lo 0) (mdS st N np fk fo U (lo 0) (hi 0)) := by rw [pk_uLs, nLo, if_pos hon0]
    have hi2 : hi 0 = nHi on (hi 0) (mdS st N np fk fo U (lo 0) (hi 0)) := by rw [nHi, if_pos hon0]
    refine lv_aload_n hx hb dX11_writeBit_51 rfl (lv_at hl 1 rfl) ?_
    refine gX11_53 C hT (q0 := 0) rfl dX11_writeBit_52 ?_
    refine lv_iconst (v := 0) hx hb dX11_writeBit_55 (by decide) ?_
    refine lv_lload_n hx hb dX11_writeBit_56 rfl (lv_at hl 0 rfl) ?_
    refine lv_lconst (v := 1) hx hb dX11_writeBit_57 (by decide) ?_
    refine lv_ladd hx hb dX11_writeBit_58 ?_
    refine W.eq (g2 := F0 m 59 ls [.long (mdS st N np fk fo U (lo 0) (hi 0) + 1), .int 0, .ref (mo 15)]) (congrArg (fun z => F0 m 59 ls (.long z :: [.int 0, .ref (mo 15)])) (rfl)) ?_
    refine r_last C hT (q0 := 15) rfl 0 rfl (by decide) (by decide) dX11_writeBit_59 (fun H locs hT => ?_)
    have hT : Wd g A s (mdL g mo rr th np no bt en xx ra (t0S st N np fk fo U) (t1S st N np fk fo U) (nI (lbN (s_f U) (s_n U))) (nI (8448 * 0 + 33 * s_nd U + tN st (mxS st N np fk fo U) / 128)) (nI (tN st (mxS st N np fk fo U) % 128)) (chS st N np fk fo U) st fk fn fo bb wt nx cx pt le sc ss ww xc (vp_updL lo 0 (mdS st N np fk fo U (lo 0) (hi 0) + 1)) hi ou (setTo (inQ st N np fk fo U) xi (np + 1))) H locs := hT
    have loop_60 : ∀ (fu : Nat) (j : Nat) (a1 : Int64) (b1 : Int64) (lo1 : Nat → Int64) (hi1 : Nat → Int64) (no1 : Nat) (ou1 : Nat → Int32) (H : Heap) (locs : List Loc) (ls : Array Slot) (hj : j ≤ 4) (hl0 : lo1 0 = a1) (hl1 : lo1 1 = lo 1) (hh0 : hi1 0 = b1) (hh1 : hi1 1 = hi 1) (hCD : CD j a1 b1) (hno1 : no1 = no + j) (hE : emF (4 - j) a1 b1 no1 ou1 = emF 4 (nLo on (lo 0) (mdS st N np fk fo U (lo 0) (hi 0))) (nHi on (hi 0) (mdS st N np fk fo U (lo 0) (hi 0))) no ou), 4 - j < fu → Wd g A s (mdL g mo rr th np no1 bt en xx ra (t0S st N np fk fo U) (t1S st N np fk fo U) (nI (lbN (s_f U) (s_n U))) (nI (8448 * 0 + 33 * s_nd U + tN st (mxS st N np fk fo U) / 128)) (nI (tN st (mxS st N np fk fo U) % 128)) (chS st N np fk fo U) st fk fn fo bb wt nx cx pt le sc ss ww xc lo1 hi1 ou1 (setTo (inQ st N np fk fo U) xi (np + 1))) H locs → lv_has ls 4 [(0, .ref (mo 0)), (1, .int on), (2, .long (mdS st N np fk fo U (lo 0) (hi 0)))] → W p l e ({ frames := 4, cells := 0, slots := 0, locals := 101 } : Room) s m ([.ref (mo 0), .int on] : List Value).toArray below meth c H locs 0 0 Q (F0 m 60 ls []) := by
      intro fu
      induction fu with
      | zero => intro j a1 b1 lo1 hi1 no1 ou1 H locs ls hj hl0 hl1 hh0 hh1 hCD hno1 hE hm; exact absurd hm (Nat.not_lt_zero _)
      | succ fu ih =>
        intro j a1 b1 lo1 hi1 no1 ou1 H locs ls hj hl0 hl1 hh0 hh1 hCD hno1 hE hm hT hl
        refine lv_aload_n hx hb dX11_writeBit_60 rfl (lv_at hl 0 rfl) ?_
        refine gX11_53 C hT (q0 := 0) rfl dX11_writeBit_61 ?_
        refine lv_iconst (v := 0) hx hb dX11_writeBit_64 (by decide) ?_
        refine r_lald C hT (q0 := 15) rfl 0 rfl (by decide) (by decide) dX11_writeBit_65 ?_
        refine W.eq (g2 := F0 m 66 ls [.long a1]) (congrArg (fun z => F0 m 66 ls (.long z :: [])) (hl0)) ?_
        refine lv_bipush (v := 24) hx hb dX11_writeBit_66 (by decide) ?_
        refine lv_lshr hx hb dX11_writeBit_68 rfl ?_
        refine lv_aload_n hx hb dX11_writeBit_69 rfl (lv_at hl 0 rfl) ?_
        refine gX11_57 C hT (q0 := 0) rfl dX11_writeBit_70 ?_
        refine lv_iconst (v := 0) hx hb dX11_writeBit_73 (by decide) ?_
        refine r_lald C hT (q0 := 16) rfl 0 rfl (by decide) (by decide) dX11_writeBit_74 ?_
        refine W.eq (g2 := F0 m 75 ls [.long b1, .long (a1 >>> ((24 : Int32).toInt64 &&& 63))]) (congrArg (fun z => F0 m 75 ls (.long z :: [.long (a1 >>> ((24 : Int32).toInt64 &&& 63))])) (hh0)) ?_
        refine lv_bipush (v := 24) hx hb dX11_writeBit_75 (by decide) ?_
        refine lv_lshr hx hb dX11_writeBit_77 rfl ?_
        refine W.lcmp hx hb dX11_writeBit_78 ?_
        refine lv_if_ne (tgt := 156) hx hb dX11_writeBit_79 (by decide) (fun h_2 => ?_) (fun h_2 => ?_)
        · skip
          have h_2 : ¬ a1 >>> ((24 : Int32).toInt64 &&& 63) = b1 >>> ((24 : Int32).toInt64 &&& 63) := fun q => h_2 ((lg_cmp_eq _ _).mpr q)
          have hset : setB a1 b1 = false := decide_eq_false h_2
          have hend := (emF_n (k := 4 - j) (no := no1) (ou := ou1) hset).symm.trans hE
          have hf1 : no1 = (emF 4 (nLo on (lo 0) (mdS st N np fk fo U (lo 0) (hi 0))) (nHi on (hi 0) (mdS st N np fk fo U (lo 0) (hi 0))) no ou).2.2.1 := by rw [← hend]
          have hf2 : ou1 = (emF 4 (nLo on (lo 0) (mdS st N np fk fo U (lo 0) (hi 0))) (nHi on (hi 0) (mdS st N np fk fo U (lo 0) (hi 0))) no ou).2.2.2 := by rw [← hend]
          have hf3 : lo1 0 = (emF 4 (nLo on (lo 0) (mdS st N np fk fo U (lo 0) (hi 0))) (nHi on (hi 0) (mdS st N np fk fo U (lo 0) (hi 0))) no ou).1 := by rw [← hend]; exact hl0
          have hf4 : hi1 0 = (emF 4 (nLo on (lo 0) (mdS st N np fk fo U (lo 0) (hi 0))) (nHi on (hi 0) (mdS st N np fk fo U (lo 0) (hi 0))) no ou).2.1 := by rw [← hend]; exact hh0
          refine lv_aload_n hx hb dX11_writeBit_156 rfl (lv_at hl 0 rfl) ?_
          refine lv_iconst (v := 0) hx hb dX11_writeBit_157 (by decide) ?_
          refine W.eq (g2 := F0 m 158 ls [.int (nI 0), .ref (mo 0)]) (congrArg (fun z => F0 m 158 ls (.int z :: [.ref (mo 0)])) (rfl)) ?_
          refine lv_iload_n hx hb dX11_writeBit_158 rfl (lv_at hl 1 rfl) ?_
          have hM := c_X11_learn l g mo rr th np no1 bt en xx ra (chS st N np fk fo U) st fk fn fo bb wt nx cx pt le sc ss ww xc lo1 hi1 ou1 (setTo (inQ st N np fk fo U) xi (np + 1)) 0 N U on (by decide) hG hRS hX (fun j hj => inQ_lt hj) inQ_np hon hnl
          refine r_callW C hT (runVW (rm := ({ frames := 3, cells := 0, slots := 0, locals := 73 } : Room)) (As := [.int (nI 0), .int on]) (n := 2) (q1 := 0) (rest := []) C hT hM k938 k940 s25 k15 k941 (by decide +kernel) rfl rfl rfl rfl (Nat.le_of_ble_eq_true rfl) hl.1 ⟨Nat.le_of_ble_eq_true rfl, Nat.le_of_ble_eq_true rfl⟩ ⟨Nat.le_of_ble_eq_true rfl, Nat.le_of_ble_eq_true rfl⟩ dX11_writeBit_159) (fun u H locs hT => ?_)
          obtain ⟨⟨bb2_159, wt2_159, nx2_159, cx2_159, pt2_159, le2_159, sc2_159, ss2_159, ww2_159, xc2_159⟩, hRS_159, hOT_159⟩ := u
          replace hRS_159 : RS 0 N np fk (stepS st N np fk fn fo U on) bb2_159 wt2_159 nx2_159 cx2_159 pt2_159 le2_159 sc2_159 ss2_159 ww2_159 xc2_159 := hRS_159
          replace hOT_159 : ∀ s2 V, s2 < 2 → ¬ s2 = 0 → RS s2 N np fk V bb wt nx cx pt le sc ss ww xc → RS s2 N np fk V bb2_159 wt2_159 nx2_159 cx2_159 pt2_159 le2_159 sc2_159 ss2_159 ww2_159 xc2_159 := hOT_159
          have hT : Wd g A s (mdL g mo rr th np no1 bt en xx ra (t0S st N np fk fo U) (t1S st N np fk fo U) (nI (lbN (s_f U) (s_n U))) (nI (8448 * 0 + 33 * s_nd U + tN st (mxS st N np fk fo U) / 128)) (nI (tN st (mxS st N np fk fo U) % 128)) (chS st N np fk fo U) st fk fn fo bb2_159 wt2_159 nx2_159 cx2_159 pt2_159 le2_159 sc2_159 ss2_159 ww2_159 xc2_159 lo1 hi1 ou1 (setTo (inQ st N np fk fo U) xi (np + 1))) H locs := hT
          refine W.eq (g2 := F0 m 162 ls []) rfl ?_
          refine lv_aload_n hx hb dX11_writeBit_162 rfl (lv_at hl 0 rfl) ?_
          refine lv_aload_n hx hb dX11_writeBit_163 rfl (lv_at hl 0 rfl) ?_
          refine gX11_107 C hT (q0 := 0) rfl dX11_writeBit_164 ?_
          refine lv_iconst (v := 1) hx hb dX11_writeBit_167 (by decide) ?_
          refine lv_iadd hx hb dX11_writeBit_168 ?_
          refine W.eq (g2 := F0 m 169 ls [.int (nI (bt + 1)), .ref (mo 0)]) (congrArg (fun z => F0 m 169 ls (.int z :: [.ref (mo 0)])) (nI_1 bt)) ?_
          refine lv_bipush (v := 8) hx hb dX11_writeBit_169 (by decide) ?_
          refine lv_irem hx hb dX11_writeBit_171 (by decide) ?_
          refine W.eq (g2 := F0 m 172 ls [.int (nI ((bt + 1) % 8)), .ref (mo 0)]) (congrArg (fun z => F0 m 172 ls (.int z :: [.ref (mo 0)])) (irem_n (t := 8) (by omega) (by decide) (by decide))) ?_
          refine pX11_107 C hT (q0 := 0) rfl dX11_writeBit_172 (fun H locs hT => ?_)
          have hT : Wd g A s (mdL g mo rr th np no1 ((bt + 1) % 8) en xx ra (t0S st N np fk fo U) (t1S st N np fk fo U) (nI (lbN (s_f U) (s_n U))) (nI (8448 * 0 + 33 * s_nd U + tN st (mxS st N np fk fo U) / 128)) (nI (tN st (mxS st N np fk fo U) % 128)) (chS st N np fk fo U) st fk fn fo bb2_159 wt2_159 nx2_159 cx2_159 pt2_159 le2_159 sc2_159 ss2_159 ww2_159 xc2_159 lo1 hi1 ou1 (setTo (inQ st N np fk fo U) xi (np + 1))) H locs := hT
          have hT : Wd g A s (mdL g mo rr th np no1 ((bt + 1) % 8) en xx ra (t0S st N np fk fo U) (t1S st N np fk fo U) (nI (lbN (s_f U) (s_n U))) (nI (8448 * 0 + 33 * s_nd U + tN st (mxS st N np fk fo U) / 128)) (nI (tN st (mxS st N np fk fo U) % 128)) (chS st N np fk fo U) st fk fn fo bb2_159 wt2_159 nx2_159 cx2_159 pt2_159 le2_159 sc2_159 ss2_159 ww2_159 xc2_159 lo1 hi1 ou1 (setTo (inQ st N np fk fo U) xi (np + 1))) H locs := hT
          generalize hzg_t02 : (t0S st N np fk fo U) = zg_t02 at hT
          generalize hzg_t12 : (t1S st N np fk fo U) = zg_t12 at hT
          generalize hzg_s12 : (nI (lbN (s_f U) (s_n U))) = zg_s12 at hT
          generalize hzg_ca2 : (nI (8448 * 0 + 33 * s_nd U + tN st (mxS st N np fk fo U) / 128)) = zg_ca2 at hT
          generalize hzg_cq2 : (nI (tN st (mxS st N np fk fo U) % 128)) = zg_cq2 at hT
          generalize hzg_ch2 : (chS st N np fk fo U) = zg_ch2 at hT
          generalize hzg_xi2 : (setTo (inQ st N np fk fo U) xi (np + 1)) = zg_xi2 at hT
          exact e_vret C hQ ⟨(lo1, hi1, no1, ou1, bb2_159, wt2_159, nx2_159, cx2_159, pt2_159, le2_159, sc2_159, ss2_159, ww2_159, xc2_159, zg_t02, zg_t12, zg_s12, zg_ca2, zg_cq2, zg_ch2, zg_xi2), hRS_159, hOT_159, hf1, hf2, ⟨hf3, hl1⟩, ⟨hf4, hh1⟩⟩ hT rfl dX11_writeBit_175
        · skip
          have h_2 : a1 >>> ((24 : Int32).toInt64 &&& 63) = b1 >>> ((24 : Int32).toInt64 &&& 63) := (lg_cmp_eq _ _).mp h_2
          have hset : setB a1 b1 = true := decide_eq_true h_2
          have hj4 := CD_lt hj hCD hset
          refine lv_aload_n hx hb dX11_writeBit_82 rfl (lv_at hl 0 rfl) ?_
          refine gX11_60 C hT (q0 := 0) rfl dX11_writeBit_83 ?_
          refine lv_aload_n hx hb dX11_writeBit_86 rfl (lv_at hl 0 rfl) ?_
          refine gX11_104 C hT (q0 := 0) rfl dX11_writeBit_87 ?_
          refine lv_aload_n hx hb dX11_writeBit_90 rfl (lv_at hl 0 rfl) ?_
          refine gX11_57 C hT (q0 := 0) rfl dX11_writeBit_91 ?_
          refine lv_iconst (v := 0) hx hb dX11_writeBit_94 (by decide) ?_
          refine r_lald C hT (q0 := 16) rfl 0 rfl (by decide) (by decide) dX11_writeBit_95 ?_
          refine W.eq (g2 := F0 m 96 ls [.long b1, .int (nI no1), .ref (mo 17)]) (congrArg (fun z => F0 m 96 ls (.long z :: [.int (nI no1), .ref (mo 17)])) (hh0)) ?_
          refine lv_bipush (v := 24) hx hb dX11_writeBit_96 (by decide) ?_
          refine lv_lshr hx hb dX11_writeBit_98 rfl ?_
          refine lv_l2i hx hb dX11_writeBit_99 rfl ?_
          refine W.eq (g2 := F0 m 100 ls [.int (topB a1), .int (nI no1), .ref (mo 17)]) (congrArg (fun z => F0 m 100 ls (.int z :: [.int (nI no1), .ref (mo 17)])) (top_R hCD hset)) ?_
          refine r_iast C hT (q0 := 17) rfl no1 rfl (by omega) (by decide) dX11_writeBit_100 (fun H locs hT => ?_)
          have hT : Wd g A s (mdL g mo rr th np no1 bt en xx ra (t0S st N np fk fo U) (t1S st N np fk fo U) (nI (lbN (s_f U) (s_n U))) (nI (8448 * 0 + 33 * s_nd U + tN st (mxS st N np fk fo U) / 128)) (nI (tN st (mxS st N np fk fo U) % 128)) (chS st N np fk fo U) st fk fn fo bb wt nx cx pt le sc ss ww xc lo1 hi1 (upd ou1 no1 (topB a1)) (setTo (inQ st N np fk fo U) xi (np + 1))) H locs := hT
          refine lv_aload_n hx hb dX11_writeBit_101 rfl (lv_at hl 0 rfl) ?_
          refine lv_dup hx hb dX11_writeBit_102 rfl ?_
          refine gX11_104 C hT (q0 := 0) rfl dX11_writeBit_103 ?_
          refine lv_iconst (v := 1) hx hb dX11_writeBit_106 (by decide) ?_
          refine lv_iadd hx hb dX11_writeBit_107 ?_
          refine W.eq (g2 := F0 m 108 ls [.int (nI (no1 + 1)), .ref (mo 0)]) (congrArg (fun z => F0 m 108 ls (.int z :: [.ref (mo 0)])) (nI_1 no1)) ?_
          refine pX11_104 C hT (q0 := 0) rfl dX11_writeBit_108 (fun H locs hT => ?_)
          have hT : Wd g A s (mdL g mo rr th np (no1 + 1) bt en xx ra (t0S st N np fk fo U) (t1S st N np fk fo U) (nI (lbN (s_f U) (s_n U))) (nI (8448 * 0 + 33 * s_nd U + tN st (mxS st N np fk fo U) / 128)) (nI (tN st (mxS st N np fk fo U) % 128)) (chS st N np fk fo U) st fk fn fo bb wt nx cx pt le sc ss ww xc lo1 hi1 (upd ou1 no1 (topB a1)) (setTo (inQ st N np fk fo U) xi (np + 1))) H locs := hT
          refine lv_aload_n hx hb dX11_writeBit_111 rfl (lv_at hl 0 rfl) ?_
          refine gX11_53 C hT (q0 := 0) rfl dX11_writeBit_112 ?_
          refine lv_iconst (v := 0) hx hb dX11_writeBit_115 (by decide) ?_
          refine lv_aload_n hx hb dX11_writeBit_116 rfl (lv_at hl 0 rfl) ?_
          refine gX11_53 C hT (q0 := 0) rfl dX11_writeBit_117 ?_
          refine lv_iconst (v := 0) hx hb dX11_writeBit_120 (by decide) ?_
          refine r_lald C hT (q0 := 15) rfl 0 rfl (by decide) (by decide) dX11_writeBit_121 ?_
          refine W.eq (g2 := F0 m 122 ls [.long a1, .int 0, .ref (mo 15)]) (congrArg (fun z => F0 m 122 ls (.long z :: [.int 0, .ref (mo 15)])) (hl0)) ?_
          refine lv_bipush (v := 8) hx hb dX11_writeBit_122 (by decide) ?_
          refine lv_lshl hx hb dX11_writeBit_124 rfl ?_
          refine lv_ldc2 (v := 4294967295) hx hb C.ow (C.ts _ k751) dX11_writeBit_125 ?_
          refine lv_land hx hb dX11_writeBit_128 ?_
          refine W.eq (g2 := F0 m 129 ls [.long (shLo a1), .int 0, .ref (mo 15)]) (congrArg (fun z => F0 m 129 ls (.long z :: [.int 0, .ref (mo 15)])) (rfl)) ?_
          refine r_last C hT (q0 := 15) rfl 0 rfl (by decide) (by decide) dX11_writeBit_129 (fun H locs hT => ?_)
          have hT : Wd g A s (mdL g mo rr th np (no1 + 1) bt en xx ra (t0S st N np fk fo U) (t1S st N np fk fo U) (nI (lbN (s_f U) (s_n U))) (nI (8448 * 0 + 33 * s_nd U + tN st (mxS st N np fk fo U) / 128)) (nI (tN st (mxS st N np fk fo U) % 128)) (chS st N np fk fo U) st fk fn fo bb wt nx cx pt le sc ss ww xc (vp_updL lo1 0 (shLo a1)) hi1 (upd ou1 no1 (topB a1)) (setTo (inQ st N np fk fo U) xi (np + 1))) H locs := hT
          refine lv_aload_n hx hb dX11_writeBit_130 rfl (lv_at hl 0 rfl) ?_
          refine gX11_57 C hT (q0 := 0) rfl dX11_writeBit_131 ?_
          refine lv_iconst (v := 0) hx hb dX11_writeBit_134 (by decide) ?_
          refine lv_aload_n hx hb dX11_writeBit_135 rfl (lv_at hl 0 rfl) ?_
          refine gX11_57 C hT (q0 := 0) rfl dX11_writeBit_136 ?_
          refine lv_iconst (v := 0) hx hb dX11_writeBit_139 (by decide) ?_
          refine r_lald C hT (q0 := 16) rfl 0 rfl (by decide) (by decide) dX11_writeBit_140 ?_
          refine W.eq (g2 := F0 m 141 ls [.long b1, .int 0, .ref (mo 16)]) (congrArg (fun z => F0 m 141 ls (.long z :: [.int 0, .ref (mo 16)])) (hh0)) ?_
          refine lv_bipush (v := 8) hx hb dX11_writeBit_141 (by decide) ?_
          refine lv_lshl hx hb dX11_writeBit_143 rfl ?_
          refine lv_ldc2 (v := 4294967295) hx hb C.ow (C.ts _ k751) dX11_writeBit_144 ?_
          refine lv_land hx hb dX11_writeBit_147 ?_
          refine lv_ldc2 (v := 255) hx hb C.ow (C.ts _ k937) dX11_writeBit_148 ?_
          refine lv_lor hx hb dX11_writeBit_151 ?_
          refine W.eq (g2 := F0 m 152 ls [.long (shHi b1), .int 0, .ref (mo 16)]) (congrArg (fun z => F0 m 152 ls (.long z :: [.int 0, .ref (mo 16)])) (rfl)) ?_
          refine r_last C hT (q0 := 16) rfl 0 rfl (by decide) (by decide) dX11_writeBit_152 (fun H locs hT => ?_)
          have hT : Wd g A s (mdL g mo rr th np (no1 + 1) bt en xx ra (t0S st N np fk fo U) (t1S st N np fk fo U) (nI (lbN (s_f U) (s_n U))) (nI (8448 * 0 + 33 * s_nd U + tN st (mxS st N np fk fo U) / 128)) (nI (tN st (mxS st N np fk fo U) % 128)) (chS st N np fk fo U) st fk fn fo bb wt nx cx pt le sc ss ww xc (vp_updL lo1 0 (shLo a1)) (vp_updL hi1 0 (shHi b1)) (upd ou1 no1 (topB a1)) (setTo (inQ st N np fk fo U) xi (np + 1))) H locs := hT
          refine lv_goto (tgt := 60) hx hb dX11_writeBit_153 (by decide) ?_
          exact ih (j + 1) (shLo a1) (shHi b1) (vp_updL lo1 0 (shLo a1)) (vp_updL hi1 0 (shHi b1)) (no1 + 1) (upd ou1 no1 (topB a1)) H locs ls (by omega) pk_uLs (by rw [pk_uLn (by decide)]; exact hl1) pk_uLs (by rw [pk_uLn (by decide)]; exact hh1) (CD_s hj4 hCD hset) (by omega) (by rw [← hE, show 4 - j = (4 - (j + 1)) + 1 by omega]; exact (emF_y hset).symm) (by omega) hT (lv_sub hl [0, 1, 2] rfl)
    exact loop_60 (4 - 0 + 1) 0 (nLo on (lo 0) (mdS st N np fk fo U (lo 0) (hi 0))) (nHi on (hi 0) (mdS st N np fk fo U (lo 0) (hi 0))) (vp_updL lo 0 (mdS st N np fk fo U (lo 0) (hi 0) + 1)) hi no ou H locs ls (by decide) hi0 (by first | rfl | exact pk_uLn (by decide)) hi2 (by first | rfl | exact pk_uLn (by decide)) (nar_I hCI hch) rfl rfl (Nat.lt_succ_self _) hT (lv_sub hl [1, 2, 0] rfl)
  · skip
    have hon1 : ¬ on = 0 := by rw [h_1]; decide
    have hi0 : lo 0 = nLo on (lo 0) (mdS st N np fk fo U (lo 0) (hi 0)) := by rw [nLo, if_neg hon1]
    have hi2 : vp_updL hi 0 (mdS st N np fk fo U (lo 0) (hi 0)) 0 = nHi on (hi 0) (mdS st N np fk fo U (lo 0) (hi 0)) := by rw [pk_uLs, nHi, if_neg hon1]
    refine lv_aload_n hx hb dX11_writeBit_41 rfl (lv_at hl 1 rfl) ?_
    refine gX11_57 C hT (q0 := 0) rfl dX11_writeBit_42 ?_
    refine lv_iconst (v := 0) hx hb dX11_writeBit_45 (by decide) ?_
    refine lv_lload_n hx hb dX11_writeBit_46 rfl (lv_at hl 0 rfl) ?_
    refine r_last C hT (q0 := 16) rfl 0 rfl (by decide) (by decide) dX11_writeBit_47 (fun H locs hT => ?_)
    have hT : Wd g A s (mdL g mo rr th np no bt en xx ra (t0S st N np fk fo U) (t1S st N np fk fo U) (nI (lbN (s_f U) (s_n U))) (nI (8448 * 0 + 33 * s_nd U + tN st (mxS st N np fk fo U) / 128)) (nI (tN st (mxS st N np fk fo U) % 128)) (chS st N np fk fo U) st fk fn fo bb wt nx cx pt le sc ss ww xc lo (vp_updL hi 0 (mdS st N np fk fo U (lo 0) (hi 0))) ou (setTo (inQ st N np fk fo U) xi (np + 1))) H locs := hT
    refine lv_goto (tgt := 60) hx hb dX11_writeBit_48 (by decide) ?_
    have loop_60 : ∀ (fu : Nat) (j : Nat) (a1 : Int64) (b1 : Int64) (lo1 : Nat → Int64) (hi1 : Nat → Int64) (no1 : Nat) (ou1 : Nat → Int32) (H : Heap) (locs : List Loc) (ls : Array Slot) (hj : j ≤ 4) (hl0 : lo1 0 = a1) (hl1 : lo1 1 = lo 1) (hh0 : hi1 0 = b1) (hh1 : hi1 1 = hi 1) (hCD : CD j a1 b1) (hno1 : no1 = no + j) (hE : emF (4 - j) a1 b1 no1 ou1 = emF 4 (nLo on (lo 0) (mdS st N np fk fo U (lo 0) (hi 0))) (nHi on (hi 0) (mdS st N np fk fo U (lo 0) (hi 0))) no ou), 4 - j < fu → Wd g A s (mdL g mo rr th np no1 bt en xx ra (t0S st N np fk fo U) (t1S st N np fk fo U) (nI (lbN (s_f U) (s_n U))) (nI (8448 * 0 + 33 * s_nd U + tN st (mxS st N np fk fo U) / 128)) (nI (tN st (mxS st N np fk fo U) % 128)) (chS st N np fk fo U) st fk fn fo bb wt nx cx pt le sc ss ww xc lo1 hi1 ou1 (setTo (inQ st N np fk fo U) xi (np + 1))) H locs → lv_has ls 4 [(0, .ref (mo 0)), (1, .int on), (2, .long (mdS st N np fk fo U (lo 0) (hi 0)))] → W p l e ({ frames := 4, cells := 0, slots := 0, locals := 101 } : Room) s m ([.ref (mo 0), .int on] : List Value).toArray below meth c H locs 0 0 Q (F0 m 60 ls []) := by
      intro fu
      induction fu with
      | zero => intro j a1 b1 lo1 hi1 no1 ou1 H locs ls hj hl0 hl1 hh0 hh1 hCD hno1 hE hm; exact absurd hm (Nat.not_lt_zero _)
      | succ fu ih =>
        intro j a1 b1 lo1 hi1 no1 ou1 H locs ls hj hl0 hl1 hh0 hh1 hCD hno1 hE hm hT hl
        refine lv_aload_n hx hb dX11_writeBit_60 rfl (lv_at hl 0 rfl) ?_
        refine gX11_53 C hT (q0 := 0) rfl dX11_writeBit_61 ?_
        refine lv_iconst (v := 0) hx hb dX11_writeBit_64 (by decide) ?_
        refine r_lald C hT (q0 := 15) rfl 0 rfl (by decide) (by decide) dX11_writeBit_65 ?_
        refine W.eq (g2 := F0 m 66 ls [.long a1]) (congrArg (fun z => F0 m 66 ls (.long z :: [])) (hl0)) ?_
        refine lv_bipush (v := 24) hx hb dX11_writeBit_66 (by decide) ?_
        refine lv_lshr hx hb dX11_writeBit_68 rfl ?_
        refine lv_aload_n hx hb dX11_writeBit_69 rfl (lv_at hl 0 rfl) ?_
        refine gX11_57 C hT (q0 := 0) rfl dX11_writeBit_70 ?_
        refine lv_iconst (v := 0) hx hb dX11_writeBit_73 (by decide) ?_
        refine r_lald C hT (q0 := 16) rfl 0 rfl (by decide) (by decide) dX11_writeBit_74 ?_
        refine W.eq (g2 := F0 m 75 ls [.long b1, .long (a1 >>> ((24 : Int32).toInt64 &&& 63))]) (congrArg (fun z => F0 m 75 ls (.long z :: [.long (a1 >>> ((24 : Int32).toInt64 &&& 63))])) (hh0)) ?_
        refine lv_bipush (v := 24) hx hb dX11_writeBit_75 (by decide) ?_
        refine lv_lshr hx hb dX11_writeBit_77 rfl ?_
        refine W.lcmp hx hb dX11_writeBit_78 ?_
        refine lv_if_ne (tgt := 156) hx hb dX11_writeBit_79 (by decide) (fun h_3 => ?_) (fun h_3 => ?_)
        · skip
          have h_3 : ¬ a1 >>> ((24 : Int32).toInt64 &&& 63) = b1 >>> ((24 : Int32).toInt64 &&& 63) := fun q => h_3 ((lg_cmp_eq _ _).mpr q)
          have hset : setB a1 b1 = false := decide_eq_false h_3
          have hend := (emF_n (k := 4 - j) (no := no1) (ou := ou1) hset).symm.trans hE
          have hf1 : no1 = (emF 4 (nLo on (lo 0) (mdS st N np fk fo U (lo 0) (hi 0))) (nHi on (hi 0) (mdS st N np fk fo U (lo 0) (hi 0))) no ou).2.2.1 := by rw [← hend]
          have hf2 : ou1 = (emF 4 (nLo on (lo 0) (mdS st N np fk fo U (lo 0) (hi 0))) (nHi on (hi 0) (mdS st N np fk fo U (lo 0) (hi 0))) no ou).2.2.2 := by rw [← hend]
          have hf3 : lo1 0 = (emF 4 (nLo on (lo 0) (mdS st N np fk fo U (lo 0) (hi 0))) (nHi on (hi 0) (mdS st N np fk fo U (lo 0) (hi 0))) no ou).1 := by rw [← hend]; exact hl0
          have hf4 : hi1 0 = (emF 4 (nLo on (lo 0) (mdS st N np fk fo U (lo 0) (hi 0))) (nHi on (hi 0) (mdS st N np fk fo U (lo 0) (hi 0))) no ou).2.1 := by rw [← hend]; exact hh0
          refine lv_aload_n hx hb dX11_writeBit_156 rfl (lv_at hl 0 rfl) ?_
          refine lv_iconst (v := 0) hx hb dX11_writeBit_157 (by decide) ?_
          refine W.eq (g2 := F0 m 158 ls [.int (nI 0), .ref (mo 0)]) (congrArg (fun z => F0 m 158 ls (.int z :: [.ref (mo 0)])) (rfl)) ?_
          refine lv_iload_n hx hb dX11_writeBit_158 rfl (lv_at hl 1 rfl) ?_
          have hM := c_X11_learn l g mo rr th np no1 bt en xx ra (chS st N np fk fo U) st fk fn fo bb wt nx cx pt le sc ss ww xc lo1 hi1 ou1 (setTo (inQ st N np fk fo U) xi (np + 1)) 0 N U on (by decide) hG hRS hX (fun j hj => inQ_lt hj) inQ_np hon hnl
          refine r_callW C hT (runVW (rm := ({ frames := 3, cells := 0, slots := 0, locals := 73 } : Room)) (As := [.int (nI 0), .int on]) (n := 2) (q1 := 0) (rest := []) C hT hM k938 k940 s25 k15 k941 (by decide +kernel) rfl rfl rfl rfl (Nat.le_of_ble_eq_true rfl) hl.1 ⟨Nat.le_of_ble_eq_true rfl, Nat.le_of_ble_eq_true rfl⟩ ⟨Nat.le_of_ble_eq_true rfl, Nat.le_of_ble_eq_true rfl⟩ dX11_writeBit_159) (fun u H locs hT => ?_)
          obtain ⟨⟨bb2_159, wt2_159, nx2_159, cx2_159, pt2_159, le2_159, sc2_159, ss2_159, ww2_159, xc2_159⟩, hRS_159, hOT_159⟩ := u
          replace hRS_159 : RS 0 N np fk (stepS st N np fk fn fo U on) bb2_159 wt2_159 nx2_159 cx2_159 pt2_159 le2_159 sc2_159 ss2_159 ww2_159 xc2_159 := hRS_159
          replace hOT_159 : ∀ s2 V, s2 < 2 → ¬ s2 = 0 → RS s2 N np fk V bb wt nx cx pt le sc ss ww xc → RS s2 N np fk V bb2_159 wt2_159 nx2_159 cx2_159 pt2_159 le2_159 sc2_159 ss2_159 ww2_159 xc2_159 := hOT_159
          have hT : Wd g A s (mdL g mo rr th np no1 bt en xx ra (t0S st N np fk fo U) (t1S st N np fk fo U) (nI (lbN (s_f U) (s_n U))) (nI (8448 * 0 + 33 * s_nd U + tN st (mxS st N np fk fo U) / 128)) (nI (tN st (mxS st N np fk fo U) % 128)) (chS st N np fk fo U) st fk fn fo bb2_159 wt2_159 nx2_159 cx2_159 pt2_159 le2_159 sc2_159 ss2_159 ww2_159 xc2_159 lo1 hi1 ou1 (setTo (inQ st N np fk fo U) xi (np + 1))) H locs := hT
          refine W.eq (g2 := F0 m 162 ls []) rfl ?_
          refine lv_aload_n hx hb dX11_writeBit_162 rfl (lv_at hl 0 rfl) ?_
          refine lv_aload_n hx hb dX11_writeBit_163 rfl (lv_at hl 0 rfl) ?_
          refine gX11_107 C hT (q0 := 0) rfl dX11_writeBit_164 ?_
          refine lv_iconst (v := 1) hx hb dX11_writeBit_167 (by decide) ?_
          refine lv_iadd hx hb dX11_writeBit_168 ?_
          refine W.eq (g2 := F0 m 169 ls [.int (nI (bt + 1)), .ref (mo 0)]) (congrArg (fun z => F0 m 169 ls (.int z :: [.ref (mo 0)])) (nI_1 bt)) ?_
          refine lv_bipush (v := 8) hx hb dX11_writeBit_169 (by decide) ?_
          refine lv_irem hx hb dX11_writeBit_171 (by decide) ?_
          refine W.eq (g2 := F0 m 172 ls [.int (nI ((bt + 1) % 8)), .ref (mo 0)]) (congrArg (fun z => F0 m 172 ls (.int z :: [.ref (mo 0)])) (irem_n (t := 8) (by omega) (by decide) (by decide))) ?_
          refine pX11_107 C hT (q0 := 0) rfl dX11_writeBit_172 (fun H locs hT => ?_)
          have hT : Wd g A s (mdL g mo rr th np no1 ((bt + 1) % 8) en xx ra (t0S st N np fk fo U) (t1S st N np fk fo U) (nI (lbN (s_f U) (s_n U))) (nI (8448 * 0 + 33 * s_nd U + tN st (mxS st N np fk fo U) / 128)) (nI (tN st (mxS st N np fk fo U) % 128)) (chS st N np fk fo U) st fk fn fo bb2_159 wt2_159 nx2_159 cx2_159 pt2_159 le2_159 sc2_159 ss2_159 ww2_159 xc2_159 lo1 hi1 ou1 (setTo (inQ st N np fk fo U) xi (np + 1))) H locs := hT
          have hT : Wd g A s (mdL g mo rr th np no1 ((bt + 1) % 8) en xx ra (t0S st N np fk fo U) (t1S st N np fk fo U) (nI (lbN (s_f U) (s_n U))) (nI (8448 * 0 + 33 * s_nd U + tN st (mxS st N np fk fo U) / 128)) (nI (tN st (mxS st N np fk fo U) % 128)) (chS st N np fk fo U) st fk fn fo bb2_159 wt2_159 nx2_159 cx2_159 pt2_159 le2_159 sc2_159 ss2_159 ww2_159 xc2_159 lo1 hi1 ou1 (setTo (inQ st N np fk fo U) xi (np + 1))) H locs := hT
          generalize hzg_t02 : (t0S st N np fk fo U) = zg_t02 at hT
          generalize hzg_t12 : (t1S st N np fk fo U) = zg_t12 at hT
          generalize hzg_s12 : (nI (lbN (s_f U) (s_n U))) = zg_s12 at hT
          generalize hzg_ca2 : (nI (8448 * 0 + 33 * s_nd U + tN st (mxS st N np fk fo U) / 128)) = zg_ca2 at hT
          generalize hzg_cq2 : (nI (tN st (mxS st N np fk fo U) % 128)) = zg_cq2 at hT
          generalize hzg_ch2 : (chS st N np fk fo U) = zg_ch2 at hT
          generalize hzg_xi2 : (setTo (inQ st N np fk fo U) xi (np + 1)) = zg_xi2 at hT
          exact e_vret C hQ ⟨(lo1, hi1, no1, ou1, bb2_159, wt2_159, nx2_159, cx2_159, pt2_159, le2_159, sc2_159, ss2_159, ww2_159, xc2_159, zg_t02, zg_t12, zg_s12, zg_ca2, zg_cq2, zg_ch2, zg_xi2), hRS_159, hOT_159, hf1, hf2, ⟨hf3, hl1⟩, ⟨hf4, hh1⟩⟩ hT rfl dX11_writeBit_175
        · skip
          have h_3 : a1 >>> ((24 : Int32).toInt64 &&& 63) = b1 >>> ((24 : Int32).toInt64 &&& 63) := (lg_cmp_eq _ _).mp h_3
          have hset : setB a1 b1 = true := decide_eq_true h_3
          have hj4 := CD_lt hj hCD hset
          refine lv_aload_n hx hb dX11_writeBit_82 rfl (lv_at hl 0 rfl) ?_
          refine gX11_60 C hT (q0 := 0) rfl dX11_writeBit_83 ?_
          refine lv_aload_n hx hb dX11_writeBit_86 rfl (lv_at hl 0 rfl) ?_
          refine gX11_104 C hT (q0 := 0) rfl dX11_writeBit_87 ?_
          refine lv_aload_n hx hb dX11_writeBit_90 rfl (lv_at hl 0 rfl) ?_
          refine gX11_57 C hT (q0 := 0) rfl dX11_writeBit_91 ?_
          refine lv_iconst (v := 0) hx hb dX11_writeBit_94 (by decide) ?_
          refine r_lald C hT (q0 := 16) rfl 0 rfl (by decide) (by decide) dX11_writeBit_95 ?_
          refine W.eq (g2 := F0 m 96 ls [.long b1, .int (nI no1), .ref (mo 17)]) (congrArg (fun z => F0 m 96 ls (.long z :: [.int (nI no1), .ref (mo 17)])) (hh0)) ?_
          refine lv_bipush (v := 24) hx hb dX11_writeBit_96 (by decide) ?_
          refine lv_lshr hx hb dX11_writeBit_98 rfl ?_
          refine lv_l2i hx hb dX11_writeBit_99 rfl ?_
          refine W.eq (g2 := F0 m 100 ls [.int (topB a1), .int (nI no1), .ref (mo 17)]) (congrArg (fun z => F0 m 100 ls (.int z :: [.int (nI no1), .ref (mo 17)])) (top_R hCD hset)) ?_
          refine r_iast C hT (q0 := 17) rfl no1 rfl (by omega) (by decide) dX11_writeBit_100 (fun H locs hT => ?_)
          have hT : Wd g A s (mdL g mo rr th np no1 bt en xx ra (t0S st N np fk fo U) (t1S st N np fk fo U) (nI (lbN (s_f U) (s_n U))) (nI (8448 * 0 + 33 * s_nd U + tN st (mxS st N np fk fo U) / 128)) (nI (tN st (mxS st N np fk fo U) % 128)) (chS st N np fk fo U) st fk fn fo bb wt nx cx pt le sc ss ww xc lo1 hi1 (upd ou1 no1 (topB a1)) (setTo (inQ st N np fk fo U) xi (np + 1))) H locs := hT
          refine lv_aload_n hx hb dX11_writeBit_101 rfl (lv_at hl 0 rfl) ?_
          refine lv_dup hx hb dX11_writeBit_102 rfl ?_
          refine gX11_104 C hT (q0 := 0) rfl dX11_writeBit_103 ?_
          refine lv_iconst (v := 1) hx hb dX11_writeBit_106 (by decide) ?_
          refine lv_iadd hx hb dX11_writeBit_107 ?_
          refine W.eq (g2 := F0 m 108 ls [.int (nI (no1 + 1)), .ref (mo 0)]) (congrArg (fun z => F0 m 108 ls (.int z :: [.ref (mo 0)])) (nI_1 no1)) ?_
          refine pX11_104 C hT (q0 := 0) rfl dX11_writeBit_108 (fun H locs hT => ?_)
          have hT : Wd g A s (mdL g mo rr th np (no1 + 1) bt en xx ra (t0S st N np fk fo U) (t1S st N np fk fo U) (nI (lbN (s_f U) (s_n U))) (nI (8448 * 0 + 33 * s_nd U + tN st (mxS st N np fk fo U) / 128)) (nI (tN st (mxS st N np fk fo U) % 128)) (chS st N np fk fo U) st fk fn fo bb wt nx cx pt le sc ss ww xc lo1 hi1 (upd ou1 no1 (topB a1)) (setTo (inQ st N np fk fo U) xi (np + 1))) H locs := hT
          refine lv_aload_n hx hb dX11_writeBit_111 rfl (lv_at hl 0 rfl) ?_
          refine gX11_53 C hT (q0 := 0) rfl dX11_writeBit_112 ?_
          refine lv_iconst (v := 0) hx hb dX11_writeBit_115 (by decide) ?_
          refine lv_aload_n hx hb dX11_writeBit_116 rfl (lv_at hl 0 rfl) ?_
          refine gX11_53 C hT (q0 := 0) rfl dX11_writeBit_117 ?_
          refine lv_iconst (v := 0) hx hb dX11_writeBit_120 (by decide) ?_
          refine r_lald C hT (q0 := 15) rfl 0 rfl (by decide) (by decide) dX11_writeBit_121 ?_
          refine W.eq (g2 := F0 m 122 ls [.long a1, .int 0, .ref (mo 15)]) (congrArg (fun z => F0 m 122 ls (.long z :: [.int 0, .ref (mo 15)])) (hl0)) ?_
          refine lv_bipush (v := 8) hx hb dX11_writeBit_122 (by decide) ?_
          refine lv_lshl hx hb dX11_writeBit_124 rfl ?_
          refine lv_ldc2 (v := 4294967295) hx hb C.ow (C.ts _ k751) dX11_writeBit_125 ?_
          refine lv_land hx hb dX11_writeBit_128 ?_
          refine W.eq (g2 := F0 m 129 ls [.long (shLo a1), .int 0, .ref (mo 15)]) (congrArg (fun z => F0 m 129 ls (.long z :: [.int 0, .ref (mo 15)])) (rfl)) ?_
          refine r_last C hT (q0 := 15) rfl 0 rfl (by decide) (by decide) dX11_writeBit_129 (fun H locs hT => ?_)
          have hT : Wd g A s (mdL g mo rr th np (no1 + 1) bt en xx ra (t0S st N np fk fo U) (t1S st N np fk fo U) (nI (lbN (s_f U) (s_n U))) (nI (8448 * 0 + 33 * s_nd U + tN st (mxS st N np fk fo U) / 128)) (nI (tN st (mxS st N np fk fo U) % 128)) (chS st N np fk fo U) st fk fn fo bb wt nx cx pt le sc ss ww xc (vp_updL lo1 0 (shLo a1)) hi1 (upd ou1 no1 (topB a1)) (setTo (inQ st N np fk fo U) xi (np + 1))) H locs := hT
          refine lv_aload_n hx hb dX11_writeBit_130 rfl (lv_at hl 0 rfl) ?_
          refine gX11_57 C hT (q0 := 0) rfl dX11_writeBit_131 ?_
          refine lv_iconst (v := 0) hx hb dX11_writeBit_134 (by decide) ?_
          refine lv_aload_n hx hb dX11_writeBit_135 rfl (lv_at hl 0 rfl) ?_
          refine gX11_57 C hT (q0 := 0) rfl dX11_writeBit_136 ?_
          refine lv_iconst (v := 0) hx hb dX11_writeBit_139 (by decide) ?_
          refine r_lald C hT (q0 := 16) rfl 0 rfl (by decide) (by decide) dX11_writeBit_140 ?_
          refine W.eq (g2 := F0 m 141 ls [.long b1, .int 0, .ref (mo 16)]) (congrArg (fun z => F0 m 141 ls (.long z :: [.int 0, .ref (mo 16)])) (hh0)) ?_
          refine lv_bipush (v := 8) hx hb dX11_writeBit_141 (by decide) ?_
          refine lv_lshl hx hb dX11_writeBit_143 rfl ?_
          refine lv_ldc2 (v := 4294967295) hx hb C.ow (C.ts _ k751) dX11_writeBit_144 ?_
          refine lv_land hx hb dX11_writeBit_147 ?_
          refine lv_ldc2 (v := 255) hx hb C.ow (C.ts _ k937) dX11_writeBit_148 ?_
          refine lv_lor hx hb dX11_writeBit_151 ?_
          refine W.eq (g2 := F0 m 152 ls [.long (shHi b1), .int 0, .ref (mo 16)]) (congrArg (fun z => F0 m 152 ls (.long z :: [.int 0, .ref (mo 16)])) (rfl)) ?_
          refine r_last C hT (q0 := 16) rfl 0 rfl (by decide) (by decide) dX11_writeBit_152 (fun H locs hT => ?_)
          have hT : Wd g A s (mdL g mo rr th np (no1 + 1) bt en xx ra (t0S st N np fk fo U) (t1S st N np fk fo U) (nI (lbN (s_f U) (s_n U))) (nI (8448 * 0 + 33 * s_nd U + tN st (mxS st N np fk fo U) / 128)) (nI (tN st (mxS st N np fk fo U) % 128)) (chS st N np fk fo U) st fk fn fo bb wt nx cx pt le sc ss ww xc (vp_updL lo1 0 (shLo a1)) (vp_updL hi1 0 (shHi b1)) (upd ou1 no1 (topB a1)) (setTo (inQ st N np fk fo U) xi (np + 1))) H locs := hT
          refine lv_goto (tgt := 60) hx hb dX11_writeBit_153 (by decide) ?_
          exact ih (j + 1) (shLo a1) (shHi b1) (vp_updL lo1 0 (shLo a1)) (vp_updL hi1 0 (shHi b1)) (no1 + 1) (upd ou1 no1 (topB a1)) H locs ls (by omega) pk_uLs (by rw [pk_uLn (by decide)]; exact hl1) pk_uLs (by rw [pk_uLn (by decide)]; exact hh1) (CD_s hj4 hCD hset) (by omega) (by rw [← hE, show 4 - j = (4 - (j + 1)) + 1 by omega]; exact (emF_y hset).symm) (by omega) hT (lv_sub hl [0, 1, 2] rfl)
    exact loop_60 (4 - 0 + 1) 0 (nLo on (lo 0) (mdS st N np fk fo U (lo 0) (hi 0))) (nHi on (hi 0) (mdS st N np fk fo U (lo 0) (hi 0))) lo (vp_updL hi 0 (mdS st N np fk fo U (lo 0) (hi 0))) no ou H locs ls (by decide) hi0 (by first | rfl | exact pk_uLn (by decide)) hi2 (by first | rfl | exact pk_uLn (by decide)) (nar_I hCI hch) rfl rfl (Nat.lt_succ_self _) hT (lv_sub hl [1, 2, 0] rfl)
