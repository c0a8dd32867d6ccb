set_option maxHeartbeats 400000 in
set_option maxRecDepth 100000 in
theorem c_X11_learn (l : Launch) (g : GT) (mo : Nat → Nat) (rr : Nat) (th : Int32) (np : Nat) (no : Nat) (bt : Nat) (en : Bool) (xx : Int64) (ra : Nat) (ch : Int32) (st : Nat → Int32) (fk : Nat → Int32) (fn : Nat → Int32) (fo : Nat → Int32) (bb : Nat → Int32) (wt : Nat → Int32) (nx : Nat → Int32) (cx : Nat → Int32) (pt : Nat → Int32) (le : Nat → Int32) (sc : Nat → Int32) (ss : Nat → Int32) (ww : Nat → Int32) (xc : Nat → Int32) (lo : Nat → Int64) (hi : Nat → Int64) (ou : Nat → Int32) (xi : Nat → Int32) (sd : Nat) (N : Nat) (U : SSt) (on : Int32) (hsd : sd < 2) (hG : GI st N rr np fk fn) (hRS : RS sd N np fk U bb wt nx cx pt le sc ss ww xc) (hX : SX N np fk U) (hxi : ∀ j, j < np → xi j = inS st N fk fo U j) (hx2 : xi np = 256) (hon : on = 0 ∨ on = 1) (hnl : s_n U < 2000) : OM (S := {zq : (Nat → Int32) × (Nat → Int32) × (Nat → Int32) × (Nat → Int32) × (Nat → Int32) × (Nat → Int32) × (Nat → Int32) × (Nat → Int32) × (Nat → Int32) × (Nat → Int32) // (RS sd N np fk (stepS st N np fk fn fo U on) zq.1 zq.2.1 zq.2.2.1 zq.2.2.2.1 zq.2.2.2.2.1 zq.2.2.2.2.2.1 zq.2.2.2.2.2.2.1 zq.2.2.2.2.2.2.2.1 zq.2.2.2.2.2.2.2.2.1 zq.2.2.2.2.2.2.2.2.2) ∧ (∀ s2 V, s2 < 2 → ¬ s2 = sd → RS s2 N np fk V bb wt nx cx pt le sc ss ww xc → RS s2 N np fk V zq.1 zq.2.1 zq.2.2.1 zq.2.2.2.1 zq.2.2.2.2.1 zq.2.2.2.2.2.1 zq.2.2.2.2.2.2.1 zq.2.2.2.2.2.2.2.1 zq.2.2.2.2.2.2.2.2.1 zq.2.2.2.2.2.2.2.2.2)}) l g yX11_learn cX11_learn 9 none ({ frames := 3, cells := 0, slots := 0, locals := 73 } : Room) [.ref (mo 0), .int (nI sd), .int on] (mdL g mo rr th np no bt en xx ra (t0S st N np fk fo U) (t1S st N np fk fo U) (nI (lbN (s_f U) (s_n U))) (nI (8448 * sd + 33 * s_nd U + tN st (mxS st N np fk fo U) / 128)) (nI (tN st (mxS st N np fk fo U) % 128)) ch st fk fn fo bb wt nx cx pt le sc ss ww xc lo hi ou xi) (fun _ => none) (fun zu => (mdL g mo rr th np no bt en xx ra (t0S st N np fk fo U) (t1S st N np fk fo U) (nI (lbN (s_f U) (s_n U))) (nI (8448 * sd + 33 * s_nd U + tN st (mxS st N np fk fo U) / 128)) (nI (tN st (mxS st N np fk fo U) % 128)) ch st fk fn fo zu.1.1 zu.1.2.1 zu.1.2.2.1 zu.1.2.2.2.1 zu.1.2.2.2.2.1 zu.1.2.2.2.2.2.1 zu.1.2.2.2.2.2.2.1 zu.1.2.2.2.2.2.2.2.1 zu.1.2.2.2.2.2.2.2.2.1 zu.1.2.2.2.2.2.2.2.2.2 lo hi ou xi)) := by
  refine OM.startQ (by decide) (Nat.le_of_ble_eq_true rfl) ?_
  intro p e s m below meth c A ls Q H locs hQ C hnm hl hT
  have hx := C.x
  have hb := C.b
  have hl : lv_has ls 9 [(0, .ref (mo 0)), (1, .int (nI sd)), (2, .int on)] := hl
  have hnp := hG.1
  have hn2 := hX.1.1
  have hbg := hX.1.2.2.1
  have hnd := hX.1.2.1
  have hrr := hG.2.2.1
  have hN := hG.2.1
  have hlb := lb_lt hX.1.2.2.2.2.1
  have hnr : nearS st N np fk fo U < 8448 := nearS_lt hG hnd
  have hN4 : N ≤ 4096 := by rw [hN]; exact Nat.pow_le_pow_right (i := rr) (j := 12) (by decide) hrr
  have hb2 := bitN_lt on
  refine lv_iload_n hx hb dX11_learn_0 rfl (lv_at hl 2 rfl) ?_
  refine lv_iconst (v := 1) hx hb dX11_learn_1 (by decide) ?_
  refine r_iteN (ls := ls) (J := 12) (a1 := 0) (a2 := 4095) (rest := []) (lv_icmp_ne (tgt := 11) hx hb dX11_learn_2 (by decide)) (fun h_1 kont => ?_) (fun h_1 kont => ?_) ?_
  · skip
    refine lv_iconst (v := 0) hx hb dX11_learn_11 (by decide) ?_
    exact kont
  · skip
    refine lv_sipush (v := 4095) hx hb dX11_learn_5 (by decide) ?_
    refine lv_goto (tgt := 12) hx hb dX11_learn_8 (by decide) ?_
    exact kont
  refine W.eq (g2 := F0 m 12 ls [.int (if on = 0 then 0 else 4095)]) (congrArg (fun z => F0 m 12 ls (.int z :: [])) (bit_if hon)) ?_
  refine lv_aload_n hx hb dX11_learn_12 rfl (lv_at hl 0 rfl) ?_
  refine gX11_155 C hT (q0 := 0) rfl dX11_learn_13 ?_
  refine lv_isub hx hb dX11_learn_16 ?_
  refine lv_bipush (v := 7) hx hb dX11_learn_17 (by decide) ?_
  refine lv_imul hx hb dX11_learn_19 ?_
  refine W.eq (g2 := F0 m 20 ls [.int (errI on (t0S st N np fk fo U))]) (congrArg (fun z => F0 m 20 ls (.int z :: [])) (rfl)) ?_
  refine lv_istore_n (lv' := [(3, .int (errI on (t0S st N np fk fo U))), (0, .ref (mo 0)), (1, .int (nI sd)), (2, .int on)]) hx hb dX11_learn_20 rfl hl (by decide) rfl (fun ls hl => ?_)
  refine lv_iload_n hx hb dX11_learn_21 rfl (lv_at hl 3 rfl) ?_
  refine lv_iconst (v := 1) hx hb dX11_learn_22 (by decide) ?_
  refine r_iteN (ls := ls) (J := 33) (a1 := 0) (a2 := 4095) (rest := []) (lv_icmp_ne (tgt := 32) hx hb dX11_learn_23 (by decide)) (fun h_2 kont => ?_) (fun h_2 kont => ?_) ?_
  · skip
    refine lv_iconst (v := 0) hx hb dX11_learn_32 (by decide) ?_
    exact kont
  · skip
    refine lv_sipush (v := 4095) hx hb dX11_learn_26 (by decide) ?_
    refine lv_goto (tgt := 33) hx hb dX11_learn_29 (by decide) ?_
    exact kont
  refine W.eq (g2 := F0 m 33 ls [.int (if on = 0 then 0 else 4095)]) (congrArg (fun z => F0 m 33 ls (.int z :: [])) (bit_if hon)) ?_
  refine lv_aload_n hx hb dX11_learn_33 rfl (lv_at hl 1 rfl) ?_
  refine gX11_158 C hT (q0 := 0) rfl dX11_learn_34 ?_
  refine lv_isub hx hb dX11_learn_37 ?_
  refine lv_bipush (v := 7) hx hb dX11_learn_38 (by decide) ?_
  refine lv_imul hx hb dX11_learn_40 ?_
  refine W.eq (g2 := F0 m 41 ls [.int (errI on (t1S st N np fk fo U))]) (congrArg (fun z => F0 m 41 ls (.int z :: [])) (rfl)) ?_
  refine lv_istore (lv' := [(4, .int (errI on (t1S st N np fk fo U))), (3, .int (errI on (t0S st N np fk fo U))), (0, .ref (mo 0)), (1, .int (nI sd)), (2, .int on)]) hx hb dX11_learn_41 hl (by decide) rfl (fun ls hl => ?_)
  refine lv_iconst (v := 0) hx hb dX11_learn_43 (by decide) ?_
  refine lv_istore (lv' := [(5, .int 0), (4, .int (errI on (t1S st N np fk fo U))), (3, .int (errI on (t0S st N np fk fo U))), (0, .ref (mo 0)), (1, .int (nI sd)), (2, .int on)]) hx hb dX11_learn_44 hl (by decide) rfl (fun ls hl => ?_)
  have loop_46 : ∀ (fu : Nat) (i : Nat) (vx5 : Int32) (ww1 : Nat → Int32) (H : Heap) (locs : List Loc) (ls : Array Slot) (hli : i ≤ np + 1) (vex5 : vx5 = nI i) (hww : ww1 = rwL ww xi (wAt sd 0 (s_nd U) 0) (wAt sd 1 (lbN (s_f U) (s_n U)) 0) (errI on (t0S st N np fk fo U)) (errI on (t1S st N np fk fo U)) i), np + 1 - i < fu → Wd g A s (mdL g mo rr th np no bt en xx ra (t0S st N np fk fo U) (t1S st N np fk fo U) (nI (lbN (s_f U) (s_n U))) (nI (8448 * sd + 33 * s_nd U + tN st (mxS st N np fk fo U) / 128)) (nI (tN st (mxS st N np fk fo U) % 128)) ch st fk fn fo bb wt nx cx pt le sc ss ww1 xc lo hi ou xi) H locs → lv_has ls 9 [(0, .ref (mo 0)), (1, .int (nI sd)), (2, .int on), (3, .int (errI on (t0S st N np fk fo U))), (4, .int (errI on (t1S st N np fk fo U))), (5, .int vx5)] → W p l e ({ frames := 3, cells := 0, slots := 0, locals := 73 } : Room) s m ([.ref (mo 0), .int (nI sd), .int on] : List Value).toArray below meth c H locs 0 0 Q (F0 m 46 ls []) := by
    intro fu
    induction fu with
    | zero => intro i vx5 ww1 H locs ls hli vex5 hww hm; exact absurd hm (Nat.not_lt_zero _)
    | succ fu ih =>
      intro i vx5 ww1 H locs ls hli vex5 hww hm hT hl
      refine lv_iload hx hb dX11_learn_46 (lv_at hl 5 rfl) ?_
      refine lv_aload_n hx hb dX11_learn_48 rfl (lv_at hl 0 rfl) ?_
      refine gX11_91 C hT (q0 := 0) rfl dX11_learn_49 ?_
      refine lv_icmp_gt (tgt := 164) hx hb dX11_learn_52 (by decide) (fun h_3 => ?_) (fun h_3 => ?_)
      · skip
        have hin := lp_le_end vex5 (by omega) hli h_3
        rw [hin] at hww
        refine lv_aload_n hx hb dX11_learn_164 rfl (lv_at hl 0 rfl) ?_
        refine gX11_161 C hT (q0 := 0) rfl dX11_learn_165 ?_
        refine lv_bipush (v := 64) hx hb dX11_learn_168 (by decide) ?_
        refine r_ite (ls := ls) (J := 186) (a1 := nI (8448 * sd + 33 * s_nd U + tN st (mxS st N np fk fo U) / 128)) (a2 := nI (8448 * sd + 33 * s_nd U + tN st (mxS st N np fk fo U) / 128 + 1)) (rest := []) (lv_icmp_lt (tgt := 182) hx hb dX11_learn_170 (by decide)) (fun h_4 kont => ?_) (fun h_4 kont => ?_) ?_
        · skip
          refine lv_aload_n hx hb dX11_learn_182 rfl (lv_at hl 0 rfl) ?_
          refine gX11_164 C hT (q0 := 0) rfl dX11_learn_183 ?_
          exact kont
        · skip
          refine lv_aload_n hx hb dX11_learn_173 rfl (lv_at hl 0 rfl) ?_
          refine gX11_164 C hT (q0 := 0) rfl dX11_learn_174 ?_
          refine lv_iconst (v := 1) hx hb dX11_learn_177 (by decide) ?_
          refine lv_iadd hx hb dX11_learn_178 ?_
          refine W.eq (g2 := F0 m 179 ls [.int (nI (8448 * sd + 33 * s_nd U + tN st (mxS st N np fk fo U) / 128 + 1))]) (congrArg (fun z => F0 m 179 ls (.int z :: [])) (nI_1 _)) ?_
          refine lv_goto (tgt := 186) hx hb dX11_learn_179 (by decide) ?_
          exact kont
        refine W.eq (g2 := F0 m 186 ls [.int (nI (8448 * sd + nearS st N np fk fo U))]) (congrArg (fun z => F0 m 186 ls (.int z :: [])) (near_R)) ?_
        refine lv_istore (lv' := [(5, .int (nI (8448 * sd + nearS st N np fk fo U))), (0, .ref (mo 0)), (1, .int (nI sd)), (2, .int on), (3, .int (errI on (t0S st N np fk fo U))), (4, .int (errI on (t1S st N np fk fo U)))]) hx hb dX11_learn_186 hl (by decide) rfl (fun ls hl => ?_)
        refine lv_aload_n hx hb dX11_learn_188 rfl (lv_at hl 1 rfl) ?_
        refine gX11_50 C hT (q0 := 0) rfl dX11_learn_189 ?_
        refine lv_iload hx hb dX11_learn_192 (lv_at hl 0 rfl) ?_
        refine lv_dup2_11 hx hb dX11_learn_194 rfl rfl ?_
        refine r_iald C hT (q0 := 14) rfl (8448 * sd + nearS st N np fk fo U) rfl (by omega) (by decide) dX11_learn_195 ?_
        refine W.eq (g2 := F0 m 196 ls [.int (s_fx U (nearS st N np fk fo U)), .int (nI (8448 * sd + nearS st N np fk fo U)), .ref (mo 14)]) (congrArg (fun z => F0 m 196 ls (.int z :: [.int (nI (8448 * sd + nearS st N np fk fo U)), .ref (mo 14)])) (hRS.2.2.2.2.2 _ hnr)) ?_
        refine lv_iload_n hx hb dX11_learn_196 rfl (lv_at hl 3 rfl) ?_
        refine lv_iconst (v := 1) hx hb dX11_learn_197 (by decide) ?_
        refine r_iteN (ls := ls) (J := 207) (a1 := 0) (a2 := 65535) (rest := [.int (s_fx U (nearS st N np fk fo U)), .int (nI (8448 * sd + nearS st N np fk fo U)), .ref (mo 14)]) (lv_icmp_ne (tgt := 206) hx hb dX11_learn_198 (by decide)) (fun h_5 kont => ?_) (fun h_5 kont => ?_) ?_
        · skip
          refine lv_iconst (v := 0) hx hb dX11_learn_206 (by decide) ?_
          exact kont
        · skip
          refine lv_ldc (v := 65535) hx hb C.ow (C.ts _ k944) dX11_learn_201 ?_
          refine lv_goto (tgt := 207) hx hb dX11_learn_203 (by decide) ?_
          exact kont
        refine W.eq (g2 := F0 m 207 ls [.int (if on = 0 then 0 else 65535), .int (s_fx U (nearS st N np fk fo U)), .int (nI (8448 * sd + nearS st N np fk fo U)), .ref (mo 14)]) (congrArg (fun z => F0 m 207 ls (.int z :: [.int (s_fx U (nearS st N np fk fo U)), .int (nI (8448 * sd + nearS st N np fk fo U)), .ref (mo 14)])) (bit_if hon)) ?_
        refine lv_aload_n hx hb dX11_learn_207 rfl (lv_at hl 1 rfl) ?_
        refine gX11_50 C hT (q0 := 0) rfl dX11_learn_208 ?_
        refine lv_iload hx hb dX11_learn_211 (lv_at hl 0 rfl) ?_
        refine r_iald C hT (q0 := 14) rfl (8448 * sd + nearS st N np fk fo U) rfl (by omega) (by decide) dX11_learn_213 ?_
        refine W.eq (g2 := F0 m 214 ls [.int (s_fx U (nearS st N np fk fo U)), .int (if on = 0 then 0 else 65535), .int (s_fx U (nearS st N np fk fo U)), .int (nI (8448 * sd + nearS st N np fk fo U)), .ref (mo 14)]) (congrArg (fun z => F0 m 214 ls (.int z :: [.int (if on = 0 then 0 else 65535), .int (s_fx U (nearS st N np fk fo U)), .int (nI (8448 * sd + nearS st N np fk fo U)), .ref (mo 14)])) (hRS.2.2.2.2.2 _ hnr)) ?_
        refine lv_isub hx hb dX11_learn_214 ?_
        refine lv_bipush (v := 7) hx hb dX11_learn_215 (by decide) ?_
        refine lv_ishr hx hb dX11_learn_217 ?_
        refine lv_iadd hx hb dX11_learn_218 ?_
        refine W.eq (g2 := F0 m 219 ls [.int (cellUp on (s_fx U (nearS st N np fk fo U))), .int (nI (8448 * sd + nearS st N np fk fo U)), .ref (mo 14)]) (congrArg (fun z => F0 m 219 ls (.int z :: [.int (nI (8448 * sd + nearS st N np fk fo U)), .ref (mo 14)])) (rfl)) ?_
        refine r_iast C hT (q0 := 14) rfl (8448 * sd + nearS st N np fk fo U) rfl (by omega) (by decide) dX11_learn_219 (fun H locs hT => ?_)
        have hT : Wd g A s (mdL g mo rr th np no bt en xx ra (t0S st N np fk fo U) (t1S st N np fk fo U) (nI (lbN (s_f U) (s_n U))) (nI (8448 * sd + 33 * s_nd U + tN st (mxS st N np fk fo U) / 128)) (nI (tN st (mxS st N np fk fo U) % 128)) ch st fk fn fo bb wt nx cx pt le sc ss ww1 (upd xc (8448 * sd + nearS st N np fk fo U) (cellUp on (s_fx U (nearS st N np fk fo U)))) lo hi ou xi) H locs := hT
        refine lv_iconst (v := 0) hx hb dX11_learn_220 (by decide) ?_
        refine lv_istore (lv' := [(6, .int 0), (5, .int (nI (8448 * sd + nearS st N np fk fo U))), (0, .ref (mo 0)), (1, .int (nI sd)), (2, .int on), (3, .int (errI on (t0S st N np fk fo U))), (4, .int (errI on (t1S st N np fk fo U)))]) hx hb dX11_learn_221 hl (by decide) rfl (fun ls hl => ?_)
        have loop_223 : ∀ (fu : Nat) (j2 : Nat) (vx6 : Int32) (sc1 : Nat → Int32) (ss1 : Nat → Int32) (H : Heap) (locs : List Loc) (ls : Array Slot) (hlj : j2 ≤ np) (vex6 : vx6 = nI j2) (hSL : SLI sd N fo fk U on sc ss j2 sc1 ss1), np - j2 < fu → Wd g A s (mdL g mo rr th np no bt en xx ra (t0S st N np fk fo U) (t1S st N np fk fo U) (nI (lbN (s_f U) (s_n U))) (nI (8448 * sd + 33 * s_nd U + tN st (mxS st N np fk fo U) / 128)) (nI (tN st (mxS st N np fk fo U) % 128)) ch st fk fn fo bb wt nx cx pt le sc1 ss1 ww1 (upd xc (8448 * sd + nearS st N np fk fo U) (cellUp on (s_fx U (nearS st N np fk fo U)))) lo hi ou xi) H locs → lv_has ls 9 [(0, .ref (mo 0)), (1, .int (nI sd)), (2, .int on), (6, .int vx6)] → W p l e ({ frames := 3, cells := 0, slots := 0, locals := 73 } : Room) s m ([.ref (mo 0), .int (nI sd), .int on] : List Value).toArray below meth c H locs 0 0 Q (F0 m 223 ls []) := by
          intro fu_223
          induction fu_223 with
          | zero => intro j2 vx6 sc1 ss1 H locs ls hlj vex6 hSL hm; exact absurd hm (Nat.not_lt_zero _)
          | succ fu_223 ih_223 =>
            intro j2 vx6 sc1 ss1 H locs ls hlj vex6 hSL hm_223 hT hl
            refine lv_iload hx hb dX11_learn_223 (lv_at hl 3 rfl) ?_
            refine lv_aload_n hx hb dX11_learn_225 rfl (lv_at hl 0 rfl) ?_
            refine gX11_91 C hT (q0 := 0) rfl dX11_learn_226 ?_
            refine lv_icmp_ge (tgt := 350) hx hb dX11_learn_229 (by decide) (fun h_6 => ?_) (fun h_6 => ?_)
            · skip
              have hjn := lp_end vex6 (by omega) hlj h_6
              rw [hjn] at hSL
              refine lv_aload_n hx hb dX11_learn_350 rfl (lv_at hl 0 rfl) ?_
              refine gX11_29 C hT (q0 := 0) rfl dX11_learn_351 ?_
              refine lv_iload_n hx hb dX11_learn_354 rfl (lv_at hl 1 rfl) ?_
              refine lv_iconst (v := 2) hx hb dX11_learn_355 (by decide) ?_
              refine lv_aload_n hx hb dX11_learn_356 rfl (lv_at hl 0 rfl) ?_
              refine gX11_29 C hT (q0 := 0) rfl dX11_learn_357 ?_
              refine lv_iload_n hx hb dX11_learn_360 rfl (lv_at hl 1 rfl) ?_
              refine r_iald C hT (q0 := 7) rfl sd rfl (by omega) (by decide) dX11_learn_361 ?_
              refine W.eq (g2 := F0 m 362 ls [.int (nI (s_nd U)), .int 2, .int (nI sd), .ref (mo 7)]) (congrArg (fun z => F0 m 362 ls (.int z :: [.int 2, .int (nI sd), .ref (mo 7)])) (hRS.1.2.1)) ?_
              refine lv_imul hx hb dX11_learn_362 ?_
              refine W.eq (g2 := F0 m 363 ls [.int (nI (2 * s_nd U)), .int (nI sd), .ref (mo 7)]) (congrArg (fun z => F0 m 363 ls (.int z :: [.int (nI sd), .ref (mo 7)])) (pk_mul 2 _)) ?_
              refine lv_iload_n hx hb dX11_learn_363 rfl (lv_at hl 2 rfl) ?_
              refine W.eq (g2 := F0 m 364 ls [.int (nI (bitN on)), .int (nI (2 * s_nd U)), .int (nI sd), .ref (mo 7)]) (congrArg (fun z => F0 m 364 ls (.int z :: [.int (nI (2 * s_nd U)), .int (nI sd), .ref (mo 7)])) (bit_nI hon)) ?_
              refine lv_iadd hx hb dX11_learn_364 ?_
              refine W.eq (g2 := F0 m 365 ls [.int (nI (2 * s_nd U + bitN on)), .int (nI sd), .ref (mo 7)]) (congrArg (fun z => F0 m 365 ls (.int z :: [.int (nI sd), .ref (mo 7)])) (nI_add _ _)) ?_
              refine r_iast C hT (q0 := 7) rfl sd rfl (by omega) (by decide) dX11_learn_365 (fun H locs hT => ?_)
              have hT : Wd g A s (mdL g mo rr th np no bt en xx ra (t0S st N np fk fo U) (t1S st N np fk fo U) (nI (lbN (s_f U) (s_n U))) (nI (8448 * sd + 33 * s_nd U + tN st (mxS st N np fk fo U) / 128)) (nI (tN st (mxS st N np fk fo U) % 128)) ch st fk fn fo bb wt (upd nx sd (nI (2 * s_nd U + bitN on))) cx pt le sc1 ss1 ww1 (upd xc (8448 * sd + nearS st N np fk fo U) (cellUp on (s_fx U (nearS st N np fk fo U)))) lo hi ou xi) H locs := hT
              refine lv_aload_n hx hb dX11_learn_366 rfl (lv_at hl 0 rfl) ?_
              refine gX11_29 C hT (q0 := 0) rfl dX11_learn_367 ?_
              refine lv_iload_n hx hb dX11_learn_370 rfl (lv_at hl 1 rfl) ?_
              refine r_iald C hT (q0 := 7) rfl sd rfl (by omega) (by decide) dX11_learn_371 ?_
              refine W.eq (g2 := F0 m 372 ls [.int (nI (2 * s_nd U + bitN on))]) (congrArg (fun z => F0 m 372 ls (.int z :: [])) (upd_at _ _ _)) ?_
              refine lv_sipush (v := 255) hx hb dX11_learn_372 (by decide) ?_
              refine lv_icmp_le (tgt := 428) hx hb dX11_learn_375 (by decide) (fun h_7 => ?_) (fun h_7 => ?_)
              · skip
                have h7 := bg7_le hX.2.1.1 hbg h_7 hnd hb2
                have hT : Wd g A s (mdL g mo rr th np no bt en xx ra (t0S st N np fk fo U) (t1S st N np fk fo U) (nI (lbN (s_f U) (s_n U))) (nI (8448 * sd + 33 * s_nd U + tN st (mxS st N np fk fo U) / 128)) (nI (tN st (mxS st N np fk fo U) % 128)) ch st fk fn fo bb wt (upd nx sd (nI (2 * s_nd U + bitN on))) cx pt le sc1 ss1 ww1 (upd xc (8448 * sd + nearS st N np fk fo U) (cellUp on (s_fx U (nearS st N np fk fo U)))) lo hi ou xi) H locs := hT
                exact e_vret C hQ ⟨(bb, wt, upd nx sd (nI (2 * s_nd U + bitN on)), cx, pt, le, sc1, ss1, ww1, upd xc (8448 * sd + nearS st N np fk fo U) (cellUp on (s_fx U (nearS st N np fk fo U)))), (by first | exact RS_mid hRS h7 (hww ▸ RSw_step hsd hnp hRS.2.2.2.2.1 hX hxi hx2) (RSs_step hN4 hRS.2.2.2.1 hSL) (RSx_step hRS.2.2.2.2.2 rfl) | exact RS_last hRS h7 hnl (hww ▸ RSw_step hsd hnp hRS.2.2.2.2.1 hX hxi hx2) (RSs_step hN4 hRS.2.2.2.1 hSL) (RSx_step hRS.2.2.2.2.2 rfl) hrc_425 hrm_425), (by first | exact (fun s2 V h2 hne h => ⟨RSb_o1 hne h.1, h.2.1, h.2.2.1, RSs_o hN4 h2 hsd hne h.2.2.2.1 hSL, hww ▸ RSw_o hsd h2 hne hnp hnd hlb (by omega) h.2.2.2.2.1, RSx_o h2 hsd hne hnr h.2.2.2.2.2⟩) | exact (fun s2 V h2 hne h => ⟨RSb_o1 hne (RSb_o h2 hsd hne hnl h.1), RC_o h2 hsd hne hnp hfr_425 h.2.1, RM_o h2 hsd hne hnp hfr_425 h.2.2.1, RSs_o hN4 h2 hsd hne h.2.2.2.1 hSL, hww ▸ RSw_o hsd h2 hne hnp hnd hlb (by omega) h.2.2.2.2.1, RSx_o h2 hsd hne hnr h.2.2.2.2.2⟩))⟩ hT rfl dX11_learn_428
              · skip
                have h7 := bg7_gt hX.2.1.2 hbg h_7 hnd hb2
                refine lv_aload_n hx hb dX11_learn_378 rfl (lv_at hl 0 rfl) ?_
                refine gX11_23 C hT (q0 := 0) rfl dX11_learn_379 ?_
                refine lv_sipush (v := 2050) hx hb dX11_learn_382 (by decide) ?_
                refine lv_iload_n hx hb dX11_learn_385 rfl (lv_at hl 1 rfl) ?_
                refine lv_imul hx hb dX11_learn_386 ?_
                refine W.eq (g2 := F0 m 387 ls [.int (nI (2050 * sd)), .ref (mo 5)]) (congrArg (fun z => F0 m 387 ls (.int z :: [.ref (mo 5)])) (pk_mul 2050 sd)) ?_
                refine lv_aload_n hx hb dX11_learn_387 rfl (lv_at hl 0 rfl) ?_
                refine gX11_26 C hT (q0 := 0) rfl dX11_learn_388 ?_
                refine lv_iload_n hx hb dX11_learn_391 rfl (lv_at hl 1 rfl) ?_
                refine r_iald C hT (q0 := 6) rfl sd rfl (by omega) (by decide) dX11_learn_392 ?_
                refine W.eq (g2 := F0 m 393 ls [.int (nI (s_n U)), .int (nI (2050 * sd)), .ref (mo 5)]) (congrArg (fun z => F0 m 393 ls (.int z :: [.int (nI (2050 * sd)), .ref (mo 5)])) (hRS.1.1)) ?_
                refine lv_iadd hx hb dX11_learn_393 ?_
                refine W.eq (g2 := F0 m 394 ls [.int (nI (2050 * sd + s_n U)), .ref (mo 5)]) (congrArg (fun z => F0 m 394 ls (.int z :: [.ref (mo 5)])) (nI_add _ _)) ?_
                refine lv_aload_n hx hb dX11_learn_394 rfl (lv_at hl 0 rfl) ?_
                refine gX11_29 C hT (q0 := 0) rfl dX11_learn_395 ?_
                refine lv_iload_n hx hb dX11_learn_398 rfl (lv_at hl 1 rfl) ?_
                refine r_iald C hT (q0 := 7) rfl sd rfl (by omega) (by decide) dX11_learn_399 ?_
                refine W.eq (g2 := F0 m 400 ls [.int (nI (2 * s_nd U + bitN on)), .int (nI (2050 * sd + s_n U)), .ref (mo 5)]) (congrArg (fun z => F0 m 400 ls (.int z :: [.int (nI (2050 * sd + s_n U)), .ref (mo 5)])) (upd_at _ _ _)) ?_
                refine lv_sipush (v := 255) hx hb dX11_learn_400 (by decide) ?_
                refine lv_iand hx hb dX11_learn_403 ?_
                refine W.eq (g2 := F0 m 404 ls [.int (nI ((2 * s_nd U + bitN on) % 256)), .int (nI (2050 * sd + s_n U)), .ref (mo 5)]) (congrArg (fun z => F0 m 404 ls (.int z :: [.int (nI (2050 * sd + s_n U)), .ref (mo 5)])) (andI (by omega) 8 (by decide))) ?_
                refine r_iast C hT (q0 := 5) rfl (2050 * sd + s_n U) rfl (by omega) (by decide) dX11_learn_404 (fun H locs hT => ?_)
                have hT : Wd g A s (mdL g mo rr th np no bt en xx ra (t0S st N np fk fo U) (t1S st N np fk fo U) (nI (lbN (s_f U) (s_n U))) (nI (8448 * sd + 33 * s_nd U + tN st (mxS st N np fk fo U) / 128)) (nI (tN st (mxS st N np fk fo U) % 128)) ch st fk fn fo (upd bb (2050 * sd + s_n U) (nI ((2 * s_nd U + bitN on) % 256))) wt (upd nx sd (nI (2 * s_nd U + bitN on))) cx pt le sc1 ss1 ww1 (upd xc (8448 * sd + nearS st N np fk fo U) (cellUp on (s_fx U (nearS st N np fk fo U)))) lo hi ou xi) H locs := hT
                refine lv_aload_n hx hb dX11_learn_405 rfl (lv_at hl 0 rfl) ?_
                refine gX11_26 C hT (q0 := 0) rfl dX11_learn_406 ?_
                refine lv_iload_n hx hb dX11_learn_409 rfl (lv_at hl 1 rfl) ?_
                refine lv_dup2_11 hx hb dX11_learn_410 rfl rfl ?_
                refine r_iald C hT (q0 := 6) rfl sd rfl (by omega) (by decide) dX11_learn_411 ?_
                refine W.eq (g2 := F0 m 412 ls [.int (nI (s_n U)), .int (nI sd), .ref (mo 6)]) (congrArg (fun z => F0 m 412 ls (.int z :: [.int (nI sd), .ref (mo 6)])) (hRS.1.1)) ?_
                refine lv_iconst (v := 1) hx hb dX11_learn_412 (by decide) ?_
                refine lv_iadd hx hb dX11_learn_413 ?_
                refine W.eq (g2 := F0 m 414 ls [.int (nI (s_n U + 1)), .int (nI sd), .ref (mo 6)]) (congrArg (fun z => F0 m 414 ls (.int z :: [.int (nI sd), .ref (mo 6)])) (nI_1 _)) ?_
                refine r_iast C hT (q0 := 6) rfl sd rfl (by omega) (by decide) dX11_learn_414 (fun H locs hT => ?_)
                have hT : Wd g A s (mdL g mo rr th np no bt en xx ra (t0S st N np fk fo U) (t1S st N np fk fo U) (nI (lbN (s_f U) (s_n U))) (nI (8448 * sd + 33 * s_nd U + tN st (mxS st N np fk fo U) / 128)) (nI (tN st (mxS st N np fk fo U) % 128)) ch st fk fn fo (upd bb (2050 * sd + s_n U) (nI ((2 * s_nd U + bitN on) % 256))) (upd wt sd (nI (s_n U + 1))) (upd nx sd (nI (2 * s_nd U + bitN on))) cx pt le sc1 ss1 ww1 (upd xc (8448 * sd + nearS st N np fk fo U) (cellUp on (s_fx U (nearS st N np fk fo U)))) lo hi ou xi) H locs := hT
                refine lv_aload_n hx hb dX11_learn_415 rfl (lv_at hl 0 rfl) ?_
                refine gX11_29 C hT (q0 := 0) rfl dX11_learn_416 ?_
                refine lv_iload_n hx hb dX11_learn_419 rfl (lv_at hl 1 rfl) ?_
                refine lv_iconst (v := 1) hx hb dX11_learn_420 (by decide) ?_
                refine r_iast C hT (q0 := 7) rfl sd rfl (by omega) (by decide) dX11_learn_421 (fun H locs hT => ?_)
                have hT : Wd g A s (mdL g mo rr th np no bt en xx ra (t0S st N np fk fo U) (t1S st N np fk fo U) (nI (lbN (s_f U) (s_n U))) (nI (8448 * sd + 33 * s_nd U + tN st (mxS st N np fk fo U) / 128)) (nI (tN st (mxS st N np fk fo U) % 128)) ch st fk fn fo (upd bb (2050 * sd + s_n U) (nI ((2 * s_nd U + bitN on) % 256))) (upd wt sd (nI (s_n U + 1))) (upd (upd nx sd (nI (2 * s_nd U + bitN on))) sd 1) cx pt le sc1 ss1 ww1 (upd xc (8448 * sd + nearS st N np fk fo U) (cellUp on (s_fx U (nearS st N np fk fo U)))) lo hi ou xi) H locs := hT
                refine lv_aload_n hx hb dX11_learn_422 rfl (lv_at hl 0 rfl) ?_
                refine lv_iload_n hx hb dX11_learn_423 rfl (lv_at hl 1 rfl) ?_
                refine lv_iconst (v := 1) hx hb dX11_learn_424 (by decide) ?_
                have hM := c_X11_byteBegins l g mo rr th np no bt en xx ra (t0S st N np fk fo U) (t1S st N np fk fo U) (nI (lbN (s_f U) (s_n U))) (nI (8448 * sd + 33 * s_nd U + tN st (mxS st N np fk fo U) / 128)) (nI (tN st (mxS st N np fk fo U) % 128)) ch st fk fn fo (upd bb (2050 * sd + s_n U) (nI ((2 * s_nd U + bitN on) % 256))) (upd wt sd (nI (s_n U + 1))) (upd (upd nx sd (nI (2 * s_nd U + bitN on))) sd 1) cx pt le sc1 ss1 ww1 (upd xc (8448 * sd + nearS st N np fk fo U) (cellUp on (s_fx U (nearS st N np fk fo U)))) lo hi ou xi sd (s_n U + 1) (lfS on U) (s_cx U) (s_mp U) (s_ml U) 1 hsd (upd_at _ _ _) (by omega) hnp hG.2.2.2.1 (lf_bb hRS hnl) hRS.2.2.1 (fun j h1 h2 => ⟨(hX.2.2.2.2.1 j h1 h2).1, fun q => Nat.lt_succ_of_lt ((hX.2.2.2.2.1 j h1 h2).2 q)⟩) (fun z => absurd z (by decide))
                refine r_callW C hT (runVW (rm := ({ frames := 2, cells := 0, slots := 0, locals := 50 } : Room)) (As := [.int (nI sd), .int 1]) (n := 2) (q1 := 0) (rest := []) C hT hM k752 k754 s13 k15 k755 (by decide +kernel) rfl rfl rfl rfl (Nat.le_of_ble_eq_true rfl) hl.1 ⟨Nat.le_of_ble_eq_true rfl, Nat.le_of_ble_eq_true rfl⟩ ⟨Nat.le_of_ble_eq_true rfl, Nat.le_of_ble_eq_true rfl⟩ dX11_learn_425) (fun u H locs hT => ?_)
                obtain ⟨⟨cx2_425, pt2_425, le2_425⟩, hrc_425, hrm_425, hfr_425⟩ := u
                replace hrc_425 : RC sd np fk (bgC (lfS on U) (s_n U + 1) fk fn (s_cx U) np) cx2_425 := hrc_425
                replace hrm_425 : RM sd np fk (bgP (lfS on U) (s_n U + 1) fk fn (s_mp U) (s_ml U) np) (bgL (lfS on U) (s_n U + 1) fk fn (s_mp U) (s_ml U) np) pt2_425 le2_425 := hrm_425
                replace hfr_425 : ∀ k, k < 8 * sd ∨ 8 * sd + 8 ≤ k → cx2_425 k = cx k ∧ pt2_425 k = pt k ∧ le2_425 k = le k := hfr_425
                have hT : Wd g A s (mdL g mo rr th np no bt en xx ra (t0S st N np fk fo U) (t1S st N np fk fo U) (nI (lbN (s_f U) (s_n U))) (nI (8448 * sd + 33 * s_nd U + tN st (mxS st N np fk fo U) / 128)) (nI (tN st (mxS st N np fk fo U) % 128)) ch st fk fn fo (upd bb (2050 * sd + s_n U) (nI ((2 * s_nd U + bitN on) % 256))) (upd wt sd (nI (s_n U + 1))) (upd (upd nx sd (nI (2 * s_nd U + bitN on))) sd 1) cx2_425 pt2_425 le2_425 sc1 ss1 ww1 (upd xc (8448 * sd + nearS st N np fk fo U) (cellUp on (s_fx U (nearS st N np fk fo U)))) lo hi ou xi) H locs := hT
                refine W.eq (g2 := F0 m 428 ls []) rfl ?_
                have hT : Wd g A s (mdL g mo rr th np no bt en xx ra (t0S st N np fk fo U) (t1S st N np fk fo U) (nI (lbN (s_f U) (s_n U))) (nI (8448 * sd + 33 * s_nd U + tN st (mxS st N np fk fo U) / 128)) (nI (tN st (mxS st N np fk fo U) % 128)) ch st fk fn fo (upd bb (2050 * sd + s_n U) (nI ((2 * s_nd U + bitN on) % 256))) (upd wt sd (nI (s_n U + 1))) (upd (upd nx sd (nI (2 * s_nd U + bitN on))) sd 1) cx2_425 pt2_425 le2_425 sc1 ss1 ww1 (upd xc (8448 * sd + nearS st N np fk fo U) (cellUp on (s_fx U (nearS st N np fk fo U)))) lo hi ou xi) H locs := hT
                exact e_vret C hQ ⟨(upd bb (2050 * sd + s_n U) (nI ((2 * s_nd U + bitN on) % 256)), upd wt sd (nI (s_n U + 1)), upd (upd nx sd (nI (2 * s_nd U + bitN on))) sd 1, cx2_425, pt2_425, le2_425, sc1, ss1, ww1, upd xc (8448 * sd + nearS st N np fk fo U) (cellUp on (s_fx U (nearS st N np fk fo U)))), (by first | exact RS_mid hRS h7 (hww ▸ RSw_step hsd hnp hRS.2.2.2.2.1 hX hxi hx2) (RSs_step hN4 hRS.2.2.2.1 hSL) (RSx_step hRS.2.2.2.2.2 rfl) | exact RS_last hRS h7 hnl (hww ▸ RSw_step hsd hnp hRS.2.2.2.2.1 hX hxi hx2) (RSs_step hN4 hRS.2.2.2.1 hSL) (RSx_step hRS.2.2.2.2.2 rfl) hrc_425 hrm_425), (by first | exact (fun s2 V h2 hne h => ⟨RSb_o1 hne h.1, h.2.1, h.2.2.1, RSs_o hN4 h2 hsd hne h.2.2.2.1 hSL, hww ▸ RSw_o hsd h2 hne hnp hnd hlb (by omega) h.2.2.2.2.1, RSx_o h2 hsd hne hnr h.2.2.2.2.2⟩) | exact (fun s2 V h2 hne h => ⟨RSb_o1 hne (RSb_o h2 hsd hne hnl h.1), RC_o h2 hsd hne hnp hfr_425 h.2.1, RM_o h2 hsd hne hnp hfr_425 h.2.2.1, RSs_o hN4 h2 hsd hne h.2.2.2.1 hSL, hww ▸ RSw_o hsd h2 hne hnp hnd hlb (by omega) h.2.2.2.2.1, RSx_o h2 hsd hne hnr h.2.2.2.2.2⟩))⟩ hT rfl dX11_learn_428
            · skip
              have hjn := lp_go vex6 (by omega) hlj h_6
              have hj8 : j2 < 8 := by omega
              have hali := hG.2.2.2.1 j2 hjn
              refine lv_aload_n hx hb dX11_learn_232 rfl (lv_at hl 0 rfl) ?_
              refine gX11_13 C hT (q0 := 0) rfl dX11_learn_233 ?_
              refine lv_iload hx hb dX11_learn_236 (lv_at hl 3 rfl) ?_
              refine r_iald C hT (q0 := 2) rfl j2 vex6 hj8 (by decide) dX11_learn_238 ?_
              refine lv_iconst (v := 4) hx hb dX11_learn_239 (by decide) ?_
              refine lv_icmp_ge (tgt := 344) hx hb dX11_learn_240 (by decide) (fun h_8 => ?_) (fun h_8 => ?_)
              · skip
                have hk4 := (allow_k hali).mp h_8
                have hok : slOk fo fk j2 = false := by simp [slOk, hk4]
                obtain ⟨x_9, ex_9⟩ : ∃ y : Int32, y = vx6 + 1 := ⟨_, rfl⟩
                refine lv_iinc (v := x_9) (lv' := [(6, .int x_9), (0, .ref (mo 0)), (1, .int (nI sd)), (2, .int on)]) hx hb dX11_learn_344 hl (k := 3) rfl (by rw [ex_9]; rfl) (by decide) rfl (fun ls hl => ?_)
                refine lv_goto (tgt := 223) hx hb dX11_learn_347 (by decide) ?_
                exact ih_223 (j2 + 1) x_9 sc1 ss1 H locs ls (by first | omega | assumption | rfl) (by rw [ex_9, vex6]; exact nI_1 j2) (by first | exact SLI_n hSL hok | exact SLI_y hSL hok rfl hslt rfl rfl) (by omega) hT (lv_sub hl [1, 2, 3, 0] rfl)
              · skip
                have hk4 : ¬ fk j2 = 4 := fun q => h_8 ((allow_k hali).mpr q)
                refine lv_aload_n hx hb dX11_learn_243 rfl (lv_at hl 0 rfl) ?_
                refine gX11_19 C hT (q0 := 0) rfl dX11_learn_244 ?_
                refine lv_iload hx hb dX11_learn_247 (lv_at hl 3 rfl) ?_
                refine r_zald C hT (q0 := 4) rfl j2 vex6 hj8 (by decide) dX11_learn_249 ?_
                refine lv_if_ne (tgt := 344) hx hb dX11_learn_250 (by decide) (fun h_10 => ?_) (fun h_10 => ?_)
                · skip
                  have hok : slOk fo fk j2 = false := by simp [slOk, h_10]
                  obtain ⟨x_11, ex_11⟩ : ∃ y : Int32, y = vx6 + 1 := ⟨_, rfl⟩
                  refine lv_iinc (v := x_11) (lv' := [(6, .int x_11), (0, .ref (mo 0)), (1, .int (nI sd)), (2, .int on)]) hx hb dX11_learn_344 hl (k := 3) rfl (by rw [ex_11]; rfl) (by decide) rfl (fun ls hl => ?_)
                  refine lv_goto (tgt := 223) hx hb dX11_learn_347 (by decide) ?_
                  exact ih_223 (j2 + 1) x_11 sc1 ss1 H locs ls (by first | omega | assumption | rfl) (by rw [ex_11, vex6]; exact nI_1 j2) (by first | exact SLI_n hSL hok | exact SLI_y hSL hok rfl hslt rfl rfl) (by omega) hT (lv_sub hl [1, 2, 3, 0] rfl)
                · skip
                  have hok : slOk fo fk j2 = true := by simp [slOk, hk4, h_10]
                  have hslt := slot_lt (a := s_cx U j2) (b := nI (s_nd U)) hN
                  have hrg := (sl_rng (fo := fo) (fk := fk) (on := on) hX.1.2.2.2.1 hX.2.2.1 j2 _ hslt).2
                  refine lv_aload_n hx hb dX11_learn_253 rfl (lv_at hl 0 rfl) ?_
                  refine lv_iload_n hx hb dX11_learn_254 rfl (lv_at hl 1 rfl) ?_
                  refine lv_iload hx hb dX11_learn_255 (lv_at hl 3 rfl) ?_
                  refine W.eq (g2 := F0 m 257 ls [.int (nI j2), .int (nI sd), .ref (mo 0)]) (congrArg (fun z => F0 m 257 ls (.int z :: [.int (nI sd), .ref (mo 0)])) (vex6)) ?_
                  have hM := c_X11_slotOf l g mo rr th np no bt en xx ra (t0S st N np fk fo U) (t1S st N np fk fo U) (nI (lbN (s_f U) (s_n U))) (nI (8448 * sd + 33 * s_nd U + tN st (mxS st N np fk fo U) / 128)) (nI (tN st (mxS st N np fk fo U) % 128)) ch st fk fn fo bb wt nx cx pt le sc1 ss1 ww1 (upd xc (8448 * sd + nearS st N np fk fo U) (cellUp on (s_fx U (nearS st N np fk fo U)))) lo hi ou xi sd j2 hsd (by first | omega | assumption) (by first | omega | assumption)
                  refine r_callRO (js := [0, 1, 2, 3, 4, 5, 6, 7, 8, 9, 10, 11, 12, 13, 14, 15, 16, 17, 18]) C hT (runV (js := [0, 1, 2, 3, 4, 5, 6, 7, 8, 9, 10, 11, 12, 13, 14, 15, 16, 17, 18]) (rm := ({ frames := 1, cells := 0, slots := 0, locals := 22 } : Room)) (As := [.int (nI sd), .int (nI j2)]) (n := 2) (q1 := 0) (rest := []) C hT hM rfl rfl k919 k921 s22 k15 k922 (by decide +kernel) rfl rfl rfl rfl (Nat.le_of_ble_eq_true rfl) hl.1 ⟨Nat.le_of_ble_eq_true rfl, Nat.le_of_ble_eq_true rfl⟩ ⟨Nat.le_of_ble_eq_true rfl, Nat.le_of_ble_eq_true rfl⟩ dX11_learn_257) rfl rfl (fun u H locs hT => ?_)
                  refine W.eq (g2 := F0 m 260 ls [.int (nI (4096 * sd + slotN (2 ^ rr) (cx (8 * sd + j2)) (nx sd)))]) rfl ?_
                  refine W.eq (g2 := F0 m 260 ls [.int (nI (4096 * sd + slotN N (s_cx U j2) (nI (s_nd U))))]) (congrArg (fun z => F0 m 260 ls (.int z :: [])) ((by rw [hRS.2.1 j2 hjn hk4, hRS.1.2.1, ← hN]))) ?_
                  refine lv_istore (lv' := [(7, .int (nI (4096 * sd + slotN N (s_cx U j2) (nI (s_nd U))))), (0, .ref (mo 0)), (1, .int (nI sd)), (2, .int on), (6, .int vx6)]) hx hb dX11_learn_260 hl (by decide) rfl (fun ls hl => ?_)
                  refine lv_iload_n hx hb dX11_learn_262 rfl (lv_at hl 3 rfl) ?_
                  refine lv_iconst (v := 1) hx hb dX11_learn_263 (by decide) ?_
                  refine r_iteN (ls := ls) (J := 273) (a1 := 0) (a2 := 65535) (rest := []) (lv_icmp_ne (tgt := 272) hx hb dX11_learn_264 (by decide)) (fun h_12 kont => ?_) (fun h_12 kont => ?_) ?_
                  · skip
                    refine lv_iconst (v := 0) hx hb dX11_learn_272 (by decide) ?_
                    exact kont
                  · skip
                    refine lv_ldc (v := 65535) hx hb C.ow (C.ts _ k944) dX11_learn_267 ?_
                    refine lv_goto (tgt := 273) hx hb dX11_learn_269 (by decide) ?_
                    exact kont
                  refine W.eq (g2 := F0 m 273 ls [.int (if on = 0 then 0 else 65535)]) (congrArg (fun z => F0 m 273 ls (.int z :: [])) (bit_if hon)) ?_
                  refine lv_aload_n hx hb dX11_learn_273 rfl (lv_at hl 1 rfl) ?_
                  refine gX11_41 C hT (q0 := 0) rfl dX11_learn_274 ?_
                  refine lv_iload hx hb dX11_learn_277 (lv_at hl 0 rfl) ?_
                  refine r_iald C hT (q0 := 11) rfl (4096 * sd + slotN N (s_cx U j2) (nI (s_nd U))) rfl (by omega) (by decide) dX11_learn_279 ?_
                  refine W.eq (g2 := F0 m 280 ls [.int (slC fo fk N (s_nd U) (s_cx U) on (s_fc U) (s_fs U) j2 (slotN N (s_cx U j2) (nI (s_nd U)))), .int (if on = 0 then 0 else 65535)]) (congrArg (fun z => F0 m 280 ls (.int z :: [.int (if on = 0 then 0 else 65535)])) ((hSL.1 _ hslt).1)) ?_
                  refine lv_isub hx hb dX11_learn_280 ?_
                  refine W.eq (g2 := F0 m 281 ls [.int ((if on = 0 then 0 else 65535) - slC fo fk N (s_nd U) (s_cx U) on (s_fc U) (s_fs U) j2 (slotN N (s_cx U j2) (nI (s_nd U))))]) (congrArg (fun z => F0 m 281 ls (.int z :: [])) (rfl)) ?_
                  refine lv_istore (lv' := [(8, .int ((if on = 0 then 0 else 65535) - slC fo fk N (s_nd U) (s_cx U) on (s_fc U) (s_fs U) j2 (slotN N (s_cx U j2) (nI (s_nd U))))), (7, .int (nI (4096 * sd + slotN N (s_cx U j2) (nI (s_nd U))))), (0, .ref (mo 0)), (1, .int (nI sd)), (2, .int on), (6, .int vx6)]) hx hb dX11_learn_281 hl (by decide) rfl (fun ls hl => ?_)
                  refine lv_aload_n hx hb dX11_learn_283 rfl (lv_at hl 2 rfl) ?_
                  refine gX11_41 C hT (q0 := 0) rfl dX11_learn_284 ?_
                  refine lv_iload hx hb dX11_learn_287 (lv_at hl 1 rfl) ?_
                  refine lv_dup2_11 hx hb dX11_learn_289 rfl rfl ?_
                  refine r_iald C hT (q0 := 11) rfl (4096 * sd + slotN N (s_cx U j2) (nI (s_nd U))) rfl (by omega) (by decide) dX11_learn_290 ?_
                  refine W.eq (g2 := F0 m 291 ls [.int (slC fo fk N (s_nd U) (s_cx U) on (s_fc U) (s_fs U) j2 (slotN N (s_cx U j2) (nI (s_nd U)))), .int (nI (4096 * sd + slotN N (s_cx U j2) (nI (s_nd U)))), .ref (mo 11)]) (congrArg (fun z => F0 m 291 ls (.int z :: [.int (nI (4096 * sd + slotN N (s_cx U j2) (nI (s_nd U)))), .ref (mo 11)])) ((hSL.1 _ hslt).1)) ?_
                  refine lv_iload hx hb dX11_learn_291 (lv_at hl 0 rfl) ?_
                  refine lv_ldc (v := 65536) hx hb C.ow (C.ts _ k945) dX11_learn_293 ?_
                  refine lv_aload_n hx hb dX11_learn_295 rfl (lv_at hl 2 rfl) ?_
                  refine gX11_44 C hT (q0 := 0) rfl dX11_learn_296 ?_
                  refine lv_iload hx hb dX11_learn_299 (lv_at hl 1 rfl) ?_
                  refine r_iald C hT (q0 := 12) rfl (4096 * sd + slotN N (s_cx U j2) (nI (s_nd U))) rfl (by omega) (by decide) dX11_learn_301 ?_
                  refine W.eq (g2 := F0 m 302 ls [.int (slS fo fk N (s_nd U) (s_cx U) on (s_fc U) (s_fs U) j2 (slotN N (s_cx U j2) (nI (s_nd U)))), .int 65536, .int ((if on = 0 then 0 else 65535) - slC fo fk N (s_nd U) (s_cx U) on (s_fc U) (s_fs U) j2 (slotN N (s_cx U j2) (nI (s_nd U)))), .int (slC fo fk N (s_nd U) (s_cx U) on (s_fc U) (s_fs U) j2 (slotN N (s_cx U j2) (nI (s_nd U)))), .int (nI (4096 * sd + slotN N (s_cx U j2) (nI (s_nd U)))), .ref (mo 11)]) (congrArg (fun z => F0 m 302 ls (.int z :: [.int 65536, .int ((if on = 0 then 0 else 65535) - slC fo fk N (s_nd U) (s_cx U) on (s_fc U) (s_fs U) j2 (slotN N (s_cx U j2) (nI (s_nd U)))), .int (slC fo fk N (s_nd U) (s_cx U) on (s_fc U) (s_fs U) j2 (slotN N (s_cx U j2) (nI (s_nd U)))), .int (nI (4096 * sd + slotN N (s_cx U j2) (nI (s_nd U)))), .ref (mo 11)])) ((hSL.1 _ hslt).2)) ?_
                  refine lv_iconst (v := 2) hx hb dX11_learn_302 (by decide) ?_
                  refine lv_iadd hx hb dX11_learn_303 ?_
                  refine lv_idiv hx hb dX11_learn_304 (rate_n0 hrg) ?_
                  refine W.eq (g2 := F0 m 305 ls [.int (rateI (slS fo fk N (s_nd U) (s_cx U) on (s_fc U) (s_fs U) j2 (slotN N (s_cx U j2) (nI (s_nd U))))), .int ((if on = 0 then 0 else 65535) - slC fo fk N (s_nd U) (s_cx U) on (s_fc U) (s_fs U) j2 (slotN N (s_cx U j2) (nI (s_nd U)))), .int (slC fo fk N (s_nd U) (s_cx U) on (s_fc U) (s_fs U) j2 (slotN N (s_cx U j2) (nI (s_nd U)))), .int (nI (4096 * sd + slotN N (s_cx U j2) (nI (s_nd U)))), .ref (mo 11)]) (congrArg (fun z => F0 m 305 ls (.int z :: [.int ((if on = 0 then 0 else 65535) - slC fo fk N (s_nd U) (s_cx U) on (s_fc U) (s_fs U) j2 (slotN N (s_cx U j2) (nI (s_nd U)))), .int (slC fo fk N (s_nd U) (s_cx U) on (s_fc U) (s_fs U) j2 (slotN N (s_cx U j2) (nI (s_nd U)))), .int (nI (4096 * sd + slotN N (s_cx U j2) (nI (s_nd U)))), .ref (mo 11)])) (rate_R hrg)) ?_
                  refine lv_imul hx hb dX11_learn_305 ?_
                  refine lv_bipush (v := 16) hx hb dX11_learn_306 (by decide) ?_
                  refine lv_ishr hx hb dX11_learn_308 ?_
                  refine lv_iadd hx hb dX11_learn_309 ?_
                  refine W.eq (g2 := F0 m 310 ls [.int (slotUp on (slC fo fk N (s_nd U) (s_cx U) on (s_fc U) (s_fs U) j2 (slotN N (s_cx U j2) (nI (s_nd U)))) (slS fo fk N (s_nd U) (s_cx U) on (s_fc U) (s_fs U) j2 (slotN N (s_cx U j2) (nI (s_nd U))))), .int (nI (4096 * sd + slotN N (s_cx U j2) (nI (s_nd U)))), .ref (mo 11)]) (congrArg (fun z => F0 m 310 ls (.int z :: [.int (nI (4096 * sd + slotN N (s_cx U j2) (nI (s_nd U)))), .ref (mo 11)])) (rfl)) ?_
                  refine r_iast C hT (q0 := 11) rfl (4096 * sd + slotN N (s_cx U j2) (nI (s_nd U))) rfl (by omega) (by decide) dX11_learn_310 (fun H locs hT => ?_)
                  have hT : Wd g A s (mdL g mo rr th np no bt en xx ra (t0S st N np fk fo U) (t1S st N np fk fo U) (nI (lbN (s_f U) (s_n U))) (nI (8448 * sd + 33 * s_nd U + tN st (mxS st N np fk fo U) / 128)) (nI (tN st (mxS st N np fk fo U) % 128)) ch st fk fn fo bb wt nx cx pt le (upd sc1 (4096 * sd + slotN N (s_cx U j2) (nI (s_nd U))) (slotUp on (slC fo fk N (s_nd U) (s_cx U) on (s_fc U) (s_fs U) j2 (slotN N (s_cx U j2) (nI (s_nd U)))) (slS fo fk N (s_nd U) (s_cx U) on (s_fc U) (s_fs U) j2 (slotN N (s_cx U j2) (nI (s_nd U)))))) ss1 ww1 (upd xc (8448 * sd + nearS st N np fk fo U) (cellUp on (s_fx U (nearS st N np fk fo U)))) lo hi ou xi) H locs := hT
                  refine lv_aload_n hx hb dX11_learn_311 rfl (lv_at hl 2 rfl) ?_
                  refine gX11_44 C hT (q0 := 0) rfl dX11_learn_312 ?_
                  refine lv_iload hx hb dX11_learn_315 (lv_at hl 1 rfl) ?_
                  refine lv_aload_n hx hb dX11_learn_317 rfl (lv_at hl 2 rfl) ?_
                  refine gX11_44 C hT (q0 := 0) rfl dX11_learn_318 ?_
                  refine lv_iload hx hb dX11_learn_321 (lv_at hl 1 rfl) ?_
                  refine r_iald C hT (q0 := 12) rfl (4096 * sd + slotN N (s_cx U j2) (nI (s_nd U))) rfl (by omega) (by decide) dX11_learn_323 ?_
                  refine W.eq (g2 := F0 m 324 ls [.int (slS fo fk N (s_nd U) (s_cx U) on (s_fc U) (s_fs U) j2 (slotN N (s_cx U j2) (nI (s_nd U)))), .int (nI (4096 * sd + slotN N (s_cx U j2) (nI (s_nd U)))), .ref (mo 12)]) (congrArg (fun z => F0 m 324 ls (.int z :: [.int (nI (4096 * sd + slotN N (s_cx U j2) (nI (s_nd U)))), .ref (mo 12)])) ((hSL.1 _ hslt).2)) ?_
                  refine lv_bipush (v := 30) hx hb dX11_learn_324 (by decide) ?_
                  refine r_ite (ls := ls) (J := 343) (a1 := 30) (a2 := (slS fo fk N (s_nd U) (s_cx U) on (s_fc U) (s_fs U) j2 (slotN N (s_cx U j2) (nI (s_nd U)))) + 1) (rest := [.int (nI (4096 * sd + slotN N (s_cx U j2) (nI (s_nd U)))), .ref (mo 12)]) (lv_icmp_ge (tgt := 341) hx hb dX11_learn_326 (by decide)) (fun h_13 kont => ?_) (fun h_13 kont => ?_) ?_
                  · skip
                    refine lv_bipush (v := 30) hx hb dX11_learn_341 (by decide) ?_
                    exact kont
                  · skip
                    refine lv_aload_n hx hb dX11_learn_329 rfl (lv_at hl 2 rfl) ?_
                    refine gX11_44 C hT (q0 := 0) rfl dX11_learn_330 ?_
                    refine lv_iload hx hb dX11_learn_333 (lv_at hl 1 rfl) ?_
                    refine r_iald C hT (q0 := 12) rfl (4096 * sd + slotN N (s_cx U j2) (nI (s_nd U))) rfl (by omega) (by decide) dX11_learn_335 ?_
                    refine W.eq (g2 := F0 m 336 ls [.int (slS fo fk N (s_nd U) (s_cx U) on (s_fc U) (s_fs U) j2 (slotN N (s_cx U j2) (nI (s_nd U)))), .int (nI (4096 * sd + slotN N (s_cx U j2) (nI (s_nd U)))), .ref (mo 12)]) (congrArg (fun z => F0 m 336 ls (.int z :: [.int (nI (4096 * sd + slotN N (s_cx U j2) (nI (s_nd U)))), .ref (mo 12)])) ((hSL.1 _ hslt).2)) ?_
                    refine lv_iconst (v := 1) hx hb dX11_learn_336 (by decide) ?_
                    refine lv_iadd hx hb dX11_learn_337 ?_
                    refine lv_goto (tgt := 343) hx hb dX11_learn_338 (by decide) ?_
                    exact kont
                  refine W.eq (g2 := F0 m 343 ls [.int (cntUp (slS fo fk N (s_nd U) (s_cx U) on (s_fc U) (s_fs U) j2 (slotN N (s_cx U j2) (nI (s_nd U))))), .int (nI (4096 * sd + slotN N (s_cx U j2) (nI (s_nd U)))), .ref (mo 12)]) (congrArg (fun z => F0 m 343 ls (.int z :: [.int (nI (4096 * sd + slotN N (s_cx U j2) (nI (s_nd U)))), .ref (mo 12)])) (cnt_R hrg)) ?_
                  refine r_iast C hT (q0 := 12) rfl (4096 * sd + slotN N (s_cx U j2) (nI (s_nd U))) rfl (by omega) (by decide) dX11_learn_343 (fun H locs hT => ?_)
                  have hT : Wd g A s (mdL g mo rr th np no bt en xx ra (t0S st N np fk fo U) (t1S st N np fk fo U) (nI (lbN (s_f U) (s_n U))) (nI (8448 * sd + 33 * s_nd U + tN st (mxS st N np fk fo U) / 128)) (nI (tN st (mxS st N np fk fo U) % 128)) ch st fk fn fo bb wt nx cx pt le (upd sc1 (4096 * sd + slotN N (s_cx U j2) (nI (s_nd U))) (slotUp on (slC fo fk N (s_nd U) (s_cx U) on (s_fc U) (s_fs U) j2 (slotN N (s_cx U j2) (nI (s_nd U)))) (slS fo fk N (s_nd U) (s_cx U) on (s_fc U) (s_fs U) j2 (slotN N (s_cx U j2) (nI (s_nd U)))))) (upd ss1 (4096 * sd + slotN N (s_cx U j2) (nI (s_nd U))) (cntUp (slS fo fk N (s_nd U) (s_cx U) on (s_fc U) (s_fs U) j2 (slotN N (s_cx U j2) (nI (s_nd U)))))) ww1 (upd xc (8448 * sd + nearS st N np fk fo U) (cellUp on (s_fx U (nearS st N np fk fo U)))) lo hi ou xi) H locs := hT
                  obtain ⟨x_14, ex_14⟩ : ∃ y : Int32, y = vx6 + 1 := ⟨_, rfl⟩
                  refine lv_iinc (v := x_14) (lv' := [(6, .int x_14), (8, .int ((if on = 0 then 0 else 65535) - slC fo fk N (s_nd U) (s_cx U) on (s_fc U) (s_fs U) j2 (slotN N (s_cx U j2) (nI (s_nd U))))), (7, .int (nI (4096 * sd + slotN N (s_cx U j2) (nI (s_nd U))))), (0, .ref (mo 0)), (1, .int (nI sd)), (2, .int on)]) hx hb dX11_learn_344 hl (k := 5) rfl (by rw [ex_14]; rfl) (by decide) rfl (fun ls hl => ?_)
                  refine lv_goto (tgt := 223) hx hb dX11_learn_347 (by decide) ?_
                  exact ih_223 (j2 + 1) x_14 (upd sc1 (4096 * sd + slotN N (s_cx U j2) (nI (s_nd U))) (slotUp on (slC fo fk N (s_nd U) (s_cx U) on (s_fc U) (s_fs U) j2 (slotN N (s_cx U j2) (nI (s_nd U)))) (slS fo fk N (s_nd U) (s_cx U) on (s_fc U) (s_fs U) j2 (slotN N (s_cx U j2) (nI (s_nd U)))))) (upd ss1 (4096 * sd + slotN N (s_cx U j2) (nI (s_nd U))) (cntUp (slS fo fk N (s_nd U) (s_cx U) on (s_fc U) (s_fs U) j2 (slotN N (s_cx U j2) (nI (s_nd U)))))) H locs ls (by first | omega | assumption | rfl) (by rw [ex_14, vex6]; exact nI_1 j2) (by first | exact SLI_n hSL hok | exact SLI_y hSL hok rfl hslt rfl rfl) (by omega) hT (lv_sub hl [3, 4, 5, 0] rfl)
        exact loop_223 (np - 0 + 1) 0 0 sc ss H locs ls (by first | omega | assumption | rfl) rfl (SLI_0 hRS.2.2.2.1) (Nat.lt_succ_self _) hT (lv_sub hl [2, 3, 4, 0] rfl)
      · skip
        have hin := lp_le_go vex5 (by omega) hli h_3
        refine lv_iload_n hx hb dX11_learn_55 rfl (lv_at hl 1 rfl) ?_
        refine lv_iconst (v := 0) hx hb dX11_learn_56 (by decide) ?_
        refine W.eq (g2 := F0 m 57 ls [.int (nI 0), .int (nI sd)]) (congrArg (fun z => F0 m 57 ls (.int z :: [.int (nI sd)])) (rfl)) ?_
        refine lv_aload_n hx hb dX11_learn_57 rfl (lv_at hl 0 rfl) ?_
        refine gX11_29 C hT (q0 := 0) rfl dX11_learn_58 ?_
        refine lv_iload_n hx hb dX11_learn_61 rfl (lv_at hl 1 rfl) ?_
        refine r_iald C hT (q0 := 7) rfl sd rfl (by omega) (by decide) dX11_learn_62 ?_
        refine W.eq (g2 := F0 m 63 ls [.int (nI (s_nd U)), .int (nI 0), .int (nI sd)]) (congrArg (fun z => F0 m 63 ls (.int z :: [.int (nI 0), .int (nI sd)])) (hRS.1.2.1)) ?_
        refine lv_iload hx hb dX11_learn_63 (lv_at hl 5 rfl) ?_
        refine W.eq (g2 := F0 m 65 ls [.int (nI i), .int (nI (s_nd U)), .int (nI 0), .int (nI sd)]) (congrArg (fun z => F0 m 65 ls (.int z :: [.int (nI (s_nd U)), .int (nI 0), .int (nI sd)])) (vex5)) ?_
        have hM := c_X11_weightAt l g sd 0 (s_nd U) i
        refine r_callRO (js := []) C hT (runS (js := []) (rm := ({ frames := 0, cells := 0, slots := 0, locals := 0 } : Room)) (As := [.int (nI sd), .int (nI 0), .int (nI (s_nd U)), .int (nI i)]) (n := 4) (rest := []) C hT hM rfl rfl k748 k749 k15 k750 (by decide +kernel) rfl rfl (Nat.le_of_ble_eq_true rfl) hl.1 ⟨Nat.le_of_ble_eq_true rfl, Nat.le_of_ble_eq_true rfl⟩ ⟨Nat.le_of_ble_eq_true rfl, Nat.le_of_ble_eq_true rfl⟩ dX11_learn_65) rfl rfl (fun u H locs hT => ?_)
        refine W.eq (g2 := F0 m 68 ls [.int (nI (wAt sd 0 (s_nd U) i))]) rfl ?_
        refine W.eq (g2 := F0 m 68 ls [.int (nI (wAt sd 0 (s_nd U) 0 + i))]) (congrArg (fun z => F0 m 68 ls (.int z :: [])) (rfl)) ?_
        refine lv_istore (lv' := [(6, .int (nI (wAt sd 0 (s_nd U) 0 + i))), (0, .ref (mo 0)), (1, .int (nI sd)), (2, .int on), (3, .int (errI on (t0S st N np fk fo U))), (4, .int (errI on (t1S st N np fk fo U))), (5, .int vx5)]) hx hb dX11_learn_68 hl (by decide) rfl (fun ls hl => ?_)
        refine lv_iload_n hx hb dX11_learn_70 rfl (lv_at hl 2 rfl) ?_
        refine lv_iconst (v := 1) hx hb dX11_learn_71 (by decide) ?_
        refine W.eq (g2 := F0 m 72 ls [.int (nI 1), .int (nI sd)]) (congrArg (fun z => F0 m 72 ls (.int z :: [.int (nI sd)])) (rfl)) ?_
        refine lv_aload_n hx hb dX11_learn_72 rfl (lv_at hl 1 rfl) ?_
        refine gX11_148 C hT (q0 := 0) rfl dX11_learn_73 ?_
        refine lv_iload hx hb dX11_learn_76 (lv_at hl 6 rfl) ?_
        refine W.eq (g2 := F0 m 78 ls [.int (nI i), .int (nI (lbN (s_f U) (s_n U))), .int (nI 1), .int (nI sd)]) (congrArg (fun z => F0 m 78 ls (.int z :: [.int (nI (lbN (s_f U) (s_n U))), .int (nI 1), .int (nI sd)])) (vex5)) ?_
        have hM := c_X11_weightAt l g sd 1 (lbN (s_f U) (s_n U)) i
        refine r_callRO (js := []) C hT (runS (js := []) (rm := ({ frames := 0, cells := 0, slots := 0, locals := 0 } : Room)) (As := [.int (nI sd), .int (nI 1), .int (nI (lbN (s_f U) (s_n U))), .int (nI i)]) (n := 4) (rest := []) C hT hM rfl rfl k748 k749 k15 k750 (by decide +kernel) rfl rfl (Nat.le_of_ble_eq_true rfl) hl.1 ⟨Nat.le_of_ble_eq_true rfl, Nat.le_of_ble_eq_true rfl⟩ ⟨Nat.le_of_ble_eq_true rfl, Nat.le_of_ble_eq_true rfl⟩ dX11_learn_78) rfl rfl (fun u H locs hT => ?_)
        refine W.eq (g2 := F0 m 81 ls [.int (nI (wAt sd 1 (lbN (s_f U) (s_n U)) i))]) rfl ?_
        refine W.eq (g2 := F0 m 81 ls [.int (nI (wAt sd 1 (lbN (s_f U) (s_n U)) 0 + i))]) (congrArg (fun z => F0 m 81 ls (.int z :: [])) (rfl)) ?_
        refine lv_istore (lv' := [(7, .int (nI (wAt sd 1 (lbN (s_f U) (s_n U)) 0 + i))), (6, .int (nI (wAt sd 0 (s_nd U) 0 + i))), (0, .ref (mo 0)), (1, .int (nI sd)), (2, .int on), (3, .int (errI on (t0S st N np fk fo U))), (4, .int (errI on (t1S st N np fk fo U))), (5, .int vx5)]) hx hb dX11_learn_81 hl (by decide) rfl (fun ls hl => ?_)
        refine lv_aload_n hx hb dX11_learn_83 rfl (lv_at hl 2 rfl) ?_
        refine gX11_47 C hT (q0 := 0) rfl dX11_learn_84 ?_
        refine lv_iload hx hb dX11_learn_87 (lv_at hl 1 rfl) ?_
        refine lv_aload_n hx hb dX11_learn_89 rfl (lv_at hl 2 rfl) ?_
        refine gX11_47 C hT (q0 := 0) rfl dX11_learn_90 ?_
        refine lv_iload hx hb dX11_learn_93 (lv_at hl 1 rfl) ?_
        refine r_iald C hT (q0 := 13) rfl (wAt sd 0 (s_nd U) 0 + i) rfl (wAt_lt (i := i) hsd (by decide) hnd (by omega)) (by decide) dX11_learn_95 ?_
        refine lv_aload_n hx hb dX11_learn_96 rfl (lv_at hl 2 rfl) ?_
        refine gX11_63 C hT (q0 := 0) rfl dX11_learn_97 ?_
        refine lv_iload hx hb dX11_learn_100 (lv_at hl 7 rfl) ?_
        refine r_iald C hT (q0 := 18) rfl i vex5 (by omega) (by decide) dX11_learn_102 ?_
        refine lv_iload_n hx hb dX11_learn_103 rfl (lv_at hl 5 rfl) ?_
        refine lv_imul hx hb dX11_learn_104 ?_
        refine lv_ldc (v := 32768) hx hb C.ow (C.ts _ k747) dX11_learn_105 ?_
        refine lv_iadd hx hb dX11_learn_107 ?_
        refine lv_bipush (v := 16) hx hb dX11_learn_108 (by decide) ?_
        refine lv_ishr hx hb dX11_learn_110 ?_
        refine lv_iadd hx hb dX11_learn_111 ?_
        refine lv_ldc (v := (-1000000)) hx hb C.ow (C.ts _ k942) dX11_learn_112 ?_
        refine lv_ldc (v := 1000000) hx hb C.ow (C.ts _ k943) dX11_learn_114 ?_
        have hM := c_X11_bound l g ((ww1 (wAt sd 0 (s_nd U) 0 + i)) + ((((xi i) * (errI on (t0S st N np fk fo U))) + 32768) >>> (16 &&& 31))) (-1000000) 1000000
        refine r_callRO (js := []) C hT (runS (js := []) (rm := ({ frames := 0, cells := 0, slots := 0, locals := 0 } : Room)) (As := [.int ((ww1 (wAt sd 0 (s_nd U) 0 + i)) + ((((xi i) * (errI on (t0S st N np fk fo U))) + 32768) >>> (16 &&& 31))), .int (-1000000), .int 1000000]) (n := 3) (rest := [.int (nI (wAt sd 0 (s_nd U) 0 + i)), .ref (mo 13)]) C hT hM rfl rfl k933 k934 k15 k935 (by decide +kernel) rfl rfl (Nat.le_of_ble_eq_true rfl) hl.1 ⟨Nat.le_of_ble_eq_true rfl, Nat.le_of_ble_eq_true rfl⟩ ⟨Nat.le_of_ble_eq_true rfl, Nat.le_of_ble_eq_true rfl⟩ dX11_learn_116) rfl rfl (fun u H locs hT => ?_)
        refine W.eq (g2 := F0 m 119 ls [.int (boundM ((ww1 (wAt sd 0 (s_nd U) 0 + i)) + ((((xi i) * (errI on (t0S st N np fk fo U))) + 32768) >>> (16 &&& 31))) (-1000000) 1000000), .int (nI (wAt sd 0 (s_nd U) 0 + i)), .ref (mo 13)]) rfl ?_
        refine W.eq (g2 := F0 m 119 ls [.int (growI (ww1 (wAt sd 0 (s_nd U) 0 + i)) (xi i) (errI on (t0S st N np fk fo U))), .int (nI (wAt sd 0 (s_nd U) 0 + i)), .ref (mo 13)]) (congrArg (fun z => F0 m 119 ls (.int z :: [.int (nI (wAt sd 0 (s_nd U) 0 + i)), .ref (mo 13)])) ((by rw [boundM_eq (by decide)]; rfl))) ?_
        refine r_iast C hT (q0 := 13) rfl (wAt sd 0 (s_nd U) 0 + i) rfl (wAt_lt (i := i) hsd (by decide) hnd (by omega)) (by decide) dX11_learn_119 (fun H locs hT => ?_)
        have hT : Wd g A s (mdL g mo rr th np no bt en xx ra (t0S st N np fk fo U) (t1S st N np fk fo U) (nI (lbN (s_f U) (s_n U))) (nI (8448 * sd + 33 * s_nd U + tN st (mxS st N np fk fo U) / 128)) (nI (tN st (mxS st N np fk fo U) % 128)) ch st fk fn fo bb wt nx cx pt le sc ss (upd ww1 (wAt sd 0 (s_nd U) 0 + i) (growI (ww1 (wAt sd 0 (s_nd U) 0 + i)) (xi i) (errI on (t0S st N np fk fo U)))) xc lo hi ou xi) H locs := hT
        refine lv_aload_n hx hb dX11_learn_120 rfl (lv_at hl 2 rfl) ?_
        refine gX11_47 C hT (q0 := 0) rfl dX11_learn_121 ?_
        refine lv_iload hx hb dX11_learn_124 (lv_at hl 0 rfl) ?_
        refine lv_aload_n hx hb dX11_learn_126 rfl (lv_at hl 2 rfl) ?_
        refine gX11_47 C hT (q0 := 0) rfl dX11_learn_127 ?_
        refine lv_iload hx hb dX11_learn_130 (lv_at hl 0 rfl) ?_
        refine r_iald C hT (q0 := 13) rfl (wAt sd 1 (lbN (s_f U) (s_n U)) 0 + i) rfl (wAt_lt (i := i) hsd (by decide) hlb (by omega)) (by decide) dX11_learn_132 ?_
        refine lv_aload_n hx hb dX11_learn_133 rfl (lv_at hl 2 rfl) ?_
        refine gX11_63 C hT (q0 := 0) rfl dX11_learn_134 ?_
        refine lv_iload hx hb dX11_learn_137 (lv_at hl 7 rfl) ?_
        refine r_iald C hT (q0 := 18) rfl i vex5 (by omega) (by decide) dX11_learn_139 ?_
        refine lv_iload hx hb dX11_learn_140 (lv_at hl 6 rfl) ?_
        refine lv_imul hx hb dX11_learn_142 ?_
        refine lv_ldc (v := 32768) hx hb C.ow (C.ts _ k747) dX11_learn_143 ?_
        refine lv_iadd hx hb dX11_learn_145 ?_
        refine lv_bipush (v := 16) hx hb dX11_learn_146 (by decide) ?_
        refine lv_ishr hx hb dX11_learn_148 ?_
        refine lv_iadd hx hb dX11_learn_149 ?_
        refine lv_ldc (v := (-1000000)) hx hb C.ow (C.ts _ k942) dX11_learn_150 ?_
        refine lv_ldc (v := 1000000) hx hb C.ow (C.ts _ k943) dX11_learn_152 ?_
        have hM := c_X11_bound l g (((upd ww1 (wAt sd 0 (s_nd U) 0 + i) (growI (ww1 (wAt sd 0 (s_nd U) 0 + i)) (xi i) (errI on (t0S st N np fk fo U)))) (wAt sd 1 (lbN (s_f U) (s_n U)) 0 + i)) + ((((xi i) * (errI on (t1S st N np fk fo U))) + 32768) >>> (16 &&& 31))) (-1000000) 1000000
        refine r_callRO (js := []) C hT (runS (js := []) (rm := ({ frames := 0, cells := 0, slots := 0, locals := 0 } : Room)) (As := [.int (((upd ww1 (wAt sd 0 (s_nd U) 0 + i) (growI (ww1 (wAt sd 0 (s_nd U) 0 + i)) (xi i) (errI on (t0S st N np fk fo U)))) (wAt sd 1 (lbN (s_f U) (s_n U)) 0 + i)) + ((((xi i) * (errI on (t1S st N np fk fo U))) + 32768) >>> (16 &&& 31))), .int (-1000000), .int 1000000]) (n := 3) (rest := [.int (nI (wAt sd 1 (lbN (s_f U) (s_n U)) 0 + i)), .ref (mo 13)]) C hT hM rfl rfl k933 k934 k15 k935 (by decide +kernel) rfl rfl (Nat.le_of_ble_eq_true rfl) hl.1 ⟨Nat.le_of_ble_eq_true rfl, Nat.le_of_ble_eq_true rfl⟩ ⟨Nat.le_of_ble_eq_true rfl, Nat.le_of_ble_eq_true rfl⟩ dX11_learn_154) rfl rfl (fun u H locs hT => ?_)
        refine W.eq (g2 := F0 m 157 ls [.int (boundM (((upd ww1 (wAt sd 0 (s_nd U) 0 + i) (growI (ww1 (wAt sd 0 (s_nd U) 0 + i)) (xi i) (errI on (t0S st N np fk fo U)))) (wAt sd 1 (lbN (s_f U) (s_n U)) 0 + i)) + ((((xi i) * (errI on (t1S st N np fk fo U))) + 32768) >>> (16 &&& 31))) (-1000000) 1000000), .int (nI (wAt sd 1 (lbN (s_f U) (s_n U)) 0 + i)), .ref (mo 13)]) rfl ?_
        refine W.eq (g2 := F0 m 157 ls [.int (growI ((upd ww1 (wAt sd 0 (s_nd U) 0 + i) (growI (ww1 (wAt sd 0 (s_nd U) 0 + i)) (xi i) (errI on (t0S st N np fk fo U)))) (wAt sd 1 (lbN (s_f U) (s_n U)) 0 + i)) (xi i) (errI on (t1S st N np fk fo U))), .int (nI (wAt sd 1 (lbN (s_f U) (s_n U)) 0 + i)), .ref (mo 13)]) (congrArg (fun z => F0 m 157 ls (.int z :: [.int (nI (wAt sd 1 (lbN (s_f U) (s_n U)) 0 + i)), .ref (mo 13)])) ((by rw [boundM_eq (by decide)]; rfl))) ?_
        refine r_iast C hT (q0 := 13) rfl (wAt sd 1 (lbN (s_f U) (s_n U)) 0 + i) rfl (wAt_lt (i := i) hsd (by decide) hlb (by omega)) (by decide) dX11_learn_157 (fun H locs hT => ?_)
        have hT : Wd g A s (mdL g mo rr th np no bt en xx ra (t0S st N np fk fo U) (t1S st N np fk fo U) (nI (lbN (s_f U) (s_n U))) (nI (8448 * sd + 33 * s_nd U + tN st (mxS st N np fk fo U) / 128)) (nI (tN st (mxS st N np fk fo U) % 128)) ch st fk fn fo bb wt nx cx pt le sc ss (upd (upd ww1 (wAt sd 0 (s_nd U) 0 + i) (growI (ww1 (wAt sd 0 (s_nd U) 0 + i)) (xi i) (errI on (t0S st N np fk fo U)))) (wAt sd 1 (lbN (s_f U) (s_n U)) 0 + i) (growI ((upd ww1 (wAt sd 0 (s_nd U) 0 + i) (growI (ww1 (wAt sd 0 (s_nd U) 0 + i)) (xi i) (errI on (t0S st N np fk fo U)))) (wAt sd 1 (lbN (s_f U) (s_n U)) 0 + i)) (xi i) (errI on (t1S st N np fk fo U)))) xc lo hi ou xi) H locs := hT
        obtain ⟨x_15, ex_15⟩ : ∃ y : Int32, y = vx5 + 1 := ⟨_, rfl⟩
        refine lv_iinc (v := x_15) (lv' := [(5, .int x_15), (7, .int (nI (wAt sd 1 (lbN (s_f U) (s_n U)) 0 + i))), (6, .int (nI (wAt sd 0 (s_nd U) 0 + i))), (0, .ref (mo 0)), (1, .int (nI sd)), (2, .int on), (3, .int (errI on (t0S st N np fk fo U))), (4, .int (errI on (t1S st N np fk fo U)))]) hx hb dX11_learn_158 hl (k := 7) rfl (by rw [ex_15]; rfl) (by decide) rfl (fun ls hl => ?_)
        refine lv_goto (tgt := 46) hx hb dX11_learn_161 (by decide) ?_
        exact ih (i + 1) x_15 (upd (upd ww1 (wAt sd 0 (s_nd U) 0 + i) (growI (ww1 (wAt sd 0 (s_nd U) 0 + i)) (xi i) (errI on (t0S st N np fk fo U)))) (wAt sd 1 (lbN (s_f U) (s_n U)) 0 + i) (growI ((upd ww1 (wAt sd 0 (s_nd U) 0 + i) (growI (ww1 (wAt sd 0 (s_nd U) 0 + i)) (xi i) (errI on (t0S st N np fk fo U)))) (wAt sd 1 (lbN (s_f U) (s_n U)) 0 + i)) (xi i) (errI on (t1S st N np fk fo U)))) H locs ls (by first | omega | assumption | rfl) (by rw [ex_15, vex5]; exact nI_1 i) (rwL_s (by unfold wAt; omega) (by omega) hww) (by omega) hT (lv_sub hl [3, 4, 5, 6, 7, 0] rfl)
  exact loop_46 (np + 1 - 0 + 1) 0 0 ww H locs ls (by first | omega | assumption | rfl) rfl (rwL_0 _ _ _ _ _ _) (Nat.lt_succ_self _) hT (lv_sub hl [3, 4, 5, 2, 1, 0] rfl)
