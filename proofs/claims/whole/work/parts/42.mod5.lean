set_option maxHeartbeats 400000 in
set_option maxRecDepth 100000 in
theorem c_X11_inputOf (l : Launch) (g : GT) (mo : Nat → Nat) (rr : Nat) (th : Int32) (np : Nat) (no : Nat) (bt : Nat) (en : Bool) (xx : Int64) (ra : Nat) (t0 : Int32) (t1 : Int32) (s1 : Int32) (ca : Int32) (cq : Int32) (ch : Int32) (st : Nat → Int32) (fk : Nat → Int32) (fn : Nat → Int32) (fo : Nat → Int32) (bb : Nat → Int32) (wt : Nat → Int32) (nx : Nat → Int32) (cx : Nat → Int32) (pt : Nat → Int32) (le : Nat → Int32) (sc : Nat → Int32) (ss : Nat → Int32) (ww : Nat → Int32) (xc : Nat → Int32) (lo : Nat → Int64) (hi : Nat → Int64) (ou : Nat → Int32) (xi : Nat → Int32) (sd : Nat) (N : Nat) (U : SSt) (i : Nat) (hsd : sd < 2) (hG : GI st N rr np fk fn) (hRS : RS sd N np fk U bb wt nx cx pt le sc ss ww xc) (hX : SX N np fk U) (hli : i ≤ np) : OM (S := Unit) l g yX11_inputOf cX11_inputOf 7 (some .int) ({ frames := 2, cells := 0, slots := 0, locals := 44 } : Room) [.ref (mo 0), .int (nI sd), .int (nI i)] (mdL g mo rr th np no bt en xx ra t0 t1 s1 ca cq ch st fk fn fo bb wt nx cx pt le sc ss ww xc lo hi ou xi) (fun _ => some (.int (inQ st N np fk fo U i))) (fun _ => (mdL g mo rr th np no bt en xx ra t0 t1 s1 ca cq ch st fk fn fo bb wt nx cx pt le sc ss ww xc lo hi ou xi)) := by
  refine OM.startQ (by decide) (Nat.le_of_ble_eq_true rfl) ?_
  intro p e s m below meth c A ls Q H locs hQ C hnm hl hT
  have hx := C.x
  have hb := C.b
  have hl : lv_has ls 7 [(0, .ref (mo 0)), (1, .int (nI sd)), (2, .int (nI i))] := hl
  have hnp := hG.1
  have hn2 := hX.1.1
  have hbg := hX.1.2.2.1
  have hnd := hX.1.2.1
  have hrr := hG.2.2.1
  have hN := hG.2.1
  refine lv_iload_n hx hb dX11_inputOf_0 rfl (lv_at hl 2 rfl) ?_
  refine lv_aload_n hx hb dX11_inputOf_1 rfl (lv_at hl 0 rfl) ?_
  refine gX11_91 C hT (q0 := 0) rfl dX11_inputOf_2 ?_
  refine lv_icmp_ne (tgt := 12) hx hb dX11_inputOf_5 (by decide) (fun h_1 => ?_) (fun h_1 => ?_)
  · skip
    have hin : i < np := by rcases Nat.lt_or_ge i np with q | q; exact q; exact absurd (by rw [show i = np by omega]) h_1
    have hi8 : i < 8 := by omega
    have hali := hG.2.2.2.1 i hin
    have hne : ¬ i = np := by omega
    refine lv_aload_n hx hb dX11_inputOf_12 rfl (lv_at hl 0 rfl) ?_
    refine gX11_19 C hT (q0 := 0) rfl dX11_inputOf_13 ?_
    refine lv_iload_n hx hb dX11_inputOf_16 rfl (lv_at hl 2 rfl) ?_
    refine r_zald C hT (q0 := 4) rfl i rfl hi8 (by decide) dX11_inputOf_17 ?_
    refine lv_if_eq (tgt := 23) hx hb dX11_inputOf_18 (by decide) (fun h_2 => ?_) (fun h_2 => ?_)
    · skip
      have hfo := h_2
      refine lv_aload_n hx hb dX11_inputOf_23 rfl (lv_at hl 0 rfl) ?_
      refine gX11_13 C hT (q0 := 0) rfl dX11_inputOf_24 ?_
      refine lv_iload_n hx hb dX11_inputOf_27 rfl (lv_at hl 2 rfl) ?_
      refine r_iald C hT (q0 := 2) rfl i rfl hi8 (by decide) dX11_inputOf_28 ?_
      refine lv_iconst (v := 4) hx hb dX11_inputOf_29 (by decide) ?_
      refine lv_icmp_ge (tgt := 52) hx hb dX11_inputOf_30 (by decide) (fun h_3 => ?_) (fun h_3 => ?_)
      · skip
        have hk4 := (allow_k hali).mp h_3
        obtain ⟨hel, pl, hep, hpl, hpm⟩ := hRS.2.2.1 i hin hk4
        have hml := (hX.2.2.2.2.1 i hin hk4).1
        have hth : 0 < s_ml U i → ((vb bb sd) pl ||| 256) = byteN (s_f U) (s_n U) (s_mp U i) ||| 256 := fun q => by
          have h1 := (hX.2.2.2.2.1 i hin hk4).2 q
          rw [hpm q, byteN_p h1]; show bb (2050 * sd + s_mp U i) ||| 256 = _; rw [hRS.1.2.2 _ (by omega)]
        refine lv_bipush (v := 8) hx hb dX11_inputOf_52 (by decide) ?_
        refine lv_iload_n hx hb dX11_inputOf_54 rfl (lv_at hl 1 rfl) ?_
        refine lv_imul hx hb dX11_inputOf_55 ?_
        refine W.eq (g2 := F0 m 56 ls [.int (nI (8 * sd))]) (congrArg (fun z => F0 m 56 ls (.int z :: [])) (pk_mul 8 sd)) ?_
        refine lv_iload_n hx hb dX11_inputOf_56 rfl (lv_at hl 2 rfl) ?_
        refine lv_iadd hx hb dX11_inputOf_57 ?_
        refine W.eq (g2 := F0 m 58 ls [.int (nI (8 * sd + i))]) (congrArg (fun z => F0 m 58 ls (.int z :: [])) (nI_add _ _)) ?_
        refine lv_istore_n (lv' := [(3, .int (nI (8 * sd + i))), (0, .ref (mo 0)), (1, .int (nI sd)), (2, .int (nI i))]) hx hb dX11_inputOf_58 rfl hl (by decide) rfl (fun ls hl => ?_)
        refine lv_aload_n hx hb dX11_inputOf_59 rfl (lv_at hl 1 rfl) ?_
        refine lv_iload_n hx hb dX11_inputOf_60 rfl (lv_at hl 2 rfl) ?_
        have hM := c_X11_bitsDone l g mo rr th np no bt en xx ra t0 t1 s1 ca cq ch st fk fn fo bb wt nx cx pt le sc ss ww xc lo hi ou xi sd (s_nd U) (s_bg U) (by first | assumption | omega) hRS.1.2.1 (by first | assumption | omega) (by first | assumption | omega) hX.2.1.1 hX.2.1.2
        refine r_callRO (js := [0, 1, 2, 3, 4, 5, 6, 7, 8, 9, 10, 11, 12, 13, 14, 15, 16, 17, 18]) C hT (runV (js := [0, 1, 2, 3, 4, 5, 6, 7, 8, 9, 10, 11, 12, 13, 14, 15, 16, 17, 18]) (rm := ({ frames := 0, cells := 0, slots := 0, locals := 0 } : Room)) (As := [.int (nI sd)]) (n := 1) (q1 := 0) (rest := []) C hT hM rfl rfl k923 k925 s23 k15 k926 (by decide +kernel) rfl rfl rfl rfl (Nat.le_of_ble_eq_true rfl) hl.1 ⟨Nat.le_of_ble_eq_true rfl, Nat.le_of_ble_eq_true rfl⟩ ⟨Nat.le_of_ble_eq_true rfl, Nat.le_of_ble_eq_true rfl⟩ dX11_inputOf_61) rfl rfl (fun u H locs hT => ?_)
        refine W.eq (g2 := F0 m 64 ls [.int (nI (s_bg U))]) rfl ?_
        refine lv_istore (lv' := [(4, .int (nI (s_bg U))), (3, .int (nI (8 * sd + i))), (0, .ref (mo 0)), (1, .int (nI sd)), (2, .int (nI i))]) hx hb dX11_inputOf_64 hl (by decide) rfl (fun ls hl => ?_)
        refine lv_aload_n hx hb dX11_inputOf_66 rfl (lv_at hl 2 rfl) ?_
        refine gX11_23 C hT (q0 := 0) rfl dX11_inputOf_67 ?_
        refine lv_sipush (v := 2050) hx hb dX11_inputOf_70 (by decide) ?_
        refine lv_iload_n hx hb dX11_inputOf_73 rfl (lv_at hl 3 rfl) ?_
        refine lv_imul hx hb dX11_inputOf_74 ?_
        refine W.eq (g2 := F0 m 75 ls [.int (nI (2050 * sd)), .ref (mo 5)]) (congrArg (fun z => F0 m 75 ls (.int z :: [.ref (mo 5)])) (pk_mul 2050 sd)) ?_
        refine lv_aload_n hx hb dX11_inputOf_75 rfl (lv_at hl 2 rfl) ?_
        refine gX11_35 C hT (q0 := 0) rfl dX11_inputOf_76 ?_
        refine lv_iload_n hx hb dX11_inputOf_79 rfl (lv_at hl 1 rfl) ?_
        refine r_iald C hT (q0 := 9) rfl (8 * sd + i) rfl (by omega) (by decide) dX11_inputOf_80 ?_
        refine W.eq (g2 := F0 m 81 ls [.int (nI pl), .int (nI (2050 * sd)), .ref (mo 5)]) (congrArg (fun z => F0 m 81 ls (.int z :: [.int (nI (2050 * sd)), .ref (mo 5)])) (hep)) ?_
        refine lv_iadd hx hb dX11_inputOf_81 ?_
        refine W.eq (g2 := F0 m 82 ls [.int (nI (2050 * sd + pl)), .ref (mo 5)]) (congrArg (fun z => F0 m 82 ls (.int z :: [.ref (mo 5)])) (nI_add _ _)) ?_
        refine r_iald C hT (q0 := 5) rfl (2050 * sd + pl) rfl (by omega) (by decide) dX11_inputOf_82 ?_
        refine W.eq (g2 := F0 m 83 ls [.int ((vb bb sd) pl)]) (congrArg (fun z => F0 m 83 ls (.int z :: [])) (rfl)) ?_
        refine lv_sipush (v := 256) hx hb dX11_inputOf_83 (by decide) ?_
        refine lv_ior hx hb dX11_inputOf_86 ?_
        refine W.eq (g2 := F0 m 87 ls [.int ((vb bb sd) pl ||| 256)]) (congrArg (fun z => F0 m 87 ls (.int z :: [])) (rfl)) ?_
        refine lv_istore (lv' := [(5, .int ((vb bb sd) pl ||| 256)), (4, .int (nI (s_bg U))), (3, .int (nI (8 * sd + i))), (0, .ref (mo 0)), (1, .int (nI sd)), (2, .int (nI i))]) hx hb dX11_inputOf_87 hl (by decide) rfl (fun ls hl => ?_)
        refine lv_aload_n hx hb dX11_inputOf_89 rfl (lv_at hl 3 rfl) ?_
        refine gX11_38 C hT (q0 := 0) rfl dX11_inputOf_90 ?_
        refine lv_iload_n hx hb dX11_inputOf_93 rfl (lv_at hl 2 rfl) ?_
        refine r_iald C hT (q0 := 10) rfl (8 * sd + i) rfl (by omega) (by decide) dX11_inputOf_94 ?_
        refine W.eq (g2 := F0 m 95 ls [.int (nI (s_ml U i))]) (congrArg (fun z => F0 m 95 ls (.int z :: [])) (hel)) ?_
        refine lv_if_eq (tgt := 115) hx hb dX11_inputOf_95 (by decide) (fun h_4 => ?_) (fun h_4 => ?_)
        · skip
          have hl0 := nI_z (by omega) h_4
          have hno : s_ml U i = 0 ∨ ¬ (byteN (s_f U) (s_n U) (s_mp U i) ||| 256) >>> (nI (8 - s_bg U) &&& 31) = nI (s_nd U) := Or.inl hl0
          refine lv_iconst (v := 0) hx hb dX11_inputOf_115 (by decide) ?_
          exact e_iret C hQ () hT (by rw [inQ, if_neg hne, inS, inI, if_neg (not_not_intro hfo), if_pos hk4]; exact congrArg (fun z => some (Value.int z)) (told_ne hno).symm) dX11_inputOf_116
        · skip
          have hl1 := nI_nz h_4
          have hth := hth hl1
          refine lv_iload hx hb dX11_inputOf_98 (lv_at hl 0 rfl) ?_
          refine lv_bipush (v := 8) hx hb dX11_inputOf_100 (by decide) ?_
          refine lv_iload hx hb dX11_inputOf_102 (lv_at hl 1 rfl) ?_
          refine lv_isub hx hb dX11_inputOf_104 ?_
          refine W.eq (g2 := F0 m 105 ls [.int (nI (8 - s_bg U)), .int ((vb bb sd) pl ||| 256)]) (congrArg (fun z => F0 m 105 ls (.int z :: [.int ((vb bb sd) pl ||| 256)])) (pk_sub (a := 8) (by omega))) ?_
          refine lv_ishr hx hb dX11_inputOf_105 ?_
          refine lv_aload_n hx hb dX11_inputOf_106 rfl (lv_at hl 3 rfl) ?_
          refine gX11_29 C hT (q0 := 0) rfl dX11_inputOf_107 ?_
          refine lv_iload_n hx hb dX11_inputOf_110 rfl (lv_at hl 4 rfl) ?_
          refine r_iald C hT (q0 := 7) rfl sd rfl (by omega) (by decide) dX11_inputOf_111 ?_
          refine W.eq (g2 := F0 m 112 ls [.int (nI (s_nd U)), .int (((vb bb sd) pl ||| 256) >>> ((nI (8 - s_bg U)) &&& 31))]) (congrArg (fun z => F0 m 112 ls (.int z :: [.int (((vb bb sd) pl ||| 256) >>> ((nI (8 - s_bg U)) &&& 31))])) (hRS.1.2.1)) ?_
          refine lv_icmp_eq (tgt := 117) hx hb dX11_inputOf_112 (by decide) (fun h_5 => ?_) (fun h_5 => ?_)
          · skip
            have hgo := hth ▸ h_5
            refine lv_bipush (v := 64) hx hb dX11_inputOf_117 (by decide) ?_
            refine lv_aload_n hx hb dX11_inputOf_119 rfl (lv_at hl 3 rfl) ?_
            refine gX11_38 C hT (q0 := 0) rfl dX11_inputOf_120 ?_
            refine lv_iload_n hx hb dX11_inputOf_123 rfl (lv_at hl 2 rfl) ?_
            refine r_iald C hT (q0 := 10) rfl (8 * sd + i) rfl (by omega) (by decide) dX11_inputOf_124 ?_
            refine W.eq (g2 := F0 m 125 ls [.int (nI (s_ml U i)), .int 64]) (congrArg (fun z => F0 m 125 ls (.int z :: [.int 64])) (hel)) ?_
            refine lv_bipush (v := 16) hx hb dX11_inputOf_125 (by decide) ?_
            refine r_ite (ls := ls) (J := 141) (a1 := 16) (a2 := nI (s_ml U i)) (rest := [.int 64]) (lv_icmp_ge (tgt := 139) hx hb dX11_inputOf_127 (by decide)) (fun h_6 kont => ?_) (fun h_6 kont => ?_) ?_
            · skip
              refine lv_bipush (v := 16) hx hb dX11_inputOf_139 (by decide) ?_
              exact kont
            · skip
              refine lv_aload_n hx hb dX11_inputOf_130 rfl (lv_at hl 3 rfl) ?_
              refine gX11_38 C hT (q0 := 0) rfl dX11_inputOf_131 ?_
              refine lv_iload_n hx hb dX11_inputOf_134 rfl (lv_at hl 2 rfl) ?_
              refine r_iald C hT (q0 := 10) rfl (8 * sd + i) rfl (by omega) (by decide) dX11_inputOf_135 ?_
              refine W.eq (g2 := F0 m 136 ls [.int (nI (s_ml U i)), .int 64]) (congrArg (fun z => F0 m 136 ls (.int z :: [.int 64])) (hel)) ?_
              refine lv_goto (tgt := 141) hx hb dX11_inputOf_136 (by decide) ?_
              exact kont
            refine W.eq (g2 := F0 m 141 ls [.int (nI (if s_ml U i < 16 then s_ml U i else 16)), .int 64]) (congrArg (fun z => F0 m 141 ls (.int z :: [.int 64])) (min16 hml)) ?_
            refine lv_imul hx hb dX11_inputOf_141 ?_
            refine W.eq (g2 := F0 m 142 ls [.int (64 * nI (if s_ml U i < 16 then s_ml U i else 16))]) (congrArg (fun z => F0 m 142 ls (.int z :: [])) (rfl)) ?_
            refine lv_istore (lv' := [(6, .int (64 * nI (if s_ml U i < 16 then s_ml U i else 16))), (5, .int ((vb bb sd) pl ||| 256)), (4, .int (nI (s_bg U))), (3, .int (nI (8 * sd + i))), (0, .ref (mo 0)), (1, .int (nI sd)), (2, .int (nI i))]) hx hb dX11_inputOf_142 hl (by decide) rfl (fun ls hl => ?_)
            refine lv_iload hx hb dX11_inputOf_144 (lv_at hl 1 rfl) ?_
            refine lv_bipush (v := 7) hx hb dX11_inputOf_146 (by decide) ?_
            refine lv_iload hx hb dX11_inputOf_148 (lv_at hl 2 rfl) ?_
            refine lv_isub hx hb dX11_inputOf_150 ?_
            refine W.eq (g2 := F0 m 151 ls [.int (nI (8 - s_bg U) - 1), .int ((vb bb sd) pl ||| 256)]) (congrArg (fun z => F0 m 151 ls (.int z :: [.int ((vb bb sd) pl ||| 256)])) (sev_bg hbg)) ?_
            refine lv_ishr hx hb dX11_inputOf_151 ?_
            refine lv_iconst (v := 1) hx hb dX11_inputOf_152 (by decide) ?_
            refine lv_iand hx hb dX11_inputOf_153 ?_
            refine lv_iconst (v := 1) hx hb dX11_inputOf_154 (by decide) ?_
            refine r_iteN (ls := ls) (J := 166) (a1 := -(64 * nI (if s_ml U i < 16 then s_ml U i else 16))) (a2 := 64 * nI (if s_ml U i < 16 then s_ml U i else 16)) (rest := []) (lv_icmp_ne (tgt := 163) hx hb dX11_inputOf_155 (by decide)) (fun h_7 kont => ?_) (fun h_7 kont => ?_) ?_
            · skip
              refine lv_iload hx hb dX11_inputOf_163 (lv_at hl 0 rfl) ?_
              refine lv_ineg hx hb dX11_inputOf_165 ?_
              exact kont
            · skip
              refine lv_iload hx hb dX11_inputOf_158 (lv_at hl 0 rfl) ?_
              refine lv_goto (tgt := 166) hx hb dX11_inputOf_160 (by decide) ?_
              exact kont
            exact e_iret C hQ () hT (by rw [inQ, if_neg hne, inS, inI, if_neg (not_not_intro hfo), if_pos hk4, ← told_go hl1 hgo, ← hth]) dX11_inputOf_166
          · skip
            have hno : s_ml U i = 0 ∨ ¬ (byteN (s_f U) (s_n U) (s_mp U i) ||| 256) >>> (nI (8 - s_bg U) &&& 31) = nI (s_nd U) := Or.inr (hth ▸ h_5)
            refine lv_iconst (v := 0) hx hb dX11_inputOf_115 (by decide) ?_
            exact e_iret C hQ () hT (by rw [inQ, if_neg hne, inS, inI, if_neg (not_not_intro hfo), if_pos hk4]; exact congrArg (fun z => some (Value.int z)) (told_ne hno).symm) dX11_inputOf_116
      · skip
        have hk4 : ¬ fk i = 4 := fun q => h_3 ((allow_k hali).mpr q)
        have hfc := hX.1.2.2.2.1 _ (slot_lt (a := s_cx U i) (b := nI (s_nd U)) hN)
        refine lv_aload_n hx hb dX11_inputOf_33 rfl (lv_at hl 0 rfl) ?_
        refine gX11_7 C hT (q0 := 0) rfl dX11_inputOf_34 ?_
        refine lv_aload_n hx hb dX11_inputOf_37 rfl (lv_at hl 0 rfl) ?_
        refine gX11_41 C hT (q0 := 0) rfl dX11_inputOf_38 ?_
        refine lv_aload_n hx hb dX11_inputOf_41 rfl (lv_at hl 0 rfl) ?_
        refine lv_iload_n hx hb dX11_inputOf_42 rfl (lv_at hl 1 rfl) ?_
        refine lv_iload_n hx hb dX11_inputOf_43 rfl (lv_at hl 2 rfl) ?_
        have hM := c_X11_slotOf l g mo rr th np no bt en xx ra t0 t1 s1 ca cq ch st fk fn fo bb wt nx cx pt le sc ss ww xc lo hi ou xi sd i (by first | assumption | omega) (by first | assumption | omega) (by first | assumption | omega)
        refine r_callRO (js := [0, 1, 2, 3, 4, 5, 6, 7, 8, 9, 10, 11, 12, 13, 14, 15, 16, 17, 18]) C hT (runV (js := [0, 1, 2, 3, 4, 5, 6, 7, 8, 9, 10, 11, 12, 13, 14, 15, 16, 17, 18]) (rm := ({ frames := 1, cells := 0, slots := 0, locals := 22 } : Room)) (As := [.int (nI sd), .int (nI i)]) (n := 2) (q1 := 0) (rest := [.ref (mo 11), .ref (mo 1)]) C hT hM rfl rfl k919 k921 s22 k15 k922 (by decide +kernel) rfl rfl rfl rfl (Nat.le_of_ble_eq_true rfl) hl.1 ⟨Nat.le_of_ble_eq_true rfl, Nat.le_of_ble_eq_true rfl⟩ ⟨Nat.le_of_ble_eq_true rfl, Nat.le_of_ble_eq_true rfl⟩ dX11_inputOf_44) rfl rfl (fun u H locs hT => ?_)
        refine W.eq (g2 := F0 m 47 ls [.int (nI (4096 * sd + slotN (2 ^ rr) (cx (8 * sd + i)) (nx sd))), .ref (mo 11), .ref (mo 1)]) rfl ?_
        refine r_iald C hT (q0 := 11) rfl (4096 * sd + slotN (2 ^ rr) (cx (8 * sd + i)) (nx sd)) rfl (by have h1 := slot_lt (N := 2 ^ rr) (rr := rr) (a := cx (8 * sd + i)) (b := nx sd) rfl; have h2 : 2 ^ rr ≤ 2 ^ 12 := Nat.pow_le_pow_right (by decide) hrr; omega) (by decide) dX11_inputOf_47 ?_
        refine W.eq (g2 := F0 m 48 ls [.int (s_fc U (slotN N (s_cx U i) (nI (s_nd U)))), .ref (mo 1)]) (congrArg (fun z => F0 m 48 ls (.int z :: [.ref (mo 1)])) (RS_in hRS hin hk4 hN)) ?_
        refine lv_iconst (v := 4) hx hb dX11_inputOf_48 (by decide) ?_
        refine lv_ishr hx hb dX11_inputOf_49 ?_
        refine W.eq (g2 := F0 m 50 ls [.int (nI (chN (s_fc U (slotN N (s_cx U i) (nI (s_nd U)))))), .ref (mo 1)]) (congrArg (fun z => F0 m 50 ls (.int z :: [.ref (mo 1)])) (ch_eq hfc)) ?_
        refine r_iald C hT (q0 := 1) rfl (chN (s_fc U (slotN N (s_cx U i) (nI (s_nd U))))) rfl (ch_lt hfc) (by decide) dX11_inputOf_50 ?_
        exact e_iret C hQ () hT (by rw [inQ, if_neg hne, inS, inI, if_neg (not_not_intro hfo), if_neg hk4]) dX11_inputOf_51
    · skip
      have hfo := h_2
      refine lv_iconst (v := 0) hx hb dX11_inputOf_21 (by decide) ?_
      exact e_iret C hQ () hT (by rw [inQ, if_neg hne, inS, inI, if_pos hfo]) dX11_inputOf_22
  · skip
    have heq : i = np := i32_eqN (by omega) (by omega) h_1
    refine lv_sipush (v := 256) hx hb dX11_inputOf_8 (by decide) ?_
    exact e_iret C hQ () hT (by rw [inQ, if_pos heq]) dX11_inputOf_11

set_option maxHeartbeats 400000 in
set_option maxRecDepth 100000 in
theorem c_X11_told (l : Launch) (g : GT) (mo : Nat → Nat) (rr : Nat) (th : Int32) (np : Nat) (no : Nat) (bt : Nat) (en : Bool) (xx : Int64) (ra : Nat) (t0 : Int32) (t1 : Int32) (s1 : Int32) (ca : Int32) (cq : Int32) (ch : Int32) (st : Nat → Int32) (fk : Nat → Int32) (fn : Nat → Int32) (fo : Nat → Int32) (bb : Nat → Int32) (wt : Nat → Int32) (nx : Nat → Int32) (cx : Nat → Int32) (pt : Nat → Int32) (le : Nat → Int32) (sc : Nat → Int32) (ss : Nat → Int32) (ww : Nat → Int32) (xc : Nat → Int32) (lo : Nat → Int64) (hi : Nat → Int64) (ou : Nat → Int32) (xi : Nat → Int32) (sd : Nat) (mx : Nat) (k : Nat) (hsd : sd < 2) (hmx : mx < 2) (hk : k < 256) (hnp : np ≤ 8) : OM (S := Unit) l g yX11_told cX11_told 8 (some .int) ({ frames := 1, cells := 0, slots := 0, locals := 23 } : Room) [.ref (mo 0), .int (nI sd), .int (nI mx), .int (nI k)] (mdL g mo rr th np no bt en xx ra t0 t1 s1 ca cq ch st fk fn fo bb wt nx cx pt le sc ss ww xc lo hi ou xi) (fun _ => some (.int (toldR ww xi (wAt sd mx k 0) (np + 1)))) (fun _ => (mdL g mo rr th np no bt en xx ra t0 t1 s1 ca cq ch st fk fn fo bb wt nx cx pt le sc ss ww xc lo hi ou xi)) := by
  refine OM.startQ (by decide) (Nat.le_of_ble_eq_true rfl) ?_
  intro p e s m below meth c A ls Q H locs hQ C hnm hl hT
  have hx := C.x
  have hb := C.b
  have hl : lv_has ls 8 [(0, .ref (mo 0)), (1, .int (nI sd)), (2, .int (nI mx)), (3, .int (nI k))] := hl
  refine lv_lconst (v := 0) hx hb dX11_told_0 (by decide) ?_
  refine lv_lstore (lv' := [(4, .long 0), (0, .ref (mo 0)), (1, .int (nI sd)), (2, .int (nI mx)), (3, .int (nI k))]) hx hb dX11_told_1 hl (by decide) rfl (fun ls hl => ?_)
  refine lv_iconst (v := 0) hx hb dX11_told_3 (by decide) ?_
  refine lv_istore (lv' := [(6, .int 0), (4, .long 0), (0, .ref (mo 0)), (1, .int (nI sd)), (2, .int (nI mx)), (3, .int (nI k))]) hx hb dX11_told_4 hl (by decide) rfl (fun ls hl => ?_)
  have loop_6 : ∀ (fu : Nat) (i : Nat) (vx6 : Int32) (vx4 : Int64) (H : Heap) (locs : List Loc) (ls : Array Slot) (hli : i ≤ np + 1) (vex6 : vx6 = nI i) (vex4 : vx4 = dotI ww xi (wAt sd mx k 0) i), np + 1 - i < fu → Wd g A s (mdL g mo rr th np no bt en xx ra t0 t1 s1 ca cq ch st fk fn fo bb wt nx cx pt le sc ss ww xc lo hi ou xi) H locs → lv_has ls 8 [(0, .ref (mo 0)), (1, .int (nI sd)), (2, .int (nI mx)), (3, .int (nI k)), (4, .long vx4), (6, .int vx6)] → W p l e ({ frames := 1, cells := 0, slots := 0, locals := 23 } : Room) s m ([.ref (mo 0), .int (nI sd), .int (nI mx), .int (nI k)] : List Value).toArray below meth c H locs 0 0 Q (F0 m 6 ls []) := by
    intro fu
    induction fu with
    | zero => intro i vx6 vx4 H locs ls hli vex6 vex4 hm; exact absurd hm (Nat.not_lt_zero _)
    | succ fu ih =>
      intro i vx6 vx4 H locs ls hli vex6 vex4 hm hT hl
      refine lv_iload hx hb dX11_told_6 (lv_at hl 5 rfl) ?_
      refine lv_aload_n hx hb dX11_told_8 rfl (lv_at hl 0 rfl) ?_
      refine gX11_91 C hT (q0 := 0) rfl dX11_told_9 ?_
      refine lv_icmp_gt (tgt := 49) hx hb dX11_told_12 (by decide) (fun h_1 => ?_) (fun h_1 => ?_)
      · skip
        have hin := lp_le_end vex6 (by omega) hli h_1
        refine lv_lload hx hb dX11_told_49 (lv_at hl 4 rfl) ?_
        refine lv_bipush (v := 16) hx hb dX11_told_51 (by decide) ?_
        refine lv_lshr hx hb dX11_told_53 rfl ?_
        refine lv_topl (fun x_2 ex_2 => ?_)
        refine lv_lstore (lv' := [(6, .long x_2), (0, .ref (mo 0)), (1, .int (nI sd)), (2, .int (nI mx)), (3, .int (nI k)), (4, .long vx4)]) hx hb dX11_told_54 hl (by decide) rfl (fun ls hl => ?_)
        refine lv_lload hx hb dX11_told_56 (lv_at hl 0 rfl) ?_
        refine lv_ldc2 (v := (-2047)) hx hb C.ow (C.ts _ k931) dX11_told_58 ?_
        refine W.lcmp hx hb dX11_told_61 ?_
        refine lv_if_ge (tgt := 71) hx hb dX11_told_62 (by decide) (fun h_3 => ?_) (fun h_3 => ?_)
        · skip
          have h_3 : (-2047) ≤ x_2 := (lg_cmp_ge _ _).mp h_3
          have hc1 := h_3
          refine lv_lload hx hb dX11_told_71 (lv_at hl 0 rfl) ?_
          refine lv_ldc2 (v := 2047) hx hb C.ow (C.ts _ k932) dX11_told_73 ?_
          refine W.lcmp hx hb dX11_told_76 ?_
          refine lv_if_le (tgt := 86) hx hb dX11_told_77 (by decide) (fun h_4 => ?_) (fun h_4 => ?_)
          · skip
            have h_4 : x_2 ≤ 2047 := (lg_cmp_le _ _).mp h_4
            have hc2 := h_4
            refine lv_lload hx hb dX11_told_86 (lv_at hl 0 rfl) ?_
            refine lv_l2i hx hb dX11_told_88 rfl ?_
            have hM := c_X11_squashed l g ((x_2 : Int64).toInt32)
            refine r_callRO (js := []) C hT (runS (js := []) (rm := ({ frames := 0, cells := 0, slots := 0, locals := 0 } : Room)) (As := [.int ((x_2 : Int64).toInt32)]) (n := 1) (rest := []) C hT hM rfl rfl k734 k735 k15 k736 (by decide +kernel) rfl rfl (Nat.le_of_ble_eq_true rfl) hl.1 ⟨Nat.le_of_ble_eq_true rfl, Nat.le_of_ble_eq_true rfl⟩ ⟨Nat.le_of_ble_eq_true rfl, Nat.le_of_ble_eq_true rfl⟩ dX11_told_89) rfl rfl (fun u H locs hT => ?_)
            refine W.eq (g2 := F0 m 92 ls [.int (sqI ((x_2 : Int64).toInt32))]) rfl ?_
            exact e_iret C hQ () hT (by unfold toldR; rw [← hin, ← vex4, ← ex_2]; first | (rw [clamp_lo hc1]; rfl) | (rw [clamp_hi hc2]; rfl) | (rw [clamp_mid hc1 hc2])) dX11_told_92
          · skip
            have h_4 : ¬ x_2 ≤ 2047 := fun q => h_4 ((lg_cmp_le _ _).mpr q)
            have hc2 := Int64.not_le.mp h_4
            refine lv_sipush (v := 2047) hx hb dX11_told_80 (by decide) ?_
            refine lv_goto (tgt := 89) hx hb dX11_told_83 (by decide) ?_
            have hM := c_X11_squashed l g 2047
            refine r_callRO (js := []) C hT (runS (js := []) (rm := ({ frames := 0, cells := 0, slots := 0, locals := 0 } : Room)) (As := [.int 2047]) (n := 1) (rest := []) C hT hM rfl rfl k734 k735 k15 k736 (by decide +kernel) rfl rfl (Nat.le_of_ble_eq_true rfl) hl.1 ⟨Nat.le_of_ble_eq_true rfl, Nat.le_of_ble_eq_true rfl⟩ ⟨Nat.le_of_ble_eq_true rfl, Nat.le_of_ble_eq_true rfl⟩ dX11_told_89) rfl rfl (fun u H locs hT => ?_)
            refine W.eq (g2 := F0 m 92 ls [.int (sqI 2047)]) rfl ?_
            exact e_iret C hQ () hT (by unfold toldR; rw [← hin, ← vex4, ← ex_2]; first | (rw [clamp_lo hc1]; rfl) | (rw [clamp_hi hc2]; rfl) | (rw [clamp_mid hc1 hc2])) dX11_told_92
        · skip
          have h_3 : ¬ (-2047) ≤ x_2 := fun q => h_3 ((lg_cmp_ge _ _).mpr q)
          have hc1 := Int64.not_le.mp h_3
          refine lv_sipush (v := (-2047)) hx hb dX11_told_65 (by decide) ?_
          refine lv_goto (tgt := 89) hx hb dX11_told_68 (by decide) ?_
          have hM := c_X11_squashed l g (-2047)
          refine r_callRO (js := []) C hT (runS (js := []) (rm := ({ frames := 0, cells := 0, slots := 0, locals := 0 } : Room)) (As := [.int (-2047)]) (n := 1) (rest := []) C hT hM rfl rfl k734 k735 k15 k736 (by decide +kernel) rfl rfl (Nat.le_of_ble_eq_true rfl) hl.1 ⟨Nat.le_of_ble_eq_true rfl, Nat.le_of_ble_eq_true rfl⟩ ⟨Nat.le_of_ble_eq_true rfl, Nat.le_of_ble_eq_true rfl⟩ dX11_told_89) rfl rfl (fun u H locs hT => ?_)
          refine W.eq (g2 := F0 m 92 ls [.int (sqI (-2047))]) rfl ?_
          exact e_iret C hQ () hT (by unfold toldR; rw [← hin, ← vex4, ← ex_2]; first | (rw [clamp_lo hc1]; rfl) | (rw [clamp_hi hc2]; rfl) | (rw [clamp_mid hc1 hc2])) dX11_told_92
      · skip
        have hin := lp_le_go vex6 (by omega) hli h_1
        refine lv_lload hx hb dX11_told_15 (lv_at hl 4 rfl) ?_
        refine lv_aload_n hx hb dX11_told_17 rfl (lv_at hl 0 rfl) ?_
        refine gX11_47 C hT (q0 := 0) rfl dX11_told_18 ?_
        refine lv_iload_n hx hb dX11_told_21 rfl (lv_at hl 1 rfl) ?_
        refine lv_iload_n hx hb dX11_told_22 rfl (lv_at hl 2 rfl) ?_
        refine lv_iload_n hx hb dX11_told_23 rfl (lv_at hl 3 rfl) ?_
        refine lv_iload hx hb dX11_told_24 (lv_at hl 5 rfl) ?_
        refine W.eq (g2 := F0 m 26 ls [.int (nI i), .int (nI k), .int (nI mx), .int (nI sd), .ref (mo 13), .long vx4]) (congrArg (fun z => F0 m 26 ls (.int z :: [.int (nI k), .int (nI mx), .int (nI sd), .ref (mo 13), .long vx4])) (vex6)) ?_
        have hM := c_X11_weightAt l g sd mx k i
        refine r_callRO (js := []) C hT (runS (js := []) (rm := ({ frames := 0, cells := 0, slots := 0, locals := 0 } : Room)) (As := [.int (nI sd), .int (nI mx), .int (nI k), .int (nI i)]) (n := 4) (rest := [.ref (mo 13), .long vx4]) C hT hM rfl rfl k748 k749 k15 k750 (by decide +kernel) rfl rfl (Nat.le_of_ble_eq_true rfl) hl.1 ⟨Nat.le_of_ble_eq_true rfl, Nat.le_of_ble_eq_true rfl⟩ ⟨Nat.le_of_ble_eq_true rfl, Nat.le_of_ble_eq_true rfl⟩ dX11_told_26) rfl rfl (fun u H locs hT => ?_)
        refine W.eq (g2 := F0 m 29 ls [.int (nI (wAt sd mx k i)), .ref (mo 13), .long vx4]) rfl ?_
        refine r_iald C hT (q0 := 13) rfl (wAt sd mx k i) rfl (wAt_lt hsd hmx hk (by omega)) (by decide) dX11_told_29 ?_
        refine lv_i2l hx hb dX11_told_30 rfl ?_
        refine lv_aload_n hx hb dX11_told_31 rfl (lv_at hl 0 rfl) ?_
        refine gX11_63 C hT (q0 := 0) rfl dX11_told_32 ?_
        refine lv_iload hx hb dX11_told_35 (lv_at hl 5 rfl) ?_
        refine r_iald C hT (q0 := 18) rfl i vex6 (by omega) (by decide) dX11_told_37 ?_
        refine lv_i2l hx hb dX11_told_38 rfl ?_
        refine lv_lmul hx hb dX11_told_39 ?_
        refine lv_ladd hx hb dX11_told_40 ?_
        refine lv_topl (fun x_5 ex_5 => ?_)
        refine lv_lstore (lv' := [(4, .long x_5), (0, .ref (mo 0)), (1, .int (nI sd)), (2, .int (nI mx)), (3, .int (nI k)), (6, .int vx6)]) hx hb dX11_told_41 hl (by decide) rfl (fun ls hl => ?_)
        obtain ⟨x_6, ex_6⟩ : ∃ y : Int32, y = vx6 + 1 := ⟨_, rfl⟩
        refine lv_iinc (v := x_6) (lv' := [(6, .int x_6), (4, .long x_5), (0, .ref (mo 0)), (1, .int (nI sd)), (2, .int (nI mx)), (3, .int (nI k))]) hx hb dX11_told_43 hl (k := 5) rfl (by rw [ex_6]; rfl) (by decide) rfl (fun ls hl => ?_)
        refine lv_goto (tgt := 6) hx hb dX11_told_46 (by decide) ?_
        exact ih (i + 1) x_6 x_5 H locs ls (by first | assumption | omega | rfl) (by rw [ex_6, vex6]; exact nI_1 i) (by rw [ex_5, vex4]; rfl) (by omega) hT (lv_sub hl [2, 3, 4, 5, 1, 0] rfl)
  exact loop_6 (np + 1 - 0 + 1) 0 0 0 H locs ls (by first | assumption | omega | rfl) rfl rfl (Nat.lt_succ_self _) hT (lv_sub hl [2, 3, 4, 5, 1, 0] rfl)

set_option maxHeartbeats 400000 in
set_option maxRecDepth 100000 in
theorem c_X11_work (l : Launch) (g : GT) (mo : Nat → Nat) (rr : Nat) (th : Int32) (np : Nat) (no : Nat) (bt : Nat) (en : Bool) (xx : Int64) (ra : Nat) (t0 : Int32) (t1 : Int32) (s1 : Int32) (ca : Int32) (cq : Int32) (ch : Int32) (st : Nat → Int32) (fk : Nat → Int32) (fn : Nat → Int32) (fo : Nat → Int32) (bb : Nat → Int32) (wt : Nat → Int32) (nx : Nat → Int32) (cx : Nat → Int32) (pt : Nat → Int32) (le : Nat → Int32) (sc : Nat → Int32) (ss : Nat → Int32) (ww : Nat → Int32) (xc : Nat → Int32) (lo : Nat → Int64) (hi : Nat → Int64) (ou : Nat → Int32) (xi : Nat → Int32) (sd : Nat) (N : Nat) (U : SSt) (hsd : sd < 2) (hG : GI st N rr np fk fn) (hRS : RS sd N np fk U bb wt nx cx pt le sc ss ww xc) (hX : SX N np fk U) : OM (S := Unit) l g yX11_work cX11_work 6 none ({ frames := 3, cells := 0, slots := 0, locals := 70 } : Room) [.ref (mo 0), .int (nI sd)] (mdL g mo rr th np no bt en xx ra t0 t1 s1 ca cq ch st fk fn fo bb wt nx cx pt le sc ss ww xc lo hi ou xi) (fun _ => none) (fun _ => (mdL g mo rr th np no bt en xx ra (t0S st N np fk fo U) (t1S st N np fk fo U) (nI (lbN (s_f U) (s_n U))) (nI (8448 * sd + 33 * s_nd U + tN st (mxS st N np fk fo U) / 128)) (nI (tN st (mxS st N np fk fo U) % 128)) (chS st N np fk fo U) st fk fn fo bb wt nx cx pt le sc ss ww xc lo hi ou (setTo (inQ st N np fk fo U) xi (np + 1)))) := by
  refine OM.startQ (by decide) (Nat.le_of_ble_eq_true rfl) ?_
  intro p e s m below meth c A ls Q H locs hQ C hnm hl hT
  have hx := C.x
  have hb := C.b
  have hl : lv_has ls 6 [(0, .ref (mo 0)), (1, .int (nI sd))] := hl
  have hnp := hG.1
  have hn2 := hX.1.1
  have hbg := hX.1.2.2.1
  have hnd := hX.1.2.1
  have hrr := hG.2.2.1
  have hN := hG.2.1
  have hlb := lb_lt hX.1.2.2.2.2.1
  have hmxl := mxS_lt st N np fk fo U
  have htl := tN_lt (hG.2.2.2.2 _ hmxl)
  have hte := tN_eq (hG.2.2.2.2 _ hmxl)
  refine lv_iconst (v := 0) hx hb dX11_work_0 (by decide) ?_
  refine lv_istore_n (lv' := [(2, .int 0), (0, .ref (mo 0)), (1, .int (nI sd))]) hx hb dX11_work_1 rfl hl (by decide) rfl (fun ls hl => ?_)
  have loop_2 : ∀ (fu : Nat) (i : Nat) (vx2 : Int32) (xi1 : Nat → Int32) (H : Heap) (locs : List Loc) (ls : Array Slot) (hli : i ≤ np + 1) (vex2 : vx2 = nI i) (hxi1 : xi1 = setTo (inQ st N np fk fo U) xi i), np + 1 - i < fu → Wd g A s (mdL g mo rr th np no bt en xx ra t0 t1 s1 ca cq ch st fk fn fo bb wt nx cx pt le sc ss ww xc lo hi ou xi1) H locs → lv_has ls 6 [(0, .ref (mo 0)), (1, .int (nI sd)), (2, .int vx2)] → W p l e ({ frames := 3, cells := 0, slots := 0, locals := 70 } : Room) s m ([.ref (mo 0), .int (nI sd)] : List Value).toArray below meth c H locs 0 0 Q (F0 m 2 ls []) := by
    intro fu
    induction fu with
    | zero => intro i vx2 xi1 H locs ls hli vex2 hxi1 hm; exact absurd hm (Nat.not_lt_zero _)
    | succ fu ih =>
      intro i vx2 xi1 H locs ls hli vex2 hxi1 hm hT hl
      refine lv_iload_n hx hb dX11_work_2 rfl (lv_at hl 2 rfl) ?_
      refine lv_aload_n hx hb dX11_work_3 rfl (lv_at hl 0 rfl) ?_
      refine gX11_91 C hT (q0 := 0) rfl dX11_work_4 ?_
      refine lv_icmp_gt (tgt := 28) hx hb dX11_work_7 (by decide) (fun h_1 => ?_) (fun h_1 => ?_)
      · skip
        have hin := lp_le_end vex2 (by omega) hli h_1
        rw [hin] at hxi1
        refine lv_aload_n hx hb dX11_work_28 rfl (lv_at hl 0 rfl) ?_
        refine lv_aload_n hx hb dX11_work_29 rfl (lv_at hl 0 rfl) ?_
        refine lv_iload_n hx hb dX11_work_30 rfl (lv_at hl 1 rfl) ?_
        refine lv_iconst (v := 1) hx hb dX11_work_31 (by decide) ?_
        refine W.eq (g2 := F0 m 32 ls [.int (nI 1), .int (nI sd), .ref (mo 0), .ref (mo 0)]) (congrArg (fun z => F0 m 32 ls (.int z :: [.int (nI sd), .ref (mo 0), .ref (mo 0)])) (rfl)) ?_
        have hM := c_X11_latest l g mo rr th np no bt en xx ra t0 t1 s1 ca cq ch st fk fn fo bb wt nx cx pt le sc ss ww xc lo hi ou xi1 sd 1 (s_n U) hsd hRS.1.1 hn2 (by decide) (by decide)
        refine r_callRO (js := [0, 1, 2, 3, 4, 5, 6, 7, 8, 9, 10, 11, 12, 13, 14, 15, 16, 17, 18]) C hT (runV (js := [0, 1, 2, 3, 4, 5, 6, 7, 8, 9, 10, 11, 12, 13, 14, 15, 16, 17, 18]) (rm := ({ frames := 0, cells := 0, slots := 0, locals := 0 } : Room)) (As := [.int (nI sd), .int (nI 1)]) (n := 2) (q1 := 0) (rest := [.ref (mo 0)]) C hT hM rfl rfl k766 k768 s15 k15 k769 (by decide +kernel) rfl rfl rfl rfl (Nat.le_of_ble_eq_true rfl) hl.1 ⟨Nat.le_of_ble_eq_true rfl, Nat.le_of_ble_eq_true rfl⟩ ⟨Nat.le_of_ble_eq_true rfl, Nat.le_of_ble_eq_true rfl⟩ dX11_work_32) rfl rfl (fun u H locs hT => ?_)
        refine W.eq (g2 := F0 m 35 ls [.int (backN (vb bb sd) (s_n U) 1), .ref (mo 0)]) rfl ?_
        refine W.eq (g2 := F0 m 35 ls [.int (nI (lbN (s_f U) (s_n U))), .ref (mo 0)]) (congrArg (fun z => F0 m 35 ls (.int z :: [.ref (mo 0)])) ((by rw [back_cg (F := vb bb sd) (f := s_f U) (n := s_n U) (fun j hj => hRS.1.2.2 j (by omega))]; exact lb_eq hX.1.2.2.2.2.1))) ?_
        refine pX11_148 C hT (q0 := 0) rfl dX11_work_35 (fun H locs hT => ?_)
        have hT : Wd g A s (mdL g mo rr th np no bt en xx ra t0 t1 (nI (lbN (s_f U) (s_n U))) ca cq ch st fk fn fo bb wt nx cx pt le sc ss ww xc lo hi ou xi1) H locs := hT
        refine lv_aload_n hx hb dX11_work_38 rfl (lv_at hl 0 rfl) ?_
        refine lv_aload_n hx hb dX11_work_39 rfl (lv_at hl 0 rfl) ?_
        refine lv_iload_n hx hb dX11_work_40 rfl (lv_at hl 1 rfl) ?_
        refine lv_iconst (v := 0) hx hb dX11_work_41 (by decide) ?_
        refine W.eq (g2 := F0 m 42 ls [.int (nI 0), .int (nI sd), .ref (mo 0), .ref (mo 0)]) (congrArg (fun z => F0 m 42 ls (.int z :: [.int (nI sd), .ref (mo 0), .ref (mo 0)])) (rfl)) ?_
        refine lv_aload_n hx hb dX11_work_42 rfl (lv_at hl 0 rfl) ?_
        refine gX11_29 C hT (q0 := 0) rfl dX11_work_43 ?_
        refine lv_iload_n hx hb dX11_work_46 rfl (lv_at hl 1 rfl) ?_
        refine r_iald C hT (q0 := 7) rfl sd rfl (by omega) (by decide) dX11_work_47 ?_
        refine W.eq (g2 := F0 m 48 ls [.int (nI (s_nd U)), .int (nI 0), .int (nI sd), .ref (mo 0), .ref (mo 0)]) (congrArg (fun z => F0 m 48 ls (.int z :: [.int (nI 0), .int (nI sd), .ref (mo 0), .ref (mo 0)])) (hRS.1.2.1)) ?_
        have hM := c_X11_told l g mo rr th np no bt en xx ra t0 t1 (nI (lbN (s_f U) (s_n U))) ca cq ch st fk fn fo bb wt nx cx pt le sc ss ww xc lo hi ou xi1 sd 0 (s_nd U) hsd (by decide) hnd hnp
        refine r_callRO (js := [0, 1, 2, 3, 4, 5, 6, 7, 8, 9, 10, 11, 12, 13, 14, 15, 16, 17, 18]) C hT (runV (js := [0, 1, 2, 3, 4, 5, 6, 7, 8, 9, 10, 11, 12, 13, 14, 15, 16, 17, 18]) (rm := ({ frames := 1, cells := 0, slots := 0, locals := 23 } : Room)) (As := [.int (nI sd), .int (nI 0), .int (nI (s_nd U))]) (n := 3) (q1 := 0) (rest := [.ref (mo 0)]) C hT hM rfl rfl k927 k929 s24 k15 k930 (by decide +kernel) rfl rfl rfl rfl (Nat.le_of_ble_eq_true rfl) hl.1 ⟨Nat.le_of_ble_eq_true rfl, Nat.le_of_ble_eq_true rfl⟩ ⟨Nat.le_of_ble_eq_true rfl, Nat.le_of_ble_eq_true rfl⟩ dX11_work_48) rfl rfl (fun u H locs hT => ?_)
        refine W.eq (g2 := F0 m 51 ls [.int (toldR ww xi1 (wAt sd 0 (s_nd U) 0) (np + 1)), .ref (mo 0)]) rfl ?_
        refine W.eq (g2 := F0 m 51 ls [.int (t0S st N np fk fo U), .ref (mo 0)]) (congrArg (fun z => F0 m 51 ls (.int z :: [.ref (mo 0)])) ((by rw [hxi1]; exact t0R hRS.2.2.2.2.1 hX hnp))) ?_
        refine pX11_155 C hT (q0 := 0) rfl dX11_work_51 (fun H locs hT => ?_)
        have hT : Wd g A s (mdL g mo rr th np no bt en xx ra (t0S st N np fk fo U) t1 (nI (lbN (s_f U) (s_n U))) ca cq ch st fk fn fo bb wt nx cx pt le sc ss ww xc lo hi ou xi1) H locs := hT
        refine lv_aload_n hx hb dX11_work_54 rfl (lv_at hl 0 rfl) ?_
        refine lv_aload_n hx hb dX11_work_55 rfl (lv_at hl 0 rfl) ?_
        refine lv_iload_n hx hb dX11_work_56 rfl (lv_at hl 1 rfl) ?_
        refine lv_iconst (v := 1) hx hb dX11_work_57 (by decide) ?_
        refine W.eq (g2 := F0 m 58 ls [.int (nI 1), .int (nI sd), .ref (mo 0), .ref (mo 0)]) (congrArg (fun z => F0 m 58 ls (.int z :: [.int (nI sd), .ref (mo 0), .ref (mo 0)])) (rfl)) ?_
        refine lv_aload_n hx hb dX11_work_58 rfl (lv_at hl 0 rfl) ?_
        refine gX11_148 C hT (q0 := 0) rfl dX11_work_59 ?_
        have hM := c_X11_told l g mo rr th np no bt en xx ra (t0S st N np fk fo U) t1 (nI (lbN (s_f U) (s_n U))) ca cq ch st fk fn fo bb wt nx cx pt le sc ss ww xc lo hi ou xi1 sd 1 (lbN (s_f U) (s_n U)) hsd (by decide) hlb hnp
        refine r_callRO (js := [0, 1, 2, 3, 4, 5, 6, 7, 8, 9, 10, 11, 12, 13, 14, 15, 16, 17, 18]) C hT (runV (js := [0, 1, 2, 3, 4, 5, 6, 7, 8, 9, 10, 11, 12, 13, 14, 15, 16, 17, 18]) (rm := ({ frames := 1, cells := 0, slots := 0, locals := 23 } : Room)) (As := [.int (nI sd), .int (nI 1), .int (nI (lbN (s_f U) (s_n U)))]) (n := 3) (q1 := 0) (rest := [.ref (mo 0)]) C hT hM rfl rfl k927 k929 s24 k15 k930 (by decide +kernel) rfl rfl rfl rfl (Nat.le_of_ble_eq_true rfl) hl.1 ⟨Nat.le_of_ble_eq_true rfl, Nat.le_of_ble_eq_true rfl⟩ ⟨Nat.le_of_ble_eq_true rfl, Nat.le_of_ble_eq_true rfl⟩ dX11_work_62) rfl rfl (fun u H locs hT => ?_)
        refine W.eq (g2 := F0 m 65 ls [.int (toldR ww xi1 (wAt sd 1 (lbN (s_f U) (s_n U)) 0) (np + 1)), .ref (mo 0)]) rfl ?_
        refine W.eq (g2 := F0 m 65 ls [.int (t1S st N np fk fo U), .ref (mo 0)]) (congrArg (fun z => F0 m 65 ls (.int z :: [.ref (mo 0)])) ((by rw [hxi1]; exact t1R hRS.2.2.2.2.1 hX hnp))) ?_
        refine pX11_158 C hT (q0 := 0) rfl dX11_work_65 (fun H locs hT => ?_)
        have hT : Wd g A s (mdL g mo rr th np no bt en xx ra (t0S st N np fk fo U) (t1S st N np fk fo U) (nI (lbN (s_f U) (s_n U))) ca cq ch st fk fn fo bb wt nx cx pt le sc ss ww xc lo hi ou xi1) H locs := hT
        refine lv_aload_n hx hb dX11_work_68 rfl (lv_at hl 0 rfl) ?_
        refine gX11_155 C hT (q0 := 0) rfl dX11_work_69 ?_
        refine lv_aload_n hx hb dX11_work_72 rfl (lv_at hl 0 rfl) ?_
        refine gX11_158 C hT (q0 := 0) rfl dX11_work_73 ?_
        refine lv_iadd hx hb dX11_work_76 ?_
        refine lv_iconst (v := 1) hx hb dX11_work_77 (by decide) ?_
        refine lv_iadd hx hb dX11_work_78 ?_
        refine lv_iconst (v := 1) hx hb dX11_work_79 (by decide) ?_
        refine lv_ishr hx hb dX11_work_80 ?_
        refine W.eq (g2 := F0 m 81 ls [.int (nI (mxS st N np fk fo U))]) (congrArg (fun z => F0 m 81 ls (.int z :: [])) (mix_eqG (told_rng _ _ _) (told_rng _ _ _))) ?_
        refine lv_istore_n (lv' := [(2, .int (nI (mxS st N np fk fo U))), (0, .ref (mo 0)), (1, .int (nI sd))]) hx hb dX11_work_81 rfl hl (by decide) rfl (fun ls hl => ?_)
        refine lv_aload_n hx hb dX11_work_82 rfl (lv_at hl 1 rfl) ?_
        refine gX11_7 C hT (q0 := 0) rfl dX11_work_83 ?_
        refine lv_iload_n hx hb dX11_work_86 rfl (lv_at hl 0 rfl) ?_
        refine r_iald C hT (q0 := 1) rfl (mxS st N np fk fo U) rfl hmxl (by decide) dX11_work_87 ?_
        refine lv_sipush (v := 2048) hx hb dX11_work_88 (by decide) ?_
        refine lv_iadd hx hb dX11_work_91 ?_
        refine W.eq (g2 := F0 m 92 ls [.int (nI (tN st (mxS st N np fk fo U)))]) (congrArg (fun z => F0 m 92 ls (.int z :: [])) (hte)) ?_
        refine lv_istore_n (lv' := [(3, .int (nI (tN st (mxS st N np fk fo U)))), (2, .int (nI (mxS st N np fk fo U))), (0, .ref (mo 0)), (1, .int (nI sd))]) hx hb dX11_work_92 rfl hl (by decide) rfl (fun ls hl => ?_)
        refine lv_iload_n hx hb dX11_work_93 rfl (lv_at hl 0 rfl) ?_
        refine lv_bipush (v := 7) hx hb dX11_work_94 (by decide) ?_
        refine lv_ishr hx hb dX11_work_96 ?_
        refine W.eq (g2 := F0 m 97 ls [.int (nI (tN st (mxS st N np fk fo U) / 128))]) (congrArg (fun z => F0 m 97 ls (.int z :: [])) (pk_shrN (by omega) _ 7 (by decide))) ?_
        refine lv_istore (lv' := [(4, .int (nI (tN st (mxS st N np fk fo U) / 128))), (3, .int (nI (tN st (mxS st N np fk fo U)))), (2, .int (nI (mxS st N np fk fo U))), (0, .ref (mo 0)), (1, .int (nI sd))]) hx hb dX11_work_97 hl (by decide) rfl (fun ls hl => ?_)
        refine lv_aload_n hx hb dX11_work_99 rfl (lv_at hl 3 rfl) ?_
        refine lv_iload_n hx hb dX11_work_100 rfl (lv_at hl 1 rfl) ?_
        refine lv_bipush (v := 127) hx hb dX11_work_101 (by decide) ?_
        refine lv_iand hx hb dX11_work_103 ?_
        refine W.eq (g2 := F0 m 104 ls [.int (nI (tN st (mxS st N np fk fo U) % 128)), .ref (mo 0)]) (congrArg (fun z => F0 m 104 ls (.int z :: [.ref (mo 0)])) (andI (by omega) 7 (by decide))) ?_
        refine pX11_161 C hT (q0 := 0) rfl dX11_work_104 (fun H locs hT => ?_)
        have hT : Wd g A s (mdL g mo rr th np no bt en xx ra (t0S st N np fk fo U) (t1S st N np fk fo U) (nI (lbN (s_f U) (s_n U))) ca (nI (tN st (mxS st N np fk fo U) % 128)) ch st fk fn fo bb wt nx cx pt le sc ss ww xc lo hi ou xi1) H locs := hT
        refine lv_aload_n hx hb dX11_work_107 rfl (lv_at hl 3 rfl) ?_
        refine lv_sipush (v := 8448) hx hb dX11_work_108 (by decide) ?_
        refine lv_iload_n hx hb dX11_work_111 rfl (lv_at hl 4 rfl) ?_
        refine lv_imul hx hb dX11_work_112 ?_
        refine W.eq (g2 := F0 m 113 ls [.int (nI (8448 * sd)), .ref (mo 0)]) (congrArg (fun z => F0 m 113 ls (.int z :: [.ref (mo 0)])) (pk_mul 8448 sd)) ?_
        refine lv_bipush (v := 33) hx hb dX11_work_113 (by decide) ?_
        refine lv_aload_n hx hb dX11_work_115 rfl (lv_at hl 3 rfl) ?_
        refine gX11_29 C hT (q0 := 0) rfl dX11_work_116 ?_
        refine lv_iload_n hx hb dX11_work_119 rfl (lv_at hl 4 rfl) ?_
        refine r_iald C hT (q0 := 7) rfl sd rfl (by omega) (by decide) dX11_work_120 ?_
        refine W.eq (g2 := F0 m 121 ls [.int (nI (s_nd U)), .int 33, .int (nI (8448 * sd)), .ref (mo 0)]) (congrArg (fun z => F0 m 121 ls (.int z :: [.int 33, .int (nI (8448 * sd)), .ref (mo 0)])) (hRS.1.2.1)) ?_
        refine lv_imul hx hb dX11_work_121 ?_
        refine W.eq (g2 := F0 m 122 ls [.int (nI (33 * s_nd U)), .int (nI (8448 * sd)), .ref (mo 0)]) (congrArg (fun z => F0 m 122 ls (.int z :: [.int (nI (8448 * sd)), .ref (mo 0)])) (pk_mul 33 _)) ?_
        refine lv_iadd hx hb dX11_work_122 ?_
        refine W.eq (g2 := F0 m 123 ls [.int (nI (8448 * sd + 33 * s_nd U)), .ref (mo 0)]) (congrArg (fun z => F0 m 123 ls (.int z :: [.ref (mo 0)])) (nI_add _ _)) ?_
        refine lv_iload hx hb dX11_work_123 (lv_at hl 0 rfl) ?_
        refine lv_iadd hx hb dX11_work_125 ?_
        refine W.eq (g2 := F0 m 126 ls [.int (nI (8448 * sd + 33 * s_nd U + tN st (mxS st N np fk fo U) / 128)), .ref (mo 0)]) (congrArg (fun z => F0 m 126 ls (.int z :: [.ref (mo 0)])) (nI_add _ _)) ?_
        refine pX11_164 C hT (q0 := 0) rfl dX11_work_126 (fun H locs hT => ?_)
        have hT : Wd g A s (mdL g mo rr th np no bt en xx ra (t0S st N np fk fo U) (t1S st N np fk fo U) (nI (lbN (s_f U) (s_n U))) (nI (8448 * sd + 33 * s_nd U + tN st (mxS st N np fk fo U) / 128)) (nI (tN st (mxS st N np fk fo U) % 128)) ch st fk fn fo bb wt nx cx pt le sc ss ww xc lo hi ou xi1) H locs := hT
        refine lv_aload_n hx hb dX11_work_129 rfl (lv_at hl 3 rfl) ?_
        refine gX11_50 C hT (q0 := 0) rfl dX11_work_130 ?_
        refine lv_aload_n hx hb dX11_work_133 rfl (lv_at hl 3 rfl) ?_
        refine gX11_164 C hT (q0 := 0) rfl dX11_work_134 ?_
        refine r_iald C hT (q0 := 14) rfl (8448 * sd + 33 * s_nd U + tN st (mxS st N np fk fo U) / 128) rfl (by omega) (by decide) dX11_work_137 ?_
        refine W.eq (g2 := F0 m 138 ls [.int (s_fx U (33 * s_nd U + tN st (mxS st N np fk fo U) / 128))]) (congrArg (fun z => F0 m 138 ls (.int z :: [])) ((by rw [Nat.add_assoc]; exact hRS.2.2.2.2.2 _ (by omega)))) ?_
        refine lv_sipush (v := 128) hx hb dX11_work_138 (by decide) ?_
        refine lv_aload_n hx hb dX11_work_141 rfl (lv_at hl 3 rfl) ?_
        refine gX11_161 C hT (q0 := 0) rfl dX11_work_142 ?_
        refine lv_isub hx hb dX11_work_145 ?_
        refine lv_imul hx hb dX11_work_146 ?_
        refine lv_aload_n hx hb dX11_work_147 rfl (lv_at hl 3 rfl) ?_
        refine gX11_50 C hT (q0 := 0) rfl dX11_work_148 ?_
        refine lv_aload_n hx hb dX11_work_151 rfl (lv_at hl 3 rfl) ?_
        refine gX11_164 C hT (q0 := 0) rfl dX11_work_152 ?_
        refine lv_iconst (v := 1) hx hb dX11_work_155 (by decide) ?_
        refine lv_iadd hx hb dX11_work_156 ?_
        refine W.eq (g2 := F0 m 157 ls [.int (nI (8448 * sd + 33 * s_nd U + tN st (mxS st N np fk fo U) / 128 + 1)), .ref (mo 14), .int ((s_fx U (33 * s_nd U + tN st (mxS st N np fk fo U) / 128)) * (128 - (nI (tN st (mxS st N np fk fo U) % 128))))]) (congrArg (fun z => F0 m 157 ls (.int z :: [.ref (mo 14), .int ((s_fx U (33 * s_nd U + tN st (mxS st N np fk fo U) / 128)) * (128 - (nI (tN st (mxS st N np fk fo U) % 128))))])) (nI_1 _)) ?_
        refine r_iald C hT (q0 := 14) rfl (8448 * sd + 33 * s_nd U + tN st (mxS st N np fk fo U) / 128 + 1) rfl (by omega) (by decide) dX11_work_157 ?_
        refine W.eq (g2 := F0 m 158 ls [.int (s_fx U (33 * s_nd U + (tN st (mxS st N np fk fo U) / 128 + 1))), .int ((s_fx U (33 * s_nd U + tN st (mxS st N np fk fo U) / 128)) * (128 - (nI (tN st (mxS st N np fk fo U) % 128))))]) (congrArg (fun z => F0 m 158 ls (.int z :: [.int ((s_fx U (33 * s_nd U + tN st (mxS st N np fk fo U) / 128)) * (128 - (nI (tN st (mxS st N np fk fo U) % 128))))])) ((by rw [Nat.add_assoc, Nat.add_assoc]; exact hRS.2.2.2.2.2 _ (by omega)))) ?_
        refine lv_aload_n hx hb dX11_work_158 rfl (lv_at hl 3 rfl) ?_
        refine gX11_161 C hT (q0 := 0) rfl dX11_work_159 ?_
        refine lv_imul hx hb dX11_work_162 ?_
        refine lv_iadd hx hb dX11_work_163 ?_
        refine lv_sipush (v := 2048) hx hb dX11_work_164 (by decide) ?_
        refine lv_idiv hx hb dX11_work_167 (by decide) ?_
        refine W.eq (g2 := F0 m 168 ls [.int (corrI (s_fx U) (s_nd U) (tN st (mxS st N np fk fo U)))]) (congrArg (fun z => F0 m 168 ls (.int z :: [])) (corr_div (hX.2.2.2.1 _ (by omega)) (hX.2.2.2.1 _ (by omega)) (by omega))) ?_
        refine lv_istore (lv' := [(5, .int (corrI (s_fx U) (s_nd U) (tN st (mxS st N np fk fo U)))), (4, .int (nI (tN st (mxS st N np fk fo U) / 128))), (3, .int (nI (tN st (mxS st N np fk fo U)))), (2, .int (nI (mxS st N np fk fo U))), (0, .ref (mo 0)), (1, .int (nI sd))]) hx hb dX11_work_168 hl (by decide) rfl (fun ls hl => ?_)
        refine lv_aload_n hx hb dX11_work_170 rfl (lv_at hl 4 rfl) ?_
        refine lv_iload_n hx hb dX11_work_171 rfl (lv_at hl 3 rfl) ?_
        refine lv_iconst (v := 3) hx hb dX11_work_172 (by decide) ?_
        refine lv_iload hx hb dX11_work_173 (lv_at hl 0 rfl) ?_
        refine lv_imul hx hb dX11_work_175 ?_
        refine lv_iadd hx hb dX11_work_176 ?_
        refine lv_iconst (v := 2) hx hb dX11_work_177 (by decide) ?_
        refine lv_iadd hx hb dX11_work_178 ?_
        refine lv_iconst (v := 2) hx hb dX11_work_179 (by decide) ?_
        refine lv_ishr hx hb dX11_work_180 ?_
        refine lv_iconst (v := 1) hx hb dX11_work_181 (by decide) ?_
        refine lv_sipush (v := 4095) hx hb dX11_work_182 (by decide) ?_
        have hM := c_X11_bound l g ((((nI (mxS st N np fk fo U)) + (3 * (corrI (s_fx U) (s_nd U) (tN st (mxS st N np fk fo U))))) + 2) >>> (2 &&& 31)) 1 4095
        refine r_callRO (js := []) C hT (runS (js := []) (rm := ({ frames := 0, cells := 0, slots := 0, locals := 0 } : Room)) (As := [.int ((((nI (mxS st N np fk fo U)) + (3 * (corrI (s_fx U) (s_nd U) (tN st (mxS st N np fk fo U))))) + 2) >>> (2 &&& 31)), .int 1, .int 4095]) (n := 3) (rest := [.ref (mo 0)]) C hT hM rfl rfl k933 k934 k15 k935 (by decide +kernel) rfl rfl (Nat.le_of_ble_eq_true rfl) hl.1 ⟨Nat.le_of_ble_eq_true rfl, Nat.le_of_ble_eq_true rfl⟩ ⟨Nat.le_of_ble_eq_true rfl, Nat.le_of_ble_eq_true rfl⟩ dX11_work_185) rfl rfl (fun u H locs hT => ?_)
        refine W.eq (g2 := F0 m 188 ls [.int (boundM ((((nI (mxS st N np fk fo U)) + (3 * (corrI (s_fx U) (s_nd U) (tN st (mxS st N np fk fo U))))) + 2) >>> (2 &&& 31)) 1 4095), .ref (mo 0)]) rfl ?_
        refine W.eq (g2 := F0 m 188 ls [.int (chS st N np fk fo U), .ref (mo 0)]) (congrArg (fun z => F0 m 188 ls (.int z :: [.ref (mo 0)])) ((by rw [boundM_eq (by decide)]; rfl))) ?_
        refine pX11_170 C hT (q0 := 0) rfl dX11_work_188 (fun H locs hT => ?_)
        have hT : Wd g A s (mdL g mo rr th np no bt en xx ra (t0S st N np fk fo U) (t1S st N np fk fo U) (nI (lbN (s_f U) (s_n U))) (nI (8448 * sd + 33 * s_nd U + tN st (mxS st N np fk fo U) / 128)) (nI (tN st (mxS st N np fk fo U) % 128)) (chS st N np fk fo U) st fk fn fo bb wt nx cx pt le sc ss ww xc lo hi ou xi1) H locs := hT
        exact e_vret C hQ () (by exact hT.eq (by rw [hxi1])) rfl dX11_work_191
      · skip
        have hin := lp_le_go vex2 (by omega) hli h_1
        refine lv_aload_n hx hb dX11_work_10 rfl (lv_at hl 0 rfl) ?_
        refine gX11_63 C hT (q0 := 0) rfl dX11_work_11 ?_
        refine lv_iload_n hx hb dX11_work_14 rfl (lv_at hl 2 rfl) ?_
        refine lv_aload_n hx hb dX11_work_15 rfl (lv_at hl 0 rfl) ?_
        refine lv_iload_n hx hb dX11_work_16 rfl (lv_at hl 1 rfl) ?_
        refine lv_iload_n hx hb dX11_work_17 rfl (lv_at hl 2 rfl) ?_
        refine W.eq (g2 := F0 m 18 ls [.int (nI i), .int (nI sd), .ref (mo 0), .int vx2, .ref (mo 18)]) (congrArg (fun z => F0 m 18 ls (.int z :: [.int (nI sd), .ref (mo 0), .int vx2, .ref (mo 18)])) (vex2)) ?_
        have hM := c_X11_inputOf l g mo rr th np no bt en xx ra t0 t1 s1 ca cq ch st fk fn fo bb wt nx cx pt le sc ss ww xc lo hi ou xi1 sd N U i hsd hG hRS hX hin
        refine r_callRO (js := [0, 1, 2, 3, 4, 5, 6, 7, 8, 9, 10, 11, 12, 13, 14, 15, 16, 17, 18]) C hT (runV (js := [0, 1, 2, 3, 4, 5, 6, 7, 8, 9, 10, 11, 12, 13, 14, 15, 16, 17, 18]) (rm := ({ frames := 2, cells := 0, slots := 0, locals := 44 } : Room)) (As := [.int (nI sd), .int (nI i)]) (n := 2) (q1 := 0) (rest := [.int vx2, .ref (mo 18)]) C hT hM rfl rfl k915 k917 s21 k15 k918 (by decide +kernel) rfl rfl rfl rfl (Nat.le_of_ble_eq_true rfl) hl.1 ⟨Nat.le_of_ble_eq_true rfl, Nat.le_of_ble_eq_true rfl⟩ ⟨Nat.le_of_ble_eq_true rfl, Nat.le_of_ble_eq_true rfl⟩ dX11_work_18) rfl rfl (fun u H locs hT => ?_)
        refine W.eq (g2 := F0 m 21 ls [.int (inQ st N np fk fo U i), .int vx2, .ref (mo 18)]) rfl ?_
        refine r_iast C hT (q0 := 18) rfl i vex2 (by omega) (by decide) dX11_work_21 (fun H locs hT => ?_)
        have hT : Wd g A s (mdL g mo rr th np no bt en xx ra t0 t1 s1 ca cq ch st fk fn fo bb wt nx cx pt le sc ss ww xc lo hi ou (upd xi1 i (inQ st N np fk fo U i))) H locs := hT
        obtain ⟨x_2, ex_2⟩ : ∃ y : Int32, y = vx2 + 1 := ⟨_, rfl⟩
        refine lv_iinc (v := x_2) (lv' := [(2, .int x_2), (0, .ref (mo 0)), (1, .int (nI sd))]) hx hb dX11_work_22 hl (k := 2) rfl (by rw [ex_2]; rfl) (by decide) rfl (fun ls hl => ?_)
        refine lv_goto (tgt := 2) hx hb dX11_work_25 (by decide) ?_
        exact ih (i + 1) x_2 (upd xi1 i (inQ st N np fk fo U i)) H locs ls (by first | omega | assumption | rfl) (by rw [ex_2, vex2]; exact nI_1 i) (by rw [hxi1]; exact setTo_s _ _ _) (by omega) hT (lv_sub hl [1, 2, 0] rfl)
  exact loop_2 (np + 1 - 0 + 1) 0 0 xi H locs ls (by first | omega | assumption | rfl) rfl (setTo_0 _ _) (Nat.lt_succ_self _) hT (lv_sub hl [1, 2, 0] rfl)
