set_option maxHeartbeats 400000 in
set_option maxRecDepth 100000 in
theorem c_X11_match (l : Launch) (g : GT) (mo : Nat → Nat) (rr : Nat) (th : Int32) (np : Nat) (no : Nat) (bt : Nat) (en : Bool) (xx : Int64) (ra : Nat) (t0 : Int32) (t1 : Int32) (s1 : Int32) (ca : Int32) (cq : Int32) (ch : Int32) (st : Nat → Int32) (fk : Nat → Int32) (fn : Nat → Int32) (fo : Nat → Int32) (bb : Nat → Int32) (wt : Nat → Int32) (nx : Nat → Int32) (cx : Nat → Int32) (pt : Nat → Int32) (le : Nat → Int32) (sc : Nat → Int32) (ss : Nat → Int32) (ww : Nat → Int32) (xc : Nat → Int32) (lo : Nat → Int64) (hi : Nat → Int64) (ou : Nat → Int32) (xi : Nat → Int32) (sd : Nat) (n : Nat) (i : Nat) (bh : Int32) (t : Nat) (pl : Nat) (ln : Nat) (hsd : sd < 2) (hw : wt sd = nI n) (hn : n ≤ 2000) (hi8 : i < 8) (hft : fn i = nI t) (ht1 : 1 ≤ t) (ht8 : t ≤ 8) (hpt : pt (8 * sd + i) = nI pl) (hle : le (8 * sd + i) = nI ln) (hpl : pl < 2050) (hln : ln ≤ 32) (hpn : 0 < ln → pl < n) (hbh : bh = 0 → ln = 0) : OM (S := Unit) l g yX11_match cX11_match 9 none ({ frames := 1, cells := 0, slots := 0, locals := 22 } : Room) [.ref (mo 0), .int (nI sd), .int (nI i), .int bh] (mdL g mo rr th np no bt en xx ra t0 t1 s1 ca cq ch st fk fn fo bb wt nx cx pt le sc ss ww xc lo hi ou xi) (fun _ => none) (fun _ => (mdL g mo rr th np no bt en xx ra t0 t1 s1 ca cq ch st fk fn fo bb wt nx cx (upd pt (8 * sd + i) (nI (mtP (vb bb sd) n t pl ln))) (upd le (8 * sd + i) (nI (mtL (vb bb sd) n t pl ln))) sc ss ww xc lo hi ou xi)) := by
  refine OM.startQ (by decide) (Nat.le_of_ble_eq_true rfl) ?_
  intro p e s m below meth c A ls Q H locs hQ C hnm hl hT
  have hx := C.x
  have hb := C.b
  have hl : lv_has ls 9 [(0, .ref (mo 0)), (1, .int (nI sd)), (2, .int (nI i)), (3, .int bh)] := hl
  refine lv_bipush (v := 8) hx hb dX11_match_0 (by decide) ?_
  refine lv_iload_n hx hb dX11_match_2 rfl (lv_at hl 1 rfl) ?_
  refine lv_imul hx hb dX11_match_3 ?_
  refine W.eq (g2 := F0 m 4 ls [.int (nI (8 * sd))]) (congrArg (fun z => F0 m 4 ls (.int z :: [])) (pk_mul 8 sd)) ?_
  refine lv_iload_n hx hb dX11_match_4 rfl (lv_at hl 2 rfl) ?_
  refine lv_iadd hx hb dX11_match_5 ?_
  refine W.eq (g2 := F0 m 6 ls [.int (nI (8 * sd + i))]) (congrArg (fun z => F0 m 6 ls (.int z :: [])) (nI_add _ _)) ?_
  refine lv_istore (lv' := [(4, .int (nI (8 * sd + i))), (0, .ref (mo 0)), (1, .int (nI sd)), (2, .int (nI i)), (3, .int bh)]) hx hb dX11_match_6 hl (by decide) rfl (fun ls hl => ?_)
  refine lv_iload_n hx hb dX11_match_8 rfl (lv_at hl 4 rfl) ?_
  refine lv_if_eq (tgt := 96) hx hb dX11_match_9 (by decide) (fun h_1 => ?_) (fun h_1 => ?_)
  · skip
    have hfo := fol_no (f := (vb bb sd)) (n := n) (pl := pl) (ln := ln) (Or.inl (hbh h_1)) hpn
    have hpt1 : pt = upd pt (8 * sd + i) (nI (folP (vb bb sd) n pl ln)) := by rw [hfo.1]; exact upd_id hpt
    have hle1 : upd le (8 * sd + i) 0 = upd le (8 * sd + i) (nI (folL (vb bb sd) n pl ln)) := by rw [hfo.2]; rfl
    refine lv_aload_n hx hb dX11_match_96 rfl (lv_at hl 1 rfl) ?_
    refine gX11_38 C hT (q0 := 0) rfl dX11_match_97 ?_
    refine lv_iload hx hb dX11_match_100 (lv_at hl 0 rfl) ?_
    refine lv_iconst (v := 0) hx hb dX11_match_102 (by decide) ?_
    refine r_iast C hT (q0 := 10) rfl (8 * sd + i) rfl (by omega) (by decide) dX11_match_103 (fun H locs hT => ?_)
    have hT : Wd g A s (mdL g mo rr th np no bt en xx ra t0 t1 s1 ca cq ch st fk fn fo bb wt nx cx pt (upd le (8 * sd + i) 0) sc ss ww xc lo hi ou xi) H locs := hT
    refine lv_aload_n hx hb dX11_match_104 rfl (lv_at hl 1 rfl) ?_
    refine gX11_16 C hT (q0 := 0) rfl dX11_match_105 ?_
    refine lv_iload_n hx hb dX11_match_108 rfl (lv_at hl 3 rfl) ?_
    refine r_iald C hT (q0 := 3) rfl i rfl hi8 (by decide) dX11_match_109 ?_
    refine W.eq (g2 := F0 m 110 ls [.int (nI t)]) (congrArg (fun z => F0 m 110 ls (.int z :: [])) (hft)) ?_
    refine lv_istore (lv' := [(5, .int (nI t)), (4, .int (nI (8 * sd + i))), (0, .ref (mo 0)), (1, .int (nI sd)), (2, .int (nI i)), (3, .int bh)]) hx hb dX11_match_110 hl (by decide) rfl (fun ls hl => ?_)
    refine lv_aload_n hx hb dX11_match_112 rfl (lv_at hl 2 rfl) ?_
    refine gX11_26 C hT (q0 := 0) rfl dX11_match_113 ?_
    refine lv_iload_n hx hb dX11_match_116 rfl (lv_at hl 3 rfl) ?_
    refine r_iald C hT (q0 := 6) rfl sd rfl (by omega) (by decide) dX11_match_117 ?_
    refine W.eq (g2 := F0 m 118 ls [.int (nI n)]) (congrArg (fun z => F0 m 118 ls (.int z :: [])) (hw)) ?_
    refine lv_iconst (v := 1) hx hb dX11_match_118 (by decide) ?_
    refine lv_isub hx hb dX11_match_119 ?_
    refine lv_topi (fun x_2 ex_2 => ?_)
    refine lv_istore (lv' := [(6, .int x_2), (5, .int (nI t)), (4, .int (nI (8 * sd + i))), (0, .ref (mo 0)), (1, .int (nI sd)), (2, .int (nI i)), (3, .int bh)]) hx hb dX11_match_120 hl (by decide) rfl (fun ls hl => ?_)
    have loop_122 : ∀ (fu : Nat) (i2 : Nat) (vx6 : Int32) (pl2 : Nat) (ln2 : Nat) (pt2 : Nat → Int32) (le2 : Nat → Int32) (H : Heap) (locs : List Loc) (ls : Array Slot) (hi2 : i2 ≤ n) (vex6 : vx6 = nI i2 - 1) (hpt2 : pt2 = upd pt (8 * sd + i) (nI pl2)) (hle2 : le2 = upd le (8 * sd + i) (nI ln2)) (hl32 : ln2 ≤ 32) (hsea : sea (vb bb sd) n t (folP (vb bb sd) n pl ln) (folL (vb bb sd) n pl ln) i2 pl2 ln2), i2 < fu → Wd g A s (mdL g mo rr th np no bt en xx ra t0 t1 s1 ca cq ch st fk fn fo bb wt nx cx pt2 le2 sc ss ww xc lo hi ou xi) H locs → lv_has ls 9 [(0, .ref (mo 0)), (1, .int (nI sd)), (2, .int (nI i)), (3, .int bh), (4, .int (nI (8 * sd + i))), (5, .int (nI t)), (6, .int vx6)] → W p l e ({ frames := 1, cells := 0, slots := 0, locals := 22 } : Room) s m ([.ref (mo 0), .int (nI sd), .int (nI i), .int bh] : List Value).toArray below meth c H locs 0 0 Q (F0 m 122 ls []) := by
      intro fu
      induction fu with
      | zero => intro i2 vx6 pl2 ln2 pt2 le2 H locs ls hi2 vex6 hpt2 hle2 hl32 hsea hm; exact absurd hm (Nat.not_lt_zero _)
      | succ fu ih =>
        intro i2 vx6 pl2 ln2 pt2 le2 H locs ls hi2 vex6 hpt2 hle2 hl32 hsea hm hT hl
        refine lv_iload hx hb dX11_match_122 (lv_at hl 6 rfl) ?_
        refine lv_iload hx hb dX11_match_124 (lv_at hl 5 rfl) ?_
        refine lv_icmp_lt (tgt := 239) hx hb dX11_match_126 (by decide) (fun h_3 => ?_) (fun h_3 => ?_)
        · skip
          have hend : pl2 = mtP (vb bb sd) n t pl ln ∧ ln2 = mtL (vb bb sd) n t pl ln := sea_end hsea (Or.inl (fst_out (Or.inl ((dn_lt (by omega) (by omega) vex6).mp h_3))))
          exact e_vret C hQ () (by exact hT.eq (by rw [hpt2, hle2, hend.1, hend.2])) rfl dX11_match_239
        · skip
          have hit : ¬ i2 ≤ t := fun q => h_3 ((dn_lt (by omega) (by omega) vex6).mpr q)
          refine lv_iload hx hb dX11_match_129 (lv_at hl 6 rfl) ?_
          refine lv_aload_n hx hb dX11_match_131 rfl (lv_at hl 0 rfl) ?_
          refine gX11_26 C hT (q0 := 0) rfl dX11_match_132 ?_
          refine lv_iload_n hx hb dX11_match_135 rfl (lv_at hl 1 rfl) ?_
          refine r_iald C hT (q0 := 6) rfl sd rfl (by omega) (by decide) dX11_match_136 ?_
          refine W.eq (g2 := F0 m 137 ls [.int (nI n), .int vx6]) (congrArg (fun z => F0 m 137 ls (.int z :: [.int vx6])) (hw)) ?_
          refine lv_bipush (v := 64) hx hb dX11_match_137 (by decide) ?_
          refine lv_isub hx hb dX11_match_139 ?_
          refine lv_icmp_lt (tgt := 239) hx hb dX11_match_140 (by decide) (fun h_4 => ?_) (fun h_4 => ?_)
          · skip
            have hend : pl2 = mtP (vb bb sd) n t pl ln ∧ ln2 = mtL (vb bb sd) n t pl ln := sea_end hsea (Or.inl (fst_out (Or.inr ((lt_sub64 (by omega) (by omega) vex6).mp h_4))))
            exact e_vret C hQ () (by exact hT.eq (by rw [hpt2, hle2, hend.1, hend.2])) rfl dX11_match_239
          · skip
            have hi64 : ¬ i2 + 63 < n := fun q => h_4 ((lt_sub64 (by omega) (by omega) vex6).mpr q)
            have hfs := fst_lt hit hi64
            refine lv_aload_n hx hb dX11_match_143 rfl (lv_at hl 0 rfl) ?_
            refine gX11_38 C hT (q0 := 0) rfl dX11_match_144 ?_
            refine lv_iload hx hb dX11_match_147 (lv_at hl 4 rfl) ?_
            refine r_iald C hT (q0 := 10) rfl (8 * sd + i) rfl (by omega) (by decide) dX11_match_149 ?_
            refine W.eq (g2 := F0 m 150 ls [.int (nI ln2)]) (congrArg (fun z => F0 m 150 ls (.int z :: [])) ((by rw [hle2]; exact upd_at _ _ _))) ?_
            refine lv_if_ne (tgt := 239) hx hb dX11_match_150 (by decide) (fun h_5 => ?_) (fun h_5 => ?_)
            · skip
              have hend : pl2 = mtP (vb bb sd) n t pl ln ∧ ln2 = mtL (vb bb sd) n t pl ln := sea_end hsea (Or.inr (nI_nz h_5))
              exact e_vret C hQ () (by exact hT.eq (by rw [hpt2, hle2, hend.1, hend.2])) rfl dX11_match_239
            · skip
              have hl0 := nI_z (by omega) h_5
              refine lv_iconst (v := 1) hx hb dX11_match_153 (by decide) ?_
              refine lv_istore (lv' := [(7, .int 1), (0, .ref (mo 0)), (1, .int (nI sd)), (2, .int (nI i)), (3, .int bh), (4, .int (nI (8 * sd + i))), (5, .int (nI t)), (6, .int vx6)]) hx hb dX11_match_154 hl (by decide) rfl (fun ls hl => ?_)
              refine lv_iconst (v := 1) hx hb dX11_match_156 (by decide) ?_
              refine lv_istore (lv' := [(8, .int 1), (7, .int 1), (0, .ref (mo 0)), (1, .int (nI sd)), (2, .int (nI i)), (3, .int bh), (4, .int (nI (8 * sd + i))), (5, .int (nI t)), (6, .int vx6)]) hx hb dX11_match_157 hl (by decide) rfl (fun ls hl => ?_)
              have loop_159 : ∀ (fu : Nat) (k2 : Nat) (vx8 : Int32) (vx7 : Int32) (H : Heap) (locs : List Loc) (ls : Array Slot) (hk2 : k2 ≤ t) (vex8 : vx8 = nI (k2 + 1)) (vex7 : vx7 = b01 (sameB (vb bb sd) n (i2 - 1) k2)), t - k2 < fu → Wd g A s (mdL g mo rr th np no bt en xx ra t0 t1 s1 ca cq ch st fk fn fo bb wt nx cx pt2 le2 sc ss ww xc lo hi ou xi) H locs → lv_has ls 9 [(0, .ref (mo 0)), (1, .int (nI sd)), (2, .int (nI i)), (3, .int bh), (4, .int (nI (8 * sd + i))), (5, .int (nI t)), (6, .int vx6), (7, .int vx7), (8, .int vx8)] → W p l e ({ frames := 1, cells := 0, slots := 0, locals := 22 } : Room) s m ([.ref (mo 0), .int (nI sd), .int (nI i), .int bh] : List Value).toArray below meth c H locs 0 0 Q (F0 m 159 ls []) := by
                intro fu_159
                induction fu_159 with
                | zero => intro k2 vx8 vx7 H locs ls hk2 vex8 vex7 hm; exact absurd hm (Nat.not_lt_zero _)
                | succ fu_159 ih_159 =>
                  intro k2 vx8 vx7 H locs ls hk2 vex8 vex7 hm_159 hT hl
                  refine lv_iload hx hb dX11_match_159 (lv_at hl 8 rfl) ?_
                  refine lv_iload hx hb dX11_match_161 (lv_at hl 5 rfl) ?_
                  refine lv_icmp_gt (tgt := 210) hx hb dX11_match_163 (by decide) (fun h_6 => ?_) (fun h_6 => ?_)
                  · skip
                    have hkt : k2 = t := by have := lp_le_end vex8 (by omega) (by omega) h_6; omega
                    have hsb : vx7 = b01 (sameB (vb bb sd) n (i2 - 1) t) := by rw [vex7, hkt]
                    refine lv_iload hx hb dX11_match_210 (lv_at hl 7 rfl) ?_
                    refine lv_if_eq (tgt := 233) hx hb dX11_match_212 (by decide) (fun h_7 => ?_) (fun h_7 => ?_)
                    · skip
                      have hss := b01_f (hsb ▸ h_7)
                      obtain ⟨x_8, ex_8⟩ : ∃ y : Int32, y = vx6 + (-1) := ⟨_, rfl⟩
                      refine lv_iinc (v := x_8) (lv' := [(6, .int x_8), (0, .ref (mo 0)), (1, .int (nI sd)), (2, .int (nI i)), (3, .int bh), (4, .int (nI (8 * sd + i))), (5, .int (nI t)), (7, .int vx7), (8, .int vx8)]) hx hb dX11_match_233 hl (k := 6) rfl (by rw [ex_8]; rfl) (by decide) rfl (fun ls hl => ?_)
                      refine lv_goto (tgt := 122) hx hb dX11_match_236 (by decide) ?_
                      exact ih (i2 - 1) x_8 (if sameB (vb bb sd) n (i2 - 1) t = true then i2 - 1 else pl2) (if sameB (vb bb sd) n (i2 - 1) t = true then t else ln2) pt2 le2 H locs ls (by first | assumption | omega | rfl) (dn_step (by omega) vex6 ex_8) (by first | (rw [if_neg (by rw [hss]; decide)]; exact hpt2) | (rw [if_pos hss, hpt2]; exact upd_2 _ _ _ _)) (by first | (rw [if_neg (by rw [hss]; decide)]; exact hle2) | (rw [if_pos hss, hle2]; exact upd_2 _ _ _ _)) (by split <;> omega) (by first | (rw [if_neg (by rw [hss]; decide), if_neg (by rw [hss]; decide)]; exact sea_no hsea hl0 hfs hss) | (rw [if_pos hss, if_pos hss]; exact sea_hit hsea hl0 hfs hss (by omega))) (by omega) hT (lv_sub hl [1, 2, 3, 4, 5, 6, 0] rfl)
                    · skip
                      have hss := b01_t (hsb ▸ h_7)
                      refine lv_aload_n hx hb dX11_match_215 rfl (lv_at hl 0 rfl) ?_
                      refine gX11_35 C hT (q0 := 0) rfl dX11_match_216 ?_
                      refine lv_iload hx hb dX11_match_219 (lv_at hl 4 rfl) ?_
                      refine lv_iload hx hb dX11_match_221 (lv_at hl 6 rfl) ?_
                      refine W.eq (g2 := F0 m 223 ls [.int (nI (i2 - 1)), .int (nI (8 * sd + i)), .ref (mo 9)]) (congrArg (fun z => F0 m 223 ls (.int z :: [.int (nI (8 * sd + i)), .ref (mo 9)])) (dn_at (by omega) vex6)) ?_
                      refine r_iast C hT (q0 := 9) rfl (8 * sd + i) rfl (by omega) (by decide) dX11_match_223 (fun H locs hT => ?_)
                      have hT : Wd g A s (mdL g mo rr th np no bt en xx ra t0 t1 s1 ca cq ch st fk fn fo bb wt nx cx (upd pt2 (8 * sd + i) (nI (i2 - 1))) le2 sc ss ww xc lo hi ou xi) H locs := hT
                      refine lv_aload_n hx hb dX11_match_224 rfl (lv_at hl 0 rfl) ?_
                      refine gX11_38 C hT (q0 := 0) rfl dX11_match_225 ?_
                      refine lv_iload hx hb dX11_match_228 (lv_at hl 4 rfl) ?_
                      refine lv_iload hx hb dX11_match_230 (lv_at hl 5 rfl) ?_
                      refine r_iast C hT (q0 := 10) rfl (8 * sd + i) rfl (by omega) (by decide) dX11_match_232 (fun H locs hT => ?_)
                      have hT : Wd g A s (mdL g mo rr th np no bt en xx ra t0 t1 s1 ca cq ch st fk fn fo bb wt nx cx (upd pt2 (8 * sd + i) (nI (i2 - 1))) (upd le2 (8 * sd + i) (nI t)) sc ss ww xc lo hi ou xi) H locs := hT
                      obtain ⟨x_9, ex_9⟩ : ∃ y : Int32, y = vx6 + (-1) := ⟨_, rfl⟩
                      refine lv_iinc (v := x_9) (lv' := [(6, .int x_9), (0, .ref (mo 0)), (1, .int (nI sd)), (2, .int (nI i)), (3, .int bh), (4, .int (nI (8 * sd + i))), (5, .int (nI t)), (7, .int vx7), (8, .int vx8)]) hx hb dX11_match_233 hl (k := 6) rfl (by rw [ex_9]; rfl) (by decide) rfl (fun ls hl => ?_)
                      refine lv_goto (tgt := 122) hx hb dX11_match_236 (by decide) ?_
                      exact ih (i2 - 1) x_9 (if sameB (vb bb sd) n (i2 - 1) t = true then i2 - 1 else pl2) (if sameB (vb bb sd) n (i2 - 1) t = true then t else ln2) (upd pt2 (8 * sd + i) (nI (i2 - 1))) (upd le2 (8 * sd + i) (nI t)) H locs ls (by first | assumption | omega | rfl) (dn_step (by omega) vex6 ex_9) (by first | (rw [if_neg (by rw [hss]; decide)]; exact hpt2) | (rw [if_pos hss, hpt2]; exact upd_2 _ _ _ _)) (by first | (rw [if_neg (by rw [hss]; decide)]; exact hle2) | (rw [if_pos hss, hle2]; exact upd_2 _ _ _ _)) (by split <;> omega) (by first | (rw [if_neg (by rw [hss]; decide), if_neg (by rw [hss]; decide)]; exact sea_no hsea hl0 hfs hss) | (rw [if_pos hss, if_pos hss]; exact sea_hit hsea hl0 hfs hss (by omega))) (by omega) hT (lv_sub hl [1, 2, 3, 4, 5, 6, 0] rfl)
                  · skip
                    have hkt : k2 < t := by have := lp_le_go vex8 (by omega) (by omega) h_6; omega
                    refine lv_iload hx hb dX11_match_166 (lv_at hl 7 rfl) ?_
                    refine lv_if_eq (tgt := 210) hx hb dX11_match_168 (by decide) (fun h_10 => ?_) (fun h_10 => ?_)
                    · skip
                      have hsb : vx7 = b01 (sameB (vb bb sd) n (i2 - 1) t) := by rw [sameB_mono hk2 (b01_f (vex7 ▸ h_10))]; exact h_10
                      refine lv_iload hx hb dX11_match_210 (lv_at hl 7 rfl) ?_
                      refine lv_if_eq (tgt := 233) hx hb dX11_match_212 (by decide) (fun h_11 => ?_) (fun h_11 => ?_)
                      · skip
                        have hss := b01_f (hsb ▸ h_11)
                        obtain ⟨x_12, ex_12⟩ : ∃ y : Int32, y = vx6 + (-1) := ⟨_, rfl⟩
                        refine lv_iinc (v := x_12) (lv' := [(6, .int x_12), (0, .ref (mo 0)), (1, .int (nI sd)), (2, .int (nI i)), (3, .int bh), (4, .int (nI (8 * sd + i))), (5, .int (nI t)), (7, .int vx7), (8, .int vx8)]) hx hb dX11_match_233 hl (k := 6) rfl (by rw [ex_12]; rfl) (by decide) rfl (fun ls hl => ?_)
                        refine lv_goto (tgt := 122) hx hb dX11_match_236 (by decide) ?_
                        exact ih (i2 - 1) x_12 (if sameB (vb bb sd) n (i2 - 1) t = true then i2 - 1 else pl2) (if sameB (vb bb sd) n (i2 - 1) t = true then t else ln2) pt2 le2 H locs ls (by first | assumption | omega | rfl) (dn_step (by omega) vex6 ex_12) (by first | (rw [if_neg (by rw [hss]; decide)]; exact hpt2) | (rw [if_pos hss, hpt2]; exact upd_2 _ _ _ _)) (by first | (rw [if_neg (by rw [hss]; decide)]; exact hle2) | (rw [if_pos hss, hle2]; exact upd_2 _ _ _ _)) (by split <;> omega) (by first | (rw [if_neg (by rw [hss]; decide), if_neg (by rw [hss]; decide)]; exact sea_no hsea hl0 hfs hss) | (rw [if_pos hss, if_pos hss]; exact sea_hit hsea hl0 hfs hss (by omega))) (by omega) hT (lv_sub hl [1, 2, 3, 4, 5, 6, 0] rfl)
                      · skip
                        have hss := b01_t (hsb ▸ h_11)
                        refine lv_aload_n hx hb dX11_match_215 rfl (lv_at hl 0 rfl) ?_
                        refine gX11_35 C hT (q0 := 0) rfl dX11_match_216 ?_
                        refine lv_iload hx hb dX11_match_219 (lv_at hl 4 rfl) ?_
                        refine lv_iload hx hb dX11_match_221 (lv_at hl 6 rfl) ?_
                        refine W.eq (g2 := F0 m 223 ls [.int (nI (i2 - 1)), .int (nI (8 * sd + i)), .ref (mo 9)]) (congrArg (fun z => F0 m 223 ls (.int z :: [.int (nI (8 * sd + i)), .ref (mo 9)])) (dn_at (by omega) vex6)) ?_
                        refine r_iast C hT (q0 := 9) rfl (8 * sd + i) rfl (by omega) (by decide) dX11_match_223 (fun H locs hT => ?_)
                        have hT : Wd g A s (mdL g mo rr th np no bt en xx ra t0 t1 s1 ca cq ch st fk fn fo bb wt nx cx (upd pt2 (8 * sd + i) (nI (i2 - 1))) le2 sc ss ww xc lo hi ou xi) H locs := hT
                        refine lv_aload_n hx hb dX11_match_224 rfl (lv_at hl 0 rfl) ?_
                        refine gX11_38 C hT (q0 := 0) rfl dX11_match_225 ?_
                        refine lv_iload hx hb dX11_match_228 (lv_at hl 4 rfl) ?_
                        refine lv_iload hx hb dX11_match_230 (lv_at hl 5 rfl) ?_
                        refine r_iast C hT (q0 := 10) rfl (8 * sd + i) rfl (by omega) (by decide) dX11_match_232 (fun H locs hT => ?_)
                        have hT : Wd g A s (mdL g mo rr th np no bt en xx ra t0 t1 s1 ca cq ch st fk fn fo bb wt nx cx (upd pt2 (8 * sd + i) (nI (i2 - 1))) (upd le2 (8 * sd + i) (nI t)) sc ss ww xc lo hi ou xi) H locs := hT
                        obtain ⟨x_13, ex_13⟩ : ∃ y : Int32, y = vx6 + (-1) := ⟨_, rfl⟩
                        refine lv_iinc (v := x_13) (lv' := [(6, .int x_13), (0, .ref (mo 0)), (1, .int (nI sd)), (2, .int (nI i)), (3, .int bh), (4, .int (nI (8 * sd + i))), (5, .int (nI t)), (7, .int vx7), (8, .int vx8)]) hx hb dX11_match_233 hl (k := 6) rfl (by rw [ex_13]; rfl) (by decide) rfl (fun ls hl => ?_)
                        refine lv_goto (tgt := 122) hx hb dX11_match_236 (by decide) ?_
                        exact ih (i2 - 1) x_13 (if sameB (vb bb sd) n (i2 - 1) t = true then i2 - 1 else pl2) (if sameB (vb bb sd) n (i2 - 1) t = true then t else ln2) (upd pt2 (8 * sd + i) (nI (i2 - 1))) (upd le2 (8 * sd + i) (nI t)) H locs ls (by first | assumption | omega | rfl) (dn_step (by omega) vex6 ex_13) (by first | (rw [if_neg (by rw [hss]; decide)]; exact hpt2) | (rw [if_pos hss, hpt2]; exact upd_2 _ _ _ _)) (by first | (rw [if_neg (by rw [hss]; decide)]; exact hle2) | (rw [if_pos hss, hle2]; exact upd_2 _ _ _ _)) (by split <;> omega) (by first | (rw [if_neg (by rw [hss]; decide), if_neg (by rw [hss]; decide)]; exact sea_no hsea hl0 hfs hss) | (rw [if_pos hss, if_pos hss]; exact sea_hit hsea hl0 hfs hss (by omega))) (by omega) hT (lv_sub hl [1, 2, 3, 4, 5, 6, 0] rfl)
                    · skip
                      have hsk := b01_t (vex7 ▸ h_10)
                      refine lv_aload_n hx hb dX11_match_171 rfl (lv_at hl 0 rfl) ?_
                      refine gX11_23 C hT (q0 := 0) rfl dX11_match_172 ?_
                      refine lv_sipush (v := 2050) hx hb dX11_match_175 (by decide) ?_
                      refine lv_iload_n hx hb dX11_match_178 rfl (lv_at hl 1 rfl) ?_
                      refine lv_imul hx hb dX11_match_179 ?_
                      refine W.eq (g2 := F0 m 180 ls [.int (nI (2050 * sd)), .ref (mo 5)]) (congrArg (fun z => F0 m 180 ls (.int z :: [.ref (mo 5)])) (pk_mul 2050 sd)) ?_
                      refine lv_iload hx hb dX11_match_180 (lv_at hl 6 rfl) ?_
                      refine W.eq (g2 := F0 m 182 ls [.int (nI (i2 - 1)), .int (nI (2050 * sd)), .ref (mo 5)]) (congrArg (fun z => F0 m 182 ls (.int z :: [.int (nI (2050 * sd)), .ref (mo 5)])) (dn_at (by omega) vex6)) ?_
                      refine lv_iadd hx hb dX11_match_182 ?_
                      refine W.eq (g2 := F0 m 183 ls [.int (nI (2050 * sd + (i2 - 1))), .ref (mo 5)]) (congrArg (fun z => F0 m 183 ls (.int z :: [.ref (mo 5)])) (nI_add _ _)) ?_
                      refine lv_iload hx hb dX11_match_183 (lv_at hl 8 rfl) ?_
                      refine W.eq (g2 := F0 m 185 ls [.int (nI (k2 + 1)), .int (nI (2050 * sd + (i2 - 1))), .ref (mo 5)]) (congrArg (fun z => F0 m 185 ls (.int z :: [.int (nI (2050 * sd + (i2 - 1))), .ref (mo 5)])) (vex8)) ?_
                      refine lv_isub hx hb dX11_match_185 ?_
                      refine W.eq (g2 := F0 m 186 ls [.int (nI (2050 * sd + (i2 - 1) - (k2 + 1))), .ref (mo 5)]) (congrArg (fun z => F0 m 186 ls (.int z :: [.ref (mo 5)])) (pk_sub (by omega))) ?_
                      refine r_iald C hT (q0 := 5) rfl (2050 * sd + (i2 - 1) - (k2 + 1)) rfl (by omega) (by decide) dX11_match_186 ?_
                      refine W.eq (g2 := F0 m 187 ls [.int ((vb bb sd) (i2 - 1 - (k2 + 1)))]) (congrArg (fun z => F0 m 187 ls (.int z :: [])) ((congrArg bb (Nat.add_sub_assoc (by omega) _)))) ?_
                      refine lv_aload_n hx hb dX11_match_187 rfl (lv_at hl 0 rfl) ?_
                      refine lv_iload_n hx hb dX11_match_188 rfl (lv_at hl 1 rfl) ?_
                      refine lv_iload hx hb dX11_match_189 (lv_at hl 8 rfl) ?_
                      refine W.eq (g2 := F0 m 191 ls [.int (nI (k2 + 1)), .int (nI sd), .ref (mo 0), .int ((vb bb sd) (i2 - 1 - (k2 + 1)))]) (congrArg (fun z => F0 m 191 ls (.int z :: [.int (nI sd), .ref (mo 0), .int ((vb bb sd) (i2 - 1 - (k2 + 1)))])) (vex8)) ?_
                      have hM := c_X11_latest l g mo rr th np no bt en xx ra t0 t1 s1 ca cq ch st fk fn fo bb wt nx cx pt2 le2 sc ss ww xc lo hi ou xi sd (k2 + 1) n (by first | assumption | omega) (by first | assumption | omega) (by first | assumption | omega) (by omega) (by omega)
                      refine r_callRO (js := [0, 1, 2, 3, 4, 5, 6, 7, 8, 9, 10, 11, 12, 13, 14, 15, 16, 17, 18]) C hT (runV (js := [0, 1, 2, 3, 4, 5, 6, 7, 8, 9, 10, 11, 12, 13, 14, 15, 16, 17, 18]) (rm := ({ frames := 0, cells := 0, slots := 0, locals := 0 } : Room)) (As := [.int (nI sd), .int (nI (k2 + 1))]) (n := 2) (q1 := 0) (rest := [.int ((vb bb sd) (i2 - 1 - (k2 + 1)))]) C hT hM rfl rfl k766 k768 s15 k15 k769 (by decide +kernel) rfl rfl rfl rfl (Nat.le_of_ble_eq_true rfl) hl.1 ⟨Nat.le_of_ble_eq_true rfl, Nat.le_of_ble_eq_true rfl⟩ ⟨Nat.le_of_ble_eq_true rfl, Nat.le_of_ble_eq_true rfl⟩ dX11_match_191) rfl rfl (fun u H locs hT => ?_)
                      refine W.eq (g2 := F0 m 194 ls [.int (backN (vb bb sd) n (k2 + 1)), .int ((vb bb sd) (i2 - 1 - (k2 + 1)))]) rfl ?_
                      refine r_iteN (ls := ls) (J := 202) (a1 := 0) (a2 := 1) (rest := []) (lv_icmp_ne (tgt := 201) hx hb dX11_match_194 (by decide)) (fun h_14 kont => ?_) (fun h_14 kont => ?_) ?_
                      · skip
                        refine lv_iconst (v := 0) hx hb dX11_match_201 (by decide) ?_
                        exact kont
                      · skip
                        refine lv_iconst (v := 1) hx hb dX11_match_197 (by decide) ?_
                        refine lv_goto (tgt := 202) hx hb dX11_match_198 (by decide) ?_
                        exact kont
                      refine W.eq (g2 := F0 m 202 ls [.int (b01 (sameB (vb bb sd) n (i2 - 1) (k2 + 1)))]) (congrArg (fun z => F0 m 202 ls (.int z :: [])) (sameB_i2 hsk)) ?_
                      refine lv_istore (lv' := [(7, .int (b01 (sameB (vb bb sd) n (i2 - 1) (k2 + 1)))), (0, .ref (mo 0)), (1, .int (nI sd)), (2, .int (nI i)), (3, .int bh), (4, .int (nI (8 * sd + i))), (5, .int (nI t)), (6, .int vx6), (8, .int vx8)]) hx hb dX11_match_202 hl (by decide) rfl (fun ls hl => ?_)
                      obtain ⟨x_15, ex_15⟩ : ∃ y : Int32, y = vx8 + 1 := ⟨_, rfl⟩
                      refine lv_iinc (v := x_15) (lv' := [(8, .int x_15), (7, .int (b01 (sameB (vb bb sd) n (i2 - 1) (k2 + 1)))), (0, .ref (mo 0)), (1, .int (nI sd)), (2, .int (nI i)), (3, .int bh), (4, .int (nI (8 * sd + i))), (5, .int (nI t)), (6, .int vx6)]) hx hb dX11_match_204 hl (k := 8) rfl (by rw [ex_15]; rfl) (by decide) rfl (fun ls hl => ?_)
                      refine lv_goto (tgt := 159) hx hb dX11_match_207 (by decide) ?_
                      exact ih_159 (k2 + 1) x_15 (b01 (sameB (vb bb sd) n (i2 - 1) (k2 + 1))) H locs ls (by first | assumption | omega | rfl) (by rw [ex_15, vex8]; exact nI_1 (k2 + 1)) rfl (by omega) hT (lv_sub hl [2, 3, 4, 5, 6, 7, 8, 1, 0] rfl)
              exact loop_159 (t - 0 + 1) 0 1 1 H locs ls (by first | assumption | omega | rfl) rfl rfl (Nat.lt_succ_self _) hT (lv_sub hl [2, 3, 4, 5, 6, 7, 8, 1, 0] rfl)
    exact loop_122 (n + 1) n x_2 (folP (vb bb sd) n pl ln) (folL (vb bb sd) n pl ln) pt (upd le (8 * sd + i) 0) H locs ls (Nat.le_refl n) ex_2 hpt1 hle1 (folL_le hln) sea_0 (Nat.lt_succ_self _) hT (lv_sub hl [3, 4, 5, 6, 2, 1, 0] rfl)
  · skip
    refine lv_aload_n hx hb dX11_match_12 rfl (lv_at hl 1 rfl) ?_
    refine gX11_38 C hT (q0 := 0) rfl dX11_match_13 ?_
    refine lv_iload hx hb dX11_match_16 (lv_at hl 0 rfl) ?_
    refine r_iald C hT (q0 := 10) rfl (8 * sd + i) rfl (by omega) (by decide) dX11_match_18 ?_
    refine W.eq (g2 := F0 m 19 ls [.int (nI ln)]) (congrArg (fun z => F0 m 19 ls (.int z :: [])) (hle)) ?_
    refine lv_if_le (tgt := 96) hx hb dX11_match_19 (by decide) (fun h_16 => ?_) (fun h_16 => ?_)
    · skip
      have hfo := fol_no (f := (vb bb sd)) (n := n) (pl := pl) (ln := ln) (Or.inl (nI_le0 (by omega) h_16)) hpn
      have hpt1 : pt = upd pt (8 * sd + i) (nI (folP (vb bb sd) n pl ln)) := by rw [hfo.1]; exact upd_id hpt
      have hle1 : upd le (8 * sd + i) 0 = upd le (8 * sd + i) (nI (folL (vb bb sd) n pl ln)) := by rw [hfo.2]; rfl
      refine lv_aload_n hx hb dX11_match_96 rfl (lv_at hl 1 rfl) ?_
      refine gX11_38 C hT (q0 := 0) rfl dX11_match_97 ?_
      refine lv_iload hx hb dX11_match_100 (lv_at hl 0 rfl) ?_
      refine lv_iconst (v := 0) hx hb dX11_match_102 (by decide) ?_
      refine r_iast C hT (q0 := 10) rfl (8 * sd + i) rfl (by omega) (by decide) dX11_match_103 (fun H locs hT => ?_)
      have hT : Wd g A s (mdL g mo rr th np no bt en xx ra t0 t1 s1 ca cq ch st fk fn fo bb wt nx cx pt (upd le (8 * sd + i) 0) sc ss ww xc lo hi ou xi) H locs := hT
      refine lv_aload_n hx hb dX11_match_104 rfl (lv_at hl 1 rfl) ?_
      refine gX11_16 C hT (q0 := 0) rfl dX11_match_105 ?_
      refine lv_iload_n hx hb dX11_match_108 rfl (lv_at hl 3 rfl) ?_
      refine r_iald C hT (q0 := 3) rfl i rfl hi8 (by decide) dX11_match_109 ?_
      refine W.eq (g2 := F0 m 110 ls [.int (nI t)]) (congrArg (fun z => F0 m 110 ls (.int z :: [])) (hft)) ?_
      refine lv_istore (lv' := [(5, .int (nI t)), (4, .int (nI (8 * sd + i))), (0, .ref (mo 0)), (1, .int (nI sd)), (2, .int (nI i)), (3, .int bh)]) hx hb dX11_match_110 hl (by decide) rfl (fun ls hl => ?_)
      refine lv_aload_n hx hb dX11_match_112 rfl (lv_at hl 2 rfl) ?_
      refine gX11_26 C hT (q0 := 0) rfl dX11_match_113 ?_
      refine lv_iload_n hx hb dX11_match_116 rfl (lv_at hl 3 rfl) ?_
      refine r_iald C hT (q0 := 6) rfl sd rfl (by omega) (by decide) dX11_match_117 ?_
      refine W.eq (g2 := F0 m 118 ls [.int (nI n)]) (congrArg (fun z => F0 m 118 ls (.int z :: [])) (hw)) ?_
      refine lv_iconst (v := 1) hx hb dX11_match_118 (by decide) ?_
      refine lv_isub hx hb dX11_match_119 ?_
      refine lv_topi (fun x_17 ex_17 => ?_)
      refine lv_istore (lv' := [(6, .int x_17), (5, .int (nI t)), (4, .int (nI (8 * sd + i))), (0, .ref (mo 0)), (1, .int (nI sd)), (2, .int (nI i)), (3, .int bh)]) hx hb dX11_match_120 hl (by decide) rfl (fun ls hl => ?_)
      have loop_122 : ∀ (fu : Nat) (i2 : Nat) (vx6 : Int32) (pl2 : Nat) (ln2 : Nat) (pt2 : Nat → Int32) (le2 : Nat → Int32) (H : Heap) (locs : List Loc) (ls : Array Slot) (hi2 : i2 ≤ n) (vex6 : vx6 = nI i2 - 1) (hpt2 : pt2 = upd pt (8 * sd + i) (nI pl2)) (hle2 : le2 = upd le (8 * sd + i) (nI ln2)) (hl32 : ln2 ≤ 32) (hsea : sea (vb bb sd) n t (folP (vb bb sd) n pl ln) (folL (vb bb sd) n pl ln) i2 pl2 ln2), i2 < fu → Wd g A s (mdL g mo rr th np no bt en xx ra t0 t1 s1 ca cq ch st fk fn fo bb wt nx cx pt2 le2 sc ss ww xc lo hi ou xi) H locs → lv_has ls 9 [(0, .ref (mo 0)), (1, .int (nI sd)), (2, .int (nI i)), (3, .int bh), (4, .int (nI (8 * sd + i))), (5, .int (nI t)), (6, .int vx6)] → W p l e ({ frames := 1, cells := 0, slots := 0, locals := 22 } : Room) s m ([.ref (mo 0), .int (nI sd), .int (nI i), .int bh] : List Value).toArray below meth c H locs 0 0 Q (F0 m 122 ls []) := by
        intro fu
        induction fu with
        | zero => intro i2 vx6 pl2 ln2 pt2 le2 H locs ls hi2 vex6 hpt2 hle2 hl32 hsea hm; exact absurd hm (Nat.not_lt_zero _)
        | succ fu ih =>
          intro i2 vx6 pl2 ln2 pt2 le2 H locs ls hi2 vex6 hpt2 hle2 hl32 hsea hm hT hl
          refine lv_iload hx hb dX11_match_122 (lv_at hl 6 rfl) ?_
          refine lv_iload hx hb dX11_match_124 (lv_at hl 5 rfl) ?_
          refine lv_icmp_lt (tgt := 239) hx hb dX11_match_126 (by decide) (fun h_18 => ?_) (fun h_18 => ?_)
          · skip
            have hend : pl2 = mtP (vb bb sd) n t pl ln ∧ ln2 = mtL (vb bb sd) n t pl ln := sea_end hsea (Or.inl (fst_out (Or.inl ((dn_lt (by omega) (by omega) vex6).mp h_18))))
            exact e_vret C hQ () (by exact hT.eq (by rw [hpt2, hle2, hend.1, hend.2])) rfl dX11_match_239
          · skip
            have hit : ¬ i2 ≤ t := fun q => h_18 ((dn_lt (by omega) (by omega) vex6).mpr q)
            refine lv_iload hx hb dX11_match_129 (lv_at hl 6 rfl) ?_
            refine lv_aload_n hx hb dX11_match_131 rfl (lv_at hl 0 rfl) ?_
            refine gX11_26 C hT (q0 := 0) rfl dX11_match_132 ?_
            refine lv_iload_n hx hb dX11_match_135 rfl (lv_at hl 1 rfl) ?_
            refine r_iald C hT (q0 := 6) rfl sd rfl (by omega) (by decide) dX11_match_136 ?_
            refine W.eq (g2 := F0 m 137 ls [.int (nI n), .int vx6]) (congrArg (fun z => F0 m 137 ls (.int z :: [.int vx6])) (hw)) ?_
            refine lv_bipush (v := 64) hx hb dX11_match_137 (by decide) ?_
            refine lv_isub hx hb dX11_match_139 ?_
            refine lv_icmp_lt (tgt := 239) hx hb dX11_match_140 (by decide) (fun h_19 => ?_) (fun h_19 => ?_)
            · skip
              have hend : pl2 = mtP (vb bb sd) n t pl ln ∧ ln2 = mtL (vb bb sd) n t pl ln := sea_end hsea (Or.inl (fst_out (Or.inr ((lt_sub64 (by omega) (by omega) vex6).mp h_19))))
              exact e_vret C hQ () (by exact hT.eq (by rw [hpt2, hle2, hend.1, hend.2])) rfl dX11_match_239
            · skip
              have hi64 : ¬ i2 + 63 < n := fun q => h_19 ((lt_sub64 (by omega) (by omega) vex6).mpr q)
              have hfs := fst_lt hit hi64
              refine lv_aload_n hx hb dX11_match_143 rfl (lv_at hl 0 rfl) ?_
              refine gX11_38 C hT (q0 := 0) rfl dX11_match_144 ?_
              refine lv_iload hx hb dX11_match_147 (lv_at hl 4 rfl) ?_
              refine r_iald C hT (q0 := 10) rfl (8 * sd + i) rfl (by omega) (by decide) dX11_match_149 ?_
              refine W.eq (g2 := F0 m 150 ls [.int (nI ln2)]) (congrArg (fun z => F0 m 150 ls (.int z :: [])) ((by rw [hle2]; exact upd_at _ _ _))) ?_
              refine lv_if_ne (tgt := 239) hx hb dX11_match_150 (by decide) (fun h_20 => ?_) (fun h_20 => ?_)
              · skip
                have hend : pl2 = mtP (vb bb sd) n t pl ln ∧ ln2 = mtL (vb bb sd) n t pl ln := sea_end hsea (Or.inr (nI_nz h_20))
                exact e_vret C hQ () (by exact hT.eq (by rw [hpt2, hle2, hend.1, hend.2])) rfl dX11_match_239
              · skip
                have hl0 := nI_z (by omega) h_20
                refine lv_iconst (v := 1) hx hb dX11_match_153 (by decide) ?_
                refine lv_istore (lv' := [(7, .int 1), (0, .ref (mo 0)), (1, .int (nI sd)), (2, .int (nI i)), (3, .int bh), (4, .int (nI (8 * sd + i))), (5, .int (nI t)), (6, .int vx6)]) hx hb dX11_match_154 hl (by decide) rfl (fun ls hl => ?_)
                refine lv_iconst (v := 1) hx hb dX11_match_156 (by decide) ?_
                refine lv_istore (lv' := [(8, .int 1), (7, .int 1), (0, .ref (mo 0)), (1, .int (nI sd)), (2, .int (nI i)), (3, .int bh), (4, .int (nI (8 * sd + i))), (5, .int (nI t)), (6, .int vx6)]) hx hb dX11_match_157 hl (by decide) rfl (fun ls hl => ?_)
                have loop_159 : ∀ (fu : Nat) (k2 : Nat) (vx8 : Int32) (vx7 : Int32) (H : Heap) (locs : List Loc) (ls : Array Slot) (hk2 : k2 ≤ t) (vex8 : vx8 = nI (k2 + 1)) (vex7 : vx7 = b01 (sameB (vb bb sd) n (i2 - 1) k2)), t - k2 < fu → Wd g A s (mdL g mo rr th np no bt en xx ra t0 t1 s1 ca cq ch st fk fn fo bb wt nx cx pt2 le2 sc ss ww xc lo hi ou xi) H locs → lv_has ls 9 [(0, .ref (mo 0)), (1, .int (nI sd)), (2, .int (nI i)), (3, .int bh), (4, .int (nI (8 * sd + i))), (5, .int (nI t)), (6, .int vx6), (7, .int vx7), (8, .int vx8)] → W p l e ({ frames := 1, cells := 0, slots := 0, locals := 22 } : Room) s m ([.ref (mo 0), .int (nI sd), .int (nI i), .int bh] : List Value).toArray below meth c H locs 0 0 Q (F0 m 159 ls []) := by
                  intro fu_159
                  induction fu_159 with
                  | zero => intro k2 vx8 vx7 H locs ls hk2 vex8 vex7 hm; exact absurd hm (Nat.not_lt_zero _)
                  | succ fu_159 ih_159 =>
                    intro k2 vx8 vx7 H locs ls hk2 vex8 vex7 hm_159 hT hl
                    refine lv_iload hx hb dX11_match_159 (lv_at hl 8 rfl) ?_
                    refine lv_iload hx hb dX11_match_161 (lv_at hl 5 rfl) ?_
                    refine lv_icmp_gt (tgt := 210) hx hb dX11_match_163 (by decide) (fun h_21 => ?_) (fun h_21 => ?_)
                    · skip
                      have hkt : k2 = t := by have := lp_le_end vex8 (by omega) (by omega) h_21; omega
                      have hsb : vx7 = b01 (sameB (vb bb sd) n (i2 - 1) t) := by rw [vex7, hkt]
                      refine lv_iload hx hb dX11_match_210 (lv_at hl 7 rfl) ?_
                      refine lv_if_eq (tgt := 233) hx hb dX11_match_212 (by decide) (fun h_22 => ?_) (fun h_22 => ?_)
                      · skip
                        have hss := b01_f (hsb ▸ h_22)
                        obtain ⟨x_23, ex_23⟩ : ∃ y : Int32, y = vx6 + (-1) := ⟨_, rfl⟩
                        refine lv_iinc (v := x_23) (lv' := [(6, .int x_23), (0, .ref (mo 0)), (1, .int (nI sd)), (2, .int (nI i)), (3, .int bh), (4, .int (nI (8 * sd + i))), (5, .int (nI t)), (7, .int vx7), (8, .int vx8)]) hx hb dX11_match_233 hl (k := 6) rfl (by rw [ex_23]; rfl) (by decide) rfl (fun ls hl => ?_)
                        refine lv_goto (tgt := 122) hx hb dX11_match_236 (by decide) ?_
                        exact ih (i2 - 1) x_23 (if sameB (vb bb sd) n (i2 - 1) t = true then i2 - 1 else pl2) (if sameB (vb bb sd) n (i2 - 1) t = true then t else ln2) pt2 le2 H locs ls (by first | assumption | omega | rfl) (dn_step (by omega) vex6 ex_23) (by first | (rw [if_neg (by rw [hss]; decide)]; exact hpt2) | (rw [if_pos hss, hpt2]; exact upd_2 _ _ _ _)) (by first | (rw [if_neg (by rw [hss]; decide)]; exact hle2) | (rw [if_pos hss, hle2]; exact upd_2 _ _ _ _)) (by split <;> omega) (by first | (rw [if_neg (by rw [hss]; decide), if_neg (by rw [hss]; decide)]; exact sea_no hsea hl0 hfs hss) | (rw [if_pos hss, if_pos hss]; exact sea_hit hsea hl0 hfs hss (by omega))) (by omega) hT (lv_sub hl [1, 2, 3, 4, 5, 6, 0] rfl)
                      · skip
                        have hss := b01_t (hsb ▸ h_22)
                        refine lv_aload_n hx hb dX11_match_215 rfl (lv_at hl 0 rfl) ?_
                        refine gX11_35 C hT (q0 := 0) rfl dX11_match_216 ?_
                        refine lv_iload hx hb dX11_match_219 (lv_at hl 4 rfl) ?_
                        refine lv_iload hx hb dX11_match_221 (lv_at hl 6 rfl) ?_
                        refine W.eq (g2 := F0 m 223 ls [.int (nI (i2 - 1)), .int (nI (8 * sd + i)), .ref (mo 9)]) (congrArg (fun z => F0 m 223 ls (.int z :: [.int (nI (8 * sd + i)), .ref (mo 9)])) (dn_at (by omega) vex6)) ?_
                        refine r_iast C hT (q0 := 9) rfl (8 * sd + i) rfl (by omega) (by decide) dX11_match_223 (fun H locs hT => ?_)
                        have hT : Wd g A s (mdL g mo rr th np no bt en xx ra t0 t1 s1 ca cq ch st fk fn fo bb wt nx cx (upd pt2 (8 * sd + i) (nI (i2 - 1))) le2 sc ss ww xc lo hi ou xi) H locs := hT
                        refine lv_aload_n hx hb dX11_match_224 rfl (lv_at hl 0 rfl) ?_
                        refine gX11_38 C hT (q0 := 0) rfl dX11_match_225 ?_
                        refine lv_iload hx hb dX11_match_228 (lv_at hl 4 rfl) ?_
                        refine lv_iload hx hb dX11_match_230 (lv_at hl 5 rfl) ?_
                        refine r_iast C hT (q0 := 10) rfl (8 * sd + i) rfl (by omega) (by decide) dX11_match_232 (fun H locs hT => ?_)
                        have hT : Wd g A s (mdL g mo rr th np no bt en xx ra t0 t1 s1 ca cq ch st fk fn fo bb wt nx cx (upd pt2 (8 * sd + i) (nI (i2 - 1))) (upd le2 (8 * sd + i) (nI t)) sc ss ww xc lo hi ou xi) H locs := hT
                        obtain ⟨x_24, ex_24⟩ : ∃ y : Int32, y = vx6 + (-1) := ⟨_, rfl⟩
                        refine lv_iinc (v := x_24) (lv' := [(6, .int x_24), (0, .ref (mo 0)), (1, .int (nI sd)), (2, .int (nI i)), (3, .int bh), (4, .int (nI (8 * sd + i))), (5, .int (nI t)), (7, .int vx7), (8, .int vx8)]) hx hb dX11_match_233 hl (k := 6) rfl (by rw [ex_24]; rfl) (by decide) rfl (fun ls hl => ?_)
                        refine lv_goto (tgt := 122) hx hb dX11_match_236 (by decide) ?_
                        exact ih (i2 - 1) x_24 (if sameB (vb bb sd) n (i2 - 1) t = true then i2 - 1 else pl2) (if sameB (vb bb sd) n (i2 - 1) t = true then t else ln2) (upd pt2 (8 * sd + i) (nI (i2 - 1))) (upd le2 (8 * sd + i) (nI t)) H locs ls (by first | assumption | omega | rfl) (dn_step (by omega) vex6 ex_24) (by first | (rw [if_neg (by rw [hss]; decide)]; exact hpt2) | (rw [if_pos hss, hpt2]; exact upd_2 _ _ _ _)) (by first | (rw [if_neg (by rw [hss]; decide)]; exact hle2) | (rw [if_pos hss, hle2]; exact upd_2 _ _ _ _)) (by split <;> omega) (by first | (rw [if_neg (by rw [hss]; decide), if_neg (by rw [hss]; decide)]; exact sea_no hsea hl0 hfs hss) | (rw [if_pos hss, if_pos hss]; exact sea_hit hsea hl0 hfs hss (by omega))) (by omega) hT (lv_sub hl [1, 2, 3, 4, 5, 6, 0] rfl)
                    · skip
                      have hkt : k2 < t := by have := lp_le_go vex8 (by omega) (by omega) h_21; omega
                      refine lv_iload hx hb dX11_match_166 (lv_at hl 7 rfl) ?_
                      refine lv_if_eq (tgt := 210) hx hb dX11_match_168 (by decide) (fun h_25 => ?_) (fun h_25 => ?_)
                      · skip
                        have hsb : vx7 = b01 (sameB (vb bb sd) n (i2 - 1) t) := by rw [sameB_mono hk2 (b01_f (vex7 ▸ h_25))]; exact h_25
                        refine lv_iload hx hb dX11_match_210 (lv_at hl 7 rfl) ?_
                        refine lv_if_eq (tgt := 233) hx hb dX11_match_212 (by decide) (fun h_26 => ?_) (fun h_26 => ?_)
                        · skip
                          have hss := b01_f (hsb ▸ h_26)
                          obtain ⟨x_27, ex_27⟩ : ∃ y : Int32, y = vx6 + (-1) := ⟨_, rfl⟩
                          refine lv_iinc (v := x_27) (lv' := [(6, .int x_27), (0, .ref (mo 0)), (1, .int (nI sd)), (2, .int (nI i)), (3, .int bh), (4, .int (nI (8 * sd + i))), (5, .int (nI t)), (7, .int vx7), (8, .int vx8)]) hx hb dX11_match_233 hl (k := 6) rfl (by rw [ex_27]; rfl) (by decide) rfl (fun ls hl => ?_)
                          refine lv_goto (tgt := 122) hx hb dX11_match_236 (by decide) ?_
                          exact ih (i2 - 1) x_27 (if sameB (vb bb sd) n (i2 - 1) t = true then i2 - 1 else pl2) (if sameB (vb bb sd) n (i2 - 1) t = true then t else ln2) pt2 le2 H locs ls (by first | assumption | omega | rfl) (dn_step (by omega) vex6 ex_27) (by first | (rw [if_neg (by rw [hss]; decide)]; exact hpt2) | (rw [if_pos hss, hpt2]; exact upd_2 _ _ _ _)) (by first | (rw [if_neg (by rw [hss]; decide)]; exact hle2) | (rw [if_pos hss, hle2]; exact upd_2 _ _ _ _)) (by split <;> omega) (by first | (rw [if_neg (by rw [hss]; decide), if_neg (by rw [hss]; decide)]; exact sea_no hsea hl0 hfs hss) | (rw [if_pos hss, if_pos hss]; exact sea_hit hsea hl0 hfs hss (by omega))) (by omega) hT (lv_sub hl [1, 2, 3, 4, 5, 6, 0] rfl)
                        · skip
                          have hss := b01_t (hsb ▸ h_26)
                          refine lv_aload_n hx hb dX11_match_215 rfl (lv_at hl 0 rfl) ?_
                          refine gX11_35 C hT (q0 := 0) rfl dX11_match_216 ?_
                          refine lv_iload hx hb dX11_match_219 (lv_at hl 4 rfl) ?_
                          refine lv_iload hx hb dX11_match_221 (lv_at hl 6 rfl) ?_
                          refine W.eq (g2 := F0 m 223 ls [.int (nI (i2 - 1)), .int (nI (8 * sd + i)), .ref (mo 9)]) (congrArg (fun z => F0 m 223 ls (.int z :: [.int (nI (8 * sd + i)), .ref (mo 9)])) (dn_at (by omega) vex6)) ?_
                          refine r_iast C hT (q0 := 9) rfl (8 * sd + i) rfl (by omega) (by decide) dX11_match_223 (fun H locs hT => ?_)
                          have hT : Wd g A s (mdL g mo rr th np no bt en xx ra t0 t1 s1 ca cq ch st fk fn fo bb wt nx cx (upd pt2 (8 * sd + i) (nI (i2 - 1))) le2 sc ss ww xc lo hi ou xi) H locs := hT
                          refine lv_aload_n hx hb dX11_match_224 rfl (lv_at hl 0 rfl) ?_
                          refine gX11_38 C hT (q0 := 0) rfl dX11_match_225 ?_
                          refine lv_iload hx hb dX11_match_228 (lv_at hl 4 rfl) ?_
                          refine lv_iload hx hb dX11_match_230 (lv_at hl 5 rfl) ?_
                          refine r_iast C hT (q0 := 10) rfl (8 * sd + i) rfl (by omega) (by decide) dX11_match_232 (fun H locs hT => ?_)
                          have hT : Wd g A s (mdL g mo rr th np no bt en xx ra t0 t1 s1 ca cq ch st fk fn fo bb wt nx cx (upd pt2 (8 * sd + i) (nI (i2 - 1))) (upd le2 (8 * sd + i) (nI t)) sc ss ww xc lo hi ou xi) H locs := hT
                          obtain ⟨x_28, ex_28⟩ : ∃ y : Int32, y = vx6 + (-1) := ⟨_, rfl⟩
                          refine lv_iinc (v := x_28) (lv' := [(6, .int x_28), (0, .ref (mo 0)), (1, .int (nI sd)), (2, .int (nI i)), (3, .int bh), (4, .int (nI (8 * sd + i))), (5, .int (nI t)), (7, .int vx7), (8, .int vx8)]) hx hb dX11_match_233 hl (k := 6) rfl (by rw [ex_28]; rfl) (by decide) rfl (fun ls hl => ?_)
                          refine lv_goto (tgt := 122) hx hb dX11_match_236 (by decide) ?_
                          exact ih (i2 - 1) x_28 (if sameB (vb bb sd) n (i2 - 1) t = true then i2 - 1 else pl2) (if sameB (vb bb sd) n (i2 - 1) t = true then t else ln2) (upd pt2 (8 * sd + i) (nI (i2 - 1))) (upd le2 (8 * sd + i) (nI t)) H locs ls (by first | assumption | omega | rfl) (dn_step (by omega) vex6 ex_28) (by first | (rw [if_neg (by rw [hss]; decide)]; exact hpt2) | (rw [if_pos hss, hpt2]; exact upd_2 _ _ _ _)) (by first | (rw [if_neg (by rw [hss]; decide)]; exact hle2) | (rw [if_pos hss, hle2]; exact upd_2 _ _ _ _)) (by split <;> omega) (by first | (rw [if_neg (by rw [hss]; decide), if_neg (by rw [hss]; decide)]; exact sea_no hsea hl0 hfs hss) | (rw [if_pos hss, if_pos hss]; exact sea_hit hsea hl0 hfs hss (by omega))) (by omega) hT (lv_sub hl [1, 2, 3, 4, 5, 6, 0] rfl)
                      · skip
                        have hsk := b01_t (vex7 ▸ h_25)
                        refine lv_aload_n hx hb dX11_match_171 rfl (lv_at hl 0 rfl) ?_
                        refine gX11_23 C hT (q0 := 0) rfl dX11_match_172 ?_
                        refine lv_sipush (v := 2050) hx hb dX11_match_175 (by decide) ?_
                        refine lv_iload_n hx hb dX11_match_178 rfl (lv_at hl 1 rfl) ?_
                        refine lv_imul hx hb dX11_match_179 ?_
                        refine W.eq (g2 := F0 m 180 ls [.int (nI (2050 * sd)), .ref (mo 5)]) (congrArg (fun z => F0 m 180 ls (.int z :: [.ref (mo 5)])) (pk_mul 2050 sd)) ?_
                        refine lv_iload hx hb dX11_match_180 (lv_at hl 6 rfl) ?_
                        refine W.eq (g2 := F0 m 182 ls [.int (nI (i2 - 1)), .int (nI (2050 * sd)), .ref (mo 5)]) (congrArg (fun z => F0 m 182 ls (.int z :: [.int (nI (2050 * sd)), .ref (mo 5)])) (dn_at (by omega) vex6)) ?_
                        refine lv_iadd hx hb dX11_match_182 ?_
                        refine W.eq (g2 := F0 m 183 ls [.int (nI (2050 * sd + (i2 - 1))), .ref (mo 5)]) (congrArg (fun z => F0 m 183 ls (.int z :: [.ref (mo 5)])) (nI_add _ _)) ?_
                        refine lv_iload hx hb dX11_match_183 (lv_at hl 8 rfl) ?_
                        refine W.eq (g2 := F0 m 185 ls [.int (nI (k2 + 1)), .int (nI (2050 * sd + (i2 - 1))), .ref (mo 5)]) (congrArg (fun z => F0 m 185 ls (.int z :: [.int (nI (2050 * sd + (i2 - 1))), .ref (mo 5)])) (vex8)) ?_
                        refine lv_isub hx hb dX11_match_185 ?_
                        refine W.eq (g2 := F0 m 186 ls [.int (nI (2050 * sd + (i2 - 1) - (k2 + 1))), .ref (mo 5)]) (congrArg (fun z => F0 m 186 ls (.int z :: [.ref (mo 5)])) (pk_sub (by omega))) ?_
                        refine r_iald C hT (q0 := 5) rfl (2050 * sd + (i2 - 1) - (k2 + 1)) rfl (by omega) (by decide) dX11_match_186 ?_
                        refine W.eq (g2 := F0 m 187 ls [.int ((vb bb sd) (i2 - 1 - (k2 + 1)))]) (congrArg (fun z => F0 m 187 ls (.int z :: [])) ((congrArg bb (Nat.add_sub_assoc (by omega) _)))) ?_
                        refine lv_aload_n hx hb dX11_match_187 rfl (lv_at hl 0 rfl) ?_
                        refine lv_iload_n hx hb dX11_match_188 rfl (lv_at hl 1 rfl) ?_
                        refine lv_iload hx hb dX11_match_189 (lv_at hl 8 rfl) ?_
                        refine W.eq (g2 := F0 m 191 ls [.int (nI (k2 + 1)), .int (nI sd), .ref (mo 0), .int ((vb bb sd) (i2 - 1 - (k2 + 1)))]) (congrArg (fun z => F0 m 191 ls (.int z :: [.int (nI sd), .ref (mo 0), .int ((vb bb sd) (i2 - 1 - (k2 + 1)))])) (vex8)) ?_
                        have hM := c_X11_latest l g mo rr th np no bt en xx ra t0 t1 s1 ca cq ch st fk fn fo bb wt nx cx pt2 le2 sc ss ww xc lo hi ou xi sd (k2 + 1) n (by first | assumption | omega) (by first | assumption | omega) (by first | assumption | omega) (by omega) (by omega)
                        refine r_callRO (js := [0, 1, 2, 3, 4, 5, 6, 7, 8, 9, 10, 11, 12, 13, 14, 15, 16, 17, 18]) C hT (runV (js := [0, 1, 2, 3, 4, 5, 6, 7, 8, 9, 10, 11, 12, 13, 14, 15, 16, 17, 18]) (rm := ({ frames := 0, cells := 0, slots := 0, locals := 0 } : Room)) (As := [.int (nI sd), .int (nI (k2 + 1))]) (n := 2) (q1 := 0) (rest := [.int ((vb bb sd) (i2 - 1 - (k2 + 1)))]) C hT hM rfl rfl k766 k768 s15 k15 k769 (by decide +kernel) rfl rfl rfl rfl (Nat.le_of_ble_eq_true rfl) hl.1 ⟨Nat.le_of_ble_eq_true rfl, Nat.le_of_ble_eq_true rfl⟩ ⟨Nat.le_of_ble_eq_true rfl, Nat.le_of_ble_eq_true rfl⟩ dX11_match_191) rfl rfl (fun u H locs hT => ?_)
                        refine W.eq (g2 := F0 m 194 ls [.int (backN (vb bb sd) n (k2 + 1)), .int ((vb bb sd) (i2 - 1 - (k2 + 1)))]) rfl ?_
                        refine r_iteN (ls := ls) (J := 202) (a1 := 0) (a2 := 1) (rest := []) (lv_icmp_ne (tgt := 201) hx hb dX11_match_194 (by decide)) (fun h_29 kont => ?_) (fun h_29 kont => ?_) ?_
                        · skip
                          refine lv_iconst (v := 0) hx hb dX11_match_201 (by decide) ?_
                          exact kont
                        · skip
                          refine lv_iconst (v := 1) hx hb dX11_match_197 (by decide) ?_
                          refine lv_goto (tgt := 202) hx hb dX11_match_198 (by decide) ?_
                          exact kont
                        refine W.eq (g2 := F0 m 202 ls [.int (b01 (sameB (vb bb sd) n (i2 - 1) (k2 + 1)))]) (congrArg (fun z => F0 m 202 ls (.int z :: [])) (sameB_i2 hsk)) ?_
                        refine lv_istore (lv' := [(7, .int (b01 (sameB (vb bb sd) n (i2 - 1) (k2 + 1)))), (0, .ref (mo 0)), (1, .int (nI sd)), (2, .int (nI i)), (3, .int bh), (4, .int (nI (8 * sd + i))), (5, .int (nI t)), (6, .int vx6), (8, .int vx8)]) hx hb dX11_match_202 hl (by decide) rfl (fun ls hl => ?_)
                        obtain ⟨x_30, ex_30⟩ : ∃ y : Int32, y = vx8 + 1 := ⟨_, rfl⟩
                        refine lv_iinc (v := x_30) (lv' := [(8, .int x_30), (7, .int (b01 (sameB (vb bb sd) n (i2 - 1) (k2 + 1)))), (0, .ref (mo 0)), (1, .int (nI sd)), (2, .int (nI i)), (3, .int bh), (4, .int (nI (8 * sd + i))), (5, .int (nI t)), (6, .int vx6)]) hx hb dX11_match_204 hl (k := 8) rfl (by rw [ex_30]; rfl) (by decide) rfl (fun ls hl => ?_)
                        refine lv_goto (tgt := 159) hx hb dX11_match_207 (by decide) ?_
                        exact ih_159 (k2 + 1) x_30 (b01 (sameB (vb bb sd) n (i2 - 1) (k2 + 1))) H locs ls (by first | assumption | omega | rfl) (by rw [ex_30, vex8]; exact nI_1 (k2 + 1)) rfl (by omega) hT (lv_sub hl [2, 3, 4, 5, 6, 7, 8, 1, 0] rfl)
                exact loop_159 (t - 0 + 1) 0 1 1 H locs ls (by first | assumption | omega | rfl) rfl rfl (Nat.lt_succ_self _) hT (lv_sub hl [2, 3, 4, 5, 6, 7, 8, 1, 0] rfl)
      exact loop_122 (n + 1) n x_17 (folP (vb bb sd) n pl ln) (folL (vb bb sd) n pl ln) pt (upd le (8 * sd + i) 0) H locs ls (Nat.le_refl n) ex_17 hpt1 hle1 (folL_le hln) sea_0 (Nat.lt_succ_self _) hT (lv_sub hl [3, 4, 5, 6, 2, 1, 0] rfl)
    · skip
      have hln0 := nI_nle0 h_16
      have hpn1 := hpn hln0
      refine lv_aload_n hx hb dX11_match_22 rfl (lv_at hl 1 rfl) ?_
      refine gX11_23 C hT (q0 := 0) rfl dX11_match_23 ?_
      refine lv_sipush (v := 2050) hx hb dX11_match_26 (by decide) ?_
      refine lv_iload_n hx hb dX11_match_29 rfl (lv_at hl 2 rfl) ?_
      refine lv_imul hx hb dX11_match_30 ?_
      refine W.eq (g2 := F0 m 31 ls [.int (nI (2050 * sd)), .ref (mo 5)]) (congrArg (fun z => F0 m 31 ls (.int z :: [.ref (mo 5)])) (pk_mul 2050 sd)) ?_
      refine lv_aload_n hx hb dX11_match_31 rfl (lv_at hl 1 rfl) ?_
      refine gX11_35 C hT (q0 := 0) rfl dX11_match_32 ?_
      refine lv_iload hx hb dX11_match_35 (lv_at hl 0 rfl) ?_
      refine r_iald C hT (q0 := 9) rfl (8 * sd + i) rfl (by omega) (by decide) dX11_match_37 ?_
      refine W.eq (g2 := F0 m 38 ls [.int (nI pl), .int (nI (2050 * sd)), .ref (mo 5)]) (congrArg (fun z => F0 m 38 ls (.int z :: [.int (nI (2050 * sd)), .ref (mo 5)])) (hpt)) ?_
      refine lv_iadd hx hb dX11_match_38 ?_
      refine W.eq (g2 := F0 m 39 ls [.int (nI (2050 * sd + pl)), .ref (mo 5)]) (congrArg (fun z => F0 m 39 ls (.int z :: [.ref (mo 5)])) (nI_add _ _)) ?_
      refine r_iald C hT (q0 := 5) rfl (2050 * sd + pl) rfl (by omega) (by decide) dX11_match_39 ?_
      refine W.eq (g2 := F0 m 40 ls [.int ((vb bb sd) pl)]) (congrArg (fun z => F0 m 40 ls (.int z :: [])) (rfl)) ?_
      refine lv_aload_n hx hb dX11_match_40 rfl (lv_at hl 1 rfl) ?_
      refine lv_iload_n hx hb dX11_match_41 rfl (lv_at hl 2 rfl) ?_
      refine lv_iconst (v := 1) hx hb dX11_match_42 (by decide) ?_
      refine W.eq (g2 := F0 m 43 ls [.int (nI 1), .int (nI sd), .ref (mo 0), .int ((vb bb sd) pl)]) (congrArg (fun z => F0 m 43 ls (.int z :: [.int (nI sd), .ref (mo 0), .int ((vb bb sd) pl)])) (rfl)) ?_
      have hM := c_X11_latest l g mo rr th np no bt en xx ra t0 t1 s1 ca cq ch st fk fn fo bb wt nx cx pt le sc ss ww xc lo hi ou xi sd 1 n (by first | assumption | omega) (by first | assumption | omega) (by first | assumption | omega) (by decide) (by decide)
      refine r_callRO (js := [0, 1, 2, 3, 4, 5, 6, 7, 8, 9, 10, 11, 12, 13, 14, 15, 16, 17, 18]) C hT (runV (js := [0, 1, 2, 3, 4, 5, 6, 7, 8, 9, 10, 11, 12, 13, 14, 15, 16, 17, 18]) (rm := ({ frames := 0, cells := 0, slots := 0, locals := 0 } : Room)) (As := [.int (nI sd), .int (nI 1)]) (n := 2) (q1 := 0) (rest := [.int ((vb bb sd) pl)]) C hT hM rfl rfl k766 k768 s15 k15 k769 (by decide +kernel) rfl rfl rfl rfl (Nat.le_of_ble_eq_true rfl) hl.1 ⟨Nat.le_of_ble_eq_true rfl, Nat.le_of_ble_eq_true rfl⟩ ⟨Nat.le_of_ble_eq_true rfl, Nat.le_of_ble_eq_true rfl⟩ dX11_match_43) rfl rfl (fun u H locs hT => ?_)
      refine W.eq (g2 := F0 m 46 ls [.int (backN (vb bb sd) n 1), .int ((vb bb sd) pl)]) rfl ?_
      refine lv_icmp_ne (tgt := 96) hx hb dX11_match_46 (by decide) (fun h_31 => ?_) (fun h_31 => ?_)
      · skip
        have hfo := fol_no (f := (vb bb sd)) (n := n) (pl := pl) (ln := ln) (Or.inr h_31) hpn
        have hpt1 : pt = upd pt (8 * sd + i) (nI (folP (vb bb sd) n pl ln)) := by rw [hfo.1]; exact upd_id hpt
        have hle1 : upd le (8 * sd + i) 0 = upd le (8 * sd + i) (nI (folL (vb bb sd) n pl ln)) := by rw [hfo.2]; rfl
        refine lv_aload_n hx hb dX11_match_96 rfl (lv_at hl 1 rfl) ?_
        refine gX11_38 C hT (q0 := 0) rfl dX11_match_97 ?_
        refine lv_iload hx hb dX11_match_100 (lv_at hl 0 rfl) ?_
        refine lv_iconst (v := 0) hx hb dX11_match_102 (by decide) ?_
        refine r_iast C hT (q0 := 10) rfl (8 * sd + i) rfl (by omega) (by decide) dX11_match_103 (fun H locs hT => ?_)
        have hT : Wd g A s (mdL g mo rr th np no bt en xx ra t0 t1 s1 ca cq ch st fk fn fo bb wt nx cx pt (upd le (8 * sd + i) 0) sc ss ww xc lo hi ou xi) H locs := hT
        refine lv_aload_n hx hb dX11_match_104 rfl (lv_at hl 1 rfl) ?_
        refine gX11_16 C hT (q0 := 0) rfl dX11_match_105 ?_
        refine lv_iload_n hx hb dX11_match_108 rfl (lv_at hl 3 rfl) ?_
        refine r_iald C hT (q0 := 3) rfl i rfl hi8 (by decide) dX11_match_109 ?_
        refine W.eq (g2 := F0 m 110 ls [.int (nI t)]) (congrArg (fun z => F0 m 110 ls (.int z :: [])) (hft)) ?_
        refine lv_istore (lv' := [(5, .int (nI t)), (4, .int (nI (8 * sd + i))), (0, .ref (mo 0)), (1, .int (nI sd)), (2, .int (nI i)), (3, .int bh)]) hx hb dX11_match_110 hl (by decide) rfl (fun ls hl => ?_)
        refine lv_aload_n hx hb dX11_match_112 rfl (lv_at hl 2 rfl) ?_
        refine gX11_26 C hT (q0 := 0) rfl dX11_match_113 ?_
        refine lv_iload_n hx hb dX11_match_116 rfl (lv_at hl 3 rfl) ?_
        refine r_iald C hT (q0 := 6) rfl sd rfl (by omega) (by decide) dX11_match_117 ?_
        refine W.eq (g2 := F0 m 118 ls [.int (nI n)]) (congrArg (fun z => F0 m 118 ls (.int z :: [])) (hw)) ?_
        refine lv_iconst (v := 1) hx hb dX11_match_118 (by decide) ?_
        refine lv_isub hx hb dX11_match_119 ?_
        refine lv_topi (fun x_32 ex_32 => ?_)
        refine lv_istore (lv' := [(6, .int x_32), (5, .int (nI t)), (4, .int (nI (8 * sd + i))), (0, .ref (mo 0)), (1, .int (nI sd)), (2, .int (nI i)), (3, .int bh)]) hx hb dX11_match_120 hl (by decide) rfl (fun ls hl => ?_)
        have loop_122 : ∀ (fu : Nat) (i2 : Nat) (vx6 : Int32) (pl2 : Nat) (ln2 : Nat) (pt2 : Nat → Int32) (le2 : Nat → Int32) (H : Heap) (locs : List Loc) (ls : Array Slot) (hi2 : i2 ≤ n) (vex6 : vx6 = nI i2 - 1) (hpt2 : pt2 = upd pt (8 * sd + i) (nI pl2)) (hle2 : le2 = upd le (8 * sd + i) (nI ln2)) (hl32 : ln2 ≤ 32) (hsea : sea (vb bb sd) n t (folP (vb bb sd) n pl ln) (folL (vb bb sd) n pl ln) i2 pl2 ln2), i2 < fu → Wd g A s (mdL g mo rr th np no bt en xx ra t0 t1 s1 ca cq ch st fk fn fo bb wt nx cx pt2 le2 sc ss ww xc lo hi ou xi) H locs → lv_has ls 9 [(0, .ref (mo 0)), (1, .int (nI sd)), (2, .int (nI i)), (3, .int bh), (4, .int (nI (8 * sd + i))), (5, .int (nI t)), (6, .int vx6)] → W p l e ({ frames := 1, cells := 0, slots := 0, locals := 22 } : Room) s m ([.ref (mo 0), .int (nI sd), .int (nI i), .int bh] : List Value).toArray below meth c H locs 0 0 Q (F0 m 122 ls []) := by
          intro fu
          induction fu with
          | zero => intro i2 vx6 pl2 ln2 pt2 le2 H locs ls hi2 vex6 hpt2 hle2 hl32 hsea hm; exact absurd hm (Nat.not_lt_zero _)
          | succ fu ih =>
            intro i2 vx6 pl2 ln2 pt2 le2 H locs ls hi2 vex6 hpt2 hle2 hl32 hsea hm hT hl
            refine lv_iload hx hb dX11_match_122 (lv_at hl 6 rfl) ?_
            refine lv_iload hx hb dX11_match_124 (lv_at hl 5 rfl) ?_
            refine lv_icmp_lt (tgt := 239) hx hb dX11_match_126 (by decide) (fun h_33 => ?_) (fun h_33 => ?_)
            · skip
              have hend : pl2 = mtP (vb bb sd) n t pl ln ∧ ln2 = mtL (vb bb sd) n t pl ln := sea_end hsea (Or.inl (fst_out (Or.inl ((dn_lt (by omega) (by omega) vex6).mp h_33))))
              exact e_vret C hQ () (by exact hT.eq (by rw [hpt2, hle2, hend.1, hend.2])) rfl dX11_match_239
            · skip
              have hit : ¬ i2 ≤ t := fun q => h_33 ((dn_lt (by omega) (by omega) vex6).mpr q)
              refine lv_iload hx hb dX11_match_129 (lv_at hl 6 rfl) ?_
              refine lv_aload_n hx hb dX11_match_131 rfl (lv_at hl 0 rfl) ?_
              refine gX11_26 C hT (q0 := 0) rfl dX11_match_132 ?_
              refine lv_iload_n hx hb dX11_match_135 rfl (lv_at hl 1 rfl) ?_
              refine r_iald C hT (q0 := 6) rfl sd rfl (by omega) (by decide) dX11_match_136 ?_
              refine W.eq (g2 := F0 m 137 ls [.int (nI n), .int vx6]) (congrArg (fun z => F0 m 137 ls (.int z :: [.int vx6])) (hw)) ?_
              refine lv_bipush (v := 64) hx hb dX11_match_137 (by decide) ?_
              refine lv_isub hx hb dX11_match_139 ?_
              refine lv_icmp_lt (tgt := 239) hx hb dX11_match_140 (by decide) (fun h_34 => ?_) (fun h_34 => ?_)
              · skip
                have hend : pl2 = mtP (vb bb sd) n t pl ln ∧ ln2 = mtL (vb bb sd) n t pl ln := sea_end hsea (Or.inl (fst_out (Or.inr ((lt_sub64 (by omega) (by omega) vex6).mp h_34))))
                exact e_vret C hQ () (by exact hT.eq (by rw [hpt2, hle2, hend.1, hend.2])) rfl dX11_match_239
              · skip
                have hi64 : ¬ i2 + 63 < n := fun q => h_34 ((lt_sub64 (by omega) (by omega) vex6).mpr q)
                have hfs := fst_lt hit hi64
                refine lv_aload_n hx hb dX11_match_143 rfl (lv_at hl 0 rfl) ?_
                refine gX11_38 C hT (q0 := 0) rfl dX11_match_144 ?_
                refine lv_iload hx hb dX11_match_147 (lv_at hl 4 rfl) ?_
                refine r_iald C hT (q0 := 10) rfl (8 * sd + i) rfl (by omega) (by decide) dX11_match_149 ?_
                refine W.eq (g2 := F0 m 150 ls [.int (nI ln2)]) (congrArg (fun z => F0 m 150 ls (.int z :: [])) ((by rw [hle2]; exact upd_at _ _ _))) ?_
                refine lv_if_ne (tgt := 239) hx hb dX11_match_150 (by decide) (fun h_35 => ?_) (fun h_35 => ?_)
                · skip
                  have hend : pl2 = mtP (vb bb sd) n t pl ln ∧ ln2 = mtL (vb bb sd) n t pl ln := sea_end hsea (Or.inr (nI_nz h_35))
                  exact e_vret C hQ () (by exact hT.eq (by rw [hpt2, hle2, hend.1, hend.2])) rfl dX11_match_239
                · skip
                  have hl0 := nI_z (by omega) h_35
                  refine lv_iconst (v := 1) hx hb dX11_match_153 (by decide) ?_
                  refine lv_istore (lv' := [(7, .int 1), (0, .ref (mo 0)), (1, .int (nI sd)), (2, .int (nI i)), (3, .int bh), (4, .int (nI (8 * sd + i))), (5, .int (nI t)), (6, .int vx6)]) hx hb dX11_match_154 hl (by decide) rfl (fun ls hl => ?_)
                  refine lv_iconst (v := 1) hx hb dX11_match_156 (by decide) ?_
                  refine lv_istore (lv' := [(8, .int 1), (7, .int 1), (0, .ref (mo 0)), (1, .int (nI sd)), (2, .int (nI i)), (3, .int bh), (4, .int (nI (8 * sd + i))), (5, .int (nI t)), (6, .int vx6)]) hx hb dX11_match_157 hl (by decide) rfl (fun ls hl => ?_)
                  have loop_159 : ∀ (fu : Nat) (k2 : Nat) (vx8 : Int32) (vx7 : Int32) (H : Heap) (locs : List Loc) (ls : Array Slot) (hk2 : k2 ≤ t) (vex8 : vx8 = nI (k2 + 1)) (vex7 : vx7 = b01 (sameB (vb bb sd) n (i2 - 1) k2)), t - k2 < fu → Wd g A s (mdL g mo rr th np no bt en xx ra t0 t1 s1 ca cq ch st fk fn fo bb wt nx cx pt2 le2 sc ss ww xc lo hi ou xi) H locs → lv_has ls 9 [(0, .ref (mo 0)), (1, .int (nI sd)), (2, .int (nI i)), (3, .int bh), (4, .int (nI (8 * sd + i))), (5, .int (nI t)), (6, .int vx6), (7, .int vx7), (8, .int vx8)] → W p l e ({ frames := 1, cells := 0, slots := 0, locals := 22 } : Room) s m ([.ref (mo 0), .int (nI sd), .int (nI i), .int bh] : List Value).toArray below meth c H locs 0 0 Q (F0 m 159 ls []) := by
                    intro fu_159
                    induction fu_159 with
                    | zero => intro k2 vx8 vx7 H locs ls hk2 vex8 vex7 hm; exact absurd hm (Nat.not_lt_zero _)
                    | succ fu_159 ih_159 =>
                      intro k2 vx8 vx7 H locs ls hk2 vex8 vex7 hm_159 hT hl
                      refine lv_iload hx hb dX11_match_159 (lv_at hl 8 rfl) ?_
                      refine lv_iload hx hb dX11_match_161 (lv_at hl 5 rfl) ?_
                      refine lv_icmp_gt (tgt := 210) hx hb dX11_match_163 (by decide) (fun h_36 => ?_) (fun h_36 => ?_)
                      · skip
                        have hkt : k2 = t := by have := lp_le_end vex8 (by omega) (by omega) h_36; omega
                        have hsb : vx7 = b01 (sameB (vb bb sd) n (i2 - 1) t) := by rw [vex7, hkt]
                        refine lv_iload hx hb dX11_match_210 (lv_at hl 7 rfl) ?_
                        refine lv_if_eq (tgt := 233) hx hb dX11_match_212 (by decide) (fun h_37 => ?_) (fun h_37 => ?_)
                        · skip
                          have hss := b01_f (hsb ▸ h_37)
                          obtain ⟨x_38, ex_38⟩ : ∃ y : Int32, y = vx6 + (-1) := ⟨_, rfl⟩
                          refine lv_iinc (v := x_38) (lv' := [(6, .int x_38), (0, .ref (mo 0)), (1, .int (nI sd)), (2, .int (nI i)), (3, .int bh), (4, .int (nI (8 * sd + i))), (5, .int (nI t)), (7, .int vx7), (8, .int vx8)]) hx hb dX11_match_233 hl (k := 6) rfl (by rw [ex_38]; rfl) (by decide) rfl (fun ls hl => ?_)
                          refine lv_goto (tgt := 122) hx hb dX11_match_236 (by decide) ?_
                          exact ih (i2 - 1) x_38 (if sameB (vb bb sd) n (i2 - 1) t = true then i2 - 1 else pl2) (if sameB (vb bb sd) n (i2 - 1) t = true then t else ln2) pt2 le2 H locs ls (by first | assumption | omega | rfl) (dn_step (by omega) vex6 ex_38) (by first | (rw [if_neg (by rw [hss]; decide)]; exact hpt2) | (rw [if_pos hss, hpt2]; exact upd_2 _ _ _ _)) (by first | (rw [if_neg (by rw [hss]; decide)]; exact hle2) | (rw [if_pos hss, hle2]; exact upd_2 _ _ _ _)) (by split <;> omega) (by first | (rw [if_neg (by rw [hss]; decide), if_neg (by rw [hss]; decide)]; exact sea_no hsea hl0 hfs hss) | (rw [if_pos hss, if_pos hss]; exact sea_hit hsea hl0 hfs hss (by omega))) (by omega) hT (lv_sub hl [1, 2, 3, 4, 5, 6, 0] rfl)
                        · skip
                          have hss := b01_t (hsb ▸ h_37)
                          refine lv_aload_n hx hb dX11_match_215 rfl (lv_at hl 0 rfl) ?_
                          refine gX11_35 C hT (q0 := 0) rfl dX11_match_216 ?_
                          refine lv_iload hx hb dX11_match_219 (lv_at hl 4 rfl) ?_
                          refine lv_iload hx hb dX11_match_221 (lv_at hl 6 rfl) ?_
                          refine W.eq (g2 := F0 m 223 ls [.int (nI (i2 - 1)), .int (nI (8 * sd + i)), .ref (mo 9)]) (congrArg (fun z => F0 m 223 ls (.int z :: [.int (nI (8 * sd + i)), .ref (mo 9)])) (dn_at (by omega) vex6)) ?_
                          refine r_iast C hT (q0 := 9) rfl (8 * sd + i) rfl (by omega) (by decide) dX11_match_223 (fun H locs hT => ?_)
                          have hT : Wd g A s (mdL g mo rr th np no bt en xx ra t0 t1 s1 ca cq ch st fk fn fo bb wt nx cx (upd pt2 (8 * sd + i) (nI (i2 - 1))) le2 sc ss ww xc lo hi ou xi) H locs := hT
                          refine lv_aload_n hx hb dX11_match_224 rfl (lv_at hl 0 rfl) ?_
                          refine gX11_38 C hT (q0 := 0) rfl dX11_match_225 ?_
                          refine lv_iload hx hb dX11_match_228 (lv_at hl 4 rfl) ?_
                          refine lv_iload hx hb dX11_match_230 (lv_at hl 5 rfl) ?_
                          refine r_iast C hT (q0 := 10) rfl (8 * sd + i) rfl (by omega) (by decide) dX11_match_232 (fun H locs hT => ?_)
                          have hT : Wd g A s (mdL g mo rr th np no bt en xx ra t0 t1 s1 ca cq ch st fk fn fo bb wt nx cx (upd pt2 (8 * sd + i) (nI (i2 - 1))) (upd le2 (8 * sd + i) (nI t)) sc ss ww xc lo hi ou xi) H locs := hT
                          obtain ⟨x_39, ex_39⟩ : ∃ y : Int32, y = vx6 + (-1) := ⟨_, rfl⟩
                          refine lv_iinc (v := x_39) (lv' := [(6, .int x_39), (0, .ref (mo 0)), (1, .int (nI sd)), (2, .int (nI i)), (3, .int bh), (4, .int (nI (8 * sd + i))), (5, .int (nI t)), (7, .int vx7), (8, .int vx8)]) hx hb dX11_match_233 hl (k := 6) rfl (by rw [ex_39]; rfl) (by decide) rfl (fun ls hl => ?_)
                          refine lv_goto (tgt := 122) hx hb dX11_match_236 (by decide) ?_
                          exact ih (i2 - 1) x_39 (if sameB (vb bb sd) n (i2 - 1) t = true then i2 - 1 else pl2) (if sameB (vb bb sd) n (i2 - 1) t = true then t else ln2) (upd pt2 (8 * sd + i) (nI (i2 - 1))) (upd le2 (8 * sd + i) (nI t)) H locs ls (by first | assumption | omega | rfl) (dn_step (by omega) vex6 ex_39) (by first | (rw [if_neg (by rw [hss]; decide)]; exact hpt2) | (rw [if_pos hss, hpt2]; exact upd_2 _ _ _ _)) (by first | (rw [if_neg (by rw [hss]; decide)]; exact hle2) | (rw [if_pos hss, hle2]; exact upd_2 _ _ _ _)) (by split <;> omega) (by first | (rw [if_neg (by rw [hss]; decide), if_neg (by rw [hss]; decide)]; exact sea_no hsea hl0 hfs hss) | (rw [if_pos hss, if_pos hss]; exact sea_hit hsea hl0 hfs hss (by omega))) (by omega) hT (lv_sub hl [1, 2, 3, 4, 5, 6, 0] rfl)
                      · skip
                        have hkt : k2 < t := by have := lp_le_go vex8 (by omega) (by omega) h_36; omega
                        refine lv_iload hx hb dX11_match_166 (lv_at hl 7 rfl) ?_
                        refine lv_if_eq (tgt := 210) hx hb dX11_match_168 (by decide) (fun h_40 => ?_) (fun h_40 => ?_)
                        · skip
                          have hsb : vx7 = b01 (sameB (vb bb sd) n (i2 - 1) t) := by rw [sameB_mono hk2 (b01_f (vex7 ▸ h_40))]; exact h_40
                          refine lv_iload hx hb dX11_match_210 (lv_at hl 7 rfl) ?_
                          refine lv_if_eq (tgt := 233) hx hb dX11_match_212 (by decide) (fun h_41 => ?_) (fun h_41 => ?_)
                          · skip
                            have hss := b01_f (hsb ▸ h_41)
                            obtain ⟨x_42, ex_42⟩ : ∃ y : Int32, y = vx6 + (-1) := ⟨_, rfl⟩
                            refine lv_iinc (v := x_42) (lv' := [(6, .int x_42), (0, .ref (mo 0)), (1, .int (nI sd)), (2, .int (nI i)), (3, .int bh), (4, .int (nI (8 * sd + i))), (5, .int (nI t)), (7, .int vx7), (8, .int vx8)]) hx hb dX11_match_233 hl (k := 6) rfl (by rw [ex_42]; rfl) (by decide) rfl (fun ls hl => ?_)
                            refine lv_goto (tgt := 122) hx hb dX11_match_236 (by decide) ?_
                            exact ih (i2 - 1) x_42 (if sameB (vb bb sd) n (i2 - 1) t = true then i2 - 1 else pl2) (if sameB (vb bb sd) n (i2 - 1) t = true then t else ln2) pt2 le2 H locs ls (by first | assumption | omega | rfl) (dn_step (by omega) vex6 ex_42) (by first | (rw [if_neg (by rw [hss]; decide)]; exact hpt2) | (rw [if_pos hss, hpt2]; exact upd_2 _ _ _ _)) (by first | (rw [if_neg (by rw [hss]; decide)]; exact hle2) | (rw [if_pos hss, hle2]; exact upd_2 _ _ _ _)) (by split <;> omega) (by first | (rw [if_neg (by rw [hss]; decide), if_neg (by rw [hss]; decide)]; exact sea_no hsea hl0 hfs hss) | (rw [if_pos hss, if_pos hss]; exact sea_hit hsea hl0 hfs hss (by omega))) (by omega) hT (lv_sub hl [1, 2, 3, 4, 5, 6, 0] rfl)
                          · skip
                            have hss := b01_t (hsb ▸ h_41)
                            refine lv_aload_n hx hb dX11_match_215 rfl (lv_at hl 0 rfl) ?_
                            refine gX11_35 C hT (q0 := 0) rfl dX11_match_216 ?_
                            refine lv_iload hx hb dX11_match_219 (lv_at hl 4 rfl) ?_
                            refine lv_iload hx hb dX11_match_221 (lv_at hl 6 rfl) ?_
                            refine W.eq (g2 := F0 m 223 ls [.int (nI (i2 - 1)), .int (nI (8 * sd + i)), .ref (mo 9)]) (congrArg (fun z => F0 m 223 ls (.int z :: [.int (nI (8 * sd + i)), .ref (mo 9)])) (dn_at (by omega) vex6)) ?_
                            refine r_iast C hT (q0 := 9) rfl (8 * sd + i) rfl (by omega) (by decide) dX11_match_223 (fun H locs hT => ?_)
                            have hT : Wd g A s (mdL g mo rr th np no bt en xx ra t0 t1 s1 ca cq ch st fk fn fo bb wt nx cx (upd pt2 (8 * sd + i) (nI (i2 - 1))) le2 sc ss ww xc lo hi ou xi) H locs := hT
                            refine lv_aload_n hx hb dX11_match_224 rfl (lv_at hl 0 rfl) ?_
                            refine gX11_38 C hT (q0 := 0) rfl dX11_match_225 ?_
                            refine lv_iload hx hb dX11_match_228 (lv_at hl 4 rfl) ?_
                            refine lv_iload hx hb dX11_match_230 (lv_at hl 5 rfl) ?_
                            refine r_iast C hT (q0 := 10) rfl (8 * sd + i) rfl (by omega) (by decide) dX11_match_232 (fun H locs hT => ?_)
                            have hT : Wd g A s (mdL g mo rr th np no bt en xx ra t0 t1 s1 ca cq ch st fk fn fo bb wt nx cx (upd pt2 (8 * sd + i) (nI (i2 - 1))) (upd le2 (8 * sd + i) (nI t)) sc ss ww xc lo hi ou xi) H locs := hT
                            obtain ⟨x_43, ex_43⟩ : ∃ y : Int32, y = vx6 + (-1) := ⟨_, rfl⟩
                            refine lv_iinc (v := x_43) (lv' := [(6, .int x_43), (0, .ref (mo 0)), (1, .int (nI sd)), (2, .int (nI i)), (3, .int bh), (4, .int (nI (8 * sd + i))), (5, .int (nI t)), (7, .int vx7), (8, .int vx8)]) hx hb dX11_match_233 hl (k := 6) rfl (by rw [ex_43]; rfl) (by decide) rfl (fun ls hl => ?_)
                            refine lv_goto (tgt := 122) hx hb dX11_match_236 (by decide) ?_
                            exact ih (i2 - 1) x_43 (if sameB (vb bb sd) n (i2 - 1) t = true then i2 - 1 else pl2) (if sameB (vb bb sd) n (i2 - 1) t = true then t else ln2) (upd pt2 (8 * sd + i) (nI (i2 - 1))) (upd le2 (8 * sd + i) (nI t)) H locs ls (by first | assumption | omega | rfl) (dn_step (by omega) vex6 ex_43) (by first | (rw [if_neg (by rw [hss]; decide)]; exact hpt2) | (rw [if_pos hss, hpt2]; exact upd_2 _ _ _ _)) (by first | (rw [if_neg (by rw [hss]; decide)]; exact hle2) | (rw [if_pos hss, hle2]; exact upd_2 _ _ _ _)) (by split <;> omega) (by first | (rw [if_neg (by rw [hss]; decide), if_neg (by rw [hss]; decide)]; exact sea_no hsea hl0 hfs hss) | (rw [if_pos hss, if_pos hss]; exact sea_hit hsea hl0 hfs hss (by omega))) (by omega) hT (lv_sub hl [1, 2, 3, 4, 5, 6, 0] rfl)
                        · skip
                          have hsk := b01_t (vex7 ▸ h_40)
                          refine lv_aload_n hx hb dX11_match_171 rfl (lv_at hl 0 rfl) ?_
                          refine gX11_23 C hT (q0 := 0) rfl dX11_match_172 ?_
                          refine lv_sipush (v := 2050) hx hb dX11_match_175 (by decide) ?_
                          refine lv_iload_n hx hb dX11_match_178 rfl (lv_at hl 1 rfl) ?_
                          refine lv_imul hx hb dX11_match_179 ?_
                          refine W.eq (g2 := F0 m 180 ls [.int (nI (2050 * sd)), .ref (mo 5)]) (congrArg (fun z => F0 m 180 ls (.int z :: [.ref (mo 5)])) (pk_mul 2050 sd)) ?_
                          refine lv_iload hx hb dX11_match_180 (lv_at hl 6 rfl) ?_
                          refine W.eq (g2 := F0 m 182 ls [.int (nI (i2 - 1)), .int (nI (2050 * sd)), .ref (mo 5)]) (congrArg (fun z => F0 m 182 ls (.int z :: [.int (nI (2050 * sd)), .ref (mo 5)])) (dn_at (by omega) vex6)) ?_
                          refine lv_iadd hx hb dX11_match_182 ?_
                          refine W.eq (g2 := F0 m 183 ls [.int (nI (2050 * sd + (i2 - 1))), .ref (mo 5)]) (congrArg (fun z => F0 m 183 ls (.int z :: [.ref (mo 5)])) (nI_add _ _)) ?_
                          refine lv_iload hx hb dX11_match_183 (lv_at hl 8 rfl) ?_
                          refine W.eq (g2 := F0 m 185 ls [.int (nI (k2 + 1)), .int (nI (2050 * sd + (i2 - 1))), .ref (mo 5)]) (congrArg (fun z => F0 m 185 ls (.int z :: [.int (nI (2050 * sd + (i2 - 1))), .ref (mo 5)])) (vex8)) ?_
                          refine lv_isub hx hb dX11_match_185 ?_
                          refine W.eq (g2 := F0 m 186 ls [.int (nI (2050 * sd + (i2 - 1) - (k2 + 1))), .ref (mo 5)]) (congrArg (fun z => F0 m 186 ls (.int z :: [.ref (mo 5)])) (pk_sub (by omega))) ?_
                          refine r_iald C hT (q0 := 5) rfl (2050 * sd + (i2 - 1) - (k2 + 1)) rfl (by omega) (by decide) dX11_match_186 ?_
                          refine W.eq (g2 := F0 m 187 ls [.int ((vb bb sd) (i2 - 1 - (k2 + 1)))]) (congrArg (fun z => F0 m 187 ls (.int z :: [])) ((congrArg bb (Nat.add_sub_assoc (by omega) _)))) ?_
                          refine lv_aload_n hx hb dX11_match_187 rfl (lv_at hl 0 rfl) ?_
                          refine lv_iload_n hx hb dX11_match_188 rfl (lv_at hl 1 rfl) ?_
                          refine lv_iload hx hb dX11_match_189 (lv_at hl 8 rfl) ?_
                          refine W.eq (g2 := F0 m 191 ls [.int (nI (k2 + 1)), .int (nI sd), .ref (mo 0), .int ((vb bb sd) (i2 - 1 - (k2 + 1)))]) (congrArg (fun z => F0 m 191 ls (.int z :: [.int (nI sd), .ref (mo 0), .int ((vb bb sd) (i2 - 1 - (k2 + 1)))])) (vex8)) ?_
                          have hM := c_X11_latest l g mo rr th np no bt en xx ra t0 t1 s1 ca cq ch st fk fn fo bb wt nx cx pt2 le2 sc ss ww xc lo hi ou xi sd (k2 + 1) n (by first | assumption | omega) (by first | assumption | omega) (by first | assumption | omega) (by omega) (by omega)
                          refine r_callRO (js := [0, 1, 2, 3, 4, 5, 6, 7, 8, 9, 10, 11, 12, 13, 14, 15, 16, 17, 18]) C hT (runV (js := [0, 1, 2, 3, 4, 5, 6, 7, 8, 9, 10, 11, 12, 13, 14, 15, 16, 17, 18]) (rm := ({ frames := 0, cells := 0, slots := 0, locals := 0 } : Room)) (As := [.int (nI sd), .int (nI (k2 + 1))]) (n := 2) (q1 := 0) (rest := [.int ((vb bb sd) (i2 - 1 - (k2 + 1)))]) C hT hM rfl rfl k766 k768 s15 k15 k769 (by decide +kernel) rfl rfl rfl rfl (Nat.le_of_ble_eq_true rfl) hl.1 ⟨Nat.le_of_ble_eq_true rfl, Nat.le_of_ble_eq_true rfl⟩ ⟨Nat.le_of_ble_eq_true rfl, Nat.le_of_ble_eq_true rfl⟩ dX11_match_191) rfl rfl (fun u H locs hT => ?_)
                          refine W.eq (g2 := F0 m 194 ls [.int (backN (vb bb sd) n (k2 + 1)), .int ((vb bb sd) (i2 - 1 - (k2 + 1)))]) rfl ?_
                          refine r_iteN (ls := ls) (J := 202) (a1 := 0) (a2 := 1) (rest := []) (lv_icmp_ne (tgt := 201) hx hb dX11_match_194 (by decide)) (fun h_44 kont => ?_) (fun h_44 kont => ?_) ?_
                          · skip
                            refine lv_iconst (v := 0) hx hb dX11_match_201 (by decide) ?_
                            exact kont
                          · skip
                            refine lv_iconst (v := 1) hx hb dX11_match_197 (by decide) ?_
                            refine lv_goto (tgt := 202) hx hb dX11_match_198 (by decide) ?_
                            exact kont
                          refine W.eq (g2 := F0 m 202 ls [.int (b01 (sameB (vb bb sd) n (i2 - 1) (k2 + 1)))]) (congrArg (fun z => F0 m 202 ls (.int z :: [])) (sameB_i2 hsk)) ?_
                          refine lv_istore (lv' := [(7, .int (b01 (sameB (vb bb sd) n (i2 - 1) (k2 + 1)))), (0, .ref (mo 0)), (1, .int (nI sd)), (2, .int (nI i)), (3, .int bh), (4, .int (nI (8 * sd + i))), (5, .int (nI t)), (6, .int vx6), (8, .int vx8)]) hx hb dX11_match_202 hl (by decide) rfl (fun ls hl => ?_)
                          obtain ⟨x_45, ex_45⟩ : ∃ y : Int32, y = vx8 + 1 := ⟨_, rfl⟩
                          refine lv_iinc (v := x_45) (lv' := [(8, .int x_45), (7, .int (b01 (sameB (vb bb sd) n (i2 - 1) (k2 + 1)))), (0, .ref (mo 0)), (1, .int (nI sd)), (2, .int (nI i)), (3, .int bh), (4, .int (nI (8 * sd + i))), (5, .int (nI t)), (6, .int vx6)]) hx hb dX11_match_204 hl (k := 8) rfl (by rw [ex_45]; rfl) (by decide) rfl (fun ls hl => ?_)
                          refine lv_goto (tgt := 159) hx hb dX11_match_207 (by decide) ?_
                          exact ih_159 (k2 + 1) x_45 (b01 (sameB (vb bb sd) n (i2 - 1) (k2 + 1))) H locs ls (by first | assumption | omega | rfl) (by rw [ex_45, vex8]; exact nI_1 (k2 + 1)) rfl (by omega) hT (lv_sub hl [2, 3, 4, 5, 6, 7, 8, 1, 0] rfl)
                  exact loop_159 (t - 0 + 1) 0 1 1 H locs ls (by first | assumption | omega | rfl) rfl rfl (Nat.lt_succ_self _) hT (lv_sub hl [2, 3, 4, 5, 6, 7, 8, 1, 0] rfl)
        exact loop_122 (n + 1) n x_32 (folP (vb bb sd) n pl ln) (folL (vb bb sd) n pl ln) pt (upd le (8 * sd + i) 0) H locs ls (Nat.le_refl n) ex_32 hpt1 hle1 (folL_le hln) sea_0 (Nat.lt_succ_self _) hT (lv_sub hl [3, 4, 5, 6, 2, 1, 0] rfl)
      · skip
        have hfo := fol_yes (f := (vb bb sd)) (n := n) hln0 h_31 hpn1
        have hpt1 : upd pt (8 * sd + i) (nI (pl + 1)) = upd pt (8 * sd + i) (nI (folP (vb bb sd) n pl ln)) := by rw [hfo.1]
        have hle1 : upd le (8 * sd + i) (nI (if ln + 1 < 32 then ln + 1 else 32)) = upd le (8 * sd + i) (nI (folL (vb bb sd) n pl ln)) := by rw [hfo.2]
        refine lv_aload_n hx hb dX11_match_49 rfl (lv_at hl 1 rfl) ?_
        refine gX11_35 C hT (q0 := 0) rfl dX11_match_50 ?_
        refine lv_iload hx hb dX11_match_53 (lv_at hl 0 rfl) ?_
        refine lv_dup2_11 hx hb dX11_match_55 rfl rfl ?_
        refine r_iald C hT (q0 := 9) rfl (8 * sd + i) rfl (by omega) (by decide) dX11_match_56 ?_
        refine W.eq (g2 := F0 m 57 ls [.int (nI pl), .int (nI (8 * sd + i)), .ref (mo 9)]) (congrArg (fun z => F0 m 57 ls (.int z :: [.int (nI (8 * sd + i)), .ref (mo 9)])) (hpt)) ?_
        refine lv_iconst (v := 1) hx hb dX11_match_57 (by decide) ?_
        refine lv_iadd hx hb dX11_match_58 ?_
        refine W.eq (g2 := F0 m 59 ls [.int (nI (pl + 1)), .int (nI (8 * sd + i)), .ref (mo 9)]) (congrArg (fun z => F0 m 59 ls (.int z :: [.int (nI (8 * sd + i)), .ref (mo 9)])) (nI_1 pl)) ?_
        refine r_iast C hT (q0 := 9) rfl (8 * sd + i) rfl (by omega) (by decide) dX11_match_59 (fun H locs hT => ?_)
        have hT : Wd g A s (mdL g mo rr th np no bt en xx ra t0 t1 s1 ca cq ch st fk fn fo bb wt nx cx (upd pt (8 * sd + i) (nI (pl + 1))) le sc ss ww xc lo hi ou xi) H locs := hT
        refine lv_aload_n hx hb dX11_match_60 rfl (lv_at hl 1 rfl) ?_
        refine gX11_38 C hT (q0 := 0) rfl dX11_match_61 ?_
        refine lv_iload hx hb dX11_match_64 (lv_at hl 0 rfl) ?_
        refine lv_aload_n hx hb dX11_match_66 rfl (lv_at hl 1 rfl) ?_
        refine gX11_38 C hT (q0 := 0) rfl dX11_match_67 ?_
        refine lv_iload hx hb dX11_match_70 (lv_at hl 0 rfl) ?_
        refine r_iald C hT (q0 := 10) rfl (8 * sd + i) rfl (by omega) (by decide) dX11_match_72 ?_
        refine W.eq (g2 := F0 m 73 ls [.int (nI ln), .int (nI (8 * sd + i)), .ref (mo 10)]) (congrArg (fun z => F0 m 73 ls (.int z :: [.int (nI (8 * sd + i)), .ref (mo 10)])) (hle)) ?_
        refine lv_bipush (v := 32) hx hb dX11_match_73 (by decide) ?_
        refine r_ite (ls := ls) (J := 92) (a1 := 32) (a2 := nI (ln + 1)) (rest := [.int (nI (8 * sd + i)), .ref (mo 10)]) (lv_icmp_ge (tgt := 90) hx hb dX11_match_75 (by decide)) (fun h_46 kont => ?_) (fun h_46 kont => ?_) ?_
        · skip
          refine lv_bipush (v := 32) hx hb dX11_match_90 (by decide) ?_
          exact kont
        · skip
          refine lv_aload_n hx hb dX11_match_78 rfl (lv_at hl 1 rfl) ?_
          refine gX11_38 C hT (q0 := 0) rfl dX11_match_79 ?_
          refine lv_iload hx hb dX11_match_82 (lv_at hl 0 rfl) ?_
          refine r_iald C hT (q0 := 10) rfl (8 * sd + i) rfl (by omega) (by decide) dX11_match_84 ?_
          refine W.eq (g2 := F0 m 85 ls [.int (nI ln), .int (nI (8 * sd + i)), .ref (mo 10)]) (congrArg (fun z => F0 m 85 ls (.int z :: [.int (nI (8 * sd + i)), .ref (mo 10)])) (hle)) ?_
          refine lv_iconst (v := 1) hx hb dX11_match_85 (by decide) ?_
          refine lv_iadd hx hb dX11_match_86 ?_
          refine W.eq (g2 := F0 m 87 ls [.int (nI (ln + 1)), .int (nI (8 * sd + i)), .ref (mo 10)]) (congrArg (fun z => F0 m 87 ls (.int z :: [.int (nI (8 * sd + i)), .ref (mo 10)])) (nI_1 ln)) ?_
          refine lv_goto (tgt := 92) hx hb dX11_match_87 (by decide) ?_
          exact kont
        refine W.eq (g2 := F0 m 92 ls [.int (nI (if ln + 1 < 32 then ln + 1 else 32)), .int (nI (8 * sd + i)), .ref (mo 10)]) (congrArg (fun z => F0 m 92 ls (.int z :: [.int (nI (8 * sd + i)), .ref (mo 10)])) (lenUp hln)) ?_
        refine r_iast C hT (q0 := 10) rfl (8 * sd + i) rfl (by omega) (by decide) dX11_match_92 (fun H locs hT => ?_)
        have hT : Wd g A s (mdL g mo rr th np no bt en xx ra t0 t1 s1 ca cq ch st fk fn fo bb wt nx cx (upd pt (8 * sd + i) (nI (pl + 1))) (upd le (8 * sd + i) (nI (if ln + 1 < 32 then ln + 1 else 32))) sc ss ww xc lo hi ou xi) H locs := hT
        refine lv_goto (tgt := 104) hx hb dX11_match_93 (by decide) ?_
        refine lv_aload_n hx hb dX11_match_104 rfl (lv_at hl 1 rfl) ?_
        refine gX11_16 C hT (q0 := 0) rfl dX11_match_105 ?_
        refine lv_iload_n hx hb dX11_match_108 rfl (lv_at hl 3 rfl) ?_
        refine r_iald C hT (q0 := 3) rfl i rfl hi8 (by decide) dX11_match_109 ?_
        refine W.eq (g2 := F0 m 110 ls [.int (nI t)]) (congrArg (fun z => F0 m 110 ls (.int z :: [])) (hft)) ?_
        refine lv_istore (lv' := [(5, .int (nI t)), (4, .int (nI (8 * sd + i))), (0, .ref (mo 0)), (1, .int (nI sd)), (2, .int (nI i)), (3, .int bh)]) hx hb dX11_match_110 hl (by decide) rfl (fun ls hl => ?_)
        refine lv_aload_n hx hb dX11_match_112 rfl (lv_at hl 2 rfl) ?_
        refine gX11_26 C hT (q0 := 0) rfl dX11_match_113 ?_
        refine lv_iload_n hx hb dX11_match_116 rfl (lv_at hl 3 rfl) ?_
        refine r_iald C hT (q0 := 6) rfl sd rfl (by omega) (by decide) dX11_match_117 ?_
        refine W.eq (g2 := F0 m 118 ls [.int (nI n)]) (congrArg (fun z => F0 m 118 ls (.int z :: [])) (hw)) ?_
        refine lv_iconst (v := 1) hx hb dX11_match_118 (by decide) ?_
        refine lv_isub hx hb dX11_match_119 ?_
        refine lv_topi (fun x_47 ex_47 => ?_)
        refine lv_istore (lv' := [(6, .int x_47), (5, .int (nI t)), (4, .int (nI (8 * sd + i))), (0, .ref (mo 0)), (1, .int (nI sd)), (2, .int (nI i)), (3, .int bh)]) hx hb dX11_match_120 hl (by decide) rfl (fun ls hl => ?_)
        have loop_122 : ∀ (fu : Nat) (i2 : Nat) (vx6 : Int32) (pl2 : Nat) (ln2 : Nat) (pt2 : Nat → Int32) (le2 : Nat → Int32) (H : Heap) (locs : List Loc) (ls : Array Slot) (hi2 : i2 ≤ n) (vex6 : vx6 = nI i2 - 1) (hpt2 : pt2 = upd pt (8 * sd + i) (nI pl2)) (hle2 : le2 = upd le (8 * sd + i) (nI ln2)) (hl32 : ln2 ≤ 32) (hsea : sea (vb bb sd) n t (folP (vb bb sd) n pl ln) (folL (vb bb sd) n pl ln) i2 pl2 ln2), i2 < fu → Wd g A s (mdL g mo rr th np no bt en xx ra t0 t1 s1 ca cq ch st fk fn fo bb wt nx cx pt2 le2 sc ss ww xc lo hi ou xi) H locs → lv_has ls 9 [(0, .ref (mo 0)), (1, .int (nI sd)), (2, .int (nI i)), (3, .int bh), (4, .int (nI (8 * sd + i))), (5, .int (nI t)), (6, .int vx6)] → W p l e ({ frames := 1, cells := 0, slots := 0, locals := 22 } : Room) s m ([.ref (mo 0), .int (nI sd), .int (nI i), .int bh] : List Value).toArray below meth c H locs 0 0 Q (F0 m 122 ls []) := by
          intro fu
          induction fu with
          | zero => intro i2 vx6 pl2 ln2 pt2 le2 H locs ls hi2 vex6 hpt2 hle2 hl32 hsea hm; exact absurd hm (Nat.not_lt_zero _)
          | succ fu ih =>
            intro i2 vx6 pl2 ln2 pt2 le2 H locs ls hi2 vex6 hpt2 hle2 hl32 hsea hm hT hl
            refine lv_iload hx hb dX11_match_122 (lv_at hl 6 rfl) ?_
            refine lv_iload hx hb dX11_match_124 (lv_at hl 5 rfl) ?_
            refine lv_icmp_lt (tgt := 239) hx hb dX11_match_126 (by decide) (fun h_48 => ?_) (fun h_48 => ?_)
            · skip
              have hend : pl2 = mtP (vb bb sd) n t pl ln ∧ ln2 = mtL (vb bb sd) n t pl ln := sea_end hsea (Or.inl (fst_out (Or.inl ((dn_lt (by omega) (by omega) vex6).mp h_48))))
              exact e_vret C hQ () (by exact hT.eq (by rw [hpt2, hle2, hend.1, hend.2])) rfl dX11_match_239
            · skip
              have hit : ¬ i2 ≤ t := fun q => h_48 ((dn_lt (by omega) (by omega) vex6).mpr q)
              refine lv_iload hx hb dX11_match_129 (lv_at hl 6 rfl) ?_
              refine lv_aload_n hx hb dX11_match_131 rfl (lv_at hl 0 rfl) ?_
              refine gX11_26 C hT (q0 := 0) rfl dX11_match_132 ?_
              refine lv_iload_n hx hb dX11_match_135 rfl (lv_at hl 1 rfl) ?_
              refine r_iald C hT (q0 := 6) rfl sd rfl (by omega) (by decide) dX11_match_136 ?_
              refine W.eq (g2 := F0 m 137 ls [.int (nI n), .int vx6]) (congrArg (fun z => F0 m 137 ls (.int z :: [.int vx6])) (hw)) ?_
              refine lv_bipush (v := 64) hx hb dX11_match_137 (by decide) ?_
              refine lv_isub hx hb dX11_match_139 ?_
              refine lv_icmp_lt (tgt := 239) hx hb dX11_match_140 (by decide) (fun h_49 => ?_) (fun h_49 => ?_)
              · skip
                have hend : pl2 = mtP (vb bb sd) n t pl ln ∧ ln2 = mtL (vb bb sd) n t pl ln := sea_end hsea (Or.inl (fst_out (Or.inr ((lt_sub64 (by omega) (by omega) vex6).mp h_49))))
                exact e_vret C hQ () (by exact hT.eq (by rw [hpt2, hle2, hend.1, hend.2])) rfl dX11_match_239
              · skip
                have hi64 : ¬ i2 + 63 < n := fun q => h_49 ((lt_sub64 (by omega) (by omega) vex6).mpr q)
                have hfs := fst_lt hit hi64
                refine lv_aload_n hx hb dX11_match_143 rfl (lv_at hl 0 rfl) ?_
                refine gX11_38 C hT (q0 := 0) rfl dX11_match_144 ?_
                refine lv_iload hx hb dX11_match_147 (lv_at hl 4 rfl) ?_
                refine r_iald C hT (q0 := 10) rfl (8 * sd + i) rfl (by omega) (by decide) dX11_match_149 ?_
                refine W.eq (g2 := F0 m 150 ls [.int (nI ln2)]) (congrArg (fun z => F0 m 150 ls (.int z :: [])) ((by rw [hle2]; exact upd_at _ _ _))) ?_
                refine lv_if_ne (tgt := 239) hx hb dX11_match_150 (by decide) (fun h_50 => ?_) (fun h_50 => ?_)
                · skip
                  have hend : pl2 = mtP (vb bb sd) n t pl ln ∧ ln2 = mtL (vb bb sd) n t pl ln := sea_end hsea (Or.inr (nI_nz h_50))
                  exact e_vret C hQ () (by exact hT.eq (by rw [hpt2, hle2, hend.1, hend.2])) rfl dX11_match_239
                · skip
                  have hl0 := nI_z (by omega) h_50
                  refine lv_iconst (v := 1) hx hb dX11_match_153 (by decide) ?_
                  refine lv_istore (lv' := [(7, .int 1), (0, .ref (mo 0)), (1, .int (nI sd)), (2, .int (nI i)), (3, .int bh), (4, .int (nI (8 * sd + i))), (5, .int (nI t)), (6, .int vx6)]) hx hb dX11_match_154 hl (by decide) rfl (fun ls hl => ?_)
                  refine lv_iconst (v := 1) hx hb dX11_match_156 (by decide) ?_
                  refine lv_istore (lv' := [(8, .int 1), (7, .int 1), (0, .ref (mo 0)), (1, .int (nI sd)), (2, .int (nI i)), (3, .int bh), (4, .int (nI (8 * sd + i))), (5, .int (nI t)), (6, .int vx6)]) hx hb dX11_match_157 hl (by decide) rfl (fun ls hl => ?_)
                  have loop_159 : ∀ (fu : Nat) (k2 : Nat) (vx8 : Int32) (vx7 : Int32) (H : Heap) (locs : List Loc) (ls : Array Slot) (hk2 : k2 ≤ t) (vex8 : vx8 = nI (k2 + 1)) (vex7 : vx7 = b01 (sameB (vb bb sd) n (i2 - 1) k2)), t - k2 < fu → Wd g A s (mdL g mo rr th np no bt en xx ra t0 t1 s1 ca cq ch st fk fn fo bb wt nx cx pt2 le2 sc ss ww xc lo hi ou xi) H locs → lv_has ls 9 [(0, .ref (mo 0)), (1, .int (nI sd)), (2, .int (nI i)), (3, .int bh), (4, .int (nI (8 * sd + i))), (5, .int (nI t)), (6, .int vx6), (7, .int vx7), (8, .int vx8)] → W p l e ({ frames := 1, cells := 0, slots := 0, locals := 22 } : Room) s m ([.ref (mo 0), .int (nI sd), .int (nI i), .int bh] : List Value).toArray below meth c H locs 0 0 Q (F0 m 159 ls []) := by
                    intro fu_159
                    induction fu_159 with
                    | zero => intro k2 vx8 vx7 H locs ls hk2 vex8 vex7 hm; exact absurd hm (Nat.not_lt_zero _)
                    | succ fu_159 ih_159 =>
                      intro k2 vx8 vx7 H locs ls hk2 vex8 vex7 hm_159 hT hl
                      refine lv_iload hx hb dX11_match_159 (lv_at hl 8 rfl) ?_
                      refine lv_iload hx hb dX11_match_161 (lv_at hl 5 rfl) ?_
                      refine lv_icmp_gt (tgt := 210) hx hb dX11_match_163 (by decide) (fun h_51 => ?_) (fun h_51 => ?_)
                      · skip
                        have hkt : k2 = t := by have := lp_le_end vex8 (by omega) (by omega) h_51; omega
                        have hsb : vx7 = b01 (sameB (vb bb sd) n (i2 - 1) t) := by rw [vex7, hkt]
                        refine lv_iload hx hb dX11_match_210 (lv_at hl 7 rfl) ?_
                        refine lv_if_eq (tgt := 233) hx hb dX11_match_212 (by decide) (fun h_52 => ?_) (fun h_52 => ?_)
                        · skip
                          have hss := b01_f (hsb ▸ h_52)
                          obtain ⟨x_53, ex_53⟩ : ∃ y : Int32, y = vx6 + (-1) := ⟨_, rfl⟩
                          refine lv_iinc (v := x_53) (lv' := [(6, .int x_53), (0, .ref (mo 0)), (1, .int (nI sd)), (2, .int (nI i)), (3, .int bh), (4, .int (nI (8 * sd + i))), (5, .int (nI t)), (7, .int vx7), (8, .int vx8)]) hx hb dX11_match_233 hl (k := 6) rfl (by rw [ex_53]; rfl) (by decide) rfl (fun ls hl => ?_)
                          refine lv_goto (tgt := 122) hx hb dX11_match_236 (by decide) ?_
                          exact ih (i2 - 1) x_53 (if sameB (vb bb sd) n (i2 - 1) t = true then i2 - 1 else pl2) (if sameB (vb bb sd) n (i2 - 1) t = true then t else ln2) pt2 le2 H locs ls (by first | assumption | omega | rfl) (dn_step (by omega) vex6 ex_53) (by first | (rw [if_neg (by rw [hss]; decide)]; exact hpt2) | (rw [if_pos hss, hpt2]; exact upd_2 _ _ _ _)) (by first | (rw [if_neg (by rw [hss]; decide)]; exact hle2) | (rw [if_pos hss, hle2]; exact upd_2 _ _ _ _)) (by split <;> omega) (by first | (rw [if_neg (by rw [hss]; decide), if_neg (by rw [hss]; decide)]; exact sea_no hsea hl0 hfs hss) | (rw [if_pos hss, if_pos hss]; exact sea_hit hsea hl0 hfs hss (by omega))) (by omega) hT (lv_sub hl [1, 2, 3, 4, 5, 6, 0] rfl)
                        · skip
                          have hss := b01_t (hsb ▸ h_52)
                          refine lv_aload_n hx hb dX11_match_215 rfl (lv_at hl 0 rfl) ?_
                          refine gX11_35 C hT (q0 := 0) rfl dX11_match_216 ?_
                          refine lv_iload hx hb dX11_match_219 (lv_at hl 4 rfl) ?_
                          refine lv_iload hx hb dX11_match_221 (lv_at hl 6 rfl) ?_
                          refine W.eq (g2 := F0 m 223 ls [.int (nI (i2 - 1)), .int (nI (8 * sd + i)), .ref (mo 9)]) (congrArg (fun z => F0 m 223 ls (.int z :: [.int (nI (8 * sd + i)), .ref (mo 9)])) (dn_at (by omega) vex6)) ?_
                          refine r_iast C hT (q0 := 9) rfl (8 * sd + i) rfl (by omega) (by decide) dX11_match_223 (fun H locs hT => ?_)
                          have hT : Wd g A s (mdL g mo rr th np no bt en xx ra t0 t1 s1 ca cq ch st fk fn fo bb wt nx cx (upd pt2 (8 * sd + i) (nI (i2 - 1))) le2 sc ss ww xc lo hi ou xi) H locs := hT
                          refine lv_aload_n hx hb dX11_match_224 rfl (lv_at hl 0 rfl) ?_
                          refine gX11_38 C hT (q0 := 0) rfl dX11_match_225 ?_
                          refine lv_iload hx hb dX11_match_228 (lv_at hl 4 rfl) ?_
                          refine lv_iload hx hb dX11_match_230 (lv_at hl 5 rfl) ?_
                          refine r_iast C hT (q0 := 10) rfl (8 * sd + i) rfl (by omega) (by decide) dX11_match_232 (fun H locs hT => ?_)
                          have hT : Wd g A s (mdL g mo rr th np no bt en xx ra t0 t1 s1 ca cq ch st fk fn fo bb wt nx cx (upd pt2 (8 * sd + i) (nI (i2 - 1))) (upd le2 (8 * sd + i) (nI t)) sc ss ww xc lo hi ou xi) H locs := hT
                          obtain ⟨x_54, ex_54⟩ : ∃ y : Int32, y = vx6 + (-1) := ⟨_, rfl⟩
                          refine lv_iinc (v := x_54) (lv' := [(6, .int x_54), (0, .ref (mo 0)), (1, .int (nI sd)), (2, .int (nI i)), (3, .int bh), (4, .int (nI (8 * sd + i))), (5, .int (nI t)), (7, .int vx7), (8, .int vx8)]) hx hb dX11_match_233 hl (k := 6) rfl (by rw [ex_54]; rfl) (by decide) rfl (fun ls hl => ?_)
                          refine lv_goto (tgt := 122) hx hb dX11_match_236 (by decide) ?_
                          exact ih (i2 - 1) x_54 (if sameB (vb bb sd) n (i2 - 1) t = true then i2 - 1 else pl2) (if sameB (vb bb sd) n (i2 - 1) t = true then t else ln2) (upd pt2 (8 * sd + i) (nI (i2 - 1))) (upd le2 (8 * sd + i) (nI t)) H locs ls (by first | assumption | omega | rfl) (dn_step (by omega) vex6 ex_54) (by first | (rw [if_neg (by rw [hss]; decide)]; exact hpt2) | (rw [if_pos hss, hpt2]; exact upd_2 _ _ _ _)) (by first | (rw [if_neg (by rw [hss]; decide)]; exact hle2) | (rw [if_pos hss, hle2]; exact upd_2 _ _ _ _)) (by split <;> omega) (by first | (rw [if_neg (by rw [hss]; decide), if_neg (by rw [hss]; decide)]; exact sea_no hsea hl0 hfs hss) | (rw [if_pos hss, if_pos hss]; exact sea_hit hsea hl0 hfs hss (by omega))) (by omega) hT (lv_sub hl [1, 2, 3, 4, 5, 6, 0] rfl)
                      · skip
                        have hkt : k2 < t := by have := lp_le_go vex8 (by omega) (by omega) h_51; omega
                        refine lv_iload hx hb dX11_match_166 (lv_at hl 7 rfl) ?_
                        refine lv_if_eq (tgt := 210) hx hb dX11_match_168 (by decide) (fun h_55 => ?_) (fun h_55 => ?_)
                        · skip
                          have hsb : vx7 = b01 (sameB (vb bb sd) n (i2 - 1) t) := by rw [sameB_mono hk2 (b01_f (vex7 ▸ h_55))]; exact h_55
                          refine lv_iload hx hb dX11_match_210 (lv_at hl 7 rfl) ?_
                          refine lv_if_eq (tgt := 233) hx hb dX11_match_212 (by decide) (fun h_56 => ?_) (fun h_56 => ?_)
                          · skip
                            have hss := b01_f (hsb ▸ h_56)
                            obtain ⟨x_57, ex_57⟩ : ∃ y : Int32, y = vx6 + (-1) := ⟨_, rfl⟩
                            refine lv_iinc (v := x_57) (lv' := [(6, .int x_57), (0, .ref (mo 0)), (1, .int (nI sd)), (2, .int (nI i)), (3, .int bh), (4, .int (nI (8 * sd + i))), (5, .int (nI t)), (7, .int vx7), (8, .int vx8)]) hx hb dX11_match_233 hl (k := 6) rfl (by rw [ex_57]; rfl) (by decide) rfl (fun ls hl => ?_)
                            refine lv_goto (tgt := 122) hx hb dX11_match_236 (by decide) ?_
                            exact ih (i2 - 1) x_57 (if sameB (vb bb sd) n (i2 - 1) t = true then i2 - 1 else pl2) (if sameB (vb bb sd) n (i2 - 1) t = true then t else ln2) pt2 le2 H locs ls (by first | assumption | omega | rfl) (dn_step (by omega) vex6 ex_57) (by first | (rw [if_neg (by rw [hss]; decide)]; exact hpt2) | (rw [if_pos hss, hpt2]; exact upd_2 _ _ _ _)) (by first | (rw [if_neg (by rw [hss]; decide)]; exact hle2) | (rw [if_pos hss, hle2]; exact upd_2 _ _ _ _)) (by split <;> omega) (by first | (rw [if_neg (by rw [hss]; decide), if_neg (by rw [hss]; decide)]; exact sea_no hsea hl0 hfs hss) | (rw [if_pos hss, if_pos hss]; exact sea_hit hsea hl0 hfs hss (by omega))) (by omega) hT (lv_sub hl [1, 2, 3, 4, 5, 6, 0] rfl)
                          · skip
                            have hss := b01_t (hsb ▸ h_56)
                            refine lv_aload_n hx hb dX11_match_215 rfl (lv_at hl 0 rfl) ?_
                            refine gX11_35 C hT (q0 := 0) rfl dX11_match_216 ?_
                            refine lv_iload hx hb dX11_match_219 (lv_at hl 4 rfl) ?_
                            refine lv_iload hx hb dX11_match_221 (lv_at hl 6 rfl) ?_
                            refine W.eq (g2 := F0 m 223 ls [.int (nI (i2 - 1)), .int (nI (8 * sd + i)), .ref (mo 9)]) (congrArg (fun z => F0 m 223 ls (.int z :: [.int (nI (8 * sd + i)), .ref (mo 9)])) (dn_at (by omega) vex6)) ?_
                            refine r_iast C hT (q0 := 9) rfl (8 * sd + i) rfl (by omega) (by decide) dX11_match_223 (fun H locs hT => ?_)
                            have hT : Wd g A s (mdL g mo rr th np no bt en xx ra t0 t1 s1 ca cq ch st fk fn fo bb wt nx cx (upd pt2 (8 * sd + i) (nI (i2 - 1))) le2 sc ss ww xc lo hi ou xi) H locs := hT
                            refine lv_aload_n hx hb dX11_match_224 rfl (lv_at hl 0 rfl) ?_
                            refine gX11_38 C hT (q0 := 0) rfl dX11_match_225 ?_
                            refine lv_iload hx hb dX11_match_228 (lv_at hl 4 rfl) ?_
                            refine lv_iload hx hb dX11_match_230 (lv_at hl 5 rfl) ?_
                            refine r_iast C hT (q0 := 10) rfl (8 * sd + i) rfl (by omega) (by decide) dX11_match_232 (fun H locs hT => ?_)
                            have hT : Wd g A s (mdL g mo rr th np no bt en xx ra t0 t1 s1 ca cq ch st fk fn fo bb wt nx cx (upd pt2 (8 * sd + i) (nI (i2 - 1))) (upd le2 (8 * sd + i) (nI t)) sc ss ww xc lo hi ou xi) H locs := hT
                            obtain ⟨x_58, ex_58⟩ : ∃ y : Int32, y = vx6 + (-1) := ⟨_, rfl⟩
                            refine lv_iinc (v := x_58) (lv' := [(6, .int x_58), (0, .ref (mo 0)), (1, .int (nI sd)), (2, .int (nI i)), (3, .int bh), (4, .int (nI (8 * sd + i))), (5, .int (nI t)), (7, .int vx7), (8, .int vx8)]) hx hb dX11_match_233 hl (k := 6) rfl (by rw [ex_58]; rfl) (by decide) rfl (fun ls hl => ?_)
                            refine lv_goto (tgt := 122) hx hb dX11_match_236 (by decide) ?_
                            exact ih (i2 - 1) x_58 (if sameB (vb bb sd) n (i2 - 1) t = true then i2 - 1 else pl2) (if sameB (vb bb sd) n (i2 - 1) t = true then t else ln2) (upd pt2 (8 * sd + i) (nI (i2 - 1))) (upd le2 (8 * sd + i) (nI t)) H locs ls (by first | assumption | omega | rfl) (dn_step (by omega) vex6 ex_58) (by first | (rw [if_neg (by rw [hss]; decide)]; exact hpt2) | (rw [if_pos hss, hpt2]; exact upd_2 _ _ _ _)) (by first | (rw [if_neg (by rw [hss]; decide)]; exact hle2) | (rw [if_pos hss, hle2]; exact upd_2 _ _ _ _)) (by split <;> omega) (by first | (rw [if_neg (by rw [hss]; decide), if_neg (by rw [hss]; decide)]; exact sea_no hsea hl0 hfs hss) | (rw [if_pos hss, if_pos hss]; exact sea_hit hsea hl0 hfs hss (by omega))) (by omega) hT (lv_sub hl [1, 2, 3, 4, 5, 6, 0] rfl)
                        · skip
                          have hsk := b01_t (vex7 ▸ h_55)
                          refine lv_aload_n hx hb dX11_match_171 rfl (lv_at hl 0 rfl) ?_
                          refine gX11_23 C hT (q0 := 0) rfl dX11_match_172 ?_
                          refine lv_sipush (v := 2050) hx hb dX11_match_175 (by decide) ?_
                          refine lv_iload_n hx hb dX11_match_178 rfl (lv_at hl 1 rfl) ?_
                          refine lv_imul hx hb dX11_match_179 ?_
                          refine W.eq (g2 := F0 m 180 ls [.int (nI (2050 * sd)), .ref (mo 5)]) (congrArg (fun z => F0 m 180 ls (.int z :: [.ref (mo 5)])) (pk_mul 2050 sd)) ?_
                          refine lv_iload hx hb dX11_match_180 (lv_at hl 6 rfl) ?_
                          refine W.eq (g2 := F0 m 182 ls [.int (nI (i2 - 1)), .int (nI (2050 * sd)), .ref (mo 5)]) (congrArg (fun z => F0 m 182 ls (.int z :: [.int (nI (2050 * sd)), .ref (mo 5)])) (dn_at (by omega) vex6)) ?_
                          refine lv_iadd hx hb dX11_match_182 ?_
                          refine W.eq (g2 := F0 m 183 ls [.int (nI (2050 * sd + (i2 - 1))), .ref (mo 5)]) (congrArg (fun z => F0 m 183 ls (.int z :: [.ref (mo 5)])) (nI_add _ _)) ?_
                          refine lv_iload hx hb dX11_match_183 (lv_at hl 8 rfl) ?_
                          refine W.eq (g2 := F0 m 185 ls [.int (nI (k2 + 1)), .int (nI (2050 * sd + (i2 - 1))), .ref (mo 5)]) (congrArg (fun z => F0 m 185 ls (.int z :: [.int (nI (2050 * sd + (i2 - 1))), .ref (mo 5)])) (vex8)) ?_
                          refine lv_isub hx hb dX11_match_185 ?_
                          refine W.eq (g2 := F0 m 186 ls [.int (nI (2050 * sd + (i2 - 1) - (k2 + 1))), .ref (mo 5)]) (congrArg (fun z => F0 m 186 ls (.int z :: [.ref (mo 5)])) (pk_sub (by omega))) ?_
                          refine r_iald C hT (q0 := 5) rfl (2050 * sd + (i2 - 1) - (k2 + 1)) rfl (by omega) (by decide) dX11_match_186 ?_
                          refine W.eq (g2 := F0 m 187 ls [.int ((vb bb sd) (i2 - 1 - (k2 + 1)))]) (congrArg (fun z => F0 m 187 ls (.int z :: [])) ((congrArg bb (Nat.add_sub_assoc (by omega) _)))) ?_
                          refine lv_aload_n hx hb dX11_match_187 rfl (lv_at hl 0 rfl) ?_
                          refine lv_iload_n hx hb dX11_match_188 rfl (lv_at hl 1 rfl) ?_
                          refine lv_iload hx hb dX11_match_189 (lv_at hl 8 rfl) ?_
                          refine W.eq (g2 := F0 m 191 ls [.int (nI (k2 + 1)), .int (nI sd), .ref (mo 0), .int ((vb bb sd) (i2 - 1 - (k2 + 1)))]) (congrArg (fun z => F0 m 191 ls (.int z :: [.int (nI sd), .ref (mo 0), .int ((vb bb sd) (i2 - 1 - (k2 + 1)))])) (vex8)) ?_
                          have hM := c_X11_latest l g mo rr th np no bt en xx ra t0 t1 s1 ca cq ch st fk fn fo bb wt nx cx pt2 le2 sc ss ww xc lo hi ou xi sd (k2 + 1) n (by first | assumption | omega) (by first | assumption | omega) (by first | assumption | omega) (by omega) (by omega)
                          refine r_callRO (js := [0, 1, 2, 3, 4, 5, 6, 7, 8, 9, 10, 11, 12, 13, 14, 15, 16, 17, 18]) C hT (runV (js := [0, 1, 2, 3, 4, 5, 6, 7, 8, 9, 10, 11, 12, 13, 14, 15, 16, 17, 18]) (rm := ({ frames := 0, cells := 0, slots := 0, locals := 0 } : Room)) (As := [.int (nI sd), .int (nI (k2 + 1))]) (n := 2) (q1 := 0) (rest := [.int ((vb bb sd) (i2 - 1 - (k2 + 1)))]) C hT hM rfl rfl k766 k768 s15 k15 k769 (by decide +kernel) rfl rfl rfl rfl (Nat.le_of_ble_eq_true rfl) hl.1 ⟨Nat.le_of_ble_eq_true rfl, Nat.le_of_ble_eq_true rfl⟩ ⟨Nat.le_of_ble_eq_true rfl, Nat.le_of_ble_eq_true rfl⟩ dX11_match_191) rfl rfl (fun u H locs hT => ?_)
                          refine W.eq (g2 := F0 m 194 ls [.int (backN (vb bb sd) n (k2 + 1)), .int ((vb bb sd) (i2 - 1 - (k2 + 1)))]) rfl ?_
                          refine r_iteN (ls := ls) (J := 202) (a1 := 0) (a2 := 1) (rest := []) (lv_icmp_ne (tgt := 201) hx hb dX11_match_194 (by decide)) (fun h_59 kont => ?_) (fun h_59 kont => ?_) ?_
                          · skip
                            refine lv_iconst (v := 0) hx hb dX11_match_201 (by decide) ?_
                            exact kont
                          · skip
                            refine lv_iconst (v := 1) hx hb dX11_match_197 (by decide) ?_
                            refine lv_goto (tgt := 202) hx hb dX11_match_198 (by decide) ?_
                            exact kont
                          refine W.eq (g2 := F0 m 202 ls [.int (b01 (sameB (vb bb sd) n (i2 - 1) (k2 + 1)))]) (congrArg (fun z => F0 m 202 ls (.int z :: [])) (sameB_i2 hsk)) ?_
                          refine lv_istore (lv' := [(7, .int (b01 (sameB (vb bb sd) n (i2 - 1) (k2 + 1)))), (0, .ref (mo 0)), (1, .int (nI sd)), (2, .int (nI i)), (3, .int bh), (4, .int (nI (8 * sd + i))), (5, .int (nI t)), (6, .int vx6), (8, .int vx8)]) hx hb dX11_match_202 hl (by decide) rfl (fun ls hl => ?_)
                          obtain ⟨x_60, ex_60⟩ : ∃ y : Int32, y = vx8 + 1 := ⟨_, rfl⟩
                          refine lv_iinc (v := x_60) (lv' := [(8, .int x_60), (7, .int (b01 (sameB (vb bb sd) n (i2 - 1) (k2 + 1)))), (0, .ref (mo 0)), (1, .int (nI sd)), (2, .int (nI i)), (3, .int bh), (4, .int (nI (8 * sd + i))), (5, .int (nI t)), (6, .int vx6)]) hx hb dX11_match_204 hl (k := 8) rfl (by rw [ex_60]; rfl) (by decide) rfl (fun ls hl => ?_)
                          refine lv_goto (tgt := 159) hx hb dX11_match_207 (by decide) ?_
                          exact ih_159 (k2 + 1) x_60 (b01 (sameB (vb bb sd) n (i2 - 1) (k2 + 1))) H locs ls (by first | assumption | omega | rfl) (by rw [ex_60, vex8]; exact nI_1 (k2 + 1)) rfl (by omega) hT (lv_sub hl [2, 3, 4, 5, 6, 7, 8, 1, 0] rfl)
                  exact loop_159 (t - 0 + 1) 0 1 1 H locs ls (by first | assumption | omega | rfl) rfl rfl (Nat.lt_succ_self _) hT (lv_sub hl [2, 3, 4, 5, 6, 7, 8, 1, 0] rfl)
        exact loop_122 (n + 1) n x_47 (folP (vb bb sd) n pl ln) (folL (vb bb sd) n pl ln) (upd pt (8 * sd + i) (nI (pl + 1))) (upd le (8 * sd + i) (nI (if ln + 1 < 32 then ln + 1 else 32))) H locs ls (Nat.le_refl n) ex_47 hpt1 hle1 (folL_le hln) sea_0 (Nat.lt_succ_self _) hT (lv_sub hl [3, 4, 5, 6, 2, 1, 0] rfl)
