set_option maxHeartbeats 400000 in
set_option maxRecDepth 100000 in
theorem c_X11_contextOf (l : Launch) (g : GT) (mo : Nat → Nat) (rr : Nat) (th : Int32) (np : Nat) (no : Nat) (bt : Nat) (en : Bool) (xx : Int64) (ra : Nat) (t0 : Int32) (t1 : Int32) (s1 : Int32) (ca : Int32) (cq : Int32) (ch : Int32) (st : Nat → Int32) (fk : Nat → Int32) (fn : Nat → Int32) (fo : Nat → Int32) (bb : Nat → Int32) (wt : Nat → Int32) (nx : Nat → Int32) (cx : Nat → Int32) (pt : Nat → Int32) (le : Nat → Int32) (sc : Nat → Int32) (ss : Nat → Int32) (ww : Nat → Int32) (xc : Nat → Int32) (lo : Nat → Int64) (hi : Nat → Int64) (ou : Nat → Int32) (xi : Nat → Int32) (sd : Nat) (n : Nat) (i : Nat) (hsd : sd < 2) (hw : wt sd = nI n) (hn : n ≤ 2000) (hi8 : i < 8) (hal : allowB (fk i) (fn i) = true) (h4 : ¬ fk i = 4) : OM (S := Unit) l g yX11_contextOf cX11_contextOf 7 (some .int) ({ frames := 1, cells := 0, slots := 0, locals := 22 } : Room) [.ref (mo 0), .int (nI sd), .int (nI i)] (mdL g mo rr th np no bt en xx ra t0 t1 s1 ca cq ch st fk fn fo bb wt nx cx pt le sc ss ww xc lo hi ou xi) (fun _ => some (.int (ctxI (vb bb sd) n (fk i) (fn i)))) (fun _ => (mdL g mo rr th np no bt en xx ra t0 t1 s1 ca cq ch st fk fn fo bb wt nx cx pt le sc ss ww xc lo hi ou xi)) := by
  refine OM.startQ (by decide) (Nat.le_of_ble_eq_true rfl) ?_
  intro p e s m below meth c A ls Q H locs hQ C hnm hl hT
  have hx := C.x
  have hb := C.b
  have hl : lv_has ls 7 [(0, .ref (mo 0)), (1, .int (nI sd)), (2, .int (nI i))] := hl
  refine lv_aload_n hx hb dX11_contextOf_0 rfl (lv_at hl 0 rfl) ?_
  refine gX11_16 C hT (q0 := 0) rfl dX11_contextOf_1 ?_
  refine lv_iload_n hx hb dX11_contextOf_4 rfl (lv_at hl 2 rfl) ?_
  refine r_iald C hT (q0 := 3) rfl i rfl (by omega) (by decide) dX11_contextOf_5 ?_
  refine W.eq (g2 := F0 m 6 ls [.int (fn i)]) (congrArg (fun z => F0 m 6 ls (.int z :: [])) (rfl)) ?_
  refine lv_istore_n (lv' := [(3, .int (fn i)), (0, .ref (mo 0)), (1, .int (nI sd)), (2, .int (nI i))]) hx hb dX11_contextOf_6 rfl hl (by decide) rfl (fun ls hl => ?_)
  refine lv_aload_n hx hb dX11_contextOf_7 rfl (lv_at hl 1 rfl) ?_
  refine gX11_13 C hT (q0 := 0) rfl dX11_contextOf_8 ?_
  refine lv_iload_n hx hb dX11_contextOf_11 rfl (lv_at hl 3 rfl) ?_
  refine r_iald C hT (q0 := 2) rfl i rfl (by omega) (by decide) dX11_contextOf_12 ?_
  refine W.eq (g2 := F0 m 13 ls [.int (fk i)]) (congrArg (fun z => F0 m 13 ls (.int z :: [])) (rfl)) ?_
  refine lv_if_ne (tgt := 57) hx hb dX11_contextOf_13 (by decide) (fun h_1 => ?_) (fun h_1 => ?_)
  · skip
    refine lv_aload_n hx hb dX11_contextOf_57 rfl (lv_at hl 1 rfl) ?_
    refine gX11_13 C hT (q0 := 0) rfl dX11_contextOf_58 ?_
    refine lv_iload_n hx hb dX11_contextOf_61 rfl (lv_at hl 3 rfl) ?_
    refine r_iald C hT (q0 := 2) rfl i rfl (by omega) (by decide) dX11_contextOf_62 ?_
    refine W.eq (g2 := F0 m 63 ls [.int (fk i)]) (congrArg (fun z => F0 m 63 ls (.int z :: [])) (rfl)) ?_
    refine lv_iconst (v := 1) hx hb dX11_contextOf_63 (by decide) ?_
    refine lv_icmp_ne (tgt := 149) hx hb dX11_contextOf_64 (by decide) (fun h_2 => ?_) (fun h_2 => ?_)
    · skip
      refine lv_aload_n hx hb dX11_contextOf_149 rfl (lv_at hl 1 rfl) ?_
      refine gX11_13 C hT (q0 := 0) rfl dX11_contextOf_150 ?_
      refine lv_iload_n hx hb dX11_contextOf_153 rfl (lv_at hl 3 rfl) ?_
      refine r_iald C hT (q0 := 2) rfl i rfl (by omega) (by decide) dX11_contextOf_154 ?_
      refine W.eq (g2 := F0 m 155 ls [.int (fk i)]) (congrArg (fun z => F0 m 155 ls (.int z :: [])) (rfl)) ?_
      refine lv_iconst (v := 2) hx hb dX11_contextOf_155 (by decide) ?_
      refine lv_icmp_ne (tgt := 192) hx hb dX11_contextOf_156 (by decide) (fun h_3 => ?_) (fun h_3 => ?_)
      · skip
        have hk3 := allow3 hal h_1 h_2 h_3 h4
        refine lv_sipush (v := 128) hx hb dX11_contextOf_192 (by decide) ?_
        refine lv_iload_n hx hb dX11_contextOf_195 rfl (lv_at hl 0 rfl) ?_
        refine lv_iadd hx hb dX11_contextOf_196 ?_
        refine lv_iconst (v := 0) hx hb dX11_contextOf_197 (by decide) ?_
        have hM := c_X11_hash l g (128 + (fn i)) 0
        refine r_callRO (js := []) C hT (runS (js := []) (rm := ({ frames := 0, cells := 0, slots := 0, locals := 0 } : Room)) (As := [.int (128 + (fn i)), .int 0]) (n := 2) (rest := []) C hT hM rfl rfl k760 k761 k15 k762 (by decide +kernel) rfl rfl (Nat.le_of_ble_eq_true rfl) hl.1 ⟨Nat.le_of_ble_eq_true rfl, Nat.le_of_ble_eq_true rfl⟩ ⟨Nat.le_of_ble_eq_true rfl, Nat.le_of_ble_eq_true rfl⟩ dX11_contextOf_198) rfl rfl (fun u H locs hT => ?_)
        refine W.eq (g2 := F0 m 201 ls [.int (hashI (128 + (fn i)) 0)]) rfl ?_
        refine lv_istore (lv' := [(4, .int (hashI (128 + (fn i)) 0)), (3, .int (fn i)), (0, .ref (mo 0)), (1, .int (nI sd)), (2, .int (nI i))]) hx hb dX11_contextOf_201 hl (by decide) rfl (fun ls hl => ?_)
        refine lv_iconst (v := 0) hx hb dX11_contextOf_203 (by decide) ?_
        refine lv_istore (lv' := [(5, .int 0), (4, .int (hashI (128 + (fn i)) 0)), (3, .int (fn i)), (0, .ref (mo 0)), (1, .int (nI sd)), (2, .int (nI i))]) hx hb dX11_contextOf_204 hl (by decide) rfl (fun ls hl => ?_)
        have loop_206 : ∀ (fu : Nat) (j : Nat) (vx4 : Int32) (vx5 : Int32) (H : Heap) (locs : List Loc) (ls : Array Slot) (hj : j ≤ 4) (vex5 : vx5 = nI j) (vex4 : vx4 = apH (vb bb sd) n (fn i) j), 4 - j < fu → Wd g A s (mdL g mo rr th np no bt en xx ra t0 t1 s1 ca cq ch st fk fn fo bb wt nx cx pt le sc ss ww xc lo hi ou xi) H locs → lv_has ls 7 [(0, .ref (mo 0)), (1, .int (nI sd)), (2, .int (nI i)), (3, .int (fn i)), (4, .int vx4), (5, .int vx5)] → W p l e ({ frames := 1, cells := 0, slots := 0, locals := 22 } : Room) s m ([.ref (mo 0), .int (nI sd), .int (nI i)] : List Value).toArray below meth c H locs 0 0 Q (F0 m 206 ls []) := by
          intro fu
          induction fu with
          | zero => intro j vx4 vx5 H locs ls hj vex5 vex4 hm; exact absurd hm (Nat.not_lt_zero _)
          | succ fu ih =>
            intro j vx4 vx5 H locs ls hj vex5 vex4 hm hT hl
            refine lv_iload hx hb dX11_contextOf_206 (lv_at hl 5 rfl) ?_
            refine lv_iconst (v := 4) hx hb dX11_contextOf_208 (by decide) ?_
            refine lv_icmp_ge (tgt := 249) hx hb dX11_contextOf_209 (by decide) (fun h_4 => ?_) (fun h_4 => ?_)
            · skip
              have hin := lp_end (n := 4) vex5 (by decide) hj h_4
              have hres : vx4 = ctxI (vb bb sd) n (fk i) (fn i) := by rw [ctxI, if_neg h_1, if_neg h_2, if_neg h_3, if_pos hk3, vex4, hin]
              refine lv_iload hx hb dX11_contextOf_249 (lv_at hl 4 rfl) ?_
              exact e_iret C hQ () hT (by first | rfl | (rw [hres])) dX11_contextOf_251
            · skip
              have hin := lp_go (n := 4) vex5 (by decide) hj h_4
              refine lv_iload_n hx hb dX11_contextOf_212 rfl (lv_at hl 3 rfl) ?_
              refine lv_iload hx hb dX11_contextOf_213 (lv_at hl 5 rfl) ?_
              refine W.eq (g2 := F0 m 215 ls [.int (nI j), .int (fn i)]) (congrArg (fun z => F0 m 215 ls (.int z :: [.int (fn i)])) (vex5)) ?_
              refine lv_ishr hx hb dX11_contextOf_215 ?_
              refine lv_iconst (v := 1) hx hb dX11_contextOf_216 (by decide) ?_
              refine lv_iand hx hb dX11_contextOf_217 ?_
              refine lv_iconst (v := 1) hx hb dX11_contextOf_218 (by decide) ?_
              refine lv_icmp_ne (tgt := 239) hx hb dX11_contextOf_219 (by decide) (fun h_5 => ?_) (fun h_5 => ?_)
              · skip
                have hbit := h_5
                refine lv_iload hx hb dX11_contextOf_239 (lv_at hl 4 rfl) ?_
                refine lv_istore (lv' := [(4, .int vx4), (0, .ref (mo 0)), (1, .int (nI sd)), (2, .int (nI i)), (3, .int (fn i)), (5, .int vx5)]) hx hb dX11_contextOf_241 hl (by decide) rfl (fun ls hl => ?_)
                obtain ⟨x_6, ex_6⟩ : ∃ y : Int32, y = vx5 + 1 := ⟨_, rfl⟩
                refine lv_iinc (v := x_6) (lv' := [(5, .int x_6), (4, .int vx4), (0, .ref (mo 0)), (1, .int (nI sd)), (2, .int (nI i)), (3, .int (fn i))]) hx hb dX11_contextOf_243 hl (k := 5) rfl (by rw [ex_6]; rfl) (by decide) rfl (fun ls hl => ?_)
                refine lv_goto (tgt := 206) hx hb dX11_contextOf_246 (by decide) ?_
                exact ih (j + 1) vx4 x_6 H locs ls (by first | assumption | omega | rfl) (by rw [ex_6, vex5]; exact nI_1 j) (by rw [vex4]; first | exact apH_t hbit | exact apH_f hbit) (by omega) hT (lv_sub hl [2, 3, 4, 5, 1, 0] rfl)
              · skip
                have hbit := h_5
                refine lv_iload hx hb dX11_contextOf_222 (lv_at hl 4 rfl) ?_
                refine lv_aload_n hx hb dX11_contextOf_224 rfl (lv_at hl 0 rfl) ?_
                refine lv_iload_n hx hb dX11_contextOf_225 rfl (lv_at hl 1 rfl) ?_
                refine lv_iload hx hb dX11_contextOf_226 (lv_at hl 5 rfl) ?_
                refine W.eq (g2 := F0 m 228 ls [.int (nI j), .int (nI sd), .ref (mo 0), .int vx4]) (congrArg (fun z => F0 m 228 ls (.int z :: [.int (nI sd), .ref (mo 0), .int vx4])) (vex5)) ?_
                refine lv_iconst (v := 1) hx hb dX11_contextOf_228 (by decide) ?_
                refine lv_iadd hx hb dX11_contextOf_229 ?_
                refine W.eq (g2 := F0 m 230 ls [.int (nI (j + 1)), .int (nI sd), .ref (mo 0), .int vx4]) (congrArg (fun z => F0 m 230 ls (.int z :: [.int (nI sd), .ref (mo 0), .int vx4])) (nI_1 j)) ?_
                have hM := c_X11_latest l g mo rr th np no bt en xx ra t0 t1 s1 ca cq ch st fk fn fo bb wt nx cx pt le sc ss ww xc lo hi ou xi sd (j + 1) n (by first | assumption | omega) (by first | assumption | omega) (by first | assumption | omega) (by omega) (by omega)
                refine r_callRO (js := [0, 1, 2, 3, 4, 5, 6, 7, 8, 9, 10, 11, 12, 13, 14, 15, 16, 17, 18]) C hT (runV (js := [0, 1, 2, 3, 4, 5, 6, 7, 8, 9, 10, 11, 12, 13, 14, 15, 16, 17, 18]) (rm := ({ frames := 0, cells := 0, slots := 0, locals := 0 } : Room)) (As := [.int (nI sd), .int (nI (j + 1))]) (n := 2) (q1 := 0) (rest := [.int vx4]) C hT hM rfl rfl k766 k768 s15 k15 k769 (by decide +kernel) rfl rfl rfl rfl (Nat.le_of_ble_eq_true rfl) hl.1 ⟨Nat.le_of_ble_eq_true rfl, Nat.le_of_ble_eq_true rfl⟩ ⟨Nat.le_of_ble_eq_true rfl, Nat.le_of_ble_eq_true rfl⟩ dX11_contextOf_230) rfl rfl (fun u H locs hT => ?_)
                refine W.eq (g2 := F0 m 233 ls [.int (backN (vb bb sd) n (j + 1)), .int vx4]) rfl ?_
                have hM := c_X11_hash l g vx4 (backN (vb bb sd) n (j + 1))
                refine r_callRO (js := []) C hT (runS (js := []) (rm := ({ frames := 0, cells := 0, slots := 0, locals := 0 } : Room)) (As := [.int vx4, .int (backN (vb bb sd) n (j + 1))]) (n := 2) (rest := []) C hT hM rfl rfl k760 k761 k15 k762 (by decide +kernel) rfl rfl (Nat.le_of_ble_eq_true rfl) hl.1 ⟨Nat.le_of_ble_eq_true rfl, Nat.le_of_ble_eq_true rfl⟩ ⟨Nat.le_of_ble_eq_true rfl, Nat.le_of_ble_eq_true rfl⟩ dX11_contextOf_233) rfl rfl (fun u H locs hT => ?_)
                refine W.eq (g2 := F0 m 236 ls [.int (hashI vx4 (backN (vb bb sd) n (j + 1)))]) rfl ?_
                refine lv_goto (tgt := 241) hx hb dX11_contextOf_236 (by decide) ?_
                refine lv_istore (lv' := [(4, .int (hashI vx4 (backN (vb bb sd) n (j + 1)))), (0, .ref (mo 0)), (1, .int (nI sd)), (2, .int (nI i)), (3, .int (fn i)), (5, .int vx5)]) hx hb dX11_contextOf_241 hl (by decide) rfl (fun ls hl => ?_)
                obtain ⟨x_7, ex_7⟩ : ∃ y : Int32, y = vx5 + 1 := ⟨_, rfl⟩
                refine lv_iinc (v := x_7) (lv' := [(5, .int x_7), (4, .int (hashI vx4 (backN (vb bb sd) n (j + 1)))), (0, .ref (mo 0)), (1, .int (nI sd)), (2, .int (nI i)), (3, .int (fn i))]) hx hb dX11_contextOf_243 hl (k := 5) rfl (by rw [ex_7]; rfl) (by decide) rfl (fun ls hl => ?_)
                refine lv_goto (tgt := 206) hx hb dX11_contextOf_246 (by decide) ?_
                exact ih (j + 1) (hashI vx4 (backN (vb bb sd) n (j + 1))) x_7 H locs ls (by first | assumption | omega | rfl) (by rw [ex_7, vex5]; exact nI_1 j) (by rw [vex4]; first | exact apH_t hbit | exact apH_f hbit) (by omega) hT (lv_sub hl [2, 3, 4, 5, 1, 0] rfl)
        exact loop_206 (4 - 0 + 1) 0 (hashI (128 + (fn i)) 0) 0 H locs ls (by first | assumption | omega | rfl) rfl (apH_0 _ n (fn i)) (Nat.lt_succ_self _) hT (lv_sub hl [3, 4, 5, 2, 1, 0] rfl)
      · skip
        obtain ⟨t, ht0, ht, vet⟩ := allow2 (h_3 ▸ hal)
        refine lv_bipush (v := 64) hx hb dX11_contextOf_159 (by decide) ?_
        refine lv_iload_n hx hb dX11_contextOf_161 rfl (lv_at hl 0 rfl) ?_
        refine W.eq (g2 := F0 m 162 ls [.int (nI t), .int 64]) (congrArg (fun z => F0 m 162 ls (.int z :: [.int 64])) (vet)) ?_
        refine lv_iadd hx hb dX11_contextOf_162 ?_
        refine W.eq (g2 := F0 m 163 ls [.int (nI (64 + t))]) (congrArg (fun z => F0 m 163 ls (.int z :: [])) (nI_add 64 t)) ?_
        refine lv_iconst (v := 0) hx hb dX11_contextOf_163 (by decide) ?_
        have hM := c_X11_hash l g (nI (64 + t)) 0
        refine r_callRO (js := []) C hT (runS (js := []) (rm := ({ frames := 0, cells := 0, slots := 0, locals := 0 } : Room)) (As := [.int (nI (64 + t)), .int 0]) (n := 2) (rest := []) C hT hM rfl rfl k760 k761 k15 k762 (by decide +kernel) rfl rfl (Nat.le_of_ble_eq_true rfl) hl.1 ⟨Nat.le_of_ble_eq_true rfl, Nat.le_of_ble_eq_true rfl⟩ ⟨Nat.le_of_ble_eq_true rfl, Nat.le_of_ble_eq_true rfl⟩ dX11_contextOf_164) rfl rfl (fun u H locs hT => ?_)
        refine W.eq (g2 := F0 m 167 ls [.int (hashI (nI (64 + t)) 0)]) rfl ?_
        refine lv_aload_n hx hb dX11_contextOf_167 rfl (lv_at hl 1 rfl) ?_
        refine gX11_26 C hT (q0 := 0) rfl dX11_contextOf_168 ?_
        refine lv_iload_n hx hb dX11_contextOf_171 rfl (lv_at hl 2 rfl) ?_
        refine r_iald C hT (q0 := 6) rfl sd rfl (by omega) (by decide) dX11_contextOf_172 ?_
        refine W.eq (g2 := F0 m 173 ls [.int (nI n), .int (hashI (nI (64 + t)) 0)]) (congrArg (fun z => F0 m 173 ls (.int z :: [.int (hashI (nI (64 + t)) 0)])) (hw)) ?_
        refine lv_iload_n hx hb dX11_contextOf_173 rfl (lv_at hl 0 rfl) ?_
        refine W.eq (g2 := F0 m 174 ls [.int (nI t), .int (nI n), .int (hashI (nI (64 + t)) 0)]) (congrArg (fun z => F0 m 174 ls (.int z :: [.int (nI n), .int (hashI (nI (64 + t)) 0)])) (vet)) ?_
        refine lv_irem hx hb dX11_contextOf_174 (nI_ne0 (by omega) (by omega)) ?_
        refine W.eq (g2 := F0 m 175 ls [.int (nI (n % t)), .int (hashI (nI (64 + t)) 0)]) (congrArg (fun z => F0 m 175 ls (.int z :: [.int (hashI (nI (64 + t)) 0)])) (irem_n (by omega) (by omega) (by omega))) ?_
        have hM := c_X11_hash l g (hashI (nI (64 + t)) 0) (nI (n % t))
        refine r_callRO (js := []) C hT (runS (js := []) (rm := ({ frames := 0, cells := 0, slots := 0, locals := 0 } : Room)) (As := [.int (hashI (nI (64 + t)) 0), .int (nI (n % t))]) (n := 2) (rest := []) C hT hM rfl rfl k760 k761 k15 k762 (by decide +kernel) rfl rfl (Nat.le_of_ble_eq_true rfl) hl.1 ⟨Nat.le_of_ble_eq_true rfl, Nat.le_of_ble_eq_true rfl⟩ ⟨Nat.le_of_ble_eq_true rfl, Nat.le_of_ble_eq_true rfl⟩ dX11_contextOf_175) rfl rfl (fun u H locs hT => ?_)
        refine W.eq (g2 := F0 m 178 ls [.int (hashI (hashI (nI (64 + t)) 0) (nI (n % t)))]) rfl ?_
        refine lv_aload_n hx hb dX11_contextOf_178 rfl (lv_at hl 1 rfl) ?_
        refine lv_iload_n hx hb dX11_contextOf_179 rfl (lv_at hl 2 rfl) ?_
        refine lv_iload_n hx hb dX11_contextOf_180 rfl (lv_at hl 0 rfl) ?_
        refine W.eq (g2 := F0 m 181 ls [.int (nI t), .int (nI sd), .ref (mo 0), .int (hashI (hashI (nI (64 + t)) 0) (nI (n % t)))]) (congrArg (fun z => F0 m 181 ls (.int z :: [.int (nI sd), .ref (mo 0), .int (hashI (hashI (nI (64 + t)) 0) (nI (n % t)))])) (vet)) ?_
        have hM := c_X11_latest l g mo rr th np no bt en xx ra t0 t1 s1 ca cq ch st fk fn fo bb wt nx cx pt le sc ss ww xc lo hi ou xi sd t n (by first | assumption | omega) (by first | assumption | omega) (by first | assumption | omega) (by omega) (by omega)
        refine r_callRO (js := [0, 1, 2, 3, 4, 5, 6, 7, 8, 9, 10, 11, 12, 13, 14, 15, 16, 17, 18]) C hT (runV (js := [0, 1, 2, 3, 4, 5, 6, 7, 8, 9, 10, 11, 12, 13, 14, 15, 16, 17, 18]) (rm := ({ frames := 0, cells := 0, slots := 0, locals := 0 } : Room)) (As := [.int (nI sd), .int (nI t)]) (n := 2) (q1 := 0) (rest := [.int (hashI (hashI (nI (64 + t)) 0) (nI (n % t)))]) C hT hM rfl rfl k766 k768 s15 k15 k769 (by decide +kernel) rfl rfl rfl rfl (Nat.le_of_ble_eq_true rfl) hl.1 ⟨Nat.le_of_ble_eq_true rfl, Nat.le_of_ble_eq_true rfl⟩ ⟨Nat.le_of_ble_eq_true rfl, Nat.le_of_ble_eq_true rfl⟩ dX11_contextOf_181) rfl rfl (fun u H locs hT => ?_)
        refine W.eq (g2 := F0 m 184 ls [.int (backN (vb bb sd) n t), .int (hashI (hashI (nI (64 + t)) 0) (nI (n % t)))]) rfl ?_
        have hM := c_X11_hash l g (hashI (hashI (nI (64 + t)) 0) (nI (n % t))) (backN (vb bb sd) n t)
        refine r_callRO (js := []) C hT (runS (js := []) (rm := ({ frames := 0, cells := 0, slots := 0, locals := 0 } : Room)) (As := [.int (hashI (hashI (nI (64 + t)) 0) (nI (n % t))), .int (backN (vb bb sd) n t)]) (n := 2) (rest := []) C hT hM rfl rfl k760 k761 k15 k762 (by decide +kernel) rfl rfl (Nat.le_of_ble_eq_true rfl) hl.1 ⟨Nat.le_of_ble_eq_true rfl, Nat.le_of_ble_eq_true rfl⟩ ⟨Nat.le_of_ble_eq_true rfl, Nat.le_of_ble_eq_true rfl⟩ dX11_contextOf_184) rfl rfl (fun u H locs hT => ?_)
        refine W.eq (g2 := F0 m 187 ls [.int (hashI (hashI (hashI (nI (64 + t)) 0) (nI (n % t))) (backN (vb bb sd) n t))]) rfl ?_
        refine W.eq (g2 := F0 m 187 ls [.int (ctxI (vb bb sd) n (fk i) (fn i))]) (congrArg (fun z => F0 m 187 ls (.int z :: [])) ((by rw [ctxI, if_neg h_1, if_neg h_2, if_pos h_3, vet, nI_clamp (by omega)]; rfl))) ?_
        refine lv_istore (lv' := [(4, .int (ctxI (vb bb sd) n (fk i) (fn i))), (3, .int (fn i)), (0, .ref (mo 0)), (1, .int (nI sd)), (2, .int (nI i))]) hx hb dX11_contextOf_187 hl (by decide) rfl (fun ls hl => ?_)
        refine lv_goto (tgt := 249) hx hb dX11_contextOf_189 (by decide) ?_
        refine lv_iload hx hb dX11_contextOf_249 (lv_at hl 0 rfl) ?_
        exact e_iret C hQ () hT rfl dX11_contextOf_251
    · skip
      refine lv_bipush (v := 32) hx hb dX11_contextOf_67 (by decide) ?_
      refine lv_iconst (v := 0) hx hb dX11_contextOf_69 (by decide) ?_
      have hM := c_X11_hash l g 32 0
      refine r_callRO (js := []) C hT (runS (js := []) (rm := ({ frames := 0, cells := 0, slots := 0, locals := 0 } : Room)) (As := [.int 32, .int 0]) (n := 2) (rest := []) C hT hM rfl rfl k760 k761 k15 k762 (by decide +kernel) rfl rfl (Nat.le_of_ble_eq_true rfl) hl.1 ⟨Nat.le_of_ble_eq_true rfl, Nat.le_of_ble_eq_true rfl⟩ ⟨Nat.le_of_ble_eq_true rfl, Nat.le_of_ble_eq_true rfl⟩ dX11_contextOf_70) rfl rfl (fun u H locs hT => ?_)
      refine W.eq (g2 := F0 m 73 ls [.int (hashI 32 0)]) rfl ?_
      refine lv_istore (lv' := [(4, .int (hashI 32 0)), (3, .int (fn i)), (0, .ref (mo 0)), (1, .int (nI sd)), (2, .int (nI i))]) hx hb dX11_contextOf_73 hl (by decide) rfl (fun ls hl => ?_)
      refine lv_iconst (v := 0) hx hb dX11_contextOf_75 (by decide) ?_
      refine lv_istore (lv' := [(5, .int 0), (4, .int (hashI 32 0)), (3, .int (fn i)), (0, .ref (mo 0)), (1, .int (nI sd)), (2, .int (nI i))]) hx hb dX11_contextOf_76 hl (by decide) rfl (fun ls hl => ?_)
      have loop_78 : ∀ (fu : Nat) (j : Nat) (vx5 : Int32) (H : Heap) (locs : List Loc) (ls : Array Slot) (hj : j ≤ 16) (vex5 : vx5 = nI j) (hwl : wlG (vb bb sd) n (16 - j) j = wlen (vb bb sd) n), 16 - j < fu → Wd g A s (mdL g mo rr th np no bt en xx ra t0 t1 s1 ca cq ch st fk fn fo bb wt nx cx pt le sc ss ww xc lo hi ou xi) H locs → lv_has ls 7 [(0, .ref (mo 0)), (1, .int (nI sd)), (2, .int (nI i)), (3, .int (fn i)), (4, .int (hashI 32 0)), (5, .int vx5)] → W p l e ({ frames := 1, cells := 0, slots := 0, locals := 22 } : Room) s m ([.ref (mo 0), .int (nI sd), .int (nI i)] : List Value).toArray below meth c H locs 0 0 Q (F0 m 78 ls []) := by
        intro fu
        induction fu with
        | zero => intro j vx5 H locs ls hj vex5 hwl hm; exact absurd hm (Nat.not_lt_zero _)
        | succ fu ih =>
          intro j vx5 H locs ls hj vex5 hwl hm hT hl
          refine lv_iload hx hb dX11_contextOf_78 (lv_at hl 5 rfl) ?_
          refine lv_bipush (v := 16) hx hb dX11_contextOf_80 (by decide) ?_
          refine lv_icmp_ge (tgt := 117) hx hb dX11_contextOf_82 (by decide) (fun h_8 => ?_) (fun h_8 => ?_)
          · skip
            have hin := lp_end (n := 16) vex5 (by decide) hj h_8
            have hwi : j = wlen (vb bb sd) n := by rw [← hwl, hin]; rfl
            refine lv_iload hx hb dX11_contextOf_117 (lv_at hl 5 rfl) ?_
            refine lv_istore (lv' := [(6, .int vx5), (0, .ref (mo 0)), (1, .int (nI sd)), (2, .int (nI i)), (3, .int (fn i)), (4, .int (hashI 32 0)), (5, .int vx5)]) hx hb dX11_contextOf_119 hl (by decide) rfl (fun ls hl => ?_)
            have loop_121 : ∀ (fu : Nat) (j2 : Nat) (vx6 : Int32) (vx4 : Int32) (H : Heap) (locs : List Loc) (ls : Array Slot) (hj2 : j2 ≤ 16) (vex6 : vx6 = nI j2) (hh : whash (vb bb sd) n j2 vx4 = wordH (vb bb sd) n), j2 < fu → Wd g A s (mdL g mo rr th np no bt en xx ra t0 t1 s1 ca cq ch st fk fn fo bb wt nx cx pt le sc ss ww xc lo hi ou xi) H locs → lv_has ls 7 [(0, .ref (mo 0)), (1, .int (nI sd)), (2, .int (nI i)), (3, .int (fn i)), (4, .int vx4), (5, .int vx5), (6, .int vx6)] → W p l e ({ frames := 1, cells := 0, slots := 0, locals := 22 } : Room) s m ([.ref (mo 0), .int (nI sd), .int (nI i)] : List Value).toArray below meth c H locs 0 0 Q (F0 m 121 ls []) := by
              intro fu_121
              induction fu_121 with
              | zero => intro j2 vx6 vx4 H locs ls hj2 vex6 hh hm; exact absurd hm (Nat.not_lt_zero _)
              | succ fu_121 ih_121 =>
                intro j2 vx6 vx4 H locs ls hj2 vex6 hh hm_121 hT hl
                refine lv_iload hx hb dX11_contextOf_121 (lv_at hl 6 rfl) ?_
                refine lv_if_le (tgt := 146) hx hb dX11_contextOf_123 (by decide) (fun h_9 => ?_) (fun h_9 => ?_)
                · skip
                  have hj0 : j2 = 0 := by rcases Nat.eq_zero_or_pos j2 with q | q; exact q; exact absurd (vex6 ▸ h_9) (nI_nle q (by omega))
                  have hres : vx4 = ctxI (vb bb sd) n (fk i) (fn i) := by rw [ctxI, if_neg h_1, if_pos h_2, ← hh, hj0, whash_0]
                  refine lv_goto (tgt := 249) hx hb dX11_contextOf_146 (by decide) ?_
                  refine lv_iload hx hb dX11_contextOf_249 (lv_at hl 4 rfl) ?_
                  exact e_iret C hQ () hT (by first | rfl | (rw [hres])) dX11_contextOf_251
                · skip
                  have hjp : 0 < j2 := by rcases Nat.eq_zero_or_pos j2 with q | q; exact absurd (by rw [vex6, q]; decide) h_9; exact q
                  refine lv_iload hx hb dX11_contextOf_126 (lv_at hl 4 rfl) ?_
                  refine lv_aload_n hx hb dX11_contextOf_128 rfl (lv_at hl 0 rfl) ?_
                  refine lv_iload_n hx hb dX11_contextOf_129 rfl (lv_at hl 1 rfl) ?_
                  refine lv_iload hx hb dX11_contextOf_130 (lv_at hl 6 rfl) ?_
                  refine W.eq (g2 := F0 m 132 ls [.int (nI j2), .int (nI sd), .ref (mo 0), .int vx4]) (congrArg (fun z => F0 m 132 ls (.int z :: [.int (nI sd), .ref (mo 0), .int vx4])) (vex6)) ?_
                  have hM := c_X11_latest l g mo rr th np no bt en xx ra t0 t1 s1 ca cq ch st fk fn fo bb wt nx cx pt le sc ss ww xc lo hi ou xi sd j2 n (by first | assumption | omega) (by first | assumption | omega) (by first | assumption | omega) (by omega) (by omega)
                  refine r_callRO (js := [0, 1, 2, 3, 4, 5, 6, 7, 8, 9, 10, 11, 12, 13, 14, 15, 16, 17, 18]) C hT (runV (js := [0, 1, 2, 3, 4, 5, 6, 7, 8, 9, 10, 11, 12, 13, 14, 15, 16, 17, 18]) (rm := ({ frames := 0, cells := 0, slots := 0, locals := 0 } : Room)) (As := [.int (nI sd), .int (nI j2)]) (n := 2) (q1 := 0) (rest := [.int vx4]) C hT hM rfl rfl k766 k768 s15 k15 k769 (by decide +kernel) rfl rfl rfl rfl (Nat.le_of_ble_eq_true rfl) hl.1 ⟨Nat.le_of_ble_eq_true rfl, Nat.le_of_ble_eq_true rfl⟩ ⟨Nat.le_of_ble_eq_true rfl, Nat.le_of_ble_eq_true rfl⟩ dX11_contextOf_132) rfl rfl (fun u H locs hT => ?_)
                  refine W.eq (g2 := F0 m 135 ls [.int (backN (vb bb sd) n j2), .int vx4]) rfl ?_
                  have hM := c_X11_hash l g vx4 (backN (vb bb sd) n j2)
                  refine r_callRO (js := []) C hT (runS (js := []) (rm := ({ frames := 0, cells := 0, slots := 0, locals := 0 } : Room)) (As := [.int vx4, .int (backN (vb bb sd) n j2)]) (n := 2) (rest := []) C hT hM rfl rfl k760 k761 k15 k762 (by decide +kernel) rfl rfl (Nat.le_of_ble_eq_true rfl) hl.1 ⟨Nat.le_of_ble_eq_true rfl, Nat.le_of_ble_eq_true rfl⟩ ⟨Nat.le_of_ble_eq_true rfl, Nat.le_of_ble_eq_true rfl⟩ dX11_contextOf_135) rfl rfl (fun u H locs hT => ?_)
                  refine W.eq (g2 := F0 m 138 ls [.int (hashI vx4 (backN (vb bb sd) n j2))]) rfl ?_
                  refine lv_istore (lv' := [(4, .int (hashI vx4 (backN (vb bb sd) n j2))), (0, .ref (mo 0)), (1, .int (nI sd)), (2, .int (nI i)), (3, .int (fn i)), (5, .int vx5), (6, .int vx6)]) hx hb dX11_contextOf_138 hl (by decide) rfl (fun ls hl => ?_)
                  obtain ⟨x_10, ex_10⟩ : ∃ y : Int32, y = vx6 + (-1) := ⟨_, rfl⟩
                  refine lv_iinc (v := x_10) (lv' := [(6, .int x_10), (4, .int (hashI vx4 (backN (vb bb sd) n j2))), (0, .ref (mo 0)), (1, .int (nI sd)), (2, .int (nI i)), (3, .int (fn i)), (5, .int vx5)]) hx hb dX11_contextOf_140 hl (k := 6) rfl (by rw [ex_10]; rfl) (by decide) rfl (fun ls hl => ?_)
                  refine lv_goto (tgt := 121) hx hb dX11_contextOf_143 (by decide) ?_
                  exact ih_121 (j2 - 1) x_10 (hashI vx4 (backN (vb bb sd) n j2)) H locs ls (by first | assumption | omega | rfl) (by rw [ex_10, vex6]; exact sb_m1 hjp) (by rw [← hh]; exact whash_s hjp) (by omega) hT (lv_sub hl [2, 3, 4, 5, 1, 6, 0] rfl)
            exact loop_121 (j + 1) j vx5 (hashI 32 0) H locs ls hj vex5 (by unfold wordH; rw [hwi]) (Nat.lt_succ_self _) hT (lv_sub hl [1, 2, 3, 4, 5, 6, 0] rfl)
          · skip
            have hj16 := lp_go (n := 16) vex5 (by decide) hj h_8
            refine lv_iload hx hb dX11_contextOf_85 (lv_at hl 5 rfl) ?_
            refine lv_aload_n hx hb dX11_contextOf_87 rfl (lv_at hl 0 rfl) ?_
            refine gX11_26 C hT (q0 := 0) rfl dX11_contextOf_88 ?_
            refine lv_iload_n hx hb dX11_contextOf_91 rfl (lv_at hl 1 rfl) ?_
            refine r_iald C hT (q0 := 6) rfl sd rfl (by omega) (by decide) dX11_contextOf_92 ?_
            refine W.eq (g2 := F0 m 93 ls [.int (nI n), .int vx5]) (congrArg (fun z => F0 m 93 ls (.int z :: [.int vx5])) (hw)) ?_
            refine lv_icmp_ge (tgt := 117) hx hb dX11_contextOf_93 (by decide) (fun h_11 => ?_) (fun h_11 => ?_)
            · skip
              have hnj : n ≤ j := by rw [vex5] at h_11; exact (nI_leI (by omega) (by omega)).mp h_11
              have hwi : j = wlen (vb bb sd) n := by rw [← hwl]; exact (wl_e hj16 (let0 _ hnj)).symm
              refine lv_iload hx hb dX11_contextOf_117 (lv_at hl 5 rfl) ?_
              refine lv_istore (lv' := [(6, .int vx5), (0, .ref (mo 0)), (1, .int (nI sd)), (2, .int (nI i)), (3, .int (fn i)), (4, .int (hashI 32 0)), (5, .int vx5)]) hx hb dX11_contextOf_119 hl (by decide) rfl (fun ls hl => ?_)
              have loop_121 : ∀ (fu : Nat) (j2 : Nat) (vx6 : Int32) (vx4 : Int32) (H : Heap) (locs : List Loc) (ls : Array Slot) (hj2 : j2 ≤ 16) (vex6 : vx6 = nI j2) (hh : whash (vb bb sd) n j2 vx4 = wordH (vb bb sd) n), j2 < fu → Wd g A s (mdL g mo rr th np no bt en xx ra t0 t1 s1 ca cq ch st fk fn fo bb wt nx cx pt le sc ss ww xc lo hi ou xi) H locs → lv_has ls 7 [(0, .ref (mo 0)), (1, .int (nI sd)), (2, .int (nI i)), (3, .int (fn i)), (4, .int vx4), (5, .int vx5), (6, .int vx6)] → W p l e ({ frames := 1, cells := 0, slots := 0, locals := 22 } : Room) s m ([.ref (mo 0), .int (nI sd), .int (nI i)] : List Value).toArray below meth c H locs 0 0 Q (F0 m 121 ls []) := by
                intro fu_121
                induction fu_121 with
                | zero => intro j2 vx6 vx4 H locs ls hj2 vex6 hh hm; exact absurd hm (Nat.not_lt_zero _)
                | succ fu_121 ih_121 =>
                  intro j2 vx6 vx4 H locs ls hj2 vex6 hh hm_121 hT hl
                  refine lv_iload hx hb dX11_contextOf_121 (lv_at hl 6 rfl) ?_
                  refine lv_if_le (tgt := 146) hx hb dX11_contextOf_123 (by decide) (fun h_12 => ?_) (fun h_12 => ?_)
                  · skip
                    have hj0 : j2 = 0 := by rcases Nat.eq_zero_or_pos j2 with q | q; exact q; exact absurd (vex6 ▸ h_12) (nI_nle q (by omega))
                    have hres : vx4 = ctxI (vb bb sd) n (fk i) (fn i) := by rw [ctxI, if_neg h_1, if_pos h_2, ← hh, hj0, whash_0]
                    refine lv_goto (tgt := 249) hx hb dX11_contextOf_146 (by decide) ?_
                    refine lv_iload hx hb dX11_contextOf_249 (lv_at hl 4 rfl) ?_
                    exact e_iret C hQ () hT (by first | rfl | (rw [hres])) dX11_contextOf_251
                  · skip
                    have hjp : 0 < j2 := by rcases Nat.eq_zero_or_pos j2 with q | q; exact absurd (by rw [vex6, q]; decide) h_12; exact q
                    refine lv_iload hx hb dX11_contextOf_126 (lv_at hl 4 rfl) ?_
                    refine lv_aload_n hx hb dX11_contextOf_128 rfl (lv_at hl 0 rfl) ?_
                    refine lv_iload_n hx hb dX11_contextOf_129 rfl (lv_at hl 1 rfl) ?_
                    refine lv_iload hx hb dX11_contextOf_130 (lv_at hl 6 rfl) ?_
                    refine W.eq (g2 := F0 m 132 ls [.int (nI j2), .int (nI sd), .ref (mo 0), .int vx4]) (congrArg (fun z => F0 m 132 ls (.int z :: [.int (nI sd), .ref (mo 0), .int vx4])) (vex6)) ?_
                    have hM := c_X11_latest l g mo rr th np no bt en xx ra t0 t1 s1 ca cq ch st fk fn fo bb wt nx cx pt le sc ss ww xc lo hi ou xi sd j2 n (by first | assumption | omega) (by first | assumption | omega) (by first | assumption | omega) (by omega) (by omega)
                    refine r_callRO (js := [0, 1, 2, 3, 4, 5, 6, 7, 8, 9, 10, 11, 12, 13, 14, 15, 16, 17, 18]) C hT (runV (js := [0, 1, 2, 3, 4, 5, 6, 7, 8, 9, 10, 11, 12, 13, 14, 15, 16, 17, 18]) (rm := ({ frames := 0, cells := 0, slots := 0, locals := 0 } : Room)) (As := [.int (nI sd), .int (nI j2)]) (n := 2) (q1 := 0) (rest := [.int vx4]) C hT hM rfl rfl k766 k768 s15 k15 k769 (by decide +kernel) rfl rfl rfl rfl (Nat.le_of_ble_eq_true rfl) hl.1 ⟨Nat.le_of_ble_eq_true rfl, Nat.le_of_ble_eq_true rfl⟩ ⟨Nat.le_of_ble_eq_true rfl, Nat.le_of_ble_eq_true rfl⟩ dX11_contextOf_132) rfl rfl (fun u H locs hT => ?_)
                    refine W.eq (g2 := F0 m 135 ls [.int (backN (vb bb sd) n j2), .int vx4]) rfl ?_
                    have hM := c_X11_hash l g vx4 (backN (vb bb sd) n j2)
                    refine r_callRO (js := []) C hT (runS (js := []) (rm := ({ frames := 0, cells := 0, slots := 0, locals := 0 } : Room)) (As := [.int vx4, .int (backN (vb bb sd) n j2)]) (n := 2) (rest := []) C hT hM rfl rfl k760 k761 k15 k762 (by decide +kernel) rfl rfl (Nat.le_of_ble_eq_true rfl) hl.1 ⟨Nat.le_of_ble_eq_true rfl, Nat.le_of_ble_eq_true rfl⟩ ⟨Nat.le_of_ble_eq_true rfl, Nat.le_of_ble_eq_true rfl⟩ dX11_contextOf_135) rfl rfl (fun u H locs hT => ?_)
                    refine W.eq (g2 := F0 m 138 ls [.int (hashI vx4 (backN (vb bb sd) n j2))]) rfl ?_
                    refine lv_istore (lv' := [(4, .int (hashI vx4 (backN (vb bb sd) n j2))), (0, .ref (mo 0)), (1, .int (nI sd)), (2, .int (nI i)), (3, .int (fn i)), (5, .int vx5), (6, .int vx6)]) hx hb dX11_contextOf_138 hl (by decide) rfl (fun ls hl => ?_)
                    obtain ⟨x_13, ex_13⟩ : ∃ y : Int32, y = vx6 + (-1) := ⟨_, rfl⟩
                    refine lv_iinc (v := x_13) (lv' := [(6, .int x_13), (4, .int (hashI vx4 (backN (vb bb sd) n j2))), (0, .ref (mo 0)), (1, .int (nI sd)), (2, .int (nI i)), (3, .int (fn i)), (5, .int vx5)]) hx hb dX11_contextOf_140 hl (k := 6) rfl (by rw [ex_13]; rfl) (by decide) rfl (fun ls hl => ?_)
                    refine lv_goto (tgt := 121) hx hb dX11_contextOf_143 (by decide) ?_
                    exact ih_121 (j2 - 1) x_13 (hashI vx4 (backN (vb bb sd) n j2)) H locs ls (by first | assumption | omega | rfl) (by rw [ex_13, vex6]; exact sb_m1 hjp) (by rw [← hh]; exact whash_s hjp) (by omega) hT (lv_sub hl [2, 3, 4, 5, 1, 6, 0] rfl)
              exact loop_121 (j + 1) j vx5 (hashI 32 0) H locs ls hj vex5 (by unfold wordH; rw [hwi]) (Nat.lt_succ_self _) hT (lv_sub hl [1, 2, 3, 4, 5, 6, 0] rfl)
            · skip
              refine lv_aload_n hx hb dX11_contextOf_96 rfl (lv_at hl 0 rfl) ?_
              refine lv_iload_n hx hb dX11_contextOf_97 rfl (lv_at hl 1 rfl) ?_
              refine lv_iload hx hb dX11_contextOf_98 (lv_at hl 5 rfl) ?_
              refine W.eq (g2 := F0 m 100 ls [.int (nI j), .int (nI sd), .ref (mo 0)]) (congrArg (fun z => F0 m 100 ls (.int z :: [.int (nI sd), .ref (mo 0)])) (vex5)) ?_
              refine lv_iconst (v := 1) hx hb dX11_contextOf_100 (by decide) ?_
              refine lv_iadd hx hb dX11_contextOf_101 ?_
              refine W.eq (g2 := F0 m 102 ls [.int (nI (j + 1)), .int (nI sd), .ref (mo 0)]) (congrArg (fun z => F0 m 102 ls (.int z :: [.int (nI sd), .ref (mo 0)])) (nI_1 j)) ?_
              have hM := c_X11_latest l g mo rr th np no bt en xx ra t0 t1 s1 ca cq ch st fk fn fo bb wt nx cx pt le sc ss ww xc lo hi ou xi sd (j + 1) n (by first | assumption | omega) (by first | assumption | omega) (by first | assumption | omega) (by omega) (by omega)
              refine r_callRO (js := [0, 1, 2, 3, 4, 5, 6, 7, 8, 9, 10, 11, 12, 13, 14, 15, 16, 17, 18]) C hT (runV (js := [0, 1, 2, 3, 4, 5, 6, 7, 8, 9, 10, 11, 12, 13, 14, 15, 16, 17, 18]) (rm := ({ frames := 0, cells := 0, slots := 0, locals := 0 } : Room)) (As := [.int (nI sd), .int (nI (j + 1))]) (n := 2) (q1 := 0) (rest := []) C hT hM rfl rfl k766 k768 s15 k15 k769 (by decide +kernel) rfl rfl rfl rfl (Nat.le_of_ble_eq_true rfl) hl.1 ⟨Nat.le_of_ble_eq_true rfl, Nat.le_of_ble_eq_true rfl⟩ ⟨Nat.le_of_ble_eq_true rfl, Nat.le_of_ble_eq_true rfl⟩ dX11_contextOf_102) rfl rfl (fun u H locs hT => ?_)
              refine W.eq (g2 := F0 m 105 ls [.int (backN (vb bb sd) n (j + 1))]) rfl ?_
              have hM := c_X11_isLetter l g (backN (vb bb sd) n (j + 1))
              refine r_callRO (js := []) C hT (runS (js := []) (rm := ({ frames := 0, cells := 0, slots := 0, locals := 0 } : Room)) (As := [.int (backN (vb bb sd) n (j + 1))]) (n := 1) (rest := []) C hT hM rfl rfl k770 k771 k15 k772 (by decide +kernel) rfl rfl (Nat.le_of_ble_eq_true rfl) hl.1 ⟨Nat.le_of_ble_eq_true rfl, Nat.le_of_ble_eq_true rfl⟩ ⟨Nat.le_of_ble_eq_true rfl, Nat.le_of_ble_eq_true rfl⟩ dX11_contextOf_105) rfl rfl (fun u H locs hT => ?_)
              refine W.eq (g2 := F0 m 108 ls [.int (b01 (letB (backN (vb bb sd) n (j + 1))))]) rfl ?_
              refine lv_if_eq (tgt := 117) hx hb dX11_contextOf_108 (by decide) (fun h_14 => ?_) (fun h_14 => ?_)
              · skip
                have hlet := b01_f h_14
                have hwi : j = wlen (vb bb sd) n := by rw [← hwl]; exact (wl_e hj16 hlet).symm
                refine lv_iload hx hb dX11_contextOf_117 (lv_at hl 5 rfl) ?_
                refine lv_istore (lv' := [(6, .int vx5), (0, .ref (mo 0)), (1, .int (nI sd)), (2, .int (nI i)), (3, .int (fn i)), (4, .int (hashI 32 0)), (5, .int vx5)]) hx hb dX11_contextOf_119 hl (by decide) rfl (fun ls hl => ?_)
                have loop_121 : ∀ (fu : Nat) (j2 : Nat) (vx6 : Int32) (vx4 : Int32) (H : Heap) (locs : List Loc) (ls : Array Slot) (hj2 : j2 ≤ 16) (vex6 : vx6 = nI j2) (hh : whash (vb bb sd) n j2 vx4 = wordH (vb bb sd) n), j2 < fu → Wd g A s (mdL g mo rr th np no bt en xx ra t0 t1 s1 ca cq ch st fk fn fo bb wt nx cx pt le sc ss ww xc lo hi ou xi) H locs → lv_has ls 7 [(0, .ref (mo 0)), (1, .int (nI sd)), (2, .int (nI i)), (3, .int (fn i)), (4, .int vx4), (5, .int vx5), (6, .int vx6)] → W p l e ({ frames := 1, cells := 0, slots := 0, locals := 22 } : Room) s m ([.ref (mo 0), .int (nI sd), .int (nI i)] : List Value).toArray below meth c H locs 0 0 Q (F0 m 121 ls []) := by
                  intro fu_121
                  induction fu_121 with
                  | zero => intro j2 vx6 vx4 H locs ls hj2 vex6 hh hm; exact absurd hm (Nat.not_lt_zero _)
                  | succ fu_121 ih_121 =>
                    intro j2 vx6 vx4 H locs ls hj2 vex6 hh hm_121 hT hl
                    refine lv_iload hx hb dX11_contextOf_121 (lv_at hl 6 rfl) ?_
                    refine lv_if_le (tgt := 146) hx hb dX11_contextOf_123 (by decide) (fun h_15 => ?_) (fun h_15 => ?_)
                    · skip
                      have hj0 : j2 = 0 := by rcases Nat.eq_zero_or_pos j2 with q | q; exact q; exact absurd (vex6 ▸ h_15) (nI_nle q (by omega))
                      have hres : vx4 = ctxI (vb bb sd) n (fk i) (fn i) := by rw [ctxI, if_neg h_1, if_pos h_2, ← hh, hj0, whash_0]
                      refine lv_goto (tgt := 249) hx hb dX11_contextOf_146 (by decide) ?_
                      refine lv_iload hx hb dX11_contextOf_249 (lv_at hl 4 rfl) ?_
                      exact e_iret C hQ () hT (by first | rfl | (rw [hres])) dX11_contextOf_251
                    · skip
                      have hjp : 0 < j2 := by rcases Nat.eq_zero_or_pos j2 with q | q; exact absurd (by rw [vex6, q]; decide) h_15; exact q
                      refine lv_iload hx hb dX11_contextOf_126 (lv_at hl 4 rfl) ?_
                      refine lv_aload_n hx hb dX11_contextOf_128 rfl (lv_at hl 0 rfl) ?_
                      refine lv_iload_n hx hb dX11_contextOf_129 rfl (lv_at hl 1 rfl) ?_
                      refine lv_iload hx hb dX11_contextOf_130 (lv_at hl 6 rfl) ?_
                      refine W.eq (g2 := F0 m 132 ls [.int (nI j2), .int (nI sd), .ref (mo 0), .int vx4]) (congrArg (fun z => F0 m 132 ls (.int z :: [.int (nI sd), .ref (mo 0), .int vx4])) (vex6)) ?_
                      have hM := c_X11_latest l g mo rr th np no bt en xx ra t0 t1 s1 ca cq ch st fk fn fo bb wt nx cx pt le sc ss ww xc lo hi ou xi sd j2 n (by first | assumption | omega) (by first | assumption | omega) (by first | assumption | omega) (by omega) (by omega)
                      refine r_callRO (js := [0, 1, 2, 3, 4, 5, 6, 7, 8, 9, 10, 11, 12, 13, 14, 15, 16, 17, 18]) C hT (runV (js := [0, 1, 2, 3, 4, 5, 6, 7, 8, 9, 10, 11, 12, 13, 14, 15, 16, 17, 18]) (rm := ({ frames := 0, cells := 0, slots := 0, locals := 0 } : Room)) (As := [.int (nI sd), .int (nI j2)]) (n := 2) (q1 := 0) (rest := [.int vx4]) C hT hM rfl rfl k766 k768 s15 k15 k769 (by decide +kernel) rfl rfl rfl rfl (Nat.le_of_ble_eq_true rfl) hl.1 ⟨Nat.le_of_ble_eq_true rfl, Nat.le_of_ble_eq_true rfl⟩ ⟨Nat.le_of_ble_eq_true rfl, Nat.le_of_ble_eq_true rfl⟩ dX11_contextOf_132) rfl rfl (fun u H locs hT => ?_)
                      refine W.eq (g2 := F0 m 135 ls [.int (backN (vb bb sd) n j2), .int vx4]) rfl ?_
                      have hM := c_X11_hash l g vx4 (backN (vb bb sd) n j2)
                      refine r_callRO (js := []) C hT (runS (js := []) (rm := ({ frames := 0, cells := 0, slots := 0, locals := 0 } : Room)) (As := [.int vx4, .int (backN (vb bb sd) n j2)]) (n := 2) (rest := []) C hT hM rfl rfl k760 k761 k15 k762 (by decide +kernel) rfl rfl (Nat.le_of_ble_eq_true rfl) hl.1 ⟨Nat.le_of_ble_eq_true rfl, Nat.le_of_ble_eq_true rfl⟩ ⟨Nat.le_of_ble_eq_true rfl, Nat.le_of_ble_eq_true rfl⟩ dX11_contextOf_135) rfl rfl (fun u H locs hT => ?_)
                      refine W.eq (g2 := F0 m 138 ls [.int (hashI vx4 (backN (vb bb sd) n j2))]) rfl ?_
                      refine lv_istore (lv' := [(4, .int (hashI vx4 (backN (vb bb sd) n j2))), (0, .ref (mo 0)), (1, .int (nI sd)), (2, .int (nI i)), (3, .int (fn i)), (5, .int vx5), (6, .int vx6)]) hx hb dX11_contextOf_138 hl (by decide) rfl (fun ls hl => ?_)
                      obtain ⟨x_16, ex_16⟩ : ∃ y : Int32, y = vx6 + (-1) := ⟨_, rfl⟩
                      refine lv_iinc (v := x_16) (lv' := [(6, .int x_16), (4, .int (hashI vx4 (backN (vb bb sd) n j2))), (0, .ref (mo 0)), (1, .int (nI sd)), (2, .int (nI i)), (3, .int (fn i)), (5, .int vx5)]) hx hb dX11_contextOf_140 hl (k := 6) rfl (by rw [ex_16]; rfl) (by decide) rfl (fun ls hl => ?_)
                      refine lv_goto (tgt := 121) hx hb dX11_contextOf_143 (by decide) ?_
                      exact ih_121 (j2 - 1) x_16 (hashI vx4 (backN (vb bb sd) n j2)) H locs ls (by first | assumption | omega | rfl) (by rw [ex_16, vex6]; exact sb_m1 hjp) (by rw [← hh]; exact whash_s hjp) (by omega) hT (lv_sub hl [2, 3, 4, 5, 1, 6, 0] rfl)
                exact loop_121 (j + 1) j vx5 (hashI 32 0) H locs ls hj vex5 (by unfold wordH; rw [hwi]) (Nat.lt_succ_self _) hT (lv_sub hl [1, 2, 3, 4, 5, 6, 0] rfl)
              · skip
                have hlet := b01_t h_14
                obtain ⟨x_17, ex_17⟩ : ∃ y : Int32, y = vx5 + 1 := ⟨_, rfl⟩
                refine lv_iinc (v := x_17) (lv' := [(5, .int x_17), (0, .ref (mo 0)), (1, .int (nI sd)), (2, .int (nI i)), (3, .int (fn i)), (4, .int (hashI 32 0))]) hx hb dX11_contextOf_111 hl (k := 5) rfl (by rw [ex_17]; rfl) (by decide) rfl (fun ls hl => ?_)
                refine lv_goto (tgt := 78) hx hb dX11_contextOf_114 (by decide) ?_
                exact ih (j + 1) x_17 H locs ls (by first | assumption | omega | rfl) (by rw [ex_17, vex5]; exact nI_1 j) (wl_s hj16 hlet hwl) (by omega) hT (lv_sub hl [1, 2, 3, 4, 5, 0] rfl)
      exact loop_78 (16 - 0 + 1) 0 0 H locs ls (by first | assumption | omega | rfl) rfl rfl (Nat.lt_succ_self _) hT (lv_sub hl [3, 4, 5, 2, 1, 0] rfl)
  · skip
    obtain ⟨t, ht, vet⟩ := allow0 (h_1 ▸ hal)
    refine lv_iload_n hx hb dX11_contextOf_16 rfl (lv_at hl 0 rfl) ?_
    refine W.eq (g2 := F0 m 17 ls [.int (nI t)]) (congrArg (fun z => F0 m 17 ls (.int z :: [])) (vet)) ?_
    refine lv_iconst (v := 1) hx hb dX11_contextOf_17 (by decide) ?_
    refine lv_iadd hx hb dX11_contextOf_18 ?_
    refine W.eq (g2 := F0 m 19 ls [.int (nI (t + 1))]) (congrArg (fun z => F0 m 19 ls (.int z :: [])) (nI_1 t)) ?_
    refine lv_iconst (v := 0) hx hb dX11_contextOf_19 (by decide) ?_
    have hM := c_X11_hash l g (nI (t + 1)) 0
    refine r_callRO (js := []) C hT (runS (js := []) (rm := ({ frames := 0, cells := 0, slots := 0, locals := 0 } : Room)) (As := [.int (nI (t + 1)), .int 0]) (n := 2) (rest := []) C hT hM rfl rfl k760 k761 k15 k762 (by decide +kernel) rfl rfl (Nat.le_of_ble_eq_true rfl) hl.1 ⟨Nat.le_of_ble_eq_true rfl, Nat.le_of_ble_eq_true rfl⟩ ⟨Nat.le_of_ble_eq_true rfl, Nat.le_of_ble_eq_true rfl⟩ dX11_contextOf_20) rfl rfl (fun u H locs hT => ?_)
    refine W.eq (g2 := F0 m 23 ls [.int (hashI (nI (t + 1)) 0)]) rfl ?_
    refine lv_istore (lv' := [(4, .int (hashI (nI (t + 1)) 0)), (3, .int (fn i)), (0, .ref (mo 0)), (1, .int (nI sd)), (2, .int (nI i))]) hx hb dX11_contextOf_23 hl (by decide) rfl (fun ls hl => ?_)
    refine lv_iconst (v := 1) hx hb dX11_contextOf_25 (by decide) ?_
    refine lv_istore (lv' := [(5, .int 1), (4, .int (hashI (nI (t + 1)) 0)), (3, .int (fn i)), (0, .ref (mo 0)), (1, .int (nI sd)), (2, .int (nI i))]) hx hb dX11_contextOf_26 hl (by decide) rfl (fun ls hl => ?_)
    have loop_28 : ∀ (fu : Nat) (j : Nat) (vx4 : Int32) (vx5 : Int32) (H : Heap) (locs : List Loc) (ls : Array Slot) (hj : j ≤ t) (vex5 : vx5 = nI (j + 1)) (vex4 : vx4 = latH (vb bb sd) n t j), t - j < fu → Wd g A s (mdL g mo rr th np no bt en xx ra t0 t1 s1 ca cq ch st fk fn fo bb wt nx cx pt le sc ss ww xc lo hi ou xi) H locs → lv_has ls 7 [(0, .ref (mo 0)), (1, .int (nI sd)), (2, .int (nI i)), (3, .int (fn i)), (4, .int vx4), (5, .int vx5)] → W p l e ({ frames := 1, cells := 0, slots := 0, locals := 22 } : Room) s m ([.ref (mo 0), .int (nI sd), .int (nI i)] : List Value).toArray below meth c H locs 0 0 Q (F0 m 28 ls []) := by
      intro fu
      induction fu with
      | zero => intro j vx4 vx5 H locs ls hj vex5 vex4 hm; exact absurd hm (Nat.not_lt_zero _)
      | succ fu ih =>
        intro j vx4 vx5 H locs ls hj vex5 vex4 hm hT hl
        refine lv_iload hx hb dX11_contextOf_28 (lv_at hl 5 rfl) ?_
        refine lv_iload_n hx hb dX11_contextOf_30 rfl (lv_at hl 3 rfl) ?_
        refine W.eq (g2 := F0 m 31 ls [.int (nI t), .int vx5]) (congrArg (fun z => F0 m 31 ls (.int z :: [.int vx5])) (vet)) ?_
        refine lv_icmp_gt (tgt := 54) hx hb dX11_contextOf_31 (by decide) (fun h_18 => ?_) (fun h_18 => ?_)
        · skip
          have hjt : j = t := by have := lp_le_end vex5 (by omega) (by omega) h_18; omega
          have hres : vx4 = ctxI (vb bb sd) n (fk i) (fn i) := by rw [ctxI, if_pos h_1, vet, nI_clamp (by omega), vex4, hjt]
          refine lv_goto (tgt := 249) hx hb dX11_contextOf_54 (by decide) ?_
          refine lv_iload hx hb dX11_contextOf_249 (lv_at hl 4 rfl) ?_
          exact e_iret C hQ () hT (by first | rfl | (rw [hres])) dX11_contextOf_251
        · skip
          have hjt : j < t := by have := lp_le_go vex5 (by omega) (by omega) h_18; omega
          refine lv_iload hx hb dX11_contextOf_34 (lv_at hl 4 rfl) ?_
          refine lv_aload_n hx hb dX11_contextOf_36 rfl (lv_at hl 0 rfl) ?_
          refine lv_iload_n hx hb dX11_contextOf_37 rfl (lv_at hl 1 rfl) ?_
          refine lv_iload hx hb dX11_contextOf_38 (lv_at hl 5 rfl) ?_
          refine W.eq (g2 := F0 m 40 ls [.int (nI (j + 1)), .int (nI sd), .ref (mo 0), .int vx4]) (congrArg (fun z => F0 m 40 ls (.int z :: [.int (nI sd), .ref (mo 0), .int vx4])) (vex5)) ?_
          have hM := c_X11_latest l g mo rr th np no bt en xx ra t0 t1 s1 ca cq ch st fk fn fo bb wt nx cx pt le sc ss ww xc lo hi ou xi sd (j + 1) n (by first | assumption | omega) (by first | assumption | omega) (by first | assumption | omega) (by omega) (by omega)
          refine r_callRO (js := [0, 1, 2, 3, 4, 5, 6, 7, 8, 9, 10, 11, 12, 13, 14, 15, 16, 17, 18]) C hT (runV (js := [0, 1, 2, 3, 4, 5, 6, 7, 8, 9, 10, 11, 12, 13, 14, 15, 16, 17, 18]) (rm := ({ frames := 0, cells := 0, slots := 0, locals := 0 } : Room)) (As := [.int (nI sd), .int (nI (j + 1))]) (n := 2) (q1 := 0) (rest := [.int vx4]) C hT hM rfl rfl k766 k768 s15 k15 k769 (by decide +kernel) rfl rfl rfl rfl (Nat.le_of_ble_eq_true rfl) hl.1 ⟨Nat.le_of_ble_eq_true rfl, Nat.le_of_ble_eq_true rfl⟩ ⟨Nat.le_of_ble_eq_true rfl, Nat.le_of_ble_eq_true rfl⟩ dX11_contextOf_40) rfl rfl (fun u H locs hT => ?_)
          refine W.eq (g2 := F0 m 43 ls [.int (backN (vb bb sd) n (j + 1)), .int vx4]) rfl ?_
          have hM := c_X11_hash l g vx4 (backN (vb bb sd) n (j + 1))
          refine r_callRO (js := []) C hT (runS (js := []) (rm := ({ frames := 0, cells := 0, slots := 0, locals := 0 } : Room)) (As := [.int vx4, .int (backN (vb bb sd) n (j + 1))]) (n := 2) (rest := []) C hT hM rfl rfl k760 k761 k15 k762 (by decide +kernel) rfl rfl (Nat.le_of_ble_eq_true rfl) hl.1 ⟨Nat.le_of_ble_eq_true rfl, Nat.le_of_ble_eq_true rfl⟩ ⟨Nat.le_of_ble_eq_true rfl, Nat.le_of_ble_eq_true rfl⟩ dX11_contextOf_43) rfl rfl (fun u H locs hT => ?_)
          refine W.eq (g2 := F0 m 46 ls [.int (hashI vx4 (backN (vb bb sd) n (j + 1)))]) rfl ?_
          refine lv_istore (lv' := [(4, .int (hashI vx4 (backN (vb bb sd) n (j + 1)))), (0, .ref (mo 0)), (1, .int (nI sd)), (2, .int (nI i)), (3, .int (fn i)), (5, .int vx5)]) hx hb dX11_contextOf_46 hl (by decide) rfl (fun ls hl => ?_)
          obtain ⟨x_19, ex_19⟩ : ∃ y : Int32, y = vx5 + 1 := ⟨_, rfl⟩
          refine lv_iinc (v := x_19) (lv' := [(5, .int x_19), (4, .int (hashI vx4 (backN (vb bb sd) n (j + 1)))), (0, .ref (mo 0)), (1, .int (nI sd)), (2, .int (nI i)), (3, .int (fn i))]) hx hb dX11_contextOf_48 hl (k := 5) rfl (by rw [ex_19]; rfl) (by decide) rfl (fun ls hl => ?_)
          refine lv_goto (tgt := 28) hx hb dX11_contextOf_51 (by decide) ?_
          exact ih (j + 1) (hashI vx4 (backN (vb bb sd) n (j + 1))) x_19 H locs ls (by first | assumption | omega | rfl) (by rw [ex_19, vex5]; exact nI_1 (j + 1)) (by rw [vex4]; exact latH_s _ n t j) (by omega) hT (lv_sub hl [2, 3, 4, 5, 1, 0] rfl)
    exact loop_28 (t - 0 + 1) 0 (hashI (nI (t + 1)) 0) 1 H locs ls (by first | assumption | omega | rfl) rfl (latH_0 _ n t) (Nat.lt_succ_self _) hT (lv_sub hl [3, 4, 5, 2, 1, 0] rfl)

set_option maxHeartbeats 400000 in
set_option maxRecDepth 100000 in
theorem c_X11_bitsDone (l : Launch) (g : GT) (mo : Nat → Nat) (rr : Nat) (th : Int32) (np : Nat) (no : Nat) (bt : Nat) (en : Bool) (xx : Int64) (ra : Nat) (t0 : Int32) (t1 : Int32) (s1 : Int32) (ca : Int32) (cq : Int32) (ch : Int32) (st : Nat → Int32) (fk : Nat → Int32) (fn : Nat → Int32) (fo : Nat → Int32) (bb : Nat → Int32) (wt : Nat → Int32) (nx : Nat → Int32) (cx : Nat → Int32) (pt : Nat → Int32) (le : Nat → Int32) (sc : Nat → Int32) (ss : Nat → Int32) (ww : Nat → Int32) (xc : Nat → Int32) (lo : Nat → Int64) (hi : Nat → Int64) (ou : Nat → Int32) (xi : Nat → Int32) (sd : Nat) (nd : Nat) (bg : Nat) (hsd : sd < 2) (hx1 : nx sd = nI nd) (hnd : nd < 256) (hb7 : bg ≤ 7) (hlo : 2 ^ bg ≤ nd) (hhi : nd < 2 ^ (bg + 1)) : OM (S := Unit) l g yX11_bitsDone cX11_bitsDone 3 (some .int) ({ frames := 0, cells := 0, slots := 0, locals := 0 } : Room) [.ref (mo 0), .int (nI sd)] (mdL g mo rr th np no bt en xx ra t0 t1 s1 ca cq ch st fk fn fo bb wt nx cx pt le sc ss ww xc lo hi ou xi) (fun _ => some (.int (nI bg))) (fun _ => (mdL g mo rr th np no bt en xx ra t0 t1 s1 ca cq ch st fk fn fo bb wt nx cx pt le sc ss ww xc lo hi ou xi)) := by
  refine OM.startQ (by decide) (Nat.le_of_ble_eq_true rfl) ?_
  intro p e s m below meth c A ls Q H locs hQ C hnm hl hT
  have hx := C.x
  have hb := C.b
  have hl : lv_has ls 3 [(0, .ref (mo 0)), (1, .int (nI sd))] := hl
  refine lv_iconst (v := 0) hx hb dX11_bitsDone_0 (by decide) ?_
  refine lv_istore_n (lv' := [(2, .int 0), (0, .ref (mo 0)), (1, .int (nI sd))]) hx hb dX11_bitsDone_1 rfl hl (by decide) rfl (fun ls hl => ?_)
  have loop_2 : ∀ (fu : Nat) (j : Nat) (vx2 : Int32) (H : Heap) (locs : List Loc) (ls : Array Slot) (hj : j ≤ bg) (vex2 : vx2 = nI j), bg - j < fu → Wd g A s (mdL g mo rr th np no bt en xx ra t0 t1 s1 ca cq ch st fk fn fo bb wt nx cx pt le sc ss ww xc lo hi ou xi) H locs → lv_has ls 3 [(0, .ref (mo 0)), (1, .int (nI sd)), (2, .int vx2)] → W p l e ({ frames := 0, cells := 0, slots := 0, locals := 0 } : Room) s m ([.ref (mo 0), .int (nI sd)] : List Value).toArray below meth c H locs 0 0 Q (F0 m 2 ls []) := by
    intro fu
    induction fu with
    | zero => intro j vx2 H locs ls hj vex2 hm; exact absurd hm (Nat.not_lt_zero _)
    | succ fu ih =>
      intro j vx2 H locs ls hj vex2 hm hT hl
      refine lv_aload_n hx hb dX11_bitsDone_2 rfl (lv_at hl 0 rfl) ?_
      refine gX11_29 C hT (q0 := 0) rfl dX11_bitsDone_3 ?_
      refine lv_iload_n hx hb dX11_bitsDone_6 rfl (lv_at hl 1 rfl) ?_
      refine r_iald C hT (q0 := 7) rfl sd rfl (by omega) (by decide) dX11_bitsDone_7 ?_
      refine W.eq (g2 := F0 m 8 ls [.int (nI nd)]) (congrArg (fun z => F0 m 8 ls (.int z :: [])) (hx1)) ?_
      refine lv_iload_n hx hb dX11_bitsDone_8 rfl (lv_at hl 2 rfl) ?_
      refine W.eq (g2 := F0 m 9 ls [.int (nI j), .int (nI nd)]) (congrArg (fun z => F0 m 9 ls (.int z :: [.int (nI nd)])) (vex2)) ?_
      refine lv_ishr hx hb dX11_bitsDone_9 ?_
      refine W.eq (g2 := F0 m 10 ls [.int (nI (nd / 2 ^ j))]) (congrArg (fun z => F0 m 10 ls (.int z :: [])) (shr_n (by omega) (by omega))) ?_
      refine lv_iconst (v := 1) hx hb dX11_bitsDone_10 (by decide) ?_
      refine lv_icmp_le (tgt := 20) hx hb dX11_bitsDone_11 (by decide) (fun h_1 => ?_) (fun h_1 => ?_)
      · skip
        have hin := bd_end hlo hnd hj h_1
        refine lv_iload_n hx hb dX11_bitsDone_20 rfl (lv_at hl 2 rfl) ?_
        exact e_iret C hQ () hT (by rw [vex2, hin]) dX11_bitsDone_21
      · skip
        have hin := bd_go hlo hb7 hnd h_1 hhi
        obtain ⟨x_2, ex_2⟩ : ∃ y : Int32, y = vx2 + 1 := ⟨_, rfl⟩
        refine lv_iinc (v := x_2) (lv' := [(2, .int x_2), (0, .ref (mo 0)), (1, .int (nI sd))]) hx hb dX11_bitsDone_14 hl (k := 2) rfl (by rw [ex_2]; rfl) (by decide) rfl (fun ls hl => ?_)
        refine lv_goto (tgt := 2) hx hb dX11_bitsDone_17 (by decide) ?_
        exact ih (j + 1) x_2 H locs ls (by first | assumption | omega | rfl) (by rw [ex_2, vex2]; exact nI_1 j) (by omega) hT (lv_sub hl [1, 2, 0] rfl)
  exact loop_2 (bg - 0 + 1) 0 0 H locs ls (by first | assumption | omega | rfl) rfl (Nat.lt_succ_self _) hT (lv_sub hl [1, 2, 0] rfl)

set_option maxHeartbeats 400000 in
set_option maxRecDepth 100000 in
theorem c_X11_slotOf (l : Launch) (g : GT) (mo : Nat → Nat) (rr : Nat) (th : Int32) (np : Nat) (no : Nat) (bt : Nat) (en : Bool) (xx : Int64) (ra : Nat) (t0 : Int32) (t1 : Int32) (s1 : Int32) (ca : Int32) (cq : Int32) (ch : Int32) (st : Nat → Int32) (fk : Nat → Int32) (fn : Nat → Int32) (fo : Nat → Int32) (bb : Nat → Int32) (wt : Nat → Int32) (nx : Nat → Int32) (cx : Nat → Int32) (pt : Nat → Int32) (le : Nat → Int32) (sc : Nat → Int32) (ss : Nat → Int32) (ww : Nat → Int32) (xc : Nat → Int32) (lo : Nat → Int64) (hi : Nat → Int64) (ou : Nat → Int32) (xi : Nat → Int32) (sd : Nat) (i : Nat) (hsd : sd < 2) (hi8 : i < 8) (hrr : rr ≤ 12) : OM (S := Unit) l g yX11_slotOf cX11_slotOf 3 (some .int) ({ frames := 1, cells := 0, slots := 0, locals := 22 } : Room) [.ref (mo 0), .int (nI sd), .int (nI i)] (mdL g mo rr th np no bt en xx ra t0 t1 s1 ca cq ch st fk fn fo bb wt nx cx pt le sc ss ww xc lo hi ou xi) (fun _ => some (.int (nI (4096 * sd + slotN (2 ^ rr) (cx (8 * sd + i)) (nx sd))))) (fun _ => (mdL g mo rr th np no bt en xx ra t0 t1 s1 ca cq ch st fk fn fo bb wt nx cx pt le sc ss ww xc lo hi ou xi)) := by
  refine OM.startQ (by decide) (Nat.le_of_ble_eq_true rfl) ?_
  intro p e s m below meth c A ls Q H locs hQ C hnm hl hT
  have hx := C.x
  have hb := C.b
  have hl : lv_has ls 3 [(0, .ref (mo 0)), (1, .int (nI sd)), (2, .int (nI i))] := hl
  refine lv_sipush (v := 4096) hx hb dX11_slotOf_0 (by decide) ?_
  refine lv_iload_n hx hb dX11_slotOf_3 rfl (lv_at hl 1 rfl) ?_
  refine lv_imul hx hb dX11_slotOf_4 ?_
  refine W.eq (g2 := F0 m 5 ls [.int (nI (4096 * sd))]) (congrArg (fun z => F0 m 5 ls (.int z :: [])) (pk_mul 4096 sd)) ?_
  refine lv_aload_n hx hb dX11_slotOf_5 rfl (lv_at hl 0 rfl) ?_
  refine gX11_32 C hT (q0 := 0) rfl dX11_slotOf_6 ?_
  refine lv_bipush (v := 8) hx hb dX11_slotOf_9 (by decide) ?_
  refine lv_iload_n hx hb dX11_slotOf_11 rfl (lv_at hl 1 rfl) ?_
  refine lv_imul hx hb dX11_slotOf_12 ?_
  refine W.eq (g2 := F0 m 13 ls [.int (nI (8 * sd)), .ref (mo 8), .int (nI (4096 * sd))]) (congrArg (fun z => F0 m 13 ls (.int z :: [.ref (mo 8), .int (nI (4096 * sd))])) (pk_mul 8 sd)) ?_
  refine lv_iload_n hx hb dX11_slotOf_13 rfl (lv_at hl 2 rfl) ?_
  refine lv_iadd hx hb dX11_slotOf_14 ?_
  refine W.eq (g2 := F0 m 15 ls [.int (nI (8 * sd + i)), .ref (mo 8), .int (nI (4096 * sd))]) (congrArg (fun z => F0 m 15 ls (.int z :: [.ref (mo 8), .int (nI (4096 * sd))])) (nI_add _ _)) ?_
  refine r_iald C hT (q0 := 8) rfl (8 * sd + i) rfl (by omega) (by decide) dX11_slotOf_15 ?_
  refine lv_aload_n hx hb dX11_slotOf_16 rfl (lv_at hl 0 rfl) ?_
  refine gX11_29 C hT (q0 := 0) rfl dX11_slotOf_17 ?_
  refine lv_iload_n hx hb dX11_slotOf_20 rfl (lv_at hl 1 rfl) ?_
  refine r_iald C hT (q0 := 7) rfl sd rfl (by omega) (by decide) dX11_slotOf_21 ?_
  have hM := c_X11_hash l g (cx (8 * sd + i)) (nx sd)
  refine r_callRO (js := []) C hT (runS (js := []) (rm := ({ frames := 0, cells := 0, slots := 0, locals := 0 } : Room)) (As := [.int (cx (8 * sd + i)), .int (nx sd)]) (n := 2) (rest := [.int (nI (4096 * sd))]) C hT hM rfl rfl k760 k761 k15 k762 (by decide +kernel) rfl rfl (Nat.le_of_ble_eq_true rfl) hl.1 ⟨Nat.le_of_ble_eq_true rfl, Nat.le_of_ble_eq_true rfl⟩ ⟨Nat.le_of_ble_eq_true rfl, Nat.le_of_ble_eq_true rfl⟩ dX11_slotOf_22) rfl rfl (fun u H locs hT => ?_)
  refine W.eq (g2 := F0 m 25 ls [.int (hashI (cx (8 * sd + i)) (nx sd)), .int (nI (4096 * sd))]) rfl ?_
  refine lv_iconst (v := 1) hx hb dX11_slotOf_25 (by decide) ?_
  refine lv_aload_n hx hb dX11_slotOf_26 rfl (lv_at hl 0 rfl) ?_
  refine gX11_66 C hT (q0 := 0) rfl dX11_slotOf_27 ?_
  refine lv_ishl hx hb dX11_slotOf_30 ?_
  refine W.eq (g2 := F0 m 31 ls [.int (nI (2 ^ rr)), .int (hashI (cx (8 * sd + i)) (nx sd)), .int (nI (4096 * sd))]) (congrArg (fun z => F0 m 31 ls (.int z :: [.int (hashI (cx (8 * sd + i)) (nx sd)), .int (nI (4096 * sd))])) (one_shl hrr)) ?_
  refine lv_iconst (v := 1) hx hb dX11_slotOf_31 (by decide) ?_
  refine lv_isub hx hb dX11_slotOf_32 ?_
  refine lv_iand hx hb dX11_slotOf_33 ?_
  refine W.eq (g2 := F0 m 34 ls [.int (nI (slotN (2 ^ rr) (cx (8 * sd + i)) (nx sd))), .int (nI (4096 * sd))]) (congrArg (fun z => F0 m 34 ls (.int z :: [.int (nI (4096 * sd))])) (slot_eq hrr rfl)) ?_
  refine lv_iadd hx hb dX11_slotOf_34 ?_
  refine W.eq (g2 := F0 m 35 ls [.int (nI (4096 * sd + slotN (2 ^ rr) (cx (8 * sd + i)) (nx sd)))]) (congrArg (fun z => F0 m 35 ls (.int z :: [])) (nI_add _ _)) ?_
  exact e_iret C hQ () hT rfl dX11_slotOf_35
