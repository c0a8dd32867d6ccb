set_option maxHeartbeats 400000 in
set_option maxRecDepth 100000 in
theorem c_X11_chance_n (l : Launch) (g : GT) (mo : Nat → Nat) (rr : Nat) (th : Int32) (np : Nat) (no : Nat) (bt : Nat) (en : Bool) (xx : Int64) (ra : Nat) (t0 : Int32) (t1 : Int32) (s1 : Int32) (ca : Int32) (cq : Int32) (ch : Int32) (st : Nat → Int32) (fk : Nat → Int32) (fn : Nat → Int32) (fo : Nat → Int32) (bb : Nat → Int32) (wt : Nat → Int32) (nx : Nat → Int32) (cx : Nat → Int32) (pt : Nat → Int32) (le : Nat → Int32) (sc : Nat → Int32) (ss : Nat → Int32) (ww : Nat → Int32) (xc : Nat → Int32) (lo : Nat → Int64) (hi : Nat → Int64) (ou : Nat → Int32) (xi : Nat → Int32) (sd : Int32) (hs0 : ¬ sd = 0) (hs1 : ¬ sd = 1) : OM (S := Unit) l g yX11_chance cX11_chance 2 (some .int) ({ frames := 1, cells := 0, slots := 0, locals := 20 } : Room) [.ref (mo 0), .int sd] (mdL g mo rr th np no bt en xx ra t0 t1 s1 ca cq ch st fk fn fo bb wt nx cx pt le sc ss ww xc lo hi ou xi) (fun _ => some (.int (-1))) (fun _ => (mdL g mo rr 0 np no bt en xx ra t0 t1 s1 ca cq ch st fk fn fo bb wt nx cx pt le sc ss ww xc lo hi ou xi)) := by
  refine OM.startQ (by decide) (Nat.le_of_ble_eq_true rfl) ?_
  intro p e s m below meth c A ls Q H locs hQ C hnm hl hT
  have hx := C.x
  have hb := C.b
  have hl : lv_has ls 2 [(0, .ref (mo 0)), (1, .int sd)] := hl
  refine lv_aload_n hx hb dX11_chance_0 rfl (lv_at hl 0 rfl) ?_
  refine lv_iconst (v := 0) hx hb dX11_chance_1 (by decide) ?_
  refine pX11_77 C hT (q0 := 0) rfl dX11_chance_2 (fun H locs hT => ?_)
  have hT : Wd g A s (mdL g mo rr 0 np no bt en xx ra t0 t1 s1 ca cq ch st fk fn fo bb wt nx cx pt le sc ss ww xc lo hi ou xi) H locs := hT
  refine lv_iload_n hx hb dX11_chance_5 rfl (lv_at hl 1 rfl) ?_
  have hM := c_X11_isSide l g sd
  refine r_callRO (js := []) C hT (runS (js := []) (rm := ({ frames := 0, cells := 0, slots := 0, locals := 0 } : Room)) (As := [.int sd]) (n := 1) (rest := []) C hT hM rfl rfl k986 k987 k15 k988 (by decide +kernel) rfl rfl (Nat.le_of_ble_eq_true rfl) hl.1 ⟨Nat.le_of_ble_eq_true rfl, Nat.le_of_ble_eq_true rfl⟩ ⟨Nat.le_of_ble_eq_true rfl, Nat.le_of_ble_eq_true rfl⟩ dX11_chance_6) rfl rfl (fun u H locs hT => ?_)
  refine W.eq (g2 := F0 m 9 ls [.int (b01 (!decide (sd < 0) && !decide (1 < sd)))]) rfl ?_
  refine W.eq (g2 := F0 m 9 ls [.int 0]) (congrArg (fun z => F0 m 9 ls (.int z :: [])) (side_n hs0 hs1)) ?_
  refine lv_if_ne (tgt := 14) hx hb dX11_chance_9 (by decide) (fun h_1 => ?_) (fun h_1 => ?_)
  · skip
    exact absurd (by decide) h_1
  · skip
    refine lv_iconst (v := (-1)) hx hb dX11_chance_12 (by decide) ?_
    exact e_iret C hQ () hT rfl dX11_chance_13

set_option maxHeartbeats 400000 in
set_option maxRecDepth 100000 in
theorem c_X11_input_n (l : Launch) (g : GT) (mo : Nat → Nat) (rr : Nat) (th : Int32) (np : Nat) (no : Nat) (bt : Nat) (en : Bool) (xx : Int64) (ra : Nat) (t0 : Int32) (t1 : Int32) (s1 : Int32) (ca : Int32) (cq : Int32) (ch : Int32) (st : Nat → Int32) (fk : Nat → Int32) (fn : Nat → Int32) (fo : Nat → Int32) (bb : Nat → Int32) (wt : Nat → Int32) (nx : Nat → Int32) (cx : Nat → Int32) (pt : Nat → Int32) (le : Nat → Int32) (sc : Nat → Int32) (ss : Nat → Int32) (ww : Nat → Int32) (xc : Nat → Int32) (lo : Nat → Int64) (hi : Nat → Int64) (ou : Nat → Int32) (xi : Nat → Int32) (sd : Int32) (i : Int32) (hs0 : ¬ sd = 0) (hs1 : ¬ sd = 1) : OM (S := Unit) l g yX11_input cX11_input 3 (some .int) ({ frames := 1, cells := 0, slots := 0, locals := 20 } : Room) [.ref (mo 0), .int sd, .int i] (mdL g mo rr th np no bt en xx ra t0 t1 s1 ca cq ch st fk fn fo bb wt nx cx pt le sc ss ww xc lo hi ou xi) (fun _ => some (.int (-9999))) (fun _ => (mdL g mo rr 0 np no bt en xx ra t0 t1 s1 ca cq ch st fk fn fo bb wt nx cx pt le sc ss ww xc lo hi ou xi)) := by
  refine OM.startQ (by decide) (Nat.le_of_ble_eq_true rfl) ?_
  intro p e s m below meth c A ls Q H locs hQ C hnm hl hT
  have hx := C.x
  have hb := C.b
  have hl : lv_has ls 3 [(0, .ref (mo 0)), (1, .int sd), (2, .int i)] := hl
  refine lv_aload_n hx hb dX11_input_0 rfl (lv_at hl 0 rfl) ?_
  refine lv_iconst (v := 0) hx hb dX11_input_1 (by decide) ?_
  refine pX11_77 C hT (q0 := 0) rfl dX11_input_2 (fun H locs hT => ?_)
  have hT : Wd g A s (mdL g mo rr 0 np no bt en xx ra t0 t1 s1 ca cq ch st fk fn fo bb wt nx cx pt le sc ss ww xc lo hi ou xi) H locs := hT
  refine lv_iload_n hx hb dX11_input_5 rfl (lv_at hl 1 rfl) ?_
  have hM := c_X11_isSide l g sd
  refine r_callRO (js := []) C hT (runS (js := []) (rm := ({ frames := 0, cells := 0, slots := 0, locals := 0 } : Room)) (As := [.int sd]) (n := 1) (rest := []) C hT hM rfl rfl k986 k987 k15 k988 (by decide +kernel) rfl rfl (Nat.le_of_ble_eq_true rfl) hl.1 ⟨Nat.le_of_ble_eq_true rfl, Nat.le_of_ble_eq_true rfl⟩ ⟨Nat.le_of_ble_eq_true rfl, Nat.le_of_ble_eq_true rfl⟩ dX11_input_6) rfl rfl (fun u H locs hT => ?_)
  refine W.eq (g2 := F0 m 9 ls [.int (b01 (!decide (sd < 0) && !decide (1 < sd)))]) rfl ?_
  refine W.eq (g2 := F0 m 9 ls [.int 0]) (congrArg (fun z => F0 m 9 ls (.int z :: [])) (side_n hs0 hs1)) ?_
  refine lv_if_eq (tgt := 24) hx hb dX11_input_9 (by decide) (fun h_1 => ?_) (fun h_1 => ?_)
  · skip
    refine lv_sipush (v := (-9999)) hx hb dX11_input_24 (by decide) ?_
    refine lv_goto (tgt := 36) hx hb dX11_input_27 (by decide) ?_
    exact e_iret C hQ () hT rfl dX11_input_36
  · skip
    exact absurd (by decide) h_1

set_option maxHeartbeats 400000 in
set_option maxRecDepth 100000 in
theorem c_X11_weight_n (l : Launch) (g : GT) (mo : Nat → Nat) (rr : Nat) (th : Int32) (np : Nat) (no : Nat) (bt : Nat) (en : Bool) (xx : Int64) (ra : Nat) (t0 : Int32) (t1 : Int32) (s1 : Int32) (ca : Int32) (cq : Int32) (ch : Int32) (st : Nat → Int32) (fk : Nat → Int32) (fn : Nat → Int32) (fo : Nat → Int32) (bb : Nat → Int32) (wt : Nat → Int32) (nx : Nat → Int32) (cx : Nat → Int32) (pt : Nat → Int32) (le : Nat → Int32) (sc : Nat → Int32) (ss : Nat → Int32) (ww : Nat → Int32) (xc : Nat → Int32) (lo : Nat → Int64) (hi : Nat → Int64) (ou : Nat → Int32) (xi : Nat → Int32) (sd : Int32) (mx : Int32) (se : Int32) (i : Int32) (hs0 : ¬ sd = 0) (hs1 : ¬ sd = 1) : OM (S := Unit) l g yX11_weight cX11_weight 6 (some .int) ({ frames := 1, cells := 0, slots := 0, locals := 20 } : Room) [.ref (mo 0), .int sd, .int mx, .int se, .int i] (mdL g mo rr th np no bt en xx ra t0 t1 s1 ca cq ch st fk fn fo bb wt nx cx pt le sc ss ww xc lo hi ou xi) (fun _ => some (.int (-2000000))) (fun _ => (mdL g mo rr 0 np no bt en xx ra t0 t1 s1 ca cq ch st fk fn fo bb wt nx cx pt le sc ss ww xc lo hi ou xi)) := by
  refine OM.startQ (by decide) (Nat.le_of_ble_eq_true rfl) ?_
  intro p e s m below meth c A ls Q H locs hQ C hnm hl hT
  have hx := C.x
  have hb := C.b
  have hl : lv_has ls 6 [(0, .ref (mo 0)), (1, .int sd), (2, .int mx), (3, .int se), (4, .int i)] := hl
  refine lv_aload_n hx hb dX11_weight_0 rfl (lv_at hl 0 rfl) ?_
  refine lv_iconst (v := 0) hx hb dX11_weight_1 (by decide) ?_
  refine pX11_77 C hT (q0 := 0) rfl dX11_weight_2 (fun H locs hT => ?_)
  have hT : Wd g A s (mdL g mo rr 0 np no bt en xx ra t0 t1 s1 ca cq ch st fk fn fo bb wt nx cx pt le sc ss ww xc lo hi ou xi) H locs := hT
  refine lv_iload_n hx hb dX11_weight_5 rfl (lv_at hl 1 rfl) ?_
  have hM := c_X11_isSide l g sd
  refine r_callRO (js := []) C hT (runS (js := []) (rm := ({ frames := 0, cells := 0, slots := 0, locals := 0 } : Room)) (As := [.int sd]) (n := 1) (rest := []) C hT hM rfl rfl k986 k987 k15 k988 (by decide +kernel) rfl rfl (Nat.le_of_ble_eq_true rfl) hl.1 ⟨Nat.le_of_ble_eq_true rfl, Nat.le_of_ble_eq_true rfl⟩ ⟨Nat.le_of_ble_eq_true rfl, Nat.le_of_ble_eq_true rfl⟩ dX11_weight_6) rfl rfl (fun u H locs hT => ?_)
  refine W.eq (g2 := F0 m 9 ls [.int (b01 (!decide (sd < 0) && !decide (1 < sd)))]) rfl ?_
  refine W.eq (g2 := F0 m 9 ls [.int 0]) (congrArg (fun z => F0 m 9 ls (.int z :: [])) (side_n hs0 hs1)) ?_
  refine lv_if_eq (tgt := 50) hx hb dX11_weight_9 (by decide) (fun h_1 => ?_) (fun h_1 => ?_)
  · skip
    refine lv_iconst (v := 0) hx hb dX11_weight_50 (by decide) ?_
    refine lv_istore (lv' := [(5, .int 0), (0, .ref (mo 0)), (1, .int sd), (2, .int mx), (3, .int se), (4, .int i)]) hx hb dX11_weight_51 hl (by decide) rfl (fun ls hl => ?_)
    refine lv_iload hx hb dX11_weight_53 (lv_at hl 0 rfl) ?_
    refine lv_if_eq (tgt := 74) hx hb dX11_weight_55 (by decide) (fun h_2 => ?_) (fun h_2 => ?_)
    · skip
      refine lv_ldc (v := (-2000000)) hx hb C.ow (C.ts _ k997) dX11_weight_74 ?_
      exact e_iret C hQ () hT rfl dX11_weight_76
    · skip
      exact absurd (by decide) h_2
  · skip
    exact absurd (by decide) h_1

set_option maxHeartbeats 400000 in
set_option maxRecDepth 100000 in
theorem c_X11_slot_n (l : Launch) (g : GT) (mo : Nat → Nat) (rr : Nat) (th : Int32) (np : Nat) (no : Nat) (bt : Nat) (en : Bool) (xx : Int64) (ra : Nat) (t0 : Int32) (t1 : Int32) (s1 : Int32) (ca : Int32) (cq : Int32) (ch : Int32) (st : Nat → Int32) (fk : Nat → Int32) (fn : Nat → Int32) (fo : Nat → Int32) (bb : Nat → Int32) (wt : Nat → Int32) (nx : Nat → Int32) (cx : Nat → Int32) (pt : Nat → Int32) (le : Nat → Int32) (sc : Nat → Int32) (ss : Nat → Int32) (ww : Nat → Int32) (xc : Nat → Int32) (lo : Nat → Int64) (hi : Nat → Int64) (ou : Nat → Int32) (xi : Nat → Int32) (sd : Int32) (i : Int32) (hs0 : ¬ sd = 0) (hs1 : ¬ sd = 1) : OM (S := Unit) l g yX11_slot cX11_slot 3 (some .int) ({ frames := 1, cells := 0, slots := 0, locals := 20 } : Room) [.ref (mo 0), .int sd, .int i] (mdL g mo rr th np no bt en xx ra t0 t1 s1 ca cq ch st fk fn fo bb wt nx cx pt le sc ss ww xc lo hi ou xi) (fun _ => some (.int (-1))) (fun _ => (mdL g mo rr 0 np no bt en xx ra t0 t1 s1 ca cq ch st fk fn fo bb wt nx cx pt le sc ss ww xc lo hi ou xi)) := by
  refine OM.startQ (by decide) (Nat.le_of_ble_eq_true rfl) ?_
  intro p e s m below meth c A ls Q H locs hQ C hnm hl hT
  have hx := C.x
  have hb := C.b
  have hl : lv_has ls 3 [(0, .ref (mo 0)), (1, .int sd), (2, .int i)] := hl
  refine lv_aload_n hx hb dX11_slot_0 rfl (lv_at hl 0 rfl) ?_
  refine lv_iconst (v := 0) hx hb dX11_slot_1 (by decide) ?_
  refine pX11_77 C hT (q0 := 0) rfl dX11_slot_2 (fun H locs hT => ?_)
  have hT : Wd g A s (mdL g mo rr 0 np no bt en xx ra t0 t1 s1 ca cq ch st fk fn fo bb wt nx cx pt le sc ss ww xc lo hi ou xi) H locs := hT
  refine lv_iload_n hx hb dX11_slot_5 rfl (lv_at hl 1 rfl) ?_
  have hM := c_X11_isSide l g sd
  refine r_callRO (js := []) C hT (runS (js := []) (rm := ({ frames := 0, cells := 0, slots := 0, locals := 0 } : Room)) (As := [.int sd]) (n := 1) (rest := []) C hT hM rfl rfl k986 k987 k15 k988 (by decide +kernel) rfl rfl (Nat.le_of_ble_eq_true rfl) hl.1 ⟨Nat.le_of_ble_eq_true rfl, Nat.le_of_ble_eq_true rfl⟩ ⟨Nat.le_of_ble_eq_true rfl, Nat.le_of_ble_eq_true rfl⟩ dX11_slot_6) rfl rfl (fun u H locs hT => ?_)
  refine W.eq (g2 := F0 m 9 ls [.int (b01 (!decide (sd < 0) && !decide (1 < sd)))]) rfl ?_
  refine W.eq (g2 := F0 m 9 ls [.int 0]) (congrArg (fun z => F0 m 9 ls (.int z :: [])) (side_n hs0 hs1)) ?_
  refine lv_if_ne (tgt := 14) hx hb dX11_slot_9 (by decide) (fun h_1 => ?_) (fun h_1 => ?_)
  · skip
    exact absurd (by decide) h_1
  · skip
    refine lv_iconst (v := (-1)) hx hb dX11_slot_12 (by decide) ?_
    exact e_iret C hQ () hT rfl dX11_slot_13

set_option maxHeartbeats 400000 in
set_option maxRecDepth 100000 in
theorem c_X11_seen_n (l : Launch) (g : GT) (mo : Nat → Nat) (rr : Nat) (th : Int32) (np : Nat) (no : Nat) (bt : Nat) (en : Bool) (xx : Int64) (ra : Nat) (t0 : Int32) (t1 : Int32) (s1 : Int32) (ca : Int32) (cq : Int32) (ch : Int32) (st : Nat → Int32) (fk : Nat → Int32) (fn : Nat → Int32) (fo : Nat → Int32) (bb : Nat → Int32) (wt : Nat → Int32) (nx : Nat → Int32) (cx : Nat → Int32) (pt : Nat → Int32) (le : Nat → Int32) (sc : Nat → Int32) (ss : Nat → Int32) (ww : Nat → Int32) (xc : Nat → Int32) (lo : Nat → Int64) (hi : Nat → Int64) (ou : Nat → Int32) (xi : Nat → Int32) (sd : Int32) (i : Int32) (hs0 : ¬ sd = 0) (hs1 : ¬ sd = 1) : OM (S := Unit) l g yX11_seen cX11_seen 3 (some .int) ({ frames := 1, cells := 0, slots := 0, locals := 20 } : Room) [.ref (mo 0), .int sd, .int i] (mdL g mo rr th np no bt en xx ra t0 t1 s1 ca cq ch st fk fn fo bb wt nx cx pt le sc ss ww xc lo hi ou xi) (fun _ => some (.int (-1))) (fun _ => (mdL g mo rr 0 np no bt en xx ra t0 t1 s1 ca cq ch st fk fn fo bb wt nx cx pt le sc ss ww xc lo hi ou xi)) := by
  refine OM.startQ (by decide) (Nat.le_of_ble_eq_true rfl) ?_
  intro p e s m below meth c A ls Q H locs hQ C hnm hl hT
  have hx := C.x
  have hb := C.b
  have hl : lv_has ls 3 [(0, .ref (mo 0)), (1, .int sd), (2, .int i)] := hl
  refine lv_aload_n hx hb dX11_seen_0 rfl (lv_at hl 0 rfl) ?_
  refine lv_iconst (v := 0) hx hb dX11_seen_1 (by decide) ?_
  refine pX11_77 C hT (q0 := 0) rfl dX11_seen_2 (fun H locs hT => ?_)
  have hT : Wd g A s (mdL g mo rr 0 np no bt en xx ra t0 t1 s1 ca cq ch st fk fn fo bb wt nx cx pt le sc ss ww xc lo hi ou xi) H locs := hT
  refine lv_iload_n hx hb dX11_seen_5 rfl (lv_at hl 1 rfl) ?_
  have hM := c_X11_isSide l g sd
  refine r_callRO (js := []) C hT (runS (js := []) (rm := ({ frames := 0, cells := 0, slots := 0, locals := 0 } : Room)) (As := [.int sd]) (n := 1) (rest := []) C hT hM rfl rfl k986 k987 k15 k988 (by decide +kernel) rfl rfl (Nat.le_of_ble_eq_true rfl) hl.1 ⟨Nat.le_of_ble_eq_true rfl, Nat.le_of_ble_eq_true rfl⟩ ⟨Nat.le_of_ble_eq_true rfl, Nat.le_of_ble_eq_true rfl⟩ dX11_seen_6) rfl rfl (fun u H locs hT => ?_)
  refine W.eq (g2 := F0 m 9 ls [.int (b01 (!decide (sd < 0) && !decide (1 < sd)))]) rfl ?_
  refine W.eq (g2 := F0 m 9 ls [.int 0]) (congrArg (fun z => F0 m 9 ls (.int z :: [])) (side_n hs0 hs1)) ?_
  refine lv_if_eq (tgt := 26) hx hb dX11_seen_9 (by decide) (fun h_1 => ?_) (fun h_1 => ?_)
  · skip
    refine lv_iconst (v := (-1)) hx hb dX11_seen_26 (by decide) ?_
    refine lv_goto (tgt := 42) hx hb dX11_seen_27 (by decide) ?_
    exact e_iret C hQ () hT rfl dX11_seen_42
  · skip
    exact absurd (by decide) h_1

set_option maxHeartbeats 400000 in
set_option maxRecDepth 100000 in
theorem c_X11_cell_n (l : Launch) (g : GT) (mo : Nat → Nat) (rr : Nat) (th : Int32) (np : Nat) (no : Nat) (bt : Nat) (en : Bool) (xx : Int64) (ra : Nat) (t0 : Int32) (t1 : Int32) (s1 : Int32) (ca : Int32) (cq : Int32) (ch : Int32) (st : Nat → Int32) (fk : Nat → Int32) (fn : Nat → Int32) (fo : Nat → Int32) (bb : Nat → Int32) (wt : Nat → Int32) (nx : Nat → Int32) (cx : Nat → Int32) (pt : Nat → Int32) (le : Nat → Int32) (sc : Nat → Int32) (ss : Nat → Int32) (ww : Nat → Int32) (xc : Nat → Int32) (lo : Nat → Int64) (hi : Nat → Int64) (ou : Nat → Int32) (xi : Nat → Int32) (sd : Int32) (nn : Int32) (j : Int32) (hs0 : ¬ sd = 0) (hs1 : ¬ sd = 1) : OM (S := Unit) l g yX11_cell cX11_cell 5 (some .int) ({ frames := 1, cells := 0, slots := 0, locals := 20 } : Room) [.ref (mo 0), .int sd, .int nn, .int j] (mdL g mo rr th np no bt en xx ra t0 t1 s1 ca cq ch st fk fn fo bb wt nx cx pt le sc ss ww xc lo hi ou xi) (fun _ => some (.int 40000)) (fun _ => (mdL g mo rr 0 np no bt en xx ra t0 t1 s1 ca cq ch st fk fn fo bb wt nx cx pt le sc ss ww xc lo hi ou xi)) := by
  refine OM.startQ (by decide) (Nat.le_of_ble_eq_true rfl) ?_
  intro p e s m below meth c A ls Q H locs hQ C hnm hl hT
  have hx := C.x
  have hb := C.b
  have hl : lv_has ls 5 [(0, .ref (mo 0)), (1, .int sd), (2, .int nn), (3, .int j)] := hl
  refine lv_aload_n hx hb dX11_cell_0 rfl (lv_at hl 0 rfl) ?_
  refine lv_iconst (v := 0) hx hb dX11_cell_1 (by decide) ?_
  refine pX11_77 C hT (q0 := 0) rfl dX11_cell_2 (fun H locs hT => ?_)
  have hT : Wd g A s (mdL g mo rr 0 np no bt en xx ra t0 t1 s1 ca cq ch st fk fn fo bb wt nx cx pt le sc ss ww xc lo hi ou xi) H locs := hT
  refine lv_iload_n hx hb dX11_cell_5 rfl (lv_at hl 1 rfl) ?_
  have hM := c_X11_isSide l g sd
  refine r_callRO (js := []) C hT (runS (js := []) (rm := ({ frames := 0, cells := 0, slots := 0, locals := 0 } : Room)) (As := [.int sd]) (n := 1) (rest := []) C hT hM rfl rfl k986 k987 k15 k988 (by decide +kernel) rfl rfl (Nat.le_of_ble_eq_true rfl) hl.1 ⟨Nat.le_of_ble_eq_true rfl, Nat.le_of_ble_eq_true rfl⟩ ⟨Nat.le_of_ble_eq_true rfl, Nat.le_of_ble_eq_true rfl⟩ dX11_cell_6) rfl rfl (fun u H locs hT => ?_)
  refine W.eq (g2 := F0 m 9 ls [.int (b01 (!decide (sd < 0) && !decide (1 < sd)))]) rfl ?_
  refine W.eq (g2 := F0 m 9 ls [.int 0]) (congrArg (fun z => F0 m 9 ls (.int z :: [])) (side_n hs0 hs1)) ?_
  refine lv_if_eq (tgt := 33) hx hb dX11_cell_9 (by decide) (fun h_1 => ?_) (fun h_1 => ?_)
  · skip
    refine lv_ldc (v := 40000) hx hb C.ow (C.ts _ k1010) dX11_cell_33 ?_
    exact e_iret C hQ () hT rfl dX11_cell_35
  · skip
    exact absurd (by decide) h_1

set_option maxHeartbeats 400000 in
set_option maxRecDepth 100000 in
theorem c_X11_chance (l : Launch) (g : GT) (mo : Nat → Nat) (rr : Nat) (th : Int32) (np : Nat) (no : Nat) (bt : Nat) (en : Bool) (xx : Int64) (ra : Nat) (t0 : Int32) (t1 : Int32) (s1 : Int32) (ca : Int32) (cq : Int32) (ch : Int32) (st : Nat → Int32) (fk : Nat → Int32) (fn : Nat → Int32) (fo : Nat → Int32) (bb : Nat → Int32) (wt : Nat → Int32) (nx : Nat → Int32) (cx : Nat → Int32) (pt : Nat → Int32) (le : Nat → Int32) (sc : Nat → Int32) (ss : Nat → Int32) (ww : Nat → Int32) (xc : Nat → Int32) (lo : Nat → Int64) (hi : Nat → Int64) (ou : Nat → Int32) (xi : Nat → Int32) (sd : Nat) (N : Nat) (U : SSt) (hsd : sd < 2) (hG : GI st N rr np fk fn) (hRS : RS sd N np fk U bb wt nx cx pt le sc ss ww xc) (hX : SX N np fk U) : OM (S := {zq : (Int32) × (Int32) × (Int32) × (Int32) × (Int32) × (Int32) × (Nat → Int32) // (True)}) l g yX11_chance cX11_chance 2 (some .int) ({ frames := 4, cells := 0, slots := 0, locals := 95 } : Room) [.ref (mo 0), .int (nI sd)] (mdL g mo rr th np no bt en xx ra t0 t1 s1 ca cq ch st fk fn fo bb wt nx cx pt le sc ss ww xc lo hi ou xi) (fun zu => some (.int (chS st N np fk fo U))) (fun zu => (mdL g mo rr 0 np no bt en xx ra zu.1.1 zu.1.2.1 zu.1.2.2.1 zu.1.2.2.2.1 zu.1.2.2.2.2.1 zu.1.2.2.2.2.2.1 st fk fn fo bb wt nx cx pt le sc ss ww xc lo hi ou zu.1.2.2.2.2.2.2)) := by
  refine OM.startQ (by decide) (Nat.le_of_ble_eq_true rfl) ?_
  intro p e s m below meth c A ls Q H locs hQ C hnm hl hT
  have hx := C.x
  have hb := C.b
  have hl : lv_has ls 2 [(0, .ref (mo 0)), (1, .int (nI sd))] := hl
  refine lv_aload_n hx hb dX11_chance_0 rfl (lv_at hl 0 rfl) ?_
  refine lv_iconst (v := 0) hx hb dX11_chance_1 (by decide) ?_
  refine pX11_77 C hT (q0 := 0) rfl dX11_chance_2 (fun H locs hT => ?_)
  have hT : Wd g A s (mdL g mo rr 0 np no bt en xx ra t0 t1 s1 ca cq ch st fk fn fo bb wt nx cx pt le sc ss ww xc lo hi ou xi) H locs := hT
  refine lv_iload_n hx hb dX11_chance_5 rfl (lv_at hl 1 rfl) ?_
  have hM := c_X11_isSide l g (nI sd)
  refine r_callRO (js := []) C hT (runS (js := []) (rm := ({ frames := 0, cells := 0, slots := 0, locals := 0 } : Room)) (As := [.int (nI sd)]) (n := 1) (rest := []) C hT hM rfl rfl k986 k987 k15 k988 (by decide +kernel) rfl rfl (Nat.le_of_ble_eq_true rfl) hl.1 ⟨Nat.le_of_ble_eq_true rfl, Nat.le_of_ble_eq_true rfl⟩ ⟨Nat.le_of_ble_eq_true rfl, Nat.le_of_ble_eq_true rfl⟩ dX11_chance_6) rfl rfl (fun u H locs hT => ?_)
  refine W.eq (g2 := F0 m 9 ls [.int (b01 (!decide ((nI sd) < 0) && !decide (1 < (nI sd))))]) rfl ?_
  refine W.eq (g2 := F0 m 9 ls [.int 1]) (congrArg (fun z => F0 m 9 ls (.int z :: [])) (side_y hsd)) ?_
  refine lv_if_ne (tgt := 14) hx hb dX11_chance_9 (by decide) (fun h_1 => ?_) (fun h_1 => ?_)
  · skip
    refine lv_aload_n hx hb dX11_chance_14 rfl (lv_at hl 0 rfl) ?_
    refine lv_iload_n hx hb dX11_chance_15 rfl (lv_at hl 1 rfl) ?_
    have hM := c_X11_work l g mo rr 0 np no bt en xx ra t0 t1 s1 ca cq ch st fk fn fo bb wt nx cx pt le sc ss ww xc lo hi ou xi sd N U hsd hG hRS hX
    refine r_callW C hT (runVW (rm := ({ frames := 3, cells := 0, slots := 0, locals := 70 } : Room)) (As := [.int (nI sd)]) (n := 1) (q1 := 0) (rest := []) C hT hM k911 k913 s20 k15 k914 (by decide +kernel) rfl rfl rfl rfl (Nat.le_of_ble_eq_true rfl) hl.1 ⟨Nat.le_of_ble_eq_true rfl, Nat.le_of_ble_eq_true rfl⟩ ⟨Nat.le_of_ble_eq_true rfl, Nat.le_of_ble_eq_true rfl⟩ dX11_chance_16) (fun u H locs hT => ?_)
    have hT : Wd g A s (mdL g mo rr 0 np no bt en xx ra (t0S st N np fk fo U) (t1S st N np fk fo U) (nI (lbN (s_f U) (s_n U))) (nI (8448 * sd + 33 * s_nd U + tN st (mxS st N np fk fo U) / 128)) (nI (tN st (mxS st N np fk fo U) % 128)) (chS st N np fk fo U) st fk fn fo bb wt nx cx pt le sc ss ww xc lo hi ou (setTo (inQ st N np fk fo U) xi (np + 1))) H locs := hT
    refine W.eq (g2 := F0 m 19 ls []) rfl ?_
    refine lv_aload_n hx hb dX11_chance_19 rfl (lv_at hl 0 rfl) ?_
    refine gX11_170 C hT (q0 := 0) rfl dX11_chance_20 ?_
    refine W.eq (g2 := F0 m 23 ls [.int (chS st N np fk fo U)]) (congrArg (fun z => F0 m 23 ls (.int z :: [])) (rfl)) ?_
    have hT : Wd g A s (mdL g mo rr 0 np no bt en xx ra (t0S st N np fk fo U) (t1S st N np fk fo U) (nI (lbN (s_f U) (s_n U))) (nI (8448 * sd + 33 * s_nd U + tN st (mxS st N np fk fo U) / 128)) (nI (tN st (mxS st N np fk fo U) % 128)) (chS st N np fk fo U) st fk fn fo bb wt nx cx pt le sc ss ww xc lo hi ou (setTo (inQ st N np fk fo U) xi (np + 1))) H locs := hT
    generalize hzg_t02 : (t0S st N np fk fo U) = zg_t02 at hT
    generalize hzg_t12 : (t1S st N np fk fo U) = zg_t12 at hT
    generalize hzg_s12 : (nI (lbN (s_f U) (s_n U))) = zg_s12 at hT
    generalize hzg_ca2 : (nI (8448 * sd + 33 * s_nd U + tN st (mxS st N np fk fo U) / 128)) = zg_ca2 at hT
    generalize hzg_cq2 : (nI (tN st (mxS st N np fk fo U) % 128)) = zg_cq2 at hT
    generalize hzg_ch2 : (chS st N np fk fo U) = zg_ch2 at hT
    generalize hzg_xi2 : (setTo (inQ st N np fk fo U) xi (np + 1)) = zg_xi2 at hT
    exact e_iret C hQ ⟨(zg_t02, zg_t12, zg_s12, zg_ca2, zg_cq2, zg_ch2, zg_xi2), True.intro⟩ hT (by rw [hzg_ch2]) dX11_chance_23
  · skip
    exact absurd h_1 (by decide)

set_option maxHeartbeats 400000 in
set_option maxRecDepth 100000 in
theorem c_X11_input (l : Launch) (g : GT) (mo : Nat → Nat) (rr : Nat) (th : Int32) (np : Nat) (no : Nat) (bt : Nat) (en : Bool) (xx : Int64) (ra : Nat) (t0 : Int32) (t1 : Int32) (s1 : Int32) (ca : Int32) (cq : Int32) (ch : Int32) (st : Nat → Int32) (fk : Nat → Int32) (fn : Nat → Int32) (fo : Nat → Int32) (bb : Nat → Int32) (wt : Nat → Int32) (nx : Nat → Int32) (cx : Nat → Int32) (pt : Nat → Int32) (le : Nat → Int32) (sc : Nat → Int32) (ss : Nat → Int32) (ww : Nat → Int32) (xc : Nat → Int32) (lo : Nat → Int64) (hi : Nat → Int64) (ou : Nat → Int32) (xi : Nat → Int32) (sd : Nat) (N : Nat) (U : SSt) (i : Int32) (hsd : sd < 2) (hG : GI st N rr np fk fn) (hRS : RS sd N np fk U bb wt nx cx pt le sc ss ww xc) (hX : SX N np fk U) : OM (S := Unit) l g yX11_input cX11_input 3 (some .int) ({ frames := 3, cells := 0, slots := 0, locals := 70 } : Room) [.ref (mo 0), .int (nI sd), .int i] (mdL g mo rr th np no bt en xx ra t0 t1 s1 ca cq ch st fk fn fo bb wt nx cx pt le sc ss ww xc lo hi ou xi) (fun _ => some (.int (if inR i np = true then inS st N fk fo U i.toNatClampNeg else (-9999)))) (fun _ => (mdL g mo rr 0 np no bt en xx ra t0 t1 s1 ca cq ch st fk fn fo bb wt nx cx pt le sc ss ww xc lo hi ou xi)) := by
  refine OM.startQ (by decide) (Nat.le_of_ble_eq_true rfl) ?_
  intro p e s m below meth c A ls Q H locs hQ C hnm hl hT
  have hx := C.x
  have hb := C.b
  have hl : lv_has ls 3 [(0, .ref (mo 0)), (1, .int (nI sd)), (2, .int i)] := hl
  have hnp := hG.1
  refine lv_aload_n hx hb dX11_input_0 rfl (lv_at hl 0 rfl) ?_
  refine lv_iconst (v := 0) hx hb dX11_input_1 (by decide) ?_
  refine pX11_77 C hT (q0 := 0) rfl dX11_input_2 (fun H locs hT => ?_)
  have hT : Wd g A s (mdL g mo rr 0 np no bt en xx ra t0 t1 s1 ca cq ch st fk fn fo bb wt nx cx pt le sc ss ww xc lo hi ou xi) H locs := hT
  refine lv_iload_n hx hb dX11_input_5 rfl (lv_at hl 1 rfl) ?_
  have hM := c_X11_isSide l g (nI sd)
  refine r_callRO (js := []) C hT (runS (js := []) (rm := ({ frames := 0, cells := 0, slots := 0, locals := 0 } : Room)) (As := [.int (nI sd)]) (n := 1) (rest := []) C hT hM rfl rfl k986 k987 k15 k988 (by decide +kernel) rfl rfl (Nat.le_of_ble_eq_true rfl) hl.1 ⟨Nat.le_of_ble_eq_true rfl, Nat.le_of_ble_eq_true rfl⟩ ⟨Nat.le_of_ble_eq_true rfl, Nat.le_of_ble_eq_true rfl⟩ dX11_input_6) rfl rfl (fun u H locs hT => ?_)
  refine W.eq (g2 := F0 m 9 ls [.int (b01 (!decide ((nI sd) < 0) && !decide (1 < (nI sd))))]) rfl ?_
  refine W.eq (g2 := F0 m 9 ls [.int 1]) (congrArg (fun z => F0 m 9 ls (.int z :: [])) (side_y hsd)) ?_
  refine lv_if_eq (tgt := 24) hx hb dX11_input_9 (by decide) (fun h_1 => ?_) (fun h_1 => ?_)
  · skip
    exact absurd h_1 (by decide)
  · skip
    refine lv_iload_n hx hb dX11_input_12 rfl (lv_at hl 2 rfl) ?_
    refine lv_if_lt (tgt := 24) hx hb dX11_input_13 (by decide) (fun h_2 => ?_) (fun h_2 => ?_)
    · skip
      have hr : inR i np = false := by simp [inR, h_2]
      refine lv_sipush (v := (-9999)) hx hb dX11_input_24 (by decide) ?_
      refine lv_goto (tgt := 36) hx hb dX11_input_27 (by decide) ?_
      exact e_iret C hQ () hT (by first | (rw [if_pos hr, vej, nI_clamp (by omega), inQ, if_neg (by omega)]; done) | (rw [if_neg (by rw [hr]; decide)])) dX11_input_36
    · skip
      have hq0 := h_2
      refine lv_iload_n hx hb dX11_input_16 rfl (lv_at hl 2 rfl) ?_
      refine lv_aload_n hx hb dX11_input_17 rfl (lv_at hl 0 rfl) ?_
      refine gX11_91 C hT (q0 := 0) rfl dX11_input_18 ?_
      refine lv_icmp_lt (tgt := 30) hx hb dX11_input_21 (by decide) (fun h_3 => ?_) (fun h_3 => ?_)
      · skip
        have hr : inR i np = true := inR_lt hq0 h_3
        obtain ⟨j, hj, vej⟩ := inR_of (by omega) hr
        refine lv_aload_n hx hb dX11_input_30 rfl (lv_at hl 0 rfl) ?_
        refine lv_iload_n hx hb dX11_input_31 rfl (lv_at hl 1 rfl) ?_
        refine lv_iload_n hx hb dX11_input_32 rfl (lv_at hl 2 rfl) ?_
        refine W.eq (g2 := F0 m 33 ls [.int (nI j), .int (nI sd), .ref (mo 0)]) (congrArg (fun z => F0 m 33 ls (.int z :: [.int (nI sd), .ref (mo 0)])) (vej)) ?_
        have hM := c_X11_inputOf l g mo rr 0 np no bt en xx ra t0 t1 s1 ca cq ch st fk fn fo bb wt nx cx pt le sc ss ww xc lo hi ou xi sd N U j hsd hG hRS hX (by omega)
        refine r_callRO (js := [0, 1, 2, 3, 4, 5, 6, 7, 8, 9, 10, 11, 12, 13, 14, 15, 16, 17, 18]) C hT (runV (js := [0, 1, 2, 3, 4, 5, 6, 7, 8, 9, 10, 11, 12, 13, 14, 15, 16, 17, 18]) (rm := ({ frames := 2, cells := 0, slots := 0, locals := 44 } : Room)) (As := [.int (nI sd), .int (nI j)]) (n := 2) (q1 := 0) (rest := []) C hT hM rfl rfl k915 k917 s21 k15 k918 (by decide +kernel) rfl rfl rfl rfl (Nat.le_of_ble_eq_true rfl) hl.1 ⟨Nat.le_of_ble_eq_true rfl, Nat.le_of_ble_eq_true rfl⟩ ⟨Nat.le_of_ble_eq_true rfl, Nat.le_of_ble_eq_true rfl⟩ dX11_input_33) rfl rfl (fun u H locs hT => ?_)
        refine W.eq (g2 := F0 m 36 ls [.int (inQ st N np fk fo U j)]) rfl ?_
        exact e_iret C hQ () hT (by first | (rw [if_pos hr, vej, nI_clamp (by omega), inQ, if_neg (by omega)]; done) | (rw [if_neg (by rw [hr]; decide)])) dX11_input_36
      · skip
        have hr : inR i np = false := inR_nlt h_3
        refine lv_sipush (v := (-9999)) hx hb dX11_input_24 (by decide) ?_
        refine lv_goto (tgt := 36) hx hb dX11_input_27 (by decide) ?_
        exact e_iret C hQ () hT (by first | (rw [if_pos hr, vej, nI_clamp (by omega), inQ, if_neg (by omega)]; done) | (rw [if_neg (by rw [hr]; decide)])) dX11_input_36

set_option maxHeartbeats 400000 in
set_option maxRecDepth 100000 in
theorem c_X11_weight (l : Launch) (g : GT) (mo : Nat → Nat) (rr : Nat) (th : Int32) (np : Nat) (no : Nat) (bt : Nat) (en : Bool) (xx : Int64) (ra : Nat) (t0 : Int32) (t1 : Int32) (s1 : Int32) (ca : Int32) (cq : Int32) (ch : Int32) (st : Nat → Int32) (fk : Nat → Int32) (fn : Nat → Int32) (fo : Nat → Int32) (bb : Nat → Int32) (wt : Nat → Int32) (nx : Nat → Int32) (cx : Nat → Int32) (pt : Nat → Int32) (le : Nat → Int32) (sc : Nat → Int32) (ss : Nat → Int32) (ww : Nat → Int32) (xc : Nat → Int32) (lo : Nat → Int64) (hi : Nat → Int64) (ou : Nat → Int32) (xi : Nat → Int32) (sd : Nat) (N : Nat) (U : SSt) (mx : Int32) (se : Int32) (i : Int32) (hsd : sd < 2) (hnp : np ≤ 8) (hW : RSw sd np U ww) : OM (S := Unit) l g yX11_weight cX11_weight 6 (some .int) ({ frames := 1, cells := 0, slots := 0, locals := 23 } : Room) [.ref (mo 0), .int (nI sd), .int mx, .int se, .int i] (mdL g mo rr th np no bt en xx ra t0 t1 s1 ca cq ch st fk fn fo bb wt nx cx pt le sc ss ww xc lo hi ou xi) (fun _ => some (.int (weI (s_f0 U) (s_f1 U) np mx se i))) (fun _ => (mdL g mo rr 0 np no bt en xx ra t0 t1 s1 ca cq ch st fk fn fo bb wt nx cx pt le sc ss ww xc lo hi ou xi)) := by
  refine OM.startQ (by decide) (Nat.le_of_ble_eq_true rfl) ?_
  intro p e s m below meth c A ls Q H locs hQ C hnm hl hT
  have hx := C.x
  have hb := C.b
  have hl : lv_has ls 6 [(0, .ref (mo 0)), (1, .int (nI sd)), (2, .int mx), (3, .int se), (4, .int i)] := hl
  refine lv_aload_n hx hb dX11_weight_0 rfl (lv_at hl 0 rfl) ?_
  refine lv_iconst (v := 0) hx hb dX11_weight_1 (by decide) ?_
  refine pX11_77 C hT (q0 := 0) rfl dX11_weight_2 (fun H locs hT => ?_)
  have hT : Wd g A s (mdL g mo rr 0 np no bt en xx ra t0 t1 s1 ca cq ch st fk fn fo bb wt nx cx pt le sc ss ww xc lo hi ou xi) H locs := hT
  refine lv_iload_n hx hb dX11_weight_5 rfl (lv_at hl 1 rfl) ?_
  have hM := c_X11_isSide l g (nI sd)
  refine r_callRO (js := []) C hT (runS (js := []) (rm := ({ frames := 0, cells := 0, slots := 0, locals := 0 } : Room)) (As := [.int (nI sd)]) (n := 1) (rest := []) C hT hM rfl rfl k986 k987 k15 k988 (by decide +kernel) rfl rfl (Nat.le_of_ble_eq_true rfl) hl.1 ⟨Nat.le_of_ble_eq_true rfl, Nat.le_of_ble_eq_true rfl⟩ ⟨Nat.le_of_ble_eq_true rfl, Nat.le_of_ble_eq_true rfl⟩ dX11_weight_6) rfl rfl (fun u H locs hT => ?_)
  refine W.eq (g2 := F0 m 9 ls [.int (b01 (!decide ((nI sd) < 0) && !decide (1 < (nI sd))))]) rfl ?_
  refine W.eq (g2 := F0 m 9 ls [.int 1]) (congrArg (fun z => F0 m 9 ls (.int z :: [])) (side_y hsd)) ?_
  refine lv_if_eq (tgt := 50) hx hb dX11_weight_9 (by decide) (fun h_1 => ?_) (fun h_1 => ?_)
  · skip
    exact absurd h_1 (by decide)
  · skip
    refine lv_iload_n hx hb dX11_weight_12 rfl (lv_at hl 2 rfl) ?_
    refine lv_if_lt (tgt := 50) hx hb dX11_weight_13 (by decide) (fun h_2 => ?_) (fun h_2 => ?_)
    · skip
      have hbad : mx < 0 ∨ 1 < mx ∨ se < 0 ∨ 255 < se ∨ i < 0 ∨ nI np < i := Or.inl h_2
      refine lv_iconst (v := 0) hx hb dX11_weight_50 (by decide) ?_
      refine lv_istore (lv' := [(5, .int 0), (0, .ref (mo 0)), (1, .int (nI sd)), (2, .int mx), (3, .int se), (4, .int i)]) hx hb dX11_weight_51 hl (by decide) rfl (fun ls hl => ?_)
      refine lv_iload hx hb dX11_weight_53 (lv_at hl 0 rfl) ?_
      refine lv_if_eq (tgt := 74) hx hb dX11_weight_55 (by decide) (fun h_3 => ?_) (fun h_3 => ?_)
      · skip
        refine lv_ldc (v := (-2000000)) hx hb C.ow (C.ts _ k997) dX11_weight_74 ?_
        exact e_iret C hQ () hT (by rw [we_bad hnp hbad]) dX11_weight_76
      · skip
        exact absurd (by decide) h_3
    · skip
      have hm0 := h_2
      refine lv_iload_n hx hb dX11_weight_16 rfl (lv_at hl 2 rfl) ?_
      refine lv_iconst (v := 1) hx hb dX11_weight_17 (by decide) ?_
      refine lv_icmp_gt (tgt := 50) hx hb dX11_weight_18 (by decide) (fun h_4 => ?_) (fun h_4 => ?_)
      · skip
        have hbad : mx < 0 ∨ 1 < mx ∨ se < 0 ∨ 255 < se ∨ i < 0 ∨ nI np < i := Or.inr (Or.inl h_4)
        refine lv_iconst (v := 0) hx hb dX11_weight_50 (by decide) ?_
        refine lv_istore (lv' := [(5, .int 0), (0, .ref (mo 0)), (1, .int (nI sd)), (2, .int mx), (3, .int se), (4, .int i)]) hx hb dX11_weight_51 hl (by decide) rfl (fun ls hl => ?_)
        refine lv_iload hx hb dX11_weight_53 (lv_at hl 0 rfl) ?_
        refine lv_if_eq (tgt := 74) hx hb dX11_weight_55 (by decide) (fun h_5 => ?_) (fun h_5 => ?_)
        · skip
          refine lv_ldc (v := (-2000000)) hx hb C.ow (C.ts _ k997) dX11_weight_74 ?_
          exact e_iret C hQ () hT (by rw [we_bad hnp hbad]) dX11_weight_76
        · skip
          exact absurd (by decide) h_5
      · skip
        obtain ⟨m2, hm2, vem⟩ := two_of hm0 h_4
        refine lv_iload_n hx hb dX11_weight_21 rfl (lv_at hl 3 rfl) ?_
        refine lv_if_lt (tgt := 50) hx hb dX11_weight_22 (by decide) (fun h_6 => ?_) (fun h_6 => ?_)
        · skip
          have hbad : mx < 0 ∨ 1 < mx ∨ se < 0 ∨ 255 < se ∨ i < 0 ∨ nI np < i := Or.inr (Or.inr (Or.inl h_6))
          refine lv_iconst (v := 0) hx hb dX11_weight_50 (by decide) ?_
          refine lv_istore (lv' := [(5, .int 0), (0, .ref (mo 0)), (1, .int (nI sd)), (2, .int mx), (3, .int se), (4, .int i)]) hx hb dX11_weight_51 hl (by decide) rfl (fun ls hl => ?_)
          refine lv_iload hx hb dX11_weight_53 (lv_at hl 0 rfl) ?_
          refine lv_if_eq (tgt := 74) hx hb dX11_weight_55 (by decide) (fun h_7 => ?_) (fun h_7 => ?_)
          · skip
            refine lv_ldc (v := (-2000000)) hx hb C.ow (C.ts _ k997) dX11_weight_74 ?_
            exact e_iret C hQ () hT (by rw [we_bad hnp hbad]) dX11_weight_76
          · skip
            exact absurd (by decide) h_7
        · skip
          have hs0 := h_6
          refine lv_iload_n hx hb dX11_weight_25 rfl (lv_at hl 3 rfl) ?_
          refine lv_sipush (v := 255) hx hb dX11_weight_26 (by decide) ?_
          refine lv_icmp_gt (tgt := 50) hx hb dX11_weight_29 (by decide) (fun h_8 => ?_) (fun h_8 => ?_)
          · skip
            have hbad : mx < 0 ∨ 1 < mx ∨ se < 0 ∨ 255 < se ∨ i < 0 ∨ nI np < i := Or.inr (Or.inr (Or.inr (Or.inl h_8)))
            refine lv_iconst (v := 0) hx hb dX11_weight_50 (by decide) ?_
            refine lv_istore (lv' := [(5, .int 0), (0, .ref (mo 0)), (1, .int (nI sd)), (2, .int mx), (3, .int se), (4, .int i)]) hx hb dX11_weight_51 hl (by decide) rfl (fun ls hl => ?_)
            refine lv_iload hx hb dX11_weight_53 (lv_at hl 0 rfl) ?_
            refine lv_if_eq (tgt := 74) hx hb dX11_weight_55 (by decide) (fun h_9 => ?_) (fun h_9 => ?_)
            · skip
              refine lv_ldc (v := (-2000000)) hx hb C.ow (C.ts _ k997) dX11_weight_74 ?_
              exact e_iret C hQ () hT (by rw [we_bad hnp hbad]) dX11_weight_76
            · skip
              exact absurd (by decide) h_9
          · skip
            obtain ⟨k, hk, vek⟩ := k255_of hs0 h_8
            refine lv_iload hx hb dX11_weight_32 (lv_at hl 4 rfl) ?_
            refine lv_if_lt (tgt := 50) hx hb dX11_weight_34 (by decide) (fun h_10 => ?_) (fun h_10 => ?_)
            · skip
              have hbad : mx < 0 ∨ 1 < mx ∨ se < 0 ∨ 255 < se ∨ i < 0 ∨ nI np < i := Or.inr (Or.inr (Or.inr (Or.inr (Or.inl h_10))))
              refine lv_iconst (v := 0) hx hb dX11_weight_50 (by decide) ?_
              refine lv_istore (lv' := [(5, .int 0), (0, .ref (mo 0)), (1, .int (nI sd)), (2, .int mx), (3, .int se), (4, .int i)]) hx hb dX11_weight_51 hl (by decide) rfl (fun ls hl => ?_)
              refine lv_iload hx hb dX11_weight_53 (lv_at hl 0 rfl) ?_
              refine lv_if_eq (tgt := 74) hx hb dX11_weight_55 (by decide) (fun h_11 => ?_) (fun h_11 => ?_)
              · skip
                refine lv_ldc (v := (-2000000)) hx hb C.ow (C.ts _ k997) dX11_weight_74 ?_
                exact e_iret C hQ () hT (by rw [we_bad hnp hbad]) dX11_weight_76
              · skip
                exact absurd (by decide) h_11
            · skip
              have hi0 := h_10
              refine lv_iload hx hb dX11_weight_37 (lv_at hl 4 rfl) ?_
              refine lv_aload_n hx hb dX11_weight_39 rfl (lv_at hl 0 rfl) ?_
              refine gX11_91 C hT (q0 := 0) rfl dX11_weight_40 ?_
              refine lv_icmp_gt (tgt := 50) hx hb dX11_weight_43 (by decide) (fun h_12 => ?_) (fun h_12 => ?_)
              · skip
                have hbad : mx < 0 ∨ 1 < mx ∨ se < 0 ∨ 255 < se ∨ i < 0 ∨ nI np < i := Or.inr (Or.inr (Or.inr (Or.inr (Or.inr h_12))))
                refine lv_iconst (v := 0) hx hb dX11_weight_50 (by decide) ?_
                refine lv_istore (lv' := [(5, .int 0), (0, .ref (mo 0)), (1, .int (nI sd)), (2, .int mx), (3, .int se), (4, .int i)]) hx hb dX11_weight_51 hl (by decide) rfl (fun ls hl => ?_)
                refine lv_iload hx hb dX11_weight_53 (lv_at hl 0 rfl) ?_
                refine lv_if_eq (tgt := 74) hx hb dX11_weight_55 (by decide) (fun h_13 => ?_) (fun h_13 => ?_)
                · skip
                  refine lv_ldc (v := (-2000000)) hx hb C.ow (C.ts _ k997) dX11_weight_74 ?_
                  exact e_iret C hQ () hT (by rw [we_bad hnp hbad]) dX11_weight_76
                · skip
                  exact absurd (by decide) h_13
              · skip
                obtain ⟨j, hj, vej⟩ := le_of_n (by omega) hi0 h_12
                refine lv_iconst (v := 1) hx hb dX11_weight_46 (by decide) ?_
                refine lv_goto (tgt := 51) hx hb dX11_weight_47 (by decide) ?_
                refine lv_istore (lv' := [(5, .int 1), (0, .ref (mo 0)), (1, .int (nI sd)), (2, .int mx), (3, .int se), (4, .int i)]) hx hb dX11_weight_51 hl (by decide) rfl (fun ls hl => ?_)
                refine lv_iload hx hb dX11_weight_53 (lv_at hl 0 rfl) ?_
                refine lv_if_eq (tgt := 74) hx hb dX11_weight_55 (by decide) (fun h_14 => ?_) (fun h_14 => ?_)
                · skip
                  exact absurd h_14 (by decide)
                · skip
                  refine lv_aload_n hx hb dX11_weight_58 rfl (lv_at hl 1 rfl) ?_
                  refine gX11_47 C hT (q0 := 0) rfl dX11_weight_59 ?_
                  refine lv_iload_n hx hb dX11_weight_62 rfl (lv_at hl 2 rfl) ?_
                  refine lv_iload_n hx hb dX11_weight_63 rfl (lv_at hl 3 rfl) ?_
                  refine W.eq (g2 := F0 m 64 ls [.int (nI m2), .int (nI sd), .ref (mo 13)]) (congrArg (fun z => F0 m 64 ls (.int z :: [.int (nI sd), .ref (mo 13)])) (vem)) ?_
                  refine lv_iload_n hx hb dX11_weight_64 rfl (lv_at hl 4 rfl) ?_
                  refine W.eq (g2 := F0 m 65 ls [.int (nI k), .int (nI m2), .int (nI sd), .ref (mo 13)]) (congrArg (fun z => F0 m 65 ls (.int z :: [.int (nI m2), .int (nI sd), .ref (mo 13)])) (vek)) ?_
                  refine lv_iload hx hb dX11_weight_65 (lv_at hl 5 rfl) ?_
                  refine W.eq (g2 := F0 m 67 ls [.int (nI j), .int (nI k), .int (nI m2), .int (nI sd), .ref (mo 13)]) (congrArg (fun z => F0 m 67 ls (.int z :: [.int (nI k), .int (nI m2), .int (nI sd), .ref (mo 13)])) (vej)) ?_
                  have hM := c_X11_weightAt l g sd m2 k j
                  refine r_callRO (js := []) C hT (runS (js := []) (rm := ({ frames := 0, cells := 0, slots := 0, locals := 0 } : Room)) (As := [.int (nI sd), .int (nI m2), .int (nI k), .int (nI j)]) (n := 4) (rest := [.ref (mo 13)]) C hT hM rfl rfl k748 k749 k15 k750 (by decide +kernel) rfl rfl (Nat.le_of_ble_eq_true rfl) hl.1 ⟨Nat.le_of_ble_eq_true rfl, Nat.le_of_ble_eq_true rfl⟩ ⟨Nat.le_of_ble_eq_true rfl, Nat.le_of_ble_eq_true rfl⟩ dX11_weight_67) rfl rfl (fun u H locs hT => ?_)
                  refine W.eq (g2 := F0 m 70 ls [.int (nI (wAt sd m2 k j)), .ref (mo 13)]) rfl ?_
                  refine r_iald C hT (q0 := 13) rfl (wAt sd m2 k j) rfl (wAt_lt hsd hm2 hk (by omega)) (by decide) dX11_weight_70 ?_
                  refine W.eq (g2 := F0 m 71 ls [.int (weI (s_f0 U) (s_f1 U) np mx se i)]) (congrArg (fun z => F0 m 71 ls (.int z :: [])) ((by rw [vem, vek, vej]; exact we_ok hW hnp hm2 hk hj))) ?_
                  refine lv_goto (tgt := 76) hx hb dX11_weight_71 (by decide) ?_
                  exact e_iret C hQ () hT rfl dX11_weight_76

set_option maxHeartbeats 400000 in
set_option maxRecDepth 100000 in
theorem c_X11_slot (l : Launch) (g : GT) (mo : Nat → Nat) (rr : Nat) (th : Int32) (np : Nat) (no : Nat) (bt : Nat) (en : Bool) (xx : Int64) (ra : Nat) (t0 : Int32) (t1 : Int32) (s1 : Int32) (ca : Int32) (cq : Int32) (ch : Int32) (st : Nat → Int32) (fk : Nat → Int32) (fn : Nat → Int32) (fo : Nat → Int32) (bb : Nat → Int32) (wt : Nat → Int32) (nx : Nat → Int32) (cx : Nat → Int32) (pt : Nat → Int32) (le : Nat → Int32) (sc : Nat → Int32) (ss : Nat → Int32) (ww : Nat → Int32) (xc : Nat → Int32) (lo : Nat → Int64) (hi : Nat → Int64) (ou : Nat → Int32) (xi : Nat → Int32) (sd : Nat) (N : Nat) (U : SSt) (i : Int32) (hsd : sd < 2) (hS : RSs sd N U sc ss) (hrr : rr ≤ 12) (hN : N = 2 ^ rr) : OM (S := Unit) l g yX11_slot cX11_slot 3 (some .int) ({ frames := 1, cells := 0, slots := 0, locals := 20 } : Room) [.ref (mo 0), .int (nI sd), .int i] (mdL g mo rr th np no bt en xx ra t0 t1 s1 ca cq ch st fk fn fo bb wt nx cx pt le sc ss ww xc lo hi ou xi) (fun _ => some (.int (if inR i N = true then s_fc U i.toNatClampNeg else 0))) (fun _ => (mdL g mo rr (if inR i N = true then 0 else 1) np no bt en xx ra t0 t1 s1 ca cq ch st fk fn fo bb wt nx cx pt le sc ss ww xc lo hi ou xi)) := by
  refine OM.startQ (by decide) (Nat.le_of_ble_eq_true rfl) ?_
  intro p e s m below meth c A ls Q H locs hQ C hnm hl hT
  have hx := C.x
  have hb := C.b
  have hl : lv_has ls 3 [(0, .ref (mo 0)), (1, .int (nI sd)), (2, .int i)] := hl
  have hN4 : N ≤ 4096 := by rw [hN]; exact Nat.pow_le_pow_right (i := rr) (j := 12) (by decide) hrr
  refine lv_aload_n hx hb dX11_slot_0 rfl (lv_at hl 0 rfl) ?_
  refine lv_iconst (v := 0) hx hb dX11_slot_1 (by decide) ?_
  refine pX11_77 C hT (q0 := 0) rfl dX11_slot_2 (fun H locs hT => ?_)
  have hT : Wd g A s (mdL g mo rr 0 np no bt en xx ra t0 t1 s1 ca cq ch st fk fn fo bb wt nx cx pt le sc ss ww xc lo hi ou xi) H locs := hT
  refine lv_iload_n hx hb dX11_slot_5 rfl (lv_at hl 1 rfl) ?_
  have hM := c_X11_isSide l g (nI sd)
  refine r_callRO (js := []) C hT (runS (js := []) (rm := ({ frames := 0, cells := 0, slots := 0, locals := 0 } : Room)) (As := [.int (nI sd)]) (n := 1) (rest := []) C hT hM rfl rfl k986 k987 k15 k988 (by decide +kernel) rfl rfl (Nat.le_of_ble_eq_true rfl) hl.1 ⟨Nat.le_of_ble_eq_true rfl, Nat.le_of_ble_eq_true rfl⟩ ⟨Nat.le_of_ble_eq_true rfl, Nat.le_of_ble_eq_true rfl⟩ dX11_slot_6) rfl rfl (fun u H locs hT => ?_)
  refine W.eq (g2 := F0 m 9 ls [.int (b01 (!decide ((nI sd) < 0) && !decide (1 < (nI sd))))]) rfl ?_
  refine W.eq (g2 := F0 m 9 ls [.int 1]) (congrArg (fun z => F0 m 9 ls (.int z :: [])) (side_y hsd)) ?_
  refine lv_if_ne (tgt := 14) hx hb dX11_slot_9 (by decide) (fun h_1 => ?_) (fun h_1 => ?_)
  · skip
    refine lv_aload_n hx hb dX11_slot_14 rfl (lv_at hl 0 rfl) ?_
    refine lv_iload_n hx hb dX11_slot_15 rfl (lv_at hl 2 rfl) ?_
    refine lv_if_lt (tgt := 29) hx hb dX11_slot_16 (by decide) (fun h_2 => ?_) (fun h_2 => ?_)
    · skip
      have hr : inR i N = false := by simp [inR, h_2]
      refine lv_iconst (v := 1) hx hb dX11_slot_29 (by decide) ?_
      refine lv_goto (tgt := 34) hx hb dX11_slot_30 (by decide) ?_
      refine pX11_77 C hT (q0 := 0) rfl dX11_slot_34 (fun H locs hT => ?_)
      have hT : Wd g A s (mdL g mo rr 1 np no bt en xx ra t0 t1 s1 ca cq ch st fk fn fo bb wt nx cx pt le sc ss ww xc lo hi ou xi) H locs := hT
      refine lv_aload_n hx hb dX11_slot_37 rfl (lv_at hl 0 rfl) ?_
      refine gX11_77 C hT (q0 := 0) rfl dX11_slot_38 ?_
      refine lv_if_le (tgt := 48) hx hb dX11_slot_41 (by decide) (fun h_3 => ?_) (fun h_3 => ?_)
      · skip
        exact absurd h_3 (by decide)
      · skip
        refine lv_iconst (v := 0) hx hb dX11_slot_44 (by decide) ?_
        refine lv_goto (tgt := 60) hx hb dX11_slot_45 (by decide) ?_
        exact e_iret C hQ () (by first | (rw [if_pos hr]; exact hT) | (rw [if_neg (by rw [hr]; decide)]; exact hT)) (by first | (rw [if_pos hr, vej, nI_clamp (by omega)]; done) | (rw [if_neg (by rw [hr]; decide)])) dX11_slot_60
    · skip
      have hq0 := h_2
      refine lv_iload_n hx hb dX11_slot_19 rfl (lv_at hl 2 rfl) ?_
      refine lv_iconst (v := 1) hx hb dX11_slot_20 (by decide) ?_
      refine lv_aload_n hx hb dX11_slot_21 rfl (lv_at hl 0 rfl) ?_
      refine gX11_66 C hT (q0 := 0) rfl dX11_slot_22 ?_
      refine lv_ishl hx hb dX11_slot_25 ?_
      refine W.eq (g2 := F0 m 26 ls [.int (nI N), .int i, .ref (mo 0)]) (congrArg (fun z => F0 m 26 ls (.int z :: [.int i, .ref (mo 0)])) ((by rw [hN]; exact one_shl hrr))) ?_
      refine lv_icmp_lt (tgt := 33) hx hb dX11_slot_26 (by decide) (fun h_4 => ?_) (fun h_4 => ?_)
      · skip
        have hr : inR i N = true := inR_lt hq0 h_4
        obtain ⟨j, hj, vej⟩ := inR_of (by omega) hr
        refine lv_iconst (v := 0) hx hb dX11_slot_33 (by decide) ?_
        refine pX11_77 C hT (q0 := 0) rfl dX11_slot_34 (fun H locs hT => ?_)
        have hT : Wd g A s (mdL g mo rr 0 np no bt en xx ra t0 t1 s1 ca cq ch st fk fn fo bb wt nx cx pt le sc ss ww xc lo hi ou xi) H locs := hT
        refine lv_aload_n hx hb dX11_slot_37 rfl (lv_at hl 0 rfl) ?_
        refine gX11_77 C hT (q0 := 0) rfl dX11_slot_38 ?_
        refine lv_if_le (tgt := 48) hx hb dX11_slot_41 (by decide) (fun h_5 => ?_) (fun h_5 => ?_)
        · skip
          refine lv_aload_n hx hb dX11_slot_48 rfl (lv_at hl 0 rfl) ?_
          refine gX11_41 C hT (q0 := 0) rfl dX11_slot_49 ?_
          refine lv_sipush (v := 4096) hx hb dX11_slot_52 (by decide) ?_
          refine lv_iload_n hx hb dX11_slot_55 rfl (lv_at hl 1 rfl) ?_
          refine lv_imul hx hb dX11_slot_56 ?_
          refine W.eq (g2 := F0 m 57 ls [.int (nI (4096 * sd)), .ref (mo 11)]) (congrArg (fun z => F0 m 57 ls (.int z :: [.ref (mo 11)])) (pk_mul 4096 sd)) ?_
          refine lv_iload_n hx hb dX11_slot_57 rfl (lv_at hl 2 rfl) ?_
          refine W.eq (g2 := F0 m 58 ls [.int (nI j), .int (nI (4096 * sd)), .ref (mo 11)]) (congrArg (fun z => F0 m 58 ls (.int z :: [.int (nI (4096 * sd)), .ref (mo 11)])) (vej)) ?_
          refine lv_iadd hx hb dX11_slot_58 ?_
          refine W.eq (g2 := F0 m 59 ls [.int (nI (4096 * sd + j)), .ref (mo 11)]) (congrArg (fun z => F0 m 59 ls (.int z :: [.ref (mo 11)])) (nI_add _ _)) ?_
          refine r_iald C hT (q0 := 11) rfl (4096 * sd + j) rfl (by omega) (by decide) dX11_slot_59 ?_
          refine W.eq (g2 := F0 m 60 ls [.int (s_fc U j)]) (congrArg (fun z => F0 m 60 ls (.int z :: [])) ((hS.1 j hj).1)) ?_
          exact e_iret C hQ () (by first | (rw [if_pos hr]; exact hT) | (rw [if_neg (by rw [hr]; decide)]; exact hT)) (by first | (rw [if_pos hr, vej, nI_clamp (by omega)]; done) | (rw [if_neg (by rw [hr]; decide)])) dX11_slot_60
        · skip
          exact absurd (by decide) h_5
      · skip
        have hr : inR i N = false := inR_nlt h_4
        refine lv_iconst (v := 1) hx hb dX11_slot_29 (by decide) ?_
        refine lv_goto (tgt := 34) hx hb dX11_slot_30 (by decide) ?_
        refine pX11_77 C hT (q0 := 0) rfl dX11_slot_34 (fun H locs hT => ?_)
        have hT : Wd g A s (mdL g mo rr 1 np no bt en xx ra t0 t1 s1 ca cq ch st fk fn fo bb wt nx cx pt le sc ss ww xc lo hi ou xi) H locs := hT
        refine lv_aload_n hx hb dX11_slot_37 rfl (lv_at hl 0 rfl) ?_
        refine gX11_77 C hT (q0 := 0) rfl dX11_slot_38 ?_
        refine lv_if_le (tgt := 48) hx hb dX11_slot_41 (by decide) (fun h_6 => ?_) (fun h_6 => ?_)
        · skip
          exact absurd h_6 (by decide)
        · skip
          refine lv_iconst (v := 0) hx hb dX11_slot_44 (by decide) ?_
          refine lv_goto (tgt := 60) hx hb dX11_slot_45 (by decide) ?_
          exact e_iret C hQ () (by first | (rw [if_pos hr]; exact hT) | (rw [if_neg (by rw [hr]; decide)]; exact hT)) (by first | (rw [if_pos hr, vej, nI_clamp (by omega)]; done) | (rw [if_neg (by rw [hr]; decide)])) dX11_slot_60
  · skip
    exact absurd h_1 (by decide)

set_option maxHeartbeats 400000 in
set_option maxRecDepth 100000 in
theorem c_X11_seen (l : Launch) (g : GT) (mo : Nat → Nat) (rr : Nat) (th : Int32) (np : Nat) (no : Nat) (bt : Nat) (en : Bool) (xx : Int64) (ra : Nat) (t0 : Int32) (t1 : Int32) (s1 : Int32) (ca : Int32) (cq : Int32) (ch : Int32) (st : Nat → Int32) (fk : Nat → Int32) (fn : Nat → Int32) (fo : Nat → Int32) (bb : Nat → Int32) (wt : Nat → Int32) (nx : Nat → Int32) (cx : Nat → Int32) (pt : Nat → Int32) (le : Nat → Int32) (sc : Nat → Int32) (ss : Nat → Int32) (ww : Nat → Int32) (xc : Nat → Int32) (lo : Nat → Int64) (hi : Nat → Int64) (ou : Nat → Int32) (xi : Nat → Int32) (sd : Nat) (N : Nat) (U : SSt) (i : Int32) (hsd : sd < 2) (hS : RSs sd N U sc ss) (hrr : rr ≤ 12) (hN : N = 2 ^ rr) : OM (S := Unit) l g yX11_seen cX11_seen 3 (some .int) ({ frames := 1, cells := 0, slots := 0, locals := 20 } : Room) [.ref (mo 0), .int (nI sd), .int i] (mdL g mo rr th np no bt en xx ra t0 t1 s1 ca cq ch st fk fn fo bb wt nx cx pt le sc ss ww xc lo hi ou xi) (fun _ => some (.int (if inR i N = true then s_fs U i.toNatClampNeg else (-1)))) (fun _ => (mdL g mo rr 0 np no bt en xx ra t0 t1 s1 ca cq ch st fk fn fo bb wt nx cx pt le sc ss ww xc lo hi ou xi)) := by
  refine OM.startQ (by decide) (Nat.le_of_ble_eq_true rfl) ?_
  intro p e s m below meth c A ls Q H locs hQ C hnm hl hT
  have hx := C.x
  have hb := C.b
  have hl : lv_has ls 3 [(0, .ref (mo 0)), (1, .int (nI sd)), (2, .int i)] := hl
  have hN4 : N ≤ 4096 := by rw [hN]; exact Nat.pow_le_pow_right (i := rr) (j := 12) (by decide) hrr
  refine lv_aload_n hx hb dX11_seen_0 rfl (lv_at hl 0 rfl) ?_
  refine lv_iconst (v := 0) hx hb dX11_seen_1 (by decide) ?_
  refine pX11_77 C hT (q0 := 0) rfl dX11_seen_2 (fun H locs hT => ?_)
  have hT : Wd g A s (mdL g mo rr 0 np no bt en xx ra t0 t1 s1 ca cq ch st fk fn fo bb wt nx cx pt le sc ss ww xc lo hi ou xi) H locs := hT
  refine lv_iload_n hx hb dX11_seen_5 rfl (lv_at hl 1 rfl) ?_
  have hM := c_X11_isSide l g (nI sd)
  refine r_callRO (js := []) C hT (runS (js := []) (rm := ({ frames := 0, cells := 0, slots := 0, locals := 0 } : Room)) (As := [.int (nI sd)]) (n := 1) (rest := []) C hT hM rfl rfl k986 k987 k15 k988 (by decide +kernel) rfl rfl (Nat.le_of_ble_eq_true rfl) hl.1 ⟨Nat.le_of_ble_eq_true rfl, Nat.le_of_ble_eq_true rfl⟩ ⟨Nat.le_of_ble_eq_true rfl, Nat.le_of_ble_eq_true rfl⟩ dX11_seen_6) rfl rfl (fun u H locs hT => ?_)
  refine W.eq (g2 := F0 m 9 ls [.int (b01 (!decide ((nI sd) < 0) && !decide (1 < (nI sd))))]) rfl ?_
  refine W.eq (g2 := F0 m 9 ls [.int 1]) (congrArg (fun z => F0 m 9 ls (.int z :: [])) (side_y hsd)) ?_
  refine lv_if_eq (tgt := 26) hx hb dX11_seen_9 (by decide) (fun h_1 => ?_) (fun h_1 => ?_)
  · skip
    exact absurd h_1 (by decide)
  · skip
    refine lv_iload_n hx hb dX11_seen_12 rfl (lv_at hl 2 rfl) ?_
    refine lv_if_lt (tgt := 26) hx hb dX11_seen_13 (by decide) (fun h_2 => ?_) (fun h_2 => ?_)
    · skip
      have hr : inR i N = false := by simp [inR, h_2]
      refine lv_iconst (v := (-1)) hx hb dX11_seen_26 (by decide) ?_
      refine lv_goto (tgt := 42) hx hb dX11_seen_27 (by decide) ?_
      exact e_iret C hQ () hT (by first | (rw [if_pos hr, vej, nI_clamp (by omega)]; done) | (rw [if_neg (by rw [hr]; decide)])) dX11_seen_42
    · skip
      have hq0 := h_2
      refine lv_iload_n hx hb dX11_seen_16 rfl (lv_at hl 2 rfl) ?_
      refine lv_iconst (v := 1) hx hb dX11_seen_17 (by decide) ?_
      refine lv_aload_n hx hb dX11_seen_18 rfl (lv_at hl 0 rfl) ?_
      refine gX11_66 C hT (q0 := 0) rfl dX11_seen_19 ?_
      refine lv_ishl hx hb dX11_seen_22 ?_
      refine W.eq (g2 := F0 m 23 ls [.int (nI N), .int i]) (congrArg (fun z => F0 m 23 ls (.int z :: [.int i])) ((by rw [hN]; exact one_shl hrr))) ?_
      refine lv_icmp_lt (tgt := 30) hx hb dX11_seen_23 (by decide) (fun h_3 => ?_) (fun h_3 => ?_)
      · skip
        have hr : inR i N = true := inR_lt hq0 h_3
        obtain ⟨j, hj, vej⟩ := inR_of (by omega) hr
        refine lv_aload_n hx hb dX11_seen_30 rfl (lv_at hl 0 rfl) ?_
        refine gX11_44 C hT (q0 := 0) rfl dX11_seen_31 ?_
        refine lv_sipush (v := 4096) hx hb dX11_seen_34 (by decide) ?_
        refine lv_iload_n hx hb dX11_seen_37 rfl (lv_at hl 1 rfl) ?_
        refine lv_imul hx hb dX11_seen_38 ?_
        refine W.eq (g2 := F0 m 39 ls [.int (nI (4096 * sd)), .ref (mo 12)]) (congrArg (fun z => F0 m 39 ls (.int z :: [.ref (mo 12)])) (pk_mul 4096 sd)) ?_
        refine lv_iload_n hx hb dX11_seen_39 rfl (lv_at hl 2 rfl) ?_
        refine W.eq (g2 := F0 m 40 ls [.int (nI j), .int (nI (4096 * sd)), .ref (mo 12)]) (congrArg (fun z => F0 m 40 ls (.int z :: [.int (nI (4096 * sd)), .ref (mo 12)])) (vej)) ?_
        refine lv_iadd hx hb dX11_seen_40 ?_
        refine W.eq (g2 := F0 m 41 ls [.int (nI (4096 * sd + j)), .ref (mo 12)]) (congrArg (fun z => F0 m 41 ls (.int z :: [.ref (mo 12)])) (nI_add _ _)) ?_
        refine r_iald C hT (q0 := 12) rfl (4096 * sd + j) rfl (by omega) (by decide) dX11_seen_41 ?_
        refine W.eq (g2 := F0 m 42 ls [.int (s_fs U j)]) (congrArg (fun z => F0 m 42 ls (.int z :: [])) ((hS.1 j hj).2)) ?_
        exact e_iret C hQ () hT (by first | (rw [if_pos hr, vej, nI_clamp (by omega)]; done) | (rw [if_neg (by rw [hr]; decide)])) dX11_seen_42
      · skip
        have hr : inR i N = false := inR_nlt h_3
        refine lv_iconst (v := (-1)) hx hb dX11_seen_26 (by decide) ?_
        refine lv_goto (tgt := 42) hx hb dX11_seen_27 (by decide) ?_
        exact e_iret C hQ () hT (by first | (rw [if_pos hr, vej, nI_clamp (by omega)]; done) | (rw [if_neg (by rw [hr]; decide)])) dX11_seen_42

set_option maxHeartbeats 400000 in
set_option maxRecDepth 100000 in
theorem c_X11_cell (l : Launch) (g : GT) (mo : Nat → Nat) (rr : Nat) (th : Int32) (np : Nat) (no : Nat) (bt : Nat) (en : Bool) (xx : Int64) (ra : Nat) (t0 : Int32) (t1 : Int32) (s1 : Int32) (ca : Int32) (cq : Int32) (ch : Int32) (st : Nat → Int32) (fk : Nat → Int32) (fn : Nat → Int32) (fo : Nat → Int32) (bb : Nat → Int32) (wt : Nat → Int32) (nx : Nat → Int32) (cx : Nat → Int32) (pt : Nat → Int32) (le : Nat → Int32) (sc : Nat → Int32) (ss : Nat → Int32) (ww : Nat → Int32) (xc : Nat → Int32) (lo : Nat → Int64) (hi : Nat → Int64) (ou : Nat → Int32) (xi : Nat → Int32) (sd : Nat) (N : Nat) (U : SSt) (nn : Int32) (j : Int32) (hsd : sd < 2) (hX : RSx sd U xc) : OM (S := Unit) l g yX11_cell cX11_cell 5 (some .int) ({ frames := 1, cells := 0, slots := 0, locals := 20 } : Room) [.ref (mo 0), .int (nI sd), .int nn, .int j] (mdL g mo rr th np no bt en xx ra t0 t1 s1 ca cq ch st fk fn fo bb wt nx cx pt le sc ss ww xc lo hi ou xi) (fun _ => some (.int (if cellB nn j = true then sgnI (s_fx U (33 * nn.toNatClampNeg + j.toNatClampNeg)) else 40000))) (fun _ => (mdL g mo rr 0 np no bt en xx ra t0 t1 s1 ca cq ch st fk fn fo bb wt nx cx pt le sc ss ww xc lo hi ou xi)) := by
  refine OM.startQ (by decide) (Nat.le_of_ble_eq_true rfl) ?_
  intro p e s m below meth c A ls Q H locs hQ C hnm hl hT
  have hx := C.x
  have hb := C.b
  have hl : lv_has ls 5 [(0, .ref (mo 0)), (1, .int (nI sd)), (2, .int nn), (3, .int j)] := hl
  refine lv_aload_n hx hb dX11_cell_0 rfl (lv_at hl 0 rfl) ?_
  refine lv_iconst (v := 0) hx hb dX11_cell_1 (by decide) ?_
  refine pX11_77 C hT (q0 := 0) rfl dX11_cell_2 (fun H locs hT => ?_)
  have hT : Wd g A s (mdL g mo rr 0 np no bt en xx ra t0 t1 s1 ca cq ch st fk fn fo bb wt nx cx pt le sc ss ww xc lo hi ou xi) H locs := hT
  refine lv_iload_n hx hb dX11_cell_5 rfl (lv_at hl 1 rfl) ?_
  have hM := c_X11_isSide l g (nI sd)
  refine r_callRO (js := []) C hT (runS (js := []) (rm := ({ frames := 0, cells := 0, slots := 0, locals := 0 } : Room)) (As := [.int (nI sd)]) (n := 1) (rest := []) C hT hM rfl rfl k986 k987 k15 k988 (by decide +kernel) rfl rfl (Nat.le_of_ble_eq_true rfl) hl.1 ⟨Nat.le_of_ble_eq_true rfl, Nat.le_of_ble_eq_true rfl⟩ ⟨Nat.le_of_ble_eq_true rfl, Nat.le_of_ble_eq_true rfl⟩ dX11_cell_6) rfl rfl (fun u H locs hT => ?_)
  refine W.eq (g2 := F0 m 9 ls [.int (b01 (!decide ((nI sd) < 0) && !decide (1 < (nI sd))))]) rfl ?_
  refine W.eq (g2 := F0 m 9 ls [.int 1]) (congrArg (fun z => F0 m 9 ls (.int z :: [])) (side_y hsd)) ?_
  refine lv_if_eq (tgt := 33) hx hb dX11_cell_9 (by decide) (fun h_1 => ?_) (fun h_1 => ?_)
  · skip
    exact absurd h_1 (by decide)
  · skip
    refine lv_iload_n hx hb dX11_cell_12 rfl (lv_at hl 2 rfl) ?_
    refine lv_if_lt (tgt := 33) hx hb dX11_cell_13 (by decide) (fun h_2 => ?_) (fun h_2 => ?_)
    · skip
      have hr : cellB nn j = false := cellB_n (Or.inl h_2)
      refine lv_ldc (v := 40000) hx hb C.ow (C.ts _ k1010) dX11_cell_33 ?_
      exact e_iret C hQ () hT (by rw [if_neg (by rw [hr]; decide)]) dX11_cell_35
    · skip
      have h1 := h_2
      refine lv_iload_n hx hb dX11_cell_16 rfl (lv_at hl 2 rfl) ?_
      refine lv_sipush (v := 255) hx hb dX11_cell_17 (by decide) ?_
      refine lv_icmp_gt (tgt := 33) hx hb dX11_cell_20 (by decide) (fun h_3 => ?_) (fun h_3 => ?_)
      · skip
        have hr : cellB nn j = false := cellB_n (Or.inr (Or.inl h_3))
        refine lv_ldc (v := 40000) hx hb C.ow (C.ts _ k1010) dX11_cell_33 ?_
        exact e_iret C hQ () hT (by rw [if_neg (by rw [hr]; decide)]) dX11_cell_35
      · skip
        have h2 := h_3
        refine lv_iload_n hx hb dX11_cell_23 rfl (lv_at hl 3 rfl) ?_
        refine lv_if_lt (tgt := 33) hx hb dX11_cell_24 (by decide) (fun h_4 => ?_) (fun h_4 => ?_)
        · skip
          have hr : cellB nn j = false := cellB_n (Or.inr (Or.inr (Or.inl h_4)))
          refine lv_ldc (v := 40000) hx hb C.ow (C.ts _ k1010) dX11_cell_33 ?_
          exact e_iret C hQ () hT (by rw [if_neg (by rw [hr]; decide)]) dX11_cell_35
        · skip
          have h3 := h_4
          refine lv_iload_n hx hb dX11_cell_27 rfl (lv_at hl 3 rfl) ?_
          refine lv_bipush (v := 32) hx hb dX11_cell_28 (by decide) ?_
          refine lv_icmp_le (tgt := 36) hx hb dX11_cell_30 (by decide) (fun h_5 => ?_) (fun h_5 => ?_)
          · skip
            have hr : cellB nn j = true := cellB_y h1 h2 h3 h_5
            obtain ⟨k, t, hk, ht, vek, vet⟩ := cellB_of hr
            refine lv_aload_n hx hb dX11_cell_36 rfl (lv_at hl 0 rfl) ?_
            refine gX11_50 C hT (q0 := 0) rfl dX11_cell_37 ?_
            refine lv_sipush (v := 8448) hx hb dX11_cell_40 (by decide) ?_
            refine lv_iload_n hx hb dX11_cell_43 rfl (lv_at hl 1 rfl) ?_
            refine lv_imul hx hb dX11_cell_44 ?_
            refine W.eq (g2 := F0 m 45 ls [.int (nI (8448 * sd)), .ref (mo 14)]) (congrArg (fun z => F0 m 45 ls (.int z :: [.ref (mo 14)])) (pk_mul 8448 sd)) ?_
            refine lv_bipush (v := 33) hx hb dX11_cell_45 (by decide) ?_
            refine lv_iload_n hx hb dX11_cell_47 rfl (lv_at hl 2 rfl) ?_
            refine W.eq (g2 := F0 m 48 ls [.int (nI k), .int 33, .int (nI (8448 * sd)), .ref (mo 14)]) (congrArg (fun z => F0 m 48 ls (.int z :: [.int 33, .int (nI (8448 * sd)), .ref (mo 14)])) (vek)) ?_
            refine lv_imul hx hb dX11_cell_48 ?_
            refine W.eq (g2 := F0 m 49 ls [.int (nI (33 * k)), .int (nI (8448 * sd)), .ref (mo 14)]) (congrArg (fun z => F0 m 49 ls (.int z :: [.int (nI (8448 * sd)), .ref (mo 14)])) (pk_mul 33 k)) ?_
            refine lv_iadd hx hb dX11_cell_49 ?_
            refine W.eq (g2 := F0 m 50 ls [.int (nI (8448 * sd + 33 * k)), .ref (mo 14)]) (congrArg (fun z => F0 m 50 ls (.int z :: [.ref (mo 14)])) (nI_add _ _)) ?_
            refine lv_iload_n hx hb dX11_cell_50 rfl (lv_at hl 3 rfl) ?_
            refine W.eq (g2 := F0 m 51 ls [.int (nI t), .int (nI (8448 * sd + 33 * k)), .ref (mo 14)]) (congrArg (fun z => F0 m 51 ls (.int z :: [.int (nI (8448 * sd + 33 * k)), .ref (mo 14)])) (vet)) ?_
            refine lv_iadd hx hb dX11_cell_51 ?_
            refine W.eq (g2 := F0 m 52 ls [.int (nI (8448 * sd + 33 * k + t)), .ref (mo 14)]) (congrArg (fun z => F0 m 52 ls (.int z :: [.ref (mo 14)])) (nI_add _ _)) ?_
            refine r_iald C hT (q0 := 14) rfl (8448 * sd + 33 * k + t) rfl (by omega) (by decide) dX11_cell_52 ?_
            refine W.eq (g2 := F0 m 53 ls [.int (s_fx U (33 * k + t))]) (congrArg (fun z => F0 m 53 ls (.int z :: [])) ((by rw [Nat.add_assoc]; exact hX _ (by omega)))) ?_
            refine lv_istore (lv' := [(4, .int (s_fx U (33 * k + t))), (0, .ref (mo 0)), (1, .int (nI sd)), (2, .int nn), (3, .int j)]) hx hb dX11_cell_53 hl (by decide) rfl (fun ls hl => ?_)
            refine lv_iload hx hb dX11_cell_55 (lv_at hl 0 rfl) ?_
            refine lv_sipush (v := 32767) hx hb dX11_cell_57 (by decide) ?_
            refine lv_icmp_le (tgt := 71) hx hb dX11_cell_60 (by decide) (fun h_6 => ?_) (fun h_6 => ?_)
            · skip
              refine lv_iload hx hb dX11_cell_71 (lv_at hl 0 rfl) ?_
              exact e_iret C hQ () hT (by rw [if_pos hr, vek, vet, nI_clamp (by omega), nI_clamp (by omega), sgnI]; first | (rw [if_pos h_6]; done) | (rw [if_neg h_6])) dX11_cell_73
            · skip
              refine lv_iload hx hb dX11_cell_63 (lv_at hl 0 rfl) ?_
              refine lv_ldc (v := 65536) hx hb C.ow (C.ts _ k945) dX11_cell_65 ?_
              refine lv_isub hx hb dX11_cell_67 ?_
              refine lv_goto (tgt := 73) hx hb dX11_cell_68 (by decide) ?_
              exact e_iret C hQ () hT (by rw [if_pos hr, vek, vet, nI_clamp (by omega), nI_clamp (by omega), sgnI]; first | (rw [if_pos h_6]; done) | (rw [if_neg h_6])) dX11_cell_73
          · skip
            have hr : cellB nn j = false := cellB_n (Or.inr (Or.inr (Or.inr h_5)))
            refine lv_ldc (v := 40000) hx hb C.ow (C.ts _ k1010) dX11_cell_33 ?_
            exact e_iret C hQ () hT (by rw [if_neg (by rw [hr]; decide)]) dX11_cell_35

set_option maxHeartbeats 400000 in
set_option maxRecDepth 100000 in
theorem c_X11_spoil (l : Launch) (g : GT) (mo : Nat → Nat) (rr : Nat) (th : Int32) (np : Nat) (no : Nat) (bt : Nat) (en : Bool) (xx : Int64) (ra : Nat) (t0 : Int32) (t1 : Int32) (s1 : Int32) (ca : Int32) (cq : Int32) (ch : Int32) (st : Nat → Int32) (fk : Nat → Int32) (fn : Nat → Int32) (fo : Nat → Int32) (bb : Nat → Int32) (wt : Nat → Int32) (nx : Nat → Int32) (cx : Nat → Int32) (pt : Nat → Int32) (le : Nat → Int32) (sc : Nat → Int32) (ss : Nat → Int32) (ww : Nat → Int32) (xc : Nat → Int32) (lo : Nat → Int64) (hi : Nat → Int64) (ou : Nat → Int32) (xi : Nat → Int32) (i : Int32) (mk : Int32) (hno : no ≤ 3200) : OM (S := Unit) l g yX11_spoil cX11_spoil 3 (some .int) ({ frames := 0, cells := 0, slots := 0, locals := 0 } : Room) [.ref (mo 0), .int i, .int mk] (mdL g mo rr th np no bt en xx ra t0 t1 s1 ca cq ch st fk fn fo bb wt nx cx pt le sc ss ww xc lo hi ou xi) (fun _ => some (.int (if spoB i mk no = true then ou i.toNatClampNeg ^^^ mk else (-1)))) (fun _ => (mdL g mo rr 0 np no bt en xx ra t0 t1 s1 ca cq ch st fk fn fo bb wt nx cx pt le sc ss ww xc lo hi (if spoB i mk no = true then upd ou i.toNatClampNeg (ou i.toNatClampNeg ^^^ mk) else ou) xi)) := by
  refine OM.startQ (by decide) (Nat.le_of_ble_eq_true rfl) ?_
  intro p e s m below meth c A ls Q H locs hQ C hnm hl hT
  have hx := C.x
  have hb := C.b
  have hl : lv_has ls 3 [(0, .ref (mo 0)), (1, .int i), (2, .int mk)] := hl
  refine lv_aload_n hx hb dX11_spoil_0 rfl (lv_at hl 0 rfl) ?_
  refine lv_iconst (v := 0) hx hb dX11_spoil_1 (by decide) ?_
  refine pX11_77 C hT (q0 := 0) rfl dX11_spoil_2 (fun H locs hT => ?_)
  have hT : Wd g A s (mdL g mo rr 0 np no bt en xx ra t0 t1 s1 ca cq ch st fk fn fo bb wt nx cx pt le sc ss ww xc lo hi ou xi) H locs := hT
  refine lv_iload_n hx hb dX11_spoil_5 rfl (lv_at hl 1 rfl) ?_
  refine lv_if_lt (tgt := 29) hx hb dX11_spoil_6 (by decide) (fun h_1 => ?_) (fun h_1 => ?_)
  · skip
    have hsp : spoB i mk no = false := spo_n (Or.inl (by simp [inR, h_1]))
    refine lv_iconst (v := (-1)) hx hb dX11_spoil_29 (by decide) ?_
    exact e_iret C hQ () (by rw [hsp]; exact hT) (by rw [hsp]; rfl) dX11_spoil_30
  · skip
    have hq0 := h_1
    refine lv_iload_n hx hb dX11_spoil_9 rfl (lv_at hl 1 rfl) ?_
    refine lv_aload_n hx hb dX11_spoil_10 rfl (lv_at hl 0 rfl) ?_
    refine gX11_104 C hT (q0 := 0) rfl dX11_spoil_11 ?_
    refine lv_icmp_ge (tgt := 29) hx hb dX11_spoil_14 (by decide) (fun h_2 => ?_) (fun h_2 => ?_)
    · skip
      have hsp : spoB i mk no = false := spo_n (Or.inl (by simp [inR, h_2]))
      refine lv_iconst (v := (-1)) hx hb dX11_spoil_29 (by decide) ?_
      exact e_iret C hQ () (by rw [hsp]; exact hT) (by rw [hsp]; rfl) dX11_spoil_30
    · skip
      have hr : inR i no = true := by simp [inR, hq0, h_2]
      obtain ⟨j, hj, vej⟩ := inR_of (by omega) hr
      refine lv_iload_n hx hb dX11_spoil_17 rfl (lv_at hl 2 rfl) ?_
      refine lv_iconst (v := 1) hx hb dX11_spoil_18 (by decide) ?_
      refine lv_icmp_lt (tgt := 29) hx hb dX11_spoil_19 (by decide) (fun h_3 => ?_) (fun h_3 => ?_)
      · skip
        have hsp : spoB i mk no = false := spo_n (Or.inr (Or.inl h_3))
        refine lv_iconst (v := (-1)) hx hb dX11_spoil_29 (by decide) ?_
        exact e_iret C hQ () (by rw [hsp]; exact hT) (by rw [hsp]; rfl) dX11_spoil_30
      · skip
        have h1 := h_3
        refine lv_iload_n hx hb dX11_spoil_22 rfl (lv_at hl 2 rfl) ?_
        refine lv_sipush (v := 255) hx hb dX11_spoil_23 (by decide) ?_
        refine lv_icmp_le (tgt := 31) hx hb dX11_spoil_26 (by decide) (fun h_4 => ?_) (fun h_4 => ?_)
        · skip
          have hsp : spoB i mk no = true := by simp [spoB, hr, h1, h_4]
          refine lv_aload_n hx hb dX11_spoil_31 rfl (lv_at hl 0 rfl) ?_
          refine gX11_60 C hT (q0 := 0) rfl dX11_spoil_32 ?_
          refine lv_iload_n hx hb dX11_spoil_35 rfl (lv_at hl 1 rfl) ?_
          refine lv_dup2_11 hx hb dX11_spoil_36 rfl rfl ?_
          refine r_iald C hT (q0 := 17) rfl j vej (by omega) (by decide) dX11_spoil_37 ?_
          refine lv_iload_n hx hb dX11_spoil_38 rfl (lv_at hl 2 rfl) ?_
          refine lv_ixor hx hb dX11_spoil_39 ?_
          refine lv_topi (fun x_5 ex_5 => ?_)
          refine r_iast C hT (q0 := 17) rfl j vej (by omega) (by decide) dX11_spoil_40 (fun H locs hT => ?_)
          have hT : Wd g A s (mdL g mo rr 0 np no bt en xx ra t0 t1 s1 ca cq ch st fk fn fo bb wt nx cx pt le sc ss ww xc lo hi (upd ou j x_5) xi) H locs := hT
          refine lv_aload_n hx hb dX11_spoil_41 rfl (lv_at hl 0 rfl) ?_
          refine gX11_60 C hT (q0 := 0) rfl dX11_spoil_42 ?_
          refine lv_iload_n hx hb dX11_spoil_45 rfl (lv_at hl 1 rfl) ?_
          refine r_iald C hT (q0 := 17) rfl j vej (by omega) (by decide) dX11_spoil_46 ?_
          exact e_iret C hQ () (by rw [if_pos hsp, vej, nI_clamp (by omega)]; subst ex_5; exact hT) (by rw [if_pos hsp, upd_at, vej, nI_clamp (by omega)]; subst ex_5; rfl) dX11_spoil_47
        · skip
          have hsp : spoB i mk no = false := spo_n (Or.inr (Or.inr h_4))
          refine lv_iconst (v := (-1)) hx hb dX11_spoil_29 (by decide) ?_
          exact e_iret C hQ () (by rw [hsp]; exact hT) (by rw [hsp]; rfl) dX11_spoil_30

set_option maxHeartbeats 400000 in
set_option maxRecDepth 100000 in
theorem c_X11_off (l : Launch) (g : GT) (mo : Nat → Nat) (rr : Nat) (th : Int32) (np : Nat) (no : Nat) (bt : Nat) (en : Bool) (xx : Int64) (ra : Nat) (t0 : Int32) (t1 : Int32) (s1 : Int32) (ca : Int32) (cq : Int32) (ch : Int32) (st : Nat → Int32) (fk : Nat → Int32) (fn : Nat → Int32) (fo : Nat → Int32) (bb : Nat → Int32) (wt : Nat → Int32) (nx : Nat → Int32) (cx : Nat → Int32) (pt : Nat → Int32) (le : Nat → Int32) (sc : Nat → Int32) (ss : Nat → Int32) (ww : Nat → Int32) (xc : Nat → Int32) (lo : Nat → Int64) (hi : Nat → Int64) (ou : Nat → Int32) (xi : Nat → Int32) (n : Nat) (j : Nat) (hj : j < np) (hnp : np ≤ 8) (hen : en = false) (hb0 : n = 0) (hb1 : bt = 0) (hf01 : fo j = 0 ∨ fo j = 1) (hw : wt 0 = nI n) (hbt : bt ≤ 8) : OM (S := Unit) l g yX11_off cX11_off 3 (some .int) ({ frames := 1, cells := 0, slots := 0, locals := 20 } : Room) [.ref (mo 0), .int (nI j)] (mdL g mo rr th np no bt en xx ra t0 t1 s1 ca cq ch st fk fn fo bb wt nx cx pt le sc ss ww xc lo hi ou xi) (fun _ => some (.int (if fo j = 0 then 1 else 0))) (fun _ => (mdL g mo rr 0 np no bt en xx ra t0 t1 s1 ca cq ch st fk fn (if fo j = 0 then upd fo j 1 else fo) bb wt nx cx pt le sc ss ww xc lo hi ou xi)) := by
  refine OM.startQ (by decide) (Nat.le_of_ble_eq_true rfl) ?_
  intro p e s m below meth c A ls Q H locs hQ C hnm hl hT
  have hx := C.x
  have hb := C.b
  have hl : lv_has ls 3 [(0, .ref (mo 0)), (1, .int (nI j))] := hl
  refine lv_aload_n hx hb dX11_off_0 rfl (lv_at hl 0 rfl) ?_
  refine lv_iconst (v := 0) hx hb dX11_off_1 (by decide) ?_
  refine pX11_77 C hT (q0 := 0) rfl dX11_off_2 (fun H locs hT => ?_)
  have hT : Wd g A s (mdL g mo rr 0 np no bt en xx ra t0 t1 s1 ca cq ch st fk fn fo bb wt nx cx pt le sc ss ww xc lo hi ou xi) H locs := hT
  refine lv_iload_n hx hb dX11_off_5 rfl (lv_at hl 1 rfl) ?_
  refine lv_if_lt (tgt := 17) hx hb dX11_off_6 (by decide) (fun h_1 => ?_) (fun h_1 => ?_)
  · skip
    exact absurd rfl (nI_neg (n := j) (by omega) h_1)
  · skip
    refine lv_iload_n hx hb dX11_off_9 rfl (lv_at hl 1 rfl) ?_
    refine lv_aload_n hx hb dX11_off_10 rfl (lv_at hl 0 rfl) ?_
    refine gX11_91 C hT (q0 := 0) rfl dX11_off_11 ?_
    refine lv_icmp_lt (tgt := 19) hx hb dX11_off_14 (by decide) (fun h_2 => ?_) (fun h_2 => ?_)
    · skip
      refine lv_aload_n hx hb dX11_off_19 rfl (lv_at hl 0 rfl) ?_
      have hM := c_X11_hasWritten l g mo rr 0 np no bt en xx ra t0 t1 s1 ca cq ch st fk fn fo bb wt nx cx pt le sc ss ww xc lo hi ou xi n (by first | assumption | omega) (by omega) (by first | assumption | omega)
      refine r_callRO (js := [0, 1, 2, 3, 4, 5, 6, 7, 8, 9, 10, 11, 12, 13, 14, 15, 16, 17, 18]) C hT (runV (js := [0, 1, 2, 3, 4, 5, 6, 7, 8, 9, 10, 11, 12, 13, 14, 15, 16, 17, 18]) (rm := ({ frames := 0, cells := 0, slots := 0, locals := 0 } : Room)) (As := []) (n := 0) (q1 := 0) (rest := []) C hT hM rfl rfl k891 k893 s17 k15 k894 (by decide +kernel) rfl rfl rfl rfl (Nat.le_of_ble_eq_true rfl) hl.1 ⟨Nat.le_of_ble_eq_true rfl, Nat.le_of_ble_eq_true rfl⟩ ⟨Nat.le_of_ble_eq_true rfl, Nat.le_of_ble_eq_true rfl⟩ dX11_off_20) rfl rfl (fun u H locs hT => ?_)
      refine W.eq (g2 := F0 m 23 ls [.int (b01 (decide (0 < n) || (decide (0 < bt) || en)))]) rfl ?_
      refine lv_if_eq (tgt := 29) hx hb dX11_off_23 (by decide) (fun h_3 => ?_) (fun h_3 => ?_)
      · skip
        refine lv_aload_n hx hb dX11_off_29 rfl (lv_at hl 0 rfl) ?_
        refine gX11_19 C hT (q0 := 0) rfl dX11_off_30 ?_
        refine lv_iload_n hx hb dX11_off_33 rfl (lv_at hl 1 rfl) ?_
        refine r_zald C hT (q0 := 4) rfl j rfl (by omega) (by decide) dX11_off_34 ?_
        refine lv_if_eq (tgt := 42) hx hb dX11_off_35 (by decide) (fun h_4 => ?_) (fun h_4 => ?_)
        · skip
          refine lv_iconst (v := 1) hx hb dX11_off_42 (by decide) ?_
          refine lv_istore_n (lv' := [(2, .int 1), (0, .ref (mo 0)), (1, .int (nI j))]) hx hb dX11_off_43 rfl hl (by decide) rfl (fun ls hl => ?_)
          refine lv_aload_n hx hb dX11_off_44 rfl (lv_at hl 1 rfl) ?_
          refine gX11_19 C hT (q0 := 0) rfl dX11_off_45 ?_
          refine lv_iload_n hx hb dX11_off_48 rfl (lv_at hl 2 rfl) ?_
          refine lv_iconst (v := 1) hx hb dX11_off_49 (by decide) ?_
          refine r_zast C hT (q0 := 4) rfl j rfl (by omega) (by decide) (by decide) dX11_off_50 (fun H locs hT => ?_)
          have hT : Wd g A s (mdL g mo rr 0 np no bt en xx ra t0 t1 s1 ca cq ch st fk fn (upd fo j 1) bb wt nx cx pt le sc ss ww xc lo hi ou xi) H locs := hT
          refine lv_iload_n hx hb dX11_off_51 rfl (lv_at hl 0 rfl) ?_
          exact e_iret C hQ () (by rw [← off_R hf01]; exact hT) (by first | (rw [if_pos h_4]; done) | (rw [if_neg h_4])) dX11_off_52
        · skip
          refine lv_iconst (v := 0) hx hb dX11_off_38 (by decide) ?_
          refine lv_goto (tgt := 43) hx hb dX11_off_39 (by decide) ?_
          refine lv_istore_n (lv' := [(2, .int 0), (0, .ref (mo 0)), (1, .int (nI j))]) hx hb dX11_off_43 rfl hl (by decide) rfl (fun ls hl => ?_)
          refine lv_aload_n hx hb dX11_off_44 rfl (lv_at hl 1 rfl) ?_
          refine gX11_19 C hT (q0 := 0) rfl dX11_off_45 ?_
          refine lv_iload_n hx hb dX11_off_48 rfl (lv_at hl 2 rfl) ?_
          refine lv_iconst (v := 1) hx hb dX11_off_49 (by decide) ?_
          refine r_zast C hT (q0 := 4) rfl j rfl (by omega) (by decide) (by decide) dX11_off_50 (fun H locs hT => ?_)
          have hT : Wd g A s (mdL g mo rr 0 np no bt en xx ra t0 t1 s1 ca cq ch st fk fn (upd fo j 1) bb wt nx cx pt le sc ss ww xc lo hi ou xi) H locs := hT
          refine lv_iload_n hx hb dX11_off_51 rfl (lv_at hl 0 rfl) ?_
          exact e_iret C hQ () (by rw [← off_R hf01]; exact hT) (by first | (rw [if_pos h_4]; done) | (rw [if_neg h_4])) dX11_off_52
      · skip
        exact absurd (b01_t h_3) (by rw [hen, hb0, hb1]; decide)
    · skip
      exact absurd (nI_lt hj (by omega)) h_2

set_option maxHeartbeats 400000 in
set_option maxRecDepth 100000 in
theorem c_X11_off_no (l : Launch) (g : GT) (mo : Nat → Nat) (rr : Nat) (th : Int32) (np : Nat) (no : Nat) (bt : Nat) (en : Bool) (xx : Int64) (ra : Nat) (t0 : Int32) (t1 : Int32) (s1 : Int32) (ca : Int32) (cq : Int32) (ch : Int32) (st : Nat → Int32) (fk : Nat → Int32) (fn : Nat → Int32) (fo : Nat → Int32) (bb : Nat → Int32) (wt : Nat → Int32) (nx : Nat → Int32) (cx : Nat → Int32) (pt : Nat → Int32) (le : Nat → Int32) (sc : Nat → Int32) (ss : Nat → Int32) (ww : Nat → Int32) (xc : Nat → Int32) (lo : Nat → Int64) (hi : Nat → Int64) (ou : Nat → Int32) (xi : Nat → Int32) (n : Nat) (i : Int32) (hnp : np ≤ 8) (hn : n ≤ 2000) (hno : inR i np = false ∨ en = true ∨ 0 < n ∨ 0 < bt) (hw : wt 0 = nI n) (hbt : bt ≤ 8) : OM (S := Unit) l g yX11_off cX11_off 3 (some .int) ({ frames := 1, cells := 0, slots := 0, locals := 20 } : Room) [.ref (mo 0), .int i] (mdL g mo rr th np no bt en xx ra t0 t1 s1 ca cq ch st fk fn fo bb wt nx cx pt le sc ss ww xc lo hi ou xi) (fun _ => some (.int (if inR i np = true then (-4) else (-1)))) (fun _ => (mdL g mo rr 0 np no bt en xx ra t0 t1 s1 ca cq ch st fk fn fo bb wt nx cx pt le sc ss ww xc lo hi ou xi)) := by
  refine OM.startQ (by decide) (Nat.le_of_ble_eq_true rfl) ?_
  intro p e s m below meth c A ls Q H locs hQ C hnm hl hT
  have hx := C.x
  have hb := C.b
  have hl : lv_has ls 3 [(0, .ref (mo 0)), (1, .int i)] := hl
  refine lv_aload_n hx hb dX11_off_0 rfl (lv_at hl 0 rfl) ?_
  refine lv_iconst (v := 0) hx hb dX11_off_1 (by decide) ?_
  refine pX11_77 C hT (q0 := 0) rfl dX11_off_2 (fun H locs hT => ?_)
  have hT : Wd g A s (mdL g mo rr 0 np no bt en xx ra t0 t1 s1 ca cq ch st fk fn fo bb wt nx cx pt le sc ss ww xc lo hi ou xi) H locs := hT
  refine lv_iload_n hx hb dX11_off_5 rfl (lv_at hl 1 rfl) ?_
  refine lv_if_lt (tgt := 17) hx hb dX11_off_6 (by decide) (fun h_1 => ?_) (fun h_1 => ?_)
  · skip
    have hr : inR i np = false := by simp [inR, h_1]
    refine lv_iconst (v := (-1)) hx hb dX11_off_17 (by decide) ?_
    exact e_iret C hQ () hT (by rw [if_neg (by rw [hr]; decide)]) dX11_off_18
  · skip
    have hq0 := h_1
    refine lv_iload_n hx hb dX11_off_9 rfl (lv_at hl 1 rfl) ?_
    refine lv_aload_n hx hb dX11_off_10 rfl (lv_at hl 0 rfl) ?_
    refine gX11_91 C hT (q0 := 0) rfl dX11_off_11 ?_
    refine lv_icmp_lt (tgt := 19) hx hb dX11_off_14 (by decide) (fun h_2 => ?_) (fun h_2 => ?_)
    · skip
      have hr : inR i np = true := inR_lt hq0 h_2
      refine lv_aload_n hx hb dX11_off_19 rfl (lv_at hl 0 rfl) ?_
      have hM := c_X11_hasWritten l g mo rr 0 np no bt en xx ra t0 t1 s1 ca cq ch st fk fn fo bb wt nx cx pt le sc ss ww xc lo hi ou xi n (by first | assumption | omega) (by first | assumption | omega) (by first | assumption | omega)
      refine r_callRO (js := [0, 1, 2, 3, 4, 5, 6, 7, 8, 9, 10, 11, 12, 13, 14, 15, 16, 17, 18]) C hT (runV (js := [0, 1, 2, 3, 4, 5, 6, 7, 8, 9, 10, 11, 12, 13, 14, 15, 16, 17, 18]) (rm := ({ frames := 0, cells := 0, slots := 0, locals := 0 } : Room)) (As := []) (n := 0) (q1 := 0) (rest := []) C hT hM rfl rfl k891 k893 s17 k15 k894 (by decide +kernel) rfl rfl rfl rfl (Nat.le_of_ble_eq_true rfl) hl.1 ⟨Nat.le_of_ble_eq_true rfl, Nat.le_of_ble_eq_true rfl⟩ ⟨Nat.le_of_ble_eq_true rfl, Nat.le_of_ble_eq_true rfl⟩ dX11_off_20) rfl rfl (fun u H locs hT => ?_)
      refine W.eq (g2 := F0 m 23 ls [.int (b01 (decide (0 < n) || (decide (0 < bt) || en)))]) rfl ?_
      refine lv_if_eq (tgt := 29) hx hb dX11_off_23 (by decide) (fun h_3 => ?_) (fun h_3 => ?_)
      · skip
        exact off_dead2 hno hr (b01_f h_3)
      · skip
        refine lv_bipush (v := (-4)) hx hb dX11_off_26 (by decide) ?_
        exact e_iret C hQ () hT (by rw [if_pos hr]) dX11_off_28
    · skip
      have hr : inR i np = false := inR_nlt h_2
      refine lv_iconst (v := (-1)) hx hb dX11_off_17 (by decide) ?_
      exact e_iret C hQ () hT (by rw [if_neg (by rw [hr]; decide)]) dX11_off_18

set_option maxHeartbeats 400000 in
set_option maxRecDepth 100000 in
theorem c_X11_firstLength (l : Launch) (g : GT) (mo : Nat → Nat) (rr : Nat) (th : Int32) (np : Nat) (no : Nat) (bt : Nat) (en : Bool) (xx : Int64) (ra : Nat) (t0 : Int32) (t1 : Int32) (s1 : Int32) (ca : Int32) (cq : Int32) (ch : Int32) (st : Nat → Int32) (fk : Nat → Int32) (fn : Nat → Int32) (fo : Nat → Int32) (bb : Nat → Int32) (wt : Nat → Int32) (nx : Nat → Int32) (cx : Nat → Int32) (pt : Nat → Int32) (le : Nat → Int32) (sc : Nat → Int32) (ss : Nat → Int32) (ww : Nat → Int32) (xc : Nat → Int32) (lo : Nat → Int64) (hi : Nat → Int64) (ou : Nat → Int32) (xi : Nat → Int32) (mp : Nat → Nat) (ml : Nat → Nat) (hnp : np ≤ 8) (hM : RM 0 np fk mp ml pt le) : OM (S := Unit) l g yX11_firstLength cX11_firstLength 2 (some .int) ({ frames := 0, cells := 0, slots := 0, locals := 0 } : Room) [.ref (mo 0)] (mdL g mo rr th np no bt en xx ra t0 t1 s1 ca cq ch st fk fn fo bb wt nx cx pt le sc ss ww xc lo hi ou xi) (fun _ => some (.int (nI (fmF fk ml np 0)))) (fun _ => (mdL g mo rr th np no bt en xx ra t0 t1 s1 ca cq ch st fk fn fo bb wt nx cx pt le sc ss ww xc lo hi ou xi)) := by
  refine OM.startQ (by decide) (Nat.le_of_ble_eq_true rfl) ?_
  intro p e s m below meth c A ls Q H locs hQ C hnm hl hT
  have hx := C.x
  have hb := C.b
  have hl : lv_has ls 2 [(0, .ref (mo 0))] := hl
  refine lv_iconst (v := 0) hx hb dX11_firstLength_0 (by decide) ?_
  refine lv_istore_n (lv' := [(1, .int 0), (0, .ref (mo 0))]) hx hb dX11_firstLength_1 rfl hl (by decide) rfl (fun ls hl => ?_)
  have loop_2 : ∀ (fu : Nat) (i : Nat) (vx1 : Int32) (H : Heap) (locs : List Loc) (ls : Array Slot) (hli : i ≤ np) (vex1 : vx1 = nI i) (hF : fmF fk ml (np - i) i = fmF fk ml np 0), np - i < fu → Wd g A s (mdL g mo rr th np no bt en xx ra t0 t1 s1 ca cq ch st fk fn fo bb wt nx cx pt le sc ss ww xc lo hi ou xi) H locs → lv_has ls 2 [(0, .ref (mo 0)), (1, .int vx1)] → W p l e ({ frames := 0, cells := 0, slots := 0, locals := 0 } : Room) s m ([.ref (mo 0)] : List Value).toArray below meth c H locs 0 0 Q (F0 m 2 ls []) := by
    intro fu
    induction fu with
    | zero => intro i vx1 H locs ls hli vex1 hF hm; exact absurd hm (Nat.not_lt_zero _)
    | succ fu ih =>
      intro i vx1 H locs ls hli vex1 hF hm hT hl
      refine lv_iload_n hx hb dX11_firstLength_2 rfl (lv_at hl 1 rfl) ?_
      refine lv_aload_n hx hb dX11_firstLength_3 rfl (lv_at hl 0 rfl) ?_
      refine gX11_91 C hT (q0 := 0) rfl dX11_firstLength_4 ?_
      refine lv_icmp_ge (tgt := 33) hx hb dX11_firstLength_7 (by decide) (fun h_1 => ?_) (fun h_1 => ?_)
      · skip
        have hin := lp_end vex1 (by omega) hli h_1
        refine lv_iconst (v := 0) hx hb dX11_firstLength_33 (by decide) ?_
        exact e_iret C hQ () hT (by rw [← hF, hin, Nat.sub_self]; rfl) dX11_firstLength_34
      · skip
        have hin := lp_go vex1 (by omega) hli h_1
        refine lv_aload_n hx hb dX11_firstLength_10 rfl (lv_at hl 0 rfl) ?_
        refine gX11_13 C hT (q0 := 0) rfl dX11_firstLength_11 ?_
        refine lv_iload_n hx hb dX11_firstLength_14 rfl (lv_at hl 1 rfl) ?_
        refine r_iald C hT (q0 := 2) rfl i vex1 (by omega) (by decide) dX11_firstLength_15 ?_
        refine lv_iconst (v := 4) hx hb dX11_firstLength_16 (by decide) ?_
        refine lv_icmp_ne (tgt := 27) hx hb dX11_firstLength_17 (by decide) (fun h_2 => ?_) (fun h_2 => ?_)
        · skip
          have hk4 := h_2
          obtain ⟨x_3, ex_3⟩ : ∃ y : Int32, y = vx1 + 1 := ⟨_, rfl⟩
          refine lv_iinc (v := x_3) (lv' := [(1, .int x_3), (0, .ref (mo 0))]) hx hb dX11_firstLength_27 hl (k := 1) rfl (by rw [ex_3]; rfl) (by decide) rfl (fun ls hl => ?_)
          refine lv_goto (tgt := 2) hx hb dX11_firstLength_30 (by decide) ?_
          exact ih (i + 1) x_3 H locs ls (by first | assumption | omega | rfl) (by rw [ex_3, vex1]; exact nI_1 i) ((fmF_f hin hk4).trans hF) (by omega) hT (lv_sub hl [1, 0] rfl)
        · skip
          have hk4 := h_2
          have hlm : le i = nI (ml i) := by have h9 := (hM i hin hk4).1; rw [Nat.mul_zero, Nat.zero_add] at h9; exact h9
          refine lv_aload_n hx hb dX11_firstLength_20 rfl (lv_at hl 0 rfl) ?_
          refine gX11_38 C hT (q0 := 0) rfl dX11_firstLength_21 ?_
          refine lv_iload_n hx hb dX11_firstLength_24 rfl (lv_at hl 1 rfl) ?_
          refine r_iald C hT (q0 := 10) rfl i vex1 (by omega) (by decide) dX11_firstLength_25 ?_
          refine W.eq (g2 := F0 m 26 ls [.int (nI (ml i))]) (congrArg (fun z => F0 m 26 ls (.int z :: [])) (hlm)) ?_
          exact e_iret C hQ () hT (by rw [← hF, fmF_t hin hk4]) dX11_firstLength_26
  exact loop_2 (np - 0 + 1) 0 0 H locs ls (by first | assumption | omega | rfl) rfl rfl (Nat.lt_succ_self _) hT (lv_sub hl [1, 0] rfl)

set_option maxHeartbeats 400000 in
set_option maxRecDepth 100000 in
theorem c_X11_count (l : Launch) (g : GT) (mo : Nat → Nat) (rr : Nat) (th : Int32) (np : Nat) (no : Nat) (bt : Nat) (en : Bool) (xx : Int64) (ra : Nat) (t0 : Int32) (t1 : Int32) (s1 : Int32) (ca : Int32) (cq : Int32) (ch : Int32) (st : Nat → Int32) (fk : Nat → Int32) (fn : Nat → Int32) (fo : Nat → Int32) (bb : Nat → Int32) (wt : Nat → Int32) (nx : Nat → Int32) (cx : Nat → Int32) (pt : Nat → Int32) (le : Nat → Int32) (sc : Nat → Int32) (ss : Nat → Int32) (ww : Nat → Int32) (xc : Nat → Int32) (lo : Nat → Int64) (hi : Nat → Int64) (ou : Nat → Int32) (xi : Nat → Int32) (N : Nat) (U : SSt) (V : SSt) (q : Int32) (hnp : np ≤ 8) (hw : wt 0 = nI (s_n U)) (hv : wt 1 = nI (s_n V)) (hbt : bt = s_bg U) (hM : RM 0 np fk (s_mp U) (s_ml U) pt le) (hrr : rr ≤ 12) (hN : N = 2 ^ rr) : OM (S := Unit) l g yX11_count cX11_count 2 (some .int) ({ frames := 1, cells := 0, slots := 0, locals := 21 } : Room) [.ref (mo 0), .int q] (mdL g mo rr th np no bt en xx ra t0 t1 s1 ca cq ch st fk fn fo bb wt nx cx pt le sc ss ww xc lo hi ou xi) (fun _ => some (.int (cntI np N no fk en U V q))) (fun _ => (mdL g mo rr 0 np no bt en xx ra t0 t1 s1 ca cq ch st fk fn fo bb wt nx cx pt le sc ss ww xc lo hi ou xi)) := by
  refine OM.startQ (by decide) (Nat.le_of_ble_eq_true rfl) ?_
  intro p e s m below meth c A ls Q H locs hQ C hnm hl hT
  have hx := C.x
  have hb := C.b
  have hl : lv_has ls 2 [(0, .ref (mo 0)), (1, .int q)] := hl
  refine lv_aload_n hx hb dX11_count_0 rfl (lv_at hl 0 rfl) ?_
  refine lv_iconst (v := 0) hx hb dX11_count_1 (by decide) ?_
  refine pX11_77 C hT (q0 := 0) rfl dX11_count_2 (fun H locs hT => ?_)
  have hT : Wd g A s (mdL g mo rr 0 np no bt en xx ra t0 t1 s1 ca cq ch st fk fn fo bb wt nx cx pt le sc ss ww xc lo hi ou xi) H locs := hT
  refine lv_iload_n hx hb dX11_count_5 rfl (lv_at hl 1 rfl) ?_
  by_cases h_1 : q = 0
  · skip
    refine lv_tableIn (off := 46) (tgt := 52) hx hb dX11_count_6 (by rw [h_1]; decide) (by rw [h_1]; decide) (by rw [h_1]; rfl) (by decide) ?_
    refine lv_aload_n hx hb dX11_count_52 rfl (lv_at hl 0 rfl) ?_
    refine gX11_91 C hT (q0 := 0) rfl dX11_count_53 ?_
    exact e_iret C hQ () hT (by unfold cntI; rw [if_pos h_1]) dX11_count_56
  by_cases h_2 : q = 1
  · skip
    refine lv_tableIn (off := 51) (tgt := 57) hx hb dX11_count_6 (by rw [h_2]; decide) (by rw [h_2]; decide) (by rw [h_2]; rfl) (by decide) ?_
    refine lv_aload_n hx hb dX11_count_57 rfl (lv_at hl 0 rfl) ?_
    refine gX11_26 C hT (q0 := 0) rfl dX11_count_58 ?_
    refine lv_iconst (v := 0) hx hb dX11_count_61 (by decide) ?_
    refine r_iald C hT (q0 := 6) rfl 0 rfl (by decide) (by decide) dX11_count_62 ?_
    refine W.eq (g2 := F0 m 63 ls [.int (nI (s_n U))]) (congrArg (fun z => F0 m 63 ls (.int z :: [])) (hw)) ?_
    exact e_iret C hQ () hT (by unfold cntI; rw [if_neg h_1, if_pos h_2]) dX11_count_63
  by_cases h_3 : q = 2
  · skip
    refine lv_tableIn (off := 58) (tgt := 64) hx hb dX11_count_6 (by rw [h_3]; decide) (by rw [h_3]; decide) (by rw [h_3]; rfl) (by decide) ?_
    refine lv_aload_n hx hb dX11_count_64 rfl (lv_at hl 0 rfl) ?_
    refine gX11_107 C hT (q0 := 0) rfl dX11_count_65 ?_
    exact e_iret C hQ () hT (by unfold cntI; rw [if_neg h_1, if_neg h_2, if_pos h_3]; rw [hbt]) dX11_count_68
  by_cases h_4 : q = 3
  · skip
    refine lv_tableIn (off := 63) (tgt := 69) hx hb dX11_count_6 (by rw [h_4]; decide) (by rw [h_4]; decide) (by rw [h_4]; rfl) (by decide) ?_
    refine lv_aload_n hx hb dX11_count_69 rfl (lv_at hl 0 rfl) ?_
    refine gX11_104 C hT (q0 := 0) rfl dX11_count_70 ?_
    exact e_iret C hQ () hT (by unfold cntI; rw [if_neg h_1, if_neg h_2, if_neg h_3, if_pos h_4]) dX11_count_73
  by_cases h_5 : q = 4
  · skip
    refine lv_tableIn (off := 68) (tgt := 74) hx hb dX11_count_6 (by rw [h_5]; decide) (by rw [h_5]; decide) (by rw [h_5]; rfl) (by decide) ?_
    refine lv_aload_n hx hb dX11_count_74 rfl (lv_at hl 0 rfl) ?_
    refine gX11_26 C hT (q0 := 0) rfl dX11_count_75 ?_
    refine lv_iconst (v := 1) hx hb dX11_count_78 (by decide) ?_
    refine r_iald C hT (q0 := 6) rfl 1 rfl (by decide) (by decide) dX11_count_79 ?_
    refine W.eq (g2 := F0 m 80 ls [.int (nI (s_n V))]) (congrArg (fun z => F0 m 80 ls (.int z :: [])) (hv)) ?_
    exact e_iret C hQ () hT (by unfold cntI; rw [if_neg h_1, if_neg h_2, if_neg h_3, if_neg h_4, if_pos h_5]) dX11_count_80
  by_cases h_6 : q = 5
  · skip
    refine lv_tableIn (off := 75) (tgt := 81) hx hb dX11_count_6 (by rw [h_6]; decide) (by rw [h_6]; decide) (by rw [h_6]; rfl) (by decide) ?_
    refine lv_iconst (v := 1) hx hb dX11_count_81 (by decide) ?_
    refine lv_aload_n hx hb dX11_count_82 rfl (lv_at hl 0 rfl) ?_
    refine gX11_66 C hT (q0 := 0) rfl dX11_count_83 ?_
    refine lv_ishl hx hb dX11_count_86 ?_
    refine W.eq (g2 := F0 m 87 ls [.int (nI N)]) (congrArg (fun z => F0 m 87 ls (.int z :: [])) ((by rw [hN]; exact one_shl hrr))) ?_
    exact e_iret C hQ () hT (by unfold cntI; rw [if_neg h_1, if_neg h_2, if_neg h_3, if_neg h_4, if_neg h_5, if_pos h_6]) dX11_count_87
  by_cases h_7 : q = 6
  · skip
    refine lv_tableIn (off := 82) (tgt := 88) hx hb dX11_count_6 (by rw [h_7]; decide) (by rw [h_7]; decide) (by rw [h_7]; rfl) (by decide) ?_
    refine lv_aload_n hx hb dX11_count_88 rfl (lv_at hl 0 rfl) ?_
    refine gX11_110 C hT (q0 := 0) rfl dX11_count_89 ?_
    refine lv_if_eq (tgt := 99) hx hb dX11_count_92 (by decide) (fun h_8 => ?_) (fun h_8 => ?_)
    · skip
      have h_8 := b01_f h_8
      refine lv_iconst (v := 0) hx hb dX11_count_99 (by decide) ?_
      exact e_iret C hQ () hT (by unfold cntI; rw [if_neg h_1, if_neg h_2, if_neg h_3, if_neg h_4, if_neg h_5, if_neg h_6, if_pos h_7]; rw [h_8]; rfl) dX11_count_100
    · skip
      have h_8 := b01_t h_8
      refine lv_iconst (v := 1) hx hb dX11_count_95 (by decide) ?_
      refine lv_goto (tgt := 100) hx hb dX11_count_96 (by decide) ?_
      exact e_iret C hQ () hT (by unfold cntI; rw [if_neg h_1, if_neg h_2, if_neg h_3, if_neg h_4, if_neg h_5, if_neg h_6, if_pos h_7]; rw [h_8]; rfl) dX11_count_100
  by_cases h_9 : q = 7
  · skip
    refine lv_tableIn (off := 95) (tgt := 101) hx hb dX11_count_6 (by rw [h_9]; decide) (by rw [h_9]; decide) (by rw [h_9]; rfl) (by decide) ?_
    refine lv_aload_n hx hb dX11_count_101 rfl (lv_at hl 0 rfl) ?_
    have hM := c_X11_firstLength l g mo rr 0 np no bt en xx ra t0 t1 s1 ca cq ch st fk fn fo bb wt nx cx pt le sc ss ww xc lo hi ou xi (s_mp U) (s_ml U) hnp hM
    refine r_callRO (js := [0, 1, 2, 3, 4, 5, 6, 7, 8, 9, 10, 11, 12, 13, 14, 15, 16, 17, 18]) C hT (runV (js := [0, 1, 2, 3, 4, 5, 6, 7, 8, 9, 10, 11, 12, 13, 14, 15, 16, 17, 18]) (rm := ({ frames := 0, cells := 0, slots := 0, locals := 0 } : Room)) (As := []) (n := 0) (q1 := 0) (rest := []) C hT hM rfl rfl k1019 k1021 s28 k15 k1022 (by decide +kernel) rfl rfl rfl rfl (Nat.le_of_ble_eq_true rfl) hl.1 ⟨Nat.le_of_ble_eq_true rfl, Nat.le_of_ble_eq_true rfl⟩ ⟨Nat.le_of_ble_eq_true rfl, Nat.le_of_ble_eq_true rfl⟩ dX11_count_102) rfl rfl (fun u H locs hT => ?_)
    refine W.eq (g2 := F0 m 105 ls [.int (nI (fmF fk (s_ml U) np 0))]) rfl ?_
    exact e_iret C hQ () hT (by unfold cntI; rw [if_neg h_1, if_neg h_2, if_neg h_3, if_neg h_4, if_neg h_5, if_neg h_6, if_neg h_7, if_pos h_9]) dX11_count_105
  refine lv_tableOut (tgt := 106) hx hb dX11_count_6 (swOut8 h_1 h_2 h_3 h_4 h_5 h_6 h_7 h_9) (by decide) ?_
  refine lv_iconst (v := (-1)) hx hb dX11_count_106 (by decide) ?_
  exact e_iret C hQ () hT (by unfold cntI; rw [if_neg h_1, if_neg h_2, if_neg h_3, if_neg h_4, if_neg h_5, if_neg h_6, if_neg h_7, if_neg h_9]) dX11_count_107

set_option maxHeartbeats 400000 in
set_option maxRecDepth 100000 in
theorem c_X11_loadX (l : Launch) (g : GT) (mo : Nat → Nat) (rr : Nat) (th : Int32) (np : Nat) (no : Nat) (bt : Nat) (en : Bool) (xx : Int64) (ra : Nat) (t0 : Int32) (t1 : Int32) (s1 : Int32) (ca : Int32) (cq : Int32) (ch : Int32) (st : Nat → Int32) (fk : Nat → Int32) (fn : Nat → Int32) (fo : Nat → Int32) (bb : Nat → Int32) (wt : Nat → Int32) (nx : Nat → Int32) (cx : Nat → Int32) (pt : Nat → Int32) (le : Nat → Int32) (sc : Nat → Int32) (ss : Nat → Int32) (ww : Nat → Int32) (xc : Nat → Int32) (lo : Nat → Int64) (hi : Nat → Int64) (ou : Nat → Int32) (xi : Nat → Int32) (hno : no ≤ 3200) (hou : ouI no ou) : OM (S := Unit) l g yX11_loadX cX11_loadX 2 none ({ frames := 1, cells := 0, slots := 0, locals := 21 } : Room) [.ref (mo 0)] (mdL g mo rr th np no bt en xx ra t0 t1 s1 ca cq ch st fk fn fo bb wt nx cx pt le sc ss ww xc lo hi ou xi) (fun _ => none) (fun _ => (mdL g mo rr th np no bt en (tkC no ou 4) 4 t0 t1 s1 ca cq ch st fk fn fo bb wt nx cx pt le sc ss ww xc lo hi ou xi)) := by
  refine OM.startQ (by decide) (Nat.le_of_ble_eq_true rfl) ?_
  intro p e s m below meth c A ls Q H locs hQ C hnm hl hT
  have hx := C.x
  have hb := C.b
  have hl : lv_has ls 2 [(0, .ref (mo 0))] := hl
  refine lv_aload_n hx hb dX11_loadX_0 rfl (lv_at hl 0 rfl) ?_
  refine lv_iconst (v := 0) hx hb dX11_loadX_1 (by decide) ?_
  refine W.eq (g2 := F0 m 2 ls [.int (nI 0), .ref (mo 0)]) (congrArg (fun z => F0 m 2 ls (.int z :: [.ref (mo 0)])) (rfl)) ?_
  refine pX11_114 C hT (q0 := 0) rfl dX11_loadX_2 (fun H locs hT => ?_)
  have hT : Wd g A s (mdL g mo rr th np no bt en xx 0 t0 t1 s1 ca cq ch st fk fn fo bb wt nx cx pt le sc ss ww xc lo hi ou xi) H locs := hT
  refine lv_aload_n hx hb dX11_loadX_5 rfl (lv_at hl 0 rfl) ?_
  refine lv_lconst (v := 0) hx hb dX11_loadX_6 (by decide) ?_
  refine pX11_201 C hT (q0 := 0) rfl dX11_loadX_7 (fun H locs hT => ?_)
  have hT : Wd g A s (mdL g mo rr th np no bt en 0 0 t0 t1 s1 ca cq ch st fk fn fo bb wt nx cx pt le sc ss ww xc lo hi ou xi) H locs := hT
  refine lv_iconst (v := 0) hx hb dX11_loadX_10 (by decide) ?_
  refine lv_istore_n (lv' := [(1, .int 0), (0, .ref (mo 0))]) hx hb dX11_loadX_11 rfl hl (by decide) rfl (fun ls hl => ?_)
  have loop_12 : ∀ (fu : Nat) (i : Nat) (vx1 : Int32) (xx1 : Int64) (ra1 : Nat) (H : Heap) (locs : List Loc) (ls : Array Slot) (hli : i ≤ 4) (vex1 : vx1 = nI i) (hx1 : xx1 = tkC no ou i) (hr1 : ra1 = i), 4 - i < fu → Wd g A s (mdL g mo rr th np no bt en xx1 ra1 t0 t1 s1 ca cq ch st fk fn fo bb wt nx cx pt le sc ss ww xc lo hi ou xi) H locs → lv_has ls 2 [(0, .ref (mo 0)), (1, .int vx1)] → W p l e ({ frames := 1, cells := 0, slots := 0, locals := 21 } : Room) s m ([.ref (mo 0)] : List Value).toArray below meth c H locs 0 0 Q (F0 m 12 ls []) := by
    intro fu
    induction fu with
    | zero => intro i vx1 xx1 ra1 H locs ls hli vex1 hx1 hr1 hm; exact absurd hm (Nat.not_lt_zero _)
    | succ fu ih =>
      intro i vx1 xx1 ra1 H locs ls hli vex1 hx1 hr1 hm hT hl
      refine lv_iload_n hx hb dX11_loadX_12 rfl (lv_at hl 1 rfl) ?_
      refine lv_iconst (v := 4) hx hb dX11_loadX_13 (by decide) ?_
      refine lv_icmp_ge (tgt := 40) hx hb dX11_loadX_14 (by decide) (fun h_1 => ?_) (fun h_1 => ?_)
      · skip
        have hin := lp_end (n := 4) vex1 (by decide) hli h_1
        rw [hin] at hx1 hr1
        exact e_vret C hQ () (by rw [hx1, hr1] at hT; exact hT) rfl dX11_loadX_40
      · skip
        have hin := lp_go (n := 4) vex1 (by decide) hli h_1
        refine lv_aload_n hx hb dX11_loadX_17 rfl (lv_at hl 0 rfl) ?_
        refine lv_aload_n hx hb dX11_loadX_18 rfl (lv_at hl 0 rfl) ?_
        refine gX11_201 C hT (q0 := 0) rfl dX11_loadX_19 ?_
        refine lv_bipush (v := 8) hx hb dX11_loadX_22 (by decide) ?_
        refine lv_lshl hx hb dX11_loadX_24 rfl ?_
        refine lv_aload_n hx hb dX11_loadX_25 rfl (lv_at hl 0 rfl) ?_
        have hM := c_X11_nextOut l g mo rr th np no bt en xx1 ra1 t0 t1 s1 ca cq ch st fk fn fo bb wt nx cx pt le sc ss ww xc lo hi ou xi (by first | assumption | omega) (by omega)
        refine r_callW C hT (runVW (rm := ({ frames := 0, cells := 0, slots := 0, locals := 0 } : Room)) (As := []) (n := 0) (q1 := 0) (rest := [.long (xx1 <<< ((8 : Int32).toInt64 &&& 63)), .ref (mo 0)]) C hT hM k958 k960 s27 k15 k961 (by decide +kernel) rfl rfl rfl rfl (Nat.le_of_ble_eq_true rfl) hl.1 ⟨Nat.le_of_ble_eq_true rfl, Nat.le_of_ble_eq_true rfl⟩ ⟨Nat.le_of_ble_eq_true rfl, Nat.le_of_ble_eq_true rfl⟩ dX11_loadX_26) (fun u H locs hT => ?_)
        have hT : Wd g A s (mdL g mo rr th np no bt en xx1 (ra1 + 1) t0 t1 s1 ca cq ch st fk fn fo bb wt nx cx pt le sc ss ww xc lo hi ou xi) H locs := hT
        refine W.eq (g2 := F0 m 29 ls [.int (nxtI no ou ra1), .long (xx1 <<< ((8 : Int32).toInt64 &&& 63)), .ref (mo 0)]) rfl ?_
        refine lv_i2l hx hb dX11_loadX_29 rfl ?_
        refine lv_lor hx hb dX11_loadX_30 ?_
        refine lv_topl (fun x_2 ex_2 => ?_)
        refine pX11_201 C hT (q0 := 0) rfl dX11_loadX_31 (fun H locs hT => ?_)
        have hT : Wd g A s (mdL g mo rr th np no bt en x_2 (ra1 + 1) t0 t1 s1 ca cq ch st fk fn fo bb wt nx cx pt le sc ss ww xc lo hi ou xi) H locs := hT
        obtain ⟨x_3, ex_3⟩ : ∃ y : Int32, y = vx1 + 1 := ⟨_, rfl⟩
        refine lv_iinc (v := x_3) (lv' := [(1, .int x_3), (0, .ref (mo 0))]) hx hb dX11_loadX_34 hl (k := 1) rfl (by rw [ex_3]; rfl) (by decide) rfl (fun ls hl => ?_)
        refine lv_goto (tgt := 12) hx hb dX11_loadX_37 (by decide) ?_
        exact ih (i + 1) x_3 x_2 (ra1 + 1) H locs ls (by first | assumption | omega | rfl) (by rw [ex_3, vex1]; exact nI_1 i) (by rw [ex_2, hx1, hr1]; exact tk_R hou hin) (by omega) (by omega) hT (lv_sub hl [1, 0] rfl)
  exact loop_12 (4 - 0 + 1) 0 0 0 0 H locs ls (by first | assumption | omega | rfl) rfl rfl rfl (Nat.lt_succ_self _) hT (lv_sub hl [1, 0] rfl)
