set_option maxHeartbeats 400000 in
set_option maxRecDepth 100000 in
theorem c_X0_init (l : Launch) (g : GT) (a0 : Nat) : OM (S := Unit) l g yX0_init cX0_init 1 none ({ frames := 1, cells := 0, slots := 0, locals := 12 } : Room) [.ref a0] [(a0, .inr (0, [.long 0, .long 0]))] (fun _ => none) (fun _ => [(a0, .inr (0, [.long 0, .long 4294967295]))]) := by
  refine OM.startQ (by decide) (Nat.le_of_ble_eq_true rfl) ?_
  intro p e s m below meth c A ls Q H locs hQ C hnm hl hT
  have hx := C.x
  have hb := C.b
  have hl : lv_has ls 1 [(0, .ref a0)] := hl
  refine lv_aload_n hx hb dX0_init_0 rfl (lv_at hl 0 rfl) ?_
  refine W.objInit hx hb C.ow (C.ts _ k244) (C.ts _ k28) (C.ts _ k29) rfl (by rw [C.ml]; exact hl.1) rfl dX0_init_1 (Nat.le_of_ble_eq_true rfl) (Nat.le_of_ble_eq_true rfl) ?_
  refine W.eq (g2 := F0 m 4 ls []) rfl ?_
  refine lv_aload_n hx hb dX0_init_4 rfl (lv_at hl 0 rfl) ?_
  refine lv_ldc2 (v := 4294967295) hx hb C.ow (C.ts _ k245) dX0_init_5 ?_
  refine pX0_11 C hT (q0 := 0) rfl dX0_init_8 (fun H locs hT => ?_)
  have hT : Wd g A s [(a0, .inr (0, [.long 0, .long 4294967295]))] H locs := hT
  exact e_vret C hQ () hT rfl dX0_init_11

set_option maxHeartbeats 400000 in
set_option maxRecDepth 100000 in
theorem c_X3_init (l : Launch) (g : GT) (a0 : Nat) : OM (S := Unit) l g yX3_init cX3_init 1 none ({ frames := 1, cells := 0, slots := 0, locals := 12 } : Room) [.ref a0] [(a0, .inr (3, [.int 0, .int 0]))] (fun _ => none) (fun _ => [(a0, .inr (3, [.int 0, .int 0]))]) := by
  refine OM.startQ (by decide) (Nat.le_of_ble_eq_true rfl) ?_
  intro p e s m below meth c A ls Q H locs hQ C hnm hl hT
  have hx := C.x
  have hb := C.b
  have hl : lv_has ls 1 [(0, .ref a0)] := hl
  refine lv_aload_n hx hb dX3_init_0 rfl (lv_at hl 0 rfl) ?_
  refine W.objInit hx hb C.ow (C.ts _ k180) (C.ts _ k28) (C.ts _ k29) rfl (by rw [C.ml]; exact hl.1) rfl dX3_init_1 (Nat.le_of_ble_eq_true rfl) (Nat.le_of_ble_eq_true rfl) ?_
  refine W.eq (g2 := F0 m 4 ls []) rfl ?_
  exact e_vret C hQ () hT rfl dX3_init_4

set_option maxHeartbeats 400000 in
set_option maxRecDepth 100000 in
theorem c_X1_init (l : Launch) (g : GT) (a0 : Nat) : OM (S := {zq : (Nat) // (True)}) l g yX1_init cX1_init 1 none ({ frames := 2, cells := 1, slots := 8448, locals := 81 } : Room) [.ref a0] [(a0, .inr (1, [.null, .int 0]))] (fun _ => none) (fun zu => [(a0, .inr (1, [.ref zu.1, .int 0])), (zu.1, .inl (g.2.1 0, 8448, .inl (cFill (fun _ => 0) 8448)))]) := by
  refine OM.startQ (by decide) (Nat.le_of_ble_eq_true rfl) ?_
  intro p e s m below meth c A ls Q H locs hQ C hnm hl hT
  have hx := C.x
  have hb := C.b
  have hl : lv_has ls 1 [(0, .ref a0)] := hl
  refine lv_aload_n hx hb dX1_init_0 rfl (lv_at hl 0 rfl) ?_
  refine W.objInit hx hb C.ow (C.ts _ k139) (C.ts _ k28) (C.ts _ k29) rfl (by rw [C.ml]; exact hl.1) rfl dX1_init_1 (Nat.le_of_ble_eq_true rfl) (Nat.le_of_ble_eq_true rfl) ?_
  refine W.eq (g2 := F0 m 4 ls []) rfl ?_
  refine lv_aload_n hx hb dX1_init_4 rfl (lv_at hl 0 rfl) ?_
  refine lv_sipush (v := 8448) hx hb dX1_init_5 (by decide) ?_
  refine r_newi C hT k54 (N := 8448) rfl (by decide) (Nat.le_of_ble_eq_true rfl) (Nat.le_of_ble_eq_true rfl) dX1_init_8 (fun q_1 H hT => ?_)
  have hT : Wd g A s [(a0, .inr (1, [.null, .int 0])), (q_1, .inl (g.2.1 0, 8448, .inl (fun _ => 0)))] H locs := hT
  refine W.widen (k := 1) (n := 8448) (Nat.le_of_ble_eq_true rfl) (Nat.le_of_ble_eq_true rfl) ?_
  refine pX1_9 C hnm hT (q0 := 0) rfl dX1_init_10 (fun H locs hT => ?_)
  have hT : Wd g A s [(a0, .inr (1, [.ref q_1, .int 0])), (q_1, .inl (g.2.1 0, 8448, .inl (fun _ => 0)))] H locs := hT
  refine lv_aload_n hx hb dX1_init_13 rfl (lv_at hl 0 rfl) ?_
  refine gX1_9 C hT (q0 := 0) rfl dX1_init_14 ?_
  have hM := c_X1_fill l g q_1 (fun _ => 0)
  refine r_call0 (js := [1]) C hT (runS (js := [1]) (rm := ({ frames := 1, cells := 0, slots := 0, locals := 60 } : Room)) (As := [.ref q_1]) (n := 1) (rest := []) C hT hM rfl rfl k140 k141 k9 k142 (by decide +kernel) rfl rfl (Nat.le_of_ble_eq_true rfl) hl.1 ⟨Nat.le_of_ble_eq_true rfl, Nat.le_of_ble_eq_true rfl⟩ ⟨Nat.le_of_ble_eq_true rfl, Nat.le_of_ble_eq_true rfl⟩ dX1_init_17) rfl rfl (fun _ => by simp only [List.map_cons, List.map_nil]) (fun u H locs hT => ?_)
  have hT : Wd g A s [(a0, .inr (1, [.ref q_1, .int 0])), (q_1, .inl (g.2.1 0, 8448, .inl (cFill (fun _ => 0) 8448)))] H locs := hT
  refine W.eq (g2 := F0 m 20 ls []) rfl ?_
  have hT : Wd g A s [(a0, .inr (1, [.ref q_1, .int 0])), (q_1, .inl (g.2.1 0, 8448, .inl (cFill (fun _ => 0) 8448)))] H locs := hT.pk (js := [0, 1]) rfl rfl
  exact e_vret C hQ ⟨(q_1), True.intro⟩ hT rfl dX1_init_20

set_option maxHeartbeats 400000 in
set_option maxRecDepth 100000 in
theorem c_X2_init (l : Launch) (g : GT) (a0 : Nat) : OM (S := {zq : (Nat) // (True)}) l g yX2_init cX2_init 1 none ({ frames := 1, cells := 1, slots := 2000, locals := 12 } : Room) [.ref a0] [(a0, .inr (2, [.null, .int 0, .int 0, .int 0]))] (fun _ => none) (fun zu => [(a0, .inr (2, [.ref zu.1, .int 0, .int 1, .int 0])), (zu.1, .inl (g.2.1 0, 2000, .inl (fun _ => 0)))]) := by
  refine OM.startQ (by decide) (Nat.le_of_ble_eq_true rfl) ?_
  intro p e s m below meth c A ls Q H locs hQ C hnm hl hT
  have hx := C.x
  have hb := C.b
  have hl : lv_has ls 1 [(0, .ref a0)] := hl
  refine lv_aload_n hx hb dX2_init_0 rfl (lv_at hl 0 rfl) ?_
  refine W.objInit hx hb C.ow (C.ts _ k91) (C.ts _ k28) (C.ts _ k29) rfl (by rw [C.ml]; exact hl.1) rfl dX2_init_1 (Nat.le_of_ble_eq_true rfl) (Nat.le_of_ble_eq_true rfl) ?_
  refine W.eq (g2 := F0 m 4 ls []) rfl ?_
  refine lv_aload_n hx hb dX2_init_4 rfl (lv_at hl 0 rfl) ?_
  refine lv_sipush (v := 2000) hx hb dX2_init_5 (by decide) ?_
  refine r_newi C hT k54 (N := 2000) rfl (by decide) (Nat.le_of_ble_eq_true rfl) (Nat.le_of_ble_eq_true rfl) dX2_init_8 (fun q_1 H hT => ?_)
  have hT : Wd g A s [(a0, .inr (2, [.null, .int 0, .int 0, .int 0])), (q_1, .inl (g.2.1 0, 2000, .inl (fun _ => 0)))] H locs := hT
  refine W.widen (k := 1) (n := 2000) (Nat.le_of_ble_eq_true rfl) (Nat.le_of_ble_eq_true rfl) ?_
  refine pX2_9 C hnm hT (q0 := 0) rfl dX2_init_10 (fun H locs hT => ?_)
  have hT : Wd g A s [(a0, .inr (2, [.ref q_1, .int 0, .int 0, .int 0])), (q_1, .inl (g.2.1 0, 2000, .inl (fun _ => 0)))] H locs := hT
  refine lv_aload_n hx hb dX2_init_13 rfl (lv_at hl 0 rfl) ?_
  refine lv_iconst (v := 1) hx hb dX2_init_14 (by decide) ?_
  refine pX2_15 C hT (q0 := 0) rfl dX2_init_15 (fun H locs hT => ?_)
  have hT : Wd g A s [(a0, .inr (2, [.ref q_1, .int 0, .int 1, .int 0])), (q_1, .inl (g.2.1 0, 2000, .inl (fun _ => 0)))] H locs := hT
  have hT : Wd g A s [(a0, .inr (2, [.ref q_1, .int 0, .int 1, .int 0])), (q_1, .inl (g.2.1 0, 2000, .inl (fun _ => 0)))] H locs := hT.pk (js := [0, 1]) rfl rfl
  exact e_vret C hQ ⟨(q_1), True.intro⟩ hT rfl dX2_init_18

set_option maxHeartbeats 400000 in
set_option maxRecDepth 100000 in
theorem c_X4_init (l : Launch) (g : GT) (a0 : Nat) : OM (S := {zq : (Nat) // (True)}) l g yX4_init cX4_init 1 none ({ frames := 2, cells := 1, slots := 2304, locals := 44 } : Room) [.ref a0] [(a0, .inr (4, [.null, .int 0, .int 0]))] (fun _ => none) (fun zu => [(a0, .inr (4, [.ref zu.1, .int 0, .int 0])), (zu.1, .inl (g.2.1 0, 2304, .inl (wFill (fun _ => 0) 256)))]) := by
  refine OM.startQ (by decide) (Nat.le_of_ble_eq_true rfl) ?_
  intro p e s m below meth c A ls Q H locs hQ C hnm hl hT
  have hx := C.x
  have hb := C.b
  have hl : lv_has ls 1 [(0, .ref a0)] := hl
  refine lv_aload_n hx hb dX4_init_0 rfl (lv_at hl 0 rfl) ?_
  refine W.objInit hx hb C.ow (C.ts _ k116) (C.ts _ k28) (C.ts _ k29) rfl (by rw [C.ml]; exact hl.1) rfl dX4_init_1 (Nat.le_of_ble_eq_true rfl) (Nat.le_of_ble_eq_true rfl) ?_
  refine W.eq (g2 := F0 m 4 ls []) rfl ?_
  refine lv_aload_n hx hb dX4_init_4 rfl (lv_at hl 0 rfl) ?_
  refine lv_sipush (v := 2304) hx hb dX4_init_5 (by decide) ?_
  refine r_newi C hT k54 (N := 2304) rfl (by decide) (Nat.le_of_ble_eq_true rfl) (Nat.le_of_ble_eq_true rfl) dX4_init_8 (fun q_1 H hT => ?_)
  have hT : Wd g A s [(a0, .inr (4, [.null, .int 0, .int 0])), (q_1, .inl (g.2.1 0, 2304, .inl (fun _ => 0)))] H locs := hT
  refine W.widen (k := 1) (n := 2304) (Nat.le_of_ble_eq_true rfl) (Nat.le_of_ble_eq_true rfl) ?_
  refine pX4_11 C hnm hT (q0 := 0) rfl dX4_init_10 (fun H locs hT => ?_)
  have hT : Wd g A s [(a0, .inr (4, [.ref q_1, .int 0, .int 0])), (q_1, .inl (g.2.1 0, 2304, .inl (fun _ => 0)))] H locs := hT
  refine lv_aload_n hx hb dX4_init_13 rfl (lv_at hl 0 rfl) ?_
  refine gX4_11 C hT (q0 := 0) rfl dX4_init_14 ?_
  have hM := c_X4_fill l g q_1 (fun _ => 0)
  refine r_call0 (js := [1]) C hT (runS (js := [1]) (rm := ({ frames := 1, cells := 0, slots := 0, locals := 23 } : Room)) (As := [.ref q_1]) (n := 1) (rest := []) C hT hM rfl rfl k117 k118 k7 k119 (by decide +kernel) rfl rfl (Nat.le_of_ble_eq_true rfl) hl.1 ⟨Nat.le_of_ble_eq_true rfl, Nat.le_of_ble_eq_true rfl⟩ ⟨Nat.le_of_ble_eq_true rfl, Nat.le_of_ble_eq_true rfl⟩ dX4_init_17) rfl rfl (fun _ => by simp only [List.map_cons, List.map_nil]) (fun u H locs hT => ?_)
  have hT : Wd g A s [(a0, .inr (4, [.ref q_1, .int 0, .int 0])), (q_1, .inl (g.2.1 0, 2304, .inl (wFill (fun _ => 0) 256)))] H locs := hT
  refine W.eq (g2 := F0 m 20 ls []) rfl ?_
  have hT : Wd g A s [(a0, .inr (4, [.ref q_1, .int 0, .int 0])), (q_1, .inl (g.2.1 0, 2304, .inl (wFill (fun _ => 0) 256)))] H locs := hT.pk (js := [0, 1]) rfl rfl
  exact e_vret C hQ ⟨(q_1), True.intro⟩ hT rfl dX4_init_20

set_option maxHeartbeats 400000 in
set_option maxRecDepth 100000 in
theorem c_X6_init (l : Launch) (g : GT) (a0 : Nat) : OM (S := {zq : (Nat) // (True)}) l g yX6_init cX6_init 1 none ({ frames := 1, cells := 1, slots := 3028, locals := 12 } : Room) [.ref a0] [(a0, .inr (6, [.null, .int 0]))] (fun _ => none) (fun zu => [(a0, .inr (6, [.ref zu.1, .int 0])), (zu.1, .inl (g.2.1 0, 3028, .inl (fun _ => 0)))]) := by
  refine OM.startQ (by decide) (Nat.le_of_ble_eq_true rfl) ?_
  intro p e s m below meth c A ls Q H locs hQ C hnm hl hT
  have hx := C.x
  have hb := C.b
  have hl : lv_has ls 1 [(0, .ref a0)] := hl
  refine lv_aload_n hx hb dX6_init_0 rfl (lv_at hl 0 rfl) ?_
  refine W.objInit hx hb C.ow (C.ts _ k230) (C.ts _ k28) (C.ts _ k29) rfl (by rw [C.ml]; exact hl.1) rfl dX6_init_1 (Nat.le_of_ble_eq_true rfl) (Nat.le_of_ble_eq_true rfl) ?_
  refine W.eq (g2 := F0 m 4 ls []) rfl ?_
  refine lv_aload_n hx hb dX6_init_4 rfl (lv_at hl 0 rfl) ?_
  refine lv_sipush (v := 3028) hx hb dX6_init_5 (by decide) ?_
  refine r_newi C hT k54 (N := 3028) rfl (by decide) (Nat.le_of_ble_eq_true rfl) (Nat.le_of_ble_eq_true rfl) dX6_init_8 (fun q_1 H hT => ?_)
  have hT : Wd g A s [(a0, .inr (6, [.null, .int 0])), (q_1, .inl (g.2.1 0, 3028, .inl (fun _ => 0)))] H locs := hT
  refine W.widen (k := 1) (n := 3028) (Nat.le_of_ble_eq_true rfl) (Nat.le_of_ble_eq_true rfl) ?_
  refine pX6_13 C hnm hT (q0 := 0) rfl dX6_init_10 (fun H locs hT => ?_)
  have hT : Wd g A s [(a0, .inr (6, [.ref q_1, .int 0])), (q_1, .inl (g.2.1 0, 3028, .inl (fun _ => 0)))] H locs := hT
  have hT : Wd g A s [(a0, .inr (6, [.ref q_1, .int 0])), (q_1, .inl (g.2.1 0, 3028, .inl (fun _ => 0)))] H locs := hT.pk (js := [0, 1]) rfl rfl
  exact e_vret C hQ ⟨(q_1), True.intro⟩ hT rfl dX6_init_13

set_option maxHeartbeats 400000 in
set_option maxRecDepth 100000 in
theorem c_X7_init (l : Launch) (g : GT) (a0 : Nat) : OM (S := {zq : (Nat) × (Nat) × (Nat) // (True)}) l g yX7_init cX7_init 1 none ({ frames := 1, cells := 3, slots := 24, locals := 12 } : Room) [.ref a0] [(a0, .inr (7, [.null, .null, .null, .int 0]))] (fun _ => none) (fun zu => [(a0, .inr (7, [.ref zu.1.1, .ref zu.1.2.1, .ref zu.1.2.2, .int 0])), (zu.1.1, .inl (g.2.1 0, 8, .inl (fun _ => 0))), (zu.1.2.1, .inl (g.2.1 0, 8, .inl (fun _ => 0))), (zu.1.2.2, .inl (g.2.1 2, 8, .inl (fun _ => 0)))]) := by
  refine OM.startQ (by decide) (Nat.le_of_ble_eq_true rfl) ?_
  intro p e s m below meth c A ls Q H locs hQ C hnm hl hT
  have hx := C.x
  have hb := C.b
  have hl : lv_has ls 1 [(0, .ref a0)] := hl
  refine lv_aload_n hx hb dX7_init_0 rfl (lv_at hl 0 rfl) ?_
  refine W.objInit hx hb C.ow (C.ts _ k60) (C.ts _ k28) (C.ts _ k29) rfl (by rw [C.ml]; exact hl.1) rfl dX7_init_1 (Nat.le_of_ble_eq_true rfl) (Nat.le_of_ble_eq_true rfl) ?_
  refine W.eq (g2 := F0 m 4 ls []) rfl ?_
  refine lv_aload_n hx hb dX7_init_4 rfl (lv_at hl 0 rfl) ?_
  refine lv_bipush (v := 8) hx hb dX7_init_5 (by decide) ?_
  refine r_newi C hT k54 (N := 8) rfl (by decide) (Nat.le_of_ble_eq_true rfl) (Nat.le_of_ble_eq_true rfl) dX7_init_7 (fun q_1 H hT => ?_)
  have hT : Wd g A s [(a0, .inr (7, [.null, .null, .null, .int 0])), (q_1, .inl (g.2.1 0, 8, .inl (fun _ => 0)))] H locs := hT
  refine W.widen (k := 1) (n := 8) (Nat.le_of_ble_eq_true rfl) (Nat.le_of_ble_eq_true rfl) ?_
  refine pX7_9 C hnm hT (q0 := 0) rfl dX7_init_9 (fun H locs hT => ?_)
  have hT : Wd g A s [(a0, .inr (7, [.ref q_1, .null, .null, .int 0])), (q_1, .inl (g.2.1 0, 8, .inl (fun _ => 0)))] H locs := hT
  refine lv_aload_n hx hb dX7_init_12 rfl (lv_at hl 0 rfl) ?_
  refine lv_bipush (v := 8) hx hb dX7_init_13 (by decide) ?_
  refine r_newi C hT k54 (N := 8) rfl (by decide) (Nat.le_of_ble_eq_true rfl) (Nat.le_of_ble_eq_true rfl) dX7_init_15 (fun q_2 H hT => ?_)
  have hT : Wd g A s [(a0, .inr (7, [.ref q_1, .null, .null, .int 0])), (q_1, .inl (g.2.1 0, 8, .inl (fun _ => 0))), (q_2, .inl (g.2.1 0, 8, .inl (fun _ => 0)))] H locs := hT
  refine W.widen (k := 2) (n := 16) (Nat.le_of_ble_eq_true rfl) (Nat.le_of_ble_eq_true rfl) ?_
  refine pX7_15 C hnm hT (q0 := 0) rfl dX7_init_17 (fun H locs hT => ?_)
  have hT : Wd g A s [(a0, .inr (7, [.ref q_1, .ref q_2, .null, .int 0])), (q_1, .inl (g.2.1 0, 8, .inl (fun _ => 0))), (q_2, .inl (g.2.1 0, 8, .inl (fun _ => 0)))] H locs := hT
  refine lv_aload_n hx hb dX7_init_20 rfl (lv_at hl 0 rfl) ?_
  refine lv_bipush (v := 8) hx hb dX7_init_21 (by decide) ?_
  refine r_newz C hT k79 (N := 8) rfl (by decide) (Nat.le_of_ble_eq_true rfl) (Nat.le_of_ble_eq_true rfl) dX7_init_23 (fun q_3 H hT => ?_)
  have hT : Wd g A s [(a0, .inr (7, [.ref q_1, .ref q_2, .null, .int 0])), (q_1, .inl (g.2.1 0, 8, .inl (fun _ => 0))), (q_2, .inl (g.2.1 0, 8, .inl (fun _ => 0))), (q_3, .inl (g.2.1 2, 8, .inl (fun _ => 0)))] H locs := hT
  refine W.widen (k := 3) (n := 24) (Nat.le_of_ble_eq_true rfl) (Nat.le_of_ble_eq_true rfl) ?_
  refine pX7_18 C hnm hT (q0 := 0) rfl dX7_init_25 (fun H locs hT => ?_)
  have hT : Wd g A s [(a0, .inr (7, [.ref q_1, .ref q_2, .ref q_3, .int 0])), (q_1, .inl (g.2.1 0, 8, .inl (fun _ => 0))), (q_2, .inl (g.2.1 0, 8, .inl (fun _ => 0))), (q_3, .inl (g.2.1 2, 8, .inl (fun _ => 0)))] H locs := hT
  have hT : Wd g A s [(a0, .inr (7, [.ref q_1, .ref q_2, .ref q_3, .int 0])), (q_1, .inl (g.2.1 0, 8, .inl (fun _ => 0))), (q_2, .inl (g.2.1 0, 8, .inl (fun _ => 0))), (q_3, .inl (g.2.1 2, 8, .inl (fun _ => 0)))] H locs := hT.pk (js := [0, 1, 2, 3]) rfl rfl
  exact e_vret C hQ ⟨(q_1, q_2, q_3), True.intro⟩ hT rfl dX7_init_28

set_option maxHeartbeats 400000 in
set_option maxRecDepth 100000 in
theorem c_X9_init (l : Launch) (g : GT) (a0 : Nat) (rr : Nat) (N : Nat) (hr6 : 6 ≤ rr) (hrr : rr ≤ 12) (hN : N = 2 ^ rr) : OM (S := {zq : (Nat) × (Nat) // (True)}) l g yX9_init cX9_init 3 none ({ frames := 2, cells := 2, slots := 8192, locals := 45 } : Room) [.ref a0, .int (nI rr)] [(a0, .inr (9, [.null, .null]))] (fun _ => none) (fun zu => [(a0, .inr (9, [.ref zu.1.1, .ref zu.1.2])), (zu.1.1, .inl (g.2.1 0, N, .inl (fillTo (fun _ => 0) 32768 N))), (zu.1.2, .inl (g.2.1 0, N, .inl (fun _ => 0)))]) := by
  refine OM.startQ (by decide) (Nat.le_of_ble_eq_true rfl) ?_
  intro p e s m below meth c A ls Q H locs hQ C hnm hl hT
  have hx := C.x
  have hb := C.b
  have hl : lv_has ls 3 [(0, .ref a0), (1, .int (nI rr))] := hl
  have hN4 : N ≤ 4096 := by rw [hN]; exact Nat.pow_le_pow_right (i := rr) (j := 12) (by decide) hrr
  refine lv_aload_n hx hb dX9_init_0 rfl (lv_at hl 0 rfl) ?_
  refine W.objInit hx hb C.ow (C.ts _ k162) (C.ts _ k28) (C.ts _ k29) rfl (by rw [C.ml]; exact hl.1) rfl dX9_init_1 (Nat.le_of_ble_eq_true rfl) (Nat.le_of_ble_eq_true rfl) ?_
  refine W.eq (g2 := F0 m 4 ls []) rfl ?_
  refine lv_iconst (v := 1) hx hb dX9_init_4 (by decide) ?_
  refine lv_iload_n hx hb dX9_init_5 rfl (lv_at hl 1 rfl) ?_
  refine lv_bipush (v := 6) hx hb dX9_init_6 (by decide) ?_
  refine lv_bipush (v := 12) hx hb dX9_init_8 (by decide) ?_
  have hM := c_X5_bound l g (nI rr) 6 12
  refine r_callRO (js := []) C hT (runS (js := []) (rm := ({ frames := 1, cells := 0, slots := 0, locals := 23 } : Room)) (As := [.int (nI rr), .int 6, .int 12]) (n := 3) (rest := [.int 1]) C hT hM rfl rfl k163 k31 k2 k32 (by decide +kernel) rfl rfl (Nat.le_of_ble_eq_true rfl) hl.1 ⟨Nat.le_of_ble_eq_true rfl, Nat.le_of_ble_eq_true rfl⟩ ⟨Nat.le_of_ble_eq_true rfl, Nat.le_of_ble_eq_true rfl⟩ dX9_init_10) rfl rfl (fun u H locs hT => ?_)
  refine W.eq (g2 := F0 m 13 ls [.int (boundI (nI rr) 6 12), .int 1]) rfl ?_
  refine W.eq (g2 := F0 m 13 ls [.int (nI rr), .int 1]) (congrArg (fun z => F0 m 13 ls (.int z :: [.int 1])) (bnd_id hr6 hrr)) ?_
  refine lv_ishl hx hb dX9_init_13 ?_
  refine W.eq (g2 := F0 m 14 ls [.int (nI N)]) (congrArg (fun z => F0 m 14 ls (.int z :: [])) ((by rw [hN]; exact one_shl hrr))) ?_
  refine lv_istore_n (lv' := [(2, .int (nI N)), (0, .ref a0), (1, .int (nI rr))]) hx hb dX9_init_14 rfl hl (by decide) rfl (fun ls hl => ?_)
  refine lv_aload_n hx hb dX9_init_15 rfl (lv_at hl 1 rfl) ?_
  refine lv_iload_n hx hb dX9_init_16 rfl (lv_at hl 0 rfl) ?_
  refine r_newi C hT k54 (N := N) rfl (by omega) (Nat.le_of_ble_eq_true rfl) (by show 0 + N ≤ 8192; omega) dX9_init_17 (fun q_1 H hT => ?_)
  have hT : Wd g A s [(a0, .inr (9, [.null, .null])), (q_1, .inl (g.2.1 0, N, .inl (fun _ => 0)))] H locs := hT
  refine W.widen (k := 1) (n := 4096) (Nat.le_of_ble_eq_true rfl) (by show 0 + N ≤ 4096; omega) ?_
  refine pX9_15 C hnm hT (q0 := 0) rfl dX9_init_19 (fun H locs hT => ?_)
  have hT : Wd g A s [(a0, .inr (9, [.ref q_1, .null])), (q_1, .inl (g.2.1 0, N, .inl (fun _ => 0)))] H locs := hT
  refine lv_aload_n hx hb dX9_init_22 rfl (lv_at hl 1 rfl) ?_
  refine lv_iload_n hx hb dX9_init_23 rfl (lv_at hl 0 rfl) ?_
  refine r_newi C hT k54 (N := N) rfl (by omega) (Nat.le_of_ble_eq_true rfl) (by show 4096 + N ≤ 8192; omega) dX9_init_24 (fun q_2 H hT => ?_)
  have hT : Wd g A s [(a0, .inr (9, [.ref q_1, .null])), (q_1, .inl (g.2.1 0, N, .inl (fun _ => 0))), (q_2, .inl (g.2.1 0, N, .inl (fun _ => 0)))] H locs := hT
  refine W.widen (k := 2) (n := 8192) (Nat.le_of_ble_eq_true rfl) (by show 4096 + N ≤ 8192; omega) ?_
  refine pX9_21 C hnm hT (q0 := 0) rfl dX9_init_26 (fun H locs hT => ?_)
  have hT : Wd g A s [(a0, .inr (9, [.ref q_1, .ref q_2])), (q_1, .inl (g.2.1 0, N, .inl (fun _ => 0))), (q_2, .inl (g.2.1 0, N, .inl (fun _ => 0)))] H locs := hT
  refine lv_aload_n hx hb dX9_init_29 rfl (lv_at hl 1 rfl) ?_
  refine gX9_15 C hT (q0 := 0) rfl dX9_init_30 ?_
  refine lv_ldc (v := 32768) hx hb C.ow (C.ts _ k164) dX9_init_33 ?_
  have hM := c_J7_fill_53178 l g q_1 N (fun _ => 0) 32768 (by first | assumption | omega)
  refine r_call0 (js := [1]) C hT (runS (js := [1]) (rm := ({ frames := 0, cells := 0, slots := 0, locals := 0 } : Room)) (As := [.ref q_1, .int 32768]) (n := 2) (rest := []) C hT hM rfl rfl k165 k121 k8 k122 (by decide +kernel) rfl rfl (Nat.le_of_ble_eq_true rfl) hl.1 ⟨Nat.le_of_ble_eq_true rfl, Nat.le_of_ble_eq_true rfl⟩ ⟨Nat.le_of_ble_eq_true rfl, Nat.le_of_ble_eq_true rfl⟩ dX9_init_35) rfl rfl (fun _ => by simp only [List.map_cons, List.map_nil]) (fun u H locs hT => ?_)
  have hT : Wd g A s [(a0, .inr (9, [.ref q_1, .ref q_2])), (q_1, .inl (g.2.1 0, N, .inl (fillTo (fun _ => 0) 32768 N))), (q_2, .inl (g.2.1 0, N, .inl (fun _ => 0)))] H locs := hT
  refine W.eq (g2 := F0 m 38 ls []) rfl ?_
  have hT : Wd g A s [(a0, .inr (9, [.ref q_1, .ref q_2])), (q_1, .inl (g.2.1 0, N, .inl (fillTo (fun _ => 0) 32768 N))), (q_2, .inl (g.2.1 0, N, .inl (fun _ => 0)))] H locs := hT.pk (js := [0, 1, 2]) rfl rfl
  exact e_vret C hQ ⟨(q_1, q_2), True.intro⟩ hT rfl dX9_init_38

set_option maxHeartbeats 400000 in
set_option maxRecDepth 100000 in
theorem c_X5_init (l : Launch) (g : GT) (a0 : Nat) : OM (S := {zq : (Nat) // (True)}) l g yX5_init cX5_init 3 none ({ frames := 1, cells := 1, slots := 4096, locals := 22 } : Room) [.ref a0] [(a0, .inr (5, [.null]))] (fun _ => none) (fun zu => [(a0, .inr (5, [.ref zu.1])), (zu.1, .inl (g.2.1 0, 4096, .inl stA))]) := by
  refine OM.startQ (by decide) (Nat.le_of_ble_eq_true rfl) ?_
  intro p e s m below meth c A ls Q H locs hQ C hnm hl hT
  have hx := C.x
  have hb := C.b
  have hl : lv_has ls 3 [(0, .ref a0)] := hl
  refine lv_aload_n hx hb dX5_init_0 rfl (lv_at hl 0 rfl) ?_
  refine W.objInit hx hb C.ow (C.ts _ k44) (C.ts _ k28) (C.ts _ k29) rfl (by rw [C.ml]; exact hl.1) rfl dX5_init_1 (Nat.le_of_ble_eq_true rfl) (Nat.le_of_ble_eq_true rfl) ?_
  refine W.eq (g2 := F0 m 4 ls []) rfl ?_
  refine lv_aload_n hx hb dX5_init_4 rfl (lv_at hl 0 rfl) ?_
  refine lv_sipush (v := 4096) hx hb dX5_init_5 (by decide) ?_
  refine r_newi C hT k54 (N := 4096) rfl (by decide) (Nat.le_of_ble_eq_true rfl) (Nat.le_of_ble_eq_true rfl) dX5_init_8 (fun q_1 H hT => ?_)
  have hT : Wd g A s [(a0, .inr (5, [.null])), (q_1, .inl (g.2.1 0, 4096, .inl (fun _ => 0)))] H locs := hT
  refine W.widen (k := 1) (n := 4096) (Nat.le_of_ble_eq_true rfl) (Nat.le_of_ble_eq_true rfl) ?_
  refine pX5_7 C hnm hT (q0 := 0) rfl dX5_init_10 (fun H locs hT => ?_)
  have hT : Wd g A s [(a0, .inr (5, [.ref q_1])), (q_1, .inl (g.2.1 0, 4096, .inl (fun _ => 0)))] H locs := hT
  refine lv_sipush (v := (-2047)) hx hb dX5_init_13 (by decide) ?_
  refine lv_istore_n (lv' := [(1, .int (-2047)), (0, .ref a0)]) hx hb dX5_init_16 rfl hl (by decide) rfl (fun ls hl => ?_)
  refine lv_iconst (v := 0) hx hb dX5_init_17 (by decide) ?_
  refine lv_istore_n (lv' := [(2, .int 0), (1, .int (-2047)), (0, .ref a0)]) hx hb dX5_init_18 rfl hl (by decide) rfl (fun ls hl => ?_)
  have loop_19 : ∀ (fu : Nat) (i : Nat) (vxd : Int32) (vxp : Int32) (sa : Nat → Int32) (H : Heap) (locs : List Loc) (ls : Array Slot) (hli : i ≤ 4096) (vexp : vxp = nI i) (vexd : vxd = nI (dB i) - 2047) (hsa : sa = setTo stF (fun _ => 0) i), 4096 - i < fu → Wd g A s [(a0, .inr (5, [.ref q_1])), (q_1, .inl (g.2.1 0, 4096, .inl sa))] H locs → lv_has ls 3 [(0, .ref a0), (1, .int vxd), (2, .int vxp)] → W p l e ({ frames := 1, cells := 1, slots := 4096, locals := 22 } : Room) s m ([.ref a0] : List Value).toArray below meth c H locs 1 4096 Q (F0 m 19 ls []) := by
    intro fu
    induction fu with
    | zero => intro i vxd vxp sa H locs ls hli vexp vexd hsa hm; exact absurd hm (Nat.not_lt_zero _)
    | succ fu ih =>
      intro i vxd vxp sa H locs ls hli vexp vexd hsa hm hT hl
      refine lv_iload_n hx hb dX5_init_19 rfl (lv_at hl 2 rfl) ?_
      refine lv_aload_n hx hb dX5_init_20 rfl (lv_at hl 0 rfl) ?_
      refine gX5_7 C hT (q0 := 0) rfl dX5_init_21 ?_
      refine r_alen C hT (q0 := 1) 0 rfl rfl dX5_init_24 ?_
      refine W.eq (g2 := F0 m 25 ls [.int (nI 4096), .int vxp]) rfl ?_
      refine lv_icmp_ge (tgt := 62) hx hb dX5_init_25 (by decide) (fun h_2 => ?_) (fun h_2 => ?_)
      · skip
        have hin := lp_end (n := 4096) vexp (by decide) hli h_2
        rw [hin] at hsa
        rw [hsa] at hT
        have hT : Wd g A s [(a0, .inr (5, [.ref q_1])), (q_1, .inl (g.2.1 0, 4096, .inl stA))] H locs := hT
        have hT : Wd g A s [(a0, .inr (5, [.ref q_1])), (q_1, .inl (g.2.1 0, 4096, .inl stA))] H locs := hT.pk (js := [0, 1]) rfl rfl
        exact e_vret C hQ ⟨(q_1), True.intro⟩ hT rfl dX5_init_62
      · skip
        have hin := lp_go (n := 4096) vexp (by decide) hli h_2
        have loop_28 : ∀ (fu : Nat) (k : Nat) (vxe : Int32) (H : Heap) (locs : List Loc) (ls : Array Slot) (hk : k ≤ 4094) (vexe : vxe = nI k - 2047) (hkk : stW i (4094 - k) k = dB (i + 1)), 4094 - k < fu → Wd g A s [(a0, .inr (5, [.ref q_1])), (q_1, .inl (g.2.1 0, 4096, .inl sa))] H locs → lv_has ls 3 [(0, .ref a0), (1, .int vxe), (2, .int vxp)] → W p l e ({ frames := 1, cells := 1, slots := 4096, locals := 22 } : Room) s m ([.ref a0] : List Value).toArray below meth c H locs 1 4096 Q (F0 m 28 ls []) := by
          intro fu_28
          induction fu_28 with
          | zero => intro k vxe H locs ls hk vexe hkk hm; exact absurd hm (Nat.not_lt_zero _)
          | succ fu_28 ih_28 =>
            intro k vxe H locs ls hk vexe hkk hm_28 hT hl
            refine lv_iload_n hx hb dX5_init_28 rfl (lv_at hl 1 rfl) ?_
            refine lv_sipush (v := 2047) hx hb dX5_init_29 (by decide) ?_
            refine lv_icmp_ge (tgt := 49) hx hb dX5_init_32 (by decide) (fun h_3 => ?_) (fun h_3 => ?_)
            · skip
              have hk9 := (st_lt hk vexe).mp h_3
              have hd9 : vxe = nI (dB (i + 1)) - 2047 := by rw [← hkk, stW_z hk9]; exact vexe
              refine lv_aload_n hx hb dX5_init_49 rfl (lv_at hl 0 rfl) ?_
              refine gX5_7 C hT (q0 := 0) rfl dX5_init_50 ?_
              refine lv_iload_n hx hb dX5_init_53 rfl (lv_at hl 2 rfl) ?_
              refine lv_iload_n hx hb dX5_init_54 rfl (lv_at hl 1 rfl) ?_
              refine r_iast C hT (q0 := 1) rfl i vexp (by omega) (by decide) dX5_init_55 (fun H locs hT => ?_)
              have hT : Wd g A s [(a0, .inr (5, [.ref q_1])), (q_1, .inl (g.2.1 0, 4096, .inl (upd sa i vxe)))] H locs := hT
              obtain ⟨x_4, ex_4⟩ : ∃ y : Int32, y = vxp + 1 := ⟨_, rfl⟩
              refine lv_iinc (v := x_4) (lv' := [(2, .int x_4), (0, .ref a0), (1, .int vxe)]) hx hb dX5_init_56 hl (k := 2) rfl (by rw [ex_4]; rfl) (by decide) rfl (fun ls hl => ?_)
              refine lv_goto (tgt := 19) hx hb dX5_init_59 (by decide) ?_
              exact ih (i + 1) vxe x_4 (upd sa i vxe) H locs ls hin (by rw [ex_4, vexp]; exact nI_1 i) hd9 (by rw [hsa, hd9]; exact setTo_s _ _ _) (by omega) hT (lv_sub hl [1, 2, 0] rfl)
            · skip
              have hkl : k < 4094 := by rcases Nat.lt_or_ge k 4094 with q | q; exact q; exact absurd ((st_lt hk vexe).mpr (by omega)) h_3
              refine lv_iload_n hx hb dX5_init_35 rfl (lv_at hl 1 rfl) ?_
              have hM := c_X5_squashed l g vxe
              refine r_callRO (js := []) C hT (runS (js := []) (rm := ({ frames := 0, cells := 0, slots := 0, locals := 0 } : Room)) (As := [.int vxe]) (n := 1) (rest := []) C hT hM rfl rfl k45 k46 k2 k47 (by decide +kernel) rfl rfl (Nat.le_of_ble_eq_true rfl) hl.1 ⟨Nat.le_of_ble_eq_true rfl, Nat.le_of_ble_eq_true rfl⟩ ⟨Nat.le_of_ble_eq_true rfl, Nat.le_of_ble_eq_true rfl⟩ dX5_init_36) rfl rfl (fun u H locs hT => ?_)
              refine W.eq (g2 := F0 m 39 ls [.int (sqI vxe)]) rfl ?_
              refine lv_iload_n hx hb dX5_init_39 rfl (lv_at hl 2 rfl) ?_
              refine lv_icmp_ge (tgt := 49) hx hb dX5_init_40 (by decide) (fun h_5 => ?_) (fun h_5 => ?_)
              · skip
                have hlt : ¬ sqI (nI k - 2047) < nI i := by rw [← vexe, ← vexp]; exact i32_nlt h_5
                have hd9 : vxe = nI (dB (i + 1)) - 2047 := by rw [← hkk, stW_n hlt]; exact vexe
                refine lv_aload_n hx hb dX5_init_49 rfl (lv_at hl 0 rfl) ?_
                refine gX5_7 C hT (q0 := 0) rfl dX5_init_50 ?_
                refine lv_iload_n hx hb dX5_init_53 rfl (lv_at hl 2 rfl) ?_
                refine lv_iload_n hx hb dX5_init_54 rfl (lv_at hl 1 rfl) ?_
                refine r_iast C hT (q0 := 1) rfl i vexp (by omega) (by decide) dX5_init_55 (fun H locs hT => ?_)
                have hT : Wd g A s [(a0, .inr (5, [.ref q_1])), (q_1, .inl (g.2.1 0, 4096, .inl (upd sa i vxe)))] H locs := hT
                obtain ⟨x_6, ex_6⟩ : ∃ y : Int32, y = vxp + 1 := ⟨_, rfl⟩
                refine lv_iinc (v := x_6) (lv' := [(2, .int x_6), (0, .ref a0), (1, .int vxe)]) hx hb dX5_init_56 hl (k := 2) rfl (by rw [ex_6]; rfl) (by decide) rfl (fun ls hl => ?_)
                refine lv_goto (tgt := 19) hx hb dX5_init_59 (by decide) ?_
                exact ih (i + 1) vxe x_6 (upd sa i vxe) H locs ls hin (by rw [ex_6, vexp]; exact nI_1 i) hd9 (by rw [hsa, hd9]; exact setTo_s _ _ _) (by omega) hT (lv_sub hl [1, 2, 0] rfl)
              · skip
                have hlt : sqI (nI k - 2047) < nI i := by rw [← vexe, ← vexp]; exact i32_ltn h_5
                obtain ⟨x_7, ex_7⟩ : ∃ y : Int32, y = vxe + 1 := ⟨_, rfl⟩
                refine lv_iinc (v := x_7) (lv' := [(1, .int x_7), (0, .ref a0), (2, .int vxp)]) hx hb dX5_init_43 hl (k := 1) rfl (by rw [ex_7]; rfl) (by decide) rfl (fun ls hl => ?_)
                refine lv_goto (tgt := 28) hx hb dX5_init_46 (by decide) ?_
                exact ih_28 (k + 1) x_7 H locs ls (by omega) (by rw [ex_7, vexe]; exact st_dn k) ((stW_y hkl hlt).trans hkk) (by omega) hT (lv_sub hl [1, 0, 2] rfl)
        exact loop_28 (4094 - (dB i) + 1) (dB i) vxd H locs ls (dB_le i) vexd (by rw [dB]) (Nat.lt_succ_self _) hT (lv_sub hl [0, 1, 2] rfl)
  exact loop_19 (4096 - 0 + 1) 0 (-2047) 0 (fun _ => 0) H locs ls (by decide) rfl (by decide) (setTo_0 _ _) (Nat.lt_succ_self _) hT (lv_sub hl [2, 1, 0] rfl)

set_option maxHeartbeats 1000000 in
set_option maxRecDepth 100000 in
theorem c_X8_init (l : Launch) (g : GT) (a0 : Nat) (rr : Nat) (N : Nat) (p1 : Nat) (p5 : Nat) (hr6 : 6 ≤ rr) (hrr : rr ≤ 12) (hN : N = 2 ^ rr) : OM (S := {zq : (Nat) × (Nat) × (Nat) × (Nat) × (Nat) × (Nat) × (Nat) × (Nat) × (Nat) × (Nat) × (Nat) × (Nat) × (Nat) × (Nat) × (Nat) × (Nat) × (Nat) × (Nat) × (Nat) × (Nat) × (Nat) × (Nat) // (True)}) l g yX8_init cX8_init 5 none ({ frames := 3, cells := 22, slots := 23303, locals := 101 } : Room) [.ref a0, .int (nI rr), .ref p1, .ref p5] [(a0, .inr (8, [.null, .null, .null, .null, .null, .null, .null, .null, .null, .null]))] (fun _ => none) (fun zu => [(a0, .inr (8, [.ref p1, .ref p5, .ref zu.1.1, .ref zu.1.2.2.1, .ref zu.1.2.2.2.2.2.1, .ref zu.1.2.2.2.2.2.2.2.1, .ref zu.1.2.2.2.2.2.2.2.2.2.1, .ref zu.1.2.2.2.2.2.2.2.2.2.2.2.1, .ref zu.1.2.2.2.2.2.2.2.2.2.2.2.2.2.2.2.2.2.2.2.2.1, .ref zu.1.2.2.2.2.2.2.2.2.2.2.2.2.2.2.2.2.2.2.2.2.2])), (zu.1.1, .inr (2, [.ref zu.1.2.1, .int 0, .int 1, .int 0])), (zu.1.2.1, .inl (g.2.1 0, 2000, .inl (fun _ => 0))), (zu.1.2.2.1, .inr (9, [.ref zu.1.2.2.2.1, .ref zu.1.2.2.2.2.1])), (zu.1.2.2.2.1, .inl (g.2.1 0, N, .inl (fillTo (fun _ => 0) 32768 N))), (zu.1.2.2.2.2.1, .inl (g.2.1 0, N, .inl (fun _ => 0))), (zu.1.2.2.2.2.2.1, .inr (4, [.ref zu.1.2.2.2.2.2.2.1, .int 0, .int 0])), (zu.1.2.2.2.2.2.2.1, .inl (g.2.1 0, 2304, .inl (wFill (fun _ => 0) 256))), (zu.1.2.2.2.2.2.2.2.1, .inr (4, [.ref zu.1.2.2.2.2.2.2.2.2.1, .int 0, .int 0])), (zu.1.2.2.2.2.2.2.2.2.1, .inl (g.2.1 0, 2304, .inl (wFill (fun _ => 0) 256))), (zu.1.2.2.2.2.2.2.2.2.2.1, .inr (1, [.ref zu.1.2.2.2.2.2.2.2.2.2.2.1, .int 0])), (zu.1.2.2.2.2.2.2.2.2.2.2.1, .inl (g.2.1 0, 8448, .inl (cFill (fun _ => 0) 8448))), (zu.1.2.2.2.2.2.2.2.2.2.2.2.1, .inl (g.2.1 3, 8, .inr (.inr (.inr (.inr (mtF zu.1.2.2.2.2.2.2.2.2.2.2.2.2.1 zu.1.2.2.2.2.2.2.2.2.2.2.2.2.2.1 zu.1.2.2.2.2.2.2.2.2.2.2.2.2.2.2.1 zu.1.2.2.2.2.2.2.2.2.2.2.2.2.2.2.2.1 zu.1.2.2.2.2.2.2.2.2.2.2.2.2.2.2.2.2.1 zu.1.2.2.2.2.2.2.2.2.2.2.2.2.2.2.2.2.2.1 zu.1.2.2.2.2.2.2.2.2.2.2.2.2.2.2.2.2.2.2.1 zu.1.2.2.2.2.2.2.2.2.2.2.2.2.2.2.2.2.2.2.2.1)))))), (zu.1.2.2.2.2.2.2.2.2.2.2.2.2.1, .inr (3, [.int 0, .int 0])), (zu.1.2.2.2.2.2.2.2.2.2.2.2.2.2.1, .inr (3, [.int 0, .int 0])), (zu.1.2.2.2.2.2.2.2.2.2.2.2.2.2.2.1, .inr (3, [.int 0, .int 0])), (zu.1.2.2.2.2.2.2.2.2.2.2.2.2.2.2.2.1, .inr (3, [.int 0, .int 0])), (zu.1.2.2.2.2.2.2.2.2.2.2.2.2.2.2.2.2.1, .inr (3, [.int 0, .int 0])), (zu.1.2.2.2.2.2.2.2.2.2.2.2.2.2.2.2.2.2.1, .inr (3, [.int 0, .int 0])), (zu.1.2.2.2.2.2.2.2.2.2.2.2.2.2.2.2.2.2.2.1, .inr (3, [.int 0, .int 0])), (zu.1.2.2.2.2.2.2.2.2.2.2.2.2.2.2.2.2.2.2.2.1, .inr (3, [.int 0, .int 0])), (zu.1.2.2.2.2.2.2.2.2.2.2.2.2.2.2.2.2.2.2.2.2.1, .inl (g.2.1 0, 8, .inl (fun _ => 0))), (zu.1.2.2.2.2.2.2.2.2.2.2.2.2.2.2.2.2.2.2.2.2.2, .inl (g.2.1 0, 9, .inl (upd (fun _ => 0) 8 256)))]) := by
  refine OM.startQ (by decide) (Nat.le_of_ble_eq_true rfl) ?_
  intro p e s m below meth c A ls Q H locs hQ C hnm hl hT
  have hx := C.x
  have hb := C.b
  have hl : lv_has ls 5 [(0, .ref a0), (1, .int (nI rr)), (2, .ref p1), (3, .ref p5)] := hl
  refine lv_aload_n hx hb dX8_init_0 rfl (lv_at hl 0 rfl) ?_
  refine W.objInit hx hb C.ow (C.ts _ k85) (C.ts _ k28) (C.ts _ k29) rfl (by rw [C.ml]; exact hl.1) rfl dX8_init_1 (Nat.le_of_ble_eq_true rfl) (Nat.le_of_ble_eq_true rfl) ?_
  refine W.eq (g2 := F0 m 4 ls []) rfl ?_
  refine lv_aload_n hx hb dX8_init_4 rfl (lv_at hl 0 rfl) ?_
  refine r_new C hT (ci := 2) (fs := [.null, .int 0, .int 0, .int 0]) rfl inX2 tyX2 tyX2_ok k86 k87 k6 dfX2 (Nat.le_of_ble_eq_true rfl) (Nat.le_of_ble_eq_true rfl) dX8_init_5 (fun q_1 H hT => ?_)
  have hT : Wd g A s [(a0, .inr (8, [.null, .null, .null, .null, .null, .null, .null, .null, .null, .null])), (q_1, .inr (2, [.null, .int 0, .int 0, .int 0]))] H locs := hT
  refine W.widen (k := 1) (n := 4) (Nat.le_of_ble_eq_true rfl) (Nat.le_of_ble_eq_true rfl) ?_
  refine lv_dup hx hb dX8_init_8 rfl ?_
  have hM := c_X2_init l g q_1
  refine r_call (js := [1]) (L1 := fun (zu : {zq : (Nat) // (True)}) => [(q_1, .inr (2, [.ref zu.1, .int 0, .int 1, .int 0]))]) (L2 := fun (zu : {zq : (Nat) // (True)}) => [(zu.1, .inl (g.2.1 0, 2000, .inl (fun _ => 0)))]) C hT (runIN (host := "ContextMix") (js := [1]) (rm := ({ frames := 1, cells := 1, slots := 2000, locals := 12 } : Room)) (As := []) (n := 0) (rest := [.ref q_1, .ref a0]) C hT hM rfl rfl (List.mem_of_getElem? (i := 1) rfl) k89 k6 k90 rfl (by decide +kernel) rfl rfl (Nat.le_of_ble_eq_true rfl) hl.1 ⟨Nat.le_of_ble_eq_true rfl, Nat.le_of_ble_eq_true rfl⟩ ⟨Nat.le_of_ble_eq_true rfl, Nat.le_of_ble_eq_true rfl⟩ dX8_init_9) rfl rfl (fun _ => rfl) (fun u H locs hT => ?_)
  obtain ⟨q1_9, hok_9⟩ := u
  replace hok_9 : True := hok_9
  have hT : Wd g A s [(a0, .inr (8, [.null, .null, .null, .null, .null, .null, .null, .null, .null, .null])), (q_1, .inr (2, [.ref q1_9, .int 0, .int 1, .int 0])), (q1_9, .inl (g.2.1 0, 2000, .inl (fun _ => 0)))] H locs := hT
  refine W.eq (g2 := F0 m 12 ls [.ref q_1, .ref a0]) rfl ?_
  refine W.widen (k := 2) (n := 2004) (Nat.le_of_ble_eq_true rfl) (Nat.le_of_ble_eq_true rfl) ?_
  refine pX8_12 C hnm hT (q0 := 0) rfl dX8_init_12 (fun H locs hT => ?_)
  have hT : Wd g A s [(a0, .inr (8, [.null, .null, .ref q_1, .null, .null, .null, .null, .null, .null, .null])), (q_1, .inr (2, [.ref q1_9, .int 0, .int 1, .int 0])), (q1_9, .inl (g.2.1 0, 2000, .inl (fun _ => 0)))] H locs := hT
  refine lv_aload_n hx hb dX8_init_15 rfl (lv_at hl 0 rfl) ?_
  refine r_new C hT (ci := 4) (fs := [.null, .int 0, .int 0]) rfl inX4 tyX4 tyX4_ok k111 k112 k7 dfX4 (Nat.le_of_ble_eq_true rfl) (Nat.le_of_ble_eq_true rfl) dX8_init_16 (fun q_2 H hT => ?_)
  have hT : Wd g A s [(a0, .inr (8, [.null, .null, .ref q_1, .null, .null, .null, .null, .null, .null, .null])), (q_1, .inr (2, [.ref q1_9, .int 0, .int 1, .int 0])), (q1_9, .inl (g.2.1 0, 2000, .inl (fun _ => 0))), (q_2, .inr (4, [.null, .int 0, .int 0]))] H locs := hT
  refine W.widen (k := 3) (n := 2007) (Nat.le_of_ble_eq_true rfl) (Nat.le_of_ble_eq_true rfl) ?_
  refine lv_dup hx hb dX8_init_19 rfl ?_
  have hM := c_X4_init l g q_2
  refine r_call (js := [3]) (L1 := fun (zu : {zq : (Nat) // (True)}) => [(q_2, .inr (4, [.ref zu.1, .int 0, .int 0]))]) (L2 := fun (zu : {zq : (Nat) // (True)}) => [(zu.1, .inl (g.2.1 0, 2304, .inl (wFill (fun _ => 0) 256)))]) C hT (runI (js := [3]) (rm := ({ frames := 2, cells := 1, slots := 2304, locals := 44 } : Room)) (As := []) (n := 0) (rest := [.ref q_2, .ref a0]) C hT hM rfl rfl k113 k114 k7 k115 rfl (by decide +kernel) rfl rfl (Nat.le_of_ble_eq_true rfl) hl.1 ⟨Nat.le_of_ble_eq_true rfl, Nat.le_of_ble_eq_true rfl⟩ ⟨Nat.le_of_ble_eq_true rfl, Nat.le_of_ble_eq_true rfl⟩ dX8_init_20) rfl rfl (fun _ => rfl) (fun u H locs hT => ?_)
  obtain ⟨q1_20, hok_20⟩ := u
  replace hok_20 : True := hok_20
  have hT : Wd g A s [(a0, .inr (8, [.null, .null, .ref q_1, .null, .null, .null, .null, .null, .null, .null])), (q_1, .inr (2, [.ref q1_9, .int 0, .int 1, .int 0])), (q1_9, .inl (g.2.1 0, 2000, .inl (fun _ => 0))), (q_2, .inr (4, [.ref q1_20, .int 0, .int 0])), (q1_20, .inl (g.2.1 0, 2304, .inl (wFill (fun _ => 0) 256)))] H locs := hT
  refine W.eq (g2 := F0 m 23 ls [.ref q_2, .ref a0]) rfl ?_
  refine W.widen (k := 4) (n := 4311) (Nat.le_of_ble_eq_true rfl) (Nat.le_of_ble_eq_true rfl) ?_
  refine pX8_21 C hnm hT (q0 := 0) rfl dX8_init_23 (fun H locs hT => ?_)
  have hT : Wd g A s [(a0, .inr (8, [.null, .null, .ref q_1, .null, .ref q_2, .null, .null, .null, .null, .null])), (q_1, .inr (2, [.ref q1_9, .int 0, .int 1, .int 0])), (q1_9, .inl (g.2.1 0, 2000, .inl (fun _ => 0))), (q_2, .inr (4, [.ref q1_20, .int 0, .int 0])), (q1_20, .inl (g.2.1 0, 2304, .inl (wFill (fun _ => 0) 256)))] H locs := hT
  refine lv_aload_n hx hb dX8_init_26 rfl (lv_at hl 0 rfl) ?_
  refine r_new C hT (ci := 4) (fs := [.null, .int 0, .int 0]) rfl inX4 tyX4 tyX4_ok k111 k112 k7 dfX4 (Nat.le_of_ble_eq_true rfl) (Nat.le_of_ble_eq_true rfl) dX8_init_27 (fun q_3 H hT => ?_)
  have hT : Wd g A s [(a0, .inr (8, [.null, .null, .ref q_1, .null, .ref q_2, .null, .null, .null, .null, .null])), (q_1, .inr (2, [.ref q1_9, .int 0, .int 1, .int 0])), (q1_9, .inl (g.2.1 0, 2000, .inl (fun _ => 0))), (q_2, .inr (4, [.ref q1_20, .int 0, .int 0])), (q1_20, .inl (g.2.1 0, 2304, .inl (wFill (fun _ => 0) 256))), (q_3, .inr (4, [.null, .int 0, .int 0]))] H locs := hT
  refine W.widen (k := 5) (n := 4314) (Nat.le_of_ble_eq_true rfl) (Nat.le_of_ble_eq_true rfl) ?_
  refine lv_dup hx hb dX8_init_30 rfl ?_
  have hM := c_X4_init l g q_3
  refine r_call (js := [5]) (L1 := fun (zu : {zq : (Nat) // (True)}) => [(q_3, .inr (4, [.ref zu.1, .int 0, .int 0]))]) (L2 := fun (zu : {zq : (Nat) // (True)}) => [(zu.1, .inl (g.2.1 0, 2304, .inl (wFill (fun _ => 0) 256)))]) C hT (runI (js := [5]) (rm := ({ frames := 2, cells := 1, slots := 2304, locals := 44 } : Room)) (As := []) (n := 0) (rest := [.ref q_3, .ref a0]) C hT hM rfl rfl k113 k114 k7 k115 rfl (by decide +kernel) rfl rfl (Nat.le_of_ble_eq_true rfl) hl.1 ⟨Nat.le_of_ble_eq_true rfl, Nat.le_of_ble_eq_true rfl⟩ ⟨Nat.le_of_ble_eq_true rfl, Nat.le_of_ble_eq_true rfl⟩ dX8_init_31) rfl rfl (fun _ => rfl) (fun u H locs hT => ?_)
  obtain ⟨q1_31, hok_31⟩ := u
  replace hok_31 : True := hok_31
  have hT : Wd g A s [(a0, .inr (8, [.null, .null, .ref q_1, .null, .ref q_2, .null, .null, .null, .null, .null])), (q_1, .inr (2, [.ref q1_9, .int 0, .int 1, .int 0])), (q1_9, .inl (g.2.1 0, 2000, .inl (fun _ => 0))), (q_2, .inr (4, [.ref q1_20, .int 0, .int 0])), (q1_20, .inl (g.2.1 0, 2304, .inl (wFill (fun _ => 0) 256))), (q_3, .inr (4, [.ref q1_31, .int 0, .int 0])), (q1_31, .inl (g.2.1 0, 2304, .inl (wFill (fun _ => 0) 256)))] H locs := hT
  refine W.eq (g2 := F0 m 34 ls [.ref q_3, .ref a0]) rfl ?_
  refine W.widen (k := 6) (n := 6618) (Nat.le_of_ble_eq_true rfl) (Nat.le_of_ble_eq_true rfl) ?_
  refine pX8_25 C hnm hT (q0 := 0) rfl dX8_init_34 (fun H locs hT => ?_)
  have hT : Wd g A s [(a0, .inr (8, [.null, .null, .ref q_1, .null, .ref q_2, .ref q_3, .null, .null, .null, .null])), (q_1, .inr (2, [.ref q1_9, .int 0, .int 1, .int 0])), (q1_9, .inl (g.2.1 0, 2000, .inl (fun _ => 0))), (q_2, .inr (4, [.ref q1_20, .int 0, .int 0])), (q1_20, .inl (g.2.1 0, 2304, .inl (wFill (fun _ => 0) 256))), (q_3, .inr (4, [.ref q1_31, .int 0, .int 0])), (q1_31, .inl (g.2.1 0, 2304, .inl (wFill (fun _ => 0) 256)))] H locs := hT
  refine lv_aload_n hx hb dX8_init_37 rfl (lv_at hl 0 rfl) ?_
  refine r_new C hT (ci := 1) (fs := [.null, .int 0]) rfl inX1 tyX1 tyX1_ok k134 k135 k9 dfX1 (Nat.le_of_ble_eq_true rfl) (Nat.le_of_ble_eq_true rfl) dX8_init_38 (fun q_4 H hT => ?_)
  have hT : Wd g A s [(a0, .inr (8, [.null, .null, .ref q_1, .null, .ref q_2, .ref q_3, .null, .null, .null, .null])), (q_1, .inr (2, [.ref q1_9, .int 0, .int 1, .int 0])), (q1_9, .inl (g.2.1 0, 2000, .inl (fun _ => 0))), (q_2, .inr (4, [.ref q1_20, .int 0, .int 0])), (q1_20, .inl (g.2.1 0, 2304, .inl (wFill (fun _ => 0) 256))), (q_3, .inr (4, [.ref q1_31, .int 0, .int 0])), (q1_31, .inl (g.2.1 0, 2304, .inl (wFill (fun _ => 0) 256))), (q_4, .inr (1, [.null, .int 0]))] H locs := hT
  refine W.widen (k := 7) (n := 6620) (Nat.le_of_ble_eq_true rfl) (Nat.le_of_ble_eq_true rfl) ?_
  refine lv_dup hx hb dX8_init_41 rfl ?_
  have hM := c_X1_init l g q_4
  refine r_call (js := [7]) (L1 := fun (zu : {zq : (Nat) // (True)}) => [(q_4, .inr (1, [.ref zu.1, .int 0]))]) (L2 := fun (zu : {zq : (Nat) // (True)}) => [(zu.1, .inl (g.2.1 0, 8448, .inl (cFill (fun _ => 0) 8448)))]) C hT (runI (js := [7]) (rm := ({ frames := 2, cells := 1, slots := 8448, locals := 81 } : Room)) (As := []) (n := 0) (rest := [.ref q_4, .ref a0]) C hT hM rfl rfl k136 k137 k9 k138 rfl (by decide +kernel) rfl rfl (Nat.le_of_ble_eq_true rfl) hl.1 ⟨Nat.le_of_ble_eq_true rfl, Nat.le_of_ble_eq_true rfl⟩ ⟨Nat.le_of_ble_eq_true rfl, Nat.le_of_ble_eq_true rfl⟩ dX8_init_42) rfl rfl (fun _ => rfl) (fun u H locs hT => ?_)
  obtain ⟨q1_42, hok_42⟩ := u
  replace hok_42 : True := hok_42
  have hT : Wd g A s [(a0, .inr (8, [.null, .null, .ref q_1, .null, .ref q_2, .ref q_3, .null, .null, .null, .null])), (q_1, .inr (2, [.ref q1_9, .int 0, .int 1, .int 0])), (q1_9, .inl (g.2.1 0, 2000, .inl (fun _ => 0))), (q_2, .inr (4, [.ref q1_20, .int 0, .int 0])), (q1_20, .inl (g.2.1 0, 2304, .inl (wFill (fun _ => 0) 256))), (q_3, .inr (4, [.ref q1_31, .int 0, .int 0])), (q1_31, .inl (g.2.1 0, 2304, .inl (wFill (fun _ => 0) 256))), (q_4, .inr (1, [.ref q1_42, .int 0])), (q1_42, .inl (g.2.1 0, 8448, .inl (cFill (fun _ => 0) 8448)))] H locs := hT
  refine W.eq (g2 := F0 m 45 ls [.ref q_4, .ref a0]) rfl ?_
  refine W.widen (k := 8) (n := 15068) (Nat.le_of_ble_eq_true rfl) (Nat.le_of_ble_eq_true rfl) ?_
  refine pX8_31 C hnm hT (q0 := 0) rfl dX8_init_45 (fun H locs hT => ?_)
  have hT : Wd g A s [(a0, .inr (8, [.null, .null, .ref q_1, .null, .ref q_2, .ref q_3, .ref q_4, .null, .null, .null])), (q_1, .inr (2, [.ref q1_9, .int 0, .int 1, .int 0])), (q1_9, .inl (g.2.1 0, 2000, .inl (fun _ => 0))), (q_2, .inr (4, [.ref q1_20, .int 0, .int 0])), (q1_20, .inl (g.2.1 0, 2304, .inl (wFill (fun _ => 0) 256))), (q_3, .inr (4, [.ref q1_31, .int 0, .int 0])), (q1_31, .inl (g.2.1 0, 2304, .inl (wFill (fun _ => 0) 256))), (q_4, .inr (1, [.ref q1_42, .int 0])), (q1_42, .inl (g.2.1 0, 8448, .inl (cFill (fun _ => 0) 8448)))] H locs := hT
  refine lv_aload_n hx hb dX8_init_48 rfl (lv_at hl 0 rfl) ?_
  refine lv_bipush (v := 8) hx hb dX8_init_49 (by decide) ?_
  refine r_newm C hT k155 (N := 8) rfl (by decide) (Nat.le_of_ble_eq_true rfl) (Nat.le_of_ble_eq_true rfl) dX8_init_51 (fun q_5 H hT => ?_)
  have hT : Wd g A s [(a0, .inr (8, [.null, .null, .ref q_1, .null, .ref q_2, .ref q_3, .ref q_4, .null, .null, .null])), (q_1, .inr (2, [.ref q1_9, .int 0, .int 1, .int 0])), (q1_9, .inl (g.2.1 0, 2000, .inl (fun _ => 0))), (q_2, .inr (4, [.ref q1_20, .int 0, .int 0])), (q1_20, .inl (g.2.1 0, 2304, .inl (wFill (fun _ => 0) 256))), (q_3, .inr (4, [.ref q1_31, .int 0, .int 0])), (q1_31, .inl (g.2.1 0, 2304, .inl (wFill (fun _ => 0) 256))), (q_4, .inr (1, [.ref q1_42, .int 0])), (q1_42, .inl (g.2.1 0, 8448, .inl (cFill (fun _ => 0) 8448))), (q_5, .inl (g.2.1 3, 8, .inr (.inr (.inr (.inr (fun _ => none))))))] H locs := hT
  refine W.widen (k := 9) (n := 15076) (Nat.le_of_ble_eq_true rfl) (Nat.le_of_ble_eq_true rfl) ?_
  refine pX8_37 C hnm hT (q0 := 0) rfl dX8_init_54 (fun H locs hT => ?_)
  have hT : Wd g A s [(a0, .inr (8, [.null, .null, .ref q_1, .null, .ref q_2, .ref q_3, .ref q_4, .ref q_5, .null, .null])), (q_1, .inr (2, [.ref q1_9, .int 0, .int 1, .int 0])), (q1_9, .inl (g.2.1 0, 2000, .inl (fun _ => 0))), (q_2, .inr (4, [.ref q1_20, .int 0, .int 0])), (q1_20, .inl (g.2.1 0, 2304, .inl (wFill (fun _ => 0) 256))), (q_3, .inr (4, [.ref q1_31, .int 0, .int 0])), (q1_31, .inl (g.2.1 0, 2304, .inl (wFill (fun _ => 0) 256))), (q_4, .inr (1, [.ref q1_42, .int 0])), (q1_42, .inl (g.2.1 0, 8448, .inl (cFill (fun _ => 0) 8448))), (q_5, .inl (g.2.1 3, 8, .inr (.inr (.inr (.inr (fun _ => none))))))] H locs := hT
  refine lv_aload_n hx hb dX8_init_57 rfl (lv_at hl 0 rfl) ?_
  refine lv_bipush (v := 8) hx hb dX8_init_58 (by decide) ?_
  refine r_newi C hT k54 (N := 8) rfl (by decide) (Nat.le_of_ble_eq_true rfl) (Nat.le_of_ble_eq_true rfl) dX8_init_60 (fun q_6 H hT => ?_)
  have hT : Wd g A s [(a0, .inr (8, [.null, .null, .ref q_1, .null, .ref q_2, .ref q_3, .ref q_4, .ref q_5, .null, .null])), (q_1, .inr (2, [.ref q1_9, .int 0, .int 1, .int 0])), (q1_9, .inl (g.2.1 0, 2000, .inl (fun _ => 0))), (q_2, .inr (4, [.ref q1_20, .int 0, .int 0])), (q1_20, .inl (g.2.1 0, 2304, .inl (wFill (fun _ => 0) 256))), (q_3, .inr (4, [.ref q1_31, .int 0, .int 0])), (q1_31, .inl (g.2.1 0, 2304, .inl (wFill (fun _ => 0) 256))), (q_4, .inr (1, [.ref q1_42, .int 0])), (q1_42, .inl (g.2.1 0, 8448, .inl (cFill (fun _ => 0) 8448))), (q_5, .inl (g.2.1 3, 8, .inr (.inr (.inr (.inr (fun _ => none)))))), (q_6, .inl (g.2.1 0, 8, .inl (fun _ => 0)))] H locs := hT
  refine W.widen (k := 10) (n := 15084) (Nat.le_of_ble_eq_true rfl) (Nat.le_of_ble_eq_true rfl) ?_
  refine pX8_41 C hnm hT (q0 := 0) rfl dX8_init_62 (fun H locs hT => ?_)
  have hT : Wd g A s [(a0, .inr (8, [.null, .null, .ref q_1, .null, .ref q_2, .ref q_3, .ref q_4, .ref q_5, .ref q_6, .null])), (q_1, .inr (2, [.ref q1_9, .int 0, .int 1, .int 0])), (q1_9, .inl (g.2.1 0, 2000, .inl (fun _ => 0))), (q_2, .inr (4, [.ref q1_20, .int 0, .int 0])), (q1_20, .inl (g.2.1 0, 2304, .inl (wFill (fun _ => 0) 256))), (q_3, .inr (4, [.ref q1_31, .int 0, .int 0])), (q1_31, .inl (g.2.1 0, 2304, .inl (wFill (fun _ => 0) 256))), (q_4, .inr (1, [.ref q1_42, .int 0])), (q1_42, .inl (g.2.1 0, 8448, .inl (cFill (fun _ => 0) 8448))), (q_5, .inl (g.2.1 3, 8, .inr (.inr (.inr (.inr (fun _ => none)))))), (q_6, .inl (g.2.1 0, 8, .inl (fun _ => 0)))] H locs := hT
  refine lv_aload_n hx hb dX8_init_65 rfl (lv_at hl 0 rfl) ?_
  refine lv_bipush (v := 9) hx hb dX8_init_66 (by decide) ?_
  refine r_newi C hT k54 (N := 9) rfl (by decide) (Nat.le_of_ble_eq_true rfl) (Nat.le_of_ble_eq_true rfl) dX8_init_68 (fun q_7 H hT => ?_)
  have hT : Wd g A s [(a0, .inr (8, [.null, .null, .ref q_1, .null, .ref q_2, .ref q_3, .ref q_4, .ref q_5, .ref q_6, .null])), (q_1, .inr (2, [.ref q1_9, .int 0, .int 1, .int 0])), (q1_9, .inl (g.2.1 0, 2000, .inl (fun _ => 0))), (q_2, .inr (4, [.ref q1_20, .int 0, .int 0])), (q1_20, .inl (g.2.1 0, 2304, .inl (wFill (fun _ => 0) 256))), (q_3, .inr (4, [.ref q1_31, .int 0, .int 0])), (q1_31, .inl (g.2.1 0, 2304, .inl (wFill (fun _ => 0) 256))), (q_4, .inr (1, [.ref q1_42, .int 0])), (q1_42, .inl (g.2.1 0, 8448, .inl (cFill (fun _ => 0) 8448))), (q_5, .inl (g.2.1 3, 8, .inr (.inr (.inr (.inr (fun _ => none)))))), (q_6, .inl (g.2.1 0, 8, .inl (fun _ => 0))), (q_7, .inl (g.2.1 0, 9, .inl (fun _ => 0)))] H locs := hT
  refine W.widen (k := 11) (n := 15093) (Nat.le_of_ble_eq_true rfl) (Nat.le_of_ble_eq_true rfl) ?_
  refine pX8_45 C hnm hT (q0 := 0) rfl dX8_init_70 (fun H locs hT => ?_)
  have hT : Wd g A s [(a0, .inr (8, [.null, .null, .ref q_1, .null, .ref q_2, .ref q_3, .ref q_4, .ref q_5, .ref q_6, .ref q_7])), (q_1, .inr (2, [.ref q1_9, .int 0, .int 1, .int 0])), (q1_9, .inl (g.2.1 0, 2000, .inl (fun _ => 0))), (q_2, .inr (4, [.ref q1_20, .int 0, .int 0])), (q1_20, .inl (g.2.1 0, 2304, .inl (wFill (fun _ => 0) 256))), (q_3, .inr (4, [.ref q1_31, .int 0, .int 0])), (q1_31, .inl (g.2.1 0, 2304, .inl (wFill (fun _ => 0) 256))), (q_4, .inr (1, [.ref q1_42, .int 0])), (q1_42, .inl (g.2.1 0, 8448, .inl (cFill (fun _ => 0) 8448))), (q_5, .inl (g.2.1 3, 8, .inr (.inr (.inr (.inr (fun _ => none)))))), (q_6, .inl (g.2.1 0, 8, .inl (fun _ => 0))), (q_7, .inl (g.2.1 0, 9, .inl (fun _ => 0)))] H locs := hT
  refine lv_aload_n hx hb dX8_init_73 rfl (lv_at hl 0 rfl) ?_
  refine lv_aload_n hx hb dX8_init_74 rfl (lv_at hl 2 rfl) ?_
  refine pX8_48 C hnm hT (q0 := 0) rfl dX8_init_75 (fun H locs hT => ?_)
  have hT : Wd g A s [(a0, .inr (8, [.ref p1, .null, .ref q_1, .null, .ref q_2, .ref q_3, .ref q_4, .ref q_5, .ref q_6, .ref q_7])), (q_1, .inr (2, [.ref q1_9, .int 0, .int 1, .int 0])), (q1_9, .inl (g.2.1 0, 2000, .inl (fun _ => 0))), (q_2, .inr (4, [.ref q1_20, .int 0, .int 0])), (q1_20, .inl (g.2.1 0, 2304, .inl (wFill (fun _ => 0) 256))), (q_3, .inr (4, [.ref q1_31, .int 0, .int 0])), (q1_31, .inl (g.2.1 0, 2304, .inl (wFill (fun _ => 0) 256))), (q_4, .inr (1, [.ref q1_42, .int 0])), (q1_42, .inl (g.2.1 0, 8448, .inl (cFill (fun _ => 0) 8448))), (q_5, .inl (g.2.1 3, 8, .inr (.inr (.inr (.inr (fun _ => none)))))), (q_6, .inl (g.2.1 0, 8, .inl (fun _ => 0))), (q_7, .inl (g.2.1 0, 9, .inl (fun _ => 0)))] H locs := hT
  refine lv_aload_n hx hb dX8_init_78 rfl (lv_at hl 0 rfl) ?_
  refine lv_aload_n hx hb dX8_init_79 rfl (lv_at hl 3 rfl) ?_
  refine pX8_52 C hnm hT (q0 := 0) rfl dX8_init_80 (fun H locs hT => ?_)
  have hT : Wd g A s [(a0, .inr (8, [.ref p1, .ref p5, .ref q_1, .null, .ref q_2, .ref q_3, .ref q_4, .ref q_5, .ref q_6, .ref q_7])), (q_1, .inr (2, [.ref q1_9, .int 0, .int 1, .int 0])), (q1_9, .inl (g.2.1 0, 2000, .inl (fun _ => 0))), (q_2, .inr (4, [.ref q1_20, .int 0, .int 0])), (q1_20, .inl (g.2.1 0, 2304, .inl (wFill (fun _ => 0) 256))), (q_3, .inr (4, [.ref q1_31, .int 0, .int 0])), (q1_31, .inl (g.2.1 0, 2304, .inl (wFill (fun _ => 0) 256))), (q_4, .inr (1, [.ref q1_42, .int 0])), (q1_42, .inl (g.2.1 0, 8448, .inl (cFill (fun _ => 0) 8448))), (q_5, .inl (g.2.1 3, 8, .inr (.inr (.inr (.inr (fun _ => none)))))), (q_6, .inl (g.2.1 0, 8, .inl (fun _ => 0))), (q_7, .inl (g.2.1 0, 9, .inl (fun _ => 0)))] H locs := hT
  refine lv_aload_n hx hb dX8_init_83 rfl (lv_at hl 0 rfl) ?_
  refine r_new C hT (ci := 9) (fs := [.null, .null]) rfl inX9 tyX9 tyX9_ok k157 k158 k11 dfX9 (Nat.le_of_ble_eq_true rfl) (Nat.le_of_ble_eq_true rfl) dX8_init_84 (fun q_8 H hT => ?_)
  have hT : Wd g A s [(a0, .inr (8, [.ref p1, .ref p5, .ref q_1, .null, .ref q_2, .ref q_3, .ref q_4, .ref q_5, .ref q_6, .ref q_7])), (q_1, .inr (2, [.ref q1_9, .int 0, .int 1, .int 0])), (q1_9, .inl (g.2.1 0, 2000, .inl (fun _ => 0))), (q_2, .inr (4, [.ref q1_20, .int 0, .int 0])), (q1_20, .inl (g.2.1 0, 2304, .inl (wFill (fun _ => 0) 256))), (q_3, .inr (4, [.ref q1_31, .int 0, .int 0])), (q1_31, .inl (g.2.1 0, 2304, .inl (wFill (fun _ => 0) 256))), (q_4, .inr (1, [.ref q1_42, .int 0])), (q1_42, .inl (g.2.1 0, 8448, .inl (cFill (fun _ => 0) 8448))), (q_5, .inl (g.2.1 3, 8, .inr (.inr (.inr (.inr (fun _ => none)))))), (q_6, .inl (g.2.1 0, 8, .inl (fun _ => 0))), (q_7, .inl (g.2.1 0, 9, .inl (fun _ => 0))), (q_8, .inr (9, [.null, .null]))] H locs := hT
  refine W.widen (k := 12) (n := 15095) (Nat.le_of_ble_eq_true rfl) (Nat.le_of_ble_eq_true rfl) ?_
  refine lv_dup hx hb dX8_init_87 rfl ?_
  refine lv_iload_n hx hb dX8_init_88 rfl (lv_at hl 1 rfl) ?_
  have hM := c_X9_init l g q_8 rr N (by first | assumption | omega) (by first | assumption | omega) (by first | assumption | omega)
  refine r_call (js := [12]) (L1 := fun (zu : {zq : (Nat) × (Nat) // (True)}) => [(q_8, .inr (9, [.ref zu.1.1, .ref zu.1.2]))]) (L2 := fun (zu : {zq : (Nat) × (Nat) // (True)}) => [(zu.1.1, .inl (g.2.1 0, N, .inl (fillTo (fun _ => 0) 32768 N))), (zu.1.2, .inl (g.2.1 0, N, .inl (fun _ => 0)))]) C hT (runI (js := [12]) (rm := ({ frames := 2, cells := 2, slots := 8192, locals := 45 } : Room)) (As := [.int (nI rr)]) (n := 1) (rest := [.ref q_8, .ref a0]) C hT hM rfl rfl k159 k160 k11 k161 rfl (by decide +kernel) rfl rfl (Nat.le_of_ble_eq_true rfl) hl.1 ⟨Nat.le_of_ble_eq_true rfl, Nat.le_of_ble_eq_true rfl⟩ ⟨Nat.le_of_ble_eq_true rfl, Nat.le_of_ble_eq_true rfl⟩ dX8_init_89) rfl rfl (fun _ => rfl) (fun u H locs hT => ?_)
  obtain ⟨⟨q1_89, q2_89⟩, hok_89⟩ := u
  replace hok_89 : True := hok_89
  have hT : Wd g A s [(a0, .inr (8, [.ref p1, .ref p5, .ref q_1, .null, .ref q_2, .ref q_3, .ref q_4, .ref q_5, .ref q_6, .ref q_7])), (q_1, .inr (2, [.ref q1_9, .int 0, .int 1, .int 0])), (q1_9, .inl (g.2.1 0, 2000, .inl (fun _ => 0))), (q_2, .inr (4, [.ref q1_20, .int 0, .int 0])), (q1_20, .inl (g.2.1 0, 2304, .inl (wFill (fun _ => 0) 256))), (q_3, .inr (4, [.ref q1_31, .int 0, .int 0])), (q1_31, .inl (g.2.1 0, 2304, .inl (wFill (fun _ => 0) 256))), (q_4, .inr (1, [.ref q1_42, .int 0])), (q1_42, .inl (g.2.1 0, 8448, .inl (cFill (fun _ => 0) 8448))), (q_5, .inl (g.2.1 3, 8, .inr (.inr (.inr (.inr (fun _ => none)))))), (q_6, .inl (g.2.1 0, 8, .inl (fun _ => 0))), (q_7, .inl (g.2.1 0, 9, .inl (fun _ => 0))), (q_8, .inr (9, [.ref q1_89, .ref q2_89])), (q1_89, .inl (g.2.1 0, N, .inl (fillTo (fun _ => 0) 32768 N))), (q2_89, .inl (g.2.1 0, N, .inl (fun _ => 0)))] H locs := hT
  refine W.eq (g2 := F0 m 92 ls [.ref q_8, .ref a0]) rfl ?_
  refine W.widen (k := 14) (n := 23287) (Nat.le_of_ble_eq_true rfl) (Nat.le_of_ble_eq_true rfl) ?_
  refine pX8_61 C hnm hT (q0 := 0) rfl dX8_init_92 (fun H locs hT => ?_)
  have hT : Wd g A s [(a0, .inr (8, [.ref p1, .ref p5, .ref q_1, .ref q_8, .ref q_2, .ref q_3, .ref q_4, .ref q_5, .ref q_6, .ref q_7])), (q_1, .inr (2, [.ref q1_9, .int 0, .int 1, .int 0])), (q1_9, .inl (g.2.1 0, 2000, .inl (fun _ => 0))), (q_2, .inr (4, [.ref q1_20, .int 0, .int 0])), (q1_20, .inl (g.2.1 0, 2304, .inl (wFill (fun _ => 0) 256))), (q_3, .inr (4, [.ref q1_31, .int 0, .int 0])), (q1_31, .inl (g.2.1 0, 2304, .inl (wFill (fun _ => 0) 256))), (q_4, .inr (1, [.ref q1_42, .int 0])), (q1_42, .inl (g.2.1 0, 8448, .inl (cFill (fun _ => 0) 8448))), (q_5, .inl (g.2.1 3, 8, .inr (.inr (.inr (.inr (fun _ => none)))))), (q_6, .inl (g.2.1 0, 8, .inl (fun _ => 0))), (q_7, .inl (g.2.1 0, 9, .inl (fun _ => 0))), (q_8, .inr (9, [.ref q1_89, .ref q2_89])), (q1_89, .inl (g.2.1 0, N, .inl (fillTo (fun _ => 0) 32768 N))), (q2_89, .inl (g.2.1 0, N, .inl (fun _ => 0)))] H locs := hT
  refine lv_aload_n hx hb dX8_init_95 rfl (lv_at hl 0 rfl) ?_
  refine gX8_45 C hT (q0 := 0) rfl dX8_init_96 ?_
  refine lv_bipush (v := 8) hx hb dX8_init_99 (by decide) ?_
  refine lv_sipush (v := 256) hx hb dX8_init_101 (by decide) ?_
  refine r_iast C hT (q0 := 11) rfl 8 rfl (by decide) (by decide) dX8_init_104 (fun H locs hT => ?_)
  have hT : Wd g A s [(a0, .inr (8, [.ref p1, .ref p5, .ref q_1, .ref q_8, .ref q_2, .ref q_3, .ref q_4, .ref q_5, .ref q_6, .ref q_7])), (q_1, .inr (2, [.ref q1_9, .int 0, .int 1, .int 0])), (q1_9, .inl (g.2.1 0, 2000, .inl (fun _ => 0))), (q_2, .inr (4, [.ref q1_20, .int 0, .int 0])), (q1_20, .inl (g.2.1 0, 2304, .inl (wFill (fun _ => 0) 256))), (q_3, .inr (4, [.ref q1_31, .int 0, .int 0])), (q1_31, .inl (g.2.1 0, 2304, .inl (wFill (fun _ => 0) 256))), (q_4, .inr (1, [.ref q1_42, .int 0])), (q1_42, .inl (g.2.1 0, 8448, .inl (cFill (fun _ => 0) 8448))), (q_5, .inl (g.2.1 3, 8, .inr (.inr (.inr (.inr (fun _ => none)))))), (q_6, .inl (g.2.1 0, 8, .inl (fun _ => 0))), (q_7, .inl (g.2.1 0, 9, .inl (upd (fun _ => 0) 8 256))), (q_8, .inr (9, [.ref q1_89, .ref q2_89])), (q1_89, .inl (g.2.1 0, N, .inl (fillTo (fun _ => 0) 32768 N))), (q2_89, .inl (g.2.1 0, N, .inl (fun _ => 0)))] H locs := hT
  refine lv_iconst (v := 0) hx hb dX8_init_105 (by decide) ?_
  refine lv_istore (lv' := [(4, .int 0), (0, .ref a0), (1, .int (nI rr)), (2, .ref p1), (3, .ref p5)]) hx hb dX8_init_106 hl (by decide) rfl (fun ls hl => ?_)
  refine lv_iload hx hb dX8_init_108 (lv_at hl 0 rfl) ?_
  refine lv_aload_n hx hb dX8_init_110 rfl (lv_at hl 1 rfl) ?_
  refine gX8_37 C hT (q0 := 0) rfl dX8_init_111 ?_
  refine r_alen C hT (q0 := 9) 3 rfl rfl dX8_init_114 ?_
  refine W.eq (g2 := F0 m 115 ls [.int (nI 8), .int 0]) rfl ?_
  refine lv_icmp_ge (tgt := 138) hx hb dX8_init_115 (by decide) (fun h_9 => ?_) (fun h_9 => ?_)
  · skip
    exact absurd h_9 (by decide)
  · skip
    refine lv_aload_n hx hb dX8_init_118 rfl (lv_at hl 1 rfl) ?_
    refine gX8_37 C hT (q0 := 0) rfl dX8_init_119 ?_
    refine lv_iload hx hb dX8_init_122 (lv_at hl 0 rfl) ?_
    refine r_new C hT (ci := 3) (fs := [.int 0, .int 0]) rfl inX3 tyX3 tyX3_ok k155 k176 k12 dfX3 (Nat.le_of_ble_eq_true rfl) (Nat.le_of_ble_eq_true rfl) dX8_init_124 (fun q_10 H hT => ?_)
    have hT : Wd g A s [(a0, .inr (8, [.ref p1, .ref p5, .ref q_1, .ref q_8, .ref q_2, .ref q_3, .ref q_4, .ref q_5, .ref q_6, .ref q_7])), (q_1, .inr (2, [.ref q1_9, .int 0, .int 1, .int 0])), (q1_9, .inl (g.2.1 0, 2000, .inl (fun _ => 0))), (q_2, .inr (4, [.ref q1_20, .int 0, .int 0])), (q1_20, .inl (g.2.1 0, 2304, .inl (wFill (fun _ => 0) 256))), (q_3, .inr (4, [.ref q1_31, .int 0, .int 0])), (q1_31, .inl (g.2.1 0, 2304, .inl (wFill (fun _ => 0) 256))), (q_4, .inr (1, [.ref q1_42, .int 0])), (q1_42, .inl (g.2.1 0, 8448, .inl (cFill (fun _ => 0) 8448))), (q_5, .inl (g.2.1 3, 8, .inr (.inr (.inr (.inr (fun _ => none)))))), (q_6, .inl (g.2.1 0, 8, .inl (fun _ => 0))), (q_7, .inl (g.2.1 0, 9, .inl (upd (fun _ => 0) 8 256))), (q_8, .inr (9, [.ref q1_89, .ref q2_89])), (q1_89, .inl (g.2.1 0, N, .inl (fillTo (fun _ => 0) 32768 N))), (q2_89, .inl (g.2.1 0, N, .inl (fun _ => 0))), (q_10, .inr (3, [.int 0, .int 0]))] H locs := hT
    refine W.widen (k := 15) (n := 23289) (Nat.le_of_ble_eq_true rfl) (Nat.le_of_ble_eq_true rfl) ?_
    refine lv_dup hx hb dX8_init_127 rfl ?_
    have hM := c_X3_init l g q_10
    refine r_callRO (js := [15]) C hT (runIN (host := "ContextMix") (js := [15]) (rm := ({ frames := 1, cells := 0, slots := 0, locals := 12 } : Room)) (As := []) (n := 0) (rest := [.ref q_10, .int 0, .ref q_5]) C hT hM rfl rfl (List.mem_of_getElem? (i := 2) rfl) k178 k12 k179 rfl (by decide +kernel) rfl rfl (Nat.le_of_ble_eq_true rfl) hl.1 ⟨Nat.le_of_ble_eq_true rfl, Nat.le_of_ble_eq_true rfl⟩ ⟨Nat.le_of_ble_eq_true rfl, Nat.le_of_ble_eq_true rfl⟩ dX8_init_128) rfl rfl (fun u H locs hT => ?_)
    refine W.eq (g2 := F0 m 131 ls [.ref q_10, .int 0, .ref q_5]) rfl ?_
    refine r_astm C hT (q0 := 9) (qk := 15) rfl rfl 0 rfl (by decide) (by decide) dX8_init_131 (fun H locs hT => ?_)
    have hT : Wd g A s [(a0, .inr (8, [.ref p1, .ref p5, .ref q_1, .ref q_8, .ref q_2, .ref q_3, .ref q_4, .ref q_5, .ref q_6, .ref q_7])), (q_1, .inr (2, [.ref q1_9, .int 0, .int 1, .int 0])), (q1_9, .inl (g.2.1 0, 2000, .inl (fun _ => 0))), (q_2, .inr (4, [.ref q1_20, .int 0, .int 0])), (q1_20, .inl (g.2.1 0, 2304, .inl (wFill (fun _ => 0) 256))), (q_3, .inr (4, [.ref q1_31, .int 0, .int 0])), (q1_31, .inl (g.2.1 0, 2304, .inl (wFill (fun _ => 0) 256))), (q_4, .inr (1, [.ref q1_42, .int 0])), (q1_42, .inl (g.2.1 0, 8448, .inl (cFill (fun _ => 0) 8448))), (q_5, .inl (g.2.1 3, 8, .inr (.inr (.inr (.inr (va_up (fun _ => none) 0 (some q_10))))))), (q_6, .inl (g.2.1 0, 8, .inl (fun _ => 0))), (q_7, .inl (g.2.1 0, 9, .inl (upd (fun _ => 0) 8 256))), (q_8, .inr (9, [.ref q1_89, .ref q2_89])), (q1_89, .inl (g.2.1 0, N, .inl (fillTo (fun _ => 0) 32768 N))), (q2_89, .inl (g.2.1 0, N, .inl (fun _ => 0))), (q_10, .inr (3, [.int 0, .int 0]))] H locs := hT
    refine lv_iinc (v := 1) (lv' := [(4, .int 1), (0, .ref a0), (1, .int (nI rr)), (2, .ref p1), (3, .ref p5)]) hx hb dX8_init_132 hl (k := 0) rfl rfl (by decide) rfl (fun ls hl => ?_)
    refine lv_goto (tgt := 108) hx hb dX8_init_135 (by decide) ?_
    refine lv_iload hx hb dX8_init_108 (lv_at hl 0 rfl) ?_
    refine lv_aload_n hx hb dX8_init_110 rfl (lv_at hl 1 rfl) ?_
    refine gX8_37 C hT (q0 := 0) rfl dX8_init_111 ?_
    refine r_alen C hT (q0 := 9) 3 rfl rfl dX8_init_114 ?_
    refine W.eq (g2 := F0 m 115 ls [.int (nI 8), .int 1]) rfl ?_
    refine lv_icmp_ge (tgt := 138) hx hb dX8_init_115 (by decide) (fun h_11 => ?_) (fun h_11 => ?_)
    · skip
      exact absurd h_11 (by decide)
    · skip
      refine lv_aload_n hx hb dX8_init_118 rfl (lv_at hl 1 rfl) ?_
      refine gX8_37 C hT (q0 := 0) rfl dX8_init_119 ?_
      refine lv_iload hx hb dX8_init_122 (lv_at hl 0 rfl) ?_
      refine r_new C hT (ci := 3) (fs := [.int 0, .int 0]) rfl inX3 tyX3 tyX3_ok k155 k176 k12 dfX3 (Nat.le_of_ble_eq_true rfl) (Nat.le_of_ble_eq_true rfl) dX8_init_124 (fun q_12 H hT => ?_)
      have hT : Wd g A s [(a0, .inr (8, [.ref p1, .ref p5, .ref q_1, .ref q_8, .ref q_2, .ref q_3, .ref q_4, .ref q_5, .ref q_6, .ref q_7])), (q_1, .inr (2, [.ref q1_9, .int 0, .int 1, .int 0])), (q1_9, .inl (g.2.1 0, 2000, .inl (fun _ => 0))), (q_2, .inr (4, [.ref q1_20, .int 0, .int 0])), (q1_20, .inl (g.2.1 0, 2304, .inl (wFill (fun _ => 0) 256))), (q_3, .inr (4, [.ref q1_31, .int 0, .int 0])), (q1_31, .inl (g.2.1 0, 2304, .inl (wFill (fun _ => 0) 256))), (q_4, .inr (1, [.ref q1_42, .int 0])), (q1_42, .inl (g.2.1 0, 8448, .inl (cFill (fun _ => 0) 8448))), (q_5, .inl (g.2.1 3, 8, .inr (.inr (.inr (.inr (va_up (fun _ => none) 0 (some q_10))))))), (q_6, .inl (g.2.1 0, 8, .inl (fun _ => 0))), (q_7, .inl (g.2.1 0, 9, .inl (upd (fun _ => 0) 8 256))), (q_8, .inr (9, [.ref q1_89, .ref q2_89])), (q1_89, .inl (g.2.1 0, N, .inl (fillTo (fun _ => 0) 32768 N))), (q2_89, .inl (g.2.1 0, N, .inl (fun _ => 0))), (q_10, .inr (3, [.int 0, .int 0])), (q_12, .inr (3, [.int 0, .int 0]))] H locs := hT
      refine W.widen (k := 16) (n := 23291) (Nat.le_of_ble_eq_true rfl) (Nat.le_of_ble_eq_true rfl) ?_
      refine lv_dup hx hb dX8_init_127 rfl ?_
      have hM := c_X3_init l g q_12
      refine r_callRO (js := [16]) C hT (runIN (host := "ContextMix") (js := [16]) (rm := ({ frames := 1, cells := 0, slots := 0, locals := 12 } : Room)) (As := []) (n := 0) (rest := [.ref q_12, .int 1, .ref q_5]) C hT hM rfl rfl (List.mem_of_getElem? (i := 2) rfl) k178 k12 k179 rfl (by decide +kernel) rfl rfl (Nat.le_of_ble_eq_true rfl) hl.1 ⟨Nat.le_of_ble_eq_true rfl, Nat.le_of_ble_eq_true rfl⟩ ⟨Nat.le_of_ble_eq_true rfl, Nat.le_of_ble_eq_true rfl⟩ dX8_init_128) rfl rfl (fun u H locs hT => ?_)
      refine W.eq (g2 := F0 m 131 ls [.ref q_12, .int 1, .ref q_5]) rfl ?_
      refine r_astm C hT (q0 := 9) (qk := 16) rfl rfl 1 rfl (by decide) (by decide) dX8_init_131 (fun H locs hT => ?_)
      have hT : Wd g A s [(a0, .inr (8, [.ref p1, .ref p5, .ref q_1, .ref q_8, .ref q_2, .ref q_3, .ref q_4, .ref q_5, .ref q_6, .ref q_7])), (q_1, .inr (2, [.ref q1_9, .int 0, .int 1, .int 0])), (q1_9, .inl (g.2.1 0, 2000, .inl (fun _ => 0))), (q_2, .inr (4, [.ref q1_20, .int 0, .int 0])), (q1_20, .inl (g.2.1 0, 2304, .inl (wFill (fun _ => 0) 256))), (q_3, .inr (4, [.ref q1_31, .int 0, .int 0])), (q1_31, .inl (g.2.1 0, 2304, .inl (wFill (fun _ => 0) 256))), (q_4, .inr (1, [.ref q1_42, .int 0])), (q1_42, .inl (g.2.1 0, 8448, .inl (cFill (fun _ => 0) 8448))), (q_5, .inl (g.2.1 3, 8, .inr (.inr (.inr (.inr (va_up (va_up (fun _ => none) 0 (some q_10)) 1 (some q_12))))))), (q_6, .inl (g.2.1 0, 8, .inl (fun _ => 0))), (q_7, .inl (g.2.1 0, 9, .inl (upd (fun _ => 0) 8 256))), (q_8, .inr (9, [.ref q1_89, .ref q2_89])), (q1_89, .inl (g.2.1 0, N, .inl (fillTo (fun _ => 0) 32768 N))), (q2_89, .inl (g.2.1 0, N, .inl (fun _ => 0))), (q_10, .inr (3, [.int 0, .int 0])), (q_12, .inr (3, [.int 0, .int 0]))] H locs := hT
      refine lv_iinc (v := 2) (lv' := [(4, .int 2), (0, .ref a0), (1, .int (nI rr)), (2, .ref p1), (3, .ref p5)]) hx hb dX8_init_132 hl (k := 0) rfl rfl (by decide) rfl (fun ls hl => ?_)
      refine lv_goto (tgt := 108) hx hb dX8_init_135 (by decide) ?_
      refine lv_iload hx hb dX8_init_108 (lv_at hl 0 rfl) ?_
      refine lv_aload_n hx hb dX8_init_110 rfl (lv_at hl 1 rfl) ?_
      refine gX8_37 C hT (q0 := 0) rfl dX8_init_111 ?_
      refine r_alen C hT (q0 := 9) 3 rfl rfl dX8_init_114 ?_
      refine W.eq (g2 := F0 m 115 ls [.int (nI 8), .int 2]) rfl ?_
      refine lv_icmp_ge (tgt := 138) hx hb dX8_init_115 (by decide) (fun h_13 => ?_) (fun h_13 => ?_)
      · skip
        exact absurd h_13 (by decide)
      · skip
        refine lv_aload_n hx hb dX8_init_118 rfl (lv_at hl 1 rfl) ?_
        refine gX8_37 C hT (q0 := 0) rfl dX8_init_119 ?_
        refine lv_iload hx hb dX8_init_122 (lv_at hl 0 rfl) ?_
        refine r_new C hT (ci := 3) (fs := [.int 0, .int 0]) rfl inX3 tyX3 tyX3_ok k155 k176 k12 dfX3 (Nat.le_of_ble_eq_true rfl) (Nat.le_of_ble_eq_true rfl) dX8_init_124 (fun q_14 H hT => ?_)
        have hT : Wd g A s [(a0, .inr (8, [.ref p1, .ref p5, .ref q_1, .ref q_8, .ref q_2, .ref q_3, .ref q_4, .ref q_5, .ref q_6, .ref q_7])), (q_1, .inr (2, [.ref q1_9, .int 0, .int 1, .int 0])), (q1_9, .inl (g.2.1 0, 2000, .inl (fun _ => 0))), (q_2, .inr (4, [.ref q1_20, .int 0, .int 0])), (q1_20, .inl (g.2.1 0, 2304, .inl (wFill (fun _ => 0) 256))), (q_3, .inr (4, [.ref q1_31, .int 0, .int 0])), (q1_31, .inl (g.2.1 0, 2304, .inl (wFill (fun _ => 0) 256))), (q_4, .inr (1, [.ref q1_42, .int 0])), (q1_42, .inl (g.2.1 0, 8448, .inl (cFill (fun _ => 0) 8448))), (q_5, .inl (g.2.1 3, 8, .inr (.inr (.inr (.inr (va_up (va_up (fun _ => none) 0 (some q_10)) 1 (some q_12))))))), (q_6, .inl (g.2.1 0, 8, .inl (fun _ => 0))), (q_7, .inl (g.2.1 0, 9, .inl (upd (fun _ => 0) 8 256))), (q_8, .inr (9, [.ref q1_89, .ref q2_89])), (q1_89, .inl (g.2.1 0, N, .inl (fillTo (fun _ => 0) 32768 N))), (q2_89, .inl (g.2.1 0, N, .inl (fun _ => 0))), (q_10, .inr (3, [.int 0, .int 0])), (q_12, .inr (3, [.int 0, .int 0])), (q_14, .inr (3, [.int 0, .int 0]))] H locs := hT
        refine W.widen (k := 17) (n := 23293) (Nat.le_of_ble_eq_true rfl) (Nat.le_of_ble_eq_true rfl) ?_
        refine lv_dup hx hb dX8_init_127 rfl ?_
        have hM := c_X3_init l g q_14
        refine r_callRO (js := [17]) C hT (runIN (host := "ContextMix") (js := [17]) (rm := ({ frames := 1, cells := 0, slots := 0, locals := 12 } : Room)) (As := []) (n := 0) (rest := [.ref q_14, .int 2, .ref q_5]) C hT hM rfl rfl (List.mem_of_getElem? (i := 2) rfl) k178 k12 k179 rfl (by decide +kernel) rfl rfl (Nat.le_of_ble_eq_true rfl) hl.1 ⟨Nat.le_of_ble_eq_true rfl, Nat.le_of_ble_eq_true rfl⟩ ⟨Nat.le_of_ble_eq_true rfl, Nat.le_of_ble_eq_true rfl⟩ dX8_init_128) rfl rfl (fun u H locs hT => ?_)
        refine W.eq (g2 := F0 m 131 ls [.ref q_14, .int 2, .ref q_5]) rfl ?_
        refine r_astm C hT (q0 := 9) (qk := 17) rfl rfl 2 rfl (by decide) (by decide) dX8_init_131 (fun H locs hT => ?_)
        have hT : Wd g A s [(a0, .inr (8, [.ref p1, .ref p5, .ref q_1, .ref q_8, .ref q_2, .ref q_3, .ref q_4, .ref q_5, .ref q_6, .ref q_7])), (q_1, .inr (2, [.ref q1_9, .int 0, .int 1, .int 0])), (q1_9, .inl (g.2.1 0, 2000, .inl (fun _ => 0))), (q_2, .inr (4, [.ref q1_20, .int 0, .int 0])), (q1_20, .inl (g.2.1 0, 2304, .inl (wFill (fun _ => 0) 256))), (q_3, .inr (4, [.ref q1_31, .int 0, .int 0])), (q1_31, .inl (g.2.1 0, 2304, .inl (wFill (fun _ => 0) 256))), (q_4, .inr (1, [.ref q1_42, .int 0])), (q1_42, .inl (g.2.1 0, 8448, .inl (cFill (fun _ => 0) 8448))), (q_5, .inl (g.2.1 3, 8, .inr (.inr (.inr (.inr (va_up (va_up (va_up (fun _ => none) 0 (some q_10)) 1 (some q_12)) 2 (some q_14))))))), (q_6, .inl (g.2.1 0, 8, .inl (fun _ => 0))), (q_7, .inl (g.2.1 0, 9, .inl (upd (fun _ => 0) 8 256))), (q_8, .inr (9, [.ref q1_89, .ref q2_89])), (q1_89, .inl (g.2.1 0, N, .inl (fillTo (fun _ => 0) 32768 N))), (q2_89, .inl (g.2.1 0, N, .inl (fun _ => 0))), (q_10, .inr (3, [.int 0, .int 0])), (q_12, .inr (3, [.int 0, .int 0])), (q_14, .inr (3, [.int 0, .int 0]))] H locs := hT
        refine lv_iinc (v := 3) (lv' := [(4, .int 3), (0, .ref a0), (1, .int (nI rr)), (2, .ref p1), (3, .ref p5)]) hx hb dX8_init_132 hl (k := 0) rfl rfl (by decide) rfl (fun ls hl => ?_)
        refine lv_goto (tgt := 108) hx hb dX8_init_135 (by decide) ?_
        refine lv_iload hx hb dX8_init_108 (lv_at hl 0 rfl) ?_
        refine lv_aload_n hx hb dX8_init_110 rfl (lv_at hl 1 rfl) ?_
        refine gX8_37 C hT (q0 := 0) rfl dX8_init_111 ?_
        refine r_alen C hT (q0 := 9) 3 rfl rfl dX8_init_114 ?_
        refine W.eq (g2 := F0 m 115 ls [.int (nI 8), .int 3]) rfl ?_
        refine lv_icmp_ge (tgt := 138) hx hb dX8_init_115 (by decide) (fun h_15 => ?_) (fun h_15 => ?_)
        · skip
          exact absurd h_15 (by decide)
        · skip
          refine lv_aload_n hx hb dX8_init_118 rfl (lv_at hl 1 rfl) ?_
          refine gX8_37 C hT (q0 := 0) rfl dX8_init_119 ?_
          refine lv_iload hx hb dX8_init_122 (lv_at hl 0 rfl) ?_
          refine r_new C hT (ci := 3) (fs := [.int 0, .int 0]) rfl inX3 tyX3 tyX3_ok k155 k176 k12 dfX3 (Nat.le_of_ble_eq_true rfl) (Nat.le_of_ble_eq_true rfl) dX8_init_124 (fun q_16 H hT => ?_)
          have hT : Wd g A s [(a0, .inr (8, [.ref p1, .ref p5, .ref q_1, .ref q_8, .ref q_2, .ref q_3, .ref q_4, .ref q_5, .ref q_6, .ref q_7])), (q_1, .inr (2, [.ref q1_9, .int 0, .int 1, .int 0])), (q1_9, .inl (g.2.1 0, 2000, .inl (fun _ => 0))), (q_2, .inr (4, [.ref q1_20, .int 0, .int 0])), (q1_20, .inl (g.2.1 0, 2304, .inl (wFill (fun _ => 0) 256))), (q_3, .inr (4, [.ref q1_31, .int 0, .int 0])), (q1_31, .inl (g.2.1 0, 2304, .inl (wFill (fun _ => 0) 256))), (q_4, .inr (1, [.ref q1_42, .int 0])), (q1_42, .inl (g.2.1 0, 8448, .inl (cFill (fun _ => 0) 8448))), (q_5, .inl (g.2.1 3, 8, .inr (.inr (.inr (.inr (va_up (va_up (va_up (fun _ => none) 0 (some q_10)) 1 (some q_12)) 2 (some q_14))))))), (q_6, .inl (g.2.1 0, 8, .inl (fun _ => 0))), (q_7, .inl (g.2.1 0, 9, .inl (upd (fun _ => 0) 8 256))), (q_8, .inr (9, [.ref q1_89, .ref q2_89])), (q1_89, .inl (g.2.1 0, N, .inl (fillTo (fun _ => 0) 32768 N))), (q2_89, .inl (g.2.1 0, N, .inl (fun _ => 0))), (q_10, .inr (3, [.int 0, .int 0])), (q_12, .inr (3, [.int 0, .int 0])), (q_14, .inr (3, [.int 0, .int 0])), (q_16, .inr (3, [.int 0, .int 0]))] H locs := hT
          refine W.widen (k := 18) (n := 23295) (Nat.le_of_ble_eq_true rfl) (Nat.le_of_ble_eq_true rfl) ?_
          refine lv_dup hx hb dX8_init_127 rfl ?_
          have hM := c_X3_init l g q_16
          refine r_callRO (js := [18]) C hT (runIN (host := "ContextMix") (js := [18]) (rm := ({ frames := 1, cells := 0, slots := 0, locals := 12 } : Room)) (As := []) (n := 0) (rest := [.ref q_16, .int 3, .ref q_5]) C hT hM rfl rfl (List.mem_of_getElem? (i := 2) rfl) k178 k12 k179 rfl (by decide +kernel) rfl rfl (Nat.le_of_ble_eq_true rfl) hl.1 ⟨Nat.le_of_ble_eq_true rfl, Nat.le_of_ble_eq_true rfl⟩ ⟨Nat.le_of_ble_eq_true rfl, Nat.le_of_ble_eq_true rfl⟩ dX8_init_128) rfl rfl (fun u H locs hT => ?_)
          refine W.eq (g2 := F0 m 131 ls [.ref q_16, .int 3, .ref q_5]) rfl ?_
          refine r_astm C hT (q0 := 9) (qk := 18) rfl rfl 3 rfl (by decide) (by decide) dX8_init_131 (fun H locs hT => ?_)
          have hT : Wd g A s [(a0, .inr (8, [.ref p1, .ref p5, .ref q_1, .ref q_8, .ref q_2, .ref q_3, .ref q_4, .ref q_5, .ref q_6, .ref q_7])), (q_1, .inr (2, [.ref q1_9, .int 0, .int 1, .int 0])), (q1_9, .inl (g.2.1 0, 2000, .inl (fun _ => 0))), (q_2, .inr (4, [.ref q1_20, .int 0, .int 0])), (q1_20, .inl (g.2.1 0, 2304, .inl (wFill (fun _ => 0) 256))), (q_3, .inr (4, [.ref q1_31, .int 0, .int 0])), (q1_31, .inl (g.2.1 0, 2304, .inl (wFill (fun _ => 0) 256))), (q_4, .inr (1, [.ref q1_42, .int 0])), (q1_42, .inl (g.2.1 0, 8448, .inl (cFill (fun _ => 0) 8448))), (q_5, .inl (g.2.1 3, 8, .inr (.inr (.inr (.inr (va_up (va_up (va_up (va_up (fun _ => none) 0 (some q_10)) 1 (some q_12)) 2 (some q_14)) 3 (some q_16))))))), (q_6, .inl (g.2.1 0, 8, .inl (fun _ => 0))), (q_7, .inl (g.2.1 0, 9, .inl (upd (fun _ => 0) 8 256))), (q_8, .inr (9, [.ref q1_89, .ref q2_89])), (q1_89, .inl (g.2.1 0, N, .inl (fillTo (fun _ => 0) 32768 N))), (q2_89, .inl (g.2.1 0, N, .inl (fun _ => 0))), (q_10, .inr (3, [.int 0, .int 0])), (q_12, .inr (3, [.int 0, .int 0])), (q_14, .inr (3, [.int 0, .int 0])), (q_16, .inr (3, [.int 0, .int 0]))] H locs := hT
          refine lv_iinc (v := 4) (lv' := [(4, .int 4), (0, .ref a0), (1, .int (nI rr)), (2, .ref p1), (3, .ref p5)]) hx hb dX8_init_132 hl (k := 0) rfl rfl (by decide) rfl (fun ls hl => ?_)
          refine lv_goto (tgt := 108) hx hb dX8_init_135 (by decide) ?_
          refine lv_iload hx hb dX8_init_108 (lv_at hl 0 rfl) ?_
          refine lv_aload_n hx hb dX8_init_110 rfl (lv_at hl 1 rfl) ?_
          refine gX8_37 C hT (q0 := 0) rfl dX8_init_111 ?_
          refine r_alen C hT (q0 := 9) 3 rfl rfl dX8_init_114 ?_
          refine W.eq (g2 := F0 m 115 ls [.int (nI 8), .int 4]) rfl ?_
          refine lv_icmp_ge (tgt := 138) hx hb dX8_init_115 (by decide) (fun h_17 => ?_) (fun h_17 => ?_)
          · skip
            exact absurd h_17 (by decide)
          · skip
            refine lv_aload_n hx hb dX8_init_118 rfl (lv_at hl 1 rfl) ?_
            refine gX8_37 C hT (q0 := 0) rfl dX8_init_119 ?_
            refine lv_iload hx hb dX8_init_122 (lv_at hl 0 rfl) ?_
            refine r_new C hT (ci := 3) (fs := [.int 0, .int 0]) rfl inX3 tyX3 tyX3_ok k155 k176 k12 dfX3 (Nat.le_of_ble_eq_true rfl) (Nat.le_of_ble_eq_true rfl) dX8_init_124 (fun q_18 H hT => ?_)
            have hT : Wd g A s [(a0, .inr (8, [.ref p1, .ref p5, .ref q_1, .ref q_8, .ref q_2, .ref q_3, .ref q_4, .ref q_5, .ref q_6, .ref q_7])), (q_1, .inr (2, [.ref q1_9, .int 0, .int 1, .int 0])), (q1_9, .inl (g.2.1 0, 2000, .inl (fun _ => 0))), (q_2, .inr (4, [.ref q1_20, .int 0, .int 0])), (q1_20, .inl (g.2.1 0, 2304, .inl (wFill (fun _ => 0) 256))), (q_3, .inr (4, [.ref q1_31, .int 0, .int 0])), (q1_31, .inl (g.2.1 0, 2304, .inl (wFill (fun _ => 0) 256))), (q_4, .inr (1, [.ref q1_42, .int 0])), (q1_42, .inl (g.2.1 0, 8448, .inl (cFill (fun _ => 0) 8448))), (q_5, .inl (g.2.1 3, 8, .inr (.inr (.inr (.inr (va_up (va_up (va_up (va_up (fun _ => none) 0 (some q_10)) 1 (some q_12)) 2 (some q_14)) 3 (some q_16))))))), (q_6, .inl (g.2.1 0, 8, .inl (fun _ => 0))), (q_7, .inl (g.2.1 0, 9, .inl (upd (fun _ => 0) 8 256))), (q_8, .inr (9, [.ref q1_89, .ref q2_89])), (q1_89, .inl (g.2.1 0, N, .inl (fillTo (fun _ => 0) 32768 N))), (q2_89, .inl (g.2.1 0, N, .inl (fun _ => 0))), (q_10, .inr (3, [.int 0, .int 0])), (q_12, .inr (3, [.int 0, .int 0])), (q_14, .inr (3, [.int 0, .int 0])), (q_16, .inr (3, [.int 0, .int 0])), (q_18, .inr (3, [.int 0, .int 0]))] H locs := hT
            refine W.widen (k := 19) (n := 23297) (Nat.le_of_ble_eq_true rfl) (Nat.le_of_ble_eq_true rfl) ?_
            refine lv_dup hx hb dX8_init_127 rfl ?_
            have hM := c_X3_init l g q_18
            refine r_callRO (js := [19]) C hT (runIN (host := "ContextMix") (js := [19]) (rm := ({ frames := 1, cells := 0, slots := 0, locals := 12 } : Room)) (As := []) (n := 0) (rest := [.ref q_18, .int 4, .ref q_5]) C hT hM rfl rfl (List.mem_of_getElem? (i := 2) rfl) k178 k12 k179 rfl (by decide +kernel) rfl rfl (Nat.le_of_ble_eq_true rfl) hl.1 ⟨Nat.le_of_ble_eq_true rfl, Nat.le_of_ble_eq_true rfl⟩ ⟨Nat.le_of_ble_eq_true rfl, Nat.le_of_ble_eq_true rfl⟩ dX8_init_128) rfl rfl (fun u H locs hT => ?_)
            refine W.eq (g2 := F0 m 131 ls [.ref q_18, .int 4, .ref q_5]) rfl ?_
            refine r_astm C hT (q0 := 9) (qk := 19) rfl rfl 4 rfl (by decide) (by decide) dX8_init_131 (fun H locs hT => ?_)
            have hT : Wd g A s [(a0, .inr (8, [.ref p1, .ref p5, .ref q_1, .ref q_8, .ref q_2, .ref q_3, .ref q_4, .ref q_5, .ref q_6, .ref q_7])), (q_1, .inr (2, [.ref q1_9, .int 0, .int 1, .int 0])), (q1_9, .inl (g.2.1 0, 2000, .inl (fun _ => 0))), (q_2, .inr (4, [.ref q1_20, .int 0, .int 0])), (q1_20, .inl (g.2.1 0, 2304, .inl (wFill (fun _ => 0) 256))), (q_3, .inr (4, [.ref q1_31, .int 0, .int 0])), (q1_31, .inl (g.2.1 0, 2304, .inl (wFill (fun _ => 0) 256))), (q_4, .inr (1, [.ref q1_42, .int 0])), (q1_42, .inl (g.2.1 0, 8448, .inl (cFill (fun _ => 0) 8448))), (q_5, .inl (g.2.1 3, 8, .inr (.inr (.inr (.inr (va_up (va_up (va_up (va_up (va_up (fun _ => none) 0 (some q_10)) 1 (some q_12)) 2 (some q_14)) 3 (some q_16)) 4 (some q_18))))))), (q_6, .inl (g.2.1 0, 8, .inl (fun _ => 0))), (q_7, .inl (g.2.1 0, 9, .inl (upd (fun _ => 0) 8 256))), (q_8, .inr (9, [.ref q1_89, .ref q2_89])), (q1_89, .inl (g.2.1 0, N, .inl (fillTo (fun _ => 0) 32768 N))), (q2_89, .inl (g.2.1 0, N, .inl (fun _ => 0))), (q_10, .inr (3, [.int 0, .int 0])), (q_12, .inr (3, [.int 0, .int 0])), (q_14, .inr (3, [.int 0, .int 0])), (q_16, .inr (3, [.int 0, .int 0])), (q_18, .inr (3, [.int 0, .int 0]))] H locs := hT
            refine lv_iinc (v := 5) (lv' := [(4, .int 5), (0, .ref a0), (1, .int (nI rr)), (2, .ref p1), (3, .ref p5)]) hx hb dX8_init_132 hl (k := 0) rfl rfl (by decide) rfl (fun ls hl => ?_)
            refine lv_goto (tgt := 108) hx hb dX8_init_135 (by decide) ?_
            refine lv_iload hx hb dX8_init_108 (lv_at hl 0 rfl) ?_
            refine lv_aload_n hx hb dX8_init_110 rfl (lv_at hl 1 rfl) ?_
            refine gX8_37 C hT (q0 := 0) rfl dX8_init_111 ?_
            refine r_alen C hT (q0 := 9) 3 rfl rfl dX8_init_114 ?_
            refine W.eq (g2 := F0 m 115 ls [.int (nI 8), .int 5]) rfl ?_
            refine lv_icmp_ge (tgt := 138) hx hb dX8_init_115 (by decide) (fun h_19 => ?_) (fun h_19 => ?_)
            · skip
              exact absurd h_19 (by decide)
            · skip
              refine lv_aload_n hx hb dX8_init_118 rfl (lv_at hl 1 rfl) ?_
              refine gX8_37 C hT (q0 := 0) rfl dX8_init_119 ?_
              refine lv_iload hx hb dX8_init_122 (lv_at hl 0 rfl) ?_
              refine r_new C hT (ci := 3) (fs := [.int 0, .int 0]) rfl inX3 tyX3 tyX3_ok k155 k176 k12 dfX3 (Nat.le_of_ble_eq_true rfl) (Nat.le_of_ble_eq_true rfl) dX8_init_124 (fun q_20 H hT => ?_)
              have hT : Wd g A s [(a0, .inr (8, [.ref p1, .ref p5, .ref q_1, .ref q_8, .ref q_2, .ref q_3, .ref q_4, .ref q_5, .ref q_6, .ref q_7])), (q_1, .inr (2, [.ref q1_9, .int 0, .int 1, .int 0])), (q1_9, .inl (g.2.1 0, 2000, .inl (fun _ => 0))), (q_2, .inr (4, [.ref q1_20, .int 0, .int 0])), (q1_20, .inl (g.2.1 0, 2304, .inl (wFill (fun _ => 0) 256))), (q_3, .inr (4, [.ref q1_31, .int 0, .int 0])), (q1_31, .inl (g.2.1 0, 2304, .inl (wFill (fun _ => 0) 256))), (q_4, .inr (1, [.ref q1_42, .int 0])), (q1_42, .inl (g.2.1 0, 8448, .inl (cFill (fun _ => 0) 8448))), (q_5, .inl (g.2.1 3, 8, .inr (.inr (.inr (.inr (va_up (va_up (va_up (va_up (va_up (fun _ => none) 0 (some q_10)) 1 (some q_12)) 2 (some q_14)) 3 (some q_16)) 4 (some q_18))))))), (q_6, .inl (g.2.1 0, 8, .inl (fun _ => 0))), (q_7, .inl (g.2.1 0, 9, .inl (upd (fun _ => 0) 8 256))), (q_8, .inr (9, [.ref q1_89, .ref q2_89])), (q1_89, .inl (g.2.1 0, N, .inl (fillTo (fun _ => 0) 32768 N))), (q2_89, .inl (g.2.1 0, N, .inl (fun _ => 0))), (q_10, .inr (3, [.int 0, .int 0])), (q_12, .inr (3, [.int 0, .int 0])), (q_14, .inr (3, [.int 0, .int 0])), (q_16, .inr (3, [.int 0, .int 0])), (q_18, .inr (3, [.int 0, .int 0])), (q_20, .inr (3, [.int 0, .int 0]))] H locs := hT
              refine W.widen (k := 20) (n := 23299) (Nat.le_of_ble_eq_true rfl) (Nat.le_of_ble_eq_true rfl) ?_
              refine lv_dup hx hb dX8_init_127 rfl ?_
              have hM := c_X3_init l g q_20
              refine r_callRO (js := [20]) C hT (runIN (host := "ContextMix") (js := [20]) (rm := ({ frames := 1, cells := 0, slots := 0, locals := 12 } : Room)) (As := []) (n := 0) (rest := [.ref q_20, .int 5, .ref q_5]) C hT hM rfl rfl (List.mem_of_getElem? (i := 2) rfl) k178 k12 k179 rfl (by decide +kernel) rfl rfl (Nat.le_of_ble_eq_true rfl) hl.1 ⟨Nat.le_of_ble_eq_true rfl, Nat.le_of_ble_eq_true rfl⟩ ⟨Nat.le_of_ble_eq_true rfl, Nat.le_of_ble_eq_true rfl⟩ dX8_init_128) rfl rfl (fun u H locs hT => ?_)
              refine W.eq (g2 := F0 m 131 ls [.ref q_20, .int 5, .ref q_5]) rfl ?_
              refine r_astm C hT (q0 := 9) (qk := 20) rfl rfl 5 rfl (by decide) (by decide) dX8_init_131 (fun H locs hT => ?_)
              have hT : Wd g A s [(a0, .inr (8, [.ref p1, .ref p5, .ref q_1, .ref q_8, .ref q_2, .ref q_3, .ref q_4, .ref q_5, .ref q_6, .ref q_7])), (q_1, .inr (2, [.ref q1_9, .int 0, .int 1, .int 0])), (q1_9, .inl (g.2.1 0, 2000, .inl (fun _ => 0))), (q_2, .inr (4, [.ref q1_20, .int 0, .int 0])), (q1_20, .inl (g.2.1 0, 2304, .inl (wFill (fun _ => 0) 256))), (q_3, .inr (4, [.ref q1_31, .int 0, .int 0])), (q1_31, .inl (g.2.1 0, 2304, .inl (wFill (fun _ => 0) 256))), (q_4, .inr (1, [.ref q1_42, .int 0])), (q1_42, .inl (g.2.1 0, 8448, .inl (cFill (fun _ => 0) 8448))), (q_5, .inl (g.2.1 3, 8, .inr (.inr (.inr (.inr (va_up (va_up (va_up (va_up (va_up (va_up (fun _ => none) 0 (some q_10)) 1 (some q_12)) 2 (some q_14)) 3 (some q_16)) 4 (some q_18)) 5 (some q_20))))))), (q_6, .inl (g.2.1 0, 8, .inl (fun _ => 0))), (q_7, .inl (g.2.1 0, 9, .inl (upd (fun _ => 0) 8 256))), (q_8, .inr (9, [.ref q1_89, .ref q2_89])), (q1_89, .inl (g.2.1 0, N, .inl (fillTo (fun _ => 0) 32768 N))), (q2_89, .inl (g.2.1 0, N, .inl (fun _ => 0))), (q_10, .inr (3, [.int 0, .int 0])), (q_12, .inr (3, [.int 0, .int 0])), (q_14, .inr (3, [.int 0, .int 0])), (q_16, .inr (3, [.int 0, .int 0])), (q_18, .inr (3, [.int 0, .int 0])), (q_20, .inr (3, [.int 0, .int 0]))] H locs := hT
              refine lv_iinc (v := 6) (lv' := [(4, .int 6), (0, .ref a0), (1, .int (nI rr)), (2, .ref p1), (3, .ref p5)]) hx hb dX8_init_132 hl (k := 0) rfl rfl (by decide) rfl (fun ls hl => ?_)
              refine lv_goto (tgt := 108) hx hb dX8_init_135 (by decide) ?_
              refine lv_iload hx hb dX8_init_108 (lv_at hl 0 rfl) ?_
              refine lv_aload_n hx hb dX8_init_110 rfl (lv_at hl 1 rfl) ?_
              refine gX8_37 C hT (q0 := 0) rfl dX8_init_111 ?_
              refine r_alen C hT (q0 := 9) 3 rfl rfl dX8_init_114 ?_
              refine W.eq (g2 := F0 m 115 ls [.int (nI 8), .int 6]) rfl ?_
              refine lv_icmp_ge (tgt := 138) hx hb dX8_init_115 (by decide) (fun h_21 => ?_) (fun h_21 => ?_)
              · skip
                exact absurd h_21 (by decide)
              · skip
                refine lv_aload_n hx hb dX8_init_118 rfl (lv_at hl 1 rfl) ?_
                refine gX8_37 C hT (q0 := 0) rfl dX8_init_119 ?_
                refine lv_iload hx hb dX8_init_122 (lv_at hl 0 rfl) ?_
                refine r_new C hT (ci := 3) (fs := [.int 0, .int 0]) rfl inX3 tyX3 tyX3_ok k155 k176 k12 dfX3 (Nat.le_of_ble_eq_true rfl) (Nat.le_of_ble_eq_true rfl) dX8_init_124 (fun q_22 H hT => ?_)
                have hT : Wd g A s [(a0, .inr (8, [.ref p1, .ref p5, .ref q_1, .ref q_8, .ref q_2, .ref q_3, .ref q_4, .ref q_5, .ref q_6, .ref q_7])), (q_1, .inr (2, [.ref q1_9, .int 0, .int 1, .int 0])), (q1_9, .inl (g.2.1 0, 2000, .inl (fun _ => 0))), (q_2, .inr (4, [.ref q1_20, .int 0, .int 0])), (q1_20, .inl (g.2.1 0, 2304, .inl (wFill (fun _ => 0) 256))), (q_3, .inr (4, [.ref q1_31, .int 0, .int 0])), (q1_31, .inl (g.2.1 0, 2304, .inl (wFill (fun _ => 0) 256))), (q_4, .inr (1, [.ref q1_42, .int 0])), (q1_42, .inl (g.2.1 0, 8448, .inl (cFill (fun _ => 0) 8448))), (q_5, .inl (g.2.1 3, 8, .inr (.inr (.inr (.inr (va_up (va_up (va_up (va_up (va_up (va_up (fun _ => none) 0 (some q_10)) 1 (some q_12)) 2 (some q_14)) 3 (some q_16)) 4 (some q_18)) 5 (some q_20))))))), (q_6, .inl (g.2.1 0, 8, .inl (fun _ => 0))), (q_7, .inl (g.2.1 0, 9, .inl (upd (fun _ => 0) 8 256))), (q_8, .inr (9, [.ref q1_89, .ref q2_89])), (q1_89, .inl (g.2.1 0, N, .inl (fillTo (fun _ => 0) 32768 N))), (q2_89, .inl (g.2.1 0, N, .inl (fun _ => 0))), (q_10, .inr (3, [.int 0, .int 0])), (q_12, .inr (3, [.int 0, .int 0])), (q_14, .inr (3, [.int 0, .int 0])), (q_16, .inr (3, [.int 0, .int 0])), (q_18, .inr (3, [.int 0, .int 0])), (q_20, .inr (3, [.int 0, .int 0])), (q_22, .inr (3, [.int 0, .int 0]))] H locs := hT
                refine W.widen (k := 21) (n := 23301) (Nat.le_of_ble_eq_true rfl) (Nat.le_of_ble_eq_true rfl) ?_
                refine lv_dup hx hb dX8_init_127 rfl ?_
                have hM := c_X3_init l g q_22
                refine r_callRO (js := [21]) C hT (runIN (host := "ContextMix") (js := [21]) (rm := ({ frames := 1, cells := 0, slots := 0, locals := 12 } : Room)) (As := []) (n := 0) (rest := [.ref q_22, .int 6, .ref q_5]) C hT hM rfl rfl (List.mem_of_getElem? (i := 2) rfl) k178 k12 k179 rfl (by decide +kernel) rfl rfl (Nat.le_of_ble_eq_true rfl) hl.1 ⟨Nat.le_of_ble_eq_true rfl, Nat.le_of_ble_eq_true rfl⟩ ⟨Nat.le_of_ble_eq_true rfl, Nat.le_of_ble_eq_true rfl⟩ dX8_init_128) rfl rfl (fun u H locs hT => ?_)
                refine W.eq (g2 := F0 m 131 ls [.ref q_22, .int 6, .ref q_5]) rfl ?_
                refine r_astm C hT (q0 := 9) (qk := 21) rfl rfl 6 rfl (by decide) (by decide) dX8_init_131 (fun H locs hT => ?_)
                have hT : Wd g A s [(a0, .inr (8, [.ref p1, .ref p5, .ref q_1, .ref q_8, .ref q_2, .ref q_3, .ref q_4, .ref q_5, .ref q_6, .ref q_7])), (q_1, .inr (2, [.ref q1_9, .int 0, .int 1, .int 0])), (q1_9, .inl (g.2.1 0, 2000, .inl (fun _ => 0))), (q_2, .inr (4, [.ref q1_20, .int 0, .int 0])), (q1_20, .inl (g.2.1 0, 2304, .inl (wFill (fun _ => 0) 256))), (q_3, .inr (4, [.ref q1_31, .int 0, .int 0])), (q1_31, .inl (g.2.1 0, 2304, .inl (wFill (fun _ => 0) 256))), (q_4, .inr (1, [.ref q1_42, .int 0])), (q1_42, .inl (g.2.1 0, 8448, .inl (cFill (fun _ => 0) 8448))), (q_5, .inl (g.2.1 3, 8, .inr (.inr (.inr (.inr (va_up (va_up (va_up (va_up (va_up (va_up (va_up (fun _ => none) 0 (some q_10)) 1 (some q_12)) 2 (some q_14)) 3 (some q_16)) 4 (some q_18)) 5 (some q_20)) 6 (some q_22))))))), (q_6, .inl (g.2.1 0, 8, .inl (fun _ => 0))), (q_7, .inl (g.2.1 0, 9, .inl (upd (fun _ => 0) 8 256))), (q_8, .inr (9, [.ref q1_89, .ref q2_89])), (q1_89, .inl (g.2.1 0, N, .inl (fillTo (fun _ => 0) 32768 N))), (q2_89, .inl (g.2.1 0, N, .inl (fun _ => 0))), (q_10, .inr (3, [.int 0, .int 0])), (q_12, .inr (3, [.int 0, .int 0])), (q_14, .inr (3, [.int 0, .int 0])), (q_16, .inr (3, [.int 0, .int 0])), (q_18, .inr (3, [.int 0, .int 0])), (q_20, .inr (3, [.int 0, .int 0])), (q_22, .inr (3, [.int 0, .int 0]))] H locs := hT
                refine lv_iinc (v := 7) (lv' := [(4, .int 7), (0, .ref a0), (1, .int (nI rr)), (2, .ref p1), (3, .ref p5)]) hx hb dX8_init_132 hl (k := 0) rfl rfl (by decide) rfl (fun ls hl => ?_)
                refine lv_goto (tgt := 108) hx hb dX8_init_135 (by decide) ?_
                refine lv_iload hx hb dX8_init_108 (lv_at hl 0 rfl) ?_
                refine lv_aload_n hx hb dX8_init_110 rfl (lv_at hl 1 rfl) ?_
                refine gX8_37 C hT (q0 := 0) rfl dX8_init_111 ?_
                refine r_alen C hT (q0 := 9) 3 rfl rfl dX8_init_114 ?_
                refine W.eq (g2 := F0 m 115 ls [.int (nI 8), .int 7]) rfl ?_
                refine lv_icmp_ge (tgt := 138) hx hb dX8_init_115 (by decide) (fun h_23 => ?_) (fun h_23 => ?_)
                · skip
                  exact absurd h_23 (by decide)
                · skip
                  refine lv_aload_n hx hb dX8_init_118 rfl (lv_at hl 1 rfl) ?_
                  refine gX8_37 C hT (q0 := 0) rfl dX8_init_119 ?_
                  refine lv_iload hx hb dX8_init_122 (lv_at hl 0 rfl) ?_
                  refine r_new C hT (ci := 3) (fs := [.int 0, .int 0]) rfl inX3 tyX3 tyX3_ok k155 k176 k12 dfX3 (Nat.le_of_ble_eq_true rfl) (Nat.le_of_ble_eq_true rfl) dX8_init_124 (fun q_24 H hT => ?_)
                  have hT : Wd g A s [(a0, .inr (8, [.ref p1, .ref p5, .ref q_1, .ref q_8, .ref q_2, .ref q_3, .ref q_4, .ref q_5, .ref q_6, .ref q_7])), (q_1, .inr (2, [.ref q1_9, .int 0, .int 1, .int 0])), (q1_9, .inl (g.2.1 0, 2000, .inl (fun _ => 0))), (q_2, .inr (4, [.ref q1_20, .int 0, .int 0])), (q1_20, .inl (g.2.1 0, 2304, .inl (wFill (fun _ => 0) 256))), (q_3, .inr (4, [.ref q1_31, .int 0, .int 0])), (q1_31, .inl (g.2.1 0, 2304, .inl (wFill (fun _ => 0) 256))), (q_4, .inr (1, [.ref q1_42, .int 0])), (q1_42, .inl (g.2.1 0, 8448, .inl (cFill (fun _ => 0) 8448))), (q_5, .inl (g.2.1 3, 8, .inr (.inr (.inr (.inr (va_up (va_up (va_up (va_up (va_up (va_up (va_up (fun _ => none) 0 (some q_10)) 1 (some q_12)) 2 (some q_14)) 3 (some q_16)) 4 (some q_18)) 5 (some q_20)) 6 (some q_22))))))), (q_6, .inl (g.2.1 0, 8, .inl (fun _ => 0))), (q_7, .inl (g.2.1 0, 9, .inl (upd (fun _ => 0) 8 256))), (q_8, .inr (9, [.ref q1_89, .ref q2_89])), (q1_89, .inl (g.2.1 0, N, .inl (fillTo (fun _ => 0) 32768 N))), (q2_89, .inl (g.2.1 0, N, .inl (fun _ => 0))), (q_10, .inr (3, [.int 0, .int 0])), (q_12, .inr (3, [.int 0, .int 0])), (q_14, .inr (3, [.int 0, .int 0])), (q_16, .inr (3, [.int 0, .int 0])), (q_18, .inr (3, [.int 0, .int 0])), (q_20, .inr (3, [.int 0, .int 0])), (q_22, .inr (3, [.int 0, .int 0])), (q_24, .inr (3, [.int 0, .int 0]))] H locs := hT
                  refine W.widen (k := 22) (n := 23303) (Nat.le_of_ble_eq_true rfl) (Nat.le_of_ble_eq_true rfl) ?_
                  refine lv_dup hx hb dX8_init_127 rfl ?_
                  have hM := c_X3_init l g q_24
                  refine r_callRO (js := [22]) C hT (runIN (host := "ContextMix") (js := [22]) (rm := ({ frames := 1, cells := 0, slots := 0, locals := 12 } : Room)) (As := []) (n := 0) (rest := [.ref q_24, .int 7, .ref q_5]) C hT hM rfl rfl (List.mem_of_getElem? (i := 2) rfl) k178 k12 k179 rfl (by decide +kernel) rfl rfl (Nat.le_of_ble_eq_true rfl) hl.1 ⟨Nat.le_of_ble_eq_true rfl, Nat.le_of_ble_eq_true rfl⟩ ⟨Nat.le_of_ble_eq_true rfl, Nat.le_of_ble_eq_true rfl⟩ dX8_init_128) rfl rfl (fun u H locs hT => ?_)
                  refine W.eq (g2 := F0 m 131 ls [.ref q_24, .int 7, .ref q_5]) rfl ?_
                  refine r_astm C hT (q0 := 9) (qk := 22) rfl rfl 7 rfl (by decide) (by decide) dX8_init_131 (fun H locs hT => ?_)
                  have hT : Wd g A s [(a0, .inr (8, [.ref p1, .ref p5, .ref q_1, .ref q_8, .ref q_2, .ref q_3, .ref q_4, .ref q_5, .ref q_6, .ref q_7])), (q_1, .inr (2, [.ref q1_9, .int 0, .int 1, .int 0])), (q1_9, .inl (g.2.1 0, 2000, .inl (fun _ => 0))), (q_2, .inr (4, [.ref q1_20, .int 0, .int 0])), (q1_20, .inl (g.2.1 0, 2304, .inl (wFill (fun _ => 0) 256))), (q_3, .inr (4, [.ref q1_31, .int 0, .int 0])), (q1_31, .inl (g.2.1 0, 2304, .inl (wFill (fun _ => 0) 256))), (q_4, .inr (1, [.ref q1_42, .int 0])), (q1_42, .inl (g.2.1 0, 8448, .inl (cFill (fun _ => 0) 8448))), (q_5, .inl (g.2.1 3, 8, .inr (.inr (.inr (.inr (va_up (va_up (va_up (va_up (va_up (va_up (va_up (va_up (fun _ => none) 0 (some q_10)) 1 (some q_12)) 2 (some q_14)) 3 (some q_16)) 4 (some q_18)) 5 (some q_20)) 6 (some q_22)) 7 (some q_24))))))), (q_6, .inl (g.2.1 0, 8, .inl (fun _ => 0))), (q_7, .inl (g.2.1 0, 9, .inl (upd (fun _ => 0) 8 256))), (q_8, .inr (9, [.ref q1_89, .ref q2_89])), (q1_89, .inl (g.2.1 0, N, .inl (fillTo (fun _ => 0) 32768 N))), (q2_89, .inl (g.2.1 0, N, .inl (fun _ => 0))), (q_10, .inr (3, [.int 0, .int 0])), (q_12, .inr (3, [.int 0, .int 0])), (q_14, .inr (3, [.int 0, .int 0])), (q_16, .inr (3, [.int 0, .int 0])), (q_18, .inr (3, [.int 0, .int 0])), (q_20, .inr (3, [.int 0, .int 0])), (q_22, .inr (3, [.int 0, .int 0])), (q_24, .inr (3, [.int 0, .int 0]))] H locs := hT
                  refine lv_iinc (v := 8) (lv' := [(4, .int 8), (0, .ref a0), (1, .int (nI rr)), (2, .ref p1), (3, .ref p5)]) hx hb dX8_init_132 hl (k := 0) rfl rfl (by decide) rfl (fun ls hl => ?_)
                  refine lv_goto (tgt := 108) hx hb dX8_init_135 (by decide) ?_
                  refine lv_iload hx hb dX8_init_108 (lv_at hl 0 rfl) ?_
                  refine lv_aload_n hx hb dX8_init_110 rfl (lv_at hl 1 rfl) ?_
                  refine gX8_37 C hT (q0 := 0) rfl dX8_init_111 ?_
                  refine r_alen C hT (q0 := 9) 3 rfl rfl dX8_init_114 ?_
                  refine W.eq (g2 := F0 m 115 ls [.int (nI 8), .int 8]) rfl ?_
                  refine lv_icmp_ge (tgt := 138) hx hb dX8_init_115 (by decide) (fun h_25 => ?_) (fun h_25 => ?_)
                  · skip
                    have hT : Wd g A s [(a0, .inr (8, [.ref p1, .ref p5, .ref q_1, .ref q_8, .ref q_2, .ref q_3, .ref q_4, .ref q_5, .ref q_6, .ref q_7])), (q_1, .inr (2, [.ref q1_9, .int 0, .int 1, .int 0])), (q1_9, .inl (g.2.1 0, 2000, .inl (fun _ => 0))), (q_8, .inr (9, [.ref q1_89, .ref q2_89])), (q1_89, .inl (g.2.1 0, N, .inl (fillTo (fun _ => 0) 32768 N))), (q2_89, .inl (g.2.1 0, N, .inl (fun _ => 0))), (q_2, .inr (4, [.ref q1_20, .int 0, .int 0])), (q1_20, .inl (g.2.1 0, 2304, .inl (wFill (fun _ => 0) 256))), (q_3, .inr (4, [.ref q1_31, .int 0, .int 0])), (q1_31, .inl (g.2.1 0, 2304, .inl (wFill (fun _ => 0) 256))), (q_4, .inr (1, [.ref q1_42, .int 0])), (q1_42, .inl (g.2.1 0, 8448, .inl (cFill (fun _ => 0) 8448))), (q_5, .inl (g.2.1 3, 8, .inr (.inr (.inr (.inr (mtF q_10 q_12 q_14 q_16 q_18 q_20 q_22 q_24)))))), (q_10, .inr (3, [.int 0, .int 0])), (q_12, .inr (3, [.int 0, .int 0])), (q_14, .inr (3, [.int 0, .int 0])), (q_16, .inr (3, [.int 0, .int 0])), (q_18, .inr (3, [.int 0, .int 0])), (q_20, .inr (3, [.int 0, .int 0])), (q_22, .inr (3, [.int 0, .int 0])), (q_24, .inr (3, [.int 0, .int 0])), (q_6, .inl (g.2.1 0, 8, .inl (fun _ => 0))), (q_7, .inl (g.2.1 0, 9, .inl (upd (fun _ => 0) 8 256)))] H locs := hT.pk (js := [0, 1, 2, 12, 13, 14, 3, 4, 5, 6, 7, 8, 9, 15, 16, 17, 18, 19, 20, 21, 22, 10, 11]) rfl rfl
                    exact e_vret C hQ ⟨(q_1, q1_9, q_8, q1_89, q2_89, q_2, q1_20, q_3, q1_31, q_4, q1_42, q_5, q_10, q_12, q_14, q_16, q_18, q_20, q_22, q_24, q_6, q_7), True.intro⟩ hT rfl dX8_init_138
                  · skip
                    exact absurd (by decide) h_25
