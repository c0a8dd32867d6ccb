set_option maxHeartbeats 400000 in
set_option maxRecDepth 100000 in
theorem c_X1_has (l : Launch) (g : GT) (nd : Int32) (j : Int32) : OM (S := Unit) l g yX1_has cX1_has 2 (some .boolean) ({ frames := 0, cells := 0, slots := 0, locals := 0 } : Room) [.int nd, .int j] [] (fun _ => some (.int (b01 (cellB nd j)))) (fun _ => []) := by
  refine OM.startQ (by decide) (Nat.le_of_ble_eq_true rfl) ?_
  intro p e s m below meth c A ls Q H locs hQ C hnm hl hT
  have hx := C.x
  have hb := C.b
  have hl : lv_has ls 2 [(0, .int nd), (1, .int j)] := hl
  refine lv_iload_n hx hb dX1_has_0 rfl (lv_at hl 0 rfl) ?_
  refine lv_if_lt (tgt := 25) hx hb dX1_has_1 (by decide) (fun h_1 => ?_) (fun h_1 => ?_)
  · skip
    refine lv_iconst (v := 0) hx hb dX1_has_25 (by decide) ?_
    exact e_zret C hQ () hT (by simp [b01, cellB, h_1]) (by decide) dX1_has_26
  · skip
    refine lv_iload_n hx hb dX1_has_4 rfl (lv_at hl 0 rfl) ?_
    refine lv_sipush (v := 256) hx hb dX1_has_5 (by decide) ?_
    refine lv_icmp_ge (tgt := 25) hx hb dX1_has_8 (by decide) (fun h_2 => ?_) (fun h_2 => ?_)
    · skip
      refine lv_iconst (v := 0) hx hb dX1_has_25 (by decide) ?_
      exact e_zret C hQ () hT (by simp [b01, cellB, h_1, h_2]) (by decide) dX1_has_26
    · skip
      refine lv_iload_n hx hb dX1_has_11 rfl (lv_at hl 1 rfl) ?_
      refine lv_if_lt (tgt := 25) hx hb dX1_has_12 (by decide) (fun h_3 => ?_) (fun h_3 => ?_)
      · skip
        refine lv_iconst (v := 0) hx hb dX1_has_25 (by decide) ?_
        exact e_zret C hQ () hT (by simp [b01, cellB, h_1, h_2, h_3]) (by decide) dX1_has_26
      · skip
        refine lv_iload_n hx hb dX1_has_15 rfl (lv_at hl 1 rfl) ?_
        refine lv_bipush (v := 33) hx hb dX1_has_16 (by decide) ?_
        refine lv_icmp_ge (tgt := 25) hx hb dX1_has_18 (by decide) (fun h_4 => ?_) (fun h_4 => ?_)
        · skip
          refine lv_iconst (v := 0) hx hb dX1_has_25 (by decide) ?_
          exact e_zret C hQ () hT (by simp [b01, cellB, h_1, h_2, h_3, h_4]) (by decide) dX1_has_26
        · skip
          refine lv_iconst (v := 1) hx hb dX1_has_21 (by decide) ?_
          refine lv_goto (tgt := 26) hx hb dX1_has_22 (by decide) ?_
          exact e_zret C hQ () hT (by simp [b01, cellB, h_1, h_2, h_3, h_4]) (by decide) dX1_has_26

set_option maxHeartbeats 400000 in
set_option maxRecDepth 100000 in
theorem c_X1_cellAt (l : Launch) (g : GT) (a0 : Nat) (ac : Nat) (nr : Int32) (f : Nat → Int32) (k : Nat) (t : Nat) (hk : k < 256) (ht : t < 33) : OM (S := Unit) l g yX1_cellAt cX1_cellAt 3 (some .int) ({ frames := 1, cells := 0, slots := 0, locals := 21 } : Room) [.ref a0, .int (nI k), .int (nI t)] [(a0, .inr (1, [.ref ac, .int nr])), (ac, .inl (g.2.1 0, 8448, .inl f))] (fun _ => some (.int (f (33 * k + t)))) (fun _ => [(a0, .inr (1, [.ref ac, .int nr])), (ac, .inl (g.2.1 0, 8448, .inl f))]) := by
  refine OM.startQ (by decide) (Nat.le_of_ble_eq_true rfl) ?_
  intro p e s m below meth c A ls Q H locs hQ C hnm hl hT
  have hx := C.x
  have hb := C.b
  have hl : lv_has ls 3 [(0, .ref a0), (1, .int (nI k)), (2, .int (nI t))] := hl
  refine lv_iload_n hx hb dX1_cellAt_0 rfl (lv_at hl 1 rfl) ?_
  refine lv_iload_n hx hb dX1_cellAt_1 rfl (lv_at hl 2 rfl) ?_
  have hM := c_X1_has l g (nI k) (nI t)
  refine r_call0 (js := []) C hT (runS (js := []) (rm := ({ frames := 0, cells := 0, slots := 0, locals := 0 } : Room)) (As := [.int (nI k), .int (nI t)]) (n := 2) (rest := []) C hT hM rfl rfl k428 k429 k9 k430 (by decide +kernel) rfl rfl (Nat.le_of_ble_eq_true rfl) hl.1 ⟨Nat.le_of_ble_eq_true rfl, Nat.le_of_ble_eq_true rfl⟩ ⟨Nat.le_of_ble_eq_true rfl, Nat.le_of_ble_eq_true rfl⟩ dX1_cellAt_2) rfl rfl (fun _ => rfl) (fun u H locs hT => ?_)
  have hT : Wd g A s [(a0, .inr (1, [.ref ac, .int nr])), (ac, .inl (g.2.1 0, 8448, .inl f))] H locs := hT
  refine W.eq (g2 := F0 m 5 ls [.int (b01 (cellB (nI k) (nI t)))]) rfl ?_
  refine lv_if_eq (tgt := 22) hx hb dX1_cellAt_5 (by decide) (fun h_1 => ?_) (fun h_1 => ?_)
  · skip
    exact absurd (b01_f h_1) (by rw [cellB_nI hk ht]; decide)
  · skip
    refine lv_aload_n hx hb dX1_cellAt_8 rfl (lv_at hl 0 rfl) ?_
    refine gX1_9 C hT (q0 := 0) rfl dX1_cellAt_9 ?_
    refine lv_iload_n hx hb dX1_cellAt_12 rfl (lv_at hl 1 rfl) ?_
    refine lv_bipush (v := 33) hx hb dX1_cellAt_13 (by decide) ?_
    refine lv_imul hx hb dX1_cellAt_15 ?_
    refine W.eq (g2 := F0 m 16 ls [.int (nI (k * 33)), .ref ac]) (congrArg (fun z => F0 m 16 ls (.int z :: [.ref ac])) (pk_mul k 33)) ?_
    refine lv_iload_n hx hb dX1_cellAt_16 rfl (lv_at hl 2 rfl) ?_
    refine lv_iadd hx hb dX1_cellAt_17 ?_
    refine W.eq (g2 := F0 m 18 ls [.int (nI (33 * k + t)), .ref ac]) (congrArg (fun z => F0 m 18 ls (.int z :: [.ref ac])) ((nI_add (k * 33) t).trans (by rw [Nat.mul_comm]))) ?_
    refine r_iald C hT (q0 := 1) rfl (33 * k + t) rfl (by omega) (by decide) dX1_cellAt_18 ?_
    refine lv_goto (tgt := 23) hx hb dX1_cellAt_19 (by decide) ?_
    exact e_iret C hQ () hT rfl dX1_cellAt_23

set_option maxHeartbeats 400000 in
set_option maxRecDepth 100000 in
theorem c_X1_correct (l : Launch) (g : GT) (a0 : Nat) (ac : Nat) (nr : Int32) (f : Nat → Int32) (k : Nat) (st : Int32) (t : Nat) (hk : k < 256) (ht : t < 4096) (hst : st + 2048 = nI t) : OM (S := Unit) l g yX1_correct cX1_correct 6 (some .int) ({ frames := 2, cells := 0, slots := 0, locals := 45 } : Room) [.ref a0, .int (nI k), .int st] [(a0, .inr (1, [.ref ac, .int nr])), (ac, .inl (g.2.1 0, 8448, .inl f))] (fun _ => some (.int (corrI f k t))) (fun _ => [(a0, .inr (1, [.ref ac, .int (nI (nearN k t))])), (ac, .inl (g.2.1 0, 8448, .inl f))]) := by
  refine OM.startQ (by decide) (Nat.le_of_ble_eq_true rfl) ?_
  intro p e s m below meth c A ls Q H locs hQ C hnm hl hT
  have hx := C.x
  have hb := C.b
  have hl : lv_has ls 6 [(0, .ref a0), (1, .int (nI k)), (2, .int st)] := hl
  refine lv_iload_n hx hb dX1_correct_0 rfl (lv_at hl 2 rfl) ?_
  refine lv_sipush (v := 2048) hx hb dX1_correct_1 (by decide) ?_
  refine lv_iadd hx hb dX1_correct_4 ?_
  refine W.eq (g2 := F0 m 5 ls [.int (nI t)]) (congrArg (fun z => F0 m 5 ls (.int z :: [])) (hst)) ?_
  refine lv_istore_n (lv' := [(3, .int (nI t)), (0, .ref a0), (1, .int (nI k)), (2, .int st)]) hx hb dX1_correct_5 rfl hl (by decide) rfl (fun ls hl => ?_)
  refine lv_iload_n hx hb dX1_correct_6 rfl (lv_at hl 0 rfl) ?_
  refine lv_bipush (v := 7) hx hb dX1_correct_7 (by decide) ?_
  refine lv_ishr hx hb dX1_correct_9 ?_
  refine W.eq (g2 := F0 m 10 ls [.int (nI (t / 128))]) (congrArg (fun z => F0 m 10 ls (.int z :: [])) (pk_shrN (by omega) _ 7 (by decide))) ?_
  refine lv_istore (lv' := [(4, .int (nI (t / 128))), (3, .int (nI t)), (0, .ref a0), (1, .int (nI k)), (2, .int st)]) hx hb dX1_correct_10 hl (by decide) rfl (fun ls hl => ?_)
  refine lv_iload_n hx hb dX1_correct_12 rfl (lv_at hl 1 rfl) ?_
  refine lv_bipush (v := 127) hx hb dX1_correct_13 (by decide) ?_
  refine lv_iand hx hb dX1_correct_15 ?_
  refine W.eq (g2 := F0 m 16 ls [.int (nI (t % 128))]) (congrArg (fun z => F0 m 16 ls (.int z :: [])) (pk_andN (by omega) 7 (by decide))) ?_
  refine lv_istore (lv' := [(5, .int (nI (t % 128))), (4, .int (nI (t / 128))), (3, .int (nI t)), (0, .ref a0), (1, .int (nI k)), (2, .int st)]) hx hb dX1_correct_16 hl (by decide) rfl (fun ls hl => ?_)
  refine lv_aload_n hx hb dX1_correct_18 rfl (lv_at hl 3 rfl) ?_
  refine lv_iload_n hx hb dX1_correct_19 rfl (lv_at hl 4 rfl) ?_
  refine lv_bipush (v := 33) hx hb dX1_correct_20 (by decide) ?_
  refine lv_imul hx hb dX1_correct_22 ?_
  refine W.eq (g2 := F0 m 23 ls [.int (nI (k * 33)), .ref a0]) (congrArg (fun z => F0 m 23 ls (.int z :: [.ref a0])) (pk_mul k 33)) ?_
  refine lv_iload hx hb dX1_correct_23 (lv_at hl 0 rfl) ?_
  refine lv_bipush (v := 64) hx hb dX1_correct_25 (by decide) ?_
  refine r_ite (ls := ls) (J := 39) (a1 := nI (t / 128)) (a2 := nI (t / 128 + 1)) (rest := [.int (nI (k * 33)), .ref a0]) (lv_icmp_lt (tgt := 37) hx hb dX1_correct_27 (by decide)) (fun h_1 kont => ?_) (fun h_1 kont => ?_) ?_
  · skip
    refine lv_iload hx hb dX1_correct_37 (lv_at hl 1 rfl) ?_
    exact kont
  · skip
    refine lv_iload hx hb dX1_correct_30 (lv_at hl 1 rfl) ?_
    refine lv_iconst (v := 1) hx hb dX1_correct_32 (by decide) ?_
    refine lv_iadd hx hb dX1_correct_33 ?_
    refine W.eq (g2 := F0 m 34 ls [.int (nI (t / 128 + 1)), .int (nI (k * 33)), .ref a0]) (congrArg (fun z => F0 m 34 ls (.int z :: [.int (nI (k * 33)), .ref a0])) (nI_1 _)) ?_
    refine lv_goto (tgt := 39) hx hb dX1_correct_34 (by decide) ?_
    exact kont
  refine W.eq (g2 := F0 m 39 ls [.int (nI (if 64 ≤ t % 128 then t / 128 + 1 else t / 128)), .int (nI (k * 33)), .ref a0]) (congrArg (fun z => F0 m 39 ls (.int z :: [.int (nI (k * 33)), .ref a0])) (near_if t)) ?_
  refine lv_iadd hx hb dX1_correct_39 ?_
  refine W.eq (g2 := F0 m 40 ls [.int (nI (nearN k t)), .ref a0]) (congrArg (fun z => F0 m 40 ls (.int z :: [.ref a0])) (near_add k t)) ?_
  refine lv_iconst (v := 0) hx hb dX1_correct_40 (by decide) ?_
  refine lv_aload_n hx hb dX1_correct_41 rfl (lv_at hl 3 rfl) ?_
  refine gX1_9 C hT (q0 := 0) rfl dX1_correct_42 ?_
  refine r_alen C hT (q0 := 1) 0 rfl rfl dX1_correct_45 ?_
  refine W.eq (g2 := F0 m 46 ls [.int (nI 8448), .int 0, .int (nI (nearN k t)), .ref a0]) rfl ?_
  refine lv_iconst (v := 1) hx hb dX1_correct_46 (by decide) ?_
  refine lv_isub hx hb dX1_correct_47 ?_
  refine W.eq (g2 := F0 m 48 ls [.int 8447, .int 0, .int (nI (nearN k t)), .ref a0]) (congrArg (fun z => F0 m 48 ls (.int z :: [.int 0, .int (nI (nearN k t)), .ref a0])) (rfl)) ?_
  have hM := c_X5_bound l g (nI (nearN k t)) 0 8447
  refine r_call0 (js := []) C hT (runS (js := []) (rm := ({ frames := 1, cells := 0, slots := 0, locals := 23 } : Room)) (As := [.int (nI (nearN k t)), .int 0, .int 8447]) (n := 3) (rest := [.ref a0]) C hT hM rfl rfl k423 k31 k2 k32 (by decide +kernel) rfl rfl (Nat.le_of_ble_eq_true rfl) hl.1 ⟨Nat.le_of_ble_eq_true rfl, Nat.le_of_ble_eq_true rfl⟩ ⟨Nat.le_of_ble_eq_true rfl, Nat.le_of_ble_eq_true rfl⟩ dX1_correct_48) rfl rfl (fun _ => rfl) (fun u H locs hT => ?_)
  have hT : Wd g A s [(a0, .inr (1, [.ref ac, .int nr])), (ac, .inl (g.2.1 0, 8448, .inl f))] H locs := hT
  refine W.eq (g2 := F0 m 51 ls [.int (boundI (nI (nearN k t)) 0 8447), .ref a0]) rfl ?_
  refine W.eq (g2 := F0 m 51 ls [.int (nI (nearN k t)), .ref a0]) (congrArg (fun z => F0 m 51 ls (.int z :: [.ref a0])) (boundI_id (a := 0) (b := 8447) (by omega) (near_lt hk ht) (by decide))) ?_
  refine pX1_37 C hT (q0 := 0) rfl dX1_correct_51 (fun H locs hT => ?_)
  have hT : Wd g A s [(a0, .inr (1, [.ref ac, .int (nI (nearN k t))])), (ac, .inl (g.2.1 0, 8448, .inl f))] H locs := hT
  refine lv_aload_n hx hb dX1_correct_54 rfl (lv_at hl 3 rfl) ?_
  refine lv_iload_n hx hb dX1_correct_55 rfl (lv_at hl 4 rfl) ?_
  refine lv_iload hx hb dX1_correct_56 (lv_at hl 1 rfl) ?_
  have hM := c_X1_cellAt l g a0 ac (nI (nearN k t)) f k (t / 128) (by first | assumption | omega) (by omega)
  refine r_call0 (js := [0, 1]) C hT (runV (js := [0, 1]) (rm := ({ frames := 1, cells := 0, slots := 0, locals := 21 } : Room)) (As := [.int (nI k), .int (nI (t / 128))]) (n := 2) (q1 := 0) (rest := []) C hT hM rfl rfl k424 k425 k426 k9 k427 (by decide +kernel) rfl rfl rfl rfl (Nat.le_of_ble_eq_true rfl) hl.1 ⟨Nat.le_of_ble_eq_true rfl, Nat.le_of_ble_eq_true rfl⟩ ⟨Nat.le_of_ble_eq_true rfl, Nat.le_of_ble_eq_true rfl⟩ dX1_correct_58) rfl rfl (fun _ => rfl) (fun u H locs hT => ?_)
  have hT : Wd g A s [(a0, .inr (1, [.ref ac, .int (nI (nearN k t))])), (ac, .inl (g.2.1 0, 8448, .inl f))] H locs := hT
  refine W.eq (g2 := F0 m 61 ls [.int (f (33 * k + (t / 128)))]) rfl ?_
  refine lv_sipush (v := 128) hx hb dX1_correct_61 (by decide) ?_
  refine lv_iload hx hb dX1_correct_64 (lv_at hl 0 rfl) ?_
  refine lv_isub hx hb dX1_correct_66 ?_
  refine lv_imul hx hb dX1_correct_67 ?_
  refine lv_aload_n hx hb dX1_correct_68 rfl (lv_at hl 3 rfl) ?_
  refine lv_iload_n hx hb dX1_correct_69 rfl (lv_at hl 4 rfl) ?_
  refine lv_iload hx hb dX1_correct_70 (lv_at hl 1 rfl) ?_
  refine lv_iconst (v := 1) hx hb dX1_correct_72 (by decide) ?_
  refine lv_iadd hx hb dX1_correct_73 ?_
  refine W.eq (g2 := F0 m 74 ls [.int (nI (t / 128 + 1)), .int (nI k), .ref a0, .int ((f (33 * k + (t / 128))) * (128 - (nI (t % 128))))]) (congrArg (fun z => F0 m 74 ls (.int z :: [.int (nI k), .ref a0, .int ((f (33 * k + (t / 128))) * (128 - (nI (t % 128))))])) (nI_1 _)) ?_
  have hM := c_X1_cellAt l g a0 ac (nI (nearN k t)) f k (t / 128 + 1) (by first | assumption | omega) (by omega)
  refine r_call0 (js := [0, 1]) C hT (runV (js := [0, 1]) (rm := ({ frames := 1, cells := 0, slots := 0, locals := 21 } : Room)) (As := [.int (nI k), .int (nI (t / 128 + 1))]) (n := 2) (q1 := 0) (rest := [.int ((f (33 * k + (t / 128))) * (128 - (nI (t % 128))))]) C hT hM rfl rfl k424 k425 k426 k9 k427 (by decide +kernel) rfl rfl rfl rfl (Nat.le_of_ble_eq_true rfl) hl.1 ⟨Nat.le_of_ble_eq_true rfl, Nat.le_of_ble_eq_true rfl⟩ ⟨Nat.le_of_ble_eq_true rfl, Nat.le_of_ble_eq_true rfl⟩ dX1_correct_74) rfl rfl (fun _ => rfl) (fun u H locs hT => ?_)
  have hT : Wd g A s [(a0, .inr (1, [.ref ac, .int (nI (nearN k t))])), (ac, .inl (g.2.1 0, 8448, .inl f))] H locs := hT
  refine W.eq (g2 := F0 m 77 ls [.int (f (33 * k + (t / 128 + 1))), .int ((f (33 * k + (t / 128))) * (128 - (nI (t % 128))))]) rfl ?_
  refine lv_iload hx hb dX1_correct_77 (lv_at hl 0 rfl) ?_
  refine lv_imul hx hb dX1_correct_79 ?_
  refine lv_iadd hx hb dX1_correct_80 ?_
  refine lv_bipush (v := 11) hx hb dX1_correct_81 (by decide) ?_
  refine lv_ishr hx hb dX1_correct_83 ?_
  exact e_iret C hQ () hT (by rfl) dX1_correct_84

set_option maxHeartbeats 400000 in
set_option maxRecDepth 100000 in
theorem c_X1_learn (l : Launch) (g : GT) (a0 : Nat) (ac : Nat) (f : Nat → Int32) (q : Nat) (on : Int32) (hq : q < 8448) : OM (S := Unit) l g yX1_learn cX1_learn 2 none ({ frames := 0, cells := 0, slots := 0, locals := 0 } : Room) [.ref a0, .int on] [(a0, .inr (1, [.ref ac, .int (nI q)])), (ac, .inl (g.2.1 0, 8448, .inl f))] (fun _ => none) (fun _ => [(a0, .inr (1, [.ref ac, .int (nI q)])), (ac, .inl (g.2.1 0, 8448, .inl (upd f q (cellUp on (f q)))))]) := by
  refine OM.startQ (by decide) (Nat.le_of_ble_eq_true rfl) ?_
  intro p e s m below meth c A ls Q H locs hQ C hnm hl hT
  have hx := C.x
  have hb := C.b
  have hl : lv_has ls 2 [(0, .ref a0), (1, .int on)] := hl
  refine lv_aload_n hx hb dX1_learn_0 rfl (lv_at hl 0 rfl) ?_
  refine gX1_9 C hT (q0 := 0) rfl dX1_learn_1 ?_
  refine lv_aload_n hx hb dX1_learn_4 rfl (lv_at hl 0 rfl) ?_
  refine gX1_37 C hT (q0 := 0) rfl dX1_learn_5 ?_
  refine lv_dup2_11 hx hb dX1_learn_8 rfl rfl ?_
  refine r_iald C hT (q0 := 1) rfl q rfl (by omega) (by decide) dX1_learn_9 ?_
  refine lv_iload_n hx hb dX1_learn_10 rfl (lv_at hl 1 rfl) ?_
  refine r_ite (ls := ls) (J := 20) (a1 := 0) (a2 := 65535) (rest := [.int (f q), .int (nI q), .ref ac]) (lv_if_eq (tgt := 19) hx hb dX1_learn_11 (by decide)) (fun h_1 kont => ?_) (fun h_1 kont => ?_) ?_
  · skip
    refine lv_iconst (v := 0) hx hb dX1_learn_19 (by decide) ?_
    exact kont
  · skip
    refine lv_ldc (v := 65535) hx hb C.ow (C.ts _ k472) dX1_learn_14 ?_
    refine lv_goto (tgt := 20) hx hb dX1_learn_16 (by decide) ?_
    exact kont
  refine lv_aload_n hx hb dX1_learn_20 rfl (lv_at hl 0 rfl) ?_
  refine gX1_9 C hT (q0 := 0) rfl dX1_learn_21 ?_
  refine lv_aload_n hx hb dX1_learn_24 rfl (lv_at hl 0 rfl) ?_
  refine gX1_37 C hT (q0 := 0) rfl dX1_learn_25 ?_
  refine r_iald C hT (q0 := 1) rfl q rfl (by omega) (by decide) dX1_learn_28 ?_
  refine lv_isub hx hb dX1_learn_29 ?_
  refine lv_bipush (v := 7) hx hb dX1_learn_30 (by decide) ?_
  refine lv_ishr hx hb dX1_learn_32 ?_
  refine lv_iadd hx hb dX1_learn_33 ?_
  refine lv_topi (fun x_2 ex_2 => ?_)
  refine r_iast C hT (q0 := 1) rfl q rfl (by omega) (by decide) dX1_learn_34 (fun H locs hT => ?_)
  have hT : Wd g A s [(a0, .inr (1, [.ref ac, .int (nI q)])), (ac, .inl (g.2.1 0, 8448, .inl (upd f q x_2)))] H locs := hT
  exact e_vret C hQ () (by subst ex_2; exact hT) rfl dX1_learn_35

set_option maxHeartbeats 400000 in
set_option maxRecDepth 100000 in
theorem c_X4_weightAt (l : Launch) (g : GT) (a0 : Nat) (aw : Nat) (ro : Int32) (to : Int32) (f : Nat → Int32) (k : Nat) (t : Nat) (hk : k < 256) (ht : t < 9) : OM (S := Unit) l g yX4_weightAt cX4_weightAt 3 (some .int) ({ frames := 2, cells := 0, slots := 0, locals := 45 } : Room) [.ref a0, .int (nI k), .int (nI t)] [(a0, .inr (4, [.ref aw, .int ro, .int to])), (aw, .inl (g.2.1 0, 2304, .inl f))] (fun _ => some (.int (f (9 * k + t)))) (fun _ => [(a0, .inr (4, [.ref aw, .int ro, .int to])), (aw, .inl (g.2.1 0, 2304, .inl f))]) := by
  refine OM.startQ (by decide) (Nat.le_of_ble_eq_true rfl) ?_
  intro p e s m below meth c A ls Q H locs hQ C hnm hl hT
  have hx := C.x
  have hb := C.b
  have hl : lv_has ls 3 [(0, .ref a0), (1, .int (nI k)), (2, .int (nI t))] := hl
  refine lv_aload_n hx hb dX4_weightAt_0 rfl (lv_at hl 0 rfl) ?_
  refine gX4_11 C hT (q0 := 0) rfl dX4_weightAt_1 ?_
  refine lv_iload_n hx hb dX4_weightAt_4 rfl (lv_at hl 1 rfl) ?_
  refine lv_iconst (v := 0) hx hb dX4_weightAt_5 (by decide) ?_
  refine lv_sipush (v := 255) hx hb dX4_weightAt_6 (by decide) ?_
  have hM := c_X5_bound l g (nI k) 0 255
  refine r_call0 (js := []) C hT (runS (js := []) (rm := ({ frames := 1, cells := 0, slots := 0, locals := 23 } : Room)) (As := [.int (nI k), .int 0, .int 255]) (n := 3) (rest := [.ref aw]) C hT hM rfl rfl k408 k31 k2 k32 (by decide +kernel) rfl rfl (Nat.le_of_ble_eq_true rfl) hl.1 ⟨Nat.le_of_ble_eq_true rfl, Nat.le_of_ble_eq_true rfl⟩ ⟨Nat.le_of_ble_eq_true rfl, Nat.le_of_ble_eq_true rfl⟩ dX4_weightAt_9) rfl rfl (fun _ => rfl) (fun u H locs hT => ?_)
  have hT : Wd g A s [(a0, .inr (4, [.ref aw, .int ro, .int to])), (aw, .inl (g.2.1 0, 2304, .inl f))] H locs := hT
  refine W.eq (g2 := F0 m 12 ls [.int (boundI (nI k) 0 255), .ref aw]) rfl ?_
  refine W.eq (g2 := F0 m 12 ls [.int (nI k), .ref aw]) (congrArg (fun z => F0 m 12 ls (.int z :: [.ref aw])) (boundI_id (a := 0) (b := 255) (by omega) (by omega) (by decide))) ?_
  refine lv_bipush (v := 9) hx hb dX4_weightAt_12 (by decide) ?_
  refine lv_imul hx hb dX4_weightAt_14 ?_
  refine W.eq (g2 := F0 m 15 ls [.int (nI (k * 9)), .ref aw]) (congrArg (fun z => F0 m 15 ls (.int z :: [.ref aw])) (pk_mul k 9)) ?_
  refine lv_iload_n hx hb dX4_weightAt_15 rfl (lv_at hl 2 rfl) ?_
  refine lv_iconst (v := 0) hx hb dX4_weightAt_16 (by decide) ?_
  refine lv_bipush (v := 8) hx hb dX4_weightAt_17 (by decide) ?_
  have hM := c_X5_bound l g (nI t) 0 8
  refine r_call0 (js := []) C hT (runS (js := []) (rm := ({ frames := 1, cells := 0, slots := 0, locals := 23 } : Room)) (As := [.int (nI t), .int 0, .int 8]) (n := 3) (rest := [.int (nI (k * 9)), .ref aw]) C hT hM rfl rfl k408 k31 k2 k32 (by decide +kernel) rfl rfl (Nat.le_of_ble_eq_true rfl) hl.1 ⟨Nat.le_of_ble_eq_true rfl, Nat.le_of_ble_eq_true rfl⟩ ⟨Nat.le_of_ble_eq_true rfl, Nat.le_of_ble_eq_true rfl⟩ dX4_weightAt_19) rfl rfl (fun _ => rfl) (fun u H locs hT => ?_)
  have hT : Wd g A s [(a0, .inr (4, [.ref aw, .int ro, .int to])), (aw, .inl (g.2.1 0, 2304, .inl f))] H locs := hT
  refine W.eq (g2 := F0 m 22 ls [.int (boundI (nI t) 0 8), .int (nI (k * 9)), .ref aw]) rfl ?_
  refine W.eq (g2 := F0 m 22 ls [.int (nI t), .int (nI (k * 9)), .ref aw]) (congrArg (fun z => F0 m 22 ls (.int z :: [.int (nI (k * 9)), .ref aw])) (boundI_id (a := 0) (b := 8) (by omega) (by omega) (by decide))) ?_
  refine lv_iadd hx hb dX4_weightAt_22 ?_
  refine W.eq (g2 := F0 m 23 ls [.int (nI (9 * k + t)), .ref aw]) (congrArg (fun z => F0 m 23 ls (.int z :: [.ref aw])) ((nI_add (k * 9) t).trans (by rw [Nat.mul_comm]))) ?_
  refine r_iald C hT (q0 := 1) rfl (9 * k + t) rfl (by omega) (by decide) dX4_weightAt_23 ?_
  exact e_iret C hQ () hT rfl dX4_weightAt_24

set_option maxHeartbeats 400000 in
set_option maxRecDepth 100000 in
theorem c_X4_tell (l : Launch) (g : GT) (a0 : Nat) (aw : Nat) (ro : Int32) (to : Int32) (f : Nat → Int32) (ai : Nat) (x : Nat → Int32) (k : Nat) (hk : k < 256) : OM (S := Unit) l g yX4_tell cX4_tell 7 (some .int) ({ frames := 2, cells := 0, slots := 0, locals := 45 } : Room) [.ref a0, .int (nI k), .ref ai] [(a0, .inr (4, [.ref aw, .int ro, .int to])), (aw, .inl (g.2.1 0, 2304, .inl f)), (ai, .inl (g.2.1 0, 9, .inl x))] (fun _ => some (.int (toldI f x (9 * k)))) (fun _ => [(a0, .inr (4, [.ref aw, .int (nI (9 * k)), .int (toldI f x (9 * k))])), (aw, .inl (g.2.1 0, 2304, .inl f)), (ai, .inl (g.2.1 0, 9, .inl x))]) := by
  refine OM.startQ (by decide) (Nat.le_of_ble_eq_true rfl) ?_
  intro p e s m below meth c A ls Q H locs hQ C hnm hl hT
  have hx := C.x
  have hb := C.b
  have hl : lv_has ls 7 [(0, .ref a0), (1, .int (nI k)), (2, .ref ai)] := hl
  refine lv_aload_n hx hb dX4_tell_0 rfl (lv_at hl 0 rfl) ?_
  refine lv_iload_n hx hb dX4_tell_1 rfl (lv_at hl 1 rfl) ?_
  refine lv_iconst (v := 0) hx hb dX4_tell_2 (by decide) ?_
  refine lv_sipush (v := 255) hx hb dX4_tell_3 (by decide) ?_
  have hM := c_X5_bound l g (nI k) 0 255
  refine r_call0 (js := []) C hT (runS (js := []) (rm := ({ frames := 1, cells := 0, slots := 0, locals := 23 } : Room)) (As := [.int (nI k), .int 0, .int 255]) (n := 3) (rest := [.ref a0]) C hT hM rfl rfl k408 k31 k2 k32 (by decide +kernel) rfl rfl (Nat.le_of_ble_eq_true rfl) hl.1 ⟨Nat.le_of_ble_eq_true rfl, Nat.le_of_ble_eq_true rfl⟩ ⟨Nat.le_of_ble_eq_true rfl, Nat.le_of_ble_eq_true rfl⟩ dX4_tell_6) rfl rfl (fun _ => rfl) (fun u H locs hT => ?_)
  have hT : Wd g A s [(a0, .inr (4, [.ref aw, .int ro, .int to])), (aw, .inl (g.2.1 0, 2304, .inl f)), (ai, .inl (g.2.1 0, 9, .inl x))] H locs := hT
  refine W.eq (g2 := F0 m 9 ls [.int (boundI (nI k) 0 255), .ref a0]) rfl ?_
  refine W.eq (g2 := F0 m 9 ls [.int (nI k), .ref a0]) (congrArg (fun z => F0 m 9 ls (.int z :: [.ref a0])) (boundI_id (a := 0) (b := 255) (by omega) (by omega) (by decide))) ?_
  refine lv_bipush (v := 9) hx hb dX4_tell_9 (by decide) ?_
  refine lv_imul hx hb dX4_tell_11 ?_
  refine W.eq (g2 := F0 m 12 ls [.int (nI (9 * k)), .ref a0]) (congrArg (fun z => F0 m 12 ls (.int z :: [.ref a0])) ((pk_mul k 9).trans (by rw [Nat.mul_comm]))) ?_
  refine pX4_30 C hT (q0 := 0) rfl dX4_tell_12 (fun H locs hT => ?_)
  have hT : Wd g A s [(a0, .inr (4, [.ref aw, .int (nI (9 * k)), .int to])), (aw, .inl (g.2.1 0, 2304, .inl f)), (ai, .inl (g.2.1 0, 9, .inl x))] H locs := hT
  refine lv_lconst (v := 0) hx hb dX4_tell_15 (by decide) ?_
  refine lv_lstore_n (lv' := [(3, .long 0), (0, .ref a0), (1, .int (nI k)), (2, .ref ai)]) hx hb dX4_tell_16 rfl hl (by decide) rfl (fun ls hl => ?_)
  refine lv_iconst (v := 0) hx hb dX4_tell_17 (by decide) ?_
  refine lv_istore (lv' := [(5, .int 0), (3, .long 0), (0, .ref a0), (1, .int (nI k)), (2, .ref ai)]) hx hb dX4_tell_18 hl (by decide) rfl (fun ls hl => ?_)
  have loop_20 : ∀ (fu : Nat) (i : Nat) (x5 : Int32) (s3 : Int64) (H : Heap) (locs : List Loc) (ls : Array Slot) (hi : i ≤ 9) (ex5 : x5 = nI i) (es3 : s3 = dotI f x (9 * k) i), 9 - i < fu → Wd g A s [(a0, .inr (4, [.ref aw, .int (nI (9 * k)), .int to])), (aw, .inl (g.2.1 0, 2304, .inl f)), (ai, .inl (g.2.1 0, 9, .inl x))] H locs → lv_has ls 7 [(0, .ref a0), (1, .int (nI k)), (2, .ref ai), (3, .long s3), (5, .int x5)] → W p l e ({ frames := 2, cells := 0, slots := 0, locals := 45 } : Room) s m ([.ref a0, .int (nI k), .ref ai] : List Value).toArray below meth c H locs 0 0 Q (F0 m 20 ls []) := by
    intro fu
    induction fu with
    | zero => intro i x5 s3 H locs ls hi ex5 es3 hm; exact absurd hm (Nat.not_lt_zero _)
    | succ fu ih =>
      intro i x5 s3 H locs ls hi ex5 es3 hm hT hl
      refine lv_iload hx hb dX4_tell_20 (lv_at hl 4 rfl) ?_
      refine lv_bipush (v := 9) hx hb dX4_tell_22 (by decide) ?_
      refine lv_icmp_ge (tgt := 62) hx hb dX4_tell_24 (by decide) (fun h_1 => ?_) (fun h_1 => ?_)
      · skip
        have hin := lp_end (n := 9) ex5 (by decide) hi h_1
        refine lv_ldc2 (v := (-2047)) hx hb C.ow (C.ts _ k409) dX4_tell_62 ?_
        refine lv_ldc2 (v := 2047) hx hb C.ow (C.ts _ k410) dX4_tell_65 ?_
        refine lv_lload_n hx hb dX4_tell_68 rfl (lv_at hl 3 rfl) ?_
        refine lv_bipush (v := 16) hx hb dX4_tell_69 (by decide) ?_
        refine lv_lshr hx hb dX4_tell_71 rfl ?_
        refine r_mminl C hl.1 k411 (Nat.le_of_ble_eq_true rfl) (Nat.le_of_ble_eq_true rfl) (Nat.le_of_ble_eq_true rfl) (Nat.le_of_ble_eq_true rfl) dX4_tell_72 ?_
        refine r_mmaxl C hl.1 k414 (Nat.le_of_ble_eq_true rfl) (Nat.le_of_ble_eq_true rfl) (Nat.le_of_ble_eq_true rfl) (Nat.le_of_ble_eq_true rfl) dX4_tell_75 ?_
        refine W.eq (g2 := F0 m 78 ls [.long (clampL (dotI f x (9 * k) 9 >>> ((16 : Int32).toInt64 &&& 63)))]) (congrArg (fun z => F0 m 78 ls (.long z :: [])) ((by rw [es3, hin]; rfl))) ?_
        refine lv_lstore (lv' := [(5, .long (clampL (dotI f x (9 * k) 9 >>> ((16 : Int32).toInt64 &&& 63)))), (0, .ref a0), (1, .int (nI k)), (2, .ref ai), (3, .long s3)]) hx hb dX4_tell_78 hl (by decide) rfl (fun ls hl => ?_)
        refine lv_aload_n hx hb dX4_tell_80 rfl (lv_at hl 1 rfl) ?_
        refine lv_lload hx hb dX4_tell_81 (lv_at hl 0 rfl) ?_
        refine lv_l2i hx hb dX4_tell_83 rfl ?_
        have hM := c_X5_squashed l g ((clampL (dotI f x (9 * k) 9 >>> ((16 : Int32).toInt64 &&& 63)) : Int64).toInt32)
        refine r_call0 (js := []) C hT (runS (js := []) (rm := ({ frames := 0, cells := 0, slots := 0, locals := 0 } : Room)) (As := [.int ((clampL (dotI f x (9 * k) 9 >>> ((16 : Int32).toInt64 &&& 63)) : Int64).toInt32)]) (n := 1) (rest := [.ref a0]) C hT hM rfl rfl k417 k46 k2 k47 (by decide +kernel) rfl rfl (Nat.le_of_ble_eq_true rfl) hl.1 ⟨Nat.le_of_ble_eq_true rfl, Nat.le_of_ble_eq_true rfl⟩ ⟨Nat.le_of_ble_eq_true rfl, Nat.le_of_ble_eq_true rfl⟩ dX4_tell_84) rfl rfl (fun _ => rfl) (fun u H locs hT => ?_)
        have hT : Wd g A s [(a0, .inr (4, [.ref aw, .int (nI (9 * k)), .int to])), (aw, .inl (g.2.1 0, 2304, .inl f)), (ai, .inl (g.2.1 0, 9, .inl x))] H locs := hT
        refine W.eq (g2 := F0 m 87 ls [.int (sqI ((clampL (dotI f x (9 * k) 9 >>> ((16 : Int32).toInt64 &&& 63)) : Int64).toInt32)), .ref a0]) rfl ?_
        refine W.eq (g2 := F0 m 87 ls [.int (toldI f x (9 * k)), .ref a0]) (congrArg (fun z => F0 m 87 ls (.int z :: [.ref a0])) ((by simp only [toldI]))) ?_
        refine pX4_51 C hT (q0 := 0) rfl dX4_tell_87 (fun H locs hT => ?_)
        have hT : Wd g A s [(a0, .inr (4, [.ref aw, .int (nI (9 * k)), .int (toldI f x (9 * k))])), (aw, .inl (g.2.1 0, 2304, .inl f)), (ai, .inl (g.2.1 0, 9, .inl x))] H locs := hT
        refine lv_aload_n hx hb dX4_tell_90 rfl (lv_at hl 1 rfl) ?_
        refine gX4_51 C hT (q0 := 0) rfl dX4_tell_91 ?_
        exact e_iret C hQ () hT rfl dX4_tell_94
      · skip
        have hin := lp_go (n := 9) ex5 (by decide) hi h_1
        refine lv_iload hx hb dX4_tell_27 (lv_at hl 4 rfl) ?_
        refine lv_aload_n hx hb dX4_tell_29 rfl (lv_at hl 2 rfl) ?_
        refine r_alen C hT (q0 := 2) 0 rfl rfl dX4_tell_30 ?_
        refine W.eq (g2 := F0 m 31 ls [.int (nI 9), .int x5]) rfl ?_
        refine lv_icmp_ge (tgt := 62) hx hb dX4_tell_31 (by decide) (fun h_2 => ?_) (fun h_2 => ?_)
        · skip
          exact absurd h_2 (by rw [ex5]; exact nI_ge hin (by decide))
        · skip
          refine lv_lload_n hx hb dX4_tell_34 rfl (lv_at hl 3 rfl) ?_
          refine lv_aload_n hx hb dX4_tell_35 rfl (lv_at hl 0 rfl) ?_
          refine gX4_11 C hT (q0 := 0) rfl dX4_tell_36 ?_
          refine lv_aload_n hx hb dX4_tell_39 rfl (lv_at hl 0 rfl) ?_
          refine gX4_30 C hT (q0 := 0) rfl dX4_tell_40 ?_
          refine lv_iload hx hb dX4_tell_43 (lv_at hl 4 rfl) ?_
          refine lv_iadd hx hb dX4_tell_45 ?_
          refine W.eq (g2 := F0 m 46 ls [.int (nI (9 * k + i)), .ref aw, .long s3]) (congrArg (fun z => F0 m 46 ls (.int z :: [.ref aw, .long s3])) ((by rw [ex5]; exact nI_add _ _))) ?_
          refine r_iald C hT (q0 := 1) rfl (9 * k + i) rfl (by omega) (by decide) dX4_tell_46 ?_
          refine lv_i2l hx hb dX4_tell_47 rfl ?_
          refine lv_aload_n hx hb dX4_tell_48 rfl (lv_at hl 2 rfl) ?_
          refine lv_iload hx hb dX4_tell_49 (lv_at hl 4 rfl) ?_
          refine r_iald C hT (q0 := 2) rfl i ex5 hin (by decide) dX4_tell_51 ?_
          refine lv_i2l hx hb dX4_tell_52 rfl ?_
          refine lv_lmul hx hb dX4_tell_53 ?_
          refine lv_ladd hx hb dX4_tell_54 ?_
          refine lv_topl (fun x_3 ex_3 => ?_)
          refine lv_lstore_n (lv' := [(3, .long x_3), (0, .ref a0), (1, .int (nI k)), (2, .ref ai), (5, .int x5)]) hx hb dX4_tell_55 rfl hl (by decide) rfl (fun ls hl => ?_)
          obtain ⟨x_4, ex_4⟩ : ∃ y : Int32, y = x5 + 1 := ⟨_, rfl⟩
          refine lv_iinc (v := x_4) (lv' := [(5, .int x_4), (3, .long x_3), (0, .ref a0), (1, .int (nI k)), (2, .ref ai)]) hx hb dX4_tell_56 hl (k := 4) rfl (by rw [ex_4]; rfl) (by decide) rfl (fun ls hl => ?_)
          refine lv_goto (tgt := 20) hx hb dX4_tell_59 (by decide) ?_
          exact ih (i + 1) x_4 x_3 H locs ls (by first | assumption | omega | rfl) (by rw [ex_4, ex5]; exact nI_1 i) (by rw [ex_3, es3]; rfl) (by omega) hT (lv_sub hl [2, 3, 4, 1, 0] rfl)
  exact loop_20 (9 - 0 + 1) 0 0 0 H locs ls (by first | assumption | omega | rfl) rfl rfl (Nat.lt_succ_self _) hT (lv_sub hl [2, 3, 4, 1, 0] rfl)

set_option maxHeartbeats 400000 in
set_option maxRecDepth 100000 in
theorem c_X4_learn (l : Launch) (g : GT) (a0 : Nat) (aw : Nat) (to : Int32) (f : Nat → Int32) (ai : Nat) (x : Nat → Int32) (k : Nat) (on : Int32) (hk : k < 256) : OM (S := Unit) l g yX4_learn cX4_learn 6 none ({ frames := 2, cells := 0, slots := 0, locals := 45 } : Room) [.ref a0, .int on, .ref ai] [(a0, .inr (4, [.ref aw, .int (nI (9 * k)), .int to])), (aw, .inl (g.2.1 0, 2304, .inl f)), (ai, .inl (g.2.1 0, 9, .inl x))] (fun _ => none) (fun _ => [(a0, .inr (4, [.ref aw, .int (nI (9 * k)), .int to])), (aw, .inl (g.2.1 0, 2304, .inl (wLearn f x (9 * k) (errI on to) 9))), (ai, .inl (g.2.1 0, 9, .inl x))]) := by
  refine OM.startQ (by decide) (Nat.le_of_ble_eq_true rfl) ?_
  intro p e s m below meth c A ls Q H locs hQ C hnm hl hT
  have hx := C.x
  have hb := C.b
  have hl : lv_has ls 6 [(0, .ref a0), (1, .int on), (2, .ref ai)] := hl
  refine lv_iload_n hx hb dX4_learn_0 rfl (lv_at hl 1 rfl) ?_
  refine r_ite (ls := ls) (J := 11) (a1 := 0) (a2 := 4095) (rest := []) (lv_if_eq (tgt := 10) hx hb dX4_learn_1 (by decide)) (fun h_1 kont => ?_) (fun h_1 kont => ?_) ?_
  · skip
    refine lv_iconst (v := 0) hx hb dX4_learn_10 (by decide) ?_
    exact kont
  · skip
    refine lv_sipush (v := 4095) hx hb dX4_learn_4 (by decide) ?_
    refine lv_goto (tgt := 11) hx hb dX4_learn_7 (by decide) ?_
    exact kont
  refine lv_aload_n hx hb dX4_learn_11 rfl (lv_at hl 0 rfl) ?_
  refine gX4_51 C hT (q0 := 0) rfl dX4_learn_12 ?_
  refine lv_isub hx hb dX4_learn_15 ?_
  refine lv_bipush (v := 7) hx hb dX4_learn_16 (by decide) ?_
  refine lv_imul hx hb dX4_learn_18 ?_
  refine W.eq (g2 := F0 m 19 ls [.int (errI on to)]) (congrArg (fun z => F0 m 19 ls (.int z :: [])) (rfl)) ?_
  refine lv_istore_n (lv' := [(3, .int (errI on to)), (0, .ref a0), (1, .int on), (2, .ref ai)]) hx hb dX4_learn_19 rfl hl (by decide) rfl (fun ls hl => ?_)
  refine lv_iconst (v := 0) hx hb dX4_learn_20 (by decide) ?_
  refine lv_istore (lv' := [(4, .int 0), (3, .int (errI on to)), (0, .ref a0), (1, .int on), (2, .ref ai)]) hx hb dX4_learn_21 hl (by decide) rfl (fun ls hl => ?_)
  have loop_23 : ∀ (fu : Nat) (i : Nat) (x4 : Int32) (f1 : Nat → Int32) (H : Heap) (locs : List Loc) (ls : Array Slot) (hi : i ≤ 9) (ex4 : x4 = nI i) (hf : f1 = wLearn f x (9 * k) (errI on to) i), 9 - i < fu → Wd g A s [(a0, .inr (4, [.ref aw, .int (nI (9 * k)), .int to])), (aw, .inl (g.2.1 0, 2304, .inl f1)), (ai, .inl (g.2.1 0, 9, .inl x))] H locs → lv_has ls 6 [(0, .ref a0), (1, .int on), (2, .ref ai), (3, .int (errI on to)), (4, .int x4)] → W p l e ({ frames := 2, cells := 0, slots := 0, locals := 45 } : Room) s m ([.ref a0, .int on, .ref ai] : List Value).toArray below meth c H locs 0 0 Q (F0 m 23 ls []) := by
    intro fu
    induction fu with
    | zero => intro i x4 f1 H locs ls hi ex4 hf hm; exact absurd hm (Nat.not_lt_zero _)
    | succ fu ih =>
      intro i x4 f1 H locs ls hi ex4 hf hm hT hl
      refine lv_iload hx hb dX4_learn_23 (lv_at hl 4 rfl) ?_
      refine lv_bipush (v := 9) hx hb dX4_learn_25 (by decide) ?_
      refine lv_icmp_ge (tgt := 91) hx hb dX4_learn_27 (by decide) (fun h_2 => ?_) (fun h_2 => ?_)
      · skip
        have hin := lp_end (n := 9) ex4 (by decide) hi h_2
        exact e_vret C hQ () (by rw [show wLearn f x (9 * k) (errI on to) 9 = f1 by rw [hf, hin]]; exact hT) rfl dX4_learn_91
      · skip
        have hin := lp_go (n := 9) ex4 (by decide) hi h_2
        refine lv_iload hx hb dX4_learn_30 (lv_at hl 4 rfl) ?_
        refine lv_aload_n hx hb dX4_learn_32 rfl (lv_at hl 2 rfl) ?_
        refine r_alen C hT (q0 := 2) 0 rfl rfl dX4_learn_33 ?_
        refine W.eq (g2 := F0 m 34 ls [.int (nI 9), .int x4]) rfl ?_
        refine lv_icmp_ge (tgt := 91) hx hb dX4_learn_34 (by decide) (fun h_3 => ?_) (fun h_3 => ?_)
        · skip
          exact absurd h_3 (by rw [ex4]; exact nI_ge hin (by decide))
        · skip
          refine lv_aload_n hx hb dX4_learn_37 rfl (lv_at hl 0 rfl) ?_
          refine gX4_11 C hT (q0 := 0) rfl dX4_learn_38 ?_
          refine lv_aload_n hx hb dX4_learn_41 rfl (lv_at hl 0 rfl) ?_
          refine gX4_30 C hT (q0 := 0) rfl dX4_learn_42 ?_
          refine lv_iload hx hb dX4_learn_45 (lv_at hl 4 rfl) ?_
          refine lv_iadd hx hb dX4_learn_47 ?_
          refine W.eq (g2 := F0 m 48 ls [.int (nI (9 * k + i)), .ref aw]) (congrArg (fun z => F0 m 48 ls (.int z :: [.ref aw])) ((by rw [ex4]; exact nI_add _ _))) ?_
          refine r_iald C hT (q0 := 1) rfl (9 * k + i) rfl (by omega) (by decide) dX4_learn_48 ?_
          refine lv_aload_n hx hb dX4_learn_49 rfl (lv_at hl 2 rfl) ?_
          refine lv_iload hx hb dX4_learn_50 (lv_at hl 4 rfl) ?_
          refine r_iald C hT (q0 := 2) rfl i ex4 hin (by decide) dX4_learn_52 ?_
          refine lv_iload_n hx hb dX4_learn_53 rfl (lv_at hl 3 rfl) ?_
          refine lv_imul hx hb dX4_learn_54 ?_
          refine lv_ldc (v := 32768) hx hb C.ow (C.ts _ k465) dX4_learn_55 ?_
          refine lv_iadd hx hb dX4_learn_57 ?_
          refine lv_bipush (v := 16) hx hb dX4_learn_58 (by decide) ?_
          refine lv_ishr hx hb dX4_learn_60 ?_
          refine lv_iadd hx hb dX4_learn_61 ?_
          refine lv_topi (fun x_4 ex_4 => ?_)
          refine lv_istore (lv' := [(5, .int x_4), (0, .ref a0), (1, .int on), (2, .ref ai), (3, .int (errI on to)), (4, .int x4)]) hx hb dX4_learn_62 hl (by decide) rfl (fun ls hl => ?_)
          refine lv_aload_n hx hb dX4_learn_64 rfl (lv_at hl 1 rfl) ?_
          refine gX4_11 C hT (q0 := 0) rfl dX4_learn_65 ?_
          refine lv_aload_n hx hb dX4_learn_68 rfl (lv_at hl 1 rfl) ?_
          refine gX4_30 C hT (q0 := 0) rfl dX4_learn_69 ?_
          refine lv_iload hx hb dX4_learn_72 (lv_at hl 5 rfl) ?_
          refine lv_iadd hx hb dX4_learn_74 ?_
          refine W.eq (g2 := F0 m 75 ls [.int (nI (9 * k + i)), .ref aw]) (congrArg (fun z => F0 m 75 ls (.int z :: [.ref aw])) ((by rw [ex4]; exact nI_add _ _))) ?_
          refine lv_iload hx hb dX4_learn_75 (lv_at hl 0 rfl) ?_
          refine lv_ldc (v := (-1000000)) hx hb C.ow (C.ts _ k466) dX4_learn_77 ?_
          refine lv_ldc (v := 1000000) hx hb C.ow (C.ts _ k467) dX4_learn_79 ?_
          have hM := c_X5_bound l g x_4 (-1000000) 1000000
          refine r_call0 (js := []) C hT (runS (js := []) (rm := ({ frames := 1, cells := 0, slots := 0, locals := 23 } : Room)) (As := [.int x_4, .int (-1000000), .int 1000000]) (n := 3) (rest := [.int (nI (9 * k + i)), .ref aw]) C hT hM rfl rfl k408 k31 k2 k32 (by decide +kernel) rfl rfl (Nat.le_of_ble_eq_true rfl) hl.1 ⟨Nat.le_of_ble_eq_true rfl, Nat.le_of_ble_eq_true rfl⟩ ⟨Nat.le_of_ble_eq_true rfl, Nat.le_of_ble_eq_true rfl⟩ dX4_learn_81) rfl rfl (fun _ => rfl) (fun u H locs hT => ?_)
          have hT : Wd g A s [(a0, .inr (4, [.ref aw, .int (nI (9 * k)), .int to])), (aw, .inl (g.2.1 0, 2304, .inl f1)), (ai, .inl (g.2.1 0, 9, .inl x))] H locs := hT
          refine W.eq (g2 := F0 m 84 ls [.int (boundI x_4 (-1000000) 1000000), .int (nI (9 * k + i)), .ref aw]) rfl ?_
          refine r_iast C hT (q0 := 1) rfl (9 * k + i) rfl (by omega) (by decide) dX4_learn_84 (fun H locs hT => ?_)
          have hT : Wd g A s [(a0, .inr (4, [.ref aw, .int (nI (9 * k)), .int to])), (aw, .inl (g.2.1 0, 2304, .inl (upd f1 (9 * k + i) (boundI x_4 (-1000000) 1000000)))), (ai, .inl (g.2.1 0, 9, .inl x))] H locs := hT
          obtain ⟨x_5, ex_5⟩ : ∃ y : Int32, y = x4 + 1 := ⟨_, rfl⟩
          refine lv_iinc (v := x_5) (lv' := [(4, .int x_5), (5, .int x_4), (0, .ref a0), (1, .int on), (2, .ref ai), (3, .int (errI on to))]) hx hb dX4_learn_85 hl (k := 5) rfl (by rw [ex_5]; rfl) (by decide) rfl (fun ls hl => ?_)
          refine lv_goto (tgt := 23) hx hb dX4_learn_88 (by decide) ?_
          exact ih (i + 1) x_5 (upd f1 (9 * k + i) (boundI x_4 (-1000000) 1000000)) H locs ls (by first | assumption | omega | rfl) (by rw [ex_5, ex4]; exact nI_1 i) (by rw [hf]; exact wLearn_s (by rw [ex_4, hf]; simp only [growI])) (by omega) hT (lv_sub hl [2, 3, 4, 5, 0] rfl)
  exact loop_23 (9 - 0 + 1) 0 0 f H locs ls (by first | assumption | omega | rfl) rfl rfl (Nat.lt_succ_self _) hT (lv_sub hl [2, 3, 4, 1, 0] rfl)

set_option maxHeartbeats 400000 in
set_option maxRecDepth 100000 in
theorem c_X4_fill (l : Launch) (g : GT) (aw : Nat) (f : Nat → Int32) : OM (S := Unit) l g yX4_fill cX4_fill 2 none ({ frames := 1, cells := 0, slots := 0, locals := 23 } : Room) [.ref aw] [(aw, .inl (g.2.1 0, 2304, .inl f))] (fun _ => none) (fun _ => [(aw, .inl (g.2.1 0, 2304, .inl (wFill f 256)))]) := by
  refine OM.startQ (by decide) (Nat.le_of_ble_eq_true rfl) ?_
  intro p e s m below meth c A ls Q H locs hQ C hnm hl hT
  have hx := C.x
  have hb := C.b
  have hl : lv_has ls 2 [(0, .ref aw)] := hl
  refine lv_aload_n hx hb dX4_fill_0 rfl (lv_at hl 0 rfl) ?_
  refine lv_sipush (v := 20000) hx hb dX4_fill_1 (by decide) ?_
  have hM := c_J7_fill_53178 l g aw 2304 f 20000 (by decide)
  refine r_call0 (js := [0]) C hT (runS (js := [0]) (rm := ({ frames := 0, cells := 0, slots := 0, locals := 0 } : Room)) (As := [.ref aw, .int 20000]) (n := 2) (rest := []) C hT hM rfl rfl k120 k121 k8 k122 (by decide +kernel) rfl rfl (Nat.le_of_ble_eq_true rfl) hl.1 ⟨Nat.le_of_ble_eq_true rfl, Nat.le_of_ble_eq_true rfl⟩ ⟨Nat.le_of_ble_eq_true rfl, Nat.le_of_ble_eq_true rfl⟩ dX4_fill_4) rfl rfl (fun _ => rfl) (fun u H locs hT => ?_)
  have hT : Wd g A s [(aw, .inl (g.2.1 0, 2304, .inl (fillTo f 20000 2304)))] H locs := hT
  refine W.eq (g2 := F0 m 7 ls []) rfl ?_
  refine lv_bipush (v := 8) hx hb dX4_fill_7 (by decide) ?_
  refine lv_istore_n (lv' := [(1, .int 8), (0, .ref aw)]) hx hb dX4_fill_9 rfl hl (by decide) rfl (fun ls hl => ?_)
  have loop_10 : ∀ (fu : Nat) (i : Nat) (x1 : Int32) (f1 : Nat → Int32) (H : Heap) (locs : List Loc) (ls : Array Slot) (hi : i ≤ 256) (ex1 : x1 = nI (8 + 9 * i)) (hf : f1 = wFill f i), 256 - i < fu → Wd g A s [(aw, .inl (g.2.1 0, 2304, .inl f1))] H locs → lv_has ls 2 [(0, .ref aw), (1, .int x1)] → W p l e ({ frames := 1, cells := 0, slots := 0, locals := 23 } : Room) s m ([.ref aw] : List Value).toArray below meth c H locs 0 0 Q (F0 m 10 ls []) := by
    intro fu
    induction fu with
    | zero => intro i x1 f1 H locs ls hi ex1 hf hm; exact absurd hm (Nat.not_lt_zero _)
    | succ fu ih =>
      intro i x1 f1 H locs ls hi ex1 hf hm hT hl
      refine lv_iload_n hx hb dX4_fill_10 rfl (lv_at hl 1 rfl) ?_
      refine lv_aload_n hx hb dX4_fill_11 rfl (lv_at hl 0 rfl) ?_
      refine r_alen C hT (q0 := 0) 0 rfl rfl dX4_fill_12 ?_
      refine W.eq (g2 := F0 m 13 ls [.int (nI 2304), .int x1]) rfl ?_
      refine lv_icmp_ge (tgt := 26) hx hb dX4_fill_13 (by decide) (fun h_1 => ?_) (fun h_1 => ?_)
      · skip
        have hin : i = 256 := lp9_end ex1 hi h_1
        exact e_vret C hQ () (by rw [show wFill f 256 = f1 by rw [hf, hin]]; exact hT) rfl dX4_fill_26
      · skip
        have hin : i < 256 := lp9_go ex1 hi h_1
        refine lv_aload_n hx hb dX4_fill_16 rfl (lv_at hl 0 rfl) ?_
        refine lv_iload_n hx hb dX4_fill_17 rfl (lv_at hl 1 rfl) ?_
        refine lv_iconst (v := 0) hx hb dX4_fill_18 (by decide) ?_
        refine r_iast C hT (q0 := 0) rfl (8 + 9 * i) ex1 (by omega) (by decide) dX4_fill_19 (fun H locs hT => ?_)
        have hT : Wd g A s [(aw, .inl (g.2.1 0, 2304, .inl (upd f1 (8 + 9 * i) 0)))] H locs := hT
        obtain ⟨x_2, ex_2⟩ : ∃ y : Int32, y = x1 + 9 := ⟨_, rfl⟩
        refine lv_iinc (v := x_2) (lv' := [(1, .int x_2), (0, .ref aw)]) hx hb dX4_fill_20 hl (k := 1) rfl (by rw [ex_2]; rfl) (by decide) rfl (fun ls hl => ?_)
        refine lv_goto (tgt := 10) hx hb dX4_fill_23 (by decide) ?_
        exact ih (i + 1) x_2 (upd f1 (8 + 9 * i) 0) H locs ls (by first | assumption | omega | rfl) (by rw [ex_2, ex1]; exact nI_add (8 + 9 * i) 9) (by rw [hf]; exact wFill_up f hin) (by omega) hT (lv_sub hl [1, 0] rfl)
  exact loop_10 (256 - 0 + 1) 0 8 (fillTo f 20000 2304) H locs ls (by first | assumption | omega | rfl) rfl (wFill_0 f) (Nat.lt_succ_self _) hT (lv_sub hl [1, 0] rfl)

set_option maxHeartbeats 400000 in
set_option maxRecDepth 100000 in
theorem c_X4_reset (l : Launch) (g : GT) (a0 : Nat) (aw : Nat) (ro : Int32) (to : Int32) (f : Nat → Int32) : OM (S := Unit) l g yX4_reset cX4_reset 1 none ({ frames := 2, cells := 0, slots := 0, locals := 44 } : Room) [.ref a0] [(a0, .inr (4, [.ref aw, .int ro, .int to])), (aw, .inl (g.2.1 0, 2304, .inl f))] (fun _ => none) (fun _ => [(a0, .inr (4, [.ref aw, .int ro, .int to])), (aw, .inl (g.2.1 0, 2304, .inl (wFill f 256)))]) := by
  refine OM.startQ (by decide) (Nat.le_of_ble_eq_true rfl) ?_
  intro p e s m below meth c A ls Q H locs hQ C hnm hl hT
  have hx := C.x
  have hb := C.b
  have hl : lv_has ls 1 [(0, .ref a0)] := hl
  refine lv_aload_n hx hb dX4_reset_0 rfl (lv_at hl 0 rfl) ?_
  refine gX4_11 C hT (q0 := 0) rfl dX4_reset_1 ?_
  have hM := c_X4_fill l g aw f
  refine r_call0 (js := [1]) C hT (runS (js := [1]) (rm := ({ frames := 1, cells := 0, slots := 0, locals := 23 } : Room)) (As := [.ref aw]) (n := 1) (rest := []) C hT hM rfl rfl k117 k118 k7 k119 (by decide +kernel) rfl rfl (Nat.le_of_ble_eq_true rfl) hl.1 ⟨Nat.le_of_ble_eq_true rfl, Nat.le_of_ble_eq_true rfl⟩ ⟨Nat.le_of_ble_eq_true rfl, Nat.le_of_ble_eq_true rfl⟩ dX4_reset_4) rfl rfl (fun _ => rfl) (fun u H locs hT => ?_)
  have hT : Wd g A s [(a0, .inr (4, [.ref aw, .int ro, .int to])), (aw, .inl (g.2.1 0, 2304, .inl (wFill f 256)))] H locs := hT
  refine W.eq (g2 := F0 m 7 ls []) rfl ?_
  exact e_vret C hQ () hT rfl dX4_reset_7
