set_option maxHeartbeats 400000 in
set_option maxRecDepth 100000 in
theorem c_X5_hash (l : Launch) (g : GT) (a : Int32) (b : Int32) : OM (S := Unit) l g yX5_hash cX5_hash 3 (some .int) ({ frames := 0, cells := 0, slots := 0, locals := 0 } : Room) [.int a, .int b] [] (fun _ => some (.int (hashI a b))) (fun _ => []) := by
  refine OM.startQ (by decide) (Nat.le_of_ble_eq_true rfl) ?_
  intro p e s m below meth c A ls Q H locs hQ C hnm hl hT
  have hx := C.x
  have hb := C.b
  have hl : lv_has ls 3 [(0, .int a), (1, .int b)] := hl
  refine lv_iload_n hx hb dX5_hash_0 rfl (lv_at hl 0 rfl) ?_
  refine lv_ldc (v := 625341585) hx hb C.ow (C.ts _ k338) dX5_hash_1 ?_
  refine lv_ixor hx hb dX5_hash_3 ?_
  refine lv_ldc (v := (-1640531535)) hx hb C.ow (C.ts _ k339) dX5_hash_4 ?_
  refine lv_imul hx hb dX5_hash_6 ?_
  refine lv_iload_n hx hb dX5_hash_7 rfl (lv_at hl 1 rfl) ?_
  refine lv_ldc (v := (-2048144789)) hx hb C.ow (C.ts _ k340) dX5_hash_8 ?_
  refine lv_imul hx hb dX5_hash_10 ?_
  refine lv_iadd hx hb dX5_hash_11 ?_
  refine lv_topi (fun x_1 ex_1 => ?_)
  refine lv_istore_n (lv' := [(2, .int x_1), (0, .int a), (1, .int b)]) hx hb dX5_hash_12 rfl hl (by decide) rfl (fun ls hl => ?_)
  refine lv_iload_n hx hb dX5_hash_13 rfl (lv_at hl 0 rfl) ?_
  refine lv_iload_n hx hb dX5_hash_14 rfl (lv_at hl 0 rfl) ?_
  refine lv_bipush (v := 15) hx hb dX5_hash_15 (by decide) ?_
  refine lv_iushr hx hb dX5_hash_17 rfl ?_
  refine lv_ixor hx hb dX5_hash_18 ?_
  exact e_iret C hQ () hT (by subst ex_1; rfl) dX5_hash_19

set_option maxHeartbeats 400000 in
set_option maxRecDepth 100000 in
theorem c_X5_bound (l : Launch) (g : GT) (v : Int32) (lo : Int32) (hi : Int32) : OM (S := Unit) l g yX5_bound cX5_bound 3 (some .int) ({ frames := 1, cells := 0, slots := 0, locals := 23 } : Room) [.int v, .int lo, .int hi] [] (fun _ => some (.int (boundI v lo hi))) (fun _ => []) := by
  refine OM.startQ (by decide) (Nat.le_of_ble_eq_true rfl) ?_
  intro p e s m below meth c A ls Q H locs hQ C hnm hl hT
  have hx := C.x
  have hb := C.b
  have hl : lv_has ls 3 [(0, .int v), (1, .int lo), (2, .int hi)] := hl
  refine lv_iload_n hx hb dX5_bound_0 rfl (lv_at hl 1 rfl) ?_
  refine lv_iload_n hx hb dX5_bound_1 rfl (lv_at hl 2 rfl) ?_
  refine lv_iload_n hx hb dX5_bound_2 rfl (lv_at hl 0 rfl) ?_
  refine r_mmin C hl.1 k33 (Nat.le_of_ble_eq_true rfl) (Nat.le_of_ble_eq_true rfl) (Nat.le_of_ble_eq_true rfl) (Nat.le_of_ble_eq_true rfl) dX5_bound_3 ?_
  refine r_mmax C hl.1 k36 (Nat.le_of_ble_eq_true rfl) (Nat.le_of_ble_eq_true rfl) (Nat.le_of_ble_eq_true rfl) (Nat.le_of_ble_eq_true rfl) dX5_bound_6 ?_
  exact e_iret C hQ () hT (by rfl) dX5_bound_9

set_option maxHeartbeats 400000 in
set_option maxRecDepth 100000 in
theorem c_X5_squashed (l : Launch) (g : GT) (d : Int32) : OM (S := Unit) l g yX5_squashed cX5_squashed 3 (some .int) ({ frames := 0, cells := 0, slots := 0, locals := 0 } : Room) [.int d] [] (fun _ => some (.int (sqI d))) (fun _ => []) := by
  refine OM.startQ (by decide) (Nat.le_of_ble_eq_true rfl) ?_
  intro p e s m below meth c A ls Q H locs hQ C hnm hl hT
  have hx := C.x
  have hb := C.b
  have hl : lv_has ls 3 [(0, .int d)] := hl
  refine lv_iload_n hx hb dX5_squashed_0 rfl (lv_at hl 0 rfl) ?_
  refine lv_sipush (v := 2047) hx hb dX5_squashed_1 (by decide) ?_
  refine lv_icmp_le (tgt := 11) hx hb dX5_squashed_4 (by decide) (fun h_1 => ?_) (fun h_1 => ?_)
  · skip
    have h_1 := i32_nlt h_1
    refine lv_iload_n hx hb dX5_squashed_11 rfl (lv_at hl 0 rfl) ?_
    refine lv_sipush (v := (-2047)) hx hb dX5_squashed_12 (by decide) ?_
    refine lv_icmp_ge (tgt := 20) hx hb dX5_squashed_15 (by decide) (fun h_2 => ?_) (fun h_2 => ?_)
    · skip
      have h_2 := i32_nlt h_2
      refine lv_iload_n hx hb dX5_squashed_20 rfl (lv_at hl 0 rfl) ?_
      refine lv_bipush (v := 7) hx hb dX5_squashed_21 (by decide) ?_
      refine lv_ishr hx hb dX5_squashed_23 ?_
      refine lv_bipush (v := 16) hx hb dX5_squashed_24 (by decide) ?_
      refine lv_iadd hx hb dX5_squashed_26 ?_
      refine lv_topi (fun x_3 ex_3 => ?_)
      refine lv_istore_n (lv' := [(1, .int x_3), (0, .int d)]) hx hb dX5_squashed_27 rfl hl (by decide) rfl (fun ls hl => ?_)
      refine lv_iload_n hx hb dX5_squashed_28 rfl (lv_at hl 1 rfl) ?_
      refine lv_bipush (v := 127) hx hb dX5_squashed_29 (by decide) ?_
      refine lv_iand hx hb dX5_squashed_31 ?_
      refine lv_topi (fun x_4 ex_4 => ?_)
      refine lv_istore_n (lv' := [(2, .int x_4), (1, .int x_3), (0, .int d)]) hx hb dX5_squashed_32 rfl hl (by decide) rfl (fun ls hl => ?_)
      refine gsX5 C hT dX5_squashed_33 ?_
      refine lv_iload_n hx hb dX5_squashed_36 rfl (lv_at hl 1 rfl) ?_
      refine tsX5 C hT (sqK d) (by rw [ex_3]; exact sqK_eq h_1 h_2) (by have := sqK_lt h_1 h_2; omega) dX5_squashed_37 ?_
      refine lv_sipush (v := 128) hx hb dX5_squashed_38 (by decide) ?_
      refine lv_iload_n hx hb dX5_squashed_41 rfl (lv_at hl 0 rfl) ?_
      refine lv_isub hx hb dX5_squashed_42 ?_
      refine lv_imul hx hb dX5_squashed_43 ?_
      refine gsX5 C hT dX5_squashed_44 ?_
      refine lv_iload_n hx hb dX5_squashed_47 rfl (lv_at hl 1 rfl) ?_
      refine lv_iconst (v := 1) hx hb dX5_squashed_48 (by decide) ?_
      refine lv_iadd hx hb dX5_squashed_49 ?_
      refine tsX5 C hT (sqK d + 1) (by rw [ex_3, sqK_eq h_1 h_2]; exact nI_1 _) (by have := sqK_lt h_1 h_2; omega) dX5_squashed_50 ?_
      refine lv_iload_n hx hb dX5_squashed_51 rfl (lv_at hl 0 rfl) ?_
      refine lv_imul hx hb dX5_squashed_52 ?_
      refine lv_iadd hx hb dX5_squashed_53 ?_
      refine lv_bipush (v := 64) hx hb dX5_squashed_54 (by decide) ?_
      refine lv_iadd hx hb dX5_squashed_56 ?_
      refine lv_bipush (v := 7) hx hb dX5_squashed_57 (by decide) ?_
      refine lv_ishr hx hb dX5_squashed_59 ?_
      exact e_iret C hQ () hT (by subst ex_3 ex_4; rw [sqI, if_neg h_1, if_neg h_2]) dX5_squashed_60
    · skip
      have h_2 := i32_ltn h_2
      refine lv_iconst (v := 0) hx hb dX5_squashed_18 (by decide) ?_
      exact e_iret C hQ () hT (by rw [sqI, if_neg h_1, if_pos h_2]) dX5_squashed_19
  · skip
    refine lv_sipush (v := 4095) hx hb dX5_squashed_7 (by decide) ?_
    exact e_iret C hQ () hT (by rw [sqI, if_pos (i32_ltn h_1)]) dX5_squashed_10

set_option maxHeartbeats 400000 in
set_option maxRecDepth 100000 in
theorem c_X5_stretched (l : Launch) (g : GT) (a0 : Nat) (as : Nat) (f : Nat → Int32) (k : Nat) (hk : k < 4096) : OM (S := Unit) l g yX5_stretched cX5_stretched 2 (some .int) ({ frames := 2, cells := 0, slots := 0, locals := 45 } : Room) [.ref a0, .int (nI k)] [(a0, .inr (5, [.ref as])), (as, .inl (g.2.1 0, 4096, .inl f))] (fun _ => some (.int (f k))) (fun _ => [(a0, .inr (5, [.ref as])), (as, .inl (g.2.1 0, 4096, .inl f))]) := by
  refine OM.startQ (by decide) (Nat.le_of_ble_eq_true rfl) ?_
  intro p e s m below meth c A ls Q H locs hQ C hnm hl hT
  have hx := C.x
  have hb := C.b
  have hl : lv_has ls 2 [(0, .ref a0), (1, .int (nI k))] := hl
  refine lv_aload_n hx hb dX5_stretched_0 rfl (lv_at hl 0 rfl) ?_
  refine gX5_7 C hT (q0 := 0) rfl dX5_stretched_1 ?_
  refine lv_iload_n hx hb dX5_stretched_4 rfl (lv_at hl 1 rfl) ?_
  refine lv_iconst (v := 0) hx hb dX5_stretched_5 (by decide) ?_
  refine lv_aload_n hx hb dX5_stretched_6 rfl (lv_at hl 0 rfl) ?_
  refine gX5_7 C hT (q0 := 0) rfl dX5_stretched_7 ?_
  refine r_alen C hT (q0 := 1) 0 rfl rfl dX5_stretched_10 ?_
  refine W.eq (g2 := F0 m 11 ls [.int (nI 4096), .int 0, .int (nI k), .ref as]) rfl ?_
  refine lv_iconst (v := 1) hx hb dX5_stretched_11 (by decide) ?_
  refine lv_isub hx hb dX5_stretched_12 ?_
  refine W.eq (g2 := F0 m 13 ls [.int 4095, .int 0, .int (nI k), .ref as]) (congrArg (fun z => F0 m 13 ls (.int z :: [.int 0, .int (nI k), .ref as])) (rfl)) ?_
  have hM := c_X5_bound l g (nI k) 0 4095
  refine r_call0 (js := []) C hT (runS (js := []) (rm := ({ frames := 1, cells := 0, slots := 0, locals := 23 } : Room)) (As := [.int (nI k), .int 0, .int 4095]) (n := 3) (rest := [.ref as]) C hT hM rfl rfl k403 k31 k2 k32 (by decide +kernel) rfl rfl (Nat.le_of_ble_eq_true rfl) hl.1 ⟨Nat.le_of_ble_eq_true rfl, Nat.le_of_ble_eq_true rfl⟩ ⟨Nat.le_of_ble_eq_true rfl, Nat.le_of_ble_eq_true rfl⟩ dX5_stretched_13) rfl rfl (fun _ => rfl) (fun u H locs hT => ?_)
  have hT : Wd g A s [(a0, .inr (5, [.ref as])), (as, .inl (g.2.1 0, 4096, .inl f))] H locs := hT
  refine W.eq (g2 := F0 m 16 ls [.int (boundI (nI k) 0 4095), .ref as]) rfl ?_
  refine W.eq (g2 := F0 m 16 ls [.int (nI k), .ref as]) (congrArg (fun z => F0 m 16 ls (.int z :: [.ref as])) (boundI_id (a := 0) (b := 4095) (by omega) (by omega) (by decide))) ?_
  refine r_iald C hT (q0 := 1) rfl k rfl (by omega) (by decide) dX5_stretched_16 ?_
  exact e_iret C hQ () hT rfl dX5_stretched_17

set_option maxHeartbeats 400000 in
set_option maxRecDepth 100000 in
theorem c_X5_same (l : Launch) (g : GT) (a : Nat) (b : Nat) (n : Nat) (f : Nat → Int32) (k : Nat → Int32) (hn : n < 2 ^ 31) : OM (S := Unit) l g yX5_same cX5_same 3 (some .boolean) ({ frames := 0, cells := 0, slots := 0, locals := 0 } : Room) [.ref a, .ref b] [(a, .inl (g.2.1 0, n, .inl f)), (b, .inl (g.2.1 0, n, .inl k))] (fun _ => some (.int (b01 (eqTo f k n)))) (fun _ => [(a, .inl (g.2.1 0, n, .inl f)), (b, .inl (g.2.1 0, n, .inl k))]) := by
  refine OM.startQ (by decide) (Nat.le_of_ble_eq_true rfl) ?_
  intro p e s m below meth c A ls Q H locs hQ C hnm hl hT
  have hx := C.x
  have hb := C.b
  have hl : lv_has ls 3 [(0, .ref a), (1, .ref b)] := hl
  refine lv_aload_n hx hb dX5_same_0 rfl (lv_at hl 0 rfl) ?_
  refine r_alen C hT (q0 := 0) 0 rfl rfl dX5_same_1 ?_
  refine W.eq (g2 := F0 m 2 ls [.int (nI n)]) rfl ?_
  refine lv_aload_n hx hb dX5_same_2 rfl (lv_at hl 1 rfl) ?_
  refine r_alen C hT (q0 := 1) 0 rfl rfl dX5_same_3 ?_
  refine W.eq (g2 := F0 m 4 ls [.int (nI n), .int (nI n)]) rfl ?_
  refine lv_icmp_eq (tgt := 9) hx hb dX5_same_4 (by decide) (fun h_1 => ?_) (fun h_1 => ?_)
  · skip
    refine lv_iconst (v := 0) hx hb dX5_same_9 (by decide) ?_
    refine lv_istore_n (lv' := [(2, .int 0), (0, .ref a), (1, .ref b)]) hx hb dX5_same_10 rfl hl (by decide) rfl (fun ls hl => ?_)
    have loop_11 : ∀ (fu : Nat) (i : Nat) (x2 : Int32) (H : Heap) (locs : List Loc) (ls : Array Slot) (hi : i ≤ n) (ex2 : x2 = nI i) (he : eqTo f k i = true), n - i < fu → Wd g A s [(a, .inl (g.2.1 0, n, .inl f)), (b, .inl (g.2.1 0, n, .inl k))] H locs → lv_has ls 3 [(0, .ref a), (1, .ref b), (2, .int x2)] → W p l e ({ frames := 0, cells := 0, slots := 0, locals := 0 } : Room) s m ([.ref a, .ref b] : List Value).toArray below meth c H locs 0 0 Q (F0 m 11 ls []) := by
      intro fu
      induction fu with
      | zero => intro i x2 H locs ls hi ex2 he hm; exact absurd hm (Nat.not_lt_zero _)
      | succ fu ih =>
        intro i x2 H locs ls hi ex2 he hm hT hl
        refine lv_iload_n hx hb dX5_same_11 rfl (lv_at hl 2 rfl) ?_
        refine lv_aload_n hx hb dX5_same_12 rfl (lv_at hl 0 rfl) ?_
        refine r_alen C hT (q0 := 0) 0 rfl rfl dX5_same_13 ?_
        refine W.eq (g2 := F0 m 14 ls [.int (nI n), .int x2]) rfl ?_
        refine lv_icmp_ge (tgt := 40) hx hb dX5_same_14 (by decide) (fun h_2 => ?_) (fun h_2 => ?_)
        · skip
          have hin : i = n := by rcases Nat.lt_or_ge i n with q | q; exact absurd (ex2 ▸ h_2) (nI_ge q hn); omega
          refine lv_iconst (v := 1) hx hb dX5_same_40 (by decide) ?_
          exact e_zret C hQ () hT (by rw [← hin, he]; rfl) (by decide) dX5_same_41
        · skip
          have hin : i < n := by rcases Nat.lt_or_ge i n with q | q; exact q; exact absurd (by rw [ex2]; exact nI_le q (by omega)) h_2
          refine lv_iload_n hx hb dX5_same_17 rfl (lv_at hl 2 rfl) ?_
          refine lv_aload_n hx hb dX5_same_18 rfl (lv_at hl 1 rfl) ?_
          refine r_alen C hT (q0 := 1) 0 rfl rfl dX5_same_19 ?_
          refine W.eq (g2 := F0 m 20 ls [.int (nI n), .int x2]) rfl ?_
          refine lv_icmp_ge (tgt := 40) hx hb dX5_same_20 (by decide) (fun h_3 => ?_) (fun h_3 => ?_)
          · skip
            exact absurd (ex2 ▸ h_3) (nI_ge hin hn)
          · skip
            refine lv_aload_n hx hb dX5_same_23 rfl (lv_at hl 0 rfl) ?_
            refine lv_iload_n hx hb dX5_same_24 rfl (lv_at hl 2 rfl) ?_
            refine r_iald C hT (q0 := 0) rfl i ex2 hin (by omega) dX5_same_25 ?_
            refine lv_aload_n hx hb dX5_same_26 rfl (lv_at hl 1 rfl) ?_
            refine lv_iload_n hx hb dX5_same_27 rfl (lv_at hl 2 rfl) ?_
            refine r_iald C hT (q0 := 1) rfl i ex2 hin (by omega) dX5_same_28 ?_
            refine lv_icmp_eq (tgt := 34) hx hb dX5_same_29 (by decide) (fun h_4 => ?_) (fun h_4 => ?_)
            · skip
              obtain ⟨x_5, ex_5⟩ : ∃ y : Int32, y = x2 + 1 := ⟨_, rfl⟩
              refine lv_iinc (v := x_5) (lv' := [(2, .int x_5), (0, .ref a), (1, .ref b)]) hx hb dX5_same_34 hl (k := 2) rfl (by rw [ex_5]; rfl) (by decide) rfl (fun ls hl => ?_)
              refine lv_goto (tgt := 11) hx hb dX5_same_37 (by decide) ?_
              exact ih (i + 1) x_5 H locs ls (by first | assumption | omega | rfl) (by rw [ex_5, ex2]; exact nI_1 i) (by rw [eqTo_iff]; exact eqTo_s he h_4) (by omega) hT (lv_sub hl [1, 2, 0] rfl)
            · skip
              refine lv_iconst (v := 0) hx hb dX5_same_32 (by decide) ?_
              exact e_zret C hQ () hT (by rw [eqTo_ne hin h_4]; rfl) (by decide) dX5_same_33
    exact loop_11 (n - 0 + 1) 0 0 H locs ls (by first | assumption | omega | rfl) (by first | assumption | omega | rfl) rfl (Nat.lt_succ_self _) hT (lv_sub hl [1, 2, 0] rfl)
  · skip
    exact absurd rfl h_1

set_option maxHeartbeats 400000 in
set_option maxRecDepth 100000 in
theorem c_X0_reset (l : Launch) (g : GT) (a0 : Nat) (lo : Int64) (hi : Int64) : OM (S := Unit) l g yX0_reset cX0_reset 1 none ({ frames := 0, cells := 0, slots := 0, locals := 0 } : Room) [.ref a0] [(a0, .inr (0, [.long lo, .long hi]))] (fun _ => none) (fun _ => [(a0, .inr (0, [.long 0, .long 4294967295]))]) := by
  refine OM.startQ (by decide) (Nat.le_of_ble_eq_true rfl) ?_
  intro p e s m below meth c A ls Q H locs hQ C hnm hl hT
  have hx := C.x
  have hb := C.b
  have hl : lv_has ls 1 [(0, .ref a0)] := hl
  refine lv_aload_n hx hb dX0_reset_0 rfl (lv_at hl 0 rfl) ?_
  refine lv_lconst (v := 0) hx hb dX0_reset_1 (by decide) ?_
  refine pX0_15 C hT (q0 := 0) rfl dX0_reset_2 (fun H locs hT => ?_)
  have hT : Wd g A s [(a0, .inr (0, [.long 0, .long hi]))] H locs := hT
  refine lv_aload_n hx hb dX0_reset_5 rfl (lv_at hl 0 rfl) ?_
  refine lv_ldc2 (v := 4294967295) hx hb C.ow (C.ts _ k245) dX0_reset_6 ?_
  refine pX0_11 C hT (q0 := 0) rfl dX0_reset_9 (fun H locs hT => ?_)
  have hT : Wd g A s [(a0, .inr (0, [.long 0, .long 4294967295]))] H locs := hT
  exact e_vret C hQ () hT rfl dX0_reset_12

set_option maxHeartbeats 400000 in
set_option maxRecDepth 100000 in
theorem c_X0_middle (l : Launch) (g : GT) (a0 : Nat) (lo : Int64) (hi : Int64) (ch : Int32) : OM (S := Unit) l g yX0_middle cX0_middle 2 (some .long) ({ frames := 0, cells := 0, slots := 0, locals := 0 } : Room) [.ref a0, .int ch] [(a0, .inr (0, [.long lo, .long hi]))] (fun _ => some (.long (lo + ((hi - lo) >>> ((12 : Int32).toInt64 &&& 63)) * ch.toInt64))) (fun _ => [(a0, .inr (0, [.long lo, .long hi]))]) := by
  refine OM.startQ (by decide) (Nat.le_of_ble_eq_true rfl) ?_
  intro p e s m below meth c A ls Q H locs hQ C hnm hl hT
  have hx := C.x
  have hb := C.b
  have hl : lv_has ls 2 [(0, .ref a0), (1, .int ch)] := hl
  refine lv_aload_n hx hb dX0_middle_0 rfl (lv_at hl 0 rfl) ?_
  refine gX0_15 C hT (q0 := 0) rfl dX0_middle_1 ?_
  refine lv_aload_n hx hb dX0_middle_4 rfl (lv_at hl 0 rfl) ?_
  refine gX0_11 C hT (q0 := 0) rfl dX0_middle_5 ?_
  refine lv_aload_n hx hb dX0_middle_8 rfl (lv_at hl 0 rfl) ?_
  refine gX0_15 C hT (q0 := 0) rfl dX0_middle_9 ?_
  refine lv_lsub hx hb dX0_middle_12 ?_
  refine lv_bipush (v := 12) hx hb dX0_middle_13 (by decide) ?_
  refine lv_lshr hx hb dX0_middle_15 rfl ?_
  refine lv_iload_n hx hb dX0_middle_16 rfl (lv_at hl 1 rfl) ?_
  refine lv_i2l hx hb dX0_middle_17 rfl ?_
  refine lv_lmul hx hb dX0_middle_18 ?_
  refine lv_ladd hx hb dX0_middle_19 ?_
  exact e_lret C hQ () hT (by rfl) dX0_middle_20

set_option maxHeartbeats 400000 in
set_option maxRecDepth 100000 in
theorem c_X0_narrow (l : Launch) (g : GT) (a0 : Nat) (lo : Int64) (hi : Int64) (on : Int32) (md : Int64) : OM (S := Unit) l g yX0_narrow cX0_narrow 4 none ({ frames := 0, cells := 0, slots := 0, locals := 0 } : Room) [.ref a0, .int on, .long md] [(a0, .inr (0, [.long lo, .long hi]))] (fun _ => none) (fun _ => [(a0, .inr (0, [.long (if on = 0 then md + 1 else lo), .long (if on = 0 then hi else md)]))]) := by
  refine OM.startQ (by decide) (Nat.le_of_ble_eq_true rfl) ?_
  intro p e s m below meth c A ls Q H locs hQ C hnm hl hT
  have hx := C.x
  have hb := C.b
  have hl : lv_has ls 4 [(0, .ref a0), (1, .int on), (2, .long md)] := hl
  refine lv_iload_n hx hb dX0_narrow_0 rfl (lv_at hl 1 rfl) ?_
  refine lv_if_eq (tgt := 12) hx hb dX0_narrow_1 (by decide) (fun h_1 => ?_) (fun h_1 => ?_)
  · skip
    refine lv_aload_n hx hb dX0_narrow_12 rfl (lv_at hl 0 rfl) ?_
    refine lv_lload_n hx hb dX0_narrow_13 rfl (lv_at hl 2 rfl) ?_
    refine lv_lconst (v := 1) hx hb dX0_narrow_14 (by decide) ?_
    refine lv_ladd hx hb dX0_narrow_15 ?_
    refine lv_topl (fun x_2 ex_2 => ?_)
    refine pX0_15 C hT (q0 := 0) rfl dX0_narrow_16 (fun H locs hT => ?_)
    have hT : Wd g A s [(a0, .inr (0, [.long x_2, .long hi]))] H locs := hT
    exact e_vret C hQ () (by subst ex_2; simp only [h_1, if_true, if_false, not_true_eq_false, not_false_eq_true, ite_true, ite_false, true_and, and_true, false_and, and_false, true_or, or_true, false_or, or_false]; exact hT) rfl dX0_narrow_19
  · skip
    refine lv_aload_n hx hb dX0_narrow_4 rfl (lv_at hl 0 rfl) ?_
    refine lv_lload_n hx hb dX0_narrow_5 rfl (lv_at hl 2 rfl) ?_
    refine pX0_11 C hT (q0 := 0) rfl dX0_narrow_6 (fun H locs hT => ?_)
    have hT : Wd g A s [(a0, .inr (0, [.long lo, .long md]))] H locs := hT
    refine lv_goto (tgt := 19) hx hb dX0_narrow_9 (by decide) ?_
    exact e_vret C hQ () (by simp only [h_1, if_true, if_false, not_true_eq_false, not_false_eq_true, ite_true, ite_false, true_and, and_true, false_and, and_false, true_or, or_true, false_or, or_false]; exact hT) rfl dX0_narrow_19

set_option maxHeartbeats 400000 in
set_option maxRecDepth 100000 in
theorem c_X0_settled (l : Launch) (g : GT) (a0 : Nat) (lo : Int64) (hi : Int64) : OM (S := Unit) l g yX0_settled cX0_settled 1 (some .boolean) ({ frames := 0, cells := 0, slots := 0, locals := 0 } : Room) [.ref a0] [(a0, .inr (0, [.long lo, .long hi]))] (fun _ => some (.int (if lo >>> ((24 : Int32).toInt64 &&& 63) = hi >>> ((24 : Int32).toInt64 &&& 63) then 1 else 0))) (fun _ => [(a0, .inr (0, [.long lo, .long hi]))]) := by
  refine OM.startQ (by decide) (Nat.le_of_ble_eq_true rfl) ?_
  intro p e s m below meth c A ls Q H locs hQ C hnm hl hT
  have hx := C.x
  have hb := C.b
  have hl : lv_has ls 1 [(0, .ref a0)] := hl
  refine lv_aload_n hx hb dX0_settled_0 rfl (lv_at hl 0 rfl) ?_
  refine gX0_15 C hT (q0 := 0) rfl dX0_settled_1 ?_
  refine lv_bipush (v := 24) hx hb dX0_settled_4 (by decide) ?_
  refine lv_lshr hx hb dX0_settled_6 rfl ?_
  refine lv_aload_n hx hb dX0_settled_7 rfl (lv_at hl 0 rfl) ?_
  refine gX0_11 C hT (q0 := 0) rfl dX0_settled_8 ?_
  refine lv_bipush (v := 24) hx hb dX0_settled_11 (by decide) ?_
  refine lv_lshr hx hb dX0_settled_13 rfl ?_
  refine W.lcmp hx hb dX0_settled_14 ?_
  refine lv_if_ne (tgt := 22) hx hb dX0_settled_15 (by decide) (fun h_1 => ?_) (fun h_1 => ?_)
  · skip
    have h_1 : ¬ lo >>> ((24 : Int32).toInt64 &&& 63) = hi >>> ((24 : Int32).toInt64 &&& 63) := fun q => h_1 ((lg_cmp_eq _ _).mpr q)
    refine lv_iconst (v := 0) hx hb dX0_settled_22 (by decide) ?_
    exact e_zret C hQ () hT (by simp only [h_1, if_true, if_false, not_true_eq_false, not_false_eq_true, ite_true, ite_false, true_and, and_true, false_and, and_false, true_or, or_true, false_or, or_false]) (by decide) dX0_settled_23
  · skip
    have h_1 : lo >>> ((24 : Int32).toInt64 &&& 63) = hi >>> ((24 : Int32).toInt64 &&& 63) := (lg_cmp_eq _ _).mp h_1
    refine lv_iconst (v := 1) hx hb dX0_settled_18 (by decide) ?_
    refine lv_goto (tgt := 23) hx hb dX0_settled_19 (by decide) ?_
    exact e_zret C hQ () hT (by simp only [h_1, if_true, if_false, not_true_eq_false, not_false_eq_true, ite_true, ite_false, true_and, and_true, false_and, and_false, true_or, or_true, false_or, or_false]) (by decide) dX0_settled_23

set_option maxHeartbeats 400000 in
set_option maxRecDepth 100000 in
theorem c_X0_highestOfLow (l : Launch) (g : GT) (a0 : Nat) (lo : Int64) (hi : Int64) : OM (S := Unit) l g yX0_highestOfLow cX0_highestOfLow 1 (some .int) ({ frames := 0, cells := 0, slots := 0, locals := 0 } : Room) [.ref a0] [(a0, .inr (0, [.long lo, .long hi]))] (fun _ => some (.int ((lo >>> ((24 : Int32).toInt64 &&& 63)).toInt32 &&& 255))) (fun _ => [(a0, .inr (0, [.long lo, .long hi]))]) := by
  refine OM.startQ (by decide) (Nat.le_of_ble_eq_true rfl) ?_
  intro p e s m below meth c A ls Q H locs hQ C hnm hl hT
  have hx := C.x
  have hb := C.b
  have hl : lv_has ls 1 [(0, .ref a0)] := hl
  refine lv_aload_n hx hb dX0_highestOfLow_0 rfl (lv_at hl 0 rfl) ?_
  refine gX0_15 C hT (q0 := 0) rfl dX0_highestOfLow_1 ?_
  refine lv_bipush (v := 24) hx hb dX0_highestOfLow_4 (by decide) ?_
  refine lv_lshr hx hb dX0_highestOfLow_6 rfl ?_
  refine lv_l2i hx hb dX0_highestOfLow_7 rfl ?_
  refine lv_sipush (v := 255) hx hb dX0_highestOfLow_8 (by decide) ?_
  refine lv_iand hx hb dX0_highestOfLow_11 ?_
  exact e_iret C hQ () hT (by rfl) dX0_highestOfLow_12

set_option maxHeartbeats 400000 in
set_option maxRecDepth 100000 in
theorem c_X0_shift (l : Launch) (g : GT) (a0 : Nat) (lo : Int64) (hi : Int64) : OM (S := Unit) l g yX0_shift cX0_shift 1 none ({ frames := 0, cells := 0, slots := 0, locals := 0 } : Room) [.ref a0] [(a0, .inr (0, [.long lo, .long hi]))] (fun _ => none) (fun _ => [(a0, .inr (0, [.long ((lo <<< ((8 : Int32).toInt64 &&& 63)) &&& 4294967295), .long (((hi <<< ((8 : Int32).toInt64 &&& 63)) &&& 4294967295) ||| 255)]))]) := by
  refine OM.startQ (by decide) (Nat.le_of_ble_eq_true rfl) ?_
  intro p e s m below meth c A ls Q H locs hQ C hnm hl hT
  have hx := C.x
  have hb := C.b
  have hl : lv_has ls 1 [(0, .ref a0)] := hl
  refine lv_aload_n hx hb dX0_shift_0 rfl (lv_at hl 0 rfl) ?_
  refine lv_aload_n hx hb dX0_shift_1 rfl (lv_at hl 0 rfl) ?_
  refine gX0_15 C hT (q0 := 0) rfl dX0_shift_2 ?_
  refine lv_bipush (v := 8) hx hb dX0_shift_5 (by decide) ?_
  refine lv_lshl hx hb dX0_shift_7 rfl ?_
  refine lv_ldc2 (v := 4294967295) hx hb C.ow (C.ts _ k245) dX0_shift_8 ?_
  refine lv_land hx hb dX0_shift_11 ?_
  refine lv_topl (fun x_1 ex_1 => ?_)
  refine pX0_15 C hT (q0 := 0) rfl dX0_shift_12 (fun H locs hT => ?_)
  have hT : Wd g A s [(a0, .inr (0, [.long x_1, .long hi]))] H locs := hT
  refine lv_aload_n hx hb dX0_shift_15 rfl (lv_at hl 0 rfl) ?_
  refine lv_aload_n hx hb dX0_shift_16 rfl (lv_at hl 0 rfl) ?_
  refine gX0_11 C hT (q0 := 0) rfl dX0_shift_17 ?_
  refine lv_bipush (v := 8) hx hb dX0_shift_20 (by decide) ?_
  refine lv_lshl hx hb dX0_shift_22 rfl ?_
  refine lv_ldc2 (v := 4294967295) hx hb C.ow (C.ts _ k245) dX0_shift_23 ?_
  refine lv_land hx hb dX0_shift_26 ?_
  refine lv_ldc2 (v := 255) hx hb C.ow (C.ts _ k456) dX0_shift_27 ?_
  refine lv_lor hx hb dX0_shift_30 ?_
  refine lv_topl (fun x_2 ex_2 => ?_)
  refine pX0_11 C hT (q0 := 0) rfl dX0_shift_31 (fun H locs hT => ?_)
  have hT : Wd g A s [(a0, .inr (0, [.long x_1, .long x_2]))] H locs := hT
  exact e_vret C hQ () (by subst ex_1 ex_2; exact hT) rfl dX0_shift_34

set_option maxHeartbeats 400000 in
set_option maxRecDepth 100000 in
theorem c_X6_has (l : Launch) (g : GT) (a0 : Nat) (ab : Nat) (n : Nat) (i : Int32) : OM (S := Unit) l g yX6_has cX6_has 2 (some .boolean) ({ frames := 0, cells := 0, slots := 0, locals := 0 } : Room) [.ref a0, .int i] [(a0, .inr (6, [.ref ab, .int (nI n)]))] (fun _ => some (.int (b01 (inR i n)))) (fun _ => [(a0, .inr (6, [.ref ab, .int (nI n)]))]) := by
  refine OM.startQ (by decide) (Nat.le_of_ble_eq_true rfl) ?_
  intro p e s m below meth c A ls Q H locs hQ C hnm hl hT
  have hx := C.x
  have hb := C.b
  have hl : lv_has ls 2 [(0, .ref a0), (1, .int i)] := hl
  refine lv_iload_n hx hb dX6_has_0 rfl (lv_at hl 1 rfl) ?_
  refine lv_if_lt (tgt := 16) hx hb dX6_has_1 (by decide) (fun h_1 => ?_) (fun h_1 => ?_)
  · skip
    refine lv_iconst (v := 0) hx hb dX6_has_16 (by decide) ?_
    exact e_zret C hQ () hT (by simp [b01, inR, h_1]) (by decide) dX6_has_17
  · skip
    refine lv_iload_n hx hb dX6_has_4 rfl (lv_at hl 1 rfl) ?_
    refine lv_aload_n hx hb dX6_has_5 rfl (lv_at hl 0 rfl) ?_
    refine gX6_17 C hT (q0 := 0) rfl dX6_has_6 ?_
    refine lv_icmp_ge (tgt := 16) hx hb dX6_has_9 (by decide) (fun h_2 => ?_) (fun h_2 => ?_)
    · skip
      refine lv_iconst (v := 0) hx hb dX6_has_16 (by decide) ?_
      exact e_zret C hQ () hT (by simp [b01, inR, h_1, h_2]) (by decide) dX6_has_17
    · skip
      refine lv_iconst (v := 1) hx hb dX6_has_12 (by decide) ?_
      refine lv_goto (tgt := 17) hx hb dX6_has_13 (by decide) ?_
      exact e_zret C hQ () hT (by simp [b01, inR, h_1, h_2]) (by decide) dX6_has_17

set_option maxHeartbeats 400000 in
set_option maxRecDepth 100000 in
theorem c_X6_byteAt (l : Launch) (g : GT) (a0 : Nat) (ab : Nat) (n : Nat) (f : Nat → Int32) (i : Int32) (hn : n ≤ 3028) : OM (S := Unit) l g yX6_byteAt cX6_byteAt 2 (some .int) ({ frames := 1, cells := 0, slots := 0, locals := 21 } : Room) [.ref a0, .int i] [(a0, .inr (6, [.ref ab, .int (nI n)])), (ab, .inl (g.2.1 0, 3028, .inl f))] (fun _ => some (.int (if inR i n = true then f i.toNatClampNeg else 0))) (fun _ => [(a0, .inr (6, [.ref ab, .int (nI n)])), (ab, .inl (g.2.1 0, 3028, .inl f))]) := by
  refine OM.startQ (by decide) (Nat.le_of_ble_eq_true rfl) ?_
  intro p e s m below meth c A ls Q H locs hQ C hnm hl hT
  have hx := C.x
  have hb := C.b
  have hl : lv_has ls 2 [(0, .ref a0), (1, .int i)] := hl
  refine lv_aload_n hx hb dX6_byteAt_0 rfl (lv_at hl 0 rfl) ?_
  refine lv_iload_n hx hb dX6_byteAt_1 rfl (lv_at hl 1 rfl) ?_
  have hM := c_X6_has l g a0 ab n i
  refine r_call0 (js := [0]) C hT (runV (js := [0]) (rm := ({ frames := 0, cells := 0, slots := 0, locals := 0 } : Room)) (As := [.int i]) (n := 1) (q1 := 0) (rest := []) C hT hM rfl rfl k518 k511 k512 k13 k513 (by decide +kernel) rfl rfl rfl rfl (Nat.le_of_ble_eq_true rfl) hl.1 ⟨Nat.le_of_ble_eq_true rfl, Nat.le_of_ble_eq_true rfl⟩ ⟨Nat.le_of_ble_eq_true rfl, Nat.le_of_ble_eq_true rfl⟩ dX6_byteAt_2) rfl rfl (fun _ => rfl) (fun u H locs hT => ?_)
  have hT : Wd g A s [(a0, .inr (6, [.ref ab, .int (nI n)])), (ab, .inl (g.2.1 0, 3028, .inl f))] H locs := hT
  refine W.eq (g2 := F0 m 5 ls [.int (b01 (inR i n))]) rfl ?_
  refine lv_if_eq (tgt := 17) hx hb dX6_byteAt_5 (by decide) (fun h_1 => ?_) (fun h_1 => ?_)
  · skip
    have h_1 := b01_f h_1
    refine lv_iconst (v := 0) hx hb dX6_byteAt_17 (by decide) ?_
    exact e_iret C hQ () hT (by first | (rw [if_pos h_1, ej, nI_clamp (by omega)]; done) | (rw [h_1]; rfl)) dX6_byteAt_18
  · skip
    have h_1 := b01_t h_1
    obtain ⟨j, hj, ej⟩ := inR_of (by omega) h_1
    refine lv_aload_n hx hb dX6_byteAt_8 rfl (lv_at hl 0 rfl) ?_
    refine gX6_13 C hT (q0 := 0) rfl dX6_byteAt_9 ?_
    refine lv_iload_n hx hb dX6_byteAt_12 rfl (lv_at hl 1 rfl) ?_
    refine r_iald C hT (q0 := 1) rfl j ej (by omega) (by decide) dX6_byteAt_13 ?_
    refine lv_goto (tgt := 18) hx hb dX6_byteAt_14 (by decide) ?_
    exact e_iret C hQ () hT (by first | (rw [if_pos h_1, ej, nI_clamp (by omega)]; done) | (rw [h_1]; rfl)) dX6_byteAt_18

set_option maxHeartbeats 400000 in
set_option maxRecDepth 100000 in
theorem c_X6_add (l : Launch) (g : GT) (a0 : Nat) (ab : Nat) (n : Nat) (f : Nat → Int32) (b : Int32) (hn : n < 3028) : OM (S := Unit) l g yX6_add cX6_add 2 none ({ frames := 0, cells := 0, slots := 0, locals := 0 } : Room) [.ref a0, .int b] [(a0, .inr (6, [.ref ab, .int (nI n)])), (ab, .inl (g.2.1 0, 3028, .inl f))] (fun _ => none) (fun _ => [(a0, .inr (6, [.ref ab, .int (nI (n + 1))])), (ab, .inl (g.2.1 0, 3028, .inl (upd f n b)))]) := by
  refine OM.startQ (by decide) (Nat.le_of_ble_eq_true rfl) ?_
  intro p e s m below meth c A ls Q H locs hQ C hnm hl hT
  have hx := C.x
  have hb := C.b
  have hl : lv_has ls 2 [(0, .ref a0), (1, .int b)] := hl
  refine lv_aload_n hx hb dX6_add_0 rfl (lv_at hl 0 rfl) ?_
  refine gX6_17 C hT (q0 := 0) rfl dX6_add_1 ?_
  refine lv_aload_n hx hb dX6_add_4 rfl (lv_at hl 0 rfl) ?_
  refine gX6_13 C hT (q0 := 0) rfl dX6_add_5 ?_
  refine r_alen C hT (q0 := 1) 0 rfl rfl dX6_add_8 ?_
  refine W.eq (g2 := F0 m 9 ls [.int (nI 3028), .int (nI n)]) rfl ?_
  refine lv_icmp_ge (tgt := 32) hx hb dX6_add_9 (by decide) (fun h_1 => ?_) (fun h_1 => ?_)
  · skip
    exact absurd h_1 (nI_ge hn (by decide))
  · skip
    refine lv_aload_n hx hb dX6_add_12 rfl (lv_at hl 0 rfl) ?_
    refine gX6_13 C hT (q0 := 0) rfl dX6_add_13 ?_
    refine lv_aload_n hx hb dX6_add_16 rfl (lv_at hl 0 rfl) ?_
    refine gX6_17 C hT (q0 := 0) rfl dX6_add_17 ?_
    refine lv_iload_n hx hb dX6_add_20 rfl (lv_at hl 1 rfl) ?_
    refine r_iast C hT (q0 := 1) rfl n rfl (by omega) (by decide) dX6_add_21 (fun H locs hT => ?_)
    have hT : Wd g A s [(a0, .inr (6, [.ref ab, .int (nI n)])), (ab, .inl (g.2.1 0, 3028, .inl (upd f n b)))] H locs := hT
    refine lv_aload_n hx hb dX6_add_22 rfl (lv_at hl 0 rfl) ?_
    refine lv_dup hx hb dX6_add_23 rfl ?_
    refine gX6_17 C hT (q0 := 0) rfl dX6_add_24 ?_
    refine lv_iconst (v := 1) hx hb dX6_add_27 (by decide) ?_
    refine lv_iadd hx hb dX6_add_28 ?_
    refine W.eq (g2 := F0 m 29 ls [.int (nI (n + 1)), .ref a0]) (congrArg (fun z => F0 m 29 ls (.int z :: [.ref a0])) (nI_1 n)) ?_
    refine pX6_17 C hT (q0 := 0) rfl dX6_add_29 (fun H locs hT => ?_)
    have hT : Wd g A s [(a0, .inr (6, [.ref ab, .int (nI (n + 1))])), (ab, .inl (g.2.1 0, 3028, .inl (upd f n b)))] H locs := hT
    exact e_vret C hQ () hT rfl dX6_add_32

set_option maxHeartbeats 400000 in
set_option maxRecDepth 100000 in
theorem c_X6_flip (l : Launch) (g : GT) (a0 : Nat) (ab : Nat) (n : Nat) (f : Nat → Int32) (j : Nat) (mk : Int32) (hj : j < n) (hn : n ≤ 3028) : OM (S := Unit) l g yX6_flip cX6_flip 3 none ({ frames := 1, cells := 0, slots := 0, locals := 21 } : Room) [.ref a0, .int (nI j), .int mk] [(a0, .inr (6, [.ref ab, .int (nI n)])), (ab, .inl (g.2.1 0, 3028, .inl f))] (fun _ => none) (fun _ => [(a0, .inr (6, [.ref ab, .int (nI n)])), (ab, .inl (g.2.1 0, 3028, .inl (upd f j (f j ^^^ mk))))]) := by
  refine OM.startQ (by decide) (Nat.le_of_ble_eq_true rfl) ?_
  intro p e s m below meth c A ls Q H locs hQ C hnm hl hT
  have hx := C.x
  have hb := C.b
  have hl : lv_has ls 3 [(0, .ref a0), (1, .int (nI j)), (2, .int mk)] := hl
  refine lv_aload_n hx hb dX6_flip_0 rfl (lv_at hl 0 rfl) ?_
  refine lv_iload_n hx hb dX6_flip_1 rfl (lv_at hl 1 rfl) ?_
  have hM := c_X6_has l g a0 ab n (nI j)
  refine r_call0 (js := [0]) C hT (runV (js := [0]) (rm := ({ frames := 0, cells := 0, slots := 0, locals := 0 } : Room)) (As := [.int (nI j)]) (n := 1) (q1 := 0) (rest := []) C hT hM rfl rfl k518 k511 k512 k13 k513 (by decide +kernel) rfl rfl rfl rfl (Nat.le_of_ble_eq_true rfl) hl.1 ⟨Nat.le_of_ble_eq_true rfl, Nat.le_of_ble_eq_true rfl⟩ ⟨Nat.le_of_ble_eq_true rfl, Nat.le_of_ble_eq_true rfl⟩ dX6_flip_2) rfl rfl (fun _ => rfl) (fun u H locs hT => ?_)
  have hT : Wd g A s [(a0, .inr (6, [.ref ab, .int (nI n)])), (ab, .inl (g.2.1 0, 3028, .inl f))] H locs := hT
  refine W.eq (g2 := F0 m 5 ls [.int (b01 (inR (nI j) n))]) rfl ?_
  refine lv_if_eq (tgt := 18) hx hb dX6_flip_5 (by decide) (fun h_1 => ?_) (fun h_1 => ?_)
  · skip
    exact absurd (b01_f h_1) (by rw [inR_nI hj (by omega)]; decide)
  · skip
    refine lv_aload_n hx hb dX6_flip_8 rfl (lv_at hl 0 rfl) ?_
    refine gX6_13 C hT (q0 := 0) rfl dX6_flip_9 ?_
    refine lv_iload_n hx hb dX6_flip_12 rfl (lv_at hl 1 rfl) ?_
    refine lv_dup2_11 hx hb dX6_flip_13 rfl rfl ?_
    refine r_iald C hT (q0 := 1) rfl j rfl (by omega) (by decide) dX6_flip_14 ?_
    refine lv_iload_n hx hb dX6_flip_15 rfl (lv_at hl 2 rfl) ?_
    refine lv_ixor hx hb dX6_flip_16 ?_
    refine lv_topi (fun x_2 ex_2 => ?_)
    refine r_iast C hT (q0 := 1) rfl j rfl (by omega) (by decide) dX6_flip_17 (fun H locs hT => ?_)
    have hT : Wd g A s [(a0, .inr (6, [.ref ab, .int (nI n)])), (ab, .inl (g.2.1 0, 3028, .inl (upd f j x_2)))] H locs := hT
    exact e_vret C hQ () (by subst ex_2; exact hT) rfl dX6_flip_18
