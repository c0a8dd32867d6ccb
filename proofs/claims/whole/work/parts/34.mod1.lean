set_option maxHeartbeats 400000 in
set_option maxRecDepth 100000 in
theorem c_X11_hash (l : Launch) (g : GT) (a : Int32) (b : Int32) : OM (S := Unit) l g yX11_hash cX11_hash 3 (some .int) ({ frames := 0, cells := 0, slots := 0, locals := 0 } : Room) [.int a, .int b] [] (fun _ => some (.int (hashI a b))) (fun _ => []) := by
  refine OM.startQ (by decide) (Nat.le_of_ble_eq_true rfl) ?_
  intro p e s m below meth c A ls Q H locs hQ C hnm hl hT
  have hx := C.x
  have hb := C.b
  have hl : lv_has ls 3 [(0, .int a), (1, .int b)] := hl
  refine lv_iload_n hx hb dX11_hash_0 rfl (lv_at hl 0 rfl) ?_
  refine lv_ldc (v := 625341585) hx hb C.ow (C.ts _ k763) dX11_hash_1 ?_
  refine lv_ixor hx hb dX11_hash_3 ?_
  refine lv_ldc (v := (-1640531535)) hx hb C.ow (C.ts _ k764) dX11_hash_4 ?_
  refine lv_imul hx hb dX11_hash_6 ?_
  refine lv_iload_n hx hb dX11_hash_7 rfl (lv_at hl 1 rfl) ?_
  refine lv_ldc (v := (-2048144789)) hx hb C.ow (C.ts _ k765) dX11_hash_8 ?_
  refine lv_imul hx hb dX11_hash_10 ?_
  refine lv_iadd hx hb dX11_hash_11 ?_
  refine lv_topi (fun x_1 ex_1 => ?_)
  refine lv_istore_n (lv' := [(2, .int x_1), (0, .int a), (1, .int b)]) hx hb dX11_hash_12 rfl hl (by decide) rfl (fun ls hl => ?_)
  refine lv_iload_n hx hb dX11_hash_13 rfl (lv_at hl 0 rfl) ?_
  refine lv_iload_n hx hb dX11_hash_14 rfl (lv_at hl 0 rfl) ?_
  refine lv_bipush (v := 15) hx hb dX11_hash_15 (by decide) ?_
  refine lv_iushr hx hb dX11_hash_17 rfl ?_
  refine lv_ixor hx hb dX11_hash_18 ?_
  exact e_iret C hQ () hT (by subst ex_1; rfl) dX11_hash_19

set_option maxHeartbeats 400000 in
set_option maxRecDepth 100000 in
theorem c_X11_bound (l : Launch) (g : GT) (v : Int32) (lo : Int32) (hi : Int32) : OM (S := Unit) l g yX11_bound cX11_bound 3 (some .int) ({ frames := 0, cells := 0, slots := 0, locals := 0 } : Room) [.int v, .int lo, .int hi] [] (fun _ => some (.int (boundM v lo hi))) (fun _ => []) := by
  refine OM.startQ (by decide) (Nat.le_of_ble_eq_true rfl) ?_
  intro p e s m below meth c A ls Q H locs hQ C hnm hl hT
  have hx := C.x
  have hb := C.b
  have hl : lv_has ls 3 [(0, .int v), (1, .int lo), (2, .int hi)] := hl
  refine lv_iload_n hx hb dX11_bound_0 rfl (lv_at hl 0 rfl) ?_
  refine lv_iload_n hx hb dX11_bound_1 rfl (lv_at hl 1 rfl) ?_
  refine lv_icmp_ge (tgt := 9) hx hb dX11_bound_2 (by decide) (fun h_1 => ?_) (fun h_1 => ?_)
  · skip
    have h_1 := i32_nlt h_1
    refine lv_iload_n hx hb dX11_bound_9 rfl (lv_at hl 0 rfl) ?_
    refine lv_iload_n hx hb dX11_bound_10 rfl (lv_at hl 2 rfl) ?_
    refine lv_icmp_le (tgt := 18) hx hb dX11_bound_11 (by decide) (fun h_2 => ?_) (fun h_2 => ?_)
    · skip
      have h_2 := i32_nlt h_2
      refine lv_iload_n hx hb dX11_bound_18 rfl (lv_at hl 0 rfl) ?_
      exact e_iret C hQ () hT (by unfold boundM; first | (rw [if_pos h_1]; done) | (rw [if_neg h_1, if_neg h_2]; done) | (rw [if_neg h_1, if_pos h_2])) dX11_bound_19
    · skip
      have h_2 := i32_ltn h_2
      refine lv_iload_n hx hb dX11_bound_14 rfl (lv_at hl 2 rfl) ?_
      refine lv_goto (tgt := 19) hx hb dX11_bound_15 (by decide) ?_
      exact e_iret C hQ () hT (by unfold boundM; first | (rw [if_pos h_1]; done) | (rw [if_neg h_1, if_neg h_2]; done) | (rw [if_neg h_1, if_pos h_2])) dX11_bound_19
  · skip
    have h_1 := i32_ltn h_1
    refine lv_iload_n hx hb dX11_bound_5 rfl (lv_at hl 1 rfl) ?_
    refine lv_goto (tgt := 19) hx hb dX11_bound_6 (by decide) ?_
    exact e_iret C hQ () hT (by unfold boundM; first | (rw [if_pos h_1]; done) | (rw [if_neg h_1, if_neg h_1]; done) | (rw [if_neg h_1, if_pos h_1])) dX11_bound_19

set_option maxHeartbeats 400000 in
set_option maxRecDepth 100000 in
theorem c_X11_squashed (l : Launch) (g : GT) (d : Int32) : OM (S := Unit) l g yX11_squashed cX11_squashed 3 (some .int) ({ frames := 0, cells := 0, slots := 0, locals := 0 } : Room) [.int d] [] (fun _ => some (.int (sqI d))) (fun _ => []) := by
  refine OM.startQ (by decide) (Nat.le_of_ble_eq_true rfl) ?_
  intro p e s m below meth c A ls Q H locs hQ C hnm hl hT
  have hx := C.x
  have hb := C.b
  have hl : lv_has ls 3 [(0, .int d)] := hl
  refine lv_iload_n hx hb dX11_squashed_0 rfl (lv_at hl 0 rfl) ?_
  refine lv_sipush (v := 2047) hx hb dX11_squashed_1 (by decide) ?_
  refine lv_icmp_le (tgt := 11) hx hb dX11_squashed_4 (by decide) (fun h_1 => ?_) (fun h_1 => ?_)
  · skip
    have h_1 := i32_nlt h_1
    refine lv_iload_n hx hb dX11_squashed_11 rfl (lv_at hl 0 rfl) ?_
    refine lv_sipush (v := (-2047)) hx hb dX11_squashed_12 (by decide) ?_
    refine lv_icmp_ge (tgt := 20) hx hb dX11_squashed_15 (by decide) (fun h_2 => ?_) (fun h_2 => ?_)
    · skip
      have h_2 := i32_nlt h_2
      refine lv_iload_n hx hb dX11_squashed_20 rfl (lv_at hl 0 rfl) ?_
      refine lv_bipush (v := 7) hx hb dX11_squashed_21 (by decide) ?_
      refine lv_ishr hx hb dX11_squashed_23 ?_
      refine lv_bipush (v := 16) hx hb dX11_squashed_24 (by decide) ?_
      refine lv_iadd hx hb dX11_squashed_26 ?_
      refine lv_topi (fun x_3 ex_3 => ?_)
      refine lv_istore_n (lv' := [(1, .int x_3), (0, .int d)]) hx hb dX11_squashed_27 rfl hl (by decide) rfl (fun ls hl => ?_)
      refine lv_iload_n hx hb dX11_squashed_28 rfl (lv_at hl 1 rfl) ?_
      refine lv_bipush (v := 127) hx hb dX11_squashed_29 (by decide) ?_
      refine lv_iand hx hb dX11_squashed_31 ?_
      refine lv_topi (fun x_4 ex_4 => ?_)
      refine lv_istore_n (lv' := [(2, .int x_4), (1, .int x_3), (0, .int d)]) hx hb dX11_squashed_32 rfl hl (by decide) rfl (fun ls hl => ?_)
      refine gsX11 C hT dX11_squashed_33 ?_
      refine lv_iload_n hx hb dX11_squashed_36 rfl (lv_at hl 1 rfl) ?_
      refine tsX11 C hT (sqK d) (by rw [ex_3]; exact sqK_eq h_1 h_2) (by have := sqK_lt h_1 h_2; omega) dX11_squashed_37 ?_
      refine lv_sipush (v := 128) hx hb dX11_squashed_38 (by decide) ?_
      refine lv_iload_n hx hb dX11_squashed_41 rfl (lv_at hl 0 rfl) ?_
      refine lv_isub hx hb dX11_squashed_42 ?_
      refine lv_imul hx hb dX11_squashed_43 ?_
      refine gsX11 C hT dX11_squashed_44 ?_
      refine lv_iload_n hx hb dX11_squashed_47 rfl (lv_at hl 1 rfl) ?_
      refine lv_iconst (v := 1) hx hb dX11_squashed_48 (by decide) ?_
      refine lv_iadd hx hb dX11_squashed_49 ?_
      refine tsX11 C hT (sqK d + 1) (by rw [ex_3, sqK_eq h_1 h_2]; exact nI_1 _) (by have := sqK_lt h_1 h_2; omega) dX11_squashed_50 ?_
      refine lv_iload_n hx hb dX11_squashed_51 rfl (lv_at hl 0 rfl) ?_
      refine lv_imul hx hb dX11_squashed_52 ?_
      refine lv_iadd hx hb dX11_squashed_53 ?_
      refine lv_bipush (v := 64) hx hb dX11_squashed_54 (by decide) ?_
      refine lv_iadd hx hb dX11_squashed_56 ?_
      refine lv_bipush (v := 7) hx hb dX11_squashed_57 (by decide) ?_
      refine lv_ishr hx hb dX11_squashed_59 ?_
      exact e_iret C hQ () hT (by subst ex_3 ex_4; rw [sqI, if_neg h_1, if_neg h_2]) dX11_squashed_60
    · skip
      have h_2 := i32_ltn h_2
      refine lv_iconst (v := 0) hx hb dX11_squashed_18 (by decide) ?_
      exact e_iret C hQ () hT (by rw [sqI, if_neg h_1, if_pos h_2]) dX11_squashed_19
  · skip
    refine lv_sipush (v := 4095) hx hb dX11_squashed_7 (by decide) ?_
    exact e_iret C hQ () hT (by rw [sqI, if_pos (i32_ltn h_1)]) dX11_squashed_10

set_option maxHeartbeats 400000 in
set_option maxRecDepth 100000 in
theorem c_X11_isLetter (l : Launch) (g : GT) (x : Int32) : OM (S := Unit) l g yX11_isLetter cX11_isLetter 1 (some .boolean) ({ frames := 0, cells := 0, slots := 0, locals := 0 } : Room) [.int x] [] (fun _ => some (.int (b01 (letB x)))) (fun _ => []) := by
  refine OM.startQ (by decide) (Nat.le_of_ble_eq_true rfl) ?_
  intro p e s m below meth c A ls Q H locs hQ C hnm hl hT
  have hx := C.x
  have hb := C.b
  have hl : lv_has ls 1 [(0, .int x)] := hl
  refine lv_iload_n hx hb dX11_isLetter_0 rfl (lv_at hl 0 rfl) ?_
  refine lv_bipush (v := 65) hx hb dX11_isLetter_1 (by decide) ?_
  refine lv_icmp_lt (tgt := 12) hx hb dX11_isLetter_3 (by decide) (fun h_1 => ?_) (fun h_1 => ?_)
  · skip
    refine lv_iload_n hx hb dX11_isLetter_12 rfl (lv_at hl 0 rfl) ?_
    refine lv_bipush (v := 97) hx hb dX11_isLetter_13 (by decide) ?_
    refine lv_icmp_lt (tgt := 28) hx hb dX11_isLetter_15 (by decide) (fun h_2 => ?_) (fun h_2 => ?_)
    · skip
      refine lv_iconst (v := 0) hx hb dX11_isLetter_28 (by decide) ?_
      exact e_zret C hQ () hT (by simp [b01, letB, h_1, h_2]) (by decide) dX11_isLetter_29
    · skip
      refine lv_iload_n hx hb dX11_isLetter_18 rfl (lv_at hl 0 rfl) ?_
      refine lv_bipush (v := 122) hx hb dX11_isLetter_19 (by decide) ?_
      refine lv_icmp_gt (tgt := 28) hx hb dX11_isLetter_21 (by decide) (fun h_3 => ?_) (fun h_3 => ?_)
      · skip
        refine lv_iconst (v := 0) hx hb dX11_isLetter_28 (by decide) ?_
        exact e_zret C hQ () hT (by simp [b01, letB, h_1, h_2, h_3]) (by decide) dX11_isLetter_29
      · skip
        refine lv_iconst (v := 1) hx hb dX11_isLetter_24 (by decide) ?_
        refine lv_goto (tgt := 29) hx hb dX11_isLetter_25 (by decide) ?_
        exact e_zret C hQ () hT (by simp [b01, letB, h_1, h_2, h_3]) (by decide) dX11_isLetter_29
  · skip
    refine lv_iload_n hx hb dX11_isLetter_6 rfl (lv_at hl 0 rfl) ?_
    refine lv_bipush (v := 90) hx hb dX11_isLetter_7 (by decide) ?_
    refine lv_icmp_le (tgt := 24) hx hb dX11_isLetter_9 (by decide) (fun h_4 => ?_) (fun h_4 => ?_)
    · skip
      refine lv_iconst (v := 1) hx hb dX11_isLetter_24 (by decide) ?_
      refine lv_goto (tgt := 29) hx hb dX11_isLetter_25 (by decide) ?_
      exact e_zret C hQ () hT (by simp [b01, letB, h_1, h_4]) (by decide) dX11_isLetter_29
    · skip
      refine lv_iload_n hx hb dX11_isLetter_12 rfl (lv_at hl 0 rfl) ?_
      refine lv_bipush (v := 97) hx hb dX11_isLetter_13 (by decide) ?_
      refine lv_icmp_lt (tgt := 28) hx hb dX11_isLetter_15 (by decide) (fun h_5 => ?_) (fun h_5 => ?_)
      · skip
        refine lv_iconst (v := 0) hx hb dX11_isLetter_28 (by decide) ?_
        exact e_zret C hQ () hT (by simp [b01, letB, h_1, h_4, h_5]) (by decide) dX11_isLetter_29
      · skip
        refine lv_iload_n hx hb dX11_isLetter_18 rfl (lv_at hl 0 rfl) ?_
        refine lv_bipush (v := 122) hx hb dX11_isLetter_19 (by decide) ?_
        refine lv_icmp_gt (tgt := 28) hx hb dX11_isLetter_21 (by decide) (fun h_6 => ?_) (fun h_6 => ?_)
        · skip
          refine lv_iconst (v := 0) hx hb dX11_isLetter_28 (by decide) ?_
          exact e_zret C hQ () hT (by simp [b01, letB, h_1, h_4, h_5, h_6]) (by decide) dX11_isLetter_29
        · skip
          refine lv_iconst (v := 1) hx hb dX11_isLetter_24 (by decide) ?_
          refine lv_goto (tgt := 29) hx hb dX11_isLetter_25 (by decide) ?_
          exact e_zret C hQ () hT (by simp [b01, letB, h_1, h_4, h_5, h_6]) (by decide) dX11_isLetter_29

set_option maxHeartbeats 400000 in
set_option maxRecDepth 100000 in
theorem c_X11_isSide (l : Launch) (g : GT) (sd : Int32) : OM (S := Unit) l g yX11_isSide cX11_isSide 1 (some .boolean) ({ frames := 0, cells := 0, slots := 0, locals := 0 } : Room) [.int sd] [] (fun _ => some (.int (b01 (!decide (sd < 0) && !decide (1 < sd))))) (fun _ => []) := by
  refine OM.startQ (by decide) (Nat.le_of_ble_eq_true rfl) ?_
  intro p e s m below meth c A ls Q H locs hQ C hnm hl hT
  have hx := C.x
  have hb := C.b
  have hl : lv_has ls 1 [(0, .int sd)] := hl
  refine lv_iload_n hx hb dX11_isSide_0 rfl (lv_at hl 0 rfl) ?_
  refine lv_if_lt (tgt := 13) hx hb dX11_isSide_1 (by decide) (fun h_1 => ?_) (fun h_1 => ?_)
  · skip
    refine lv_iconst (v := 0) hx hb dX11_isSide_13 (by decide) ?_
    exact e_zret C hQ () hT (by simp [b01, h_1]) (by decide) dX11_isSide_14
  · skip
    refine lv_iload_n hx hb dX11_isSide_4 rfl (lv_at hl 0 rfl) ?_
    refine lv_iconst (v := 1) hx hb dX11_isSide_5 (by decide) ?_
    refine lv_icmp_gt (tgt := 13) hx hb dX11_isSide_6 (by decide) (fun h_2 => ?_) (fun h_2 => ?_)
    · skip
      refine lv_iconst (v := 0) hx hb dX11_isSide_13 (by decide) ?_
      exact e_zret C hQ () hT (by simp [b01, h_1, h_2]) (by decide) dX11_isSide_14
    · skip
      refine lv_iconst (v := 1) hx hb dX11_isSide_9 (by decide) ?_
      refine lv_goto (tgt := 14) hx hb dX11_isSide_10 (by decide) ?_
      exact e_zret C hQ () hT (by simp [b01, h_1, h_2]) (by decide) dX11_isSide_14

set_option maxHeartbeats 400000 in
set_option maxRecDepth 100000 in
theorem c_X11_weightAt (l : Launch) (g : GT) (sd : Nat) (mx : Nat) (k : Nat) (i : Nat) : OM (S := Unit) l g yX11_weightAt cX11_weightAt 4 (some .int) ({ frames := 0, cells := 0, slots := 0, locals := 0 } : Room) [.int (nI sd), .int (nI mx), .int (nI k), .int (nI i)] [] (fun _ => some (.int (nI (wAt sd mx k i)))) (fun _ => []) := by
  refine OM.startQ (by decide) (Nat.le_of_ble_eq_true rfl) ?_
  intro p e s m below meth c A ls Q H locs hQ C hnm hl hT
  have hx := C.x
  have hb := C.b
  have hl : lv_has ls 4 [(0, .int (nI sd)), (1, .int (nI mx)), (2, .int (nI k)), (3, .int (nI i))] := hl
  refine lv_iconst (v := 2) hx hb dX11_weightAt_0 (by decide) ?_
  refine lv_iload_n hx hb dX11_weightAt_1 rfl (lv_at hl 0 rfl) ?_
  refine lv_imul hx hb dX11_weightAt_2 ?_
  refine W.eq (g2 := F0 m 3 ls [.int (nI (2 * sd))]) (congrArg (fun z => F0 m 3 ls (.int z :: [])) (pk_mul 2 sd)) ?_
  refine lv_iload_n hx hb dX11_weightAt_3 rfl (lv_at hl 1 rfl) ?_
  refine lv_iadd hx hb dX11_weightAt_4 ?_
  refine W.eq (g2 := F0 m 5 ls [.int (nI (2 * sd + mx))]) (congrArg (fun z => F0 m 5 ls (.int z :: [])) (nI_add _ _)) ?_
  refine lv_sipush (v := 256) hx hb dX11_weightAt_5 (by decide) ?_
  refine lv_imul hx hb dX11_weightAt_8 ?_
  refine W.eq (g2 := F0 m 9 ls [.int (nI ((2 * sd + mx) * 256))]) (congrArg (fun z => F0 m 9 ls (.int z :: [])) (pk_mul _ 256)) ?_
  refine lv_iload_n hx hb dX11_weightAt_9 rfl (lv_at hl 2 rfl) ?_
  refine lv_iadd hx hb dX11_weightAt_10 ?_
  refine W.eq (g2 := F0 m 11 ls [.int (nI ((2 * sd + mx) * 256 + k))]) (congrArg (fun z => F0 m 11 ls (.int z :: [])) (nI_add _ _)) ?_
  refine lv_bipush (v := 9) hx hb dX11_weightAt_11 (by decide) ?_
  refine lv_imul hx hb dX11_weightAt_13 ?_
  refine W.eq (g2 := F0 m 14 ls [.int (nI (((2 * sd + mx) * 256 + k) * 9))]) (congrArg (fun z => F0 m 14 ls (.int z :: [])) (pk_mul _ 9)) ?_
  refine lv_iload_n hx hb dX11_weightAt_14 rfl (lv_at hl 3 rfl) ?_
  refine lv_iadd hx hb dX11_weightAt_15 ?_
  refine W.eq (g2 := F0 m 16 ls [.int (nI (wAt sd mx k i))]) (congrArg (fun z => F0 m 16 ls (.int z :: [])) (nI_add _ _)) ?_
  exact e_iret C hQ () hT rfl dX11_weightAt_16

set_option maxHeartbeats 400000 in
set_option maxRecDepth 100000 in
theorem c_X11_thrown (l : Launch) (g : GT) (mo : Nat → Nat) (rr : Nat) (th : Int32) (np : Nat) (no : Nat) (bt : Nat) (en : Bool) (xx : Int64) (ra : Nat) (t0 : Int32) (t1 : Int32) (s1 : Int32) (ca : Int32) (cq : Int32) (ch : Int32) (st : Nat → Int32) (fk : Nat → Int32) (fn : Nat → Int32) (fo : Nat → Int32) (bb : Nat → Int32) (wt : Nat → Int32) (nx : Nat → Int32) (cx : Nat → Int32) (pt : Nat → Int32) (le : Nat → Int32) (sc : Nat → Int32) (ss : Nat → Int32) (ww : Nat → Int32) (xc : Nat → Int32) (lo : Nat → Int64) (hi : Nat → Int64) (ou : Nat → Int32) (xi : Nat → Int32) : OM (S := Unit) l g yX11_thrown cX11_thrown 1 (some .int) ({ frames := 0, cells := 0, slots := 0, locals := 0 } : Room) [.ref (mo 0)] (mdL g mo rr th np no bt en xx ra t0 t1 s1 ca cq ch st fk fn fo bb wt nx cx pt le sc ss ww xc lo hi ou xi) (fun _ => some (.int th)) (fun _ => (mdL g mo rr th np no bt en xx ra t0 t1 s1 ca cq ch st fk fn fo bb wt nx cx pt le sc ss ww xc lo hi ou xi)) := by
  refine OM.startQ (by decide) (Nat.le_of_ble_eq_true rfl) ?_
  intro p e s m below meth c A ls Q H locs hQ C hnm hl hT
  have hx := C.x
  have hb := C.b
  have hl : lv_has ls 1 [(0, .ref (mo 0))] := hl
  refine lv_aload_n hx hb dX11_thrown_0 rfl (lv_at hl 0 rfl) ?_
  refine gX11_77 C hT (q0 := 0) rfl dX11_thrown_1 ?_
  exact e_iret C hQ () hT rfl dX11_thrown_4

set_option maxHeartbeats 400000 in
set_option maxRecDepth 100000 in
theorem c_X11_squash (l : Launch) (g : GT) (mo : Nat → Nat) (rr : Nat) (th : Int32) (np : Nat) (no : Nat) (bt : Nat) (en : Bool) (xx : Int64) (ra : Nat) (t0 : Int32) (t1 : Int32) (s1 : Int32) (ca : Int32) (cq : Int32) (ch : Int32) (st : Nat → Int32) (fk : Nat → Int32) (fn : Nat → Int32) (fo : Nat → Int32) (bb : Nat → Int32) (wt : Nat → Int32) (nx : Nat → Int32) (cx : Nat → Int32) (pt : Nat → Int32) (le : Nat → Int32) (sc : Nat → Int32) (ss : Nat → Int32) (ww : Nat → Int32) (xc : Nat → Int32) (lo : Nat → Int64) (hi : Nat → Int64) (ou : Nat → Int32) (xi : Nat → Int32) (d : Int32) : OM (S := Unit) l g yX11_squash cX11_squash 2 (some .int) ({ frames := 1, cells := 0, slots := 0, locals := 22 } : Room) [.ref (mo 0), .int d] (mdL g mo rr th np no bt en xx ra t0 t1 s1 ca cq ch st fk fn fo bb wt nx cx pt le sc ss ww xc lo hi ou xi) (fun _ => some (.int (sqI d))) (fun _ => (mdL g mo rr 0 np no bt en xx ra t0 t1 s1 ca cq ch st fk fn fo bb wt nx cx pt le sc ss ww xc lo hi ou xi)) := by
  refine OM.startQ (by decide) (Nat.le_of_ble_eq_true rfl) ?_
  intro p e s m below meth c A ls Q H locs hQ C hnm hl hT
  have hx := C.x
  have hb := C.b
  have hl : lv_has ls 2 [(0, .ref (mo 0)), (1, .int d)] := hl
  refine lv_aload_n hx hb dX11_squash_0 rfl (lv_at hl 0 rfl) ?_
  refine lv_iconst (v := 0) hx hb dX11_squash_1 (by decide) ?_
  refine pX11_77 C hT (q0 := 0) rfl dX11_squash_2 (fun H locs hT => ?_)
  have hT : Wd g A s (mdL g mo rr 0 np no bt en xx ra t0 t1 s1 ca cq ch st fk fn fo bb wt nx cx pt le sc ss ww xc lo hi ou xi) H locs := hT
  refine lv_iload_n hx hb dX11_squash_5 rfl (lv_at hl 1 rfl) ?_
  have hM := c_X11_squashed l g d
  refine r_callRO (js := []) C hT (runS (js := []) (rm := ({ frames := 0, cells := 0, slots := 0, locals := 0 } : Room)) (As := [.int d]) (n := 1) (rest := []) C hT hM rfl rfl k734 k735 k15 k736 (by decide +kernel) rfl rfl (Nat.le_of_ble_eq_true rfl) hl.1 ⟨Nat.le_of_ble_eq_true rfl, Nat.le_of_ble_eq_true rfl⟩ ⟨Nat.le_of_ble_eq_true rfl, Nat.le_of_ble_eq_true rfl⟩ dX11_squash_6) rfl rfl (fun u H locs hT => ?_)
  refine W.eq (g2 := F0 m 9 ls [.int (sqI d)]) rfl ?_
  exact e_iret C hQ () hT rfl dX11_squash_9

set_option maxHeartbeats 400000 in
set_option maxRecDepth 100000 in
theorem c_X11_stretch (l : Launch) (g : GT) (mo : Nat → Nat) (rr : Nat) (th : Int32) (np : Nat) (no : Nat) (bt : Nat) (en : Bool) (xx : Int64) (ra : Nat) (t0 : Int32) (t1 : Int32) (s1 : Int32) (ca : Int32) (cq : Int32) (ch : Int32) (st : Nat → Int32) (fk : Nat → Int32) (fn : Nat → Int32) (fo : Nat → Int32) (bb : Nat → Int32) (wt : Nat → Int32) (nx : Nat → Int32) (cx : Nat → Int32) (pt : Nat → Int32) (le : Nat → Int32) (sc : Nat → Int32) (ss : Nat → Int32) (ww : Nat → Int32) (xc : Nat → Int32) (lo : Nat → Int64) (hi : Nat → Int64) (ou : Nat → Int32) (xi : Nat → Int32) (q : Int32) : OM (S := Unit) l g yX11_stretch cX11_stretch 2 (some .int) ({ frames := 0, cells := 0, slots := 0, locals := 0 } : Room) [.ref (mo 0), .int q] (mdL g mo rr th np no bt en xx ra t0 t1 s1 ca cq ch st fk fn fo bb wt nx cx pt le sc ss ww xc lo hi ou xi) (fun _ => some (.int (if inR q 4096 = true then st q.toNatClampNeg else (-9999)))) (fun _ => (mdL g mo rr 0 np no bt en xx ra t0 t1 s1 ca cq ch st fk fn fo bb wt nx cx pt le sc ss ww xc lo hi ou xi)) := by
  refine OM.startQ (by decide) (Nat.le_of_ble_eq_true rfl) ?_
  intro p e s m below meth c A ls Q H locs hQ C hnm hl hT
  have hx := C.x
  have hb := C.b
  have hl : lv_has ls 2 [(0, .ref (mo 0)), (1, .int q)] := hl
  refine lv_aload_n hx hb dX11_stretch_0 rfl (lv_at hl 0 rfl) ?_
  refine lv_iconst (v := 0) hx hb dX11_stretch_1 (by decide) ?_
  refine pX11_77 C hT (q0 := 0) rfl dX11_stretch_2 (fun H locs hT => ?_)
  have hT : Wd g A s (mdL g mo rr 0 np no bt en xx ra t0 t1 s1 ca cq ch st fk fn fo bb wt nx cx pt le sc ss ww xc lo hi ou xi) H locs := hT
  refine lv_iload_n hx hb dX11_stretch_5 rfl (lv_at hl 1 rfl) ?_
  refine lv_if_lt (tgt := 16) hx hb dX11_stretch_6 (by decide) (fun h_1 => ?_) (fun h_1 => ?_)
  · skip
    have hr : inR q 4096 = false := by simp [inR, h_1]
    refine lv_sipush (v := (-9999)) hx hb dX11_stretch_16 (by decide) ?_
    refine lv_goto (tgt := 28) hx hb dX11_stretch_19 (by decide) ?_
    exact e_iret C hQ () hT (by first | (rw [if_pos hr, vek, nI_clamp (by omega)]; done) | (rw [if_neg (by rw [hr]; decide)])) dX11_stretch_28
  · skip
    have hq0 := h_1
    refine lv_iload_n hx hb dX11_stretch_9 rfl (lv_at hl 1 rfl) ?_
    refine lv_sipush (v := 4095) hx hb dX11_stretch_10 (by decide) ?_
    refine lv_icmp_le (tgt := 22) hx hb dX11_stretch_13 (by decide) (fun h_2 => ?_) (fun h_2 => ?_)
    · skip
      have hr : inR q 4096 = true := inR_le hq0 h_2
      obtain ⟨k, hk, vek⟩ := inR_of (by decide) hr
      refine lv_aload_n hx hb dX11_stretch_22 rfl (lv_at hl 0 rfl) ?_
      refine gX11_7 C hT (q0 := 0) rfl dX11_stretch_23 ?_
      refine lv_iload_n hx hb dX11_stretch_26 rfl (lv_at hl 1 rfl) ?_
      refine r_iald C hT (q0 := 1) rfl k vek hk (by decide) dX11_stretch_27 ?_
      exact e_iret C hQ () hT (by first | (rw [if_pos hr, vek, nI_clamp (by omega)]; done) | (rw [if_neg (by rw [hr]; decide)])) dX11_stretch_28
    · skip
      have hr : inR q 4096 = false := inR_gt h_2
      refine lv_sipush (v := (-9999)) hx hb dX11_stretch_16 (by decide) ?_
      refine lv_goto (tgt := 28) hx hb dX11_stretch_19 (by decide) ?_
      exact e_iret C hQ () hT (by first | (rw [if_pos hr, vek, nI_clamp (by omega)]; done) | (rw [if_neg (by rw [hr]; decide)])) dX11_stretch_28

set_option maxHeartbeats 400000 in
set_option maxRecDepth 100000 in
theorem c_X11_hasWritten (l : Launch) (g : GT) (mo : Nat → Nat) (rr : Nat) (th : Int32) (np : Nat) (no : Nat) (bt : Nat) (en : Bool) (xx : Int64) (ra : Nat) (t0 : Int32) (t1 : Int32) (s1 : Int32) (ca : Int32) (cq : Int32) (ch : Int32) (st : Nat → Int32) (fk : Nat → Int32) (fn : Nat → Int32) (fo : Nat → Int32) (bb : Nat → Int32) (wt : Nat → Int32) (nx : Nat → Int32) (cx : Nat → Int32) (pt : Nat → Int32) (le : Nat → Int32) (sc : Nat → Int32) (ss : Nat → Int32) (ww : Nat → Int32) (xc : Nat → Int32) (lo : Nat → Int64) (hi : Nat → Int64) (ou : Nat → Int32) (xi : Nat → Int32) (n : Nat) (hw : wt 0 = nI n) (hn : n ≤ 2000) (hbt : bt ≤ 8) : OM (S := Unit) l g yX11_hasWritten cX11_hasWritten 1 (some .boolean) ({ frames := 0, cells := 0, slots := 0, locals := 0 } : Room) [.ref (mo 0)] (mdL g mo rr th np no bt en xx ra t0 t1 s1 ca cq ch st fk fn fo bb wt nx cx pt le sc ss ww xc lo hi ou xi) (fun _ => some (.int (b01 (decide (0 < n) || (decide (0 < bt) || en))))) (fun _ => (mdL g mo rr th np no bt en xx ra t0 t1 s1 ca cq ch st fk fn fo bb wt nx cx pt le sc ss ww xc lo hi ou xi)) := by
  refine OM.startQ (by decide) (Nat.le_of_ble_eq_true rfl) ?_
  intro p e s m below meth c A ls Q H locs hQ C hnm hl hT
  have hx := C.x
  have hb := C.b
  have hl : lv_has ls 1 [(0, .ref (mo 0))] := hl
  refine lv_aload_n hx hb dX11_hasWritten_0 rfl (lv_at hl 0 rfl) ?_
  refine gX11_26 C hT (q0 := 0) rfl dX11_hasWritten_1 ?_
  refine lv_iconst (v := 0) hx hb dX11_hasWritten_4 (by decide) ?_
  refine r_iald C hT (q0 := 6) rfl 0 rfl (by decide) (by decide) dX11_hasWritten_5 ?_
  refine W.eq (g2 := F0 m 6 ls [.int (nI n)]) (congrArg (fun z => F0 m 6 ls (.int z :: [])) (hw)) ?_
  refine lv_if_gt (tgt := 23) hx hb dX11_hasWritten_6 (by decide) (fun h_1 => ?_) (fun h_1 => ?_)
  · skip
    have h_1 : 0 < n := (nI_ltI (a := 0) (by decide) (by omega)).mp h_1
    refine lv_iconst (v := 1) hx hb dX11_hasWritten_23 (by decide) ?_
    refine lv_goto (tgt := 28) hx hb dX11_hasWritten_24 (by decide) ?_
    exact e_zret C hQ () hT (by simp [b01, h_1]) (by decide) dX11_hasWritten_28
  · skip
    have h_1 : ¬ 0 < n := fun q => h_1 (nI_lt (a := 0) q (by omega))
    refine lv_aload_n hx hb dX11_hasWritten_9 rfl (lv_at hl 0 rfl) ?_
    refine gX11_107 C hT (q0 := 0) rfl dX11_hasWritten_10 ?_
    refine lv_if_gt (tgt := 23) hx hb dX11_hasWritten_13 (by decide) (fun h_2 => ?_) (fun h_2 => ?_)
    · skip
      have h_2 : 0 < bt := (nI_ltI (a := 0) (by decide) (by omega)).mp h_2
      refine lv_iconst (v := 1) hx hb dX11_hasWritten_23 (by decide) ?_
      refine lv_goto (tgt := 28) hx hb dX11_hasWritten_24 (by decide) ?_
      exact e_zret C hQ () hT (by simp [b01, h_1, h_2]) (by decide) dX11_hasWritten_28
    · skip
      have h_2 : ¬ 0 < bt := fun q => h_2 (nI_lt (a := 0) q (by omega))
      refine lv_aload_n hx hb dX11_hasWritten_16 rfl (lv_at hl 0 rfl) ?_
      refine gX11_110 C hT (q0 := 0) rfl dX11_hasWritten_17 ?_
      refine lv_if_eq (tgt := 27) hx hb dX11_hasWritten_20 (by decide) (fun h_3 => ?_) (fun h_3 => ?_)
      · skip
        have h_3 := b01_f h_3
        refine lv_iconst (v := 0) hx hb dX11_hasWritten_27 (by decide) ?_
        exact e_zret C hQ () hT (by simp [b01, h_1, h_2, h_3]) (by decide) dX11_hasWritten_28
      · skip
        have h_3 := b01_t h_3
        refine lv_iconst (v := 1) hx hb dX11_hasWritten_23 (by decide) ?_
        refine lv_goto (tgt := 28) hx hb dX11_hasWritten_24 (by decide) ?_
        exact e_zret C hQ () hT (by simp [b01, h_1, h_2, h_3]) (by decide) dX11_hasWritten_28

set_option maxHeartbeats 400000 in
set_option maxRecDepth 100000 in
theorem c_X11_isFull (l : Launch) (g : GT) (mo : Nat → Nat) (rr : Nat) (th : Int32) (np : Nat) (no : Nat) (bt : Nat) (en : Bool) (xx : Int64) (ra : Nat) (t0 : Int32) (t1 : Int32) (s1 : Int32) (ca : Int32) (cq : Int32) (ch : Int32) (st : Nat → Int32) (fk : Nat → Int32) (fn : Nat → Int32) (fo : Nat → Int32) (bb : Nat → Int32) (wt : Nat → Int32) (nx : Nat → Int32) (cx : Nat → Int32) (pt : Nat → Int32) (le : Nat → Int32) (sc : Nat → Int32) (ss : Nat → Int32) (ww : Nat → Int32) (xc : Nat → Int32) (lo : Nat → Int64) (hi : Nat → Int64) (ou : Nat → Int32) (xi : Nat → Int32) (n : Nat) (hw : wt 0 = nI n) (hn : n < 2000) (hno : no ≤ 2992) : OM (S := Unit) l g yX11_isFull cX11_isFull 1 (some .boolean) ({ frames := 0, cells := 0, slots := 0, locals := 0 } : Room) [.ref (mo 0)] (mdL g mo rr th np no bt en xx ra t0 t1 s1 ca cq ch st fk fn fo bb wt nx cx pt le sc ss ww xc lo hi ou xi) (fun _ => some (.int 0)) (fun _ => (mdL g mo rr th np no bt en xx ra t0 t1 s1 ca cq ch st fk fn fo bb wt nx cx pt le sc ss ww xc lo hi ou xi)) := by
  refine OM.startQ (by decide) (Nat.le_of_ble_eq_true rfl) ?_
  intro p e s m below meth c A ls Q H locs hQ C hnm hl hT
  have hx := C.x
  have hb := C.b
  have hl : lv_has ls 1 [(0, .ref (mo 0))] := hl
  refine lv_aload_n hx hb dX11_isFull_0 rfl (lv_at hl 0 rfl) ?_
  refine gX11_26 C hT (q0 := 0) rfl dX11_isFull_1 ?_
  refine lv_iconst (v := 0) hx hb dX11_isFull_4 (by decide) ?_
  refine r_iald C hT (q0 := 6) rfl 0 rfl (by decide) (by decide) dX11_isFull_5 ?_
  refine W.eq (g2 := F0 m 6 ls [.int (nI n)]) (congrArg (fun z => F0 m 6 ls (.int z :: [])) (hw)) ?_
  refine lv_sipush (v := 2000) hx hb dX11_isFull_6 (by decide) ?_
  refine lv_icmp_eq (tgt := 22) hx hb dX11_isFull_9 (by decide) (fun h_1 => ?_) (fun h_1 => ?_)
  · skip
    exact absurd (i32_eqN (b := 2000) (by omega) (by decide) h_1) (by omega)
  · skip
    refine lv_aload_n hx hb dX11_isFull_12 rfl (lv_at hl 0 rfl) ?_
    refine gX11_104 C hT (q0 := 0) rfl dX11_isFull_13 ?_
    refine lv_sipush (v := 2992) hx hb dX11_isFull_16 (by decide) ?_
    refine lv_icmp_le (tgt := 26) hx hb dX11_isFull_19 (by decide) (fun h_2 => ?_) (fun h_2 => ?_)
    · skip
      refine lv_iconst (v := 0) hx hb dX11_isFull_26 (by decide) ?_
      exact e_zret C hQ () hT rfl (by decide) dX11_isFull_27
    · skip
      exact absurd (nI_le (b := 2992) hno (by decide)) h_2

set_option maxHeartbeats 400000 in
set_option maxRecDepth 100000 in
theorem c_X11_latest (l : Launch) (g : GT) (mo : Nat → Nat) (rr : Nat) (th : Int32) (np : Nat) (no : Nat) (bt : Nat) (en : Bool) (xx : Int64) (ra : Nat) (t0 : Int32) (t1 : Int32) (s1 : Int32) (ca : Int32) (cq : Int32) (ch : Int32) (st : Nat → Int32) (fk : Nat → Int32) (fn : Nat → Int32) (fo : Nat → Int32) (bb : Nat → Int32) (wt : Nat → Int32) (nx : Nat → Int32) (cx : Nat → Int32) (pt : Nat → Int32) (le : Nat → Int32) (sc : Nat → Int32) (ss : Nat → Int32) (ww : Nat → Int32) (xc : Nat → Int32) (lo : Nat → Int64) (hi : Nat → Int64) (ou : Nat → Int32) (xi : Nat → Int32) (sd : Nat) (k : Nat) (n : Nat) (hsd : sd < 2) (hw : wt sd = nI n) (hn : n ≤ 2000) (hk1 : 1 ≤ k) (hk : k < 2 ^ 20) : OM (S := Unit) l g yX11_latest cX11_latest 3 (some .int) ({ frames := 0, cells := 0, slots := 0, locals := 0 } : Room) [.ref (mo 0), .int (nI sd), .int (nI k)] (mdL g mo rr th np no bt en xx ra t0 t1 s1 ca cq ch st fk fn fo bb wt nx cx pt le sc ss ww xc lo hi ou xi) (fun _ => some (.int (backN (vb bb sd) n k))) (fun _ => (mdL g mo rr th np no bt en xx ra t0 t1 s1 ca cq ch st fk fn fo bb wt nx cx pt le sc ss ww xc lo hi ou xi)) := by
  refine OM.startQ (by decide) (Nat.le_of_ble_eq_true rfl) ?_
  intro p e s m below meth c A ls Q H locs hQ C hnm hl hT
  have hx := C.x
  have hb := C.b
  have hl : lv_has ls 3 [(0, .ref (mo 0)), (1, .int (nI sd)), (2, .int (nI k))] := hl
  refine lv_aload_n hx hb dX11_latest_0 rfl (lv_at hl 0 rfl) ?_
  refine gX11_26 C hT (q0 := 0) rfl dX11_latest_1 ?_
  refine lv_iload_n hx hb dX11_latest_4 rfl (lv_at hl 1 rfl) ?_
  refine r_iald C hT (q0 := 6) rfl sd rfl (by omega) (by decide) dX11_latest_5 ?_
  refine W.eq (g2 := F0 m 6 ls [.int (nI n)]) (congrArg (fun z => F0 m 6 ls (.int z :: [])) (hw)) ?_
  refine lv_iload_n hx hb dX11_latest_6 rfl (lv_at hl 2 rfl) ?_
  refine lv_isub hx hb dX11_latest_7 ?_
  refine lv_if_ge (tgt := 15) hx hb dX11_latest_8 (by decide) (fun h_1 => ?_) (fun h_1 => ?_)
  · skip
    have hkn : k ≤ n := (ge_sub (by omega) (by omega)).mp h_1
    refine lv_aload_n hx hb dX11_latest_15 rfl (lv_at hl 0 rfl) ?_
    refine gX11_23 C hT (q0 := 0) rfl dX11_latest_16 ?_
    refine lv_sipush (v := 2050) hx hb dX11_latest_19 (by decide) ?_
    refine lv_iload_n hx hb dX11_latest_22 rfl (lv_at hl 1 rfl) ?_
    refine lv_imul hx hb dX11_latest_23 ?_
    refine W.eq (g2 := F0 m 24 ls [.int (nI (2050 * sd)), .ref (mo 5)]) (congrArg (fun z => F0 m 24 ls (.int z :: [.ref (mo 5)])) (pk_mul 2050 sd)) ?_
    refine lv_aload_n hx hb dX11_latest_24 rfl (lv_at hl 0 rfl) ?_
    refine gX11_26 C hT (q0 := 0) rfl dX11_latest_25 ?_
    refine lv_iload_n hx hb dX11_latest_28 rfl (lv_at hl 1 rfl) ?_
    refine r_iald C hT (q0 := 6) rfl sd rfl (by omega) (by decide) dX11_latest_29 ?_
    refine W.eq (g2 := F0 m 30 ls [.int (nI n), .int (nI (2050 * sd)), .ref (mo 5)]) (congrArg (fun z => F0 m 30 ls (.int z :: [.int (nI (2050 * sd)), .ref (mo 5)])) (hw)) ?_
    refine lv_iadd hx hb dX11_latest_30 ?_
    refine W.eq (g2 := F0 m 31 ls [.int (nI (2050 * sd + n)), .ref (mo 5)]) (congrArg (fun z => F0 m 31 ls (.int z :: [.ref (mo 5)])) (nI_add _ _)) ?_
    refine lv_iload_n hx hb dX11_latest_31 rfl (lv_at hl 2 rfl) ?_
    refine lv_isub hx hb dX11_latest_32 ?_
    refine W.eq (g2 := F0 m 33 ls [.int (nI (2050 * sd + n - k)), .ref (mo 5)]) (congrArg (fun z => F0 m 33 ls (.int z :: [.ref (mo 5)])) (pk_sub (by omega))) ?_
    refine r_iald C hT (q0 := 5) rfl (2050 * sd + n - k) rfl (by omega) (by decide) dX11_latest_33 ?_
    refine W.eq (g2 := F0 m 34 ls [.int (bb (2050 * sd + (n - k)))]) (congrArg (fun z => F0 m 34 ls (.int z :: [])) ((by rw [Nat.add_sub_assoc hkn]))) ?_
    exact e_iret C hQ () hT (by first | (rw [backN_p hk1 hkn]; rfl) | (rw [backN_0 (Or.inr hkn)])) dX11_latest_34
  · skip
    have hkn : n < k := by rcases Nat.lt_or_ge n k with q | q; exact q; exact absurd ((ge_sub (by omega) (by omega)).mpr q) h_1
    refine lv_iconst (v := 0) hx hb dX11_latest_11 (by decide) ?_
    refine lv_goto (tgt := 34) hx hb dX11_latest_12 (by decide) ?_
    exact e_iret C hQ () hT (by first | (rw [backN_p hk1 hkn]; rfl) | (rw [backN_0 (Or.inr hkn)])) dX11_latest_34

set_option maxHeartbeats 400000 in
set_option maxRecDepth 100000 in
theorem c_X11_nextOut (l : Launch) (g : GT) (mo : Nat → Nat) (rr : Nat) (th : Int32) (np : Nat) (no : Nat) (bt : Nat) (en : Bool) (xx : Int64) (ra : Nat) (t0 : Int32) (t1 : Int32) (s1 : Int32) (ca : Int32) (cq : Int32) (ch : Int32) (st : Nat → Int32) (fk : Nat → Int32) (fn : Nat → Int32) (fo : Nat → Int32) (bb : Nat → Int32) (wt : Nat → Int32) (nx : Nat → Int32) (cx : Nat → Int32) (pt : Nat → Int32) (le : Nat → Int32) (sc : Nat → Int32) (ss : Nat → Int32) (ww : Nat → Int32) (xc : Nat → Int32) (lo : Nat → Int64) (hi : Nat → Int64) (ou : Nat → Int32) (xi : Nat → Int32) (hno : no ≤ 3200) (hra : ra < 2 ^ 20) : OM (S := Unit) l g yX11_nextOut cX11_nextOut 2 (some .int) ({ frames := 0, cells := 0, slots := 0, locals := 0 } : Room) [.ref (mo 0)] (mdL g mo rr th np no bt en xx ra t0 t1 s1 ca cq ch st fk fn fo bb wt nx cx pt le sc ss ww xc lo hi ou xi) (fun _ => some (.int (nxtI no ou ra))) (fun _ => (mdL g mo rr th np no bt en xx (ra + 1) t0 t1 s1 ca cq ch st fk fn fo bb wt nx cx pt le sc ss ww xc lo hi ou xi)) := by
  refine OM.startQ (by decide) (Nat.le_of_ble_eq_true rfl) ?_
  intro p e s m below meth c A ls Q H locs hQ C hnm hl hT
  have hx := C.x
  have hb := C.b
  have hl : lv_has ls 2 [(0, .ref (mo 0))] := hl
  refine lv_aload_n hx hb dX11_nextOut_0 rfl (lv_at hl 0 rfl) ?_
  refine gX11_114 C hT (q0 := 0) rfl dX11_nextOut_1 ?_
  refine lv_aload_n hx hb dX11_nextOut_4 rfl (lv_at hl 0 rfl) ?_
  refine gX11_104 C hT (q0 := 0) rfl dX11_nextOut_5 ?_
  refine lv_icmp_ge (tgt := 23) hx hb dX11_nextOut_8 (by decide) (fun h_1 => ?_) (fun h_1 => ?_)
  · skip
    have hrn : ¬ ra < no := fun q => nI_ge q (by omega) h_1
    refine lv_iconst (v := 0) hx hb dX11_nextOut_23 (by decide) ?_
    refine W.eq (g2 := F0 m 24 ls [.int (nxtI no ou ra)]) (congrArg (fun z => F0 m 24 ls (.int z :: [])) ((by rw [nxtI, if_neg hrn]))) ?_
    refine lv_istore_n (lv' := [(1, .int (nxtI no ou ra)), (0, .ref (mo 0))]) hx hb dX11_nextOut_24 rfl hl (by decide) rfl (fun ls hl => ?_)
    refine lv_aload_n hx hb dX11_nextOut_25 rfl (lv_at hl 1 rfl) ?_
    refine lv_dup hx hb dX11_nextOut_26 rfl ?_
    refine gX11_114 C hT (q0 := 0) rfl dX11_nextOut_27 ?_
    refine lv_iconst (v := 1) hx hb dX11_nextOut_30 (by decide) ?_
    refine lv_iadd hx hb dX11_nextOut_31 ?_
    refine W.eq (g2 := F0 m 32 ls [.int (nI (ra + 1)), .ref (mo 0)]) (congrArg (fun z => F0 m 32 ls (.int z :: [.ref (mo 0)])) (nI_1 ra)) ?_
    refine pX11_114 C hT (q0 := 0) rfl dX11_nextOut_32 (fun H locs hT => ?_)
    have hT : Wd g A s (mdL g mo rr th np no bt en xx (ra + 1) t0 t1 s1 ca cq ch st fk fn fo bb wt nx cx pt le sc ss ww xc lo hi ou xi) H locs := hT
    refine lv_iload_n hx hb dX11_nextOut_35 rfl (lv_at hl 0 rfl) ?_
    exact e_iret C hQ () hT rfl dX11_nextOut_36
  · skip
    have hrn : ra < no := by rcases Nat.lt_or_ge ra no with q | q; exact q; exact absurd (nI_le q (by omega)) h_1
    refine lv_aload_n hx hb dX11_nextOut_11 rfl (lv_at hl 0 rfl) ?_
    refine gX11_60 C hT (q0 := 0) rfl dX11_nextOut_12 ?_
    refine lv_aload_n hx hb dX11_nextOut_15 rfl (lv_at hl 0 rfl) ?_
    refine gX11_114 C hT (q0 := 0) rfl dX11_nextOut_16 ?_
    refine r_iald C hT (q0 := 17) rfl ra rfl (by omega) (by decide) dX11_nextOut_19 ?_
    refine W.eq (g2 := F0 m 20 ls [.int (nxtI no ou ra)]) (congrArg (fun z => F0 m 20 ls (.int z :: [])) ((by rw [nxtI, if_pos hrn]))) ?_
    refine lv_goto (tgt := 24) hx hb dX11_nextOut_20 (by decide) ?_
    refine lv_istore_n (lv' := [(1, .int (nxtI no ou ra)), (0, .ref (mo 0))]) hx hb dX11_nextOut_24 rfl hl (by decide) rfl (fun ls hl => ?_)
    refine lv_aload_n hx hb dX11_nextOut_25 rfl (lv_at hl 1 rfl) ?_
    refine lv_dup hx hb dX11_nextOut_26 rfl ?_
    refine gX11_114 C hT (q0 := 0) rfl dX11_nextOut_27 ?_
    refine lv_iconst (v := 1) hx hb dX11_nextOut_30 (by decide) ?_
    refine lv_iadd hx hb dX11_nextOut_31 ?_
    refine W.eq (g2 := F0 m 32 ls [.int (nI (ra + 1)), .ref (mo 0)]) (congrArg (fun z => F0 m 32 ls (.int z :: [.ref (mo 0)])) (nI_1 ra)) ?_
    refine pX11_114 C hT (q0 := 0) rfl dX11_nextOut_32 (fun H locs hT => ?_)
    have hT : Wd g A s (mdL g mo rr th np no bt en xx (ra + 1) t0 t1 s1 ca cq ch st fk fn fo bb wt nx cx pt le sc ss ww xc lo hi ou xi) H locs := hT
    refine lv_iload_n hx hb dX11_nextOut_35 rfl (lv_at hl 0 rfl) ?_
    exact e_iret C hQ () hT rfl dX11_nextOut_36

set_option maxHeartbeats 400000 in
set_option maxRecDepth 100000 in
theorem c_X11_out (l : Launch) (g : GT) (mo : Nat → Nat) (rr : Nat) (th : Int32) (np : Nat) (no : Nat) (bt : Nat) (en : Bool) (xx : Int64) (ra : Nat) (t0 : Int32) (t1 : Int32) (s1 : Int32) (ca : Int32) (cq : Int32) (ch : Int32) (st : Nat → Int32) (fk : Nat → Int32) (fn : Nat → Int32) (fo : Nat → Int32) (bb : Nat → Int32) (wt : Nat → Int32) (nx : Nat → Int32) (cx : Nat → Int32) (pt : Nat → Int32) (le : Nat → Int32) (sc : Nat → Int32) (ss : Nat → Int32) (ww : Nat → Int32) (xc : Nat → Int32) (lo : Nat → Int64) (hi : Nat → Int64) (ou : Nat → Int32) (xi : Nat → Int32) (i : Int32) (hno : no ≤ 3200) : OM (S := Unit) l g yX11_out cX11_out 2 (some .int) ({ frames := 0, cells := 0, slots := 0, locals := 0 } : Room) [.ref (mo 0), .int i] (mdL g mo rr th np no bt en xx ra t0 t1 s1 ca cq ch st fk fn fo bb wt nx cx pt le sc ss ww xc lo hi ou xi) (fun _ => some (.int (if inR i no = true then ou i.toNatClampNeg else (-1)))) (fun _ => (mdL g mo rr 0 np no bt en xx ra t0 t1 s1 ca cq ch st fk fn fo bb wt nx cx pt le sc ss ww xc lo hi ou xi)) := by
  refine OM.startQ (by decide) (Nat.le_of_ble_eq_true rfl) ?_
  intro p e s m below meth c A ls Q H locs hQ C hnm hl hT
  have hx := C.x
  have hb := C.b
  have hl : lv_has ls 2 [(0, .ref (mo 0)), (1, .int i)] := hl
  refine lv_aload_n hx hb dX11_out_0 rfl (lv_at hl 0 rfl) ?_
  refine lv_iconst (v := 0) hx hb dX11_out_1 (by decide) ?_
  refine pX11_77 C hT (q0 := 0) rfl dX11_out_2 (fun H locs hT => ?_)
  have hT : Wd g A s (mdL g mo rr 0 np no bt en xx ra t0 t1 s1 ca cq ch st fk fn fo bb wt nx cx pt le sc ss ww xc lo hi ou xi) H locs := hT
  refine lv_iload_n hx hb dX11_out_5 rfl (lv_at hl 1 rfl) ?_
  refine lv_if_lt (tgt := 17) hx hb dX11_out_6 (by decide) (fun h_1 => ?_) (fun h_1 => ?_)
  · skip
    have hr : inR i no = false := by simp [inR, h_1]
    refine lv_iconst (v := (-1)) hx hb dX11_out_17 (by decide) ?_
    refine lv_goto (tgt := 27) hx hb dX11_out_18 (by decide) ?_
    exact e_iret C hQ () hT (by first | (rw [if_pos hr, vek, nI_clamp (by omega)]; done) | (rw [if_neg (by rw [hr]; decide)])) dX11_out_27
  · skip
    have hi0 := h_1
    refine lv_iload_n hx hb dX11_out_9 rfl (lv_at hl 1 rfl) ?_
    refine lv_aload_n hx hb dX11_out_10 rfl (lv_at hl 0 rfl) ?_
    refine gX11_104 C hT (q0 := 0) rfl dX11_out_11 ?_
    refine lv_icmp_lt (tgt := 21) hx hb dX11_out_14 (by decide) (fun h_2 => ?_) (fun h_2 => ?_)
    · skip
      have hr : inR i no = true := inR_lt hi0 h_2
      obtain ⟨k, hk, vek⟩ := inR_of (by omega) hr
      refine lv_aload_n hx hb dX11_out_21 rfl (lv_at hl 0 rfl) ?_
      refine gX11_60 C hT (q0 := 0) rfl dX11_out_22 ?_
      refine lv_iload_n hx hb dX11_out_25 rfl (lv_at hl 1 rfl) ?_
      refine r_iald C hT (q0 := 17) rfl k vek (by omega) (by decide) dX11_out_26 ?_
      exact e_iret C hQ () hT (by first | (rw [if_pos hr, vek, nI_clamp (by omega)]; done) | (rw [if_neg (by rw [hr]; decide)])) dX11_out_27
    · skip
      have hr : inR i no = false := inR_nlt h_2
      refine lv_iconst (v := (-1)) hx hb dX11_out_17 (by decide) ?_
      refine lv_goto (tgt := 27) hx hb dX11_out_18 (by decide) ?_
      exact e_iret C hQ () hT (by first | (rw [if_pos hr, vek, nI_clamp (by omega)]; done) | (rw [if_neg (by rw [hr]; decide)])) dX11_out_27
