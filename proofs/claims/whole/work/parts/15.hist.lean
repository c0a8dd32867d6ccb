set_option maxHeartbeats 400000 in
set_option maxRecDepth 100000 in
theorem c_X2_reset (l : Launch) (g : GT) (a0 : Nat) (ab : Nat) (n : Nat) (nd : Nat) (bg : Nat) : OM (S := Unit) l g yX2_reset cX2_reset 1 none ({ frames := 0, cells := 0, slots := 0, locals := 0 } : Room) [.ref a0] [(a0, .inr (2, [.ref ab, .int (nI n), .int (nI nd), .int (nI bg)]))] (fun _ => none) (fun _ => [(a0, .inr (2, [.ref ab, .int (nI 0), .int (nI 1), .int (nI 0)]))]) := by
  refine OM.startQ (by decide) (Nat.le_of_ble_eq_true rfl) ?_
  intro p e s m below meth c A ls Q H locs hQ C hnm hl hT
  have hx := C.x
  have hb := C.b
  have hl : lv_has ls 1 [(0, .ref a0)] := hl
  refine lv_aload_n hx hb dX2_reset_0 rfl (lv_at hl 0 rfl) ?_
  refine lv_iconst (v := 0) hx hb dX2_reset_1 (by decide) ?_
  refine W.eq (g2 := F0 m 2 ls [.int (nI 0), .ref a0]) (congrArg (fun z => F0 m 2 ls (.int z :: [.ref a0])) (rfl)) ?_
  refine pX2_19 C hT (q0 := 0) rfl dX2_reset_2 (fun H locs hT => ?_)
  have hT : Wd g A s [(a0, .inr (2, [.ref ab, .int (nI 0), .int (nI nd), .int (nI bg)]))] H locs := hT
  refine lv_aload_n hx hb dX2_reset_5 rfl (lv_at hl 0 rfl) ?_
  refine lv_iconst (v := 1) hx hb dX2_reset_6 (by decide) ?_
  refine W.eq (g2 := F0 m 7 ls [.int (nI 1), .ref a0]) (congrArg (fun z => F0 m 7 ls (.int z :: [.ref a0])) (rfl)) ?_
  refine pX2_15 C hT (q0 := 0) rfl dX2_reset_7 (fun H locs hT => ?_)
  have hT : Wd g A s [(a0, .inr (2, [.ref ab, .int (nI 0), .int (nI 1), .int (nI bg)]))] H locs := hT
  refine lv_aload_n hx hb dX2_reset_10 rfl (lv_at hl 0 rfl) ?_
  refine lv_iconst (v := 0) hx hb dX2_reset_11 (by decide) ?_
  refine W.eq (g2 := F0 m 12 ls [.int (nI 0), .ref a0]) (congrArg (fun z => F0 m 12 ls (.int z :: [.ref a0])) (rfl)) ?_
  refine pX2_22 C hT (q0 := 0) rfl dX2_reset_12 (fun H locs hT => ?_)
  have hT : Wd g A s [(a0, .inr (2, [.ref ab, .int (nI 0), .int (nI 1), .int (nI 0)]))] H locs := hT
  exact e_vret C hQ () hT rfl dX2_reset_15

set_option maxHeartbeats 400000 in
set_option maxRecDepth 100000 in
theorem c_X2_begun (l : Launch) (g : GT) (a0 : Nat) (ab : Nat) (n : Nat) (nd : Nat) (bg : Nat) (hn : n ≤ 2000) (hb : bg ≤ 8) : OM (S := Unit) l g yX2_begun cX2_begun 1 (some .boolean) ({ frames := 0, cells := 0, slots := 0, locals := 0 } : Room) [.ref a0] [(a0, .inr (2, [.ref ab, .int (nI n), .int (nI nd), .int (nI bg)]))] (fun _ => some (.int (b01 (decide (0 < n) || decide (0 < bg))))) (fun _ => [(a0, .inr (2, [.ref ab, .int (nI n), .int (nI nd), .int (nI bg)]))]) := by
  refine OM.startQ (by decide) (Nat.le_of_ble_eq_true rfl) ?_
  intro p e s m below meth c A ls Q H locs hQ C hnm hl hT
  have hx := C.x
  have hb := C.b
  have hl : lv_has ls 1 [(0, .ref a0)] := hl
  refine lv_aload_n hx hb dX2_begun_0 rfl (lv_at hl 0 rfl) ?_
  refine gX2_19 C hT (q0 := 0) rfl dX2_begun_1 ?_
  refine lv_if_gt (tgt := 14) hx hb dX2_begun_4 (by decide) (fun h_1 => ?_) (fun h_1 => ?_)
  · skip
    have h_1 : 0 < n := (nI_ltI (a := 0) (by decide) (by omega)).mp h_1
    refine lv_iconst (v := 1) hx hb dX2_begun_14 (by decide) ?_
    refine lv_goto (tgt := 19) hx hb dX2_begun_15 (by decide) ?_
    exact e_zret C hQ () hT (by simp [b01, h_1]) (by decide) dX2_begun_19
  · skip
    have h_1 : ¬ 0 < n := fun q => h_1 (nI_lt (a := 0) q (by omega))
    refine lv_aload_n hx hb dX2_begun_7 rfl (lv_at hl 0 rfl) ?_
    refine gX2_22 C hT (q0 := 0) rfl dX2_begun_8 ?_
    refine lv_if_le (tgt := 18) hx hb dX2_begun_11 (by decide) (fun h_2 => ?_) (fun h_2 => ?_)
    · skip
      have h_2 : ¬ 0 < bg := fun q => nI_nle q (by omega) h_2
      refine lv_iconst (v := 0) hx hb dX2_begun_18 (by decide) ?_
      exact e_zret C hQ () hT (by simp [b01, h_1, h_2]) (by decide) dX2_begun_19
    · skip
      have h_2 : 0 < bg := by rcases Nat.eq_zero_or_pos bg with q | q; exact absurd (by rw [q]; decide) h_2; exact q
      refine lv_iconst (v := 1) hx hb dX2_begun_14 (by decide) ?_
      refine lv_goto (tgt := 19) hx hb dX2_begun_15 (by decide) ?_
      exact e_zret C hQ () hT (by simp [b01, h_1, h_2]) (by decide) dX2_begun_19

set_option maxHeartbeats 400000 in
set_option maxRecDepth 100000 in
theorem c_X2_byteAt (l : Launch) (g : GT) (a0 : Nat) (ab : Nat) (n : Nat) (nd : Nat) (bg : Nat) (f : Nat → Int32) (pl : Nat) (hn : n ≤ 2000) (hpl : pl < 2 ^ 30) : OM (S := Unit) l g yX2_byteAt cX2_byteAt 2 (some .int) ({ frames := 0, cells := 0, slots := 0, locals := 0 } : Room) [.ref a0, .int (nI pl)] [(a0, .inr (2, [.ref ab, .int (nI n), .int (nI nd), .int (nI bg)])), (ab, .inl (g.2.1 0, 2000, .inl f))] (fun _ => some (.int (byteN f n pl))) (fun _ => [(a0, .inr (2, [.ref ab, .int (nI n), .int (nI nd), .int (nI bg)])), (ab, .inl (g.2.1 0, 2000, .inl f))]) := by
  refine OM.startQ (by decide) (Nat.le_of_ble_eq_true rfl) ?_
  intro p e s m below meth c A ls Q H locs hQ C hnm hl hT
  have hx := C.x
  have hb := C.b
  have hl : lv_has ls 2 [(0, .ref a0), (1, .int (nI pl))] := hl
  refine lv_iload_n hx hb dX2_byteAt_0 rfl (lv_at hl 1 rfl) ?_
  refine lv_if_lt (tgt := 21) hx hb dX2_byteAt_1 (by decide) (fun h_1 => ?_) (fun h_1 => ?_)
  · skip
    exact absurd h_1 (nI_pos (by omega))
  · skip
    refine lv_iload_n hx hb dX2_byteAt_4 rfl (lv_at hl 1 rfl) ?_
    refine lv_aload_n hx hb dX2_byteAt_5 rfl (lv_at hl 0 rfl) ?_
    refine gX2_19 C hT (q0 := 0) rfl dX2_byteAt_6 ?_
    refine lv_icmp_ge (tgt := 21) hx hb dX2_byteAt_9 (by decide) (fun h_2 => ?_) (fun h_2 => ?_)
    · skip
      have hpn : n ≤ pl := (nI_leI (by omega) (by omega)).mp h_2
      refine lv_iconst (v := 0) hx hb dX2_byteAt_21 (by decide) ?_
      exact e_iret C hQ () hT (by first | (rw [byteN_p hpn]; done) | (rw [byteN_0 hpn])) dX2_byteAt_22
    · skip
      have hpn : pl < n := by rcases Nat.lt_or_ge pl n with q | q; exact q; exact absurd (nI_le q (by omega)) h_2
      refine lv_aload_n hx hb dX2_byteAt_12 rfl (lv_at hl 0 rfl) ?_
      refine gX2_9 C hT (q0 := 0) rfl dX2_byteAt_13 ?_
      refine lv_iload_n hx hb dX2_byteAt_16 rfl (lv_at hl 1 rfl) ?_
      refine r_iald C hT (q0 := 1) rfl pl rfl (by omega) (by decide) dX2_byteAt_17 ?_
      refine lv_goto (tgt := 22) hx hb dX2_byteAt_18 (by decide) ?_
      exact e_iret C hQ () hT (by first | (rw [byteN_p hpn]; done) | (rw [byteN_0 hpn])) dX2_byteAt_22

set_option maxHeartbeats 400000 in
set_option maxRecDepth 100000 in
theorem c_X2_back (l : Launch) (g : GT) (a0 : Nat) (ab : Nat) (n : Nat) (nd : Nat) (bg : Nat) (f : Nat → Int32) (k : Nat) (hn : n ≤ 2000) (hk : k < 2 ^ 30) : OM (S := Unit) l g yX2_back cX2_back 3 (some .int) ({ frames := 0, cells := 0, slots := 0, locals := 0 } : Room) [.ref a0, .int (nI k)] [(a0, .inr (2, [.ref ab, .int (nI n), .int (nI nd), .int (nI bg)])), (ab, .inl (g.2.1 0, 2000, .inl f))] (fun _ => some (.int (backN f n k))) (fun _ => [(a0, .inr (2, [.ref ab, .int (nI n), .int (nI nd), .int (nI bg)])), (ab, .inl (g.2.1 0, 2000, .inl f))]) := by
  refine OM.startQ (by decide) (Nat.le_of_ble_eq_true rfl) ?_
  intro p e s m below meth c A ls Q H locs hQ C hnm hl hT
  have hx := C.x
  have hb := C.b
  have hl : lv_has ls 3 [(0, .ref a0), (1, .int (nI k))] := hl
  refine lv_aload_n hx hb dX2_back_0 rfl (lv_at hl 0 rfl) ?_
  refine gX2_19 C hT (q0 := 0) rfl dX2_back_1 ?_
  refine lv_iload_n hx hb dX2_back_4 rfl (lv_at hl 1 rfl) ?_
  refine lv_isub hx hb dX2_back_5 ?_
  refine lv_topi (fun x_1 ex_1 => ?_)
  refine lv_istore_n (lv' := [(2, .int x_1), (0, .ref a0), (1, .int (nI k))]) hx hb dX2_back_6 rfl hl (by decide) rfl (fun ls hl => ?_)
  refine lv_iload_n hx hb dX2_back_7 rfl (lv_at hl 0 rfl) ?_
  refine lv_if_lt (tgt := 28) hx hb dX2_back_8 (by decide) (fun h_2 => ?_) (fun h_2 => ?_)
  · skip
    have hkn : n < k := by rcases Nat.lt_or_ge n k with q | q; exact q; exact absurd h_2 (by rw [ex_1, pk_sub q]; exact nI_pos (by omega))
    refine lv_iconst (v := 0) hx hb dX2_back_28 (by decide) ?_
    exact e_iret C hQ () hT (by first | (rw [backN_p hk1 hkn]; done) | (rw [backN_0 (Or.inl hk0)]; done) | (rw [backN_0 (Or.inr hkn)])) dX2_back_29
  · skip
    have hkn : k ≤ n := by rcases Nat.lt_or_ge n k with q | q; exact absurd (by rw [ex_1]; exact nI_sub_neg q hk) h_2; exact q
    have ex : x_1 = nI (n - k) := by rw [ex_1]; exact pk_sub hkn
    refine lv_iload_n hx hb dX2_back_11 rfl (lv_at hl 0 rfl) ?_
    refine lv_aload_n hx hb dX2_back_12 rfl (lv_at hl 1 rfl) ?_
    refine gX2_19 C hT (q0 := 0) rfl dX2_back_13 ?_
    refine lv_icmp_ge (tgt := 28) hx hb dX2_back_16 (by decide) (fun h_3 => ?_) (fun h_3 => ?_)
    · skip
      have hk0 : k = 0 := by rw [ex] at h_3; have := (nI_leI (by omega) (by omega)).mp h_3; omega
      refine lv_iconst (v := 0) hx hb dX2_back_28 (by decide) ?_
      exact e_iret C hQ () hT (by first | (rw [backN_p hk1 hkn]; done) | (rw [backN_0 (Or.inl hk0)]; done) | (rw [backN_0 (Or.inr hkn)])) dX2_back_29
    · skip
      have hk1 : 1 ≤ k := by rcases Nat.eq_zero_or_pos k with q | q; exact absurd (by rw [ex, q]; exact nI_le (by omega) (by omega)) h_3; exact q
      refine lv_aload_n hx hb dX2_back_19 rfl (lv_at hl 1 rfl) ?_
      refine gX2_9 C hT (q0 := 0) rfl dX2_back_20 ?_
      refine lv_iload_n hx hb dX2_back_23 rfl (lv_at hl 0 rfl) ?_
      refine r_iald C hT (q0 := 1) rfl (n - k) ex (by omega) (by decide) dX2_back_24 ?_
      refine lv_goto (tgt := 29) hx hb dX2_back_25 (by decide) ?_
      exact e_iret C hQ () hT (by first | (rw [backN_p hk1 hkn]; done) | (rw [backN_0 (Or.inl hk0)]; done) | (rw [backN_0 (Or.inr hkn)])) dX2_back_29

set_option maxHeartbeats 400000 in
set_option maxRecDepth 100000 in
theorem c_X2_add (l : Launch) (g : GT) (a0 : Nat) (ab : Nat) (n : Nat) (nd : Nat) (bg : Nat) (f : Nat → Int32) (on : Int32) (hnd : nd < 256) (hb : bg < 7) : OM (S := Unit) l g yX2_add cX2_add 2 (some .boolean) ({ frames := 0, cells := 0, slots := 0, locals := 0 } : Room) [.ref a0, .int on] [(a0, .inr (2, [.ref ab, .int (nI n), .int (nI nd), .int (nI bg)])), (ab, .inl (g.2.1 0, 2000, .inl f))] (fun _ => some (.int 0)) (fun _ => [(a0, .inr (2, [.ref ab, .int (nI n), .int (nI (2 * nd + bitN on)), .int (nI (bg + 1))])), (ab, .inl (g.2.1 0, 2000, .inl f))]) := by
  refine OM.startQ (by decide) (Nat.le_of_ble_eq_true rfl) ?_
  intro p e s m below meth c A ls Q H locs hQ C hnm hl hT
  have hx := C.x
  have hb := C.b
  have hl : lv_has ls 2 [(0, .ref a0), (1, .int on)] := hl
  refine lv_aload_n hx hb dX2_add_0 rfl (lv_at hl 0 rfl) ?_
  refine lv_aload_n hx hb dX2_add_1 rfl (lv_at hl 0 rfl) ?_
  refine gX2_15 C hT (q0 := 0) rfl dX2_add_2 ?_
  refine lv_iconst (v := 1) hx hb dX2_add_5 (by decide) ?_
  refine lv_ishl hx hb dX2_add_6 ?_
  refine lv_iload_n hx hb dX2_add_7 rfl (lv_at hl 1 rfl) ?_
  refine r_ite (ls := ls) (J := 16) (a1 := 0) (a2 := 1) (rest := [.int ((nI nd) <<< (1 &&& 31)), .ref a0]) (lv_if_eq (tgt := 15) hx hb dX2_add_8 (by decide)) (fun h_1 kont => ?_) (fun h_1 kont => ?_) ?_
  · skip
    refine lv_iconst (v := 0) hx hb dX2_add_15 (by decide) ?_
    exact kont
  · skip
    refine lv_iconst (v := 1) hx hb dX2_add_11 (by decide) ?_
    refine lv_goto (tgt := 16) hx hb dX2_add_12 (by decide) ?_
    exact kont
  refine lv_ior hx hb dX2_add_16 ?_
  refine W.eq (g2 := F0 m 17 ls [.int (nI (2 * nd + bitN on)), .ref a0]) (congrArg (fun z => F0 m 17 ls (.int z :: [.ref a0])) (node_bit hnd)) ?_
  refine pX2_15 C hT (q0 := 0) rfl dX2_add_17 (fun H locs hT => ?_)
  have hT : Wd g A s [(a0, .inr (2, [.ref ab, .int (nI n), .int (nI (2 * nd + bitN on)), .int (nI bg)])), (ab, .inl (g.2.1 0, 2000, .inl f))] H locs := hT
  refine lv_aload_n hx hb dX2_add_20 rfl (lv_at hl 0 rfl) ?_
  refine lv_dup hx hb dX2_add_21 rfl ?_
  refine gX2_22 C hT (q0 := 0) rfl dX2_add_22 ?_
  refine lv_iconst (v := 1) hx hb dX2_add_25 (by decide) ?_
  refine lv_iadd hx hb dX2_add_26 ?_
  refine W.eq (g2 := F0 m 27 ls [.int (nI (bg + 1)), .ref a0]) (congrArg (fun z => F0 m 27 ls (.int z :: [.ref a0])) (nI_1 bg)) ?_
  refine pX2_22 C hT (q0 := 0) rfl dX2_add_27 (fun H locs hT => ?_)
  have hT : Wd g A s [(a0, .inr (2, [.ref ab, .int (nI n), .int (nI (2 * nd + bitN on)), .int (nI (bg + 1))])), (ab, .inl (g.2.1 0, 2000, .inl f))] H locs := hT
  refine lv_aload_n hx hb dX2_add_30 rfl (lv_at hl 0 rfl) ?_
  refine gX2_22 C hT (q0 := 0) rfl dX2_add_31 ?_
  refine lv_bipush (v := 8) hx hb dX2_add_34 (by decide) ?_
  refine lv_icmp_ge (tgt := 41) hx hb dX2_add_36 (by decide) (fun h_2 => ?_) (fun h_2 => ?_)
  · skip
    exact absurd h_2 (nI_ge (b := 8) (by omega) (by decide))
  · skip
    refine lv_iconst (v := 0) hx hb dX2_add_39 (by decide) ?_
    exact e_zret C hQ () hT rfl (by decide) dX2_add_40

set_option maxHeartbeats 400000 in
set_option maxRecDepth 100000 in
theorem c_X2_add_last (l : Launch) (g : GT) (a0 : Nat) (ab : Nat) (n : Nat) (nd : Nat) (bg : Nat) (f : Nat → Int32) (on : Int32) (hn : n < 2000) (hnd : nd < 256) (hb7 : bg = 7) : OM (S := Unit) l g yX2_add cX2_add 2 (some .boolean) ({ frames := 0, cells := 0, slots := 0, locals := 0 } : Room) [.ref a0, .int on] [(a0, .inr (2, [.ref ab, .int (nI n), .int (nI nd), .int (nI bg)])), (ab, .inl (g.2.1 0, 2000, .inl f))] (fun _ => some (.int 1)) (fun _ => [(a0, .inr (2, [.ref ab, .int (nI (n + 1)), .int (nI 1), .int (nI 0)])), (ab, .inl (g.2.1 0, 2000, .inl (upd f n (nI ((2 * nd + bitN on) % 256)))))]) := by
  refine OM.startQ (by decide) (Nat.le_of_ble_eq_true rfl) ?_
  intro p e s m below meth c A ls Q H locs hQ C hnm hl hT
  have hx := C.x
  have hb := C.b
  have hl : lv_has ls 2 [(0, .ref a0), (1, .int on)] := hl
  refine lv_aload_n hx hb dX2_add_0 rfl (lv_at hl 0 rfl) ?_
  refine lv_aload_n hx hb dX2_add_1 rfl (lv_at hl 0 rfl) ?_
  refine gX2_15 C hT (q0 := 0) rfl dX2_add_2 ?_
  refine lv_iconst (v := 1) hx hb dX2_add_5 (by decide) ?_
  refine lv_ishl hx hb dX2_add_6 ?_
  refine lv_iload_n hx hb dX2_add_7 rfl (lv_at hl 1 rfl) ?_
  refine r_ite (ls := ls) (J := 16) (a1 := 0) (a2 := 1) (rest := [.int ((nI nd) <<< (1 &&& 31)), .ref a0]) (lv_if_eq (tgt := 15) hx hb dX2_add_8 (by decide)) (fun h_1 kont => ?_) (fun h_1 kont => ?_) ?_
  · skip
    refine lv_iconst (v := 0) hx hb dX2_add_15 (by decide) ?_
    exact kont
  · skip
    refine lv_iconst (v := 1) hx hb dX2_add_11 (by decide) ?_
    refine lv_goto (tgt := 16) hx hb dX2_add_12 (by decide) ?_
    exact kont
  refine lv_ior hx hb dX2_add_16 ?_
  refine W.eq (g2 := F0 m 17 ls [.int (nI (2 * nd + bitN on)), .ref a0]) (congrArg (fun z => F0 m 17 ls (.int z :: [.ref a0])) (node_bit hnd)) ?_
  refine pX2_15 C hT (q0 := 0) rfl dX2_add_17 (fun H locs hT => ?_)
  have hT : Wd g A s [(a0, .inr (2, [.ref ab, .int (nI n), .int (nI (2 * nd + bitN on)), .int (nI bg)])), (ab, .inl (g.2.1 0, 2000, .inl f))] H locs := hT
  refine lv_aload_n hx hb dX2_add_20 rfl (lv_at hl 0 rfl) ?_
  refine lv_dup hx hb dX2_add_21 rfl ?_
  refine gX2_22 C hT (q0 := 0) rfl dX2_add_22 ?_
  refine lv_iconst (v := 1) hx hb dX2_add_25 (by decide) ?_
  refine lv_iadd hx hb dX2_add_26 ?_
  refine W.eq (g2 := F0 m 27 ls [.int (nI 8), .ref a0]) (congrArg (fun z => F0 m 27 ls (.int z :: [.ref a0])) ((by rw [hb7]; exact nI_1 7))) ?_
  refine pX2_22 C hT (q0 := 0) rfl dX2_add_27 (fun H locs hT => ?_)
  have hT : Wd g A s [(a0, .inr (2, [.ref ab, .int (nI n), .int (nI (2 * nd + bitN on)), .int (nI 8)])), (ab, .inl (g.2.1 0, 2000, .inl f))] H locs := hT
  refine lv_aload_n hx hb dX2_add_30 rfl (lv_at hl 0 rfl) ?_
  refine gX2_22 C hT (q0 := 0) rfl dX2_add_31 ?_
  refine lv_bipush (v := 8) hx hb dX2_add_34 (by decide) ?_
  refine lv_icmp_ge (tgt := 41) hx hb dX2_add_36 (by decide) (fun h_2 => ?_) (fun h_2 => ?_)
  · skip
    refine lv_aload_n hx hb dX2_add_41 rfl (lv_at hl 0 rfl) ?_
    refine gX2_19 C hT (q0 := 0) rfl dX2_add_42 ?_
    refine lv_aload_n hx hb dX2_add_45 rfl (lv_at hl 0 rfl) ?_
    refine gX2_9 C hT (q0 := 0) rfl dX2_add_46 ?_
    refine r_alen C hT (q0 := 1) 0 rfl rfl dX2_add_49 ?_
    refine W.eq (g2 := F0 m 50 ls [.int (nI 2000), .int (nI n)]) rfl ?_
    refine lv_icmp_ge (tgt := 80) hx hb dX2_add_50 (by decide) (fun h_3 => ?_) (fun h_3 => ?_)
    · skip
      exact absurd h_3 (nI_ge hn (by decide))
    · skip
      refine lv_aload_n hx hb dX2_add_53 rfl (lv_at hl 0 rfl) ?_
      refine gX2_9 C hT (q0 := 0) rfl dX2_add_54 ?_
      refine lv_aload_n hx hb dX2_add_57 rfl (lv_at hl 0 rfl) ?_
      refine gX2_19 C hT (q0 := 0) rfl dX2_add_58 ?_
      refine lv_aload_n hx hb dX2_add_61 rfl (lv_at hl 0 rfl) ?_
      refine gX2_15 C hT (q0 := 0) rfl dX2_add_62 ?_
      refine lv_sipush (v := 255) hx hb dX2_add_65 (by decide) ?_
      refine lv_iand hx hb dX2_add_68 ?_
      refine W.eq (g2 := F0 m 69 ls [.int (nI ((2 * nd + bitN on) % 256)), .int (nI n), .ref ab]) (congrArg (fun z => F0 m 69 ls (.int z :: [.int (nI n), .ref ab])) (pk_andN (by have := bitN_lt on; omega) 8 (by decide))) ?_
      refine r_iast C hT (q0 := 1) rfl n rfl (by omega) (by decide) dX2_add_69 (fun H locs hT => ?_)
      have hT : Wd g A s [(a0, .inr (2, [.ref ab, .int (nI n), .int (nI (2 * nd + bitN on)), .int (nI 8)])), (ab, .inl (g.2.1 0, 2000, .inl (upd f n (nI ((2 * nd + bitN on) % 256)))))] H locs := hT
      refine lv_aload_n hx hb dX2_add_70 rfl (lv_at hl 0 rfl) ?_
      refine lv_dup hx hb dX2_add_71 rfl ?_
      refine gX2_19 C hT (q0 := 0) rfl dX2_add_72 ?_
      refine lv_iconst (v := 1) hx hb dX2_add_75 (by decide) ?_
      refine lv_iadd hx hb dX2_add_76 ?_
      refine W.eq (g2 := F0 m 77 ls [.int (nI (n + 1)), .ref a0]) (congrArg (fun z => F0 m 77 ls (.int z :: [.ref a0])) (nI_1 n)) ?_
      refine pX2_19 C hT (q0 := 0) rfl dX2_add_77 (fun H locs hT => ?_)
      have hT : Wd g A s [(a0, .inr (2, [.ref ab, .int (nI (n + 1)), .int (nI (2 * nd + bitN on)), .int (nI 8)])), (ab, .inl (g.2.1 0, 2000, .inl (upd f n (nI ((2 * nd + bitN on) % 256)))))] H locs := hT
      refine lv_aload_n hx hb dX2_add_80 rfl (lv_at hl 0 rfl) ?_
      refine lv_iconst (v := 1) hx hb dX2_add_81 (by decide) ?_
      refine W.eq (g2 := F0 m 82 ls [.int (nI 1), .ref a0]) (congrArg (fun z => F0 m 82 ls (.int z :: [.ref a0])) (rfl)) ?_
      refine pX2_15 C hT (q0 := 0) rfl dX2_add_82 (fun H locs hT => ?_)
      have hT : Wd g A s [(a0, .inr (2, [.ref ab, .int (nI (n + 1)), .int (nI 1), .int (nI 8)])), (ab, .inl (g.2.1 0, 2000, .inl (upd f n (nI ((2 * nd + bitN on) % 256)))))] H locs := hT
      refine lv_aload_n hx hb dX2_add_85 rfl (lv_at hl 0 rfl) ?_
      refine lv_iconst (v := 0) hx hb dX2_add_86 (by decide) ?_
      refine W.eq (g2 := F0 m 87 ls [.int (nI 0), .ref a0]) (congrArg (fun z => F0 m 87 ls (.int z :: [.ref a0])) (rfl)) ?_
      refine pX2_22 C hT (q0 := 0) rfl dX2_add_87 (fun H locs hT => ?_)
      have hT : Wd g A s [(a0, .inr (2, [.ref ab, .int (nI (n + 1)), .int (nI 1), .int (nI 0)])), (ab, .inl (g.2.1 0, 2000, .inl (upd f n (nI ((2 * nd + bitN on) % 256)))))] H locs := hT
      refine lv_iconst (v := 1) hx hb dX2_add_90 (by decide) ?_
      exact e_zret C hQ () hT rfl (by decide) dX2_add_91
  · skip
    exact absurd (show (8 : Int32) ≤ nI 8 by decide) h_2

set_option maxHeartbeats 400000 in
set_option maxRecDepth 100000 in
theorem c_X2_isLetter (l : Launch) (g : GT) (x : Int32) : OM (S := Unit) l g yX2_isLetter cX2_isLetter 1 (some .boolean) ({ frames := 0, cells := 0, slots := 0, locals := 0 } : Room) [.int x] [] (fun _ => some (.int (b01 (letB x)))) (fun _ => []) := by
  refine OM.startQ (by decide) (Nat.le_of_ble_eq_true rfl) ?_
  intro p e s m below meth c A ls Q H locs hQ C hnm hl hT
  have hx := C.x
  have hb := C.b
  have hl : lv_has ls 1 [(0, .int x)] := hl
  refine lv_iload_n hx hb dX2_isLetter_0 rfl (lv_at hl 0 rfl) ?_
  refine lv_bipush (v := 65) hx hb dX2_isLetter_1 (by decide) ?_
  refine lv_icmp_lt (tgt := 12) hx hb dX2_isLetter_3 (by decide) (fun h_1 => ?_) (fun h_1 => ?_)
  · skip
    refine lv_iload_n hx hb dX2_isLetter_12 rfl (lv_at hl 0 rfl) ?_
    refine lv_bipush (v := 97) hx hb dX2_isLetter_13 (by decide) ?_
    refine lv_icmp_lt (tgt := 28) hx hb dX2_isLetter_15 (by decide) (fun h_2 => ?_) (fun h_2 => ?_)
    · skip
      refine lv_iconst (v := 0) hx hb dX2_isLetter_28 (by decide) ?_
      exact e_zret C hQ () hT (by simp [b01, letB, h_1, h_2]) (by decide) dX2_isLetter_29
    · skip
      refine lv_iload_n hx hb dX2_isLetter_18 rfl (lv_at hl 0 rfl) ?_
      refine lv_bipush (v := 122) hx hb dX2_isLetter_19 (by decide) ?_
      refine lv_icmp_gt (tgt := 28) hx hb dX2_isLetter_21 (by decide) (fun h_3 => ?_) (fun h_3 => ?_)
      · skip
        refine lv_iconst (v := 0) hx hb dX2_isLetter_28 (by decide) ?_
        exact e_zret C hQ () hT (by simp [b01, letB, h_1, h_2, h_3]) (by decide) dX2_isLetter_29
      · skip
        refine lv_iconst (v := 1) hx hb dX2_isLetter_24 (by decide) ?_
        refine lv_goto (tgt := 29) hx hb dX2_isLetter_25 (by decide) ?_
        exact e_zret C hQ () hT (by simp [b01, letB, h_1, h_2, h_3]) (by decide) dX2_isLetter_29
  · skip
    refine lv_iload_n hx hb dX2_isLetter_6 rfl (lv_at hl 0 rfl) ?_
    refine lv_bipush (v := 90) hx hb dX2_isLetter_7 (by decide) ?_
    refine lv_icmp_le (tgt := 24) hx hb dX2_isLetter_9 (by decide) (fun h_4 => ?_) (fun h_4 => ?_)
    · skip
      refine lv_iconst (v := 1) hx hb dX2_isLetter_24 (by decide) ?_
      refine lv_goto (tgt := 29) hx hb dX2_isLetter_25 (by decide) ?_
      exact e_zret C hQ () hT (by simp [b01, letB, h_1, h_4]) (by decide) dX2_isLetter_29
    · skip
      refine lv_iload_n hx hb dX2_isLetter_12 rfl (lv_at hl 0 rfl) ?_
      refine lv_bipush (v := 97) hx hb dX2_isLetter_13 (by decide) ?_
      refine lv_icmp_lt (tgt := 28) hx hb dX2_isLetter_15 (by decide) (fun h_5 => ?_) (fun h_5 => ?_)
      · skip
        refine lv_iconst (v := 0) hx hb dX2_isLetter_28 (by decide) ?_
        exact e_zret C hQ () hT (by simp [b01, letB, h_1, h_4, h_5]) (by decide) dX2_isLetter_29
      · skip
        refine lv_iload_n hx hb dX2_isLetter_18 rfl (lv_at hl 0 rfl) ?_
        refine lv_bipush (v := 122) hx hb dX2_isLetter_19 (by decide) ?_
        refine lv_icmp_gt (tgt := 28) hx hb dX2_isLetter_21 (by decide) (fun h_6 => ?_) (fun h_6 => ?_)
        · skip
          refine lv_iconst (v := 0) hx hb dX2_isLetter_28 (by decide) ?_
          exact e_zret C hQ () hT (by simp [b01, letB, h_1, h_4, h_5, h_6]) (by decide) dX2_isLetter_29
        · skip
          refine lv_iconst (v := 1) hx hb dX2_isLetter_24 (by decide) ?_
          refine lv_goto (tgt := 29) hx hb dX2_isLetter_25 (by decide) ?_
          exact e_zret C hQ () hT (by simp [b01, letB, h_1, h_4, h_5, h_6]) (by decide) dX2_isLetter_29

set_option maxHeartbeats 400000 in
set_option maxRecDepth 100000 in
theorem c_X2_latestContext (l : Launch) (g : GT) (a0 : Nat) (ab : Nat) (n : Nat) (nd : Nat) (bg : Nat) (f : Nat → Int32) (t : Nat) (hn : n ≤ 2000) (ht : t < 2 ^ 20) : OM (S := Unit) l g yX2_latestContext cX2_latestContext 4 (some .int) ({ frames := 1, cells := 0, slots := 0, locals := 22 } : Room) [.ref a0, .int (nI t)] [(a0, .inr (2, [.ref ab, .int (nI n), .int (nI nd), .int (nI bg)])), (ab, .inl (g.2.1 0, 2000, .inl f))] (fun _ => some (.int (latH f n t t))) (fun _ => [(a0, .inr (2, [.ref ab, .int (nI n), .int (nI nd), .int (nI bg)])), (ab, .inl (g.2.1 0, 2000, .inl f))]) := by
  refine OM.startQ (by decide) (Nat.le_of_ble_eq_true rfl) ?_
  intro p e s m below meth c A ls Q H locs hQ C hnm hl hT
  have hx := C.x
  have hb := C.b
  have hl : lv_has ls 4 [(0, .ref a0), (1, .int (nI t))] := hl
  refine lv_iload_n hx hb dX2_latestContext_0 rfl (lv_at hl 1 rfl) ?_
  refine lv_iconst (v := 1) hx hb dX2_latestContext_1 (by decide) ?_
  refine lv_iadd hx hb dX2_latestContext_2 ?_
  refine W.eq (g2 := F0 m 3 ls [.int (nI (t + 1))]) (congrArg (fun z => F0 m 3 ls (.int z :: [])) (nI_1 t)) ?_
  refine lv_iconst (v := 0) hx hb dX2_latestContext_3 (by decide) ?_
  have hM := c_X5_hash l g (nI (t + 1)) 0
  refine r_call0 (js := []) C hT (runS (js := []) (rm := ({ frames := 0, cells := 0, slots := 0, locals := 0 } : Room)) (As := [.int (nI (t + 1)), .int 0]) (n := 2) (rest := []) C hT hM rfl rfl k335 k336 k2 k337 (by decide +kernel) rfl rfl (Nat.le_of_ble_eq_true rfl) hl.1 ⟨Nat.le_of_ble_eq_true rfl, Nat.le_of_ble_eq_true rfl⟩ ⟨Nat.le_of_ble_eq_true rfl, Nat.le_of_ble_eq_true rfl⟩ dX2_latestContext_4) rfl rfl (fun _ => rfl) (fun u H locs hT => ?_)
  have hT : Wd g A s [(a0, .inr (2, [.ref ab, .int (nI n), .int (nI nd), .int (nI bg)])), (ab, .inl (g.2.1 0, 2000, .inl f))] H locs := hT
  refine W.eq (g2 := F0 m 7 ls [.int (hashI (nI (t + 1)) 0)]) rfl ?_
  refine lv_istore_n (lv' := [(2, .int (hashI (nI (t + 1)) 0)), (0, .ref a0), (1, .int (nI t))]) hx hb dX2_latestContext_7 rfl hl (by decide) rfl (fun ls hl => ?_)
  refine lv_iconst (v := 1) hx hb dX2_latestContext_8 (by decide) ?_
  refine lv_istore_n (lv' := [(3, .int 1), (2, .int (hashI (nI (t + 1)) 0)), (0, .ref a0), (1, .int (nI t))]) hx hb dX2_latestContext_9 rfl hl (by decide) rfl (fun ls hl => ?_)
  have loop_10 : ∀ (fu : Nat) (i : Nat) (vx3 : Int32) (vx2 : Int32) (H : Heap) (locs : List Loc) (ls : Array Slot) (hi : i ≤ t) (vex3 : vx3 = nI (i + 1)) (vex2 : vx2 = latH f n t i), t - i < fu → Wd g A s [(a0, .inr (2, [.ref ab, .int (nI n), .int (nI nd), .int (nI bg)])), (ab, .inl (g.2.1 0, 2000, .inl f))] H locs → lv_has ls 4 [(0, .ref a0), (1, .int (nI t)), (2, .int vx2), (3, .int vx3)] → W p l e ({ frames := 1, cells := 0, slots := 0, locals := 22 } : Room) s m ([.ref a0, .int (nI t)] : List Value).toArray below meth c H locs 0 0 Q (F0 m 10 ls []) := by
    intro fu
    induction fu with
    | zero => intro i vx3 vx2 H locs ls hi vex3 vex2 hm; exact absurd hm (Nat.not_lt_zero _)
    | succ fu ih =>
      intro i vx3 vx2 H locs ls hi vex3 vex2 hm hT hl
      refine lv_iload_n hx hb dX2_latestContext_10 rfl (lv_at hl 3 rfl) ?_
      refine lv_iload_n hx hb dX2_latestContext_11 rfl (lv_at hl 1 rfl) ?_
      refine lv_icmp_gt (tgt := 31) hx hb dX2_latestContext_12 (by decide) (fun h_1 => ?_) (fun h_1 => ?_)
      · skip
        have hin : i = t := by have := lp_le_end vex3 (by omega) (by omega) h_1; omega
        refine lv_iload_n hx hb dX2_latestContext_31 rfl (lv_at hl 2 rfl) ?_
        exact e_iret C hQ () hT (by rw [vex2, hin]) dX2_latestContext_32
      · skip
        have hin : i < t := by have := lp_le_go vex3 (by omega) (by omega) h_1; omega
        refine lv_iload_n hx hb dX2_latestContext_15 rfl (lv_at hl 2 rfl) ?_
        refine lv_aload_n hx hb dX2_latestContext_16 rfl (lv_at hl 0 rfl) ?_
        refine lv_iload_n hx hb dX2_latestContext_17 rfl (lv_at hl 3 rfl) ?_
        refine W.eq (g2 := F0 m 18 ls [.int (nI (i + 1)), .ref a0, .int vx2]) (congrArg (fun z => F0 m 18 ls (.int z :: [.ref a0, .int vx2])) (vex3)) ?_
        have hM := c_X2_back l g a0 ab n nd bg f (i + 1) (by first | assumption | omega) (by omega)
        refine r_call0 (js := [0, 1]) C hT (runV (js := [0, 1]) (rm := ({ frames := 0, cells := 0, slots := 0, locals := 0 } : Room)) (As := [.int (nI (i + 1))]) (n := 1) (q1 := 0) (rest := [.int vx2]) C hT hM rfl rfl k326 k312 k313 k6 k314 (by decide +kernel) rfl rfl rfl rfl (Nat.le_of_ble_eq_true rfl) hl.1 ⟨Nat.le_of_ble_eq_true rfl, Nat.le_of_ble_eq_true rfl⟩ ⟨Nat.le_of_ble_eq_true rfl, Nat.le_of_ble_eq_true rfl⟩ dX2_latestContext_18) rfl rfl (fun _ => rfl) (fun u H locs hT => ?_)
        have hT : Wd g A s [(a0, .inr (2, [.ref ab, .int (nI n), .int (nI nd), .int (nI bg)])), (ab, .inl (g.2.1 0, 2000, .inl f))] H locs := hT
        refine W.eq (g2 := F0 m 21 ls [.int (backN f n (i + 1)), .int vx2]) rfl ?_
        have hM := c_X5_hash l g vx2 (backN f n (i + 1))
        refine r_call0 (js := []) C hT (runS (js := []) (rm := ({ frames := 0, cells := 0, slots := 0, locals := 0 } : Room)) (As := [.int vx2, .int (backN f n (i + 1))]) (n := 2) (rest := []) C hT hM rfl rfl k335 k336 k2 k337 (by decide +kernel) rfl rfl (Nat.le_of_ble_eq_true rfl) hl.1 ⟨Nat.le_of_ble_eq_true rfl, Nat.le_of_ble_eq_true rfl⟩ ⟨Nat.le_of_ble_eq_true rfl, Nat.le_of_ble_eq_true rfl⟩ dX2_latestContext_21) rfl rfl (fun _ => rfl) (fun u H locs hT => ?_)
        have hT : Wd g A s [(a0, .inr (2, [.ref ab, .int (nI n), .int (nI nd), .int (nI bg)])), (ab, .inl (g.2.1 0, 2000, .inl f))] H locs := hT
        refine W.eq (g2 := F0 m 24 ls [.int (hashI vx2 (backN f n (i + 1)))]) rfl ?_
        refine lv_istore_n (lv' := [(2, .int (hashI vx2 (backN f n (i + 1)))), (0, .ref a0), (1, .int (nI t)), (3, .int vx3)]) hx hb dX2_latestContext_24 rfl hl (by decide) rfl (fun ls hl => ?_)
        obtain ⟨x_2, ex_2⟩ : ∃ y : Int32, y = vx3 + 1 := ⟨_, rfl⟩
        refine lv_iinc (v := x_2) (lv' := [(3, .int x_2), (2, .int (hashI vx2 (backN f n (i + 1)))), (0, .ref a0), (1, .int (nI t))]) hx hb dX2_latestContext_25 hl (k := 3) rfl (by rw [ex_2]; rfl) (by decide) rfl (fun ls hl => ?_)
        refine lv_goto (tgt := 10) hx hb dX2_latestContext_28 (by decide) ?_
        exact ih (i + 1) x_2 (hashI vx2 (backN f n (i + 1))) H locs ls (by first | assumption | omega | rfl) (by rw [ex_2, vex3]; exact nI_1 (i + 1)) (by rw [vex2]; exact latH_s f n t i) (by omega) hT (lv_sub hl [2, 3, 1, 0] rfl)
  exact loop_10 (t - 0 + 1) 0 1 (hashI (nI (t + 1)) 0) H locs ls (by first | assumption | omega | rfl) rfl (latH_0 f n t) (Nat.lt_succ_self _) hT (lv_sub hl [2, 3, 1, 0] rfl)

set_option maxHeartbeats 400000 in
set_option maxRecDepth 100000 in
theorem c_X2_columnContext (l : Launch) (g : GT) (a0 : Nat) (ab : Nat) (n : Nat) (nd : Nat) (bg : Nat) (f : Nat → Int32) (t : Nat) (hn : n ≤ 2000) (ht0 : 0 < t) (ht : t < 2 ^ 20) : OM (S := Unit) l g yX2_columnContext cX2_columnContext 4 (some .int) ({ frames := 1, cells := 0, slots := 0, locals := 22 } : Room) [.ref a0, .int (nI t)] [(a0, .inr (2, [.ref ab, .int (nI n), .int (nI nd), .int (nI bg)])), (ab, .inl (g.2.1 0, 2000, .inl f))] (fun _ => some (.int (colH f n t))) (fun _ => [(a0, .inr (2, [.ref ab, .int (nI n), .int (nI nd), .int (nI bg)])), (ab, .inl (g.2.1 0, 2000, .inl f))]) := by
  refine OM.startQ (by decide) (Nat.le_of_ble_eq_true rfl) ?_
  intro p e s m below meth c A ls Q H locs hQ C hnm hl hT
  have hx := C.x
  have hb := C.b
  have hl : lv_has ls 4 [(0, .ref a0), (1, .int (nI t))] := hl
  refine lv_iload_n hx hb dX2_columnContext_0 rfl (lv_at hl 1 rfl) ?_
  refine lv_if_le (tgt := 13) hx hb dX2_columnContext_1 (by decide) (fun h_1 => ?_) (fun h_1 => ?_)
  · skip
    exact absurd h_1 (nI_nle ht0 (by omega))
  · skip
    refine lv_aload_n hx hb dX2_columnContext_4 rfl (lv_at hl 0 rfl) ?_
    refine gX2_19 C hT (q0 := 0) rfl dX2_columnContext_5 ?_
    refine lv_iload_n hx hb dX2_columnContext_8 rfl (lv_at hl 1 rfl) ?_
    refine lv_irem hx hb dX2_columnContext_9 (nI_ne0 ht0 (by omega)) ?_
    refine W.eq (g2 := F0 m 10 ls [.int (nI (n % t))]) (congrArg (fun z => F0 m 10 ls (.int z :: [])) (pk_rem (by omega) ht0 (by omega))) ?_
    refine lv_goto (tgt := 14) hx hb dX2_columnContext_10 (by decide) ?_
    refine lv_istore_n (lv' := [(2, .int (nI (n % t))), (0, .ref a0), (1, .int (nI t))]) hx hb dX2_columnContext_14 rfl hl (by decide) rfl (fun ls hl => ?_)
    refine lv_bipush (v := 64) hx hb dX2_columnContext_15 (by decide) ?_
    refine lv_iload_n hx hb dX2_columnContext_17 rfl (lv_at hl 2 rfl) ?_
    refine lv_iadd hx hb dX2_columnContext_18 ?_
    refine W.eq (g2 := F0 m 19 ls [.int (nI (64 + t))]) (congrArg (fun z => F0 m 19 ls (.int z :: [])) (nI_add 64 t)) ?_
    refine lv_iconst (v := 0) hx hb dX2_columnContext_19 (by decide) ?_
    have hM := c_X5_hash l g (nI (64 + t)) 0
    refine r_call0 (js := []) C hT (runS (js := []) (rm := ({ frames := 0, cells := 0, slots := 0, locals := 0 } : Room)) (As := [.int (nI (64 + t)), .int 0]) (n := 2) (rest := []) C hT hM rfl rfl k335 k336 k2 k337 (by decide +kernel) rfl rfl (Nat.le_of_ble_eq_true rfl) hl.1 ⟨Nat.le_of_ble_eq_true rfl, Nat.le_of_ble_eq_true rfl⟩ ⟨Nat.le_of_ble_eq_true rfl, Nat.le_of_ble_eq_true rfl⟩ dX2_columnContext_20) rfl rfl (fun _ => rfl) (fun u H locs hT => ?_)
    have hT : Wd g A s [(a0, .inr (2, [.ref ab, .int (nI n), .int (nI nd), .int (nI bg)])), (ab, .inl (g.2.1 0, 2000, .inl f))] H locs := hT
    refine W.eq (g2 := F0 m 23 ls [.int (hashI (nI (64 + t)) 0)]) rfl ?_
    refine lv_iload_n hx hb dX2_columnContext_23 rfl (lv_at hl 0 rfl) ?_
    have hM := c_X5_hash l g (hashI (nI (64 + t)) 0) (nI (n % t))
    refine r_call0 (js := []) C hT (runS (js := []) (rm := ({ frames := 0, cells := 0, slots := 0, locals := 0 } : Room)) (As := [.int (hashI (nI (64 + t)) 0), .int (nI (n % t))]) (n := 2) (rest := []) C hT hM rfl rfl k335 k336 k2 k337 (by decide +kernel) rfl rfl (Nat.le_of_ble_eq_true rfl) hl.1 ⟨Nat.le_of_ble_eq_true rfl, Nat.le_of_ble_eq_true rfl⟩ ⟨Nat.le_of_ble_eq_true rfl, Nat.le_of_ble_eq_true rfl⟩ dX2_columnContext_24) rfl rfl (fun _ => rfl) (fun u H locs hT => ?_)
    have hT : Wd g A s [(a0, .inr (2, [.ref ab, .int (nI n), .int (nI nd), .int (nI bg)])), (ab, .inl (g.2.1 0, 2000, .inl f))] H locs := hT
    refine W.eq (g2 := F0 m 27 ls [.int (hashI (hashI (nI (64 + t)) 0) (nI (n % t)))]) rfl ?_
    refine lv_istore_n (lv' := [(3, .int (hashI (hashI (nI (64 + t)) 0) (nI (n % t)))), (2, .int (nI (n % t))), (0, .ref a0), (1, .int (nI t))]) hx hb dX2_columnContext_27 rfl hl (by decide) rfl (fun ls hl => ?_)
    refine lv_iload_n hx hb dX2_columnContext_28 rfl (lv_at hl 0 rfl) ?_
    refine lv_aload_n hx hb dX2_columnContext_29 rfl (lv_at hl 2 rfl) ?_
    refine lv_iload_n hx hb dX2_columnContext_30 rfl (lv_at hl 3 rfl) ?_
    have hM := c_X2_back l g a0 ab n nd bg f t (by first | assumption | omega) (by omega)
    refine r_call0 (js := [0, 1]) C hT (runV (js := [0, 1]) (rm := ({ frames := 0, cells := 0, slots := 0, locals := 0 } : Room)) (As := [.int (nI t)]) (n := 1) (q1 := 0) (rest := [.int (hashI (hashI (nI (64 + t)) 0) (nI (n % t)))]) C hT hM rfl rfl k326 k312 k313 k6 k314 (by decide +kernel) rfl rfl rfl rfl (Nat.le_of_ble_eq_true rfl) hl.1 ⟨Nat.le_of_ble_eq_true rfl, Nat.le_of_ble_eq_true rfl⟩ ⟨Nat.le_of_ble_eq_true rfl, Nat.le_of_ble_eq_true rfl⟩ dX2_columnContext_31) rfl rfl (fun _ => rfl) (fun u H locs hT => ?_)
    have hT : Wd g A s [(a0, .inr (2, [.ref ab, .int (nI n), .int (nI nd), .int (nI bg)])), (ab, .inl (g.2.1 0, 2000, .inl f))] H locs := hT
    refine W.eq (g2 := F0 m 34 ls [.int (backN f n t), .int (hashI (hashI (nI (64 + t)) 0) (nI (n % t)))]) rfl ?_
    have hM := c_X5_hash l g (hashI (hashI (nI (64 + t)) 0) (nI (n % t))) (backN f n t)
    refine r_call0 (js := []) C hT (runS (js := []) (rm := ({ frames := 0, cells := 0, slots := 0, locals := 0 } : Room)) (As := [.int (hashI (hashI (nI (64 + t)) 0) (nI (n % t))), .int (backN f n t)]) (n := 2) (rest := []) C hT hM rfl rfl k335 k336 k2 k337 (by decide +kernel) rfl rfl (Nat.le_of_ble_eq_true rfl) hl.1 ⟨Nat.le_of_ble_eq_true rfl, Nat.le_of_ble_eq_true rfl⟩ ⟨Nat.le_of_ble_eq_true rfl, Nat.le_of_ble_eq_true rfl⟩ dX2_columnContext_34) rfl rfl (fun _ => rfl) (fun u H locs hT => ?_)
    have hT : Wd g A s [(a0, .inr (2, [.ref ab, .int (nI n), .int (nI nd), .int (nI bg)])), (ab, .inl (g.2.1 0, 2000, .inl f))] H locs := hT
    refine W.eq (g2 := F0 m 37 ls [.int (hashI (hashI (hashI (nI (64 + t)) 0) (nI (n % t))) (backN f n t))]) rfl ?_
    exact e_iret C hQ () hT (by rfl) dX2_columnContext_37

set_option maxHeartbeats 400000 in
set_option maxRecDepth 100000 in
theorem c_X2_apartContext (l : Launch) (g : GT) (a0 : Nat) (ab : Nat) (n : Nat) (nd : Nat) (bg : Nat) (f : Nat → Int32) (nn : Int32) (hn : n ≤ 2000) : OM (S := Unit) l g yX2_apartContext cX2_apartContext 4 (some .int) ({ frames := 1, cells := 0, slots := 0, locals := 22 } : Room) [.ref a0, .int nn] [(a0, .inr (2, [.ref ab, .int (nI n), .int (nI nd), .int (nI bg)])), (ab, .inl (g.2.1 0, 2000, .inl f))] (fun _ => some (.int (apH f n nn 4))) (fun _ => [(a0, .inr (2, [.ref ab, .int (nI n), .int (nI nd), .int (nI bg)])), (ab, .inl (g.2.1 0, 2000, .inl f))]) := by
  refine OM.startQ (by decide) (Nat.le_of_ble_eq_true rfl) ?_
  intro p e s m below meth c A ls Q H locs hQ C hnm hl hT
  have hx := C.x
  have hb := C.b
  have hl : lv_has ls 4 [(0, .ref a0), (1, .int nn)] := hl
  refine lv_sipush (v := 128) hx hb dX2_apartContext_0 (by decide) ?_
  refine lv_iload_n hx hb dX2_apartContext_3 rfl (lv_at hl 1 rfl) ?_
  refine lv_iadd hx hb dX2_apartContext_4 ?_
  refine lv_iconst (v := 0) hx hb dX2_apartContext_5 (by decide) ?_
  have hM := c_X5_hash l g (128 + nn) 0
  refine r_call0 (js := []) C hT (runS (js := []) (rm := ({ frames := 0, cells := 0, slots := 0, locals := 0 } : Room)) (As := [.int (128 + nn), .int 0]) (n := 2) (rest := []) C hT hM rfl rfl k335 k336 k2 k337 (by decide +kernel) rfl rfl (Nat.le_of_ble_eq_true rfl) hl.1 ⟨Nat.le_of_ble_eq_true rfl, Nat.le_of_ble_eq_true rfl⟩ ⟨Nat.le_of_ble_eq_true rfl, Nat.le_of_ble_eq_true rfl⟩ dX2_apartContext_6) rfl rfl (fun _ => rfl) (fun u H locs hT => ?_)
  have hT : Wd g A s [(a0, .inr (2, [.ref ab, .int (nI n), .int (nI nd), .int (nI bg)])), (ab, .inl (g.2.1 0, 2000, .inl f))] H locs := hT
  refine W.eq (g2 := F0 m 9 ls [.int (hashI (128 + nn) 0)]) rfl ?_
  refine lv_istore_n (lv' := [(2, .int (hashI (128 + nn) 0)), (0, .ref a0), (1, .int nn)]) hx hb dX2_apartContext_9 rfl hl (by decide) rfl (fun ls hl => ?_)
  refine lv_iconst (v := 0) hx hb dX2_apartContext_10 (by decide) ?_
  refine lv_istore_n (lv' := [(3, .int 0), (2, .int (hashI (128 + nn) 0)), (0, .ref a0), (1, .int nn)]) hx hb dX2_apartContext_11 rfl hl (by decide) rfl (fun ls hl => ?_)
  have loop_12 : ∀ (fu : Nat) (i : Nat) (vx3 : Int32) (vx2 : Int32) (H : Heap) (locs : List Loc) (ls : Array Slot) (hi : i ≤ 4) (vex3 : vx3 = nI i) (vex2 : vx2 = apH f n nn i), 4 - i < fu → Wd g A s [(a0, .inr (2, [.ref ab, .int (nI n), .int (nI nd), .int (nI bg)])), (ab, .inl (g.2.1 0, 2000, .inl f))] H locs → lv_has ls 4 [(0, .ref a0), (1, .int nn), (2, .int vx2), (3, .int vx3)] → W p l e ({ frames := 1, cells := 0, slots := 0, locals := 22 } : Room) s m ([.ref a0, .int nn] : List Value).toArray below meth c H locs 0 0 Q (F0 m 12 ls []) := by
    intro fu
    induction fu with
    | zero => intro i vx3 vx2 H locs ls hi vex3 vex2 hm; exact absurd hm (Nat.not_lt_zero _)
    | succ fu ih =>
      intro i vx3 vx2 H locs ls hi vex3 vex2 hm hT hl
      refine lv_iload_n hx hb dX2_apartContext_12 rfl (lv_at hl 3 rfl) ?_
      refine lv_iconst (v := 4) hx hb dX2_apartContext_13 (by decide) ?_
      refine lv_icmp_ge (tgt := 44) hx hb dX2_apartContext_14 (by decide) (fun h_1 => ?_) (fun h_1 => ?_)
      · skip
        have hin := lp_end (n := 4) vex3 (by decide) hi h_1
        refine lv_iload_n hx hb dX2_apartContext_44 rfl (lv_at hl 2 rfl) ?_
        exact e_iret C hQ () hT (by rw [vex2, hin]) dX2_apartContext_45
      · skip
        have hin := lp_go (n := 4) vex3 (by decide) hi h_1
        refine lv_iload_n hx hb dX2_apartContext_17 rfl (lv_at hl 1 rfl) ?_
        refine lv_iload_n hx hb dX2_apartContext_18 rfl (lv_at hl 3 rfl) ?_
        refine W.eq (g2 := F0 m 19 ls [.int (nI i), .int nn]) (congrArg (fun z => F0 m 19 ls (.int z :: [.int nn])) (vex3)) ?_
        refine lv_ishr hx hb dX2_apartContext_19 ?_
        refine lv_iconst (v := 1) hx hb dX2_apartContext_20 (by decide) ?_
        refine lv_iand hx hb dX2_apartContext_21 ?_
        refine lv_iconst (v := 1) hx hb dX2_apartContext_22 (by decide) ?_
        refine lv_icmp_ne (tgt := 38) hx hb dX2_apartContext_23 (by decide) (fun h_2 => ?_) (fun h_2 => ?_)
        · skip
          have hbit := h_2
          obtain ⟨x_3, ex_3⟩ : ∃ y : Int32, y = vx3 + 1 := ⟨_, rfl⟩
          refine lv_iinc (v := x_3) (lv' := [(3, .int x_3), (0, .ref a0), (1, .int nn), (2, .int vx2)]) hx hb dX2_apartContext_38 hl (k := 3) rfl (by rw [ex_3]; rfl) (by decide) rfl (fun ls hl => ?_)
          refine lv_goto (tgt := 12) hx hb dX2_apartContext_41 (by decide) ?_
          exact ih (i + 1) x_3 vx2 H locs ls (by first | assumption | omega | rfl) (by rw [ex_3, vex3]; exact nI_1 i) (by rw [vex2]; first | exact apH_t hbit | exact apH_f hbit) (by omega) hT (lv_sub hl [1, 2, 3, 0] rfl)
        · skip
          have hbit := h_2
          refine lv_iload_n hx hb dX2_apartContext_26 rfl (lv_at hl 2 rfl) ?_
          refine lv_aload_n hx hb dX2_apartContext_27 rfl (lv_at hl 0 rfl) ?_
          refine lv_iload_n hx hb dX2_apartContext_28 rfl (lv_at hl 3 rfl) ?_
          refine W.eq (g2 := F0 m 29 ls [.int (nI i), .ref a0, .int vx2]) (congrArg (fun z => F0 m 29 ls (.int z :: [.ref a0, .int vx2])) (vex3)) ?_
          refine lv_iconst (v := 1) hx hb dX2_apartContext_29 (by decide) ?_
          refine lv_iadd hx hb dX2_apartContext_30 ?_
          refine W.eq (g2 := F0 m 31 ls [.int (nI (i + 1)), .ref a0, .int vx2]) (congrArg (fun z => F0 m 31 ls (.int z :: [.ref a0, .int vx2])) (nI_1 i)) ?_
          have hM := c_X2_back l g a0 ab n nd bg f (i + 1) (by first | assumption | omega) (by omega)
          refine r_call0 (js := [0, 1]) C hT (runV (js := [0, 1]) (rm := ({ frames := 0, cells := 0, slots := 0, locals := 0 } : Room)) (As := [.int (nI (i + 1))]) (n := 1) (q1 := 0) (rest := [.int vx2]) C hT hM rfl rfl k326 k312 k313 k6 k314 (by decide +kernel) rfl rfl rfl rfl (Nat.le_of_ble_eq_true rfl) hl.1 ⟨Nat.le_of_ble_eq_true rfl, Nat.le_of_ble_eq_true rfl⟩ ⟨Nat.le_of_ble_eq_true rfl, Nat.le_of_ble_eq_true rfl⟩ dX2_apartContext_31) rfl rfl (fun _ => rfl) (fun u H locs hT => ?_)
          have hT : Wd g A s [(a0, .inr (2, [.ref ab, .int (nI n), .int (nI nd), .int (nI bg)])), (ab, .inl (g.2.1 0, 2000, .inl f))] H locs := hT
          refine W.eq (g2 := F0 m 34 ls [.int (backN f n (i + 1)), .int vx2]) rfl ?_
          have hM := c_X5_hash l g vx2 (backN f n (i + 1))
          refine r_call0 (js := []) C hT (runS (js := []) (rm := ({ frames := 0, cells := 0, slots := 0, locals := 0 } : Room)) (As := [.int vx2, .int (backN f n (i + 1))]) (n := 2) (rest := []) C hT hM rfl rfl k335 k336 k2 k337 (by decide +kernel) rfl rfl (Nat.le_of_ble_eq_true rfl) hl.1 ⟨Nat.le_of_ble_eq_true rfl, Nat.le_of_ble_eq_true rfl⟩ ⟨Nat.le_of_ble_eq_true rfl, Nat.le_of_ble_eq_true rfl⟩ dX2_apartContext_34) rfl rfl (fun _ => rfl) (fun u H locs hT => ?_)
          have hT : Wd g A s [(a0, .inr (2, [.ref ab, .int (nI n), .int (nI nd), .int (nI bg)])), (ab, .inl (g.2.1 0, 2000, .inl f))] H locs := hT
          refine W.eq (g2 := F0 m 37 ls [.int (hashI vx2 (backN f n (i + 1)))]) rfl ?_
          refine lv_istore_n (lv' := [(2, .int (hashI vx2 (backN f n (i + 1)))), (0, .ref a0), (1, .int nn), (3, .int vx3)]) hx hb dX2_apartContext_37 rfl hl (by decide) rfl (fun ls hl => ?_)
          obtain ⟨x_4, ex_4⟩ : ∃ y : Int32, y = vx3 + 1 := ⟨_, rfl⟩
          refine lv_iinc (v := x_4) (lv' := [(3, .int x_4), (2, .int (hashI vx2 (backN f n (i + 1)))), (0, .ref a0), (1, .int nn)]) hx hb dX2_apartContext_38 hl (k := 3) rfl (by rw [ex_4]; rfl) (by decide) rfl (fun ls hl => ?_)
          refine lv_goto (tgt := 12) hx hb dX2_apartContext_41 (by decide) ?_
          exact ih (i + 1) x_4 (hashI vx2 (backN f n (i + 1))) H locs ls (by first | assumption | omega | rfl) (by rw [ex_4, vex3]; exact nI_1 i) (by rw [vex2]; first | exact apH_t hbit | exact apH_f hbit) (by omega) hT (lv_sub hl [2, 3, 1, 0] rfl)
  exact loop_12 (4 - 0 + 1) 0 0 (hashI (128 + nn) 0) H locs ls (by first | assumption | omega | rfl) rfl (apH_0 f n nn) (Nat.lt_succ_self _) hT (lv_sub hl [2, 3, 1, 0] rfl)

set_option maxHeartbeats 400000 in
set_option maxRecDepth 100000 in
theorem c_X2_wordContext (l : Launch) (g : GT) (a0 : Nat) (ab : Nat) (n : Nat) (nd : Nat) (bg : Nat) (f : Nat → Int32) (hn : n ≤ 2000) : OM (S := Unit) l g yX2_wordContext cX2_wordContext 4 (some .int) ({ frames := 1, cells := 0, slots := 0, locals := 22 } : Room) [.ref a0] [(a0, .inr (2, [.ref ab, .int (nI n), .int (nI nd), .int (nI bg)])), (ab, .inl (g.2.1 0, 2000, .inl f))] (fun _ => some (.int (wordH f n))) (fun _ => [(a0, .inr (2, [.ref ab, .int (nI n), .int (nI nd), .int (nI bg)])), (ab, .inl (g.2.1 0, 2000, .inl f))]) := by
  refine OM.startQ (by decide) (Nat.le_of_ble_eq_true rfl) ?_
  intro p e s m below meth c A ls Q H locs hQ C hnm hl hT
  have hx := C.x
  have hb := C.b
  have hl : lv_has ls 4 [(0, .ref a0)] := hl
  refine lv_iconst (v := 0) hx hb dX2_wordContext_0 (by decide) ?_
  refine lv_istore_n (lv' := [(1, .int 0), (0, .ref a0)]) hx hb dX2_wordContext_1 rfl hl (by decide) rfl (fun ls hl => ?_)
  have loop_2 : ∀ (fu : Nat) (i : Nat) (vx1 : Int32) (H : Heap) (locs : List Loc) (ls : Array Slot) (hi : i ≤ 16) (vex1 : vx1 = nI i) (hw : wlG f n (16 - i) i = wlen f n), 16 - i < fu → Wd g A s [(a0, .inr (2, [.ref ab, .int (nI n), .int (nI nd), .int (nI bg)])), (ab, .inl (g.2.1 0, 2000, .inl f))] H locs → lv_has ls 4 [(0, .ref a0), (1, .int vx1)] → W p l e ({ frames := 1, cells := 0, slots := 0, locals := 22 } : Room) s m ([.ref a0] : List Value).toArray below meth c H locs 0 0 Q (F0 m 2 ls []) := by
    intro fu
    induction fu with
    | zero => intro i vx1 H locs ls hi vex1 hw hm; exact absurd hm (Nat.not_lt_zero _)
    | succ fu ih =>
      intro i vx1 H locs ls hi vex1 hw hm hT hl
      refine lv_iload_n hx hb dX2_wordContext_2 rfl (lv_at hl 1 rfl) ?_
      refine lv_bipush (v := 16) hx hb dX2_wordContext_3 (by decide) ?_
      refine lv_icmp_ge (tgt := 27) hx hb dX2_wordContext_5 (by decide) (fun h_1 => ?_) (fun h_1 => ?_)
      · skip
        have hin := lp_end (n := 16) vex1 (by decide) hi h_1
        have hwi : i = wlen f n := by rw [← hw, hin]; rfl
        refine lv_bipush (v := 32) hx hb dX2_wordContext_27 (by decide) ?_
        refine lv_iconst (v := 0) hx hb dX2_wordContext_29 (by decide) ?_
        have hM := c_X5_hash l g 32 0
        refine r_call0 (js := []) C hT (runS (js := []) (rm := ({ frames := 0, cells := 0, slots := 0, locals := 0 } : Room)) (As := [.int 32, .int 0]) (n := 2) (rest := []) C hT hM rfl rfl k335 k336 k2 k337 (by decide +kernel) rfl rfl (Nat.le_of_ble_eq_true rfl) hl.1 ⟨Nat.le_of_ble_eq_true rfl, Nat.le_of_ble_eq_true rfl⟩ ⟨Nat.le_of_ble_eq_true rfl, Nat.le_of_ble_eq_true rfl⟩ dX2_wordContext_30) rfl rfl (fun _ => rfl) (fun u H locs hT => ?_)
        have hT : Wd g A s [(a0, .inr (2, [.ref ab, .int (nI n), .int (nI nd), .int (nI bg)])), (ab, .inl (g.2.1 0, 2000, .inl f))] H locs := hT
        refine W.eq (g2 := F0 m 33 ls [.int (hashI 32 0)]) rfl ?_
        refine lv_istore_n (lv' := [(2, .int (hashI 32 0)), (0, .ref a0), (1, .int vx1)]) hx hb dX2_wordContext_33 rfl hl (by decide) rfl (fun ls hl => ?_)
        refine lv_iload_n hx hb dX2_wordContext_34 rfl (lv_at hl 2 rfl) ?_
        refine lv_istore_n (lv' := [(3, .int vx1), (2, .int (hashI 32 0)), (0, .ref a0), (1, .int vx1)]) hx hb dX2_wordContext_35 rfl hl (by decide) rfl (fun ls hl => ?_)
        have loop_36 : ∀ (fu : Nat) (j : Nat) (vx3 : Int32) (vx2 : Int32) (H : Heap) (locs : List Loc) (ls : Array Slot) (hj : j ≤ 16) (vex3 : vx3 = nI j) (hh : whash f n j vx2 = wordH f n), j < fu → Wd g A s [(a0, .inr (2, [.ref ab, .int (nI n), .int (nI nd), .int (nI bg)])), (ab, .inl (g.2.1 0, 2000, .inl f))] H locs → lv_has ls 4 [(0, .ref a0), (1, .int vx1), (2, .int vx2), (3, .int vx3)] → W p l e ({ frames := 1, cells := 0, slots := 0, locals := 22 } : Room) s m ([.ref a0] : List Value).toArray below meth c H locs 0 0 Q (F0 m 36 ls []) := by
          intro fu_36
          induction fu_36 with
          | zero => intro j vx3 vx2 H locs ls hj vex3 hh hm; exact absurd hm (Nat.not_lt_zero _)
          | succ fu_36 ih_36 =>
            intro j vx3 vx2 H locs ls hj vex3 hh hm_36 hT hl
            refine lv_iload_n hx hb dX2_wordContext_36 rfl (lv_at hl 3 rfl) ?_
            refine lv_iconst (v := 1) hx hb dX2_wordContext_37 (by decide) ?_
            refine lv_icmp_lt (tgt := 57) hx hb dX2_wordContext_38 (by decide) (fun h_2 => ?_) (fun h_2 => ?_)
            · skip
              have hj0 : j = 0 := by rw [vex3] at h_2; have := (nI_ltI (b := 1) (by omega) (by decide)).mp h_2; omega
              refine lv_iload_n hx hb dX2_wordContext_57 rfl (lv_at hl 2 rfl) ?_
              exact e_iret C hQ () hT (by rw [← hh, hj0, whash_0]) dX2_wordContext_58
            · skip
              have hjp : 0 < j := by rcases Nat.eq_zero_or_pos j with q | q; exact absurd (by rw [vex3, q]; decide) h_2; exact q
              refine lv_iload_n hx hb dX2_wordContext_41 rfl (lv_at hl 2 rfl) ?_
              refine lv_aload_n hx hb dX2_wordContext_42 rfl (lv_at hl 0 rfl) ?_
              refine lv_iload_n hx hb dX2_wordContext_43 rfl (lv_at hl 3 rfl) ?_
              refine W.eq (g2 := F0 m 44 ls [.int (nI j), .ref a0, .int vx2]) (congrArg (fun z => F0 m 44 ls (.int z :: [.ref a0, .int vx2])) (vex3)) ?_
              have hM := c_X2_back l g a0 ab n nd bg f j (by first | assumption | omega) (by omega)
              refine r_call0 (js := [0, 1]) C hT (runV (js := [0, 1]) (rm := ({ frames := 0, cells := 0, slots := 0, locals := 0 } : Room)) (As := [.int (nI j)]) (n := 1) (q1 := 0) (rest := [.int vx2]) C hT hM rfl rfl k326 k312 k313 k6 k314 (by decide +kernel) rfl rfl rfl rfl (Nat.le_of_ble_eq_true rfl) hl.1 ⟨Nat.le_of_ble_eq_true rfl, Nat.le_of_ble_eq_true rfl⟩ ⟨Nat.le_of_ble_eq_true rfl, Nat.le_of_ble_eq_true rfl⟩ dX2_wordContext_44) rfl rfl (fun _ => rfl) (fun u H locs hT => ?_)
              have hT : Wd g A s [(a0, .inr (2, [.ref ab, .int (nI n), .int (nI nd), .int (nI bg)])), (ab, .inl (g.2.1 0, 2000, .inl f))] H locs := hT
              refine W.eq (g2 := F0 m 47 ls [.int (backN f n j), .int vx2]) rfl ?_
              have hM := c_X5_hash l g vx2 (backN f n j)
              refine r_call0 (js := []) C hT (runS (js := []) (rm := ({ frames := 0, cells := 0, slots := 0, locals := 0 } : Room)) (As := [.int vx2, .int (backN f n j)]) (n := 2) (rest := []) C hT hM rfl rfl k335 k336 k2 k337 (by decide +kernel) rfl rfl (Nat.le_of_ble_eq_true rfl) hl.1 ⟨Nat.le_of_ble_eq_true rfl, Nat.le_of_ble_eq_true rfl⟩ ⟨Nat.le_of_ble_eq_true rfl, Nat.le_of_ble_eq_true rfl⟩ dX2_wordContext_47) rfl rfl (fun _ => rfl) (fun u H locs hT => ?_)
              have hT : Wd g A s [(a0, .inr (2, [.ref ab, .int (nI n), .int (nI nd), .int (nI bg)])), (ab, .inl (g.2.1 0, 2000, .inl f))] H locs := hT
              refine W.eq (g2 := F0 m 50 ls [.int (hashI vx2 (backN f n j))]) rfl ?_
              refine lv_istore_n (lv' := [(2, .int (hashI vx2 (backN f n j))), (0, .ref a0), (1, .int vx1), (3, .int vx3)]) hx hb dX2_wordContext_50 rfl hl (by decide) rfl (fun ls hl => ?_)
              obtain ⟨x_3, ex_3⟩ : ∃ y : Int32, y = vx3 + (-1) := ⟨_, rfl⟩
              refine lv_iinc (v := x_3) (lv' := [(3, .int x_3), (2, .int (hashI vx2 (backN f n j))), (0, .ref a0), (1, .int vx1)]) hx hb dX2_wordContext_51 hl (k := 3) rfl (by rw [ex_3]; rfl) (by decide) rfl (fun ls hl => ?_)
              refine lv_goto (tgt := 36) hx hb dX2_wordContext_54 (by decide) ?_
              exact ih_36 (j - 1) x_3 (hashI vx2 (backN f n j)) H locs ls (by first | assumption | omega | rfl) (by rw [ex_3, vex3]; exact sb_m1 hjp) (by rw [← hh]; exact whash_s hjp) (by omega) hT (lv_sub hl [2, 3, 1, 0] rfl)
        exact loop_36 (i + 1) i vx1 (hashI 32 0) H locs ls hi vex1 (by unfold wordH; rw [hwi]) (Nat.lt_succ_self _) hT (lv_sub hl [2, 3, 1, 0] rfl)
      · skip
        have hin := lp_go (n := 16) vex1 (by decide) hi h_1
        refine lv_aload_n hx hb dX2_wordContext_8 rfl (lv_at hl 0 rfl) ?_
        refine lv_iload_n hx hb dX2_wordContext_9 rfl (lv_at hl 1 rfl) ?_
        refine W.eq (g2 := F0 m 10 ls [.int (nI i), .ref a0]) (congrArg (fun z => F0 m 10 ls (.int z :: [.ref a0])) (vex1)) ?_
        refine lv_iconst (v := 1) hx hb dX2_wordContext_10 (by decide) ?_
        refine lv_iadd hx hb dX2_wordContext_11 ?_
        refine W.eq (g2 := F0 m 12 ls [.int (nI (i + 1)), .ref a0]) (congrArg (fun z => F0 m 12 ls (.int z :: [.ref a0])) (nI_1 i)) ?_
        have hM := c_X2_back l g a0 ab n nd bg f (i + 1) (by first | assumption | omega) (by omega)
        refine r_call0 (js := [0, 1]) C hT (runV (js := [0, 1]) (rm := ({ frames := 0, cells := 0, slots := 0, locals := 0 } : Room)) (As := [.int (nI (i + 1))]) (n := 1) (q1 := 0) (rest := []) C hT hM rfl rfl k326 k312 k313 k6 k314 (by decide +kernel) rfl rfl rfl rfl (Nat.le_of_ble_eq_true rfl) hl.1 ⟨Nat.le_of_ble_eq_true rfl, Nat.le_of_ble_eq_true rfl⟩ ⟨Nat.le_of_ble_eq_true rfl, Nat.le_of_ble_eq_true rfl⟩ dX2_wordContext_12) rfl rfl (fun _ => rfl) (fun u H locs hT => ?_)
        have hT : Wd g A s [(a0, .inr (2, [.ref ab, .int (nI n), .int (nI nd), .int (nI bg)])), (ab, .inl (g.2.1 0, 2000, .inl f))] H locs := hT
        refine W.eq (g2 := F0 m 15 ls [.int (backN f n (i + 1))]) rfl ?_
        have hM := c_X2_isLetter l g (backN f n (i + 1))
        refine r_call0 (js := []) C hT (runS (js := []) (rm := ({ frames := 0, cells := 0, slots := 0, locals := 0 } : Room)) (As := [.int (backN f n (i + 1))]) (n := 1) (rest := []) C hT hM rfl rfl k345 k346 k6 k347 (by decide +kernel) rfl rfl (Nat.le_of_ble_eq_true rfl) hl.1 ⟨Nat.le_of_ble_eq_true rfl, Nat.le_of_ble_eq_true rfl⟩ ⟨Nat.le_of_ble_eq_true rfl, Nat.le_of_ble_eq_true rfl⟩ dX2_wordContext_15) rfl rfl (fun _ => rfl) (fun u H locs hT => ?_)
        have hT : Wd g A s [(a0, .inr (2, [.ref ab, .int (nI n), .int (nI nd), .int (nI bg)])), (ab, .inl (g.2.1 0, 2000, .inl f))] H locs := hT
        refine W.eq (g2 := F0 m 18 ls [.int (b01 (letB (backN f n (i + 1))))]) rfl ?_
        refine lv_if_eq (tgt := 27) hx hb dX2_wordContext_18 (by decide) (fun h_4 => ?_) (fun h_4 => ?_)
        · skip
          have hlet := b01_f h_4
          have hwi : i = wlen f n := by rw [← hw]; exact (wl_e hin hlet).symm
          refine lv_bipush (v := 32) hx hb dX2_wordContext_27 (by decide) ?_
          refine lv_iconst (v := 0) hx hb dX2_wordContext_29 (by decide) ?_
          have hM := c_X5_hash l g 32 0
          refine r_call0 (js := []) C hT (runS (js := []) (rm := ({ frames := 0, cells := 0, slots := 0, locals := 0 } : Room)) (As := [.int 32, .int 0]) (n := 2) (rest := []) C hT hM rfl rfl k335 k336 k2 k337 (by decide +kernel) rfl rfl (Nat.le_of_ble_eq_true rfl) hl.1 ⟨Nat.le_of_ble_eq_true rfl, Nat.le_of_ble_eq_true rfl⟩ ⟨Nat.le_of_ble_eq_true rfl, Nat.le_of_ble_eq_true rfl⟩ dX2_wordContext_30) rfl rfl (fun _ => rfl) (fun u H locs hT => ?_)
          have hT : Wd g A s [(a0, .inr (2, [.ref ab, .int (nI n), .int (nI nd), .int (nI bg)])), (ab, .inl (g.2.1 0, 2000, .inl f))] H locs := hT
          refine W.eq (g2 := F0 m 33 ls [.int (hashI 32 0)]) rfl ?_
          refine lv_istore_n (lv' := [(2, .int (hashI 32 0)), (0, .ref a0), (1, .int vx1)]) hx hb dX2_wordContext_33 rfl hl (by decide) rfl (fun ls hl => ?_)
          refine lv_iload_n hx hb dX2_wordContext_34 rfl (lv_at hl 2 rfl) ?_
          refine lv_istore_n (lv' := [(3, .int vx1), (2, .int (hashI 32 0)), (0, .ref a0), (1, .int vx1)]) hx hb dX2_wordContext_35 rfl hl (by decide) rfl (fun ls hl => ?_)
          have loop_36 : ∀ (fu : Nat) (j : Nat) (vx3 : Int32) (vx2 : Int32) (H : Heap) (locs : List Loc) (ls : Array Slot) (hj : j ≤ 16) (vex3 : vx3 = nI j) (hh : whash f n j vx2 = wordH f n), j < fu → Wd g A s [(a0, .inr (2, [.ref ab, .int (nI n), .int (nI nd), .int (nI bg)])), (ab, .inl (g.2.1 0, 2000, .inl f))] H locs → lv_has ls 4 [(0, .ref a0), (1, .int vx1), (2, .int vx2), (3, .int vx3)] → W p l e ({ frames := 1, cells := 0, slots := 0, locals := 22 } : Room) s m ([.ref a0] : List Value).toArray below meth c H locs 0 0 Q (F0 m 36 ls []) := by
            intro fu_36
            induction fu_36 with
            | zero => intro j vx3 vx2 H locs ls hj vex3 hh hm; exact absurd hm (Nat.not_lt_zero _)
            | succ fu_36 ih_36 =>
              intro j vx3 vx2 H locs ls hj vex3 hh hm_36 hT hl
              refine lv_iload_n hx hb dX2_wordContext_36 rfl (lv_at hl 3 rfl) ?_
              refine lv_iconst (v := 1) hx hb dX2_wordContext_37 (by decide) ?_
              refine lv_icmp_lt (tgt := 57) hx hb dX2_wordContext_38 (by decide) (fun h_5 => ?_) (fun h_5 => ?_)
              · skip
                have hj0 : j = 0 := by rw [vex3] at h_5; have := (nI_ltI (b := 1) (by omega) (by decide)).mp h_5; omega
                refine lv_iload_n hx hb dX2_wordContext_57 rfl (lv_at hl 2 rfl) ?_
                exact e_iret C hQ () hT (by rw [← hh, hj0, whash_0]) dX2_wordContext_58
              · skip
                have hjp : 0 < j := by rcases Nat.eq_zero_or_pos j with q | q; exact absurd (by rw [vex3, q]; decide) h_5; exact q
                refine lv_iload_n hx hb dX2_wordContext_41 rfl (lv_at hl 2 rfl) ?_
                refine lv_aload_n hx hb dX2_wordContext_42 rfl (lv_at hl 0 rfl) ?_
                refine lv_iload_n hx hb dX2_wordContext_43 rfl (lv_at hl 3 rfl) ?_
                refine W.eq (g2 := F0 m 44 ls [.int (nI j), .ref a0, .int vx2]) (congrArg (fun z => F0 m 44 ls (.int z :: [.ref a0, .int vx2])) (vex3)) ?_
                have hM := c_X2_back l g a0 ab n nd bg f j (by first | assumption | omega) (by omega)
                refine r_call0 (js := [0, 1]) C hT (runV (js := [0, 1]) (rm := ({ frames := 0, cells := 0, slots := 0, locals := 0 } : Room)) (As := [.int (nI j)]) (n := 1) (q1 := 0) (rest := [.int vx2]) C hT hM rfl rfl k326 k312 k313 k6 k314 (by decide +kernel) rfl rfl rfl rfl (Nat.le_of_ble_eq_true rfl) hl.1 ⟨Nat.le_of_ble_eq_true rfl, Nat.le_of_ble_eq_true rfl⟩ ⟨Nat.le_of_ble_eq_true rfl, Nat.le_of_ble_eq_true rfl⟩ dX2_wordContext_44) rfl rfl (fun _ => rfl) (fun u H locs hT => ?_)
                have hT : Wd g A s [(a0, .inr (2, [.ref ab, .int (nI n), .int (nI nd), .int (nI bg)])), (ab, .inl (g.2.1 0, 2000, .inl f))] H locs := hT
                refine W.eq (g2 := F0 m 47 ls [.int (backN f n j), .int vx2]) rfl ?_
                have hM := c_X5_hash l g vx2 (backN f n j)
                refine r_call0 (js := []) C hT (runS (js := []) (rm := ({ frames := 0, cells := 0, slots := 0, locals := 0 } : Room)) (As := [.int vx2, .int (backN f n j)]) (n := 2) (rest := []) C hT hM rfl rfl k335 k336 k2 k337 (by decide +kernel) rfl rfl (Nat.le_of_ble_eq_true rfl) hl.1 ⟨Nat.le_of_ble_eq_true rfl, Nat.le_of_ble_eq_true rfl⟩ ⟨Nat.le_of_ble_eq_true rfl, Nat.le_of_ble_eq_true rfl⟩ dX2_wordContext_47) rfl rfl (fun _ => rfl) (fun u H locs hT => ?_)
                have hT : Wd g A s [(a0, .inr (2, [.ref ab, .int (nI n), .int (nI nd), .int (nI bg)])), (ab, .inl (g.2.1 0, 2000, .inl f))] H locs := hT
                refine W.eq (g2 := F0 m 50 ls [.int (hashI vx2 (backN f n j))]) rfl ?_
                refine lv_istore_n (lv' := [(2, .int (hashI vx2 (backN f n j))), (0, .ref a0), (1, .int vx1), (3, .int vx3)]) hx hb dX2_wordContext_50 rfl hl (by decide) rfl (fun ls hl => ?_)
                obtain ⟨x_6, ex_6⟩ : ∃ y : Int32, y = vx3 + (-1) := ⟨_, rfl⟩
                refine lv_iinc (v := x_6) (lv' := [(3, .int x_6), (2, .int (hashI vx2 (backN f n j))), (0, .ref a0), (1, .int vx1)]) hx hb dX2_wordContext_51 hl (k := 3) rfl (by rw [ex_6]; rfl) (by decide) rfl (fun ls hl => ?_)
                refine lv_goto (tgt := 36) hx hb dX2_wordContext_54 (by decide) ?_
                exact ih_36 (j - 1) x_6 (hashI vx2 (backN f n j)) H locs ls (by first | assumption | omega | rfl) (by rw [ex_6, vex3]; exact sb_m1 hjp) (by rw [← hh]; exact whash_s hjp) (by omega) hT (lv_sub hl [2, 3, 1, 0] rfl)
          exact loop_36 (i + 1) i vx1 (hashI 32 0) H locs ls hi vex1 (by unfold wordH; rw [hwi]) (Nat.lt_succ_self _) hT (lv_sub hl [2, 3, 1, 0] rfl)
        · skip
          have hlet := b01_t h_4
          obtain ⟨x_7, ex_7⟩ : ∃ y : Int32, y = vx1 + 1 := ⟨_, rfl⟩
          refine lv_iinc (v := x_7) (lv' := [(1, .int x_7), (0, .ref a0)]) hx hb dX2_wordContext_21 hl (k := 1) rfl (by rw [ex_7]; rfl) (by decide) rfl (fun ls hl => ?_)
          refine lv_goto (tgt := 2) hx hb dX2_wordContext_24 (by decide) ?_
          exact ih (i + 1) x_7 H locs ls (by first | assumption | omega | rfl) (by rw [ex_7, vex1]; exact nI_1 i) (wl_s hin hlet hw) (by omega) hT (lv_sub hl [1, 0] rfl)
  exact loop_2 (16 - 0 + 1) 0 0 H locs ls (by first | assumption | omega | rfl) rfl rfl (Nat.lt_succ_self _) hT (lv_sub hl [1, 0] rfl)
