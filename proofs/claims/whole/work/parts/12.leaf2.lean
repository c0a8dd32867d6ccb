set_option maxHeartbeats 400000 in
set_option maxRecDepth 100000 in
theorem c_X7_allows (l : Launch) (g : GT) (kd : Int32) (nn : Int32) : OM (S := Unit) l g yX7_allows cX7_allows 2 (some .boolean) ({ frames := 0, cells := 0, slots := 0, locals := 0 } : Room) [.int kd, .int nn] [] (fun _ => some (.int (b01 (allowB kd nn)))) (fun _ => []) := by
  refine OM.startQ (by decide) (Nat.le_of_ble_eq_true rfl) ?_
  intro p e s m below meth c A ls Q H locs hQ C hnm hl hT
  have hx := C.x
  have hb := C.b
  have hl : lv_has ls 2 [(0, .int kd), (1, .int nn)] := hl
  refine lv_iload_n hx hb dX7_allows_0 rfl (lv_at hl 0 rfl) ?_
  by_cases h_1 : kd = 0
  · skip
    refine lv_tableIn (off := 35) (tgt := 36) hx hb dX7_allows_1 (by rw [h_1]; decide) (by rw [h_1]; decide) (by rw [h_1]; rfl) (by decide) ?_
    refine lv_iload_n hx hb dX7_allows_36 rfl (lv_at hl 1 rfl) ?_
    refine lv_if_lt (tgt := 50) hx hb dX7_allows_37 (by decide) (fun h_2 => ?_) (fun h_2 => ?_)
    · skip
      refine lv_iconst (v := 0) hx hb dX7_allows_50 (by decide) ?_
      exact e_zret C hQ () hT (by simp [b01, allowB, h_1, h_2]) (by decide) dX7_allows_51
    · skip
      refine lv_iload_n hx hb dX7_allows_40 rfl (lv_at hl 1 rfl) ?_
      refine lv_bipush (v := 6) hx hb dX7_allows_41 (by decide) ?_
      refine lv_icmp_gt (tgt := 50) hx hb dX7_allows_43 (by decide) (fun h_3 => ?_) (fun h_3 => ?_)
      · skip
        refine lv_iconst (v := 0) hx hb dX7_allows_50 (by decide) ?_
        exact e_zret C hQ () hT (by simp [b01, allowB, h_1, h_2, h_3]) (by decide) dX7_allows_51
      · skip
        refine lv_iconst (v := 1) hx hb dX7_allows_46 (by decide) ?_
        refine lv_goto (tgt := 51) hx hb dX7_allows_47 (by decide) ?_
        exact e_zret C hQ () hT (by simp [b01, allowB, h_1, h_2, h_3]) (by decide) dX7_allows_51
  by_cases h_4 : kd = 1
  · skip
    refine lv_tableIn (off := 51) (tgt := 52) hx hb dX7_allows_1 (by rw [h_4]; decide) (by rw [h_4]; decide) (by rw [h_4]; rfl) (by decide) ?_
    refine lv_iconst (v := 1) hx hb dX7_allows_52 (by decide) ?_
    exact e_zret C hQ () hT (by simp [b01, allowB, h_1, h_4]) (by decide) dX7_allows_53
  by_cases h_5 : kd = 2
  · skip
    refine lv_tableIn (off := 53) (tgt := 54) hx hb dX7_allows_1 (by rw [h_5]; decide) (by rw [h_5]; decide) (by rw [h_5]; rfl) (by decide) ?_
    refine lv_iload_n hx hb dX7_allows_54 rfl (lv_at hl 1 rfl) ?_
    refine lv_iconst (v := 1) hx hb dX7_allows_55 (by decide) ?_
    refine lv_icmp_lt (tgt := 69) hx hb dX7_allows_56 (by decide) (fun h_6 => ?_) (fun h_6 => ?_)
    · skip
      refine lv_iconst (v := 0) hx hb dX7_allows_69 (by decide) ?_
      exact e_zret C hQ () hT (by simp [b01, allowB, h_1, h_4, h_5, h_6]) (by decide) dX7_allows_70
    · skip
      refine lv_iload_n hx hb dX7_allows_59 rfl (lv_at hl 1 rfl) ?_
      refine lv_bipush (v := 64) hx hb dX7_allows_60 (by decide) ?_
      refine lv_icmp_gt (tgt := 69) hx hb dX7_allows_62 (by decide) (fun h_7 => ?_) (fun h_7 => ?_)
      · skip
        refine lv_iconst (v := 0) hx hb dX7_allows_69 (by decide) ?_
        exact e_zret C hQ () hT (by simp [b01, allowB, h_1, h_4, h_5, h_6, h_7]) (by decide) dX7_allows_70
      · skip
        refine lv_iconst (v := 1) hx hb dX7_allows_65 (by decide) ?_
        refine lv_goto (tgt := 70) hx hb dX7_allows_66 (by decide) ?_
        exact e_zret C hQ () hT (by simp [b01, allowB, h_1, h_4, h_5, h_6, h_7]) (by decide) dX7_allows_70
  by_cases h_8 : kd = 3
  · skip
    refine lv_tableIn (off := 70) (tgt := 71) hx hb dX7_allows_1 (by rw [h_8]; decide) (by rw [h_8]; decide) (by rw [h_8]; rfl) (by decide) ?_
    refine lv_iload_n hx hb dX7_allows_71 rfl (lv_at hl 1 rfl) ?_
    refine lv_iconst (v := 1) hx hb dX7_allows_72 (by decide) ?_
    refine lv_icmp_lt (tgt := 86) hx hb dX7_allows_73 (by decide) (fun h_9 => ?_) (fun h_9 => ?_)
    · skip
      refine lv_iconst (v := 0) hx hb dX7_allows_86 (by decide) ?_
      exact e_zret C hQ () hT (by simp [b01, allowB, h_1, h_4, h_5, h_8, h_9]) (by decide) dX7_allows_87
    · skip
      refine lv_iload_n hx hb dX7_allows_76 rfl (lv_at hl 1 rfl) ?_
      refine lv_bipush (v := 15) hx hb dX7_allows_77 (by decide) ?_
      refine lv_icmp_gt (tgt := 86) hx hb dX7_allows_79 (by decide) (fun h_10 => ?_) (fun h_10 => ?_)
      · skip
        refine lv_iconst (v := 0) hx hb dX7_allows_86 (by decide) ?_
        exact e_zret C hQ () hT (by simp [b01, allowB, h_1, h_4, h_5, h_8, h_9, h_10]) (by decide) dX7_allows_87
      · skip
        refine lv_iconst (v := 1) hx hb dX7_allows_82 (by decide) ?_
        refine lv_goto (tgt := 87) hx hb dX7_allows_83 (by decide) ?_
        exact e_zret C hQ () hT (by simp [b01, allowB, h_1, h_4, h_5, h_8, h_9, h_10]) (by decide) dX7_allows_87
  by_cases h_11 : kd = 4
  · skip
    refine lv_tableIn (off := 87) (tgt := 88) hx hb dX7_allows_1 (by rw [h_11]; decide) (by rw [h_11]; decide) (by rw [h_11]; rfl) (by decide) ?_
    refine lv_iload_n hx hb dX7_allows_88 rfl (lv_at hl 1 rfl) ?_
    refine lv_iconst (v := 3) hx hb dX7_allows_89 (by decide) ?_
    refine lv_icmp_lt (tgt := 103) hx hb dX7_allows_90 (by decide) (fun h_12 => ?_) (fun h_12 => ?_)
    · skip
      refine lv_iconst (v := 0) hx hb dX7_allows_103 (by decide) ?_
      exact e_zret C hQ () hT (by simp [b01, allowB, h_1, h_4, h_5, h_8, h_11, h_12]) (by decide) dX7_allows_104
    · skip
      refine lv_iload_n hx hb dX7_allows_93 rfl (lv_at hl 1 rfl) ?_
      refine lv_bipush (v := 8) hx hb dX7_allows_94 (by decide) ?_
      refine lv_icmp_gt (tgt := 103) hx hb dX7_allows_96 (by decide) (fun h_13 => ?_) (fun h_13 => ?_)
      · skip
        refine lv_iconst (v := 0) hx hb dX7_allows_103 (by decide) ?_
        exact e_zret C hQ () hT (by simp [b01, allowB, h_1, h_4, h_5, h_8, h_11, h_12, h_13]) (by decide) dX7_allows_104
      · skip
        refine lv_iconst (v := 1) hx hb dX7_allows_99 (by decide) ?_
        refine lv_goto (tgt := 104) hx hb dX7_allows_100 (by decide) ?_
        exact e_zret C hQ () hT (by simp [b01, allowB, h_1, h_4, h_5, h_8, h_11, h_12, h_13]) (by decide) dX7_allows_104
  refine lv_tableOut (tgt := 105) hx hb dX7_allows_1 (swOut5 h_1 h_4 h_5 h_8 h_11) (by decide) ?_
  refine lv_iconst (v := 0) hx hb dX7_allows_105 (by decide) ?_
  exact e_zret C hQ () hT (by simp [b01, allowB, h_1, h_4, h_5, h_8, h_11]) (by decide) dX7_allows_106

set_option maxHeartbeats 400000 in
set_option maxRecDepth 100000 in
theorem c_X7_has (l : Launch) (g : GT) (a0 : Nat) (ak : Nat) (an : Nat) (ao : Nat) (n : Nat) (i : Int32) : OM (S := Unit) l g yX7_has cX7_has 2 (some .boolean) ({ frames := 0, cells := 0, slots := 0, locals := 0 } : Room) [.ref a0, .int i] [(a0, .inr (7, [.ref ak, .ref an, .ref ao, .int (nI n)]))] (fun _ => some (.int (b01 (inR i n)))) (fun _ => [(a0, .inr (7, [.ref ak, .ref an, .ref ao, .int (nI n)]))]) := by
  refine OM.startQ (by decide) (Nat.le_of_ble_eq_true rfl) ?_
  intro p e s m below meth c A ls Q H locs hQ C hnm hl hT
  have hx := C.x
  have hb := C.b
  have hl : lv_has ls 2 [(0, .ref a0), (1, .int i)] := hl
  refine lv_iload_n hx hb dX7_has_0 rfl (lv_at hl 1 rfl) ?_
  refine lv_if_lt (tgt := 16) hx hb dX7_has_1 (by decide) (fun h_1 => ?_) (fun h_1 => ?_)
  · skip
    refine lv_iconst (v := 0) hx hb dX7_has_16 (by decide) ?_
    exact e_zret C hQ () hT (by simp [b01, inR, h_1]) (by decide) dX7_has_17
  · skip
    refine lv_iload_n hx hb dX7_has_4 rfl (lv_at hl 1 rfl) ?_
    refine lv_aload_n hx hb dX7_has_5 rfl (lv_at hl 0 rfl) ?_
    refine gX7_22 C hT (q0 := 0) rfl dX7_has_6 ?_
    refine lv_icmp_ge (tgt := 16) hx hb dX7_has_9 (by decide) (fun h_2 => ?_) (fun h_2 => ?_)
    · skip
      refine lv_iconst (v := 0) hx hb dX7_has_16 (by decide) ?_
      exact e_zret C hQ () hT (by simp [b01, inR, h_1, h_2]) (by decide) dX7_has_17
    · skip
      refine lv_iconst (v := 1) hx hb dX7_has_12 (by decide) ?_
      refine lv_goto (tgt := 17) hx hb dX7_has_13 (by decide) ?_
      exact e_zret C hQ () hT (by simp [b01, inR, h_1, h_2]) (by decide) dX7_has_17

set_option maxHeartbeats 400000 in
set_option maxRecDepth 100000 in
theorem c_X7_add (l : Launch) (g : GT) (a0 : Nat) (ak : Nat) (an : Nat) (ao : Nat) (n : Nat) (fk : Nat → Int32) (fn : Nat → Int32) (fo : Nat → Int32) (kd : Int32) (nn : Int32) (hn : n < 8) : OM (S := Unit) l g yX7_add cX7_add 3 (some .int) ({ frames := 0, cells := 0, slots := 0, locals := 0 } : Room) [.ref a0, .int kd, .int nn] [(a0, .inr (7, [.ref ak, .ref an, .ref ao, .int (nI n)])), (ak, .inl (g.2.1 0, 8, .inl fk)), (an, .inl (g.2.1 0, 8, .inl fn)), (ao, .inl (g.2.1 2, 8, .inl fo))] (fun _ => some (.int (nI n))) (fun _ => [(a0, .inr (7, [.ref ak, .ref an, .ref ao, .int (nI (n + 1))])), (ak, .inl (g.2.1 0, 8, .inl (upd fk n kd))), (an, .inl (g.2.1 0, 8, .inl (upd fn n nn))), (ao, .inl (g.2.1 2, 8, .inl fo))]) := by
  refine OM.startQ (by decide) (Nat.le_of_ble_eq_true rfl) ?_
  intro p e s m below meth c A ls Q H locs hQ C hnm hl hT
  have hx := C.x
  have hb := C.b
  have hl : lv_has ls 3 [(0, .ref a0), (1, .int kd), (2, .int nn)] := hl
  refine lv_aload_n hx hb dX7_add_0 rfl (lv_at hl 0 rfl) ?_
  refine gX7_22 C hT (q0 := 0) rfl dX7_add_1 ?_
  refine lv_bipush (v := 8) hx hb dX7_add_4 (by decide) ?_
  refine lv_icmp_lt (tgt := 12) hx hb dX7_add_6 (by decide) (fun h_1 => ?_) (fun h_1 => ?_)
  · skip
    refine lv_aload_n hx hb dX7_add_12 rfl (lv_at hl 0 rfl) ?_
    refine gX7_9 C hT (q0 := 0) rfl dX7_add_13 ?_
    refine lv_aload_n hx hb dX7_add_16 rfl (lv_at hl 0 rfl) ?_
    refine gX7_22 C hT (q0 := 0) rfl dX7_add_17 ?_
    refine lv_iload_n hx hb dX7_add_20 rfl (lv_at hl 1 rfl) ?_
    refine r_iast C hT (q0 := 1) rfl n rfl (by omega) (by decide) dX7_add_21 (fun H locs hT => ?_)
    have hT : Wd g A s [(a0, .inr (7, [.ref ak, .ref an, .ref ao, .int (nI n)])), (ak, .inl (g.2.1 0, 8, .inl (upd fk n kd))), (an, .inl (g.2.1 0, 8, .inl fn)), (ao, .inl (g.2.1 2, 8, .inl fo))] H locs := hT
    refine lv_aload_n hx hb dX7_add_22 rfl (lv_at hl 0 rfl) ?_
    refine gX7_15 C hT (q0 := 0) rfl dX7_add_23 ?_
    refine lv_aload_n hx hb dX7_add_26 rfl (lv_at hl 0 rfl) ?_
    refine gX7_22 C hT (q0 := 0) rfl dX7_add_27 ?_
    refine lv_iload_n hx hb dX7_add_30 rfl (lv_at hl 2 rfl) ?_
    refine r_iast C hT (q0 := 2) rfl n rfl (by omega) (by decide) dX7_add_31 (fun H locs hT => ?_)
    have hT : Wd g A s [(a0, .inr (7, [.ref ak, .ref an, .ref ao, .int (nI n)])), (ak, .inl (g.2.1 0, 8, .inl (upd fk n kd))), (an, .inl (g.2.1 0, 8, .inl (upd fn n nn))), (ao, .inl (g.2.1 2, 8, .inl fo))] H locs := hT
    refine lv_aload_n hx hb dX7_add_32 rfl (lv_at hl 0 rfl) ?_
    refine lv_dup hx hb dX7_add_33 rfl ?_
    refine gX7_22 C hT (q0 := 0) rfl dX7_add_34 ?_
    refine lv_iconst (v := 1) hx hb dX7_add_37 (by decide) ?_
    refine lv_iadd hx hb dX7_add_38 ?_
    refine W.eq (g2 := F0 m 39 ls [.int (nI (n + 1)), .ref a0]) (congrArg (fun z => F0 m 39 ls (.int z :: [.ref a0])) (nI_1 n)) ?_
    refine pX7_22 C hT (q0 := 0) rfl dX7_add_39 (fun H locs hT => ?_)
    have hT : Wd g A s [(a0, .inr (7, [.ref ak, .ref an, .ref ao, .int (nI (n + 1))])), (ak, .inl (g.2.1 0, 8, .inl (upd fk n kd))), (an, .inl (g.2.1 0, 8, .inl (upd fn n nn))), (ao, .inl (g.2.1 2, 8, .inl fo))] H locs := hT
    refine lv_aload_n hx hb dX7_add_42 rfl (lv_at hl 0 rfl) ?_
    refine gX7_22 C hT (q0 := 0) rfl dX7_add_43 ?_
    refine lv_iconst (v := 1) hx hb dX7_add_46 (by decide) ?_
    refine lv_isub hx hb dX7_add_47 ?_
    refine W.eq (g2 := F0 m 48 ls [.int (nI n)]) (congrArg (fun z => F0 m 48 ls (.int z :: [])) (nI_pred n)) ?_
    exact e_iret C hQ () hT rfl dX7_add_48
  · skip
    exact absurd (nI_lt hn (by decide)) h_1

set_option maxHeartbeats 400000 in
set_option maxRecDepth 100000 in
theorem c_X7_add_full (l : Launch) (g : GT) (a0 : Nat) (ak : Nat) (an : Nat) (ao : Nat) (n : Nat) (kd : Int32) (nn : Int32) (hn : n = 8) : OM (S := Unit) l g yX7_add cX7_add 3 (some .int) ({ frames := 0, cells := 0, slots := 0, locals := 0 } : Room) [.ref a0, .int kd, .int nn] [(a0, .inr (7, [.ref ak, .ref an, .ref ao, .int (nI n)]))] (fun _ => some (.int (-3))) (fun _ => [(a0, .inr (7, [.ref ak, .ref an, .ref ao, .int (nI n)]))]) := by
  refine OM.startQ (by decide) (Nat.le_of_ble_eq_true rfl) ?_
  intro p e s m below meth c A ls Q H locs hQ C hnm hl hT
  have hx := C.x
  have hb := C.b
  have hl : lv_has ls 3 [(0, .ref a0), (1, .int kd), (2, .int nn)] := hl
  refine lv_aload_n hx hb dX7_add_0 rfl (lv_at hl 0 rfl) ?_
  refine gX7_22 C hT (q0 := 0) rfl dX7_add_1 ?_
  refine lv_bipush (v := 8) hx hb dX7_add_4 (by decide) ?_
  refine lv_icmp_lt (tgt := 12) hx hb dX7_add_6 (by decide) (fun h_1 => ?_) (fun h_1 => ?_)
  · skip
    exact absurd h_1 (by rw [hn]; decide)
  · skip
    refine lv_bipush (v := (-3)) hx hb dX7_add_9 (by decide) ?_
    exact e_iret C hQ () hT rfl dX7_add_11

set_option maxHeartbeats 400000 in
set_option maxRecDepth 100000 in
theorem c_X7_turnOff (l : Launch) (g : GT) (a0 : Nat) (ak : Nat) (an : Nat) (ao : Nat) (n : Nat) (fk : Nat → Int32) (fn : Nat → Int32) (fo : Nat → Int32) (j : Nat) (hj : j < n) (hn : n ≤ 8) : OM (S := Unit) l g yX7_turnOff cX7_turnOff 2 (some .boolean) ({ frames := 1, cells := 0, slots := 0, locals := 21 } : Room) [.ref a0, .int (nI j)] [(a0, .inr (7, [.ref ak, .ref an, .ref ao, .int (nI n)])), (ak, .inl (g.2.1 0, 8, .inl fk)), (an, .inl (g.2.1 0, 8, .inl fn)), (ao, .inl (g.2.1 2, 8, .inl fo))] (fun _ => some (.int (if fo j = 0 then 1 else 0))) (fun _ => [(a0, .inr (7, [.ref ak, .ref an, .ref ao, .int (nI n)])), (ak, .inl (g.2.1 0, 8, .inl fk)), (an, .inl (g.2.1 0, 8, .inl fn)), (ao, .inl (g.2.1 2, 8, .inl (if fo j = 0 then upd fo j 1 else fo)))]) := by
  refine OM.startQ (by decide) (Nat.le_of_ble_eq_true rfl) ?_
  intro p e s m below meth c A ls Q H locs hQ C hnm hl hT
  have hx := C.x
  have hb := C.b
  have hl : lv_has ls 2 [(0, .ref a0), (1, .int (nI j))] := hl
  refine lv_aload_n hx hb dX7_turnOff_0 rfl (lv_at hl 0 rfl) ?_
  refine lv_iload_n hx hb dX7_turnOff_1 rfl (lv_at hl 1 rfl) ?_
  have hM := c_X7_has l g a0 ak an ao n (nI j)
  refine r_call0 (js := [0]) C hT (runV (js := [0]) (rm := ({ frames := 0, cells := 0, slots := 0, locals := 0 } : Room)) (As := [.int (nI j)]) (n := 1) (q1 := 0) (rest := []) C hT hM rfl rfl k368 k361 k362 k4 k363 (by decide +kernel) rfl rfl rfl rfl (Nat.le_of_ble_eq_true rfl) hl.1 ⟨Nat.le_of_ble_eq_true rfl, Nat.le_of_ble_eq_true rfl⟩ ⟨Nat.le_of_ble_eq_true rfl, Nat.le_of_ble_eq_true rfl⟩ dX7_turnOff_2) rfl rfl (fun _ => rfl) (fun u H locs hT => ?_)
  have hT : Wd g A s [(a0, .inr (7, [.ref ak, .ref an, .ref ao, .int (nI n)])), (ak, .inl (g.2.1 0, 8, .inl fk)), (an, .inl (g.2.1 0, 8, .inl fn)), (ao, .inl (g.2.1 2, 8, .inl fo))] H locs := hT
  refine W.eq (g2 := F0 m 5 ls [.int (b01 (inR (nI j) n))]) rfl ?_
  refine lv_if_eq (tgt := 17) hx hb dX7_turnOff_5 (by decide) (fun h_1 => ?_) (fun h_1 => ?_)
  · skip
    exact absurd (b01_f h_1) (by rw [inR_nI hj (by omega)]; decide)
  · skip
    refine lv_aload_n hx hb dX7_turnOff_8 rfl (lv_at hl 0 rfl) ?_
    refine gX7_18 C hT (q0 := 0) rfl dX7_turnOff_9 ?_
    refine lv_iload_n hx hb dX7_turnOff_12 rfl (lv_at hl 1 rfl) ?_
    refine r_zald C hT (q0 := 3) rfl j rfl (by omega) (by decide) dX7_turnOff_13 ?_
    refine lv_if_eq (tgt := 19) hx hb dX7_turnOff_14 (by decide) (fun h_2 => ?_) (fun h_2 => ?_)
    · skip
      refine lv_aload_n hx hb dX7_turnOff_19 rfl (lv_at hl 0 rfl) ?_
      refine gX7_18 C hT (q0 := 0) rfl dX7_turnOff_20 ?_
      refine lv_iload_n hx hb dX7_turnOff_23 rfl (lv_at hl 1 rfl) ?_
      refine lv_iconst (v := 1) hx hb dX7_turnOff_24 (by decide) ?_
      refine r_zast C hT (q0 := 3) rfl j rfl (by omega) (by decide) (Or.inr rfl) dX7_turnOff_25 (fun H locs hT => ?_)
      have hT : Wd g A s [(a0, .inr (7, [.ref ak, .ref an, .ref ao, .int (nI n)])), (ak, .inl (g.2.1 0, 8, .inl fk)), (an, .inl (g.2.1 0, 8, .inl fn)), (ao, .inl (g.2.1 2, 8, .inl (upd fo j 1)))] H locs := hT
      refine lv_iconst (v := 1) hx hb dX7_turnOff_26 (by decide) ?_
      exact e_zret C hQ () (by rw [if_pos h_2]; exact hT) (by rw [if_pos h_2]) (by decide) dX7_turnOff_27
    · skip
      refine lv_iconst (v := 0) hx hb dX7_turnOff_17 (by decide) ?_
      exact e_zret C hQ () (by rw [if_neg h_2]; exact hT) (by rw [if_neg h_2]) (by decide) dX7_turnOff_18

set_option maxHeartbeats 400000 in
set_option maxRecDepth 100000 in
theorem c_J7_fill_53178 (l : Launch) (g : GT) (a : Nat) (n : Nat) (f : Nat → Int32) (v : Int32) (hn : n < 2 ^ 31) : OM (S := Unit) l g yJ7_fill_53178 cJ7_fill_53178 4 none ({ frames := 0, cells := 0, slots := 0, locals := 0 } : Room) [.ref a, .int v] [(a, .inl (g.2.1 0, n, .inl f))] (fun _ => none) (fun _ => [(a, .inl (g.2.1 0, n, .inl (fillTo f v n)))]) := by
  refine OM.startQ (by decide) (Nat.le_of_ble_eq_true rfl) ?_
  intro p e s m below meth c A ls Q H locs hQ C hnm hl hT
  have hx := C.x
  have hb := C.b
  have hl : lv_has ls 4 [(0, .ref a), (1, .int v)] := hl
  refine lv_iconst (v := 0) hx hb dJ7_fill_53178_0 (by decide) ?_
  refine lv_istore_n (lv' := [(2, .int 0), (0, .ref a), (1, .int v)]) hx hb dJ7_fill_53178_1 rfl hl (by decide) rfl (fun ls hl => ?_)
  refine lv_aload_n hx hb dJ7_fill_53178_2 rfl (lv_at hl 1 rfl) ?_
  refine r_alen C hT (q0 := 0) 0 rfl rfl dJ7_fill_53178_3 ?_
  refine W.eq (g2 := F0 m 4 ls [.int (nI n)]) rfl ?_
  refine lv_istore_n (lv' := [(3, .int (nI n)), (2, .int 0), (0, .ref a), (1, .int v)]) hx hb dJ7_fill_53178_4 rfl hl (by decide) rfl (fun ls hl => ?_)
  have loop_5 : ∀ (fu : Nat) (i : Nat) (x2 : Int32) (f1 : Nat → Int32) (H : Heap) (locs : List Loc) (ls : Array Slot) (hi : i ≤ n) (ex2 : x2 = nI i) (hf : f1 = fillTo f v i), n - i < fu → Wd g A s [(a, .inl (g.2.1 0, n, .inl f1))] H locs → lv_has ls 4 [(0, .ref a), (1, .int v), (2, .int x2), (3, .int (nI n))] → W p l e ({ frames := 0, cells := 0, slots := 0, locals := 0 } : Room) s m ([.ref a, .int v] : List Value).toArray below meth c H locs 0 0 Q (F0 m 5 ls []) := by
    intro fu
    induction fu with
    | zero => intro i x2 f1 H locs ls hi ex2 hf hm; exact absurd hm (Nat.not_lt_zero _)
    | succ fu ih =>
      intro i x2 f1 H locs ls hi ex2 hf hm hT hl
      refine lv_iload_n hx hb dJ7_fill_53178_5 rfl (lv_at hl 2 rfl) ?_
      refine lv_iload_n hx hb dJ7_fill_53178_6 rfl (lv_at hl 3 rfl) ?_
      refine lv_icmp_ge (tgt := 20) hx hb dJ7_fill_53178_7 (by decide) (fun h_1 => ?_) (fun h_1 => ?_)
      · skip
        have hin := lp_end ex2 hn hi h_1
        exact e_vret C hQ () (by rw [show fillTo f v n = f1 by rw [hf, hin]]; exact hT) rfl dJ7_fill_53178_20
      · skip
        have hin := lp_go ex2 hn hi h_1
        refine lv_aload_n hx hb dJ7_fill_53178_10 rfl (lv_at hl 0 rfl) ?_
        refine lv_iload_n hx hb dJ7_fill_53178_11 rfl (lv_at hl 2 rfl) ?_
        refine lv_iload_n hx hb dJ7_fill_53178_12 rfl (lv_at hl 1 rfl) ?_
        refine r_iast C hT (q0 := 0) rfl i ex2 hin (by omega) dJ7_fill_53178_13 (fun H locs hT => ?_)
        have hT : Wd g A s [(a, .inl (g.2.1 0, n, .inl (upd f1 i v)))] H locs := hT
        obtain ⟨x_2, ex_2⟩ : ∃ y : Int32, y = x2 + 1 := ⟨_, rfl⟩
        refine lv_iinc (v := x_2) (lv' := [(2, .int x_2), (0, .ref a), (1, .int v), (3, .int (nI n))]) hx hb dJ7_fill_53178_14 hl (k := 2) rfl (by rw [ex_2]; rfl) (by decide) rfl (fun ls hl => ?_)
        refine lv_goto (tgt := 5) hx hb dJ7_fill_53178_17 (by decide) ?_
        exact ih (i + 1) x_2 (upd f1 i v) H locs ls (by first | assumption | omega | rfl) (by rw [ex_2, ex2]; exact nI_1 i) (by rw [hf]; exact fillTo_up f v i) (by omega) hT (lv_sub hl [1, 2, 0, 3] rfl)
  exact loop_5 (n - 0 + 1) 0 0 f H locs ls (by first | assumption | omega | rfl) (by first | assumption | omega | rfl) (fillTo_0 f v).symm (Nat.lt_succ_self _) hT (lv_sub hl [2, 3, 1, 0] rfl)

set_option maxHeartbeats 400000 in
set_option maxRecDepth 100000 in
theorem c_X9_has (l : Launch) (g : GT) (a0 : Nat) (ac : Nat) (an : Nat) (N : Nat) (fc : Nat → Int32) (i : Int32) : OM (S := Unit) l g yX9_has cX9_has 2 (some .boolean) ({ frames := 0, cells := 0, slots := 0, locals := 0 } : Room) [.ref a0, .int i] [(a0, .inr (9, [.ref ac, .ref an])), (ac, .inl (g.2.1 0, N, .inl fc))] (fun _ => some (.int (b01 (inR i N)))) (fun _ => [(a0, .inr (9, [.ref ac, .ref an])), (ac, .inl (g.2.1 0, N, .inl fc))]) := by
  refine OM.startQ (by decide) (Nat.le_of_ble_eq_true rfl) ?_
  intro p e s m below meth c A ls Q H locs hQ C hnm hl hT
  have hx := C.x
  have hb := C.b
  have hl : lv_has ls 2 [(0, .ref a0), (1, .int i)] := hl
  refine lv_iload_n hx hb dX9_has_0 rfl (lv_at hl 1 rfl) ?_
  refine lv_if_lt (tgt := 17) hx hb dX9_has_1 (by decide) (fun h_1 => ?_) (fun h_1 => ?_)
  · skip
    refine lv_iconst (v := 0) hx hb dX9_has_17 (by decide) ?_
    exact e_zret C hQ () hT (by simp [b01, inR, h_1]) (by decide) dX9_has_18
  · skip
    refine lv_iload_n hx hb dX9_has_4 rfl (lv_at hl 1 rfl) ?_
    refine lv_aload_n hx hb dX9_has_5 rfl (lv_at hl 0 rfl) ?_
    refine gX9_15 C hT (q0 := 0) rfl dX9_has_6 ?_
    refine r_alen C hT (q0 := 1) 0 rfl rfl dX9_has_9 ?_
    refine W.eq (g2 := F0 m 10 ls [.int (nI N), .int i]) rfl ?_
    refine lv_icmp_ge (tgt := 17) hx hb dX9_has_10 (by decide) (fun h_2 => ?_) (fun h_2 => ?_)
    · skip
      refine lv_iconst (v := 0) hx hb dX9_has_17 (by decide) ?_
      exact e_zret C hQ () hT (by simp [b01, inR, h_1, h_2]) (by decide) dX9_has_18
    · skip
      refine lv_iconst (v := 1) hx hb dX9_has_13 (by decide) ?_
      refine lv_goto (tgt := 18) hx hb dX9_has_14 (by decide) ?_
      exact e_zret C hQ () hT (by simp [b01, inR, h_1, h_2]) (by decide) dX9_has_18

set_option maxHeartbeats 400000 in
set_option maxRecDepth 100000 in
theorem c_X9_placeOf (l : Launch) (g : GT) (a0 : Nat) (ac : Nat) (an : Nat) (N : Nat) (fc : Nat → Int32) (cx : Int32) (nd : Int32) : OM (S := Unit) l g yX9_placeOf cX9_placeOf 3 (some .int) ({ frames := 1, cells := 0, slots := 0, locals := 22 } : Room) [.ref a0, .int cx, .int nd] [(a0, .inr (9, [.ref ac, .ref an])), (ac, .inl (g.2.1 0, N, .inl fc))] (fun _ => some (.int (hashI cx nd &&& (nI N - 1)))) (fun _ => [(a0, .inr (9, [.ref ac, .ref an])), (ac, .inl (g.2.1 0, N, .inl fc))]) := by
  refine OM.startQ (by decide) (Nat.le_of_ble_eq_true rfl) ?_
  intro p e s m below meth c A ls Q H locs hQ C hnm hl hT
  have hx := C.x
  have hb := C.b
  have hl : lv_has ls 3 [(0, .ref a0), (1, .int cx), (2, .int nd)] := hl
  refine lv_iload_n hx hb dX9_placeOf_0 rfl (lv_at hl 1 rfl) ?_
  refine lv_iload_n hx hb dX9_placeOf_1 rfl (lv_at hl 2 rfl) ?_
  have hM := c_X5_hash l g cx nd
  refine r_call0 (js := []) C hT (runS (js := []) (rm := ({ frames := 0, cells := 0, slots := 0, locals := 0 } : Room)) (As := [.int cx, .int nd]) (n := 2) (rest := []) C hT hM rfl rfl k398 k336 k2 k337 (by decide +kernel) rfl rfl (Nat.le_of_ble_eq_true rfl) hl.1 ⟨Nat.le_of_ble_eq_true rfl, Nat.le_of_ble_eq_true rfl⟩ ⟨Nat.le_of_ble_eq_true rfl, Nat.le_of_ble_eq_true rfl⟩ dX9_placeOf_2) rfl rfl (fun _ => rfl) (fun u H locs hT => ?_)
  have hT : Wd g A s [(a0, .inr (9, [.ref ac, .ref an])), (ac, .inl (g.2.1 0, N, .inl fc))] H locs := hT
  refine W.eq (g2 := F0 m 5 ls [.int (hashI cx nd)]) rfl ?_
  refine lv_aload_n hx hb dX9_placeOf_5 rfl (lv_at hl 0 rfl) ?_
  refine gX9_15 C hT (q0 := 0) rfl dX9_placeOf_6 ?_
  refine r_alen C hT (q0 := 1) 0 rfl rfl dX9_placeOf_9 ?_
  refine W.eq (g2 := F0 m 10 ls [.int (nI N), .int (hashI cx nd)]) rfl ?_
  refine lv_iconst (v := 1) hx hb dX9_placeOf_10 (by decide) ?_
  refine lv_isub hx hb dX9_placeOf_11 ?_
  refine lv_iand hx hb dX9_placeOf_12 ?_
  exact e_iret C hQ () hT (by rfl) dX9_placeOf_13

set_option maxHeartbeats 400000 in
set_option maxRecDepth 100000 in
theorem c_X9_learn (l : Launch) (g : GT) (a0 : Nat) (ac : Nat) (an : Nat) (N : Nat) (fc : Nat → Int32) (fn : Nat → Int32) (j : Nat) (on : Int32) (hj : j < N) (hN : N < 2 ^ 31) : OM (S := Unit) l g yX9_learn cX9_learn 4 none ({ frames := 1, cells := 0, slots := 0, locals := 23 } : Room) [.ref a0, .int (nI j), .int on] [(a0, .inr (9, [.ref ac, .ref an])), (ac, .inl (g.2.1 0, N, .inl fc)), (an, .inl (g.2.1 0, N, .inl fn))] (fun _ => none) (fun _ => [(a0, .inr (9, [.ref ac, .ref an])), (ac, .inl (g.2.1 0, N, .inl (upd fc j (slotUp on (fc j) (fn j))))), (an, .inl (g.2.1 0, N, .inl (upd fn j (cntUp (fn j)))))]) := by
  refine OM.startQ (by decide) (Nat.le_of_ble_eq_true rfl) ?_
  intro p e s m below meth c A ls Q H locs hQ C hnm hl hT
  have hx := C.x
  have hb := C.b
  have hl : lv_has ls 4 [(0, .ref a0), (1, .int (nI j)), (2, .int on)] := hl
  refine lv_aload_n hx hb dX9_learn_0 rfl (lv_at hl 0 rfl) ?_
  refine lv_iload_n hx hb dX9_learn_1 rfl (lv_at hl 1 rfl) ?_
  have hM := c_X9_has l g a0 ac an N fc (nI j)
  refine r_call0 (js := [0, 1]) C hT (runV (js := [0, 1]) (rm := ({ frames := 0, cells := 0, slots := 0, locals := 0 } : Room)) (As := [.int (nI j)]) (n := 1) (q1 := 0) (rest := []) C hT hM rfl rfl k477 k478 k479 k11 k480 (by decide +kernel) rfl rfl rfl rfl (Nat.le_of_ble_eq_true rfl) hl.1 ⟨Nat.le_of_ble_eq_true rfl, Nat.le_of_ble_eq_true rfl⟩ ⟨Nat.le_of_ble_eq_true rfl, Nat.le_of_ble_eq_true rfl⟩ dX9_learn_2) rfl rfl (fun _ => rfl) (fun u H locs hT => ?_)
  have hT : Wd g A s [(a0, .inr (9, [.ref ac, .ref an])), (ac, .inl (g.2.1 0, N, .inl fc)), (an, .inl (g.2.1 0, N, .inl fn))] H locs := hT
  refine W.eq (g2 := F0 m 5 ls [.int (b01 (inR (nI j) N))]) rfl ?_
  refine lv_if_ne (tgt := 9) hx hb dX9_learn_5 (by decide) (fun h_1 => ?_) (fun h_1 => ?_)
  · skip
    refine lv_ldc (v := 65536) hx hb C.ow (C.ts _ k481) dX9_learn_9 ?_
    refine lv_iconst (v := 2) hx hb dX9_learn_11 (by decide) ?_
    refine lv_aload_n hx hb dX9_learn_12 rfl (lv_at hl 0 rfl) ?_
    refine gX9_21 C hT (q0 := 0) rfl dX9_learn_13 ?_
    refine lv_iload_n hx hb dX9_learn_16 rfl (lv_at hl 1 rfl) ?_
    refine r_iald C hT (q0 := 2) rfl j rfl (by omega) (by omega) dX9_learn_17 ?_
    refine lv_iconst (v := 2) hx hb dX9_learn_18 (by decide) ?_
    refine lv_iadd hx hb dX9_learn_19 ?_
    refine r_mmax C hl.1 k482 (Nat.le_of_ble_eq_true rfl) (Nat.le_of_ble_eq_true rfl) (Nat.le_of_ble_eq_true rfl) (Nat.le_of_ble_eq_true rfl) dX9_learn_20 ?_
    refine lv_idiv hx hb dX9_learn_23 (rate_ne _) ?_
    refine lv_topi (fun x_2 ex_2 => ?_)
    refine lv_istore_n (lv' := [(3, .int x_2), (0, .ref a0), (1, .int (nI j)), (2, .int on)]) hx hb dX9_learn_24 rfl hl (by decide) rfl (fun ls hl => ?_)
    refine lv_aload_n hx hb dX9_learn_25 rfl (lv_at hl 1 rfl) ?_
    refine gX9_15 C hT (q0 := 0) rfl dX9_learn_26 ?_
    refine lv_iload_n hx hb dX9_learn_29 rfl (lv_at hl 2 rfl) ?_
    refine lv_dup2_11 hx hb dX9_learn_30 rfl rfl ?_
    refine r_iald C hT (q0 := 1) rfl j rfl (by omega) (by omega) dX9_learn_31 ?_
    refine lv_iload_n hx hb dX9_learn_32 rfl (lv_at hl 3 rfl) ?_
    refine r_ite (ls := ls) (J := 42) (a1 := 0) (a2 := 65535) (rest := [.int (fc j), .int (nI j), .ref ac]) (lv_if_eq (tgt := 41) hx hb dX9_learn_33 (by decide)) (fun h_3 kont => ?_) (fun h_3 kont => ?_) ?_
    · skip
      refine lv_iconst (v := 0) hx hb dX9_learn_41 (by decide) ?_
      exact kont
    · skip
      refine lv_ldc (v := 65535) hx hb C.ow (C.ts _ k483) dX9_learn_36 ?_
      refine lv_goto (tgt := 42) hx hb dX9_learn_38 (by decide) ?_
      exact kont
    refine lv_aload_n hx hb dX9_learn_42 rfl (lv_at hl 1 rfl) ?_
    refine gX9_15 C hT (q0 := 0) rfl dX9_learn_43 ?_
    refine lv_iload_n hx hb dX9_learn_46 rfl (lv_at hl 2 rfl) ?_
    refine r_iald C hT (q0 := 1) rfl j rfl (by omega) (by omega) dX9_learn_47 ?_
    refine lv_isub hx hb dX9_learn_48 ?_
    refine lv_iload_n hx hb dX9_learn_49 rfl (lv_at hl 0 rfl) ?_
    refine lv_imul hx hb dX9_learn_50 ?_
    refine lv_bipush (v := 16) hx hb dX9_learn_51 (by decide) ?_
    refine lv_ishr hx hb dX9_learn_53 ?_
    refine lv_iadd hx hb dX9_learn_54 ?_
    refine lv_topi (fun x_4 ex_4 => ?_)
    refine r_iast C hT (q0 := 1) rfl j rfl (by omega) (by omega) dX9_learn_55 (fun H locs hT => ?_)
    have hT : Wd g A s [(a0, .inr (9, [.ref ac, .ref an])), (ac, .inl (g.2.1 0, N, .inl (upd fc j x_4))), (an, .inl (g.2.1 0, N, .inl fn))] H locs := hT
    refine lv_aload_n hx hb dX9_learn_56 rfl (lv_at hl 1 rfl) ?_
    refine gX9_21 C hT (q0 := 0) rfl dX9_learn_57 ?_
    refine lv_iload_n hx hb dX9_learn_60 rfl (lv_at hl 2 rfl) ?_
    refine lv_bipush (v := 30) hx hb dX9_learn_61 (by decide) ?_
    refine lv_aload_n hx hb dX9_learn_63 rfl (lv_at hl 1 rfl) ?_
    refine gX9_21 C hT (q0 := 0) rfl dX9_learn_64 ?_
    refine lv_iload_n hx hb dX9_learn_67 rfl (lv_at hl 2 rfl) ?_
    refine r_iald C hT (q0 := 2) rfl j rfl (by omega) (by omega) dX9_learn_68 ?_
    refine lv_iconst (v := 1) hx hb dX9_learn_69 (by decide) ?_
    refine lv_iadd hx hb dX9_learn_70 ?_
    refine r_mmin C hl.1 k484 (Nat.le_of_ble_eq_true rfl) (Nat.le_of_ble_eq_true rfl) (Nat.le_of_ble_eq_true rfl) (Nat.le_of_ble_eq_true rfl) dX9_learn_71 ?_
    refine lv_topi (fun x_5 ex_5 => ?_)
    refine r_iast C hT (q0 := 2) rfl j rfl (by omega) (by omega) dX9_learn_74 (fun H locs hT => ?_)
    have hT : Wd g A s [(a0, .inr (9, [.ref ac, .ref an])), (ac, .inl (g.2.1 0, N, .inl (upd fc j x_4))), (an, .inl (g.2.1 0, N, .inl (upd fn j x_5)))] H locs := hT
    exact e_vret C hQ () (by subst ex_2 ex_4 ex_5; exact hT) rfl dX9_learn_75
  · skip
    exact absurd (b01_f h_1) (by rw [inR_nI hj hN]; decide)

set_option maxHeartbeats 400000 in
set_option maxRecDepth 100000 in
theorem c_X9_sameAs (l : Launch) (g : GT) (a0 : Nat) (ac : Nat) (an : Nat) (N : Nat) (fc : Nat → Int32) (fn : Nat → Int32) (b0 : Nat) (bc : Nat) (bn : Nat) (gc : Nat → Int32) (gn : Nat → Int32) (hN : N < 2 ^ 31) : OM (S := Unit) l g yX9_sameAs cX9_sameAs 2 (some .boolean) ({ frames := 1, cells := 0, slots := 0, locals := 22 } : Room) [.ref a0, .ref b0] [(a0, .inr (9, [.ref ac, .ref an])), (ac, .inl (g.2.1 0, N, .inl fc)), (an, .inl (g.2.1 0, N, .inl fn)), (b0, .inr (9, [.ref bc, .ref bn])), (bc, .inl (g.2.1 0, N, .inl gc)), (bn, .inl (g.2.1 0, N, .inl gn))] (fun _ => some (.int (b01 (eqTo fc gc N && eqTo fn gn N)))) (fun _ => [(a0, .inr (9, [.ref ac, .ref an])), (ac, .inl (g.2.1 0, N, .inl fc)), (an, .inl (g.2.1 0, N, .inl fn)), (b0, .inr (9, [.ref bc, .ref bn])), (bc, .inl (g.2.1 0, N, .inl gc)), (bn, .inl (g.2.1 0, N, .inl gn))]) := by
  refine OM.startQ (by decide) (Nat.le_of_ble_eq_true rfl) ?_
  intro p e s m below meth c A ls Q H locs hQ C hnm hl hT
  have hx := C.x
  have hb := C.b
  have hl : lv_has ls 2 [(0, .ref a0), (1, .ref b0)] := hl
  refine lv_aload_n hx hb dX9_sameAs_0 rfl (lv_at hl 0 rfl) ?_
  refine gX9_15 C hT (q0 := 0) rfl dX9_sameAs_1 ?_
  refine lv_aload_n hx hb dX9_sameAs_4 rfl (lv_at hl 1 rfl) ?_
  refine gX9_15 C hT (q0 := 3) rfl dX9_sameAs_5 ?_
  have hM := c_X5_same l g ac bc N fc gc (by first | assumption | omega)
  refine r_call0 (js := [1, 4]) C hT (runS (js := [1, 4]) (rm := ({ frames := 0, cells := 0, slots := 0, locals := 0 } : Room)) (As := [.ref ac, .ref bc]) (n := 2) (rest := []) C hT hM rfl rfl k629 k630 k2 k631 (by decide +kernel) rfl rfl (Nat.le_of_ble_eq_true rfl) hl.1 ⟨Nat.le_of_ble_eq_true rfl, Nat.le_of_ble_eq_true rfl⟩ ⟨Nat.le_of_ble_eq_true rfl, Nat.le_of_ble_eq_true rfl⟩ dX9_sameAs_8) rfl rfl (fun _ => rfl) (fun u H locs hT => ?_)
  have hT : Wd g A s [(a0, .inr (9, [.ref ac, .ref an])), (ac, .inl (g.2.1 0, N, .inl fc)), (an, .inl (g.2.1 0, N, .inl fn)), (b0, .inr (9, [.ref bc, .ref bn])), (bc, .inl (g.2.1 0, N, .inl gc)), (bn, .inl (g.2.1 0, N, .inl gn))] H locs := hT
  refine W.eq (g2 := F0 m 11 ls [.int (b01 (eqTo fc gc N))]) rfl ?_
  refine lv_if_eq (tgt := 32) hx hb dX9_sameAs_11 (by decide) (fun h_1 => ?_) (fun h_1 => ?_)
  · skip
    have h_1 := b01_f h_1
    refine lv_iconst (v := 0) hx hb dX9_sameAs_32 (by decide) ?_
    exact e_zret C hQ () hT (by simp [b01, h_1]) (by decide) dX9_sameAs_33
  · skip
    have h_1 := b01_t h_1
    refine lv_aload_n hx hb dX9_sameAs_14 rfl (lv_at hl 0 rfl) ?_
    refine gX9_21 C hT (q0 := 0) rfl dX9_sameAs_15 ?_
    refine lv_aload_n hx hb dX9_sameAs_18 rfl (lv_at hl 1 rfl) ?_
    refine gX9_21 C hT (q0 := 3) rfl dX9_sameAs_19 ?_
    have hM := c_X5_same l g an bn N fn gn (by first | assumption | omega)
    refine r_call0 (js := [2, 5]) C hT (runS (js := [2, 5]) (rm := ({ frames := 0, cells := 0, slots := 0, locals := 0 } : Room)) (As := [.ref an, .ref bn]) (n := 2) (rest := []) C hT hM rfl rfl k629 k630 k2 k631 (by decide +kernel) rfl rfl (Nat.le_of_ble_eq_true rfl) hl.1 ⟨Nat.le_of_ble_eq_true rfl, Nat.le_of_ble_eq_true rfl⟩ ⟨Nat.le_of_ble_eq_true rfl, Nat.le_of_ble_eq_true rfl⟩ dX9_sameAs_22) rfl rfl (fun _ => rfl) (fun u H locs hT => ?_)
    have hT : Wd g A s [(a0, .inr (9, [.ref ac, .ref an])), (ac, .inl (g.2.1 0, N, .inl fc)), (an, .inl (g.2.1 0, N, .inl fn)), (b0, .inr (9, [.ref bc, .ref bn])), (bc, .inl (g.2.1 0, N, .inl gc)), (bn, .inl (g.2.1 0, N, .inl gn))] H locs := hT
    refine W.eq (g2 := F0 m 25 ls [.int (b01 (eqTo fn gn N))]) rfl ?_
    refine lv_if_eq (tgt := 32) hx hb dX9_sameAs_25 (by decide) (fun h_2 => ?_) (fun h_2 => ?_)
    · skip
      have h_2 := b01_f h_2
      refine lv_iconst (v := 0) hx hb dX9_sameAs_32 (by decide) ?_
      exact e_zret C hQ () hT (by simp [b01, h_1, h_2]) (by decide) dX9_sameAs_33
    · skip
      have h_2 := b01_t h_2
      refine lv_iconst (v := 1) hx hb dX9_sameAs_28 (by decide) ?_
      refine lv_goto (tgt := 33) hx hb dX9_sameAs_29 (by decide) ?_
      exact e_zret C hQ () hT (by simp [b01, h_1, h_2]) (by decide) dX9_sameAs_33

set_option maxHeartbeats 400000 in
set_option maxRecDepth 100000 in
theorem c_X9_reset (l : Launch) (g : GT) (a0 : Nat) (ac : Nat) (an : Nat) (N : Nat) (fc : Nat → Int32) (fn : Nat → Int32) (hN : N < 2 ^ 31) : OM (S := Unit) l g yX9_reset cX9_reset 1 none ({ frames := 1, cells := 0, slots := 0, locals := 23 } : Room) [.ref a0] [(a0, .inr (9, [.ref ac, .ref an])), (ac, .inl (g.2.1 0, N, .inl fc)), (an, .inl (g.2.1 0, N, .inl fn))] (fun _ => none) (fun _ => [(a0, .inr (9, [.ref ac, .ref an])), (ac, .inl (g.2.1 0, N, .inl (fillTo fc 32768 N))), (an, .inl (g.2.1 0, N, .inl (fillTo fn 0 N)))]) := by
  refine OM.startQ (by decide) (Nat.le_of_ble_eq_true rfl) ?_
  intro p e s m below meth c A ls Q H locs hQ C hnm hl hT
  have hx := C.x
  have hb := C.b
  have hl : lv_has ls 1 [(0, .ref a0)] := hl
  refine lv_aload_n hx hb dX9_reset_0 rfl (lv_at hl 0 rfl) ?_
  refine gX9_15 C hT (q0 := 0) rfl dX9_reset_1 ?_
  refine lv_ldc (v := 32768) hx hb C.ow (C.ts _ k164) dX9_reset_4 ?_
  have hM := c_J7_fill_53178 l g ac N fc 32768 (by first | assumption | omega)
  refine r_call0 (js := [1]) C hT (runS (js := [1]) (rm := ({ frames := 0, cells := 0, slots := 0, locals := 0 } : Room)) (As := [.ref ac, .int 32768]) (n := 2) (rest := []) C hT hM rfl rfl k165 k121 k8 k122 (by decide +kernel) rfl rfl (Nat.le_of_ble_eq_true rfl) hl.1 ⟨Nat.le_of_ble_eq_true rfl, Nat.le_of_ble_eq_true rfl⟩ ⟨Nat.le_of_ble_eq_true rfl, Nat.le_of_ble_eq_true rfl⟩ dX9_reset_6) rfl rfl (fun _ => rfl) (fun u H locs hT => ?_)
  have hT : Wd g A s [(a0, .inr (9, [.ref ac, .ref an])), (ac, .inl (g.2.1 0, N, .inl (fillTo fc 32768 N))), (an, .inl (g.2.1 0, N, .inl fn))] H locs := hT
  refine W.eq (g2 := F0 m 9 ls []) rfl ?_
  refine lv_aload_n hx hb dX9_reset_9 rfl (lv_at hl 0 rfl) ?_
  refine gX9_21 C hT (q0 := 0) rfl dX9_reset_10 ?_
  refine lv_iconst (v := 0) hx hb dX9_reset_13 (by decide) ?_
  have hM := c_J7_fill_53178 l g an N fn 0 (by first | assumption | omega)
  refine r_call0 (js := [2]) C hT (runS (js := [2]) (rm := ({ frames := 0, cells := 0, slots := 0, locals := 0 } : Room)) (As := [.ref an, .int 0]) (n := 2) (rest := []) C hT hM rfl rfl k165 k121 k8 k122 (by decide +kernel) rfl rfl (Nat.le_of_ble_eq_true rfl) hl.1 ⟨Nat.le_of_ble_eq_true rfl, Nat.le_of_ble_eq_true rfl⟩ ⟨Nat.le_of_ble_eq_true rfl, Nat.le_of_ble_eq_true rfl⟩ dX9_reset_14) rfl rfl (fun _ => rfl) (fun u H locs hT => ?_)
  have hT : Wd g A s [(a0, .inr (9, [.ref ac, .ref an])), (ac, .inl (g.2.1 0, N, .inl (fillTo fc 32768 N))), (an, .inl (g.2.1 0, N, .inl (fillTo fn 0 N)))] H locs := hT
  refine W.eq (g2 := F0 m 17 ls []) rfl ?_
  exact e_vret C hQ () hT rfl dX9_reset_17
