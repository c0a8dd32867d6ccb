set_option maxHeartbeats 400000 in
set_option maxRecDepth 100000 in
theorem c_X2_contextOf (l : Launch) (g : GT) (a0 : Nat) (ab : Nat) (n : Nat) (nd : Nat) (bg : Nat) (f : Nat → Int32) (kd : Int32) (nn : Int32) (hn : n ≤ 2000) (hal : allowB kd nn = true) : OM (S := Unit) l g yX2_contextOf cX2_contextOf 3 (some .int) ({ frames := 2, cells := 0, slots := 0, locals := 45 } : Room) [.ref a0, .int kd, .int nn] [(a0, .inr (2, [.ref ab, .int (nI n), .int (nI nd), .int (nI bg)])), (ab, .inl (g.2.1 0, 2000, .inl f))] (fun _ => some (.int (ctxI f n kd nn))) (fun _ => [(a0, .inr (2, [.ref ab, .int (nI n), .int (nI nd), .int (nI bg)])), (ab, .inl (g.2.1 0, 2000, .inl f))]) := by
  refine OM.startQ (by decide) (Nat.le_of_ble_eq_true rfl) ?_
  intro p e s m below meth c A ls Q H locs hQ C hnm hl hT
  have hx := C.x
  have hb := C.b
  have hl : lv_has ls 3 [(0, .ref a0), (1, .int kd), (2, .int nn)] := hl
  refine lv_iload_n hx hb dX2_contextOf_0 rfl (lv_at hl 1 rfl) ?_
  by_cases h_1 : kd = 0
  · skip
    refine lv_tableIn (off := 31) (tgt := 32) hx hb dX2_contextOf_1 (by rw [h_1]; decide) (by rw [h_1]; decide) (by rw [h_1]; rfl) (by decide) ?_
    obtain ⟨t, ht, vet⟩ := allow0 (h_1 ▸ hal)
    refine lv_aload_n hx hb dX2_contextOf_32 rfl (lv_at hl 0 rfl) ?_
    refine lv_iload_n hx hb dX2_contextOf_33 rfl (lv_at hl 2 rfl) ?_
    refine W.eq (g2 := F0 m 34 ls [.int (nI t), .ref a0]) (congrArg (fun z => F0 m 34 ls (.int z :: [.ref a0])) (vet)) ?_
    have hM := c_X2_latestContext l g a0 ab n nd bg f t (by first | assumption | omega) (by omega)
    refine r_call0 (js := [0, 1]) C hT (runV (js := [0, 1]) (rm := ({ frames := 1, cells := 0, slots := 0, locals := 22 } : Room)) (As := [.int (nI t)]) (n := 1) (q1 := 0) (rest := []) C hT hM rfl rfl k331 k333 s0 k6 k334 (by decide +kernel) rfl rfl rfl rfl (Nat.le_of_ble_eq_true rfl) hl.1 ⟨Nat.le_of_ble_eq_true rfl, Nat.le_of_ble_eq_true rfl⟩ ⟨Nat.le_of_ble_eq_true rfl, Nat.le_of_ble_eq_true rfl⟩ dX2_contextOf_34) rfl rfl (fun _ => rfl) (fun u H locs hT => ?_)
    have hT : Wd g A s [(a0, .inr (2, [.ref ab, .int (nI n), .int (nI nd), .int (nI bg)])), (ab, .inl (g.2.1 0, 2000, .inl f))] H locs := hT
    refine W.eq (g2 := F0 m 37 ls [.int (latH f n t t)]) rfl ?_
    exact e_iret C hQ () hT (by rw [ctxI, if_pos h_1, vet, nI_clamp (by omega)]) dX2_contextOf_37
  by_cases h_2 : kd = 1
  · skip
    refine lv_tableIn (off := 37) (tgt := 38) hx hb dX2_contextOf_1 (by rw [h_2]; decide) (by rw [h_2]; decide) (by rw [h_2]; rfl) (by decide) ?_
    refine lv_aload_n hx hb dX2_contextOf_38 rfl (lv_at hl 0 rfl) ?_
    have hM := c_X2_wordContext l g a0 ab n nd bg f (by first | assumption | omega)
    refine r_call0 (js := [0, 1]) C hT (runV (js := [0, 1]) (rm := ({ frames := 1, cells := 0, slots := 0, locals := 22 } : Room)) (As := []) (n := 0) (q1 := 0) (rest := []) C hT hM rfl rfl k341 k343 s1 k6 k344 (by decide +kernel) rfl rfl rfl rfl (Nat.le_of_ble_eq_true rfl) hl.1 ⟨Nat.le_of_ble_eq_true rfl, Nat.le_of_ble_eq_true rfl⟩ ⟨Nat.le_of_ble_eq_true rfl, Nat.le_of_ble_eq_true rfl⟩ dX2_contextOf_39) rfl rfl (fun _ => rfl) (fun u H locs hT => ?_)
    have hT : Wd g A s [(a0, .inr (2, [.ref ab, .int (nI n), .int (nI nd), .int (nI bg)])), (ab, .inl (g.2.1 0, 2000, .inl f))] H locs := hT
    refine W.eq (g2 := F0 m 42 ls [.int (wordH f n)]) rfl ?_
    exact e_iret C hQ () hT (by rw [ctxI, if_neg h_1, if_pos h_2]) dX2_contextOf_42
  by_cases h_3 : kd = 2
  · skip
    refine lv_tableIn (off := 42) (tgt := 43) hx hb dX2_contextOf_1 (by rw [h_3]; decide) (by rw [h_3]; decide) (by rw [h_3]; rfl) (by decide) ?_
    obtain ⟨t, ht0, ht, vet⟩ := allow2 (h_3 ▸ hal)
    refine lv_aload_n hx hb dX2_contextOf_43 rfl (lv_at hl 0 rfl) ?_
    refine lv_iload_n hx hb dX2_contextOf_44 rfl (lv_at hl 2 rfl) ?_
    refine W.eq (g2 := F0 m 45 ls [.int (nI t), .ref a0]) (congrArg (fun z => F0 m 45 ls (.int z :: [.ref a0])) (vet)) ?_
    have hM := c_X2_columnContext l g a0 ab n nd bg f t (by first | assumption | omega) (by omega) (by omega)
    refine r_call0 (js := [0, 1]) C hT (runV (js := [0, 1]) (rm := ({ frames := 1, cells := 0, slots := 0, locals := 22 } : Room)) (As := [.int (nI t)]) (n := 1) (q1 := 0) (rest := []) C hT hM rfl rfl k348 k350 s2 k6 k351 (by decide +kernel) rfl rfl rfl rfl (Nat.le_of_ble_eq_true rfl) hl.1 ⟨Nat.le_of_ble_eq_true rfl, Nat.le_of_ble_eq_true rfl⟩ ⟨Nat.le_of_ble_eq_true rfl, Nat.le_of_ble_eq_true rfl⟩ dX2_contextOf_45) rfl rfl (fun _ => rfl) (fun u H locs hT => ?_)
    have hT : Wd g A s [(a0, .inr (2, [.ref ab, .int (nI n), .int (nI nd), .int (nI bg)])), (ab, .inl (g.2.1 0, 2000, .inl f))] H locs := hT
    refine W.eq (g2 := F0 m 48 ls [.int (colH f n t)]) rfl ?_
    exact e_iret C hQ () hT (by rw [ctxI, if_neg h_1, if_neg h_2, if_pos h_3, vet, nI_clamp (by omega)]) dX2_contextOf_48
  by_cases h_4 : kd = 3
  · skip
    refine lv_tableIn (off := 48) (tgt := 49) hx hb dX2_contextOf_1 (by rw [h_4]; decide) (by rw [h_4]; decide) (by rw [h_4]; rfl) (by decide) ?_
    refine lv_aload_n hx hb dX2_contextOf_49 rfl (lv_at hl 0 rfl) ?_
    refine lv_iload_n hx hb dX2_contextOf_50 rfl (lv_at hl 2 rfl) ?_
    have hM := c_X2_apartContext l g a0 ab n nd bg f nn (by first | assumption | omega)
    refine r_call0 (js := [0, 1]) C hT (runV (js := [0, 1]) (rm := ({ frames := 1, cells := 0, slots := 0, locals := 22 } : Room)) (As := [.int nn]) (n := 1) (q1 := 0) (rest := []) C hT hM rfl rfl k352 k354 s3 k6 k355 (by decide +kernel) rfl rfl rfl rfl (Nat.le_of_ble_eq_true rfl) hl.1 ⟨Nat.le_of_ble_eq_true rfl, Nat.le_of_ble_eq_true rfl⟩ ⟨Nat.le_of_ble_eq_true rfl, Nat.le_of_ble_eq_true rfl⟩ dX2_contextOf_51) rfl rfl (fun _ => rfl) (fun u H locs hT => ?_)
    have hT : Wd g A s [(a0, .inr (2, [.ref ab, .int (nI n), .int (nI nd), .int (nI bg)])), (ab, .inl (g.2.1 0, 2000, .inl f))] H locs := hT
    refine W.eq (g2 := F0 m 54 ls [.int (apH f n nn 4)]) rfl ?_
    exact e_iret C hQ () hT (by rw [ctxI, if_neg h_1, if_neg h_2, if_neg h_3, if_pos h_4]) dX2_contextOf_54
  refine lv_tableOut (tgt := 55) hx hb dX2_contextOf_1 (swOut4 h_1 h_2 h_3 h_4) (by decide) ?_
  refine lv_iconst (v := 0) hx hb dX2_contextOf_55 (by decide) ?_
  exact e_iret C hQ () hT (by rw [ctxI, if_neg h_1, if_neg h_2, if_neg h_3, if_neg h_4]) dX2_contextOf_56

set_option maxHeartbeats 400000 in
set_option maxRecDepth 100000 in
theorem c_X2_sameBefore (l : Launch) (g : GT) (a0 : Nat) (ab : Nat) (n : Nat) (nd : Nat) (bg : Nat) (f : Nat → Int32) (pl : Nat) (t : Nat) (hn : n ≤ 2000) (htp : t ≤ pl) (hpn : pl < n) : OM (S := Unit) l g yX2_sameBefore cX2_sameBefore 4 (some .boolean) ({ frames := 1, cells := 0, slots := 0, locals := 22 } : Room) [.ref a0, .int (nI pl), .int (nI t)] [(a0, .inr (2, [.ref ab, .int (nI n), .int (nI nd), .int (nI bg)])), (ab, .inl (g.2.1 0, 2000, .inl f))] (fun _ => some (.int (b01 (sameB f n pl t)))) (fun _ => [(a0, .inr (2, [.ref ab, .int (nI n), .int (nI nd), .int (nI bg)])), (ab, .inl (g.2.1 0, 2000, .inl f))]) := by
  refine OM.startQ (by decide) (Nat.le_of_ble_eq_true rfl) ?_
  intro p e s m below meth c A ls Q H locs hQ C hnm hl hT
  have hx := C.x
  have hb := C.b
  have hl : lv_has ls 4 [(0, .ref a0), (1, .int (nI pl)), (2, .int (nI t))] := hl
  refine lv_iconst (v := 1) hx hb dX2_sameBefore_0 (by decide) ?_
  refine lv_istore_n (lv' := [(3, .int 1), (0, .ref a0), (1, .int (nI pl)), (2, .int (nI t))]) hx hb dX2_sameBefore_1 rfl hl (by decide) rfl (fun ls hl => ?_)
  have loop_2 : ∀ (fu : Nat) (i : Nat) (vx3 : Int32) (H : Heap) (locs : List Loc) (ls : Array Slot) (hi : i ≤ t) (vex3 : vx3 = nI (i + 1)) (hs : sameB f n pl i = true), t - i < fu → Wd g A s [(a0, .inr (2, [.ref ab, .int (nI n), .int (nI nd), .int (nI bg)])), (ab, .inl (g.2.1 0, 2000, .inl f))] H locs → lv_has ls 4 [(0, .ref a0), (1, .int (nI pl)), (2, .int (nI t)), (3, .int vx3)] → W p l e ({ frames := 1, cells := 0, slots := 0, locals := 22 } : Room) s m ([.ref a0, .int (nI pl), .int (nI t)] : List Value).toArray below meth c H locs 0 0 Q (F0 m 2 ls []) := by
    intro fu
    induction fu with
    | zero => intro i vx3 H locs ls hi vex3 hs hm; exact absurd hm (Nat.not_lt_zero _)
    | succ fu ih =>
      intro i vx3 H locs ls hi vex3 hs hm hT hl
      refine lv_iload_n hx hb dX2_sameBefore_2 rfl (lv_at hl 3 rfl) ?_
      refine lv_iload_n hx hb dX2_sameBefore_3 rfl (lv_at hl 2 rfl) ?_
      refine lv_icmp_gt (tgt := 30) hx hb dX2_sameBefore_4 (by decide) (fun h_1 => ?_) (fun h_1 => ?_)
      · skip
        have hin : i = t := by have := lp_le_end vex3 (by omega) (by omega) h_1; omega
        refine lv_iconst (v := 1) hx hb dX2_sameBefore_30 (by decide) ?_
        exact e_zret C hQ () hT (by rw [← hin, hs]; rfl) (by decide) dX2_sameBefore_31
      · skip
        have hin : i < t := by have := lp_le_go vex3 (by omega) (by omega) h_1; omega
        refine lv_aload_n hx hb dX2_sameBefore_7 rfl (lv_at hl 0 rfl) ?_
        refine lv_iload_n hx hb dX2_sameBefore_8 rfl (lv_at hl 1 rfl) ?_
        refine lv_iload_n hx hb dX2_sameBefore_9 rfl (lv_at hl 3 rfl) ?_
        refine W.eq (g2 := F0 m 10 ls [.int (nI (i + 1)), .int (nI pl), .ref a0]) (congrArg (fun z => F0 m 10 ls (.int z :: [.int (nI pl), .ref a0])) (vex3)) ?_
        refine lv_isub hx hb dX2_sameBefore_10 ?_
        refine W.eq (g2 := F0 m 11 ls [.int (nI (pl - (i + 1))), .ref a0]) (congrArg (fun z => F0 m 11 ls (.int z :: [.ref a0])) (pk_sub (by omega))) ?_
        have hM := c_X2_byteAt l g a0 ab n nd bg f (pl - (i + 1)) (by first | assumption | omega) (by omega)
        refine r_call0 (js := [0, 1]) C hT (runV (js := [0, 1]) (rm := ({ frames := 0, cells := 0, slots := 0, locals := 0 } : Room)) (As := [.int (nI (pl - (i + 1)))]) (n := 1) (q1 := 0) (rest := []) C hT hM rfl rfl k325 k308 k309 k6 k310 (by decide +kernel) rfl rfl rfl rfl (Nat.le_of_ble_eq_true rfl) hl.1 ⟨Nat.le_of_ble_eq_true rfl, Nat.le_of_ble_eq_true rfl⟩ ⟨Nat.le_of_ble_eq_true rfl, Nat.le_of_ble_eq_true rfl⟩ dX2_sameBefore_11) rfl rfl (fun _ => rfl) (fun u H locs hT => ?_)
        have hT : Wd g A s [(a0, .inr (2, [.ref ab, .int (nI n), .int (nI nd), .int (nI bg)])), (ab, .inl (g.2.1 0, 2000, .inl f))] H locs := hT
        refine W.eq (g2 := F0 m 14 ls [.int (byteN f n (pl - (i + 1)))]) rfl ?_
        refine W.eq (g2 := F0 m 14 ls [.int (f (pl - (i + 1)))]) (congrArg (fun z => F0 m 14 ls (.int z :: [])) (byteN_p (by omega))) ?_
        refine lv_aload_n hx hb dX2_sameBefore_14 rfl (lv_at hl 0 rfl) ?_
        refine lv_iload_n hx hb dX2_sameBefore_15 rfl (lv_at hl 3 rfl) ?_
        refine W.eq (g2 := F0 m 16 ls [.int (nI (i + 1)), .ref a0, .int (f (pl - (i + 1)))]) (congrArg (fun z => F0 m 16 ls (.int z :: [.ref a0, .int (f (pl - (i + 1)))])) (vex3)) ?_
        have hM := c_X2_back l g a0 ab n nd bg f (i + 1) (by first | assumption | omega) (by omega)
        refine r_call0 (js := [0, 1]) C hT (runV (js := [0, 1]) (rm := ({ frames := 0, cells := 0, slots := 0, locals := 0 } : Room)) (As := [.int (nI (i + 1))]) (n := 1) (q1 := 0) (rest := [.int (f (pl - (i + 1)))]) C hT hM rfl rfl k326 k312 k313 k6 k314 (by decide +kernel) rfl rfl rfl rfl (Nat.le_of_ble_eq_true rfl) hl.1 ⟨Nat.le_of_ble_eq_true rfl, Nat.le_of_ble_eq_true rfl⟩ ⟨Nat.le_of_ble_eq_true rfl, Nat.le_of_ble_eq_true rfl⟩ dX2_sameBefore_16) rfl rfl (fun _ => rfl) (fun u H locs hT => ?_)
        have hT : Wd g A s [(a0, .inr (2, [.ref ab, .int (nI n), .int (nI nd), .int (nI bg)])), (ab, .inl (g.2.1 0, 2000, .inl f))] H locs := hT
        refine W.eq (g2 := F0 m 19 ls [.int (backN f n (i + 1)), .int (f (pl - (i + 1)))]) rfl ?_
        refine lv_icmp_eq (tgt := 24) hx hb dX2_sameBefore_19 (by decide) (fun h_2 => ?_) (fun h_2 => ?_)
        · skip
          obtain ⟨x_3, ex_3⟩ : ∃ y : Int32, y = vx3 + 1 := ⟨_, rfl⟩
          refine lv_iinc (v := x_3) (lv' := [(3, .int x_3), (0, .ref a0), (1, .int (nI pl)), (2, .int (nI t))]) hx hb dX2_sameBefore_24 hl (k := 3) rfl (by rw [ex_3]; rfl) (by decide) rfl (fun ls hl => ?_)
          refine lv_goto (tgt := 2) hx hb dX2_sameBefore_27 (by decide) ?_
          exact ih (i + 1) x_3 H locs ls (by first | assumption | omega | rfl) (by rw [ex_3, vex3]; exact nI_1 (i + 1)) (sameB_t hs h_2) (by omega) hT (lv_sub hl [1, 2, 3, 0] rfl)
        · skip
          refine lv_iconst (v := 0) hx hb dX2_sameBefore_22 (by decide) ?_
          exact e_zret C hQ () hT (by rw [sameB_f hin h_2]; rfl) (by decide) dX2_sameBefore_23
  exact loop_2 (t - 0 + 1) 0 1 H locs ls (by first | assumption | omega | rfl) rfl rfl (Nat.lt_succ_self _) hT (lv_sub hl [1, 2, 3, 0] rfl)

set_option maxHeartbeats 400000 in
set_option maxRecDepth 100000 in
theorem c_X2_sameAs (l : Launch) (g : GT) (a0 : Nat) (ab : Nat) (n : Nat) (nd : Nat) (bg : Nat) (f : Nat → Int32) (b0 : Nat) (bb : Nat) (n2 : Nat) (nd2 : Nat) (bg2 : Nat) (f2 : Nat → Int32) (hn : n ≤ 2000) (hn2 : n2 ≤ 2000) (hd : nd < 65536) (hd2 : nd2 < 65536) : OM (S := Unit) l g yX2_sameAs cX2_sameAs 3 (some .boolean) ({ frames := 1, cells := 0, slots := 0, locals := 21 } : Room) [.ref a0, .ref b0] [(a0, .inr (2, [.ref ab, .int (nI n), .int (nI nd), .int (nI bg)])), (ab, .inl (g.2.1 0, 2000, .inl f)), (b0, .inr (2, [.ref bb, .int (nI n2), .int (nI nd2), .int (nI bg2)])), (bb, .inl (g.2.1 0, 2000, .inl f2))] (fun _ => some (.int (b01 (decide (n = n2) && (decide (nd = nd2) && eqTo f f2 n))))) (fun _ => [(a0, .inr (2, [.ref ab, .int (nI n), .int (nI nd), .int (nI bg)])), (ab, .inl (g.2.1 0, 2000, .inl f)), (b0, .inr (2, [.ref bb, .int (nI n2), .int (nI nd2), .int (nI bg2)])), (bb, .inl (g.2.1 0, 2000, .inl f2))]) := by
  refine OM.startQ (by decide) (Nat.le_of_ble_eq_true rfl) ?_
  intro p e s m below meth c A ls Q H locs hQ C hnm hl hT
  have hx := C.x
  have hb := C.b
  have hl : lv_has ls 3 [(0, .ref a0), (1, .ref b0)] := hl
  refine lv_aload_n hx hb dX2_sameAs_0 rfl (lv_at hl 0 rfl) ?_
  refine gX2_19 C hT (q0 := 0) rfl dX2_sameAs_1 ?_
  refine lv_aload_n hx hb dX2_sameAs_4 rfl (lv_at hl 1 rfl) ?_
  refine gX2_19 C hT (q0 := 2) rfl dX2_sameAs_5 ?_
  refine lv_icmp_ne (tgt := 22) hx hb dX2_sameAs_8 (by decide) (fun h_1 => ?_) (fun h_1 => ?_)
  · skip
    have hnn : ¬ n = n2 := fun q => h_1 (by rw [q])
    refine lv_iconst (v := 0) hx hb dX2_sameAs_22 (by decide) ?_
    exact e_zret C hQ () hT (by first | (simp [b01, hnn]; done) | (simp [b01, hdd]; done)) (by decide) dX2_sameAs_23
  · skip
    have hnn : n = n2 := i32_eqN (by omega) (by omega) h_1
    refine lv_aload_n hx hb dX2_sameAs_11 rfl (lv_at hl 0 rfl) ?_
    refine gX2_15 C hT (q0 := 0) rfl dX2_sameAs_12 ?_
    refine lv_aload_n hx hb dX2_sameAs_15 rfl (lv_at hl 1 rfl) ?_
    refine gX2_15 C hT (q0 := 2) rfl dX2_sameAs_16 ?_
    refine lv_icmp_eq (tgt := 24) hx hb dX2_sameAs_19 (by decide) (fun h_2 => ?_) (fun h_2 => ?_)
    · skip
      have hdd : nd = nd2 := i32_eqN (by omega) (by omega) h_2
      refine lv_iconst (v := 0) hx hb dX2_sameAs_24 (by decide) ?_
      refine lv_istore_n (lv' := [(2, .int 0), (0, .ref a0), (1, .ref b0)]) hx hb dX2_sameAs_25 rfl hl (by decide) rfl (fun ls hl => ?_)
      have loop_26 : ∀ (fu : Nat) (i : Nat) (vx2 : Int32) (H : Heap) (locs : List Loc) (ls : Array Slot) (hi : i ≤ n) (vex2 : vx2 = nI i) (he : eqTo f f2 i = true), n - i < fu → Wd g A s [(a0, .inr (2, [.ref ab, .int (nI n), .int (nI nd), .int (nI bg)])), (ab, .inl (g.2.1 0, 2000, .inl f)), (b0, .inr (2, [.ref bb, .int (nI n2), .int (nI nd2), .int (nI bg2)])), (bb, .inl (g.2.1 0, 2000, .inl f2))] H locs → lv_has ls 3 [(0, .ref a0), (1, .ref b0), (2, .int vx2)] → W p l e ({ frames := 1, cells := 0, slots := 0, locals := 21 } : Room) s m ([.ref a0, .ref b0] : List Value).toArray below meth c H locs 0 0 Q (F0 m 26 ls []) := by
        intro fu
        induction fu with
        | zero => intro i vx2 H locs ls hi vex2 he hm; exact absurd hm (Nat.not_lt_zero _)
        | succ fu ih =>
          intro i vx2 H locs ls hi vex2 he hm hT hl
          refine lv_iload_n hx hb dX2_sameAs_26 rfl (lv_at hl 2 rfl) ?_
          refine lv_aload_n hx hb dX2_sameAs_27 rfl (lv_at hl 0 rfl) ?_
          refine gX2_19 C hT (q0 := 0) rfl dX2_sameAs_28 ?_
          refine lv_icmp_ge (tgt := 55) hx hb dX2_sameAs_31 (by decide) (fun h_3 => ?_) (fun h_3 => ?_)
          · skip
            have hin := lp_end vex2 (by omega) hi h_3
            refine lv_iconst (v := 1) hx hb dX2_sameAs_55 (by decide) ?_
            exact e_zret C hQ () hT (by rw [← hin, he, hin]; simp [b01, hnn, hdd]) (by decide) dX2_sameAs_56
          · skip
            have hin := lp_go vex2 (by omega) hi h_3
            refine lv_aload_n hx hb dX2_sameAs_34 rfl (lv_at hl 0 rfl) ?_
            refine lv_iload_n hx hb dX2_sameAs_35 rfl (lv_at hl 2 rfl) ?_
            refine W.eq (g2 := F0 m 36 ls [.int (nI i), .ref a0]) (congrArg (fun z => F0 m 36 ls (.int z :: [.ref a0])) (vex2)) ?_
            have hM := c_X2_byteAt l g a0 ab n nd bg f i (by first | assumption | omega) (by omega)
            refine r_call0 (js := [0, 1]) C hT (runV (js := [0, 1]) (rm := ({ frames := 0, cells := 0, slots := 0, locals := 0 } : Room)) (As := [.int (nI i)]) (n := 1) (q1 := 0) (rest := []) C hT hM rfl rfl k325 k308 k309 k6 k310 (by decide +kernel) rfl rfl rfl rfl (Nat.le_of_ble_eq_true rfl) hl.1 ⟨Nat.le_of_ble_eq_true rfl, Nat.le_of_ble_eq_true rfl⟩ ⟨Nat.le_of_ble_eq_true rfl, Nat.le_of_ble_eq_true rfl⟩ dX2_sameAs_36) rfl rfl (fun _ => rfl) (fun u H locs hT => ?_)
            have hT : Wd g A s [(a0, .inr (2, [.ref ab, .int (nI n), .int (nI nd), .int (nI bg)])), (ab, .inl (g.2.1 0, 2000, .inl f)), (b0, .inr (2, [.ref bb, .int (nI n2), .int (nI nd2), .int (nI bg2)])), (bb, .inl (g.2.1 0, 2000, .inl f2))] H locs := hT
            refine W.eq (g2 := F0 m 39 ls [.int (byteN f n i)]) rfl ?_
            refine W.eq (g2 := F0 m 39 ls [.int (f i)]) (congrArg (fun z => F0 m 39 ls (.int z :: [])) (byteN_p (by omega))) ?_
            refine lv_aload_n hx hb dX2_sameAs_39 rfl (lv_at hl 1 rfl) ?_
            refine lv_iload_n hx hb dX2_sameAs_40 rfl (lv_at hl 2 rfl) ?_
            refine W.eq (g2 := F0 m 41 ls [.int (nI i), .ref b0, .int (f i)]) (congrArg (fun z => F0 m 41 ls (.int z :: [.ref b0, .int (f i)])) (vex2)) ?_
            have hM := c_X2_byteAt l g b0 bb n2 nd2 bg2 f2 i (by omega) (by omega)
            refine r_call0 (js := [2, 3]) C hT (runV (js := [2, 3]) (rm := ({ frames := 0, cells := 0, slots := 0, locals := 0 } : Room)) (As := [.int (nI i)]) (n := 1) (q1 := 0) (rest := [.int (f i)]) C hT hM rfl rfl k325 k308 k309 k6 k310 (by decide +kernel) rfl rfl rfl rfl (Nat.le_of_ble_eq_true rfl) hl.1 ⟨Nat.le_of_ble_eq_true rfl, Nat.le_of_ble_eq_true rfl⟩ ⟨Nat.le_of_ble_eq_true rfl, Nat.le_of_ble_eq_true rfl⟩ dX2_sameAs_41) rfl rfl (fun _ => rfl) (fun u H locs hT => ?_)
            have hT : Wd g A s [(a0, .inr (2, [.ref ab, .int (nI n), .int (nI nd), .int (nI bg)])), (ab, .inl (g.2.1 0, 2000, .inl f)), (b0, .inr (2, [.ref bb, .int (nI n2), .int (nI nd2), .int (nI bg2)])), (bb, .inl (g.2.1 0, 2000, .inl f2))] H locs := hT
            refine W.eq (g2 := F0 m 44 ls [.int (byteN f2 n2 i), .int (f i)]) rfl ?_
            refine W.eq (g2 := F0 m 44 ls [.int (f2 i), .int (f i)]) (congrArg (fun z => F0 m 44 ls (.int z :: [.int (f i)])) (byteN_p (by omega))) ?_
            refine lv_icmp_eq (tgt := 49) hx hb dX2_sameAs_44 (by decide) (fun h_4 => ?_) (fun h_4 => ?_)
            · skip
              obtain ⟨x_5, ex_5⟩ : ∃ y : Int32, y = vx2 + 1 := ⟨_, rfl⟩
              refine lv_iinc (v := x_5) (lv' := [(2, .int x_5), (0, .ref a0), (1, .ref b0)]) hx hb dX2_sameAs_49 hl (k := 2) rfl (by rw [ex_5]; rfl) (by decide) rfl (fun ls hl => ?_)
              refine lv_goto (tgt := 26) hx hb dX2_sameAs_52 (by decide) ?_
              exact ih (i + 1) x_5 H locs ls (by first | assumption | omega | rfl) (by rw [ex_5, vex2]; exact nI_1 i) (by rw [eqTo_iff]; exact eqTo_s he h_4) (by omega) hT (lv_sub hl [1, 2, 0] rfl)
            · skip
              refine lv_iconst (v := 0) hx hb dX2_sameAs_47 (by decide) ?_
              exact e_zret C hQ () hT (by rw [eqTo_ne hin h_4]; simp [b01]) (by decide) dX2_sameAs_48
      exact loop_26 (n - 0 + 1) 0 0 H locs ls (by first | assumption | omega | rfl) rfl rfl (Nat.lt_succ_self _) hT (lv_sub hl [1, 2, 0] rfl)
    · skip
      have hdd : ¬ nd = nd2 := fun q => h_2 (by rw [q])
      refine lv_iconst (v := 0) hx hb dX2_sameAs_22 (by decide) ?_
      exact e_zret C hQ () hT (by first | (simp [b01, hnn]; done) | (simp [b01, hdd]; done)) (by decide) dX2_sameAs_23

set_option maxHeartbeats 400000 in
set_option maxRecDepth 100000 in
theorem c_X3_follow (l : Launch) (g : GT) (a0 : Nat) (pl : Nat) (ln : Nat) (h0 : Nat) (ab : Nat) (n : Nat) (nd : Nat) (bg : Nat) (f : Nat → Int32) (hn : n ≤ 2000) (hpl : pl < 2 ^ 20) (hln : ln ≤ 32) : OM (S := Unit) l g yX3_follow cX3_follow 2 none ({ frames := 1, cells := 0, slots := 0, locals := 23 } : Room) [.ref a0, .ref h0] [(a0, .inr (3, [.int (nI pl), .int (nI ln)])), (h0, .inr (2, [.ref ab, .int (nI n), .int (nI nd), .int (nI bg)])), (ab, .inl (g.2.1 0, 2000, .inl f))] (fun _ => none) (fun _ => [(a0, .inr (3, [.int (nI (folP f n pl ln)), .int (nI (folL f n pl ln))])), (h0, .inr (2, [.ref ab, .int (nI n), .int (nI nd), .int (nI bg)])), (ab, .inl (g.2.1 0, 2000, .inl f))]) := by
  refine OM.startQ (by decide) (Nat.le_of_ble_eq_true rfl) ?_
  intro p e s m below meth c A ls Q H locs hQ C hnm hl hT
  have hx := C.x
  have hb := C.b
  have hl : lv_has ls 2 [(0, .ref a0), (1, .ref h0)] := hl
  refine lv_aload_n hx hb dX3_follow_0 rfl (lv_at hl 0 rfl) ?_
  refine gX3_9 C hT (q0 := 0) rfl dX3_follow_1 ?_
  refine lv_if_le (tgt := 51) hx hb dX3_follow_4 (by decide) (fun h_1 => ?_) (fun h_1 => ?_)
  · skip
    have hl0 : ¬ 0 < ln := fun q => nI_nle q (by omega) h_1
    have hfb : folB f n pl ln = false := by simp [folB, hl0]
    refine lv_aload_n hx hb dX3_follow_51 rfl (lv_at hl 0 rfl) ?_
    refine lv_iconst (v := 0) hx hb dX3_follow_52 (by decide) ?_
    refine W.eq (g2 := F0 m 53 ls [.int (nI 0), .ref a0]) (congrArg (fun z => F0 m 53 ls (.int z :: [.ref a0])) (rfl)) ?_
    refine pX3_9 C hT (q0 := 0) rfl dX3_follow_53 (fun H locs hT => ?_)
    have hT : Wd g A s [(a0, .inr (3, [.int (nI pl), .int (nI 0)])), (h0, .inr (2, [.ref ab, .int (nI n), .int (nI nd), .int (nI bg)])), (ab, .inl (g.2.1 0, 2000, .inl f))] H locs := hT
    exact e_vret C hQ () (by first | (rw [(fol_f hfb).1, (fol_f hfb).2]; exact hT) | (rw [(fol_t hfb).1, (fol_t hfb).2]; exact hT)) rfl dX3_follow_56
  · skip
    have hl0 : 0 < ln := by rcases Nat.eq_zero_or_pos ln with q | q; exact absurd (by rw [q]; decide) h_1; exact q
    refine lv_aload_n hx hb dX3_follow_7 rfl (lv_at hl 1 rfl) ?_
    refine lv_aload_n hx hb dX3_follow_8 rfl (lv_at hl 0 rfl) ?_
    refine gX3_15 C hT (q0 := 0) rfl dX3_follow_9 ?_
    have hM := c_X2_byteAt l g h0 ab n nd bg f pl (by first | assumption | omega) (by omega)
    refine r_call0 (js := [1, 2]) C hT (runV (js := [1, 2]) (rm := ({ frames := 0, cells := 0, slots := 0, locals := 0 } : Room)) (As := [.int (nI pl)]) (n := 1) (q1 := 0) (rest := []) C hT hM rfl rfl k307 k308 k309 k6 k310 (by decide +kernel) rfl rfl rfl rfl (Nat.le_of_ble_eq_true rfl) hl.1 ⟨Nat.le_of_ble_eq_true rfl, Nat.le_of_ble_eq_true rfl⟩ ⟨Nat.le_of_ble_eq_true rfl, Nat.le_of_ble_eq_true rfl⟩ dX3_follow_12) rfl rfl (fun _ => rfl) (fun u H locs hT => ?_)
    have hT : Wd g A s [(a0, .inr (3, [.int (nI pl), .int (nI ln)])), (h0, .inr (2, [.ref ab, .int (nI n), .int (nI nd), .int (nI bg)])), (ab, .inl (g.2.1 0, 2000, .inl f))] H locs := hT
    refine W.eq (g2 := F0 m 15 ls [.int (byteN f n pl)]) rfl ?_
    refine lv_aload_n hx hb dX3_follow_15 rfl (lv_at hl 1 rfl) ?_
    refine lv_iconst (v := 1) hx hb dX3_follow_16 (by decide) ?_
    refine W.eq (g2 := F0 m 17 ls [.int (nI 1), .ref h0, .int (byteN f n pl)]) (congrArg (fun z => F0 m 17 ls (.int z :: [.ref h0, .int (byteN f n pl)])) (rfl)) ?_
    have hM := c_X2_back l g h0 ab n nd bg f 1 (by first | assumption | omega) (by decide)
    refine r_call0 (js := [1, 2]) C hT (runV (js := [1, 2]) (rm := ({ frames := 0, cells := 0, slots := 0, locals := 0 } : Room)) (As := [.int (nI 1)]) (n := 1) (q1 := 0) (rest := [.int (byteN f n pl)]) C hT hM rfl rfl k311 k312 k313 k6 k314 (by decide +kernel) rfl rfl rfl rfl (Nat.le_of_ble_eq_true rfl) hl.1 ⟨Nat.le_of_ble_eq_true rfl, Nat.le_of_ble_eq_true rfl⟩ ⟨Nat.le_of_ble_eq_true rfl, Nat.le_of_ble_eq_true rfl⟩ dX3_follow_17) rfl rfl (fun _ => rfl) (fun u H locs hT => ?_)
    have hT : Wd g A s [(a0, .inr (3, [.int (nI pl), .int (nI ln)])), (h0, .inr (2, [.ref ab, .int (nI n), .int (nI nd), .int (nI bg)])), (ab, .inl (g.2.1 0, 2000, .inl f))] H locs := hT
    refine W.eq (g2 := F0 m 20 ls [.int (backN f n 1), .int (byteN f n pl)]) rfl ?_
    refine lv_icmp_ne (tgt := 51) hx hb dX3_follow_20 (by decide) (fun h_2 => ?_) (fun h_2 => ?_)
    · skip
      have hfb : folB f n pl ln = false := by simp [folB, hl0, h_2]
      refine lv_aload_n hx hb dX3_follow_51 rfl (lv_at hl 0 rfl) ?_
      refine lv_iconst (v := 0) hx hb dX3_follow_52 (by decide) ?_
      refine W.eq (g2 := F0 m 53 ls [.int (nI 0), .ref a0]) (congrArg (fun z => F0 m 53 ls (.int z :: [.ref a0])) (rfl)) ?_
      refine pX3_9 C hT (q0 := 0) rfl dX3_follow_53 (fun H locs hT => ?_)
      have hT : Wd g A s [(a0, .inr (3, [.int (nI pl), .int (nI 0)])), (h0, .inr (2, [.ref ab, .int (nI n), .int (nI nd), .int (nI bg)])), (ab, .inl (g.2.1 0, 2000, .inl f))] H locs := hT
      exact e_vret C hQ () (by first | (rw [(fol_f hfb).1, (fol_f hfb).2]; exact hT) | (rw [(fol_t hfb).1, (fol_t hfb).2]; exact hT)) rfl dX3_follow_56
    · skip
      have hfb : folB f n pl ln = true := by simp [folB, hl0, h_2]
      refine lv_aload_n hx hb dX3_follow_23 rfl (lv_at hl 0 rfl) ?_
      refine lv_dup hx hb dX3_follow_24 rfl ?_
      refine gX3_15 C hT (q0 := 0) rfl dX3_follow_25 ?_
      refine lv_iconst (v := 1) hx hb dX3_follow_28 (by decide) ?_
      refine lv_iadd hx hb dX3_follow_29 ?_
      refine W.eq (g2 := F0 m 30 ls [.int (nI (pl + 1)), .ref a0]) (congrArg (fun z => F0 m 30 ls (.int z :: [.ref a0])) (nI_1 pl)) ?_
      refine pX3_15 C hT (q0 := 0) rfl dX3_follow_30 (fun H locs hT => ?_)
      have hT : Wd g A s [(a0, .inr (3, [.int (nI (pl + 1)), .int (nI ln)])), (h0, .inr (2, [.ref ab, .int (nI n), .int (nI nd), .int (nI bg)])), (ab, .inl (g.2.1 0, 2000, .inl f))] H locs := hT
      refine lv_aload_n hx hb dX3_follow_33 rfl (lv_at hl 0 rfl) ?_
      refine lv_bipush (v := 32) hx hb dX3_follow_34 (by decide) ?_
      refine lv_aload_n hx hb dX3_follow_36 rfl (lv_at hl 0 rfl) ?_
      refine gX3_9 C hT (q0 := 0) rfl dX3_follow_37 ?_
      refine lv_iconst (v := 1) hx hb dX3_follow_40 (by decide) ?_
      refine lv_iadd hx hb dX3_follow_41 ?_
      refine W.eq (g2 := F0 m 42 ls [.int (nI (ln + 1)), .int 32, .ref a0]) (congrArg (fun z => F0 m 42 ls (.int z :: [.int 32, .ref a0])) (nI_1 ln)) ?_
      refine r_mmin C hl.1 k315 (Nat.le_of_ble_eq_true rfl) (Nat.le_of_ble_eq_true rfl) (Nat.le_of_ble_eq_true rfl) (Nat.le_of_ble_eq_true rfl) dX3_follow_42 ?_
      refine W.eq (g2 := F0 m 45 ls [.int (nI (if ln + 1 < 32 then ln + 1 else 32)), .ref a0]) (congrArg (fun z => F0 m 45 ls (.int z :: [.ref a0])) (min32 32 (by decide) (by omega))) ?_
      refine pX3_9 C hT (q0 := 0) rfl dX3_follow_45 (fun H locs hT => ?_)
      have hT : Wd g A s [(a0, .inr (3, [.int (nI (pl + 1)), .int (nI (if ln + 1 < 32 then ln + 1 else 32))])), (h0, .inr (2, [.ref ab, .int (nI n), .int (nI nd), .int (nI bg)])), (ab, .inl (g.2.1 0, 2000, .inl f))] H locs := hT
      refine lv_goto (tgt := 56) hx hb dX3_follow_48 (by decide) ?_
      exact e_vret C hQ () (by first | (rw [(fol_f hfb).1, (fol_f hfb).2]; exact hT) | (rw [(fol_t hfb).1, (fol_t hfb).2]; exact hT)) rfl dX3_follow_56

set_option maxHeartbeats 400000 in
set_option maxRecDepth 100000 in
theorem c_X3_find (l : Launch) (g : GT) (a0 : Nat) (pl : Nat) (ln : Nat) (h0 : Nat) (ab : Nat) (n : Nat) (nd : Nat) (bg : Nat) (f : Nat → Int32) (t : Nat) (hn : n ≤ 2000) (hln : ln ≤ 32) (ht : t < 2 ^ 20) : OM (S := Unit) l g yX3_find cX3_find 5 none ({ frames := 2, cells := 0, slots := 0, locals := 45 } : Room) [.ref a0, .ref h0, .int (nI t)] [(a0, .inr (3, [.int (nI pl), .int (nI ln)])), (h0, .inr (2, [.ref ab, .int (nI n), .int (nI nd), .int (nI bg)])), (ab, .inl (g.2.1 0, 2000, .inl f))] (fun _ => none) (fun _ => [(a0, .inr (3, [.int (nI (findP f n t pl ln)), .int (nI (findL f n t ln))])), (h0, .inr (2, [.ref ab, .int (nI n), .int (nI nd), .int (nI bg)])), (ab, .inl (g.2.1 0, 2000, .inl f))]) := by
  refine OM.startQ (by decide) (Nat.le_of_ble_eq_true rfl) ?_
  intro p e s m below meth c A ls Q H locs hQ C hnm hl hT
  have hx := C.x
  have hb := C.b
  have hl : lv_has ls 5 [(0, .ref a0), (1, .ref h0), (2, .int (nI t))] := hl
  refine lv_aload_n hx hb dX3_find_0 rfl (lv_at hl 0 rfl) ?_
  refine gX3_9 C hT (q0 := 0) rfl dX3_find_1 ?_
  refine lv_if_le (tgt := 8) hx hb dX3_find_4 (by decide) (fun h_1 => ?_) (fun h_1 => ?_)
  · skip
    have hl0 : ln = 0 := by rcases Nat.eq_zero_or_pos ln with q | q; exact q; exact absurd h_1 (nI_nle q (by omega))
    refine lv_iload_n hx hb dX3_find_8 rfl (lv_at hl 2 rfl) ?_
    refine lv_aload_n hx hb dX3_find_9 rfl (lv_at hl 1 rfl) ?_
    refine gX3_33 C hT (q0 := 1) rfl dX3_find_10 ?_
    refine lv_bipush (v := 64) hx hb dX3_find_13 (by decide) ?_
    refine lv_isub hx hb dX3_find_15 ?_
    refine r_mmax C hl.1 k320 (Nat.le_of_ble_eq_true rfl) (Nat.le_of_ble_eq_true rfl) (Nat.le_of_ble_eq_true rfl) (Nat.le_of_ble_eq_true rfl) dX3_find_16 ?_
    refine W.eq (g2 := F0 m 19 ls [.int (nI (fstN n t))]) (congrArg (fun z => F0 m 19 ls (.int z :: [])) (fst_max (by omega) (by omega))) ?_
    refine lv_istore_n (lv' := [(3, .int (nI (fstN n t))), (0, .ref a0), (1, .ref h0), (2, .int (nI t))]) hx hb dX3_find_19 rfl hl (by decide) rfl (fun ls hl => ?_)
    refine lv_aload_n hx hb dX3_find_20 rfl (lv_at hl 2 rfl) ?_
    refine gX3_33 C hT (q0 := 1) rfl dX3_find_21 ?_
    refine lv_iconst (v := 1) hx hb dX3_find_24 (by decide) ?_
    refine lv_isub hx hb dX3_find_25 ?_
    refine lv_topi (fun x_2 ex_2 => ?_)
    refine lv_istore (lv' := [(4, .int x_2), (3, .int (nI (fstN n t))), (0, .ref a0), (1, .ref h0), (2, .int (nI t))]) hx hb dX3_find_26 hl (by decide) rfl (fun ls hl => ?_)
    have loop_28 : ∀ (fu : Nat) (i : Nat) (vx4 : Int32) (H : Heap) (locs : List Loc) (ls : Array Slot) (hi : i ≤ n) (vex4 : vx4 = nI i - 1) (hf : findK f n t i = findK f n t n), i < fu → Wd g A s [(a0, .inr (3, [.int (nI pl), .int (nI ln)])), (h0, .inr (2, [.ref ab, .int (nI n), .int (nI nd), .int (nI bg)])), (ab, .inl (g.2.1 0, 2000, .inl f))] H locs → lv_has ls 5 [(0, .ref a0), (1, .ref h0), (2, .int (nI t)), (3, .int (nI (fstN n t))), (4, .int vx4)] → W p l e ({ frames := 2, cells := 0, slots := 0, locals := 45 } : Room) s m ([.ref a0, .ref h0, .int (nI t)] : List Value).toArray below meth c H locs 0 0 Q (F0 m 28 ls []) := by
      intro fu
      induction fu with
      | zero => intro i vx4 H locs ls hi vex4 hf hm; exact absurd hm (Nat.not_lt_zero _)
      | succ fu ih =>
        intro i vx4 H locs ls hi vex4 hf hm hT hl
        refine lv_iload hx hb dX3_find_28 (lv_at hl 4 rfl) ?_
        refine lv_iload_n hx hb dX3_find_30 rfl (lv_at hl 3 rfl) ?_
        refine lv_icmp_lt (tgt := 62) hx hb dX3_find_31 (by decide) (fun h_3 => ?_) (fun h_3 => ?_)
        · skip
          have hfi : i ≤ fstN n t := (dn_lt (by omega) (by unfold fstN; split <;> omega) vex4).mp h_3
          exact e_vret C hQ () (by have hk := hf.symm.trans (findL_end hfi); rw [findP, findL, if_neg (by omega), if_neg (by omega), hk]; rw [hl0] at hT; exact hT) rfl dX3_find_62
        · skip
          have hfi : fstN n t < i := by rcases Nat.lt_or_ge (fstN n t) i with q | q; exact q; exact absurd ((dn_lt (by omega) (by unfold fstN; split <;> omega) vex4).mpr q) h_3
          have hft := fst_ge n t
          refine lv_aload_n hx hb dX3_find_34 rfl (lv_at hl 1 rfl) ?_
          refine lv_iload hx hb dX3_find_35 (lv_at hl 4 rfl) ?_
          refine W.eq (g2 := F0 m 37 ls [.int (nI (i - 1)), .ref h0]) (congrArg (fun z => F0 m 37 ls (.int z :: [.ref h0])) (dn_at (by omega) vex4)) ?_
          refine lv_iload_n hx hb dX3_find_37 rfl (lv_at hl 2 rfl) ?_
          have hM := c_X2_sameBefore l g h0 ab n nd bg f (i - 1) t (by first | assumption | omega) (by omega) (by omega)
          refine r_call0 (js := [1, 2]) C hT (runV (js := [1, 2]) (rm := ({ frames := 1, cells := 0, slots := 0, locals := 22 } : Room)) (As := [.int (nI (i - 1)), .int (nI t)]) (n := 2) (q1 := 0) (rest := []) C hT hM rfl rfl k321 k322 k323 k6 k324 (by decide +kernel) rfl rfl rfl rfl (Nat.le_of_ble_eq_true rfl) hl.1 ⟨Nat.le_of_ble_eq_true rfl, Nat.le_of_ble_eq_true rfl⟩ ⟨Nat.le_of_ble_eq_true rfl, Nat.le_of_ble_eq_true rfl⟩ dX3_find_38) rfl rfl (fun _ => rfl) (fun u H locs hT => ?_)
          have hT : Wd g A s [(a0, .inr (3, [.int (nI pl), .int (nI ln)])), (h0, .inr (2, [.ref ab, .int (nI n), .int (nI nd), .int (nI bg)])), (ab, .inl (g.2.1 0, 2000, .inl f))] H locs := hT
          refine W.eq (g2 := F0 m 41 ls [.int (b01 (sameB f n (i - 1) t))]) rfl ?_
          refine lv_if_eq (tgt := 56) hx hb dX3_find_41 (by decide) (fun h_4 => ?_) (fun h_4 => ?_)
          · skip
            have hsb := b01_f h_4
            obtain ⟨x_5, ex_5⟩ : ∃ y : Int32, y = vx4 + (-1) := ⟨_, rfl⟩
            refine lv_iinc (v := x_5) (lv' := [(4, .int x_5), (0, .ref a0), (1, .ref h0), (2, .int (nI t)), (3, .int (nI (fstN n t)))]) hx hb dX3_find_56 hl (k := 4) rfl (by rw [ex_5]; rfl) (by decide) rfl (fun ls hl => ?_)
            refine lv_goto (tgt := 28) hx hb dX3_find_59 (by decide) ?_
            exact ih (i - 1) x_5 H locs ls (by first | assumption | omega | rfl) (dn_step (by omega) vex4 ex_5) (by rw [← hf]; exact find_step hfi hsb) (by omega) hT (lv_sub hl [1, 2, 3, 4, 0] rfl)
          · skip
            have hsb := b01_t h_4
            refine lv_aload_n hx hb dX3_find_44 rfl (lv_at hl 0 rfl) ?_
            refine lv_iload hx hb dX3_find_45 (lv_at hl 4 rfl) ?_
            refine W.eq (g2 := F0 m 47 ls [.int (nI (i - 1)), .ref a0]) (congrArg (fun z => F0 m 47 ls (.int z :: [.ref a0])) (dn_at (by omega) vex4)) ?_
            refine pX3_15 C hT (q0 := 0) rfl dX3_find_47 (fun H locs hT => ?_)
            have hT : Wd g A s [(a0, .inr (3, [.int (nI (i - 1)), .int (nI ln)])), (h0, .inr (2, [.ref ab, .int (nI n), .int (nI nd), .int (nI bg)])), (ab, .inl (g.2.1 0, 2000, .inl f))] H locs := hT
            refine lv_aload_n hx hb dX3_find_50 rfl (lv_at hl 0 rfl) ?_
            refine lv_iload_n hx hb dX3_find_51 rfl (lv_at hl 2 rfl) ?_
            refine pX3_9 C hT (q0 := 0) rfl dX3_find_52 (fun H locs hT => ?_)
            have hT : Wd g A s [(a0, .inr (3, [.int (nI (i - 1)), .int (nI t)])), (h0, .inr (2, [.ref ab, .int (nI n), .int (nI nd), .int (nI bg)])), (ab, .inl (g.2.1 0, 2000, .inl f))] H locs := hT
            exact e_vret C hQ () (by have hk := hf.symm.trans (find_hit hfi hsb); rw [findP, findL, if_neg (by omega), if_neg (by omega), hk]; exact hT) rfl dX3_find_55
    exact loop_28 (n + 1) n x_2 H locs ls (by first | assumption | omega | rfl) ex_2 rfl (Nat.lt_succ_self _) hT (lv_sub hl [2, 3, 4, 1, 0] rfl)
  · skip
    have hl0 : 0 < ln := by rcases Nat.eq_zero_or_pos ln with q | q; exact absurd (by rw [q]; decide) h_1; exact q
    exact e_vret C hQ () (by rw [findP, findL, if_pos hl0, if_pos hl0]; exact hT) rfl dX3_find_7

set_option maxHeartbeats 400000 in
set_option maxRecDepth 100000 in
theorem c_X3_told (l : Launch) (g : GT) (a0 : Nat) (pl : Nat) (ln : Nat) (h0 : Nat) (ab : Nat) (n : Nat) (nd : Nat) (bg : Nat) (f : Nat → Int32) (hn : n ≤ 2000) (hpl : pl < 2 ^ 20) (hln : ln ≤ 32) (hb : bg ≤ 7) : OM (S := Unit) l g yX3_told cX3_told 5 (some .int) ({ frames := 1, cells := 0, slots := 0, locals := 23 } : Room) [.ref a0, .ref h0] [(a0, .inr (3, [.int (nI pl), .int (nI ln)])), (h0, .inr (2, [.ref ab, .int (nI n), .int (nI nd), .int (nI bg)])), (ab, .inl (g.2.1 0, 2000, .inl f))] (fun _ => some (.int (toldM (byteN f n pl ||| 256) bg nd ln))) (fun _ => [(a0, .inr (3, [.int (nI pl), .int (nI ln)])), (h0, .inr (2, [.ref ab, .int (nI n), .int (nI nd), .int (nI bg)])), (ab, .inl (g.2.1 0, 2000, .inl f))]) := by
  refine OM.startQ (by decide) (Nat.le_of_ble_eq_true rfl) ?_
  intro p e s m below meth c A ls Q H locs hQ C hnm hl hT
  have hx := C.x
  have hb := C.b
  have hl : lv_has ls 5 [(0, .ref a0), (1, .ref h0)] := hl
  refine lv_aload_n hx hb dX3_told_0 rfl (lv_at hl 1 rfl) ?_
  refine lv_aload_n hx hb dX3_told_1 rfl (lv_at hl 0 rfl) ?_
  refine gX3_15 C hT (q0 := 0) rfl dX3_told_2 ?_
  have hM := c_X2_byteAt l g h0 ab n nd bg f pl (by first | assumption | omega) (by omega)
  refine r_call0 (js := [1, 2]) C hT (runV (js := [1, 2]) (rm := ({ frames := 0, cells := 0, slots := 0, locals := 0 } : Room)) (As := [.int (nI pl)]) (n := 1) (q1 := 0) (rest := []) C hT hM rfl rfl k307 k308 k309 k6 k310 (by decide +kernel) rfl rfl rfl rfl (Nat.le_of_ble_eq_true rfl) hl.1 ⟨Nat.le_of_ble_eq_true rfl, Nat.le_of_ble_eq_true rfl⟩ ⟨Nat.le_of_ble_eq_true rfl, Nat.le_of_ble_eq_true rfl⟩ dX3_told_5) rfl rfl (fun _ => rfl) (fun u H locs hT => ?_)
  have hT : Wd g A s [(a0, .inr (3, [.int (nI pl), .int (nI ln)])), (h0, .inr (2, [.ref ab, .int (nI n), .int (nI nd), .int (nI bg)])), (ab, .inl (g.2.1 0, 2000, .inl f))] H locs := hT
  refine W.eq (g2 := F0 m 8 ls [.int (byteN f n pl)]) rfl ?_
  refine lv_sipush (v := 256) hx hb dX3_told_8 (by decide) ?_
  refine lv_ior hx hb dX3_told_11 ?_
  refine lv_topi (fun x_1 ex_1 => ?_)
  refine lv_istore_n (lv' := [(2, .int x_1), (0, .ref a0), (1, .ref h0)]) hx hb dX3_told_12 rfl hl (by decide) rfl (fun ls hl => ?_)
  refine lv_bipush (v := 8) hx hb dX3_told_13 (by decide) ?_
  refine lv_aload_n hx hb dX3_told_15 rfl (lv_at hl 2 rfl) ?_
  refine gX3_43 C hT (q0 := 1) rfl dX3_told_16 ?_
  refine lv_isub hx hb dX3_told_19 ?_
  refine W.eq (g2 := F0 m 20 ls [.int (nI (8 - bg))]) (congrArg (fun z => F0 m 20 ls (.int z :: [])) (pk_sub (a := 8) (by omega))) ?_
  refine lv_istore_n (lv' := [(3, .int (nI (8 - bg))), (2, .int x_1), (0, .ref a0), (1, .ref h0)]) hx hb dX3_told_20 rfl hl (by decide) rfl (fun ls hl => ?_)
  refine lv_aload_n hx hb dX3_told_21 rfl (lv_at hl 2 rfl) ?_
  refine gX3_9 C hT (q0 := 0) rfl dX3_told_22 ?_
  refine lv_if_eq (tgt := 38) hx hb dX3_told_25 (by decide) (fun h_2 => ?_) (fun h_2 => ?_)
  · skip
    have h_2 : ln = 0 := by rcases Nat.eq_zero_or_pos ln with q | q; exact q; exact absurd h_2 (nI_ne0 q (by omega))
    refine lv_iconst (v := 0) hx hb dX3_told_38 (by decide) ?_
    exact e_iret C hQ () hT (by subst ex_1; unfold toldM; first | (rw [if_pos h_2]; done) | (rw [if_neg h_2, if_pos h_2])) dX3_told_39
  · skip
    have h_2 : ¬ ln = 0 := fun q => h_2 (by rw [q]; rfl)
    refine lv_iload_n hx hb dX3_told_28 rfl (lv_at hl 1 rfl) ?_
    refine lv_iload_n hx hb dX3_told_29 rfl (lv_at hl 0 rfl) ?_
    refine lv_ishr hx hb dX3_told_30 ?_
    refine lv_aload_n hx hb dX3_told_31 rfl (lv_at hl 3 rfl) ?_
    refine gX3_46 C hT (q0 := 1) rfl dX3_told_32 ?_
    refine lv_icmp_eq (tgt := 40) hx hb dX3_told_35 (by decide) (fun h_3 => ?_) (fun h_3 => ?_)
    · skip
      refine lv_bipush (v := 64) hx hb dX3_told_40 (by decide) ?_
      refine lv_bipush (v := 16) hx hb dX3_told_42 (by decide) ?_
      refine lv_aload_n hx hb dX3_told_44 rfl (lv_at hl 2 rfl) ?_
      refine gX3_9 C hT (q0 := 0) rfl dX3_told_45 ?_
      refine r_mmin C hl.1 k315 (Nat.le_of_ble_eq_true rfl) (Nat.le_of_ble_eq_true rfl) (Nat.le_of_ble_eq_true rfl) (Nat.le_of_ble_eq_true rfl) dX3_told_48 ?_
      refine W.eq (g2 := F0 m 51 ls [.int (nI (if ln < 16 then ln else 16)), .int 64]) (congrArg (fun z => F0 m 51 ls (.int z :: [.int 64])) (min32 16 (by decide) (by omega))) ?_
      refine lv_imul hx hb dX3_told_51 ?_
      refine lv_topi (fun x_4 ex_4 => ?_)
      refine lv_istore (lv' := [(4, .int x_4), (3, .int (nI (8 - bg))), (2, .int x_1), (0, .ref a0), (1, .ref h0)]) hx hb dX3_told_52 hl (by decide) rfl (fun ls hl => ?_)
      refine lv_iload_n hx hb dX3_told_54 rfl (lv_at hl 2 rfl) ?_
      refine lv_iload_n hx hb dX3_told_55 rfl (lv_at hl 1 rfl) ?_
      refine lv_iconst (v := 1) hx hb dX3_told_56 (by decide) ?_
      refine lv_isub hx hb dX3_told_57 ?_
      refine lv_ishr hx hb dX3_told_58 ?_
      refine lv_iconst (v := 1) hx hb dX3_told_59 (by decide) ?_
      refine lv_iand hx hb dX3_told_60 ?_
      refine lv_iconst (v := 1) hx hb dX3_told_61 (by decide) ?_
      refine lv_icmp_ne (tgt := 70) hx hb dX3_told_62 (by decide) (fun h_5 => ?_) (fun h_5 => ?_)
      · skip
        refine lv_iload hx hb dX3_told_70 (lv_at hl 0 rfl) ?_
        refine lv_ineg hx hb dX3_told_72 ?_
        exact e_iret C hQ () hT (by subst ex_1 ex_4; unfold toldM; rw [if_neg h_2, if_neg (not_not_intro h_3)]; first | (rw [if_pos h_5]; done) | (rw [if_neg h_5])) dX3_told_73
      · skip
        refine lv_iload hx hb dX3_told_65 (lv_at hl 0 rfl) ?_
        refine lv_goto (tgt := 73) hx hb dX3_told_67 (by decide) ?_
        exact e_iret C hQ () hT (by subst ex_1 ex_4; unfold toldM; rw [if_neg h_2, if_neg (not_not_intro h_3)]; first | (rw [if_pos h_5]; done) | (rw [if_neg h_5])) dX3_told_73
    · skip
      refine lv_iconst (v := 0) hx hb dX3_told_38 (by decide) ?_
      exact e_iret C hQ () hT (by subst ex_1; unfold toldM; first | (rw [if_pos h_2]; done) | (rw [if_neg h_2, if_pos h_3])) dX3_told_39

set_option maxHeartbeats 400000 in
set_option maxRecDepth 100000 in
theorem c_X1_fill (l : Launch) (g : GT) (ac : Nat) (f : Nat → Int32) : OM (S := Unit) l g yX1_fill cX1_fill 2 none ({ frames := 1, cells := 0, slots := 0, locals := 60 } : Room) [.ref ac] [(ac, .inl (g.2.1 0, 8448, .inl f))] (fun _ => none) (fun _ => [(ac, .inl (g.2.1 0, 8448, .inl (cFill f 8448)))]) := by
  refine OM.startQ (by decide) (Nat.le_of_ble_eq_true rfl) ?_
  intro p e s m below meth c A ls Q H locs hQ C hnm hl hT
  have hx := C.x
  have hb := C.b
  have hl : lv_has ls 2 [(0, .ref ac)] := hl
  refine lv_iconst (v := 0) hx hb dX1_fill_0 (by decide) ?_
  refine lv_istore_n (lv' := [(1, .int 0), (0, .ref ac)]) hx hb dX1_fill_1 rfl hl (by decide) rfl (fun ls hl => ?_)
  have loop_2 : ∀ (fu : Nat) (i : Nat) (vx1 : Int32) (f1 : Nat → Int32) (H : Heap) (locs : List Loc) (ls : Array Slot) (hi : i ≤ 33) (vex1 : vx1 = nI i) (hf : f1 = cFill f i), 33 - i < fu → Wd g A s [(ac, .inl (g.2.1 0, 8448, .inl f1))] H locs → lv_has ls 2 [(0, .ref ac), (1, .int vx1)] → W p l e ({ frames := 1, cells := 0, slots := 0, locals := 60 } : Room) s m ([.ref ac] : List Value).toArray below meth c H locs 0 0 Q (F0 m 2 ls []) := by
    intro fu
    induction fu with
    | zero => intro i vx1 f1 H locs ls hi vex1 hf hm; exact absurd hm (Nat.not_lt_zero _)
    | succ fu ih =>
      intro i vx1 f1 H locs ls hi vex1 hf hm hT hl
      refine lv_iload_n hx hb dX1_fill_2 rfl (lv_at hl 1 rfl) ?_
      refine lv_bipush (v := 33) hx hb dX1_fill_3 (by decide) ?_
      refine lv_icmp_ge (tgt := 37) hx hb dX1_fill_5 (by decide) (fun h_1 => ?_) (fun h_1 => ?_)
      · skip
        have hin := lp_end (n := 33) vex1 (by decide) hi h_1
        refine lv_bipush (v := 33) hx hb dX1_fill_37 (by decide) ?_
        refine lv_istore_n (lv' := [(1, .int 33), (0, .ref ac)]) hx hb dX1_fill_39 rfl hl (by decide) rfl (fun ls hl => ?_)
        have loop_40 : ∀ (fu : Nat) (r : Nat) (vx2 : Int32) (f2 : Nat → Int32) (H : Heap) (locs : List Loc) (ls : Array Slot) (hr0 : 0 < r) (hr : r ≤ 256) (vex2 : vx2 = nI (33 * r)) (hf2 : f2 = cFill f (33 * r)), 256 - r < fu → Wd g A s [(ac, .inl (g.2.1 0, 8448, .inl f2))] H locs → lv_has ls 2 [(0, .ref ac), (1, .int vx2)] → W p l e ({ frames := 1, cells := 0, slots := 0, locals := 60 } : Room) s m ([.ref ac] : List Value).toArray below meth c H locs 0 0 Q (F0 m 40 ls []) := by
          intro fu_40
          induction fu_40 with
          | zero => intro r vx2 f2 H locs ls hr0 hr vex2 hf2 hm; exact absurd hm (Nat.not_lt_zero _)
          | succ fu_40 ih_40 =>
            intro r vx2 f2 H locs ls hr0 hr vex2 hf2 hm_40 hT hl
            refine lv_iload_n hx hb dX1_fill_40 rfl (lv_at hl 1 rfl) ?_
            refine lv_bipush (v := 33) hx hb dX1_fill_41 (by decide) ?_
            refine lv_iadd hx hb dX1_fill_43 ?_
            refine lv_aload_n hx hb dX1_fill_44 rfl (lv_at hl 0 rfl) ?_
            refine r_alen C hT (q0 := 0) 0 rfl rfl dX1_fill_45 ?_
            refine W.eq (g2 := F0 m 46 ls [.int (nI 8448), .int (vx2 + 33)]) rfl ?_
            refine lv_icmp_gt (tgt := 64) hx hb dX1_fill_46 (by decide) (fun h_2 => ?_) (fun h_2 => ?_)
            · skip
              have hrn := lp33_end vex2 hr h_2
              exact e_vret C hQ () (by rw [show cFill f 8448 = f2 by rw [hf2, hrn]]; exact hT) rfl dX1_fill_64
            · skip
              have hrn := lp33_go vex2 hr h_2
              refine lv_aload_n hx hb dX1_fill_49 rfl (lv_at hl 0 rfl) ?_
              refine lv_iconst (v := 0) hx hb dX1_fill_50 (by decide) ?_
              refine lv_aload_n hx hb dX1_fill_51 rfl (lv_at hl 0 rfl) ?_
              refine lv_iload_n hx hb dX1_fill_52 rfl (lv_at hl 1 rfl) ?_
              refine lv_bipush (v := 33) hx hb dX1_fill_53 (by decide) ?_
              refine r_copyS C hl.1 hT (q0 := 0) k144 rfl 0 (33 * r) 33 (by omega) (by omega) (by decide) rfl vex2 rfl (Nat.le_of_ble_eq_true rfl) (Nat.le_of_ble_eq_true rfl) dX1_fill_55 (fun H locs hT => ?_)
              have hT : Wd g A s [(ac, .inl (g.2.1 0, 8448, .inl (va_cpy f2 f2 0 (33 * r) 33)))] H locs := hT
              obtain ⟨x_3, ex_3⟩ : ∃ y : Int32, y = vx2 + 33 := ⟨_, rfl⟩
              refine lv_iinc (v := x_3) (lv' := [(1, .int x_3), (0, .ref ac)]) hx hb dX1_fill_58 hl (k := 1) rfl (by rw [ex_3]; rfl) (by decide) rfl (fun ls hl => ?_)
              refine lv_goto (tgt := 40) hx hb dX1_fill_61 (by decide) ?_
              exact ih_40 (r + 1) x_3 (va_cpy f2 f2 0 (33 * r) 33) H locs ls (by first | assumption | omega | rfl) (by first | assumption | omega | rfl) (by rw [ex_3, vex2]; exact nI_add (33 * r) 33) (by rw [hf2]; exact cFill_2 f hr0) (by omega) hT (lv_sub hl [1, 0] rfl)
        exact loop_40 (256 - 1 + 1) 1 33 f1 H locs ls (by decide) (by decide) rfl (by rw [hf, hin]) (Nat.lt_succ_self _) hT (lv_sub hl [1, 0] rfl)
      · skip
        have hin := lp_go (n := 33) vex1 (by decide) hi h_1
        refine lv_iload_n hx hb dX1_fill_8 rfl (lv_at hl 1 rfl) ?_
        refine lv_aload_n hx hb dX1_fill_9 rfl (lv_at hl 0 rfl) ?_
        refine r_alen C hT (q0 := 0) 0 rfl rfl dX1_fill_10 ?_
        refine W.eq (g2 := F0 m 11 ls [.int (nI 8448), .int vx1]) rfl ?_
        refine lv_icmp_ge (tgt := 37) hx hb dX1_fill_11 (by decide) (fun h_4 => ?_) (fun h_4 => ?_)
        · skip
          exact absurd h_4 (by rw [vex1]; exact nI_ge (by omega) (by decide))
        · skip
          refine lv_aload_n hx hb dX1_fill_14 rfl (lv_at hl 0 rfl) ?_
          refine lv_iload_n hx hb dX1_fill_15 rfl (lv_at hl 1 rfl) ?_
          refine lv_iload_n hx hb dX1_fill_16 rfl (lv_at hl 1 rfl) ?_
          refine W.eq (g2 := F0 m 17 ls [.int (nI i), .int vx1, .ref ac]) (congrArg (fun z => F0 m 17 ls (.int z :: [.int vx1, .ref ac])) (vex1)) ?_
          refine lv_bipush (v := 16) hx hb dX1_fill_17 (by decide) ?_
          refine lv_isub hx hb dX1_fill_19 ?_
          refine lv_sipush (v := 128) hx hb dX1_fill_20 (by decide) ?_
          refine lv_imul hx hb dX1_fill_23 ?_
          have hM := c_X5_squashed l g (((nI i) - 16) * 128)
          refine r_call0 (js := []) C hT (runS (js := []) (rm := ({ frames := 0, cells := 0, slots := 0, locals := 0 } : Room)) (As := [.int (((nI i) - 16) * 128)]) (n := 1) (rest := [.int vx1, .ref ac]) C hT hM rfl rfl k143 k46 k2 k47 (by decide +kernel) rfl rfl (Nat.le_of_ble_eq_true rfl) hl.1 ⟨Nat.le_of_ble_eq_true rfl, Nat.le_of_ble_eq_true rfl⟩ ⟨Nat.le_of_ble_eq_true rfl, Nat.le_of_ble_eq_true rfl⟩ dX1_fill_24) rfl rfl (fun _ => rfl) (fun u H locs hT => ?_)
          have hT : Wd g A s [(ac, .inl (g.2.1 0, 8448, .inl f1))] H locs := hT
          refine W.eq (g2 := F0 m 27 ls [.int (sqI (((nI i) - 16) * 128)), .int vx1, .ref ac]) rfl ?_
          refine lv_bipush (v := 16) hx hb dX1_fill_27 (by decide) ?_
          refine lv_imul hx hb dX1_fill_29 ?_
          refine W.eq (g2 := F0 m 30 ls [.int (cell0 i), .int vx1, .ref ac]) (congrArg (fun z => F0 m 30 ls (.int z :: [.int vx1, .ref ac])) (rfl)) ?_
          refine r_iast C hT (q0 := 0) rfl i vex1 (by omega) (by decide) dX1_fill_30 (fun H locs hT => ?_)
          have hT : Wd g A s [(ac, .inl (g.2.1 0, 8448, .inl (upd f1 i (cell0 i))))] H locs := hT
          obtain ⟨x_5, ex_5⟩ : ∃ y : Int32, y = vx1 + 1 := ⟨_, rfl⟩
          refine lv_iinc (v := x_5) (lv' := [(1, .int x_5), (0, .ref ac)]) hx hb dX1_fill_31 hl (k := 1) rfl (by rw [ex_5]; rfl) (by decide) rfl (fun ls hl => ?_)
          refine lv_goto (tgt := 2) hx hb dX1_fill_34 (by decide) ?_
          exact ih (i + 1) x_5 (upd f1 i (cell0 i)) H locs ls (by first | assumption | omega | rfl) (by rw [ex_5, vex1]; exact nI_1 i) (by rw [hf]; exact cFill_1 f hin) (by omega) hT (lv_sub hl [1, 0] rfl)
  exact loop_2 (33 - 0 + 1) 0 0 f H locs ls (by first | assumption | omega | rfl) rfl (cFill_0 f) (Nat.lt_succ_self _) hT (lv_sub hl [1, 0] rfl)

set_option maxHeartbeats 400000 in
set_option maxRecDepth 100000 in
theorem c_X1_reset (l : Launch) (g : GT) (a0 : Nat) (ac : Nat) (nr : Int32) (f : Nat → Int32) : OM (S := Unit) l g yX1_reset cX1_reset 1 none ({ frames := 2, cells := 0, slots := 0, locals := 81 } : Room) [.ref a0] [(a0, .inr (1, [.ref ac, .int nr])), (ac, .inl (g.2.1 0, 8448, .inl f))] (fun _ => none) (fun _ => [(a0, .inr (1, [.ref ac, .int nr])), (ac, .inl (g.2.1 0, 8448, .inl (cFill f 8448)))]) := by
  refine OM.startQ (by decide) (Nat.le_of_ble_eq_true rfl) ?_
  intro p e s m below meth c A ls Q H locs hQ C hnm hl hT
  have hx := C.x
  have hb := C.b
  have hl : lv_has ls 1 [(0, .ref a0)] := hl
  refine lv_aload_n hx hb dX1_reset_0 rfl (lv_at hl 0 rfl) ?_
  refine gX1_9 C hT (q0 := 0) rfl dX1_reset_1 ?_
  have hM := c_X1_fill l g ac f
  refine r_call0 (js := [1]) C hT (runS (js := [1]) (rm := ({ frames := 1, cells := 0, slots := 0, locals := 60 } : Room)) (As := [.ref ac]) (n := 1) (rest := []) C hT hM rfl rfl k140 k141 k9 k142 (by decide +kernel) rfl rfl (Nat.le_of_ble_eq_true rfl) hl.1 ⟨Nat.le_of_ble_eq_true rfl, Nat.le_of_ble_eq_true rfl⟩ ⟨Nat.le_of_ble_eq_true rfl, Nat.le_of_ble_eq_true rfl⟩ dX1_reset_4) rfl rfl (fun _ => rfl) (fun u H locs hT => ?_)
  have hT : Wd g A s [(a0, .inr (1, [.ref ac, .int nr])), (ac, .inl (g.2.1 0, 8448, .inl (cFill f 8448)))] H locs := hT
  refine W.eq (g2 := F0 m 7 ls []) rfl ?_
  exact e_vret C hQ () hT rfl dX1_reset_7
