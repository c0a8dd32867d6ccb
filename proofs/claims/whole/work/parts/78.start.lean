section
variable {p : Program} {l : Launch} {e : Env} {R : Room} {s : State} {m : MethodId} {args : Array Value} {below : List Frame} {meth : Method} {c : Code} {H : Heap} {locs : List Loc} {cells slots : Nat} {Q : State → Prop} {cc : ByteArray} {ret : Option FieldType} {nL : Nat} {g : GT} {A : Nat → Prop} {W0 : va_W} {pc : Nat} {ls : Array Slot} {rest : List Value}
theorem r_cell {b n : Nat} {xs : Nat → Int32} (C : Cx p s m meth c args cc ret nL RL g A) (hX : va_X b n xs s s.heap) (hbl : b < s.heap.size) (hbA : ¬ A b) (hn : n ≤ 321) (hT : Wd g A s W0 H locs) (hls : ls.size = nL) (hw : (rest.map fun v => v.category).sum ≤ 8) (hR1 : rmC.frames + 1 ≤ R.frames) (hR2 : 8 + (2 + 11) + rmC.locals ≤ R.locals) (hc : cells + 0 ≤ R.cells) (hs : slots + 0 ≤ R.slots) (hdg : decode cc pc = .ok (.invokestatic 15, 3))
    (kk : ∀ (H1 : Heap) (locs1 : List Loc), Wd g A s W0 H1 locs1 → W p l e R s m args below meth c H1 locs1 cells slots Q (F0 m (pc + 3) ls (.int (cel0 n xs) :: rest))) : W p l e R s m args below meth c H locs cells slots Q (F0 m pc ls (.int 0 :: .ref b :: rest)) := by
  refine r_call0 (js := []) (lc := []) (mc := 0) (ms := 0) (rv := fun (_ : Unit) => some (.int (cel0 n xs))) (L1 := fun _ => []) C hT (va_runS (As := [.ref b, .int 0]) (n := 2) (rest := rest) ⟨C.x, C.b, C.ml, C.ow, C.ts⟩ (c_L_cell l g b n xs hn H.size) ⟨callB_of 2 C.ts (gw_code k643) rfl rfl rfl (C.ts _ k0) (C.ts _ k641) (by decide +kernel) ⟨hR1, hR2⟩, C.ts _ k642⟩ ⟨blindC, fun U hU hW => ⟨rfl, preG C hT (js := []) rfl rfl U hU hW, ?_, ?_⟩⟩ rfl rfl hls rfl (lv_room hw) hdg ⟨hc, hs⟩) rfl rfl (fun _ => rfl) (fun u H1 locs1 h => kk H1 locs1 h)
  · rw [hU]; exact va_X.moved hW.alike (hX.kept (hT.2.2.2.1 b hbl hbA))
  · exact Nat.lt_of_lt_of_le hbl hT.2.2.1
end
set_option maxHeartbeats 2000000 in
set_option maxRecDepth 100000 in
theorem whole_start {p : Program} {e : Env} {s : State} {m : MethodId} {below : List Frame} {meth : Method} {c : Code} (l : Launch) (hl9 : l.stackTraces = false) {b L : Nat} {xs : Nat → Int32} (hL : L ≤ 321) (C0 : lw_At p s m meth c b L xs) : W p l e room_1 s m #[Value.ref b] below meth c s.heap [] 0 0 (lw_Z below #[Value.ref b] s) (entryFrame m ([Value.ref b] : List Value).toArray 7) := by
  have hr := C0.2.2.1
  obtain ⟨g, X⟩ := law_ctx C0
  obtain ⟨C, hX, hbl, hbA, hXS⟩ := id X
  obtain ⟨rr, hr6, hrr, hrm⟩ := room_of (cel0 L xs)
  obtain ⟨N, hN⟩ : ∃ N, N = 2 ^ rr := ⟨_, rfl⟩
  have hx := C.x
  have hb := C.b
  have hl := lv_entry ([.ref b]) (n := 7) (Nat.le_of_ble_eq_true rfl)
  rw [lg_entry_eq]
  generalize (lg_sl ([.ref b]) ++ List.replicate (7 - (lg_sl ([.ref b])).length) Slot.unset).toArray = ls at hl ⊢
  have hl : lv_has ls 7 [(0, .ref b)] := hl
  have hT : Wd g (fun q : Nat => s.heap.size ≤ q) s [] s.heap [] := ⟨fun k q h => by simp at h, ⟨fun i j p q h => by simp at h, fun k q h => by simp at h⟩, va_S.rf⟩
  refine r_new C hT (ci := 10) (fs := [.null, .null, .null, .null, .null, .null, .null, .long 0, .int 0, .int 0]) rfl inX10 tyX10 tyX10_ok k22 k23 k1 dfX10 (Nat.le_of_ble_eq_true rfl) (Nat.le_of_ble_eq_true rfl) dL_law_0 (fun q1 H hT => ?_)
  refine W.widen (k := 1) (n := 10) (Nat.le_of_ble_eq_true rfl) (Nat.le_of_ble_eq_true rfl) ?_
  have hT : Wd g (fun q : Nat => s.heap.size ≤ q) s [(q1, .inr (10, [.null, .null, .null, .null, .null, .null, .null, .long 0, .int 0, .int 0]))] H [] := hT
  refine lv_dup hx hb dL_law_3 rfl ?_
  refine lv_aload_n hx hb dL_law_4 rfl (lv_at hl 0 rfl) ?_
  refine lv_iconst (v := 0) hx hb dL_law_5 (by decide) ?_
  refine r_cell C hX hbl hbA hL hT hl.1 (rest := [.ref q1, .ref q1]) (Nat.le_of_ble_eq_true rfl) (Nat.le_of_ble_eq_true rfl) (Nat.le_of_ble_eq_true rfl) (Nat.le_of_ble_eq_true rfl) (Nat.le_of_ble_eq_true rfl) dL_law_6 (fun H locs hT => ?_)
  have hM := c_X10_init l g q1 (cel0 L xs) rr N hrm hr6 hrr hN
  refine r_call (js := [0]) (L1 := fun (zu : {zq : (Nat → Nat) × (Nat → Nat) // zq.2 1 = q1}) => [(q1, .inr (10, [.ref (zu.1.1 5), .ref (zu.1.1 1), .ref (zu.1.1 0), .ref (mixA zu.1.1 zu.1.2 0), .ref (zu.1.2 2), .ref (zu.1.2 4), .ref (zu.1.2 5), .long 0, .int (nI 0), .int (b01 false)]))]) (L2 := fun (zu : {zq : (Nat → Nat) × (Nat → Nat) // zq.2 1 = q1}) => cmN g zu.1.1 zu.1.2 N) C hT (runI (js := [0]) (rm := ({ frames := 4, cells := 56, slots := 53785, locals := 125 } : Room)) (As := [.int (cel0 L xs)]) (n := 1) (rest := [.ref q1]) C hT hM rfl rfl k24 k25 k1 k26 rfl (by decide +kernel) rfl rfl (Nat.le_of_ble_eq_true rfl) hl.1 ⟨Nat.le_of_ble_eq_true rfl, Nat.le_of_ble_eq_true rfl⟩ ⟨Nat.le_of_ble_eq_true rfl, Nat.le_of_ble_eq_true rfl⟩ dL_law_9) rfl rfl (fun _ => rfl) (fun u H locs hT => ?_)
  obtain ⟨⟨ad, bd⟩, hb1⟩ := u
  replace hb1 : bd 1 = q1 := hb1
  replace hT : Wd g (fun q : Nat => s.heap.size ≤ q) s ((q1, .inr (10, [.ref (ad 5), .ref (ad 1), .ref (ad 0), .ref (mixA ad bd 0), .ref (bd 2), .ref (bd 4), .ref (bd 5), .long 0, .int (nI 0), .int (b01 false)])) :: cmN g ad bd N) H locs := hT
  refine W.widen (k := 57) (n := 53795) (Nat.le_of_ble_eq_true rfl) (Nat.le_of_ble_eq_true rfl) ?_
  refine W.eq (g2 := F0 m 12 ls [.ref q1]) rfl ?_
  clear hM
  subst hb1
  have hT : Wd g (fun q : Nat => s.heap.size ≤ q) s (CMX g ad bd N 0 (fun _ => 0) (fun _ => 0) (fun _ => 0) (inU N) (inU N) 0 0 false 0 (fun _ => 0) 0 4294967295 0 4294967295) H locs := hT.pk (js := [1, 2, 3, 4, 5, 6, 7, 8, 9, 10, 11, 12, 13, 14, 15, 16, 17, 18, 19, 20, 21, 22, 23, 24, 25, 26, 27, 28, 29, 30, 31, 32, 33, 34, 35, 36, 37, 38, 39, 40, 41, 42, 43, 44, 45, 46, 47, 48, 49, 50, 51, 52, 0, 53, 54, 55, 56]) rfl rfl
  refine lv_astore_n (lv' := [(1, .ref (bd 1)), (0, .ref b)]) hx hb dL_law_12 rfl hl (by decide) rfl (fun ls hl => ?_)
  refine r_new C hT (ci := 11) (fs := [.int 0, .null, .int 0, .int 0, .null, .null, .null, .null, .null, .null, .null, .null, .null, .null, .null, .null, .null, .null, .null, .null, .int 0, .int 0, .int 0, .long 0, .int 0, .null, .int 0, .int 0, .int 0, .int 0, .int 0, .int 0]) rfl inX11 tyX11 tyX11_ok k728 k729 k15 dfX11 (Nat.le_of_ble_eq_true rfl) (Nat.le_of_ble_eq_true rfl) dL_law_13 (fun q2 H hT => ?_)
  refine W.widen (k := 58) (n := 53827) (Nat.le_of_ble_eq_true rfl) (Nat.le_of_ble_eq_true rfl) ?_
  refine lv_dup hx hb dL_law_16 rfl ?_
  refine lv_aload_n hx hb dL_law_17 rfl (lv_at hl 1 rfl) ?_
  refine lv_iconst (v := 0) hx hb dL_law_18 (by decide) ?_
  refine r_cell C hX hbl hbA hL hT hl.1 (rest := [.ref q2, .ref q2]) (Nat.le_of_ble_eq_true rfl) (Nat.le_of_ble_eq_true rfl) (Nat.le_of_ble_eq_true rfl) (Nat.le_of_ble_eq_true rfl) (Nat.le_of_ble_eq_true rfl) dL_law_19 (fun H locs hT => ?_)
  have hM := c_X11_init l g q2 (cel0 L xs) rr N hrm hr6 hrr hN
  refine r_call (js := [57]) (L1 := fun (zu : {zq : (Nat → Nat) × (Nat → Int32) × (Nat → Int32) × (Nat → Int32) × (Nat → Int32) × (Nat → Int32) × (Nat → Int32) × (Nat → Int32) × (Nat → Int32) × (Nat → Int32) × (Nat → Int64) × (Nat → Int64) // (zq.1 0 = q2) ∧ (∀ U V, FRS N 0 (fun _ => 0) (fun _ => 0) U → FRS N 0 (fun _ => 0) (fun _ => 0) V → (∀ j, j < 2000 → (fun _ => 0) (2050 * 0 + j) = s_f U j) → (∀ j, j < 2000 → (fun _ => 0) (2050 * 1 + j) = s_f V j) → RS 0 N 0 (fun _ => 0) U (fun _ => 0) zq.2.1 zq.2.2.1 zq.2.2.2.1 zq.2.2.2.2.1 zq.2.2.2.2.2.1 zq.2.2.2.2.2.2.1 zq.2.2.2.2.2.2.2.1 zq.2.2.2.2.2.2.2.2.1 zq.2.2.2.2.2.2.2.2.2.1 ∧ RS 1 N 0 (fun _ => 0) V (fun _ => 0) zq.2.1 zq.2.2.1 zq.2.2.2.1 zq.2.2.2.2.1 zq.2.2.2.2.2.1 zq.2.2.2.2.2.2.1 zq.2.2.2.2.2.2.2.1 zq.2.2.2.2.2.2.2.2.1 zq.2.2.2.2.2.2.2.2.2.1) ∧ ((zq.2.2.2.2.2.2.2.2.2.2.1 0 = 0 ∧ zq.2.2.2.2.2.2.2.2.2.2.2 0 = 4294967295) ∧ (zq.2.2.2.2.2.2.2.2.2.2.1 1 = 0 ∧ zq.2.2.2.2.2.2.2.2.2.2.2 1 = 4294967295))}) => [(q2, .inr (11, [.int (nI rr), .ref (zu.1.1 1), .int 0, .int (nI 0), .ref (zu.1.1 2), .ref (zu.1.1 3), .ref (zu.1.1 4), .ref (zu.1.1 5), .ref (zu.1.1 6), .ref (zu.1.1 7), .ref (zu.1.1 8), .ref (zu.1.1 9), .ref (zu.1.1 10), .ref (zu.1.1 11), .ref (zu.1.1 12), .ref (zu.1.1 13), .ref (zu.1.1 14), .ref (zu.1.1 15), .ref (zu.1.1 16), .ref (zu.1.1 17), .int (nI 0), .int (nI 0), .int 0, .long 0, .int (nI 0), .ref (zu.1.1 18), .int 0, .int 0, .int 0, .int 0, .int 0, .int 0]))]) (L2 := fun (zu : {zq : (Nat → Nat) × (Nat → Int32) × (Nat → Int32) × (Nat → Int32) × (Nat → Int32) × (Nat → Int32) × (Nat → Int32) × (Nat → Int32) × (Nat → Int32) × (Nat → Int32) × (Nat → Int64) × (Nat → Int64) // (zq.1 0 = q2) ∧ (∀ U V, FRS N 0 (fun _ => 0) (fun _ => 0) U → FRS N 0 (fun _ => 0) (fun _ => 0) V → (∀ j, j < 2000 → (fun _ => 0) (2050 * 0 + j) = s_f U j) → (∀ j, j < 2000 → (fun _ => 0) (2050 * 1 + j) = s_f V j) → RS 0 N 0 (fun _ => 0) U (fun _ => 0) zq.2.1 zq.2.2.1 zq.2.2.2.1 zq.2.2.2.2.1 zq.2.2.2.2.2.1 zq.2.2.2.2.2.2.1 zq.2.2.2.2.2.2.2.1 zq.2.2.2.2.2.2.2.2.1 zq.2.2.2.2.2.2.2.2.2.1 ∧ RS 1 N 0 (fun _ => 0) V (fun _ => 0) zq.2.1 zq.2.2.1 zq.2.2.2.1 zq.2.2.2.2.1 zq.2.2.2.2.2.1 zq.2.2.2.2.2.2.1 zq.2.2.2.2.2.2.2.1 zq.2.2.2.2.2.2.2.2.1 zq.2.2.2.2.2.2.2.2.2.1) ∧ ((zq.2.2.2.2.2.2.2.2.2.2.1 0 = 0 ∧ zq.2.2.2.2.2.2.2.2.2.2.2 0 = 4294967295) ∧ (zq.2.2.2.2.2.2.2.2.2.2.1 1 = 0 ∧ zq.2.2.2.2.2.2.2.2.2.2.2 1 = 4294967295))}) => (mdL g zu.1.1 rr 0 0 0 0 false 0 0 0 0 0 0 0 0 stA (fun _ => 0) (fun _ => 0) (fun _ => 0) (fun _ => 0) zu.1.2.1 zu.1.2.2.1 zu.1.2.2.2.1 zu.1.2.2.2.2.1 zu.1.2.2.2.2.2.1 zu.1.2.2.2.2.2.2.1 zu.1.2.2.2.2.2.2.2.1 zu.1.2.2.2.2.2.2.2.2.1 zu.1.2.2.2.2.2.2.2.2.2.1 zu.1.2.2.2.2.2.2.2.2.2.2.1 zu.1.2.2.2.2.2.2.2.2.2.2.2 (fun _ => 0) (fun _ => 0)).tail) C hT (runI (js := [57]) (rm := ({ frames := 5, cells := 18, slots := 53981, locals := 117 } : Room)) (As := [.int (cel0 L xs)]) (n := 1) (rest := [.ref q2]) C hT hM rfl rfl k730 k731 k15 k732 rfl (by decide +kernel) rfl rfl (Nat.le_of_ble_eq_true rfl) hl.1 ⟨Nat.le_of_ble_eq_true rfl, Nat.le_of_ble_eq_true rfl⟩ ⟨Nat.le_of_ble_eq_true rfl, Nat.le_of_ble_eq_true rfl⟩ dL_law_22) rfl rfl (fun _ => rfl) (fun u H locs hT => ?_)
  obtain ⟨⟨mo, wt2, nx2, cx2, pt2, le2, sc2, ss2, ww2, xc2, lo2, hi2⟩, r_hm0, r_hRS, r_hlh⟩ := u
  have m_hm0 : mo 0 = q2 := r_hm0
  have m_hRS : ∀ U V, FRS N 0 (fun _ => 0) (fun _ => 0) U → FRS N 0 (fun _ => 0) (fun _ => 0) V → (∀ j, j < 2000 → (fun _ => 0) (2050 * 0 + j) = s_f U j) → (∀ j, j < 2000 → (fun _ => 0) (2050 * 1 + j) = s_f V j) → RS 0 N 0 (fun _ => 0) U (fun _ => 0) wt2 nx2 cx2 pt2 le2 sc2 ss2 ww2 xc2 ∧ RS 1 N 0 (fun _ => 0) V (fun _ => 0) wt2 nx2 cx2 pt2 le2 sc2 ss2 ww2 xc2 := r_hRS
  have m_hlh : (lo2 0 = 0 ∧ hi2 0 = 4294967295) ∧ (lo2 1 = 0 ∧ hi2 1 = 4294967295) := r_hlh
  replace hT : Wd g (fun q : Nat => s.heap.size ≤ q) s (CMX g ad bd N 0 (fun _ => 0) (fun _ => 0) (fun _ => 0) (inU N) (inU N) 0 0 false 0 (fun _ => 0) 0 4294967295 0 4294967295 ++ ((q2, .inr (11, [.int (nI rr), .ref (mo 1), .int 0, .int (nI 0), .ref (mo 2), .ref (mo 3), .ref (mo 4), .ref (mo 5), .ref (mo 6), .ref (mo 7), .ref (mo 8), .ref (mo 9), .ref (mo 10), .ref (mo 11), .ref (mo 12), .ref (mo 13), .ref (mo 14), .ref (mo 15), .ref (mo 16), .ref (mo 17), .int (nI 0), .int (nI 0), .int 0, .long 0, .int (nI 0), .ref (mo 18), .int 0, .int 0, .int 0, .int 0, .int 0, .int 0])) :: ((mdL g mo rr 0 0 0 0 false 0 0 0 0 0 0 0 0 stA (fun _ => 0) (fun _ => 0) (fun _ => 0) (fun _ => 0) wt2 nx2 cx2 pt2 le2 sc2 ss2 ww2 xc2 lo2 hi2 (fun _ => 0) (fun _ => 0)).tail))) H locs := hT
  refine W.widen (k := 76) (n := 107808) (Nat.le_of_ble_eq_true rfl) (Nat.le_of_ble_eq_true rfl) ?_
  refine W.eq (g2 := F0 m 25 ls [.ref q2]) rfl ?_
  clear hM r_hm0 r_hRS r_hlh
  subst m_hm0
  replace hT : Wd g (fun q : Nat => s.heap.size ≤ q) s (CMX g ad bd N 0 (fun _ => 0) (fun _ => 0) (fun _ => 0) (inU N) (inU N) 0 0 false 0 (fun _ => 0) 0 4294967295 0 4294967295 ++ (MDX g mo rr 0 (fun _ => 0) (fun _ => 0) (fun _ => 0) false 0 (fun _ => 0) 0 0 0 0 0 0 0 0 0 0 (fun _ => 0) wt2 nx2 cx2 pt2 le2 sc2 ss2 ww2 xc2 lo2 hi2 (fun _ => 0))) H locs := hT
  refine lv_astore_n (lv' := [(2, .ref (mo 0)), (1, .ref (bd 1)), (0, .ref b)]) hx hb dL_law_25 rfl hl (by decide) rfl (fun ls hl => ?_)
  refine lv_iconst (v := 1) hx hb dL_law_26 (by decide) ?_
  refine r_newl C hT k874 (N := 1) rfl (by decide) (Nat.le_of_ble_eq_true rfl) (Nat.le_of_ble_eq_true rfl) dL_law_27 (fun oa H hT => ?_)
  refine W.widen (k := 77 + 0) (n := 107809 + 6 * 0) (Nat.le_of_ble_eq_true rfl) (Nat.le_of_ble_eq_true rfl) ?_
  have hT : Wd g (fun q : Nat => s.heap.size ≤ q) s (CMX g ad bd N 0 (fun _ => 0) (fun _ => 0) (fun _ => 0) (inU N) (inU N) 0 0 false 0 (fun _ => 0) 0 4294967295 0 4294967295 ++ (MDX g mo rr 0 (fun _ => 0) (fun _ => 0) (fun _ => 0) false 0 (fun _ => 0) 0 0 0 0 0 0 0 0 0 0 (fun _ => 0) wt2 nx2 cx2 pt2 le2 sc2 ss2 ww2 xc2 lo2 hi2 (fun _ => 0) ++ [OUTc g oa (fun _ => 0)])) H locs := hT.eq (List.append_assoc _ _ _)
  refine lv_astore_n (lv' := [(3, .ref oa), (2, .ref (mo 0)), (1, .ref (bd 1)), (0, .ref b)]) hx hb dL_law_29 rfl hl (by decide) rfl (fun ls hl => ?_)
  refine lv_iconst (v := 1) hx hb dL_law_30 (by decide) ?_
  refine lv_istore (lv' := [(4, .int 1), (3, .ref oa), (2, .ref (mo 0)), (1, .ref (bd 1)), (0, .ref b)]) hx hb dL_law_31 hl (by decide) rfl (fun ls hl => ?_)
  exact law_loop hl9 hr X hL 64 1 0 rfl rfl 0 (fun _ => 0) (fun _ => 0) (fun _ => 0) (inU N) (inU N) 0 0 false 0 (fun _ => 0) 0 4294967295 0 4294967295 0 0 0 0 0 0 0 0 0 0 (fun _ => 0) wt2 nx2 cx2 pt2 le2 sc2 ss2 ww2 xc2 lo2 hi2 (fun _ => 0) (fun _ => 0) H locs ls (I_start hN hr6 hrr m_hRS m_hlh) hT (lv_sub hl [4, 3, 2, 1, 0] rfl)
