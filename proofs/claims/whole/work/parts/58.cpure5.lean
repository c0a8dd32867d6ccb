/-! new objects: the rows that are wanting -/
theorem arrV_cg {cI : ClassId} {N : Nat} {f f2 : Nat → Value} (h : ∀ j, j < N → f j = f2 j) : arrV cI N f = arrV cI N f2 := by
  unfold arrV
  have e : (fun j : Fin N => f j.val) = fun j : Fin N => f2 j.val := by funext j; exact h j.val j.isLt
  rw [e]
section
variable {p : Program} {l : Launch} {e : Env} {R : Room} {s : State} {m : MethodId} {args : Array Value} {below : List Frame} {meth : Method} {c : Code} {H : Heap} {locs : List Loc} {cells slots : Nat} {Q : State → Prop} {cc : ByteArray} {ret : Option FieldType} {nL : Nat} {own : String} {g : GT} {A : Nat → Prop} {L : va_W} {pc : Nat} {ls : Array Slot} {rest : List Value} {a : Nat}
theorem Wd.pk {lc : va_W} {js : List Nat} (hT : Wd g A s L H locs) (hjs : js.map (fun i => L[i]?) = lc.map some) (hnd : va_nd js = true) : Wd g A s lc H locs :=
  ⟨fun k q hq => by obtain ⟨i, -, h⟩ := pick hjs k q hq; exact hT.1 i q h, hT.2.1.sub js hnd hjs, hT.2.2⟩
theorem Wd.mt {q0 n : Nat} {cA : ClassId} {f f2 : Nat → Option Nat} (hT : Wd g A s L H locs) (he : L[q0]? = some (a, .inl (cA, n, .inr (.inr (.inr (.inr f)))))) (hf : ∀ j, j < n → f j = f2 j) : Wd g A s (L.set q0 (a, .inl (cA, n, .inr (.inr (.inr (.inr f2)))))) H locs := by
  refine ⟨fun k q hq => ?_, hT.2.1.set he, hT.2.2⟩
  by_cases hk : q0 = k
  · subst hk
    have hlt : q0 < L.length := (List.getElem?_eq_some_iff.mp he).1
    rw [List.getElem?_set_self hlt] at hq
    cases hq
    have h0 : H[a]? = some (vp_cell cA (n, .inr (.inr (.inr (.inr f))))) := hT.1 q0 _ he
    show H[a]? = some (vp_cell cA (n, .inr (.inr (.inr (.inr f2)))))
    rw [h0, vp_cell_q, vp_cell_q, arrV_cg (fun j hj => by rw [hf j hj])]
  · rw [List.getElem?_set_ne hk] at hq; exact hT.1 k q hq
theorem r_newm (C : Cx p s m meth c args cc ret nL own g A) (hT : Wd g A s L H locs) {index : Nat} (k1 : Cond.classLink own index "ContextMix$Match" ∈ GW) {n : Int32} {N : Nat} (hn : n = nI N) (hN : N < 2 ^ 26) (hcells : cells + 1 ≤ R.cells) (hslots : slots + N ≤ R.slots) (hdg : decode cc pc = .ok (.anewarray index, 3))
    (kk : ∀ (q : Nat) (H1 : Heap), Wd g A s (L ++ [(q, .inl (g.2.1 3, N, .inr (.inr (.inr (.inr (fun _ => none))))))]) H1 locs → W p l e R s m args below meth c H1 locs (cells + 1) (slots + N) Q (F0 m (pc + 3) ls (.ref q :: rest))) : W p l e R s m args below meth c H locs cells slots Q (F0 m pc ls (.int n :: rest)) := by
  subst hn
  refine va_newq C.x C.b C.ow (C.ts _ k1) C.ns.2.2 C.K hT.1 hT.2.1 hT.2.2 C.fA (N' := N) (nI_pos (by omega)) (nI_clamp (by omega)) (by omega) hcells hslots hdg (fun q cA H1 h0 h1 h2 h3 => ?_)
  obtain ⟨-, -, -, -, -, e1⟩ := (h0.2 4 (cA, .object "ContextMix$Match") rfl).2
  obtain ⟨-, -, -, -, -, e2⟩ := (h0.2 3 (g.2.1 3, .object "ContextMix$Match") rfl).2
  have e3 : cA = g.2.1 3 := fcls e1 e2
  subst e3
  exact kk q H1 ⟨h1, h2, h3⟩
theorem r_astm (C : Cx p s m meth c args cc ret nL own g A) (hT : Wd g A s L H locs) {q0 qk n v : Nat} {vs : List Value} {f : Nat → Option Nat} (he : L[q0]? = some (a, .inl (g.2.1 3, n, .inr (.inr (.inr (.inr f)))))) (hv : L[qk]? = some (v, .inr (3, vs))) {i : Int32} (k : Nat) (hi : i = nI k) (hk : k < n) (hn : n < 2 ^ 31) (hdg : decode cc pc = .ok (.aastore, 1))
    (kk : ∀ (H1 : Heap) (locs1 : List Loc), Wd g A s (L.set q0 (a, .inl (g.2.1 3, n, .inr (.inr (.inr (.inr (va_up f k (some v)))))))) H1 locs1 → W p l e R s m args below meth c H1 locs1 cells slots Q (F0 m (pc + 1) ls rest)) : W p l e R s m args below meth c H locs cells slots Q (F0 m pc ls (.ref v :: .int i :: .ref a :: rest)) := by
  subst hi
  refine va_astq (r := (RX3, TX3, 2)) C.x C.b C.K hT.1 hT.2.1 hT.2.2 q0 3 qk 3 he rfl hv rfl (vp_in_nI hk hn) hdg ?_
  rw [nI_clamp (by omega)]; exact fun H1 locs1 h1 h2 h3 => kk H1 locs1 ⟨h1, h2, h3⟩
end
theorem dfX0 : ∀ j, j < 2 → defaultValue (tyX0 j) = vp_V [.long 0, .long 0] j := by
  intro j hj
  match j, hj with
  | 0, _ => rfl
  | 1, _ => rfl
  | j + 2, h => exact absurd h (by omega)
theorem dfX1 : ∀ j, j < 2 → defaultValue (tyX1 j) = vp_V [.null, .int 0] j := by
  intro j hj
  match j, hj with
  | 0, _ => rfl
  | 1, _ => rfl
  | j + 2, h => exact absurd h (by omega)
theorem dfX2 : ∀ j, j < 4 → defaultValue (tyX2 j) = vp_V [.null, .int 0, .int 0, .int 0] j := by
  intro j hj
  match j, hj with
  | 0, _ => rfl
  | 1, _ => rfl
  | 2, _ => rfl
  | 3, _ => rfl
  | j + 4, h => exact absurd h (by omega)
theorem dfX3 : ∀ j, j < 2 → defaultValue (tyX3 j) = vp_V [.int 0, .int 0] j := by
  intro j hj
  match j, hj with
  | 0, _ => rfl
  | 1, _ => rfl
  | j + 2, h => exact absurd h (by omega)
theorem dfX4 : ∀ j, j < 3 → defaultValue (tyX4 j) = vp_V [.null, .int 0, .int 0] j := by
  intro j hj
  match j, hj with
  | 0, _ => rfl
  | 1, _ => rfl
  | 2, _ => rfl
  | j + 3, h => exact absurd h (by omega)
theorem dfX5 : ∀ j, j < 1 → defaultValue (tyX5 j) = vp_V [.null] j := by
  intro j hj
  match j, hj with
  | 0, _ => rfl
  | j + 1, h => exact absurd h (by omega)
theorem dfX6 : ∀ j, j < 2 → defaultValue (tyX6 j) = vp_V [.null, .int 0] j := by
  intro j hj
  match j, hj with
  | 0, _ => rfl
  | 1, _ => rfl
  | j + 2, h => exact absurd h (by omega)
theorem dfX7 : ∀ j, j < 4 → defaultValue (tyX7 j) = vp_V [.null, .null, .null, .int 0] j := by
  intro j hj
  match j, hj with
  | 0, _ => rfl
  | 1, _ => rfl
  | 2, _ => rfl
  | 3, _ => rfl
  | j + 4, h => exact absurd h (by omega)
theorem dfX8 : ∀ j, j < 10 → defaultValue (tyX8 j) = vp_V [.null, .null, .null, .null, .null, .null, .null, .null, .null, .null] j := by
  intro j hj
  match j, hj with
  | 0, _ => rfl
  | 1, _ => rfl
  | 2, _ => rfl
  | 3, _ => rfl
  | 4, _ => rfl
  | 5, _ => rfl
  | 6, _ => rfl
  | 7, _ => rfl
  | 8, _ => rfl
  | 9, _ => rfl
  | j + 10, h => exact absurd h (by omega)
theorem dfX9 : ∀ j, j < 2 → defaultValue (tyX9 j) = vp_V [.null, .null] j := by
  intro j hj
  match j, hj with
  | 0, _ => rfl
  | 1, _ => rfl
  | j + 2, h => exact absurd h (by omega)
theorem dfX10 : ∀ j, j < 10 → defaultValue (tyX10 j) = vp_V [.null, .null, .null, .null, .null, .null, .null, .long 0, .int 0, .int 0] j := by
  intro j hj
  match j, hj with
  | 0, _ => rfl
  | 1, _ => rfl
  | 2, _ => rfl
  | 3, _ => rfl
  | 4, _ => rfl
  | 5, _ => rfl
  | 6, _ => rfl
  | 7, _ => rfl
  | 8, _ => rfl
  | 9, _ => rfl
  | j + 10, h => exact absurd h (by omega)
theorem dfX11 : ∀ j, j < 32 → defaultValue (tyX11 j) = vp_V [.int 0, .null, .int 0, .int 0, .null, .null, .null, .null, .null, .null, .null, .null, .null, .null, .null, .null, .null, .null, .null, .null, .int 0, .int 0, .int 0, .long 0, .int 0, .null, .int 0, .int 0, .int 0, .int 0, .int 0, .int 0] j := by
  intro j hj
  match j, hj with
  | 0, _ => rfl
  | 1, _ => rfl
  | 2, _ => rfl
  | 3, _ => rfl
  | 4, _ => rfl
  | 5, _ => rfl
  | 6, _ => rfl
  | 7, _ => rfl
  | 8, _ => rfl
  | 9, _ => rfl
  | 10, _ => rfl
  | 11, _ => rfl
  | 12, _ => rfl
  | 13, _ => rfl
  | 14, _ => rfl
  | 15, _ => rfl
  | 16, _ => rfl
  | 17, _ => rfl
  | 18, _ => rfl
  | 19, _ => rfl
  | 20, _ => rfl
  | 21, _ => rfl
  | 22, _ => rfl
  | 23, _ => rfl
  | 24, _ => rfl
  | 25, _ => rfl
  | 26, _ => rfl
  | 27, _ => rfl
  | 28, _ => rfl
  | 29, _ => rfl
  | 30, _ => rfl
  | 31, _ => rfl
  | j + 32, h => exact absurd h (by omega)
def mtF (a b c d e f g h : Nat) : Nat → Option Nat := va_up (va_up (va_up (va_up (va_up (va_up (va_up (va_up (fun _ => none) 0 (some a)) 1 (some b)) 2 (some c)) 3 (some d)) 4 (some e)) 5 (some f)) 6 (some g)) 7 (some h)
/-! the table of stretches, as it is made -/
def stW (p : Nat) : Nat → Nat → Nat
  | 0, k => k
  | f + 1, k => if sqI (nI k - 2047) < nI p then stW p f (k + 1) else k
def dB : Nat → Nat
  | 0 => 0
  | p + 1 => stW p (4094 - dB p) (dB p)
def stF (p : Nat) : Int32 := nI (dB (p + 1)) - 2047
abbrev stA : Nat → Int32 := setTo stF (fun _ => 0) 4096
theorem stW_y {p k : Nat} (hk : k < 4094) (h : sqI (nI k - 2047) < nI p) : stW p (4094 - (k + 1)) (k + 1) = stW p (4094 - k) k := by
  rw [show 4094 - k = (4094 - (k + 1)) + 1 by omega, stW, if_pos h]
theorem stW_n {p k : Nat} (h : ¬ sqI (nI k - 2047) < nI p) : stW p (4094 - k) k = k := by
  cases hq : 4094 - k with
  | zero => rfl
  | succ f => rw [stW, if_neg h]
theorem stW_z {p k : Nat} (h : k = 4094) : stW p (4094 - k) k = k := by rw [h]; rfl
theorem stW_le (p f k : Nat) (h : k + f ≤ 4094) : stW p f k ≤ 4094 := by
  induction f generalizing k with
  | zero => exact h
  | succ f ih =>
    rw [stW]
    split
    · exact ih (k + 1) (by omega)
    · omega
theorem dB_le (p : Nat) : dB p ≤ 4094 := by
  induction p with
  | zero => exact (by decide : (0 : Nat) ≤ 4094)
  | succ p ih => rw [dB]; exact stW_le _ _ _ (by omega)
theorem st_rng {k : Nat} (h : k ≤ 4094) : (nI k - 2047).toInt = (k : Int) - 2047 := by
  have e : (nI k - nI 2047).toInt = (k : Int) - (2047 : Nat) := pk_sub_toInt (by omega) (by decide)
  exact e
theorem stA_rng : ∀ j, j < 4096 → -2047 ≤ (stA j).toInt ∧ (stA j).toInt ≤ 2047 := by
  intro j hj
  have e : stA j = nI (dB (j + 1)) - 2047 := by show setTo stF (fun _ => 0) 4096 j = _; unfold setTo; rw [if_pos hj]; rfl
  have := dB_le (j + 1)
  rw [e, st_rng this]; omega
theorem st_lt {k : Nat} {x : Int32} (h : k ≤ 4094) (e : x = nI k - 2047) : (2047 : Int32) ≤ x ↔ k = 4094 := by
  have e1 : (2047 : Int32).toInt = 2047 := by decide
  rw [i32_le, e, st_rng h, e1]; omega
theorem st_dn (k : Nat) : nI k - 2047 + 1 = nI (k + 1) - 2047 := by
  rw [← nI_1 k]
  have e : ∀ a : Int32, a - 2047 + 1 = a + 1 - 2047 := by
    intro a
    apply Int32.toBitVec_inj.mp
    show a.toBitVec - 2047 + 1 = a.toBitVec + 1 - 2047
    generalize a.toBitVec = z
    rw [BitVec.sub_eq_add_neg, BitVec.sub_eq_add_neg, BitVec.add_assoc, BitVec.add_assoc, BitVec.add_comm (-2047)]
  exact e _
theorem bnd_id {r : Nat} (h1 : 6 ≤ r) (h2 : r ≤ 12) : boundI (nI r) 6 12 = nI r := by
  match r, h1, h2 with
  | 6, _, _ => decide
  | 7, _, _ => decide
  | 8, _, _ => decide
  | 9, _, _ => decide
  | 10, _, _ => decide
  | 11, _, _ => decide
  | 12, _, _ => decide
theorem room_of (x : Int32) : ∃ r : Nat, 6 ≤ r ∧ r ≤ 12 ∧ boundI x 6 12 = nI r := by
  have e1 : (6 : Int32).toInt = 6 := by decide
  have e2 : (12 : Int32).toInt = 12 := by decide
  have h : 6 ≤ (boundI x 6 12).toInt ∧ (boundI x 6 12).toInt ≤ 12 := by
    unfold boundI
    by_cases h2 : x < 12
    · rw [if_pos h2]
      by_cases h1 : (6 : Int32) < x
      · rw [if_pos h1]; rw [i32_lt] at h1 h2; omega
      · rw [if_neg h1]; omega
    · rw [if_neg h2, if_pos (by decide)]; omega
  exact ⟨(boundI x 6 12).toInt.toNat, by omega, by omega, nI_of_toInt (by omega) (by omega)⟩
theorem room_M (x : Int32) : (if (6 : Int32) ≤ x then (if x ≤ 12 then x else 12) else 6) = boundI x 6 12 := by
  rw [← boundM_eq (by decide)]
  unfold boundM
  by_cases h : (6 : Int32) ≤ x
  · rw [if_pos h, if_neg (i32_nlt h)]
    by_cases h2 : x ≤ 12
    · rw [if_pos h2, if_neg (i32_nlt h2)]
    · rw [if_neg h2, if_pos (i32_ltn h2)]
  · rw [if_neg h, if_pos (i32_ltn h)]
