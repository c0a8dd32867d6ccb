/-! more pure words: contexts by kind, Match, fresh cells -/
def ctxI (f : Nat → Int32) (n : Nat) (kd nn : Int32) : Int32 := if kd = 0 then latH f n nn.toNatClampNeg nn.toNatClampNeg else if kd = 1 then wordH f n else if kd = 2 then colH f n nn.toNatClampNeg else if kd = 3 then apH f n nn 4 else 0
theorem rng_of {nn : Int32} {a b : Nat} (ha : a < 2 ^ 30) (hb : b < 2 ^ 30) (h1 : ¬ nn < nI a) (h2 : ¬ nI b < nn) : ∃ t : Nat, a ≤ t ∧ t ≤ b ∧ nn = nI t := by
  rw [i32_lt] at h1 h2
  rw [nI_toInt (by omega)] at h1 h2
  refine ⟨nn.toInt.toNat, by omega, by omega, nI_of_toInt (by omega) (by omega)⟩
theorem allow0 {nn : Int32} (h : allowB 0 nn = true) : ∃ t : Nat, t ≤ 6 ∧ nn = nI t := by
  have e : allowB 0 nn = (!decide (nn < 0) && !decide (6 < nn)) := rfl
  rw [e] at h
  simp only [Bool.and_eq_true, Bool.not_eq_true', decide_eq_false_iff_not] at h
  obtain ⟨t, -, h2, h3⟩ := rng_of (a := 0) (b := 6) (by decide) (by decide) h.1 h.2
  exact ⟨t, h2, h3⟩
theorem allow2 {nn : Int32} (h : allowB 2 nn = true) : ∃ t : Nat, 1 ≤ t ∧ t ≤ 64 ∧ nn = nI t := by
  have e : allowB 2 nn = (!decide (nn < 1) && !decide (64 < nn)) := rfl
  rw [e] at h
  simp only [Bool.and_eq_true, Bool.not_eq_true', decide_eq_false_iff_not] at h
  exact rng_of (a := 1) (b := 64) (by decide) (by decide) h.1 h.2
theorem allow4 {nn : Int32} (h : allowB 4 nn = true) : ∃ t : Nat, 3 ≤ t ∧ t ≤ 8 ∧ nn = nI t := by
  have e : allowB 4 nn = (!decide (nn < 3) && !decide (8 < nn)) := rfl
  rw [e] at h
  simp only [Bool.and_eq_true, Bool.not_eq_true', decide_eq_false_iff_not] at h
  exact rng_of (a := 3) (b := 8) (by decide) (by decide) h.1 h.2
theorem fol_f {f : Nat → Int32} {n pl ln : Nat} (h : folB f n pl ln = false) : folP f n pl ln = pl ∧ folL f n pl ln = 0 := by
  unfold folP folL; rw [h]; exact ⟨rfl, rfl⟩
theorem fol_t {f : Nat → Int32} {n pl ln : Nat} (h : folB f n pl ln = true) : folP f n pl ln = pl + 1 ∧ folL f n pl ln = (if ln + 1 < 32 then ln + 1 else 32) := by
  unfold folP folL; rw [h]; exact ⟨rfl, rfl⟩
theorem dn_step {x y : Int32} {i : Nat} (hi : 0 < i) (ex : x = nI i - 1) (ey : y = x + (-1)) : y = nI (i - 1) - 1 := by
  have e : nI i - 1 = nI (i - 1) := pk_sub (a := i) (b := 1) hi
  rw [ey, ex, e, Int32.sub_eq_add_neg]
theorem dn_at {x : Int32} {i : Nat} (hi : 0 < i) (ex : x = nI i - 1) : x = nI (i - 1) := ex.trans (pk_sub (a := i) (b := 1) hi)
theorem fst_ge (n t : Nat) : t ≤ fstN n t := by unfold fstN; split <;> omega
theorem find_step {f : Nat → Int32} {n t i : Nat} (h1 : fstN n t < i) (h2 : sameB f n (i - 1) t = false) : findK f n t (i - 1) = findK f n t i := by
  obtain ⟨k, rfl⟩ : ∃ k, i = k + 1 := ⟨i - 1, by omega⟩
  rw [findL_go (i := k) (by omega)]
  rw [Nat.add_sub_cancel] at h2 ⊢
  rw [if_neg (by rw [h2]; decide)]
theorem find_hit {f : Nat → Int32} {n t i : Nat} (h1 : fstN n t < i) (h2 : sameB f n (i - 1) t = true) : findK f n t i = some (i - 1) := by
  obtain ⟨k, rfl⟩ : ∃ k, i = k + 1 := ⟨i - 1, by omega⟩
  rw [findL_go (i := k) (by omega)]
  rw [Nat.add_sub_cancel] at h2 ⊢
  rw [if_pos h2]
def cell0 (j : Nat) : Int32 := sqI ((nI j - 16) * 128) * 16
def cFill (f : Nat → Int32) (k : Nat) : Nat → Int32 := fun j => if j < k then cell0 (j % 33) else f j
theorem cFill_0 (f : Nat → Int32) : f = cFill f 0 := by funext j; simp [cFill]
theorem cFill_1 (f : Nat → Int32) {i : Nat} (hi : i < 33) : upd (cFill f i) i (cell0 i) = cFill f (i + 1) := by
  funext j
  simp only [upd, cFill]
  by_cases h : j = i
  · rw [if_pos h, if_pos (by omega), h, Nat.mod_eq_of_lt hi]
  · rw [if_neg h]
    by_cases h2 : j < i
    · rw [if_pos h2, if_pos (by omega)]
    · rw [if_neg h2, if_neg (by omega)]
theorem cFill_2 (f : Nat → Int32) {r : Nat} (hr : 0 < r) : va_cpy (cFill f (33 * r)) (cFill f (33 * r)) 0 (33 * r) 33 = cFill f (33 * (r + 1)) := by
  funext j
  simp only [va_cpy, cFill]
  by_cases h : 33 * r ≤ j ∧ j < 33 * r + 33
  · rw [if_pos h, if_pos (by omega), if_pos (by omega)]
    congr 1; omega
  · rw [if_neg h]
    by_cases h2 : j < 33 * r
    · rw [if_pos h2, if_pos (by omega)]
    · rw [if_neg h2, if_neg (by omega)]
theorem lp33_end {x : Int32} {r : Nat} (ex : x = nI (33 * r)) (hr : r ≤ 256) (h : nI 8448 < x + 33) : r = 256 := by
  rw [ex, show nI (33 * r) + 33 = nI (33 * r + 33) from nI_add (33 * r) 33, nI_ltI (by decide) (by omega)] at h; omega
theorem lp33_go {x : Int32} {r : Nat} (ex : x = nI (33 * r)) (hr : r ≤ 256) (h : ¬ nI 8448 < x + 33) : r < 256 := by
  rw [ex, show nI (33 * r) + 33 = nI (33 * r + 33) from nI_add (33 * r) 33, nI_ltI (by decide) (by omega)] at h; omega
section
variable {p : Program} {l : Launch} {e : Env} {R : Room} {s : State} {m : MethodId} {args : Array Value} {below : List Frame} {meth : Method} {c : Code} {H : Heap} {locs : List Loc} {cells slots : Nat} {Q : State → Prop} {cc : ByteArray} {ret : Option FieldType} {nL : Nat} {own : String} {g : GT} {A : Nat → Prop} {L : va_W} {pc : Nat} {ls : Array Slot} {rest : List Value} {a : Nat}
theorem r_copyS (C : Cx p s m meth c args cc ret nL own g A) (hls : ls.size = nL) (hT : Wd g A s L H locs) {index q0 n : Nat} {f : Nat → Int32} (k1 : Cond.methodLink own index ⟨"java/lang/System", "arraycopy", "(Ljava/lang/Object;ILjava/lang/Object;II)V"⟩ ∈ GW) (he : L[q0]? = some (a, .inl (g.2.1 0, n, .inl f))) (sp dp k : Nat) (h1 : sp + k ≤ n) (h2 : dp + k ≤ n) (hn : n < 2 ^ 31) {isp idp ik : Int32} (e1 : isp = nI sp) (e2 : idp = nI dp) (e3 : ik = nI k)
    (hframes : 1 ≤ R.frames) (hlocals : (rest.map fun v => v.category).sum + (nativeFrameWords "java/lang/System" "arraycopy" 5 + 11) ≤ R.locals) (hdg : decode cc pc = .ok (.invokestatic index, 3))
    (kk : ∀ (H1 : Heap) (locs1 : List Loc), Wd g A s (L.set q0 (a, .inl (g.2.1 0, n, .inl (va_cpy f f sp dp k)))) H1 locs1 → W p l e R s m args below meth c H1 locs1 cells slots Q (F0 m (pc + 3) ls rest)) : W p l e R s m args below meth c H locs cells slots Q (F0 m pc ls (.int ik :: .int idp :: .ref a :: .int isp :: .ref a :: rest)) := by
  subst e1 e2 e3
  refine va_copyi (ty := .int) C.x C.b (by rw [C.ml, hls]) C.ow (C.ts _ k1) (C.ts _ k146) (C.ts _ k145) (C.ts _ k10) C.K hT.1 hT.2.1 hT.2.2 q0 q0 0 0 he he rfl rfl rfl (nI_pos (by omega)) (nI_pos (by omega)) (nI_pos (by omega)) (by rw [nI_clamp (by omega), nI_clamp (by omega)]; exact h1) (by rw [nI_clamp (by omega), nI_clamp (by omega)]; exact h2) (fun _ _ => rfl) hframes hlocals hdg ?_
  rw [nI_clamp (by omega), nI_clamp (by omega), nI_clamp (by omega)]
  exact fun H1 locs1 h1 h2 h3 => kk H1 locs1 ⟨h1, h2, h3⟩
end
