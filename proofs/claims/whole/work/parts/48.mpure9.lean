/-! the reference's questions -/
theorem side_y {s : Nat} (h : s < 2) : b01 (!decide (nI s < 0) && !decide (1 < nI s)) = 1 := by
  match s, h with
  | 0, _ => exact (by decide)
  | 1, _ => exact (by decide)
theorem side_n {x : Int32} (h0 : ¬ x = 0) (h1 : ¬ x = 1) : b01 (!decide (x < 0) && !decide (1 < x)) = 0 := by
  by_cases q : x < 0
  · simp [b01, q]
  · have e : (1 : Int32) < x := by
      rw [i32_lt] at q ⊢
      have e0 : (0 : Int32).toInt = 0 := by decide
      have e1 : (1 : Int32).toInt = 1 := by decide
      have n0 : ¬ x.toInt = 0 := fun z => h0 (Int32.toInt_inj.mp (z.trans e0.symm))
      have n1 : ¬ x.toInt = 1 := fun z => h1 (Int32.toInt_inj.mp (z.trans e1.symm))
      omega
    simp [b01, e]
theorem c_lt {x : Int32} {a b : Int32} (h : a.toInt + 1 = b.toInt) : a < x ↔ b ≤ x := by rw [i32_lt, i32_le]; omega
theorem c_le {x : Int32} {a b : Int32} (h : a.toInt + 1 = b.toInt) : x ≤ a ↔ x < b := by rw [i32_lt, i32_le]; omega
theorem cellB_y {n j : Int32} (h1 : ¬ n < 0) (h2 : ¬ 255 < n) (h3 : ¬ j < 0) (h4 : j ≤ 32) : cellB n j = true := by
  have e2 : ¬ (256 : Int32) ≤ n := fun q => h2 ((c_lt (by decide)).mpr q)
  have e4 : ¬ (33 : Int32) ≤ j := fun q => i32_nlt h4 ((c_lt (a := 32) (by decide)).mpr q)
  simp [cellB, h1, e2, h3, e4]
theorem cellB_n {n j : Int32} (h : n < 0 ∨ 255 < n ∨ j < 0 ∨ ¬ j ≤ 32) : cellB n j = false := by
  rcases h with q | q | q | q
  · simp [cellB, q]
  · have e : (256 : Int32) ≤ n := (c_lt (by decide)).mp q
    simp [cellB, e]
  · simp [cellB, q]
  · have e : (33 : Int32) ≤ j := (c_lt (a := 32) (by decide)).mp (i32_ltn q)
    simp [cellB, e]
theorem nI_neg {n : Nat} {x : Int32} (hn : n < 2 ^ 31) (h : x < 0) : ¬ x = nI n := by
  intro q
  rw [i32_lt, q, nI_toInt hn] at h
  have e0 : (0 : Int32).toInt = 0 := by decide
  omega
theorem we_bad {f0 f1 : Nat → Int32} {np : Nat} {mx se i : Int32} (hnp : np ≤ 8) (h : mx < 0 ∨ 1 < mx ∨ se < 0 ∨ 255 < se ∨ i < 0 ∨ nI np < i) : weI f0 f1 np mx se i = (-2000000) := by
  unfold weI
  by_cases a1 : mx < 0
  · rw [if_pos a1]
  rw [if_neg a1]
  by_cases a2 : 1 < mx
  · rw [if_pos a2]
  rw [if_neg a2]
  by_cases a3 : se < 0
  · rw [if_pos a3]
  rw [if_neg a3]
  by_cases a4 : ¬ se < 256
  · rw [if_pos a4]
  rw [if_neg a4]
  have h5 : i < 0 ∨ nI np < i := by
    rcases h with q | q | q | q | q | q
    · exact absurd q a1
    · exact absurd q a2
    · exact absurd q a3
    · exact absurd (fun z => i32_nlt ((c_lt (a := 255) (b := 256) (by decide)).mp q) z) a4
    · exact Or.inl q
    · exact Or.inr q
  have n1 : ¬ i = nI np := by
    rcases h5 with q | q
    · exact nI_neg (by omega) q
    · intro z; rw [z, i32_lt] at q; omega
  have n2 : inR i np = false := by
    rcases h5 with q | q
    · simp [inR, q]
    · have e : nI np ≤ i := by rw [i32_le]; rw [i32_lt] at q; omega
      simp [inR, e]
  rw [if_neg n1, n2, if_neg (by decide)]
theorem we_ok {sd np : Nat} {U : SSt} {ww : Nat → Int32} (hw : RSw sd np U ww) (hnp : np ≤ 8) {m k j : Nat} (hm : m < 2) (hk : k < 256) (hj : j ≤ np) : ww (wAt sd m k j) = weI (s_f0 U) (s_f1 U) np (nI m) (nI k) (nI j) := by
  have a1 : ¬ nI m < 0 := fun q => nI_neg (n := m) (by omega) q rfl
  have a2 : ¬ 1 < nI m := by match m, hm with
    | 0, _ => exact (by decide)
    | 1, _ => exact (by decide)
  have a3 : ¬ nI k < 0 := fun q => nI_neg (n := k) (by omega) q rfl
  have a4 : nI k < 256 := nI_lt (b := 256) hk (by decide)
  unfold weI
  rw [if_neg a1, if_neg a2, if_neg a3, if_neg (not_not_intro a4), nI_clamp (by omega), nI_clamp (by omega)]
  have hh := hw k hk
  by_cases q : j = np
  · rw [if_pos (by rw [q]), q]
    match m, hm with
    | 0, _ => exact hh.2.1.1
    | 1, _ => exact hh.2.1.2
  · rw [if_neg (fun z => q (i32_eqN (by omega) (by omega) z)), if_pos (inR_nI (by omega) (by omega))]
    match m, hm with
    | 0, _ => exact (hh.1 j (by omega)).1
    | 1, _ => exact (hh.1 j (by omega)).2
theorem two_of {x : Int32} (h0 : ¬ x < 0) (h1 : ¬ 1 < x) : ∃ k : Nat, k < 2 ∧ x = nI k := by
  obtain ⟨k, a, b, c⟩ := rng_of (a := 0) (b := 1) (by decide) (by decide) h0 h1
  exact ⟨k, by omega, c⟩
theorem k255_of {x : Int32} (h0 : ¬ x < 0) (h1 : ¬ 255 < x) : ∃ k : Nat, k < 256 ∧ x = nI k := by
  obtain ⟨k, a, b, c⟩ := rng_of (a := 0) (b := 255) (by decide) (by decide) h0 h1
  exact ⟨k, by omega, c⟩
theorem le_of_n {x : Int32} {n : Nat} (hn : n < 2 ^ 30) (h0 : ¬ x < 0) (h1 : ¬ nI n < x) : ∃ k : Nat, k ≤ n ∧ x = nI k := by
  obtain ⟨k, a, b, c⟩ := rng_of (a := 0) (b := n) (by decide) hn h0 h1
  exact ⟨k, b, c⟩
theorem ouI_nxt {no : Nat} {ou : Nat → Int32} (h : ouI no ou) (k : Nat) : ∃ r : Nat, r < 256 ∧ nxtI no ou k = nI r := by
  unfold nxtI
  by_cases q : k < no
  · rw [if_pos q]
    have := h k q
    exact ⟨(ou k).toInt.toNat, by omega, nI_of_toInt (by omega) (by omega)⟩
  · rw [if_neg q]; exact ⟨0, by decide, rfl⟩
theorem tk_n {no : Nat} {ou : Nat → Int32} (h : ouI no ou) : ∀ i, i ≤ 4 → ∃ a : Nat, tkC no ou i = lN a ∧ a < 256 ^ i := by
  intro i
  induction i with
  | zero => intro _; exact ⟨0, rfl, by decide⟩
  | succ i ih =>
    intro hi
    obtain ⟨a, ea, ha⟩ := ih (by omega)
    obtain ⟨r, hr, er⟩ := ouI_nxt h i
    have h4 : 256 ^ i ≤ 256 ^ 3 := Nat.pow_le_pow_right (by decide) (by omega)
    have h5 : (256 : Nat) ^ 3 = 16777216 := by decide
    refine ⟨a * 256 + r, ?_, by rw [Nat.pow_succ]; omega⟩
    rw [tkC, ea, er, lsh8 (by omega), land32 (by omega), nI_l (by omega), Nat.mod_eq_of_lt (by omega)]
    exact lorN (by omega) hr
theorem tk_R {no i : Nat} {ou : Nat → Int32} (h : ouI no ou) (hi : i < 4) : (tkC no ou i <<< ((8 : Int32).toInt64 &&& 63)) ||| (nxtI no ou i).toInt64 = tkC no ou (i + 1) := by
  obtain ⟨a, ea, ha⟩ := tk_n h i (by omega)
  have h4 : 256 ^ i ≤ 256 ^ 3 := Nat.pow_le_pow_right (by decide) (by omega)
  have h5 : (256 : Nat) ^ 3 = 16777216 := by decide
  rw [tkC, ea, lsh8 (by omega), land32 (by omega), Nat.mod_eq_of_lt (by omega)]
theorem off_R {fo : Nat → Int32} {j : Nat} (h : fo j = 0 ∨ fo j = 1) : upd fo j 1 = if fo j = 0 then upd fo j 1 else fo := by
  by_cases q : fo j = 0
  · rw [if_pos q]
  · rw [if_neg q]
    have e : fo j = 1 := by rcases h with z | z; exact absurd z q; exact z
    funext i; simp only [upd]
    by_cases z : i = j
    · rw [if_pos z, z, e]
    · rw [if_neg z]
theorem spo_n {i mk : Int32} {no : Nat} (h : inR i no = false ∨ mk < 1 ∨ ¬ mk ≤ 255) : spoB i mk no = false := by
  rcases h with q | q | q
  · simp [spoB, q]
  · simp [spoB, q]
  · simp [spoB, q]
theorem off_dead2 {a b : Bool} {n g : Nat} {P : Prop} (h : a = false ∨ b = true ∨ 0 < n ∨ 0 < g) (h1 : a = true) (h3 : (decide (0 < n) || (decide (0 < g) || b)) = false) : P := by
  exfalso
  simp only [Bool.or_eq_false_iff, decide_eq_false_iff_not] at h3
  rcases h with q | q | q | q
  · rw [h1] at q; cases q
  · rw [h3.2.2] at q; cases q
  · exact h3.1 q
  · exact h3.2.1 q
