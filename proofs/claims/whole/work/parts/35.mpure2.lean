theorem shl_ct : ∀ n, n < 32 → ((nI n &&& 31).toBitVec.smod 32).toNat = n := by decide
theorem shr_n {k j : Nat} (hk : k < 2 ^ 31) (hj : j < 32) : nI k >>> (nI j &&& 31) = nI (k / 2 ^ j) := pk_shrN hk _ j (shl_ct j hj)
theorem one_shl {r : Nat} (h : r ≤ 12) : (1 : Int32) <<< (nI r &&& 31) = nI (2 ^ r) := by
  have e := pk_shlN (n := 1) (nI r &&& 31) r (shl_ct r (by omega)) (by rw [Nat.one_mul]; exact Nat.pow_lt_pow_right (by decide) (by omega))
  rw [Nat.one_mul] at e; exact e
theorem bd_go {nd b j : Nat} (h1 : 2 ^ b ≤ nd) (hb : b ≤ 7) (hn : nd < 256) (h : ¬ nI (nd / 2 ^ j) ≤ 1) (h2 : nd < 2 ^ (b + 1)) : j < b := by
  rcases Nat.lt_or_ge j b with q | q
  · exact q
  · exfalso
    apply h
    have : nd / 2 ^ j ≤ 1 := by
      have h3 : 2 ^ (b + 1) ≤ 2 ^ (j + 1) := Nat.pow_le_pow_right (by decide) (by omega)
      have h4 : nd / 2 ^ j < 2 := (Nat.div_lt_iff_lt_mul (Nat.pow_pos (by decide))).mpr (by rw [Nat.pow_succ] at h3; omega)
      omega
    exact nI_le this (by decide)
theorem bd_end {nd b j : Nat} (h1 : 2 ^ b ≤ nd) (hn : nd < 256) (hj : j ≤ b) (h : nI (nd / 2 ^ j) ≤ 1) : j = b := by
  rcases Nat.lt_or_ge j b with q | q
  · exfalso
    have h3 : 2 ^ (j + 1) ≤ 2 ^ b := Nat.pow_le_pow_right (by decide) (by omega)
    have h4 : 2 ≤ nd / 2 ^ j := (Nat.le_div_iff_mul_le (Nat.pow_pos (by decide))).mpr (by rw [Nat.pow_succ] at h3; omega)
    have h5 : nd / 2 ^ j ≤ nd := Nat.div_le_self _ _
    exact nI_ge (a := 1) (b := nd / 2 ^ j) (by omega) (by omega) h
  · omega
theorem allow3 {k n : Int32} (h : allowB k n = true) (h0 : ¬ k = 0) (h1 : ¬ k = 1) (h2 : ¬ k = 2) (h4 : ¬ k = 4) : k = 3 := by
  by_cases h3 : k = 3
  · exact h3
  · rw [allowB, if_neg h0, if_neg h1, if_neg h2, if_neg h3, if_neg h4] at h; cases h
