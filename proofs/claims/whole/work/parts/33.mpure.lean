/-! the reference's world -/
abbrev mdL (g : GT) (mo : Nat → Nat) (rr : Nat) (th : Int32) (np no bt : Nat) (en : Bool) (xx : Int64) (ra : Nat) (t0 t1 s1 ca cq ch : Int32) (st fk fn fo bb wt nx cx pt le sc ss ww xc : Nat → Int32) (lo hi : Nat → Int64) (ou xi : Nat → Int32) : va_W :=
  [(mo 0, .inr (11, [.int (nI rr), .ref (mo 1), .int th, .int (nI np), .ref (mo 2), .ref (mo 3), .ref (mo 4), .ref (mo 5), .ref (mo 6), .ref (mo 7), .ref (mo 8), .ref (mo 9), .ref (mo 10), .ref (mo 11), .ref (mo 12), .ref (mo 13), .ref (mo 14), .ref (mo 15), .ref (mo 16), .ref (mo 17), .int (nI no), .int (nI bt), .int (b01 en), .long xx, .int (nI ra), .ref (mo 18), .int t0, .int t1, .int s1, .int ca, .int cq, .int ch])),
   (mo 1, .inl (g.2.1 0, 4096, .inl st)), (mo 2, .inl (g.2.1 0, 8, .inl fk)), (mo 3, .inl (g.2.1 0, 8, .inl fn)), (mo 4, .inl (g.2.1 2, 8, .inl fo)), (mo 5, .inl (g.2.1 0, 4100, .inl bb)), (mo 6, .inl (g.2.1 0, 2, .inl wt)), (mo 7, .inl (g.2.1 0, 2, .inl nx)), (mo 8, .inl (g.2.1 0, 16, .inl cx)), (mo 9, .inl (g.2.1 0, 16, .inl pt)), (mo 10, .inl (g.2.1 0, 16, .inl le)),
   (mo 11, .inl (g.2.1 0, 8192, .inl sc)), (mo 12, .inl (g.2.1 0, 8192, .inl ss)), (mo 13, .inl (g.2.1 0, 9216, .inl ww)), (mo 14, .inl (g.2.1 0, 16896, .inl xc)), (mo 15, .inl (g.2.1 1, 2, .inr (.inl lo))), (mo 16, .inl (g.2.1 1, 2, .inr (.inl hi))), (mo 17, .inl (g.2.1 0, 3200, .inl ou)), (mo 18, .inl (g.2.1 0, 9, .inl xi))]
def boundM (v lo hi : Int32) : Int32 := if v < lo then lo else if hi < v then hi else v
theorem boundM_eq {v lo hi : Int32} (h : lo ≤ hi) : boundM v lo hi = boundI v lo hi := by
  unfold boundM boundI
  rw [i32_le] at h
  simp only [i32_lt]
  by_cases h2 : v.toInt < hi.toInt
  · simp only [if_pos h2]
    by_cases h1 : v.toInt < lo.toInt
    · rw [if_pos h1, if_neg (by omega)]
    · rw [if_neg h1, if_neg (by omega)]
      by_cases h4 : lo.toInt < v.toInt
      · rw [if_pos h4]
      · rw [if_neg h4]; exact Int32.toInt_inj.mp (by omega)
  · simp only [if_neg h2]
    by_cases h1 : v.toInt < lo.toInt
    · exfalso; omega
    · rw [if_neg h1]
      have e : (if hi.toInt < v.toInt then hi else v) = hi := by
        by_cases h3 : hi.toInt < v.toInt
        · rw [if_pos h3]
        · rw [if_neg h3]; exact Int32.toInt_inj.mp (by omega)
      rw [e]
      by_cases h4 : lo.toInt < hi.toInt
      · rw [if_pos h4]
      · rw [if_neg h4]; exact Int32.toInt_inj.mp (by omega)
def wAt (s m k i : Nat) : Nat := ((2 * s + m) * 256 + k) * 9 + i
def vb (bb : Nat → Int32) (s : Nat) : Nat → Int32 := fun i => bb (2050 * s + i)
theorem ge_sub {a b : Nat} (ha : a < 2 ^ 30) (hb : b < 2 ^ 30) : 0 ≤ nI a - nI b ↔ b ≤ a := by
  rw [i32_le, pk_sub_toInt ha hb]
  have e : (0 : Int32).toInt = 0 := by decide
  omega
theorem let0 (f : Nat → Int32) {n i : Nat} (h : n ≤ i) : letB (backN f n (i + 1)) = false := by rw [backN_0 (by omega)]; decide
theorem irem_n {n t : Nat} (hn : n < 2 ^ 31) (h0 : 0 < t) (ht : t < 2 ^ 31) : nI n - nI n / nI t * nI t = nI (n % t) := pk_rem hn h0 ht
theorem inR_lt {x : Int32} {n : Nat} (h0 : ¬ x < 0) (h : x < nI n) : inR x n = true := by
  simp only [inR, Bool.and_eq_true, Bool.not_eq_true', decide_eq_false_iff_not]
  refine ⟨h0, fun q => ?_⟩
  rw [i32_lt] at h; rw [i32_le] at q; omega
theorem inR_nlt {x : Int32} {n : Nat} (h : ¬ x < nI n) : inR x n = false := by
  have q : nI n ≤ x := by rw [i32_le]; rw [i32_lt] at h; omega
  simp [inR, q]
