/-! what a side foretells and learns -/
theorem pow12 {N rr : Nat} (h : rr ≤ 12) (hN : N = 2 ^ rr) : N < 2 ^ 31 := by
  rw [hN]; exact Nat.pow_lt_pow_right (by decide) (by omega)
def slotN (N : Nat) (cx nd : Int32) : Nat := (hashI cx nd).toBitVec.toNat % N
theorem slot_lt {N rr : Nat} {a b : Int32} (hN : N = 2 ^ rr) : slotN N a b < N := by
  unfold slotN; exact Nat.mod_lt _ (by rw [hN]; exact Nat.pow_pos (by decide))
theorem and_low (x : Int32) {N rr : Nat} (h : rr ≤ 12) (hN : N = 2 ^ rr) : x &&& (nI N - 1) = nI (x.toBitVec.toNat % N) := by
  have h1 : 1 ≤ N := by rw [hN]; exact Nat.pow_pos (by decide)
  have h2 := pow12 h hN
  have e : nI N - 1 = nI (N - 1) := pk_sub (a := N) (b := 1) h1
  rw [e, hN]
  exact pk_and x rr (by rw [pk_tn (by rw [← hN]; omega)])
theorem slot_eq {N rr : Nat} {a b : Int32} (h : rr ≤ 12) (hN : N = 2 ^ rr) : hashI a b &&& (nI N - 1) = nI (slotN N a b) := and_low (hashI a b) h hN
def chN (x : Int32) : Nat := x.toInt.toNat / 16
theorem ch_lt {x : Int32} (h : 0 ≤ x.toInt ∧ x.toInt < 65536) : chN x < 4096 := by unfold chN; omega
theorem ch_eq {x : Int32} (h : 0 ≤ x.toInt ∧ x.toInt < 65536) : x >>> ((4 : Int32) &&& 31) = nI (chN x) := by
  apply nI_of_toInt (by have := ch_lt h; omega)
  rw [shr_toInt x _ 4 (by decide)]
  unfold chN; omega
/-- the INPUT of predictor i -/
def inI (fk fo st : Nat → Int32) (n nd bg : Nat) (f : Nat → Int32) (N : Nat) (fc : Nat → Int32) (mp ml : Nat → Nat) (cx : Nat → Int32) (i : Nat) : Int32 := if ¬ fo i = 0 then 0 else if fk i = 4 then toldM (byteN f n (mp i) ||| 256) bg nd (ml i) else st (chN (fc (slotN N (cx i) (nI nd))))
def setTo (h x : Nat → Int32) (k : Nat) : Nat → Int32 := fun j => if j < k then h j else x j
theorem setTo_s (h x : Nat → Int32) (k : Nat) : upd (setTo h x k) k (h k) = setTo h x (k + 1) := by
  funext j
  simp only [upd, setTo]
  by_cases q : j = k
  · rw [if_pos q, if_pos (by omega), q]
  · rw [if_neg q]
    by_cases q2 : j < k
    · rw [if_pos q2, if_pos (by omega)]
    · rw [if_neg q2, if_neg (by omega)]
theorem setTo_0 (h x : Nat → Int32) : x = setTo h x 0 := by funext j; simp [setTo]
def xiI (fk fo st : Nat → Int32) (n nd bg : Nat) (f : Nat → Int32) (N : Nat) (fc : Nat → Int32) (mp ml : Nat → Nat) (cx xi : Nat → Int32) (k : Nat) : Nat → Int32 := setTo (inI fk fo st n nd bg f N fc mp ml cx) xi k
theorem xiI_s {fk fo st : Nat → Int32} {n nd bg : Nat} {f : Nat → Int32} {N : Nat} {fc : Nat → Int32} {mp ml : Nat → Nat} {cx : Nat → Int32} (xi : Nat → Int32) {k : Nat} : upd (xiI fk fo st n nd bg f N fc mp ml cx xi k) k (inI fk fo st n nd bg f N fc mp ml cx k) = xiI fk fo st n nd bg f N fc mp ml cx xi (k + 1) := setTo_s _ _ _
theorem xiI_0 {fk fo st : Nat → Int32} {n nd bg : Nat} {f : Nat → Int32} {N : Nat} {fc : Nat → Int32} {mp ml : Nat → Nat} {cx : Nat → Int32} (xi : Nat → Int32) : xi = xiI fk fo st n nd bg f N fc mp ml cx xi 0 := setTo_0 _ _
def lbN (f : Nat → Int32) (n : Nat) : Nat := (backN f n 1).toInt.toNat
theorem lb_rng {f : Nat → Int32} {n : Nat} (h : ∀ j, j < n → 0 ≤ (f j).toInt ∧ (f j).toInt < 256) : 0 ≤ (backN f n 1).toInt ∧ (backN f n 1).toInt < 256 := by
  by_cases q : 1 ≤ n
  · rw [backN_p (by decide) q]; exact h (n - 1) (by omega)
  · rw [backN_0 (by omega)]; decide
theorem lb_lt {f : Nat → Int32} {n : Nat} (h : ∀ j, j < n → 0 ≤ (f j).toInt ∧ (f j).toInt < 256) : lbN f n < 256 := by
  have := lb_rng h; unfold lbN; omega
theorem lb_eq {f : Nat → Int32} {n : Nat} (h : ∀ j, j < n → 0 ≤ (f j).toInt ∧ (f j).toInt < 256) : backN f n 1 = nI (lbN f n) := by
  have := lb_rng h
  exact nI_of_toInt (by have := lb_lt h; omega) (by unfold lbN; omega)
theorem curve_rng : ∀ j, j < 33 → 1 ≤ (curveT j).toInt ∧ (curveT j).toInt ≤ 4094 := by decide +kernel
theorem and127 (d : Int32) : ∃ w : Nat, w < 128 ∧ d &&& 127 = nI w := by
  obtain ⟨j, h1, h2⟩ := pk_andE d (m := 127) 7 (by decide)
  exact ⟨j, h1, h2⟩
theorem sq_mid {a b w : Int} (ha : 1 ≤ a) (ha2 : a ≤ 4094) (hb : 1 ≤ b) (hb2 : b ≤ 4094) (hw : 0 ≤ w) (hw2 : w < 128) : 128 ≤ a * (128 - w) + b * w ∧ a * (128 - w) + b * w ≤ 4094 * 128 := by
  have h1 : 1 * (128 - w) ≤ a * (128 - w) := Int.mul_le_mul_of_nonneg_right ha (by omega)
  have h2 : a * (128 - w) ≤ 4094 * (128 - w) := Int.mul_le_mul_of_nonneg_right ha2 (by omega)
  have h3 : 1 * w ≤ b * w := Int.mul_le_mul_of_nonneg_right hb hw
  have h4 : b * w ≤ 4094 * w := Int.mul_le_mul_of_nonneg_right hb2 hw
  omega
theorem sq_rng (d : Int32) : 0 ≤ (sqI d).toInt ∧ (sqI d).toInt ≤ 4095 := by
  unfold sqI
  by_cases h1 : 2047 < d
  · rw [if_pos h1]; decide
  · rw [if_neg h1]
    by_cases h2 : d < (-2047)
    · rw [if_pos h2]; decide
    · rw [if_neg h2]
      have hk := sqK_lt h1 h2
      obtain ⟨w, hw, ew⟩ := and127 d
      have ha := curve_rng (sqK d) (by omega)
      have hb := curve_rng (sqK d + 1) (by omega)
      rw [ew]
      generalize curveT (sqK d) = a at ha ⊢
      generalize curveT (sqK d + 1) = b at hb ⊢
      have e128 : (128 : Int32).toInt = 128 := by decide
      have e64 : (64 : Int32).toInt = 64 := by decide
      have ew2 : (nI w).toInt = (w : Int) := nI_toInt (by omega)
      have es : (128 - nI w : Int32).toInt = 128 - (w : Int) := by rw [sub_toInt, e128, ew2] <;> (rw [e128, ew2]; omega)
      have hm := sq_mid ha.1 ha.2 hb.1 hb.2 (w := w) (by omega) (by omega)
      have p1 : 0 ≤ a.toInt * (128 - (w : Int)) := Int.mul_nonneg (by omega) (by omega)
      have p2 : 0 ≤ b.toInt * (w : Int) := Int.mul_nonneg (by omega) (by omega)
      have m1 : (a * (128 - nI w)).toInt = a.toInt * (128 - (w : Int)) := by rw [mul_toInt, es] <;> (rw [es]; omega)
      have m2 : (b * nI w).toInt = b.toInt * (w : Int) := by rw [mul_toInt, ew2] <;> (rw [ew2]; omega)
      have a1 : (a * (128 - nI w) + b * nI w).toInt = a.toInt * (128 - (w : Int)) + b.toInt * (w : Int) := by rw [add_toInt, m1, m2] <;> (rw [m1, m2]; omega)
      have a2 : (a * (128 - nI w) + b * nI w + 64).toInt = a.toInt * (128 - (w : Int)) + b.toInt * (w : Int) + 64 := by rw [add_toInt, a1, e64] <;> (rw [a1, e64]; omega)
      rw [shr7, a2]; omega
theorem told_rng (w x : Nat → Int32) (r : Nat) : 0 ≤ (toldI w x r).toInt ∧ (toldI w x r).toInt ≤ 4095 := sq_rng _
def mixN (a b : Int32) : Nat := ((a.toInt + b.toInt + 1) / 2).toNat
theorem mix_ltG {a b : Int32} (ha : 0 ≤ a.toInt ∧ a.toInt ≤ 4095) (hb : 0 ≤ b.toInt ∧ b.toInt ≤ 4095) : mixN a b < 4096 := by unfold mixN; omega
theorem mix_eqG {a b : Int32} (ha : 0 ≤ a.toInt ∧ a.toInt ≤ 4095) (hb : 0 ≤ b.toInt ∧ b.toInt ≤ 4095) : (a + b + 1) >>> ((1 : Int32) &&& 31) = nI (mixN a b) := by
  have e1 : (1 : Int32).toInt = 1 := by decide
  have a1 : (a + b).toInt = a.toInt + b.toInt := by rw [add_toInt] <;> omega
  have a2 : (a + b + 1).toInt = a.toInt + b.toInt + 1 := by rw [add_toInt, a1, e1] <;> (rw [a1, e1]; omega)
  apply nI_of_toInt (by have := mix_ltG ha hb; omega)
  rw [shr_toInt _ _ 1 (by decide), a2]; unfold mixN; omega
theorem mix_lt (w x : Nat → Int32) (r : Nat) (w2 x2 : Nat → Int32) (r2 : Nat) : mixN (toldI w x r) (toldI w2 x2 r2) < 4096 := mix_ltG (told_rng _ _ _) (told_rng _ _ _)
theorem mix_eq (w x : Nat → Int32) (r : Nat) (w2 x2 : Nat → Int32) (r2 : Nat) : (toldI w x r + toldI w2 x2 r2 + 1) >>> ((1 : Int32) &&& 31) = nI (mixN (toldI w x r) (toldI w2 x2 r2)) := mix_eqG (told_rng _ _ _) (told_rng _ _ _)
def tN (st : Nat → Int32) (k : Nat) : Nat := ((st k).toInt + 2048).toNat
theorem tN_lt {st : Nat → Int32} {k : Nat} (h : -2047 ≤ (st k).toInt ∧ (st k).toInt ≤ 2047) : tN st k < 4096 := by unfold tN; omega
theorem tN_eq {st : Nat → Int32} {k : Nat} (h : -2047 ≤ (st k).toInt ∧ (st k).toInt ≤ 2047) : st k + 2048 = nI (tN st k) := by
  have e : (2048 : Int32).toInt = 2048 := by decide
  apply nI_of_toInt (by have := tN_lt h; omega)
  rw [add_toInt, e] <;> (try rw [e]) <;> (try unfold tN) <;> omega
def chanceI (mx : Nat) (co : Int32) : Int32 := boundI ((nI mx + 3 * co + 2) >>> ((2 : Int32) &&& 31)) 1 4095
