/-! pure words: what the methods reckon -/
theorem i32_lt {a b : Int32} : a < b ↔ a.toInt < b.toInt := Int32.lt_iff_toInt_lt
theorem i32_le {a b : Int32} : a ≤ b ↔ a.toInt ≤ b.toInt := Int32.le_iff_toInt_le
theorem nI_of_toInt {x : Int32} {k : Nat} (hk : k < 2 ^ 31) (h : x.toInt = (k : Int)) : x = nI k := Int32.toInt_inj.mp (by rw [h, nI_toInt hk])
theorem add_toInt {a b : Int32} (h1 : -2147483648 ≤ a.toInt + b.toInt) (h2 : a.toInt + b.toInt < 2147483648) : (a + b).toInt = a.toInt + b.toInt := by
  rw [Int32.toInt_add]; exact Int.bmod_eq_of_le (by omega) (by omega)
theorem sub_toInt {a b : Int32} (h1 : -2147483648 ≤ a.toInt - b.toInt) (h2 : a.toInt - b.toInt < 2147483648) : (a - b).toInt = a.toInt - b.toInt := by
  rw [Int32.toInt_sub]; exact Int.bmod_eq_of_le (by omega) (by omega)
theorem mul_toInt {a b : Int32} (h1 : -2147483648 ≤ a.toInt * b.toInt) (h2 : a.toInt * b.toInt < 2147483648) : (a * b).toInt = a.toInt * b.toInt := by
  rw [Int32.toInt_mul]; exact Int.bmod_eq_of_le (by omega) (by omega)
theorem shr_toInt (a : Int32) (s : Int32) (k : Nat) (hs : (s.toBitVec.smod 32).toNat = k) : (a >>> s).toInt = a.toInt / 2 ^ k := by
  rw [pk_shr a s k hs, Int.shiftRight_eq_div_pow]; norm_cast
theorem shr7 (a : Int32) : (a >>> ((7 : Int32) &&& 31)).toInt = a.toInt / 128 := shr_toInt a _ 7 (by decide)
def hashI (a b : Int32) : Int32 := ((a ^^^ 625341585) * (-1640531535) + b * (-2048144789)) ^^^ ((((a ^^^ 625341585) * (-1640531535) + b * (-2048144789)).toUInt32 >>> ((15 : Int32).toUInt32 &&& Int32.toUInt32 31)).toInt32)
def boundI (v lo hi : Int32) : Int32 := if lo < (if v < hi then v else hi) then (if v < hi then v else hi) else lo
def sqK (d : Int32) : Nat := (d.toInt / 128 + 16).toNat
theorem sqK_lt {d : Int32} (h1 : ¬ 2047 < d) (h2 : ¬ d < (-2047)) : sqK d < 32 := by
  rw [i32_lt] at h1 h2
  have e1 : (2047 : Int32).toInt = 2047 := by decide
  have e2 : (-2047 : Int32).toInt = -2047 := by decide
  rw [e1] at h1; rw [e2] at h2
  unfold sqK; omega
theorem sqK_eq {d : Int32} (h1 : ¬ 2047 < d) (h2 : ¬ d < (-2047)) : (d >>> ((7 : Int32) &&& 31)) + 16 = nI (sqK d) := by
  have h3 := sqK_lt h1 h2
  rw [i32_lt] at h1 h2
  have e1 : (2047 : Int32).toInt = 2047 := by decide
  have e2 : (-2047 : Int32).toInt = -2047 := by decide
  have e3 : (16 : Int32).toInt = 16 := by decide
  rw [e1] at h1; rw [e2] at h2
  apply nI_of_toInt (by omega)
  rw [add_toInt, shr7, e3]
  · unfold sqK; omega
  · rw [shr7, e3]; omega
  · rw [shr7, e3]; omega
/-- SQUASH -/
def sqI (d : Int32) : Int32 := if 2047 < d then 4095 else if d < (-2047) then 0 else (curveT (sqK d) * (128 - (d &&& 127)) + curveT (sqK d + 1) * (d &&& 127) + 64) >>> ((7 : Int32) &&& 31)
def eqTo (f g : Nat → Int32) : Nat → Bool
  | 0 => true
  | n + 1 => eqTo f g n && decide (f n = g n)
theorem eqTo_iff {f g : Nat → Int32} {n : Nat} : eqTo f g n = true ↔ ∀ k, k < n → f k = g k := by
  induction n with
  | zero => simp [eqTo]
  | succ n ih =>
    simp only [eqTo, Bool.and_eq_true, decide_eq_true_eq, ih]
    constructor
    · intro h k hk
      rcases Nat.lt_succ_iff_lt_or_eq.mp hk with h1 | h1
      · exact h.1 k h1
      · rw [h1]; exact h.2
    · intro h; exact ⟨fun k hk => h k (by omega), h n (by omega)⟩
def b01 (b : Bool) : Int32 := if b then 1 else 0
theorem b01_f {b : Bool} (h : b01 b = 0) : b = false := by cases b <;> simp [b01] at h ⊢
theorem b01_t {b : Bool} (h : ¬ b01 b = 0) : b = true := by cases b <;> simp [b01] at h ⊢
theorem b01_01 (b : Bool) : b01 b = 0 ∨ b01 b = 1 := by cases b <;> simp [b01]
/-- i is a place of n -/
def inR (i : Int32) (n : Nat) : Bool := !decide (i < 0) && !decide (nI n ≤ i)
theorem inR_of {i : Int32} {n : Nat} (hn : n < 2 ^ 31) (h : inR i n = true) : ∃ j : Nat, j < n ∧ i = nI j := by
  simp only [inR, Bool.and_eq_true, Bool.not_eq_true', decide_eq_false_iff_not] at h
  rcases pk_ix i hn with a | a | a
  · exact absurd a h.1
  · exact absurd a h.2
  · exact a
theorem inR_nI {j n : Nat} (h : j < n) (hn : n < 2 ^ 31) : inR (nI j) n = true := by
  simp only [inR, Bool.and_eq_true, Bool.not_eq_true', decide_eq_false_iff_not]
  exact ⟨nI_pos (by omega), nI_ge h hn⟩
theorem boundI_id {k a b : Nat} (h1 : a ≤ k) (h2 : k ≤ b) (hb : b < 2 ^ 31) : boundI (nI k) (nI a) (nI b) = nI k := by
  unfold boundI
  by_cases h3 : nI k < nI b
  · rw [if_pos h3]
    by_cases h4 : nI a < nI k
    · rw [if_pos h4]
    · rw [if_neg h4]
      have := mt (nI_ltI (a := a) (b := k) (by omega) (by omega)).mpr h4
      rw [show a = k by omega]
  · rw [if_neg h3]
    have := mt (nI_ltI (a := k) (b := b) (by omega) (by omega)).mpr h3
    have e : k = b := by omega
    subst e
    by_cases h4 : nI a < nI k
    · rw [if_pos h4]
    · rw [if_neg h4]
      have := mt (nI_ltI (a := a) (b := k) (by omega) (by omega)).mpr h4
      rw [show a = k by omega]
/-- what a predictor's kind and number may be -/
def allowB (k n : Int32) : Bool := if k = 0 then !decide (n < 0) && !decide (6 < n) else if k = 1 then true else if k = 2 then !decide (n < 1) && !decide (64 < n) else if k = 3 then !decide (n < 1) && !decide (15 < n) else if k = 4 then !decide (n < 3) && !decide (8 < n) else false
def cellB (n j : Int32) : Bool := !decide (n < 0) && (!decide (256 ≤ n) && (!decide (j < 0) && !decide (33 ≤ j)))
/-- the weighted sum of the first n inputs -/
def dotI (w x : Nat → Int32) (r : Nat) : Nat → Int64
  | 0 => 0
  | n + 1 => dotI w x r n + (w (r + n)).toInt64 * (x n).toInt64
def mnL (v : Int64) : Int64 := if v < 2047 then v else 2047
def clampL (v : Int64) : Int64 := if mnL v < (-2047) then (-2047) else mnL v
def toldI (w x : Nat → Int32) (r : Nat) : Int32 := sqI (clampL (dotI w x r 9 >>> ((16 : Int32).toInt64 &&& 63))).toInt32
def errI (on told : Int32) : Int32 := ((if on = 0 then 0 else 4095) - told) * 7
def growI (w x er : Int32) : Int32 := boundI (w + ((x * er + 32768) >>> ((16 : Int32) &&& 31))) (-1000000) 1000000
/-- the row r of weights, learned for its first n inputs -/
def wLearn (w x : Nat → Int32) (r : Nat) (er : Int32) : Nat → Nat → Int32
  | 0 => w
  | n + 1 => upd (wLearn w x r er n) (r + n) (growI (w (r + n)) (x n) er)
theorem wLearn_ge {w x : Nat → Int32} {r : Nat} {er : Int32} {n k : Nat} (h : r + n ≤ k) : wLearn w x r er n k = w k := by
  induction n with
  | zero => rfl
  | succ n ih => simp only [wLearn, upd]; rw [if_neg (by omega)]; exact ih (by omega)
def rateI (c : Int32) : Int32 := 65536 / (if 2 < c + 2 then c + 2 else 2)
theorem rate_ne (c : Int32) : ¬ (if 2 < c + 2 then c + 2 else 2) = (0 : Int32) := by
  by_cases h : 2 < c + 2
  · rw [if_pos h]; intro q; rw [q] at h; exact absurd h (by decide)
  · rw [if_neg h]; decide
def slotUp (on c n : Int32) : Int32 := c + ((((if on = 0 then 0 else 65535) - c) * rateI n) >>> ((16 : Int32) &&& 31))
def cntUp (n : Int32) : Int32 := if n + 1 < 30 then n + 1 else 30
def cellUp (on c : Int32) : Int32 := c + (((if on = 0 then 0 else 65535) - c) >>> ((7 : Int32) &&& 31))
/-- the cell that is nearest, of 33 a row -/
def nearN (k t : Nat) : Nat := 33 * k + (if 64 ≤ t % 128 then t / 128 + 1 else t / 128)
def corrI (f : Nat → Int32) (k t : Nat) : Int32 := (f (33 * k + t / 128) * (128 - nI (t % 128)) + f (33 * k + (t / 128 + 1)) * nI (t % 128)) >>> ((11 : Int32) &&& 31)
def fillTo (f : Nat → Int32) (v : Int32) (n : Nat) : Nat → Int32 := fun j => if j < n then v else f j
theorem fillTo_up (f : Nat → Int32) (v : Int32) (n : Nat) : upd (fillTo f v n) n v = fillTo f v (n + 1) := by
  funext j
  simp only [upd, fillTo]
  by_cases h : j = n
  · rw [if_pos h, if_pos (by omega)]
  · rw [if_neg h]
    by_cases h2 : j < n
    · rw [if_pos h2, if_pos (by omega)]
    · rw [if_neg h2, if_neg (by omega)]
theorem fillTo_0 (f : Nat → Int32) (v : Int32) : fillTo f v 0 = f := by funext j; simp [fillTo]
/-- fresh weights: the first t rows' last ones are 0 -/
def wFill (f : Nat → Int32) (t : Nat) : Nat → Int32 := fun j => if j < 2304 then (if j % 9 = 8 ∧ j < 9 * t then 0 else 20000) else f j
theorem wFill_0 (f : Nat → Int32) : fillTo f 20000 2304 = wFill f 0 := by
  funext j; simp [fillTo, wFill]
theorem wFill_up (f : Nat → Int32) {t : Nat} (h : t < 256) : upd (wFill f t) (8 + 9 * t) 0 = wFill f (t + 1) := by
  funext j
  simp only [upd, wFill]
  by_cases h1 : j = 8 + 9 * t
  · rw [if_pos h1, if_pos (by omega), if_pos (by omega)]
  · rw [if_neg h1]
    by_cases h2 : j < 2304
    · rw [if_pos h2, if_pos h2]
      by_cases h3 : j % 9 = 8 ∧ j < 9 * t
      · rw [if_pos h3, if_pos (by omega)]
      · rw [if_neg h3, if_neg (by omega)]
    · rw [if_neg h2, if_neg h2]
theorem andI {k m : Nat} (hk : k < 2 ^ 32) (p : Nat) (hm : (nI m).toBitVec.toNat = 2 ^ p - 1) : nI k &&& nI m = nI (k % 2 ^ p) := pk_andN hk p hm
theorem i32_nlt {a b : Int32} (h : a ≤ b) : ¬ b < a := by rw [i32_lt]; rw [i32_le] at h; omega
theorem i32_ltn {a b : Int32} (h : ¬ a ≤ b) : b < a := by rw [i32_lt]; rw [i32_le] at h; omega
theorem eqTo_s {f g : Nat → Int32} {n : Nat} (h : eqTo f g n = true) (h2 : f n = g n) : ∀ k, k < n + 1 → f k = g k := by
  rw [← eqTo_iff]; simp only [eqTo, h, h2, decide_true, Bool.and_self]
theorem eqTo_ne {f g : Nat → Int32} {n k : Nat} (hk : k < n) (h : ¬ f k = g k) : eqTo f g n = false := by
  cases q : eqTo f g n with
  | false => rfl
  | true => exact absurd (eqTo_iff.mp q k hk) h
theorem lp_end {x : Int32} {i n : Nat} (ex : x = nI i) (hn : n < 2 ^ 31) (hi : i ≤ n) (h : nI n ≤ x) : i = n := by
  rcases Nat.lt_or_ge i n with q | q
  · exact absurd (ex ▸ h) (nI_ge q hn)
  · omega
theorem lp_go {x : Int32} {i n : Nat} (ex : x = nI i) (hn : n < 2 ^ 31) (hi : i ≤ n) (h : ¬ nI n ≤ x) : i < n := by
  rcases Nat.lt_or_ge i n with q | q
  · exact q
  · exact absurd (by rw [ex]; exact nI_le q (by omega)) h
theorem cellB_nI {k t : Nat} (hk : k < 256) (ht : t < 33) : cellB (nI k) (nI t) = true := by
  simp only [cellB, Bool.and_eq_true, Bool.not_eq_true', decide_eq_false_iff_not]
  exact ⟨nI_pos (by omega), nI_ge (b := 256) hk (by decide), nI_pos (by omega), nI_ge (b := 33) ht (by decide)⟩
theorem near_if (t : Nat) : (if nI (t % 128) < 64 then nI (t / 128) else nI (t / 128 + 1)) = nI (if 64 ≤ t % 128 then t / 128 + 1 else t / 128) := by
  have h : nI (t % 128) < (64 : Int32) ↔ t % 128 < 64 := nI_ltI (a := t % 128) (b := 64) (by omega) (by decide)
  by_cases q : t % 128 < 64
  · rw [if_pos (h.mpr q), if_neg (by omega)]
  · rw [if_neg (fun z => q (h.mp z)), if_pos (by omega)]
theorem near_add (k t : Nat) : nI (k * 33) + nI (if 64 ≤ t % 128 then t / 128 + 1 else t / 128) = nI (nearN k t) := by
  rw [nI_add]; unfold nearN; rw [Nat.mul_comm]
theorem near_lt {k t : Nat} (hk : k < 256) (ht : t < 4096) : nearN k t ≤ 8447 := by
  unfold nearN; split <;> omega
theorem lp9_end {x : Int32} {i : Nat} (ex : x = nI (8 + 9 * i)) (hi : i ≤ 256) (h : nI 2304 ≤ x) : i = 256 := by
  rcases Nat.lt_or_ge i 256 with q | q
  · exact absurd (ex ▸ h) (nI_ge (by omega) (by decide))
  · omega
theorem lp9_go {x : Int32} {i : Nat} (ex : x = nI (8 + 9 * i)) (hi : i ≤ 256) (h : ¬ nI 2304 ≤ x) : i < 256 := by
  rcases Nat.lt_or_ge i 256 with q | q
  · exact q
  · exact absurd (by rw [ex]; exact nI_le (by omega) (by omega)) h
theorem wLearn_s {w x : Nat → Int32} {r : Nat} {er : Int32} {i : Nat} {v : Int32} (h : v = growI (wLearn w x r er i (r + i)) (x i) er) : upd (wLearn w x r er i) (r + i) v = wLearn w x r er (i + 1) := by
  rw [h, wLearn_ge (Nat.le_refl _)]; simp only [wLearn]
