/-! pure words of History and Match: f the bytes, n how many -/
def byteN (f : Nat → Int32) (n p : Nat) : Int32 := if p < n then f p else 0
def backN (f : Nat → Int32) (n k : Nat) : Int32 := if 1 ≤ k ∧ k ≤ n then f (n - k) else 0
def latG (hs : Int32 → Int32 → Int32) (B : Nat → Int32) (h0 : Int32) : Nat → Int32
  | 0 => h0
  | i + 1 => hs (latG hs B h0 i) (B (i + 1))
theorem latG_s (hs : Int32 → Int32 → Int32) (B : Nat → Int32) (h0 : Int32) (i : Nat) : latG hs B h0 (i + 1) = hs (latG hs B h0 i) (B (i + 1)) := rfl
theorem latG_0 (hs : Int32 → Int32 → Int32) (B : Nat → Int32) (h0 : Int32) : latG hs B h0 0 = h0 := rfl
def latH (f : Nat → Int32) (n t i : Nat) : Int32 := latG hashI (backN f n) (hashI (nI (t + 1)) 0) i
theorem latH_s (f : Nat → Int32) (n t i : Nat) : hashI (latH f n t i) (backN f n (i + 1)) = latH f n t (i + 1) := (latG_s hashI (backN f n) (hashI (nI (t + 1)) 0) i).symm
theorem latH_0 (f : Nat → Int32) (n t : Nat) : hashI (nI (t + 1)) 0 = latH f n t 0 := (latG_0 hashI (backN f n) (hashI (nI (t + 1)) 0)).symm
def letB (x : Int32) : Bool := if x < 65 then (if x < 97 then false else !decide (122 < x)) else if x ≤ 90 then true else if x < 97 then false else !decide (122 < x)
def wlG (f : Nat → Int32) (n : Nat) : Nat → Nat → Nat
  | 0, i => i
  | k + 1, i => if letB (backN f n (i + 1)) = true then wlG f n k (i + 1) else i
def wlen (f : Nat → Int32) (n : Nat) : Nat := wlG f n 16 0
def whG (hs : Int32 → Int32 → Int32) (B : Nat → Int32) : Nat → Int32 → Int32
  | 0, h => h
  | k + 1, h => whG hs B k (hs h (B (k + 1)))
theorem whG_s (hs : Int32 → Int32 → Int32) (B : Nat → Int32) (k : Nat) (h : Int32) : whG hs B k (hs h (B (k + 1))) = whG hs B (k + 1) h := rfl
theorem whG_0 (hs : Int32 → Int32 → Int32) (B : Nat → Int32) (h : Int32) : whG hs B 0 h = h := rfl
def whash (f : Nat → Int32) (n k : Nat) (h : Int32) : Int32 := whG hashI (backN f n) k h
def wordH (f : Nat → Int32) (n : Nat) : Int32 := whash f n (wlen f n) (hashI 32 0)
def colH (f : Nat → Int32) (n t : Nat) : Int32 := hashI (hashI (hashI (nI (64 + t)) 0) (nI (n % t))) (backN f n t)
def apG (hs : Int32 → Int32 → Int32) (B : Nat → Int32) (h0 nn : Int32) : Nat → Int32
  | 0 => h0
  | k + 1 => if (nn >>> (nI k &&& 31)) &&& 1 = 1 then hs (apG hs B h0 nn k) (B (k + 1)) else apG hs B h0 nn k
theorem apG_t {hs : Int32 → Int32 → Int32} {B : Nat → Int32} {h0 nn : Int32} {k : Nat} (h : (nn >>> (nI k &&& 31)) &&& 1 = 1) : hs (apG hs B h0 nn k) (B (k + 1)) = apG hs B h0 nn (k + 1) := by
  show _ = if (nn >>> (nI k &&& 31)) &&& 1 = 1 then hs (apG hs B h0 nn k) (B (k + 1)) else apG hs B h0 nn k
  rw [if_pos h]
theorem apG_f {hs : Int32 → Int32 → Int32} {B : Nat → Int32} {h0 nn : Int32} {k : Nat} (h : ¬ (nn >>> (nI k &&& 31)) &&& 1 = 1) : apG hs B h0 nn k = apG hs B h0 nn (k + 1) := by
  show _ = if (nn >>> (nI k &&& 31)) &&& 1 = 1 then hs (apG hs B h0 nn k) (B (k + 1)) else apG hs B h0 nn k
  rw [if_neg h]
theorem apG_0 (hs : Int32 → Int32 → Int32) (B : Nat → Int32) (h0 nn : Int32) : apG hs B h0 nn 0 = h0 := rfl
def apH (f : Nat → Int32) (n : Nat) (nn : Int32) (k : Nat) : Int32 := apG hashI (backN f n) (hashI (128 + nn) 0) nn k
theorem apH_0 (f : Nat → Int32) (n : Nat) (nn : Int32) : hashI (128 + nn) 0 = apH f n nn 0 := (apG_0 hashI (backN f n) _ nn).symm
theorem apH_t {f : Nat → Int32} {n k : Nat} {nn : Int32} (h : (nn >>> (nI k &&& 31)) &&& 1 = 1) : hashI (apH f n nn k) (backN f n (k + 1)) = apH f n nn (k + 1) := apG_t h
theorem apH_f {f : Nat → Int32} {n k : Nat} {nn : Int32} (h : ¬ (nn >>> (nI k &&& 31)) &&& 1 = 1) : apH f n nn k = apH f n nn (k + 1) := apG_f h
def sameB (f : Nat → Int32) (n p : Nat) : Nat → Bool
  | 0 => true
  | i + 1 => sameB f n p i && decide (f (p - (i + 1)) = backN f n (i + 1))
theorem sameB_f {f : Nat → Int32} {n p t i : Nat} (hi : i < t) (h : ¬ f (p - (i + 1)) = backN f n (i + 1)) : sameB f n p t = false := by
  induction t with
  | zero => omega
  | succ t ih =>
    simp only [sameB]
    rcases Nat.lt_or_ge i t with q | q
    · rw [ih q]; rfl
    · have e : i = t := by omega
      subst e
      rw [decide_eq_false h, Bool.and_false]
theorem sameB_t {f : Nat → Int32} {n p i : Nat} (h : sameB f n p i = true) (h2 : f (p - (i + 1)) = backN f n (i + 1)) : sameB f n p (i + 1) = true := by
  simp only [sameB, h, h2, decide_true, Bool.and_self]
def fstN (n t : Nat) : Nat := if t < n - 64 then n - 64 else t
def findK (f : Nat → Int32) (n t : Nat) : Nat → Option Nat
  | 0 => none
  | i + 1 => if i < fstN n t then none else if sameB f n i t = true then some i else findK f n t i
def findP (f : Nat → Int32) (n t pl ln : Nat) : Nat := if 0 < ln then pl else (findK f n t n).getD pl
def findL (f : Nat → Int32) (n t ln : Nat) : Nat := if 0 < ln then ln else if (findK f n t n).isSome then t else 0
def folB (f : Nat → Int32) (n pl ln : Nat) : Bool := decide (0 < ln) && decide (byteN f n pl = backN f n 1)
def folP (f : Nat → Int32) (n pl ln : Nat) : Nat := if folB f n pl ln = true then pl + 1 else pl
def folL (f : Nat → Int32) (n pl ln : Nat) : Nat := if folB f n pl ln = true then (if ln + 1 < 32 then ln + 1 else 32) else 0
def toldM (th : Int32) (bg nd ln : Nat) : Int32 := if ln = 0 then 0 else if ¬ th >>> (nI (8 - bg) &&& 31) = nI nd then 0 else if (th >>> ((nI (8 - bg) - 1) &&& 31)) &&& 1 = 1 then 64 * nI (if ln < 16 then ln else 16) else -(64 * nI (if ln < 16 then ln else 16))
def bitN (on : Int32) : Nat := if on = 0 then 0 else 1
theorem byteN_0 {f : Nat → Int32} {n p : Nat} (h : n ≤ p) : byteN f n p = 0 := by unfold byteN; rw [if_neg (by omega)]
theorem byteN_p {f : Nat → Int32} {n p : Nat} (h : p < n) : byteN f n p = f p := by unfold byteN; rw [if_pos h]
theorem backN_0 {f : Nat → Int32} {n k : Nat} (h : k = 0 ∨ n < k) : backN f n k = 0 := by unfold backN; rw [if_neg (by omega)]
theorem backN_p {f : Nat → Int32} {n k : Nat} (h1 : 1 ≤ k) (h : k ≤ n) : backN f n k = f (n - k) := by unfold backN; rw [if_pos ⟨h1, h⟩]
theorem nI_sub_neg {a b : Nat} (h : a < b) (hb : b < 2 ^ 30) : nI a - nI b < 0 := pk_sneg hb h
theorem nI_or (a b : Nat) : nI a ||| nI b = nI (a ||| b) := by
  apply Int32.toBitVec_inj.1
  show BitVec.ofNat 32 a ||| BitVec.ofNat 32 b = BitVec.ofNat 32 (a ||| b)
  apply BitVec.eq_of_getLsbD_eq
  intro i hi
  simp [hi]
theorem node_or (nd : Nat) (h : nd < 256) (b : Nat) (hb : b < 2) : (nI nd <<< ((1 : Int32) &&& 31)) ||| nI b = nI (2 * nd + b) := by
  rw [pk_shlN _ 1 (by decide) (by omega), nI_or]
  have h := Nat.shiftLeft_add_eq_or_of_lt (i := 1) (b := b) (by omega) nd
  rw [Nat.shiftLeft_eq] at h
  rw [← h, Nat.mul_comm]
theorem node_bit {nd : Nat} {on : Int32} (h : nd < 256) : (nI nd <<< ((1 : Int32) &&& 31)) ||| (if on = 0 then 0 else 1) = nI (2 * nd + bitN on) := by
  have h0 := node_or nd h 0 (by decide); have h1 := node_or nd h 1 (by decide)
  unfold bitN
  by_cases q : on = 0
  · rw [if_pos q, if_pos q]; exact h0
  · rw [if_neg q, if_neg q]; exact h1
theorem bitN_lt (on : Int32) : bitN on < 2 := by unfold bitN; split <;> omega
theorem i32_eqN {a b : Nat} (ha : a < 2 ^ 31) (hb : b < 2 ^ 31) (h : nI a = nI b) : a = b := (nI_eq ha hb).mp h
theorem lp_le_end {x : Int32} {i n : Nat} (ex : x = nI i) (hn : n < 2 ^ 30) (hi : i ≤ n + 1) (h : nI n < x) : i = n + 1 := by
  rw [ex, nI_ltI (by omega) (by omega)] at h; omega
theorem lp_le_go {x : Int32} {i n : Nat} (ex : x = nI i) (hn : n < 2 ^ 30) (hi : i ≤ n + 1) (h : ¬ nI n < x) : i ≤ n := by
  rw [ex, nI_ltI (by omega) (by omega)] at h; omega
theorem min32 {a : Nat} (c : Nat) (hc : c < 2 ^ 31) (ha : a < 2 ^ 31) : (if nI a < nI c then nI a else nI c) = nI (if a < c then a else c) := by
  by_cases q : a < c
  · rw [if_pos (nI_lt q hc), if_pos q]
  · rw [if_neg (fun z => q ((nI_ltI ha hc).mp z)), if_neg q]
theorem fst_max {n t : Nat} (hn : n < 2 ^ 30) (ht : t < 2 ^ 30) : (if nI t < nI n - 64 then nI n - 64 else nI t) = nI (fstN n t) := by
  unfold fstN
  rcases Nat.lt_or_ge n 64 with q | q
  · have h1 : ¬ nI t < nI n - 64 := by
      intro z
      have a := nI_sub_neg (a := n) (b := 64) q (by decide)
      rw [i32_lt] at z a
      have b : (nI t).toInt = (t : Int) := nI_toInt (by omega)
      have c : (0 : Int32).toInt = 0 := by decide
      have d : (nI n - 64).toInt = (nI n - nI 64).toInt := rfl
      omega
    rw [if_neg h1, if_neg (by omega)]
  · have e : nI n - 64 = nI (n - 64) := pk_sub (a := n) (b := 64) q
    rw [e]
    by_cases q2 : t < n - 64
    · rw [if_pos (nI_lt q2 (by omega)), if_pos q2]
    · rw [if_neg (fun z => q2 ((nI_ltI (by omega) (by omega)).mp z)), if_neg q2]
theorem dn_lt {x : Int32} {i c : Nat} (hi : i < 2 ^ 30) (hc : c < 2 ^ 30) (ex : x = nI i - 1) : x < nI c ↔ i ≤ c := by
  have e : (nI i - 1 : Int32) = nI i - nI 1 := rfl
  rw [ex, e, i32_lt, pk_sub_toInt hi (by decide), nI_toInt (by omega)]
  omega
theorem findL_go {f : Nat → Int32} {n t i : Nat} (h1 : ¬ i < fstN n t) : findK f n t (i + 1) = if sameB f n i t = true then some i else findK f n t i := by
  simp only [findK]; rw [if_neg h1]
theorem findL_end {f : Nat → Int32} {n t i : Nat} (h1 : i ≤ fstN n t) : findK f n t i = none := by
  cases i with
  | zero => rfl
  | succ i => simp only [findK]; rw [if_pos (by omega)]
theorem wl_s {f : Nat → Int32} {n i : Nat} (hi : i < 16) (h : letB (backN f n (i + 1)) = true) (hw : wlG f n (16 - i) i = wlen f n) : wlG f n (16 - (i + 1)) (i + 1) = wlen f n := by
  rw [← hw, show 16 - i = (16 - (i + 1)) + 1 by omega]; simp only [wlG]; rw [if_pos h]
theorem wl_e {f : Nat → Int32} {n i : Nat} (hi : i < 16) (h : letB (backN f n (i + 1)) = false) : wlG f n (16 - i) i = i := by
  rw [show 16 - i = (16 - (i + 1)) + 1 by omega]; simp only [wlG]; rw [if_neg (by rw [h]; decide)]
theorem whash_s {f : Nat → Int32} {n j : Nat} {h : Int32} (hj : 0 < j) : whash f n (j - 1) (hashI h (backN f n j)) = whash f n j h := by
  obtain ⟨k, rfl⟩ : ∃ k, j = k + 1 := ⟨j - 1, by omega⟩
  rw [Nat.add_sub_cancel]
  exact whG_s hashI (backN f n) k h
theorem whash_0 (f : Nat → Int32) (n : Nat) (h : Int32) : whash f n 0 h = h := whG_0 hashI (backN f n) h
