theorem upd_2 (f : Nat → Int32) (k : Nat) (a b : Int32) : upd (upd f k a) k b = upd f k b := by
  funext j; simp only [upd]; by_cases h : j = k
  · rw [if_pos h, if_pos h]
  · rw [if_neg h, if_neg h, if_neg h]
theorem upd_id {f : Nat → Int32} {k : Nat} {a : Int32} (h : f k = a) : f = upd f k a := by
  funext j; simp only [upd]; by_cases q : j = k
  · rw [if_pos q, q, h]
  · rw [if_neg q]
theorem upd_at (f : Nat → Int32) (k : Nat) (a : Int32) : upd f k a k = a := by simp [upd]
theorem sameB_mono {f : Nat → Int32} {n p t i : Nat} (h : i ≤ t) (h2 : sameB f n p i = false) : sameB f n p t = false := by
  induction t with
  | zero => rw [show i = 0 by omega] at h2; exact h2
  | succ t ih =>
    rcases Nat.lt_or_ge t i with q | q
    · rw [show i = t + 1 by omega] at h2; exact h2
    · simp only [sameB]; rw [ih q]; rfl
theorem sameB_i {f : Nat → Int32} {n p i : Nat} (h : sameB f n p i = true) : (if ¬ f (p - (i + 1)) = backN f n (i + 1) then 0 else 1) = b01 (sameB f n p (i + 1)) := by
  simp only [sameB, h, Bool.true_and]
  by_cases q : f (p - (i + 1)) = backN f n (i + 1)
  · rw [if_neg (not_not_intro q), decide_eq_true q]; rfl
  · rw [if_pos q, decide_eq_false q]; rfl
theorem sameB_i2 {f : Nat → Int32} {n p i : Nat} (h : sameB f n p i = true) : (if f (p - (i + 1)) = backN f n (i + 1) then 1 else 0) = b01 (sameB f n p (i + 1)) := by
  simp only [sameB, h, Bool.true_and]
  by_cases q : f (p - (i + 1)) = backN f n (i + 1)
  · rw [if_pos q, decide_eq_true q]; rfl
  · rw [if_neg q, decide_eq_false q]; rfl
/-- the search's state: still looking, or done -/
def sea (f : Nat → Int32) (n t p1 l1 i p2 l2 : Nat) : Prop := (l2 = 0 ∧ findK f n t i = findK f n t n ∧ p2 = p1 ∧ l1 = 0) ∨ (0 < l2 ∧ p2 = findP f n t p1 l1 ∧ l2 = findL f n t l1)
theorem sea_0 {f : Nat → Int32} {n t p1 l1 : Nat} : sea f n t p1 l1 n p1 l1 := by
  rcases Nat.eq_zero_or_pos l1 with h | h
  · exact Or.inl ⟨h, rfl, rfl, h⟩
  · refine Or.inr ⟨h, ?_, ?_⟩
    · rw [findP, if_pos h]
    · rw [findL, if_pos h]
theorem sea_end {f : Nat → Int32} {n t p1 l1 i p2 l2 : Nat} (h : sea f n t p1 l1 i p2 l2) (hi : i ≤ fstN n t ∨ 0 < l2) : p2 = findP f n t p1 l1 ∧ l2 = findL f n t l1 := by
  rcases h with ⟨a, b, c, d⟩ | ⟨a, b, c⟩
  · rcases hi with q | q
    · have e := b.symm.trans (findL_end q)
      subst d
      rw [findP, findL, if_neg (by omega), if_neg (by omega), e, a, c]
      exact ⟨rfl, rfl⟩
    · omega
  · exact ⟨b, c⟩
theorem sea_no {f : Nat → Int32} {n t p1 l1 i p2 l2 : Nat} (h : sea f n t p1 l1 i p2 l2) (h0 : l2 = 0) (hi : fstN n t < i) (hs : sameB f n (i - 1) t = false) : sea f n t p1 l1 (i - 1) p2 l2 := by
  rcases h with ⟨a, b, c, d⟩ | ⟨a, b, c⟩
  · exact Or.inl ⟨a, (find_step hi hs).trans b, c, d⟩
  · omega
theorem sea_hit {f : Nat → Int32} {n t p1 l1 i p2 l2 : Nat} (h : sea f n t p1 l1 i p2 l2) (h0 : l2 = 0) (hi : fstN n t < i) (hs : sameB f n (i - 1) t = true) (ht : 0 < t) : sea f n t p1 l1 (i - 1) (i - 1) t := by
  rcases h with ⟨a, b, c, d⟩ | ⟨a, b, c⟩
  · have e := b.symm.trans (find_hit hi hs)
    refine Or.inr ⟨ht, ?_, ?_⟩
    · rw [findP, if_neg (by omega), e]; rfl
    · rw [findL, if_neg (by omega), e]; rfl
  · omega
theorem lt_sub64 {x : Int32} {i n : Nat} (hi : i < 2 ^ 30) (hn : n < 2 ^ 30) (ex : x = nI i - 1) : x < nI n - 64 ↔ i + 63 < n := by
  have e1 : (nI i - 1 : Int32) = nI i - nI 1 := rfl
  have e2 : (nI n - 64 : Int32) = nI n - nI 64 := rfl
  rw [ex, e1, e2, i32_lt, pk_sub_toInt hi (by decide), pk_sub_toInt hn (by decide)]
  omega
theorem lenUp {ln : Nat} (h : ln ≤ 32) : (if (32 : Int32) ≤ nI ln then 32 else nI (ln + 1)) = nI (if ln + 1 < 32 then ln + 1 else 32) := by
  have e : (32 : Int32) ≤ nI ln ↔ 32 ≤ ln := nI_leI (a := 32) (b := ln) (by decide) (by omega)
  by_cases q : 32 ≤ ln
  · rw [if_pos (e.mpr q), if_neg (by omega)]; rfl
  · rw [if_neg (fun z => q (e.mp z))]
    by_cases q2 : ln + 1 < 32
    · rw [if_pos q2]
    · rw [if_neg q2, show ln + 1 = 32 by omega]
theorem fol_no {f : Nat → Int32} {n pl ln : Nat} (h : ln = 0 ∨ ¬ f pl = backN f n 1) (hp : 0 < ln → pl < n) : folP f n pl ln = pl ∧ folL f n pl ln = 0 := by
  apply fol_f
  unfold folB
  rcases Nat.eq_zero_or_pos ln with q | q
  · rw [q]; rfl
  · rcases h with z | z
    · omega
    · rw [byteN_p (hp q), decide_eq_false z, Bool.and_false]
theorem fol_yes {f : Nat → Int32} {n pl ln : Nat} (h0 : 0 < ln) (h : f pl = backN f n 1) (hp : pl < n) : folP f n pl ln = pl + 1 ∧ folL f n pl ln = (if ln + 1 < 32 then ln + 1 else 32) := by
  apply fol_t
  unfold folB
  rw [byteN_p hp, decide_eq_true h, decide_eq_true h0]; rfl
theorem nI_le0 {n : Nat} (hn : n < 2 ^ 30) (h : nI n ≤ 0) : n = 0 := by
  rcases Nat.eq_zero_or_pos n with q | q
  · exact q
  · exact absurd h (nI_nle q (by omega))
theorem nI_nle0 {n : Nat} (h : ¬ nI n ≤ 0) : 0 < n := by
  rcases Nat.eq_zero_or_pos n with q | q
  · exact absurd (by rw [q]; decide) h
  · exact q
theorem nI_z {n : Nat} (hn : n < 2 ^ 30) (h : nI n = 0) : n = 0 := i32_eqN (b := 0) (by omega) (by decide) h
theorem nI_nz {n : Nat} (h : ¬ nI n = 0) : 0 < n := by
  rcases Nat.eq_zero_or_pos n with q | q
  · exact absurd (by rw [q]; rfl) h
  · exact q
theorem fst_lt {n t i : Nat} (h1 : ¬ i ≤ t) (h2 : ¬ i + 63 < n) : fstN n t < i := by unfold fstN; split <;> omega
theorem fst_out {n t i : Nat} (h : i ≤ t ∨ i + 63 < n) : i ≤ fstN n t := by unfold fstN; split <;> omega
