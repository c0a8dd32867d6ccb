/-! the reference's arrays beside a side's state: congruences -/
theorem back_cg {F f : Nat → Int32} {n : Nat} (h : ∀ j, j < n → F j = f j) : backN F n = backN f n := by
  funext k; unfold backN
  by_cases q : 1 ≤ k ∧ k ≤ n
  · rw [if_pos q, if_pos q]; exact h _ (by omega)
  · rw [if_neg q, if_neg q]
theorem wl_cg {F f : Nat → Int32} {n : Nat} (h : backN F n = backN f n) (k i : Nat) : wlG F n k i = wlG f n k i := by
  induction k generalizing i with
  | zero => rfl
  | succ k ih => simp only [wlG, h, ih]
theorem ctx_cg {F f : Nat → Int32} {n : Nat} (hb : ∀ j, j < n → F j = f j) (kd nn : Int32) : ctxI F n kd nn = ctxI f n kd nn := by
  have h := back_cg hb
  have e1 : ∀ t i, latH F n t i = latH f n t i := fun t i => by unfold latH; rw [h]
  have e2 : wordH F n = wordH f n := by
    have e : wlen F n = wlen f n := wl_cg h 16 0
    unfold wordH whash; rw [e, h]
  have e3 : ∀ t, colH F n t = colH f n t := fun t => by unfold colH; rw [h]
  have e4 : ∀ k, apH F n nn k = apH f n nn k := fun k => by unfold apH; rw [h]
  unfold ctxI
  rw [e1, e2, e3, e4]
theorem same_cg {F f : Nat → Int32} {n p t : Nat} (hb : ∀ j, j < n → F j = f j) (hp : p ≤ n) (h0 : 0 < p) : sameB F n p t = sameB f n p t := by
  induction t with
  | zero => rfl
  | succ t ih => simp only [sameB, ih, back_cg hb]; rw [hb (p - (t + 1)) (by omega)]
theorem findK_cg {F f : Nat → Int32} {n t i : Nat} (hb : ∀ j, j < n → F j = f j) (ht : 1 ≤ t) (hi : i ≤ n) : findK F n t i = findK f n t i := by
  induction i with
  | zero => rfl
  | succ i ih =>
    simp only [findK]
    by_cases q : i < fstN n t
    · rw [if_pos q, if_pos q]
    · rw [if_neg q, if_neg q, same_cg hb (by omega) (by have := fst_ge n t; omega), ih (by omega)]
theorem fol_cg {F f : Nat → Int32} {n pl mp ln : Nat} (hb : ∀ j, j < n → F j = f j) (h1 : 0 < ln → pl = mp) (h2 : 0 < ln → mp < n) : folB F n pl ln = folB f n mp ln := by
  unfold folB
  rcases Nat.eq_zero_or_pos ln with q | q
  · rw [q]; rfl
  · rw [h1 q, byteN_p (h2 q), byteN_p (h2 q), hb _ (h2 q), back_cg hb]
theorem fol_ln {f : Nat → Int32} {n pl ln : Nat} (h : folB f n pl ln = true) : 0 < ln := by
  unfold folB at h
  rcases Nat.eq_zero_or_pos ln with q | q
  · rw [q] at h; cases h
  · exact q
theorem mt_cg {F f : Nat → Int32} {n t pl mp ln : Nat} (hb : ∀ j, j < n → F j = f j) (ht : 1 ≤ t) (h1 : 0 < ln → pl = mp) (h2 : 0 < ln → mp < n) : mtL F n t pl ln = mtL f n t mp ln ∧ (0 < mtL f n t mp ln → mtP F n t pl ln = mtP f n t mp ln) := by
  have e := fol_cg hb h1 h2
  have eL : folL F n pl ln = folL f n mp ln := by unfold folL; rw [e]
  have eK := findK_cg (F := F) (f := f) (n := n) (t := t) (i := n) hb ht (Nat.le_refl n)
  unfold mtL mtP
  rw [eL]
  refine ⟨by unfold findL; rw [eK], fun hp => ?_⟩
  unfold findP
  rcases Nat.eq_zero_or_pos (folL f n mp ln) with q | q
  · rw [if_neg (by omega), if_neg (by omega), eK]
    unfold findL at hp
    rw [if_neg (by omega)] at hp
    cases hk : findK f n t n with
    | none => rw [hk] at hp; exact absurd (show 0 < 0 from hp) (Nat.lt_irrefl 0)
    | some x => rfl
  · rw [if_pos q, if_pos q]
    unfold folP; rw [e]
    by_cases z : folB f n mp ln = true
    · rw [if_pos z, if_pos z, h1 (fol_ln z)]
    · unfold folL at q; rw [if_neg z] at q; omega
theorem findK_lt {f : Nat → Int32} {n t i x : Nat} (h : findK f n t i = some x) : x < i := by
  induction i with
  | zero => cases h
  | succ i ih =>
    simp only [findK] at h
    by_cases q : i < fstN n t
    · rw [if_pos q] at h; cases h
    · rw [if_neg q] at h
      by_cases z : sameB f n i t = true
      · rw [if_pos z] at h; cases h; omega
      · rw [if_neg z] at h; have := ih h; omega
theorem mtP_lt {f : Nat → Int32} {n t pl ln b : Nat} (h1 : pl < b) (h2 : 0 < ln → pl + 1 < b) (h3 : n ≤ b) : mtP f n t pl ln < b := by
  have e : folP f n pl ln < b := by
    unfold folP
    by_cases z : folB f n pl ln = true
    · rw [if_pos z]; exact h2 (fol_ln z)
    · rw [if_neg z]; exact h1
  unfold mtP findP
  by_cases q : 0 < folL f n pl ln
  · rw [if_pos q]; exact e
  · rw [if_neg q]
    cases hk : findK f n t n with
    | none => exact e
    | some x => have := findK_lt hk; show x < b; omega
theorem mtP_in {f : Nat → Int32} {n t pl ln : Nat} (h2 : 0 < ln → pl + 1 < n) (h : 0 < mtL f n t pl ln) : mtP f n t pl ln < n := by
  unfold mtL findL at h
  unfold mtP findP
  by_cases q : 0 < folL f n pl ln
  · rw [if_pos q]
    unfold folL at q; unfold folP
    by_cases z : folB f n pl ln = true
    · rw [if_pos z]; exact h2 (fol_ln z)
    · rw [if_neg z] at q; omega
  · rw [if_neg q] at h ⊢
    cases hk : findK f n t n with
    | none => rw [hk] at h; exact absurd (show 0 < 0 from h) (Nat.lt_irrefl 0)
    | some x => exact findK_lt hk
theorem mtL_le {f : Nat → Int32} {n t pl ln : Nat} (ht : t ≤ 32) (h : ln ≤ 32) : mtL f n t pl ln ≤ 32 := by
  unfold mtL findL
  have := folL_le (f := f) (n := n) (pl := pl) h
  split
  · exact this
  · split <;> omega
/-- the reference's contexts, points, lengths beside the side's -/
def RC (sd np : Nat) (fk c1 cx : Nat → Int32) : Prop := ∀ j, j < np → ¬ fk j = 4 → cx (8 * sd + j) = c1 j
def RM (sd np : Nat) (fk : Nat → Int32) (mp ml : Nat → Nat) (pt le : Nat → Int32) : Prop := ∀ j, j < np → fk j = 4 → le (8 * sd + j) = nI (ml j) ∧ ∃ q, pt (8 * sd + j) = nI q ∧ q < 2050 ∧ (0 < ml j → q = mp j)
def MI (n np : Nat) (fk : Nat → Int32) (mp ml : Nat → Nat) : Prop := ∀ j, j < np → fk j = 4 → ml j ≤ 32 ∧ (0 < ml j → mp j < n)
def BBI (sd np n : Nat) (f fk fn : Nat → Int32) (mp ml : Nat → Nat) (cx pt le : Nat → Int32) (i : Nat) (cx1 pt1 le1 : Nat → Int32) : Prop :=
  (∀ j, j < i → ¬ fk j = 4 → cx1 (8 * sd + j) = ctxI f n (fk j) (fn j)) ∧
  (∀ j, j < i → fk j = 4 → le1 (8 * sd + j) = nI (mtL f n (fn j).toNatClampNeg (mp j) (ml j)) ∧ ∃ q, pt1 (8 * sd + j) = nI q ∧ q < 2050 ∧ (0 < mtL f n (fn j).toNatClampNeg (mp j) (ml j) → q = mtP f n (fn j).toNatClampNeg (mp j) (ml j))) ∧
  (∀ j, i ≤ j → j < np → pt1 (8 * sd + j) = pt (8 * sd + j) ∧ le1 (8 * sd + j) = le (8 * sd + j)) ∧
  (∀ k, k < 8 * sd ∨ 8 * sd + 8 ≤ k → cx1 k = cx k ∧ pt1 k = pt k ∧ le1 k = le k)
theorem upd_ne {f : Nat → Int32} {k j : Nat} {a : Int32} (h : ¬ j = k) : upd f k a j = f j := by simp only [upd]; rw [if_neg h]
section
variable {sd np n : Nat} {f fk fn : Nat → Int32} {mp ml : Nat → Nat} {cx pt le : Nat → Int32} {i : Nat} {cx1 pt1 le1 : Nat → Int32}
theorem BBI_0 : BBI sd np n f fk fn mp ml cx pt le 0 cx pt le := ⟨fun j h => absurd h (by omega), fun j h => absurd h (by omega), fun _ _ _ => ⟨rfl, rfl⟩, fun _ _ => ⟨rfl, rfl, rfl⟩⟩
theorem BBI_c (h : BBI sd np n f fk fn mp ml cx pt le i cx1 pt1 le1) (hi : i < 8) (hk : ¬ fk i = 4) {v : Int32} (hv : v = ctxI f n (fk i) (fn i)) : BBI sd np n f fk fn mp ml cx pt le (i + 1) (upd cx1 (8 * sd + i) v) pt1 le1 := by
  refine ⟨fun j hj hj4 => ?_, fun j hj hj4 => ?_, fun j hj hj2 => h.2.2.1 j (by omega) hj2, fun k hk2 => ⟨?_, (h.2.2.2 k hk2).2⟩⟩
  · by_cases q : j = i
    · rw [q, upd_at, hv]
    · rw [upd_ne (by omega)]; exact h.1 j (by omega) hj4
  · by_cases q : j = i
    · exact absurd (q ▸ hj4) hk
    · exact h.2.1 j (by omega) hj4
  · rw [upd_ne (by omega)]; exact (h.2.2.2 k hk2).1
theorem BBI_m (h : BBI sd np n f fk fn mp ml cx pt le i cx1 pt1 le1) (hi : i < 8) (hk : fk i = 4) {t q0 q1 : Nat} (et : (fn i).toNatClampNeg = t) (h1 : q1 = mtL f n t (mp i) (ml i)) (h2 : q0 < 2050) (h3 : 0 < mtL f n t (mp i) (ml i) → q0 = mtP f n t (mp i) (ml i)) : BBI sd np n f fk fn mp ml cx pt le (i + 1) cx1 (upd pt1 (8 * sd + i) (nI q0)) (upd le1 (8 * sd + i) (nI q1)) := by
  refine ⟨fun j hj hj4 => ?_, fun j hj hj4 => ?_, fun j hj hj2 => ?_, fun k hk2 => ⟨(h.2.2.2 k hk2).1, ?_, ?_⟩⟩
  · by_cases q : j = i
    · exact absurd (q ▸ hk) hj4
    · exact h.1 j (by omega) hj4
  · by_cases q : j = i
    · subst q
      rw [upd_at, upd_at, et]
      exact ⟨by rw [h1], q0, rfl, h2, h3⟩
    · rw [upd_ne (by omega), upd_ne (by omega)]; exact h.2.1 j (by omega) hj4
  · rw [upd_ne (by omega), upd_ne (by omega)]; exact h.2.2.1 j (by omega) hj2
  · rw [upd_ne (by omega)]; exact (h.2.2.2 k hk2).2.1
  · rw [upd_ne (by omega)]; exact (h.2.2.2 k hk2).2.2
theorem BBI_at (h : BBI sd np n f fk fn mp ml cx pt le i cx1 pt1 le1) (hM : RM sd np fk mp ml pt le) (hi : i < np) (hk : fk i = 4) : le1 (8 * sd + i) = nI (ml i) ∧ ∃ q, pt1 (8 * sd + i) = nI q ∧ q < 2050 ∧ (0 < ml i → q = mp i) := by
  rw [(h.2.2.1 i (Nat.le_refl i) hi).1, (h.2.2.1 i (Nat.le_refl i) hi).2]; exact hM i hi hk
theorem BBI_C (h : BBI sd np n f fk fn mp ml cx pt le np cx1 pt1 le1) (c0 : Nat → Int32) : RC sd np fk (bgC f n fk fn c0 np) cx1 := by
  intro j hj hk
  rw [h.1 j hj hk]; unfold bgC; rw [if_pos ⟨hj, hk⟩]
theorem BBI_M (h : BBI sd np n f fk fn mp ml cx pt le np cx1 pt1 le1) : RM sd np fk (bgP f n fk fn mp ml np) (bgL f n fk fn mp ml np) pt1 le1 := by
  intro j hj hk
  have := h.2.1 j hj hk
  unfold bgP bgL; rw [if_pos ⟨hj, hk⟩, if_pos ⟨hj, hk⟩]; exact this
end
theorem allow_k {k n : Int32} (h : allowB k n = true) : 4 ≤ k ↔ k = 4 := by
  have e0 : ¬ (4 : Int32) ≤ 0 := by decide
  have e1 : ¬ (4 : Int32) ≤ 1 := by decide
  have e2 : ¬ (4 : Int32) ≤ 2 := by decide
  have e3 : ¬ (4 : Int32) ≤ 3 := by decide
  constructor
  · intro q
    by_cases h4 : k = 4
    · exact h4
    · by_cases h0 : k = 0
      · rw [h0] at q; exact absurd q e0
      · by_cases h1 : k = 1
        · rw [h1] at q; exact absurd q e1
        · by_cases h2 : k = 2
          · rw [h2] at q; exact absurd q e2
          · rw [allow3 h h0 h1 h2 h4] at q; exact absurd q e3
  · intro q; rw [q]; decide
