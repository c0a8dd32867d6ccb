/-! the reference's arrays beside a side's state -/
def RSb (sd : Nat) (U : SSt) (bb wt nx : Nat → Int32) : Prop := wt sd = nI (s_n U) ∧ nx sd = nI (s_nd U) ∧ ∀ j, j < 2000 → bb (2050 * sd + j) = s_f U j
def RSs (sd N : Nat) (U : SSt) (sc ss : Nat → Int32) : Prop := (∀ j, j < N → sc (4096 * sd + j) = s_fc U j ∧ ss (4096 * sd + j) = s_fs U j) ∧ ∀ j, N ≤ j → j < 4096 → sc (4096 * sd + j) = 32768 ∧ ss (4096 * sd + j) = 0
def RSw (sd np : Nat) (U : SSt) (ww : Nat → Int32) : Prop := ∀ k, k < 256 → (∀ j, j < np → ww (wAt sd 0 k j) = s_f0 U (9 * k + j) ∧ ww (wAt sd 1 k j) = s_f1 U (9 * k + j)) ∧ (ww (wAt sd 0 k np) = s_f0 U (9 * k + 8) ∧ ww (wAt sd 1 k np) = s_f1 U (9 * k + 8)) ∧ ∀ j, np < j → j < 9 → ww (wAt sd 0 k j) = 0 ∧ ww (wAt sd 1 k j) = 0
def RSx (sd : Nat) (U : SSt) (xc : Nat → Int32) : Prop := ∀ j, j < 8448 → xc (8448 * sd + j) = s_fx U j
def RS (sd N np : Nat) (fk : Nat → Int32) (U : SSt) (bb wt nx cx pt le sc ss ww xc : Nat → Int32) : Prop := RSb sd U bb wt nx ∧ RC sd np fk (s_cx U) cx ∧ RM sd np fk (s_mp U) (s_ml U) pt le ∧ RSs sd N U sc ss ∧ RSw sd np U ww ∧ RSx sd U xc
/-- what holds of every side -/
def SX (N np : Nat) (fk : Nat → Int32) (U : SSt) : Prop := SI N U ∧ (2 ^ s_bg U ≤ s_nd U ∧ s_nd U < 2 ^ (s_bg U + 1)) ∧ (∀ j, j < N → 0 ≤ (s_fs U j).toInt ∧ (s_fs U j).toInt ≤ 30) ∧ (∀ j, j < 8448 → 0 ≤ (s_fx U j).toInt ∧ (s_fx U j).toInt < 65536) ∧ MI (s_n U) np fk (s_mp U) (s_ml U) ∧ (∀ j, np ≤ j → j < 8 → s_xi U j = 0) ∧ s_xi U 8 = 256 ∧ ∀ k, k < 256 → ∀ j, np ≤ j → j < 8 → s_f0 U (9 * k + j) = 20000 ∧ s_f1 U (9 * k + j) = 20000
def inQ (st : Nat → Int32) (N np : Nat) (fk fo : Nat → Int32) (U : SSt) (i : Nat) : Int32 := if i = np then 256 else inS st N fk fo U i
theorem told_go {th : Int32} {bg nd ln : Nat} (h0 : 0 < ln) (h : th >>> (nI (8 - bg) &&& 31) = nI nd) : (if (th >>> ((nI (8 - bg) - 1) &&& 31)) &&& 1 = 1 then 64 * nI (if ln < 16 then ln else 16) else -(64 * nI (if ln < 16 then ln else 16))) = toldM th bg nd ln := by
  symm; unfold toldM; rw [if_neg (show ¬ ln = 0 by omega), if_neg (not_not_intro h)]
theorem told_ne {th : Int32} {bg nd ln : Nat} (h : ln = 0 ∨ ¬ th >>> (nI (8 - bg) &&& 31) = nI nd) : 0 = toldM th bg nd ln := by
  unfold toldM
  by_cases q : ln = 0
  · rw [if_pos q]
  · rcases h with z | z
    · exact absurd z q
    · rw [if_neg q, if_pos z]
theorem min16 {ln : Nat} (h : ln ≤ 32) : (if (16 : Int32) ≤ nI ln then 16 else nI ln) = nI (if ln < 16 then ln else 16) := by
  have e : (16 : Int32) ≤ nI ln ↔ 16 ≤ ln := nI_leI (a := 16) (b := ln) (by decide) (by omega)
  by_cases q : 16 ≤ ln
  · rw [if_pos (e.mpr q), if_neg (by omega)]; rfl
  · rw [if_neg (fun z => q (e.mp z)), if_pos (by omega)]
theorem sev_bg {bg : Nat} (h : bg ≤ 7) : 7 - nI bg = nI (8 - bg) - 1 := by
  have e1 : 7 - nI bg = nI (7 - bg) := pk_sub (a := 7) (b := bg) h
  have e2 : nI (8 - bg) - 1 = nI (8 - bg - 1) := pk_sub (a := 8 - bg) (b := 1) (by omega)
  rw [e1, e2, show 8 - bg - 1 = 7 - bg by omega]
theorem RS_in {sd N np : Nat} {fk : Nat → Int32} {U : SSt} {bb wt nx cx pt le sc ss ww xc : Nat → Int32} (h : RS sd N np fk U bb wt nx cx pt le sc ss ww xc) {i : Nat} (hi : i < np) (hk : ¬ fk i = 4) {rr : Nat} (hN : N = 2 ^ rr) : sc (4096 * sd + slotN (2 ^ rr) (cx (8 * sd + i)) (nx sd)) = s_fc U (slotN N (s_cx U i) (nI (s_nd U))) := by
  rw [h.2.1 i hi hk, h.1.2.1, ← hN]; exact (h.2.2.2.1.1 _ (slot_lt hN)).1
theorem wAt_lt {s m k i : Nat} (h1 : s < 2) (h2 : m < 2) (h3 : k < 256) (h4 : i ≤ 8) : wAt s m k i < 9216 := by unfold wAt; omega
theorem wAt_0 (s m k i : Nat) : wAt s m k i = wAt s m k 0 + i := rfl
def toldR (w x : Nat → Int32) (r n : Nat) : Int32 := sqI (clampL (dotI w x r n >>> ((16 : Int32).toInt64 &&& 63))).toInt32
theorem clamp_lo {v : Int64} (h : v < (-2047)) : clampL v = -2047 := by
  have e : mnL v = v := by unfold mnL; rw [if_pos (Int64.lt_trans h (by decide))]
  unfold clampL; rw [e, if_pos h]
theorem clamp_hi {v : Int64} (h : 2047 < v) : clampL v = 2047 := by
  have e : mnL v = 2047 := by unfold mnL; rw [if_neg (Int64.lt_asymm h)]
  unfold clampL; rw [e, if_neg (by decide)]
theorem clamp_mid {v : Int64} (h1 : (-2047) ≤ v) (h2 : v ≤ 2047) : clampL v = v := by
  have e : mnL v = v := by
    unfold mnL
    by_cases q : v < 2047
    · rw [if_pos q]
    · rw [if_neg q]; exact Int64.le_antisymm (Int64.not_lt.mp q) h2
  unfold clampL; rw [e, if_neg (Int64.not_lt.mpr h1)]
theorem dot_cg {w x w2 x2 : Nat → Int32} {r r2 n : Nat} (h : ∀ j, j < n → w (r + j) = w2 (r2 + j) ∧ x j = x2 j) : dotI w x r n = dotI w2 x2 r2 n := by
  induction n with
  | zero => rfl
  | succ n ih => simp only [dotI]; rw [ih (fun j hj => h j (by omega)), (h n (by omega)).1, (h n (by omega)).2]
theorem dot_z {w x : Nat → Int32} {r a : Nat} (b : Nat) (h : ∀ j, a ≤ j → j < a + b → x j = 0) : dotI w x r (a + b) = dotI w x r a := by
  induction b with
  | zero => rfl
  | succ b ih =>
    rw [show a + (b + 1) = (a + b) + 1 from rfl]
    simp only [dotI]
    rw [ih (fun j h1 h2 => h j h1 (by omega)), h (a + b) (by omega) (by omega)]
    have e : (0 : Int32).toInt64 = 0 := by decide
    rw [e, Int64.mul_zero, Int64.add_zero]
theorem told_R {w x ww xi : Nat → Int32} {r b np : Nat} (hnp : np ≤ 8) (hw : ∀ j, j < np → ww (b + j) = w (r + j)) (hl : ww (b + np) = w (r + 8)) (hx : ∀ j, j < np → xi j = x j) (hx2 : xi np = 256) (hz : ∀ j, np ≤ j → j < 8 → x j = 0) (h8 : x 8 = 256) : toldR ww xi b (np + 1) = toldI w x r := by
  have e : dotI ww xi b (np + 1) = dotI w x r 9 := by
    have e1 : dotI w x r 8 = dotI w x r np := by
      have := dot_z (w := w) (x := x) (r := r) (a := np) (8 - np) (fun j h1 h2 => hz j h1 (by omega))
      rw [show np + (8 - np) = 8 by omega] at this; exact this
    show dotI ww xi b np + (ww (b + np)).toInt64 * (xi np).toInt64 = dotI w x r 8 + (w (r + 8)).toInt64 * (x 8).toInt64
    rw [e1, hl, hx2, h8, dot_cg (fun j hj => ⟨hw j hj, hx j hj⟩)]
  unfold toldR toldI; rw [e]
theorem xiS_lt {st : Nat → Int32} {N np : Nat} {fk fo : Nat → Int32} {U : SSt} {j : Nat} (h : j < np) : xiS st N np fk fo U j = inS st N fk fo U j := by
  unfold xiS xiI setTo; rw [if_pos h]; rfl
theorem xiS_ge {st : Nat → Int32} {N np : Nat} {fk fo : Nat → Int32} {U : SSt} {j : Nat} (h : np ≤ j) : xiS st N np fk fo U j = s_xi U j := by
  unfold xiS xiI setTo; rw [if_neg (by omega)]
theorem inQ_lt {st : Nat → Int32} {N np : Nat} {fk fo : Nat → Int32} {U : SSt} {xi : Nat → Int32} {j : Nat} (h : j < np) : setTo (inQ st N np fk fo U) xi (np + 1) j = inS st N fk fo U j := by
  unfold setTo; rw [if_pos (by omega)]; unfold inQ; rw [if_neg (by omega)]
theorem inQ_np {st : Nat → Int32} {N np : Nat} {fk fo : Nat → Int32} {U : SSt} {xi : Nat → Int32} : setTo (inQ st N np fk fo U) xi (np + 1) np = 256 := by
  unfold setTo; rw [if_pos (by omega)]; unfold inQ; rw [if_pos rfl]
section
variable {st : Nat → Int32} {sd N np : Nat} {fk fo : Nat → Int32} {U : SSt} {ww xi : Nat → Int32}
theorem t0R (h : RSw sd np U ww) (hX : SX N np fk U) (hnp : np ≤ 8) : toldR ww (setTo (inQ st N np fk fo U) xi (np + 1)) (wAt sd 0 (s_nd U) 0) (np + 1) = t0S st N np fk fo U := by
  have hk := h (s_nd U) hX.1.2.1
  refine told_R hnp (fun j hj => (hk.1 j hj).1) hk.2.1.1 (fun j hj => by rw [inQ_lt hj, xiS_lt hj]) inQ_np (fun j h1 h2 => by rw [xiS_ge h1]; exact hX.2.2.2.2.2.1 j h1 h2) (by rw [xiS_ge hnp]; exact hX.2.2.2.2.2.2.1)
theorem t1R (h : RSw sd np U ww) (hX : SX N np fk U) (hnp : np ≤ 8) : toldR ww (setTo (inQ st N np fk fo U) xi (np + 1)) (wAt sd 1 (lbN (s_f U) (s_n U)) 0) (np + 1) = t1S st N np fk fo U := by
  have hk := h (lbN (s_f U) (s_n U)) (lb_lt hX.1.2.2.2.2.1)
  refine told_R hnp (fun j hj => (hk.1 j hj).2) hk.2.1.2 (fun j hj => by rw [inQ_lt hj, xiS_lt hj]) inQ_np (fun j h1 h2 => by rw [xiS_ge h1]; exact hX.2.2.2.2.2.1 j h1 h2) (by rw [xiS_ge hnp]; exact hX.2.2.2.2.2.2.1)
end
theorem corr_div {a b : Int32} {w : Nat} (ha : 0 ≤ a.toInt ∧ a.toInt < 65536) (hb : 0 ≤ b.toInt ∧ b.toInt < 65536) (hw : w < 128) : (a * (128 - nI w) + b * nI w) / 2048 = (a * (128 - nI w) + b * nI w) >>> ((11 : Int32) &&& 31) := by
  have e128 : (128 : Int32).toInt = 128 := by decide
  have ew2 : (nI w).toInt = (w : Int) := nI_toInt (by omega)
  have es : (128 - nI w : Int32).toInt = 128 - (w : Int) := by rw [sub_toInt, e128, ew2] <;> (rw [e128, ew2]; omega)
  have q1 : 0 ≤ a.toInt * (128 - (w : Int)) := Int.mul_nonneg (by omega) (by omega)
  have q2 : 0 ≤ b.toInt * (w : Int) := Int.mul_nonneg (by omega) (by omega)
  have q3 : a.toInt * (128 - (w : Int)) ≤ 65536 * (128 - (w : Int)) := Int.mul_le_mul_of_nonneg_right (by omega) (by omega)
  have q4 : b.toInt * (w : Int) ≤ 65536 * (w : Int) := Int.mul_le_mul_of_nonneg_right (by omega) (by omega)
  have m1 : (a * (128 - nI w)).toInt = a.toInt * (128 - (w : Int)) := by rw [mul_toInt, es] <;> (rw [es]; omega)
  have m2 : (b * nI w).toInt = b.toInt * (w : Int) := by rw [mul_toInt, ew2] <;> (rw [ew2]; omega)
  have a1 : (a * (128 - nI w) + b * nI w).toInt = a.toInt * (128 - (w : Int)) + b.toInt * (w : Int) := by rw [add_toInt, m1, m2] <;> (rw [m1, m2]; omega)
  generalize a * (128 - nI w) + b * nI w = z at a1 ⊢
  have hz : 0 ≤ z.toInt := by rw [a1]; omega
  apply Int32.toInt_inj.mp
  rw [shr_toInt z _ 11 (by decide), Int32.toInt_div_of_ne_right _ _ (by decide)]
  have e : (2048 : Int32).toInt = 2048 := by decide
  rw [e, Int.tdiv_eq_ediv_of_nonneg hz]; rfl
