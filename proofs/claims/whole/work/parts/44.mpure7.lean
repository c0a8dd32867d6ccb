/-! the reference's learn: the relation after it -/
section
variable {st : Nat → Int32} {sd N np : Nat} {fk fn fo : Nat → Int32} {U : SSt} {on : Int32} {bb wt nx cx pt le sc ss ww xc sc1 ss1 ww1 xc1 cx1 pt1 le1 : Nat → Int32}
theorem RS_mid (hRS : RS sd N np fk U bb wt nx cx pt le sc ss ww xc) (h7 : ¬ s_bg U = 7) (hw : RSw sd np (stepS st N np fk fn fo U on) ww1) (hs : RSs sd N (stepS st N np fk fn fo U on) sc1 ss1) (hx : RSx sd (stepS st N np fk fn fo U on) xc1) : RS sd N np fk (stepS st N np fk fn fo U on) bb wt (upd nx sd (nI (2 * s_nd U + bitN on))) cx pt le sc1 ss1 ww1 xc1 := by
  refine ⟨⟨?_, ?_, fun j hj => ?_⟩, ?_, ?_, hs, hw, hx⟩
  · rw [step_n, if_neg h7]; exact hRS.1.1
  · rw [step_nd, if_neg h7]; exact upd_at _ _ _
  · rw [step_f, if_neg h7]; exact hRS.1.2.2 j hj
  · rw [step_cx, if_neg h7]; exact hRS.2.1
  · rw [step_mp, step_ml, if_neg h7, if_neg h7]; exact hRS.2.2.1
theorem RS_last (hRS : RS sd N np fk U bb wt nx cx pt le sc ss ww xc) (h7 : s_bg U = 7) (hn : s_n U < 2000) (hw : RSw sd np (stepS st N np fk fn fo U on) ww1) (hs : RSs sd N (stepS st N np fk fn fo U on) sc1 ss1) (hx : RSx sd (stepS st N np fk fn fo U on) xc1) (hc : RC sd np fk (bgC (lfS on U) (s_n U + 1) fk fn (s_cx U) np) cx1) (hm : RM sd np fk (bgP (lfS on U) (s_n U + 1) fk fn (s_mp U) (s_ml U) np) (bgL (lfS on U) (s_n U + 1) fk fn (s_mp U) (s_ml U) np) pt1 le1) : RS sd N np fk (stepS st N np fk fn fo U on) (upd bb (2050 * sd + s_n U) (nI ((2 * s_nd U + bitN on) % 256))) (upd wt sd (nI (s_n U + 1))) (upd (upd nx sd (nI (2 * s_nd U + bitN on))) sd 1) cx1 pt1 le1 sc1 ss1 ww1 xc1 := by
  refine ⟨⟨?_, ?_, fun j hj => ?_⟩, ?_, ?_, hs, hw, hx⟩
  · rw [step_n, if_pos h7]; exact upd_at _ _ _
  · rw [step_nd, if_pos h7]; exact upd_at _ _ _
  · rw [step_f, if_pos h7]; unfold lfS
    by_cases q : j = s_n U
    · rw [q, upd_at, upd_at]
    · rw [upd_ne (by omega), upd_ne q]; exact hRS.1.2.2 j hj
  · rw [step_cx, if_pos h7]; exact hc
  · rw [step_mp, step_ml, if_pos h7, if_pos h7]; exact hm
theorem lf_bb (hRS : RS sd N np fk U bb wt nx cx pt le sc ss ww xc) (hn : s_n U < 2000) : ∀ j, j < s_n U + 1 → vb (upd bb (2050 * sd + s_n U) (nI ((2 * s_nd U + bitN on) % 256))) sd j = lfS on U j := by
  intro j hj
  unfold lfS; show upd bb (2050 * sd + s_n U) _ (2050 * sd + j) = _
  by_cases q : j = s_n U
  · rw [q, upd_at, upd_at]
  · rw [upd_ne (by omega), upd_ne q]; exact hRS.1.2.2 j (by omega)
theorem RSb_o {s2 n : Nat} {V : SSt} {v a b : Int32} (h2 : s2 < 2) (hs : sd < 2) (hne : ¬ s2 = sd) (hn : n < 2000) (h : RSb s2 V bb wt nx) : RSb s2 V (upd bb (2050 * sd + n) v) (upd wt sd a) (upd nx sd b) := by
  refine ⟨?_, ?_, fun j hj => ?_⟩
  · rw [upd_ne hne]; exact h.1
  · rw [upd_ne hne]; exact h.2.1
  · rw [upd_ne (by omega)]; exact h.2.2 j hj
theorem RSb_o1 {s2 : Nat} {V : SSt} {b : Int32} (hne : ¬ s2 = sd) (h : RSb s2 V bb wt nx) : RSb s2 V bb wt (upd nx sd b) := by
  refine ⟨h.1, ?_, h.2.2⟩
  rw [upd_ne hne]; exact h.2.1
theorem RC_o {s2 : Nat} {V : SSt} (h2 : s2 < 2) (hs : sd < 2) (hne : ¬ s2 = sd) (hnp : np ≤ 8) (hf : ∀ k, k < 8 * sd ∨ 8 * sd + 8 ≤ k → cx1 k = cx k ∧ pt1 k = pt k ∧ le1 k = le k) (h : RC s2 np fk (s_cx V) cx) : RC s2 np fk (s_cx V) cx1 := by
  intro j hj hk
  rw [(hf (8 * s2 + j) (by omega)).1]; exact h j hj hk
theorem RM_o {s2 : Nat} {V : SSt} (h2 : s2 < 2) (hs : sd < 2) (hne : ¬ s2 = sd) (hnp : np ≤ 8) (hf : ∀ k, k < 8 * sd ∨ 8 * sd + 8 ≤ k → cx1 k = cx k ∧ pt1 k = pt k ∧ le1 k = le k) (h : RM s2 np fk (s_mp V) (s_ml V) pt le) : RM s2 np fk (s_mp V) (s_ml V) pt1 le1 := by
  intro j hj hk
  rw [(hf (8 * s2 + j) (by omega)).2.1, (hf (8 * s2 + j) (by omega)).2.2]; exact h j hj hk
theorem bg7_le {nd bg b : Nat} (h1 : 2 ^ bg ≤ nd) (hb : bg ≤ 7) (h : nI (2 * nd + b) ≤ 255) (hn : nd < 256) (hb2 : b < 2) : ¬ bg = 7 := by
  intro q
  subst q
  have h3 : (2 : Nat) ^ 7 = 128 := by decide
  rw [h3] at h1
  exact nI_ge (a := 255) (b := 2 * nd + b) (by omega) (by omega) h
theorem bg7_gt {nd bg b : Nat} (h2 : nd < 2 ^ (bg + 1)) (hb : bg ≤ 7) (h : ¬ nI (2 * nd + b) ≤ 255) (hn : nd < 256) (hb2 : b < 2) : bg = 7 := by
  rcases Nat.lt_or_ge bg 7 with q | q
  · exfalso
    have h3 : 2 ^ (bg + 1) ≤ 2 ^ 7 := Nat.pow_le_pow_right (by decide) (by omega)
    have h4 : (2 : Nat) ^ 7 = 128 := by decide
    rw [h4] at h3
    exact h (nI_le (a := 2 * nd + b) (b := 255) (by omega) (by decide))
  · omega
end
