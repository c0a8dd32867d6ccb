/-! the object's steps, over a side's state -/
def GI (st : Nat → Int32) (N rr np : Nat) (fk fn : Nat → Int32) : Prop := np ≤ 8 ∧ N = 2 ^ rr ∧ rr ≤ 12 ∧ (∀ j, j < np → allowB (fk j) (fn j) = true) ∧ ∀ j, j < 4096 → -2047 ≤ (st j).toInt ∧ (st j).toInt ≤ 2047
def SI (N : Nat) (U : SSt) : Prop := s_n U ≤ 2000 ∧ s_nd U < 256 ∧ s_bg U ≤ 7 ∧ (∀ j, j < N → 0 ≤ (s_fc U j).toInt ∧ (s_fc U j).toInt < 65536) ∧ (∀ j, j < s_n U → 0 ≤ (s_f U j).toInt ∧ (s_f U j).toInt < 256) ∧ (∀ j, j < 8 → s_mp U j < 2 ^ 19) ∧ ∀ j, j < 8 → s_ml U j ≤ 32
def inS (st : Nat → Int32) (N : Nat) (fk fo : Nat → Int32) (U : SSt) (i : Nat) : Int32 := inI fk fo st (s_n U) (s_nd U) (s_bg U) (s_f U) N (s_fc U) (s_mp U) (s_ml U) (s_cx U) i
def xiS (st : Nat → Int32) (N np : Nat) (fk fo : Nat → Int32) (U : SSt) : Nat → Int32 := xiI fk fo st (s_n U) (s_nd U) (s_bg U) (s_f U) N (s_fc U) (s_mp U) (s_ml U) (s_cx U) (s_xi U) np
def t0S (st : Nat → Int32) (N np : Nat) (fk fo : Nat → Int32) (U : SSt) : Int32 := toldI (s_f0 U) (xiS st N np fk fo U) (9 * s_nd U)
def t1S (st : Nat → Int32) (N np : Nat) (fk fo : Nat → Int32) (U : SSt) : Int32 := toldI (s_f1 U) (xiS st N np fk fo U) (9 * lbN (s_f U) (s_n U))
def mxS (st : Nat → Int32) (N np : Nat) (fk fo : Nat → Int32) (U : SSt) : Nat := mixN (t0S st N np fk fo U) (t1S st N np fk fo U)
def chS (st : Nat → Int32) (N np : Nat) (fk fo : Nat → Int32) (U : SSt) : Int32 := chanceI (mxS st N np fk fo U) (corrI (s_fx U) (s_nd U) (tN st (mxS st N np fk fo U)))
def foreS (st : Nat → Int32) (N np : Nat) (fk fo : Nat → Int32) (U : SSt) : SSt := mkS (s_n U) (s_nd U) (s_bg U) (s_f U) (s_fc U) (s_fs U) (nI (9 * s_nd U)) (t0S st N np fk fo U) (s_f0 U) (nI (9 * lbN (s_f U) (s_n U))) (t1S st N np fk fo U) (s_f1 U) (nI (nearN (s_nd U) (tN st (mxS st N np fk fo U)))) (s_fx U) (s_mp U) (s_ml U) (s_cx U) (xiS st N np fk fo U)
def begS (np : Nat) (fk fn : Nat → Int32) (U : SSt) : SSt := mkS (s_n U) (s_nd U) (s_bg U) (s_f U) (s_fc U) (s_fs U) (s_r0 U) (s_t0 U) (s_f0 U) (s_r1 U) (s_t1 U) (s_f1 U) (s_nr U) (s_fx U) (bgP (s_f U) (s_n U) fk fn (s_mp U) (s_ml U) np) (bgL (s_f U) (s_n U) fk fn (s_mp U) (s_ml U) np) (bgC (s_f U) (s_n U) fk fn (s_cx U) np) (s_xi U)
def resetS (N np : Nat) (fk fn : Nat → Int32) (U : SSt) : SSt := mkS 0 1 0 (s_f U) (fillTo (s_fc U) 32768 N) (fillTo (s_fs U) 0 N) (s_r0 U) (s_t0 U) (wFill (s_f0 U) 256) (s_r1 U) (s_t1 U) (wFill (s_f1 U) 256) (s_nr U) (cFill (s_fx U) 8448) (bgP (s_f U) 0 fk fn (s_mp U) (zTo (s_ml U) 8) np) (bgL (s_f U) 0 fk fn (s_mp U) (zTo (s_ml U) 8) np) (bgC (s_f U) 0 fk fn (s_cx U) np) (s_xi U)
def spoB (i mk : Int32) (no : Nat) : Bool := inR i no && (!decide (mk < 1) && decide (mk ≤ 255))
def weI (f0 f1 : Nat → Int32) (np : Nat) (mx se i : Int32) : Int32 := if mx < 0 then (-2000000) else if 1 < mx then (-2000000) else if se < 0 then (-2000000) else if ¬ se < 256 then (-2000000) else if i = nI np then (if mx = 0 then f0 else f1) (9 * se.toNatClampNeg + 8) else if inR i np = true then (if mx = 0 then f0 else f1) (9 * se.toNatClampNeg + i.toNatClampNeg) else (-2000000)
theorem set_of {x : Int32} (h0 : ¬ x < 0) (h : x < 256) : ∃ k : Nat, k < 256 ∧ x = nI k := by
  obtain ⟨k, h1, h2, h3⟩ := rng_of (nn := x) (a := 0) (b := 255) (by decide) (by decide) h0 (by
    rw [i32_lt] at h ⊢
    have e1 : (256 : Int32).toInt = 256 := by decide
    rw [nI_toInt (by decide)]; omega)
  exact ⟨k, by omega, h3⟩
theorem cellB_of {a b : Int32} (h : cellB a b = true) : ∃ k t : Nat, k < 256 ∧ t < 33 ∧ a = nI k ∧ b = nI t := by
  simp only [cellB, Bool.and_eq_true, Bool.not_eq_true', decide_eq_false_iff_not] at h
  obtain ⟨k, hk, ek⟩ := inR_of (i := a) (n := 256) (by decide) (by simp only [inR, Bool.and_eq_true, Bool.not_eq_true', decide_eq_false_iff_not]; exact ⟨h.1, h.2.1⟩)
  obtain ⟨t, ht, et⟩ := inR_of (i := b) (n := 33) (by decide) (by simp only [inR, Bool.and_eq_true, Bool.not_eq_true', decide_eq_false_iff_not]; exact ⟨h.2.2.1, h.2.2.2⟩)
  exact ⟨k, t, hk, ht, ek, et⟩
def sgnI (v : Int32) : Int32 := if v ≤ 32767 then v else v - 65536
theorem hal_s {np : Nat} {fk fn : Nat → Int32} {kd nn : Int32} (h : ∀ j, j < np → allowB (fk j) (fn j) = true) (h2 : allowB kd nn = true) : ∀ j, j < np + 1 → allowB (upd fk np kd j) (upd fn np nn j) = true := by
  intro j hj
  simp only [upd]
  by_cases q : j = np
  · rw [if_pos q, if_pos q]; exact h2
  · rw [if_neg q, if_neg q]; exact h j (by omega)
def eqB (N : Nat) (U V : SSt) : Bool := (decide (s_n U = s_n V) && (decide (s_nd U = s_nd V) && eqTo (s_f U) (s_f V) (s_n U))) && ((eqTo (s_fc U) (s_fc V) N && eqTo (s_fs U) (s_fs V) N) && (eqTo (s_f0 U) (s_f0 V) 2304 && (eqTo (s_f1 U) (s_f1 V) 2304 && eqTo (s_fx U) (s_fx V) 8448)))
def cntI (np N no : Nat) (fk : Nat → Int32) (en : Bool) (U V : SSt) (q : Int32) : Int32 := if q = 0 then nI np else if q = 1 then nI (s_n U) else if q = 2 then nI (s_bg U) else if q = 3 then nI no else if q = 4 then nI (s_n V) else if q = 5 then nI N else if q = 6 then b01 en else if q = 7 then nI (fmF fk (s_ml U) np 0) else (-1)
