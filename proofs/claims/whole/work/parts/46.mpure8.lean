/-! the coder's bounds as numbers below 2^32 -/
theorem lsh8 {a : Nat} (ha : a < 2 ^ 32) : lN a <<< ((8 : Int32).toInt64 &&& 63) = lN (a * 256) := by
  apply Int64.toBitVec_inj.mp
  have hy : ((8 : Int32).toInt64 &&& 63).toBitVec.smod 64 = BitVec.ofNat 64 8 := by decide
  rw [Int64.toBitVec_shiftLeft]
  have hy2 : ((8 : Int32).toInt64 &&& 63).toBitVec.smod (64 : BitVec 64) = BitVec.ofNat 64 8 := hy
  rw [hy2]
  apply BitVec.eq_of_toNat_eq
  have hb : (lN a).toBitVec.toNat = a := Nat.mod_eq_of_lt (by omega)
  have hk' : (BitVec.ofNat 64 8).toNat = 8 := by decide
  have h : ((lN a).toBitVec <<< BitVec.ofNat 64 8).toNat = (a * 2 ^ 8) % 2 ^ 64 := by simp only [BitVec.shiftLeft_eq', BitVec.toNat_shiftLeft, hb, hk', Nat.shiftLeft_eq]
  exact h
theorem land32 {a : Nat} (ha : a < 2 ^ 64) : lN a &&& 4294967295 = lN (a % 2 ^ 32) := by
  apply Int64.toBitVec_inj.mp
  rw [Int64.toBitVec_and]
  apply BitVec.eq_of_toNat_eq
  rw [BitVec.toNat_and]
  have hb : (lN a).toBitVec.toNat = a := Nat.mod_eq_of_lt ha
  have hm : (4294967295 : Int64).toBitVec.toNat = 2 ^ 32 - 1 := by decide
  have hr : (lN (a % 2 ^ 32)).toBitVec.toNat = a % 2 ^ 32 := Nat.mod_eq_of_lt (by omega)
  rw [hb, hm, hr, Nat.and_two_pow_sub_one_eq_mod]
theorem lorN {q r : Nat} (hq : q < 2 ^ 32) (hr : r < 256) : lN (q * 256) ||| lN r = lN (q * 256 + r) := by
  apply Int64.toBitVec_inj.mp
  rw [Int64.toBitVec_or]
  apply BitVec.eq_of_toNat_eq
  rw [BitVec.toNat_or]
  have h1 : (lN (q * 256)).toBitVec.toNat = q * 256 := Nat.mod_eq_of_lt (by omega)
  have h2 : (lN r).toBitVec.toNat = r := Nat.mod_eq_of_lt (by omega)
  have h3 : (lN (q * 256 + r)).toBitVec.toNat = q * 256 + r := Nat.mod_eq_of_lt (by omega)
  rw [h1, h2, h3]
  have h := Nat.shiftLeft_add_eq_or_of_lt (i := 8) (b := r) (by omega) q
  rw [Nat.shiftLeft_eq] at h
  exact h.symm
theorem lshr_n {a d : Nat} {D : Int64} (hD : (D.toBitVec.smod 64).toNat = d) (h : a < 2 ^ 62) : lN a >>> D = lN (a / 2 ^ d) := by
  have hd : a / 2 ^ d ≤ a := Nat.div_le_self _ _
  apply Int64.toInt_inj.mp
  have e : (lN a >>> D).toInt = (lN a).toInt >>> d := by
    rw [← hD]
    exact BitVec.toInt_sshiftRight ..
  rw [e, Int.shiftRight_eq_div_pow, pk_lT (by omega), pk_lT (by omega)]
  norm_cast
theorem shLo_n {a : Nat} (ha : a < 2 ^ 32) : shLo (lN a) = lN (a * 256 % 2 ^ 32) := by
  unfold shLo; rw [lsh8 ha, land32 (by omega)]
theorem shHi_n {b : Nat} (hb : b < 2 ^ 32) : shHi (lN b) = lN (b * 256 % 2 ^ 32 + 255) := by
  unfold shHi; rw [lsh8 hb, land32 (by omega)]
  have e : b * 256 % 2 ^ 32 = (b % 2 ^ 24) * 256 := by omega
  rw [e]; exact lorN (by omega) (by decide)
theorem shr24 {a : Nat} (ha : a < 2 ^ 32) : lN a >>> ((24 : Int32).toInt64 &&& 63) = lN (a / 2 ^ 24) := lshr_n (by decide) (by omega)
theorem setB_n {a b : Nat} (ha : a < 2 ^ 32) (hb : b < 2 ^ 32) : setB (lN a) (lN b) = decide (a / 2 ^ 24 = b / 2 ^ 24) := by
  unfold setB; rw [shr24 ha, shr24 hb]
  have := pk_lEQ (a := a / 2 ^ 24) (b := b / 2 ^ 24) (by omega) (by omega)
  by_cases q : a / 2 ^ 24 = b / 2 ^ 24
  · rw [decide_eq_true q, decide_eq_true (this.mpr q)]
  · rw [decide_eq_false q, decide_eq_false (fun z => q (this.mp z))]
theorem topB_n {a : Nat} (ha : a < 2 ^ 32) : topB (lN a) = nI (a / 2 ^ 24) := by
  unfold topB; rw [shr24 ha, lN_i]
  have := andI (k := a / 2 ^ 24) (m := 255) (by omega) 8 (by decide)
  rw [Nat.mod_eq_of_lt (show a / 2 ^ 24 < 2 ^ 8 by omega)] at this; exact this
theorem midL_n {a b k : Nat} (h : a ≤ b) (hb : b < 2 ^ 32) (hk : k < 2 ^ 31) : midL (lN a) (lN b) (nI k) = lN (a + (b - a) / 4096 * k) := by
  unfold midL; rw [lN_sub h, lshr_n (a := b - a) (d := 12) (by decide) (by omega), nI_l hk, lN_mul, lN_add]
def CD (j : Nat) (lo hi : Int64) : Prop := ∃ a b : Nat, lo = lN a ∧ hi = lN b ∧ a ≤ b ∧ b < 2 ^ 32 ∧ a % 256 ^ j = 0 ∧ (b + 1) % 256 ^ j = 0
def CI (lo hi : Int64) : Prop := CD 0 lo hi ∧ setB lo hi = false
theorem CD_s {j : Nat} {lo hi : Int64} (hj : j < 4) (h : CD j lo hi) (hs : setB lo hi = true) : CD (j + 1) (shLo lo) (shHi hi) := by
  obtain ⟨a, b, rfl, rfl, hab, hb, ha0, hb0⟩ := h
  rw [setB_n (by omega) hb] at hs
  have hs := of_decide_eq_true hs
  refine ⟨_, _, shLo_n (by omega), shHi_n hb, by omega, by omega, ?_⟩
  match j, hj with
  | 0, _ => have e : (256 : Nat) ^ (0 + 1) = 256 := by decide
            rw [e]; omega
  | 1, _ => have e : (256 : Nat) ^ (1 + 1) = 65536 := by decide
            have e1 : (256 : Nat) ^ 1 = 256 := by decide
            rw [e1] at ha0 hb0; rw [e]; omega
  | 2, _ => have e : (256 : Nat) ^ (2 + 1) = 16777216 := by decide
            have e1 : (256 : Nat) ^ 2 = 65536 := by decide
            rw [e1] at ha0 hb0; rw [e]; omega
  | 3, _ => have e : (256 : Nat) ^ (3 + 1) = 4294967296 := by decide
            have e1 : (256 : Nat) ^ 3 = 16777216 := by decide
            rw [e1] at ha0 hb0; rw [e]; omega
theorem CD_4 {lo hi : Int64} (h : CD 4 lo hi) : setB lo hi = false := by
  obtain ⟨a, b, rfl, rfl, hab, hb, ha0, hb0⟩ := h
  have e : (256 : Nat) ^ 4 = 4294967296 := by decide
  rw [e] at ha0 hb0
  rw [setB_n (by omega) hb]; exact decide_eq_false (by omega)
theorem CD_0 {j : Nat} {lo hi : Int64} (h : CD j lo hi) : CD 0 lo hi := by
  obtain ⟨a, b, e1, e2, hab, hb, ha0, hb0⟩ := h
  exact ⟨a, b, e1, e2, hab, hb, Nat.mod_one _, Nat.mod_one _⟩
theorem CD_lt {j : Nat} {lo hi : Int64} (hj : j ≤ 4) (h : CD j lo hi) (hs : setB lo hi = true) : j < 4 := by
  rcases Nat.lt_or_ge j 4 with q | q
  · exact q
  · have : j = 4 := by omega
    subst this; rw [CD_4 h] at hs; cases hs
theorem top_R {j : Nat} {lo hi : Int64} (h : CD j lo hi) (hs : setB lo hi = true) : (hi >>> ((24 : Int32).toInt64 &&& 63)).toInt32 = topB lo := by
  obtain ⟨a, b, rfl, rfl, hab, hb, -, -⟩ := h
  rw [setB_n (by omega) hb] at hs
  rw [topB_n (by omega), shr24 hb, lN_i, of_decide_eq_true hs]
theorem top_rng {j : Nat} {lo hi : Int64} (h : CD j lo hi) : 0 ≤ (topB lo).toInt ∧ (topB lo).toInt < 256 := by
  obtain ⟨a, b, rfl, rfl, hab, hb, -, -⟩ := h
  rw [topB_n (by omega), nI_toInt (by omega)]; omega
def ouI (no : Nat) (ou : Nat → Int32) : Prop := ∀ j, j < no → 0 ≤ (ou j).toInt ∧ (ou j).toInt < 256
theorem ou_s {no : Nat} {ou : Nat → Int32} {v : Int32} (h : ouI no ou) (hv : 0 ≤ v.toInt ∧ v.toInt < 256) : ouI (no + 1) (upd ou no v) := by
  intro j hj
  by_cases q : j = no
  · rw [q, upd_at]; exact hv
  · rw [upd_ne q]; exact h j (by omega)
theorem emF_I {k j : Nat} {lo hi : Int64} {no : Nat} {ou : Nat → Int32} (hjk : j + k = 4) (h : CD j lo hi) (ho : ouI no ou) : CI (emF k lo hi no ou).1 (emF k lo hi no ou).2.1 ∧ (emF k lo hi no ou).2.2.1 ≤ no + k ∧ ouI (emF k lo hi no ou).2.2.1 (emF k lo hi no ou).2.2.2 := by
  induction k generalizing j lo hi no ou with
  | zero =>
    have e : j = 4 := by omega
    subst e
    exact ⟨⟨CD_0 h, CD_4 h⟩, Nat.le_refl _, ho⟩
  | succ k ih =>
    cases hs : setB lo hi with
    | false => rw [emF_n hs]; exact ⟨⟨CD_0 h, hs⟩, Nat.le_add_right _ _, ho⟩
    | true =>
      rw [emF_y hs]
      have := ih (j := j + 1) (no := no + 1) (by omega) (CD_s (by omega) h hs) (ou_s ho (top_rng h))
      exact ⟨this.1, by have := this.2.1; omega, this.2.2⟩
theorem rdF_I {k j : Nat} {lo hi code : Int64} {no : Nat} {ou : Nat → Int32} {cp : Nat} (hjk : j + k = 4) (h : CD j lo hi) : CI (rdF no ou k lo hi code cp).1 (rdF no ou k lo hi code cp).2.1 ∧ (rdF no ou k lo hi code cp).2.2.2 ≤ cp + k := by
  induction k generalizing j lo hi code cp with
  | zero =>
    have e : j = 4 := by omega
    subst e
    exact ⟨⟨CD_0 h, CD_4 h⟩, Nat.le_refl _⟩
  | succ k ih =>
    cases hs : setB lo hi with
    | false => rw [rdF_n hs]; exact ⟨⟨CD_0 h, hs⟩, Nat.le_add_right _ _⟩
    | true =>
      rw [rdF_y hs]
      have := ih (j := j + 1) (code := codeN code no ou cp) (cp := cp + 1) (by omega) (CD_s (by omega) h hs)
      exact ⟨this.1, by have := this.2; omega⟩
theorem bnd_rng (v : Int32) : 1 ≤ (boundI v 1 4095).toInt ∧ (boundI v 1 4095).toInt ≤ 4095 := by
  have e1 : (1 : Int32).toInt = 1 := by decide
  have e2 : (4095 : Int32).toInt = 4095 := by decide
  unfold boundI
  by_cases h2 : v < 4095
  · rw [if_pos h2]
    by_cases h1 : (1 : Int32) < v
    · rw [if_pos h1]; rw [i32_lt] at h1 h2; omega
    · rw [if_neg h1]; omega
  · rw [if_neg h2, if_pos (by decide)]; omega
theorem chS_n (st : Nat → Int32) (N np : Nat) (fk fo : Nat → Int32) (U : SSt) : ∃ k : Nat, 1 ≤ k ∧ k ≤ 4095 ∧ chS st N np fk fo U = nI k := by
  have h := bnd_rng ((nI (mxS st N np fk fo U) + 3 * corrI (s_fx U) (s_nd U) (tN st (mxS st N np fk fo U)) + 2) >>> ((2 : Int32) &&& 31))
  refine ⟨(boundI ((nI (mxS st N np fk fo U) + 3 * corrI (s_fx U) (s_nd U) (tN st (mxS st N np fk fo U)) + 2) >>> ((2 : Int32) &&& 31)) 1 4095).toInt.toNat, by omega, by omega, nI_of_toInt (by omega) ?_⟩
  have e : chS st N np fk fo U = boundI ((nI (mxS st N np fk fo U) + 3 * corrI (s_fx U) (s_nd U) (tN st (mxS st N np fk fo U)) + 2) >>> ((2 : Int32) &&& 31)) 1 4095 := by unfold chS chanceI; rfl
  rw [e]; omega
theorem mid_R {lo hi : Int64} {ch : Int32} (h : CI lo hi) (hc : ∃ k : Nat, 1 ≤ k ∧ k ≤ 4095 ∧ ch = nI k) : lo + (hi - lo) / 4096 * ch.toInt64 = midL lo hi ch := by
  obtain ⟨⟨a, b, rfl, rfl, hab, hb, -, -⟩, -⟩ := h
  obtain ⟨k, h1, h2, rfl⟩ := hc
  rw [midL_n hab hb (by omega), lN_sub hab, nI_l (by omega)]
  have e : lN (b - a) / 4096 = lN ((b - a) / 4096) := pk_lDiv (a := b - a) (b := 4096) (by omega) (by decide) (by decide)
  rw [e, lN_mul, lN_add]
theorem nar_I {lo hi : Int64} {ch on : Int32} (h : CI lo hi) (hc : ∃ k : Nat, 1 ≤ k ∧ k ≤ 4095 ∧ ch = nI k) : CD 0 (nLo on lo (midL lo hi ch)) (nHi on hi (midL lo hi ch)) := by
  obtain ⟨⟨a, b, rfl, rfl, hab, hb, -, -⟩, hs⟩ := h
  obtain ⟨k, h1, h2, rfl⟩ := hc
  rw [setB_n (by omega) hb] at hs
  have hs := of_decide_eq_false hs
  rw [midL_n hab hb (by omega)]
  have q1 : (b - a) / 4096 * k ≤ (b - a) / 4096 * 4095 := Nat.mul_le_mul_left _ h2
  unfold nLo nHi
  by_cases q : on = 0
  · rw [if_pos q, if_pos q]
    exact ⟨a + (b - a) / 4096 * k + 1, b, lN_1 _, rfl, by omega, hb, Nat.mod_one _, Nat.mod_one _⟩
  · rw [if_neg q, if_neg q]
    exact ⟨a, a + (b - a) / 4096 * k, rfl, rfl, by omega, by omega, Nat.mod_one _, Nat.mod_one _⟩
