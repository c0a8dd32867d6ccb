/-! the invariant of a side is kept by a step -/
theorem lf_rng {on : Int32} {U : SSt} (h : ∀ j, j < s_n U → 0 ≤ (s_f U j).toInt ∧ (s_f U j).toInt < 256) : ∀ j, j < s_n U + 1 → 0 ≤ (lfS on U j).toInt ∧ (lfS on U j).toInt < 256 := by
  intro j hj
  unfold lfS
  by_cases q : j = s_n U
  · rw [q, upd_at, nI_toInt (by omega)]; omega
  · rw [upd_ne q]; exact h j (by omega)
theorem mt_of {fk fn : Nat → Int32} {np j : Nat} (hal : ∀ j, j < np → allowB (fk j) (fn j) = true) (hj : j < np) (hk : fk j = 4) : (fn j).toNatClampNeg ≤ 32 := by
  obtain ⟨t, h3, h8, e⟩ := allow4 (hk ▸ hal j hj)
  rw [e, nI_clamp (by omega)]; omega
theorem SX_step {st : Nat → Int32} {N rr np : Nat} {fk fn fo : Nat → Int32} {U : SSt} {on : Int32} (hG : GI st N rr np fk fn) (hX : SX N np fk U) (hn : s_n U < 2000) : SX N np fk (stepS st N np fk fn fo U on) := by
  obtain ⟨⟨i1, i2, i3, i4, i5, i6, i7⟩, ⟨x1, x2⟩, x3, x4, x5, x6, x7, x8⟩ := hX
  obtain ⟨g1, g2, g3, g4, g5⟩ := hG
  have hb2 := bitN_lt on
  have hr := fun j hj => sl_rng (fo := fo) (fk := fk) (on := on) i4 x3 np j hj
  have hlb := lb_lt i5
  refine ⟨⟨?_, ?_, ?_, fun j hj => ?_, fun j hj => ?_, fun j hj => ?_, fun j hj => ?_⟩, ?_, fun j hj => ?_, fun j hj => ?_, fun j hj hk => ?_, fun j h1 h2 => ?_, ?_, fun k hk j h1 h2 => ?_⟩
  · rw [step_n]; split <;> omega
  · rw [step_nd]; split
    · decide
    · have h3 : 2 ^ (s_bg U + 1) ≤ 2 ^ 7 := Nat.pow_le_pow_right (by decide) (by omega)
      have h4 : (2 : Nat) ^ 7 = 128 := by decide
      omega
  · rw [step_bg]; split <;> omega
  · rw [step_fc]; exact (hr j hj).1
  · rw [step_f]; rw [step_n] at hj
    by_cases q : s_bg U = 7
    · rw [if_pos q]; rw [if_pos q] at hj; exact lf_rng i5 j hj
    · rw [if_neg q]; rw [if_neg q] at hj; exact i5 j hj
  · rw [step_mp]
    by_cases q : s_bg U = 7
    · rw [if_pos q]; unfold bgP
      by_cases z : j < np ∧ fk j = 4
      · rw [if_pos z]
        have hm := x5 j z.1 z.2
        have h6 := i6 j hj
        exact mtP_lt h6 (fun w => by have := hm.2 w; omega) (by omega)
      · rw [if_neg z]; exact i6 j hj
    · rw [if_neg q]; exact i6 j hj
  · rw [step_ml]
    by_cases q : s_bg U = 7
    · rw [if_pos q]; unfold bgL
      by_cases z : j < np ∧ fk j = 4
      · rw [if_pos z]; exact mtL_le (mt_of g4 z.1 z.2) (i7 j hj)
      · rw [if_neg z]; exact i7 j hj
    · rw [if_neg q]; exact i7 j hj
  · rw [step_bg, step_nd]
    by_cases q : s_bg U = 7
    · rw [if_pos q, if_pos q]; decide
    · rw [if_neg q, if_neg q]
      have e1 : 2 ^ (s_bg U + 1) = 2 ^ s_bg U * 2 := Nat.pow_succ 2 _
      have e2 : 2 ^ (s_bg U + 1 + 1) = 2 ^ (s_bg U + 1) * 2 := Nat.pow_succ 2 _
      omega
  · rw [step_fs]; exact (hr j hj).2
  · rw [step_fx]; unfold lxS
    by_cases q : j = nearS st N np fk fo U
    · rw [q, upd_at]; exact cell_rng (x4 _ (q ▸ hj))
    · rw [upd_ne q]; exact x4 j hj
  · rw [step_ml, step_mp, step_n]
    have hm := x5 j hj hk
    by_cases q : s_bg U = 7
    · rw [if_pos q, if_pos q, if_pos q]; unfold bgP bgL
      rw [if_pos ⟨hj, hk⟩, if_pos ⟨hj, hk⟩]
      refine ⟨mtL_le (mt_of g4 hj hk) hm.1, fun w => mtP_in (fun v => by have := hm.2 v; omega) w⟩
    · rw [if_neg q, if_neg q, if_neg q]; exact hm
  · rw [step_xi, xiS_ge h1]; exact x6 j h1 h2
  · rw [step_xi, xiS_ge g1]; exact x7
  · rw [step_f0, step_f1, lw0_at hk (by omega), lw1_at hk (by omega), (x8 k hk j h1 h2).1, (x8 k hk j h1 h2).2, xiS_ge h1, x6 j h1 h2, grow0 rfl, grow0 rfl]
    refine ⟨?_, ?_⟩ <;> split <;> rfl
theorem bt_step {st : Nat → Int32} {N np : Nat} {fk fn fo : Nat → Int32} {U : SSt} {on : Int32} (h : s_bg U ≤ 7) : (s_bg U + 1) % 8 = s_bg (stepS st N np fk fn fo U on) := by
  rw [step_bg]
  by_cases q : s_bg U = 7
  · rw [if_pos q, q]
  · rw [if_neg q, Nat.mod_eq_of_lt (by omega)]
theorem n_step {st : Nat → Int32} {N np : Nat} {fk fn fo : Nat → Int32} {U : SSt} {on : Int32} : s_n (stepS st N np fk fn fo U on) ≤ s_n U + 1 := by
  rw [step_n]; split <;> omega
theorem n_ge {st : Nat → Int32} {N np : Nat} {fk fn fo : Nat → Int32} {U : SSt} {on : Int32} : s_n U ≤ s_n (stepS st N np fk fn fo U on) := by
  rw [step_n]; split <;> omega
/-! eight bits, one after another -/
def bitI (b : Int32) (k : Nat) : Int32 := (b >>> (nI k &&& 31)) &&& 1
theorem bit1_01 (x : Int32) : x &&& 1 = 0 ∨ x &&& 1 = 1 := by
  obtain ⟨j, h, e⟩ := pk_andE x (m := 1) 1 (by decide)
  rw [e]
  match j, h with
  | 0, _ => exact Or.inl rfl
  | 1, _ => exact Or.inr rfl
theorem bitI_01 (b : Int32) (k : Nat) : bitI b k = 0 ∨ bitI b k = 1 := bit1_01 _
abbrev WSt : Type := SSt × Int64 × Int64 × Nat × (Nat → Int32)
section
variable (st : Nat → Int32) (N np : Nat) (fk fn fo : Nat → Int32)
def emW (w : WSt) (on : Int32) : Int64 × Int64 × Nat × (Nat → Int32) := emF 4 (nLo on w.2.1 (mdS st N np fk fo w.1 w.2.1 w.2.2.1)) (nHi on w.2.2.1 (mdS st N np fk fo w.1 w.2.1 w.2.2.1)) w.2.2.2.1 w.2.2.2.2
def octN (b : Int32) (w : WSt) : Nat → WSt
  | 0 => w
  | i + 1 => (stepS st N np fk fn fo (octN b w i).1 (bitI b (7 - i)), emW st N np fk fo (octN b w i) (bitI b (7 - i)))
end
section
variable {st : Nat → Int32} {N rr np : Nat} {fk fn fo : Nat → Int32}
theorem octN_s {b : Int32} {w : WSt} {i : Nat} {U : SSt} {lo hi : Int64} {no : Nat} {ou : Nat → Int32} (h : octN st N np fk fn fo b w i = (U, lo, hi, no, ou)) : octN st N np fk fn fo b w (i + 1) = (stepS st N np fk fn fo U (bitI b (7 - i)), emF 4 (nLo (bitI b (7 - i)) lo (mdS st N np fk fo U lo hi)) (nHi (bitI b (7 - i)) hi (mdS st N np fk fo U lo hi)) no ou) := by
  rw [octN, h, emW]
/-- what writing keeps -/
def WI (w : WSt) (n0 no0 : Nat) : Prop := SX N np fk w.1 ∧ CI w.2.1 w.2.2.1 ∧ ouI w.2.2.2.1 w.2.2.2.2 ∧ s_n w.1 ≤ n0 ∧ w.2.2.2.1 ≤ no0
theorem WI_step {w : WSt} {n0 no0 : Nat} {on : Int32} (hG : GI st N rr np fk fn) (h : WI (N := N) (np := np) (fk := fk) w n0 no0) (hn : n0 < 2000) : WI (N := N) (np := np) (fk := fk) (stepS st N np fk fn fo w.1 on, emW st N np fk fo w on) (n0 + 1) (no0 + 4) := by
  obtain ⟨h1, h2, h3, h4, h5⟩ := h
  have he := emF_I (k := 4) (j := 0) (no := w.2.2.2.1) (ou := w.2.2.2.2) rfl (nar_I (on := on) h2 (chS_n st N np fk fo w.1)) h3
  refine ⟨SX_step hG h1 (by omega), he.1, he.2.2, ?_, ?_⟩
  · have := n_step (st := st) (N := N) (np := np) (fk := fk) (fn := fn) (fo := fo) (U := w.1) (on := on)
    show s_n (stepS st N np fk fn fo w.1 on) ≤ n0 + 1
    omega
  · have h6 := he.2.1
    show (emW st N np fk fo w on).2.2.1 ≤ no0 + 4
    exact Nat.le_trans h6 (by omega)
theorem WI_oct {b : Int32} {w : WSt} {n0 no0 : Nat} (hG : GI st N rr np fk fn) (h : WI (N := N) (np := np) (fk := fk) w n0 no0) (i : Nat) (hn : n0 + i ≤ 2000) : WI (N := N) (np := np) (fk := fk) (octN st N np fk fn fo b w i) (n0 + i) (no0 + 4 * i) := by
  induction i with
  | zero => exact h
  | succ i ih =>
    have := WI_step (on := bitI b (7 - i)) (fo := fo) hG (ih (by omega)) (by omega)
    exact this
end
theorem on_if {on : Int32} (h : on = 0 ∨ on = 1) : (if on = 0 then 0 else 1) = on := by
  rcases h with q | q <;> rw [q] <;> decide
theorem oct_dead {b : Bool} {n : Nat} {P : Prop} (h : b = true ∨ 0 < n) (hn : n ≤ 8) (h1 : b = false) (h2 : nI n ≤ 0) : P := by
  exfalso
  rcases h with q | q
  · rw [h1] at q; cases q
  · have := nI_le0 (by omega) h2; omega
theorem oc_dn (i : Nat) : (7 : Int32) - nI i + (-1) = 7 - nI (i + 1) := by
  rw [← nI_1 i]
  have e : ∀ a : Int32, (7 : Int32) - a + (-1) = 7 - (a + 1) := by
    intro a
    apply Int32.toBitVec_inj.mp
    show (7 : BitVec 32) - a.toBitVec + (-1) = 7 - (a.toBitVec + 1)
    generalize a.toBitVec = z
    simp only [BitVec.sub_eq_add_neg, BitVec.neg_add, BitVec.add_assoc]
  exact e _
theorem oc_end {x : Int32} {i : Nat} (hi : i ≤ 8) (e : x = 7 - nI i) (h : x < 0) : i = 8 := by
  rcases Nat.lt_or_ge i 8 with q | q
  · exfalso
    have e2 : (7 : Int32) - nI i = nI (7 - i) := pk_sub (a := 7) (by omega)
    rw [e, e2] at h
    exact nI_neg (n := 7 - i) (by omega) h rfl
  · omega
theorem oc_go {x : Int32} {i : Nat} (hi : i ≤ 8) (e : x = 7 - nI i) (h : ¬ x < 0) : i < 8 := by
  rcases Nat.lt_or_ge i 8 with q | q
  · exact q
  · exfalso
    have : i = 8 := by omega
    subst this
    rw [e] at h; exact h (by decide)
theorem oc_bit {x : Int32} {i : Nat} (hi : i < 8) (e : x = 7 - nI i) : x = nI (7 - i) := by
  rw [e]; exact pk_sub (a := 7) (by omega)
