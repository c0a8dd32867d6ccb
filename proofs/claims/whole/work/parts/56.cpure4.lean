section
variable {st : Nat → Int32} {N np : Nat} {fk fn fo : Nat → Int32} {U : SSt} {on : Int32}
theorem step_r0 : s_r0 (stepS st N np fk fn fo U on) = nI (9 * s_nd U) := rfl
theorem step_t0 : s_t0 (stepS st N np fk fn fo U on) = t0S st N np fk fo U := by unfold stepS; with_reducible rfl
theorem step_r1 : s_r1 (stepS st N np fk fn fo U on) = nI (9 * lbN (s_f U) (s_n U)) := rfl
theorem step_t1 : s_t1 (stepS st N np fk fn fo U on) = t1S st N np fk fo U := by unfold stepS; with_reducible rfl
theorem step_nr : s_nr (stepS st N np fk fn fo U on) = nI (nearS st N np fk fo U) := rfl
end
theorem rdB_t {st : Nat → Int32} {N np : Nat} {fk fn fo : Nat → Int32} {no : Nat} {ou : Nat → Int32} {w : DSt} {i : Nat} {V : SSt} {lo hi code : Int64} {cp : Nat} (h : rdN st N np fk fn fo no ou w i = (V, lo, hi, code, cp)) : rdB st N np fk fn fo no ou w (i + 1) = 2 * rdB st N np fk fn fo no ou w i + bitN (rdS st N np fk fo V lo hi code) := by
  rw [rdB_s, h, rbS]
theorem bit_ne {b : Int32} (h : b = 0 ∨ b = 1) : (if b = 1 then 1 else 0) = b := by
  rcases h with q | q <;> rw [q] <;> decide
theorem oct_dead2 {b : Bool} {n : Nat} {P : Prop} (h : b = true ∨ 0 < n) (hn : n ≤ 8) (h1 : b = false) (h2 : nI n = 0) : P := by
  exfalso
  rcases h with q | q
  · rw [h1] at q; cases q
  · have := nI_z (by omega) h2; omega
theorem rdN_t {st : Nat → Int32} {N np : Nat} {fk fn fo : Nat → Int32} {no : Nat} {ou : Nat → Int32} {w : DSt} {i : Nat} {V : SSt} {lo hi code : Int64} {cp : Nat} (h : rdN st N np fk fn fo no ou w i = (V, lo, hi, code, cp)) : rdN st N np fk fn fo no ou w (i + 1) = (stepS st N np fk fn fo V (rdS st N np fk fo V lo hi code), (rdF no ou 4 (nLo (rdS st N np fk fo V lo hi code) lo (mdS st N np fk fo V lo hi)) (nHi (rdS st N np fk fo V lo hi code) hi (mdS st N np fk fo V lo hi)) code cp).1, (rdF no ou 4 (nLo (rdS st N np fk fo V lo hi code) lo (mdS st N np fk fo V lo hi)) (nHi (rdS st N np fk fo V lo hi code) hi (mdS st N np fk fo V lo hi)) code cp).2.1, (rdF no ou 4 (nLo (rdS st N np fk fo V lo hi code) lo (mdS st N np fk fo V lo hi)) (nHi (rdS st N np fk fo V lo hi code) hi (mdS st N np fk fo V lo hi)) code cp).2.2.1, (rdF no ou 4 (nLo (rdS st N np fk fo V lo hi code) lo (mdS st N np fk fo V lo hi)) (nHi (rdS st N np fk fo V lo hi code) hi (mdS st N np fk fo V lo hi)) code cp).2.2.2) := by
  rw [rdN_s h]
