/-! pure words of the object -/
theorem inR_le {x : Int32} (h0 : ¬ x < 0) (h1 : x ≤ 4095) : inR x 4096 = true := by
  simp only [inR, Bool.and_eq_true, Bool.not_eq_true', decide_eq_false_iff_not]
  refine ⟨h0, ?_⟩
  rw [i32_le] at h1 ⊢
  have e1 : (4095 : Int32).toInt = 4095 := by decide
  rw [nI_toInt (by decide)]; omega
theorem inR_gt {x : Int32} (h1 : ¬ x ≤ 4095) : inR x 4096 = false := by
  have h : nI 4096 ≤ x := by
    rw [i32_le] at h1 ⊢
    have e1 : (4095 : Int32).toInt = 4095 := by decide
    rw [nI_toInt (by decide)]; omega
  simp [inR, h]
def nxtI (no : Nat) (fu : Nat → Int32) (cp : Nat) : Int32 := if cp < no then fu cp else 0
theorem nxt_t {no : Nat} {fu : Nat → Int32} {cp : Nat} (hno : no ≤ 3028) (h : inR (nI cp) no = true) (hc : cp < 2 ^ 20 := by omega) : (if inR (nI cp) no = true then fu (nI cp).toNatClampNeg else 0) = nxtI no fu cp := by
  rw [if_pos h]
  obtain ⟨j, hj, ej⟩ := inR_of (by omega) h
  have e : cp = j := i32_eqN (by omega) (by omega) ej
  subst e
  rw [nxtI, if_pos hj, nI_clamp (by omega)]
theorem nxt_f {no : Nat} {fu : Nat → Int32} {cp : Nat} (hc : no < 2 ^ 31) (h : inR (nI cp) no = false) : 0 = nxtI no fu cp := by
  have : ¬ cp < no := fun q => by rw [inR_nI q hc] at h; cases h
  rw [nxtI, if_neg this]
def tkC (no : Nat) (fu : Nat → Int32) : Nat → Int64
  | 0 => 0
  | k + 1 => (((tkC no fu k) <<< ((8 : Int32).toInt64 &&& 63)) &&& 4294967295) ||| (nxtI no fu k).toInt64
theorem tkC_s (no : Nat) (fu : Nat → Int32) (k : Nat) : (((tkC no fu k) <<< ((8 : Int32).toInt64 &&& 63)) &&& 4294967295) ||| (nxtI no fu k).toInt64 = tkC no fu (k + 1) := by rw [tkC]
theorem off_dead {a b : Bool} {n g : Nat} {P : Prop} (h : a = false ∨ b = true ∨ 0 < n ∨ 0 < g) (h1 : a = true) (h2 : b = false) (h3 : (decide (0 < n) || decide (0 < g)) = false) : P := by
  exfalso
  simp only [Bool.or_eq_false_iff, decide_eq_false_iff_not] at h3
  rcases h with q | q | q | q
  · rw [h1] at q; cases q
  · rw [h2] at q; cases q
  · exact h3.1 q
  · exact h3.2 q
theorem sideL_fst {g : GT} {ad : Nat → Nat} {np : Nat} {fk fn fo st : Nat → Int32} {n nd bg : Nat} {f : Nat → Int32} {N : Nat} {fc fs : Nat → Int32} {r0 t0 : Int32} {f0 : Nat → Int32} {r1 t1 : Int32} {f1 : Nat → Int32} {nr : Int32} {fx : Nat → Int32} {mp ml : Nat → Nat} {cx xi : Nat → Int32} : (sideL g ad np fk fn fo st n nd bg f N fc fs r0 t0 f0 r1 t1 f1 nr fx mp ml cx xi).map Prod.fst = (List.range 29).map ad := rfl
