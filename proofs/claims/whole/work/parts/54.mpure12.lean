/-! the end, reading, equality -/
theorem topB_rng (x : Int64) : 0 ≤ (topB x).toInt ∧ (topB x).toInt < 256 := by
  unfold topB
  obtain ⟨j, h, e⟩ := pk_andE ((x >>> ((24 : Int32).toInt64 &&& 63)).toInt32) (m := 255) 8 (by decide)
  rw [e, nI_toInt (by omega)]; omega
theorem eOu_I {no : Nat} {ou : Nat → Int32} (wl : Int64) (h : ouI no ou) (i : Nat) : ouI (no + i) (eOu wl no ou i) := by
  induction i with
  | zero => exact h
  | succ i ih => exact ou_s ih (topB_rng _)
theorem low_b {a d q : Nat} {D : Int64} (hD : (D.toBitVec.smod 64).toNat = d) (ha : a < 2 ^ 32) (hq : a / 2 ^ d < 2 ^ 32) : (lN a >>> D).toInt32 &&& 255 = nI (a / 2 ^ d % 256) := by
  rw [lshr_n hD (by omega), lN_i]
  have h := pk_and (nI (a / 2 ^ d)) (m := 255) 8 (by decide)
  rw [h]
  have e : (nI (a / 2 ^ d)).toBitVec.toNat = a / 2 ^ d := Nat.mod_eq_of_lt hq
  rw [e]
theorem end_R {lo hi : Int64} {i : Nat} {x : Int32} (h : CI lo hi) (hi4 : i < 4) (ex : x = 24 - 8 * nI i) : (lo >>> (x.toInt64 &&& 63)).toInt32 &&& 255 = topB (eLo lo i) := by
  obtain ⟨⟨a, b, rfl, rfl, hab, hb, -, -⟩, -⟩ := h
  have ha : a < 2 ^ 32 := by omega
  match i, hi4 with
  | 0, _ =>
    have e : x = 24 := ex.trans (by decide)
    rw [e]; rfl
  | 1, _ =>
    have e : x = 16 := ex.trans (by decide)
    rw [e, low_b (d := 16) (q := 0) (by decide) ha (by omega)]
    show _ = topB (shLo (lN a))
    rw [shLo_n ha, topB_n (by omega)]; congr 1; omega
  | 2, _ =>
    have e : x = 8 := ex.trans (by decide)
    rw [e, low_b (d := 8) (q := 0) (by decide) ha (by omega)]
    show _ = topB (shLo (shLo (lN a)))
    rw [shLo_n ha, shLo_n (by omega), topB_n (by omega)]; congr 1; omega
  | 3, _ =>
    have e : x = 0 := ex.trans (by decide)
    rw [e, low_b (d := 0) (q := 0) (by decide) ha (by omega)]
    show _ = topB (shLo (shLo (shLo (lN a))))
    rw [shLo_n ha, shLo_n (by omega), shLo_n (by omega), topB_n (by omega)]; congr 1; omega
theorem en_dn (i : Nat) : (24 : Int32) - 8 * nI i + (-8) = 24 - 8 * nI (i + 1) := by
  rw [← nI_1 i]
  have e : ∀ a : Int32, (24 : Int32) - 8 * a + (-8) = 24 - 8 * (a + 1) := by
    intro a
    apply Int32.toBitVec_inj.mp
    show (24 : BitVec 32) - 8 * a.toBitVec + (-8) = 24 - 8 * (a.toBitVec + 1)
    generalize a.toBitVec = z
    rw [BitVec.mul_add]
    simp only [BitVec.sub_eq_add_neg, BitVec.neg_add, BitVec.add_assoc]
    rfl
  exact e _
theorem en_end {x : Int32} {i : Nat} (hi : i ≤ 4) (e : x = 24 - 8 * nI i) (h : x < 0) : i = 4 := by
  rcases Nat.lt_or_ge i 4 with q | q
  · exfalso
    match i, q with
    | 0, _ => rw [e] at h; exact absurd h (by decide)
    | 1, _ => rw [e] at h; exact absurd h (by decide)
    | 2, _ => rw [e] at h; exact absurd h (by decide)
    | 3, _ => rw [e] at h; exact absurd h (by decide)
  · omega
theorem en_go {x : Int32} {i : Nat} (hi : i ≤ 4) (e : x = 24 - 8 * nI i) (h : ¬ x < 0) : i < 4 := by
  rcases Nat.lt_or_ge i 4 with q | q
  · exact q
  · exfalso
    have : i = 4 := by omega
    subst this
    rw [e] at h; exact h (by decide)
/-! reading eight bits -/
abbrev DSt : Type := SSt × Int64 × Int64 × Int64 × Nat
section
variable (st : Nat → Int32) (N np : Nat) (fk fn fo : Nat → Int32) (no : Nat) (ou : Nat → Int32)
def rbS (w : DSt) : Int32 := rdS st N np fk fo w.1 w.2.1 w.2.2.1 w.2.2.2.1
def rfS (w : DSt) : Int64 × Int64 × Int64 × Nat := rdF no ou 4 (nLo (rbS st N np fk fo w) w.2.1 (mdS st N np fk fo w.1 w.2.1 w.2.2.1)) (nHi (rbS st N np fk fo w) w.2.2.1 (mdS st N np fk fo w.1 w.2.1 w.2.2.1)) w.2.2.2.1 w.2.2.2.2
def rdN (w : DSt) : Nat → DSt
  | 0 => w
  | i + 1 => (stepS st N np fk fn fo (rdN w i).1 (rbS st N np fk fo (rdN w i)), rfS st N np fk fo no ou (rdN w i))
end
section
variable {st : Nat → Int32} {N rr np : Nat} {fk fn fo : Nat → Int32} {no : Nat} {ou : Nat → Int32}
theorem rdN_s {w : DSt} {i : Nat} {V : SSt} {lo hi code : Int64} {cp : Nat} (h : rdN st N np fk fn fo no ou w i = (V, lo, hi, code, cp)) : rdN st N np fk fn fo no ou w (i + 1) = (stepS st N np fk fn fo V (rdS st N np fk fo V lo hi code), rdF no ou 4 (nLo (rdS st N np fk fo V lo hi code) lo (mdS st N np fk fo V lo hi)) (nHi (rdS st N np fk fo V lo hi code) hi (mdS st N np fk fo V lo hi)) code cp) := by
  rw [rdN, h, rbS, rfS, rbS]
def DI (w : DSt) (n0 cp0 : Nat) : Prop := SX N np fk w.1 ∧ CI w.2.1 w.2.2.1 ∧ s_n w.1 ≤ n0 ∧ w.2.2.2.2 ≤ cp0
theorem DI_rd {w : DSt} {n0 cp0 : Nat} (hG : GI st N rr np fk fn) (h : DI (N := N) (np := np) (fk := fk) w n0 cp0) (i : Nat) (hn : n0 + i ≤ 2000) : DI (N := N) (np := np) (fk := fk) (rdN st N np fk fn fo no ou w i) (n0 + i) (cp0 + 4 * i) := by
  induction i with
  | zero => exact h
  | succ i ih =>
    have hh := ih (by omega)
    generalize hw : rdN st N np fk fn fo no ou w i = v at hh
    obtain ⟨V, lo, hi, code, cp⟩ := v
    rw [rdN_s hw]
    obtain ⟨h1, h2, h4, h5⟩ := hh
    have hnar : CD 0 (nLo (rdS st N np fk fo V lo hi code) lo (mdS st N np fk fo V lo hi)) (nHi (rdS st N np fk fo V lo hi code) hi (mdS st N np fk fo V lo hi)) := nar_I h2 (chS_n st N np fk fo V)
    have he := rdF_I (k := 4) (j := 0) (code := code) (no := no) (ou := ou) (cp := cp) rfl hnar
    have h4' : s_n V ≤ n0 + i := h4
    have h6 : cp ≤ cp0 + 4 * i := h5
    have hs := n_step (st := st) (N := N) (np := np) (fk := fk) (fn := fn) (fo := fo) (U := V) (on := rdS st N np fk fo V lo hi code)
    have hx := SX_step (fo := fo) (on := rdS st N np fk fo V lo hi code) hG h1 (by omega)
    generalize stepS st N np fk fn fo V (rdS st N np fk fo V lo hi code) = V2 at hs hx ⊢
    generalize rdF no ou 4 (nLo (rdS st N np fk fo V lo hi code) lo (mdS st N np fk fo V lo hi)) (nHi (rdS st N np fk fo V lo hi code) hi (mdS st N np fk fo V lo hi)) code cp = q4 at he ⊢
    have he2 := he.2
    exact ⟨hx, he.1, (show s_n V2 ≤ n0 + (i + 1) by omega), (show q4.2.2.2 ≤ cp0 + 4 * (i + 1) by omega)⟩
/-- the number that the first i bits make -/
def rdB (st : Nat → Int32) (N np : Nat) (fk fn fo : Nat → Int32) (no : Nat) (ou : Nat → Int32) (w : DSt) : Nat → Nat
  | 0 => 0
  | i + 1 => 2 * rdB st N np fk fn fo no ou w i + bitN (rbS st N np fk fo (rdN st N np fk fn fo no ou w i))
theorem rdB_s (w : DSt) (i : Nat) : rdB st N np fk fn fo no ou w (i + 1) = 2 * rdB st N np fk fn fo no ou w i + bitN (rbS st N np fk fo (rdN st N np fk fn fo no ou w i)) := by rw [rdB]
theorem rdB_lt (w : DSt) (i : Nat) : rdB st N np fk fn fo no ou w i < 2 ^ i := by
  induction i with
  | zero => exact (by decide : (0 : Nat) < 2 ^ 0)
  | succ i ih =>
    have := bitN_lt (rbS st N np fk fo (rdN st N np fk fn fo no ou w i))
    rw [rdB, Nat.pow_succ]; omega
theorem rdN_m {w : DSt} (h0 : s_bg w.1 = 0) (h1 : s_nd w.1 = 1) (i : Nat) (hi : i < 8) : s_bg (rdN st N np fk fn fo no ou w i).1 = i ∧ s_nd (rdN st N np fk fn fo no ou w i).1 = 2 ^ i + rdB st N np fk fn fo no ou w i ∧ s_n (rdN st N np fk fn fo no ou w i).1 = s_n w.1 := by
  induction i with
  | zero => exact ⟨h0, h1, rfl⟩
  | succ i ih =>
    obtain ⟨a, b, d⟩ := ih (by omega)
    have hne : ¬ s_bg (rdN st N np fk fn fo no ou w i).1 = 7 := by omega
    refine ⟨?_, ?_, ?_⟩
    · rw [rdN, step_bg, if_neg hne, a]
    · rw [rdN, step_nd, if_neg hne, b, rdB, Nat.pow_succ]; omega
    · rw [rdN, step_n, if_neg hne, d]
theorem rdN_8 {w : DSt} (h0 : s_bg w.1 = 0) (h1 : s_nd w.1 = 1) : s_bg (rdN st N np fk fn fo no ou w 8).1 = 0 ∧ backN (s_f (rdN st N np fk fn fo no ou w 8).1) (s_n (rdN st N np fk fn fo no ou w 8).1) 1 = nI (rdB st N np fk fn fo no ou w 8) ∧ s_n (rdN st N np fk fn fo no ou w 8).1 = s_n w.1 + 1 := by
  obtain ⟨a, b, d⟩ := rdN_m (st := st) (N := N) (np := np) (fk := fk) (fn := fn) (fo := fo) (no := no) (ou := ou) h0 h1 7 (by decide)
  have hl := rdB_lt (st := st) (N := N) (np := np) (fk := fk) (fn := fn) (fo := fo) (no := no) (ou := ou) w 7
  have hb := bitN_lt (rbS st N np fk fo (rdN st N np fk fn fo no ou w 7))
  have e7 : (2 : Nat) ^ 7 = 128 := by decide
  refine ⟨?_, ?_, ?_⟩
  · rw [rdN, step_bg, if_pos a]
  · rw [rdN, step_f, step_n, if_pos a, if_pos a, backN_p (by decide) (by omega), Nat.add_sub_cancel]
    unfold lfS
    rw [upd_at, b, show rdB st N np fk fn fo no ou w 8 = 2 * rdB st N np fk fn fo no ou w 7 + bitN (rbS st N np fk fo (rdN st N np fk fn fo no ou w 7)) from rdB_s w 7]
    generalize rdB st N np fk fn fo no ou w 7 = B7 at hl ⊢
    generalize bitN (rbS st N np fk fo (rdN st N np fk fn fo no ou w 7)) = t7 at hb ⊢
    rw [e7, show (2 * (128 + B7) + t7) % 256 = 2 * B7 + t7 by omega]
  · rw [rdN, step_n, if_pos a, d]
end
/-! equality -/
theorem eq_y {P : Bool} {f g : Nat → Int32} {i : Nat} (h : (P && eqTo f g i) = true) (h2 : f i = g i) : 1 = b01 (P && eqTo f g (i + 1)) := by
  rw [Bool.and_eq_true] at h
  simp only [eqTo, h.1, h.2, h2, decide_true, Bool.and_self]; rfl
theorem eq_n {P : Bool} {f g : Nat → Int32} {i : Nat} (h2 : ¬ f i = g i) : 0 = b01 (P && eqTo f g (i + 1)) := by
  simp only [eqTo, decide_eq_false h2, Bool.and_false]; rfl
theorem eqTo_m {f g : Nat → Int32} {i n : Nat} (hi : i ≤ n) (h : eqTo f g i = false) : eqTo f g n = false := by
  cases q : eqTo f g n with
  | false => rfl
  | true => rw [eqTo_iff.mpr (fun k hk => eqTo_iff.mp q k (by omega))] at h; cases h
theorem eq_m {P : Bool} {f g : Nat → Int32} {i n : Nat} (hi : i ≤ n) (h : (P && eqTo f g i) = false) : 0 = b01 (P && eqTo f g n) := by
  have e : (P && eqTo f g n) = false := by
    rw [Bool.and_eq_false_iff] at h ⊢
    rcases h with q | q
    · exact Or.inl q
    · exact Or.inr (eqTo_m hi q)
  rw [e]; rfl
theorem eq2_y {P : Bool} {f g f2 g2 : Nat → Int32} {i : Nat} (h : (P && (eqTo f g i && eqTo f2 g2 i)) = true) (h2 : f i = g i) (h3 : f2 i = g2 i) : 1 = b01 (P && (eqTo f g (i + 1) && eqTo f2 g2 (i + 1))) := by
  rw [Bool.and_eq_true, Bool.and_eq_true] at h
  simp only [eqTo, h.1, h.2.1, h.2.2, h2, h3, decide_true, Bool.and_self]; rfl
theorem eq2_n {P : Bool} {f g f2 g2 : Nat → Int32} {i : Nat} (h2 : ¬ f i = g i ∨ ¬ f2 i = g2 i) : 0 = b01 (P && (eqTo f g (i + 1) && eqTo f2 g2 (i + 1))) := by
  rcases h2 with q | q
  · simp only [eqTo, decide_eq_false q, Bool.and_false, Bool.false_and]; rfl
  · simp only [eqTo, decide_eq_false q, Bool.and_false]; rfl
theorem eq2_m {P : Bool} {f g f2 g2 : Nat → Int32} {i n : Nat} (hi : i ≤ n) (h : (P && (eqTo f g i && eqTo f2 g2 i)) = false) : 0 = b01 (P && (eqTo f g n && eqTo f2 g2 n)) := by
  have e : (P && (eqTo f g n && eqTo f2 g2 n)) = false := by
    rw [Bool.and_eq_false_iff, Bool.and_eq_false_iff] at h ⊢
    rcases h with q | q | q
    · exact Or.inl q
    · exact Or.inr (Or.inl (eqTo_m hi q))
    · exact Or.inr (Or.inr (eqTo_m hi q))
  rw [e]; rfl
def eqP0 (U V : SSt) : Bool := decide (s_n U = s_n V) && decide (s_nd U = s_nd V)
def eqP1 (U V : SSt) (bb : Nat → Int32) (i : Nat) : Bool := eqP0 U V && eqTo bb (fun k => bb (2050 + k)) i
def eqP2 (U V : SSt) (bb sc ss : Nat → Int32) (i : Nat) : Bool := eqP1 U V bb (s_n U) && (eqTo sc (fun k => sc (4096 + k)) i && eqTo ss (fun k => ss (4096 + k)) i)
def eqP3 (U V : SSt) (bb sc ss ww : Nat → Int32) (i : Nat) : Bool := eqP2 U V bb sc ss 4096 && eqTo ww (fun k => ww (4608 + k)) i
def eqP4 (U V : SSt) (bb sc ss ww xc : Nat → Int32) (i : Nat) : Bool := eqP3 U V bb sc ss ww 4608 && eqTo xc (fun k => xc (8448 + k)) i
theorem eqB_R {N np : Nat} {fk : Nat → Int32} {U V : SSt} {bb wt nx cx pt le sc ss ww xc : Nat → Int32} (h0 : RS 0 N np fk U bb wt nx cx pt le sc ss ww xc) (h1 : RS 1 N np fk V bb wt nx cx pt le sc ss ww xc) (hU : SX N np fk U) (hV : SX N np fk V) (hN : N ≤ 4096) (hnp : np ≤ 8) : eqP4 U V bb sc ss ww xc 8448 = eqB N U V := by
  have key : ∀ a b : Bool, (a = true ↔ b = true) → a = b := by decide
  apply key
  have hn := hU.1.1
  obtain ⟨⟨-, -, b0⟩, -, -, ⟨s0, s0'⟩, w0', x0⟩ := h0
  obtain ⟨⟨-, -, b1⟩, -, -, ⟨s1, s1'⟩, w1', x1⟩ := h1
  have v0 := hU.2.2.2.2.2.2.2
  have v1 := hV.2.2.2.2.2.2.2
  simp only [eqP4, eqP3, eqP2, eqP1, eqP0, eqB, Bool.and_eq_true, decide_eq_true_eq, eqTo_iff]
  constructor
  · rintro ⟨⟨⟨⟨⟨e1, e2⟩, eb⟩, ec, es⟩, ew⟩, ex⟩
    refine ⟨⟨e1, e2, fun k hk => ?_⟩, ⟨fun k hk => ?_, fun k hk => ?_⟩, fun k hk => ?_, fun k hk => ?_, fun k hk => ?_⟩
    · have p := b0 k (by omega); have q := b1 k (by omega); have r := eb k hk
      rw [show 2050 * 0 + k = k by omega] at p
      rw [← p, ← q]; exact r
    · have p := (s0 k hk).1; have q := (s1 k hk).1; have r := ec k (by omega)
      rw [show 4096 * 0 + k = k by omega] at p
      rw [← p, ← q]; exact r
    · have p := (s0 k hk).2; have q := (s1 k hk).2; have r := es k (by omega)
      rw [show 4096 * 0 + k = k by omega] at p
      rw [← p, ← q]; exact r
    · obtain ⟨a, j, ha, hj, e⟩ : ∃ a j, a < 256 ∧ j < 9 ∧ k = 9 * a + j := ⟨k / 9, k % 9, by omega, by omega, by omega⟩
      rw [e]
      rcases Nat.lt_trichotomy j 8 with z | z | z
      · rcases Nat.lt_or_ge j np with y | y
        · have p := ((w0' a ha).1 j y).1; have q := ((w1' a ha).1 j y).1; have r := ew (wAt 0 0 a j) (by rw [wAt_lin]; omega)
          rw [← p, ← q, r]; congr 1; rw [wAt_lin, wAt_lin]; omega
        · rw [(v0 a ha j y z).1, (v1 a ha j y z).1]
      · have p := ((w0' a ha).2.1).1; have q := ((w1' a ha).2.1).1; have r := ew (wAt 0 0 a np) (by rw [wAt_lin]; omega)
        rw [z, ← p, ← q, r]; congr 1; rw [wAt_lin, wAt_lin]; omega
      · omega
    · obtain ⟨a, j, ha, hj, e⟩ : ∃ a j, a < 256 ∧ j < 9 ∧ k = 9 * a + j := ⟨k / 9, k % 9, by omega, by omega, by omega⟩
      rw [e]
      rcases Nat.lt_trichotomy j 8 with z | z | z
      · rcases Nat.lt_or_ge j np with y | y
        · have p := ((w0' a ha).1 j y).2; have q := ((w1' a ha).1 j y).2; have r := ew (wAt 0 1 a j) (by rw [wAt_lin]; omega)
          rw [← p, ← q, r]; congr 1; rw [wAt_lin, wAt_lin]; omega
        · rw [(v0 a ha j y z).2, (v1 a ha j y z).2]
      · have p := ((w0' a ha).2.1).2; have q := ((w1' a ha).2.1).2; have r := ew (wAt 0 1 a np) (by rw [wAt_lin]; omega)
        rw [z, ← p, ← q, r]; congr 1; rw [wAt_lin, wAt_lin]; omega
      · omega
    · have p := x0 k hk; have q := x1 k hk; have r := ex k hk
      rw [show 8448 * 0 + k = k by omega] at p
      rw [← p, ← q]; exact r
  · rintro ⟨⟨e1, e2, eb⟩, ⟨ec, es⟩, e0, e1', ex⟩
    refine ⟨⟨⟨⟨⟨e1, e2⟩, fun k hk => ?_⟩, fun k hk => ?_, fun k hk => ?_⟩, fun k hk => ?_⟩, fun k hk => ?_⟩
    · have p := b0 k (by omega); have q := b1 k (by omega); have r := eb k hk
      rw [show 2050 * 0 + k = k by omega] at p
      rw [p, r]; exact q.symm
    · rcases Nat.lt_or_ge k N with y | y
      · have p := (s0 k y).1; have q := (s1 k y).1; have r := ec k y
        rw [show 4096 * 0 + k = k by omega] at p
        rw [p, r]; exact q.symm
      · have p := (s0' k y hk).1; have q := (s1' k y hk).1
        rw [show 4096 * 0 + k = k by omega] at p
        rw [p]; exact q.symm
    · rcases Nat.lt_or_ge k N with y | y
      · have p := (s0 k y).2; have q := (s1 k y).2; have r := es k y
        rw [show 4096 * 0 + k = k by omega] at p
        rw [p, r]; exact q.symm
      · have p := (s0' k y hk).2; have q := (s1' k y hk).2
        rw [show 4096 * 0 + k = k by omega] at p
        rw [p]; exact q.symm
    · obtain ⟨mm, a, j, hm, ha, hj, e⟩ : ∃ mm a j, mm < 2 ∧ a < 256 ∧ j < 9 ∧ k = 2304 * mm + 9 * a + j := ⟨k / 2304, k % 2304 / 9, k % 9, by omega, by omega, by omega, by omega⟩
      have k0 : k = wAt 0 mm a j := by rw [wAt_lin]; omega
      have k1 : 4608 + k = wAt 1 mm a j := by rw [wAt_lin]; omega
      have hm2 : mm = 0 ∨ mm = 1 := by omega
      show ww k = ww (4608 + k)
      rw [k1, k0]
      clear k0 k1 e hk
      rcases Nat.lt_trichotomy j np with y | y | y
      · rcases hm2 with z | z
        · rw [z, ((w0' a ha).1 j y).1, ((w1' a ha).1 j y).1]; exact e0 _ (by omega)
        · rw [z, ((w0' a ha).1 j y).2, ((w1' a ha).1 j y).2]; exact e1' _ (by omega)
      · rw [y]
        rcases hm2 with z | z
        · rw [z, ((w0' a ha).2.1).1, ((w1' a ha).2.1).1]; exact e0 _ (by omega)
        · rw [z, ((w0' a ha).2.1).2, ((w1' a ha).2.1).2]; exact e1' _ (by omega)
      · rcases hm2 with z | z
        · rw [z, ((w0' a ha).2.2 j y hj).1, ((w1' a ha).2.2 j y hj).1]
        · rw [z, ((w0' a ha).2.2 j y hj).2, ((w1' a ha).2.2 j y hj).2]
    · have p := x0 k hk; have q := x1 k hk; have r := ex k hk
      rw [show 8448 * 0 + k = k by omega] at p
      rw [p, r]; exact q.symm
theorem eq0_n {U V : SSt} (h : ¬ s_n U = s_n V ∨ ¬ s_nd U = s_nd V) : 0 = b01 (eqP0 U V) := by
  unfold eqP0
  rcases h with q | q
  · rw [decide_eq_false q]; rfl
  · rw [decide_eq_false q, Bool.and_false]; rfl
theorem eq0_y {U V : SSt} (h : s_n U = s_n V) (h2 : s_nd U = s_nd V) : 1 = b01 (eqP0 U V) := by
  unfold eqP0
  rw [decide_eq_true h, decide_eq_true h2]; rfl
theorem nI_p1 (n : Nat) : nI (n + 1) - 1 = nI n := pk_sub (a := n + 1) (b := 1) (by omega)
