/-! the law's invariant -/
def INV (N rr cnt np : Nat) (fk fn fo : Nat → Int32) (U V : SSt) (code : Int64) (cp : Nat) (en : Bool) (no : Nat) (ou : Nat → Int32) (wl wh rl rh : Int64) (bt : Nat) (xx : Int64) (ra : Nat) (bb wt nx cx pt le sc ss ww xc : Nat → Int32) (lo hi : Nat → Int64) : Prop :=
  (GI stA N rr np fk fn ∧ 6 ≤ rr) ∧ (RS 0 N np fk U bb wt nx cx pt le sc ss ww xc ∧ RS 1 N np fk V bb wt nx cx pt le sc ss ww xc) ∧ (SX N np fk U ∧ SX N np fk V) ∧ ((∀ j, fo j = 0 ∨ fo j = 1) ∧ ∀ j, np ≤ j → fo j = 0) ∧ (s_n U ≤ 8 * cnt ∧ s_n V ≤ 8 * cnt ∧ no ≤ 36 * cnt ∧ cp ≤ 4 + 32 * cnt) ∧ (ouI no ou ∧ CI rl rh ∧ s_bg V = 0 ∧ bt = s_bg U ∧ lo 1 = rl ∧ hi 1 = rh) ∧
  (en = true → xx = code ∧ ra = cp) ∧ (en = false → (CI wl wh ∧ lo 0 = wl ∧ hi 0 = wh) ∧ FRS N np fk fn V ∧ rl = 0 ∧ rh = 4294967295) ∧ (en = false → s_n U = 0 → s_bg U = 0 → FRS N np fk fn U ∧ wl = 0 ∧ wh = 4294967295 ∧ no = 0)
theorem CI_0 : CI 0 4294967295 := by
  have e0 : (0 : Int64) = lN 0 := by decide
  have e1 : (4294967295 : Int64) = lN 4294967295 := by decide
  rw [e0, e1]
  refine ⟨⟨0, 4294967295, rfl, rfl, by decide, by decide, Nat.mod_one _, Nat.mod_one _⟩, ?_⟩
  rw [setB_n (by decide) (by decide)]; decide
theorem nI_xor (a b : Nat) : nI a ^^^ nI b = nI (a ^^^ b) := by
  apply Int32.toBitVec_inj.1
  show BitVec.ofNat 32 a ^^^ BitVec.ofNat 32 b = BitVec.ofNat 32 (a ^^^ b)
  apply BitVec.eq_of_getLsbD_eq
  intro i hi
  simp [hi]
theorem spo_rng {a k : Int32} (ha : 0 ≤ a.toInt ∧ a.toInt < 256) (h1 : ¬ k < 1) (h2 : k ≤ 255) : 0 ≤ (a ^^^ k).toInt ∧ (a ^^^ k).toInt < 256 := by
  have e1 : (1 : Int32).toInt = 1 := by decide
  have e2 : (255 : Int32).toInt = 255 := by decide
  rw [i32_lt] at h1; rw [i32_le] at h2
  have ea : a = nI a.toInt.toNat := nI_of_toInt (by omega) (by omega)
  have ek : k = nI k.toInt.toNat := nI_of_toInt (by omega) (by omega)
  have hx : a.toInt.toNat ^^^ k.toInt.toNat < 2 ^ 8 := Nat.xor_lt_two_pow (by omega) (by omega)
  rw [ea, ek, nI_xor, nI_toInt (by omega)]
  have h8 : (2 : Nat) ^ 8 = 256 := by decide
  omega
theorem nd1 {N np : Nat} {fk : Nat → Int32} {V : SSt} (h : SX N np fk V) (h0 : s_bg V = 0) : s_nd V = 1 := by
  have h1 := h.2.1; rw [h0] at h1
  have e1 : (2 : Nat) ^ 0 = 1 := by decide
  have e2 : (2 : Nat) ^ (0 + 1) = 2 := by decide
  omega
section
variable {N rr cnt np : Nat} {fk fn fo : Nat → Int32} {U V : SSt} {code : Int64} {cp : Nat} {en : Bool} {no : Nat} {ou : Nat → Int32} {wl wh rl rh : Int64} {bt : Nat} {xx : Int64} {ra : Nat} {bb wt nx cx pt le sc ss ww xc : Nat → Int32} {lo hi : Nat → Int64}
variable {bb2 wt2 nx2 cx2 pt2 le2 sc2 ss2 ww2 xc2 : Nat → Int32} {lo2 hi2 : Nat → Int64}
theorem I_mono (h : INV N rr cnt np fk fn fo U V code cp en no ou wl wh rl rh bt xx ra bb wt nx cx pt le sc ss ww xc lo hi) : INV N rr (cnt + 1) np fk fn fo U V code cp en no ou wl wh rl rh bt xx ra bb wt nx cx pt le sc ss ww xc lo hi := by
  obtain ⟨hG, hR, hX, hF, ⟨b1, b2, b3, b4⟩, hO, h1, h2, h3⟩ := h
  exact ⟨hG, hR, hX, hF, ⟨by omega, by omega, by omega, by omega⟩, hO, h1, h2, h3⟩
theorem I_fore0 (h : INV N rr cnt np fk fn fo U V code cp en no ou wl wh rl rh bt xx ra bb wt nx cx pt le sc ss ww xc lo hi) : INV N rr (cnt + 1) np fk fn fo (foreS stA N np fk fo U) V code cp en no ou wl wh rl rh bt xx ra bb wt nx cx pt le sc ss ww xc lo hi := by
  obtain ⟨hG, ⟨r1, r2⟩, ⟨x1, x2⟩, hF, ⟨b1, b2, b3, b4⟩, ⟨o1, o2, o3, o4, o5⟩, h1, h2, h3⟩ := h
  refine ⟨hG, ⟨RS_fore r1, r2⟩, ⟨SX_fore hG.1.1 x1, x2⟩, hF, ⟨by rw [fore_n]; omega, by omega, by omega, by omega⟩, ⟨o1, o2, o3, by rw [fore_bg]; exact o4, o5⟩, h1, h2, fun e1 e2 e3 => ?_⟩
  rw [fore_n] at e2; rw [fore_bg] at e3
  have := h3 e1 e2 e3
  exact ⟨FRS_fore this.1, this.2⟩
theorem I_fore1 (h : INV N rr cnt np fk fn fo U V code cp en no ou wl wh rl rh bt xx ra bb wt nx cx pt le sc ss ww xc lo hi) : INV N rr (cnt + 1) np fk fn fo U (foreS stA N np fk fo V) code cp en no ou wl wh rl rh bt xx ra bb wt nx cx pt le sc ss ww xc lo hi := by
  obtain ⟨hG, ⟨r1, r2⟩, ⟨x1, x2⟩, hF, ⟨b1, b2, b3, b4⟩, ⟨o1, o2, o3, o4, o5⟩, h1, h2, h3⟩ := h
  exact ⟨hG, ⟨r1, RS_fore r2⟩, ⟨x1, SX_fore hG.1.1 x2⟩, hF, ⟨by omega, by rw [fore_n]; omega, by omega, by omega⟩, ⟨o1, o2, by rw [fore_bg]; exact o3, o4, o5⟩, h1, fun e1 => ⟨(h2 e1).1, FRS_fore (h2 e1).2.1, (h2 e1).2.2⟩, h3⟩
theorem I_off {j : Nat} (hj : j < np) (h : INV N rr cnt np fk fn fo U V code cp en no ou wl wh rl rh bt xx ra bb wt nx cx pt le sc ss ww xc lo hi) : INV N rr (cnt + 1) np fk fn (if fo j = 0 then upd fo j 1 else fo) U V code cp en no ou wl wh rl rh bt xx ra bb wt nx cx pt le sc ss ww xc lo hi := by
  obtain ⟨hG, hR, hX, ⟨f1, f2⟩, ⟨b1, b2, b3, b4⟩, hO, h1, h2, h3⟩ := h
  refine ⟨hG, hR, hX, ⟨fun i => ?_, fun i hi => ?_⟩, ⟨by omega, by omega, by omega, by omega⟩, hO, h1, h2, h3⟩
  · split
    · by_cases q : i = j
      · rw [q, upd_at]; exact Or.inr rfl
      · rw [upd_ne q]; exact f1 i
    · exact f1 i
  · split
    · rw [upd_ne (by omega)]; exact f2 i hi
    · exact f2 i hi
theorem I_spoil {i mk : Int32} (hno : no < 2 ^ 31) (h : INV N rr cnt np fk fn fo U V code cp en no ou wl wh rl rh bt xx ra bb wt nx cx pt le sc ss ww xc lo hi) : INV N rr (cnt + 1) np fk fn fo U V code cp en no (if spoB i mk no = true then upd ou i.toNatClampNeg (ou i.toNatClampNeg ^^^ mk) else ou) wl wh rl rh bt xx ra bb wt nx cx pt le sc ss ww xc lo hi := by
  obtain ⟨hG, hR, hX, hF, ⟨b1, b2, b3, b4⟩, ⟨o1, o2⟩, h1, h2, h3⟩ := h
  refine ⟨hG, hR, hX, hF, ⟨by omega, by omega, by omega, by omega⟩, ⟨?_, o2⟩, h1, h2, h3⟩
  split
  · next q =>
    simp only [spoB, Bool.and_eq_true, Bool.not_eq_true', decide_eq_false_iff_not, decide_eq_true_eq] at q
    obtain ⟨j, hj, ej⟩ := inR_of hno q.1
    rw [ej, nI_clamp (by omega)]
    intro k hk
    by_cases z : k = j
    · rw [z, upd_at]; exact spo_rng (o1 j hj) q.2.1 q.2.2
    · rw [upd_ne z]; exact o1 k hk
  · exact o1
theorem I_bit {on : Int32} {E : Int64 × Int64 × Nat × (Nat → Int32)} (hE : E = emF 4 (nLo on (lo 0) (mdS stA N np fk fo U (lo 0) (hi 0))) (nHi on (hi 0) (mdS stA N np fk fo U (lo 0) (hi 0))) no ou) (hc : cnt < 64) (hen : en = false) (h : INV N rr cnt np fk fn fo U V code cp en no ou (lo 0) (hi 0) rl rh bt xx ra bb wt nx cx pt le sc ss ww xc lo hi) (hRS : RS 0 N np fk (stepS stA N np fk fn fo U on) bb2 wt2 nx2 cx2 pt2 le2 sc2 ss2 ww2 xc2) (hOT : ∀ s2 V, s2 < 2 → ¬ s2 = 0 → RS s2 N np fk V bb wt nx cx pt le sc ss ww xc → RS s2 N np fk V bb2 wt2 nx2 cx2 pt2 le2 sc2 ss2 ww2 xc2) (hlo : lo2 0 = E.1 ∧ lo2 1 = lo 1) (hhi : hi2 0 = E.2.1 ∧ hi2 1 = hi 1) :
    INV N rr (cnt + 1) np fk fn fo (stepS stA N np fk fn fo U on) V code cp en E.2.2.1 E.2.2.2 E.1 E.2.1 rl rh ((bt + 1) % 8) xx ra bb2 wt2 nx2 cx2 pt2 le2 sc2 ss2 ww2 xc2 lo2 hi2 := by
  obtain ⟨hG, ⟨r1, r2⟩, ⟨x1, x2⟩, hF, ⟨b1, b2, b3, b4⟩, ⟨o1, o2, o3, o4, o5, o6⟩, h1, h2, h3⟩ := h
  obtain ⟨⟨c1, -, -⟩, f1, f2⟩ := h2 hen
  have hn := n_step (st := stA) (N := N) (np := np) (fk := fk) (fn := fn) (fo := fo) (U := U) (on := on)
  have hnar : CD 0 (nLo on (lo 0) (mdS stA N np fk fo U (lo 0) (hi 0))) (nHi on (hi 0) (mdS stA N np fk fo U (lo 0) (hi 0))) := nar_I c1 (chS_n stA N np fk fo U)
  have hI := emF_I (k := 4) (j := 0) rfl hnar o1
  rw [← hE] at hI
  obtain ⟨i1, i2, i3⟩ := hI
  refine ⟨hG, ⟨hRS, hOT 1 V (by decide) (by decide) r2⟩, ⟨SX_step hG.1 x1 (by omega), x2⟩, hF, ⟨by omega, by omega, by omega, by omega⟩, ⟨i3, o2, o3, by rw [o4]; exact bt_step x1.1.2.2.1, by rw [hlo.2]; exact o5, by rw [hhi.2]; exact o6⟩, fun e => absurd e (by rw [hen]; decide), fun _ => ⟨⟨i1, hlo.1, hhi.1⟩, f1, f2⟩, fun _ e2 e3 => ?_⟩
  exfalso
  rw [step_n] at e2; rw [step_bg] at e3
  by_cases q : s_bg U = 7
  · rw [if_pos q] at e2; omega
  · rw [if_neg q] at e3; omega
theorem I_oct {w : WSt} (hc : cnt < 64) (hen : en = false) (hb0 : s_bg U = 0) {x : Int32} (hw : w = octN stA N np fk fn fo x (U, lo 0, hi 0, no, ou) 8) (h : INV N rr cnt np fk fn fo U V code cp en no ou (lo 0) (hi 0) rl rh bt xx ra bb wt nx cx pt le sc ss ww xc lo hi) (hRS : RS 0 N np fk w.1 bb2 wt2 nx2 cx2 pt2 le2 sc2 ss2 ww2 xc2) (hOT : ∀ s2 V, s2 < 2 → ¬ s2 = 0 → RS s2 N np fk V bb wt nx cx pt le sc ss ww xc → RS s2 N np fk V bb2 wt2 nx2 cx2 pt2 le2 sc2 ss2 ww2 xc2) (hlo : lo2 0 = w.2.1 ∧ lo2 1 = lo 1) (hhi : hi2 0 = w.2.2.1 ∧ hi2 1 = hi 1) (hn8 : 0 < s_n w.1) :
    INV N rr (cnt + 1) np fk fn fo w.1 V code cp en w.2.2.2.1 w.2.2.2.2 w.2.1 w.2.2.1 rl rh (s_bg w.1) xx ra bb2 wt2 nx2 cx2 pt2 le2 sc2 ss2 ww2 xc2 lo2 hi2 := by
  obtain ⟨hG, ⟨r1, r2⟩, ⟨x1, x2⟩, hF, ⟨b1, b2, b3, b4⟩, ⟨o1, o2, o3, o4, o5, o6⟩, h1, h2, h3⟩ := h
  obtain ⟨⟨c1, -, -⟩, f1, f2⟩ := h2 hen
  have hW0 : WI (N := N) (np := np) (fk := fk) (U, lo 0, hi 0, no, ou) (8 * cnt) (36 * cnt) := ⟨x1, c1, o1, b1, b3⟩
  have hW := WI_oct (fo := fo) (b := x) hG.1 hW0 8 (by omega)
  rw [← hw] at hW
  obtain ⟨i1, i2, i3, i4, i5⟩ := hW
  exact ⟨hG, ⟨hRS, hOT 1 V (by decide) (by decide) r2⟩, ⟨i1, x2⟩, hF, ⟨by omega, by omega, by omega, by omega⟩, ⟨i3, o2, o3, rfl, by rw [hlo.2]; exact o5, by rw [hhi.2]; exact o6⟩, fun e => absurd e (by rw [hen]; decide), fun _ => ⟨⟨i2, hlo.1, hhi.1⟩, f1, f2⟩, fun _ e2 _ => absurd e2 (by omega)⟩
theorem I_end (hen : en = false) (h : INV N rr cnt np fk fn fo U V code cp en no ou (lo 0) (hi 0) rl rh bt xx ra bb wt nx cx pt le sc ss ww xc lo hi) :
    INV N rr (cnt + 1) np fk fn fo U V (tkC (no + 4) (eOu (lo 0) no ou 4) 4) 4 true (no + 4) (eOu (lo 0) no ou 4) (eLo (lo 0) 4) (eHi (hi 0) 4) 0 4294967295 bt (tkC (no + 4) (eOu (lo 0) no ou 4) 4) 4 bb wt nx cx pt le sc ss ww xc lo hi := by
  obtain ⟨hG, hR, hX, hF, ⟨b1, b2, b3, b4⟩, ⟨o1, o2, o3, o4, o5, o6⟩, h1, h2, h3⟩ := h
  obtain ⟨-, f1, f2, f3⟩ := h2 hen
  exact ⟨hG, hR, hX, hF, ⟨by omega, by omega, by omega, by omega⟩, ⟨eOu_I _ o1 4, CI_0, o3, o4, by rw [o5, f2], by rw [o6, f3]⟩, fun _ => ⟨rfl, rfl⟩, fun e => absurd e (by decide), fun e => absurd e (by decide)⟩
theorem I_get {w : DSt} (hc : cnt < 64) (hen : en = true) (hw : w = rdN stA N np fk fn fo no ou (V, lo 1, hi 1, xx, ra) 8) (h : INV N rr cnt np fk fn fo U V xx ra en no ou wl wh (lo 1) (hi 1) bt xx ra bb wt nx cx pt le sc ss ww xc lo hi) (hRS : RS 1 N np fk w.1 bb2 wt2 nx2 cx2 pt2 le2 sc2 ss2 ww2 xc2) (hOT : ∀ s2 V, s2 < 2 → ¬ s2 = 1 → RS s2 N np fk V bb wt nx cx pt le sc ss ww xc → RS s2 N np fk V bb2 wt2 nx2 cx2 pt2 le2 sc2 ss2 ww2 xc2) (hlo : lo2 1 = w.2.1) (hhi : hi2 1 = w.2.2.1) :
    INV N rr (cnt + 1) np fk fn fo U w.1 w.2.2.2.1 w.2.2.2.2 en no ou wl wh w.2.1 w.2.2.1 bt w.2.2.2.1 w.2.2.2.2 bb2 wt2 nx2 cx2 pt2 le2 sc2 ss2 ww2 xc2 lo2 hi2 := by
  obtain ⟨hG, ⟨r1, r2⟩, ⟨x1, x2⟩, hF, ⟨b1, b2, b3, b4⟩, ⟨o1, o2, o3, o4, o5, o6⟩, h1, h2, h3⟩ := h
  have hD0 : DI (N := N) (np := np) (fk := fk) (V, lo 1, hi 1, xx, ra) (8 * cnt) (4 + 32 * cnt) := ⟨x2, o2, b2, b4⟩
  have hD := DI_rd (fo := fo) (no := no) (ou := ou) hG.1 hD0 8 (by omega)
  have h8 := rdN_8 (st := stA) (N := N) (np := np) (fk := fk) (fn := fn) (fo := fo) (no := no) (ou := ou) (w := (V, lo 1, hi 1, xx, ra)) o3 (nd1 x2 o3)
  rw [← hw] at hD h8
  obtain ⟨i1, i2, i3, i4⟩ := hD
  exact ⟨hG, ⟨hOT 0 U (by decide) (by decide) r1, hRS⟩, ⟨x1, i1⟩, hF, ⟨by omega, by omega, by omega, by omega⟩, ⟨o1, i2, h8.1, o4, hlo, hhi⟩, fun _ => ⟨rfl, rfl⟩, fun e => absurd e (by rw [hen]; decide), fun e => absurd e (by rw [hen]; decide)⟩
theorem I_again (h : INV N rr cnt np fk fn fo U V code cp en no ou wl wh rl rh bt xx ra bb wt nx cx pt le sc ss ww xc lo hi) (hRS : ∀ U, FRS N np fk fn U → (∀ j, j < 2000 → bb (2050 * 1 + j) = s_f U j) → RS 1 N np fk U bb wt2 nx2 cx2 pt2 le2 sc2 ss2 ww2 xc2) (hOT : ∀ V, RS 0 N np fk V bb wt nx cx pt le sc ss ww xc → RS 0 N np fk V bb wt2 nx2 cx2 pt2 le2 sc2 ss2 ww2 xc2) (hlh : (lo2 1 = 0 ∧ hi2 1 = 4294967295) ∧ (lo2 0 = lo 0 ∧ hi2 0 = hi 0)) :
    INV N rr (cnt + 1) np fk fn fo U (resetS N np fk fn V) (tkC no ou 4) 4 en no ou wl wh 0 4294967295 bt (tkC no ou 4) 4 bb wt2 nx2 cx2 pt2 le2 sc2 ss2 ww2 xc2 lo2 hi2 := by
  obtain ⟨hG, ⟨r1, r2⟩, ⟨x1, x2⟩, hF, ⟨b1, b2, b3, b4⟩, ⟨o1, o2, o3, o4, o5, o6⟩, h1, h2, h3⟩ := h
  refine ⟨hG, ⟨hOT U r1, hRS _ FRS_reset (fun j hj => by rw [rst_f]; exact r2.1.2.2 j hj)⟩, ⟨x1, SX_reset x2 hG.1.1⟩, hF, ⟨by omega, by rw [rst_n]; exact Nat.zero_le _, by omega, by omega⟩, ⟨o1, CI_0, rst_bg, o4, hlh.1.1, hlh.1.2⟩, fun _ => ⟨rfl, rfl⟩, fun e => ?_, h3⟩
  obtain ⟨⟨c1, c2, c3⟩, -, -⟩ := h2 e
  exact ⟨⟨c1, hlh.2.1.trans c2, hlh.2.2.trans c3⟩, FRS_reset, rfl, rfl⟩
theorem I_clear (h : INV N rr cnt np fk fn fo U V code cp en no ou wl wh rl rh bt xx ra bb wt nx cx pt le sc ss ww xc lo hi) (hRS : ∀ U V, FRS N np fk fn U → FRS N np fk fn V → (∀ j, j < 2000 → bb (2050 * 0 + j) = s_f U j) → (∀ j, j < 2000 → bb (2050 * 1 + j) = s_f V j) → RS 0 N np fk U bb wt2 nx2 cx2 pt2 le2 sc2 ss2 ww2 xc2 ∧ RS 1 N np fk V bb wt2 nx2 cx2 pt2 le2 sc2 ss2 ww2 xc2) (hlh : (lo2 0 = 0 ∧ hi2 0 = 4294967295) ∧ (lo2 1 = 0 ∧ hi2 1 = 4294967295)) :
    INV N rr (cnt + 1) np fk fn fo (resetS N np fk fn U) (resetS N np fk fn V) (tkC 0 ou 4) 4 false 0 ou 0 4294967295 0 4294967295 0 xx 0 bb wt2 nx2 cx2 pt2 le2 sc2 ss2 ww2 xc2 lo2 hi2 := by
  obtain ⟨hG, ⟨r1, r2⟩, ⟨x1, x2⟩, hF, ⟨b1, b2, b3, b4⟩, ⟨o1, o2, o3, o4, o5, o6⟩, h1, h2, h3⟩ := h
  exact ⟨hG, hRS _ _ FRS_reset FRS_reset (fun j hj => by rw [rst_f]; exact r1.1.2.2 j hj) (fun j hj => by rw [rst_f]; exact r2.1.2.2 j hj), ⟨SX_reset x1 hG.1.1, SX_reset x2 hG.1.1⟩, hF, ⟨by rw [rst_n]; exact Nat.zero_le _, by rw [rst_n]; exact Nat.zero_le _, Nat.zero_le _, by omega⟩, ⟨fun j hj => absurd hj (Nat.not_lt_zero j), CI_0, rst_bg, rst_bg.symm, hlh.2.1, hlh.2.2⟩, fun e => absurd e (by decide), fun _ => ⟨⟨CI_0, hlh.1.1, hlh.1.2⟩, FRS_reset, rfl, rfl⟩, fun _ _ _ => ⟨FRS_reset, rfl, rfl, rfl⟩⟩
theorem I_predf (hen : en = false) (hb0 : s_n U = 0) (hb1 : s_bg U = 0) (h : INV N rr cnt np fk fn fo U V code cp en no ou wl wh rl rh bt xx ra bb wt nx cx pt le sc ss ww xc lo hi) : INV N rr (cnt + 1) np fk fn fo (begS np fk fn U) (begS np fk fn V) code cp en no ou wl wh rl rh bt xx ra bb wt nx cx pt le sc ss ww xc lo hi := by
  obtain ⟨hG, ⟨r1, r2⟩, ⟨x1, x2⟩, hF, ⟨b1, b2, b3, b4⟩, ⟨o1, o2, o3, o4, o5, o6⟩, h1, h2, h3⟩ := h
  obtain ⟨f1, f2⟩ := h3 hen hb0 hb1
  obtain ⟨g1, g2, g3⟩ := h2 hen
  exact ⟨hG, ⟨RS_beg f1 hG.1.1 r1, RS_beg g2 hG.1.1 r2⟩, ⟨SX_beg f1 x1 (Nat.le_refl _) hG.1.1, SX_beg g2 x2 (Nat.le_refl _) hG.1.1⟩, hF, ⟨by rw [beg_n]; omega, by rw [beg_n]; omega, by omega, by omega⟩, ⟨o1, o2, by rw [beg_bg]; exact o3, by rw [beg_bg]; exact o4, o5, o6⟩, h1, fun _ => ⟨g1, FRS_beg g2, g3⟩, fun _ _ _ => ⟨FRS_beg f1, f2⟩⟩
theorem I_pred {kd nn : Int32} (hal : allowB kd nn = true) (h8 : np < 8) (hen : en = false) (hb0 : s_n U = 0) (hb1 : s_bg U = 0) (h : INV N rr cnt np fk fn fo U V code cp en no ou wl wh rl rh bt xx ra bb wt nx cx pt le sc ss ww xc lo hi)
    (hRS : ∀ U V, FRS N (np + 1) (upd fk np kd) (upd fn np nn) U → FRS N (np + 1) (upd fk np kd) (upd fn np nn) V → (∀ j, j < 2000 → bb (2050 * 0 + j) = s_f U j) → (∀ j, j < 2000 → bb (2050 * 1 + j) = s_f V j) → RS 0 N (np + 1) (upd fk np kd) U bb wt2 nx2 cx2 pt2 le2 sc2 ss2 ww2 xc2 ∧ RS 1 N (np + 1) (upd fk np kd) V bb wt2 nx2 cx2 pt2 le2 sc2 ss2 ww2 xc2) (hlh : (lo2 0 = 0 ∧ hi2 0 = 4294967295) ∧ (lo2 1 = 0 ∧ hi2 1 = 4294967295)) :
    no = 0 ∧ upd fo np 0 = fo ∧ INV N rr (cnt + 1) (np + 1) (upd fk np kd) (upd fn np nn) fo (begS (np + 1) (upd fk np kd) (upd fn np nn) U) (begS (np + 1) (upd fk np kd) (upd fn np nn) V) code cp en 0 ou wl wh rl rh 0 xx 0 bb wt2 nx2 cx2 pt2 le2 sc2 ss2 ww2 xc2 lo2 hi2 := by
  obtain ⟨hG, ⟨r1, r2⟩, ⟨x1, x2⟩, ⟨q1, q2⟩, ⟨b1, b2, b3, b4⟩, ⟨o1, o2, o3, o4, o5, o6⟩, h1, h2, h3⟩ := h
  obtain ⟨f1, f2, f3, f4⟩ := h3 hen hb0 hb1
  obtain ⟨⟨g1, g2, g3⟩, g4, g5, g6⟩ := h2 hen
  obtain ⟨⟨k1, k2, k3, k4, k5⟩, k6⟩ := hG
  refine ⟨f4, ?_, ⟨⟨h8, k2, k3, hal_s k4 hal, k5⟩, k6⟩, hRS _ _ (FRS_beg f1) (FRS_beg g4) (fun j hj => by rw [beg_f]; exact r1.1.2.2 j hj) (fun j hj => by rw [beg_f]; exact r2.1.2.2 j hj), ⟨SX_beg f1 x1 (by omega) h8, SX_beg g4 x2 (by omega) h8⟩, ⟨q1, fun j hj => q2 j (by omega)⟩, ⟨by rw [beg_n]; omega, by rw [beg_n]; omega, by omega, by omega⟩, ⟨fun j hj => absurd hj (Nat.not_lt_zero j), o2, by rw [beg_bg]; exact o3, by rw [beg_bg]; exact hb1.symm, by rw [hlh.2.1, g5], by rw [hlh.2.2, g6]⟩, fun e => absurd e (by rw [hen]; decide), fun _ => ⟨⟨g1, by rw [hlh.1.1, f2], by rw [hlh.1.2, f3]⟩, FRS_beg g4, g5, g6⟩, fun _ _ _ => ⟨FRS_beg f1, f2, f3, rfl⟩⟩
  funext j
  by_cases z : j = np
  · rw [z, upd_at, q2 np (Nat.le_refl _)]
  · rw [upd_ne z]
/-- the law's beginning -/
abbrev inU (N : Nat) : SSt := mkS 0 1 0 (fun _ => 0) (fillTo (fun _ => 0) 32768 N) (fun _ => 0) 0 0 (wFill (fun _ => 0) 256) 0 0 (wFill (fun _ => 0) 256) 0 (cFill (fun _ => 0) 8448) (fun _ => 0) (fun _ => 0) (fun _ => 0) (upd (fun _ => 0) 8 256)
theorem FRS_in (N : Nat) (fk fn : Nat → Int32) : FRS N 0 fk fn (inU N) := by
  refine ⟨⟨rfl, rfl, rfl⟩, fun j hj => ⟨?_, rfl⟩, fun j hj => ?_, fun j hj => ?_, fun j hj => rfl, fun j hj => absurd hj (Nat.not_lt_zero j)⟩
  · show fillTo (fun _ => 0) 32768 N j = 32768
    unfold fillTo; rw [if_pos hj]
  · show wFill (fun _ => 0) 256 j = w0 8 j ∧ wFill (fun _ => 0) 256 j = w0 8 j
    unfold wFill w0
    rw [if_pos hj]
    by_cases q : j % 9 = 8
    · rw [if_pos ⟨q, by omega⟩, if_neg (by omega)]; exact ⟨rfl, rfl⟩
    · rw [if_neg (fun z => q z.1), if_pos (by omega)]; exact ⟨rfl, rfl⟩
  · show cFill (fun _ => 0) 8448 j = c0 j
    unfold cFill c0; rw [if_pos hj]
theorem SX_in (N : Nat) (fk : Nat → Int32) : SX N 0 fk (inU N) := by
  refine SX_fr (fn := fun _ => 0) (FRS_in N fk _) (fun j hj => by show 0 < 2 ^ 19; decide) (fun j h1 h2 => ?_) ?_ (by decide)
  · show upd (fun _ => 0) 8 256 j = 0
    rw [upd_ne (by omega)]
  · show upd (fun _ => 0) 8 256 8 = 256
    exact upd_at _ _ _
theorem I_start (hN : N = 2 ^ rr) (h6 : 6 ≤ rr) (hrr : rr ≤ 12) (hRS : ∀ U V, FRS N 0 (fun _ => 0) (fun _ => 0) U → FRS N 0 (fun _ => 0) (fun _ => 0) V → (∀ j, j < 2000 → (fun _ => 0) (2050 * 0 + j) = s_f U j) → (∀ j, j < 2000 → (fun _ => 0) (2050 * 1 + j) = s_f V j) → RS 0 N 0 (fun _ => 0) U (fun _ => 0) wt2 nx2 cx2 pt2 le2 sc2 ss2 ww2 xc2 ∧ RS 1 N 0 (fun _ => 0) V (fun _ => 0) wt2 nx2 cx2 pt2 le2 sc2 ss2 ww2 xc2) (hlh : (lo2 0 = 0 ∧ hi2 0 = 4294967295) ∧ (lo2 1 = 0 ∧ hi2 1 = 4294967295)) :
    INV N rr 0 0 (fun _ => 0) (fun _ => 0) (fun _ => 0) (inU N) (inU N) 0 0 false 0 (fun _ => 0) 0 4294967295 0 4294967295 0 0 0 (fun _ => 0) wt2 nx2 cx2 pt2 le2 sc2 ss2 ww2 xc2 lo2 hi2 := by
  refine ⟨⟨⟨by decide, hN, hrr, fun j hj => absurd hj (Nat.not_lt_zero j), stA_rng⟩, h6⟩, hRS _ _ (FRS_in N _ _) (FRS_in N _ _) (fun j hj => rfl) (fun j hj => rfl), ⟨SX_in N _, SX_in N _⟩, ⟨fun _ => Or.inl rfl, fun _ _ => rfl⟩, ⟨Nat.zero_le _, Nat.zero_le _, Nat.zero_le _, Nat.zero_le _⟩, ⟨fun j hj => absurd hj (Nat.not_lt_zero j), CI_0, rfl, rfl, hlh.2.1, hlh.2.2⟩, fun e => absurd e (by decide), fun _ => ⟨⟨CI_0, hlh.1.1, hlh.1.2⟩, FRS_in N _ _, rfl, rfl⟩, fun _ _ _ => ⟨FRS_in N _ _, rfl, rfl, rfl⟩⟩
end
