/-! what a state's parts are after foretelling, beginning, resetting -/
section
variable {st : Nat → Int32} {N np : Nat} {fk fn fo : Nat → Int32} {U : SSt}
theorem fore_n : s_n (foreS st N np fk fo U) = s_n U := by unfold foreS; with_reducible rfl
theorem fore_nd : s_nd (foreS st N np fk fo U) = s_nd U := by unfold foreS; with_reducible rfl
theorem fore_bg : s_bg (foreS st N np fk fo U) = s_bg U := by unfold foreS; with_reducible rfl
theorem fore_f : s_f (foreS st N np fk fo U) = s_f U := by unfold foreS; with_reducible rfl
theorem fore_fc : s_fc (foreS st N np fk fo U) = s_fc U := by unfold foreS; with_reducible rfl
theorem fore_fs : s_fs (foreS st N np fk fo U) = s_fs U := by unfold foreS; with_reducible rfl
theorem fore_r0 : s_r0 (foreS st N np fk fo U) = nI (9 * s_nd U) := by unfold foreS; with_reducible rfl
theorem fore_t0 : s_t0 (foreS st N np fk fo U) = t0S st N np fk fo U := by unfold foreS; with_reducible rfl
theorem fore_f0 : s_f0 (foreS st N np fk fo U) = s_f0 U := by unfold foreS; with_reducible rfl
theorem fore_r1 : s_r1 (foreS st N np fk fo U) = nI (9 * lbN (s_f U) (s_n U)) := by unfold foreS; with_reducible rfl
theorem fore_t1 : s_t1 (foreS st N np fk fo U) = t1S st N np fk fo U := by unfold foreS; with_reducible rfl
theorem fore_f1 : s_f1 (foreS st N np fk fo U) = s_f1 U := by unfold foreS; with_reducible rfl
theorem fore_nr : s_nr (foreS st N np fk fo U) = nI (nearN (s_nd U) (tN st (mxS st N np fk fo U))) := by unfold foreS; with_reducible rfl
theorem fore_fx : s_fx (foreS st N np fk fo U) = s_fx U := by unfold foreS; with_reducible rfl
theorem fore_mp : s_mp (foreS st N np fk fo U) = s_mp U := by unfold foreS; with_reducible rfl
theorem fore_ml : s_ml (foreS st N np fk fo U) = s_ml U := by unfold foreS; with_reducible rfl
theorem fore_cx : s_cx (foreS st N np fk fo U) = s_cx U := by unfold foreS; with_reducible rfl
theorem fore_xi : s_xi (foreS st N np fk fo U) = xiS st N np fk fo U := by unfold foreS; with_reducible rfl
theorem beg_n : s_n (begS np fk fn U) = s_n U := by unfold begS; with_reducible rfl
theorem beg_nd : s_nd (begS np fk fn U) = s_nd U := by unfold begS; with_reducible rfl
theorem beg_bg : s_bg (begS np fk fn U) = s_bg U := by unfold begS; with_reducible rfl
theorem beg_f : s_f (begS np fk fn U) = s_f U := by unfold begS; with_reducible rfl
theorem beg_fc : s_fc (begS np fk fn U) = s_fc U := by unfold begS; with_reducible rfl
theorem beg_fs : s_fs (begS np fk fn U) = s_fs U := by unfold begS; with_reducible rfl
theorem beg_r0 : s_r0 (begS np fk fn U) = s_r0 U := by unfold begS; with_reducible rfl
theorem beg_t0 : s_t0 (begS np fk fn U) = s_t0 U := by unfold begS; with_reducible rfl
theorem beg_f0 : s_f0 (begS np fk fn U) = s_f0 U := by unfold begS; with_reducible rfl
theorem beg_r1 : s_r1 (begS np fk fn U) = s_r1 U := by unfold begS; with_reducible rfl
theorem beg_t1 : s_t1 (begS np fk fn U) = s_t1 U := by unfold begS; with_reducible rfl
theorem beg_f1 : s_f1 (begS np fk fn U) = s_f1 U := by unfold begS; with_reducible rfl
theorem beg_nr : s_nr (begS np fk fn U) = s_nr U := by unfold begS; with_reducible rfl
theorem beg_fx : s_fx (begS np fk fn U) = s_fx U := by unfold begS; with_reducible rfl
theorem beg_mp : s_mp (begS np fk fn U) = bgP (s_f U) (s_n U) fk fn (s_mp U) (s_ml U) np := by unfold begS; with_reducible rfl
theorem beg_ml : s_ml (begS np fk fn U) = bgL (s_f U) (s_n U) fk fn (s_mp U) (s_ml U) np := by unfold begS; with_reducible rfl
theorem beg_cx : s_cx (begS np fk fn U) = bgC (s_f U) (s_n U) fk fn (s_cx U) np := by unfold begS; with_reducible rfl
theorem beg_xi : s_xi (begS np fk fn U) = s_xi U := by unfold begS; with_reducible rfl
theorem rst_n : s_n (resetS N np fk fn U) = 0 := by unfold resetS; with_reducible rfl
theorem rst_nd : s_nd (resetS N np fk fn U) = 1 := by unfold resetS; with_reducible rfl
theorem rst_bg : s_bg (resetS N np fk fn U) = 0 := by unfold resetS; with_reducible rfl
theorem rst_f : s_f (resetS N np fk fn U) = s_f U := by unfold resetS; with_reducible rfl
theorem rst_fc : s_fc (resetS N np fk fn U) = fillTo (s_fc U) 32768 N := by unfold resetS; with_reducible rfl
theorem rst_fs : s_fs (resetS N np fk fn U) = fillTo (s_fs U) 0 N := by unfold resetS; with_reducible rfl
theorem rst_r0 : s_r0 (resetS N np fk fn U) = s_r0 U := by unfold resetS; with_reducible rfl
theorem rst_t0 : s_t0 (resetS N np fk fn U) = s_t0 U := by unfold resetS; with_reducible rfl
theorem rst_f0 : s_f0 (resetS N np fk fn U) = wFill (s_f0 U) 256 := by unfold resetS; with_reducible rfl
theorem rst_r1 : s_r1 (resetS N np fk fn U) = s_r1 U := by unfold resetS; with_reducible rfl
theorem rst_t1 : s_t1 (resetS N np fk fn U) = s_t1 U := by unfold resetS; with_reducible rfl
theorem rst_f1 : s_f1 (resetS N np fk fn U) = wFill (s_f1 U) 256 := by unfold resetS; with_reducible rfl
theorem rst_nr : s_nr (resetS N np fk fn U) = s_nr U := by unfold resetS; with_reducible rfl
theorem rst_fx : s_fx (resetS N np fk fn U) = cFill (s_fx U) 8448 := by unfold resetS; with_reducible rfl
theorem rst_mp : s_mp (resetS N np fk fn U) = bgP (s_f U) 0 fk fn (s_mp U) (zTo (s_ml U) 8) np := by unfold resetS; with_reducible rfl
theorem rst_ml : s_ml (resetS N np fk fn U) = bgL (s_f U) 0 fk fn (s_mp U) (zTo (s_ml U) 8) np := by unfold resetS; with_reducible rfl
theorem rst_cx : s_cx (resetS N np fk fn U) = bgC (s_f U) 0 fk fn (s_cx U) np := by unfold resetS; with_reducible rfl
theorem rst_xi : s_xi (resetS N np fk fn U) = s_xi U := by unfold resetS; with_reducible rfl
end
section
variable {N np sd : Nat} {fk fn : Nat → Int32} {U U2 : SSt} {bb wt nx cx pt le sc ss ww xc : Nat → Int32}
theorem RS_eq (e1 : s_n U2 = s_n U) (e2 : s_nd U2 = s_nd U) (e3 : s_f U2 = s_f U) (e4 : s_cx U2 = s_cx U) (e5 : s_mp U2 = s_mp U) (e6 : s_ml U2 = s_ml U) (e7 : s_fc U2 = s_fc U) (e8 : s_fs U2 = s_fs U) (e9 : s_f0 U2 = s_f0 U) (e10 : s_f1 U2 = s_f1 U) (e11 : s_fx U2 = s_fx U) (h : RS sd N np fk U bb wt nx cx pt le sc ss ww xc) : RS sd N np fk U2 bb wt nx cx pt le sc ss ww xc := by
  obtain ⟨⟨a1, a2, a3⟩, hc, hm, ⟨b1, b2⟩, hw, hx⟩ := h
  refine ⟨⟨by rw [e1]; exact a1, by rw [e2]; exact a2, by rw [e3]; exact a3⟩, by rw [e4]; exact hc, by rw [e5, e6]; exact hm, ⟨fun j hj => ?_, b2⟩, fun k hk => ⟨fun j hj => ?_, ?_, (hw k hk).2.2⟩, fun j hj => ?_⟩
  · rw [e7, e8]; exact b1 j hj
  · rw [e9, e10]; exact (hw k hk).1 j hj
  · rw [e9, e10]; exact (hw k hk).2.1
  · rw [e11]; exact hx j hj
theorem FRS_eq (e1 : s_n U2 = s_n U) (e2 : s_nd U2 = s_nd U) (e12 : s_bg U2 = s_bg U) (e3 : s_f U2 = s_f U) (e4 : s_cx U2 = s_cx U) (e6 : s_ml U2 = s_ml U) (e7 : s_fc U2 = s_fc U) (e8 : s_fs U2 = s_fs U) (e9 : s_f0 U2 = s_f0 U) (e10 : s_f1 U2 = s_f1 U) (e11 : s_fx U2 = s_fx U) (h : FRS N np fk fn U) : FRS N np fk fn U2 := by
  obtain ⟨⟨a1, a2, a3⟩, hs, hw, hx, hm, hc⟩ := h
  refine ⟨⟨by rw [e1]; exact a1, by rw [e2]; exact a2, by rw [e12]; exact a3⟩, fun j hj => ?_, fun j hj => ?_, fun j hj => ?_, fun j hj => ?_, fun j hj hk => ?_⟩
  · rw [e7, e8]; exact hs j hj
  · rw [e9, e10]; exact hw j hj
  · rw [e11]; exact hx j hj
  · rw [e6]; exact hm j hj
  · rw [e4, e3]; exact hc j hj hk
theorem SX_eq (e1 : s_n U2 = s_n U) (e2 : s_nd U2 = s_nd U) (e12 : s_bg U2 = s_bg U) (e3 : s_f U2 = s_f U) (e5 : s_mp U2 = s_mp U) (e6 : s_ml U2 = s_ml U) (e7 : s_fc U2 = s_fc U) (e8 : s_fs U2 = s_fs U) (e9 : s_f0 U2 = s_f0 U) (e10 : s_f1 U2 = s_f1 U) (e11 : s_fx U2 = s_fx U) (ex : ∀ j, np ≤ j → s_xi U2 j = s_xi U j) (hnp : np ≤ 8) (h : SX N np fk U) : SX N np fk U2 := by
  obtain ⟨⟨i1, i2, i3, i4, i5, i6, i7⟩, ⟨x1, x2⟩, x3, x4, x5, x6, x7, x8⟩ := h
  refine ⟨⟨by rw [e1]; exact i1, by rw [e2]; exact i2, by rw [e12]; exact i3, by rw [e7]; exact i4, by rw [e1, e3]; exact i5, by rw [e5]; exact i6, by rw [e6]; exact i7⟩, ⟨by rw [e12, e2]; exact x1, by rw [e12, e2]; exact x2⟩, by rw [e8]; exact x3, by rw [e11]; exact x4, by rw [e1, e5, e6]; exact x5, fun j h1 h2 => ?_, ?_, fun k hk j h1 h2 => ?_⟩
  · rw [ex j h1]; exact x6 j h1 h2
  · rw [ex 8 hnp]; exact x7
  · rw [e9, e10]; exact x8 k hk j h1 h2
end
section
variable {st : Nat → Int32} {N np sd : Nat} {fk fn fo : Nat → Int32} {U : SSt} {bb wt nx cx pt le sc ss ww xc : Nat → Int32}
theorem RS_fore (h : RS sd N np fk U bb wt nx cx pt le sc ss ww xc) : RS sd N np fk (foreS st N np fk fo U) bb wt nx cx pt le sc ss ww xc := RS_eq fore_n fore_nd fore_f fore_cx fore_mp fore_ml fore_fc fore_fs fore_f0 fore_f1 fore_fx h
theorem FRS_fore (h : FRS N np fk fn U) : FRS N np fk fn (foreS st N np fk fo U) := FRS_eq fore_n fore_nd fore_bg fore_f fore_cx fore_ml fore_fc fore_fs fore_f0 fore_f1 fore_fx h
theorem SX_fore (hnp : np ≤ 8) (h : SX N np fk U) : SX N np fk (foreS st N np fk fo U) := SX_eq fore_n fore_nd fore_bg fore_f fore_mp fore_ml fore_fc fore_fs fore_f0 fore_f1 fore_fx (fun j hj => by rw [fore_xi, xiS_ge hj]) hnp h
end
/-! a fresh side at a new predictor -/
theorem w0_20 {k j : Nat} (hj : j < 8) : w0 8 (9 * k + j) = 20000 := by
  unfold w0; rw [show (9 * k + j) % 9 = j by omega, if_pos hj]
section
variable {N np np2 : Nat} {fk fn fk2 fn2 : Nat → Int32} {U : SSt}
theorem FRS_beg (h : FRS N np fk fn U) : FRS N np2 fk2 fn2 (begS np2 fk2 fn2 U) := by
  obtain ⟨⟨a1, a2, a3⟩, hs, hw, hx, hm, hc⟩ := h
  refine ⟨⟨by rw [beg_n]; exact a1, by rw [beg_nd]; exact a2, by rw [beg_bg]; exact a3⟩, fun j hj => ?_, fun j hj => ?_, fun j hj => ?_, fun j hj => ?_, fun j hj hk => ?_⟩
  · rw [beg_fc, beg_fs]; exact hs j hj
  · rw [beg_f0, beg_f1]; exact hw j hj
  · rw [beg_fx]; exact hx j hj
  · rw [beg_ml]; unfold bgL
    by_cases q : j < np2 ∧ fk2 j = 4
    · rw [if_pos q, hm j hj, a1]; exact mtL_00 _ _ _
    · rw [if_neg q]; exact hm j hj
  · rw [beg_cx, beg_f]; unfold bgC; rw [if_pos ⟨hj, hk⟩, a1]
theorem SX_beg (h : FRS N np fk fn U) (hX : SX N np fk U) (hnp : np ≤ np2) (h8 : np2 ≤ 8) : SX N np2 fk2 (begS np2 fk2 fn2 U) := by
  have hF := FRS_beg (np2 := np2) (fk2 := fk2) (fn2 := fn2) h
  obtain ⟨⟨a1, a2, a3⟩, hs, hw, hx, hm, hc⟩ := h
  obtain ⟨⟨i1, i2, i3, i4, i5, i6, i7⟩, ⟨x1, x2⟩, x3, x4, x5, x6, x7, x8⟩ := hX
  refine ⟨⟨by rw [beg_n]; exact i1, by rw [beg_nd]; exact i2, by rw [beg_bg]; exact i3, by rw [beg_fc]; exact i4, by rw [beg_n, beg_f]; exact i5, fun j hj => ?_, fun j hj => ?_⟩, ⟨by rw [beg_bg, beg_nd]; exact x1, by rw [beg_bg, beg_nd]; exact x2⟩, by rw [beg_fs]; exact x3, by rw [beg_fx]; exact x4, fun j hj hk => ?_, fun j h1 h2 => ?_, ?_, fun k hk j h1 h2 => ?_⟩
  · rw [beg_mp]; unfold bgP
    by_cases q : j < np2 ∧ fk2 j = 4
    · rw [if_pos q]; exact mtP_lt (i6 j hj) (fun z => by rw [hm j hj] at z; exact absurd z (Nat.lt_irrefl 0)) (by rw [a1]; exact Nat.zero_le _)
    · rw [if_neg q]; exact i6 j hj
  · rw [hF.2.2.2.2.1 j hj]; exact Nat.zero_le _
  · rw [hF.2.2.2.2.1 j (by omega)]; exact ⟨Nat.zero_le _, fun z => absurd z (Nat.lt_irrefl 0)⟩
  · rw [beg_xi]; exact x6 j (by omega) h2
  · rw [beg_xi]; exact x7
  · rw [beg_f0, beg_f1, (hw (9 * k + j) (by omega)).1, (hw (9 * k + j) (by omega)).2, w0_20 h2]; exact ⟨rfl, rfl⟩
theorem RS_beg {sd : Nat} {bb wt nx cx pt le sc ss ww xc : Nat → Int32} (h : FRS N np fk fn U) (hnp : np ≤ 8) (hR : RS sd N np fk U bb wt nx cx pt le sc ss ww xc) : RS sd N np fk (begS np fk fn U) bb wt nx cx pt le sc ss ww xc := by
  have hF := FRS_beg (np2 := np) (fk2 := fk) (fn2 := fn) h
  obtain ⟨⟨a1, a2, a3⟩, hc, hm, ⟨b1, b2⟩, hw, hx⟩ := hR
  refine ⟨⟨by rw [beg_n]; exact a1, by rw [beg_nd]; exact a2, by rw [beg_f]; exact a3⟩, fun j hj hk => ?_, fun j hj hk => ?_, ⟨fun j hj => ?_, b2⟩, fun k hk => ⟨fun j hj => ?_, ?_, (hw k hk).2.2⟩, fun j hj => ?_⟩
  · rw [hF.2.2.2.2.2 j hj hk, beg_f, hc j hj hk]; exact h.2.2.2.2.2 j hj hk
  · obtain ⟨e1, q, e2, e3, e4⟩ := hm j hj hk
    have z := hF.2.2.2.2.1 j (by omega)
    refine ⟨by rw [z, e1, h.2.2.2.2.1 j (by omega)], q, e2, e3, fun w => ?_⟩
    rw [z] at w; exact absurd w (Nat.lt_irrefl 0)
  · rw [beg_fc, beg_fs]; exact b1 j hj
  · rw [beg_f0, beg_f1]; exact (hw k hk).1 j hj
  · rw [beg_f0, beg_f1]; exact (hw k hk).2.1
  · rw [beg_fx]; exact hx j hj
end
/-! a side that was reset -/
section
variable {N np : Nat} {fk fn : Nat → Int32} {U : SSt}
theorem FRS_reset : FRS N np fk fn (resetS N np fk fn U) := by
  refine ⟨⟨rst_n, rst_nd, rst_bg⟩, fun j hj => ?_, fun j hj => ?_, fun j hj => ?_, fun j hj => ?_, fun j hj hk => ?_⟩
  · rw [rst_fc, rst_fs]; unfold fillTo; rw [if_pos hj, if_pos hj]; exact ⟨rfl, rfl⟩
  · rw [rst_f0, rst_f1]; unfold wFill w0
    rw [if_pos hj, if_pos hj]
    by_cases q : j % 9 = 8
    · rw [if_pos ⟨q, by omega⟩, if_neg (by omega)]; exact ⟨rfl, rfl⟩
    · rw [if_neg (fun z => q z.1), if_pos (by omega)]; exact ⟨rfl, rfl⟩
  · rw [rst_fx]; unfold cFill c0; rw [if_pos hj]
  · rw [rst_ml]; unfold bgL
    have z : zTo (s_ml U) 8 j = 0 := by unfold zTo; rw [if_pos hj]
    rw [z, mtL_00]; split <;> rfl
  · rw [rst_cx, rst_f]; unfold bgC; rw [if_pos ⟨hj, hk⟩]
theorem sq_cell (j : Nat) : 0 ≤ (c0 j).toInt ∧ (c0 j).toInt < 65536 := by
  unfold c0 cell0
  have h := sq_rng ((nI (j % 33) - 16) * 128)
  have e : (16 : Int32).toInt = 16 := by decide
  rw [mul_toInt, e] <;> (try rw [e]) <;> omega
theorem SX_fr (h : FRS N np fk fn U) (h1 : ∀ j, j < 8 → s_mp U j < 2 ^ 19) (h2 : ∀ j, np ≤ j → j < 8 → s_xi U j = 0) (h3 : s_xi U 8 = 256) (hnp : np ≤ 8) : SX N np fk U := by
  obtain ⟨⟨a1, a2, a3⟩, hs, hw, hx, hm, hc⟩ := h
  refine ⟨⟨by rw [a1]; decide, by rw [a2]; decide, by rw [a3]; decide, fun j hj => by rw [(hs j hj).1]; decide, fun j hj => by rw [a1] at hj; exact absurd hj (Nat.not_lt_zero j), h1, fun j hj => by rw [hm j hj]; decide⟩, by rw [a2, a3]; decide, fun j hj => by rw [(hs j hj).2]; decide, fun j hj => by rw [hx j hj]; exact sq_cell j, fun j hj hk => ?_, h2, h3, fun k hk j j1 j2 => ?_⟩
  · rw [hm j (by omega)]; exact ⟨Nat.zero_le _, fun z => absurd z (Nat.lt_irrefl 0)⟩
  · rw [(hw (9 * k + j) (by omega)).1, (hw (9 * k + j) (by omega)).2, w0_20 j2]; exact ⟨rfl, rfl⟩
theorem SX_reset (hX : SX N np fk U) (hnp : np ≤ 8) : SX N np fk (resetS N np fk fn U) := by
  refine SX_fr (fn := fn) FRS_reset (fun j hj => ?_) (fun j h1 h2 => by rw [rst_xi]; exact hX.2.2.2.2.2.1 j h1 h2) (by rw [rst_xi]; exact hX.2.2.2.2.2.2.1) hnp
  rw [rst_mp]; unfold bgP
  have z : zTo (s_ml U) 8 j = 0 := by unfold zTo; rw [if_pos hj]
  have h6 := hX.1.2.2.2.2.2.1 j hj
  by_cases q : j < np ∧ fk j = 4
  · rw [if_pos q, z]; exact mtP_lt h6 (fun w => absurd w (Nat.lt_irrefl 0)) (Nat.zero_le _)
  · rw [if_neg q]; exact h6
end
