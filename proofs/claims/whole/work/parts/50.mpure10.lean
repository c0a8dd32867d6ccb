/-! a fresh side -/
def genF (b : Nat) (v f : Nat → Int32) (k : Nat) : Nat → Int32 := fun x => if b ≤ x ∧ x < b + k then v (x - b) else f x
theorem genF_0 (b : Nat) (v f : Nat → Int32) : f = genF b v f 0 := by
  funext x; unfold genF; rw [if_neg (by omega)]
theorem genF_s (b : Nat) (v f : Nat → Int32) (k : Nat) : upd (genF b v f k) (b + k) (v k) = genF b v f (k + 1) := by
  funext x; simp only [upd, genF]
  by_cases q : x = b + k
  · rw [if_pos q, if_pos (by omega), q, Nat.add_sub_cancel_left]
  · rw [if_neg q]
    by_cases z : b ≤ x ∧ x < b + k
    · rw [if_pos z, if_pos (by omega)]
    · rw [if_neg z, if_neg (by omega)]
theorem genF_at {b : Nat} {v f : Nat → Int32} {k j : Nat} (h : j < k) : genF b v f k (b + j) = v j := by
  unfold genF; rw [if_pos (by omega), Nat.add_sub_cancel_left]
theorem genF_o {b : Nat} {v f : Nat → Int32} {k x : Nat} (h : x < b ∨ b + k ≤ x) : genF b v f k x = f x := by
  unfold genF; rw [if_neg (by omega)]
def w0 (np : Nat) (x : Nat) : Int32 := if x % 9 < np then 20000 else 0
def c0 (x : Nat) : Int32 := cell0 (x % 33)
theorem w0_R {np a b i : Nat} {x : Int32} (hx : x = nI i) (hi : i < 9) (hnp : np ≤ 8) : (if nI np ≤ x then 0 else 20000) = w0 np (2304 * a + 9 * b + i) := by
  have e : (2304 * a + 9 * b + i) % 9 = i := by omega
  unfold w0; rw [e, hx]
  by_cases q : i < np
  · rw [if_pos q, if_neg (fun z => by have := (nI_leI (by omega) (by omega)).mp z; omega)]
  · rw [if_neg q, if_pos (nI_le (by omega) (by omega))]
theorem c0_R {k t : Nat} (h : t < 33) : cell0 t = c0 (33 * k + t) := by
  unfold c0; rw [show (33 * k + t) % 33 = t by omega]
def FRS (N np : Nat) (fk fn : Nat → Int32) (U : SSt) : Prop := (s_n U = 0 ∧ s_nd U = 1 ∧ s_bg U = 0) ∧ (∀ j, j < N → s_fc U j = 32768 ∧ s_fs U j = 0) ∧ (∀ j, j < 2304 → s_f0 U j = w0 8 j ∧ s_f1 U j = w0 8 j) ∧ (∀ j, j < 8448 → s_fx U j = c0 j) ∧ (∀ j, j < 8 → s_ml U j = 0) ∧ ∀ j, j < np → ¬ fk j = 4 → s_cx U j = ctxI (s_f U) 0 (fk j) (fn j)
theorem mtL_00 (f : Nat → Int32) (t p : Nat) : mtL f 0 t p 0 = 0 := by
  have e : folL f 0 p 0 = 0 := by unfold folL folB; rfl
  unfold mtL; rw [e]; unfold findL; rfl
section
variable {sd N np : Nat} {fk fn : Nat → Int32} {U V : SSt} {bb wt nx cx pt le sc ss ww xc cx2 pt2 le2 z : Nat → Int32}
theorem fr_rm : RM sd np fk (fun _ => 0) (fun _ => 0) (genF (8 * sd) (fun _ => 0) pt 8) (genF (8 * sd) (fun _ => 0) le 8) ∨ 8 < np := by
  rcases Nat.lt_or_ge 8 np with q | q
  · exact Or.inr q
  · refine Or.inl (fun j hj _ => ⟨genF_at (by omega), 0, genF_at (by omega), by decide, fun h => absurd h (Nat.lt_irrefl 0)⟩)
theorem fr_rm8 (h : np ≤ 8) : RM sd np fk (fun _ => 0) (fun _ => 0) (genF (8 * sd) (fun _ => 0) pt 8) (genF (8 * sd) (fun _ => 0) le 8) := by
  rcases fr_rm (sd := sd) (np := np) (fk := fk) (pt := pt) (le := le) with q | q
  · exact q
  · omega
theorem wAt_lin (s m k i : Nat) : wAt s m k i = 4608 * s + (2304 * m + 9 * k + i) := by unfold wAt; omega
theorem fr_RS (hU : FRS N np fk fn U) (hN : N ≤ 4096) (hnp : np ≤ 8) (hb : ∀ j, j < 2000 → bb (2050 * sd + j) = s_f U j) (hrc : RC sd np fk (bgC (vb bb sd) 0 fk fn z np) cx2) (hrm : RM sd np fk (bgP (vb bb sd) 0 fk fn (fun _ => 0) (fun _ => 0) np) (bgL (vb bb sd) 0 fk fn (fun _ => 0) (fun _ => 0) np) pt2 le2) : RS sd N np fk U bb (upd wt sd 0) (upd nx sd 1) cx2 pt2 le2 (genF (4096 * sd) (fun _ => 32768) sc 4096) (genF (4096 * sd) (fun _ => 0) ss 4096) (genF (4608 * sd) (w0 np) ww 4608) (genF (8448 * sd) c0 xc 8448) := by
  obtain ⟨⟨h1, h2, h3⟩, hs, hw, hx, hm, hc⟩ := hU
  refine ⟨⟨?_, ?_, hb⟩, fun j hj hk => ?_, fun j hj hk => ?_, ⟨fun j hj => ⟨?_, ?_⟩, fun j h4 h5 => ⟨?_, ?_⟩⟩, fun k hk => ⟨fun j hj => ?_, ?_, fun j h4 h5 => ?_⟩, fun j hj => ?_⟩
  · rw [upd_at, h1]; rfl
  · rw [upd_at, h2]; rfl
  · rw [hrc j hj hk, hc j hj hk]; unfold bgC; rw [if_pos ⟨hj, hk⟩]
    exact ctx_cg (F := vb bb sd) (f := s_f U) (n := 0) (fun i hi => absurd hi (by omega)) _ _
  · obtain ⟨e1, q, e2, e3, e4⟩ := hrm j hj hk
    have e0 : bgL (vb bb sd) 0 fk fn (fun _ => 0) (fun _ => 0) np j = 0 := by unfold bgL; rw [if_pos ⟨hj, hk⟩]; exact mtL_00 _ _ _
    have e5 := hm j (by omega)
    refine ⟨by rw [e1, e0, e5], q, e2, e3, fun h => ?_⟩
    rw [e5] at h; exact absurd h (by decide)
  · rw [genF_at (by omega), (hs j hj).1]
  · rw [genF_at (by omega), (hs j hj).2]
  · rw [genF_at h5]
  · rw [genF_at h5]
  · rw [wAt_lin, wAt_lin, genF_at (by omega), genF_at (by omega), (hw (9 * k + j) (by omega)).1, (hw (9 * k + j) (by omega)).2]
    unfold w0
    rw [show (2304 * 0 + 9 * k + j) % 9 = j by omega, show (2304 * 1 + 9 * k + j) % 9 = j by omega, show (9 * k + j) % 9 = j by omega, if_pos hj, if_pos (by omega)]
    exact ⟨rfl, rfl⟩
  · rw [wAt_lin, wAt_lin, genF_at (by omega), genF_at (by omega), (hw (9 * k + 8) (by omega)).1, (hw (9 * k + 8) (by omega)).2]
    unfold w0
    rw [show (2304 * 0 + 9 * k + np) % 9 = np by omega, show (2304 * 1 + 9 * k + np) % 9 = np by omega, show (9 * k + 8) % 9 = 8 by omega, if_neg (Nat.lt_irrefl np), if_neg (by decide)]
    exact ⟨rfl, rfl⟩
  · rw [wAt_lin, wAt_lin, genF_at (by omega), genF_at (by omega)]
    unfold w0
    rw [show (2304 * 0 + 9 * k + j) % 9 = j by omega, show (2304 * 1 + 9 * k + j) % 9 = j by omega, if_neg (by omega)]
    exact ⟨rfl, rfl⟩
  · rw [genF_at hj, hx j hj]
theorem fr_OT {s2 : Nat} (hs : sd < 2) (h2 : s2 < 2) (hne : ¬ s2 = sd) (hnp : np ≤ 8) (hN : N ≤ 4096) (hf : ∀ k, k < 8 * sd ∨ 8 * sd + 8 ≤ k → cx2 k = cx k ∧ pt2 k = genF (8 * sd) (fun _ => 0) pt 8 k ∧ le2 k = genF (8 * sd) (fun _ => 0) le 8 k) (h : RS s2 N np fk V bb wt nx cx pt le sc ss ww xc) : RS s2 N np fk V bb (upd wt sd 0) (upd nx sd 1) cx2 pt2 le2 (genF (4096 * sd) (fun _ => 32768) sc 4096) (genF (4096 * sd) (fun _ => 0) ss 4096) (genF (4608 * sd) (w0 np) ww 4608) (genF (8448 * sd) c0 xc 8448) := by
  obtain ⟨⟨a1, a2, a3⟩, hc, hm, ⟨hs1, hs2⟩, hw, hx⟩ := h
  have hf2 : ∀ k, k < 8 * sd ∨ 8 * sd + 8 ≤ k → cx2 k = cx k ∧ pt2 k = pt k ∧ le2 k = le k := fun k hk => by
    obtain ⟨e1, e2, e3⟩ := hf k hk
    rw [genF_o hk] at e2; rw [genF_o hk] at e3; exact ⟨e1, e2, e3⟩
  refine ⟨⟨?_, ?_, a3⟩, RC_o h2 hs hne hnp hf2 hc, RM_o h2 hs hne hnp hf2 hm, ⟨fun j hj => ?_, fun j h4 h5 => ?_⟩, fun k hk => ⟨fun j hj => ?_, ?_, fun j h4 h5 => ?_⟩, fun j hj => ?_⟩
  · rw [upd_ne hne]; exact a1
  · rw [upd_ne hne]; exact a2
  · rw [genF_o (by omega), genF_o (by omega)]; exact hs1 j hj
  · rw [genF_o (by omega), genF_o (by omega)]; exact hs2 j h4 h5
  · have := (hw k hk).1 j hj
    rw [wAt_lin, wAt_lin] at this
    rw [wAt_lin, wAt_lin, genF_o (by omega), genF_o (by omega)]; exact this
  · have := (hw k hk).2.1
    rw [wAt_lin, wAt_lin] at this
    rw [wAt_lin, wAt_lin, genF_o (by omega), genF_o (by omega)]; exact this
  · have := (hw k hk).2.2 j h4 h5
    rw [wAt_lin, wAt_lin] at this
    rw [wAt_lin, wAt_lin, genF_o (by omega), genF_o (by omega)]; exact this
  · rw [genF_o (by omega)]; exact hx j hj
end
