/-! what the reference learns, beside the side's step -/
def rwL (ww xi : Nat → Int32) (b0 b1 : Nat) (e0 e1 : Int32) (n : Nat) : Nat → Int32 := fun k => if b0 ≤ k ∧ k < b0 + n then growI (ww k) (xi (k - b0)) e0 else if b1 ≤ k ∧ k < b1 + n then growI (ww k) (xi (k - b1)) e1 else ww k
theorem rwL_0 (ww xi : Nat → Int32) (b0 b1 : Nat) (e0 e1 : Int32) : ww = rwL ww xi b0 b1 e0 e1 0 := by
  funext k; unfold rwL; rw [if_neg (by omega), if_neg (by omega)]
theorem rwL_s {ww xi w1 : Nat → Int32} {b0 b1 : Nat} {e0 e1 : Int32} {n : Nat} (hd : b0 + 9 ≤ b1) (hn : n ≤ 8) (hw : w1 = rwL ww xi b0 b1 e0 e1 n) : upd (upd w1 (b0 + n) (growI (w1 (b0 + n)) (xi n) e0)) (b1 + n) (growI (upd w1 (b0 + n) (growI (w1 (b0 + n)) (xi n) e0) (b1 + n)) (xi n) e1) = rwL ww xi b0 b1 e0 e1 (n + 1) := by
  have q0 : w1 (b0 + n) = ww (b0 + n) := by rw [hw]; unfold rwL; rw [if_neg (by omega), if_neg (by omega)]
  have q1 : upd w1 (b0 + n) (growI (w1 (b0 + n)) (xi n) e0) (b1 + n) = ww (b1 + n) := by
    rw [upd_ne (by omega), hw]; unfold rwL; rw [if_neg (by omega), if_neg (by omega)]
  rw [q1, q0, hw]
  funext k
  by_cases k1 : k = b1 + n
  · rw [k1, upd_at]; unfold rwL; rw [if_neg (by omega), if_pos (by omega), show b1 + n - b1 = n by omega]
  · rw [upd_ne k1]
    by_cases k0 : k = b0 + n
    · rw [k0, upd_at]; unfold rwL; rw [if_pos (by omega), show b0 + n - b0 = n by omega]
    · rw [upd_ne k0]; unfold rwL
      by_cases z0 : b0 ≤ k ∧ k < b0 + n
      · rw [if_pos z0, if_pos (by omega)]
      · rw [if_neg z0, if_neg (show ¬ (b0 ≤ k ∧ k < b0 + (n + 1)) by omega)]
        by_cases z1 : b1 ≤ k ∧ k < b1 + n
        · rw [if_pos z1, if_pos (by omega)]
        · rw [if_neg z1, if_neg (by omega)]
theorem wL_cf (w x : Nat → Int32) (r : Nat) (er : Int32) (n k : Nat) : wLearn w x r er n k = if r ≤ k ∧ k < r + n then growI (w k) (x (k - r)) er else w k := by
  induction n with
  | zero => rw [if_neg (by omega)]; rfl
  | succ n ih =>
    simp only [wLearn]
    by_cases q : k = r + n
    · rw [q, upd_at, if_pos (by omega), show r + n - r = n by omega]
    · rw [upd_ne q, ih]
      by_cases z : r ≤ k ∧ k < r + n
      · rw [if_pos z, if_pos (by omega)]
      · rw [if_neg z, if_neg (by omega)]
section
variable {ww xi : Nat → Int32} {sd nd lb n : Nat} {e0 e1 : Int32} {k j : Nat}
theorem rw_0 (hs : sd < 2) (hnd : nd < 256) (hlb : lb < 256) (hn : n ≤ 9) (hk : k < 256) (hj : j < 9) : rwL ww xi (wAt sd 0 nd 0) (wAt sd 1 lb 0) e0 e1 n (wAt sd 0 k j) = if k = nd ∧ j < n then growI (ww (wAt sd 0 k j)) (xi j) e0 else ww (wAt sd 0 k j) := by
  unfold rwL
  by_cases q : k = nd ∧ j < n
  · rw [if_pos (by unfold wAt; omega), if_pos q, show wAt sd 0 k j - wAt sd 0 nd 0 = j by unfold wAt; omega]
  · rw [if_neg (by unfold wAt; omega), if_neg (by unfold wAt; omega), if_neg q]
theorem rw_1 (hs : sd < 2) (hnd : nd < 256) (hlb : lb < 256) (hn : n ≤ 9) (hk : k < 256) (hj : j < 9) : rwL ww xi (wAt sd 0 nd 0) (wAt sd 1 lb 0) e0 e1 n (wAt sd 1 k j) = if k = lb ∧ j < n then growI (ww (wAt sd 1 k j)) (xi j) e1 else ww (wAt sd 1 k j) := by
  unfold rwL
  by_cases q : k = lb ∧ j < n
  · rw [if_neg (by unfold wAt; omega), if_pos (by unfold wAt; omega), if_pos q, show wAt sd 1 k j - wAt sd 1 lb 0 = j by unfold wAt; omega]
  · rw [if_neg (by unfold wAt; omega), if_neg (by unfold wAt; omega), if_neg q]
theorem rw_o {s2 m : Nat} (hs : sd < 2) (h2 : s2 < 2) (hne : ¬ s2 = sd) (hm : m < 2) (hnd : nd < 256) (hlb : lb < 256) (hn : n ≤ 9) (hk : k < 256) (hj : j < 9) : rwL ww xi (wAt sd 0 nd 0) (wAt sd 1 lb 0) e0 e1 n (wAt s2 m k j) = ww (wAt s2 m k j) := by
  unfold rwL; rw [if_neg (by unfold wAt; omega), if_neg (by unfold wAt; omega)]
end
theorem grow0 {x er : Int32} (h : x = 0) : growI 20000 x er = 20000 := by
  subst h; unfold growI; rw [Int32.zero_mul]; decide
section
variable {st : Nat → Int32} {N np : Nat} {fk fn fo : Nat → Int32} {U : SSt} {on : Int32}
theorem step_n : s_n (stepS st N np fk fn fo U on) = if s_bg U = 7 then s_n U + 1 else s_n U := rfl
theorem step_nd : s_nd (stepS st N np fk fn fo U on) = if s_bg U = 7 then 1 else 2 * s_nd U + bitN on := rfl
theorem step_bg : s_bg (stepS st N np fk fn fo U on) = if s_bg U = 7 then 0 else s_bg U + 1 := rfl
theorem step_f : s_f (stepS st N np fk fn fo U on) = if s_bg U = 7 then lfS on U else s_f U := rfl
theorem step_fc : s_fc (stepS st N np fk fn fo U on) = lcS N np fk fo U on := rfl
theorem step_fs : s_fs (stepS st N np fk fn fo U on) = lsS N np fk fo U on := rfl
theorem step_f0 : s_f0 (stepS st N np fk fn fo U on) = lw0S st N np fk fo U on := rfl
theorem step_f1 : s_f1 (stepS st N np fk fn fo U on) = lw1S st N np fk fo U on := rfl
theorem step_fx : s_fx (stepS st N np fk fn fo U on) = lxS st N np fk fo U on := rfl
theorem step_mp : s_mp (stepS st N np fk fn fo U on) = if s_bg U = 7 then bgP (lfS on U) (s_n U + 1) fk fn (s_mp U) (s_ml U) np else s_mp U := rfl
theorem step_ml : s_ml (stepS st N np fk fn fo U on) = if s_bg U = 7 then bgL (lfS on U) (s_n U + 1) fk fn (s_mp U) (s_ml U) np else s_ml U := rfl
theorem step_cx : s_cx (stepS st N np fk fn fo U on) = if s_bg U = 7 then bgC (lfS on U) (s_n U + 1) fk fn (s_cx U) np else s_cx U := rfl
theorem step_xi : s_xi (stepS st N np fk fn fo U on) = xiS st N np fk fo U := rfl
theorem lw0_at {k j : Nat} (hk : k < 256) (hj : j < 9) : lw0S st N np fk fo U on (9 * k + j) = if k = s_nd U then growI (s_f0 U (9 * k + j)) (xiS st N np fk fo U j) (errI on (t0S st N np fk fo U)) else s_f0 U (9 * k + j) := by
  unfold lw0S; rw [wL_cf]
  by_cases q : k = s_nd U
  · rw [if_pos q, if_pos (by omega), show 9 * k + j - 9 * s_nd U = j by omega]
  · rw [if_neg q, if_neg (by omega)]
theorem lw1_at {k j : Nat} (hk : k < 256) (hj : j < 9) : lw1S st N np fk fo U on (9 * k + j) = if k = lbN (s_f U) (s_n U) then growI (s_f1 U (9 * k + j)) (xiS st N np fk fo U j) (errI on (t1S st N np fk fo U)) else s_f1 U (9 * k + j) := by
  unfold lw1S; rw [wL_cf]
  by_cases q : k = lbN (s_f U) (s_n U)
  · rw [if_pos q, if_pos (by omega), show 9 * k + j - 9 * lbN (s_f U) (s_n U) = j by omega]
  · rw [if_neg q, if_neg (by omega)]
theorem RSw_step {sd : Nat} {ww xi : Nat → Int32} (hs : sd < 2) (hnp : np ≤ 8) (h : RSw sd np U ww) (hX : SX N np fk U) (hx : ∀ j, j < np → xi j = inS st N fk fo U j) (hx2 : xi np = 256) : RSw sd np (stepS st N np fk fn fo U on) (rwL ww xi (wAt sd 0 (s_nd U) 0) (wAt sd 1 (lbN (s_f U) (s_n U)) 0) (errI on (t0S st N np fk fo U)) (errI on (t1S st N np fk fo U)) (np + 1)) := by
  have hnd := hX.1.2.1
  have hlb := lb_lt hX.1.2.2.2.2.1
  have x8 : xiS st N np fk fo U 8 = 256 := by rw [xiS_ge hnp]; exact hX.2.2.2.2.2.2.1
  intro k hk
  have hw := h k hk
  rw [step_f0, step_f1]
  refine ⟨fun j hj => ⟨?_, ?_⟩, ⟨?_, ?_⟩, fun j h1 h2 => ⟨?_, ?_⟩⟩
  · rw [rw_0 hs hnd hlb (by omega) hk (by omega), lw0_at hk (by omega), (hw.1 j hj).1, hx j hj, xiS_lt hj]
    by_cases q : k = s_nd U
    · rw [if_pos ⟨q, by omega⟩, if_pos q]
    · rw [if_neg (fun z => q z.1), if_neg q]
  · rw [rw_1 hs hnd hlb (by omega) hk (by omega), lw1_at hk (by omega), (hw.1 j hj).2, hx j hj, xiS_lt hj]
    by_cases q : k = lbN (s_f U) (s_n U)
    · rw [if_pos ⟨q, by omega⟩, if_pos q]
    · rw [if_neg (fun z => q z.1), if_neg q]
  · rw [rw_0 hs hnd hlb (by omega) hk (by omega), lw0_at hk (by decide), hw.2.1.1, hx2, x8]
    by_cases q : k = s_nd U
    · rw [if_pos ⟨q, by omega⟩, if_pos q]
    · rw [if_neg (fun z => q z.1), if_neg q]
  · rw [rw_1 hs hnd hlb (by omega) hk (by omega), lw1_at hk (by decide), hw.2.1.2, hx2, x8]
    by_cases q : k = lbN (s_f U) (s_n U)
    · rw [if_pos ⟨q, by omega⟩, if_pos q]
    · rw [if_neg (fun z => q z.1), if_neg q]
  · rw [rw_0 hs hnd hlb (by omega) hk h2, if_neg (by omega)]; exact (hw.2.2 j h1 h2).1
  · rw [rw_1 hs hnd hlb (by omega) hk h2, if_neg (by omega)]; exact (hw.2.2 j h1 h2).2
theorem RSw_o {sd s2 nd lb n : Nat} {e0 e1 : Int32} {V : SSt} {ww xi : Nat → Int32} (hs : sd < 2) (h2 : s2 < 2) (hne : ¬ s2 = sd) (hnp : np ≤ 8) (hnd : nd < 256) (hlb : lb < 256) (hn : n ≤ 9) (h : RSw s2 np V ww) : RSw s2 np V (rwL ww xi (wAt sd 0 nd 0) (wAt sd 1 lb 0) e0 e1 n) := by
  intro k hk
  have hw := h k hk
  refine ⟨fun j hj => ⟨?_, ?_⟩, ⟨?_, ?_⟩, fun j h1 h3 => ⟨?_, ?_⟩⟩
  · rw [rw_o hs h2 hne (by decide) hnd hlb hn hk (by omega)]; exact (hw.1 j hj).1
  · rw [rw_o hs h2 hne (by decide) hnd hlb hn hk (by omega)]; exact (hw.1 j hj).2
  · rw [rw_o hs h2 hne (by decide) hnd hlb hn hk (by omega)]; exact hw.2.1.1
  · rw [rw_o hs h2 hne (by decide) hnd hlb hn hk (by omega)]; exact hw.2.1.2
  · rw [rw_o hs h2 hne (by decide) hnd hlb hn hk h3]; exact (hw.2.2 j h1 h3).1
  · rw [rw_o hs h2 hne (by decide) hnd hlb hn hk h3]; exact (hw.2.2 j h1 h3).2
/-- the slots' loop -/
def SLI (sd N : Nat) (fo fk : Nat → Int32) (U : SSt) (on : Int32) (sc ss : Nat → Int32) (i : Nat) (sc1 ss1 : Nat → Int32) : Prop :=
  (∀ j, j < N → sc1 (4096 * sd + j) = slC fo fk N (s_nd U) (s_cx U) on (s_fc U) (s_fs U) i j ∧ ss1 (4096 * sd + j) = slS fo fk N (s_nd U) (s_cx U) on (s_fc U) (s_fs U) i j) ∧ ∀ k, k < 4096 * sd ∨ 4096 * sd + N ≤ k → sc1 k = sc k ∧ ss1 k = ss k
theorem SLI_0 {sd : Nat} {sc ss : Nat → Int32} (h : RSs sd N U sc ss) : SLI sd N fo fk U on sc ss 0 sc ss := ⟨h.1, fun _ _ => ⟨rfl, rfl⟩⟩
theorem SLI_n {sd i : Nat} {sc ss sc1 ss1 : Nat → Int32} (h : SLI sd N fo fk U on sc ss i sc1 ss1) (hok : slOk fo fk i = false) : SLI sd N fo fk U on sc ss (i + 1) sc1 ss1 := by
  refine ⟨fun j hj => ?_, h.2⟩
  rw [← slC_n hok, ← slS_n hok]; exact h.1 j hj
theorem SLI_y {sd i sl : Nat} {sc ss sc1 ss1 : Nat → Int32} {a b : Int32} (h : SLI sd N fo fk U on sc ss i sc1 ss1) (hok : slOk fo fk i = true) (hsl : sl = slotN N (s_cx U i) (nI (s_nd U))) (hlt : sl < N) (ha : a = slotUp on (slC fo fk N (s_nd U) (s_cx U) on (s_fc U) (s_fs U) i sl) (slS fo fk N (s_nd U) (s_cx U) on (s_fc U) (s_fs U) i sl)) (hb : b = cntUp (slS fo fk N (s_nd U) (s_cx U) on (s_fc U) (s_fs U) i sl)) : SLI sd N fo fk U on sc ss (i + 1) (upd sc1 (4096 * sd + sl) a) (upd ss1 (4096 * sd + sl) b) := by
  refine ⟨fun j hj => ?_, fun k hk => ?_⟩
  · rw [← slC_y hok, ← slS_y hok, ← hsl, ← ha, ← hb]
    by_cases q : j = sl
    · rw [q]; exact ⟨by rw [upd_at, upd_at], by rw [upd_at, upd_at]⟩
    · have q2 : ¬ 4096 * sd + j = 4096 * sd + sl := by omega
      exact ⟨by rw [upd_ne q2, upd_ne q]; exact (h.1 j hj).1, by rw [upd_ne q2, upd_ne q]; exact (h.1 j hj).2⟩
  · have q2 : ¬ k = 4096 * sd + sl := by omega
    exact ⟨by rw [upd_ne q2]; exact (h.2 k hk).1, by rw [upd_ne q2]; exact (h.2 k hk).2⟩
theorem RSs_step {sd : Nat} {sc ss sc1 ss1 : Nat → Int32} (hN : N ≤ 4096) (h : RSs sd N U sc ss) (hI : SLI sd N fo fk U on sc ss np sc1 ss1) : RSs sd N (stepS st N np fk fn fo U on) sc1 ss1 := by
  refine ⟨fun j hj => ?_, fun j h1 h2 => ?_⟩
  · rw [step_fc, step_fs]; exact hI.1 j hj
  · rw [(hI.2 (4096 * sd + j) (by omega)).1, (hI.2 (4096 * sd + j) (by omega)).2]; exact h.2 j h1 h2
theorem RSs_o {sd s2 : Nat} {V : SSt} {sc ss sc1 ss1 : Nat → Int32} (hN : N ≤ 4096) (h2 : s2 < 2) (hs : sd < 2) (hne : ¬ s2 = sd) (h : RSs s2 N V sc ss) (hI : SLI sd N fo fk U on sc ss np sc1 ss1) : RSs s2 N V sc1 ss1 := by
  refine ⟨fun j hj => ?_, fun j h1 h3 => ?_⟩
  · rw [(hI.2 (4096 * s2 + j) (by omega)).1, (hI.2 (4096 * s2 + j) (by omega)).2]; exact h.1 j hj
  · rw [(hI.2 (4096 * s2 + j) (by omega)).1, (hI.2 (4096 * s2 + j) (by omega)).2]; exact h.2 j h1 h3
theorem RSx_step {sd : Nat} {xc : Nat → Int32} {v : Int32} (h : RSx sd U xc) (hv : v = cellUp on (s_fx U (nearS st N np fk fo U))) : RSx sd (stepS st N np fk fn fo U on) (upd xc (8448 * sd + nearS st N np fk fo U) v) := by
  intro j hj
  rw [step_fx]; unfold lxS
  by_cases q : j = nearS st N np fk fo U
  · rw [q, upd_at, upd_at, hv]
  · rw [upd_ne (by omega), upd_ne q]; exact h j hj
theorem RSx_o {sd s2 q : Nat} {V : SSt} {xc : Nat → Int32} {v : Int32} (h2 : s2 < 2) (hs : sd < 2) (hne : ¬ s2 = sd) (hq : q < 8448) (h : RSx s2 V xc) : RSx s2 V (upd xc (8448 * sd + q) v) := by
  intro j hj
  rw [upd_ne (by omega)]; exact h j hj
theorem bit_if {on a b : Int32} (h : on = 0 ∨ on = 1) : (if on = 1 then a else b) = if on = 0 then b else a := by
  rcases h with rfl | rfl
  · rw [if_neg (by decide), if_pos rfl]
  · rw [if_pos rfl, if_neg (by decide)]
theorem bit_nI {on : Int32} (h : on = 0 ∨ on = 1) : on = nI (bitN on) := by
  rcases h with rfl | rfl <;> rfl
theorem near_R {sd nd t : Nat} : (if nI (t % 128) < 64 then nI (8448 * sd + 33 * nd + t / 128) else nI (8448 * sd + 33 * nd + t / 128 + 1)) = nI (8448 * sd + nearN nd t) := by
  have h : nI (t % 128) < (64 : Int32) ↔ t % 128 < 64 := nI_ltI (a := t % 128) (b := 64) (by omega) (by decide)
  unfold nearN
  by_cases q : t % 128 < 64
  · rw [if_pos (h.mpr q), if_neg (by omega), Nat.add_assoc]
  · rw [if_neg (fun z => q (h.mp z)), if_pos (by omega), Nat.add_assoc, Nat.add_assoc]
theorem cnt_rng {c : Int32} (h : 0 ≤ c.toInt ∧ c.toInt ≤ 30) : 0 ≤ (cntUp c).toInt ∧ (cntUp c).toInt ≤ 30 := by
  have e1 : (1 : Int32).toInt = 1 := by decide
  have e30 : (30 : Int32).toInt = 30 := by decide
  have a1 : (c + 1).toInt = c.toInt + 1 := by rw [add_toInt, e1] <;> (rw [e1]; omega)
  unfold cntUp
  by_cases q : c + 1 < 30
  · rw [if_pos q]; rw [i32_lt, a1, e30] at q; rw [a1]; omega
  · rw [if_neg q, e30]; omega
theorem cnt_R {c : Int32} (h : 0 ≤ c.toInt ∧ c.toInt ≤ 30) : (if (30 : Int32) ≤ c then 30 else c + 1) = cntUp c := by
  have e1 : (1 : Int32).toInt = 1 := by decide
  have e30 : (30 : Int32).toInt = 30 := by decide
  have a1 : (c + 1).toInt = c.toInt + 1 := by rw [add_toInt, e1] <;> (rw [e1]; omega)
  unfold cntUp
  by_cases q : (30 : Int32) ≤ c
  · rw [if_pos q]; rw [i32_le, e30] at q
    rw [if_neg (by rw [i32_lt, a1, e30]; omega)]
  · rw [if_neg q]; rw [i32_le, e30] at q
    by_cases z : c + 1 < 30
    · rw [if_pos z]
    · rw [if_neg z]; rw [i32_lt, a1, e30] at z
      exact Int32.toInt_inj.mp (by rw [a1, e30]; omega)
theorem rate_2 {c : Int32} (h : 0 ≤ c.toInt ∧ c.toInt ≤ 30) : (if 2 < c + 2 then c + 2 else 2) = c + 2 := by
  have e2 : (2 : Int32).toInt = 2 := by decide
  have a1 : (c + 2).toInt = c.toInt + 2 := by rw [add_toInt, e2] <;> (rw [e2]; omega)
  by_cases q : (2 : Int32) < c + 2
  · rw [if_pos q]
  · rw [if_neg q]; rw [i32_lt, a1, e2] at q
    exact Int32.toInt_inj.mp (by rw [a1, e2]; omega)
theorem rate_R {c : Int32} (h : 0 ≤ c.toInt ∧ c.toInt ≤ 30) : 65536 / (c + 2) = rateI c := by unfold rateI; rw [rate_2 h]
theorem rate_n0 {c : Int32} (h : 0 ≤ c.toInt ∧ c.toInt ≤ 30) : ¬ c + 2 = 0 := by
  have := rate_ne c; rw [rate_2 h] at this; exact this
theorem rate_rng {c : Int32} (h : 0 ≤ c.toInt ∧ c.toInt ≤ 30) : 2048 ≤ (rateI c).toInt ∧ (rateI c).toInt ≤ 32768 := by
  have e2 : (2 : Int32).toInt = 2 := by decide
  have a1 : (c + 2).toInt = c.toInt + 2 := by rw [add_toInt, e2] <;> (rw [e2]; omega)
  have em : (-1 : Int32).toInt = -1 := by decide
  have hne : c + 2 ≠ -1 := by
    intro z
    have z2 := congrArg Int32.toInt z
    rw [a1, em] at z2; omega
  rw [← rate_R h, Int32.toInt_div_of_ne_right _ _ hne, a1]
  have e6 : (65536 : Int32).toInt = 65536 := by decide
  rw [e6, Int.tdiv_eq_ediv_of_nonneg (by decide)]
  obtain ⟨k, hk⟩ : ∃ k : Nat, c.toInt = k := ⟨c.toInt.toNat, by omega⟩
  rw [hk] at h ⊢
  have hk30 : k ≤ 30 := by omega
  have key : ∀ k : Nat, k ≤ 30 → 2048 ≤ (65536 : Int) / ((k : Int) + 2) ∧ (65536 : Int) / ((k : Int) + 2) ≤ 32768 := by decide
  exact key k hk30
theorem slot_rng {on c n : Int32} (hc : 0 ≤ c.toInt ∧ c.toInt < 65536) (hn : 0 ≤ n.toInt ∧ n.toInt ≤ 30) : 0 ≤ (slotUp on c n).toInt ∧ (slotUp on c n).toInt < 65536 := by
  have hr := rate_rng hn
  unfold slotUp
  generalize rateI n = r at hr
  obtain ⟨x, hx, ex⟩ : ∃ x : Int32, (x.toInt = 0 ∨ x.toInt = 65535) ∧ (if on = 0 then 0 else 65535) = x := by
    by_cases q : on = 0
    · exact ⟨0, Or.inl (by decide), by rw [if_pos q]⟩
    · exact ⟨65535, Or.inr (by decide), by rw [if_neg q]⟩
  rw [ex]
  have a1 : (x - c).toInt = x.toInt - c.toInt := by rw [sub_toInt] <;> omega
  rcases hx with hx | hx
  · rw [hx] at a1
    have q1 : c.toInt * r.toInt ≤ c.toInt * 32768 := Int.mul_le_mul_of_nonneg_left hr.2 hc.1
    have q2 : 0 ≤ c.toInt * r.toInt := Int.mul_nonneg hc.1 (by omega)
    have m0 : (0 - c.toInt) * r.toInt = -(c.toInt * r.toInt) := by rw [Int.zero_sub, Int.neg_mul]
    have m1 : ((x - c) * r).toInt = -(c.toInt * r.toInt) := by rw [mul_toInt, a1, m0] <;> (rw [a1, m0]; omega)
    have s1 : (((x - c) * r) >>> ((16 : Int32) &&& 31)).toInt = -(c.toInt * r.toInt) / 2 ^ 16 := by rw [shr_toInt _ _ 16 (by decide), m1]
    rw [add_toInt, s1] <;> (try rw [s1]) <;> omega
  · rw [hx] at a1
    have q1 : (65535 - c.toInt) * r.toInt ≤ (65535 - c.toInt) * 32768 := Int.mul_le_mul_of_nonneg_left hr.2 (by omega)
    have q2 : 0 ≤ (65535 - c.toInt) * r.toInt := Int.mul_nonneg (by omega) (by omega)
    have m1 : ((x - c) * r).toInt = (65535 - c.toInt) * r.toInt := by rw [mul_toInt, a1] <;> (rw [a1]; omega)
    have s1 : (((x - c) * r) >>> ((16 : Int32) &&& 31)).toInt = ((65535 - c.toInt) * r.toInt) / 2 ^ 16 := by rw [shr_toInt _ _ 16 (by decide), m1]
    rw [add_toInt, s1] <;> (try rw [s1]) <;> omega
theorem cell_rng {on c : Int32} (hc : 0 ≤ c.toInt ∧ c.toInt < 65536) : 0 ≤ (cellUp on c).toInt ∧ (cellUp on c).toInt < 65536 := by
  unfold cellUp
  obtain ⟨x, hx, ex⟩ : ∃ x : Int32, (x.toInt = 0 ∨ x.toInt = 65535) ∧ (if on = 0 then 0 else 65535) = x := by
    by_cases q : on = 0
    · exact ⟨0, Or.inl (by decide), by rw [if_pos q]⟩
    · exact ⟨65535, Or.inr (by decide), by rw [if_neg q]⟩
  rw [ex]
  have a1 : (x - c).toInt = x.toInt - c.toInt := by rw [sub_toInt] <;> omega
  have s1 : ((x - c) >>> ((7 : Int32) &&& 31)).toInt = (x.toInt - c.toInt) / 128 := by rw [shr7, a1]
  rw [add_toInt, s1] <;> (try rw [s1]) <;> omega
theorem sl_rng (hc : ∀ j, j < N → 0 ≤ (s_fc U j).toInt ∧ (s_fc U j).toInt < 65536) (hs : ∀ j, j < N → 0 ≤ (s_fs U j).toInt ∧ (s_fs U j).toInt ≤ 30) (i j : Nat) (hj : j < N) : (0 ≤ (slC fo fk N (s_nd U) (s_cx U) on (s_fc U) (s_fs U) i j).toInt ∧ (slC fo fk N (s_nd U) (s_cx U) on (s_fc U) (s_fs U) i j).toInt < 65536) ∧ 0 ≤ (slS fo fk N (s_nd U) (s_cx U) on (s_fc U) (s_fs U) i j).toInt ∧ (slS fo fk N (s_nd U) (s_cx U) on (s_fc U) (s_fs U) i j).toInt ≤ 30 := by
  induction i generalizing j with
  | zero => exact ⟨hc j hj, hs j hj⟩
  | succ i ih =>
    cases hok : slOk fo fk i with
    | false => rw [← slC_n hok, ← slS_n hok]; exact ih j hj
    | true =>
      rw [← slC_y hok, ← slS_y hok]
      by_cases q : j = slotN N (s_cx U i) (nI (s_nd U))
      · have hi := ih _ (q ▸ hj)
        rw [q, upd_at, upd_at]; exact ⟨slot_rng hi.1 hi.2, cnt_rng hi.2⟩
      · rw [upd_ne q, upd_ne q]; exact ih j hj
end
