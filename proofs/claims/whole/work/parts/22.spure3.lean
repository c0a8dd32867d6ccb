/-! what a side learns -/
def slG (sl : Nat → Nat) (ok : Nat → Bool) (on : Int32) (fc fs : Nat → Int32) : Nat → (Nat → Int32) × (Nat → Int32)
  | 0 => (fc, fs)
  | i + 1 => if ok i = true then (upd (slG sl ok on fc fs i).1 (sl i) (slotUp on ((slG sl ok on fc fs i).1 (sl i)) ((slG sl ok on fc fs i).2 (sl i))), upd (slG sl ok on fc fs i).2 (sl i) (cntUp ((slG sl ok on fc fs i).2 (sl i)))) else slG sl ok on fc fs i
theorem slG_y {sl : Nat → Nat} {ok : Nat → Bool} {on : Int32} {fc fs : Nat → Int32} {i : Nat} (h : ok i = true) : slG sl ok on fc fs (i + 1) = (upd (slG sl ok on fc fs i).1 (sl i) (slotUp on ((slG sl ok on fc fs i).1 (sl i)) ((slG sl ok on fc fs i).2 (sl i))), upd (slG sl ok on fc fs i).2 (sl i) (cntUp ((slG sl ok on fc fs i).2 (sl i)))) := by
  rw [slG, if_pos h]
theorem slG_n {sl : Nat → Nat} {ok : Nat → Bool} {on : Int32} {fc fs : Nat → Int32} {i : Nat} (h : ok i = false) : slG sl ok on fc fs (i + 1) = slG sl ok on fc fs i := by
  rw [slG, if_neg (by rw [h]; decide)]
def slOk (fo fk : Nat → Int32) (i : Nat) : Bool := decide (fo i = 0) && !decide (fk i = 4)
def slI (N nd : Nat) (cx : Nat → Int32) (i : Nat) : Nat := slotN N (cx i) (nI nd)
def slC (fo fk : Nat → Int32) (N nd : Nat) (cx : Nat → Int32) (on : Int32) (fc fs : Nat → Int32) (k : Nat) : Nat → Int32 := (slG (slI N nd cx) (slOk fo fk) on fc fs k).1
def slS (fo fk : Nat → Int32) (N nd : Nat) (cx : Nat → Int32) (on : Int32) (fc fs : Nat → Int32) (k : Nat) : Nat → Int32 := (slG (slI N nd cx) (slOk fo fk) on fc fs k).2
theorem slC_y {fo fk : Nat → Int32} {N nd : Nat} {cx : Nat → Int32} {on : Int32} {fc fs : Nat → Int32} {i : Nat} (h : slOk fo fk i = true) : upd (slC fo fk N nd cx on fc fs i) (slotN N (cx i) (nI nd)) (slotUp on (slC fo fk N nd cx on fc fs i (slotN N (cx i) (nI nd))) (slS fo fk N nd cx on fc fs i (slotN N (cx i) (nI nd)))) = slC fo fk N nd cx on fc fs (i + 1) := (congrArg Prod.fst (slG_y (sl := slI N nd cx) (on := on) (fc := fc) (fs := fs) h)).symm
theorem slS_y {fo fk : Nat → Int32} {N nd : Nat} {cx : Nat → Int32} {on : Int32} {fc fs : Nat → Int32} {i : Nat} (h : slOk fo fk i = true) : upd (slS fo fk N nd cx on fc fs i) (slotN N (cx i) (nI nd)) (cntUp (slS fo fk N nd cx on fc fs i (slotN N (cx i) (nI nd)))) = slS fo fk N nd cx on fc fs (i + 1) := (congrArg Prod.snd (slG_y (sl := slI N nd cx) (on := on) (fc := fc) (fs := fs) h)).symm
theorem slC_n {fo fk : Nat → Int32} {N nd : Nat} {cx : Nat → Int32} {on : Int32} {fc fs : Nat → Int32} {i : Nat} (h : slOk fo fk i = false) : slC fo fk N nd cx on fc fs i = slC fo fk N nd cx on fc fs (i + 1) := (congrArg Prod.fst (slG_n (sl := slI N nd cx) (on := on) (fc := fc) (fs := fs) h)).symm
theorem slS_n {fo fk : Nat → Int32} {N nd : Nat} {cx : Nat → Int32} {on : Int32} {fc fs : Nat → Int32} {i : Nat} (h : slOk fo fk i = false) : slS fo fk N nd cx on fc fs i = slS fo fk N nd cx on fc fs (i + 1) := (congrArg Prod.snd (slG_n (sl := slI N nd cx) (on := on) (fc := fc) (fs := fs) h)).symm
theorem slC_0 (fo fk : Nat → Int32) (N nd : Nat) (cx : Nat → Int32) (on : Int32) (fc fs : Nat → Int32) : fc = slC fo fk N nd cx on fc fs 0 := rfl
theorem slS_0 (fo fk : Nat → Int32) (N nd : Nat) (cx : Nat → Int32) (on : Int32) (fc fs : Nat → Int32) : fs = slS fo fk N nd cx on fc fs 0 := rfl
def zTo (f : Nat → Nat) (k : Nat) : Nat → Nat := fun j => if j < k then 0 else f j
theorem zTo_s (f : Nat → Nat) (k : Nat) : updN (zTo f k) k 0 = zTo f (k + 1) := by
  funext j
  simp only [updN, zTo]
  by_cases q : j = k
  · rw [if_pos q, if_pos (by omega)]
  · rw [if_neg q]
    by_cases q2 : j < k
    · rw [if_pos q2, if_pos (by omega)]
    · rw [if_neg q2, if_neg (by omega)]
theorem zTo_0 (f : Nat → Nat) : f = zTo f 0 := by funext j; simp [zTo]
theorem updN_id (f : Nat → Nat) (i : Nat) : updN f i (f i) = f := by
  funext j; simp only [updN]; by_cases h : j = i
  · rw [if_pos h, h]
  · rw [if_neg h]
theorem zTo_le {f : Nat → Nat} {j : Nat} (h : j < 8) : zTo f 8 j ≤ 32 := by unfold zTo; rw [if_pos h]; omega
def fmF (fk : Nat → Int32) (ml : Nat → Nat) : Nat → Nat → Nat
  | 0, _ => 0
  | k + 1, i => if fk i = 4 then ml i else fmF fk ml k (i + 1)
theorem fmF_t {fk : Nat → Int32} {ml : Nat → Nat} {np i : Nat} (hi : i < np) (h : fk i = 4) : fmF fk ml (np - i) i = ml i := by
  rw [show np - i = (np - (i + 1)) + 1 by omega, fmF, if_pos h]
theorem fmF_f {fk : Nat → Int32} {ml : Nat → Nat} {np i : Nat} (hi : i < np) (h : ¬ fk i = 4) : fmF fk ml (np - (i + 1)) (i + 1) = fmF fk ml (np - i) i := by
  rw [show np - i = (np - (i + 1)) + 1 by omega, fmF, if_neg h]
