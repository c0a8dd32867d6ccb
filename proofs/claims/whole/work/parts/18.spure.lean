/-! a side's world and what its methods reckon -/
def updN (f : Nat → Nat) (k x : Nat) : Nat → Nat := fun j => if j = k then x else f j
abbrev sideL (g : GT) (ad : Nat → Nat) (np : Nat) (fk fn fo st : Nat → Int32) (n nd bg : Nat) (f : Nat → Int32) (N : Nat) (fc fs : Nat → Int32) (r0 t0 : Int32) (f0 : Nat → Int32) (r1 t1 : Int32) (f1 : Nat → Int32) (nr : Int32) (fx : Nat → Int32) (mp ml : Nat → Nat) (cx xi : Nat → Int32) : va_W :=
  [(ad 0, .inr (8, [.ref (ad 1), .ref (ad 5), .ref (ad 7), .ref (ad 9), .ref (ad 12), .ref (ad 14), .ref (ad 16), .ref (ad 18), .ref (ad 27), .ref (ad 28)])),
   (ad 1, .inr (7, [.ref (ad 2), .ref (ad 3), .ref (ad 4), .int (nI np)])), (ad 2, .inl (g.2.1 0, 8, .inl fk)), (ad 3, .inl (g.2.1 0, 8, .inl fn)), (ad 4, .inl (g.2.1 2, 8, .inl fo)),
   (ad 5, .inr (5, [.ref (ad 6)])), (ad 6, .inl (g.2.1 0, 4096, .inl st)),
   (ad 7, .inr (2, [.ref (ad 8), .int (nI n), .int (nI nd), .int (nI bg)])), (ad 8, .inl (g.2.1 0, 2000, .inl f)),
   (ad 9, .inr (9, [.ref (ad 10), .ref (ad 11)])), (ad 10, .inl (g.2.1 0, N, .inl fc)), (ad 11, .inl (g.2.1 0, N, .inl fs)),
   (ad 12, .inr (4, [.ref (ad 13), .int r0, .int t0])), (ad 13, .inl (g.2.1 0, 2304, .inl f0)),
   (ad 14, .inr (4, [.ref (ad 15), .int r1, .int t1])), (ad 15, .inl (g.2.1 0, 2304, .inl f1)),
   (ad 16, .inr (1, [.ref (ad 17), .int nr])), (ad 17, .inl (g.2.1 0, 8448, .inl fx)),
   (ad 18, .inl (g.2.1 3, 8, .inr (.inr (.inr (.inr (fun i => some (ad (19 + i)))))))),
   (ad 19, .inr (3, [.int (nI (mp 0)), .int (nI (ml 0))])), (ad 20, .inr (3, [.int (nI (mp 1)), .int (nI (ml 1))])), (ad 21, .inr (3, [.int (nI (mp 2)), .int (nI (ml 2))])), (ad 22, .inr (3, [.int (nI (mp 3)), .int (nI (ml 3))])),
   (ad 23, .inr (3, [.int (nI (mp 4)), .int (nI (ml 4))])), (ad 24, .inr (3, [.int (nI (mp 5)), .int (nI (ml 5))])), (ad 25, .inr (3, [.int (nI (mp 6)), .int (nI (ml 6))])), (ad 26, .inr (3, [.int (nI (mp 7)), .int (nI (ml 7))])),
   (ad 27, .inl (g.2.1 0, 8, .inl cx)), (ad 28, .inl (g.2.1 0, 9, .inl xi))]
section
variable {g : GT} {ad : Nat → Nat} {np : Nat} {fk fn fo st : Nat → Int32} {n nd bg : Nat} {f : Nat → Int32} {N : Nat} {fc fs : Nat → Int32} {r0 t0 : Int32} {f0 : Nat → Int32} {r1 t1 : Int32} {f1 : Nat → Int32} {nr : Int32} {fx : Nat → Int32} {mp ml : Nat → Nat} {cx xi : Nat → Int32}
theorem sideL_mt {i : Nat} (hi : i < 8) : (sideL g ad np fk fn fo st n nd bg f N fc fs r0 t0 f0 r1 t1 f1 nr fx mp ml cx xi)[19 + i]? = some (ad (19 + i), .inr (3, [.int (nI (mp i)), .int (nI (ml i))])) := by
  match i, hi with
  | 0, _ => rfl
  | 1, _ => rfl
  | 2, _ => rfl
  | 3, _ => rfl
  | 4, _ => rfl
  | 5, _ => rfl
  | 6, _ => rfl
  | 7, _ => rfl
theorem sideL_set {i u v : Nat} (hi : i < 8) : (sideL g ad np fk fn fo st n nd bg f N fc fs r0 t0 f0 r1 t1 f1 nr fx mp ml cx xi).set (19 + i) (ad (19 + i), .inr (3, [.int (nI u), .int (nI v)])) = sideL g ad np fk fn fo st n nd bg f N fc fs r0 t0 f0 r1 t1 f1 nr fx (updN mp i u) (updN ml i v) cx xi := by
  match i, hi with
  | 0, _ => rfl
  | 1, _ => rfl
  | 2, _ => rfl
  | 3, _ => rfl
  | 4, _ => rfl
  | 5, _ => rfl
  | 6, _ => rfl
  | 7, _ => rfl
theorem sideL_js {i : Nat} (hi : i < 8) : [19 + i, 7, 8].map (fun k => (sideL g ad np fk fn fo st n nd bg f N fc fs r0 t0 f0 r1 t1 f1 nr fx mp ml cx xi)[k]?) = ([(ad (19 + i), .inr (3, [.int (nI (mp i)), .int (nI (ml i))])), (ad 7, .inr (2, [.ref (ad 8), .int (nI n), .int (nI nd), .int (nI bg)])), (ad 8, .inl (g.2.1 0, 2000, .inl f))] : va_W).map some := by
  simp only [List.map_cons, List.map_nil, sideL_mt hi]; rfl
theorem sideL_nd {i : Nat} (hi : i < 8) : va_nd [19 + i, 7, 8] = true := by
  match i, hi with
  | 0, _ => rfl
  | 1, _ => rfl
  | 2, _ => rfl
  | 3, _ => rfl
  | 4, _ => rfl
  | 5, _ => rfl
  | 6, _ => rfl
  | 7, _ => rfl
theorem sideL_sl {i u v : Nat} (hi : i < 8) : setL (sideL g ad np fk fn fo st n nd bg f N fc fs r0 t0 f0 r1 t1 f1 nr fx mp ml cx xi) [19 + i, 7, 8] [(ad (19 + i), .inr (3, [.int (nI u), .int (nI v)])), (ad 7, .inr (2, [.ref (ad 8), .int (nI n), .int (nI nd), .int (nI bg)])), (ad 8, .inl (g.2.1 0, 2000, .inl f))] = sideL g ad np fk fn fo st n nd bg f N fc fs r0 t0 f0 r1 t1 f1 nr fx (updN mp i u) (updN ml i v) cx xi := by
  match i, hi with
  | 0, _ => rfl
  | 1, _ => rfl
  | 2, _ => rfl
  | 3, _ => rfl
  | 4, _ => rfl
  | 5, _ => rfl
  | 6, _ => rfl
  | 7, _ => rfl
theorem sideL_id {i : Nat} (hi : i < 8) : setL (sideL g ad np fk fn fo st n nd bg f N fc fs r0 t0 f0 r1 t1 f1 nr fx mp ml cx xi) [19 + i, 7, 8] [(ad (19 + i), .inr (3, [.int (nI (mp i)), .int (nI (ml i))])), (ad 7, .inr (2, [.ref (ad 8), .int (nI n), .int (nI nd), .int (nI bg)])), (ad 8, .inl (g.2.1 0, 2000, .inl f))] = sideL g ad np fk fn fo st n nd bg f N fc fs r0 t0 f0 r1 t1 f1 nr fx mp ml cx xi := by
  match i, hi with
  | 0, _ => rfl
  | 1, _ => rfl
  | 2, _ => rfl
  | 3, _ => rfl
  | 4, _ => rfl
  | 5, _ => rfl
  | 6, _ => rfl
  | 7, _ => rfl
end
theorem Wd.eq {g : GT} {A : Nat → Prop} {s : State} {L L' : va_W} {H : Heap} {locs : List Loc} (h : Wd g A s L H locs) (e : L = L') : Wd g A s L' H locs := e ▸ h
def mtP (f : Nat → Int32) (n t pl ln : Nat) : Nat := findP f n t (folP f n pl ln) (folL f n pl ln)
def mtL (f : Nat → Int32) (n t pl ln : Nat) : Nat := findL f n t (folL f n pl ln)
def bgP (f : Nat → Int32) (n : Nat) (fk fn : Nat → Int32) (mp ml : Nat → Nat) (i : Nat) : Nat → Nat := fun j => if j < i ∧ fk j = 4 then mtP f n (fn j).toNatClampNeg (mp j) (ml j) else mp j
def bgL (f : Nat → Int32) (n : Nat) (fk fn : Nat → Int32) (mp ml : Nat → Nat) (i : Nat) : Nat → Nat := fun j => if j < i ∧ fk j = 4 then mtL f n (fn j).toNatClampNeg (mp j) (ml j) else ml j
def bgC (f : Nat → Int32) (n : Nat) (fk fn cx : Nat → Int32) (i : Nat) : Nat → Int32 := fun j => if j < i ∧ ¬ fk j = 4 then ctxI f n (fk j) (fn j) else cx j
theorem bgP_0 (f : Nat → Int32) (n : Nat) (fk fn : Nat → Int32) (mp ml : Nat → Nat) : mp = bgP f n fk fn mp ml 0 := by funext j; simp [bgP]
theorem bgL_0 (f : Nat → Int32) (n : Nat) (fk fn : Nat → Int32) (mp ml : Nat → Nat) : ml = bgL f n fk fn mp ml 0 := by funext j; simp [bgL]
theorem bgC_0 (f : Nat → Int32) (n : Nat) (fk fn cx : Nat → Int32) : cx = bgC f n fk fn cx 0 := by funext j; simp [bgC]
theorem ite_s {α : Type} {P : Nat → Prop} [DecidablePred P] {a b : Nat → α} {i : Nat} (j : Nat) (hP : P i) (h : ¬ j = i → True) : (if j = i then a i else if j < i ∧ P j then a j else b j) = if j < i + 1 ∧ P j then a j else b j := by
  by_cases q : j = i
  · rw [if_pos q, q, if_pos ⟨by omega, hP⟩]
  · rw [if_neg q]
    by_cases q2 : j < i ∧ P j
    · rw [if_pos q2, if_pos ⟨by omega, q2.2⟩]
    · rw [if_neg q2, if_neg (fun z => q2 ⟨by omega, z.2⟩)]
theorem ite_n {α : Type} {P : Nat → Prop} [DecidablePred P] {a b : Nat → α} {i : Nat} (j : Nat) (hP : ¬ P i) : (if j < i ∧ P j then a j else b j) = if j < i + 1 ∧ P j then a j else b j := by
  by_cases q : j < i ∧ P j
  · rw [if_pos q, if_pos ⟨by omega, q.2⟩]
  · rw [if_neg q, if_neg (fun z => q ⟨by rcases Nat.lt_succ_iff_lt_or_eq.mp z.1 with r | r; exact r; exact absurd (r ▸ z.2) hP, z.2⟩)]
theorem bgP_s {f : Nat → Int32} {n : Nat} {fk fn : Nat → Int32} {mp ml : Nat → Nat} {i t : Nat} (h : fk i = 4) (et : (fn i).toNatClampNeg = t) : updN (bgP f n fk fn mp ml i) i (mtP f n t (bgP f n fk fn mp ml i i) (bgL f n fk fn mp ml i i)) = bgP f n fk fn mp ml (i + 1) := by
  have e1 : bgP f n fk fn mp ml i i = mp i := by simp [bgP]
  have e2 : bgL f n fk fn mp ml i i = ml i := by simp [bgL]
  rw [e1, e2, ← et]
  funext j
  exact ite_s (P := fun j => fk j = 4) (a := fun j => mtP f n (fn j).toNatClampNeg (mp j) (ml j)) (b := mp) j h (fun _ => trivial)
theorem bgL_s {f : Nat → Int32} {n : Nat} {fk fn : Nat → Int32} {mp ml : Nat → Nat} {i t : Nat} (h : fk i = 4) (et : (fn i).toNatClampNeg = t) : updN (bgL f n fk fn mp ml i) i (mtL f n t (bgP f n fk fn mp ml i i) (bgL f n fk fn mp ml i i)) = bgL f n fk fn mp ml (i + 1) := by
  have e1 : bgP f n fk fn mp ml i i = mp i := by simp [bgP]
  have e2 : bgL f n fk fn mp ml i i = ml i := by simp [bgL]
  rw [e1, e2, ← et]
  funext j
  exact ite_s (P := fun j => fk j = 4) (a := fun j => mtL f n (fn j).toNatClampNeg (mp j) (ml j)) (b := ml) j h (fun _ => trivial)
theorem bgC_s {f : Nat → Int32} {n : Nat} {fk fn cx : Nat → Int32} {i : Nat} (h : ¬ fk i = 4) : upd (bgC f n fk fn cx i) i (ctxI f n (fk i) (fn i)) = bgC f n fk fn cx (i + 1) := by
  funext j
  exact ite_s (P := fun j => ¬ fk j = 4) (a := fun j => ctxI f n (fk j) (fn j)) (b := cx) j h (fun _ => trivial)
theorem bgP_n {f : Nat → Int32} {n : Nat} {fk fn : Nat → Int32} {mp ml : Nat → Nat} {i : Nat} (h : ¬ fk i = 4) : bgP f n fk fn mp ml i = bgP f n fk fn mp ml (i + 1) := by
  funext j; exact ite_n (P := fun j => fk j = 4) (a := fun j => mtP f n (fn j).toNatClampNeg (mp j) (ml j)) (b := mp) j h
theorem bgL_n {f : Nat → Int32} {n : Nat} {fk fn : Nat → Int32} {mp ml : Nat → Nat} {i : Nat} (h : ¬ fk i = 4) : bgL f n fk fn mp ml i = bgL f n fk fn mp ml (i + 1) := by
  funext j; exact ite_n (P := fun j => fk j = 4) (a := fun j => mtL f n (fn j).toNatClampNeg (mp j) (ml j)) (b := ml) j h
theorem bgC_n {f : Nat → Int32} {n : Nat} {fk fn cx : Nat → Int32} {i : Nat} (h : fk i = 4) : bgC f n fk fn cx i = bgC f n fk fn cx (i + 1) := by
  funext j; exact ite_n (P := fun j => ¬ fk j = 4) (a := fun j => ctxI f n (fk j) (fn j)) (b := cx) j (fun z => z h)
theorem updN_2 (f : Nat → Nat) (i a b : Nat) : updN (updN f i a) i b = updN f i b := by
  funext j; simp only [updN]; by_cases h : j = i
  · rw [if_pos h, if_pos h]
  · rw [if_neg h, if_neg h, if_neg h]
theorem updN_self (f : Nat → Nat) (i a : Nat) : updN f i a i = a := by simp [updN]
theorem folL_le {f : Nat → Int32} {n pl ln : Nat} (h : ln ≤ 32) : folL f n pl ln ≤ 32 := by
  unfold folL
  by_cases q : folB f n pl ln = true
  · rw [if_pos q]; split <;> omega
  · rw [if_neg q]; omega
