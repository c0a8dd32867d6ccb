/-! the whole object's world -/
/-- a side's own state: (n, nd, bg, f), (fc, fs), (r0, t0, f0), (r1, t1, f1), (nr, fx), (mp, ml), (cx, xi) -/
abbrev SSt : Type := (Nat × Nat × Nat × (Nat → Int32)) × ((Nat → Int32) × (Nat → Int32)) × (Int32 × Int32 × (Nat → Int32)) × (Int32 × Int32 × (Nat → Int32)) × (Int32 × (Nat → Int32)) × ((Nat → Nat) × (Nat → Nat)) × (Nat → Int32) × (Nat → Int32)
abbrev s_n (W : SSt) : Nat := W.1.1
abbrev s_nd (W : SSt) : Nat := W.1.2.1
abbrev s_bg (W : SSt) : Nat := W.1.2.2.1
abbrev s_f (W : SSt) : Nat → Int32 := W.1.2.2.2
abbrev s_fc (W : SSt) : Nat → Int32 := W.2.1.1
abbrev s_fs (W : SSt) : Nat → Int32 := W.2.1.2
abbrev s_r0 (W : SSt) : Int32 := W.2.2.1.1
abbrev s_t0 (W : SSt) : Int32 := W.2.2.1.2.1
abbrev s_f0 (W : SSt) : Nat → Int32 := W.2.2.1.2.2
abbrev s_r1 (W : SSt) : Int32 := W.2.2.2.1.1
abbrev s_t1 (W : SSt) : Int32 := W.2.2.2.1.2.1
abbrev s_f1 (W : SSt) : Nat → Int32 := W.2.2.2.1.2.2
abbrev s_nr (W : SSt) : Int32 := W.2.2.2.2.1.1
abbrev s_fx (W : SSt) : Nat → Int32 := W.2.2.2.2.1.2
abbrev s_mp (W : SSt) : Nat → Nat := W.2.2.2.2.2.1.1
abbrev s_ml (W : SSt) : Nat → Nat := W.2.2.2.2.2.1.2
abbrev s_cx (W : SSt) : Nat → Int32 := W.2.2.2.2.2.2.1
abbrev s_xi (W : SSt) : Nat → Int32 := W.2.2.2.2.2.2.2
abbrev mkS (n nd bg : Nat) (f fc fs : Nat → Int32) (r0 t0 : Int32) (f0 : Nat → Int32) (r1 t1 : Int32) (f1 : Nat → Int32) (nr : Int32) (fx : Nat → Int32) (mp ml : Nat → Nat) (cx xi : Nat → Int32) : SSt := ((n, nd, bg, f), (fc, fs), (r0, t0, f0), (r1, t1, f1), (nr, fx), (mp, ml), cx, xi)
def mixA (ad bd : Nat → Nat) (k : Nat) : Nat := if k = 0 then bd 0 else if k < 7 then ad k else bd k
abbrev obC (ad : Nat → Nat) : Nat × va_E := (ad 0, .inr (8, [.ref (ad 1), .ref (ad 5), .ref (ad 7), .ref (ad 9), .ref (ad 12), .ref (ad 14), .ref (ad 16), .ref (ad 18), .ref (ad 27), .ref (ad 28)]))
abbrev shL (g : GT) (ad : Nat → Nat) (np : Nat) (fk fn fo st : Nat → Int32) : va_W := [(ad 1, .inr (7, [.ref (ad 2), .ref (ad 3), .ref (ad 4), .int (nI np)])), (ad 2, .inl (g.2.1 0, 8, .inl fk)), (ad 3, .inl (g.2.1 0, 8, .inl fn)), (ad 4, .inl (g.2.1 2, 8, .inl fo)), (ad 5, .inr (5, [.ref (ad 6)])), (ad 6, .inl (g.2.1 0, 4096, .inl st))]
abbrev prL (g : GT) (ad : Nat → Nat) (N : Nat) (n nd bg : Nat) (f fc fs : Nat → Int32) (r0 t0 : Int32) (f0 : Nat → Int32) (r1 t1 : Int32) (f1 : Nat → Int32) (nr : Int32) (fx : Nat → Int32) (mp ml : Nat → Nat) (cx xi : Nat → Int32) : va_W :=
  [(ad 7, .inr (2, [.ref (ad 8), .int (nI n), .int (nI nd), .int (nI bg)])), (ad 8, .inl (g.2.1 0, 2000, .inl f)),
   (ad 9, .inr (9, [.ref (ad 10), .ref (ad 11)])), (ad 10, .inl (g.2.1 0, N, .inl fc)), (ad 11, .inl (g.2.1 0, N, .inl fs)),
   (ad 12, .inr (4, [.ref (ad 13), .int r0, .int t0])), (ad 13, .inl (g.2.1 0, 2304, .inl f0)),
   (ad 14, .inr (4, [.ref (ad 15), .int r1, .int t1])), (ad 15, .inl (g.2.1 0, 2304, .inl f1)),
   (ad 16, .inr (1, [.ref (ad 17), .int nr])), (ad 17, .inl (g.2.1 0, 8448, .inl fx)),
   (ad 18, .inl (g.2.1 3, 8, .inr (.inr (.inr (.inr (fun i => some (ad (19 + i)))))))),
   (ad 19, .inr (3, [.int (nI (mp 0)), .int (nI (ml 0))])), (ad 20, .inr (3, [.int (nI (mp 1)), .int (nI (ml 1))])), (ad 21, .inr (3, [.int (nI (mp 2)), .int (nI (ml 2))])), (ad 22, .inr (3, [.int (nI (mp 3)), .int (nI (ml 3))])),
   (ad 23, .inr (3, [.int (nI (mp 4)), .int (nI (ml 4))])), (ad 24, .inr (3, [.int (nI (mp 5)), .int (nI (ml 5))])), (ad 25, .inr (3, [.int (nI (mp 6)), .int (nI (ml 6))])), (ad 26, .inr (3, [.int (nI (mp 7)), .int (nI (ml 7))])),
   (ad 27, .inl (g.2.1 0, 8, .inl cx)), (ad 28, .inl (g.2.1 0, 9, .inl xi))]
abbrev exL (g : GT) (ad bd : Nat → Nat) (code : Int64) (cp : Nat) (en : Bool) (no : Nat) (fu : Nat → Int32) (wl wh rl rh : Int64) : va_W :=
  [(bd 1, .inr (10, [.ref (ad 5), .ref (ad 1), .ref (ad 0), .ref (mixA ad bd 0), .ref (bd 2), .ref (bd 4), .ref (bd 5), .long code, .int (nI cp), .int (b01 en)])),
   (bd 2, .inr (6, [.ref (bd 3), .int (nI no)])), (bd 3, .inl (g.2.1 0, 3028, .inl fu)), (bd 4, .inr (0, [.long wl, .long wh])), (bd 5, .inr (0, [.long rl, .long rh]))]
abbrev cmL (g : GT) (ad bd : Nat → Nat) (np : Nat) (fk fn fo st : Nat → Int32) (N : Nat) (n nd bg : Nat) (f fc fs : Nat → Int32) (r0 t0 : Int32) (f0 : Nat → Int32) (r1 t1 : Int32) (f1 : Nat → Int32) (nr : Int32) (fx : Nat → Int32) (mp ml : Nat → Nat) (cx xi : Nat → Int32) (n2 nd2 bg2 : Nat) (f2 fc2 fs2 : Nat → Int32) (r02 t02 : Int32) (f02 : Nat → Int32) (r12 t12 : Int32) (f12 : Nat → Int32) (nr2 : Int32) (fx2 : Nat → Int32) (mp2 ml2 : Nat → Nat) (cx2 xi2 : Nat → Int32) (code : Int64) (cp : Nat) (en : Bool) (no : Nat) (fu : Nat → Int32) (wl wh rl rh : Int64) : va_W :=
  obC ad :: (shL g ad np fk fn fo st ++ (prL g ad N n nd bg f fc fs r0 t0 f0 r1 t1 f1 nr fx mp ml cx xi ++ (obC (mixA ad bd) :: (prL g (mixA ad bd) N n2 nd2 bg2 f2 fc2 fs2 r02 t02 f02 r12 t12 f12 nr2 fx2 mp2 ml2 cx2 xi2 ++ exL g ad bd code cp en no fu wl wh rl rh))))
/-- Wd does not look at the order -/
theorem va_D.nodup {A : Nat → Prop} {L : va_W} (h : va_D A L) : (L.map Prod.fst).Nodup := by
  rw [List.nodup_iff_pairwise_ne, List.pairwise_iff_getElem]
  intro i j hi hj hij e
  simp only [List.length_map] at hi hj
  simp only [List.getElem_map] at e
  have := h.1 i j L[i] L[j] (List.getElem?_eq_getElem hi) (List.getElem?_eq_getElem hj) e
  omega
theorem va_D.of {A : Nat → Prop} {L : va_W} (h : (L.map Prod.fst).Nodup) (h2 : ∀ q ∈ L, A q.1) : va_D A L := by
  refine ⟨fun i j p q hp hq e => ?_, fun k q hk => h2 q (List.mem_of_getElem? hk)⟩
  have hi := (List.getElem?_eq_some_iff.mp hp).1
  have hj := (List.getElem?_eq_some_iff.mp hq).1
  rw [List.nodup_iff_pairwise_ne, List.pairwise_iff_getElem] at h
  have ep : L[i] = p := (List.getElem?_eq_some_iff.mp hp).2
  have eq2 : L[j] = q := (List.getElem?_eq_some_iff.mp hq).2
  rcases Nat.lt_trichotomy i j with z | z | z
  · have q1 := h i j (by simpa using hi) (by simpa using hj) z
    rw [List.getElem_map, List.getElem_map, ep, eq2] at q1
    exact absurd e q1
  · exact z
  · have q1 := h j i (by simpa using hj) (by simpa using hi) z
    rw [List.getElem_map, List.getElem_map, ep, eq2] at q1
    exact absurd e.symm q1
theorem Wd.perm {g : GT} {A : Nat → Prop} {s : State} {L L' : va_W} {H : Heap} {locs : List Loc} (e : L.Perm L') (h : Wd g A s L H locs) : Wd g A s L' H locs := by
  refine ⟨fun k q hk => ?_, va_D.of ((e.map Prod.fst).nodup_iff.mp h.2.1.nodup) (fun q hq => ?_), h.2.2⟩
  · obtain ⟨i, hi⟩ := List.getElem?_of_mem (e.mem_iff.mpr (List.mem_of_getElem? hk))
    exact h.1 i q hi
  · obtain ⟨i, hi⟩ := List.getElem?_of_mem (e.mem_iff.mpr hq)
    exact h.2.1.2 i q hi
section
variable {p : Program} {l : Launch} {e : Env} {R : Room} {s : State} {m : MethodId} {args : Array Value} {below : List Frame} {meth : Method} {c : Code} {H : Heap} {locs : List Loc} {cells slots : Nat} {Q : State → Prop} {cc : ByteArray} {ret : Option FieldType} {nL : Nat} {own : String} {g : GT} {A : Nat → Prop} {L : va_W} {pc : Nat} {ls : Array Slot} {rest : List Value} {a : Nat}
theorem setL_pre : ∀ (P lc l1 B : va_W), l1.length = lc.length → setL (P ++ (lc ++ B)) (List.range' P.length lc.length) l1 = P ++ (l1 ++ B)
  | P, [], [], B, _ => rfl
  | P, [], _ :: _, B, h => by cases h
  | P, _ :: _, [], B, h => by cases h
  | P, x :: lc, y :: l1, B, h => by
    have e1 : (P ++ (x :: lc ++ B)).set P.length y = (P ++ [y]) ++ (lc ++ B) := by
      rw [List.set_append]; simp
    show setL ((P ++ (x :: lc ++ B)).set P.length y) (List.range' (P.length + 1) lc.length) l1 = _
    rw [e1]
    have := setL_pre (P ++ [y]) lc l1 B (by simpa using h)
    rw [List.length_append, List.length_singleton] at this
    rw [this]; simp
theorem js_pre (lc B : va_W) : (List.range' 0 lc.length).map (fun i => (lc ++ B)[i]?) = lc.map some := by
  apply List.ext_getElem?
  intro i
  by_cases h : i < lc.length
  · simp [h, List.getElem?_append_left h]
  · simp [h]
theorem nd_range : ∀ (n s : Nat), va_nd (List.range' s n) = true
  | 0, _ => rfl
  | n + 1, s => by
    simp only [List.range'_succ, va_nd, Bool.and_eq_true, decide_eq_true_eq]
    refine ⟨?_, nd_range n (s + 1)⟩
    rw [List.mem_range']
    rintro ⟨i, -, h⟩; omega
/-- a call whose world stands first -/
theorem r_callP {S : Type} {rv : S → Option Value} {L1 : S → va_W} {lc B : va_W} {y : MethodName} {bytes : ByteArray} {nl n index ci q1 : Nat} {rt : Option FieldType} {rm : Room} {b : Nat} {As : List Value} {st0 : List Value} {T : u_T} {N : Nat} {fs : List Value} (C : Cx p s m meth c args cc ret nL own g A) (hT : Wd g A s (lc ++ B) H locs) (hM : OM l g y bytes nl rt rm (.ref b :: As) lc rv L1)
    (k1 : Cond.methodLink own index y ∈ GW) (k2 : Cond.instanceMethod y ∈ GW) (k3 : Cond.selects y.cls y y ∈ GW) (k4 : Cond.initialized y.cls ∈ GW) (k5 : Cond.code y bytes nl rt ∈ GW) (hd : dsc y n) (hn : As.length = n) (hrec : lc[q1]? = some (b, .inr (ci, fs))) (hci : vwCl[ci]? = some (y.cls, T, N)) (hst : st0 = As.reverse ++ .ref b :: rest) (hw : (rest.map fun v => v.category).sum ≤ 8) (hls : ls.size = nL)
    (hR : rm.frames + 1 ≤ R.frames ∧ 8 + (nl + 11) + rm.locals ≤ R.locals) (hcs : cells + rm.cells ≤ R.cells ∧ slots + rm.slots ≤ R.slots) (hdg : decode cc pc = .ok (.invokevirtual index, 3)) (h1 : ∀ u, (L1 u).map Prod.fst = lc.map Prod.fst)
    (kk : ∀ (u : S) (H1 : Heap) (locs1 : List Loc), Wd g A s (L1 u ++ B) H1 locs1 → W p l e R s m args below meth c H1 locs1 (cells + rm.cells) (slots + rm.slots) Q (F0 m (pc + 3) ls ((rv u).toList ++ rest))) : W p l e R s m args below meth c H locs cells slots Q (F0 m pc ls st0) := by
  refine r_call0 (js := List.range' 0 lc.length) C hT (runV (js := List.range' 0 lc.length) (n := n) (q1 := q1) (rest := rest) C hT hM (js_pre lc B) (nd_range _ _) k1 k2 k3 k4 k5 hd hn hrec hci hst hw hls hR hcs hdg) (js_pre lc B) (nd_range _ _) h1 (fun u H1 locs1 h => kk u H1 locs1 (h.eq ?_))
  have hl : (L1 u).length = lc.length := by have := congrArg List.length (h1 u); simpa using this
  exact setL_pre [] lc (L1 u) B hl
theorem perm_w (o : Nat × va_E) (sh pw B : va_W) : (o :: (sh ++ (pw ++ B))).Perm ((o :: (sh ++ pw)) ++ B) := by simp
theorem perm_r (o o2 : Nat × va_E) (sh pw pr B : va_W) : (o :: (sh ++ (pw ++ (o2 :: (pr ++ B))))).Perm ((o2 :: (sh ++ pr)) ++ (o :: (pw ++ B))) := by
  have h1 : (sh ++ (pw ++ (o2 :: (pr ++ B)))).Perm (o2 :: ((sh ++ pw) ++ (pr ++ B))) := by
    rw [← List.append_assoc]; exact List.perm_middle
  have h2 : ((sh ++ pw) ++ (pr ++ B)).Perm ((sh ++ pr) ++ (pw ++ B)) := by
    rw [List.append_assoc, List.append_assoc]
    exact List.Perm.append_left sh (List.perm_append_comm_assoc pw pr B)
  have h3 : ((o2 :: (sh ++ pr)) ++ (o :: (pw ++ B))).Perm (o2 :: o :: ((sh ++ pr) ++ (pw ++ B))) := by
    rw [List.cons_append]; exact List.Perm.cons o2 List.perm_middle
  exact ((List.Perm.cons o h1).trans ((List.Perm.swap o2 o _).trans (List.Perm.cons o2 (List.Perm.cons o h2)))).trans h3.symm
end
section
variable {p : Program} {l : Launch} {e : Env} {R : Room} {s : State} {m : MethodId} {args : Array Value} {below : List Frame} {meth : Method} {c : Code} {H : Heap} {locs : List Loc} {cells slots : Nat} {Q : State → Prop} {cc : ByteArray} {ret : Option FieldType} {nL : Nat} {own : String} {g : GT} {A : Nat → Prop} {L : va_W} {pc : Nat} {ls : Array Slot} {rest : List Value} {a : Nat}
theorem setL_self : ∀ (js : List Nat) (L lc : va_W), js.map (fun i => L[i]?) = lc.map some → setL L js lc = L
  | [], L, lc, _ => by cases lc <;> rfl
  | j :: js, L, [], h => by cases h
  | j :: js, L, x :: lc, h => by
    simp only [List.map_cons, List.cons.injEq] at h
    have e : L.set j x = L := by
      apply List.ext_getElem?
      intro i
      by_cases hij : j = i
      · subst hij
        rw [List.getElem?_set_self (List.getElem?_eq_some_iff.mp h.1).1, h.1]
      · rw [List.getElem?_set_ne hij]
    show setL (L.set j x) js lc = L
    rw [e]; exact setL_self js L lc h.2
theorem r_callRO {S : Type} {rv : S → Option Value} {lc : va_W} {js : List Nat} {mc ms : Nat} {st0 : List Value} {aa : Array Value} (C : Cx p s m meth c args cc ret nL own g A) (hT : Wd g A s L H locs)
    (hr : va_Run p l e R s m args below meth c H locs cells slots mc ms (F0 m pc ls st0) rest (QG g (va_A lc H.size) rv (fun _ => lc) aa) (va_A lc H.size))
    (hjs : js.map (fun i => L[i]?) = lc.map some) (hnd : va_nd js = true)
    (kk : ∀ (u : S) (H1 : Heap) (locs1 : List Loc), Wd g A s L H1 locs1 → W p l e R s m args below meth c H1 locs1 (cells + mc) (slots + ms) Q (F0 m (pc + 3) ls ((rv u).toList ++ rest))) : W p l e R s m args below meth c H locs cells slots Q (F0 m pc ls st0) :=
  r_call0 C hT hr hjs hnd (fun _ => rfl) (fun u H1 locs1 h => kk u H1 locs1 (h.eq (setL_self js L lc hjs)))
end
