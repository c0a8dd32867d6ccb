section
variable {p : Program} {l : Launch} {e : Env} {R : Room} {s : State} {m : MethodId} {args : Array Value} {below : List Frame} {meth : Method} {c : Code} {H : Heap} {locs : List Loc} {cells slots : Nat} {Q : State → Prop} {cc : ByteArray} {ret : Option FieldType} {nL : Nat} {own : String} {g : GT} {A : Nat → Prop} {L : va_W} {pc : Nat} {ls : Array Slot} {rest : List Value} {a : Nat}
theorem OM.startQ {S : Type} {y : MethodName} {rm : Room} {av : List Value} {rv : S → Option Value} {L' : S → va_W} (hy : plainName y.cls = true) (hn : (lg_sl av).length ≤ nL)
    (body : ∀ (p : Program) (e : Env) (s : State) (m : MethodId) (below : List Frame) (meth : Method) (c : Code) (A : Nat → Prop) (ls : Array Slot) (Q : State → Prop) (H : Heap) (locs : List Loc), Q = MQ below (QG g A rv L') av.toArray s rm.cells rm.slots A → Cx p s m meth c av.toArray cc ret nL y.cls g A → meth.name = y.name → lv_has ls nL (lv_args 0 av) → Wd g A s L H locs →
      W p l e rm s m av.toArray below meth c H locs 0 0 Q (F0 m 0 ls [])) : OM l g y cc nL ret rm av L rv L' :=
  OM.start hy hn (fun p e s m below meth c A ls h1 h2 h3 h4 => body p e s m below meth c A ls _ _ _ rfl h1 h2 h3 h4)
theorem e_iret {S : Type} {rv : S → Option Value} {L' : S → va_W} {v : Int32} (C : Cx p s m meth c args cc (some .int) nL own g A) (hQ : Q = MQ below (QG g A rv L') args s cells slots A) (u : S) (hT : Wd g A s (L' u) H locs) (hv : rv u = some (.int v)) (hdg : decode cc pc = .ok (.ireturn, 1)) : W p l e R s m args below meth c H locs cells slots Q (F0 m pc ls [.int v]) := by
  subst hQ; exact r_iret C u hT hv hdg
theorem e_zret {S : Type} {rv : S → Option Value} {L' : S → va_W} {v : Int32} (C : Cx p s m meth c args cc (some .boolean) nL own g A) (hQ : Q = MQ below (QG g A rv L') args s cells slots A) (u : S) (hT : Wd g A s (L' u) H locs) (hv : rv u = some (.int v)) (hn : v = 0 ∨ v = 1) (hdg : decode cc pc = .ok (.ireturn, 1)) : W p l e R s m args below meth c H locs cells slots Q (F0 m pc ls [.int v]) := by
  subst hQ; exact r_zret C u hT hv hn hdg
theorem e_lret {S : Type} {rv : S → Option Value} {L' : S → va_W} {v : Int64} (C : Cx p s m meth c args cc (some .long) nL own g A) (hQ : Q = MQ below (QG g A rv L') args s cells slots A) (u : S) (hT : Wd g A s (L' u) H locs) (hv : rv u = some (.long v)) (hdg : decode cc pc = .ok (.lreturn, 1)) : W p l e R s m args below meth c H locs cells slots Q (F0 m pc ls [.long v]) := by
  subst hQ; exact r_lret C u hT hv hdg
theorem e_vret {S : Type} {rv : S → Option Value} {L' : S → va_W} (C : Cx p s m meth c args cc none nL own g A) (hQ : Q = MQ below (QG g A rv L') args s cells slots A) (u : S) (hT : Wd g A s (L' u) H locs) (hv : rv u = none) (hdg : decode cc pc = .ok (.return_, 1)) : W p l e R s m args below meth c H locs cells slots Q (F0 m pc ls []) := by
  subst hQ; exact r_vret C u hT hv hdg
theorem e_aret {S : Type} {rv : S → Option Value} {L' : S → va_W} {n : String} {v : Value} (C : Cx p s m meth c args cc (some (.object n)) nL own g A) (hQ : Q = MQ below (QG g A rv L') args s cells slots A) (u : S) (hT : Wd g A s (L' u) H locs) (hv : rv u = some v) (hn : v = .null ∨ ∃ a, v = .ref a) (hdg : decode cc pc = .ok (.areturn, 1)) : W p l e R s m args below meth c H locs cells slots Q (F0 m pc ls [v]) := by
  subst hQ; exact r_aret C u hT hv hn hdg
theorem r_zast (C : Cx p s m meth c args cc ret nL own g A) (hT : Wd g A s L H locs) {q0 n : Nat} {f : Nat → Int32} (he : L[q0]? = some (a, .inl (g.2.1 2, n, .inl f))) {i x : Int32} (k : Nat) (hi : i = nI k) (hk : k < n) (hn : n < 2 ^ 31) (hz : x = 0 ∨ x = 1) (hdg : decode cc pc = .ok (.bastore, 1))
    (kk : ∀ (H1 : Heap) (locs1 : List Loc), Wd g A s (L.set q0 (a, .inl (g.2.1 2, n, .inl (upd f k x)))) H1 locs1 → W p l e R s m args below meth c H1 locs1 cells slots Q (F0 m (pc + 1) ls rest)) : W p l e R s m args below meth c H locs cells slots Q (F0 m pc ls (.int x :: .int i :: .ref a :: rest)) := by
  subst hi
  have hx1 : x &&& 1 = x := by rcases hz with rfl | rfl <;> rfl
  refine va_zast C.x C.b C.K hT.1 hT.2.1 hT.2.2 q0 2 he rfl (vp_in_nI hk hn) hdg ?_
  rw [nI_clamp (by omega)]
  first | exact fun H1 locs1 h1 h2 h3 => kk H1 locs1 ⟨h1, h2, h3⟩ | (rcases hz with rfl | rfl <;> exact fun H1 locs1 h1 h2 h3 => kk H1 locs1 ⟨h1, h2, h3⟩)
theorem r_ite {P : Prop} [Decidable P] {g0 gt gf : JFrame} {J : Nat} {a1 a2 : Int32} (row : (P → W p l e R s m args below meth c H locs cells slots Q gt) → (¬ P → W p l e R s m args below meth c H locs cells slots Q gf) → W p l e R s m args below meth c H locs cells slots Q g0) (kt : P → W p l e R s m args below meth c H locs cells slots Q (F0 m J ls (.int a1 :: rest)) → W p l e R s m args below meth c H locs cells slots Q gt) (kf : ¬ P → W p l e R s m args below meth c H locs cells slots Q (F0 m J ls (.int a2 :: rest)) → W p l e R s m args below meth c H locs cells slots Q gf)
    (kk : W p l e R s m args below meth c H locs cells slots Q (F0 m J ls (.int (if P then a1 else a2) :: rest))) : W p l e R s m args below meth c H locs cells slots Q g0 :=
  row (fun h => kt h (by rw [if_pos h] at kk; exact kk)) (fun h => kf h (by rw [if_neg h] at kk; exact kk))
theorem r_iteN {P : Prop} [Decidable P] {g0 gt gf : JFrame} {J : Nat} {a1 a2 : Int32} (row : (¬ P → W p l e R s m args below meth c H locs cells slots Q gt) → (P → W p l e R s m args below meth c H locs cells slots Q gf) → W p l e R s m args below meth c H locs cells slots Q g0) (kt : ¬ P → W p l e R s m args below meth c H locs cells slots Q (F0 m J ls (.int a1 :: rest)) → W p l e R s m args below meth c H locs cells slots Q gt) (kf : P → W p l e R s m args below meth c H locs cells slots Q (F0 m J ls (.int a2 :: rest)) → W p l e R s m args below meth c H locs cells slots Q gf)
    (kk : W p l e R s m args below meth c H locs cells slots Q (F0 m J ls (.int (if P then a2 else a1) :: rest))) : W p l e R s m args below meth c H locs cells slots Q g0 :=
  row (fun h => kt h (by rw [if_neg h] at kk; exact kk)) (fun h => kf h (by rw [if_pos h] at kk; exact kk))
theorem swOut1 {x : Int32} (h0 : ¬ x = 0) : x.toInt < 0 ∨ 0 < x.toInt := by
  have := lv_neT (k := 0) (a := 0) h0 (by decide); omega
theorem swOut5 {x : Int32} (h0 : ¬ x = 0) (h1 : ¬ x = 1) (h2 : ¬ x = 2) (h3 : ¬ x = 3) (h4 : ¬ x = 4) : x.toInt < 0 ∨ 4 < x.toInt := by
  have := lv_neT (k := 0) (a := 0) h0 (by decide); have := lv_neT (k := 1) (a := 1) h1 (by decide); have := lv_neT (k := 2) (a := 2) h2 (by decide); have := lv_neT (k := 3) (a := 3) h3 (by decide); have := lv_neT (k := 4) (a := 4) h4 (by decide); omega
theorem swOut4 {x : Int32} (h0 : ¬ x = 0) (h1 : ¬ x = 1) (h2 : ¬ x = 2) (h3 : ¬ x = 3) : x.toInt < 0 ∨ 3 < x.toInt := by
  have := lv_neT (k := 0) (a := 0) h0 (by decide); have := lv_neT (k := 1) (a := 1) h1 (by decide); have := lv_neT (k := 2) (a := 2) h2 (by decide); have := lv_neT (k := 3) (a := 3) h3 (by decide); omega
theorem swOut8 {x : Int32} (h0 : ¬ x = 0) (h1 : ¬ x = 1) (h2 : ¬ x = 2) (h3 : ¬ x = 3) (h4 : ¬ x = 4) (h5 : ¬ x = 5) (h6 : ¬ x = 6) (h7 : ¬ x = 7) : x.toInt < 0 ∨ 7 < x.toInt := by
  have := lv_neT (k := 0) (a := 0) h0 (by decide); have := lv_neT (k := 1) (a := 1) h1 (by decide); have := lv_neT (k := 2) (a := 2) h2 (by decide); have := lv_neT (k := 3) (a := 3) h3 (by decide); have := lv_neT (k := 4) (a := 4) h4 (by decide); have := lv_neT (k := 5) (a := 5) h5 (by decide); have := lv_neT (k := 6) (a := 6) h6 (by decide); have := lv_neT (k := 7) (a := 7) h7 (by decide); omega
end
