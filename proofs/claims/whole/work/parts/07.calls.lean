section
variable {p : Program} {l : Launch} {e : Env} {R : Room} {s : State} {m : MethodId} {args : Array Value} {below : List Frame} {meth : Method} {c : Code} {H : Heap} {locs : List Loc} {cells slots : Nat} {Q : State → Prop} {cc : ByteArray} {ret : Option FieldType} {nL : Nat} {own : String} {g : GT} {A : Nat → Prop} {L : va_W} {pc : Nat} {ls : Array Slot} {rest : List Value} {a : Nat}
theorem gw_code {y : MethodName} {bytes : ByteArray} {nl : Nat} {rt : Option FieldType} (k5 : Cond.code y bytes nl rt ∈ GW) : GoodIn GW (Cond.code y bytes nl rt :: GW) := fun w h => (List.mem_cons.mp h).elim (fun e => by rw [e]; exact ⟨k5, gw_good k5⟩) (fun h => ⟨h, gw_good h⟩)
theorem pick {L lc : va_W} {js : List Nat} (hjs : js.map (fun i => L[i]?) = lc.map some) (k : Nat) (q : Nat × va_E) (hq : lc[k]? = some q) : ∃ i, js[k]? = some i ∧ L[i]? = some q := by
  have h1 : (js.map (fun i => L[i]?))[k]? = some (some q) := by rw [hjs, List.getElem?_map, hq]; rfl
  rw [List.getElem?_map] at h1
  cases hi : js[k]? with
  | none => rw [hi] at h1; cases h1
  | some i => rw [hi] at h1; exact ⟨i, rfl, Option.some.inj h1⟩
theorem preG (C : Cx p s m meth c args cc ret nL own g A) (hT : Wd g A s L H locs) {lc : va_W} {js : List Nat} (hjs : js.map (fun i => L[i]?) = lc.map some) (hnd : va_nd js = true) (U : State) (hU : U.heap = H) (hW : s.WarmedH U.vm) : PreG g lc H.size U := by
  have hF := va_free hT.2.1 hT.2.2 C.fA js hjs
  refine ⟨by rw [hU], fun k q hq => ?_, va_K.moved hW.alike C.K, (hT.2.1.sub js hnd hjs).weaken (fun _ _ _ _ => trivial), ?_, NS.warm hW C.ns⟩
  · obtain ⟨i, -, h⟩ := pick hjs k q hq
    rw [hU]; exact hT.1 i q h
  · rw [hU]; exact (SP.moved hW.alike (C.sp.kept hT.2.2.2.1)).narrow hF
theorem r_call {S : Type} {rv : S → Option Value} {L1 L2 : S → va_W} {lc : va_W} {js : List Nat} {mc ms : Nat} {st0 : List Value} {aa : Array Value} (C : Cx p s m meth c args cc ret nL own g A) (hT : Wd g A s L H locs) (hr : va_Run p l e R s m args below meth c H locs cells slots mc ms (F0 m pc ls st0) rest (QG g (va_A lc H.size) rv (fun u => L1 u ++ L2 u) aa) (va_A lc H.size))
    (hjs : js.map (fun i => L[i]?) = lc.map some) (hnd : va_nd js = true) (h1 : ∀ u, (L1 u).map Prod.fst = lc.map Prod.fst)
    (kk : ∀ (u : S) (H1 : Heap) (locs1 : List Loc), Wd g A s (setL L js (L1 u) ++ L2 u) H1 locs1 → W p l e R s m args below meth c H1 locs1 (cells + mc) (slots + ms) Q (F0 m (pc + 3) ls ((rv u).toList ++ rest))) : W p l e R s m args below meth c H locs cells slots Q (F0 m pc ls st0) := by
  have hF := va_free hT.2.1 hT.2.2 C.fA js hjs
  have hS := hT.2.2
  intro T hTT X
  obtain ⟨v, st₀, t, T', LL, h0, X', hL, e1, e2, ⟨⟨u, hv, hb, hK1, hD1⟩, hz, hk⟩, st⟩ := hr T hTT X
  cases hv
  rw [h0] at hz hk
  have hk' : ∀ q : Nat, q < H.size → ¬ va_A lc H.size q → T'.heap[q]? = H[q]? := fun q h1 h2 => by rw [e1]; exact hk q h1 h2
  obtain ⟨hPn, hDn⟩ := fj hT.1 hT.2.1 hjs hnd (h1 u) (by rw [e1]; exact hb) hD1 hk' hF
  obtain ⟨t2, a1, b1⟩ := kk u T'.heap (locs ++ LL) ⟨hPn, hDn, Nat.le_trans hS.1 (by rw [e1]; exact hz), fun q h1 h2 => by rw [e1, hk q (Nat.lt_of_lt_of_le h1 hS.1) (fun z => h2 (hF q z))]; exact hS.2.1 q h1 h2, fun q hq => by
      rcases List.mem_append.mp hq with h | h
      · exact hS.2.2 q h
      · exact hF _ (hL q h)⟩ T' rfl X'
  exact ⟨t2, st t2 a1, b1⟩
theorem r_call0 {S : Type} {rv : S → Option Value} {L1 : S → va_W} {lc : va_W} {js : List Nat} {mc ms : Nat} {st0 : List Value} {aa : Array Value} (C : Cx p s m meth c args cc ret nL own g A) (hT : Wd g A s L H locs) (hr : va_Run p l e R s m args below meth c H locs cells slots mc ms (F0 m pc ls st0) rest (QG g (va_A lc H.size) rv L1 aa) (va_A lc H.size))
    (hjs : js.map (fun i => L[i]?) = lc.map some) (hnd : va_nd js = true) (h1 : ∀ u, (L1 u).map Prod.fst = lc.map Prod.fst)
    (kk : ∀ (u : S) (H1 : Heap) (locs1 : List Loc), Wd g A s (setL L js (L1 u)) H1 locs1 → W p l e R s m args below meth c H1 locs1 (cells + mc) (slots + ms) Q (F0 m (pc + 3) ls ((rv u).toList ++ rest))) : W p l e R s m args below meth c H locs cells slots Q (F0 m pc ls st0) := by
  have hL : L1 = fun u => L1 u ++ [] := by funext u; rw [List.append_nil]
  rw [hL] at hr
  refine r_call (L2 := fun _ => []) C hT hr hjs hnd h1 (fun u H1 locs1 h => kk u H1 locs1 ?_)
  rw [List.append_nil] at h; exact h
abbrev dsc (y : MethodName) (n : Nat) : Prop := y.cls ≠ "java/lang/invoke/MethodHandle" ∧ y.cls ≠ "java/lang/invoke/VarHandle" ∧ (parseMethodDescriptor y.desc).map (fun d => d.parameters.length) = some n
theorem runV {S : Type} {rv : S → Option Value} {L1 : S → va_W} {lc : va_W} {js : List Nat} {y : MethodName} {bytes : ByteArray} {nl n index ci q1 : Nat} {rt : Option FieldType} {rm : Room} {b : Nat} {As : List Value} {st0 : List Value} {T : u_T} {N : Nat} {fs : List Value} (C : Cx p s m meth c args cc ret nL own g A) (hT : Wd g A s L H locs) (hM : OM l g y bytes nl rt rm (.ref b :: As) lc rv L1) (hjs : js.map (fun i => L[i]?) = lc.map some) (hnd : va_nd js = true)
    (k1 : Cond.methodLink own index y ∈ GW) (k2 : Cond.instanceMethod y ∈ GW) (k3 : Cond.selects y.cls y y ∈ GW) (k4 : Cond.initialized y.cls ∈ GW) (k5 : Cond.code y bytes nl rt ∈ GW) (hd : dsc y n) (hn : As.length = n) (hrec : lc[q1]? = some (b, .inr (ci, fs))) (hci : vwCl[ci]? = some (y.cls, T, N)) (hst : st0 = As.reverse ++ .ref b :: rest) (hw : (rest.map fun v => v.category).sum ≤ 8) (hls : ls.size = nL)
    (hR : rm.frames + 1 ≤ R.frames ∧ 8 + (nl + 11) + rm.locals ≤ R.locals) (hcs : cells + rm.cells ≤ R.cells ∧ slots + rm.slots ≤ R.slots) (hdg : decode cc pc = .ok (.invokevirtual index, 3)) :
    va_Run p l e R s m args below meth c H locs cells slots rm.cells rm.slots (F0 m pc ls st0) rest (QG g (va_A lc H.size) rv L1 (Value.ref b :: As).toArray) (va_A lc H.size) := by
  refine va_runV (C := y.cls) (n := n) (rest := rest) ⟨C.x, C.b, C.ml, C.ow, C.ts⟩ (hM H.size) ⟨callB_of n C.ts (gw_code k5) rfl rfl rfl (C.ts _ k4) (C.ts _ k1) hd hR, C.ts _ k2, C.ts _ k3⟩ ⟨blindG, ?_, fun U hU hW => ⟨rfl, preG C hT hjs hnd U hU hW⟩⟩ rfl hn hls hst (lv_room hw) hdg hcs
  obtain ⟨i, -, h⟩ := pick hjs q1 _ hrec
  exact va_recv C.K hT.1 hci h
theorem runS {S : Type} {rv : S → Option Value} {L1 : S → va_W} {lc : va_W} {js : List Nat} {y : MethodName} {bytes : ByteArray} {nl n index : Nat} {rt : Option FieldType} {rm : Room} {As : List Value} {st0 : List Value} (C : Cx p s m meth c args cc ret nL own g A) (hT : Wd g A s L H locs) (hM : OM l g y bytes nl rt rm As lc rv L1) (hjs : js.map (fun i => L[i]?) = lc.map some) (hnd : va_nd js = true)
    (k1 : Cond.methodLink own index y ∈ GW) (k2 : Cond.static y ∈ GW) (k4 : Cond.initialized y.cls ∈ GW) (k5 : Cond.code y bytes nl rt ∈ GW) (hd : dsc y n) (hn : As.length = n) (hst : st0 = As.reverse ++ rest) (hw : (rest.map fun v => v.category).sum ≤ 8) (hls : ls.size = nL)
    (hR : rm.frames + 1 ≤ R.frames ∧ 8 + (nl + 11) + rm.locals ≤ R.locals) (hcs : cells + rm.cells ≤ R.cells ∧ slots + rm.slots ≤ R.slots) (hdg : decode cc pc = .ok (.invokestatic index, 3)) :
    va_Run p l e R s m args below meth c H locs cells slots rm.cells rm.slots (F0 m pc ls st0) rest (QG g (va_A lc H.size) rv L1 As.toArray) (va_A lc H.size) :=
  va_runS (n := n) (rest := rest) ⟨C.x, C.b, C.ml, C.ow, C.ts⟩ (hM H.size) ⟨callB_of n C.ts (gw_code k5) rfl rfl rfl (C.ts _ k4) (C.ts _ k1) hd hR, C.ts _ k2⟩ ⟨blindG, fun U hU hW => ⟨rfl, preG C hT hjs hnd U hU hW⟩⟩ rfl hn hls hst (lv_room hw) hdg hcs
theorem runI {S : Type} {rv : S → Option Value} {L1 : S → va_W} {lc : va_W} {js : List Nat} {y : MethodName} {bytes : ByteArray} {nl n index : Nat} {rm : Room} {b : Nat} {As : List Value} {st0 : List Value} (C : Cx p s m meth c args cc ret nL own g A) (hT : Wd g A s L H locs) (hM : OM l g y bytes nl none rm (.ref b :: As) lc rv L1) (hjs : js.map (fun i => L[i]?) = lc.map some) (hnd : va_nd js = true)
    (k1 : Cond.methodLink own index y ∈ GW) (k2 : Cond.instanceMethod y ∈ GW) (k4 : Cond.initialized y.cls ∈ GW) (k5 : Cond.code y bytes nl none ∈ GW) (hy : y.name = "<init>") (hd : dsc y n) (hn : As.length = n) (hst : st0 = As.reverse ++ .ref b :: rest) (hw : (rest.map fun v => v.category).sum ≤ 8) (hls : ls.size = nL)
    (hR : rm.frames + 1 ≤ R.frames ∧ 8 + (nl + 11) + rm.locals ≤ R.locals) (hcs : cells + rm.cells ≤ R.cells ∧ slots + rm.slots ≤ R.slots) (hdg : decode cc pc = .ok (.invokespecial index, 3)) :
    va_Run p l e R s m args below meth c H locs cells slots rm.cells rm.slots (F0 m pc ls st0) rest (QG g (va_A lc H.size) rv L1 (Value.ref b :: As).toArray) (va_A lc H.size) :=
  va_runI (n := n) (rest := rest) ⟨C.x, C.b, C.ml, C.ow, C.ts⟩ (hM H.size) ⟨callB_of n C.ts (gw_code k5) rfl rfl rfl (C.ts _ k4) (C.ts _ k1) hd hR, hy, C.ts _ k2⟩ ⟨blindG, fun U hU hW => ⟨rfl, preG C hT hjs hnd U hU hW⟩⟩ rfl hn hls hst (lv_room hw) hdg hcs
theorem runIN {S : Type} {rv : S → Option Value} {L1 : S → va_W} {lc : va_W} {js : List Nat} {y : MethodName} {host : String} {bytes : ByteArray} {nl n index : Nat} {rm : Room} {b : Nat} {As : List Value} {st0 : List Value} (C : Cx p s m meth c args cc ret nL own g A) (hT : Wd g A s L H locs) (hM : OM l g y bytes nl none rm (.ref b :: As) lc rv L1) (hjs : js.map (fun i => L[i]?) = lc.map some) (hnd : va_nd js = true)
    (k1 : (own, index, y, host) ∈ NWM) (k2 : Cond.instanceMethod y ∈ GW) (k4 : Cond.initialized y.cls ∈ GW) (k5 : Cond.code y bytes nl none ∈ GW) (hy : y.name = "<init>") (hd : dsc y n) (hn : As.length = n) (hst : st0 = As.reverse ++ .ref b :: rest) (hw : (rest.map fun v => v.category).sum ≤ 8) (hls : ls.size = nL)
    (hR : rm.frames + 1 ≤ R.frames ∧ 8 + (nl + 11) + rm.locals ≤ R.locals) (hcs : cells + rm.cells ≤ R.cells ∧ slots + rm.slots ≤ R.slots) (hdg : decode cc pc = .ok (.invokespecial index, 3)) :
    va_Run p l e R s m args below meth c H locs cells slots rm.cells rm.slots (F0 m pc ls st0) rest (QG g (va_A lc H.size) rv L1 (Value.ref b :: As).toArray) (va_A lc H.size) :=
  va_runIN (n := n) (rest := rest) ⟨C.x, C.b, C.ml, C.ow, C.ts⟩ (hM H.size) ⟨va_cnB n C.ts (gw_code k5) rfl rfl rfl (C.ns.2.1 _ k1) (C.ts _ k4) hd hR, hy, C.ts _ k2⟩ ⟨blindG, fun U hU hW => ⟨rfl, preG C hT hjs hnd U hU hW⟩⟩ rfl hn hls hst (lv_room hw) hdg hcs
/-- new objects and arrays -/
theorem r_new (C : Cx p s m meth c args cc ret nL own g A) (hT : Wd g A s L H locs) {X : String} {T : u_T} {N ci index : Nat} (hc : vwCl[ci]? = some (X, T, N)) (hin : ∀ w ∈ u_ws X T N, w ∈ GW) (ty : Nat → FieldType) (hty : ∀ k, k < N → parseFieldDescriptor (T k).2.2.1 = some (ty k)) (k1 : Cond.classLink own index X ∈ GW) (k2 : Cond.instantiable X N ∈ GW) (k3 : Cond.initialized X ∈ GW) {fs : List Value} (hfs : ∀ j, j < N → defaultValue (ty j) = vp_V fs j) (hcells : cells + 1 ≤ R.cells) (hslots : slots + N ≤ R.slots) (hdg : decode cc pc = .ok (.new index, 3))
    (kk : ∀ (q : Nat) (H1 : Heap), Wd g A s (L ++ [(q, .inr (ci, fs))]) H1 locs → W p l e R s m args below meth c H1 locs (cells + 1) (slots + N) Q (F0 m (pc + 3) ls (.ref q :: rest))) : W p l e R s m args below meth c H locs cells slots Q (F0 m pc ls rest) :=
  va_new C.x C.b C.ts hin ty hty C.ow (C.ts _ k1) (C.ts _ k2) (C.ts _ k3) C.K hT.1 hT.2.1 hT.2.2 C.fA hc hfs hcells hslots hdg (fun q H1 h1 h2 h3 => kk q H1 ⟨h1, h2, h3⟩)
theorem fcls {s : State} {x y : ClassId} {n : String} (h1 : s.vm.findClass n = some x) (h2 : s.vm.findClass n = some y) : x = y := Option.some.inj (h1.symm.trans h2)
theorem r_newi (C : Cx p s m meth c args cc ret nL own g A) (hT : Wd g A s L H locs) (k1 : Cond.arrayClass .int ∈ GW) {n : Int32} {N : Nat} (hn : n = nI N) (hN : N < 2 ^ 26) (hcells : cells + 1 ≤ R.cells) (hslots : slots + N ≤ R.slots) (hdg : decode cc pc = .ok (.newarray .int, 2))
    (kk : ∀ (q : Nat) (H1 : Heap), Wd g A s (L ++ [(q, .inl (g.2.1 0, N, .inl (fun _ => 0)))]) H1 locs → W p l e R s m args below meth c H1 locs (cells + 1) (slots + N) Q (F0 m (pc + 2) ls (.ref q :: rest))) : W p l e R s m args below meth c H locs cells slots Q (F0 m pc ls (.int n :: rest)) := by
  subst hn
  refine va_newa (atype := .int) (ty := .int) (N' := N) (a0 := (N, .inl (fun _ => 0))) C.x C.b (C.ts _ k1) rfl C.K hT.1 hT.2.1 hT.2.2 C.fA (fun cA => rfl) (nI_pos (by omega)) (nI_clamp (by omega)) (by show N * 4 ≤ _; omega) hcells hslots hdg (fun q cA H1 h0 h1 h2 h3 => ?_)
  have e1 := (h0.2 4 (cA, .int) rfl).2
  have e2 := (h0.2 0 (g.2.1 0, .int) rfl).2
  have e3 : cA = g.2.1 0 := fcls e1 e2
  subst e3
  exact kk q H1 ⟨h1, h2, h3⟩
theorem r_newl (C : Cx p s m meth c args cc ret nL own g A) (hT : Wd g A s L H locs) (k1 : Cond.arrayClass .long ∈ GW) {n : Int32} {N : Nat} (hn : n = nI N) (hN : N < 2 ^ 26) (hcells : cells + 1 ≤ R.cells) (hslots : slots + N ≤ R.slots) (hdg : decode cc pc = .ok (.newarray .long, 2))
    (kk : ∀ (q : Nat) (H1 : Heap), Wd g A s (L ++ [(q, .inl (g.2.1 1, N, .inr (.inl (fun _ => 0))))]) H1 locs → W p l e R s m args below meth c H1 locs (cells + 1) (slots + N) Q (F0 m (pc + 2) ls (.ref q :: rest))) : W p l e R s m args below meth c H locs cells slots Q (F0 m pc ls (.int n :: rest)) := by
  subst hn
  refine va_newa (atype := .long) (ty := .long) (N' := N) (a0 := (N, .inr (.inl (fun _ => 0)))) C.x C.b (C.ts _ k1) rfl C.K hT.1 hT.2.1 hT.2.2 C.fA (fun cA => rfl) (nI_pos (by omega)) (nI_clamp (by omega)) (by show N * 8 ≤ _; omega) hcells hslots hdg (fun q cA H1 h0 h1 h2 h3 => ?_)
  have e1 := (h0.2 4 (cA, .long) rfl).2
  have e2 := (h0.2 1 (g.2.1 1, .long) rfl).2
  have e3 : cA = g.2.1 1 := fcls e1 e2
  subst e3
  exact kk q H1 ⟨h1, h2, h3⟩
theorem r_newz (C : Cx p s m meth c args cc ret nL own g A) (hT : Wd g A s L H locs) (k1 : Cond.arrayClass .boolean ∈ GW) {n : Int32} {N : Nat} (hn : n = nI N) (hN : N < 2 ^ 26) (hcells : cells + 1 ≤ R.cells) (hslots : slots + N ≤ R.slots) (hdg : decode cc pc = .ok (.newarray .boolean, 2))
    (kk : ∀ (q : Nat) (H1 : Heap), Wd g A s (L ++ [(q, .inl (g.2.1 2, N, .inl (fun _ => 0)))]) H1 locs → W p l e R s m args below meth c H1 locs (cells + 1) (slots + N) Q (F0 m (pc + 2) ls (.ref q :: rest))) : W p l e R s m args below meth c H locs cells slots Q (F0 m pc ls (.int n :: rest)) := by
  subst hn
  refine va_newa (atype := .boolean) (ty := .boolean) (N' := N) (a0 := (N, .inl (fun _ => 0))) C.x C.b (C.ts _ k1) rfl C.K hT.1 hT.2.1 hT.2.2 C.fA (fun cA => rfl) (nI_pos (by omega)) (nI_clamp (by omega)) (by show N * 1 ≤ _; omega) hcells hslots hdg (fun q cA H1 h0 h1 h2 h3 => ?_)
  have e1 := (h0.2 4 (cA, .boolean) rfl).2
  have e2 := (h0.2 2 (g.2.1 2, .boolean) rfl).2
  have e3 : cA = g.2.1 2 := fcls e1 e2
  subst e3
  exact kk q H1 ⟨h1, h2, h3⟩
end
