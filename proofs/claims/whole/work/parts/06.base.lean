/-! the layer of this claim: contracts whose worlds are lists of cells, one frame rule, rows for fields, arrays, calls, ends -/
abbrev GT : Type := va_G × (Nat → ClassId) × (Nat → Nat)
abbrev tysG (g : GT) : List (ClassId × FieldType) := [(g.2.1 0, .int), (g.2.1 1, .long), (g.2.1 2, .boolean), (g.2.1 3, .object "ContextMix$Match")]
def curveT : Nat → Int32 := fun j => [1, 2, 3, 6, 10, 16, 27, 45, 73, 120, 194, 310, 488, 747, 1101, 1546, 2047, 2549, 2994, 3348, 3607, 3785, 3901, 3975, 4022, 4050, 4068, 4079, 4085, 4089, 4092, 4093, 4094].getD j 0
def SP (g : GT) (A : Nat → Prop) (U : State) (H : Heap) : Prop :=
  (va_Z RX5 "CURVE" "[I" (.ref (g.2.2 0)) A U H ∧ va_T .int (g.2.2 0) 33 (fun j => .int (curveT j)) A U H) ∧ va_Z RX11 "T" "[I" (.ref (g.2.2 1)) A U H ∧ va_T .int (g.2.2 1) 33 (fun j => .int (curveT j)) A U H
theorem SP.moved {g : GT} {A : Nat → Prop} {u U : State} {H : Heap} (hvm : u.vm.Alike U.vm) (h : SP g A u H) : SP g A U H := ⟨⟨h.1.1.moved hvm, h.1.2.moved hvm⟩, h.2.1.moved hvm, h.2.2.moved hvm⟩
theorem SP.kept {g : GT} {A : Nat → Prop} {U : State} {H H1 : Heap} (h : SP g A U H) (hq : ∀ a : Nat, a < H.size → ¬ A a → H1[a]? = H[a]?) : SP g A U H1 := ⟨⟨h.1.1.kept hq, h.1.2.kept hq⟩, h.2.1.kept hq, h.2.2.kept hq⟩
theorem SP.narrow {g : GT} {A B : Nat → Prop} {U : State} {H : Heap} (h : SP g A U H) (hAB : ∀ q, B q → A q) : SP g B U H := ⟨⟨h.1.1.narrow hAB, h.1.2.narrow hAB⟩, h.2.1.narrow hAB, h.2.2.narrow hAB⟩
def NWF : List (String × Nat × String × String × String × String) := [("ContextMix$Side", 84, "ContextMix$Predictors", "kinds", "[I", "ContextMix"), ("ContextMix$Side", 87, "ContextMix$Predictors", "ns", "[I", "ContextMix"), ("ContextMix$Side", 106, "ContextMix$Predictors", "offs", "[Z", "ContextMix"), ("ContextMix$Side", 79, "ContextMix$Predictors", "size", "I", "ContextMix"), ("ContextMix", 152, "ContextMix$Predictors", "size", "I", "ContextMix"), ("ContextMix$Match", 33, "ContextMix$History", "size", "I", "ContextMix"), ("ContextMix", 115, "ContextMix$History", "size", "I", "ContextMix"), ("ContextMix$Match", 46, "ContextMix$History", "node", "I", "ContextMix"), ("ContextMix$Side", 117, "ContextMix$History", "node", "I", "ContextMix"), ("ContextMix$Match", 43, "ContextMix$History", "bitsGoing", "I", "ContextMix"), ("ContextMix", 99, "ContextMix$History", "bitsGoing", "I", "ContextMix"), ("ContextMix$Side", 167, "ContextMix$Mixer", "weights", "[I", "ContextMix"), ("ContextMix$Side", 174, "ContextMix$Corrections", "cells", "[I", "ContextMix"), ("ContextMix$Side", 114, "ContextMix$Slots", "chances", "[I", "ContextMix"), ("ContextMix", 170, "ContextMix$Slots", "chances", "[I", "ContextMix"), ("ContextMix", 174, "ContextMix$Slots", "counts", "[I", "ContextMix"), ("ContextMix$Side", 72, "ContextMix$Match", "length", "I", "ContextMix"), ("ContextMix", 64, "ContextMix$Side", "history", "LContextMix$History;", "ContextMix"), ("ContextMix", 156, "ContextMix$Side", "slots", "LContextMix$Slots;", "ContextMix"), ("ContextMix", 145, "ContextMix$Side", "byNode", "LContextMix$Mixer;", "ContextMix"), ("ContextMix", 149, "ContextMix$Side", "byLatest", "LContextMix$Mixer;", "ContextMix"), ("ContextMix", 182, "ContextMix$Side", "corrections", "LContextMix$Corrections;", "ContextMix"), ("ContextMix", 95, "ContextMix$Output", "size", "I", "ContextMix")]
def NWM : List (String × Nat × MethodName × String) := [("ContextMix", 22, ⟨"ContextMix$Predictors", "<init>", "()V"⟩, "ContextMix"), ("ContextMix$Side", 11, ⟨"ContextMix$History", "<init>", "()V"⟩, "ContextMix"), ("ContextMix$Side", 65, ⟨"ContextMix$Match", "<init>", "()V"⟩, "ContextMix"), ("ContextMix", 41, ⟨"ContextMix$Output", "<init>", "()V"⟩, "ContextMix"), ("ContextMix", 48, ⟨"ContextMix$Coder", "<init>", "()V"⟩, "ContextMix")]
def NS (U : State) : Prop := (∀ q ∈ NWF, va_Nw (.fieldLinkNest q.1 q.2.1 q.2.2.1 q.2.2.2.1 q.2.2.2.2.1 q.2.2.2.2.2) U) ∧ (∀ q ∈ NWM, va_Nw (.methodLinkNest q.1 q.2.1 q.2.2.1 q.2.2.2) U) ∧ va_AO "ContextMix$Match" U
theorem NS.warm {s U : State} (hW : s.WarmedH U.vm) (h : NS s) : NS U := ⟨fun q hq => (h.1 q hq).warmF hW, fun q hq => (h.2.1 q hq).warmM hW, va_AO.moved hW.alike h.2.2⟩
theorem NS.same {s U : State} (hW : s.vm = U.vm) (h : NS s) : NS U := ⟨fun q hq => (h.1 q hq).same rfl hW, fun q hq => (h.2.1 q hq).same rfl hW, va_AO.moved (by rw [hW]; exact Vm.Alike.refl _) h.2.2⟩
def PreG (g : GT) (L : va_W) (sz : Nat) (U : State) : Prop := U.heap.size = sz ∧ va_P g.1 vwCl L U.heap ∧ va_K g.1 vwCl (tysG g) U ∧ va_D (fun _ => True) L ∧ SP g (va_A L sz) U U.heap ∧ NS U
def QG {S : Type} (g : GT) (A : Nat → Prop) (rv : S → Option Value) (L' : S → va_W) : Array Value → State → Outcome → State → Prop := fun _ st oc t =>
  (∃ u : S, oc = .returned (rv u) ∧ va_P g.1 vwCl (L' u) t.heap ∧ va_K g.1 vwCl (tysG g) t ∧ va_D A (L' u)) ∧ va_F A st t
/-- the contract: from a world L, with these arguments, the method returns rv, and its world is L' -/
def OM {S : Type} (l : Launch) (g : GT) (y : MethodName) (cc : ByteArray) (nL : Nat) (ret : Option FieldType) (rm : Room) (av : List Value) (L : va_W) (rv : S → Option Value) (L' : S → va_W) : Prop :=
  ∀ sz, Met l y (.code y cc nL ret :: GW) rm (va_Pc av (PreG g L sz)) (QG g (va_A L sz) rv L') rm.cells rm.slots (va_A L sz)
def Cx (p : Program) (s : State) (m : MethodId) (meth : Method) (c : Code) (args : Array Value) (cc : ByteArray) (ret : Option FieldType) (nL : Nat) (own : String) (g : GT) (A : Nat → Prop) : Prop :=
  p.tables.exec = Jvm.exec ∧ c.code = cc ∧ c.maxLocals = nL ∧ s.vm.findClass own = some m.cls ∧ (∀ w ∈ GW, w.before args s = true) ∧ meth.sig.returnType = ret ∧ meth.locks = false ∧ va_K g.1 vwCl (tysG g) s ∧ SP g A s s.heap ∧ NS s ∧ ∀ q, s.heap.size ≤ q → A q
def Wd (g : GT) (A : Nat → Prop) (s : State) (L : va_W) (H : Heap) (locs : List Loc) : Prop := va_P g.1 vwCl L H ∧ va_D A L ∧ va_S A s.heap H locs
section
variable {p : Program} {l : Launch} {e : Env} {R : Room} {s : State} {m : MethodId} {args : Array Value} {below : List Frame} {meth : Method} {c : Code} {H : Heap} {locs : List Loc} {cells slots : Nat} {Q : State → Prop} {cc : ByteArray} {ret : Option FieldType} {nL : Nat} {own : String} {g : GT} {A : Nat → Prop} {L : va_W} {pc : Nat} {ls : Array Slot} {rest : List Value} {a : Nat}
theorem Cx.x (C : Cx p s m meth c args cc ret nL own g A) : p.tables.exec = Jvm.exec := C.1
theorem Cx.b (C : Cx p s m meth c args cc ret nL own g A) : c.code = cc := C.2.1
theorem Cx.ml (C : Cx p s m meth c args cc ret nL own g A) : c.maxLocals = nL := C.2.2.1
theorem Cx.ow (C : Cx p s m meth c args cc ret nL own g A) : s.vm.findClass own = some m.cls := C.2.2.2.1
theorem Cx.ts (C : Cx p s m meth c args cc ret nL own g A) : ∀ w ∈ GW, w.before args s = true := C.2.2.2.2.1
theorem Cx.r (C : Cx p s m meth c args cc ret nL own g A) : meth.sig.returnType = ret := C.2.2.2.2.2.1
theorem Cx.lk (C : Cx p s m meth c args cc ret nL own g A) : meth.locks = false := C.2.2.2.2.2.2.1
theorem Cx.K (C : Cx p s m meth c args cc ret nL own g A) : va_K g.1 vwCl (tysG g) s := C.2.2.2.2.2.2.2.1
theorem Cx.sp (C : Cx p s m meth c args cc ret nL own g A) : SP g A s s.heap := C.2.2.2.2.2.2.2.2.1
theorem Cx.ns (C : Cx p s m meth c args cc ret nL own g A) : NS s := C.2.2.2.2.2.2.2.2.2.1
theorem Cx.fA (C : Cx p s m meth c args cc ret nL own g A) : ∀ q, s.heap.size ≤ q → A q := C.2.2.2.2.2.2.2.2.2.2
theorem blindG {g : GT} {av : List Value} {L : va_W} {sz : Nat} : FrameBlind (va_Pc av (PreG g L sz)) := by
  intro a U g1 mk q
  obtain ⟨q0, q1, qP, qK, qD, qS, qN⟩ := q
  exact ⟨q0, q1, qP, va_K.moved (u := U) (U := U.calling g1 mk a) (Vm.Alike.refl U.vm) qK, qD, SP.moved (u := U) (U := U.calling g1 mk a) (Vm.Alike.refl U.vm) qS, NS.same (s := U) (U := U.calling g1 mk a) rfl qN⟩
/-- a method's beginning -/
theorem OM.start {S : Type} {y : MethodName} {rm : Room} {av : List Value} {rv : S → Option Value} {L' : S → va_W} (hy : plainName y.cls = true) (hn : (lg_sl av).length ≤ nL)
    (body : ∀ (p : Program) (e : Env) (s : State) (m : MethodId) (below : List Frame) (meth : Method) (c : Code) (A : Nat → Prop) (ls : Array Slot), Cx p s m meth c av.toArray cc ret nL y.cls g A → meth.name = y.name → lv_has ls nL (lv_args 0 av) → Wd g A s L s.heap [] →
      W p l e rm s m av.toArray below meth c s.heap [] 0 0 (MQ below (QG g A rv L') av.toArray s rm.cells rm.slots A) (F0 m 0 ls [])) : OM l g y cc nL ret rm av L rv L' := by
  intro sz
  refine Met.ofW (cc := cc) (maxL := nL) (ret := ret) hy rfl ?_
  intro p e s m args below meth c s₁ B hml hv
  obtain ⟨rfl, hsz, hP, hK, hD0, hSP, hNS⟩ := hv
  have hts := atoms_spec (ws := (.code y cc nL ret :: GW)) B.pre
  subst hsz
  have hl := lv_entry av (n := nL) hn
  rw [lg_entry_eq]
  exact body p e s m below meth c (va_A L s.heap.size) _ ⟨B.exec, B.bytes, hml, findClass_of_methodNamed B.named, fun w h => hts w (List.mem_cons_of_mem _ h), B.returns, B.notSynchronized, hK, hSP, hNS, fun q h => Or.inr h⟩ (name_of_methodNamed B.named B.method).1 hl ⟨hP, hD0.self, va_S.rf⟩
/-- ends -/
theorem r_iret {S : Type} {rv : S → Option Value} {L' : S → va_W} {v : Int32} (C : Cx p s m meth c args cc (some .int) nL own g A) (u : S) (hT : Wd g A s (L' u) H locs) (hv : rv u = some (.int v)) (hdg : decode cc pc = .ok (.ireturn, 1)) : W p l e R s m args below meth c H locs cells slots (MQ below (QG g A rv L') args s cells slots A) (F0 m pc ls [.int v]) :=
  W.iret C.x C.b C.r (fun t ht hW => ⟨⟨u, by rw [hv], by rw [ht]; exact hT.1, va_K.moved hW.alike C.K, hT.2.1⟩, hT.2.2.F ht⟩) hT.2.2.2.2 hdg C.lk
theorem r_zret {S : Type} {rv : S → Option Value} {L' : S → va_W} {v : Int32} (C : Cx p s m meth c args cc (some .boolean) nL own g A) (u : S) (hT : Wd g A s (L' u) H locs) (hv : rv u = some (.int v)) (hn : v = 0 ∨ v = 1) (hdg : decode cc pc = .ok (.ireturn, 1)) : W p l e R s m args below meth c H locs cells slots (MQ below (QG g A rv L') args s cells slots A) (F0 m pc ls [.int v]) :=
  W.zret C.x C.b C.r (by rcases hn with rfl | rfl <;> rfl) (fun t ht hW => ⟨⟨u, by rw [hv], by rw [ht]; exact hT.1, va_K.moved hW.alike C.K, hT.2.1⟩, hT.2.2.F ht⟩) hT.2.2.2.2 hdg C.lk
theorem r_lret {S : Type} {rv : S → Option Value} {L' : S → va_W} {v : Int64} (C : Cx p s m meth c args cc (some .long) nL own g A) (u : S) (hT : Wd g A s (L' u) H locs) (hv : rv u = some (.long v)) (hdg : decode cc pc = .ok (.lreturn, 1)) : W p l e R s m args below meth c H locs cells slots (MQ below (QG g A rv L') args s cells slots A) (F0 m pc ls [.long v]) :=
  W.lret C.x C.b C.r (fun t ht hW => ⟨⟨u, by rw [hv], by rw [ht]; exact hT.1, va_K.moved hW.alike C.K, hT.2.1⟩, hT.2.2.F ht⟩) hT.2.2.2.2 hdg C.lk
theorem r_vret {S : Type} {rv : S → Option Value} {L' : S → va_W} (C : Cx p s m meth c args cc none nL own g A) (u : S) (hT : Wd g A s (L' u) H locs) (hv : rv u = none) (hdg : decode cc pc = .ok (.return_, 1)) : W p l e R s m args below meth c H locs cells slots (MQ below (QG g A rv L') args s cells slots A) (F0 m pc ls []) :=
  W.vret C.x C.b C.r (fun t ht hW => ⟨⟨u, by rw [hv], by rw [ht]; exact hT.1, va_K.moved hW.alike C.K, hT.2.1⟩, hT.2.2.F ht⟩) hT.2.2.2.2 hdg C.lk
theorem r_aret {S : Type} {rv : S → Option Value} {L' : S → va_W} {n : String} {v : Value} (C : Cx p s m meth c args cc (some (.object n)) nL own g A) (u : S) (hT : Wd g A s (L' u) H locs) (hv : rv u = some v) (hn : v = .null ∨ ∃ a, v = .ref a) (hdg : decode cc pc = .ok (.areturn, 1)) : W p l e R s m args below meth c H locs cells slots (MQ below (QG g A rv L') args s cells slots A) (F0 m pc ls [v]) :=
  W.aret C.x C.b C.r (Or.inl ⟨n, rfl⟩) hn (fun t ht hW => ⟨⟨u, by rw [hv], by rw [ht]; exact hT.1, va_K.moved hW.alike C.K, hT.2.1⟩, hT.2.2.F ht⟩) hT.2.2.2.2 hdg C.lk
/-- fields -/
theorem r_get (C : Cx p s m meth c args cc ret nL own g A) (hT : Wd g A s L H locs) {X : String} {T : u_T} {N ci index q0 : Nat} {fs : List Value} (he : L[q0]? = some (a, .inr (ci, fs))) (hc : vwCl[ci]? = some (X, T, N)) (hin : ∀ w ∈ u_ws X T N, w ∈ GW) (k : Nat) (hk : k < N) (hl : Cond.fieldLink own index (T k).1 (T k).2.1 (T k).2.2.1 ∈ GW) {v : Value} (hv : fs[k]? = some v) (hdg : decode cc pc = .ok (.getfield index, 3))
    (kk : W p l e R s m args below meth c H locs cells slots Q (F0 m (pc + 3) ls (v :: rest))) : W p l e R s m args below meth c H locs cells slots Q (F0 m pc ls (.ref a :: rest)) :=
  va_get C.x C.b C.ts hin C.ow C.K hT.1 q0 he hc k hk (C.ts _ hl) (fun _ h => h) hv hdg kk
theorem r_getN (C : Cx p s m meth c args cc ret nL own g A) (hT : Wd g A s L H locs) {X host : String} {T : u_T} {N ci index q0 : Nat} {fs : List Value} (he : L[q0]? = some (a, .inr (ci, fs))) (hc : vwCl[ci]? = some (X, T, N)) (hin : ∀ w ∈ u_ws X T N, w ∈ GW) (k : Nat) (hk : k < N) (hl : (own, index, (T k).1, (T k).2.1, (T k).2.2.1, host) ∈ NWF) {v : Value} (hv : fs[k]? = some v) (hdg : decode cc pc = .ok (.getfield index, 3))
    (kk : W p l e R s m args below meth c H locs cells slots Q (F0 m (pc + 3) ls (v :: rest))) : W p l e R s m args below meth c H locs cells slots Q (F0 m pc ls (.ref a :: rest)) :=
  va_getN (host := host) C.x C.b C.ts hin C.ow C.K hT.1 q0 he hc k hk ((C.ns.1 _ hl).use rfl) (fun _ h => h) hv hdg kk
theorem r_put (C : Cx p s m meth c args cc ret nL own g A) (hT : Wd g A s L H locs) {X : String} {T : u_T} {N ci index q0 : Nat} {fs : List Value} (he : L[q0]? = some (a, .inr (ci, fs))) (hc : vwCl[ci]? = some (X, T, N)) (hin : ∀ w ∈ u_ws X T N, w ∈ GW) (ty0 : Nat → FieldType) (hty : ∀ k, k < N → parseFieldDescriptor (T k).2.2.1 = some (ty0 k)) (hnm : ∀ a, a < N → ∀ b, b < N → a ≠ b → (T a).2.1 ≠ (T b).2.1) (k : Nat) (hk : k < N) (hl : Cond.fieldLink own index (T k).1 (T k).2.1 (T k).2.2.1 ∈ GW) (hfin : (T k).2.2.2 = false) {ty : FieldType} {v : Value} (hd : parseFieldDescriptor (T k).2.2.1 = some ty) (hn : narrow ty v = v) (hfit : fits ty v = true) (hlen : k < fs.length) (hdg : decode cc pc = .ok (.putfield index, 3))
    (kk : ∀ (H1 : Heap) (locs1 : List Loc), Wd g A s (L.set q0 (a, .inr (ci, fs.set k v))) H1 locs1 → W p l e R s m args below meth c H1 locs1 cells slots Q (F0 m (pc + 3) ls rest)) : W p l e R s m args below meth c H locs cells slots Q (F0 m pc ls (v :: .ref a :: rest)) :=
  va_put C.x C.b C.ts hin ty0 hty hnm C.ow C.K hT.1 hT.2.1 hT.2.2 q0 he hc k hk (C.ts _ hl) (fun _ h => h) hfin hd hn hfit hlen hdg (fun H1 locs1 h1 h2 h3 => kk H1 locs1 ⟨h1, h2, h3⟩)
theorem r_putN (C : Cx p s m meth c args cc ret nL own g A) (hT : Wd g A s L H locs) {X host : String} {T : u_T} {N ci index q0 : Nat} {fs : List Value} (he : L[q0]? = some (a, .inr (ci, fs))) (hc : vwCl[ci]? = some (X, T, N)) (hin : ∀ w ∈ u_ws X T N, w ∈ GW) (ty0 : Nat → FieldType) (hty : ∀ k, k < N → parseFieldDescriptor (T k).2.2.1 = some (ty0 k)) (hnm : ∀ a, a < N → ∀ b, b < N → a ≠ b → (T a).2.1 ≠ (T b).2.1) (k : Nat) (hk : k < N) (hl : (own, index, (T k).1, (T k).2.1, (T k).2.2.1, host) ∈ NWF) (hfin : (T k).2.2.2 = false) {ty : FieldType} {v : Value} (hd : parseFieldDescriptor (T k).2.2.1 = some ty) (hn : narrow ty v = v) (hfit : fits ty v = true) (hlen : k < fs.length) (hdg : decode cc pc = .ok (.putfield index, 3))
    (kk : ∀ (H1 : Heap) (locs1 : List Loc), Wd g A s (L.set q0 (a, .inr (ci, fs.set k v))) H1 locs1 → W p l e R s m args below meth c H1 locs1 cells slots Q (F0 m (pc + 3) ls rest)) : W p l e R s m args below meth c H locs cells slots Q (F0 m pc ls (v :: .ref a :: rest)) :=
  va_putN (host := host) C.x C.b C.ts hin ty0 hty hnm C.ow C.K hT.1 hT.2.1 hT.2.2 q0 he hc k hk ((C.ns.1 _ hl).use rfl) (fun _ h => h) hfin hd hn hfit hlen hdg (fun H1 locs1 h1 h2 h3 => kk H1 locs1 ⟨h1, h2, h3⟩)
theorem r_putF (C : Cx p s m meth c args cc ret nL own g A) (hin2 : meth.name = "<init>") (hT : Wd g A s L H locs) {X : String} {T : u_T} {N ci index q0 : Nat} {fs : List Value} (he : L[q0]? = some (a, .inr (ci, fs))) (hc : vwCl[ci]? = some (X, T, N)) (hin : ∀ w ∈ u_ws X T N, w ∈ GW) (ty0 : Nat → FieldType) (hty : ∀ k, k < N → parseFieldDescriptor (T k).2.2.1 = some (ty0 k)) (hnm : ∀ a, a < N → ∀ b, b < N → a ≠ b → (T a).2.1 ≠ (T b).2.1) (k : Nat) (hk : k < N) (hl : Cond.fieldLink own index (T k).1 (T k).2.1 (T k).2.2.1 ∈ GW) (hfin : (T k).2.2.2 = true) (hdecl : (T k).1 = own) {ty : FieldType} {v : Value} (hd : parseFieldDescriptor (T k).2.2.1 = some ty) (hn : narrow ty v = v) (hfit : fits ty v = true) (hlen : k < fs.length) (hdg : decode cc pc = .ok (.putfield index, 3))
    (kk : ∀ (H1 : Heap) (locs1 : List Loc), Wd g A s (L.set q0 (a, .inr (ci, fs.set k v))) H1 locs1 → W p l e R s m args below meth c H1 locs1 cells slots Q (F0 m (pc + 3) ls rest)) : W p l e R s m args below meth c H locs cells slots Q (F0 m pc ls (v :: .ref a :: rest)) :=
  va_putF C.x C.b C.ts hin ty0 hty hnm C.ow C.K hT.1 hT.2.1 hT.2.2 q0 he hc k hk (C.ts _ hl) (fun _ h => h) hfin hin2 hdecl hd hn hfit hlen hdg (fun H1 locs1 h1 h2 h3 => kk H1 locs1 ⟨h1, h2, h3⟩)
/-- arrays, by a place that is a number -/
theorem r_iald (C : Cx p s m meth c args cc ret nL own g A) (hT : Wd g A s L H locs) {q0 n : Nat} {f : Nat → Int32} (he : L[q0]? = some (a, .inl (g.2.1 0, n, .inl f))) {i : Int32} (k : Nat) (hi : i = nI k) (hk : k < n) (hn : n < 2 ^ 31) (hdg : decode cc pc = .ok (.iaload, 1))
    (kk : W p l e R s m args below meth c H locs cells slots Q (F0 m (pc + 1) ls (.int (f k) :: rest))) : W p l e R s m args below meth c H locs cells slots Q (F0 m pc ls (.int i :: .ref a :: rest)) := by
  subst hi
  refine va_iald C.x C.b C.K hT.1 q0 0 he rfl (vp_in_nI hk hn) hdg ?_
  rw [nI_clamp (by omega)]; exact kk
theorem r_iast (C : Cx p s m meth c args cc ret nL own g A) (hT : Wd g A s L H locs) {q0 n : Nat} {f : Nat → Int32} (he : L[q0]? = some (a, .inl (g.2.1 0, n, .inl f))) {i x : Int32} (k : Nat) (hi : i = nI k) (hk : k < n) (hn : n < 2 ^ 31) (hdg : decode cc pc = .ok (.iastore, 1))
    (kk : ∀ (H1 : Heap) (locs1 : List Loc), Wd g A s (L.set q0 (a, .inl (g.2.1 0, n, .inl (upd f k x)))) H1 locs1 → W p l e R s m args below meth c H1 locs1 cells slots Q (F0 m (pc + 1) ls rest)) : W p l e R s m args below meth c H locs cells slots Q (F0 m pc ls (.int x :: .int i :: .ref a :: rest)) := by
  subst hi
  refine va_iast C.x C.b C.K hT.1 hT.2.1 hT.2.2 q0 0 he rfl (vp_in_nI hk hn) hdg ?_
  rw [nI_clamp (by omega)]; exact fun H1 locs1 h1 h2 h3 => kk H1 locs1 ⟨h1, h2, h3⟩
theorem r_lald (C : Cx p s m meth c args cc ret nL own g A) (hT : Wd g A s L H locs) {q0 n : Nat} {f : Nat → Int64} (he : L[q0]? = some (a, .inl (g.2.1 1, n, .inr (.inl f)))) {i : Int32} (k : Nat) (hi : i = nI k) (hk : k < n) (hn : n < 2 ^ 31) (hdg : decode cc pc = .ok (.laload, 1))
    (kk : W p l e R s m args below meth c H locs cells slots Q (F0 m (pc + 1) ls (.long (f k) :: rest))) : W p l e R s m args below meth c H locs cells slots Q (F0 m pc ls (.int i :: .ref a :: rest)) := by
  subst hi
  refine va_lald C.x C.b C.K hT.1 q0 1 he rfl (vp_in_nI hk hn) hdg ?_
  rw [nI_clamp (by omega)]; exact kk
theorem r_last (C : Cx p s m meth c args cc ret nL own g A) (hT : Wd g A s L H locs) {q0 n : Nat} {f : Nat → Int64} (he : L[q0]? = some (a, .inl (g.2.1 1, n, .inr (.inl f)))) {i : Int32} {x : Int64} (k : Nat) (hi : i = nI k) (hk : k < n) (hn : n < 2 ^ 31) (hdg : decode cc pc = .ok (.lastore, 1))
    (kk : ∀ (H1 : Heap) (locs1 : List Loc), Wd g A s (L.set q0 (a, .inl (g.2.1 1, n, .inr (.inl (vp_updL f k x))))) H1 locs1 → W p l e R s m args below meth c H1 locs1 cells slots Q (F0 m (pc + 1) ls rest)) : W p l e R s m args below meth c H locs cells slots Q (F0 m pc ls (.long x :: .int i :: .ref a :: rest)) := by
  subst hi
  refine va_last C.x C.b C.K hT.1 hT.2.1 hT.2.2 q0 1 he rfl (vp_in_nI hk hn) hdg ?_
  rw [nI_clamp (by omega)]; exact fun H1 locs1 h1 h2 h3 => kk H1 locs1 ⟨h1, h2, h3⟩
theorem r_zald (C : Cx p s m meth c args cc ret nL own g A) (hT : Wd g A s L H locs) {q0 n : Nat} {f : Nat → Int32} (he : L[q0]? = some (a, .inl (g.2.1 2, n, .inl f))) {i : Int32} (k : Nat) (hi : i = nI k) (hk : k < n) (hn : n < 2 ^ 31) (hdg : decode cc pc = .ok (.baload, 1))
    (kk : W p l e R s m args below meth c H locs cells slots Q (F0 m (pc + 1) ls (.int (f k) :: rest))) : W p l e R s m args below meth c H locs cells slots Q (F0 m pc ls (.int i :: .ref a :: rest)) := by
  subst hi
  refine va_zald C.x C.b C.K hT.1 q0 2 he rfl (vp_in_nI hk hn) hdg ?_
  rw [nI_clamp (by omega)]; exact kk
theorem r_aald (C : Cx p s m meth c args cc ret nL own g A) (hT : Wd g A s L H locs) {q0 n : Nat} {f : Nat → Option Nat} (he : L[q0]? = some (a, .inl (g.2.1 3, n, .inr (.inr (.inr (.inr f)))))) {i : Int32} (k : Nat) (hi : i = nI k) (hk : k < n) (hn : n < 2 ^ 31) {b : Nat} (hb : f k = some b) (hdg : decode cc pc = .ok (.aaload, 1))
    (kk : W p l e R s m args below meth c H locs cells slots Q (F0 m (pc + 1) ls (.ref b :: rest))) : W p l e R s m args below meth c H locs cells slots Q (F0 m pc ls (.int i :: .ref a :: rest)) := by
  subst hi
  refine va_aldq C.x C.b C.K hT.1 q0 3 he rfl (vp_in_nI hk hn) hdg ?_
  rw [nI_clamp (by omega), hb]; exact kk
theorem r_alen (C : Cx p s m meth c args cc ret nL own g A) (hT : Wd g A s L H locs) {q0 : Nat} (t0 : Nat) {cA : ClassId} {x : vp_A} (he : L[q0]? = some (a, .inl (cA, x))) {ty : FieldType} (ht : (tysG g)[t0]? = some (cA, ty)) (hdg : decode cc pc = .ok (.arraylength, 1))
    (kk : W p l e R s m args below meth c H locs cells slots Q (F0 m (pc + 1) ls (.int (nI x.1) :: rest))) : W p l e R s m args below meth c H locs cells slots Q (F0 m pc ls (.ref a :: rest)) :=
  va_alen C.x C.b C.K hT.1 q0 t0 he ht rfl hdg kk
end
/-- the frame rule: the callee's cells, by their places, put back -/
def setL : va_W → List Nat → va_W → va_W
  | L, j :: js, e :: l => setL (L.set j e) js l
  | L, _, _ => L
theorem setL_fst : ∀ (js : List Nat) (L lc l : va_W), js.map (fun i => L[i]?) = lc.map some → l.map Prod.fst = lc.map Prod.fst → va_nd js = true → (setL L js l).map Prod.fst = L.map Prod.fst
  | [], L, lc, l, _, _, _ => by cases l <;> rfl
  | j :: js, L, [], l, h, _, _ => by cases h
  | j :: js, L, c :: lc, [], _, h, _ => by cases h
  | j :: js, L, c :: lc, e :: l, h, h1, hn => by
    have hn2 : j ∉ js ∧ va_nd js = true := by
      have := hn
      simp only [va_nd, Bool.and_eq_true, decide_eq_true_eq] at this
      exact this
    simp only [List.map_cons, List.cons.injEq] at h h1
    have hL : (L.set j e).map Prod.fst = L.map Prod.fst := by
      rw [List.map_set, h1.1]
      have := h.1
      apply List.ext_getElem?
      intro i
      by_cases hij : j = i
      · subst hij
        have hlt := (List.getElem?_eq_some_iff.mp this).1
        rw [List.getElem?_set_self (by simpa using hlt), List.getElem?_map, this]
        rfl
      · rw [List.getElem?_set_ne hij]
    have h2 : js.map (fun i => (L.set j e)[i]?) = lc.map some := by
      rw [← h.2]
      apply List.map_congr_left
      intro i hi
      exact List.getElem?_set_ne (fun (q : j = i) => hn2.1 (by rw [q]; exact hi))
    show (setL (L.set j e) js l).map Prod.fst = _
    rw [setL_fst js (L.set j e) lc l h2 h1.2 hn2.2, hL]
theorem setL_mem : ∀ (js : List Nat) (L l : va_W) (i : Nat) (q : Nat × va_E), js.length = l.length → (setL L js l)[i]? = some q → (∃ k : Nat, l[k]? = some q) ∨ (i ∉ js ∧ L[i]? = some q)
  | [], L, l, i, q, _, h => Or.inr ⟨List.not_mem_nil, by cases l <;> exact h⟩
  | j :: js, L, [], i, q, h, _ => by cases h
  | j :: js, L, e :: l, i, q, hlen, h => by
    rcases setL_mem js (L.set j e) l i q (by simpa using hlen) h with ⟨k, hk⟩ | ⟨h1, h2⟩
    · exact Or.inl ⟨k + 1, by simpa using hk⟩
    · by_cases hij : j = i
      · subst hij
        by_cases hlt : j < L.length
        · rw [List.getElem?_set_self hlt] at h2
          exact Or.inl ⟨0, h2⟩
        · rw [List.getElem?_eq_none (by simp; omega)] at h2
          cases h2
      · rw [List.getElem?_set_ne hij] at h2
        exact Or.inr ⟨by simp only [List.mem_cons, not_or]; exact ⟨fun q => hij q.symm, h1⟩, h2⟩
theorem va_D.fst {A : Nat → Prop} {L L1 : va_W} (h : L1.map Prod.fst = L.map Prod.fst) (hD : va_D A L) : va_D A L1 := by
  have key : ∀ (k : Nat) (q : Nat × va_E), L1[k]? = some q → ∃ q0, L[k]? = some q0 ∧ q0.1 = q.1 := by
    intro k q hk
    have h1 : (L1.map Prod.fst)[k]? = some q.1 := by rw [List.getElem?_map, hk]; rfl
    rw [h, List.getElem?_map] at h1
    cases h2 : L[k]? with
    | none => rw [h2] at h1; cases h1
    | some q0 => rw [h2] at h1; exact ⟨q0, rfl, Option.some.inj h1⟩
  refine ⟨fun i j p q hp hq hpq => ?_, fun k q hk => ?_⟩
  · obtain ⟨p0, a1, a2⟩ := key i p hp
    obtain ⟨q0, b1, b2⟩ := key j q hq
    exact hD.1 i j p0 q0 a1 b1 (by rw [a2, b2, hpq])
  · obtain ⟨q0, a1, a2⟩ := key k q hk
    rw [← a2]; exact hD.2 k q0 a1
theorem fj {A : Nat → Prop} {D : va_G} {cl : List vw_C} {L lc l1 l2 : va_W} {js : List Nat} {H H1 : Heap} (hP : va_P D cl L H) (hD : va_D A L) (hjs : js.map (fun i => L[i]?) = lc.map some) (hnd : va_nd js = true) (h1 : l1.map Prod.fst = lc.map Prod.fst) (hP1 : va_P D cl (l1 ++ l2) H1) (hD1 : va_D (va_A lc H.size) (l1 ++ l2))
    (hk : ∀ q : Nat, q < H.size → ¬ va_A lc H.size q → H1[q]? = H[q]?) (hF : ∀ q, va_A lc H.size q → A q) : va_P D cl (setL L js l1 ++ l2) H1 ∧ va_D A (setL L js l1 ++ l2) := by
  have hlen : js.length = l1.length := by
    have a1 := congrArg List.length hjs
    have a2 := congrArg List.length h1
    simp only [List.length_map] at a1 a2
    omega
  have at' : ∀ (k : Nat) (q : Nat × va_E), lc[k]? = some q → ∃ i, js[k]? = some i ∧ L[i]? = some q := by
    intro k q hq
    have h1 : (js.map (fun i => L[i]?))[k]? = some (some q) := by rw [hjs, List.getElem?_map, hq]; rfl
    rw [List.getElem?_map] at h1
    cases hi : js[k]? with
    | none => rw [hi] at h1; cases h1
    | some i => rw [hi] at h1; exact ⟨i, rfl, Option.some.inj h1⟩
  have old : ∀ (i : Nat) (q : Nat × va_E), L[i]? = some q → i ∉ js → ¬ va_A lc H.size q.1 := by
    intro i q hq hi h
    rcases h with ⟨k2, e, h⟩ | h
    · obtain ⟨j, h3, h4⟩ := at' k2 (q.1, e) h
      have hij := hD.1 i j q (q.1, e) hq h4 rfl
      exact hi (hij ▸ List.mem_of_getElem? h3)
    · have := (hP i q hq).lt; omega
  have hfst := setL_fst js L lc l1 hjs h1 hnd
  have new : ∀ (k : Nat) (q : Nat × va_E), l2[k]? = some q → H.size ≤ q.1 := by
    intro k q hq
    have hq2 : (l1 ++ l2)[l1.length + k]? = some q := by rw [List.getElem?_append_right (by omega), Nat.add_sub_cancel_left]; exact hq
    rcases hD1.2 _ q hq2 with ⟨k2, e, h⟩ | h
    · have h3 : (l1.map Prod.fst)[k2]? = some q.1 := by rw [h1, List.getElem?_map, h]; rfl
      rw [List.getElem?_map] at h3
      cases h4 : l1[k2]? with
      | none => rw [h4] at h3; cases h3
      | some q0 =>
        rw [h4] at h3
        have h5 : (l1 ++ l2)[k2]? = some q0 := by rw [List.getElem?_append_left (List.getElem?_eq_some_iff.mp h4).1]; exact h4
        have := hD1.1 k2 (l1.length + k) q0 q h5 hq2 (Option.some.inj h3)
        have := (List.getElem?_eq_some_iff.mp h4).1
        omega
    · exact h
  refine ⟨va_P.app (fun i q hq => ?_) (fun k q hq => hP1 (l1.length + k) q (by rw [List.getElem?_append_right (by omega), Nat.add_sub_cancel_left]; exact hq)), va_D.app (va_D.fst hfst hD) ⟨fun i j x y hx hy hxy => ?_, fun k q hq => ?_⟩ (fun i j x y hx hy hxy => ?_)⟩
  · rcases setL_mem js L l1 i q hlen hq with ⟨k, h2⟩ | ⟨h2, h3⟩
    · exact hP1 k q (by rw [List.getElem?_append_left (List.getElem?_eq_some_iff.mp h2).1]; exact h2)
    · exact (hP i q h3).kept (hk q.1 ((hP i q h3).lt) (old i q h3 h2))
  · have := hD1.1 (l1.length + i) (l1.length + j) x y (by rw [List.getElem?_append_right (by omega), Nat.add_sub_cancel_left]; exact hx) (by rw [List.getElem?_append_right (by omega), Nat.add_sub_cancel_left]; exact hy) hxy
    omega
  · exact hF _ (hD1.2 (l1.length + k) q (by rw [List.getElem?_append_right (by omega), Nat.add_sub_cancel_left]; exact hq))
  · have h3 : ((setL L js l1).map Prod.fst)[i]? = some x.1 := by rw [List.getElem?_map, hx]; rfl
    rw [hfst, List.getElem?_map] at h3
    cases h4 : L[i]? with
    | none => rw [h4] at h3; cases h3
    | some x0 =>
      rw [h4] at h3
      have a1 : x0.1 = x.1 := Option.some.inj h3
      have a2 := (hP i x0 h4).lt
      have a3 := new j y hy
      rw [a1, hxy] at a2
      omega
