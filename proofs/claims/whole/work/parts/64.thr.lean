/-! throwing and catching -/
abbrev EXC : String := "java/lang/ArrayIndexOutOfBoundsException"
abbrev XNM : List String := ["java/lang/IndexOutOfBoundsException", "java/lang/RuntimeException", "java/lang/Exception"]
abbrev XDL : List MethodName := [⟨"java/lang/IndexOutOfBoundsException", "<init>", "(Ljava/lang/String;)V"⟩, ⟨"java/lang/RuntimeException", "<init>", "(Ljava/lang/String;)V"⟩, ⟨"java/lang/Exception", "<init>", "(Ljava/lang/String;)V"⟩, ⟨"java/lang/Throwable", "<init>", "(Ljava/lang/String;)V"⟩]
def XS (A : Nat → Prop) (U : State) : Prop := (vx_Zq Bundle.tN "UNASSIGNED_STACK" Bundle.steD A U U.heap ∧ vx_Zq Bundle.tN "SUPPRESSED_SENTINEL" Bundle.listD A U U.heap) ∧ (∃ sa, vk_R RX10 165 "no such slot" sa U) ∧ va_Nw (.castable EXC EXC) U ∧ ∀ x ∈ XDL, va_Nw (.declares x) U
theorem XS.go {A B : Nat → Prop} {s U : State} {locs : List Loc} (h : XS A s) (hS : va_S A s.heap U.heap locs) (hW : s.WarmedH U.vm) (hAB : ∀ q, B q → A q) : XS B U := by
  obtain ⟨⟨h1, h2⟩, ⟨sa, h3⟩, h4, h5⟩ := h
  exact ⟨⟨(vx_Zq.moved hW.alike (h1.kept hS.2.1)).narrow hAB, (vx_Zq.moved hW.alike (h2.kept hS.2.1)).narrow hAB⟩, ⟨sa, vk_R.warm hW h3⟩, va_Nw.warmC hW h4, fun x hx => va_Nw.warmD hW (h5 x hx)⟩
theorem XS.call {A : Nat → Prop} {U : State} (h : XS A U) (g : JFrame) (mk : MethodId) (a : Array Value) : XS A (U.calling g mk a) := by
  obtain ⟨⟨h1, h2⟩, ⟨sa, h3⟩, h4, h5⟩ := h
  exact ⟨⟨vx_Zq.moved (u := U) (U := U.calling g mk a) (Vm.Alike.refl U.vm) h1, vx_Zq.moved (u := U) (U := U.calling g mk a) (Vm.Alike.refl U.vm) h2⟩, ⟨sa, vk_R.same (u := U) (U := U.calling g mk a) rfl h3⟩, va_Nw.same (u := U) (U := U.calling g mk a) rfl rfl h4, fun x hx => va_Nw.same (u := U) (U := U.calling g mk a) rfl rfl (h5 x hx)⟩
theorem xat_good : ∀ w ∈ (vx_atS RX10 167 EXC XNM).filter goodWord, w ∈ GW := by decide +kernel
theorem xat_bad : ∀ w ∈ (vx_atS RX10 167 EXC XNM).filter (fun w => !goodWord w), w ∈ Cond.castable EXC EXC :: XDL.map Cond.declares := by decide +kernel
theorem xat_use {args : Array Value} {U : State} (h4 : va_Nw (.castable EXC EXC) U) (h5 : ∀ x ∈ XDL, va_Nw (.declares x) U) : ∀ w ∈ Cond.castable EXC EXC :: XDL.map Cond.declares, w.before args U = true := by
  intro w hw
  rcases List.mem_cons.mp hw with h | h
  · rw [h]; exact h4.use rfl
  · obtain ⟨x, hx, rfl⟩ := List.mem_map.mp h
    exact (h5 x hx).use rfl
theorem xat_ot : ∀ w ∈ Cond.classLink RX10 163 EXC :: Cond.initialized EXC :: vx_atS RX10 167 EXC XNM, vx_ot w = true := by decide +kernel
def PreX (g : GT) (L : va_W) (sz : Nat) (U : State) : Prop := PreG g L sz U ∧ XS (va_A L sz) U
theorem blindX {g : GT} {av : List Value} {L : va_W} {sz : Nat} : FrameBlind (va_Pc av (PreX g L sz)) := by
  intro a U g1 mk q
  obtain ⟨q0, q1, q2⟩ := q
  have h := blindG (g := g) (av := av) (L := L) (sz := sz) a U g1 mk ⟨q0, q1⟩
  exact ⟨h.1, h.2, q2.call g1 mk a⟩
/-- a method that throws E, and leaves its world as it was -/
def OMT (l : Launch) (g : GT) (y : MethodName) (cc : ByteArray) (nL : Nat) (ret : Option FieldType) (rm : Room) (av : List Value) (L : va_W) (E : String) : Prop :=
  ∀ sz, vx_Met l y (.code y cc nL ret :: GW) rm (va_Pc av (PreX g L sz)) (va_Qi (fun (_ : Int32) (_ : Unit) => False) (fun _ _ => True) (va_A L sz)) (vx_X (fun _ : Unit => True) (fun E2 _ t => E2 = E ∧ va_P g.1 vwCl L t.heap) (va_A L sz)) rm.cells rm.slots (va_A L sz)
theorem OMT.startQ {l : Launch} {g : GT} {y : MethodName} {cc : ByteArray} {nL : Nat} {ret : Option FieldType} {rm : Room} {av : List Value} {L : va_W} {E : String} (hy : plainName y.cls = true) (hn : (lg_sl av).length ≤ nL)
    (body : ∀ (p : Program) (e : Env) (s : State) (m : MethodId) (below : List Frame) (meth : Method) (c : Code) (A : Nat → Prop) (ls : Array Slot) (Q : State → Prop) (H : Heap) (locs : List Loc), Q = vx_MQ below (va_Qi (fun (_ : Int32) (_ : Unit) => False) (fun _ _ => True) A) (vx_X (fun _ : Unit => True) (fun E2 _ t => E2 = E ∧ va_P g.1 vwCl L t.heap) A) av.toArray s rm.cells rm.slots A → Cx p s m meth c av.toArray cc ret nL y.cls g A → meth.name = y.name → lv_has ls nL (lv_args 0 av) → Wd g A s L H locs → XS A s → (∀ x ∈ c.exceptionTable.toList, False) →
      W p l e rm s m av.toArray below meth c H locs 0 0 Q (F0 m 0 ls [])) : OMT l g y cc nL ret rm av L E := by
  intro sz
  refine vx_ofW (cc := cc) (maxL := nL) (ret := ret) hy rfl ?_
  intro p e s m args below meth c s₁ B hml htab hv
  obtain ⟨rfl, ⟨hsz, hP, hK, hD0, hSP, hNS⟩, hXS⟩ := hv
  have hts := atoms_spec (ws := (.code y cc nL ret :: GW)) B.pre
  subst hsz
  have hl := lv_entry av (n := nL) hn
  rw [lg_entry_eq]
  exact body p e s m below meth c (va_A L s.heap.size) _ _ _ _ rfl ⟨B.exec, B.bytes, hml, findClass_of_methodNamed B.named, fun w h => hts w (List.mem_cons_of_mem _ h), B.returns, B.notSynchronized, hK, hSP, hNS, fun q h => Or.inr h⟩ (name_of_methodNamed B.named B.method).1 hl ⟨hP, hD0.self, va_S.rf⟩ hXS htab
theorem Met.ofH {l : Launch} {y : MethodName} {ws ws' : List Cond} {rm : Room} {Pc : Array Value → State → Prop} {Qc : Array Value → State → Outcome → State → Prop} {mc ms : Nat} {free : Addr → Prop} {cc : ByteArray} {maxL : Nat} {ret : Option FieldType} {hh : List (Nat × Nat × Nat × Nat)}
    (hy : plainName y.cls = true) (hw : ws = Cond.codeWith y cc maxL ret hh :: ws')
    (body : ∀ p e s m args below meth c s₁, BodyLoose p l y (headSpec ws rm) cc maxL ret e s m args below meth c s₁ → c.maxLocals = maxL → Pc args s →
      W p l e (headSpec ws rm).room s m args below meth c s.heap [] 0 0 (MQ below Qc args s mc ms free) (entryFrame m args maxL)) : Met l y ws rm Pc Qc mc ms free := by
  refine MetFree.of_bodyS (code := cc) (maxLocals := maxL) (ret := ret) hy ?_ ?_
  · intro args s m h hn
    obtain ⟨m9, meth, c, hn9, h1, h2, h3, h4, -, h5, h6, -⟩ := Cond.codeWith_spec (atoms_spec (ws := ws) h _ (by rw [hw]; exact List.mem_cons_self))
    cases hn.symm.trans hn9
    exact ⟨meth, c, h1, h2, h3, h4, h5, h6⟩
  · intro p e s m args below meth c s₁ B hml hP _
    have hh0 : s₁.heap = s.heap := by rw [B.state]; rfl
    obtain ⟨t, a1, o, b1, b2, b3⟩ := body p e s m args below meth c s₁ B hml hP s₁ hh0 (Stand.of_body B)
    exact ⟨t, o, a1, b1, b2, ⟨b3.1, b3.2⟩⟩
/-- a method with a table of its own -/
def OMH {S : Type} (l : Launch) (g : GT) (y : MethodName) (cc : ByteArray) (nL : Nat) (ret : Option FieldType) (hh : List (Nat × Nat × Nat × Nat)) (rm : Room) (av : List Value) (L : va_W) (rv : S → Option Value) (L' : S → va_W) : Prop :=
  ∀ sz, Met l y (.codeWith y cc nL ret hh :: GW) rm (va_Pc av (PreX g L sz)) (QG g (va_A L sz) rv L') rm.cells rm.slots (va_A L sz)
theorem OMH.startQ {S : Type} {l : Launch} {g : GT} {y : MethodName} {cc : ByteArray} {nL : Nat} {ret : Option FieldType} {hh : List (Nat × Nat × Nat × Nat)} {rm : Room} {av : List Value} {L : va_W} {rv : S → Option Value} {L' : S → va_W} (hy : plainName y.cls = true) (hn : (lg_sl av).length ≤ nL)
    (body : ∀ (p : Program) (e : Env) (s : State) (m : MethodId) (below : List Frame) (meth : Method) (c : Code) (A : Nat → Prop) (ls : Array Slot) (Q : State → Prop) (H : Heap) (locs : List Loc), Q = MQ below (QG g A rv L') av.toArray s rm.cells rm.slots A → Cx p s m meth c av.toArray cc ret nL y.cls g A → lv_has ls nL (lv_args 0 av) → Wd g A s L H locs → XS A s → c.exceptionTable.toList = tableOf hh →
      W p l e rm s m av.toArray below meth c H locs 0 0 Q (F0 m 0 ls [])) : OMH l g y cc nL ret hh rm av L rv L' := by
  intro sz
  refine Met.ofH (cc := cc) (maxL := nL) (ret := ret) (hh := hh) hy rfl ?_
  intro p e s m args below meth c s₁ B hml hv
  obtain ⟨rfl, ⟨hsz, hP, hK, hD0, hSP, hNS⟩, hXS⟩ := hv
  have hts := atoms_spec (ws := (.codeWith y cc nL ret hh :: GW)) B.pre
  have htab := vx_table (x := y) B (hts _ List.mem_cons_self)
  subst hsz
  have hl := lv_entry av (n := nL) hn
  rw [lg_entry_eq]
  exact body p e s m below meth c (va_A L s.heap.size) _ _ _ _ rfl ⟨B.exec, B.bytes, hml, findClass_of_methodNamed B.named, fun w h => hts w (List.mem_cons_of_mem _ h), B.returns, B.notSynchronized, hK, hSP, hNS, fun q h => Or.inr h⟩ hl ⟨hP, hD0.self, va_S.rf⟩ hXS htab
theorem tb_out {g : GT} {A : Nat → Prop} {s t : State} {L : va_W} {H : Heap} {locs : List Loc} (hT : Wd g A s L H locs) (hz : H.size ≤ t.heap.size) (hk : ∀ q : Nat, q < H.size → t.heap[q]? = H[q]?) : va_P g.1 vwCl L t.heap ∧ va_F A s t :=
  ⟨hT.1.kept (fun k x hx => hk x.1 ((hT.1 k x hx).lt)), Nat.le_trans hT.2.2.1 hz, fun q h1 h2 => (hk q (Nat.lt_of_lt_of_le h1 hT.2.2.1)).trans (hT.2.2.2.1 q h1 h2)⟩
