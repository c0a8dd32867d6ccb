section
variable {p : Program} {l : Launch} {e : Env} {R : Room} {s : State} {m : MethodId} {args : Array Value} {below : List Frame} {meth : Method} {c : Code} {H : Heap} {locs : List Loc} {cells slots : Nat} {Q : State → Prop} {cc : ByteArray} {ret : Option FieldType} {nL : Nat} {own : String} {g : GT} {A : Nat → Prop} {L : va_W} {pc : Nat} {ls : Array Slot} {rest : List Value} {a : Nat}
/-- calls whose world is the caller's whole one -/
theorem freeW (C : Cx p s m meth c args cc ret nL own g A) (hT : Wd g A s L H locs) : ∀ q, va_A L H.size q → A q := by
  intro q h
  rcases h with ⟨k, e, h⟩ | h
  · exact hT.2.1.2 k _ h
  · exact C.fA q (Nat.le_trans hT.2.2.1 h)
theorem preW (C : Cx p s m meth c args cc ret nL own g A) (hT : Wd g A s L H locs) (U : State) (hU : U.heap = H) (hW : s.WarmedH U.vm) : PreG g L H.size U := by
  refine ⟨by rw [hU], by rw [hU]; exact hT.1, va_K.moved hW.alike C.K, hT.2.1.weaken (fun _ _ _ _ => trivial), ?_, NS.warm hW C.ns⟩
  rw [hU]; exact (SP.moved hW.alike (C.sp.kept hT.2.2.2.1)).narrow (freeW C hT)
theorem r_callW {S : Type} {rv : S → Option Value} {L1 : S → va_W} {mc ms : Nat} {st0 : List Value} {aa : Array Value} (C : Cx p s m meth c args cc ret nL own g A) (hT : Wd g A s L H locs)
    (hr : va_Run p l e R s m args below meth c H locs cells slots mc ms (F0 m pc ls st0) rest (QG g (va_A L H.size) rv L1 aa) (va_A L H.size))
    (kk : ∀ (u : S) (H1 : Heap) (locs1 : List Loc), Wd g A s (L1 u) H1 locs1 → W p l e R s m args below meth c H1 locs1 (cells + mc) (slots + ms) Q (F0 m (pc + 3) ls ((rv u).toList ++ rest))) : W p l e R s m args below meth c H locs cells slots Q (F0 m pc ls st0) := by
  have hF := freeW C hT
  have hS := hT.2.2
  intro T hTT X
  obtain ⟨v, st₀, t, T', LL, h0, X', hL, e1, e2, ⟨⟨u, hv, hb, hK1, hD1⟩, hz, hk⟩, st⟩ := hr T hTT X
  cases hv
  rw [h0] at hz hk
  obtain ⟨t2, a1, b1⟩ := kk u T'.heap (locs ++ LL) ⟨by rw [e1]; exact hb, hD1.weaken (fun _ _ _ h => hF _ h), Nat.le_trans hS.1 (by rw [e1]; exact hz), fun q h1 h2 => by rw [e1, hk q (Nat.lt_of_lt_of_le h1 hS.1) (fun z => h2 (hF q z))]; exact hS.2.1 q h1 h2, fun q hq => by
      rcases List.mem_append.mp hq with h | h
      · exact hS.2.2 q h
      · exact hF _ (hL q h)⟩ T' rfl X'
  exact ⟨t2, st t2 a1, b1⟩
theorem runVW {S : Type} {rv : S → Option Value} {L1 : S → va_W} {y : MethodName} {bytes : ByteArray} {nl n index ci q1 : Nat} {rt : Option FieldType} {rm : Room} {b : Nat} {As : List Value} {st0 : List Value} {T : u_T} {N : Nat} {fs : List Value} (C : Cx p s m meth c args cc ret nL own g A) (hT : Wd g A s L H locs) (hM : OM l g y bytes nl rt rm (.ref b :: As) L rv L1)
    (k1 : Cond.methodLink own index y ∈ GW) (k2 : Cond.instanceMethod y ∈ GW) (k3 : Cond.selects y.cls y y ∈ GW) (k4 : Cond.initialized y.cls ∈ GW) (k5 : Cond.code y bytes nl rt ∈ GW) (hd : dsc y n) (hn : As.length = n) (hrec : L[q1]? = some (b, .inr (ci, fs))) (hci : vwCl[ci]? = some (y.cls, T, N)) (hst : st0 = As.reverse ++ .ref b :: rest) (hw : (rest.map fun v => v.category).sum ≤ 8) (hls : ls.size = nL)
    (hR : rm.frames + 1 ≤ R.frames ∧ 8 + (nl + 11) + rm.locals ≤ R.locals) (hcs : cells + rm.cells ≤ R.cells ∧ slots + rm.slots ≤ R.slots) (hdg : decode cc pc = .ok (.invokevirtual index, 3)) :
    va_Run p l e R s m args below meth c H locs cells slots rm.cells rm.slots (F0 m pc ls st0) rest (QG g (va_A L H.size) rv L1 (Value.ref b :: As).toArray) (va_A L H.size) :=
  va_runV (C := y.cls) (n := n) (rest := rest) ⟨C.x, C.b, C.ml, C.ow, C.ts⟩ (hM H.size) ⟨callB_of n C.ts (gw_code k5) rfl rfl rfl (C.ts _ k4) (C.ts _ k1) hd hR, C.ts _ k2, C.ts _ k3⟩ ⟨blindG, va_recv C.K hT.1 hci hrec, fun U hU hW => ⟨rfl, preW C hT U hU hW⟩⟩ rfl hn hls hst (lv_room hw) hdg hcs
end
