abbrev CMX (g : GT) (ad bd : Nat → Nat) (N : Nat) (np : Nat) (fk : Nat → Int32) (fn : Nat → Int32) (fo : Nat → Int32) (U : SSt) (V : SSt) (code : Int64) (cp : Nat) (en : Bool) (no : Nat) (ou : Nat → Int32) (wl : Int64) (wh : Int64) (rl : Int64) (rh : Int64) : va_W := cmL g ad bd np fk fn fo stA N (s_n U) (s_nd U) (s_bg U) (s_f U) (s_fc U) (s_fs U) (s_r0 U) (s_t0 U) (s_f0 U) (s_r1 U) (s_t1 U) (s_f1 U) (s_nr U) (s_fx U) (s_mp U) (s_ml U) (s_cx U) (s_xi U) (s_n V) (s_nd V) (s_bg V) (s_f V) (s_fc V) (s_fs V) (s_r0 V) (s_t0 V) (s_f0 V) (s_r1 V) (s_t1 V) (s_f1 V) (s_nr V) (s_fx V) (s_mp V) (s_ml V) (s_cx V) (s_xi V) code cp en no ou wl wh rl rh
abbrev MDX (g : GT) (mo : Nat → Nat) (rr : Nat) (np : Nat) (fk : Nat → Int32) (fn : Nat → Int32) (fo : Nat → Int32) (en : Bool) (no : Nat) (ou : Nat → Int32) (th : Int32) (bt : Nat) (xx : Int64) (ra : Nat) (t0 : Int32) (t1 : Int32) (s1 : Int32) (ca : Int32) (cq : Int32) (ch : Int32) (bb : Nat → Int32) (wt : Nat → Int32) (nx : Nat → Int32) (cx : Nat → Int32) (pt : Nat → Int32) (le : Nat → Int32) (sc : Nat → Int32) (ss : Nat → Int32) (ww : Nat → Int32) (xc : Nat → Int32) (lo : Nat → Int64) (hi : Nat → Int64) (xi : Nat → Int32) : va_W := mdL g mo rr th np no bt en xx ra t0 t1 s1 ca cq ch stA fk fn fo bb wt nx cx pt le sc ss ww xc lo hi ou xi
def cmF (ad bd : Nat → Nat) : List Nat := [ad 0, ad 1, ad 2, ad 3, ad 4, ad 5, ad 6, ad 7, ad 8, ad 9, ad 10, ad 11, ad 12, ad 13, ad 14, ad 15, ad 16, ad 17, ad 18, ad 19, ad 20, ad 21, ad 22, ad 23, ad 24, ad 25, ad 26, ad 27, ad 28, mixA ad bd 0, mixA ad bd 7, mixA ad bd 8, mixA ad bd 9, mixA ad bd 10, mixA ad bd 11, mixA ad bd 12, mixA ad bd 13, mixA ad bd 14, mixA ad bd 15, mixA ad bd 16, mixA ad bd 17, mixA ad bd 18, mixA ad bd 19, mixA ad bd 20, mixA ad bd 21, mixA ad bd 22, mixA ad bd 23, mixA ad bd 24, mixA ad bd 25, mixA ad bd 26, mixA ad bd 27, mixA ad bd 28, bd 1, bd 2, bd 3, bd 4, bd 5]
theorem cmL_fst {g : GT} {ad bd : Nat → Nat} {np : Nat} {fk fn fo st : Nat → Int32} {N : Nat} {n nd bg : Nat} {f fc fs : Nat → Int32} {r0 t0 : Int32} {f0 : Nat → Int32} {r1 t1 : Int32} {f1 : Nat → Int32} {nr : Int32} {fx : Nat → Int32} {mp ml : Nat → Nat} {cx xi : Nat → Int32} {n2 nd2 bg2 : Nat} {f2 fc2 fs2 : Nat → Int32} {r02 t02 : Int32} {f02 : Nat → Int32} {r12 t12 : Int32} {f12 : Nat → Int32} {nr2 : Int32} {fx2 : Nat → Int32} {mp2 ml2 : Nat → Nat} {cx2 xi2 : Nat → Int32} {code : Int64} {cp : Nat} {en : Bool} {no : Nat} {fu : Nat → Int32} {wl wh rl rh : Int64} : (cmL g ad bd np fk fn fo st N n nd bg f fc fs r0 t0 f0 r1 t1 f1 nr fx mp ml cx xi n2 nd2 bg2 f2 fc2 fs2 r02 t02 f02 r12 t12 f12 nr2 fx2 mp2 ml2 cx2 xi2 code cp en no fu wl wh rl rh).map Prod.fst = cmF ad bd := rfl
def mdF (mo : Nat → Nat) : List Nat := [mo 0, mo 1, mo 2, mo 3, mo 4, mo 5, mo 6, mo 7, mo 8, mo 9, mo 10, mo 11, mo 12, mo 13, mo 14, mo 15, mo 16, mo 17, mo 18]
theorem mdL_fst {g : GT} {mo : Nat → Nat} {rr : Nat} {th : Int32} {np no bt : Nat} {en : Bool} {xx : Int64} {ra : Nat} {t0 t1 s1 ca cq ch : Int32} {st fk fn fo bb wt nx cx pt le sc ss ww xc : Nat → Int32} {lo hi : Nat → Int64} {ou xi : Nat → Int32} : (mdL g mo rr th np no bt en xx ra t0 t1 s1 ca cq ch st fk fn fo bb wt nx cx pt le sc ss ww xc lo hi ou xi).map Prod.fst = mdF mo := rfl
/-- what holds of the law at a place of its loop -/
def LK (p : Program) (l : Launch) (e : Env) (s : State) (m : MethodId) (b : Nat) (below : List Frame) (meth : Method) (c : Code) (Q : State → Prop) (g : GT) (A : Nat → Prop) (ad bd mo : Nat → Nat) (oa N rr ix cnt pc : Nat) : Prop := ∀ (np : Nat) (fk : Nat → Int32) (fn : Nat → Int32) (fo : Nat → Int32) (U : SSt) (V : SSt) (code : Int64) (cp : Nat) (en : Bool) (no : Nat) (ou : Nat → Int32) (wl : Int64) (wh : Int64) (rl : Int64) (rh : Int64) (th : Int32) (bt : Nat) (xx : Int64) (ra : Nat) (t0 : Int32) (t1 : Int32) (s1 : Int32) (ca : Int32) (cq : Int32) (ch : Int32) (bb : Nat → Int32) (wt : Nat → Int32) (nx : Nat → Int32) (cx : Nat → Int32) (pt : Nat → Int32) (le : Nat → Int32) (sc : Nat → Int32) (ss : Nat → Int32) (ww : Nat → Int32) (xc : Nat → Int32) (lo : Nat → Int64) (hi : Nat → Int64) (xi : Nat → Int32) (fz : Nat → Int64) (H : Heap) (locs : List Loc) (ls : Array Slot), INV N rr cnt np fk fn fo U V code cp en no ou wl wh rl rh bt xx ra bb wt nx cx pt le sc ss ww xc lo hi → Wd g A s (CMX g ad bd N np fk fn fo U V code cp en no ou wl wh rl rh ++ (MDX g mo rr np fk fn fo en no ou th bt xx ra t0 t1 s1 ca cq ch bb wt nx cx pt le sc ss ww xc lo hi xi ++ [OUTc g oa fz])) H locs → lv_has ls 7 [(0, .ref b), (1, .ref (bd 1)), (2, .ref (mo 0)), (3, .ref oa), (4, .int (nI ix))] → W p l e room_1 s m #[Value.ref b] below meth c H locs (77 + cnt) (107809 + 6 * cnt) Q (F0 m pc ls [])
def LC (p : Program) (s : State) (m : MethodId) (meth : Method) (c : Code) (g : GT) (A : Nat → Prop) (b L : Nat) (xs : Nat → Int32) : Prop := Cx p s m meth c #[Value.ref b] cL_law (some .boolean) 7 RL g A ∧ va_X b L xs s s.heap ∧ b < s.heap.size ∧ ¬ A b ∧ XS A s
section
variable {p : Program} {l : Launch} {e : Env} {R : Room} {s : State} {m : MethodId} {args : Array Value} {below : List Frame} {meth : Method} {c : Code} {H : Heap} {locs : List Loc} {cells slots : Nat} {Q : State → Prop} {cc : ByteArray} {ret : Option FieldType} {nL : Nat} {own : String} {g : GT} {A : Nat → Prop} {L : va_W} {pc : Nat} {ls : Array Slot} {rest : List Value} {a : Nat}
theorem r_sld {b n : Nat} {xs : Nat → Int32} (C : Cx p s m meth c args cc ret nL own g A) (hX : va_X b n xs s s.heap) (hbl : b < s.heap.size) (hbA : ¬ A b) (hT : Wd g A s L H locs) {i : Int32} (k : Nat) (hi : i = nI k) (hk : k < n) (hn : n < 2 ^ 31) (hdg : decode cc pc = .ok (.iaload, 1))
    (kk : W p l e R s m args below meth c H locs cells slots Q (F0 m (pc + 1) ls (.int (xs k) :: rest))) : W p l e R s m args below meth c H locs cells slots Q (F0 m pc ls (.int i :: .ref b :: rest)) := by
  subst hi
  refine va_sld C.x C.b hX hbl hbA hT.2.2 (vp_in_nI hk hn) hdg ?_
  rw [nI_clamp (by omega)]; exact kk
theorem r_callH {S : Type} {rv : S → Option Value} {L1 : S → va_W} {lc B : va_W} {y : MethodName} {bytes : ByteArray} {nl n index : Nat} {rt : Option FieldType} {hh : List (Nat × Nat × Nat × Nat)} {rm : Room} {As : List Value} {st0 : List Value} (C : Cx p s m meth c args cc ret nL own g A) (hT : Wd g A s (lc ++ B) H locs) (hM : OMH l g y bytes nl rt hh rm As lc rv L1) (hXS : XS A s)
    (k1 : Cond.methodLink own index y ∈ GW) (k2 : Cond.static y ∈ GW) (k4 : Cond.initialized y.cls ∈ GW) (k5 : Cond.codeWith y bytes nl rt hh ∈ GW) (hd : dsc y n) (hn : As.length = n) (hst : st0 = As.reverse ++ rest) (hw : (rest.map fun v => v.category).sum ≤ 8) (hls : ls.size = nL)
    (hR : rm.frames + 1 ≤ R.frames ∧ 8 + (nl + 11) + rm.locals ≤ R.locals) (hcs : cells + rm.cells ≤ R.cells ∧ slots + rm.slots ≤ R.slots) (hdg : decode cc pc = .ok (.invokestatic index, 3)) (h1 : ∀ u, (L1 u).map Prod.fst = lc.map Prod.fst)
    (kk : ∀ (u : S) (H1 : Heap) (locs1 : List Loc), Wd g A s (L1 u ++ B) H1 locs1 → W p l e R s m args below meth c H1 locs1 (cells + rm.cells) (slots + rm.slots) Q (F0 m (pc + 3) ls ((rv u).toList ++ rest))) : W p l e R s m args below meth c H locs cells slots Q (F0 m pc ls st0) := by
  have hF := va_free hT.2.1 hT.2.2 C.fA (List.range' 0 lc.length) (js_pre lc B)
  have hgood : GoodIn GW (va_wsS own index y (Cond.codeWith y bytes nl rt hh :: GW)) := by
    intro w hw
    have hm : w ∈ GW := by
      unfold va_wsS at hw
      simp only [List.cons_append, List.nil_append, List.mem_cons] at hw
      rcases hw with h | h | h | h | h
      · rw [h]; exact k1
      · rw [h]; exact k2
      · rw [h]; exact k4
      · rw [h]; exact k5
      · exact h
    exact ⟨hm, gw_good hm⟩
  refine r_call0 (js := List.range' 0 lc.length) C hT (vx_runSW (n := n) (rest := rest) ⟨C.x, C.b, C.ml, C.ow, C.ts⟩ (hM H.size) (vx_cwSW n C.ts hgood rfl rfl rfl hd hR) ⟨blindX, fun U hU hW => ⟨rfl, preG C hT (js_pre lc B) (nd_range _ _) U hU hW, hXS.go (by rw [hU]; exact hT.2.2) hW hF⟩⟩ rfl hn hls hst (lv_room hw) hdg hcs) (js_pre lc B) (nd_range _ _) h1 (fun u H1 locs1 h => kk u H1 locs1 (h.eq ?_))
  have hl : (L1 u).length = lc.length := by have := congrArg List.length (h1 u); simpa using this
  exact setL_pre [] lc (L1 u) B hl
end
theorem kcw : Cond.codeWith yL_slot cL_slot 5 (some .int) HHs ∈ GW := mem_gw3 (i := 166) rfl rfl
theorem pm1 (c m : va_W) (o : Nat × va_E) : (c ++ (m ++ [o])).Perm ((c ++ [o]) ++ m) := by
  rw [List.append_assoc]; exact List.Perm.append_left c List.perm_append_comm
theorem pm3 (c m : va_W) (o : Nat × va_E) : (m ++ (c ++ [o])).Perm (o :: (c ++ m)) := by
  rw [← List.append_assoc]
  exact (List.perm_append_singleton o (m ++ c)).trans (List.Perm.cons o List.perm_append_comm)
theorem pm4 (c m : va_W) (o : Nat × va_E) : (o :: (c ++ m)).Perm (c ++ (m ++ [o])) := by
  rw [← List.append_assoc]
  exact (List.perm_append_singleton o (c ++ m)).symm
theorem off_split {a : Bool} {b : Bool} {n g : Nat} (h : ¬ (a = true ∧ b = false ∧ n = 0 ∧ g = 0)) : a = false ∨ b = true ∨ 0 < n ∨ 0 < g := by
  cases a with
  | false => exact Or.inl rfl
  | true =>
    cases b with
    | true => exact Or.inr (Or.inl rfl)
    | false =>
      rcases Nat.eq_zero_or_pos n with q | q
      · rcases Nat.eq_zero_or_pos g with z | z
        · exact absurd ⟨rfl, rfl, q, z⟩ h
        · exact Or.inr (Or.inr (Or.inr z))
      · exact Or.inr (Or.inr (Or.inl q))
theorem wr_split {b : Bool} {n g : Nat} (h : ¬ (b = true ∨ 0 < n ∨ 0 < g)) : b = false ∧ n = 0 ∧ g = 0 := by
  cases b with
  | true => exact absurd (Or.inl rfl) h
  | false => exact ⟨rfl, by rcases Nat.eq_zero_or_pos n with q | q; exact q; exact absurd (Or.inr (Or.inl q)) h, by rcases Nat.eq_zero_or_pos g with q | q; exact q; exact absurd (Or.inr (Or.inr q)) h⟩
theorem oc_split {b : Bool} {g : Nat} (h : ¬ (b = true ∨ 0 < g)) : b = false ∧ g = 0 := by
  cases b with
  | true => exact absurd (Or.inl rfl) h
  | false => exact ⟨rfl, by rcases Nat.eq_zero_or_pos g with q | q; exact q; exact absurd (Or.inr q) h⟩
section
variable {st : Nat → Int32} {N np : Nat} {fk fn fo : Nat → Int32}
theorem oct_m {b : Int32} {w : WSt} (h0 : s_bg w.1 = 0) (i : Nat) (hi : i < 8) : s_bg (octN st N np fk fn fo b w i).1 = i ∧ s_n (octN st N np fk fn fo b w i).1 = s_n w.1 := by
  induction i with
  | zero => exact ⟨h0, rfl⟩
  | succ i ih =>
    obtain ⟨a, d⟩ := ih (by omega)
    have hne : ¬ s_bg (octN st N np fk fn fo b w i).1 = 7 := by omega
    refine ⟨?_, ?_⟩
    · rw [octN, step_bg, if_neg hne, a]
    · rw [octN, step_n, if_neg hne, d]
theorem oct_8 {b : Int32} {w : WSt} (h0 : s_bg w.1 = 0) : 0 < s_n (octN st N np fk fn fo b w 8).1 := by
  obtain ⟨a, d⟩ := oct_m (st := st) (N := N) (np := np) (fk := fk) (fn := fn) (fo := fo) (b := b) h0 7 (by decide)
  rw [octN, step_n, if_pos a]; exact Nat.succ_pos _
end
