/-! the law's own two helpers -/
def PreC (g : GT) (b L : Nat) (xs : Nat → Int32) (sz : Nat) (U : State) : Prop := PreG g [] sz U ∧ va_X b L xs U U.heap ∧ b < sz
theorem blindC {g : GT} {b L : Nat} {xs : Nat → Int32} {av : List Value} {sz : Nat} : FrameBlind (va_Pc av (PreC g b L xs sz)) := by
  intro a U g1 mk q
  obtain ⟨q0, q1, q2, q3⟩ := q
  have h := blindG (g := g) (av := av) (L := []) (sz := sz) a U g1 mk ⟨q0, q1⟩
  exact ⟨h.1, h.2, va_X.moved (u := U) (U := U.calling g1 mk a) (Vm.Alike.refl U.vm) q2, q3⟩
abbrev cel0 (L : Nat) (xs : Nat → Int32) : Int32 := if 0 < L then xs 0 else 0
abbrev rmC : Room := { frames := 0, cells := 0, slots := 0, locals := 0 }
theorem c_L_cell (l : Launch) (g : GT) (b L : Nat) (xs : Nat → Int32) (hL : L ≤ 321) : ∀ sz, Met l yL_cell (.code yL_cell cL_cell 2 (some .int) :: GW) rmC (va_Pc [.ref b, .int 0] (PreC g b L xs sz)) (QG g (va_A [] sz) (fun (_ : Unit) => some (.int (cel0 L xs))) (fun _ => [])) 0 0 (va_A [] sz) := by
  intro sz
  refine Met.ofW (cc := cL_cell) (maxL := 2) (ret := some .int) (by decide) rfl ?_
  intro p e s m args below meth c s₁ B hml hv
  obtain ⟨rfl, ⟨hsz, hP, hK, hD0, hSP, hNS⟩, hX, hbl⟩ := hv
  have hts := atoms_spec (ws := (.code yL_cell cL_cell 2 (some .int) :: GW)) B.pre
  subst hsz
  have hl := lv_entry [.ref b, .int 0] (n := 2) (Nat.le_of_ble_eq_true rfl)
  rw [lg_entry_eq]
  have C : Cx p s m meth c ([.ref b, .int 0] : List Value).toArray cL_cell (some .int) 2 RL g (va_A [] s.heap.size) := ⟨B.exec, B.bytes, hml, findClass_of_methodNamed B.named, fun w h => hts w (List.mem_cons_of_mem _ h), B.returns, B.notSynchronized, hK, hSP, hNS, fun q h => Or.inr h⟩
  have hT : Wd g (va_A [] s.heap.size) s [] s.heap [] := ⟨hP, hD0.self, va_S.rf⟩
  have hbA : ¬ va_A [] s.heap.size b := by
    rintro (⟨k, x, h⟩ | h)
    · simp at h
    · omega
  have hx := C.x
  have hb := C.b
  generalize (lg_sl ([.ref b, .int 0]) ++ List.replicate (2 - (lg_sl ([.ref b, .int 0])).length) Slot.unset).toArray = ls at hl ⊢
  have hl : lv_has ls 2 [(0, .ref b), (1, .int 0)] := hl
  refine lv_iload_n hx hb dL_cell_0 rfl (lv_at hl 1 rfl) ?_
  refine lv_aload_n hx hb dL_cell_1 rfl (lv_at hl 0 rfl) ?_
  refine va_slen hx hb hX hbl hbA hT.2.2 dL_cell_2 ?_
  refine lv_icmp_ge (tgt := 12) hx hb dL_cell_3 (by decide) (fun h1 => ?_) (fun h1 => ?_)
  · have h0 : L = 0 := nI_le0 (by omega) h1
    refine lv_iconst (v := 0) hx hb dL_cell_12 (by decide) ?_
    exact r_iret C () hT (by rw [cel0, if_neg (by omega)]) dL_cell_13
  · have h0 : 0 < L := nI_nle0 h1
    refine lv_aload_n hx hb dL_cell_6 rfl (lv_at hl 0 rfl) ?_
    refine lv_iload_n hx hb dL_cell_7 rfl (lv_at hl 1 rfl) ?_
    refine va_sld hx hb hX hbl hbA hT.2.2 (vp_in_nI (n := 0) h0 (by omega)) dL_cell_8 ?_
    refine lv_goto (tgt := 13) hx hb dL_cell_9 (by decide) ?_
    exact r_iret C () hT (by rw [cel0, if_pos h0]; rfl) dL_cell_13
abbrev HHs : List (Nat × Nat × Nat × Nat) := [(0, 10, 13, 13)]
abbrev rmL : Room := { frames := 9, cells := 1, slots := 6, locals := 200 }
abbrev OUTc (g : GT) (oa : Nat) (f : Nat → Int64) : Nat × va_E := (oa, .inl (g.2.1 1, 1, .inr (.inl f)))
theorem c_L_slot_ok {l : Launch} {g : GT} {LL : va_W} {b1 q1 oa : Nat} {fs : List Value} {rmX : Room} {v sd i : Int32} {f : Nat → Int64} (hf : rmX.frames + 1 ≤ 9) (hlo : 8 + (4 + 11) + rmX.locals ≤ 200) (hc0 : rmX.cells = 0) (hs0 : rmX.slots = 0) (hrec : LL[q1]? = some (b1, .inr (10, fs)))
    (hM : OM (S := Unit) l g yX10_slot cX10_slot 4 (some .int) rmX [.ref b1, .int sd, .int i] LL (fun _ => some (.int v)) (fun _ => LL)) : OMH (S := Unit) l g yL_slot cL_slot 5 (some .int) HHs rmL [.ref b1, .int sd, .int i, .ref oa] (LL ++ [OUTc g oa f]) (fun _ => some (.int 0)) (fun _ => LL ++ [OUTc g oa (vp_updL f 0 v.toInt64)]) := by
  refine OMH.startQ (by decide) (Nat.le_of_ble_eq_true rfl) ?_
  intro p e s m below meth c A ls Q H locs hQ C hl hT hXS htab
  have hx := C.x
  have hb := C.b
  have hl : lv_has ls 5 [(0, .ref b1), (1, .int sd), (2, .int i), (3, .ref oa)] := hl
  refine lv_aload_n hx hb dL_slot_0 rfl (lv_at hl 3 rfl) ?_
  refine lv_iconst (v := 0) hx hb dL_slot_1 (by decide) ?_
  refine lv_aload_n hx hb dL_slot_2 rfl (lv_at hl 0 rfl) ?_
  refine lv_iload_n hx hb dL_slot_3 rfl (lv_at hl 1 rfl) ?_
  refine lv_iload_n hx hb dL_slot_4 rfl (lv_at hl 2 rfl) ?_
  refine r_callP (lc := LL) (B := [OUTc g oa f]) (n := 2) (q1 := q1) (rest := [.int 0, .ref oa]) C hT hM k721 k722 k723 k1 k724 (by decide +kernel) rfl hrec rfl rfl (Nat.le_of_ble_eq_true rfl) hl.1 ⟨hf, hlo⟩ (by rw [hc0, hs0]; exact ⟨Nat.zero_le _, Nat.zero_le _⟩) dL_slot_5 (fun _ => rfl) (fun u H locs hT => ?_)
  refine W.widen (k := 1) (n := 6) (by rw [hc0]; exact Nat.zero_le _) (by rw [hs0]; exact Nat.zero_le _) ?_
  refine lv_i2l hx hb dL_slot_8 rfl ?_
  have hT := hT.perm (List.perm_append_singleton _ _)
  refine r_last C hT (q0 := 0) rfl 0 rfl (by decide) (by decide) dL_slot_9 (fun H locs hT => ?_)
  have hT : Wd g A s (OUTc g oa (vp_updL f 0 v.toInt64) :: LL) H locs := hT
  have hT := hT.perm (List.perm_append_singleton (OUTc g oa (vp_updL f 0 v.toInt64)) LL).symm
  refine lv_goto (tgt := 17) hx hb dL_slot_10 (by decide) ?_
  refine lv_iconst (v := 0) hx hb dL_slot_17 (by decide) ?_
  exact e_iret C hQ () hT rfl dL_slot_18
theorem c_L_slot_x {l : Launch} {g : GT} {LL : va_W} {b1 q1 oa : Nat} {fs : List Value} {rmX : Room} {sd i : Int32} {f : Nat → Int64} (hf : rmX.frames + 1 ≤ 9) (hlo : 8 + (4 + 11) + rmX.locals ≤ 200) (hc0 : rmX.cells = 1) (hs0 : rmX.slots = 6) (hrec : LL[q1]? = some (b1, .inr (10, fs)))
    (hM : OMT l g yX10_slot cX10_slot 4 (some .int) rmX [.ref b1, .int sd, .int i] LL EXC) : OMH (S := Unit) l g yL_slot cL_slot 5 (some .int) HHs rmL [.ref b1, .int sd, .int i, .ref oa] (LL ++ [OUTc g oa f]) (fun _ => some (.int 1)) (fun _ => LL ++ [OUTc g oa f]) := by
  refine OMH.startQ (by decide) (Nat.le_of_ble_eq_true rfl) ?_
  intro p e s m below meth c A ls Q H locs hQ C hl hT hXS htab
  have hx := C.x
  have hb := C.b
  have hl : lv_has ls 5 [(0, .ref b1), (1, .int sd), (2, .int i), (3, .ref oa)] := hl
  refine lv_aload_n hx hb dL_slot_0 rfl (lv_at hl 3 rfl) ?_
  refine lv_iconst (v := 0) hx hb dL_slot_1 (by decide) ?_
  refine lv_aload_n hx hb dL_slot_2 rfl (lv_at hl 0 rfl) ?_
  refine lv_iload_n hx hb dL_slot_3 rfl (lv_at hl 1 rfl) ?_
  refine lv_iload_n hx hb dL_slot_4 rfl (lv_at hl 2 rfl) ?_
  have hjs := js_pre LL [OUTc g oa f]
  have hnd := nd_range LL.length 0
  have hF := va_free hT.2.1 hT.2.2 C.fA (List.range' 0 LL.length) hjs
  have hrv : ∃ cell : Cell, H[b1]? = some cell ∧ cell.vm.isStatics = false ∧ s.vm.findClass RX10 = some cell.cls := by
    obtain ⟨i9, -, h9⟩ := pick hjs q1 _ hrec
    exact va_recv (q := (RX10, TX10, 10)) C.K hT.1 rfl h9
  have hr := vx_runV (p := p) (l := l) (e := e) (R := rmL) (below := below) (meth := meth) (cells := 0) (slots := 0) (locs := locs) (C := RX10) (n := 2) (b := b1) (As := [.int sd, .int i]) (rest := [.int 0, .ref oa]) (g := F0 m 5 ls [.int i, .int sd, .ref b1, .int 0, .ref oa]) ⟨C.x, C.b, C.ml, C.ow, C.ts⟩ (hM H.size) ⟨callB_of 2 C.ts (gw_code k724) rfl rfl rfl (C.ts _ k1) (C.ts _ k721) (by decide +kernel) ⟨hf, hlo⟩, C.ts _ k722, C.ts _ k723⟩ ⟨blindX, hrv, fun U hU hW => ⟨rfl, preG C hT hjs hnd U hU hW, hXS.go (by rw [hU]; exact hT.2.2) hW hF⟩⟩ rfl rfl hl.1 rfl (lv_room (Nat.le_of_ble_eq_true rfl)) dL_slot_5 (by rw [hc0, hs0]; exact ⟨Nat.le_refl 1, Nat.le_refl 6⟩)
  refine vx_calli hr hT.2.2 (fun q _ h => hF q h) hF (fun q _ h => hF q h) (fun E ce q9 u t H1 locs1 ht hvm _ hB hz hk hS1 hce hcv hcl => ?_) (fun r u t H1 locs1 ht hvm hp _ _ _ _ => hp.elim)
  obtain ⟨hE, hP1⟩ := hB
  subst hE
  rw [ht] at hP1
  have hD1 : va_D (va_A LL H.size) (LL ++ []) := by rw [List.append_nil]; exact va_D.self (hT.2.1.sub _ hnd hjs)
  obtain ⟨hPn, hDn⟩ := fj (l1 := LL) (l2 := []) hT.1 hT.2.1 hjs hnd rfl (by rw [List.append_nil]; exact hP1) hD1 hk hF
  have hst : setL (LL ++ [OUTc g oa f]) (List.range' 0 LL.length) LL = LL ++ [OUTc g oa f] := setL_pre [] LL LL [OUTc g oa f] rfl
  rw [List.append_nil, hst] at hPn hDn
  have hT2 : Wd g A s (LL ++ [OUTc g oa f]) H1 locs1 := ⟨hPn, hDn, hS1⟩
  refine vx_catch (ce := ce) C.ow [] { startPc := 0, endPc := 10, handlerPc := 13, catchType := 13 } [] (by rw [htab]; rfl) (fun z hz => nomatch hz) (by decide) (by decide) (C.ts _ k647) (hXS.2.2.1.use rfl) hce hcv hcl ?_
  refine W.widen (k := 1) (n := 6) (by rw [hc0]; exact Nat.le_refl _) (by rw [hs0]; exact Nat.le_refl _) ?_
  refine lv_astore (lv' := [(4, .ref q9), (0, .ref b1), (1, .int sd), (2, .int i), (3, .ref oa)]) hx hb dL_slot_13 hl (by decide) rfl (fun ls hl => ?_)
  refine lv_iconst (v := 1) hx hb dL_slot_15 (by decide) ?_
  exact e_iret C hQ () hT2 rfl dL_slot_16
