theorem ns_f : ∀ q ∈ NWF, Cond.fieldLinkNest q.1 q.2.1 q.2.2.1 q.2.2.2.1 q.2.2.2.2.1 q.2.2.2.2.2 ∈ lw_tbl := by decide +kernel
theorem ns_m : ∀ q ∈ NWM, Cond.methodLinkNest q.1 q.2.1 q.2.2.1 q.2.2.2 ∈ lw_tbl := by decide +kernel
theorem ns_a : Cond.arrayOver (.object "ContextMix$Match") ∈ lw_tbl := by decide +kernel
theorem ns_d : ∀ x ∈ XDL, Cond.declares x ∈ lw_tbl := by decide +kernel
theorem ns_s : Cond.stringRef RX10 165 "no such slot" ∈ lw_tbl ∧ Cond.castable EXC EXC ∈ lw_tbl ∧ Cond.laysStatic Bundle.tN "UNASSIGNED_STACK" Bundle.steD ∈ lw_tbl ∧ Cond.laysStatic Bundle.tN "SUPPRESSED_SENTINEL" Bundle.listD ∈ lw_tbl ∧ Cond.laysStatic RX5 "CURVE" "[I" ∈ lw_tbl ∧ Cond.laysStatic RX11 "T" "[I" ∈ lw_tbl := by decide +kernel
theorem st_c : ∀ j, j < 33 → Cond.eq (.elem (.static RX5 "CURVE" "[I") (.int (Int32.ofNat j))) (.int (curveT j)) ∈ flatC (Jvm.Cond.and given_1 narrow_1) := by decide +kernel
theorem st_t : ∀ j, j < 33 → Cond.eq (.elem (.static RX11 "T" "[I") (.int (Int32.ofNat j))) (.int (curveT j)) ∈ flatC (Jvm.Cond.and given_1 narrow_1) := by decide +kernel
theorem st_o : Cond.arrayOf (.static RX5 "CURVE" "[I") .int ∈ flatC (Jvm.Cond.and given_1 narrow_1) ∧ Cond.eq (.length (.static RX5 "CURVE" "[I")) (.int 33) ∈ flatC (Jvm.Cond.and given_1 narrow_1) ∧ Cond.arrayOf (.static RX11 "T" "[I") .int ∈ flatC (Jvm.Cond.and given_1 narrow_1) ∧ Cond.eq (.length (.static RX11 "T" "[I")) (.int 33) ∈ flatC (Jvm.Cond.and given_1 narrow_1) ∧ Cond.isRef (.static Bundle.tN "UNASSIGNED_STACK" Bundle.steD) ∈ flatC (Jvm.Cond.and given_1 narrow_1) ∧ Cond.isRef (.static Bundle.tN "SUPPRESSED_SENTINEL" Bundle.listD) ∈ flatC (Jvm.Cond.and given_1 narrow_1) ∧ Cond.exactly (.string RX10 165) "java/lang/String" ∈ flatC (Jvm.Cond.and given_1 narrow_1) := by decide +kernel
/-- the law's context out of its entry -/
theorem law_ctx {p : Program} {s : State} {m : MethodId} {meth : Method} {c : Code} {b L : Nat} {xs : Nat → Int32} (C0 : lw_At p s m meth c b L xs) : ∃ g : GT, LC p s m meth c g (fun q : Nat => s.heap.size ≤ q) b L xs := by
  obtain ⟨hx, hb, hr, hml, hown, hts, hX, hbl, hlocks, hgv⟩ := id C0
  have htg : ∀ w ∈ GW, w.before #[Value.ref b] s = true := fun w h => hts w (gw_tbl h)
  have hs := flat_of_before _ hgv
  have hA : ∀ a : Nat, a < s.heap.size → ¬ (fun q : Nat => s.heap.size ≤ q) a := fun a h => Nat.not_le.mpr h
  obtain ⟨c0, i0, hK0⟩ := u_known (C := RX0) (T := TX0) (N := 2) (n := 2) htg inX0 (htg _ k240)
  obtain ⟨c1, i1, hK1⟩ := u_known (C := RX1) (T := TX1) (N := 2) (n := 2) htg inX1 (htg _ k135)
  obtain ⟨c2, i2, hK2⟩ := u_known (C := RX2) (T := TX2) (N := 4) (n := 4) htg inX2 (htg _ k87)
  obtain ⟨c3, i3, hK3⟩ := u_known (C := RX3) (T := TX3) (N := 2) (n := 2) htg inX3 (htg _ k176)
  obtain ⟨c4, i4, hK4⟩ := u_known (C := RX4) (T := TX4) (N := 3) (n := 3) htg inX4 (htg _ k112)
  obtain ⟨c5, i5, hK5⟩ := u_known (C := RX5) (T := TX5) (N := 1) (n := 1) htg inX5 (htg _ k40)
  obtain ⟨c6, i6, hK6⟩ := u_known (C := RX6) (T := TX6) (N := 2) (n := 2) htg inX6 (htg _ k226)
  obtain ⟨c7, i7, hK7⟩ := u_known (C := RX7) (T := TX7) (N := 4) (n := 4) htg inX7 (htg _ k56)
  obtain ⟨c8, i8, hK8⟩ := u_known (C := RX8) (T := TX8) (N := 10) (n := 10) htg inX8 (htg _ k81)
  obtain ⟨c9, i9, hK9⟩ := u_known (C := RX9) (T := TX9) (N := 2) (n := 2) htg inX9 (htg _ k158)
  obtain ⟨c10, i10, hK10⟩ := u_known (C := RX10) (T := TX10) (N := 10) (n := 10) htg inX10 (htg _ k23)
  obtain ⟨c11, i11, hK11⟩ := u_known (C := RX11) (T := TX11) (N := 32) (n := 32) htg inX11 (htg _ k729)
  obtain ⟨aI, kI, pI, fI, gI, hI⟩ := Cond.arrayClass_spec (htg _ k54)
  obtain ⟨aJ, kJ, pJ, fJ, gJ, hJ⟩ := Cond.arrayClass_spec (htg _ k874)
  obtain ⟨aZ, kZ, pZ, fZ, gZ, hZ⟩ := Cond.arrayClass_spec (htg _ k79)
  obtain ⟨pM, aM, kM, fM, -, gM, hM, eM⟩ := Cond.arrayOver_spec (hts _ ns_a)
  obtain ⟨tC, hC1, hC2⟩ := va_Tof (tm := .static RX5 "CURVE" "[I") (ty := .int) (N := 33) (f := fun j => .int (curveT j)) (by decide) (hs _ st_o.1) (va_eqt (hs _ st_o.2.1)) (fun j hj => va_eqt (hs _ (st_c j hj))) hA
  obtain ⟨tT, hT1, hT2⟩ := va_Tof (tm := .static RX11 "T" "[I") (ty := .int) (N := 33) (f := fun j => .int (curveT j)) (by decide) (hs _ st_o.2.2.1) (va_eqt (hs _ st_o.2.2.2.1)) (fun j hj => va_eqt (hs _ (st_t j hj))) hA
  obtain ⟨sa, -, -, -, hsa, -⟩ := Cond.exactly_spec (hs _ st_o.2.2.2.2.2.2)
  obtain ⟨g, hK, hSP⟩ : ∃ g : GT, va_K g.1 vwCl (tysG g) s ∧ SP g (fun q : Nat => s.heap.size ≤ q) s s.heap := by
    refine ⟨((fun k => [c0, c1, c2, c3, c4, c5, c6, c7, c8, c9, c10, c11].getD k c0, fun k => [i0, i1, i2, i3, i4, i5, i6, i7, i8, i9, i10, i11].getD k i0), fun k => [aI, aJ, aZ, aM].getD k aI, fun k => [tC, tT].getD k tC), ⟨fun k q hq => ?_, fun k q hq => ?_⟩, ?_⟩
    · match k, hq with
      | 0, hq => cases hq; exact hK0
      | 1, hq => cases hq; exact hK1
      | 2, hq => cases hq; exact hK2
      | 3, hq => cases hq; exact hK3
      | 4, hq => cases hq; exact hK4
      | 5, hq => cases hq; exact hK5
      | 6, hq => cases hq; exact hK6
      | 7, hq => cases hq; exact hK7
      | 8, hq => cases hq; exact hK8
      | 9, hq => cases hq; exact hK9
      | 10, hq => cases hq; exact hK10
      | 11, hq => cases hq; exact hK11
      | k + 12, hq => exact absurd hq (by simp [vwCl])
    · match k, hq with
      | 0, hq => cases hq; exact ⟨fun n z => ⟨fun k h => (by cases h), kI, gI, pI, hI⟩, fI⟩
      | 1, hq => cases hq; exact ⟨fun n z => ⟨fun k h => (by cases h), kJ, gJ, pJ, hJ⟩, fJ⟩
      | 2, hq => cases hq; exact ⟨fun n z => ⟨fun k h => (by cases h), kZ, gZ, pZ, hZ⟩, fZ⟩
      | 3, hq => cases hq; exact ⟨fun n z => ⟨fun k h => (by cases h), kM, gM, pM, hM⟩, kM, pM, gM, hM, fM, eM⟩
      | k + 4, hq => exact absurd hq (by simp [tysG])
    · exact ⟨⟨va_Zof (hts _ ns_s.2.2.2.2.1) (htg _ k2) hC1 hA, hC2⟩, va_Zof (hts _ ns_s.2.2.2.2.2) (htg _ k15) hT1 hA, hT2⟩
  refine ⟨g, ⟨hx, hb, hml, hown, htg, hr, hlocks, hK, hSP, ⟨fun q hq => va_Nw.of rfl (hts _ (ns_f q hq)), fun q hq => va_Nw.of rfl (hts _ (ns_m q hq)), va_AO.of (hts _ ns_a)⟩, fun q h => h⟩, hX, hbl, Nat.not_le.mpr hbl, ?_⟩
  exact ⟨⟨vx_Zqof (hts _ ns_s.2.2.1) (htg _ k16) (hs _ st_o.2.2.2.2.1) hA, vx_Zqof (hts _ ns_s.2.2.2.1) (htg _ k16) (hs _ st_o.2.2.2.2.2.1) hA⟩, ⟨sa, vk_R.of (hts _ ns_s.1) hsa⟩, va_Nw.of rfl (hts _ ns_s.2.1), fun x hx => va_Nw.of rfl (hts _ (ns_d x hx))⟩
