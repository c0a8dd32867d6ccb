set_option maxHeartbeats 400000 in
set_option maxRecDepth 100000 in
theorem c_X11_byteBegins (l : Launch) (g : GT) (mo : Nat → Nat) (rr : Nat) (th : Int32) (np : Nat) (no : Nat) (bt : Nat) (en : Bool) (xx : Int64) (ra : Nat) (t0 : Int32) (t1 : Int32) (s1 : Int32) (ca : Int32) (cq : Int32) (ch : Int32) (st : Nat → Int32) (fk : Nat → Int32) (fn : Nat → Int32) (fo : Nat → Int32) (bb : Nat → Int32) (wt : Nat → Int32) (nx : Nat → Int32) (cx : Nat → Int32) (pt : Nat → Int32) (le : Nat → Int32) (sc : Nat → Int32) (ss : Nat → Int32) (ww : Nat → Int32) (xc : Nat → Int32) (lo : Nat → Int64) (hi : Nat → Int64) (ou : Nat → Int32) (xi : Nat → Int32) (sd : Nat) (n : Nat) (f : Nat → Int32) (c0 : Nat → Int32) (mp : Nat → Nat) (ml : Nat → Nat) (bh : Int32) (hsd : sd < 2) (hw : wt sd = nI n) (hn : n ≤ 2000) (hnp : np ≤ 8) (hal : ∀ j, j < np → allowB (fk j) (fn j) = true) (hbb : ∀ j, j < n → (vb bb sd) j = f j) (hrm : RM sd np fk mp ml pt le) (hmi : MI n np fk mp ml) (hbh : bh = 0 → ∀ j, j < np → fk j = 4 → ml j = 0) : OM (S := {zq : (Nat → Int32) × (Nat → Int32) × (Nat → Int32) // (RC sd np fk (bgC f n fk fn c0 np) zq.1) ∧ (RM sd np fk (bgP f n fk fn mp ml np) (bgL f n fk fn mp ml np) zq.2.1 zq.2.2) ∧ (∀ k, k < 8 * sd ∨ 8 * sd + 8 ≤ k → zq.1 k = cx k ∧ zq.2.1 k = pt k ∧ zq.2.2 k = le k)}) l g yX11_byteBegins cX11_byteBegins 4 none ({ frames := 2, cells := 0, slots := 0, locals := 50 } : Room) [.ref (mo 0), .int (nI sd), .int bh] (mdL g mo rr th np no bt en xx ra t0 t1 s1 ca cq ch st fk fn fo bb wt nx cx pt le sc ss ww xc lo hi ou xi) (fun _ => none) (fun zu => (mdL g mo rr th np no bt en xx ra t0 t1 s1 ca cq ch st fk fn fo bb wt nx zu.1.1 zu.1.2.1 zu.1.2.2 sc ss ww xc lo hi ou xi)) := by
  refine OM.startQ (by decide) (Nat.le_of_ble_eq_true rfl) ?_
  intro p e s m below meth c A ls Q H locs hQ C hnm hl hT
  have hx := C.x
  have hb := C.b
  have hl : lv_has ls 4 [(0, .ref (mo 0)), (1, .int (nI sd)), (2, .int bh)] := hl
  refine lv_iconst (v := 0) hx hb dX11_byteBegins_0 (by decide) ?_
  refine lv_istore_n (lv' := [(3, .int 0), (0, .ref (mo 0)), (1, .int (nI sd)), (2, .int bh)]) hx hb dX11_byteBegins_1 rfl hl (by decide) rfl (fun ls hl => ?_)
  have loop_2 : ∀ (fu : Nat) (i : Nat) (vx3 : Int32) (cx1 : Nat → Int32) (pt1 : Nat → Int32) (le1 : Nat → Int32) (H : Heap) (locs : List Loc) (ls : Array Slot) (hli : i ≤ np) (vex3 : vx3 = nI i) (hI : BBI sd np n f fk fn mp ml cx pt le i cx1 pt1 le1), np - i < fu → Wd g A s (mdL g mo rr th np no bt en xx ra t0 t1 s1 ca cq ch st fk fn fo bb wt nx cx1 pt1 le1 sc ss ww xc lo hi ou xi) H locs → lv_has ls 4 [(0, .ref (mo 0)), (1, .int (nI sd)), (2, .int bh), (3, .int vx3)] → W p l e ({ frames := 2, cells := 0, slots := 0, locals := 50 } : Room) s m ([.ref (mo 0), .int (nI sd), .int bh] : List Value).toArray below meth c H locs 0 0 Q (F0 m 2 ls []) := by
    intro fu
    induction fu with
    | zero => intro i vx3 cx1 pt1 le1 H locs ls hli vex3 hI hm; exact absurd hm (Nat.not_lt_zero _)
    | succ fu ih =>
      intro i vx3 cx1 pt1 le1 H locs ls hli vex3 hI hm hT hl
      refine lv_iload_n hx hb dX11_byteBegins_2 rfl (lv_at hl 3 rfl) ?_
      refine lv_aload_n hx hb dX11_byteBegins_3 rfl (lv_at hl 0 rfl) ?_
      refine gX11_91 C hT (q0 := 0) rfl dX11_byteBegins_4 ?_
      refine lv_icmp_ge (tgt := 53) hx hb dX11_byteBegins_7 (by decide) (fun h_1 => ?_) (fun h_1 => ?_)
      · skip
        have hin := lp_end vex3 (by omega) hli h_1
        rw [hin] at hI
        exact e_vret C hQ ⟨(cx1, pt1, le1), (BBI_C hI c0), (BBI_M hI), hI.2.2.2⟩ hT rfl dX11_byteBegins_53
      · skip
        have hin := lp_go vex3 (by omega) hli h_1
        have hi8 : i < 8 := by omega
        have hali := hal i hin
        refine lv_aload_n hx hb dX11_byteBegins_10 rfl (lv_at hl 0 rfl) ?_
        refine gX11_13 C hT (q0 := 0) rfl dX11_byteBegins_11 ?_
        refine lv_iload_n hx hb dX11_byteBegins_14 rfl (lv_at hl 3 rfl) ?_
        refine r_iald C hT (q0 := 2) rfl i vex3 hi8 (by decide) dX11_byteBegins_15 ?_
        refine lv_iconst (v := 4) hx hb dX11_byteBegins_16 (by decide) ?_
        refine lv_icmp_ge (tgt := 40) hx hb dX11_byteBegins_17 (by decide) (fun h_2 => ?_) (fun h_2 => ?_)
        · skip
          have hk4 := (allow_k hali).mp h_2
          obtain ⟨t, ht3, ht8, vet⟩ := allow4 (hk4 ▸ hali)
          have et1 : (fn i).toNatClampNeg = t := by rw [vet, nI_clamp (by omega)]
          obtain ⟨hel, pl, hep, hpl, hpm⟩ := BBI_at hI hrm hin hk4
          have hmii := hmi i hin hk4
          have hpn : 0 < ml i → pl < n := fun q => by rw [hpm q]; exact hmii.2 q
          have hmc := mt_cg (F := (vb bb sd)) (f := f) (n := n) (t := t) (pl := pl) (mp := mp i) (ln := ml i) hbb (by omega) hpm hmii.2
          have hplt : mtP (vb bb sd) n t pl (ml i) < 2050 := mtP_lt hpl (fun q => by have := hpn q; omega) (by omega)
          have hmc2 := hmc.2
          refine lv_aload_n hx hb dX11_byteBegins_40 rfl (lv_at hl 0 rfl) ?_
          refine lv_iload_n hx hb dX11_byteBegins_41 rfl (lv_at hl 1 rfl) ?_
          refine lv_iload_n hx hb dX11_byteBegins_42 rfl (lv_at hl 3 rfl) ?_
          refine W.eq (g2 := F0 m 43 ls [.int (nI i), .int (nI sd), .ref (mo 0)]) (congrArg (fun z => F0 m 43 ls (.int z :: [.int (nI sd), .ref (mo 0)])) (vex3)) ?_
          refine lv_iload_n hx hb dX11_byteBegins_43 rfl (lv_at hl 2 rfl) ?_
          have hM := c_X11_match l g mo rr th np no bt en xx ra t0 t1 s1 ca cq ch st fk fn fo bb wt nx cx1 pt1 le1 sc ss ww xc lo hi ou xi sd n i bh t pl (ml i) (by first | assumption | omega) (by first | assumption | omega) (by first | assumption | omega) (by first | assumption | omega) vet (by omega) (by first | assumption | omega) hep hel (by first | assumption | omega) hmii.1 (by first | assumption | omega) (fun q => hbh q i hin hk4)
          refine r_callW C hT (runVW (rm := ({ frames := 1, cells := 0, slots := 0, locals := 22 } : Room)) (As := [.int (nI sd), .int (nI i), .int bh]) (n := 3) (q1 := 0) (rest := []) C hT hM k773 k775 s16 k15 k776 (by decide +kernel) rfl rfl rfl rfl (Nat.le_of_ble_eq_true rfl) hl.1 ⟨Nat.le_of_ble_eq_true rfl, Nat.le_of_ble_eq_true rfl⟩ ⟨Nat.le_of_ble_eq_true rfl, Nat.le_of_ble_eq_true rfl⟩ dX11_byteBegins_44) (fun u H locs hT => ?_)
          have hT : Wd g A s (mdL g mo rr th np no bt en xx ra t0 t1 s1 ca cq ch st fk fn fo bb wt nx cx1 (upd pt1 (8 * sd + i) (nI (mtP (vb bb sd) n t pl (ml i)))) (upd le1 (8 * sd + i) (nI (mtL (vb bb sd) n t pl (ml i)))) sc ss ww xc lo hi ou xi) H locs := hT
          refine W.eq (g2 := F0 m 47 ls []) rfl ?_
          obtain ⟨x_3, ex_3⟩ : ∃ y : Int32, y = vx3 + 1 := ⟨_, rfl⟩
          refine lv_iinc (v := x_3) (lv' := [(3, .int x_3), (0, .ref (mo 0)), (1, .int (nI sd)), (2, .int bh)]) hx hb dX11_byteBegins_47 hl (k := 3) rfl (by rw [ex_3]; rfl) (by decide) rfl (fun ls hl => ?_)
          refine lv_goto (tgt := 2) hx hb dX11_byteBegins_50 (by decide) ?_
          exact ih (i + 1) x_3 cx1 (upd pt1 (8 * sd + i) (nI (mtP (vb bb sd) n t pl (ml i)))) (upd le1 (8 * sd + i) (nI (mtL (vb bb sd) n t pl (ml i)))) H locs ls (by first | assumption | omega | rfl) (by rw [ex_3, vex3]; exact nI_1 i) (by first | exact BBI_c hI hi8 hk4 hcg | exact BBI_m hI hi8 hk4 et1 hmc.1 hplt hmc2) (by omega) hT (lv_sub hl [1, 2, 3, 0] rfl)
        · skip
          have hk4 : ¬ fk i = 4 := fun q => h_2 ((allow_k hali).mpr q)
          have hcg := ctx_cg (F := (vb bb sd)) (f := f) (n := n) hbb (fk i) (fn i)
          refine lv_aload_n hx hb dX11_byteBegins_20 rfl (lv_at hl 0 rfl) ?_
          refine gX11_32 C hT (q0 := 0) rfl dX11_byteBegins_21 ?_
          refine lv_bipush (v := 8) hx hb dX11_byteBegins_24 (by decide) ?_
          refine lv_iload_n hx hb dX11_byteBegins_26 rfl (lv_at hl 1 rfl) ?_
          refine lv_imul hx hb dX11_byteBegins_27 ?_
          refine W.eq (g2 := F0 m 28 ls [.int (nI (8 * sd)), .ref (mo 8)]) (congrArg (fun z => F0 m 28 ls (.int z :: [.ref (mo 8)])) (pk_mul 8 sd)) ?_
          refine lv_iload_n hx hb dX11_byteBegins_28 rfl (lv_at hl 3 rfl) ?_
          refine W.eq (g2 := F0 m 29 ls [.int (nI i), .int (nI (8 * sd)), .ref (mo 8)]) (congrArg (fun z => F0 m 29 ls (.int z :: [.int (nI (8 * sd)), .ref (mo 8)])) (vex3)) ?_
          refine lv_iadd hx hb dX11_byteBegins_29 ?_
          refine W.eq (g2 := F0 m 30 ls [.int (nI (8 * sd + i)), .ref (mo 8)]) (congrArg (fun z => F0 m 30 ls (.int z :: [.ref (mo 8)])) (nI_add _ _)) ?_
          refine lv_aload_n hx hb dX11_byteBegins_30 rfl (lv_at hl 0 rfl) ?_
          refine lv_iload_n hx hb dX11_byteBegins_31 rfl (lv_at hl 1 rfl) ?_
          refine lv_iload_n hx hb dX11_byteBegins_32 rfl (lv_at hl 3 rfl) ?_
          refine W.eq (g2 := F0 m 33 ls [.int (nI i), .int (nI sd), .ref (mo 0), .int (nI (8 * sd + i)), .ref (mo 8)]) (congrArg (fun z => F0 m 33 ls (.int z :: [.int (nI sd), .ref (mo 0), .int (nI (8 * sd + i)), .ref (mo 8)])) (vex3)) ?_
          have hM := c_X11_contextOf l g mo rr th np no bt en xx ra t0 t1 s1 ca cq ch st fk fn fo bb wt nx cx1 pt1 le1 sc ss ww xc lo hi ou xi sd n i (by first | assumption | omega) (by first | assumption | omega) (by first | assumption | omega) (by first | assumption | omega) hali hk4
          refine r_callRO (js := [0, 1, 2, 3, 4, 5, 6, 7, 8, 9, 10, 11, 12, 13, 14, 15, 16, 17, 18]) C hT (runV (js := [0, 1, 2, 3, 4, 5, 6, 7, 8, 9, 10, 11, 12, 13, 14, 15, 16, 17, 18]) (rm := ({ frames := 1, cells := 0, slots := 0, locals := 22 } : Room)) (As := [.int (nI sd), .int (nI i)]) (n := 2) (q1 := 0) (rest := [.int (nI (8 * sd + i)), .ref (mo 8)]) C hT hM rfl rfl k756 k758 s14 k15 k759 (by decide +kernel) rfl rfl rfl rfl (Nat.le_of_ble_eq_true rfl) hl.1 ⟨Nat.le_of_ble_eq_true rfl, Nat.le_of_ble_eq_true rfl⟩ ⟨Nat.le_of_ble_eq_true rfl, Nat.le_of_ble_eq_true rfl⟩ dX11_byteBegins_33) rfl rfl (fun u H locs hT => ?_)
          refine W.eq (g2 := F0 m 36 ls [.int (ctxI (vb bb sd) n (fk i) (fn i)), .int (nI (8 * sd + i)), .ref (mo 8)]) rfl ?_
          refine r_iast C hT (q0 := 8) rfl (8 * sd + i) rfl (by omega) (by decide) dX11_byteBegins_36 (fun H locs hT => ?_)
          have hT : Wd g A s (mdL g mo rr th np no bt en xx ra t0 t1 s1 ca cq ch st fk fn fo bb wt nx (upd cx1 (8 * sd + i) (ctxI (vb bb sd) n (fk i) (fn i))) pt1 le1 sc ss ww xc lo hi ou xi) H locs := hT
          refine lv_goto (tgt := 47) hx hb dX11_byteBegins_37 (by decide) ?_
          obtain ⟨x_4, ex_4⟩ : ∃ y : Int32, y = vx3 + 1 := ⟨_, rfl⟩
          refine lv_iinc (v := x_4) (lv' := [(3, .int x_4), (0, .ref (mo 0)), (1, .int (nI sd)), (2, .int bh)]) hx hb dX11_byteBegins_47 hl (k := 3) rfl (by rw [ex_4]; rfl) (by decide) rfl (fun ls hl => ?_)
          refine lv_goto (tgt := 2) hx hb dX11_byteBegins_50 (by decide) ?_
          exact ih (i + 1) x_4 (upd cx1 (8 * sd + i) (ctxI (vb bb sd) n (fk i) (fn i))) pt1 le1 H locs ls (by first | assumption | omega | rfl) (by rw [ex_4, vex3]; exact nI_1 i) (by first | exact BBI_c hI hi8 hk4 hcg | exact BBI_m hI hi8 hk4 et1 hmc.1 hplt hmc2) (by omega) hT (lv_sub hl [1, 2, 3, 0] rfl)
  exact loop_2 (np - 0 + 1) 0 0 cx pt le H locs ls (by first | assumption | omega | rfl) rfl BBI_0 (Nat.lt_succ_self _) hT (lv_sub hl [1, 2, 3, 0] rfl)
