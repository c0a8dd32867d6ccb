set_option maxHeartbeats 400000 in
set_option maxRecDepth 100000 in
theorem c_X11_fresh (l : Launch) (g : GT) (mo : Nat → Nat) (rr : Nat) (th : Int32) (np : Nat) (no : Nat) (bt : Nat) (en : Bool) (xx : Int64) (ra : Nat) (t0 : Int32) (t1 : Int32) (s1 : Int32) (ca : Int32) (cq : Int32) (ch : Int32) (st : Nat → Int32) (fk : Nat → Int32) (fn : Nat → Int32) (fo : Nat → Int32) (bb : Nat → Int32) (wt : Nat → Int32) (nx : Nat → Int32) (cx : Nat → Int32) (pt : Nat → Int32) (le : Nat → Int32) (sc : Nat → Int32) (ss : Nat → Int32) (ww : Nat → Int32) (xc : Nat → Int32) (lo : Nat → Int64) (hi : Nat → Int64) (ou : Nat → Int32) (xi : Nat → Int32) (sd : Nat) (N : Nat) (hsd : sd < 2) (hnp : np ≤ 8) (hN4 : N ≤ 4096) (hal : ∀ j, j < np → allowB (fk j) (fn j) = true) : OM (S := {zq : (Nat → Int32) × (Nat → Int32) × (Nat → Int32) × (Nat → Int32) × (Nat → Int32) × (Nat → Int32) × (Nat → Int32) × (Nat → Int32) × (Nat → Int32) × (Nat → Int64) × (Nat → Int64) // (∀ U, FRS N np fk fn U → (∀ j, j < 2000 → bb (2050 * sd + j) = s_f U j) → RS sd N np fk U bb zq.1 zq.2.1 zq.2.2.1 zq.2.2.2.1 zq.2.2.2.2.1 zq.2.2.2.2.2.1 zq.2.2.2.2.2.2.1 zq.2.2.2.2.2.2.2.1 zq.2.2.2.2.2.2.2.2.1) ∧ (∀ s2 V, s2 < 2 → ¬ s2 = sd → RS s2 N np fk V bb wt nx cx pt le sc ss ww xc → RS s2 N np fk V bb zq.1 zq.2.1 zq.2.2.1 zq.2.2.2.1 zq.2.2.2.2.1 zq.2.2.2.2.2.1 zq.2.2.2.2.2.2.1 zq.2.2.2.2.2.2.2.1 zq.2.2.2.2.2.2.2.2.1) ∧ ((zq.2.2.2.2.2.2.2.2.2.1 sd = 0 ∧ zq.2.2.2.2.2.2.2.2.2.2 sd = 4294967295) ∧ ∀ s2, ¬ s2 = sd → zq.2.2.2.2.2.2.2.2.2.1 s2 = lo s2 ∧ zq.2.2.2.2.2.2.2.2.2.2 s2 = hi s2)}) l g yX11_fresh cX11_fresh 5 none ({ frames := 3, cells := 0, slots := 0, locals := 73 } : Room) [.ref (mo 0), .int (nI sd)] (mdL g mo rr th np no bt en xx ra t0 t1 s1 ca cq ch st fk fn fo bb wt nx cx pt le sc ss ww xc lo hi ou xi) (fun _ => none) (fun zu => (mdL g mo rr th np no bt en xx ra t0 t1 s1 ca cq ch st fk fn fo bb zu.1.1 zu.1.2.1 zu.1.2.2.1 zu.1.2.2.2.1 zu.1.2.2.2.2.1 zu.1.2.2.2.2.2.1 zu.1.2.2.2.2.2.2.1 zu.1.2.2.2.2.2.2.2.1 zu.1.2.2.2.2.2.2.2.2.1 zu.1.2.2.2.2.2.2.2.2.2.1 zu.1.2.2.2.2.2.2.2.2.2.2 ou xi)) := by
  refine OM.startQ (by decide) (Nat.le_of_ble_eq_true rfl) ?_
  intro p e s m below meth c A ls Q H locs hQ C hnm hl hT
  have hx := C.x
  have hb := C.b
  have hl : lv_has ls 5 [(0, .ref (mo 0)), (1, .int (nI sd))] := hl
  refine lv_aload_n hx hb dX11_fresh_0 rfl (lv_at hl 0 rfl) ?_
  refine gX11_26 C hT (q0 := 0) rfl dX11_fresh_1 ?_
  refine lv_iload_n hx hb dX11_fresh_4 rfl (lv_at hl 1 rfl) ?_
  refine lv_iconst (v := 0) hx hb dX11_fresh_5 (by decide) ?_
  refine r_iast C hT (q0 := 6) rfl sd rfl hsd (by decide) dX11_fresh_6 (fun H locs hT => ?_)
  have hT : Wd g A s (mdL g mo rr th np no bt en xx ra t0 t1 s1 ca cq ch st fk fn fo bb (upd wt sd 0) nx cx pt le sc ss ww xc lo hi ou xi) H locs := hT
  refine lv_aload_n hx hb dX11_fresh_7 rfl (lv_at hl 0 rfl) ?_
  refine gX11_29 C hT (q0 := 0) rfl dX11_fresh_8 ?_
  refine lv_iload_n hx hb dX11_fresh_11 rfl (lv_at hl 1 rfl) ?_
  refine lv_iconst (v := 1) hx hb dX11_fresh_12 (by decide) ?_
  refine r_iast C hT (q0 := 7) rfl sd rfl hsd (by decide) dX11_fresh_13 (fun H locs hT => ?_)
  have hT : Wd g A s (mdL g mo rr th np no bt en xx ra t0 t1 s1 ca cq ch st fk fn fo bb (upd wt sd 0) (upd nx sd 1) cx pt le sc ss ww xc lo hi ou xi) H locs := hT
  refine lv_iconst (v := 0) hx hb dX11_fresh_14 (by decide) ?_
  refine lv_istore_n (lv' := [(2, .int 0), (0, .ref (mo 0)), (1, .int (nI sd))]) hx hb dX11_fresh_15 rfl hl (by decide) rfl (fun ls hl => ?_)
  have loop_16 : ∀ (fu : Nat) (i : Nat) (vx2 : Int32) (sc1 : Nat → Int32) (ss1 : Nat → Int32) (H : Heap) (locs : List Loc) (ls : Array Slot) (hl_i : i ≤ 4096) (vevx2 : vx2 = nI i) (hc1 : sc1 = genF (4096 * sd) (fun _ => 32768) sc (i)) (hs1 : ss1 = genF (4096 * sd) (fun _ => 0) ss (i)), 4096 - i < fu → Wd g A s (mdL g mo rr th np no bt en xx ra t0 t1 s1 ca cq ch st fk fn fo bb (upd wt sd 0) (upd nx sd 1) cx pt le sc1 ss1 ww xc lo hi ou xi) H locs → lv_has ls 5 [(0, .ref (mo 0)), (1, .int (nI sd)), (2, .int vx2)] → W p l e ({ frames := 3, cells := 0, slots := 0, locals := 73 } : Room) s m ([.ref (mo 0), .int (nI sd)] : List Value).toArray below meth c H locs 0 0 Q (F0 m 16 ls []) := by
    intro fu
    induction fu with
    | zero => intro i vx2 sc1 ss1 H locs ls hl_i vevx2 hc1 hs1 hm; exact absurd hm (Nat.not_lt_zero _)
    | succ fu ih =>
      intro i vx2 sc1 ss1 H locs ls hl_i vevx2 hc1 hs1 hm hT hl
      refine lv_iload_n hx hb dX11_fresh_16 rfl (lv_at hl 2 rfl) ?_
      refine lv_sipush (v := 4096) hx hb dX11_fresh_17 (by decide) ?_
      refine lv_icmp_ge (tgt := 56) hx hb dX11_fresh_20 (by decide) (fun h_1 => ?_) (fun h_1 => ?_)
      · skip
        have hin_i := lp_end (n := 4096) vevx2 (by decide) hl_i h_1
        rw [hin_i] at hc1 hs1
        rw [hc1, hs1] at hT
        refine lv_iconst (v := 0) hx hb dX11_fresh_56 (by decide) ?_
        have hT : Wd g A s (mdL g mo rr th np no bt en xx ra t0 t1 s1 ca cq ch st fk fn fo bb (upd wt sd 0) (upd nx sd 1) cx pt le (genF (4096 * sd) (fun _ => 32768) sc (4096)) (genF (4096 * sd) (fun _ => 0) ss (4096)) ww xc lo hi ou xi) H locs := hT
        refine lv_istore_n (lv' := [(2, .int 0), (0, .ref (mo 0)), (1, .int (nI sd))]) hx hb dX11_fresh_57 rfl hl (by decide) rfl (fun ls hl => ?_)
        have loop_58 : ∀ (fu : Nat) (mm : Nat) (vx2 : Int32) (ww1 : Nat → Int32) (H : Heap) (locs : List Loc) (ls : Array Slot) (hl_mm : mm ≤ 2) (vevx2 : vx2 = nI mm) (hw1 : ww1 = genF (4608 * sd) (w0 np) ww (2304 * mm)), 2 - mm < fu → Wd g A s (mdL g mo rr th np no bt en xx ra t0 t1 s1 ca cq ch st fk fn fo bb (upd wt sd 0) (upd nx sd 1) cx pt le (genF (4096 * sd) (fun _ => 32768) sc (4096)) (genF (4096 * sd) (fun _ => 0) ss (4096)) ww1 xc lo hi ou xi) H locs → lv_has ls 5 [(0, .ref (mo 0)), (1, .int (nI sd)), (2, .int vx2)] → W p l e ({ frames := 3, cells := 0, slots := 0, locals := 73 } : Room) s m ([.ref (mo 0), .int (nI sd)] : List Value).toArray below meth c H locs 0 0 Q (F0 m 58 ls []) := by
          intro fu_58
          induction fu_58 with
          | zero => intro mm vx2 ww1 H locs ls hl_mm vevx2 hw1 hm; exact absurd hm (Nat.not_lt_zero _)
          | succ fu_58 ih_58 =>
            intro mm vx2 ww1 H locs ls hl_mm vevx2 hw1 hm_58 hT hl
            refine lv_iload_n hx hb dX11_fresh_58 rfl (lv_at hl 2 rfl) ?_
            refine lv_iconst (v := 2) hx hb dX11_fresh_59 (by decide) ?_
            refine lv_icmp_ge (tgt := 129) hx hb dX11_fresh_60 (by decide) (fun h_2 => ?_) (fun h_2 => ?_)
            · skip
              have hin_mm := lp_end (n := 2) vevx2 (by decide) hl_mm h_2
              rw [hin_mm] at hw1
              rw [hw1] at hT
              refine lv_iconst (v := 0) hx hb dX11_fresh_129 (by decide) ?_
              have hT : Wd g A s (mdL g mo rr th np no bt en xx ra t0 t1 s1 ca cq ch st fk fn fo bb (upd wt sd 0) (upd nx sd 1) cx pt le (genF (4096 * sd) (fun _ => 32768) sc (4096)) (genF (4096 * sd) (fun _ => 0) ss (4096)) (genF (4608 * sd) (w0 np) ww (4608)) xc lo hi ou xi) H locs := hT
              refine lv_istore_n (lv' := [(2, .int 0), (0, .ref (mo 0)), (1, .int (nI sd))]) hx hb dX11_fresh_130 rfl hl (by decide) rfl (fun ls hl => ?_)
              have loop_131 : ∀ (fu : Nat) (kk : Nat) (vx2 : Int32) (xc1 : Nat → Int32) (H : Heap) (locs : List Loc) (ls : Array Slot) (hl_kk : kk ≤ 256) (vevx2 : vx2 = nI kk) (hx1 : xc1 = genF (8448 * sd) c0 xc (33 * kk)), 256 - kk < fu → Wd g A s (mdL g mo rr th np no bt en xx ra t0 t1 s1 ca cq ch st fk fn fo bb (upd wt sd 0) (upd nx sd 1) cx pt le (genF (4096 * sd) (fun _ => 32768) sc (4096)) (genF (4096 * sd) (fun _ => 0) ss (4096)) (genF (4608 * sd) (w0 np) ww (4608)) xc1 lo hi ou xi) H locs → lv_has ls 5 [(0, .ref (mo 0)), (1, .int (nI sd)), (2, .int vx2)] → W p l e ({ frames := 3, cells := 0, slots := 0, locals := 73 } : Room) s m ([.ref (mo 0), .int (nI sd)] : List Value).toArray below meth c H locs 0 0 Q (F0 m 131 ls []) := by
                intro fu_131
                induction fu_131 with
                | zero => intro kk vx2 xc1 H locs ls hl_kk vevx2 hx1 hm; exact absurd hm (Nat.not_lt_zero _)
                | succ fu_131 ih_131 =>
                  intro kk vx2 xc1 H locs ls hl_kk vevx2 hx1 hm_131 hT hl
                  refine lv_iload_n hx hb dX11_fresh_131 rfl (lv_at hl 2 rfl) ?_
                  refine lv_sipush (v := 256) hx hb dX11_fresh_132 (by decide) ?_
                  refine lv_icmp_ge (tgt := 189) hx hb dX11_fresh_135 (by decide) (fun h_3 => ?_) (fun h_3 => ?_)
                  · skip
                    have hin_kk := lp_end (n := 256) vevx2 (by decide) hl_kk h_3
                    rw [hin_kk] at hx1
                    rw [hx1] at hT
                    refine lv_iconst (v := 0) hx hb dX11_fresh_189 (by decide) ?_
                    have hT : Wd g A s (mdL g mo rr th np no bt en xx ra t0 t1 s1 ca cq ch st fk fn fo bb (upd wt sd 0) (upd nx sd 1) cx pt le (genF (4096 * sd) (fun _ => 32768) sc (4096)) (genF (4096 * sd) (fun _ => 0) ss (4096)) (genF (4608 * sd) (w0 np) ww (4608)) (genF (8448 * sd) c0 xc (8448)) lo hi ou xi) H locs := hT
                    refine lv_istore_n (lv' := [(2, .int 0), (0, .ref (mo 0)), (1, .int (nI sd))]) hx hb dX11_fresh_190 rfl hl (by decide) rfl (fun ls hl => ?_)
                    have loop_191 : ∀ (fu : Nat) (i : Nat) (vx2 : Int32) (pt1 : Nat → Int32) (le1 : Nat → Int32) (H : Heap) (locs : List Loc) (ls : Array Slot) (hl_i : i ≤ 8) (vevx2 : vx2 = nI i) (hp1 : pt1 = genF (8 * sd) (fun _ => 0) pt (i)) (hl1 : le1 = genF (8 * sd) (fun _ => 0) le (i)), 8 - i < fu → Wd g A s (mdL g mo rr th np no bt en xx ra t0 t1 s1 ca cq ch st fk fn fo bb (upd wt sd 0) (upd nx sd 1) cx pt1 le1 (genF (4096 * sd) (fun _ => 32768) sc (4096)) (genF (4096 * sd) (fun _ => 0) ss (4096)) (genF (4608 * sd) (w0 np) ww (4608)) (genF (8448 * sd) c0 xc (8448)) lo hi ou xi) H locs → lv_has ls 5 [(0, .ref (mo 0)), (1, .int (nI sd)), (2, .int vx2)] → W p l e ({ frames := 3, cells := 0, slots := 0, locals := 73 } : Room) s m ([.ref (mo 0), .int (nI sd)] : List Value).toArray below meth c H locs 0 0 Q (F0 m 191 ls []) := by
                      intro fu_191
                      induction fu_191 with
                      | zero => intro i vx2 pt1 le1 H locs ls hl_i vevx2 hp1 hl1 hm; exact absurd hm (Nat.not_lt_zero _)
                      | succ fu_191 ih_191 =>
                        intro i vx2 pt1 le1 H locs ls hl_i vevx2 hp1 hl1 hm_191 hT hl
                        refine lv_iload_n hx hb dX11_fresh_191 rfl (lv_at hl 2 rfl) ?_
                        refine lv_bipush (v := 8) hx hb dX11_fresh_192 (by decide) ?_
                        refine lv_icmp_ge (tgt := 227) hx hb dX11_fresh_194 (by decide) (fun h_4 => ?_) (fun h_4 => ?_)
                        · skip
                          have hin_i := lp_end (n := 8) vevx2 (by decide) hl_i h_4
                          rw [hin_i] at hp1 hl1
                          rw [hp1, hl1] at hT
                          refine lv_aload_n hx hb dX11_fresh_227 rfl (lv_at hl 0 rfl) ?_
                          have hT : Wd g A s (mdL g mo rr th np no bt en xx ra t0 t1 s1 ca cq ch st fk fn fo bb (upd wt sd 0) (upd nx sd 1) cx (genF (8 * sd) (fun _ => 0) pt (8)) (genF (8 * sd) (fun _ => 0) le (8)) (genF (4096 * sd) (fun _ => 32768) sc (4096)) (genF (4096 * sd) (fun _ => 0) ss (4096)) (genF (4608 * sd) (w0 np) ww (4608)) (genF (8448 * sd) c0 xc (8448)) lo hi ou xi) H locs := hT
                          refine gX11_53 C hT (q0 := 0) rfl dX11_fresh_228 ?_
                          refine lv_iload_n hx hb dX11_fresh_231 rfl (lv_at hl 1 rfl) ?_
                          refine lv_lconst (v := 0) hx hb dX11_fresh_232 (by decide) ?_
                          refine r_last C hT (q0 := 15) rfl sd rfl hsd (by decide) dX11_fresh_233 (fun H locs hT => ?_)
                          have hT : Wd g A s (mdL g mo rr th np no bt en xx ra t0 t1 s1 ca cq ch st fk fn fo bb (upd wt sd 0) (upd nx sd 1) cx (genF (8 * sd) (fun _ => 0) pt (8)) (genF (8 * sd) (fun _ => 0) le (8)) (genF (4096 * sd) (fun _ => 32768) sc (4096)) (genF (4096 * sd) (fun _ => 0) ss (4096)) (genF (4608 * sd) (w0 np) ww (4608)) (genF (8448 * sd) c0 xc (8448)) (vp_updL lo sd 0) hi ou xi) H locs := hT
                          refine lv_aload_n hx hb dX11_fresh_234 rfl (lv_at hl 0 rfl) ?_
                          refine gX11_57 C hT (q0 := 0) rfl dX11_fresh_235 ?_
                          refine lv_iload_n hx hb dX11_fresh_238 rfl (lv_at hl 1 rfl) ?_
                          refine lv_ldc2 (v := 4294967295) hx hb C.ow (C.ts _ k751) dX11_fresh_239 ?_
                          refine r_last C hT (q0 := 16) rfl sd rfl hsd (by decide) dX11_fresh_242 (fun H locs hT => ?_)
                          have hT : Wd g A s (mdL g mo rr th np no bt en xx ra t0 t1 s1 ca cq ch st fk fn fo bb (upd wt sd 0) (upd nx sd 1) cx (genF (8 * sd) (fun _ => 0) pt (8)) (genF (8 * sd) (fun _ => 0) le (8)) (genF (4096 * sd) (fun _ => 32768) sc (4096)) (genF (4096 * sd) (fun _ => 0) ss (4096)) (genF (4608 * sd) (w0 np) ww (4608)) (genF (8448 * sd) c0 xc (8448)) (vp_updL lo sd 0) (vp_updL hi sd 4294967295) ou xi) H locs := hT
                          refine lv_aload_n hx hb dX11_fresh_243 rfl (lv_at hl 0 rfl) ?_
                          refine lv_iload_n hx hb dX11_fresh_244 rfl (lv_at hl 1 rfl) ?_
                          refine lv_iconst (v := 0) hx hb dX11_fresh_245 (by decide) ?_
                          have hM := c_X11_byteBegins l g mo rr th np no bt en xx ra t0 t1 s1 ca cq ch st fk fn fo bb (upd wt sd 0) (upd nx sd 1) cx (genF (8 * sd) (fun _ => 0) pt (8)) (genF (8 * sd) (fun _ => 0) le (8)) (genF (4096 * sd) (fun _ => 32768) sc (4096)) (genF (4096 * sd) (fun _ => 0) ss (4096)) (genF (4608 * sd) (w0 np) ww (4608)) (genF (8448 * sd) c0 xc (8448)) (vp_updL lo sd 0) (vp_updL hi sd 4294967295) ou xi sd 0 (vb bb sd) (fun _ => 0) (fun _ => 0) (fun _ => 0) 0 hsd (upd_at _ _ _) (by decide) hnp hal (fun _ _ => rfl) (fr_rm8 hnp) (fun _ _ _ => ⟨Nat.zero_le 32, fun h => absurd h (Nat.lt_irrefl 0)⟩) (fun _ _ _ _ => rfl)
                          refine r_callW C hT (runVW (rm := ({ frames := 2, cells := 0, slots := 0, locals := 50 } : Room)) (As := [.int (nI sd), .int 0]) (n := 2) (q1 := 0) (rest := []) C hT hM k752 k754 s13 k15 k755 (by decide +kernel) rfl rfl rfl rfl (Nat.le_of_ble_eq_true rfl) hl.1 ⟨Nat.le_of_ble_eq_true rfl, Nat.le_of_ble_eq_true rfl⟩ ⟨Nat.le_of_ble_eq_true rfl, Nat.le_of_ble_eq_true rfl⟩ dX11_fresh_246) (fun u H locs hT => ?_)
                          obtain ⟨⟨cx2_246, pt2_246, le2_246⟩, hrc_246, hrm_246, hfr_246⟩ := u
                          replace hrc_246 : RC sd np fk (bgC (vb bb sd) 0 fk fn (fun _ => 0) np) cx2_246 := hrc_246
                          replace hrm_246 : RM sd np fk (bgP (vb bb sd) 0 fk fn (fun _ => 0) (fun _ => 0) np) (bgL (vb bb sd) 0 fk fn (fun _ => 0) (fun _ => 0) np) pt2_246 le2_246 := hrm_246
                          replace hfr_246 : ∀ k, k < 8 * sd ∨ 8 * sd + 8 ≤ k → cx2_246 k = cx k ∧ pt2_246 k = (genF (8 * sd) (fun _ => 0) pt (8)) k ∧ le2_246 k = (genF (8 * sd) (fun _ => 0) le (8)) k := hfr_246
                          have hT : Wd g A s (mdL g mo rr th np no bt en xx ra t0 t1 s1 ca cq ch st fk fn fo bb (upd wt sd 0) (upd nx sd 1) cx2_246 pt2_246 le2_246 (genF (4096 * sd) (fun _ => 32768) sc (4096)) (genF (4096 * sd) (fun _ => 0) ss (4096)) (genF (4608 * sd) (w0 np) ww (4608)) (genF (8448 * sd) c0 xc (8448)) (vp_updL lo sd 0) (vp_updL hi sd 4294967295) ou xi) H locs := hT
                          refine W.eq (g2 := F0 m 249 ls []) rfl ?_
                          have hT : Wd g A s (mdL g mo rr th np no bt en xx ra t0 t1 s1 ca cq ch st fk fn fo bb (upd wt sd 0) (upd nx sd 1) cx2_246 pt2_246 le2_246 (genF (4096 * sd) (fun _ => 32768) sc (4096)) (genF (4096 * sd) (fun _ => 0) ss (4096)) (genF (4608 * sd) (w0 np) ww (4608)) (genF (8448 * sd) c0 xc (8448)) (vp_updL lo sd 0) (vp_updL hi sd 4294967295) ou xi) H locs := hT
                          exact e_vret C hQ ⟨(upd wt sd 0, upd nx sd 1, cx2_246, pt2_246, le2_246, genF (4096 * sd) (fun _ => 32768) sc (4096), genF (4096 * sd) (fun _ => 0) ss (4096), genF (4608 * sd) (w0 np) ww (4608), genF (8448 * sd) c0 xc (8448), vp_updL lo sd 0, vp_updL hi sd 4294967295), (fun U hF hb => fr_RS hF hN4 hnp hb hrc_246 hrm_246), (fun s2 V h2 hne h => fr_OT hsd h2 hne hnp hN4 hfr_246 h), ⟨⟨pk_uLs, pk_uLs⟩, fun s2 hne => ⟨pk_uLn hne, pk_uLn hne⟩⟩⟩ hT rfl dX11_fresh_249
                        · skip
                          have hin_i := lp_go (n := 8) vevx2 (by decide) hl_i h_4
                          refine lv_aload_n hx hb dX11_fresh_197 rfl (lv_at hl 0 rfl) ?_
                          refine gX11_35 C hT (q0 := 0) rfl dX11_fresh_198 ?_
                          refine lv_bipush (v := 8) hx hb dX11_fresh_201 (by decide) ?_
                          refine lv_iload_n hx hb dX11_fresh_203 rfl (lv_at hl 1 rfl) ?_
                          refine lv_imul hx hb dX11_fresh_204 ?_
                          refine W.eq (g2 := F0 m 205 ls [.int (nI (8 * sd)), .ref (mo 9)]) (congrArg (fun z => F0 m 205 ls (.int z :: [.ref (mo 9)])) (pk_mul 8 sd)) ?_
                          refine lv_iload_n hx hb dX11_fresh_205 rfl (lv_at hl 2 rfl) ?_
                          refine W.eq (g2 := F0 m 206 ls [.int (nI i), .int (nI (8 * sd)), .ref (mo 9)]) (congrArg (fun z => F0 m 206 ls (.int z :: [.int (nI (8 * sd)), .ref (mo 9)])) (vevx2)) ?_
                          refine lv_iadd hx hb dX11_fresh_206 ?_
                          refine W.eq (g2 := F0 m 207 ls [.int (nI (8 * sd + i)), .ref (mo 9)]) (congrArg (fun z => F0 m 207 ls (.int z :: [.ref (mo 9)])) (nI_add _ _)) ?_
                          refine lv_iconst (v := 0) hx hb dX11_fresh_207 (by decide) ?_
                          refine r_iast C hT (q0 := 9) rfl (8 * sd + i) rfl (by omega) (by decide) dX11_fresh_208 (fun H locs hT => ?_)
                          have hT : Wd g A s (mdL g mo rr th np no bt en xx ra t0 t1 s1 ca cq ch st fk fn fo bb (upd wt sd 0) (upd nx sd 1) cx (upd pt1 (8 * sd + i) 0) le1 (genF (4096 * sd) (fun _ => 32768) sc (4096)) (genF (4096 * sd) (fun _ => 0) ss (4096)) (genF (4608 * sd) (w0 np) ww (4608)) (genF (8448 * sd) c0 xc (8448)) lo hi ou xi) H locs := hT
                          refine lv_aload_n hx hb dX11_fresh_209 rfl (lv_at hl 0 rfl) ?_
                          refine gX11_38 C hT (q0 := 0) rfl dX11_fresh_210 ?_
                          refine lv_bipush (v := 8) hx hb dX11_fresh_213 (by decide) ?_
                          refine lv_iload_n hx hb dX11_fresh_215 rfl (lv_at hl 1 rfl) ?_
                          refine lv_imul hx hb dX11_fresh_216 ?_
                          refine W.eq (g2 := F0 m 217 ls [.int (nI (8 * sd)), .ref (mo 10)]) (congrArg (fun z => F0 m 217 ls (.int z :: [.ref (mo 10)])) (pk_mul 8 sd)) ?_
                          refine lv_iload_n hx hb dX11_fresh_217 rfl (lv_at hl 2 rfl) ?_
                          refine W.eq (g2 := F0 m 218 ls [.int (nI i), .int (nI (8 * sd)), .ref (mo 10)]) (congrArg (fun z => F0 m 218 ls (.int z :: [.int (nI (8 * sd)), .ref (mo 10)])) (vevx2)) ?_
                          refine lv_iadd hx hb dX11_fresh_218 ?_
                          refine W.eq (g2 := F0 m 219 ls [.int (nI (8 * sd + i)), .ref (mo 10)]) (congrArg (fun z => F0 m 219 ls (.int z :: [.ref (mo 10)])) (nI_add _ _)) ?_
                          refine lv_iconst (v := 0) hx hb dX11_fresh_219 (by decide) ?_
                          refine r_iast C hT (q0 := 10) rfl (8 * sd + i) rfl (by omega) (by decide) dX11_fresh_220 (fun H locs hT => ?_)
                          have hT : Wd g A s (mdL g mo rr th np no bt en xx ra t0 t1 s1 ca cq ch st fk fn fo bb (upd wt sd 0) (upd nx sd 1) cx (upd pt1 (8 * sd + i) 0) (upd le1 (8 * sd + i) 0) (genF (4096 * sd) (fun _ => 32768) sc (4096)) (genF (4096 * sd) (fun _ => 0) ss (4096)) (genF (4608 * sd) (w0 np) ww (4608)) (genF (8448 * sd) c0 xc (8448)) lo hi ou xi) H locs := hT
                          obtain ⟨x_5, ex_5⟩ : ∃ y : Int32, y = vx2 + 1 := ⟨_, rfl⟩
                          refine lv_iinc (v := x_5) (lv' := [(2, .int x_5), (0, .ref (mo 0)), (1, .int (nI sd))]) hx hb dX11_fresh_221 hl (k := 2) rfl (by rw [ex_5]; rfl) (by decide) rfl (fun ls hl => ?_)
                          refine lv_goto (tgt := 191) hx hb dX11_fresh_224 (by decide) ?_
                          exact ih_191 (i + 1) x_5 (upd pt1 (8 * sd + i) 0) (upd le1 (8 * sd + i) 0) H locs ls hin_i (by rw [ex_5, vevx2]; exact nI_1 i) (by rw [hp1]; exact genF_s _ _ _ _) (by rw [hl1]; exact genF_s _ _ _ _) (by omega) hT (lv_sub hl [1, 2, 0] rfl)
                    exact loop_191 (8 - 0 + 1) 0 0 pt le H locs ls (by decide) rfl (genF_0 _ _ _) (genF_0 _ _ _) (Nat.lt_succ_self _) hT (lv_sub hl [1, 2, 0] rfl)
                  · skip
                    have hin_kk := lp_go (n := 256) vevx2 (by decide) hl_kk h_3
                    refine lv_iconst (v := 0) hx hb dX11_fresh_138 (by decide) ?_
                    refine lv_istore_n (lv' := [(3, .int 0), (0, .ref (mo 0)), (1, .int (nI sd)), (2, .int vx2)]) hx hb dX11_fresh_139 rfl hl (by decide) rfl (fun ls hl => ?_)
                    have loop_140 : ∀ (fu : Nat) (t : Nat) (vx3 : Int32) (xc2 : Nat → Int32) (H : Heap) (locs : List Loc) (ls : Array Slot) (hl_t : t ≤ 33) (vevx3 : vx3 = nI t) (hx2 : xc2 = genF (8448 * sd) c0 xc (33 * kk + t)), 33 - t < fu → Wd g A s (mdL g mo rr th np no bt en xx ra t0 t1 s1 ca cq ch st fk fn fo bb (upd wt sd 0) (upd nx sd 1) cx pt le (genF (4096 * sd) (fun _ => 32768) sc (4096)) (genF (4096 * sd) (fun _ => 0) ss (4096)) (genF (4608 * sd) (w0 np) ww (4608)) xc2 lo hi ou xi) H locs → lv_has ls 5 [(0, .ref (mo 0)), (1, .int (nI sd)), (2, .int vx2), (3, .int vx3)] → W p l e ({ frames := 3, cells := 0, slots := 0, locals := 73 } : Room) s m ([.ref (mo 0), .int (nI sd)] : List Value).toArray below meth c H locs 0 0 Q (F0 m 140 ls []) := by
                      intro fu_140
                      induction fu_140 with
                      | zero => intro t vx3 xc2 H locs ls hl_t vevx3 hx2 hm; exact absurd hm (Nat.not_lt_zero _)
                      | succ fu_140 ih_140 =>
                        intro t vx3 xc2 H locs ls hl_t vevx3 hx2 hm_140 hT hl
                        refine lv_iload_n hx hb dX11_fresh_140 rfl (lv_at hl 3 rfl) ?_
                        refine lv_bipush (v := 33) hx hb dX11_fresh_141 (by decide) ?_
                        refine lv_icmp_ge (tgt := 183) hx hb dX11_fresh_143 (by decide) (fun h_6 => ?_) (fun h_6 => ?_)
                        · skip
                          have hin_t := lp_end (n := 33) vevx3 (by decide) hl_t h_6
                          obtain ⟨x_7, ex_7⟩ : ∃ y : Int32, y = vx2 + 1 := ⟨_, rfl⟩
                          refine lv_iinc (v := x_7) (lv' := [(2, .int x_7), (0, .ref (mo 0)), (1, .int (nI sd)), (3, .int vx3)]) hx hb dX11_fresh_183 hl (k := 2) rfl (by rw [ex_7]; rfl) (by decide) rfl (fun ls hl => ?_)
                          refine lv_goto (tgt := 131) hx hb dX11_fresh_186 (by decide) ?_
                          exact ih_131 (kk + 1) x_7 xc2 H locs ls hin_kk (by rw [ex_7, vevx2]; exact nI_1 kk) (hx2.trans (congrArg (genF (8448 * sd) c0 xc) (by omega))) (by omega) hT (lv_sub hl [1, 2, 0] rfl)
                        · skip
                          have hin_t := lp_go (n := 33) vevx3 (by decide) hl_t h_6
                          refine lv_aload_n hx hb dX11_fresh_146 rfl (lv_at hl 0 rfl) ?_
                          refine gX11_50 C hT (q0 := 0) rfl dX11_fresh_147 ?_
                          refine lv_sipush (v := 8448) hx hb dX11_fresh_150 (by decide) ?_
                          refine lv_iload_n hx hb dX11_fresh_153 rfl (lv_at hl 1 rfl) ?_
                          refine lv_imul hx hb dX11_fresh_154 ?_
                          refine W.eq (g2 := F0 m 155 ls [.int (nI (8448 * sd)), .ref (mo 14)]) (congrArg (fun z => F0 m 155 ls (.int z :: [.ref (mo 14)])) (pk_mul 8448 sd)) ?_
                          refine lv_bipush (v := 33) hx hb dX11_fresh_155 (by decide) ?_
                          refine lv_iload_n hx hb dX11_fresh_157 rfl (lv_at hl 2 rfl) ?_
                          refine W.eq (g2 := F0 m 158 ls [.int (nI kk), .int 33, .int (nI (8448 * sd)), .ref (mo 14)]) (congrArg (fun z => F0 m 158 ls (.int z :: [.int 33, .int (nI (8448 * sd)), .ref (mo 14)])) (vevx2)) ?_
                          refine lv_imul hx hb dX11_fresh_158 ?_
                          refine W.eq (g2 := F0 m 159 ls [.int (nI (33 * kk)), .int (nI (8448 * sd)), .ref (mo 14)]) (congrArg (fun z => F0 m 159 ls (.int z :: [.int (nI (8448 * sd)), .ref (mo 14)])) (pk_mul 33 kk)) ?_
                          refine lv_iadd hx hb dX11_fresh_159 ?_
                          refine W.eq (g2 := F0 m 160 ls [.int (nI (8448 * sd + 33 * kk)), .ref (mo 14)]) (congrArg (fun z => F0 m 160 ls (.int z :: [.ref (mo 14)])) (nI_add _ _)) ?_
                          refine lv_iload_n hx hb dX11_fresh_160 rfl (lv_at hl 3 rfl) ?_
                          refine W.eq (g2 := F0 m 161 ls [.int (nI t), .int (nI (8448 * sd + 33 * kk)), .ref (mo 14)]) (congrArg (fun z => F0 m 161 ls (.int z :: [.int (nI (8448 * sd + 33 * kk)), .ref (mo 14)])) (vevx3)) ?_
                          refine lv_iadd hx hb dX11_fresh_161 ?_
                          refine W.eq (g2 := F0 m 162 ls [.int (nI (8448 * sd + 33 * kk + t)), .ref (mo 14)]) (congrArg (fun z => F0 m 162 ls (.int z :: [.ref (mo 14)])) (nI_add _ _)) ?_
                          refine lv_iload_n hx hb dX11_fresh_162 rfl (lv_at hl 3 rfl) ?_
                          refine W.eq (g2 := F0 m 163 ls [.int (nI t), .int (nI (8448 * sd + 33 * kk + t)), .ref (mo 14)]) (congrArg (fun z => F0 m 163 ls (.int z :: [.int (nI (8448 * sd + 33 * kk + t)), .ref (mo 14)])) (vevx3)) ?_
                          refine lv_bipush (v := 16) hx hb dX11_fresh_163 (by decide) ?_
                          refine lv_isub hx hb dX11_fresh_165 ?_
                          refine lv_sipush (v := 128) hx hb dX11_fresh_166 (by decide) ?_
                          refine lv_imul hx hb dX11_fresh_169 ?_
                          have hM := c_X11_squashed l g (((nI t) - 16) * 128)
                          refine r_callRO (js := []) C hT (runS (js := []) (rm := ({ frames := 0, cells := 0, slots := 0, locals := 0 } : Room)) (As := [.int (((nI t) - 16) * 128)]) (n := 1) (rest := [.int (nI (8448 * sd + 33 * kk + t)), .ref (mo 14)]) C hT hM rfl rfl k734 k735 k15 k736 (by decide +kernel) rfl rfl (Nat.le_of_ble_eq_true rfl) hl.1 ⟨Nat.le_of_ble_eq_true rfl, Nat.le_of_ble_eq_true rfl⟩ ⟨Nat.le_of_ble_eq_true rfl, Nat.le_of_ble_eq_true rfl⟩ dX11_fresh_170) rfl rfl (fun u H locs hT => ?_)
                          refine W.eq (g2 := F0 m 173 ls [.int (sqI (((nI t) - 16) * 128)), .int (nI (8448 * sd + 33 * kk + t)), .ref (mo 14)]) rfl ?_
                          refine lv_bipush (v := 16) hx hb dX11_fresh_173 (by decide) ?_
                          refine lv_imul hx hb dX11_fresh_175 ?_
                          refine W.eq (g2 := F0 m 176 ls [.int (c0 (33 * kk + t)), .int (nI (8448 * sd + 33 * kk + t)), .ref (mo 14)]) (congrArg (fun z => F0 m 176 ls (.int z :: [.int (nI (8448 * sd + 33 * kk + t)), .ref (mo 14)])) (c0_R hin_t)) ?_
                          refine r_iast C hT (q0 := 14) rfl (8448 * sd + (33 * kk + t)) (congrArg nI (Nat.add_assoc _ _ _)) (by omega) (by decide) dX11_fresh_176 (fun H locs hT => ?_)
                          have hT : Wd g A s (mdL g mo rr th np no bt en xx ra t0 t1 s1 ca cq ch st fk fn fo bb (upd wt sd 0) (upd nx sd 1) cx pt le (genF (4096 * sd) (fun _ => 32768) sc (4096)) (genF (4096 * sd) (fun _ => 0) ss (4096)) (genF (4608 * sd) (w0 np) ww (4608)) (upd xc2 (8448 * sd + (33 * kk + t)) (c0 (33 * kk + t))) lo hi ou xi) H locs := hT
                          obtain ⟨x_8, ex_8⟩ : ∃ y : Int32, y = vx3 + 1 := ⟨_, rfl⟩
                          refine lv_iinc (v := x_8) (lv' := [(3, .int x_8), (0, .ref (mo 0)), (1, .int (nI sd)), (2, .int vx2)]) hx hb dX11_fresh_177 hl (k := 3) rfl (by rw [ex_8]; rfl) (by decide) rfl (fun ls hl => ?_)
                          refine lv_goto (tgt := 140) hx hb dX11_fresh_180 (by decide) ?_
                          exact ih_140 (t + 1) x_8 (upd xc2 (8448 * sd + (33 * kk + t)) (c0 (33 * kk + t))) H locs ls hin_t (by rw [ex_8, vevx3]; exact nI_1 t) (by rw [hx2]; exact genF_s _ _ _ _) (by omega) hT (lv_sub hl [1, 2, 3, 0] rfl)
                    exact loop_140 (33 - 0 + 1) 0 0 xc1 H locs ls (by decide) rfl hx1 (Nat.lt_succ_self _) hT (lv_sub hl [1, 2, 3, 0] rfl)
              exact loop_131 (256 - 0 + 1) 0 0 xc H locs ls (by decide) rfl (genF_0 _ _ _) (Nat.lt_succ_self _) hT (lv_sub hl [1, 2, 0] rfl)
            · skip
              have hin_mm := lp_go (n := 2) vevx2 (by decide) hl_mm h_2
              refine lv_iconst (v := 0) hx hb dX11_fresh_63 (by decide) ?_
              refine lv_istore_n (lv' := [(3, .int 0), (0, .ref (mo 0)), (1, .int (nI sd)), (2, .int vx2)]) hx hb dX11_fresh_64 rfl hl (by decide) rfl (fun ls hl => ?_)
              have loop_65 : ∀ (fu : Nat) (kk : Nat) (vx3 : Int32) (ww2 : Nat → Int32) (H : Heap) (locs : List Loc) (ls : Array Slot) (hl_kk : kk ≤ 256) (vevx3 : vx3 = nI kk) (hw2 : ww2 = genF (4608 * sd) (w0 np) ww (2304 * mm + 9 * kk)), 256 - kk < fu → Wd g A s (mdL g mo rr th np no bt en xx ra t0 t1 s1 ca cq ch st fk fn fo bb (upd wt sd 0) (upd nx sd 1) cx pt le (genF (4096 * sd) (fun _ => 32768) sc (4096)) (genF (4096 * sd) (fun _ => 0) ss (4096)) ww2 xc lo hi ou xi) H locs → lv_has ls 5 [(0, .ref (mo 0)), (1, .int (nI sd)), (2, .int vx2), (3, .int vx3)] → W p l e ({ frames := 3, cells := 0, slots := 0, locals := 73 } : Room) s m ([.ref (mo 0), .int (nI sd)] : List Value).toArray below meth c H locs 0 0 Q (F0 m 65 ls []) := by
                intro fu_65
                induction fu_65 with
                | zero => intro kk vx3 ww2 H locs ls hl_kk vevx3 hw2 hm; exact absurd hm (Nat.not_lt_zero _)
                | succ fu_65 ih_65 =>
                  intro kk vx3 ww2 H locs ls hl_kk vevx3 hw2 hm_65 hT hl
                  refine lv_iload_n hx hb dX11_fresh_65 rfl (lv_at hl 3 rfl) ?_
                  refine lv_sipush (v := 256) hx hb dX11_fresh_66 (by decide) ?_
                  refine lv_icmp_ge (tgt := 123) hx hb dX11_fresh_69 (by decide) (fun h_9 => ?_) (fun h_9 => ?_)
                  · skip
                    have hin_kk := lp_end (n := 256) vevx3 (by decide) hl_kk h_9
                    obtain ⟨x_10, ex_10⟩ : ∃ y : Int32, y = vx2 + 1 := ⟨_, rfl⟩
                    refine lv_iinc (v := x_10) (lv' := [(2, .int x_10), (0, .ref (mo 0)), (1, .int (nI sd)), (3, .int vx3)]) hx hb dX11_fresh_123 hl (k := 2) rfl (by rw [ex_10]; rfl) (by decide) rfl (fun ls hl => ?_)
                    refine lv_goto (tgt := 58) hx hb dX11_fresh_126 (by decide) ?_
                    exact ih_58 (mm + 1) x_10 ww2 H locs ls hin_mm (by rw [ex_10, vevx2]; exact nI_1 mm) (hw2.trans (congrArg (genF (4608 * sd) (w0 np) ww) (by omega))) (by omega) hT (lv_sub hl [1, 2, 0] rfl)
                  · skip
                    have hin_kk := lp_go (n := 256) vevx3 (by decide) hl_kk h_9
                    refine lv_iconst (v := 0) hx hb dX11_fresh_72 (by decide) ?_
                    refine lv_istore (lv' := [(4, .int 0), (0, .ref (mo 0)), (1, .int (nI sd)), (2, .int vx2), (3, .int vx3)]) hx hb dX11_fresh_73 hl (by decide) rfl (fun ls hl => ?_)
                    have loop_75 : ∀ (fu : Nat) (ii : Nat) (vx4 : Int32) (ww3 : Nat → Int32) (H : Heap) (locs : List Loc) (ls : Array Slot) (hl_ii : ii ≤ 9) (vevx4 : vx4 = nI ii) (hw3 : ww3 = genF (4608 * sd) (w0 np) ww (2304 * mm + 9 * kk + ii)), 9 - ii < fu → Wd g A s (mdL g mo rr th np no bt en xx ra t0 t1 s1 ca cq ch st fk fn fo bb (upd wt sd 0) (upd nx sd 1) cx pt le (genF (4096 * sd) (fun _ => 32768) sc (4096)) (genF (4096 * sd) (fun _ => 0) ss (4096)) ww3 xc lo hi ou xi) H locs → lv_has ls 5 [(0, .ref (mo 0)), (1, .int (nI sd)), (2, .int vx2), (3, .int vx3), (4, .int vx4)] → W p l e ({ frames := 3, cells := 0, slots := 0, locals := 73 } : Room) s m ([.ref (mo 0), .int (nI sd)] : List Value).toArray below meth c H locs 0 0 Q (F0 m 75 ls []) := by
                      intro fu_75
                      induction fu_75 with
                      | zero => intro ii vx4 ww3 H locs ls hl_ii vevx4 hw3 hm; exact absurd hm (Nat.not_lt_zero _)
                      | succ fu_75 ih_75 =>
                        intro ii vx4 ww3 H locs ls hl_ii vevx4 hw3 hm_75 hT hl
                        refine lv_iload hx hb dX11_fresh_75 (lv_at hl 4 rfl) ?_
                        refine lv_bipush (v := 9) hx hb dX11_fresh_77 (by decide) ?_
                        refine lv_icmp_ge (tgt := 117) hx hb dX11_fresh_79 (by decide) (fun h_11 => ?_) (fun h_11 => ?_)
                        · skip
                          have hin_ii := lp_end (n := 9) vevx4 (by decide) hl_ii h_11
                          obtain ⟨x_12, ex_12⟩ : ∃ y : Int32, y = vx3 + 1 := ⟨_, rfl⟩
                          refine lv_iinc (v := x_12) (lv' := [(3, .int x_12), (0, .ref (mo 0)), (1, .int (nI sd)), (2, .int vx2), (4, .int vx4)]) hx hb dX11_fresh_117 hl (k := 3) rfl (by rw [ex_12]; rfl) (by decide) rfl (fun ls hl => ?_)
                          refine lv_goto (tgt := 65) hx hb dX11_fresh_120 (by decide) ?_
                          exact ih_65 (kk + 1) x_12 ww3 H locs ls hin_kk (by rw [ex_12, vevx3]; exact nI_1 kk) (hw3.trans (congrArg (genF (4608 * sd) (w0 np) ww) (by omega))) (by omega) hT (lv_sub hl [1, 2, 3, 0] rfl)
                        · skip
                          have hin_ii := lp_go (n := 9) vevx4 (by decide) hl_ii h_11
                          refine lv_aload_n hx hb dX11_fresh_82 rfl (lv_at hl 0 rfl) ?_
                          refine gX11_47 C hT (q0 := 0) rfl dX11_fresh_83 ?_
                          refine lv_iload_n hx hb dX11_fresh_86 rfl (lv_at hl 1 rfl) ?_
                          refine lv_iload_n hx hb dX11_fresh_87 rfl (lv_at hl 2 rfl) ?_
                          refine W.eq (g2 := F0 m 88 ls [.int (nI mm), .int (nI sd), .ref (mo 13)]) (congrArg (fun z => F0 m 88 ls (.int z :: [.int (nI sd), .ref (mo 13)])) (vevx2)) ?_
                          refine lv_iload_n hx hb dX11_fresh_88 rfl (lv_at hl 3 rfl) ?_
                          refine W.eq (g2 := F0 m 89 ls [.int (nI kk), .int (nI mm), .int (nI sd), .ref (mo 13)]) (congrArg (fun z => F0 m 89 ls (.int z :: [.int (nI mm), .int (nI sd), .ref (mo 13)])) (vevx3)) ?_
                          refine lv_iload hx hb dX11_fresh_89 (lv_at hl 4 rfl) ?_
                          refine W.eq (g2 := F0 m 91 ls [.int (nI ii), .int (nI kk), .int (nI mm), .int (nI sd), .ref (mo 13)]) (congrArg (fun z => F0 m 91 ls (.int z :: [.int (nI kk), .int (nI mm), .int (nI sd), .ref (mo 13)])) (vevx4)) ?_
                          have hM := c_X11_weightAt l g sd mm kk ii
                          refine r_callRO (js := []) C hT (runS (js := []) (rm := ({ frames := 0, cells := 0, slots := 0, locals := 0 } : Room)) (As := [.int (nI sd), .int (nI mm), .int (nI kk), .int (nI ii)]) (n := 4) (rest := [.ref (mo 13)]) C hT hM rfl rfl k748 k749 k15 k750 (by decide +kernel) rfl rfl (Nat.le_of_ble_eq_true rfl) hl.1 ⟨Nat.le_of_ble_eq_true rfl, Nat.le_of_ble_eq_true rfl⟩ ⟨Nat.le_of_ble_eq_true rfl, Nat.le_of_ble_eq_true rfl⟩ dX11_fresh_91) rfl rfl (fun u H locs hT => ?_)
                          refine W.eq (g2 := F0 m 94 ls [.int (nI (wAt sd mm kk ii)), .ref (mo 13)]) rfl ?_
                          refine lv_iload hx hb dX11_fresh_94 (lv_at hl 4 rfl) ?_
                          refine lv_aload_n hx hb dX11_fresh_96 rfl (lv_at hl 0 rfl) ?_
                          refine gX11_91 C hT (q0 := 0) rfl dX11_fresh_97 ?_
                          refine r_ite (ls := ls) (J := 110) (a1 := 0) (a2 := 20000) (rest := [.int (nI (wAt sd mm kk ii)), .ref (mo 13)]) (lv_icmp_ge (tgt := 109) hx hb dX11_fresh_100 (by decide)) (fun h_13 kont => ?_) (fun h_13 kont => ?_) ?_
                          · skip
                            refine lv_iconst (v := 0) hx hb dX11_fresh_109 (by decide) ?_
                            exact kont
                          · skip
                            refine lv_sipush (v := 20000) hx hb dX11_fresh_103 (by decide) ?_
                            refine lv_goto (tgt := 110) hx hb dX11_fresh_106 (by decide) ?_
                            exact kont
                          refine W.eq (g2 := F0 m 110 ls [.int (w0 np (2304 * mm + 9 * kk + ii)), .int (nI (wAt sd mm kk ii)), .ref (mo 13)]) (congrArg (fun z => F0 m 110 ls (.int z :: [.int (nI (wAt sd mm kk ii)), .ref (mo 13)])) (w0_R vevx4 hin_ii hnp)) ?_
                          refine r_iast C hT (q0 := 13) rfl (4608 * sd + (2304 * mm + 9 * kk + ii)) (congrArg nI (wAt_lin sd mm kk ii)) (by omega) (by decide) dX11_fresh_110 (fun H locs hT => ?_)
                          have hT : Wd g A s (mdL g mo rr th np no bt en xx ra t0 t1 s1 ca cq ch st fk fn fo bb (upd wt sd 0) (upd nx sd 1) cx pt le (genF (4096 * sd) (fun _ => 32768) sc (4096)) (genF (4096 * sd) (fun _ => 0) ss (4096)) (upd ww3 (4608 * sd + (2304 * mm + 9 * kk + ii)) (w0 np (2304 * mm + 9 * kk + ii))) xc lo hi ou xi) H locs := hT
                          obtain ⟨x_14, ex_14⟩ : ∃ y : Int32, y = vx4 + 1 := ⟨_, rfl⟩
                          refine lv_iinc (v := x_14) (lv' := [(4, .int x_14), (0, .ref (mo 0)), (1, .int (nI sd)), (2, .int vx2), (3, .int vx3)]) hx hb dX11_fresh_111 hl (k := 4) rfl (by rw [ex_14]; rfl) (by decide) rfl (fun ls hl => ?_)
                          refine lv_goto (tgt := 75) hx hb dX11_fresh_114 (by decide) ?_
                          exact ih_75 (ii + 1) x_14 (upd ww3 (4608 * sd + (2304 * mm + 9 * kk + ii)) (w0 np (2304 * mm + 9 * kk + ii))) H locs ls hin_ii (by rw [ex_14, vevx4]; exact nI_1 ii) (by rw [hw3]; exact genF_s _ _ _ _) (by omega) hT (lv_sub hl [1, 2, 3, 4, 0] rfl)
                    exact loop_75 (9 - 0 + 1) 0 0 ww2 H locs ls (by decide) rfl hw2 (Nat.lt_succ_self _) hT (lv_sub hl [1, 2, 3, 4, 0] rfl)
              exact loop_65 (256 - 0 + 1) 0 0 ww1 H locs ls (by decide) rfl hw1 (Nat.lt_succ_self _) hT (lv_sub hl [1, 2, 3, 0] rfl)
        exact loop_58 (2 - 0 + 1) 0 0 ww H locs ls (by decide) rfl (genF_0 _ _ _) (Nat.lt_succ_self _) hT (lv_sub hl [1, 2, 0] rfl)
      · skip
        have hin_i := lp_go (n := 4096) vevx2 (by decide) hl_i h_1
        refine lv_aload_n hx hb dX11_fresh_23 rfl (lv_at hl 0 rfl) ?_
        refine gX11_41 C hT (q0 := 0) rfl dX11_fresh_24 ?_
        refine lv_sipush (v := 4096) hx hb dX11_fresh_27 (by decide) ?_
        refine lv_iload_n hx hb dX11_fresh_30 rfl (lv_at hl 1 rfl) ?_
        refine lv_imul hx hb dX11_fresh_31 ?_
        refine W.eq (g2 := F0 m 32 ls [.int (nI (4096 * sd)), .ref (mo 11)]) (congrArg (fun z => F0 m 32 ls (.int z :: [.ref (mo 11)])) (pk_mul 4096 sd)) ?_
        refine lv_iload_n hx hb dX11_fresh_32 rfl (lv_at hl 2 rfl) ?_
        refine W.eq (g2 := F0 m 33 ls [.int (nI i), .int (nI (4096 * sd)), .ref (mo 11)]) (congrArg (fun z => F0 m 33 ls (.int z :: [.int (nI (4096 * sd)), .ref (mo 11)])) (vevx2)) ?_
        refine lv_iadd hx hb dX11_fresh_33 ?_
        refine W.eq (g2 := F0 m 34 ls [.int (nI (4096 * sd + i)), .ref (mo 11)]) (congrArg (fun z => F0 m 34 ls (.int z :: [.ref (mo 11)])) (nI_add _ _)) ?_
        refine lv_ldc (v := 32768) hx hb C.ow (C.ts _ k747) dX11_fresh_34 ?_
        refine r_iast C hT (q0 := 11) rfl (4096 * sd + i) rfl (by omega) (by decide) dX11_fresh_36 (fun H locs hT => ?_)
        have hT : Wd g A s (mdL g mo rr th np no bt en xx ra t0 t1 s1 ca cq ch st fk fn fo bb (upd wt sd 0) (upd nx sd 1) cx pt le (upd sc1 (4096 * sd + i) 32768) ss1 ww xc lo hi ou xi) H locs := hT
        refine lv_aload_n hx hb dX11_fresh_37 rfl (lv_at hl 0 rfl) ?_
        refine gX11_44 C hT (q0 := 0) rfl dX11_fresh_38 ?_
        refine lv_sipush (v := 4096) hx hb dX11_fresh_41 (by decide) ?_
        refine lv_iload_n hx hb dX11_fresh_44 rfl (lv_at hl 1 rfl) ?_
        refine lv_imul hx hb dX11_fresh_45 ?_
        refine W.eq (g2 := F0 m 46 ls [.int (nI (4096 * sd)), .ref (mo 12)]) (congrArg (fun z => F0 m 46 ls (.int z :: [.ref (mo 12)])) (pk_mul 4096 sd)) ?_
        refine lv_iload_n hx hb dX11_fresh_46 rfl (lv_at hl 2 rfl) ?_
        refine W.eq (g2 := F0 m 47 ls [.int (nI i), .int (nI (4096 * sd)), .ref (mo 12)]) (congrArg (fun z => F0 m 47 ls (.int z :: [.int (nI (4096 * sd)), .ref (mo 12)])) (vevx2)) ?_
        refine lv_iadd hx hb dX11_fresh_47 ?_
        refine W.eq (g2 := F0 m 48 ls [.int (nI (4096 * sd + i)), .ref (mo 12)]) (congrArg (fun z => F0 m 48 ls (.int z :: [.ref (mo 12)])) (nI_add _ _)) ?_
        refine lv_iconst (v := 0) hx hb dX11_fresh_48 (by decide) ?_
        refine r_iast C hT (q0 := 12) rfl (4096 * sd + i) rfl (by omega) (by decide) dX11_fresh_49 (fun H locs hT => ?_)
        have hT : Wd g A s (mdL g mo rr th np no bt en xx ra t0 t1 s1 ca cq ch st fk fn fo bb (upd wt sd 0) (upd nx sd 1) cx pt le (upd sc1 (4096 * sd + i) 32768) (upd ss1 (4096 * sd + i) 0) ww xc lo hi ou xi) H locs := hT
        obtain ⟨x_15, ex_15⟩ : ∃ y : Int32, y = vx2 + 1 := ⟨_, rfl⟩
        refine lv_iinc (v := x_15) (lv' := [(2, .int x_15), (0, .ref (mo 0)), (1, .int (nI sd))]) hx hb dX11_fresh_50 hl (k := 2) rfl (by rw [ex_15]; rfl) (by decide) rfl (fun ls hl => ?_)
        refine lv_goto (tgt := 16) hx hb dX11_fresh_53 (by decide) ?_
        exact ih (i + 1) x_15 (upd sc1 (4096 * sd + i) 32768) (upd ss1 (4096 * sd + i) 0) H locs ls hin_i (by rw [ex_15, vevx2]; exact nI_1 i) (by rw [hc1]; exact genF_s _ _ _ _) (by rw [hs1]; exact genF_s _ _ _ _) (by omega) hT (lv_sub hl [1, 2, 0] rfl)
  exact loop_16 (4096 - 0 + 1) 0 0 sc ss H locs ls (by decide) rfl (genF_0 _ _ _) (genF_0 _ _ _) (Nat.lt_succ_self _) hT (lv_sub hl [1, 2, 0] rfl)
