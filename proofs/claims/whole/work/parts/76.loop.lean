def R_law : String := "ContextMixLaw"
def lw_P (b : Addr) (xs : List Int32) (args : Array Value) (s : State) : Prop := args = #[.ref b] ∧ s.IntsAt b xs ∧ xs.length ≤ 321 ∧ (Jvm.Cond.and given_1 narrow_1).before args s = true
def lw_Q (_ : Array Value) (s : State) (o : Outcome) (t : State) : Prop := o = .returned (some (.int 1)) ∧ Framed s o t [] 600384 7288888
def lw_Z (below : List Frame) (a : Array Value) (s : State) : State → Prop := fun t => ∃ o, t.status = .running ∧ Ended t below o ∧ lw_Q a s o t
/-- the law's own end, with 1 on the stack, nothing written that was there before, its room as the claim has it -/
theorem lw_ret {p : Program} {l : Launch} {e : Env} {s : State} {m : MethodId} {below : List Frame} {meth : Method} {c : Code} {b : Nat} (hx : p.tables.exec = Jvm.exec) (hb : c.code = code) (hr : meth.sig.returnType = ret) (hlocks : meth.locks = false) {pc : Nat} {H : Heap} {ls : Array Slot} (hdg : decode code pc = .ok (.ireturn, 1)) : W p l e room_1 s m #[Value.ref b] below meth c H [] 600384 7288888 (lw_Z below #[Value.ref b] s) (F0 m pc ls [.int 1]) := by
  intro T hT X
  obtain ⟨fs, hret, hrun, hended, hW, hframe⟩ := X.leave (v := some (.int 1)) (hlocks := hlocks) (fun h => by rw [hr] at h; cases h)
  have hmeth' : T.vm.method? m = some meth := X.method'
  refine ⟨T.setFrames fs, ?_, .returned (some (.int 1)), hrun, hended, rfl, ⟨_, rfl⟩, hW, hframe⟩
  jvm_step X.here [X.here.top, hx, hb, hdg, hmeth', hr, ret, narrow_b1]
  (try refine ⟨rfl, ?_⟩); (try refine ⟨rfl, ?_⟩)
  first | (intro acts; rw [hret _ acts rfl rfl rfl]) | rw [hret _ _ rfl rfl rfl]
  exact Steps.refl _
/-- what holds at the law's entry: the machine, the code, the tables' words (any of lw_tbl by 'hts w (by decide +kernel)'), the script of L ints xs at the cell b, what the Statement gives of the start (any of its parts by flat_of_before) -/
def lw_At (p : Program) (s : State) (m : MethodId) (meth : Method) (c : Code) (b L : Nat) (xs : Nat → Int32) : Prop :=
  p.tables.exec = Jvm.exec ∧ c.code = code ∧ meth.sig.returnType = ret ∧ c.maxLocals = 7 ∧ s.vm.findClass R_law = some m.cls ∧ (∀ w ∈ lw_tbl, w.before #[Value.ref b] s = true) ∧ va_X b L xs s s.heap ∧ b < s.heap.size ∧ meth.locks = false ∧ (Jvm.Cond.and given_1 narrow_1).before #[Value.ref b] s = true
theorem swOut20 {x : Int32} (h0 : ¬ x = 0) (h1 : ¬ x = 1) (h2 : ¬ x = 2) (h3 : ¬ x = 3) (h4 : ¬ x = 4) (h5 : ¬ x = 5) (h6 : ¬ x = 6) (h7 : ¬ x = 7) (h8 : ¬ x = 8) (h9 : ¬ x = 9) (h10 : ¬ x = 10) (h11 : ¬ x = 11) (h12 : ¬ x = 12) (h13 : ¬ x = 13) (h14 : ¬ x = 14) (h15 : ¬ x = 15) (h16 : ¬ x = 16) (h17 : ¬ x = 17) (h18 : ¬ x = 18) (h19 : ¬ x = 19) : x.toInt < 0 ∨ 19 < x.toInt := by
  have e0 : ¬ x.toInt = 0 := fun q => h0 (Int32.toInt_inj.mp (q.trans (by decide)))
  have e1 : ¬ x.toInt = 1 := fun q => h1 (Int32.toInt_inj.mp (q.trans (by decide)))
  have e2 : ¬ x.toInt = 2 := fun q => h2 (Int32.toInt_inj.mp (q.trans (by decide)))
  have e3 : ¬ x.toInt = 3 := fun q => h3 (Int32.toInt_inj.mp (q.trans (by decide)))
  have e4 : ¬ x.toInt = 4 := fun q => h4 (Int32.toInt_inj.mp (q.trans (by decide)))
  have e5 : ¬ x.toInt = 5 := fun q => h5 (Int32.toInt_inj.mp (q.trans (by decide)))
  have e6 : ¬ x.toInt = 6 := fun q => h6 (Int32.toInt_inj.mp (q.trans (by decide)))
  have e7 : ¬ x.toInt = 7 := fun q => h7 (Int32.toInt_inj.mp (q.trans (by decide)))
  have e8 : ¬ x.toInt = 8 := fun q => h8 (Int32.toInt_inj.mp (q.trans (by decide)))
  have e9 : ¬ x.toInt = 9 := fun q => h9 (Int32.toInt_inj.mp (q.trans (by decide)))
  have e10 : ¬ x.toInt = 10 := fun q => h10 (Int32.toInt_inj.mp (q.trans (by decide)))
  have e11 : ¬ x.toInt = 11 := fun q => h11 (Int32.toInt_inj.mp (q.trans (by decide)))
  have e12 : ¬ x.toInt = 12 := fun q => h12 (Int32.toInt_inj.mp (q.trans (by decide)))
  have e13 : ¬ x.toInt = 13 := fun q => h13 (Int32.toInt_inj.mp (q.trans (by decide)))
  have e14 : ¬ x.toInt = 14 := fun q => h14 (Int32.toInt_inj.mp (q.trans (by decide)))
  have e15 : ¬ x.toInt = 15 := fun q => h15 (Int32.toInt_inj.mp (q.trans (by decide)))
  have e16 : ¬ x.toInt = 16 := fun q => h16 (Int32.toInt_inj.mp (q.trans (by decide)))
  have e17 : ¬ x.toInt = 17 := fun q => h17 (Int32.toInt_inj.mp (q.trans (by decide)))
  have e18 : ¬ x.toInt = 18 := fun q => h18 (Int32.toInt_inj.mp (q.trans (by decide)))
  have e19 : ¬ x.toInt = 19 := fun q => h19 (Int32.toInt_inj.mp (q.trans (by decide)))
  omega
theorem go_of {L ix : Nat} (hL : L ≤ 321) (hx : ix ≤ 321) (h : ¬ Int32.ofNat L - 5 < nI ix) : ix + 5 ≤ L := by
  rw [i32_lt] at h
  have e : (nI L - nI 5).toInt = (L : Int) - (5 : Nat) := pk_sub_toInt (by omega) (by decide)
  have e2 : (Int32.ofNat L - 5).toInt = (L : Int) - (5 : Nat) := e
  rw [e2, nI_toInt (by omega)] at h
  omega
set_option maxHeartbeats 1000000 in
theorem law_tail {p : Program} {l : Launch} {e : Env} {s : State} {m : MethodId} {below : List Frame} {meth : Method} {c : Code} {g : GT} {ad bd mo : Nat → Nat} {oa b L N rr : Nat} {xs : Nat → Int32} {ix cnt : Nat} (X : LC p s m meth c g (fun q : Nat => s.heap.size ≤ q) b L xs) (kk : LK p l e s m b below meth c (lw_Z below #[Value.ref b] s) g (fun q : Nat => s.heap.size ≤ q) ad bd mo oa N rr (ix + 5) cnt 33) : LK p l e s m b below meth c (lw_Z below #[Value.ref b] s) g (fun q : Nat => s.heap.size ≤ q) ad bd mo oa N rr ix cnt 751 := by
  obtain ⟨C, -, -, -, -⟩ := X
  have hx := C.x
  have hb := C.b
  intro np fk fn fo U V code cp en no ou wl wh rl rh th bt xx ra t0 t1 s1 ca cq ch bb wt nx cx pt le sc ss ww xc lo hi xi fz H locs ls hI hT hl
  refine lv_iinc (v := nI (ix + 5)) (lv' := [(4, .int (nI (ix + 5))), (0, .ref b), (1, .ref (bd 1)), (2, .ref (mo 0)), (3, .ref oa)]) hx hb dL_law_751 hl (k := 4) rfl (by first | exact (nI_add ix 5).symm | exact nI_add ix 5) (by decide) rfl (fun ls hl => ?_)
  refine lv_goto (tgt := 33) hx hb dL_law_754 (by decide) ?_
  exact kk np fk fn fo U V code cp en no ou wl wh rl rh th bt xx ra t0 t1 s1 ca cq ch bb wt nx cx pt le sc ss ww xc lo hi xi fz H locs ls hI hT (lv_sub hl [1, 2, 3, 4, 0] rfl)
set_option maxHeartbeats 1000000 in
set_option maxRecDepth 100000 in
theorem law_head {p : Program} {l : Launch} {e : Env} {s : State} {m : MethodId} {below : List Frame} {meth : Method} {c : Code} {g : GT} {ad bd mo : Nat → Nat} {oa b L N rr : Nat} {xs : Nat → Int32} {ix cnt : Nat} (hl9 : l.stackTraces = false) (hr : meth.sig.returnType = ret) (X : LC p s m meth c g (fun q : Nat => s.heap.size ≤ q) b L xs) (hL : L ≤ 321) (hix : ix = 1 + 5 * cnt) (hcn : cnt ≤ 64) (ih : cnt < 64 → LK p l e s m b below meth c (lw_Z below #[Value.ref b] s) g (fun q : Nat => s.heap.size ≤ q) ad bd mo oa N rr (ix + 5) (cnt + 1) 33) : LK p l e s m b below meth c (lw_Z below #[Value.ref b] s) g (fun q : Nat => s.heap.size ≤ q) ad bd mo oa N rr ix cnt 33 := by
  obtain ⟨C, hX, hbl, hbA, hXS⟩ := id X
  have hx := C.x
  have hb := C.b
  intro np fk fn fo U V code cp en no ou wl wh rl rh th bt xx ra t0 t1 s1 ca cq ch bb wt nx cx pt le sc ss ww xc lo hi xi fz H locs ls hI hT hl
  refine lv_iload hx hb dL_law_33 (lv_at hl 4 rfl) ?_
  refine lv_aload_n hx hb dL_law_35 rfl (lv_at hl 0 rfl) ?_
  refine va_slen hx hb hX hbl hbA hT.2.2 dL_law_36 ?_
  refine lv_iconst (v := 5) hx hb dL_law_37 (by decide) ?_
  refine lv_isub hx hb dL_law_38 ?_
  refine lv_icmp_gt (tgt := 757) hx hb dL_law_39 (by decide) (fun h => ?_) (fun h => ?_)
  · refine lv_iconst (v := 1) hx hb dL_law_757 (by decide) ?_
    refine va_forget (fun q hq => hT.2.2.2.2 q hq) ?_
    refine W.widen (k := 600384) (n := 7288888) (by omega) (by omega) ?_
    exact lw_ret hx hb hr C.lk dL_law_758
  · have hi5 : ix + 5 ≤ L := go_of hL (by omega) h
    have hc : cnt < 64 := by omega
    have kk := law_tail X (ih hc)
    refine lv_aload_n hx hb dL_law_42 rfl (lv_at hl 0 rfl) ?_
    refine lv_iload hx hb dL_law_43 (lv_at hl 4 rfl) ?_
    refine r_sld C hX hbl hbA hT ix rfl (by omega) (by omega) dL_law_45 ?_
    refine lv_bipush (v := 31) hx hb dL_law_46 (by decide) ?_
    refine lv_iand hx hb dL_law_48 ?_
    refine lv_topi (fun v ev => ?_)
    by_cases h0 : v = 0
    · refine lv_tableIn (off := 95) (tgt := 144) hx hb dL_law_49 (by rw [h0]; decide) (by rw [h0]; decide) (by rw [h0]; rfl) (by decide) ?_
      exact law_predictor hl9 X hL hi5 hc kk np fk fn fo U V code cp en no ou wl wh rl rh th bt xx ra t0 t1 s1 ca cq ch bb wt nx cx pt le sc ss ww xc lo hi xi fz H locs ls hI hT hl
    by_cases h1 : v = 1
    · refine lv_tableIn (off := 132) (tgt := 181) hx hb dL_law_49 (by rw [h1]; decide) (by rw [h1]; decide) (by rw [h1]; rfl) (by decide) ?_
      exact law_off hl9 X hL hi5 hc kk np fk fn fo U V code cp en no ou wl wh rl rh th bt xx ra t0 t1 s1 ca cq ch bb wt nx cx pt le sc ss ww xc lo hi xi fz H locs ls hI hT hl
    by_cases h2 : v = 2
    · refine lv_tableIn (off := 157) (tgt := 206) hx hb dL_law_49 (by rw [h2]; decide) (by rw [h2]; decide) (by rw [h2]; rfl) (by decide) ?_
      exact law_bit hl9 X hL hi5 hc kk np fk fn fo U V code cp en no ou wl wh rl rh th bt xx ra t0 t1 s1 ca cq ch bb wt nx cx pt le sc ss ww xc lo hi xi fz H locs ls hI hT hl
    by_cases h3 : v = 3
    · refine lv_tableIn (off := 198) (tgt := 247) hx hb dL_law_49 (by rw [h3]; decide) (by rw [h3]; decide) (by rw [h3]; rfl) (by decide) ?_
      exact law_octet hl9 X hL hi5 hc kk np fk fn fo U V code cp en no ou wl wh rl rh th bt xx ra t0 t1 s1 ca cq ch bb wt nx cx pt le sc ss ww xc lo hi xi fz H locs ls hI hT hl
    by_cases h4 : v = 4
    · refine lv_tableIn (off := 223) (tgt := 272) hx hb dL_law_49 (by rw [h4]; decide) (by rw [h4]; decide) (by rw [h4]; rfl) (by decide) ?_
      exact law_end hl9 X hL hi5 hc kk np fk fn fo U V code cp en no ou wl wh rl rh th bt xx ra t0 t1 s1 ca cq ch bb wt nx cx pt le sc ss ww xc lo hi xi fz H locs ls hI hT hl
    by_cases h5 : v = 5
    · refine lv_tableIn (off := 236) (tgt := 285) hx hb dL_law_49 (by rw [h5]; decide) (by rw [h5]; decide) (by rw [h5]; rfl) (by decide) ?_
      exact law_get hl9 X hL hi5 hc kk np fk fn fo U V code cp en no ou wl wh rl rh th bt xx ra t0 t1 s1 ca cq ch bb wt nx cx pt le sc ss ww xc lo hi xi fz H locs ls hI hT hl
    by_cases h6 : v = 6
    · refine lv_tableIn (off := 249) (tgt := 298) hx hb dL_law_49 (by rw [h6]; decide) (by rw [h6]; decide) (by rw [h6]; rfl) (by decide) ?_
      exact law_again hl9 X hL hi5 hc kk np fk fn fo U V code cp en no ou wl wh rl rh th bt xx ra t0 t1 s1 ca cq ch bb wt nx cx pt le sc ss ww xc lo hi xi fz H locs ls hI hT hl
    by_cases h7 : v = 7
    · refine lv_tableIn (off := 262) (tgt := 311) hx hb dL_law_49 (by rw [h7]; decide) (by rw [h7]; decide) (by rw [h7]; rfl) (by decide) ?_
      exact law_clear hl9 X hL hi5 hc kk np fk fn fo U V code cp en no ou wl wh rl rh th bt xx ra t0 t1 s1 ca cq ch bb wt nx cx pt le sc ss ww xc lo hi xi fz H locs ls hI hT hl
    by_cases h8 : v = 8
    · refine lv_tableIn (off := 275) (tgt := 324) hx hb dL_law_49 (by rw [h8]; decide) (by rw [h8]; decide) (by rw [h8]; rfl) (by decide) ?_
      exact law_out hl9 X hL hi5 hc kk np fk fn fo U V code cp en no ou wl wh rl rh th bt xx ra t0 t1 s1 ca cq ch bb wt nx cx pt le sc ss ww xc lo hi xi fz H locs ls hI hT hl
    by_cases h9 : v = 9
    · refine lv_tableIn (off := 300) (tgt := 349) hx hb dL_law_49 (by rw [h9]; decide) (by rw [h9]; decide) (by rw [h9]; rfl) (by decide) ?_
      exact law_spoil hl9 X hL hi5 hc kk np fk fn fo U V code cp en no ou wl wh rl rh th bt xx ra t0 t1 s1 ca cq ch bb wt nx cx pt le sc ss ww xc lo hi xi fz H locs ls hI hT hl
    by_cases h10 : v = 10
    · refine lv_tableIn (off := 337) (tgt := 386) hx hb dL_law_49 (by rw [h10]; decide) (by rw [h10]; decide) (by rw [h10]; rfl) (by decide) ?_
      exact law_chance hl9 X hL hi5 hc kk np fk fn fo U V code cp en no ou wl wh rl rh th bt xx ra t0 t1 s1 ca cq ch bb wt nx cx pt le sc ss ww xc lo hi xi fz H locs ls hI hT hl
    by_cases h11 : v = 11
    · refine lv_tableIn (off := 362) (tgt := 411) hx hb dL_law_49 (by rw [h11]; decide) (by rw [h11]; decide) (by rw [h11]; rfl) (by decide) ?_
      exact law_input hl9 X hL hi5 hc kk np fk fn fo U V code cp en no ou wl wh rl rh th bt xx ra t0 t1 s1 ca cq ch bb wt nx cx pt le sc ss ww xc lo hi xi fz H locs ls hI hT hl
    by_cases h12 : v = 12
    · refine lv_tableIn (off := 399) (tgt := 448) hx hb dL_law_49 (by rw [h12]; decide) (by rw [h12]; decide) (by rw [h12]; rfl) (by decide) ?_
      exact law_weight hl9 X hL hi5 hc kk np fk fn fo U V code cp en no ou wl wh rl rh th bt xx ra t0 t1 s1 ca cq ch bb wt nx cx pt le sc ss ww xc lo hi xi fz H locs ls hI hT hl
    by_cases h13 : v = 13
    · refine lv_tableIn (off := 460) (tgt := 509) hx hb dL_law_49 (by rw [h13]; decide) (by rw [h13]; decide) (by rw [h13]; rfl) (by decide) ?_
      exact law_slot hl9 X hL hi5 hc kk np fk fn fo U V code cp en no ou wl wh rl rh th bt xx ra t0 t1 s1 ca cq ch bb wt nx cx pt le sc ss ww xc lo hi xi fz H locs ls hI hT hl
    by_cases h14 : v = 14
    · refine lv_tableIn (off := 528) (tgt := 577) hx hb dL_law_49 (by rw [h14]; decide) (by rw [h14]; decide) (by rw [h14]; rfl) (by decide) ?_
      exact law_seen hl9 X hL hi5 hc kk np fk fn fo U V code cp en no ou wl wh rl rh th bt xx ra t0 t1 s1 ca cq ch bb wt nx cx pt le sc ss ww xc lo hi xi fz H locs ls hI hT hl
    by_cases h15 : v = 15
    · refine lv_tableIn (off := 565) (tgt := 614) hx hb dL_law_49 (by rw [h15]; decide) (by rw [h15]; decide) (by rw [h15]; rfl) (by decide) ?_
      exact law_cell hl9 X hL hi5 hc kk np fk fn fo U V code cp en no ou wl wh rl rh th bt xx ra t0 t1 s1 ca cq ch bb wt nx cx pt le sc ss ww xc lo hi xi fz H locs ls hI hT hl
    by_cases h16 : v = 16
    · refine lv_tableIn (off := 614) (tgt := 663) hx hb dL_law_49 (by rw [h16]; decide) (by rw [h16]; decide) (by rw [h16]; rfl) (by decide) ?_
      exact law_squash hl9 X hL hi5 hc kk np fk fn fo U V code cp en no ou wl wh rl rh th bt xx ra t0 t1 s1 ca cq ch bb wt nx cx pt le sc ss ww xc lo hi xi fz H locs ls hI hT hl
    by_cases h17 : v = 17
    · refine lv_tableIn (off := 639) (tgt := 688) hx hb dL_law_49 (by rw [h17]; decide) (by rw [h17]; decide) (by rw [h17]; rfl) (by decide) ?_
      exact law_stretch hl9 X hL hi5 hc kk np fk fn fo U V code cp en no ou wl wh rl rh th bt xx ra t0 t1 s1 ca cq ch bb wt nx cx pt le sc ss ww xc lo hi xi fz H locs ls hI hT hl
    by_cases h18 : v = 18
    · refine lv_tableIn (off := 664) (tgt := 713) hx hb dL_law_49 (by rw [h18]; decide) (by rw [h18]; decide) (by rw [h18]; rfl) (by decide) ?_
      exact law_equal hl9 X hL hi5 hc kk np fk fn fo U V code cp en no ou wl wh rl rh th bt xx ra t0 t1 s1 ca cq ch bb wt nx cx pt le sc ss ww xc lo hi xi fz H locs ls hI hT hl
    by_cases h19 : v = 19
    · refine lv_tableIn (off := 677) (tgt := 726) hx hb dL_law_49 (by rw [h19]; decide) (by rw [h19]; decide) (by rw [h19]; rfl) (by decide) ?_
      exact law_count hl9 X hL hi5 hc kk np fk fn fo U V code cp en no ou wl wh rl rh th bt xx ra t0 t1 s1 ca cq ch bb wt nx cx pt le sc ss ww xc lo hi xi fz H locs ls hI hT hl
    refine lv_tableOut (tgt := 751) hx hb dL_law_49 (swOut20 h0 h1 h2 h3 h4 h5 h6 h7 h8 h9 h10 h11 h12 h13 h14 h15 h16 h17 h18 h19) (by decide) ?_
    refine W.widen (k := 77 + (cnt + 1)) (n := 107809 + 6 * (cnt + 1)) (by omega) (by omega) ?_
    exact kk np fk fn fo U V code cp en no ou wl wh rl rh th bt xx ra t0 t1 s1 ca cq ch bb wt nx cx pt le sc ss ww xc lo hi xi fz H locs ls (I_mono hI) hT hl
theorem law_loop {p : Program} {l : Launch} {e : Env} {s : State} {m : MethodId} {below : List Frame} {meth : Method} {c : Code} {g : GT} {ad bd mo : Nat → Nat} {oa b L N rr : Nat} {xs : Nat → Int32} (hl9 : l.stackTraces = false) (hr : meth.sig.returnType = ret) (X : LC p s m meth c g (fun q : Nat => s.heap.size ≤ q) b L xs) (hL : L ≤ 321) : ∀ (n ix cnt : Nat), cnt + n = 64 → ix = 1 + 5 * cnt → LK p l e s m b below meth c (lw_Z below #[Value.ref b] s) g (fun q : Nat => s.heap.size ≤ q) ad bd mo oa N rr ix cnt 33 := by
  intro n
  induction n with
  | zero => intro ix cnt h1 h2; exact law_head hl9 hr X hL h2 (by omega) (fun h => absurd h (by omega))
  | succ n ih => intro ix cnt h1 h2; exact law_head hl9 hr X hL h2 (by omega) (fun h => ih (ix + 5) (cnt + 1) (by omega) (by omega))
