/-! the object's writing and reading -/
def setB (lo hi : Int64) : Bool := decide (lo >>> ((24 : Int32).toInt64 &&& 63) = hi >>> ((24 : Int32).toInt64 &&& 63))
def shLo (lo : Int64) : Int64 := (lo <<< ((8 : Int32).toInt64 &&& 63)) &&& 4294967295
def shHi (hi : Int64) : Int64 := ((hi <<< ((8 : Int32).toInt64 &&& 63)) &&& 4294967295) ||| 255
def topB (lo : Int64) : Int32 := (lo >>> ((24 : Int32).toInt64 &&& 63)).toInt32 &&& 255
def midL (lo hi : Int64) (ch : Int32) : Int64 := lo + ((hi - lo) >>> ((12 : Int32).toInt64 &&& 63)) * ch.toInt64
def nLo (on : Int32) (lo md : Int64) : Int64 := if on = 0 then md + 1 else lo
def nHi (on : Int32) (hi md : Int64) : Int64 := if on = 0 then hi else md
def emF : Nat → Int64 → Int64 → Nat → (Nat → Int32) → Int64 × Int64 × Nat × (Nat → Int32)
  | 0, lo, hi, no, ou => (lo, hi, no, ou)
  | k + 1, lo, hi, no, ou => if setB lo hi = true then emF k (shLo lo) (shHi hi) (no + 1) (upd ou no (topB lo)) else (lo, hi, no, ou)
theorem emF_y {k : Nat} {lo hi : Int64} {no : Nat} {ou : Nat → Int32} (h : setB lo hi = true) : emF (k + 1) lo hi no ou = emF k (shLo lo) (shHi hi) (no + 1) (upd ou no (topB lo)) := by rw [emF, if_pos h]
theorem emF_n {k : Nat} {lo hi : Int64} {no : Nat} {ou : Nat → Int32} (h : setB lo hi = false) : emF k lo hi no ou = (lo, hi, no, ou) := by
  cases k with
  | zero => rfl
  | succ k => rw [emF, if_neg (by rw [h]; decide)]
theorem set_t {lo hi : Int64} (h : ¬ (if lo >>> ((24 : Int32).toInt64 &&& 63) = hi >>> ((24 : Int32).toInt64 &&& 63) then 1 else 0) = (0 : Int32)) : setB lo hi = true := by
  by_cases q : lo >>> ((24 : Int32).toInt64 &&& 63) = hi >>> ((24 : Int32).toInt64 &&& 63)
  · exact decide_eq_true q
  · rw [if_neg q] at h; exact absurd rfl h
theorem set_f {lo hi : Int64} (h : (if lo >>> ((24 : Int32).toInt64 &&& 63) = hi >>> ((24 : Int32).toInt64 &&& 63) then 1 else 0) = (0 : Int32)) : setB lo hi = false := by
  by_cases q : lo >>> ((24 : Int32).toInt64 &&& 63) = hi >>> ((24 : Int32).toInt64 &&& 63)
  · rw [if_pos q] at h; exact absurd h (by decide)
  · exact decide_eq_false q
def codeN (code : Int64) (no : Nat) (ou : Nat → Int32) (cp : Nat) : Int64 := ((code <<< ((8 : Int32).toInt64 &&& 63)) &&& 4294967295) ||| (nxtI no ou cp).toInt64
def rdF (no : Nat) (ou : Nat → Int32) : Nat → Int64 → Int64 → Int64 → Nat → Int64 × Int64 × Int64 × Nat
  | 0, lo, hi, code, cp => (lo, hi, code, cp)
  | k + 1, lo, hi, code, cp => if setB lo hi = true then rdF no ou k (shLo lo) (shHi hi) (codeN code no ou cp) (cp + 1) else (lo, hi, code, cp)
theorem rdF_y {no : Nat} {ou : Nat → Int32} {k : Nat} {lo hi code : Int64} {cp : Nat} (h : setB lo hi = true) : rdF no ou (k + 1) lo hi code cp = rdF no ou k (shLo lo) (shHi hi) (codeN code no ou cp) (cp + 1) := by rw [rdF, if_pos h]
theorem rdF_n {no : Nat} {ou : Nat → Int32} {k : Nat} {lo hi code : Int64} {cp : Nat} (h : setB lo hi = false) : rdF no ou k lo hi code cp = (lo, hi, code, cp) := by
  cases k with
  | zero => rfl
  | succ k => rw [rdF, if_neg (by rw [h]; decide)]
def rdI (code md : Int64) : Int32 := if code ≤ md then 1 else 0
theorem rd_eq (code md : Int64) : (if 0 < lg_cmp code md then 0 else 1) = rdI code md := by
  unfold rdI
  by_cases q : code ≤ md
  · rw [if_neg (fun z => absurd ((lg_cmp_gt _ _).mp z) (Int64.not_lt.mpr q)), if_pos q]
  · rw [if_pos ((lg_cmp_gt _ _).mpr (Int64.not_le.mp q)), if_neg q]
theorem rd_01 (code md : Int64) : rdI code md = 0 ∨ rdI code md = 1 := by unfold rdI; split <;> simp
def eLo (wl : Int64) : Nat → Int64
  | 0 => wl
  | i + 1 => shLo (eLo wl i)
def eHi (wh : Int64) : Nat → Int64
  | 0 => wh
  | i + 1 => shHi (eHi wh i)
def eOu (wl : Int64) (no : Nat) (ou : Nat → Int32) : Nat → Nat → Int32
  | 0 => ou
  | i + 1 => upd (eOu wl no ou i) (no + i) (topB (eLo wl i))
def nearS (st : Nat → Int32) (N np : Nat) (fk fo : Nat → Int32) (U : SSt) : Nat := nearN (s_nd U) (tN st (mxS st N np fk fo U))
def lfS (on : Int32) (U : SSt) : Nat → Int32 := upd (s_f U) (s_n U) (nI ((2 * s_nd U + bitN on) % 256))
def lw0S (st : Nat → Int32) (N np : Nat) (fk fo : Nat → Int32) (U : SSt) (on : Int32) : Nat → Int32 := wLearn (s_f0 U) (xiS st N np fk fo U) (9 * s_nd U) (errI on (t0S st N np fk fo U)) 9
def lw1S (st : Nat → Int32) (N np : Nat) (fk fo : Nat → Int32) (U : SSt) (on : Int32) : Nat → Int32 := wLearn (s_f1 U) (xiS st N np fk fo U) (9 * lbN (s_f U) (s_n U)) (errI on (t1S st N np fk fo U)) 9
def lxS (st : Nat → Int32) (N np : Nat) (fk fo : Nat → Int32) (U : SSt) (on : Int32) : Nat → Int32 := upd (s_fx U) (nearS st N np fk fo U) (cellUp on (s_fx U (nearS st N np fk fo U)))
def lcS (N np : Nat) (fk fo : Nat → Int32) (U : SSt) (on : Int32) : Nat → Int32 := slC fo fk N (s_nd U) (s_cx U) on (s_fc U) (s_fs U) np
def lsS (N np : Nat) (fk fo : Nat → Int32) (U : SSt) (on : Int32) : Nat → Int32 := slS fo fk N (s_nd U) (s_cx U) on (s_fc U) (s_fs U) np
def midS (st : Nat → Int32) (N np : Nat) (fk fo : Nat → Int32) (U : SSt) (on : Int32) : SSt := mkS (s_n U) (2 * s_nd U + bitN on) (s_bg U + 1) (s_f U) (lcS N np fk fo U on) (lsS N np fk fo U on) (nI (9 * s_nd U)) (t0S st N np fk fo U) (lw0S st N np fk fo U on) (nI (9 * lbN (s_f U) (s_n U))) (t1S st N np fk fo U) (lw1S st N np fk fo U on) (nI (nearS st N np fk fo U)) (lxS st N np fk fo U on) (s_mp U) (s_ml U) (s_cx U) (xiS st N np fk fo U)
def lstS (st : Nat → Int32) (N np : Nat) (fk fn fo : Nat → Int32) (U : SSt) (on : Int32) : SSt := mkS (s_n U + 1) 1 0 (lfS on U) (lcS N np fk fo U on) (lsS N np fk fo U on) (nI (9 * s_nd U)) (t0S st N np fk fo U) (lw0S st N np fk fo U on) (nI (9 * lbN (s_f U) (s_n U))) (t1S st N np fk fo U) (lw1S st N np fk fo U on) (nI (nearS st N np fk fo U)) (lxS st N np fk fo U on) (bgP (lfS on U) (s_n U + 1) fk fn (s_mp U) (s_ml U) np) (bgL (lfS on U) (s_n U + 1) fk fn (s_mp U) (s_ml U) np) (bgC (lfS on U) (s_n U + 1) fk fn (s_cx U) np) (xiS st N np fk fo U)
/-- a bit went on a side -/
def stepS (st : Nat → Int32) (N np : Nat) (fk fn fo : Nat → Int32) (U : SSt) (on : Int32) : SSt := mkS (if s_bg U = 7 then s_n U + 1 else s_n U) (if s_bg U = 7 then 1 else 2 * s_nd U + bitN on) (if s_bg U = 7 then 0 else s_bg U + 1) (if s_bg U = 7 then lfS on U else s_f U) (lcS N np fk fo U on) (lsS N np fk fo U on) (nI (9 * s_nd U)) (t0S st N np fk fo U) (lw0S st N np fk fo U on) (nI (9 * lbN (s_f U) (s_n U))) (t1S st N np fk fo U) (lw1S st N np fk fo U on) (nI (nearS st N np fk fo U)) (lxS st N np fk fo U on) (if s_bg U = 7 then bgP (lfS on U) (s_n U + 1) fk fn (s_mp U) (s_ml U) np else s_mp U) (if s_bg U = 7 then bgL (lfS on U) (s_n U + 1) fk fn (s_mp U) (s_ml U) np else s_ml U) (if s_bg U = 7 then bgC (lfS on U) (s_n U + 1) fk fn (s_cx U) np else s_cx U) (xiS st N np fk fo U)
def mdS (st : Nat → Int32) (N np : Nat) (fk fo : Nat → Int32) (U : SSt) (lo hi : Int64) : Int64 := midL lo hi (chS st N np fk fo U)
def rdS (st : Nat → Int32) (N np : Nat) (fk fo : Nat → Int32) (U : SSt) (lo hi code : Int64) : Int32 := rdI code (mdS st N np fk fo U lo hi)
theorem rdS_01 (st : Nat → Int32) (N np : Nat) (fk fo : Nat → Int32) (U : SSt) (lo hi code : Int64) : rdS st N np fk fo U lo hi code = 0 ∨ rdS st N np fk fo U lo hi code = 1 := rd_01 _ _
theorem mxS_lt (st : Nat → Int32) (N np : Nat) (fk fo : Nat → Int32) (U : SSt) : mxS st N np fk fo U < 4096 := by unfold mxS t0S t1S; exact mix_lt _ _ _ _ _ _
theorem nearS_lt {st : Nat → Int32} {N rr np : Nat} {fk fn fo : Nat → Int32} {U : SSt} (hG : GI st N rr np fk fn) (h : s_nd U < 256) : nearN (s_nd U) (tN st (mxS st N np fk fo U)) < 8448 :=
  Nat.lt_of_le_of_lt (near_lt h (tN_lt (hG.2.2.2.2 _ (mxS_lt st N np fk fo U)))) (by decide)
theorem rdS_eq (st : Nat → Int32) (N np : Nat) (fk fo : Nat → Int32) (U : SSt) (lo hi code : Int64) : (if 0 < lg_cmp code (mdS st N np fk fo U lo hi) then 0 else 1) = rdS st N np fk fo U lo hi code := rd_eq code (mdS st N np fk fo U lo hi)
