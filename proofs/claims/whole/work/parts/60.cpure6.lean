/-! the worlds of the new -/
abbrev inP (g : GT) (ad : Nat → Nat) (N : Nat) : va_W := prL g ad N 0 1 0 (fun _ => 0) (fillTo (fun _ => 0) 32768 N) (fun _ => 0) 0 0 (wFill (fun _ => 0) 256) 0 0 (wFill (fun _ => 0) 256) 0 (cFill (fun _ => 0) 8448) (fun _ => 0) (fun _ => 0) (fun _ => 0) (upd (fun _ => 0) 8 256)
abbrev cmN (g : GT) (ad bd : Nat → Nat) (N : Nat) : va_W := obC ad :: (shL g ad 0 (fun _ => 0) (fun _ => 0) (fun _ => 0) stA ++ (inP g ad N ++ (obC (mixA ad bd) :: (inP g (mixA ad bd) N ++ [(bd 2, .inr (6, [.ref (bd 3), .int (nI 0)])), (bd 3, .inl (g.2.1 0, 3028, .inl (fun _ => 0))), (bd 4, .inr (0, [.long 0, .long 4294967295])), (bd 5, .inr (0, [.long 0, .long 4294967295]))]))))
theorem mt8 {a b c d e f g h : Nat} {F : Nat → Option Nat} (h0 : some a = F 0) (h1 : some b = F 1) (h2 : some c = F 2) (h3 : some d = F 3) (h4 : some e = F 4) (h5 : some f = F 5) (h6 : some g = F 6) (h7 : some h = F 7) : ∀ j, j < 8 → mtF a b c d e f g h j = F j := by
  intro j hj
  match j, hj with
  | 0, _ => exact h0
  | 1, _ => exact h1
  | 2, _ => exact h2
  | 3, _ => exact h3
  | 4, _ => exact h4
  | 5, _ => exact h5
  | 6, _ => exact h6
  | 7, _ => exact h7
  | j + 8, h => exact absurd h (by omega)
