/-! the numbers of sum and difference -/
theorem au_u4 (x : Int32) : ∃ a : Nat, a < 2 ^ 32 ∧ x.toInt64 &&& 4294967295 = lN a ∧ nI a = x := sorry
theorem au_u1 (x : Int32) : ∃ a : Nat, a < 256 ∧ x.toInt64 &&& 255 = lN a ∧ x &&& 255 = nI a ∧ (x &&& 255).toInt64 = lN a := sorry
theorem au_cy4 {N : Nat} (h : N < 2 ^ 34) : (lN N = lN N &&& 4294967295) ↔ lN N ≤ 4294967295 := sorry
theorem au_cy1 {N : Nat} (h : N < 2 ^ 34) : (lN N = lN N &&& 255) ↔ lN N ≤ 255 := sorry
theorem au_bw {a b c : Nat} (ha : a < 2 ^ 33) (hb : b < 2 ^ 33) (hc : c < 2 ^ 33) : (lN a < lN b + lN c) ↔ (lN a - lN b - lN c < 0) := sorry
/-- equal low bytes -/
theorem au_lo {x y : Int32} (h : x.toInt8 = y.toInt8) : x &&& 255 = y &&& 255 := sorry
theorem au_8 (x : Int32) : (x &&& 255).toInt8 = x.toInt8 := sorry
theorem au_bb (x : Int32) : x.toInt8.toInt32.toInt8 = x.toInt8 := sorry
