/-! arithmetic of the two machines: memory bytes, flags, parity -/
def ar_ym (m : Nat → Int32) : Nat → Int32 := fun j => m j &&& 255
theorem ar_ymU (m : Nat → Int32) (k : Nat) (x : Int32) : ar_ym (upd m k x.toInt8.toInt32) = upd (ar_ym m) k (x &&& 255) := sorry
theorem ar_or8 (x : Int32) : (x ||| 8) &&& 255 = (x &&& 255) ||| 8 := sorry
theorem ar_or24 (x : Int32) : (x ||| 24) &&& 255 = (x &&& 255) ||| 24 := sorry
/-- the reference's flag(bit, on) -/
def ar_yf (f b : Int32) (on : Bool) : Int32 := cond on (f ||| b) (f &&& (b ^^^ (-1)))
def ar_yz (f : Int32) (z s p : Bool) : Int32 := ar_yf (ar_yf (ar_yf f 64 z) 128 s) 4 p
def ar_bs (b k : Int32) (on : Bool) : Int32 := cond on (b ||| k) b
/-- the component's flags after setResultFlags -/
def ar_xf (f : Int32) (c o z s p : Bool) : Int32 := (f &&& (-2246)) ||| ar_bs (ar_bs (ar_bs (ar_bs (ar_bs 0 1 c) 2048 o) 64 z) 128 s) 4 p
theorem ar_fl (f : Int32) (c o z s p : Bool) : ar_xf f c o z s p = ar_yz (ar_yf (ar_yf f 1 c) 2048 o) z s p := sorry
theorem ar_fl1 (f g : Int32) : (g &&& (-2)) ||| (f &&& 1) = ar_yf g 1 (decide (¬ f &&& 1 = 0)) := sorry
/-- ones among the low eight, as the reference counts them -/
def ar_pc (low : Int32) : Nat → Int32
  | 0 => 0
  | k + 1 => ar_pc low k + ((low >>> (nI k &&& 31)) &&& 1)
def ar_par (p : Int32) : Int32 :=
  let a := p ^^^ (p >>> ((4 : Int32) &&& 31))
  let b := a ^^^ (a >>> ((2 : Int32) &&& 31))
  b ^^^ (b >>> ((1 : Int32) &&& 31))
theorem ar_par256 : ∀ n, n < 256 → (decide (ar_pc (nI n) 8 - ar_pc (nI n) 8 / 2 * 2 = 0) = decide (ar_par (nI n) &&& 1 = 0)) := sorry
theorem ar_sf256 : ∀ n, n < 256 → (decide (¬ nI n &&& 128 = 0) = decide (128 ≤ nI n)) := sorry
theorem ar_sf32 (x : Int32) : (¬ x &&& (-2147483648) = 0) ↔ x < 0 := sorry
