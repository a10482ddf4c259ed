/-! arithmetic of the two machines: memory bytes, flags, parity -/
def ar_ym (m : Nat → Int32) : Nat → Int32 := fun j => m j &&& 255
theorem ar_ymU (m : Nat → Int32) (k : Nat) (x : Int32) : ar_ym (upd m k x.toInt8.toInt32) = upd (ar_ym m) k (x &&& 255) := by
  funext j
  show (upd m k x.toInt8.toInt32 j) &&& 255 = upd (ar_ym m) k (x &&& 255) j
  by_cases h : j = k
  · subst h
    rw [pk_us, pk_us]; exact bp_b x
  · rw [pk_un h, pk_un h]; rfl
theorem ar_or8 (x : Int32) : (x ||| 8) &&& 255 = (x &&& 255) ||| 8 := b_ext (fun i hi => by
  simp only [b_or, b_and]
  generalize bt x i = q
  revert i
  cases q <;> decide +kernel)
theorem ar_or24 (x : Int32) : (x ||| 24) &&& 255 = (x &&& 255) ||| 24 := b_ext (fun i hi => by
  simp only [b_or, b_and]
  generalize bt x i = q
  revert i
  cases q <;> decide +kernel)
/-- the reference's flag(bit, on) -/
def ar_yf (f b : Int32) (on : Bool) : Int32 := cond on (f ||| b) (f &&& (b ^^^ (-1)))
def ar_yz (f : Int32) (z s p : Bool) : Int32 := ar_yf (ar_yf (ar_yf f 64 z) 128 s) 4 p
def ar_bs (b k : Int32) (on : Bool) : Int32 := cond on (b ||| k) b
/-- the component's flags after setResultFlags -/
def ar_xf (f : Int32) (c o z s p : Bool) : Int32 := (f &&& (-2246)) ||| ar_bs (ar_bs (ar_bs (ar_bs (ar_bs 0 1 c) 2048 o) 64 z) 128 s) 4 p
theorem ar_fl (f : Int32) (c o z s p : Bool) : ar_xf f c o z s p = ar_yz (ar_yf (ar_yf f 1 c) 2048 o) z s p := by
  cases c <;> cases o <;> cases z <;> cases s <;> cases p <;>
    (apply b_ext
     intro i hi
     simp only [ar_xf, ar_yz, ar_yf, ar_bs, cond_true, cond_false, b_or, b_and, b_xor]
     generalize bt f i = q
     revert i
     cases q <;> decide +kernel)
theorem ar_fl1 (f g : Int32) : (g &&& (-2)) ||| (f &&& 1) = ar_yf g 1 (decide (¬ f &&& 1 = 0)) := by
  have h1 : ∀ i, i < 32 → 0 < i → bt 1 i = false := by decide +kernel
  by_cases h : f &&& 1 = 0
  · rw [h, decide_eq_false (by simp [h])]
    apply b_ext
    intro i hi
    simp only [ar_yf, cond_false, b_or, b_and, b_xor]
    generalize bt g i = q
    revert i
    cases q <;> decide +kernel
  · rw [decide_eq_true h]
    have e : f &&& 1 = 1 := by
      obtain ⟨j, hj, e⟩ := pk_andE f (m := 1) 1 (by decide)
      rw [e] at h ⊢
      rcases (by omega : j = 0 ∨ j = 1) with z | z
      · subst z; exact absurd rfl h
      · subst z; rfl
    rw [e]
    apply b_ext
    intro i hi
    simp only [ar_yf, cond_true, b_or, b_and]
    generalize bt g i = q
    revert i
    cases q <;> decide +kernel
/-- ones among the low eight, as the reference counts them -/
def ar_pc (low : Int32) : Nat → Int32
  | 0 => 0
  | k + 1 => ar_pc low k + ((low >>> (nI k &&& 31)) &&& 1)
def ar_par (p : Int32) : Int32 :=
  let a := p ^^^ (p >>> ((4 : Int32) &&& 31))
  let b := a ^^^ (a >>> ((2 : Int32) &&& 31))
  b ^^^ (b >>> ((1 : Int32) &&& 31))
theorem ar_par256 : ∀ n, n < 256 → (decide (ar_pc (nI n) 8 - ar_pc (nI n) 8 / 2 * 2 = 0) = decide (ar_par (nI n) &&& 1 = 0)) := by decide +kernel
theorem ar_sf256 : ∀ n, n < 256 → (decide (¬ nI n &&& 128 = 0) = decide (128 ≤ nI n)) := by decide +kernel
theorem ar_sf32 (x : Int32) : (¬ x &&& (-2147483648) = 0) ↔ x < 0 := by
  have hb : ∀ i, i < 32 → bt (-2147483648) i = decide (i = 31) := by decide +kernel
  have hs : x < 0 ↔ bt x 31 = true := by
    rw [Int32.lt_iff_toInt_lt]
    show x.toBitVec.toInt < 0 ↔ x.toBitVec.getLsbD 31 = true
    rw [show x.toBitVec.getLsbD 31 = x.toBitVec.msb from (BitVec.msb_eq_getLsbD_last x.toBitVec).symm]
    constructor
    · intro h
      cases q : x.toBitVec.msb with
      | true => rfl
      | false => exact absurd h (by have := BitVec.toInt_nonneg_of_msb_false q; omega)
    · exact fun h => BitVec.toInt_neg_of_msb_true h
  rw [hs]
  constructor
  · intro h
    cases q : bt x 31 with
    | true => rfl
    | false =>
      exact absurd (b_ext (fun i hi => by
        rw [b_and, hb i hi, b_0]
        by_cases e : i = 31
        · subst e; rw [q]; rfl
        · rw [decide_eq_false e, Bool.and_false])) h
  · intro h e
    have z : bt (x &&& (-2147483648)) 31 = bt 0 31 := by rw [e]
    rw [b_and, h, b_0] at z
    exact absurd z (by decide +kernel)
