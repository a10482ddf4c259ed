/-! the numbers of sum and difference -/
theorem au_u4 (x : Int32) : ∃ a : Nat, a < 2 ^ 32 ∧ x.toInt64 &&& 4294967295 = lN a ∧ nI a = x := by
  refine ⟨x.toBitVec.toNat, x.toBitVec.isLt, ?_, ?_⟩
  · apply Int64.toBitVec_inj.mp
    show x.toBitVec.signExtend 64 &&& 4294967295#64 = BitVec.ofNat 64 x.toBitVec.toNat
    apply BitVec.eq_of_getLsbD_eq
    intro i hi
    have hm : ∀ i, i < 64 → (4294967295#64).getLsbD i = decide (i < 32) := by decide +kernel
    rw [BitVec.getLsbD_and, BitVec.getLsbD_signExtend, hm i hi, BitVec.getLsbD_ofNat]
    rw [show x.toBitVec.toNat.testBit i = x.toBitVec.getLsbD i from rfl]
    rcases Nat.lt_or_ge i 32 with h | h
    · simp [hi, h]
    · rw [BitVec.getLsbD_of_ge _ _ h]
      simp [hi, Nat.not_lt.mpr h]
  · apply Int32.toBitVec_inj.mp
    show BitVec.ofNat 32 x.toBitVec.toNat = x.toBitVec
    rw [BitVec.ofNat_toNat, BitVec.setWidth_eq]
theorem au_u1 (x : Int32) : ∃ a : Nat, a < 256 ∧ x.toInt64 &&& 255 = lN a ∧ x &&& 255 = nI a ∧ (x &&& 255).toInt64 = lN a := by
  obtain ⟨j, hj, e⟩ := pk_andE x (m := 255) 8 (by decide)
  have h2 : (x &&& 255).toInt64 = lN j := by rw [e]; exact nI_l (by omega)
  refine ⟨j, by omega, ?_, e, h2⟩
  rw [← h2, Int32.toInt64_and]
  rfl
theorem au_cy4 {N : Nat} (h : N < 2 ^ 34) : (lN N = lN N &&& 4294967295) ↔ lN N ≤ 4294967295 := by
  rw [show (4294967295 : Int64) = lN (2 ^ 32 - 1) from rfl, wb_mask (by omega) (by decide), pk_lEQ (by omega) (by omega), pk_lLE (by omega) (by omega)]
  omega
theorem au_cy1 {N : Nat} (h : N < 2 ^ 34) : (lN N = lN N &&& 255) ↔ lN N ≤ 255 := by
  rw [show (255 : Int64) = lN (2 ^ 8 - 1) from rfl, wb_mask (by omega) (by decide), pk_lEQ (by omega) (by omega), pk_lLE (by omega) (by omega)]
  omega
theorem au_bw {a b c : Nat} (ha : a < 2 ^ 33) (hb : b < 2 ^ 33) (hc : c < 2 ^ 33) : (lN a < lN b + lN c) ↔ (lN a - lN b - lN c < 0) := by
  rw [lN_add, Int64.lt_iff_toInt_lt, Int64.lt_iff_toInt_lt, pk_lT (by omega), pk_lT (by omega), Int64.toInt_sub, Int64.toInt_sub, pk_lT (by omega), pk_lT (by omega), pk_lT (by omega)]
  rw [Int.bmod_eq_of_le (n := (a : Int) - b) (by omega) (by omega), Int.bmod_eq_of_le (by omega) (by omega)]
  rw [show (0 : Int64).toInt = 0 from by decide]
  omega
/-- equal low bytes -/
theorem au_lo {x y : Int32} (h : x.toInt8 = y.toInt8) : x &&& 255 = y &&& 255 := by
  rw [← bp_b x, ← bp_b y, h]
theorem au_8 (x : Int32) : (x &&& 255).toInt8 = x.toInt8 := by
  rw [Int32.toInt8_and]
  show x.toInt8 &&& (-1) = x.toInt8
  rw [Int8.and_comm]; exact Int8.neg_one_and
theorem au_bb (x : Int32) : x.toInt8.toInt32.toInt8 = x.toInt8 := by simp
