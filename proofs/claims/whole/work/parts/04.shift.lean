/-! shifts by one, again and again -/
theorem sh_neg (x : Int32) : x < 0 ↔ bt x 31 = true := by
  rw [Int32.lt_iff_toInt_lt]
  show x.toBitVec.toInt < 0 ↔ x.toBitVec.getLsbD 31 = true
  rw [show x.toBitVec.getLsbD 31 = x.toBitVec.msb from (BitVec.msb_eq_getLsbD_last x.toBitVec).symm]
  constructor
  · intro h
    cases q : x.toBitVec.msb with
    | true => rfl
    | false => exact absurd h (by have := BitVec.toInt_nonneg_of_msb_false q; omega)
  · exact fun h => BitVec.toInt_neg_of_msb_true h
theorem sh_one (x : Int32) : (x &&& 1 = 0) ↔ bt x 0 = false := by
  have h1 : ∀ i, i < 32 → bt 1 i = decide (i = 0) := by decide +kernel
  constructor
  · intro h
    have z : bt (x &&& 1) 0 = bt 0 0 := by rw [h]
    rw [b_and, h1 0 (by omega), b_0] at z
    simpa using z
  · intro h
    apply b_ext
    intro i hi
    rw [b_and, h1 i hi, b_0]
    by_cases e : i = 0
    · subst e; rw [h]; rfl
    · rw [decide_eq_false e, Bool.and_false]
theorem sh_l (v : Int32) {k : Nat} (hk : k + 1 < 32) : (v <<< (nI k &&& 31)) <<< ((1 : Int32) &&& 31) = v <<< (nI (k + 1) &&& 31) := by
  apply b_ext
  intro i hi
  have e : (v <<< (nI k &&& 31)) <<< ((1 : Int32) &&& 31) = (v <<< (nI k &&& 31)) <<< (nI 1 &&& 31) := rfl
  rw [e, b_shl 1 (by omega) _ hi, b_shl (k + 1) hk v hi]
  by_cases h : 1 ≤ i
  · rw [b_shl k (by omega) v (by omega : i - 1 < 32), decide_eq_true h, Bool.true_and]
    rw [show i - 1 - k = i - (k + 1) from by omega, show decide (k ≤ i - 1) = decide (k + 1 ≤ i) from decide_eq_decide.mpr (by omega)]
  · rw [decide_eq_false h, decide_eq_false (by omega : ¬ k + 1 ≤ i), Bool.false_and, Bool.false_and]
theorem sh_u (v : Int32) {k : Nat} (hk : k + 1 < 32) : ((v.toUInt32 >>> ((nI k).toUInt32 &&& Int32.toUInt32 31)).toInt32.toUInt32 >>> ((1 : Int32).toUInt32 &&& Int32.toUInt32 31)).toInt32 = (v.toUInt32 >>> ((nI (k + 1)).toUInt32 &&& Int32.toUInt32 31)).toInt32 := by
  apply b_ext
  intro i hi
  have e := b_ushr 1 (by omega) ((v.toUInt32 >>> ((nI k).toUInt32 &&& Int32.toUInt32 31)).toInt32) i
  rw [b_ushr k (by omega) v (1 + i)] at e
  rw [b_ushr (k + 1) hk v i, show k + 1 + i = k + (1 + i) from by omega]
  exact e
theorem sh_s (v : Int32) {k : Nat} (hk : k + 1 < 32) : (v >>> (nI k &&& 31)) >>> ((1 : Int32) &&& 31) = v >>> (nI (k + 1) &&& 31) := by
  apply b_ext
  intro i hi
  have e : (v >>> (nI k &&& 31)) >>> ((1 : Int32) &&& 31) = (v >>> (nI k &&& 31)) >>> (nI 1 &&& 31) := rfl
  rw [e, b_sshr 1 (by omega) _ hi, b_sshr (k + 1) hk v hi]
  by_cases h : 1 + i < 32
  · rw [if_pos h, b_sshr k (by omega) v h, show k + (1 + i) = k + 1 + i from by omega]
  · rw [if_neg h, b_sshr k (by omega) v (by omega : 31 < 32), if_neg (by omega : ¬ k + 1 + i < 32)]
    by_cases h0 : k + 31 < 32
    · rw [if_pos h0, show k + 31 = 31 from by omega]
    · rw [if_neg h0]
theorem sh_lc (v : Int32) {k : Nat} (hk : k < 32) : (v <<< (nI k &&& 31)) < 0 ↔ bt v (31 - k) = true := by
  rw [sh_neg, b_shl k hk v (by omega : 31 < 32), decide_eq_true (by omega : k ≤ 31), Bool.true_and]
theorem sh_uc (v : Int32) {k : Nat} (hk : k < 32) : ((v.toUInt32 >>> ((nI k).toUInt32 &&& Int32.toUInt32 31)).toInt32 &&& 1 = 0) ↔ bt v k = false := by
  rw [sh_one, b_ushr k hk v 0, Nat.add_zero]
theorem sh_sc (v : Int32) {k : Nat} (hk : k < 32) : ((v >>> (nI k &&& 31)) &&& 1 = 0) ↔ bt v k = false := by
  rw [sh_one, b_sshr k hk v (by omega : 0 < 32), Nat.add_zero, if_pos hk]
