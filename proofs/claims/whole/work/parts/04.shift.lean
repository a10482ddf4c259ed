/-! shifts by one, again and again -/
theorem sh_neg (x : Int32) : x < 0 ↔ bt x 31 = true := sorry
theorem sh_one (x : Int32) : (x &&& 1 = 0) ↔ bt x 0 = false := sorry
theorem sh_l (v : Int32) {k : Nat} (hk : k + 1 < 32) : (v <<< (nI k &&& 31)) <<< ((1 : Int32) &&& 31) = v <<< (nI (k + 1) &&& 31) := sorry
theorem sh_u (v : Int32) {k : Nat} (hk : k + 1 < 32) : ((v.toUInt32 >>> ((nI k).toUInt32 &&& Int32.toUInt32 31)).toInt32.toUInt32 >>> ((1 : Int32).toUInt32 &&& Int32.toUInt32 31)).toInt32 = (v.toUInt32 >>> ((nI (k + 1)).toUInt32 &&& Int32.toUInt32 31)).toInt32 := sorry
theorem sh_s (v : Int32) {k : Nat} (hk : k + 1 < 32) : (v >>> (nI k &&& 31)) >>> ((1 : Int32) &&& 31) = v >>> (nI (k + 1) &&& 31) := sorry
theorem sh_lc (v : Int32) {k : Nat} (hk : k < 32) : (v <<< (nI k &&& 31)) < 0 ↔ bt v (31 - k) = true := sorry
theorem sh_uc (v : Int32) {k : Nat} (hk : k < 32) : ((v.toUInt32 >>> ((nI k).toUInt32 &&& Int32.toUInt32 31)).toInt32 &&& 1 = 0) ↔ bt v k = false := sorry
theorem sh_sc (v : Int32) {k : Nat} (hk : k < 32) : ((v >>> (nI k &&& 31)) &&& 1 = 0) ↔ bt v k = false := sorry
