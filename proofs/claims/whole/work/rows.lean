section
theorem pk_us {f : Nat → Int32} {k : Nat} {x : Int32} : upd f k x k = x := if_pos rfl
theorem pk_un {f : Nat → Int32} {k j : Nat} {x : Int32} (h : j ≠ k) : upd f k x j = f j := if_neg h
theorem pk_uLs {f : Nat → Int64} {k : Nat} {x : Int64} : vp_updL f k x k = x := if_pos rfl
theorem pk_uLn {f : Nat → Int64} {k j : Nat} {x : Int64} (h : j ≠ k) : vp_updL f k x j = f j := if_neg h
theorem pk_sub {a b : Nat} (h : b ≤ a) : nI a - nI b = nI (a - b) := by
  obtain ⟨c, rfl⟩ : ∃ c, a = c + b := ⟨a - b, by omega⟩
  rw [← nI_add, Int32.add_sub_cancel, Nat.add_sub_cancel]
theorem pk_m1 (n : Nat) : nI (n + 1) + (-1) = nI n := by
  rw [← nI_1, Int32.add_assoc, show (1 : Int32) + (-1) = 0 from rfl, Int32.add_zero]
theorem pk_mul (a b : Nat) : nI a * nI b = nI (a * b) := (Int32.ofNat_mul a b).symm
theorem pk_div {a d : Nat} (ha : a < 2 ^ 31) (h0 : 0 < d) (hd : d < 2 ^ 31) : nI a / nI d = nI (a / d) := by
  apply Int32.toInt_inj.mp
  rw [lg_idiv_nonneg (by rw [nI_toInt ha]; omega) (by rw [nI_toInt hd]; omega), nI_toInt ha, nI_toInt hd, nI_toInt (Nat.lt_of_le_of_lt (Nat.div_le_self a d) ha)]
  first | rfl | exact (Int.natCast_ediv _ _).symm
theorem pk_rem {a d : Nat} (ha : a < 2 ^ 31) (h0 : 0 < d) (hd : d < 2 ^ 31) : nI a - nI a / nI d * nI d = nI (a % d) := by
  rw [pk_div ha h0 hd, pk_mul, pk_sub (Nat.div_mul_le_self a d)]
  exact congrArg nI (by have := Nat.div_add_mod' a d; omega)
theorem pk_sub_toInt {a b : Nat} (ha : a < 2 ^ 30) (hb : b < 2 ^ 30) : (nI a - nI b).toInt = (a : Int) - b := by
  rw [Int32.toInt_sub, nI_toInt (by omega), nI_toInt (by omega)]
  exact Int.bmod_eq_of_le (by omega) (by omega)
theorem pk_sneg {a b : Nat} (hb : b < 2 ^ 30) (h : a < b) : nI a - nI b < 0 := by
  rw [Int32.lt_iff_toInt_lt, pk_sub_toInt (by omega) hb, show (0 : Int32).toInt = 0 from by decide]
  omega
theorem pk_ix (x : Int32) {n : Nat} (hn : n < 2 ^ 31) : x < 0 ∨ nI n ≤ x ∨ ∃ j : Nat, j < n ∧ x = nI j := by
  by_cases h : x < 0
  · exact Or.inl h
  · obtain ⟨j, hj, rfl⟩ := nI_of h
    by_cases h2 : j < n
    · exact Or.inr (Or.inr ⟨j, h2, rfl⟩)
    · exact Or.inr (Or.inl (nI_le (by omega) hj))
theorem pk_le {x y : Int32} {A B : Prop} (a b : Nat) (f : a ≤ b → A) (g : b < a → B) (hx : x = nI a := by rfl) (hy : y = nI b := by rfl) (ha : a < 2 ^ 31 := by omega) (hb : b < 2 ^ 31 := by omega) : (x ≤ y → A) ∧ (¬ x ≤ y → B) := by
  subst hx hy
  rw [nI_leI ha hb]
  exact ⟨f, fun z => g (by omega)⟩
theorem pk_lt {x y : Int32} {A B : Prop} (a b : Nat) (f : a < b → A) (g : b ≤ a → B) (hx : x = nI a := by rfl) (hy : y = nI b := by rfl) (ha : a < 2 ^ 31 := by omega) (hb : b < 2 ^ 31 := by omega) : (x < y → A) ∧ (¬ x < y → B) := by
  subst hx hy
  rw [nI_ltI ha hb]
  exact ⟨f, fun z => g (by omega)⟩
theorem pk_eq {x y : Int32} {A B : Prop} (a b : Nat) (f : a = b → A) (g : a ≠ b → B) (hx : x = nI a := by rfl) (hy : y = nI b := by rfl) (ha : a < 2 ^ 31 := by omega) (hb : b < 2 ^ 31 := by omega) : (x = y → A) ∧ (¬ x = y → B) := by
  subst hx hy
  rw [nI_eq ha hb]
  exact ⟨f, g⟩
theorem pk_in {x : Int32} (n N : Nat) (h : n < N) (hx : x = nI n := by rfl) (hN : N < 2 ^ 31 := by omega) : vp_in x N := by
  subst hx
  exact vp_in_nI h hN
theorem pk_cl {x : Int32} (n : Nat) (hx : x = nI n := by rfl) (h : n < 2 ^ 31 := by omega) : x.toNatClampNeg = n := by
  subst hx
  exact nI_clamp h
theorem pk_tn {n : Nat} (h : n < 2 ^ 32) : (nI n).toBitVec.toNat = n := Nat.mod_eq_of_lt h
theorem pk_and (x : Int32) {m : Int32} (k : Nat) (hm : m.toBitVec.toNat = 2 ^ k - 1) : x &&& m = nI (x.toBitVec.toNat % 2 ^ k) := by
  apply Int32.toBitVec_inj.mp
  apply BitVec.eq_of_toNat_eq
  rw [Int32.toBitVec_and, BitVec.toNat_and, hm, Nat.and_two_pow_sub_one_eq_mod]
  show _ = (BitVec.ofNat 32 _).toNat
  rw [BitVec.toNat_ofNat]
  exact (Nat.mod_eq_of_lt (Nat.lt_of_le_of_lt (Nat.mod_le _ _) x.toBitVec.isLt)).symm
theorem pk_andN {n : Nat} (h : n < 2 ^ 32) {m : Int32} (k : Nat) (hm : m.toBitVec.toNat = 2 ^ k - 1) : nI n &&& m = nI (n % 2 ^ k) := by
  rw [pk_and _ k hm, pk_tn h]
theorem pk_andE (x : Int32) {m : Int32} (k : Nat) (hm : m.toBitVec.toNat = 2 ^ k - 1) : ∃ j : Nat, j < 2 ^ k ∧ x &&& m = nI j := ⟨_, Nat.mod_lt _ (Nat.two_pow_pos k), pk_and x k hm⟩
theorem pk_andIn (x : Int32) {m : Int32} (k : Nat) (hm : m.toBitVec.toNat = 2 ^ k - 1) (hk : k ≤ 30) : vp_in (x &&& m) (2 ^ k) := by
  obtain ⟨j, hj, e⟩ := pk_andE x k hm
  rw [e]
  exact vp_in_nI hj (Nat.lt_of_le_of_lt (Nat.pow_le_pow_right (by decide) hk) (by decide))
theorem pk_shl (a s : Int32) (k : Nat) (hs : (s.toBitVec.smod 32).toNat = k) : (a <<< s).toBitVec.toNat = a.toBitVec.toNat * 2 ^ k % 2 ^ 32 := by
  show (a.toBitVec <<< (s.toBitVec.smod 32).toNat).toNat = _
  rw [hs, BitVec.toNat_shiftLeft, Nat.shiftLeft_eq]
theorem pk_shlN {n : Nat} (s : Int32) (k : Nat) (hs : (s.toBitVec.smod 32).toNat = k) (h : n * 2 ^ k < 2 ^ 32) : nI n <<< s = nI (n * 2 ^ k) := by
  apply Int32.toBitVec_inj.mp
  apply BitVec.eq_of_toNat_eq
  have hn : n < 2 ^ 32 := Nat.lt_of_le_of_lt (Nat.le_mul_of_pos_right n (Nat.two_pow_pos k)) h
  rw [pk_shl _ _ k hs, pk_tn hn, pk_tn h, Nat.mod_eq_of_lt h]
theorem pk_shr (a s : Int32) (k : Nat) (hs : (s.toBitVec.smod 32).toNat = k) : (a >>> s).toInt = a.toInt >>> k := by
  show (a.toBitVec.sshiftRight (s.toBitVec.smod 32).toNat).toInt = _
  rw [hs, BitVec.toInt_sshiftRight]
  rfl
theorem pk_shrN {n : Nat} (h : n < 2 ^ 31) (s : Int32) (k : Nat) (hs : (s.toBitVec.smod 32).toNat = k) : nI n >>> s = nI (n / 2 ^ k) := by
  apply Int32.toInt_inj.mp
  have h2 : n / 2 ^ k ≤ n := Nat.div_le_self _ _
  rw [pk_shr _ _ k hs, nI_toInt h, nI_toInt (by omega), Int.shiftRight_eq_div_pow]
  rfl
theorem pk_ushr (x s : Int32) (k : Nat) (hs : ((s.toUInt32 &&& Int32.toUInt32 31).toBitVec % 32).toNat = k) : (x.toUInt32 >>> (s.toUInt32 &&& Int32.toUInt32 31)).toInt32.toBitVec.toNat = x.toBitVec.toNat / 2 ^ k := by
  have e : (x.toUInt32 >>> (s.toUInt32 &&& Int32.toUInt32 31)).toInt32.toBitVec = x.toBitVec >>> k := by
    rw [← hs]
    exact UInt32.toBitVec_shiftRight _ _
  rw [e, BitVec.toNat_ushiftRight, Nat.shiftRight_eq_div_pow]
theorem pk_ushrN {n : Nat} (hn : n < 2 ^ 32) (s : Int32) (k : Nat) (hs : ((s.toUInt32 &&& Int32.toUInt32 31).toBitVec % 32).toNat = k) : ((nI n).toUInt32 >>> (s.toUInt32 &&& Int32.toUInt32 31)).toInt32 = nI (n / 2 ^ k) := by
  apply Int32.toBitVec_inj.mp
  apply BitVec.eq_of_toNat_eq
  rw [pk_ushr _ s k hs, pk_tn hn, pk_tn (Nat.lt_of_le_of_lt (Nat.div_le_self _ _) hn)]
theorem pk_nb (z : Int32) : narrow .byte (.int z.toInt8.toInt32) = .int z.toInt8.toInt32 := congrArg Value.int (by simp)
theorem pk_ns (z : Int32) : narrow .short (.int z.toInt16.toInt32) = .int z.toInt16.toInt32 := congrArg Value.int (by simp)
theorem pk_fb (r : Int32) : fits .byte (.int r.toInt8.toInt32) = true := by
  have ⟨a, b⟩ := lg_i2b_range r
  have h1 : (-128 : Int32).toInt = -128 := by decide
  have h2 : (127 : Int32).toInt = 127 := by decide
  simp only [fits, Bool.and_eq_true, decide_eq_true_eq, Int32.le_iff_toInt_le, h1, h2]
  omega
theorem pk_fs (r : Int32) : fits .short (.int r.toInt16.toInt32) = true := by
  have ⟨a, b⟩ := lg_i2s_range r
  have h1 : (-32768 : Int32).toInt = -32768 := by decide
  have h2 : (32767 : Int32).toInt = 32767 := by decide
  simp only [fits, Bool.and_eq_true, decide_eq_true_eq, Int32.le_iff_toInt_le, h1, h2]
  omega
theorem pk_charN {q : Nat} (hq : q < 65536) : narrow .char (.int (nI q)) = .int (nI q) ∧ fits .char (.int (nI q)) = true := by
  constructor
  · have e : (nI q).toUInt32.toUInt16.toUInt32.toInt32 = nI q := by
      apply Int32.toBitVec_inj.mp
      apply BitVec.eq_of_toNat_eq
      show (nI q).toUInt32.toUInt16.toUInt32.toNat = q % 2 ^ 32
      rw [UInt16.toNat_toUInt32, UInt32.toNat_toUInt16, show (nI q).toUInt32.toNat = q % 2 ^ 32 from rfl]
      omega
    exact congrArg Value.int e
  · have a : (0 : Int32) ≤ nI q := nI_pos' (by omega)
    have b : nI q ≤ 65535 := nI_le (b := 65535) (by omega) (by decide)
    show (decide ((0 : Int32) ≤ nI q) && decide (nI q ≤ 65535)) = true
    rw [decide_eq_true a, decide_eq_true b]
    rfl
theorem pk_char (x : Int32) : (x.toUInt32 % 65536).toInt32 = nI (x.toBitVec.toNat % 65536) := by
  apply Int32.toBitVec_inj.mp
  apply BitVec.eq_of_toNat_eq
  rw [pk_tn (by omega)]
  show (x.toUInt32 % 65536).toNat = _
  rw [UInt32.toNat_mod]
  rfl
theorem pk_nc (x : Int32) : narrow .char (.int (x.toUInt32 % 65536).toInt32) = .int (x.toUInt32 % 65536).toInt32 := by
  rw [pk_char]
  exact (pk_charN (Nat.mod_lt _ (by decide))).1
theorem pk_fc (x : Int32) : fits .char (.int (x.toUInt32 % 65536).toInt32) = true := by
  rw [pk_char]
  exact (pk_charN (Nat.mod_lt _ (by decide))).2
theorem pk_vb (z : Int32) : vp_nar .byte z.toInt8.toInt32 = z.toInt8.toInt32 := by rw [vp_nar_byte]; simp
theorem pk_vs (z : Int32) : vp_nar .short z.toInt16.toInt32 = z.toInt16.toInt32 := by rw [vp_nar_short]; simp
theorem pk_vc (z : Int32) : vp_nar .char (z.toUInt32 % 65536).toInt32 = (z.toUInt32 % 65536).toInt32 := Value.int.inj (pk_nc z)
theorem pk_lT {n : Nat} (h : n < 2 ^ 63) : (lN n).toInt = (n : Int) := lg_ofNat_toInt h
theorem pk_lLT {a b : Nat} (ha : a < 2 ^ 63) (hb : b < 2 ^ 63) : lN a < lN b ↔ a < b := by
  rw [Int64.lt_iff_toInt_lt, pk_lT ha, pk_lT hb]; omega
theorem pk_lLE {a b : Nat} (ha : a < 2 ^ 63) (hb : b < 2 ^ 63) : lN a ≤ lN b ↔ a ≤ b := by
  rw [Int64.le_iff_toInt_le, pk_lT ha, pk_lT hb]; omega
theorem pk_lEQ {a b : Nat} (ha : a < 2 ^ 63) (hb : b < 2 ^ 63) : lN a = lN b ↔ a = b := by
  rw [← Int64.toInt_inj, pk_lT ha, pk_lT hb]; omega
theorem pk_lOf {x : Int64} (h : ¬ x < 0) : ∃ k : Nat, k < 2 ^ 63 ∧ x = lN k := by
  rw [Int64.lt_iff_toInt_lt] at h
  have h0 : (0 : Int64).toInt = 0 := by decide
  have hx := Int64.toInt_lt x
  refine ⟨x.toInt.toNat, by omega, Int64.toInt_inj.mp ?_⟩
  rw [pk_lT (by omega)]
  omega
theorem pk_lDiv {a b : Nat} (ha : a < 2 ^ 63) (h0 : 0 < b) (hb : b < 2 ^ 63) : lN a / lN b = lN (a / b) := by
  apply Int64.toInt_inj.mp
  rw [lg_ldiv_nonneg (by rw [pk_lT ha]; omega) (by rw [pk_lT hb]; omega), pk_lT ha, pk_lT hb, pk_lT (Nat.lt_of_le_of_lt (Nat.div_le_self a b) ha)]
  rfl
theorem pk_lRem {a b : Nat} (ha : a < 2 ^ 63) (h0 : 0 < b) (hb : b < 2 ^ 63) : lN a - lN a / lN b * lN b = lN (a % b) := by
  rw [pk_lDiv ha h0 hb, lN_mul, lN_sub (Nat.div_mul_le_self a b)]
  exact congrArg lN (by have := Nat.div_add_mod' a b; omega)
theorem pk_loop {σ : Type} (W : Nat → Nat → σ → Prop) (I : Nat → σ → Prop) (e i0 : Nat) (s : σ) (hi : i0 ≤ e) (h0 : I i0 s) (hx : ∀ n s, I e s → W (n + 1) e s)
    (hs : ∀ n i s, i < e → I i s → (∀ s', I (i + 1) s' → W n (i + 1) s') → W (n + 1) i s) : ∃ n, W n i0 s :=
  ⟨e + 1, loop_i W I e hx hs (e + 1) i0 s hi (by omega) h0⟩
theorem pk_loopD {σ : Type} (W : Nat → Nat → σ → Prop) (I : Nat → σ → Prop) (hx : ∀ n s, I 0 s → W (n + 1) 0 s)
    (hs : ∀ n i s, I (i + 1) s → (∀ s', I i s' → W n i s') → W (n + 1) (i + 1) s) : ∀ (e : Nat) (s : σ), I e s → W (e + 1) e s := by
  intro e
  induction e with
  | zero => exact fun s h => hx 0 s h
  | succ e ih => exact fun s h => hs (e + 1) e s h (fun s' h' => ih s' h')
/-! ===== Int32 by its bits: bt x i ===== -/
def bt (x : Int32) (i : Nat) : Bool := x.toBitVec.getLsbD i
theorem b_ext {x y : Int32} (h : ∀ i, i < 32 → bt x i = bt y i) : x = y := Int32.toBitVec_inj.mp (BitVec.eq_of_getLsbD_eq (fun i hi => h i hi))
theorem b_or (x y : Int32) (i : Nat) : bt (x ||| y) i = (bt x i || bt y i) := by unfold bt; rw [Int32.toBitVec_or, BitVec.getLsbD_or]
theorem b_and (x y : Int32) (i : Nat) : bt (x &&& y) i = (bt x i && bt y i) := by unfold bt; rw [Int32.toBitVec_and, BitVec.getLsbD_and]
theorem b_xor (x y : Int32) (i : Nat) : bt (x ^^^ y) i = (bt x i ^^ bt y i) := by unfold bt; rw [Int32.toBitVec_xor, BitVec.getLsbD_xor]
theorem b_big {x : Int32} {i : Nat} (h : 32 ≤ i) : bt x i = false := BitVec.getLsbD_of_ge _ _ h
theorem b_255 (i : Nat) : bt 255 i = decide (i < 8) := by
  rcases Nat.lt_or_ge i 32 with h | h
  · exact (by decide +kernel : ∀ i, i < 32 → bt 255 i = decide (i < 8)) i h
  · rw [b_big h, decide_eq_false (by omega)]
theorem b_65535 (i : Nat) : bt 65535 i = decide (i < 16) := by
  rcases Nat.lt_or_ge i 32 with h | h
  · exact (by decide +kernel : ∀ i, i < 32 → bt 65535 i = decide (i < 16)) i h
  · rw [b_big h, decide_eq_false (by omega)]
theorem b_m1 : ∀ i, i < 32 → bt (-1) i = true := by decide +kernel
theorem b_0 (i : Nat) : bt 0 i = false := BitVec.getLsbD_zero
theorem s_l : ∀ n, n < 32 → ((nI n &&& 31).toBitVec.smod 32).toNat = n := by decide +kernel
theorem s_u : ∀ n, n < 32 → (((nI n).toUInt32 &&& Int32.toUInt32 31).toBitVec % 32).toNat = n := by decide +kernel
theorem b_shl (n : Nat) (hn : n < 32) (x : Int32) {i : Nat} (hi : i < 32) : bt (x <<< (nI n &&& 31)) i = (decide (n ≤ i) && bt x (i - n)) := by
  unfold bt
  rw [Int32.toBitVec_shiftLeft]
  show (x.toBitVec <<< ((nI n &&& 31).toBitVec.smod 32).toNat).getLsbD i = _
  rw [s_l n hn, BitVec.getLsbD_shiftLeft]
  rcases Nat.lt_or_ge i n with h | h
  · simp [h, Nat.not_le.mpr h]
  · simp [hi, h, Nat.not_lt.mpr h]
theorem b_ushr (n : Nat) (hn : n < 32) (x : Int32) (i : Nat) : bt ((x.toUInt32 >>> ((nI n).toUInt32 &&& Int32.toUInt32 31)).toInt32) i = bt x (n + i) := by
  show (x.toUInt32 >>> ((nI n).toUInt32 &&& Int32.toUInt32 31)).toBitVec.getLsbD i = x.toUInt32.toBitVec.getLsbD (n + i)
  rw [UInt32.toBitVec_shiftRight]
  show (x.toUInt32.toBitVec >>> (((nI n).toUInt32 &&& Int32.toUInt32 31).toBitVec % 32).toNat).getLsbD i = _
  rw [s_u n hn, BitVec.getLsbD_ushiftRight]
theorem b_sshr (n : Nat) (hn : n < 32) (x : Int32) {i : Nat} (hi : i < 32) : bt (x >>> (nI n &&& 31)) i = if n + i < 32 then bt x (n + i) else bt x 31 := by
  unfold bt
  rw [Int32.toBitVec_shiftRight]
  show (x.toBitVec.sshiftRight ((nI n &&& 31).toBitVec.smod 32).toNat).getLsbD i = _
  rw [s_l n hn, BitVec.getLsbD_sshiftRight, BitVec.msb_eq_getLsbD_last]
  simp [hi]
theorem b_shl8 (x : Int32) {i : Nat} (hi : i < 32) : bt (x <<< ((8 : Int32) &&& 31)) i = (decide (8 ≤ i) && bt x (i - 8)) := b_shl 8 (by omega) x hi
theorem b_shl16 (x : Int32) {i : Nat} (hi : i < 32) : bt (x <<< ((16 : Int32) &&& 31)) i = (decide (16 ≤ i) && bt x (i - 16)) := b_shl 16 (by omega) x hi
theorem b_shl24 (x : Int32) {i : Nat} (hi : i < 32) : bt (x <<< ((24 : Int32) &&& 31)) i = (decide (24 ≤ i) && bt x (i - 24)) := b_shl 24 (by omega) x hi
theorem b_sshr8 (x : Int32) {i : Nat} (hi : i < 32) : bt (x >>> ((8 : Int32) &&& 31)) i = if 8 + i < 32 then bt x (8 + i) else bt x 31 := b_sshr 8 (by omega) x hi
/-! ===== nI under and, xor, >>>, one bit, 65535 ===== -/
theorem nx_and (a b : Nat) : nI a &&& nI b = nI (a &&& b) := by
  apply Int32.toBitVec_inj.1
  show BitVec.ofNat 32 a &&& BitVec.ofNat 32 b = BitVec.ofNat 32 (a &&& b)
  apply BitVec.eq_of_getLsbD_eq
  intro i hi
  simp [hi]
theorem nx_xor (a b : Nat) : nI a ^^^ nI b = nI (a ^^^ b) := by
  apply Int32.toBitVec_inj.1
  show BitVec.ofNat 32 a ^^^ BitVec.ofNat 32 b = BitVec.ofNat 32 (a ^^^ b)
  apply BitVec.eq_of_getLsbD_eq
  intro i hi
  simp [hi]
theorem nx_cnt : ∀ j : Fin 32, (UInt32.ofNat j.val &&& Int32.toUInt32 31).toNat % 32 = j.val := by decide +kernel
theorem nx_ush {k j : Nat} (hk : k < 65536) (hj : j < 32) : ((nI k).toUInt32 >>> ((nI j).toUInt32 &&& Int32.toUInt32 31)).toInt32 = nI (k >>> j) := by
  have hs : k >>> j ≤ k := by
    rw [Nat.shiftRight_eq_div_pow]
    exact Nat.div_le_self _ _
  have e2 : UInt32.ofNat k >>> (UInt32.ofNat j &&& Int32.toUInt32 31) = UInt32.ofNat (k >>> j) := by
    apply UInt32.toNat_inj.1
    have h1 : (UInt32.ofNat k).toNat = k := Nat.mod_eq_of_lt (by omega)
    have h2 : (UInt32.ofNat (k >>> j)).toNat = k >>> j := Nat.mod_eq_of_lt (by omega)
    rw [UInt32.toNat_shiftRight, nx_cnt ⟨j, hj⟩, h1, h2]
  show (UInt32.ofNat k >>> (UInt32.ofNat j &&& Int32.toUInt32 31)).toInt32 = _
  rw [e2]
  rfl
theorem nx_bit {k j : Nat} (hk : k < 65536) (hj : j < 16) : (((nI k).toUInt32 >>> ((nI j).toUInt32 &&& Int32.toUInt32 31)).toInt32 &&& 1) = 0 ↔ k.testBit j = false := by
  rw [nx_ush hk (by omega)]
  show nI (k >>> j) &&& nI 1 = 0 ↔ _
  rw [nx_and, Nat.and_one_is_mod, ← nI_0, nI_eq (by omega) (by omega), Nat.testBit_eq_decide_div_mod_eq, Nat.shiftRight_eq_div_pow, decide_eq_false_iff_not]
  generalize k / 2 ^ j = z
  omega
theorem nx_mod (k : Nat) : nI k &&& 65535 = nI (k % 65536) := by
  show nI k &&& nI 65535 = _
  rw [nx_and, show (65535 : Nat) = 2 ^ 16 - 1 from rfl, Nat.and_two_pow_sub_one_eq_mod]
theorem nx_m16 {k : Nat} (h : k < 65536) : nI k &&& 65535 = nI k := by rw [nx_mod, Nat.mod_eq_of_lt h]
theorem nx_mask (x : Int32) : ∃ k, k < 65536 ∧ x &&& 65535 = nI k := by
  have e : x = nI x.toBitVec.toNat := by
    apply Int32.toBitVec_inj.1
    show x.toBitVec = BitVec.ofNat 32 x.toBitVec.toNat
    simp
  refine ⟨x.toBitVec.toNat % 65536, Nat.mod_lt _ (by omega), ?_⟩
  rw [← nx_mod, ← e]
/-! ===== a byte read unsigned ===== -/
theorem bp_b (x : Int32) : x.toInt8.toInt32 &&& 255 = x &&& 255 := by
  apply Int32.toBitVec_inj.mp
  rw [Int32.toBitVec_and, Int32.toBitVec_and, Int8.toBitVec_toInt32, Int32.toBitVec_toInt8]
  apply BitVec.eq_of_getLsbD_eq
  intro i hi
  rw [BitVec.getLsbD_and, BitVec.getLsbD_and]
  have hm : ∀ i < 32, 8 ≤ i → (255 : Int32).toBitVec.getLsbD i = false := by decide
  rcases Nat.lt_or_ge i 8 with z | z
  · rw [BitVec.getLsbD_signExtend, BitVec.getLsbD_signExtend, if_pos z, if_pos hi]
    simp only [z, hi, decide_true, Bool.true_and]
  · rw [hm i hi z]; simp
/-! ===== lN n to 2^64: shifts, and, or, masks, one bit ===== -/
theorem wb_tb (n : Nat) : (lN n).toBitVec = BitVec.ofNat 64 n := rfl
theorem wb_inj {a b : Int64} (h : a.toBitVec = b.toBitVec) : a = b := Int64.toBitVec_inj.mp h
theorem wb_tn {n : Nat} (h : n < 2 ^ 64) : (lN n).toBitVec.toNat = n := by rw [wb_tb, BitVec.toNat_ofNat, Nat.mod_eq_of_lt h]
theorem wb_of (x : Int64) : ∃ n, n < 2 ^ 64 ∧ x = lN n := ⟨x.toBitVec.toNat, x.toBitVec.isLt, wb_inj (by rw [wb_tb]; simp)⟩
theorem wb_of32 (x : Int32) : ∃ n, n < 2 ^ 32 ∧ x = nI n := ⟨x.toBitVec.toNat, x.toBitVec.isLt, Int32.toBitVec_inj.mp (by show _ = BitVec.ofNat 32 _; simp)⟩
theorem wb_c : ∀ k, k < 64 → ((nI k).toInt64 &&& 63) = lN k := by decide +kernel
theorem wb_cu : ∀ k, k < 64 → ((nI k).toInt64.toUInt64 &&& Int64.toUInt64 63) = UInt64.ofNat k := by decide +kernel
theorem wb_sm : ∀ k, k < 64 → (BitVec.ofNat 64 k).smod 64 = BitVec.ofNat 64 k := by decide +kernel
theorem wb_pw {a b : Nat} (h : a ≤ b) : 2 ^ b = 2 ^ a * 2 ^ (b - a) := by rw [← Nat.pow_add]; congr 1; omega
theorem wb_lt2 {a b : Nat} (h : a < b) : 2 ^ a < 2 ^ b := Nat.pow_lt_pow_right (by decide) h
theorem wb_mod (n : Nat) : lN n = lN (n % 2 ^ 64) := wb_inj (by rw [wb_tb, wb_tb]; apply BitVec.eq_of_toNat_eq; rw [BitVec.toNat_ofNat, BitVec.toNat_ofNat, Nat.mod_mod])
theorem wb_shr {n k : Nat} (hn : n < 2 ^ 64) (hk : k < 64) : ((lN n).toUInt64 >>> ((nI k).toInt64.toUInt64 &&& Int64.toUInt64 63)).toInt64 = lN (n / 2 ^ k) := by
  rw [wb_cu k hk]
  apply wb_inj
  apply BitVec.eq_of_toNat_eq
  show ((lN n).toUInt64 >>> UInt64.ofNat k).toNat = (BitVec.ofNat 64 _).toNat
  have h1 : (UInt64.ofNat k).toNat = k := by
    show (BitVec.ofNat 64 k).toNat = k
    rw [BitVec.toNat_ofNat, Nat.mod_eq_of_lt (by omega)]
  have h2 : (lN n).toUInt64.toNat = n := wb_tn hn
  rw [UInt64.toNat_shiftRight, h1, h2, Nat.mod_eq_of_lt hk, Nat.shiftRight_eq_div_pow, BitVec.toNat_ofNat, Nat.mod_eq_of_lt (Nat.lt_of_le_of_lt (Nat.div_le_self _ _) hn)]
theorem wb_shl (n : Nat) {k : Nat} (hk : k < 64) : lN n <<< ((nI k).toInt64 &&& 63) = lN (n * 2 ^ k) := by
  rw [wb_c k hk]
  apply wb_inj
  rw [Int64.toBitVec_shiftLeft, wb_tb, wb_tb, wb_tb, wb_sm k hk]
  apply BitVec.eq_of_toNat_eq
  rw [BitVec.shiftLeft_eq', BitVec.toNat_shiftLeft, BitVec.toNat_ofNat, BitVec.toNat_ofNat, BitVec.toNat_ofNat, Nat.mod_eq_of_lt (show k < 2 ^ 64 by omega), Nat.shiftLeft_eq, Nat.mul_mod, Nat.mod_mod, ← Nat.mul_mod]
theorem wb_and {a b : Nat} (ha : a < 2 ^ 64) (hb : b < 2 ^ 64) : lN a &&& lN b = lN (a &&& b) := by
  apply wb_inj
  rw [Int64.toBitVec_and, wb_tb, wb_tb, wb_tb]
  apply BitVec.eq_of_toNat_eq
  rw [BitVec.toNat_and, BitVec.toNat_ofNat, BitVec.toNat_ofNat, BitVec.toNat_ofNat, Nat.mod_eq_of_lt ha, Nat.mod_eq_of_lt hb, Nat.mod_eq_of_lt (Nat.and_lt_two_pow _ hb)]
theorem wb_or {a b : Nat} (ha : a < 2 ^ 64) (hb : b < 2 ^ 64) : lN a ||| lN b = lN (a ||| b) := by
  apply wb_inj
  rw [Int64.toBitVec_or, wb_tb, wb_tb, wb_tb]
  apply BitVec.eq_of_toNat_eq
  rw [BitVec.toNat_or, BitVec.toNat_ofNat, BitVec.toNat_ofNat, BitVec.toNat_ofNat, Nat.mod_eq_of_lt ha, Nat.mod_eq_of_lt hb, Nat.mod_eq_of_lt (Nat.or_lt_two_pow ha hb)]
theorem wb_mask {n k : Nat} (hn : n < 2 ^ 64) (hk : k < 64) : lN n &&& lN (2 ^ k - 1) = lN (n % 2 ^ k) := by
  rw [wb_and hn (by have := wb_lt2 hk; omega), Nat.and_two_pow_sub_one_eq_mod]
theorem wb_a1 {n : Nat} (hn : n < 2 ^ 64) : lN n &&& 1 = lN (n % 2) := wb_mask (k := 1) hn (by decide)
theorem wb_bit {n k : Nat} (hn : n < 2 ^ 64) (hk : k < 64) : ((lN n).toUInt64 >>> ((nI k).toInt64.toUInt64 &&& Int64.toUInt64 63)).toInt64 &&& 1 = lN (n / 2 ^ k % 2) := by
  rw [wb_shr hn hk, wb_a1 (Nat.lt_of_le_of_lt (Nat.div_le_self _ _) hn)]
theorem wb_xor {q k : Nat} (hk : k < 63) (h : 2 ^ k ≤ q) (h2 : q < 2 ^ (k + 1)) : lN q ^^^ lN (2 ^ k) = lN (q - 2 ^ k) := by
  obtain ⟨r, rfl⟩ : ∃ r, q = 2 ^ k + r := ⟨q - 2 ^ k, by omega⟩
  have hr : r < 2 ^ k := by rw [Nat.pow_succ] at h2; omega
  have hx : (2 ^ k + r) ^^^ 2 ^ k = r := by
    apply Nat.eq_of_testBit_eq
    intro i
    rw [Nat.testBit_xor, Nat.testBit_two_pow]
    rcases Nat.lt_trichotomy i k with h | h | h
    · rw [Nat.testBit_two_pow_add_gt h]
      simp [show ¬ k = i by omega]
    · subst h
      rw [Nat.testBit_two_pow_add_eq]
      simp
    · have a1 : 2 ^ (k + 1) ≤ 2 ^ i := Nat.pow_le_pow_right (by decide) h
      rw [Nat.testBit_lt_two_pow (show 2 ^ k + r < 2 ^ i by omega), Nat.testBit_lt_two_pow (show r < 2 ^ i by omega)]
      simp [show ¬ k = i by omega]
  have b1 := wb_lt2 (show k + 1 < 64 by omega)
  have b2 := wb_lt2 (show k < 64 by omega)
  apply wb_inj
  rw [Int64.toBitVec_xor, wb_tb, wb_tb, wb_tb]
  apply BitVec.eq_of_toNat_eq
  rw [BitVec.toNat_xor, BitVec.toNat_ofNat, BitVec.toNat_ofNat, BitVec.toNat_ofNat, Nat.mod_eq_of_lt (by omega : 2 ^ k + r < 2 ^ 64), Nat.mod_eq_of_lt b2, hx, Nat.add_sub_cancel_left, Nat.mod_eq_of_lt (by omega)]
/-! ===== lN to 2^62 under >> and >>> ===== -/
theorem pf_lI {a : Nat} (h : a < 2 ^ 63) : (lN a).toInt = (a : Int) := lg_ofNat_toInt h
theorem pf_shr {a d : Nat} {D : Int64} (hD : (D.toBitVec.smod 64).toNat = d) (h : a < 2 ^ 62) : lN a >>> D = lN (a / 2 ^ d) := by
  have hd : a / 2 ^ d ≤ a := Nat.div_le_self _ _
  apply Int64.toInt_inj.mp
  have e : (lN a >>> D).toInt = (lN a).toInt >>> d := by
    rw [← hD]
    exact BitVec.toInt_sshiftRight ..
  rw [e, Int.shiftRight_eq_div_pow, pf_lI (by omega), pf_lI (by omega)]
  rfl
theorem pf_ushr {a d : Nat} {D : UInt64} (hD : D.toNat % 64 = d) (h : a < 2 ^ 62) : ((lN a).toUInt64 >>> D).toInt64 = lN (a / 2 ^ d) := by
  have hd : a / 2 ^ d ≤ a := Nat.div_le_self _ _
  have e : (lN a).toUInt64 >>> D = UInt64.ofNat (a / 2 ^ d) := UInt64.toNat_inj.mp (by
    rw [UInt64.toNat_shiftRight, hD, Nat.shiftRight_eq_div_pow, UInt64.toNat_ofNat']
    show (UInt64.ofNat a).toNat / 2 ^ d = _
    rw [UInt64.toNat_ofNat', Nat.mod_eq_of_lt (by omega), Nat.mod_eq_of_lt (by omega)])
  rw [e]
  rfl
theorem pf_andw (x : Int64) : ∃ m, m < 2 ^ 32 ∧ x &&& 4294967295 = lN m := ⟨x.toBitVec.toNat % 2 ^ 32, Nat.mod_lt _ (by decide), Int64.toBitVec_inj.mp (BitVec.eq_of_toNat_eq (by
  show (x.toBitVec &&& 4294967295#64).toNat = (BitVec.ofNat 64 (x.toBitVec.toNat % 2 ^ 32)).toNat
  rw [BitVec.toNat_and, show (4294967295#64).toNat = 2 ^ 32 - 1 from by decide, Nat.and_two_pow_sub_one_eq_mod, BitVec.toNat_ofNat]
  omega))⟩
end
section
/-! arithmetic of the two machines: memory bytes, flags, parity -/
def ar_ym (m : Nat → Int32) : Nat → Int32 := fun j => m j &&& 255
theorem ar_ymU (m : Nat → Int32) (k : Nat) (x : Int32) : ar_ym (upd m k x.toInt8.toInt32) = upd (ar_ym m) k (x &&& 255) := sorry
theorem ar_or8 (x : Int32) : (x ||| 8) &&& 255 = (x &&& 255) ||| 8 := sorry
theorem ar_or24 (x : Int32) : (x ||| 24) &&& 255 = (x &&& 255) ||| 24 := sorry
/-- the reference's flag(bit, on) -/
def ar_yf (f b : Int32) (on : Bool) : Int32 := cond on (f ||| b) (f &&& (b ^^^ (-1)))
def ar_yz (f : Int32) (z s p : Bool) : Int32 := ar_yf (ar_yf (ar_yf f 64 z) 128 s) 4 p
def ar_bs (b k : Int32) (on : Bool) : Int32 := cond on (b ||| k) b
/-- the component's flags after setResultFlags -/
def ar_xf (f : Int32) (c o z s p : Bool) : Int32 := (f &&& (-2246)) ||| ar_bs (ar_bs (ar_bs (ar_bs (ar_bs 0 1 c) 2048 o) 64 z) 128 s) 4 p
theorem ar_fl (f : Int32) (c o z s p : Bool) : ar_xf f c o z s p = ar_yz (ar_yf (ar_yf f 1 c) 2048 o) z s p := sorry
theorem ar_fl1 (f g : Int32) : (g &&& (-2)) ||| (f &&& 1) = ar_yf g 1 (decide (¬ f &&& 1 = 0)) := sorry
/-- ones among the low eight, as the reference counts them -/
def ar_pc (low : Int32) : Nat → Int32
  | 0 => 0
  | k + 1 => ar_pc low k + ((low >>> (nI k &&& 31)) &&& 1)
def ar_par (p : Int32) : Int32 :=
  let a := p ^^^ (p >>> ((4 : Int32) &&& 31))
  let b := a ^^^ (a >>> ((2 : Int32) &&& 31))
  b ^^^ (b >>> ((1 : Int32) &&& 31))
theorem ar_par256 : ∀ n, n < 256 → (decide (ar_pc (nI n) 8 - ar_pc (nI n) 8 / 2 * 2 = 0) = decide (ar_par (nI n) &&& 1 = 0)) := sorry
theorem ar_sf256 : ∀ n, n < 256 → (decide (¬ nI n &&& 128 = 0) = decide (128 ≤ nI n)) := sorry
theorem ar_sf32 (x : Int32) : (¬ x &&& (-2147483648) = 0) ↔ x < 0 := sorry
end
section
/-! the numbers of sum and difference -/
theorem au_u4 (x : Int32) : ∃ a : Nat, a < 2 ^ 32 ∧ x.toInt64 &&& 4294967295 = lN a ∧ nI a = x := sorry
theorem au_u1 (x : Int32) : ∃ a : Nat, a < 256 ∧ x.toInt64 &&& 255 = lN a ∧ x &&& 255 = nI a ∧ (x &&& 255).toInt64 = lN a := sorry
theorem au_cy4 {N : Nat} (h : N < 2 ^ 34) : (lN N = lN N &&& 4294967295) ↔ lN N ≤ 4294967295 := sorry
theorem au_cy1 {N : Nat} (h : N < 2 ^ 34) : (lN N = lN N &&& 255) ↔ lN N ≤ 255 := sorry
theorem au_bw {a b c : Nat} (ha : a < 2 ^ 33) (hb : b < 2 ^ 33) (hc : c < 2 ^ 33) : (lN a < lN b + lN c) ↔ (lN a - lN b - lN c < 0) := sorry
/-- equal low bytes -/
theorem au_lo {x y : Int32} (h : x.toInt8 = y.toInt8) : x &&& 255 = y &&& 255 := sorry
theorem au_8 (x : Int32) : (x &&& 255).toInt8 = x.toInt8 := sorry
theorem au_bb (x : Int32) : x.toInt8.toInt32.toInt8 = x.toInt8 := sorry
end
section
/-! shifts by one, again and again -/
theorem sh_neg (x : Int32) : x < 0 ↔ bt x 31 = true := sorry
theorem sh_one (x : Int32) : (x &&& 1 = 0) ↔ bt x 0 = false := sorry
theorem sh_l (v : Int32) {k : Nat} (hk : k + 1 < 32) : (v <<< (nI k &&& 31)) <<< ((1 : Int32) &&& 31) = v <<< (nI (k + 1) &&& 31) := sorry
theorem sh_u (v : Int32) {k : Nat} (hk : k + 1 < 32) : ((v.toUInt32 >>> ((nI k).toUInt32 &&& Int32.toUInt32 31)).toInt32.toUInt32 >>> ((1 : Int32).toUInt32 &&& Int32.toUInt32 31)).toInt32 = (v.toUInt32 >>> ((nI (k + 1)).toUInt32 &&& Int32.toUInt32 31)).toInt32 := sorry
theorem sh_s (v : Int32) {k : Nat} (hk : k + 1 < 32) : (v >>> (nI k &&& 31)) >>> ((1 : Int32) &&& 31) = v >>> (nI (k + 1) &&& 31) := sorry
theorem sh_lc (v : Int32) {k : Nat} (hk : k < 32) : (v <<< (nI k &&& 31)) < 0 ↔ bt v (31 - k) = true := sorry
theorem sh_uc (v : Int32) {k : Nat} (hk : k < 32) : ((v.toUInt32 >>> ((nI k).toUInt32 &&& Int32.toUInt32 31)).toInt32 &&& 1 = 0) ↔ bt v k = false := sorry
theorem sh_sc (v : Int32) {k : Nat} (hk : k < 32) : ((v >>> (nI k &&& 31)) &&& 1 = 0) ↔ bt v k = false := sorry
end
section
/-! memory: the two-level look-up, one access, byte by byte; X and Y in lockstep -/
def ar_cz (p : Int32) : Int32 := if p = 0 then 0 else (-2147483648)
theorem ar_cz0 {p : Int32} (h : p = 0) : ar_cz p = 0 := sorry
theorem ar_cz1 {p : Int32} (h : ¬ p = 0) : ¬ ar_cz p = 0 := sorry
/-- size and cr3 -/
def mm_ok (size cr3 : Int32) : Prop := ∃ S q : Nat, size = nI S ∧ 2 ≤ S ∧ S ≤ 1024 ∧ S % 2 = 0 ∧ cr3 = nI (2 * q) ∧ q < 512
def mm_mark (m : Nat → Int32) (d t : Nat) (k : Int32) : Nat → Int32 :=
  upd (upd m d ((m d ||| 8).toInt8.toInt32)) t (((upd m d ((m d ||| 8).toInt8.toInt32)) t ||| k).toInt8.toInt32)
theorem mm_markY (m : Nat → Int32) (d t : Nat) (k : Int32) (hk : ∀ x : Int32, (x ||| k) &&& 255 = (x &&& 255) ||| k) :
    ar_ym (mm_mark m d t k) = upd (upd (ar_ym m) d (ar_ym m d ||| 8)) t ((upd (ar_ym m) d (ar_ym m d ||| 8)) t ||| k) := sorry
theorem mm_even (x : Int32) : ∃ j : Nat, j < 64 ∧ x &&& 1008 = nI (2 * (8 * j)) := sorry
theorem mm_two (x : Int32) : ∃ j : Nat, j < 8 ∧ 2 * (x &&& 7) = nI (2 * j) := sorry
section
variable {size eip flags paging cr2 cr3 cr4 cr5 cpl state pending deliveries lastVector lastError portTotal portKept nxt returnTo raised raisedError directoryAt tableAt code form width mod regField rm linear immediate operand : Int32} {memory general ports mapped words : Nat → Int32} {y_faultError y_startEip y_op y_mod y_reg y_rm y_address y_imm : Int32} {y_old y_ports : Nat → Int32} {y_place : Nat → Int64}
theorem mm_half {S p : Nat} (hS : size = nI S) (hS2 : S ≤ 1024) (hSe : S % 2 = 0) (h2 : 2 ≤ S) (hp : p % 2 = 0) (hp2 : p < 4096) : ∃ h : Int32, (∀ post : Int32 → Prop, post h → wpX_halfWord post (size, eip, flags, paging, cr2, cr3, cr4, cr5, cpl, state, pending, deliveries, lastVector, lastError, portTotal, portKept, nxt, returnTo, raised, raisedError, directoryAt, tableAt, code, form, width, mod, regField, rm, linear, immediate, operand, memory, general, ports, mapped, words) (nI p)) ∧ (∀ post : Int32 → Prop, post h → wpY_half post (size, eip, flags, (ar_cz paging), cr2, cr3, cr4, cr5, cpl, state, pending, deliveries, lastVector, lastError, portTotal, raised, y_faultError, y_startEip, nxt, y_op, y_mod, y_reg, y_rm, y_address, y_imm, (ar_ym memory), general, y_old, y_ports, y_place) (nI p)) ∧ (S ≤ p → h = 0) := sorry
theorem mm_walk (hok : mm_ok size cr3) (a w l : Int32) : ∃ (r : Int64) (d t : Int32) (m' : Nat → Int32),
    (∀ post : Int64 → SX → Prop, post r (size, eip, flags, paging, cr2, cr3, cr4, cr5, cpl, state, pending, deliveries, lastVector, lastError, portTotal, portKept, nxt, returnTo, raised, raisedError, d, t, code, form, width, mod, regField, rm, linear, immediate, operand, memory, general, ports, mapped, words) → wpX_lookUp post (size, eip, flags, paging, cr2, cr3, cr4, cr5, cpl, state, pending, deliveries, lastVector, lastError, portTotal, portKept, nxt, returnTo, raised, raisedError, directoryAt, tableAt, code, form, width, mod, regField, rm, linear, immediate, operand, memory, general, ports, mapped, words) a w l) ∧
    (∀ post : Int64 → SY → Prop, post r (size, eip, flags, (ar_cz paging), cr2, cr3, cr4, cr5, cpl, state, pending, deliveries, lastVector, lastError, portTotal, raised, y_faultError, y_startEip, nxt, y_op, y_mod, y_reg, y_rm, y_address, y_imm, ar_ym m', general, y_old, y_ports, y_place) → wpY_walk post (size, eip, flags, (ar_cz paging), cr2, cr3, cr4, cr5, cpl, state, pending, deliveries, lastVector, lastError, portTotal, raised, y_faultError, y_startEip, nxt, y_op, y_mod, y_reg, y_rm, y_address, y_imm, (ar_ym memory), general, y_old, y_ports, y_place) a w l 1) ∧
    (∀ post : Int64 → SY → Prop, post r (size, eip, flags, (ar_cz paging), cr2, cr3, cr4, cr5, cpl, state, pending, deliveries, lastVector, lastError, portTotal, raised, y_faultError, y_startEip, nxt, y_op, y_mod, y_reg, y_rm, y_address, y_imm, (ar_ym memory), general, y_old, y_ports, y_place) → wpY_walk post (size, eip, flags, (ar_cz paging), cr2, cr3, cr4, cr5, cpl, state, pending, deliveries, lastVector, lastError, portTotal, raised, y_faultError, y_startEip, nxt, y_op, y_mod, y_reg, y_rm, y_address, y_imm, (ar_ym memory), general, y_old, y_ports, y_place) a w l 0) ∧
    (((r = -1 ∨ r = -2) ∧ m' = memory) ∨ ((∃ p : Nat, p < 2 ^ 32 ∧ r = lN p) ∧ ((paging = 0 ∧ m' = memory) ∨ (¬ paging = 0 ∧ vp_in d 1024 ∧ vp_in t 1024 ∧ m' = mm_mark memory d.toNatClampNeg t.toNatClampNeg (if w = 0 then 8 else 24))))) := sorry
end
end
section
/-! one access: map ~ reach, then the bytes -/
/-- the places of the bytes: the component's ints, the reference's longs -/
def mm_PL (mp : Nat → Int32) (pl : Nat → Int64) (n : Nat) : Prop := ∀ j, j < n → ∃ p : Nat, p < 2 ^ 32 ∧ mp j = nI p ∧ pl j = lN p
theorem mm_PL0 (mp : Nat → Int32) (pl : Nat → Int64) : mm_PL mp pl 0 := sorry
theorem mm_PLs {mp : Nat → Int32} {pl : Nat → Int64} {n p : Nat} (h : mm_PL mp pl n) (hp : p < 2 ^ 32) : mm_PL (upd mp n (nI p)) (vp_updL pl n (lN p)) (n + 1) := sorry
theorem mm_and3 : ∀ i, i < 4 → nI i &&& 3 = nI i := sorry
theorem mm_neg {r : Int64} (h : r = -1 ∨ r = -2) : ¬ 0 ≤ r := sorry
theorem mm_nonneg {p : Nat} (h : p < 2 ^ 32) : (0 : Int64) ≤ lN p := sorry
section
variable {size eip flags paging cr2 cr3 cr4 cr5 cpl state pending deliveries lastVector lastError portTotal portKept nxt returnTo raised raisedError directoryAt tableAt code form width mod regField rm linear immediate operand : Int32} {memory general ports mapped words : Nat → Int32} {y_faultError y_startEip y_op y_mod y_reg y_rm y_address y_imm : Int32} {y_old y_ports : Nat → Int32} {y_place : Nat → Int64}
theorem mm_mapL (hok : mm_ok size cr3) (a w l : Int32) {c : Nat} (hc : c ≤ 4) : ∀ (d i : Nat), i + d = c → ∀ (memory mapped : Nat → Int32) (directoryAt tableAt : Int32) (y_place : Nat → Int64), mm_PL mapped y_place i →
    (∃ (m' mp' : Nat → Int32) (dA tA : Int32) (pl' : Nat → Int64),
      (∀ post : SX → Prop, post (size, eip, flags, paging, cr2, cr3, cr4, cr5, cpl, state, pending, deliveries, lastVector, lastError, portTotal, portKept, nxt, returnTo, -1, raisedError, dA, tA, code, form, width, mod, regField, rm, linear, immediate, operand, m', general, ports, mp', words) → wX_map_3 post a (nI c) w l (d + 1) (nI i) size eip flags paging cr2 cr3 cr4 cr5 cpl state pending deliveries lastVector lastError portTotal portKept nxt returnTo (-1) raisedError directoryAt tableAt code form width mod regField rm linear immediate operand memory general ports mapped words) ∧
      (∀ post : Int32 → SY → Prop, post 1 (size, eip, flags, (ar_cz paging), cr2, cr3, cr4, cr5, cpl, state, pending, deliveries, lastVector, lastError, portTotal, -1, y_faultError, y_startEip, nxt, y_op, y_mod, y_reg, y_rm, y_address, y_imm, ar_ym m', general, y_old, y_ports, pl') → wY_reach_3 post a (nI c) w l (d + 1) (nI i) size eip flags (ar_cz paging) cr2 cr3 cr4 cr5 cpl state pending deliveries lastVector lastError portTotal (-1) y_faultError y_startEip nxt y_op y_mod y_reg y_rm y_address y_imm (ar_ym memory) general y_old y_ports y_place) ∧ mm_PL mp' pl' c) ∨
    (∃ (m' mp' : Nat → Int32) (dA tA cr er : Int32) (pl' : Nat → Int64),
      (∀ post : SX → Prop, post (size, eip, flags, paging, cr, cr3, cr4, cr5, cpl, state, pending, deliveries, lastVector, lastError, portTotal, portKept, nxt, returnTo, 14, er, dA, tA, code, form, width, mod, regField, rm, linear, immediate, operand, m', general, ports, mp', words) → wX_map_3 post a (nI c) w l (d + 1) (nI i) size eip flags paging cr2 cr3 cr4 cr5 cpl state pending deliveries lastVector lastError portTotal portKept nxt returnTo (-1) raisedError directoryAt tableAt code form width mod regField rm linear immediate operand memory general ports mapped words) ∧
      (∀ post : Int32 → SY → Prop, post 0 (size, eip, flags, (ar_cz paging), cr, cr3, cr4, cr5, cpl, state, pending, deliveries, lastVector, lastError, portTotal, 14, er, y_startEip, nxt, y_op, y_mod, y_reg, y_rm, y_address, y_imm, ar_ym m', general, y_old, y_ports, pl') → wY_reach_3 post a (nI c) w l (d + 1) (nI i) size eip flags (ar_cz paging) cr2 cr3 cr4 cr5 cpl state pending deliveries lastVector lastError portTotal (-1) y_faultError y_startEip nxt y_op y_mod y_reg y_rm y_address y_imm (ar_ym memory) general y_old y_ports y_place) ∧ 0 ≤ er) := sorry
/-- one access of c bytes -/
theorem mm_map (hok : mm_ok size cr3) (a w l : Int32) {c : Nat} (hc : c ≤ 4) :
    (∃ (m' mp' : Nat → Int32) (dA tA : Int32) (pl' : Nat → Int64),
      (∀ post : SX → Prop, post (size, eip, flags, paging, cr2, cr3, cr4, cr5, cpl, state, pending, deliveries, lastVector, lastError, portTotal, portKept, nxt, returnTo, -1, raisedError, dA, tA, code, form, width, mod, regField, rm, linear, immediate, operand, m', general, ports, mp', words) → wpX_map post (size, eip, flags, paging, cr2, cr3, cr4, cr5, cpl, state, pending, deliveries, lastVector, lastError, portTotal, portKept, nxt, returnTo, -1, raisedError, directoryAt, tableAt, code, form, width, mod, regField, rm, linear, immediate, operand, memory, general, ports, mapped, words) a (nI c) w l) ∧
      (∀ post : Int32 → SY → Prop, post 1 (size, eip, flags, (ar_cz paging), cr2, cr3, cr4, cr5, cpl, state, pending, deliveries, lastVector, lastError, portTotal, -1, y_faultError, y_startEip, nxt, y_op, y_mod, y_reg, y_rm, y_address, y_imm, ar_ym m', general, y_old, y_ports, pl') → wpY_reach post (size, eip, flags, (ar_cz paging), cr2, cr3, cr4, cr5, cpl, state, pending, deliveries, lastVector, lastError, portTotal, -1, y_faultError, y_startEip, nxt, y_op, y_mod, y_reg, y_rm, y_address, y_imm, (ar_ym memory), general, y_old, y_ports, y_place) a (nI c) w l) ∧ mm_PL mp' pl' c) ∨
    (∃ (m' mp' : Nat → Int32) (dA tA cr er : Int32) (pl' : Nat → Int64),
      (∀ post : SX → Prop, post (size, eip, flags, paging, cr, cr3, cr4, cr5, cpl, state, pending, deliveries, lastVector, lastError, portTotal, portKept, nxt, returnTo, 14, er, dA, tA, code, form, width, mod, regField, rm, linear, immediate, operand, m', general, ports, mp', words) → wpX_map post (size, eip, flags, paging, cr2, cr3, cr4, cr5, cpl, state, pending, deliveries, lastVector, lastError, portTotal, portKept, nxt, returnTo, -1, raisedError, directoryAt, tableAt, code, form, width, mod, regField, rm, linear, immediate, operand, memory, general, ports, mapped, words) a (nI c) w l) ∧
      (∀ post : Int32 → SY → Prop, post 0 (size, eip, flags, (ar_cz paging), cr, cr3, cr4, cr5, cpl, state, pending, deliveries, lastVector, lastError, portTotal, 14, er, y_startEip, nxt, y_op, y_mod, y_reg, y_rm, y_address, y_imm, ar_ym m', general, y_old, y_ports, pl') → wpY_reach post (size, eip, flags, (ar_cz paging), cr2, cr3, cr4, cr5, cpl, state, pending, deliveries, lastVector, lastError, portTotal, -1, y_faultError, y_startEip, nxt, y_op, y_mod, y_reg, y_rm, y_address, y_imm, (ar_ym memory), general, y_old, y_ports, y_place) a (nI c) w l) ∧ 0 ≤ er) := sorry
end
end
section
/-! the bytes of an access: readMapped ~ readPlaces, writeMapped ~ writePlaces; fetch ~ next -/
theorem by_big {p S : Nat} (h : S ≤ p) (hp : p < 2 ^ 32) (hS : S ≤ 1024) : nI p < 0 ∨ (¬ nI p < 0 ∧ nI S ≤ nI p) := sorry
section
variable {size eip flags paging cr2 cr3 cr4 cr5 cpl state pending deliveries lastVector lastError portTotal portKept nxt returnTo raised raisedError directoryAt tableAt code form width mod regField rm linear immediate operand : Int32} {memory general ports mapped words : Nat → Int32} {y_faultError y_startEip y_op y_mod y_reg y_rm y_address y_imm : Int32} {y_old y_ports : Nat → Int32} {y_place : Nat → Int64}
theorem by_rstep {S c i : Nat} (hS : size = nI S) (hS2 : S ≤ 1024) (hc : c ≤ 4) (hi : i < c) (hP : mm_PL mapped y_place c) : ∃ b : Nat, b < 256 ∧
    (∀ (post : Int32 → Prop) (n : Nat) (x : Int32), wX_readMapped_4 post (nI c) size eip flags paging cr2 cr3 cr4 cr5 cpl state pending deliveries lastVector lastError portTotal portKept nxt returnTo raised raisedError directoryAt tableAt code form width mod regField rm linear immediate operand memory general ports mapped words n (x ||| (nI b <<< ((8 * nI i) &&& 31))) (nI (i + 1)) → wX_readMapped_4 post (nI c) size eip flags paging cr2 cr3 cr4 cr5 cpl state pending deliveries lastVector lastError portTotal portKept nxt returnTo raised raisedError directoryAt tableAt code form width mod regField rm linear immediate operand memory general ports mapped words (n + 1) x (nI i)) ∧
    (∀ (post : Int32 → Prop) (n : Nat) (x : Int32), wY_readPlaces_4 post (nI c) size eip flags (ar_cz paging) cr2 cr3 cr4 cr5 cpl state pending deliveries lastVector lastError portTotal raised y_faultError y_startEip nxt y_op y_mod y_reg y_rm y_address y_imm (ar_ym memory) general y_old y_ports y_place n (x ||| (nI b <<< ((8 * nI i) &&& 31))) (nI (i + 1)) → wY_readPlaces_4 post (nI c) size eip flags (ar_cz paging) cr2 cr3 cr4 cr5 cpl state pending deliveries lastVector lastError portTotal raised y_faultError y_startEip nxt y_op y_mod y_reg y_rm y_address y_imm (ar_ym memory) general y_old y_ports y_place (n + 1) x (nI i)) := sorry
theorem by_readL {S c : Nat} (hS : size = nI S) (hS2 : S ≤ 1024) (hc : c ≤ 4) (hP : mm_PL mapped y_place c) : ∀ (d i : Nat), i + d = c → ∀ x : Int32, ∃ v : Int32,
    (∀ post : Int32 → Prop, post v → wX_readMapped_4 post (nI c) size eip flags paging cr2 cr3 cr4 cr5 cpl state pending deliveries lastVector lastError portTotal portKept nxt returnTo raised raisedError directoryAt tableAt code form width mod regField rm linear immediate operand memory general ports mapped words (d + 1) x (nI i)) ∧
    (∀ post : Int32 → Prop, post v → wY_readPlaces_4 post (nI c) size eip flags (ar_cz paging) cr2 cr3 cr4 cr5 cpl state pending deliveries lastVector lastError portTotal raised y_faultError y_startEip nxt y_op y_mod y_reg y_rm y_address y_imm (ar_ym memory) general y_old y_ports y_place (d + 1) x (nI i)) := sorry
theorem by_read {c : Nat} (hok : mm_ok size cr3) (hc : c ≤ 4) (hP : mm_PL mapped y_place c) : ∃ v : Int32,
    (∀ post : Int32 → Prop, post v → wpX_readMapped post (size, eip, flags, paging, cr2, cr3, cr4, cr5, cpl, state, pending, deliveries, lastVector, lastError, portTotal, portKept, nxt, returnTo, raised, raisedError, directoryAt, tableAt, code, form, width, mod, regField, rm, linear, immediate, operand, memory, general, ports, mapped, words) (nI c)) ∧
    (∀ post : Int32 → Prop, post v → wpY_readPlaces post (size, eip, flags, (ar_cz paging), cr2, cr3, cr4, cr5, cpl, state, pending, deliveries, lastVector, lastError, portTotal, raised, y_faultError, y_startEip, nxt, y_op, y_mod, y_reg, y_rm, y_address, y_imm, (ar_ym memory), general, y_old, y_ports, y_place) (nI c)) := sorry
/-- one byte -/
theorem by_read1 (hok : mm_ok size cr3) (hP : mm_PL mapped y_place 1) : ∃ b : Nat, b < 256 ∧
    (∀ post : Int32 → Prop, post (nI b) → wpX_readMapped post (size, eip, flags, paging, cr2, cr3, cr4, cr5, cpl, state, pending, deliveries, lastVector, lastError, portTotal, portKept, nxt, returnTo, raised, raisedError, directoryAt, tableAt, code, form, width, mod, regField, rm, linear, immediate, operand, memory, general, ports, mapped, words) 1) ∧
    (∀ post : Int32 → Prop, post (nI b) → wpY_readPlaces post (size, eip, flags, (ar_cz paging), cr2, cr3, cr4, cr5, cpl, state, pending, deliveries, lastVector, lastError, portTotal, raised, y_faultError, y_startEip, nxt, y_op, y_mod, y_reg, y_rm, y_address, y_imm, (ar_ym memory), general, y_old, y_ports, y_place) 1) := sorry
theorem by_writeL {S c : Nat} (hS : size = nI S) (hS2 : S ≤ 1024) (hc : c ≤ 4) (hP : mm_PL mapped y_place c) (x y : Int32)
    (hv : ∀ i, i < c → ((x.toUInt32 >>> ((8 * nI i).toUInt32 &&& Int32.toUInt32 31)).toInt32) &&& 255 = ((y.toUInt32 >>> ((8 * nI i).toUInt32 &&& Int32.toUInt32 31)).toInt32) &&& 255) : ∀ (d i : Nat), i + d = c → ∀ memory : Nat → Int32, ∃ m' : Nat → Int32,
    (∀ post : SX → Prop, post (size, eip, flags, paging, cr2, cr3, cr4, cr5, cpl, state, pending, deliveries, lastVector, lastError, portTotal, portKept, nxt, returnTo, raised, raisedError, directoryAt, tableAt, code, form, width, mod, regField, rm, linear, immediate, operand, m', general, ports, mapped, words) → wX_writeMapped_2 post x (nI c) size eip flags paging cr2 cr3 cr4 cr5 cpl state pending deliveries lastVector lastError portTotal portKept nxt returnTo raised raisedError directoryAt tableAt code form width mod regField rm linear immediate operand (d + 1) (nI i) memory general ports mapped words) ∧
    (∀ post : SY → Prop, post (size, eip, flags, (ar_cz paging), cr2, cr3, cr4, cr5, cpl, state, pending, deliveries, lastVector, lastError, portTotal, raised, y_faultError, y_startEip, nxt, y_op, y_mod, y_reg, y_rm, y_address, y_imm, ar_ym m', general, y_old, y_ports, y_place) → wY_writePlaces_2 post (nI c) y size eip flags (ar_cz paging) cr2 cr3 cr4 cr5 cpl state pending deliveries lastVector lastError portTotal raised y_faultError y_startEip nxt y_op y_mod y_reg y_rm y_address y_imm (d + 1) (nI i) (ar_ym memory) general y_old y_ports y_place) := sorry
theorem by_write4 (hok : mm_ok size cr3) (hP : mm_PL mapped y_place 4) (x : Int32) : ∃ m' : Nat → Int32,
    (∀ post : SX → Prop, post (size, eip, flags, paging, cr2, cr3, cr4, cr5, cpl, state, pending, deliveries, lastVector, lastError, portTotal, portKept, nxt, returnTo, raised, raisedError, directoryAt, tableAt, code, form, width, mod, regField, rm, linear, immediate, operand, m', general, ports, mapped, words) → wpX_writeMapped post (size, eip, flags, paging, cr2, cr3, cr4, cr5, cpl, state, pending, deliveries, lastVector, lastError, portTotal, portKept, nxt, returnTo, raised, raisedError, directoryAt, tableAt, code, form, width, mod, regField, rm, linear, immediate, operand, memory, general, ports, mapped, words) x 4) ∧
    (∀ post : SY → Prop, post (size, eip, flags, (ar_cz paging), cr2, cr3, cr4, cr5, cpl, state, pending, deliveries, lastVector, lastError, portTotal, raised, y_faultError, y_startEip, nxt, y_op, y_mod, y_reg, y_rm, y_address, y_imm, ar_ym m', general, y_old, y_ports, y_place) → wpY_writePlaces post (size, eip, flags, (ar_cz paging), cr2, cr3, cr4, cr5, cpl, state, pending, deliveries, lastVector, lastError, portTotal, raised, y_faultError, y_startEip, nxt, y_op, y_mod, y_reg, y_rm, y_address, y_imm, (ar_ym memory), general, y_old, y_ports, y_place) 4 x) := sorry
theorem by_write1 (hok : mm_ok size cr3) (hP : mm_PL mapped y_place 1) (x y : Int32) (h : x &&& 255 = y &&& 255) : ∃ m' : Nat → Int32,
    (∀ post : SX → Prop, post (size, eip, flags, paging, cr2, cr3, cr4, cr5, cpl, state, pending, deliveries, lastVector, lastError, portTotal, portKept, nxt, returnTo, raised, raisedError, directoryAt, tableAt, code, form, width, mod, regField, rm, linear, immediate, operand, m', general, ports, mapped, words) → wpX_writeMapped post (size, eip, flags, paging, cr2, cr3, cr4, cr5, cpl, state, pending, deliveries, lastVector, lastError, portTotal, portKept, nxt, returnTo, raised, raisedError, directoryAt, tableAt, code, form, width, mod, regField, rm, linear, immediate, operand, memory, general, ports, mapped, words) x 1) ∧
    (∀ post : SY → Prop, post (size, eip, flags, (ar_cz paging), cr2, cr3, cr4, cr5, cpl, state, pending, deliveries, lastVector, lastError, portTotal, raised, y_faultError, y_startEip, nxt, y_op, y_mod, y_reg, y_rm, y_address, y_imm, ar_ym m', general, y_old, y_ports, y_place) → wpY_writePlaces post (size, eip, flags, (ar_cz paging), cr2, cr3, cr4, cr5, cpl, state, pending, deliveries, lastVector, lastError, portTotal, raised, y_faultError, y_startEip, nxt, y_op, y_mod, y_reg, y_rm, y_address, y_imm, (ar_ym memory), general, y_old, y_ports, y_place) 1 y) := sorry
end
end
section
/-! fetch ~ next -/
section
variable {size eip flags paging cr2 cr3 cr4 cr5 cpl state pending deliveries lastVector lastError portTotal portKept nxt returnTo raised raisedError directoryAt tableAt code form width mod regField rm linear immediate operand : Int32} {memory general ports mapped words : Nat → Int32} {y_faultError y_startEip y_op y_mod y_reg y_rm y_address y_imm : Int32} {y_old y_ports : Nat → Int32} {y_place : Nat → Int64}
theorem ft_byte (hok : mm_ok size cr3) {c i : Nat} (hc : c ≤ 4) (hi : i < c) :
    (∃ (b : Nat) (m' mp' : Nat → Int32) (dA tA : Int32) (pl' : Nat → Int64), b < 256 ∧
      (∀ (post : Int32 → SX → Prop) (n : Nat) (x : Int32), wX_fetch_4 post (nI c) n (x ||| (nI b <<< ((8 * nI i) &&& 31))) (nI (i + 1)) size eip flags paging cr2 cr3 cr4 cr5 cpl state pending deliveries lastVector lastError portTotal portKept (nxt + 1) returnTo (-1) raisedError dA tA code form width mod regField rm linear immediate operand m' general ports mp' words → wX_fetch_4 post (nI c) (n + 1) x (nI i) size eip flags paging cr2 cr3 cr4 cr5 cpl state pending deliveries lastVector lastError portTotal portKept nxt returnTo (-1) raisedError directoryAt tableAt code form width mod regField rm linear immediate operand memory general ports mapped words) ∧
      (∀ (post : Int32 → SY → Prop) (n : Nat) (x : Int32), wY_next_4 post (nI c) n (x ||| (nI b <<< ((8 * nI i) &&& 31))) (nI (i + 1)) size eip flags (ar_cz paging) cr2 cr3 cr4 cr5 cpl state pending deliveries lastVector lastError portTotal (-1) y_faultError y_startEip (nxt + 1) y_op y_mod y_reg y_rm y_address y_imm (ar_ym m') general y_old y_ports pl' → wY_next_4 post (nI c) (n + 1) x (nI i) size eip flags (ar_cz paging) cr2 cr3 cr4 cr5 cpl state pending deliveries lastVector lastError portTotal (-1) y_faultError y_startEip nxt y_op y_mod y_reg y_rm y_address y_imm (ar_ym memory) general y_old y_ports y_place)) ∨
    (∃ (m' mp' : Nat → Int32) (dA tA cr er : Int32) (pl' : Nat → Int64), 0 ≤ er ∧
      (∀ (post : Int32 → SX → Prop) (n : Nat) (x : Int32), post 0 (size, eip, flags, paging, cr, cr3, cr4, cr5, cpl, state, pending, deliveries, lastVector, lastError, portTotal, portKept, nxt, returnTo, 14, er, dA, tA, code, form, width, mod, regField, rm, linear, immediate, operand, m', general, ports, mp', words) → wX_fetch_4 post (nI c) (n + 1) x (nI i) size eip flags paging cr2 cr3 cr4 cr5 cpl state pending deliveries lastVector lastError portTotal portKept nxt returnTo (-1) raisedError directoryAt tableAt code form width mod regField rm linear immediate operand memory general ports mapped words) ∧
      (∀ (post : Int32 → SY → Prop) (n : Nat) (x : Int32), post (x ||| (0 <<< ((8 * nI i) &&& 31))) (size, eip, flags, (ar_cz paging), cr, cr3, cr4, cr5, cpl, state, pending, deliveries, lastVector, lastError, portTotal, 14, er, y_startEip, nxt, y_op, y_mod, y_reg, y_rm, y_address, y_imm, ar_ym m', general, y_old, y_ports, pl') → wY_next_4 post (nI c) (n + 2) x (nI i) size eip flags (ar_cz paging) cr2 cr3 cr4 cr5 cpl state pending deliveries lastVector lastError portTotal (-1) y_faultError y_startEip nxt y_op y_mod y_reg y_rm y_address y_imm (ar_ym memory) general y_old y_ports y_place)) := sorry
theorem ft_loop (hok : mm_ok size cr3) {c : Nat} (hc : c ≤ 4) : ∀ (d i : Nat), i + d = c → ∀ (memory mapped : Nat → Int32) (directoryAt tableAt nxt x : Int32) (y_place : Nat → Int64),
    (∃ (v : Int32) (m' mp' : Nat → Int32) (dA tA : Int32) (pl' : Nat → Int64),
      (∀ post : Int32 → SX → Prop, post v (size, eip, flags, paging, cr2, cr3, cr4, cr5, cpl, state, pending, deliveries, lastVector, lastError, portTotal, portKept, nxt + nI d, returnTo, -1, raisedError, dA, tA, code, form, width, mod, regField, rm, linear, immediate, operand, m', general, ports, mp', words) → wX_fetch_4 post (nI c) (d + 2) x (nI i) size eip flags paging cr2 cr3 cr4 cr5 cpl state pending deliveries lastVector lastError portTotal portKept nxt returnTo (-1) raisedError directoryAt tableAt code form width mod regField rm linear immediate operand memory general ports mapped words) ∧
      (∀ post : Int32 → SY → Prop, post v (size, eip, flags, (ar_cz paging), cr2, cr3, cr4, cr5, cpl, state, pending, deliveries, lastVector, lastError, portTotal, -1, y_faultError, y_startEip, nxt + nI d, y_op, y_mod, y_reg, y_rm, y_address, y_imm, ar_ym m', general, y_old, y_ports, pl') → wY_next_4 post (nI c) (d + 2) x (nI i) size eip flags (ar_cz paging) cr2 cr3 cr4 cr5 cpl state pending deliveries lastVector lastError portTotal (-1) y_faultError y_startEip nxt y_op y_mod y_reg y_rm y_address y_imm (ar_ym memory) general y_old y_ports y_place)) ∨
    (∃ (y nx : Int32) (m' mp' : Nat → Int32) (dA tA cr er : Int32) (pl' : Nat → Int64), 0 ≤ er ∧
      (∀ post : Int32 → SX → Prop, post 0 (size, eip, flags, paging, cr, cr3, cr4, cr5, cpl, state, pending, deliveries, lastVector, lastError, portTotal, portKept, nx, returnTo, 14, er, dA, tA, code, form, width, mod, regField, rm, linear, immediate, operand, m', general, ports, mp', words) → wX_fetch_4 post (nI c) (d + 2) x (nI i) size eip flags paging cr2 cr3 cr4 cr5 cpl state pending deliveries lastVector lastError portTotal portKept nxt returnTo (-1) raisedError directoryAt tableAt code form width mod regField rm linear immediate operand memory general ports mapped words) ∧
      (∀ post : Int32 → SY → Prop, post y (size, eip, flags, (ar_cz paging), cr, cr3, cr4, cr5, cpl, state, pending, deliveries, lastVector, lastError, portTotal, 14, er, y_startEip, nx, y_op, y_mod, y_reg, y_rm, y_address, y_imm, ar_ym m', general, y_old, y_ports, pl') → wY_next_4 post (nI c) (d + 2) x (nI i) size eip flags (ar_cz paging) cr2 cr3 cr4 cr5 cpl state pending deliveries lastVector lastError portTotal (-1) y_faultError y_startEip nxt y_op y_mod y_reg y_rm y_address y_imm (ar_ym memory) general y_old y_ports y_place)) := sorry
/-- c bytes of the instruction -/
theorem ft_fetch (hok : mm_ok size cr3) {c : Nat} (hc : c ≤ 4) :
    (∃ (v : Int32) (m' mp' : Nat → Int32) (dA tA : Int32) (pl' : Nat → Int64),
      (∀ post : Int32 → SX → Prop, post v (size, eip, flags, paging, cr2, cr3, cr4, cr5, cpl, state, pending, deliveries, lastVector, lastError, portTotal, portKept, nxt + nI c, returnTo, -1, raisedError, dA, tA, code, form, width, mod, regField, rm, linear, immediate, operand, m', general, ports, mp', words) → wpX_fetch post (size, eip, flags, paging, cr2, cr3, cr4, cr5, cpl, state, pending, deliveries, lastVector, lastError, portTotal, portKept, nxt, returnTo, -1, raisedError, directoryAt, tableAt, code, form, width, mod, regField, rm, linear, immediate, operand, memory, general, ports, mapped, words) (nI c)) ∧
      (∀ post : Int32 → SY → Prop, post v (size, eip, flags, (ar_cz paging), cr2, cr3, cr4, cr5, cpl, state, pending, deliveries, lastVector, lastError, portTotal, -1, y_faultError, y_startEip, nxt + nI c, y_op, y_mod, y_reg, y_rm, y_address, y_imm, ar_ym m', general, y_old, y_ports, pl') → wpY_next post (size, eip, flags, (ar_cz paging), cr2, cr3, cr4, cr5, cpl, state, pending, deliveries, lastVector, lastError, portTotal, -1, y_faultError, y_startEip, nxt, y_op, y_mod, y_reg, y_rm, y_address, y_imm, (ar_ym memory), general, y_old, y_ports, y_place) (nI c))) ∨
    (∃ (y nx : Int32) (m' mp' : Nat → Int32) (dA tA cr er : Int32) (pl' : Nat → Int64), 0 ≤ er ∧
      (∀ post : Int32 → SX → Prop, post 0 (size, eip, flags, paging, cr, cr3, cr4, cr5, cpl, state, pending, deliveries, lastVector, lastError, portTotal, portKept, nx, returnTo, 14, er, dA, tA, code, form, width, mod, regField, rm, linear, immediate, operand, m', general, ports, mp', words) → wpX_fetch post (size, eip, flags, paging, cr2, cr3, cr4, cr5, cpl, state, pending, deliveries, lastVector, lastError, portTotal, portKept, nxt, returnTo, -1, raisedError, directoryAt, tableAt, code, form, width, mod, regField, rm, linear, immediate, operand, memory, general, ports, mapped, words) (nI c)) ∧
      (∀ post : Int32 → SY → Prop, post y (size, eip, flags, (ar_cz paging), cr, cr3, cr4, cr5, cpl, state, pending, deliveries, lastVector, lastError, portTotal, 14, er, y_startEip, nx, y_op, y_mod, y_reg, y_rm, y_address, y_imm, ar_ym m', general, y_old, y_ports, pl') → wpY_next post (size, eip, flags, (ar_cz paging), cr2, cr3, cr4, cr5, cpl, state, pending, deliveries, lastVector, lastError, portTotal, -1, y_faultError, y_startEip, nxt, y_op, y_mod, y_reg, y_rm, y_address, y_imm, (ar_ym memory), general, y_old, y_ports, y_place) (nI c))) := sorry
/-- one byte of the instruction -/
theorem ft_fetch1 (hok : mm_ok size cr3) :
    (∃ (b : Nat) (m' mp' : Nat → Int32) (dA tA : Int32) (pl' : Nat → Int64), b < 256 ∧
      (∀ post : Int32 → SX → Prop, post (nI b) (size, eip, flags, paging, cr2, cr3, cr4, cr5, cpl, state, pending, deliveries, lastVector, lastError, portTotal, portKept, nxt + 1, returnTo, -1, raisedError, dA, tA, code, form, width, mod, regField, rm, linear, immediate, operand, m', general, ports, mp', words) → wpX_fetch post (size, eip, flags, paging, cr2, cr3, cr4, cr5, cpl, state, pending, deliveries, lastVector, lastError, portTotal, portKept, nxt, returnTo, -1, raisedError, directoryAt, tableAt, code, form, width, mod, regField, rm, linear, immediate, operand, memory, general, ports, mapped, words) 1) ∧
      (∀ post : Int32 → SY → Prop, post (nI b) (size, eip, flags, (ar_cz paging), cr2, cr3, cr4, cr5, cpl, state, pending, deliveries, lastVector, lastError, portTotal, -1, y_faultError, y_startEip, nxt + 1, y_op, y_mod, y_reg, y_rm, y_address, y_imm, ar_ym m', general, y_old, y_ports, pl') → wpY_next post (size, eip, flags, (ar_cz paging), cr2, cr3, cr4, cr5, cpl, state, pending, deliveries, lastVector, lastError, portTotal, -1, y_faultError, y_startEip, nxt, y_op, y_mod, y_reg, y_rm, y_address, y_imm, (ar_ym memory), general, y_old, y_ports, y_place) 1)) ∨
    (∃ (y nx : Int32) (m' mp' : Nat → Int32) (dA tA cr er : Int32) (pl' : Nat → Int64), 0 ≤ er ∧
      (∀ post : Int32 → SX → Prop, post 0 (size, eip, flags, paging, cr, cr3, cr4, cr5, cpl, state, pending, deliveries, lastVector, lastError, portTotal, portKept, nx, returnTo, 14, er, dA, tA, code, form, width, mod, regField, rm, linear, immediate, operand, m', general, ports, mp', words) → wpX_fetch post (size, eip, flags, paging, cr2, cr3, cr4, cr5, cpl, state, pending, deliveries, lastVector, lastError, portTotal, portKept, nxt, returnTo, -1, raisedError, directoryAt, tableAt, code, form, width, mod, regField, rm, linear, immediate, operand, memory, general, ports, mapped, words) 1) ∧
      (∀ post : Int32 → SY → Prop, post y (size, eip, flags, (ar_cz paging), cr, cr3, cr4, cr5, cpl, state, pending, deliveries, lastVector, lastError, portTotal, 14, er, y_startEip, nx, y_op, y_mod, y_reg, y_rm, y_address, y_imm, ar_ym m', general, y_old, y_ports, pl') → wpY_next post (size, eip, flags, (ar_cz paging), cr2, cr3, cr4, cr5, cpl, state, pending, deliveries, lastVector, lastError, portTotal, -1, y_faultError, y_startEip, nxt, y_op, y_mod, y_reg, y_rm, y_address, y_imm, (ar_ym memory), general, y_old, y_ports, y_place) 1)) := sorry
end
end
section
/-! the tables of forms, by a program of mine out of the printed predicates -/
theorem tb_i {c : Prop} [Decidable c] (P : Int32 → Prop) {a b : Int32} {A B : Prop} (h : P (if c then a else b)) (f : P a → A) (g : P b → B) : (c → A) ∧ (¬ c → B) := sorry
def tb_aluFormOf (p0 : Int32) : Int32 := (if p0 < 0 then 0 else (if 5 < p0 then 0 else (if p0 = 0 then 1 else (if p0 = 1 then 1 else (if p0 = 2 then 2 else (if p0 = 3 then 2 else (if p0 = 4 then 3 else (if p0 = 5 then 3 else 0))))))))
theorem tb_aluFormOf_w (post : Int32 → Prop) (p0 : Int32) (h : post (tb_aluFormOf p0)) : wpX_aluFormOf post p0 := sorry
def tb_secondByteFormOf (p0 : Int32) : Int32 := (if p0 = 288 then 41 else (if p0 = 290 then 42 else (if p0 = 431 then 13 else (if p0 = 438 then 20 else (if p0 = 676 then 34 else (if p0 = 682 then 35 else (if (p0 &&& (-16)) = 384 then 26 else (if (p0 &&& (-16)) = 400 then 21 else 0))))))))
theorem tb_secondByteFormOf_w (post : Int32 → Prop) (p0 : Int32) (h : post (tb_secondByteFormOf p0)) : wpX_secondByteFormOf post p0 := sorry
def tb_singleFormOf (p0 : Int32) : Int32 := (if p0 < 104 then 0 else (if 255 < p0 then 0 else (if p0 = 104 then 23 else (if p0 = 105 then 0 else (if p0 = 106 then 23 else (if p0 = 107 then 0 else (if p0 = 108 then 0 else (if p0 = 109 then 0 else (if p0 = 110 then 0 else (if p0 = 111 then 0 else (if p0 = 112 then 0 else (if p0 = 113 then 0 else (if p0 = 114 then 0 else (if p0 = 115 then 0 else (if p0 = 116 then 0 else (if p0 = 117 then 0 else (if p0 = 118 then 0 else (if p0 = 119 then 0 else (if p0 = 120 then 0 else (if p0 = 121 then 0 else (if p0 = 122 then 0 else (if p0 = 123 then 0 else (if p0 = 124 then 0 else (if p0 = 125 then 0 else (if p0 = 126 then 0 else (if p0 = 127 then 0 else (if p0 = 128 then 4 else (if p0 = 129 then 4 else (if p0 = 130 then 0 else (if p0 = 131 then 4 else (if p0 = 132 then 5 else (if p0 = 133 then 5 else (if p0 = 134 then 0 else (if p0 = 135 then 0 else (if p0 = 136 then 15 else (if p0 = 137 then 15 else (if p0 = 138 then 16 else (if p0 = 139 then 16 else (if p0 = 140 then 0 else (if p0 = 141 then 19 else (if p0 = 142 then 0 else (if p0 = 143 then 0 else (if p0 = 144 then 36 else (if p0 = 145 then 0 else (if p0 = 146 then 0 else (if p0 = 147 then 0 else (if p0 = 148 then 0 else (if p0 = 149 then 0 else (if p0 = 150 then 0 else (if p0 = 151 then 0 else (if p0 = 152 then 0 else (if p0 = 153 then 14 else (if p0 = 154 then 0 else (if p0 = 155 then 0 else (if p0 = 156 then 0 else (if p0 = 157 then 0 else (if p0 = 158 then 0 else (if p0 = 159 then 0 else (if p0 = 160 then 0 else (if p0 = 161 then 0 else (if p0 = 162 then 0 else (if p0 = 163 then 0 else (if p0 = 164 then 34 else (if p0 = 165 then 0 else (if p0 = 166 then 0 else (if p0 = 167 then 0 else (if p0 = 168 then 0 else (if p0 = 169 then 0 else (if p0 = 170 then 35 else (if p0 = 171 then 0 else (if p0 = 172 then 0 else (if p0 = 173 then 0 else (if p0 = 174 then 0 else (if p0 = 175 then 0 else (if p0 = 176 then 0 else (if p0 = 177 then 0 else (if p0 = 178 then 0 else (if p0 = 179 then 0 else (if p0 = 180 then 0 else (if p0 = 181 then 0 else (if p0 = 182 then 0 else (if p0 = 183 then 0 else (if p0 = 184 then 0 else (if p0 = 185 then 0 else (if p0 = 186 then 0 else (if p0 = 187 then 0 else (if p0 = 188 then 0 else (if p0 = 189 then 0 else (if p0 = 190 then 0 else (if p0 = 191 then 0 else (if p0 = 192 then 0 else (if p0 = 193 then 8 else (if p0 = 194 then 0 else (if p0 = 195 then 31 else (if p0 = 196 then 0 else (if p0 = 197 then 0 else (if p0 = 198 then 18 else (if p0 = 199 then 18 else (if p0 = 200 then 0 else (if p0 = 201 then 0 else (if p0 = 202 then 0 else (if p0 = 203 then 0 else (if p0 = 204 then 32 else (if p0 = 205 then 32 else (if p0 = 206 then 0 else (if p0 = 207 then 33 else (if p0 = 208 then 0 else (if p0 = 209 then 8 else (if p0 = 210 then 0 else (if p0 = 211 then 8 else (if p0 = 212 then 0 else (if p0 = 213 then 0 else (if p0 = 214 then 0 else (if p0 = 215 then 0 else (if p0 = 216 then 0 else (if p0 = 217 then 0 else (if p0 = 218 then 0 else (if p0 = 219 then 0 else (if p0 = 220 then 0 else (if p0 = 221 then 0 else (if p0 = 222 then 0 else (if p0 = 223 then 0 else (if p0 = 224 then 0 else (if p0 = 225 then 0 else (if p0 = 226 then 0 else (if p0 = 227 then 0 else (if p0 = 228 then 0 else (if p0 = 229 then 0 else (if p0 = 230 then 39 else (if p0 = 231 then 0 else (if p0 = 232 then 29 else (if p0 = 233 then 27 else (if p0 = 234 then 0 else (if p0 = 235 then 27 else (if p0 = 236 then 0 else (if p0 = 237 then 0 else (if p0 = 238 then 0 else (if p0 = 239 then 0 else (if p0 = 240 then 0 else (if p0 = 241 then 0 else (if p0 = 242 then 0 else (if p0 = 243 then 0 else (if p0 = 244 then 40 else (if p0 = 245 then 37 else (if p0 = 246 then 0 else (if p0 = 247 then 44 else (if p0 = 248 then 37 else (if p0 = 249 then 37 else (if p0 = 250 then 38 else (if p0 = 251 then 38 else (if p0 = 252 then 37 else (if p0 = 253 then 37 else (if p0 = 254 then 0 else (if p0 = 255 then 43 else 0))))))))))))))))))))))))))))))))))))))))))))))))))))))))))))))))))))))))))))))))))))))))))))))))))))))))))))))))))))))))))))))))))))))))))))))))))))))))))
theorem tb_singleFormOf_w (post : Int32 → Prop) (p0 : Int32) (h : post (tb_singleFormOf p0)) : wpX_singleFormOf post p0 := sorry
def tb_formOf (p0 : Int32) : Int32 := (if 64 ≤ p0 then (if p0 < 256 then (if (p0 &&& 248) = 64 then 6 else (if (p0 &&& 248) = 72 then 6 else (if (p0 &&& 248) = 80 then 22 else (if (p0 &&& 248) = 88 then 25 else (if (p0 &&& 248) = 112 then 26 else (if (p0 &&& 248) = 120 then 26 else (if (p0 &&& 248) = 176 then 17 else (if (p0 &&& 248) = 184 then 17 else (tb_singleFormOf p0))))))))) else (tb_secondByteFormOf p0)) else (tb_aluFormOf (p0 &&& 7)))
theorem tb_formOf_w (post : Int32 → Prop) (p0 : Int32) (h : post (tb_formOf p0)) : wpX_formOf post p0 := sorry
def tb_widthOf (p0 p1 : Int32) : Int32 := (if p0 < 1 then 4 else (if 21 < p0 then 4 else (if p0 = 1 then (if (p1 &&& 1) = 0 then 1 else 4) else (if p0 = 2 then (if (p1 &&& 1) = 0 then 1 else 4) else (if p0 = 3 then (if (p1 &&& 1) = 0 then 1 else 4) else (if p0 = 4 then (if (p1 &&& 1) = 0 then 1 else 4) else (if p0 = 5 then (if (p1 &&& 1) = 0 then 1 else 4) else (if p0 = 6 then 4 else (if p0 = 7 then 4 else (if p0 = 8 then 4 else (if p0 = 9 then 4 else (if p0 = 10 then 4 else (if p0 = 11 then 4 else (if p0 = 12 then 4 else (if p0 = 13 then 4 else (if p0 = 14 then 4 else (if p0 = 15 then (if (p1 &&& 1) = 0 then 1 else 4) else (if p0 = 16 then (if (p1 &&& 1) = 0 then 1 else 4) else (if p0 = 17 then (if 184 ≤ p1 then 4 else 1) else (if p0 = 18 then (if (p1 &&& 1) = 0 then 1 else 4) else (if p0 = 19 then 4 else (if p0 = 20 then 1 else (if p0 = 21 then 1 else 0)))))))))))))))))))))))
theorem tb_widthOf_w (post : Int32 → Prop) (p0 p1 : Int32) (h : post (tb_widthOf p0 p1)) : wpX_widthOf post p0 p1 := sorry
def tb_allowedRegFields (p0 : Int32) : Int32 := (if p0 < 1 then 0 else (if 44 < p0 then 0 else (if p0 = 1 then 255 else (if p0 = 2 then 255 else (if p0 = 3 then 0 else (if p0 = 4 then 255 else (if p0 = 5 then 255 else (if p0 = 6 then 0 else (if p0 = 7 then 0 else (if p0 = 8 then 176 else (if p0 = 9 then 0 else (if p0 = 10 then 0 else (if p0 = 11 then 0 else (if p0 = 12 then 0 else (if p0 = 13 then 255 else (if p0 = 14 then 0 else (if p0 = 15 then 255 else (if p0 = 16 then 255 else (if p0 = 17 then 0 else (if p0 = 18 then 1 else (if p0 = 19 then 255 else (if p0 = 20 then 255 else (if p0 = 21 then 255 else (if p0 = 22 then 0 else (if p0 = 23 then 0 else (if p0 = 24 then 0 else (if p0 = 25 then 0 else (if p0 = 26 then 0 else (if p0 = 27 then 0 else (if p0 = 28 then 0 else (if p0 = 29 then 0 else (if p0 = 30 then 0 else (if p0 = 31 then 0 else (if p0 = 32 then 0 else (if p0 = 33 then 0 else (if p0 = 34 then 0 else (if p0 = 35 then 0 else (if p0 = 36 then 0 else (if p0 = 37 then 0 else (if p0 = 38 then 0 else (if p0 = 39 then 0 else (if p0 = 40 then 0 else (if p0 = 41 then 61 else (if p0 = 42 then 61 else (if p0 = 43 then 87 else (if p0 = 44 then 156 else 0))))))))))))))))))))))))))))))))))))))))))))))
theorem tb_allowedRegFields_w (post : Int32 → Prop) (p0 : Int32) (h : post (tb_allowedRegFields p0)) : wpX_allowedRegFields post p0 := sorry
def tb_memberOf (p0 p1 : Int32) : Int32 := (if p0 = 43 then (if p1 < 2 then 7 else (if 6 < p1 then 7 else (if p1 = 2 then 30 else (if p1 = 3 then 7 else (if p1 = 4 then 28 else (if p1 = 5 then 7 else (if p1 = 6 then 24 else 0))))))) else (if p0 = 44 then (if p1 < 2 then 12 else (if 4 < p1 then 12 else (if p1 = 2 then 9 else (if p1 = 3 then 10 else (if p1 = 4 then 11 else 0))))) else p0))
theorem tb_memberOf_w (post : Int32 → Prop) (p0 p1 : Int32) (h : post (tb_memberOf p0 p1)) : wpX_memberOf post p0 p1 := sorry
def tb_isPrivileged (p0 : Int32) : Int32 := (if p0 < 33 then 0 else (if 42 < p0 then 0 else (if p0 = 33 then 1 else (if p0 = 34 then 0 else (if p0 = 35 then 0 else (if p0 = 36 then 0 else (if p0 = 37 then 0 else (if p0 = 38 then 1 else (if p0 = 39 then 1 else (if p0 = 40 then 1 else (if p0 = 41 then 1 else (if p0 = 42 then 1 else 0))))))))))))
theorem tb_isPrivileged_w (post : Int32 → Prop) (p0 : Int32) (h : post (tb_isPrivileged p0)) : wpX_isPrivileged post p0 := sorry
section
variable {size eip flags paging cr2 cr3 cr4 cr5 cpl state pending deliveries lastVector lastError portTotal portKept nxt returnTo raised raisedError directoryAt tableAt code form width mod regField rm linear immediate operand : Int32} {memory general ports mapped words : Nat → Int32} {y_faultError y_startEip y_op y_mod y_reg y_rm y_address y_imm : Int32} {y_old y_ports : Nat → Int32} {y_place : Nat → Int64}
def tb_immediateBytes (form width code : Int32) : Int32 := (if form < 3 then 0 else (if 39 < form then 0 else (if form = 3 then width else (if form = 4 then (if code = 129 then 4 else 1) else (if form = 5 then 0 else (if form = 6 then 0 else (if form = 7 then 0 else (if form = 8 then (if code = 193 then 1 else 0) else (if form = 9 then 0 else (if form = 10 then 0 else (if form = 11 then 0 else (if form = 12 then 0 else (if form = 13 then 0 else (if form = 14 then 0 else (if form = 15 then 0 else (if form = 16 then 0 else (if form = 17 then width else (if form = 18 then width else (if form = 19 then 0 else (if form = 20 then 0 else (if form = 21 then 0 else (if form = 22 then 0 else (if form = 23 then (if code = 104 then 4 else 1) else (if form = 24 then 0 else (if form = 25 then 0 else (if form = 26 then (if 256 ≤ code then 4 else 1) else (if form = 27 then (if code = 235 then 1 else 4) else (if form = 28 then 0 else (if form = 29 then 4 else (if form = 30 then 0 else (if form = 31 then 0 else (if form = 32 then (if code = 205 then 1 else 0) else (if form = 33 then 0 else (if form = 34 then 0 else (if form = 35 then 0 else (if form = 36 then 0 else (if form = 37 then 0 else (if form = 38 then 0 else (if form = 39 then 1 else 0)))))))))))))))))))))))))))))))))))))))
theorem tb_immediateBytes_w (post : Int32 → Prop) (h : post (tb_immediateBytes form width code)) : wpX_immediateBytes post (size, eip, flags, paging, cr2, cr3, cr4, cr5, cpl, state, pending, deliveries, lastVector, lastError, portTotal, portKept, nxt, returnTo, raised, raisedError, directoryAt, tableAt, code, form, width, mod, regField, rm, linear, immediate, operand, memory, general, ports, mapped, words) := sorry
def tb_known_225Y (y_op : Int32) : Int32 := (if y_op < 247 then (if y_op < 104 then 0 else (if 245 < y_op then 0 else (if y_op = 104 then 1 else (if y_op = 105 then 0 else (if y_op = 106 then 1 else (if y_op = 107 then 0 else (if y_op = 108 then 0 else (if y_op = 109 then 0 else (if y_op = 110 then 0 else (if y_op = 111 then 0 else (if y_op = 112 then 0 else (if y_op = 113 then 0 else (if y_op = 114 then 0 else (if y_op = 115 then 0 else (if y_op = 116 then 0 else (if y_op = 117 then 0 else (if y_op = 118 then 0 else (if y_op = 119 then 0 else (if y_op = 120 then 0 else (if y_op = 121 then 0 else (if y_op = 122 then 0 else (if y_op = 123 then 0 else (if y_op = 124 then 0 else (if y_op = 125 then 0 else (if y_op = 126 then 0 else (if y_op = 127 then 0 else (if y_op = 128 then 1 else (if y_op = 129 then 1 else (if y_op = 130 then 0 else (if y_op = 131 then 1 else (if y_op = 132 then 1 else (if y_op = 133 then 1 else (if y_op = 134 then 0 else (if y_op = 135 then 0 else (if y_op = 136 then 1 else (if y_op = 137 then 1 else (if y_op = 138 then 1 else (if y_op = 139 then 1 else (if y_op = 140 then 0 else (if y_op = 141 then 1 else (if y_op = 142 then 0 else (if y_op = 143 then 0 else (if y_op = 144 then 1 else (if y_op = 145 then 0 else (if y_op = 146 then 0 else (if y_op = 147 then 0 else (if y_op = 148 then 0 else (if y_op = 149 then 0 else (if y_op = 150 then 0 else (if y_op = 151 then 0 else (if y_op = 152 then 0 else (if y_op = 153 then 1 else (if y_op = 154 then 0 else (if y_op = 155 then 0 else (if y_op = 156 then 0 else (if y_op = 157 then 0 else (if y_op = 158 then 0 else (if y_op = 159 then 0 else (if y_op = 160 then 0 else (if y_op = 161 then 0 else (if y_op = 162 then 0 else (if y_op = 163 then 0 else (if y_op = 164 then 1 else (if y_op = 165 then 0 else (if y_op = 166 then 0 else (if y_op = 167 then 0 else (if y_op = 168 then 0 else (if y_op = 169 then 0 else (if y_op = 170 then 1 else (if y_op = 171 then 0 else (if y_op = 172 then 0 else (if y_op = 173 then 0 else (if y_op = 174 then 0 else (if y_op = 175 then 0 else (if y_op = 176 then 0 else (if y_op = 177 then 0 else (if y_op = 178 then 0 else (if y_op = 179 then 0 else (if y_op = 180 then 0 else (if y_op = 181 then 0 else (if y_op = 182 then 0 else (if y_op = 183 then 0 else (if y_op = 184 then 0 else (if y_op = 185 then 0 else (if y_op = 186 then 0 else (if y_op = 187 then 0 else (if y_op = 188 then 0 else (if y_op = 189 then 0 else (if y_op = 190 then 0 else (if y_op = 191 then 0 else (if y_op = 192 then 0 else (if y_op = 193 then 1 else (if y_op = 194 then 0 else (if y_op = 195 then 1 else (if y_op = 196 then 0 else (if y_op = 197 then 0 else (if y_op = 198 then 1 else (if y_op = 199 then 1 else (if y_op = 200 then 0 else (if y_op = 201 then 0 else (if y_op = 202 then 0 else (if y_op = 203 then 0 else (if y_op = 204 then 1 else (if y_op = 205 then 1 else (if y_op = 206 then 0 else (if y_op = 207 then 1 else (if y_op = 208 then 0 else (if y_op = 209 then 1 else (if y_op = 210 then 0 else (if y_op = 211 then 1 else (if y_op = 212 then 0 else (if y_op = 213 then 0 else (if y_op = 214 then 0 else (if y_op = 215 then 0 else (if y_op = 216 then 0 else (if y_op = 217 then 0 else (if y_op = 218 then 0 else (if y_op = 219 then 0 else (if y_op = 220 then 0 else (if y_op = 221 then 0 else (if y_op = 222 then 0 else (if y_op = 223 then 0 else (if y_op = 224 then 0 else (if y_op = 225 then 0 else (if y_op = 226 then 0 else (if y_op = 227 then 0 else (if y_op = 228 then 0 else (if y_op = 229 then 0 else (if y_op = 230 then 1 else (if y_op = 231 then 0 else (if y_op = 232 then 1 else (if y_op = 233 then 1 else (if y_op = 234 then 0 else (if y_op = 235 then 1 else (if y_op = 236 then 0 else (if y_op = 237 then 0 else (if y_op = 238 then 0 else (if y_op = 239 then 0 else (if y_op = 240 then 0 else (if y_op = 241 then 0 else (if y_op = 242 then 0 else (if y_op = 243 then 0 else (if y_op = 244 then 1 else (if y_op = 245 then 1 else 0)))))))))))))))))))))))))))))))))))))))))))))))))))))))))))))))))))))))))))))))))))))))))))))))))))))))))))))))))))))))))))))))))))))))))))))))) else (if y_op = 247 then (if y_op = 248 then (if y_op = 249 then (if y_op < 250 then (if 253 < y_op then (if y_op = 255 then ((((1 ||| 1) ||| 1) ||| (0 &&& 0)) ||| 1) else ((((1 ||| 1) ||| 1) ||| (0 &&& 0)) ||| 0)) else (if y_op = 255 then ((((1 ||| 1) ||| 1) ||| (0 &&& 1)) ||| 1) else ((((1 ||| 1) ||| 1) ||| (0 &&& 1)) ||| 0))) else (if 253 < y_op then (if y_op = 255 then ((((1 ||| 1) ||| 1) ||| (1 &&& 0)) ||| 1) else ((((1 ||| 1) ||| 1) ||| (1 &&& 0)) ||| 0)) else (if y_op = 255 then ((((1 ||| 1) ||| 1) ||| (1 &&& 1)) ||| 1) else ((((1 ||| 1) ||| 1) ||| (1 &&& 1)) ||| 0)))) else (if y_op < 250 then (if 253 < y_op then (if y_op = 255 then ((((1 ||| 1) ||| 0) ||| (0 &&& 0)) ||| 1) else ((((1 ||| 1) ||| 0) ||| (0 &&& 0)) ||| 0)) else (if y_op = 255 then ((((1 ||| 1) ||| 0) ||| (0 &&& 1)) ||| 1) else ((((1 ||| 1) ||| 0) ||| (0 &&& 1)) ||| 0))) else (if 253 < y_op then (if y_op = 255 then ((((1 ||| 1) ||| 0) ||| (1 &&& 0)) ||| 1) else ((((1 ||| 1) ||| 0) ||| (1 &&& 0)) ||| 0)) else (if y_op = 255 then ((((1 ||| 1) ||| 0) ||| (1 &&& 1)) ||| 1) else ((((1 ||| 1) ||| 0) ||| (1 &&& 1)) ||| 0))))) else (if y_op = 249 then (if y_op < 250 then (if 253 < y_op then (if y_op = 255 then ((((1 ||| 0) ||| 1) ||| (0 &&& 0)) ||| 1) else ((((1 ||| 0) ||| 1) ||| (0 &&& 0)) ||| 0)) else (if y_op = 255 then ((((1 ||| 0) ||| 1) ||| (0 &&& 1)) ||| 1) else ((((1 ||| 0) ||| 1) ||| (0 &&& 1)) ||| 0))) else (if 253 < y_op then (if y_op = 255 then ((((1 ||| 0) ||| 1) ||| (1 &&& 0)) ||| 1) else ((((1 ||| 0) ||| 1) ||| (1 &&& 0)) ||| 0)) else (if y_op = 255 then ((((1 ||| 0) ||| 1) ||| (1 &&& 1)) ||| 1) else ((((1 ||| 0) ||| 1) ||| (1 &&& 1)) ||| 0)))) else (if y_op < 250 then (if 253 < y_op then (if y_op = 255 then ((((1 ||| 0) ||| 0) ||| (0 &&& 0)) ||| 1) else ((((1 ||| 0) ||| 0) ||| (0 &&& 0)) ||| 0)) else (if y_op = 255 then ((((1 ||| 0) ||| 0) ||| (0 &&& 1)) ||| 1) else ((((1 ||| 0) ||| 0) ||| (0 &&& 1)) ||| 0))) else (if 253 < y_op then (if y_op = 255 then ((((1 ||| 0) ||| 0) ||| (1 &&& 0)) ||| 1) else ((((1 ||| 0) ||| 0) ||| (1 &&& 0)) ||| 0)) else (if y_op = 255 then ((((1 ||| 0) ||| 0) ||| (1 &&& 1)) ||| 1) else ((((1 ||| 0) ||| 0) ||| (1 &&& 1)) ||| 0)))))) else (if y_op = 248 then (if y_op = 249 then (if y_op < 250 then (if 253 < y_op then (if y_op = 255 then ((((0 ||| 1) ||| 1) ||| (0 &&& 0)) ||| 1) else ((((0 ||| 1) ||| 1) ||| (0 &&& 0)) ||| 0)) else (if y_op = 255 then ((((0 ||| 1) ||| 1) ||| (0 &&& 1)) ||| 1) else ((((0 ||| 1) ||| 1) ||| (0 &&& 1)) ||| 0))) else (if 253 < y_op then (if y_op = 255 then ((((0 ||| 1) ||| 1) ||| (1 &&& 0)) ||| 1) else ((((0 ||| 1) ||| 1) ||| (1 &&& 0)) ||| 0)) else (if y_op = 255 then ((((0 ||| 1) ||| 1) ||| (1 &&& 1)) ||| 1) else ((((0 ||| 1) ||| 1) ||| (1 &&& 1)) ||| 0)))) else (if y_op < 250 then (if 253 < y_op then (if y_op = 255 then ((((0 ||| 1) ||| 0) ||| (0 &&& 0)) ||| 1) else ((((0 ||| 1) ||| 0) ||| (0 &&& 0)) ||| 0)) else (if y_op = 255 then ((((0 ||| 1) ||| 0) ||| (0 &&& 1)) ||| 1) else ((((0 ||| 1) ||| 0) ||| (0 &&& 1)) ||| 0))) else (if 253 < y_op then (if y_op = 255 then ((((0 ||| 1) ||| 0) ||| (1 &&& 0)) ||| 1) else ((((0 ||| 1) ||| 0) ||| (1 &&& 0)) ||| 0)) else (if y_op = 255 then ((((0 ||| 1) ||| 0) ||| (1 &&& 1)) ||| 1) else ((((0 ||| 1) ||| 0) ||| (1 &&& 1)) ||| 0))))) else (if y_op = 249 then (if y_op < 250 then (if 253 < y_op then (if y_op = 255 then ((((0 ||| 0) ||| 1) ||| (0 &&& 0)) ||| 1) else ((((0 ||| 0) ||| 1) ||| (0 &&& 0)) ||| 0)) else (if y_op = 255 then ((((0 ||| 0) ||| 1) ||| (0 &&& 1)) ||| 1) else ((((0 ||| 0) ||| 1) ||| (0 &&& 1)) ||| 0))) else (if 253 < y_op then (if y_op = 255 then ((((0 ||| 0) ||| 1) ||| (1 &&& 0)) ||| 1) else ((((0 ||| 0) ||| 1) ||| (1 &&& 0)) ||| 0)) else (if y_op = 255 then ((((0 ||| 0) ||| 1) ||| (1 &&& 1)) ||| 1) else ((((0 ||| 0) ||| 1) ||| (1 &&& 1)) ||| 0)))) else (if y_op < 250 then (if 253 < y_op then (if y_op = 255 then ((((0 ||| 0) ||| 0) ||| (0 &&& 0)) ||| 1) else ((((0 ||| 0) ||| 0) ||| (0 &&& 0)) ||| 0)) else (if y_op = 255 then ((((0 ||| 0) ||| 0) ||| (0 &&& 1)) ||| 1) else ((((0 ||| 0) ||| 0) ||| (0 &&& 1)) ||| 0))) else (if 253 < y_op then (if y_op = 255 then ((((0 ||| 0) ||| 0) ||| (1 &&& 0)) ||| 1) else ((((0 ||| 0) ||| 0) ||| (1 &&& 0)) ||| 0)) else (if y_op = 255 then ((((0 ||| 0) ||| 0) ||| (1 &&& 1)) ||| 1) else ((((0 ||| 0) ||| 0) ||| (1 &&& 1)) ||| 0))))))))
theorem tb_known_225Y_w (post : Int32 → Prop) (h : post (tb_known_225Y y_op)) : wY_known_225 post size eip flags (ar_cz paging) cr2 cr3 cr4 cr5 cpl state pending deliveries lastVector lastError portTotal raised y_faultError y_startEip nxt y_op y_mod y_reg y_rm y_address y_imm (ar_ym memory) general y_old y_ports y_place := sorry
def tb_known_203Y (y_op : Int32) : Int32 := (if y_op < 176 then (tb_known_225Y y_op) else (if 192 ≤ y_op then (tb_known_225Y y_op) else 1))
theorem tb_known_203Y_w (post : Int32 → Prop) (h : post (tb_known_203Y y_op)) : wY_known_203 post size eip flags (ar_cz paging) cr2 cr3 cr4 cr5 cpl state pending deliveries lastVector lastError portTotal raised y_faultError y_startEip nxt y_op y_mod y_reg y_rm y_address y_imm (ar_ym memory) general y_old y_ports y_place := sorry
def tb_knownY (y_op : Int32) : Int32 := (if y_op < 512 then (if y_op < 256 then (if 64 ≤ y_op then (if y_op < 96 then 1 else (if y_op < 112 then (tb_known_203Y y_op) else (if y_op < 128 then 1 else (tb_known_203Y y_op)))) else (if 6 ≤ (y_op &&& 7) then 0 else 1)) else (if y_op < 384 then (if 415 < y_op then (if y_op = 438 then (if y_op = 431 then (if y_op = 288 then (if y_op = 290 then (((((0 &&& 0) ||| 1) ||| 1) ||| 1) ||| 1) else (((((0 &&& 0) ||| 1) ||| 1) ||| 1) ||| 0)) else (if y_op = 290 then (((((0 &&& 0) ||| 1) ||| 1) ||| 0) ||| 1) else (((((0 &&& 0) ||| 1) ||| 1) ||| 0) ||| 0))) else (if y_op = 288 then (if y_op = 290 then (((((0 &&& 0) ||| 1) ||| 0) ||| 1) ||| 1) else (((((0 &&& 0) ||| 1) ||| 0) ||| 1) ||| 0)) else (if y_op = 290 then (((((0 &&& 0) ||| 1) ||| 0) ||| 0) ||| 1) else (((((0 &&& 0) ||| 1) ||| 0) ||| 0) ||| 0)))) else (if y_op = 431 then (if y_op = 288 then (if y_op = 290 then (((((0 &&& 0) ||| 0) ||| 1) ||| 1) ||| 1) else (((((0 &&& 0) ||| 0) ||| 1) ||| 1) ||| 0)) else (if y_op = 290 then (((((0 &&& 0) ||| 0) ||| 1) ||| 0) ||| 1) else (((((0 &&& 0) ||| 0) ||| 1) ||| 0) ||| 0))) else (if y_op = 288 then (if y_op = 290 then (((((0 &&& 0) ||| 0) ||| 0) ||| 1) ||| 1) else (((((0 &&& 0) ||| 0) ||| 0) ||| 1) ||| 0)) else (if y_op = 290 then (((((0 &&& 0) ||| 0) ||| 0) ||| 0) ||| 1) else (((((0 &&& 0) ||| 0) ||| 0) ||| 0) ||| 0))))) else (if y_op = 438 then (if y_op = 431 then (if y_op = 288 then (if y_op = 290 then (((((0 &&& 1) ||| 1) ||| 1) ||| 1) ||| 1) else (((((0 &&& 1) ||| 1) ||| 1) ||| 1) ||| 0)) else (if y_op = 290 then (((((0 &&& 1) ||| 1) ||| 1) ||| 0) ||| 1) else (((((0 &&& 1) ||| 1) ||| 1) ||| 0) ||| 0))) else (if y_op = 288 then (if y_op = 290 then (((((0 &&& 1) ||| 1) ||| 0) ||| 1) ||| 1) else (((((0 &&& 1) ||| 1) ||| 0) ||| 1) ||| 0)) else (if y_op = 290 then (((((0 &&& 1) ||| 1) ||| 0) ||| 0) ||| 1) else (((((0 &&& 1) ||| 1) ||| 0) ||| 0) ||| 0)))) else (if y_op = 431 then (if y_op = 288 then (if y_op = 290 then (((((0 &&& 1) ||| 0) ||| 1) ||| 1) ||| 1) else (((((0 &&& 1) ||| 0) ||| 1) ||| 1) ||| 0)) else (if y_op = 290 then (((((0 &&& 1) ||| 0) ||| 1) ||| 0) ||| 1) else (((((0 &&& 1) ||| 0) ||| 1) ||| 0) ||| 0))) else (if y_op = 288 then (if y_op = 290 then (((((0 &&& 1) ||| 0) ||| 0) ||| 1) ||| 1) else (((((0 &&& 1) ||| 0) ||| 0) ||| 1) ||| 0)) else (if y_op = 290 then (((((0 &&& 1) ||| 0) ||| 0) ||| 0) ||| 1) else (((((0 &&& 1) ||| 0) ||| 0) ||| 0) ||| 0)))))) else (if 415 < y_op then (if y_op = 438 then (if y_op = 431 then (if y_op = 288 then (if y_op = 290 then (((((1 &&& 0) ||| 1) ||| 1) ||| 1) ||| 1) else (((((1 &&& 0) ||| 1) ||| 1) ||| 1) ||| 0)) else (if y_op = 290 then (((((1 &&& 0) ||| 1) ||| 1) ||| 0) ||| 1) else (((((1 &&& 0) ||| 1) ||| 1) ||| 0) ||| 0))) else (if y_op = 288 then (if y_op = 290 then (((((1 &&& 0) ||| 1) ||| 0) ||| 1) ||| 1) else (((((1 &&& 0) ||| 1) ||| 0) ||| 1) ||| 0)) else (if y_op = 290 then (((((1 &&& 0) ||| 1) ||| 0) ||| 0) ||| 1) else (((((1 &&& 0) ||| 1) ||| 0) ||| 0) ||| 0)))) else (if y_op = 431 then (if y_op = 288 then (if y_op = 290 then (((((1 &&& 0) ||| 0) ||| 1) ||| 1) ||| 1) else (((((1 &&& 0) ||| 0) ||| 1) ||| 1) ||| 0)) else (if y_op = 290 then (((((1 &&& 0) ||| 0) ||| 1) ||| 0) ||| 1) else (((((1 &&& 0) ||| 0) ||| 1) ||| 0) ||| 0))) else (if y_op = 288 then (if y_op = 290 then (((((1 &&& 0) ||| 0) ||| 0) ||| 1) ||| 1) else (((((1 &&& 0) ||| 0) ||| 0) ||| 1) ||| 0)) else (if y_op = 290 then (((((1 &&& 0) ||| 0) ||| 0) ||| 0) ||| 1) else (((((1 &&& 0) ||| 0) ||| 0) ||| 0) ||| 0))))) else (if y_op = 438 then (if y_op = 431 then (if y_op = 288 then (if y_op = 290 then (((((1 &&& 1) ||| 1) ||| 1) ||| 1) ||| 1) else (((((1 &&& 1) ||| 1) ||| 1) ||| 1) ||| 0)) else (if y_op = 290 then (((((1 &&& 1) ||| 1) ||| 1) ||| 0) ||| 1) else (((((1 &&& 1) ||| 1) ||| 1) ||| 0) ||| 0))) else (if y_op = 288 then (if y_op = 290 then (((((1 &&& 1) ||| 1) ||| 0) ||| 1) ||| 1) else (((((1 &&& 1) ||| 1) ||| 0) ||| 1) ||| 0)) else (if y_op = 290 then (((((1 &&& 1) ||| 1) ||| 0) ||| 0) ||| 1) else (((((1 &&& 1) ||| 1) ||| 0) ||| 0) ||| 0)))) else (if y_op = 431 then (if y_op = 288 then (if y_op = 290 then (((((1 &&& 1) ||| 0) ||| 1) ||| 1) ||| 1) else (((((1 &&& 1) ||| 0) ||| 1) ||| 1) ||| 0)) else (if y_op = 290 then (((((1 &&& 1) ||| 0) ||| 1) ||| 0) ||| 1) else (((((1 &&& 1) ||| 0) ||| 1) ||| 0) ||| 0))) else (if y_op = 288 then (if y_op = 290 then (((((1 &&& 1) ||| 0) ||| 0) ||| 1) ||| 1) else (((((1 &&& 1) ||| 0) ||| 0) ||| 1) ||| 0)) else (if y_op = 290 then (((((1 &&& 1) ||| 0) ||| 0) ||| 0) ||| 1) else (((((1 &&& 1) ||| 0) ||| 0) ||| 0) ||| 0)))))))) else (if y_op = 676 then (if y_op = 682 then (1 ||| 1) else (1 ||| 0)) else (if y_op = 682 then (0 ||| 1) else (0 ||| 0))))
theorem tb_knownY_w (post : Int32 → Prop) (h : post (tb_knownY y_op)) : wpY_known post (size, eip, flags, (ar_cz paging), cr2, cr3, cr4, cr5, cpl, state, pending, deliveries, lastVector, lastError, portTotal, raised, y_faultError, y_startEip, nxt, y_op, y_mod, y_reg, y_rm, y_address, y_imm, (ar_ym memory), general, y_old, y_ports, y_place) := sorry
def tb_hasModrm_48Y (y_op : Int32) : Int32 := (if y_op < 256 then (if y_op = 193 then (if y_op = 198 then (if y_op = 199 then (if y_op = 209 then (if y_op = 211 then (if y_op = 247 then (if y_op = 255 then ((((((1 ||| 1) ||| 1) ||| 1) ||| 1) ||| 1) ||| 1) else ((((((1 ||| 1) ||| 1) ||| 1) ||| 1) ||| 1) ||| 0)) else (if y_op = 255 then ((((((1 ||| 1) ||| 1) ||| 1) ||| 1) ||| 0) ||| 1) else ((((((1 ||| 1) ||| 1) ||| 1) ||| 1) ||| 0) ||| 0))) else (if y_op = 247 then (if y_op = 255 then ((((((1 ||| 1) ||| 1) ||| 1) ||| 0) ||| 1) ||| 1) else ((((((1 ||| 1) ||| 1) ||| 1) ||| 0) ||| 1) ||| 0)) else (if y_op = 255 then ((((((1 ||| 1) ||| 1) ||| 1) ||| 0) ||| 0) ||| 1) else ((((((1 ||| 1) ||| 1) ||| 1) ||| 0) ||| 0) ||| 0)))) else (if y_op = 211 then (if y_op = 247 then (if y_op = 255 then ((((((1 ||| 1) ||| 1) ||| 0) ||| 1) ||| 1) ||| 1) else ((((((1 ||| 1) ||| 1) ||| 0) ||| 1) ||| 1) ||| 0)) else (if y_op = 255 then ((((((1 ||| 1) ||| 1) ||| 0) ||| 1) ||| 0) ||| 1) else ((((((1 ||| 1) ||| 1) ||| 0) ||| 1) ||| 0) ||| 0))) else (if y_op = 247 then (if y_op = 255 then ((((((1 ||| 1) ||| 1) ||| 0) ||| 0) ||| 1) ||| 1) else ((((((1 ||| 1) ||| 1) ||| 0) ||| 0) ||| 1) ||| 0)) else (if y_op = 255 then ((((((1 ||| 1) ||| 1) ||| 0) ||| 0) ||| 0) ||| 1) else ((((((1 ||| 1) ||| 1) ||| 0) ||| 0) ||| 0) ||| 0))))) else (if y_op = 209 then (if y_op = 211 then (if y_op = 247 then (if y_op = 255 then ((((((1 ||| 1) ||| 0) ||| 1) ||| 1) ||| 1) ||| 1) else ((((((1 ||| 1) ||| 0) ||| 1) ||| 1) ||| 1) ||| 0)) else (if y_op = 255 then ((((((1 ||| 1) ||| 0) ||| 1) ||| 1) ||| 0) ||| 1) else ((((((1 ||| 1) ||| 0) ||| 1) ||| 1) ||| 0) ||| 0))) else (if y_op = 247 then (if y_op = 255 then ((((((1 ||| 1) ||| 0) ||| 1) ||| 0) ||| 1) ||| 1) else ((((((1 ||| 1) ||| 0) ||| 1) ||| 0) ||| 1) ||| 0)) else (if y_op = 255 then ((((((1 ||| 1) ||| 0) ||| 1) ||| 0) ||| 0) ||| 1) else ((((((1 ||| 1) ||| 0) ||| 1) ||| 0) ||| 0) ||| 0)))) else (if y_op = 211 then (if y_op = 247 then (if y_op = 255 then ((((((1 ||| 1) ||| 0) ||| 0) ||| 1) ||| 1) ||| 1) else ((((((1 ||| 1) ||| 0) ||| 0) ||| 1) ||| 1) ||| 0)) else (if y_op = 255 then ((((((1 ||| 1) ||| 0) ||| 0) ||| 1) ||| 0) ||| 1) else ((((((1 ||| 1) ||| 0) ||| 0) ||| 1) ||| 0) ||| 0))) else (if y_op = 247 then (if y_op = 255 then ((((((1 ||| 1) ||| 0) ||| 0) ||| 0) ||| 1) ||| 1) else ((((((1 ||| 1) ||| 0) ||| 0) ||| 0) ||| 1) ||| 0)) else (if y_op = 255 then ((((((1 ||| 1) ||| 0) ||| 0) ||| 0) ||| 0) ||| 1) else ((((((1 ||| 1) ||| 0) ||| 0) ||| 0) ||| 0) ||| 0)))))) else (if y_op = 199 then (if y_op = 209 then (if y_op = 211 then (if y_op = 247 then (if y_op = 255 then ((((((1 ||| 0) ||| 1) ||| 1) ||| 1) ||| 1) ||| 1) else ((((((1 ||| 0) ||| 1) ||| 1) ||| 1) ||| 1) ||| 0)) else (if y_op = 255 then ((((((1 ||| 0) ||| 1) ||| 1) ||| 1) ||| 0) ||| 1) else ((((((1 ||| 0) ||| 1) ||| 1) ||| 1) ||| 0) ||| 0))) else (if y_op = 247 then (if y_op = 255 then ((((((1 ||| 0) ||| 1) ||| 1) ||| 0) ||| 1) ||| 1) else ((((((1 ||| 0) ||| 1) ||| 1) ||| 0) ||| 1) ||| 0)) else (if y_op = 255 then ((((((1 ||| 0) ||| 1) ||| 1) ||| 0) ||| 0) ||| 1) else ((((((1 ||| 0) ||| 1) ||| 1) ||| 0) ||| 0) ||| 0)))) else (if y_op = 211 then (if y_op = 247 then (if y_op = 255 then ((((((1 ||| 0) ||| 1) ||| 0) ||| 1) ||| 1) ||| 1) else ((((((1 ||| 0) ||| 1) ||| 0) ||| 1) ||| 1) ||| 0)) else (if y_op = 255 then ((((((1 ||| 0) ||| 1) ||| 0) ||| 1) ||| 0) ||| 1) else ((((((1 ||| 0) ||| 1) ||| 0) ||| 1) ||| 0) ||| 0))) else (if y_op = 247 then (if y_op = 255 then ((((((1 ||| 0) ||| 1) ||| 0) ||| 0) ||| 1) ||| 1) else ((((((1 ||| 0) ||| 1) ||| 0) ||| 0) ||| 1) ||| 0)) else (if y_op = 255 then ((((((1 ||| 0) ||| 1) ||| 0) ||| 0) ||| 0) ||| 1) else ((((((1 ||| 0) ||| 1) ||| 0) ||| 0) ||| 0) ||| 0))))) else (if y_op = 209 then (if y_op = 211 then (if y_op = 247 then (if y_op = 255 then ((((((1 ||| 0) ||| 0) ||| 1) ||| 1) ||| 1) ||| 1) else ((((((1 ||| 0) ||| 0) ||| 1) ||| 1) ||| 1) ||| 0)) else (if y_op = 255 then ((((((1 ||| 0) ||| 0) ||| 1) ||| 1) ||| 0) ||| 1) else ((((((1 ||| 0) ||| 0) ||| 1) ||| 1) ||| 0) ||| 0))) else (if y_op = 247 then (if y_op = 255 then ((((((1 ||| 0) ||| 0) ||| 1) ||| 0) ||| 1) ||| 1) else ((((((1 ||| 0) ||| 0) ||| 1) ||| 0) ||| 1) ||| 0)) else (if y_op = 255 then ((((((1 ||| 0) ||| 0) ||| 1) ||| 0) ||| 0) ||| 1) else ((((((1 ||| 0) ||| 0) ||| 1) ||| 0) ||| 0) ||| 0)))) else (if y_op = 211 then (if y_op = 247 then (if y_op = 255 then ((((((1 ||| 0) ||| 0) ||| 0) ||| 1) ||| 1) ||| 1) else ((((((1 ||| 0) ||| 0) ||| 0) ||| 1) ||| 1) ||| 0)) else (if y_op = 255 then ((((((1 ||| 0) ||| 0) ||| 0) ||| 1) ||| 0) ||| 1) else ((((((1 ||| 0) ||| 0) ||| 0) ||| 1) ||| 0) ||| 0))) else (if y_op = 247 then (if y_op = 255 then ((((((1 ||| 0) ||| 0) ||| 0) ||| 0) ||| 1) ||| 1) else ((((((1 ||| 0) ||| 0) ||| 0) ||| 0) ||| 1) ||| 0)) else (if y_op = 255 then ((((((1 ||| 0) ||| 0) ||| 0) ||| 0) ||| 0) ||| 1) else ((((((1 ||| 0) ||| 0) ||| 0) ||| 0) ||| 0) ||| 0))))))) else (if y_op = 198 then (if y_op = 199 then (if y_op = 209 then (if y_op = 211 then (if y_op = 247 then (if y_op = 255 then ((((((0 ||| 1) ||| 1) ||| 1) ||| 1) ||| 1) ||| 1) else ((((((0 ||| 1) ||| 1) ||| 1) ||| 1) ||| 1) ||| 0)) else (if y_op = 255 then ((((((0 ||| 1) ||| 1) ||| 1) ||| 1) ||| 0) ||| 1) else ((((((0 ||| 1) ||| 1) ||| 1) ||| 1) ||| 0) ||| 0))) else (if y_op = 247 then (if y_op = 255 then ((((((0 ||| 1) ||| 1) ||| 1) ||| 0) ||| 1) ||| 1) else ((((((0 ||| 1) ||| 1) ||| 1) ||| 0) ||| 1) ||| 0)) else (if y_op = 255 then ((((((0 ||| 1) ||| 1) ||| 1) ||| 0) ||| 0) ||| 1) else ((((((0 ||| 1) ||| 1) ||| 1) ||| 0) ||| 0) ||| 0)))) else (if y_op = 211 then (if y_op = 247 then (if y_op = 255 then ((((((0 ||| 1) ||| 1) ||| 0) ||| 1) ||| 1) ||| 1) else ((((((0 ||| 1) ||| 1) ||| 0) ||| 1) ||| 1) ||| 0)) else (if y_op = 255 then ((((((0 ||| 1) ||| 1) ||| 0) ||| 1) ||| 0) ||| 1) else ((((((0 ||| 1) ||| 1) ||| 0) ||| 1) ||| 0) ||| 0))) else (if y_op = 247 then (if y_op = 255 then ((((((0 ||| 1) ||| 1) ||| 0) ||| 0) ||| 1) ||| 1) else ((((((0 ||| 1) ||| 1) ||| 0) ||| 0) ||| 1) ||| 0)) else (if y_op = 255 then ((((((0 ||| 1) ||| 1) ||| 0) ||| 0) ||| 0) ||| 1) else ((((((0 ||| 1) ||| 1) ||| 0) ||| 0) ||| 0) ||| 0))))) else (if y_op = 209 then (if y_op = 211 then (if y_op = 247 then (if y_op = 255 then ((((((0 ||| 1) ||| 0) ||| 1) ||| 1) ||| 1) ||| 1) else ((((((0 ||| 1) ||| 0) ||| 1) ||| 1) ||| 1) ||| 0)) else (if y_op = 255 then ((((((0 ||| 1) ||| 0) ||| 1) ||| 1) ||| 0) ||| 1) else ((((((0 ||| 1) ||| 0) ||| 1) ||| 1) ||| 0) ||| 0))) else (if y_op = 247 then (if y_op = 255 then ((((((0 ||| 1) ||| 0) ||| 1) ||| 0) ||| 1) ||| 1) else ((((((0 ||| 1) ||| 0) ||| 1) ||| 0) ||| 1) ||| 0)) else (if y_op = 255 then ((((((0 ||| 1) ||| 0) ||| 1) ||| 0) ||| 0) ||| 1) else ((((((0 ||| 1) ||| 0) ||| 1) ||| 0) ||| 0) ||| 0)))) else (if y_op = 211 then (if y_op = 247 then (if y_op = 255 then ((((((0 ||| 1) ||| 0) ||| 0) ||| 1) ||| 1) ||| 1) else ((((((0 ||| 1) ||| 0) ||| 0) ||| 1) ||| 1) ||| 0)) else (if y_op = 255 then ((((((0 ||| 1) ||| 0) ||| 0) ||| 1) ||| 0) ||| 1) else ((((((0 ||| 1) ||| 0) ||| 0) ||| 1) ||| 0) ||| 0))) else (if y_op = 247 then (if y_op = 255 then ((((((0 ||| 1) ||| 0) ||| 0) ||| 0) ||| 1) ||| 1) else ((((((0 ||| 1) ||| 0) ||| 0) ||| 0) ||| 1) ||| 0)) else (if y_op = 255 then ((((((0 ||| 1) ||| 0) ||| 0) ||| 0) ||| 0) ||| 1) else ((((((0 ||| 1) ||| 0) ||| 0) ||| 0) ||| 0) ||| 0)))))) else (if y_op = 199 then (if y_op = 209 then (if y_op = 211 then (if y_op = 247 then (if y_op = 255 then ((((((0 ||| 0) ||| 1) ||| 1) ||| 1) ||| 1) ||| 1) else ((((((0 ||| 0) ||| 1) ||| 1) ||| 1) ||| 1) ||| 0)) else (if y_op = 255 then ((((((0 ||| 0) ||| 1) ||| 1) ||| 1) ||| 0) ||| 1) else ((((((0 ||| 0) ||| 1) ||| 1) ||| 1) ||| 0) ||| 0))) else (if y_op = 247 then (if y_op = 255 then ((((((0 ||| 0) ||| 1) ||| 1) ||| 0) ||| 1) ||| 1) else ((((((0 ||| 0) ||| 1) ||| 1) ||| 0) ||| 1) ||| 0)) else (if y_op = 255 then ((((((0 ||| 0) ||| 1) ||| 1) ||| 0) ||| 0) ||| 1) else ((((((0 ||| 0) ||| 1) ||| 1) ||| 0) ||| 0) ||| 0)))) else (if y_op = 211 then (if y_op = 247 then (if y_op = 255 then ((((((0 ||| 0) ||| 1) ||| 0) ||| 1) ||| 1) ||| 1) else ((((((0 ||| 0) ||| 1) ||| 0) ||| 1) ||| 1) ||| 0)) else (if y_op = 255 then ((((((0 ||| 0) ||| 1) ||| 0) ||| 1) ||| 0) ||| 1) else ((((((0 ||| 0) ||| 1) ||| 0) ||| 1) ||| 0) ||| 0))) else (if y_op = 247 then (if y_op = 255 then ((((((0 ||| 0) ||| 1) ||| 0) ||| 0) ||| 1) ||| 1) else ((((((0 ||| 0) ||| 1) ||| 0) ||| 0) ||| 1) ||| 0)) else (if y_op = 255 then ((((((0 ||| 0) ||| 1) ||| 0) ||| 0) ||| 0) ||| 1) else ((((((0 ||| 0) ||| 1) ||| 0) ||| 0) ||| 0) ||| 0))))) else (if y_op = 209 then (if y_op = 211 then (if y_op = 247 then (if y_op = 255 then ((((((0 ||| 0) ||| 0) ||| 1) ||| 1) ||| 1) ||| 1) else ((((((0 ||| 0) ||| 0) ||| 1) ||| 1) ||| 1) ||| 0)) else (if y_op = 255 then ((((((0 ||| 0) ||| 0) ||| 1) ||| 1) ||| 0) ||| 1) else ((((((0 ||| 0) ||| 0) ||| 1) ||| 1) ||| 0) ||| 0))) else (if y_op = 247 then (if y_op = 255 then ((((((0 ||| 0) ||| 0) ||| 1) ||| 0) ||| 1) ||| 1) else ((((((0 ||| 0) ||| 0) ||| 1) ||| 0) ||| 1) ||| 0)) else (if y_op = 255 then ((((((0 ||| 0) ||| 0) ||| 1) ||| 0) ||| 0) ||| 1) else ((((((0 ||| 0) ||| 0) ||| 1) ||| 0) ||| 0) ||| 0)))) else (if y_op = 211 then (if y_op = 247 then (if y_op = 255 then ((((((0 ||| 0) ||| 0) ||| 0) ||| 1) ||| 1) ||| 1) else ((((((0 ||| 0) ||| 0) ||| 0) ||| 1) ||| 1) ||| 0)) else (if y_op = 255 then ((((((0 ||| 0) ||| 0) ||| 0) ||| 1) ||| 0) ||| 1) else ((((((0 ||| 0) ||| 0) ||| 0) ||| 1) ||| 0) ||| 0))) else (if y_op = 247 then (if y_op = 255 then ((((((0 ||| 0) ||| 0) ||| 0) ||| 0) ||| 1) ||| 1) else ((((((0 ||| 0) ||| 0) ||| 0) ||| 0) ||| 1) ||| 0)) else (if y_op = 255 then ((((((0 ||| 0) ||| 0) ||| 0) ||| 0) ||| 0) ||| 1) else ((((((0 ||| 0) ||| 0) ||| 0) ||| 0) ||| 0) ||| 0)))))))) else (if y_op = 288 then (if y_op = 290 then (if y_op < 400 then (if 512 ≤ y_op then ((1 ||| 1) ||| (0 &&& 0)) else ((1 ||| 1) ||| (0 &&& 1))) else (if 512 ≤ y_op then ((1 ||| 1) ||| (1 &&& 0)) else ((1 ||| 1) ||| (1 &&& 1)))) else (if y_op < 400 then (if 512 ≤ y_op then ((1 ||| 0) ||| (0 &&& 0)) else ((1 ||| 0) ||| (0 &&& 1))) else (if 512 ≤ y_op then ((1 ||| 0) ||| (1 &&& 0)) else ((1 ||| 0) ||| (1 &&& 1))))) else (if y_op = 290 then (if y_op < 400 then (if 512 ≤ y_op then ((0 ||| 1) ||| (0 &&& 0)) else ((0 ||| 1) ||| (0 &&& 1))) else (if 512 ≤ y_op then ((0 ||| 1) ||| (1 &&& 0)) else ((0 ||| 1) ||| (1 &&& 1)))) else (if y_op < 400 then (if 512 ≤ y_op then ((0 ||| 0) ||| (0 &&& 0)) else ((0 ||| 0) ||| (0 &&& 1))) else (if 512 ≤ y_op then ((0 ||| 0) ||| (1 &&& 0)) else ((0 ||| 0) ||| (1 &&& 1)))))))
theorem tb_hasModrm_48Y_w (post : Int32 → Prop) (h : post (tb_hasModrm_48Y y_op)) : wY_hasModrm_48 post size eip flags (ar_cz paging) cr2 cr3 cr4 cr5 cpl state pending deliveries lastVector lastError portTotal raised y_faultError y_startEip nxt y_op y_mod y_reg y_rm y_address y_imm (ar_ym memory) general y_old y_ports y_place := sorry
def tb_hasModrmY (y_op : Int32) : Int32 := (if 64 ≤ y_op then (if y_op < 128 then (tb_hasModrm_48Y y_op) else (if 141 < y_op then (tb_hasModrm_48Y y_op) else 1)) else (if 4 ≤ (y_op &&& 7) then 0 else 1))
theorem tb_hasModrmY_w (post : Int32 → Prop) (h : post (tb_hasModrmY y_op)) : wpY_hasModrm post (size, eip, flags, (ar_cz paging), cr2, cr3, cr4, cr5, cpl, state, pending, deliveries, lastVector, lastError, portTotal, raised, y_faultError, y_startEip, nxt, y_op, y_mod, y_reg, y_rm, y_address, y_imm, (ar_ym memory), general, y_old, y_ports, y_place) := sorry
def tb_allowed_110Y (y_op y_mod y_reg : Int32) : Int32 := (if y_reg = 4 then (if y_reg = 5 then (if y_reg = 7 then ((1 ||| 1) ||| 1) else ((1 ||| 1) ||| 0)) else (if y_reg = 7 then ((1 ||| 0) ||| 1) else ((1 ||| 0) ||| 0))) else (if y_reg = 5 then (if y_reg = 7 then ((0 ||| 1) ||| 1) else ((0 ||| 1) ||| 0)) else (if y_reg = 7 then ((0 ||| 0) ||| 1) else ((0 ||| 0) ||| 0))))
theorem tb_allowed_110Y_w (post : Int32 → Prop) (h : post (tb_allowed_110Y y_op y_mod y_reg)) : wY_allowed_110 post size eip flags (ar_cz paging) cr2 cr3 cr4 cr5 cpl state pending deliveries lastVector lastError portTotal raised y_faultError y_startEip nxt y_op y_mod y_reg y_rm y_address y_imm (ar_ym memory) general y_old y_ports y_place := sorry
def tb_allowed_153Y (y_op y_mod y_reg : Int32) : Int32 := (if y_reg = 0 then 1 else 0)
theorem tb_allowed_153Y_w (post : Int32 → Prop) (h : post (tb_allowed_153Y y_op y_mod y_reg)) : wY_allowed_153 post size eip flags (ar_cz paging) cr2 cr3 cr4 cr5 cpl state pending deliveries lastVector lastError portTotal raised y_faultError y_startEip nxt y_op y_mod y_reg y_rm y_address y_imm (ar_ym memory) general y_old y_ports y_place := sorry
def tb_allowed_293Y (y_op y_mod y_reg : Int32) : Int32 := (if y_mod = 3 then (if y_reg = 0 then (if y_reg < 2 then (if 5 < y_reg then (if (1 ||| (0 &&& 0)) = 0 then 0 else 1) else (if (1 ||| (0 &&& 1)) = 0 then 0 else 1)) else (if 5 < y_reg then (if (1 ||| (1 &&& 0)) = 0 then 0 else 1) else (if (1 ||| (1 &&& 1)) = 0 then 0 else 1))) else (if y_reg < 2 then (if 5 < y_reg then (if (0 ||| (0 &&& 0)) = 0 then 0 else 1) else (if (0 ||| (0 &&& 1)) = 0 then 0 else 1)) else (if 5 < y_reg then (if (0 ||| (1 &&& 0)) = 0 then 0 else 1) else (if (0 ||| (1 &&& 1)) = 0 then 0 else 1)))) else 0)
theorem tb_allowed_293Y_w (post : Int32 → Prop) (h : post (tb_allowed_293Y y_op y_mod y_reg)) : wY_allowed_293 post size eip flags (ar_cz paging) cr2 cr3 cr4 cr5 cpl state pending deliveries lastVector lastError portTotal raised y_faultError y_startEip nxt y_op y_mod y_reg y_rm y_address y_imm (ar_ym memory) general y_old y_ports y_place := sorry
def tb_allowedY (y_op y_mod y_reg : Int32) : Int32 := (if y_op = 141 then (if y_mod = 3 then 0 else 1) else (if y_op = 193 then (tb_allowed_110Y y_op y_mod y_reg) else (if y_op = 198 then (tb_allowed_153Y y_op y_mod y_reg) else (if y_op = 199 then (tb_allowed_153Y y_op y_mod y_reg) else (if y_op = 209 then (tb_allowed_110Y y_op y_mod y_reg) else (if y_op = 211 then (tb_allowed_110Y y_op y_mod y_reg) else (if y_op = 247 then (if y_reg = 2 then (if y_reg = 3 then (if y_reg = 4 then (if y_reg = 7 then (((1 ||| 1) ||| 1) ||| 1) else (((1 ||| 1) ||| 1) ||| 0)) else (if y_reg = 7 then (((1 ||| 1) ||| 0) ||| 1) else (((1 ||| 1) ||| 0) ||| 0))) else (if y_reg = 4 then (if y_reg = 7 then (((1 ||| 0) ||| 1) ||| 1) else (((1 ||| 0) ||| 1) ||| 0)) else (if y_reg = 7 then (((1 ||| 0) ||| 0) ||| 1) else (((1 ||| 0) ||| 0) ||| 0)))) else (if y_reg = 3 then (if y_reg = 4 then (if y_reg = 7 then (((0 ||| 1) ||| 1) ||| 1) else (((0 ||| 1) ||| 1) ||| 0)) else (if y_reg = 7 then (((0 ||| 1) ||| 0) ||| 1) else (((0 ||| 1) ||| 0) ||| 0))) else (if y_reg = 4 then (if y_reg = 7 then (((0 ||| 0) ||| 1) ||| 1) else (((0 ||| 0) ||| 1) ||| 0)) else (if y_reg = 7 then (((0 ||| 0) ||| 0) ||| 1) else (((0 ||| 0) ||| 0) ||| 0))))) else (if y_op = 255 then (if y_reg = 0 then (if y_reg = 1 then (if y_reg = 2 then (if y_reg = 4 then (if y_reg = 6 then ((((1 ||| 1) ||| 1) ||| 1) ||| 1) else ((((1 ||| 1) ||| 1) ||| 1) ||| 0)) else (if y_reg = 6 then ((((1 ||| 1) ||| 1) ||| 0) ||| 1) else ((((1 ||| 1) ||| 1) ||| 0) ||| 0))) else (if y_reg = 4 then (if y_reg = 6 then ((((1 ||| 1) ||| 0) ||| 1) ||| 1) else ((((1 ||| 1) ||| 0) ||| 1) ||| 0)) else (if y_reg = 6 then ((((1 ||| 1) ||| 0) ||| 0) ||| 1) else ((((1 ||| 1) ||| 0) ||| 0) ||| 0)))) else (if y_reg = 2 then (if y_reg = 4 then (if y_reg = 6 then ((((1 ||| 0) ||| 1) ||| 1) ||| 1) else ((((1 ||| 0) ||| 1) ||| 1) ||| 0)) else (if y_reg = 6 then ((((1 ||| 0) ||| 1) ||| 0) ||| 1) else ((((1 ||| 0) ||| 1) ||| 0) ||| 0))) else (if y_reg = 4 then (if y_reg = 6 then ((((1 ||| 0) ||| 0) ||| 1) ||| 1) else ((((1 ||| 0) ||| 0) ||| 1) ||| 0)) else (if y_reg = 6 then ((((1 ||| 0) ||| 0) ||| 0) ||| 1) else ((((1 ||| 0) ||| 0) ||| 0) ||| 0))))) else (if y_reg = 1 then (if y_reg = 2 then (if y_reg = 4 then (if y_reg = 6 then ((((0 ||| 1) ||| 1) ||| 1) ||| 1) else ((((0 ||| 1) ||| 1) ||| 1) ||| 0)) else (if y_reg = 6 then ((((0 ||| 1) ||| 1) ||| 0) ||| 1) else ((((0 ||| 1) ||| 1) ||| 0) ||| 0))) else (if y_reg = 4 then (if y_reg = 6 then ((((0 ||| 1) ||| 0) ||| 1) ||| 1) else ((((0 ||| 1) ||| 0) ||| 1) ||| 0)) else (if y_reg = 6 then ((((0 ||| 1) ||| 0) ||| 0) ||| 1) else ((((0 ||| 1) ||| 0) ||| 0) ||| 0)))) else (if y_reg = 2 then (if y_reg = 4 then (if y_reg = 6 then ((((0 ||| 0) ||| 1) ||| 1) ||| 1) else ((((0 ||| 0) ||| 1) ||| 1) ||| 0)) else (if y_reg = 6 then ((((0 ||| 0) ||| 1) ||| 0) ||| 1) else ((((0 ||| 0) ||| 1) ||| 0) ||| 0))) else (if y_reg = 4 then (if y_reg = 6 then ((((0 ||| 0) ||| 0) ||| 1) ||| 1) else ((((0 ||| 0) ||| 0) ||| 1) ||| 0)) else (if y_reg = 6 then ((((0 ||| 0) ||| 0) ||| 0) ||| 1) else ((((0 ||| 0) ||| 0) ||| 0) ||| 0)))))) else (if y_op = 288 then (tb_allowed_293Y y_op y_mod y_reg) else (if y_op = 290 then (tb_allowed_293Y y_op y_mod y_reg) else 1))))))))))
theorem tb_allowedY_w (post : Int32 → Prop) (h : post (tb_allowedY y_op y_mod y_reg)) : wpY_allowed post (size, eip, flags, (ar_cz paging), cr2, cr3, cr4, cr5, cpl, state, pending, deliveries, lastVector, lastError, portTotal, raised, y_faultError, y_startEip, nxt, y_op, y_mod, y_reg, y_rm, y_address, y_imm, (ar_ym memory), general, y_old, y_ports, y_place) := sorry
def tb_immediate_124Y (y_op : Int32) : Int32 := (if y_op = 104 then 4 else (if y_op = 106 then 1 else (if y_op = 128 then 1 else (if y_op = 129 then 4 else (if y_op = 131 then 1 else (if y_op = 193 then 1 else (if y_op = 198 then 1 else (if y_op = 199 then 4 else (if y_op = 205 then 1 else (if y_op = 230 then 1 else (if y_op = 232 then 4 else (if y_op = 233 then 4 else (if y_op = 235 then 1 else 0)))))))))))))
theorem tb_immediate_124Y_w (post : Int32 → Prop) (h : post (tb_immediate_124Y y_op)) : wY_immediate_124 post size eip flags (ar_cz paging) cr2 cr3 cr4 cr5 cpl state pending deliveries lastVector lastError portTotal raised y_faultError y_startEip nxt y_op y_mod y_reg y_rm y_address y_imm (ar_ym memory) general y_old y_ports y_place := sorry
def tb_immediate_102Y (y_op : Int32) : Int32 := (if y_op < 384 then (tb_immediate_124Y y_op) else (if 400 ≤ y_op then (tb_immediate_124Y y_op) else 4))
theorem tb_immediate_102Y_w (post : Int32 → Prop) (h : post (tb_immediate_102Y y_op)) : wY_immediate_102 post size eip flags (ar_cz paging) cr2 cr3 cr4 cr5 cpl state pending deliveries lastVector lastError portTotal raised y_faultError y_startEip nxt y_op y_mod y_reg y_rm y_address y_imm (ar_ym memory) general y_old y_ports y_place := sorry
def tb_immediate_82Y (y_op : Int32) : Int32 := (if y_op < 184 then (tb_immediate_102Y y_op) else (if y_op < 192 then 4 else (tb_immediate_102Y y_op)))
theorem tb_immediate_82Y_w (post : Int32 → Prop) (h : post (tb_immediate_82Y y_op)) : wY_immediate_82 post size eip flags (ar_cz paging) cr2 cr3 cr4 cr5 cpl state pending deliveries lastVector lastError portTotal raised y_faultError y_startEip nxt y_op y_mod y_reg y_rm y_address y_imm (ar_ym memory) general y_old y_ports y_place := sorry
def tb_immediate_60Y (y_op : Int32) : Int32 := (if y_op < 176 then (tb_immediate_82Y y_op) else (if 184 ≤ y_op then (tb_immediate_82Y y_op) else 1))
theorem tb_immediate_60Y_w (post : Int32 → Prop) (h : post (tb_immediate_60Y y_op)) : wY_immediate_60 post size eip flags (ar_cz paging) cr2 cr3 cr4 cr5 cpl state pending deliveries lastVector lastError portTotal raised y_faultError y_startEip nxt y_op y_mod y_reg y_rm y_address y_imm (ar_ym memory) general y_old y_ports y_place := sorry
def tb_immediateY (y_op : Int32) : Int32 := (if 64 ≤ y_op then (if y_op < 112 then (tb_immediate_60Y y_op) else (if y_op < 128 then 1 else (tb_immediate_60Y y_op))) else (if (y_op &&& 7) = 4 then 1 else (if (y_op &&& 7) = 5 then 4 else 0)))
theorem tb_immediateY_w (post : Int32 → Prop) (h : post (tb_immediateY y_op)) : wpY_immediate post (size, eip, flags, (ar_cz paging), cr2, cr3, cr4, cr5, cpl, state, pending, deliveries, lastVector, lastError, portTotal, raised, y_faultError, y_startEip, nxt, y_op, y_mod, y_reg, y_rm, y_address, y_imm, (ar_ym memory), general, y_old, y_ports, y_place) := sorry
end
end
section
/-! decoding: what the two sides' tables have in common, op by op -/
theorem dc_known : ∀ n, n < 768 → (tb_formOf (nI n) = 0 ↔ tb_knownY (nI n) = 0) := sorry
theorem dc_modrm : ∀ n, n < 768 → ¬ tb_formOf (nI n) = 0 → (tb_allowedRegFields (tb_formOf (nI n)) = 0 ↔ tb_hasModrmY (nI n) = 0) := sorry
/-- the component's refusal of a ModRM byte -/
def dc_bad (F A m r : Int32) : Prop := (F = 19 ∧ m = 3) ∨ ((F = 41 ∨ F = 42) ∧ ¬ m = 3) ∨ ((A >>> (r &&& 31)) &&& 1) = 0
def dc_b1 (F A m r : Int32) : Bool := (decide (F = 19) && decide (m = 3)) || ((decide (F = 41) || decide (F = 42)) && !decide (m = 3)) || decide (((A >>> (r &&& 31)) &&& 1) = 0)
theorem dc_b1_iff (F A m r : Int32) : dc_b1 F A m r = true ↔ dc_bad F A m r := sorry
theorem dc_bad_tab : ∀ n, n < 768 → ¬ tb_formOf (nI n) = 0 → ¬ tb_allowedRegFields (tb_formOf (nI n)) = 0 → ∀ m, m < 4 → ∀ r, r < 8 → dc_b1 (tb_formOf (nI n)) (tb_allowedRegFields (tb_formOf (nI n))) (nI m) (nI r) = decide (tb_allowedY (nI n) (nI m) (nI r) = 0) := sorry
theorem dc_bad_iff (n : Nat) (hn : n < 768) (hF : ¬ tb_formOf (nI n) = 0) (hA : ¬ tb_allowedRegFields (tb_formOf (nI n)) = 0) (m : Nat) (hm : m < 4) (r : Nat) (hr : r < 8) : dc_bad (tb_formOf (nI n)) (tb_allowedRegFields (tb_formOf (nI n))) (nI m) (nI r) ↔ tb_allowedY (nI n) (nI m) (nI r) = 0 := sorry
/-- the form that is executed -/
def dc_form (op r : Int32) : Int32 := if tb_allowedRegFields (tb_formOf op) = 0 then tb_formOf op else tb_memberOf (tb_formOf op) r
def dc_width (op : Int32) : Int32 := tb_widthOf (tb_formOf op) op
theorem dc_imm0 : ∀ n, n < 768 → ¬ tb_formOf (nI n) = 0 → tb_allowedRegFields (tb_formOf (nI n)) = 0 → tb_immediateBytes (tb_formOf (nI n)) (dc_width (nI n)) (nI n) = tb_immediateY (nI n) := sorry
theorem dc_imm1 : ∀ n, n < 768 → ¬ tb_formOf (nI n) = 0 → ¬ tb_allowedRegFields (tb_formOf (nI n)) = 0 → ∀ r, r < 8 → ((tb_allowedRegFields (tb_formOf (nI n)) >>> (nI r &&& 31)) &&& 1) = 0 ∨ tb_immediateBytes (tb_memberOf (tb_formOf (nI n)) (nI r)) (dc_width (nI n)) (nI n) = tb_immediateY (nI n) := sorry
theorem dc_immR : ∀ n, n < 768 → ∃ c, c ≤ 4 ∧ tb_immediateY (nI n) = nI c := sorry
/-- the reference's privileged ones -/
def dc_inner (op : Int32) : Bool := decide (op = 250) || decide (op = 251) || decide (op = 230) || decide (op = 207) || decide (op = 244) || decide (op = 288) || decide (op = 290)
theorem dc_priv0 : ∀ n, n < 768 → ¬ tb_formOf (nI n) = 0 → tb_allowedRegFields (tb_formOf (nI n)) = 0 → (¬ tb_isPrivileged (tb_formOf (nI n)) = 0 ↔ dc_inner (nI n) = true) := sorry
theorem dc_priv1b : ∀ n, n < 768 → ¬ tb_formOf (nI n) = 0 → ¬ tb_allowedRegFields (tb_formOf (nI n)) = 0 → ∀ r, r < 8 → (decide (((tb_allowedRegFields (tb_formOf (nI n)) >>> (nI r &&& 31)) &&& 1) = 0) || (decide (¬ tb_isPrivileged (tb_memberOf (tb_formOf (nI n)) (nI r)) = 0) == dc_inner (nI n))) = true := sorry
theorem dc_priv1 (n : Nat) (hn : n < 768) (hF : ¬ tb_formOf (nI n) = 0) (hA : ¬ tb_allowedRegFields (tb_formOf (nI n)) = 0) (r : Nat) (hr : r < 8) : ((tb_allowedRegFields (tb_formOf (nI n)) >>> (nI r &&& 31)) &&& 1) = 0 ∨ (¬ tb_isPrivileged (tb_memberOf (tb_formOf (nI n)) (nI r)) = 0 ↔ dc_inner (nI n) = true) := sorry
/-- ModRM's and SIB's fields -/
theorem dc_fields : ∀ b, b < 256 → (∃ m, m < 4 ∧ nI b >>> ((6 : Int32) &&& 31) = nI m) ∧ (∃ r, r < 8 ∧ (nI b >>> ((3 : Int32) &&& 31)) &&& 7 = nI r) ∧ (∃ q, q < 8 ∧ nI b &&& 7 = nI q) := sorry
theorem dc_or : ∀ b, b < 256 → 256 + nI b = nI (256 + b) ∧ nI b ||| 256 = nI (256 + b) ∧ 512 + nI b = nI (512 + b) ∧ nI b ||| 512 = nI (512 + b) := sorry
/-- what has been decoded: op, form, width, mod, reg, rm -/
def dc_ok (n : Nat) (fm wd md rg r ymd yrg yr la yla : Int32) : Prop := n < 768 ∧ ¬ tb_formOf (nI n) = 0 ∧ wd = dc_width (nI n) ∧
  ((tb_allowedRegFields (tb_formOf (nI n)) = 0 ∧ fm = tb_formOf (nI n) ∧ md = 3) ∨
   (¬ tb_allowedRegFields (tb_formOf (nI n)) = 0 ∧ ∃ m k q : Nat, m < 4 ∧ k < 8 ∧ q < 8 ∧ md = nI m ∧ rg = nI k ∧ r = nI q ∧ ymd = md ∧ yrg = rg ∧ yr = r ∧ fm = tb_memberOf (tb_formOf (nI n)) (nI k) ∧
     ¬ dc_bad (tb_formOf (nI n)) (tb_allowedRegFields (tb_formOf (nI n))) (nI m) (nI k) ∧ (¬ m = 3 → la = yla)))
section
variable {size eip flags paging cr2 cr3 cr4 cr5 cpl state pending deliveries lastVector lastError portTotal portKept nxt returnTo raised raisedError directoryAt tableAt code form width mod regField rm linear immediate operand : Int32} {memory general ports mapped words : Nat → Int32} {y_faultError y_startEip y_op y_mod y_reg y_rm y_address y_imm : Int32} {y_old y_ports : Nat → Int32} {y_place : Nat → Int64}
theorem dc_innerY (post : SY → Prop) (hf : raised < 0) (h : (dc_inner y_op = true ∧ cpl = 3 → post (size, eip, flags, (ar_cz paging), cr2, cr3, cr4, cr5, cpl, state, pending, deliveries, lastVector, lastError, portTotal, 13, 0, y_startEip, nxt, y_op, y_mod, y_reg, y_rm, y_address, y_imm, (ar_ym memory), general, y_old, y_ports, y_place)) ∧ (¬ (dc_inner y_op = true ∧ cpl = 3) → post (size, eip, flags, (ar_cz paging), cr2, cr3, cr4, cr5, cpl, state, pending, deliveries, lastVector, lastError, portTotal, raised, y_faultError, y_startEip, nxt, y_op, y_mod, y_reg, y_rm, y_address, y_imm, (ar_ym memory), general, y_old, y_ports, y_place))) : wY_fetch_140 post size eip flags (ar_cz paging) cr2 cr3 cr4 cr5 cpl state pending deliveries lastVector lastError portTotal raised y_faultError y_startEip nxt y_op y_mod y_reg y_rm y_address y_imm (ar_ym memory) general y_old y_ports y_place := sorry
end
end
section
/-! the fetch of an instruction, X's four phases against Y's fetch -/
section
variable {size eip flags paging cr2 cr3 cr4 cr5 cpl state pending deliveries lastVector lastError portTotal portKept nxt returnTo raised raisedError directoryAt tableAt code form width mod regField rm linear immediate operand : Int32} {memory general ports mapped words : Nat → Int32} {y_faultError y_startEip y_op y_mod y_reg y_rm y_address y_imm : Int32} {y_old y_ports : Nat → Int32} {y_place : Nat → Int64}
/-- Y's tail when a fault stands -/
theorem fp_y104 (post : SY → Prop) {v : Int32} (hv : 0 ≤ v) (h : post (size, eip, flags, (ar_cz paging), cr2, cr3, cr4, cr5, cpl, state, pending, deliveries, lastVector, lastError, portTotal, v, y_faultError, y_startEip, nxt, y_op, y_mod, y_reg, y_rm, y_address, y_imm, (ar_ym memory), general, y_old, y_ports, y_place)) : wY_fetch_104 post size eip flags (ar_cz paging) cr2 cr3 cr4 cr5 cpl state pending deliveries lastVector lastError portTotal v y_faultError y_startEip nxt y_op y_mod y_reg y_rm y_address y_imm (ar_ym memory) general y_old y_ports y_place := sorry
theorem fp_y86 (post : SY → Prop) {v : Int32} (hv : 0 ≤ v) (h : post (size, eip, flags, (ar_cz paging), cr2, cr3, cr4, cr5, cpl, state, pending, deliveries, lastVector, lastError, portTotal, v, y_faultError, y_startEip, nxt, y_op, y_mod, y_reg, y_rm, y_address, y_imm, (ar_ym memory), general, y_old, y_ports, y_place)) : wY_fetch_86 post size eip flags (ar_cz paging) cr2 cr3 cr4 cr5 cpl state pending deliveries lastVector lastError portTotal v y_faultError y_startEip nxt y_op y_mod y_reg y_rm y_address y_imm (ar_ym memory) general y_old y_ports y_place := sorry
theorem fp_y65 (post : SY → Prop) {v : Int32} (hv : 0 ≤ v) (h : post (size, eip, flags, (ar_cz paging), cr2, cr3, cr4, cr5, cpl, state, pending, deliveries, lastVector, lastError, portTotal, v, y_faultError, y_startEip, nxt, y_op, y_mod, y_reg, y_rm, y_address, y_imm, (ar_ym memory), general, y_old, y_ports, y_place)) : wY_fetch_65 post size eip flags (ar_cz paging) cr2 cr3 cr4 cr5 cpl state pending deliveries lastVector lastError portTotal v y_faultError y_startEip nxt y_op y_mod y_reg y_rm y_address y_imm (ar_ym memory) general y_old y_ports y_place := sorry
/-- the opcode is there: form and width, or an invalid opcode -/
theorem fp_code {n : Nat} (hn : n < 768) (hc : code = nI n) :
    (¬ tb_formOf (nI n) = 0 ∧
      (∀ post : SX → Prop, post (size, eip, flags, paging, cr2, cr3, cr4, cr5, cpl, state, pending, deliveries, lastVector, lastError, portTotal, portKept, nxt, returnTo, -1, raisedError, directoryAt, tableAt, nI n, tb_formOf (nI n), dc_width (nI n), mod, regField, rm, linear, immediate, operand, memory, general, ports, mapped, words) → wX_fetchOpcode_78 post size eip flags paging cr2 cr3 cr4 cr5 cpl state pending deliveries lastVector lastError portTotal portKept nxt returnTo (-1) raisedError directoryAt tableAt code form width mod regField rm linear immediate operand memory general ports mapped words) ∧
      (∀ post : SY → Prop, wY_fetch_86 post size eip flags (ar_cz paging) cr2 cr3 cr4 cr5 cpl state pending deliveries lastVector lastError portTotal (-1) y_faultError y_startEip nxt (nI n) y_mod y_reg y_rm y_address y_imm (ar_ym memory) general y_old y_ports y_place → wY_fetch_65 post size eip flags (ar_cz paging) cr2 cr3 cr4 cr5 cpl state pending deliveries lastVector lastError portTotal (-1) y_faultError y_startEip nxt (nI n) y_mod y_reg y_rm y_address y_imm (ar_ym memory) general y_old y_ports y_place)) ∨
    ((∀ post : SX → Prop, post (size, eip, flags, paging, cr2, cr3, cr4, cr5, cpl, state, pending, deliveries, lastVector, lastError, portTotal, portKept, nxt, returnTo, 6, -1, directoryAt, tableAt, nI n, tb_formOf (nI n), dc_width (nI n), mod, regField, rm, linear, immediate, operand, memory, general, ports, mapped, words) → wX_fetchOpcode_78 post size eip flags paging cr2 cr3 cr4 cr5 cpl state pending deliveries lastVector lastError portTotal portKept nxt returnTo (-1) raisedError directoryAt tableAt code form width mod regField rm linear immediate operand memory general ports mapped words) ∧
      (∀ post : SY → Prop, post (size, eip, flags, (ar_cz paging), cr2, cr3, cr4, cr5, cpl, state, pending, deliveries, lastVector, lastError, portTotal, 6, -1, y_startEip, nxt, nI n, y_mod, y_reg, y_rm, y_address, y_imm, (ar_ym memory), general, y_old, y_ports, y_place) → wY_fetch_65 post size eip flags (ar_cz paging) cr2 cr3 cr4 cr5 cpl state pending deliveries lastVector lastError portTotal (-1) y_faultError y_startEip nxt (nI n) y_mod y_reg y_rm y_address y_imm (ar_ym memory) general y_old y_ports y_place)) := sorry
theorem fp_opcode (hok : mm_ok size cr3) :
    (∃ (n : Nat) (nx : Int32) (m' mp' : Nat → Int32) (dA tA : Int32) (pl' : Nat → Int64), n < 768 ∧ ¬ tb_formOf (nI n) = 0 ∧ (512 ≤ n → nx = nxt + 1 + 1) ∧
      (∀ post : SX → Prop, post (size, eip, flags, paging, cr2, cr3, cr4, cr5, cpl, state, pending, deliveries, lastVector, lastError, portTotal, portKept, nx, returnTo, -1, raisedError, dA, tA, nI n, tb_formOf (nI n), dc_width (nI n), mod, regField, rm, linear, immediate, operand, m', general, ports, mp', words) → wpX_fetchOpcode post (size, eip, flags, paging, cr2, cr3, cr4, cr5, cpl, state, pending, deliveries, lastVector, lastError, portTotal, portKept, nxt, returnTo, -1, raisedError, directoryAt, tableAt, code, form, width, mod, regField, rm, linear, immediate, operand, memory, general, ports, mapped, words)) ∧
      (∀ post : SY → Prop, wY_fetch_86 post size eip flags (ar_cz paging) cr2 cr3 cr4 cr5 cpl state pending deliveries lastVector lastError portTotal (-1) y_faultError y_startEip nx (nI n) y_mod y_reg y_rm y_address y_imm (ar_ym m') general y_old y_ports pl' → wpY_fetch post (size, eip, flags, (ar_cz paging), cr2, cr3, cr4, cr5, cpl, state, pending, deliveries, lastVector, lastError, portTotal, -1, y_faultError, y_startEip, nxt, y_op, y_mod, y_reg, y_rm, y_address, y_imm, (ar_ym memory), general, y_old, y_ports, y_place))) ∨
    (∃ (v er cr nx cd fm wd yo : Int32) (m' mp' : Nat → Int32) (dA tA : Int32) (pl' : Nat → Int64), ((v = 14 ∧ 0 ≤ er) ∨ (v = 6 ∧ er = -1)) ∧
      (∀ post : SX → Prop, post (size, eip, flags, paging, cr, cr3, cr4, cr5, cpl, state, pending, deliveries, lastVector, lastError, portTotal, portKept, nx, returnTo, v, er, dA, tA, cd, fm, wd, mod, regField, rm, linear, immediate, operand, m', general, ports, mp', words) → wpX_fetchOpcode post (size, eip, flags, paging, cr2, cr3, cr4, cr5, cpl, state, pending, deliveries, lastVector, lastError, portTotal, portKept, nxt, returnTo, -1, raisedError, directoryAt, tableAt, code, form, width, mod, regField, rm, linear, immediate, operand, memory, general, ports, mapped, words)) ∧
      (∀ post : SY → Prop, post (size, eip, flags, (ar_cz paging), cr, cr3, cr4, cr5, cpl, state, pending, deliveries, lastVector, lastError, portTotal, v, er, y_startEip, nx, yo, y_mod, y_reg, y_rm, y_address, y_imm, ar_ym m', general, y_old, y_ports, pl') → wpY_fetch post (size, eip, flags, (ar_cz paging), cr2, cr3, cr4, cr5, cpl, state, pending, deliveries, lastVector, lastError, portTotal, -1, y_faultError, y_startEip, nxt, y_op, y_mod, y_reg, y_rm, y_address, y_imm, (ar_ym memory), general, y_old, y_ports, y_place))) := sorry
end
end
section
/-! ModRM, SIB, displacement -/
section
variable {size eip flags paging cr2 cr3 cr4 cr5 cpl state pending deliveries lastVector lastError portTotal portKept nxt returnTo raised raisedError directoryAt tableAt code form width mod regField rm linear immediate operand : Int32} {memory general ports mapped words : Nat → Int32} {y_faultError y_startEip y_op y_mod y_reg y_rm y_address y_imm : Int32} {y_old y_ports : Nat → Int32} {y_place : Nat → Int64}
/-- base, index and displacement: X has linear, Y the same number in another order -/
theorem mr_disp (hok : mm_ok size cr3) {m q : Nat} (hm : m < 3) (hq : q < 8) (sc : Int32) (hmd : mod = nI m) (hymd : y_mod = nI m) (hya : y_address = sc) :
    (∃ (la nx : Int32) (m' mp' : Nat → Int32) (dA tA : Int32) (pl' : Nat → Int64),
      (∀ post : SX → Prop, post (size, eip, flags, paging, cr2, cr3, cr4, cr5, cpl, state, pending, deliveries, lastVector, lastError, portTotal, portKept, nx, returnTo, -1, raisedError, dA, tA, code, form, width, mod, regField, rm, la, immediate, operand, m', general, ports, mp', words) → wX_fetchAddress_71 post (nI q) sc size eip flags paging cr2 cr3 cr4 cr5 cpl state pending deliveries lastVector lastError portTotal portKept nxt returnTo (-1) raisedError directoryAt tableAt code form width mod regField rm linear immediate operand memory general ports mapped words) ∧
      (∀ post : SY → Prop, post (size, eip, flags, (ar_cz paging), cr2, cr3, cr4, cr5, cpl, state, pending, deliveries, lastVector, lastError, portTotal, -1, y_faultError, y_startEip, nx, y_op, y_mod, y_reg, y_rm, la, y_imm, ar_ym m', general, y_old, y_ports, pl') → wY_fetchModrm_123 post (nI q) size eip flags (ar_cz paging) cr2 cr3 cr4 cr5 cpl state pending deliveries lastVector lastError portTotal (-1) y_faultError y_startEip nxt y_op y_mod y_reg y_rm y_address y_imm (ar_ym memory) general y_old y_ports y_place)) ∨
    (∃ (la ya er cr nx : Int32) (m' mp' : Nat → Int32) (dA tA : Int32) (pl' : Nat → Int64), 0 ≤ er ∧
      (∀ post : SX → Prop, post (size, eip, flags, paging, cr, cr3, cr4, cr5, cpl, state, pending, deliveries, lastVector, lastError, portTotal, portKept, nx, returnTo, 14, er, dA, tA, code, form, width, mod, regField, rm, la, immediate, operand, m', general, ports, mp', words) → wX_fetchAddress_71 post (nI q) sc size eip flags paging cr2 cr3 cr4 cr5 cpl state pending deliveries lastVector lastError portTotal portKept nxt returnTo (-1) raisedError directoryAt tableAt code form width mod regField rm linear immediate operand memory general ports mapped words) ∧
      (∀ post : SY → Prop, post (size, eip, flags, (ar_cz paging), cr, cr3, cr4, cr5, cpl, state, pending, deliveries, lastVector, lastError, portTotal, 14, er, y_startEip, nx, y_op, y_mod, y_reg, y_rm, ya, y_imm, ar_ym m', general, y_old, y_ports, pl') → wY_fetchModrm_123 post (nI q) size eip flags (ar_cz paging) cr2 cr3 cr4 cr5 cpl state pending deliveries lastVector lastError portTotal (-1) y_faultError y_startEip nxt y_op y_mod y_reg y_rm y_address y_imm (ar_ym memory) general y_old y_ports y_place)) := sorry
end
end
section
/-! ModRM as a whole: fetchModRm and fetchAddress against fetchModrm -/
section
variable {size eip flags paging cr2 cr3 cr4 cr5 cpl state pending deliveries lastVector lastError portTotal portKept nxt returnTo raised raisedError directoryAt tableAt code form width mod regField rm linear immediate operand : Int32} {memory general ports mapped words : Nat → Int32} {y_faultError y_startEip y_op y_mod y_reg y_rm y_address y_imm : Int32} {y_old y_ports : Nat → Int32} {y_place : Nat → Int64}
/-- Y goes on with a fault standing -/
theorem mr_dead {m q : Nat} (hm : m < 3) (hq : q < 8) (hymd : y_mod = nI m) : ∃ ya : Int32, ∀ post : SY → Prop, post (size, eip, flags, (ar_cz paging), cr2, cr3, cr4, cr5, cpl, state, pending, deliveries, lastVector, lastError, portTotal, 14, y_faultError, y_startEip, nxt, y_op, y_mod, y_reg, y_rm, ya, y_imm, (ar_ym memory), general, y_old, y_ports, y_place) → wY_fetchModrm_123 post (nI q) size eip flags (ar_cz paging) cr2 cr3 cr4 cr5 cpl state pending deliveries lastVector lastError portTotal 14 y_faultError y_startEip nxt y_op y_mod y_reg y_rm y_address y_imm (ar_ym memory) general y_old y_ports y_place := sorry
/-- X's refusal of a ModRM byte -/
theorem mr_bad (post : SX → Prop) (A : Int32) (hb : dc_bad form A mod regField) (h : wX_fetchModRm_135 post size eip flags paging cr2 cr3 cr4 cr5 cpl state pending deliveries lastVector lastError portTotal portKept nxt returnTo raised raisedError directoryAt tableAt code form width mod regField rm linear immediate operand memory general ports mapped words) :
    (form = 41 → wX_fetchModRm_77 post A size eip flags paging cr2 cr3 cr4 cr5 cpl state pending deliveries lastVector lastError portTotal portKept nxt returnTo raised raisedError directoryAt tableAt code form width mod regField rm linear immediate operand memory general ports mapped words) ∧ (¬ form = 41 → ((form = 42 → wX_fetchModRm_77 post A size eip flags paging cr2 cr3 cr4 cr5 cpl state pending deliveries lastVector lastError portTotal portKept nxt returnTo raised raisedError directoryAt tableAt code form width mod regField rm linear immediate operand memory general ports mapped words) ∧ (¬ form = 42 → wX_fetchModRm_82 post A 0 size eip flags paging cr2 cr3 cr4 cr5 cpl state pending deliveries lastVector lastError portTotal portKept nxt returnTo raised raisedError directoryAt tableAt code form width mod regField rm linear immediate operand memory general ports mapped words))) := sorry
theorem mr_good (post : SX → Prop) (A : Int32) (hb : ¬ dc_bad form A mod regField) (h : post (size, eip, flags, paging, cr2, cr3, cr4, cr5, cpl, state, pending, deliveries, lastVector, lastError, portTotal, portKept, nxt, returnTo, raised, raisedError, directoryAt, tableAt, code, tb_memberOf form regField, width, mod, regField, rm, linear, immediate, operand, memory, general, ports, mapped, words)) :
    (form = 41 → wX_fetchModRm_77 post A size eip flags paging cr2 cr3 cr4 cr5 cpl state pending deliveries lastVector lastError portTotal portKept nxt returnTo raised raisedError directoryAt tableAt code form width mod regField rm linear immediate operand memory general ports mapped words) ∧ (¬ form = 41 → ((form = 42 → wX_fetchModRm_77 post A size eip flags paging cr2 cr3 cr4 cr5 cpl state pending deliveries lastVector lastError portTotal portKept nxt returnTo raised raisedError directoryAt tableAt code form width mod regField rm linear immediate operand memory general ports mapped words) ∧ (¬ form = 42 → wX_fetchModRm_82 post A 0 size eip flags paging cr2 cr3 cr4 cr5 cpl state pending deliveries lastVector lastError portTotal portKept nxt returnTo raised raisedError directoryAt tableAt code form width mod regField rm linear immediate operand memory general ports mapped words))) := sorry
end
end
section
/-! ModRM as a whole -/
section
variable {size eip flags paging cr2 cr3 cr4 cr5 cpl state pending deliveries lastVector lastError portTotal portKept nxt returnTo raised raisedError directoryAt tableAt code form width mod regField rm linear immediate operand : Int32} {memory general ports mapped words : Nat → Int32} {y_faultError y_startEip y_op y_mod y_reg y_rm y_address y_imm : Int32} {y_old y_ports : Nat → Int32} {y_place : Nat → Int64}
theorem mr_main (hok : mm_ok size cr3) {n : Nat} (hn : n < 768) (hF : ¬ tb_formOf (nI n) = 0) (hf : form = tb_formOf (nI n)) (hy : y_op = nI n) :
    (∃ (fm md rg r la ymd yrg yr yla nx1 nx2 : Int32) (m1 mp1 m2 mp2 : Nat → Int32) (dA1 tA1 dA2 tA2 : Int32) (pl' : Nat → Int64), dc_ok n fm (dc_width (nI n)) md rg r ymd yrg yr la yla ∧ (tb_allowedRegFields (tb_formOf (nI n)) = 0 → nx2 = nxt) ∧
      (∀ post : SX → Prop, post (size, eip, flags, paging, cr2, cr3, cr4, cr5, cpl, state, pending, deliveries, lastVector, lastError, portTotal, portKept, nx1, returnTo, -1, raisedError, dA1, tA1, code, fm, width, md, rg, r, linear, immediate, operand, m1, general, ports, mp1, words) → wpX_fetchModRm post (size, eip, flags, paging, cr2, cr3, cr4, cr5, cpl, state, pending, deliveries, lastVector, lastError, portTotal, portKept, nxt, returnTo, -1, raisedError, directoryAt, tableAt, code, form, width, mod, regField, rm, linear, immediate, operand, memory, general, ports, mapped, words)) ∧
      (∀ post : SX → Prop, post (size, eip, flags, paging, cr2, cr3, cr4, cr5, cpl, state, pending, deliveries, lastVector, lastError, portTotal, portKept, nx2, returnTo, -1, raisedError, dA2, tA2, code, fm, width, md, rg, r, la, immediate, operand, m2, general, ports, mp2, words) → wpX_fetchAddress post (size, eip, flags, paging, cr2, cr3, cr4, cr5, cpl, state, pending, deliveries, lastVector, lastError, portTotal, portKept, nx1, returnTo, -1, raisedError, dA1, tA1, code, fm, width, md, rg, r, linear, immediate, operand, m1, general, ports, mp1, words)) ∧
      (∀ post : SY → Prop, wY_fetch_104 post size eip flags (ar_cz paging) cr2 cr3 cr4 cr5 cpl state pending deliveries lastVector lastError portTotal (-1) y_faultError y_startEip nx2 y_op ymd yrg yr yla y_imm (ar_ym m2) general y_old y_ports pl' → wY_fetch_86 post size eip flags (ar_cz paging) cr2 cr3 cr4 cr5 cpl state pending deliveries lastVector lastError portTotal (-1) y_faultError y_startEip nxt y_op y_mod y_reg y_rm y_address y_imm (ar_ym memory) general y_old y_ports y_place)) ∨
    (∃ (v er cr nx fm md rg r ymd yrg yr : Int32) (m' mp' : Nat → Int32) (dA tA : Int32) (pl' : Nat → Int64), ((v = 14 ∧ 0 ≤ er) ∨ (v = 6 ∧ er = -1)) ∧
      (∀ post : SX → Prop, post (size, eip, flags, paging, cr, cr3, cr4, cr5, cpl, state, pending, deliveries, lastVector, lastError, portTotal, portKept, nx, returnTo, v, er, dA, tA, code, fm, width, md, rg, r, linear, immediate, operand, m', general, ports, mp', words) → wpX_fetchModRm post (size, eip, flags, paging, cr2, cr3, cr4, cr5, cpl, state, pending, deliveries, lastVector, lastError, portTotal, portKept, nxt, returnTo, -1, raisedError, directoryAt, tableAt, code, form, width, mod, regField, rm, linear, immediate, operand, memory, general, ports, mapped, words)) ∧
      (∀ post : SY → Prop, post (size, eip, flags, (ar_cz paging), cr, cr3, cr4, cr5, cpl, state, pending, deliveries, lastVector, lastError, portTotal, v, er, y_startEip, nx, y_op, ymd, yrg, yr, y_address, y_imm, ar_ym m', general, y_old, y_ports, pl') → wY_fetch_86 post size eip flags (ar_cz paging) cr2 cr3 cr4 cr5 cpl state pending deliveries lastVector lastError portTotal (-1) y_faultError y_startEip nxt y_op y_mod y_reg y_rm y_address y_imm (ar_ym memory) general y_old y_ports y_place)) ∨
    (∃ (er cr nx1 nx fm md rg r la ymd yrg yr yla : Int32) (m1 mp1 m' mp' : Nat → Int32) (dA1 tA1 dA tA : Int32) (pl' : Nat → Int64), 0 ≤ er ∧
      (∀ post : SX → Prop, post (size, eip, flags, paging, cr2, cr3, cr4, cr5, cpl, state, pending, deliveries, lastVector, lastError, portTotal, portKept, nx1, returnTo, -1, raisedError, dA1, tA1, code, fm, width, md, rg, r, linear, immediate, operand, m1, general, ports, mp1, words) → wpX_fetchModRm post (size, eip, flags, paging, cr2, cr3, cr4, cr5, cpl, state, pending, deliveries, lastVector, lastError, portTotal, portKept, nxt, returnTo, -1, raisedError, directoryAt, tableAt, code, form, width, mod, regField, rm, linear, immediate, operand, memory, general, ports, mapped, words)) ∧
      (∀ post : SX → Prop, post (size, eip, flags, paging, cr, cr3, cr4, cr5, cpl, state, pending, deliveries, lastVector, lastError, portTotal, portKept, nx, returnTo, 14, er, dA, tA, code, fm, width, md, rg, r, la, immediate, operand, m', general, ports, mp', words) → wpX_fetchAddress post (size, eip, flags, paging, cr2, cr3, cr4, cr5, cpl, state, pending, deliveries, lastVector, lastError, portTotal, portKept, nx1, returnTo, -1, raisedError, dA1, tA1, code, fm, width, md, rg, r, linear, immediate, operand, m1, general, ports, mp1, words)) ∧
      (∀ post : SY → Prop, post (size, eip, flags, (ar_cz paging), cr, cr3, cr4, cr5, cpl, state, pending, deliveries, lastVector, lastError, portTotal, 14, er, y_startEip, nx, y_op, ymd, yrg, yr, yla, y_imm, ar_ym m', general, y_old, y_ports, pl') → wY_fetch_86 post size eip flags (ar_cz paging) cr2 cr3 cr4 cr5 cpl state pending deliveries lastVector lastError portTotal (-1) y_faultError y_startEip nxt y_op y_mod y_reg y_rm y_address y_imm (ar_ym memory) general y_old y_ports y_place)) := by
  subst hf hy
  by_cases hA : tb_allowedRegFields (tb_formOf (nI n)) = 0
  · refine Or.inl ⟨tb_formOf (nI n), 3, regField, rm, linear, y_mod, y_reg, y_rm, y_address, nxt, nxt, memory, mapped, memory, mapped, directoryAt, tableAt, directoryAt, tableAt, y_place, ⟨hn, hF, rfl, Or.inl ⟨hA, rfl, rfl⟩⟩, fun _ => rfl, fun post hp => (by unfold wpX_fetchModRm; exact tb_allowedRegFields_w _ _ (br_t hA hp)), fun post hp => br_t rfl hp, fun post hp => ?_⟩
    exact br_f (by decide) ((tb_hasModrmY_w (size := size) (eip := eip) (flags := flags) (paging := paging) (cr2 := cr2) (cr3 := cr3) (cr4 := cr4) (cr5 := cr5) (cpl := cpl) (state := state) (pending := pending) (deliveries := deliveries) (lastVector := lastVector) (lastError := lastError) (portTotal := portTotal) (nxt := nxt) (raised := -1) (memory := memory) (general := general) (y_faultError := y_faultError) (y_startEip := y_startEip) (y_op := nI n) (y_mod := y_mod) (y_reg := y_reg) (y_rm := y_rm) (y_address := y_address) (y_imm := y_imm) (y_old := y_old) (y_ports := y_ports) (y_place := y_place)) _ (br_t ((dc_modrm n hn hF).mp hA) hp))
  have hM : ¬ tb_hasModrmY (nI n) = 0 := fun w => hA ((dc_modrm n hn hF).mpr w)
  rcases (ft_fetch1 (size := size) (eip := eip) (flags := flags) (paging := paging) (cr2 := cr2) (cr3 := cr3) (cr4 := cr4) (cr5 := cr5) (cpl := cpl) (state := state) (pending := pending) (deliveries := deliveries) (lastVector := lastVector) (lastError := lastError) (portTotal := portTotal) (portKept := portKept) (nxt := nxt) (returnTo := returnTo) (raisedError := raisedError) (directoryAt := directoryAt) (tableAt := tableAt) (code := code) (form := tb_formOf (nI n)) (width := width) (mod := 3) (regField := regField) (rm := rm) (linear := linear) (immediate := immediate) (operand := operand) (memory := memory) (general := general) (ports := ports) (mapped := mapped) (words := words) (y_faultError := y_faultError) (y_startEip := y_startEip) (y_op := nI n) (y_mod := y_mod) (y_reg := y_reg) (y_rm := y_rm) (y_address := y_address) (y_imm := y_imm) (y_old := y_old) (y_ports := y_ports) (y_place := y_place)) hok with ⟨b, m', mp', dA, tA, pl', hb, kX, kY0⟩ | ⟨y, nx, m', mp', dA, tA, cr, er, pl', he, kX, kY⟩
  rotate_left
  · refine Or.inr (Or.inl ⟨14, er, cr, nx, tb_formOf (nI n), 3, regField, rm, y_mod, y_reg, y_rm, m', mp', dA, tA, pl', Or.inl ⟨rfl, he⟩, fun post hp => (by unfold wpX_fetchModRm; exact tb_allowedRegFields_w _ _ (br_f hA (kX _ (br_f (by decide) hp)))), fun post hp => ?_⟩)
    refine br_f (by decide) ((tb_hasModrmY_w (size := size) (eip := eip) (flags := flags) (paging := paging) (cr2 := cr2) (cr3 := cr3) (cr4 := cr4) (cr5 := cr5) (cpl := cpl) (state := state) (pending := pending) (deliveries := deliveries) (lastVector := lastVector) (lastError := lastError) (portTotal := portTotal) (nxt := nxt) (raised := -1) (memory := memory) (general := general) (y_faultError := y_faultError) (y_startEip := y_startEip) (y_op := nI n) (y_mod := y_mod) (y_reg := y_reg) (y_rm := y_rm) (y_address := y_address) (y_imm := y_imm) (y_old := y_old) (y_ports := y_ports) (y_place := y_place)) _ (br_f hM (kY _ (br_f (by decide) ?_))))
    exact (fp_y104 (size := size) (eip := eip) (flags := flags) (paging := paging) (cr2 := cr) (cr3 := cr3) (cr4 := cr4) (cr5 := cr5) (cpl := cpl) (state := state) (pending := pending) (deliveries := deliveries) (lastVector := lastVector) (lastError := lastError) (portTotal := portTotal) (nxt := nx) (memory := m') (general := general) (y_faultError := er) (y_startEip := y_startEip) (y_op := nI n) (y_mod := y_mod) (y_reg := y_reg) (y_rm := y_rm) (y_address := y_address) (y_imm := y_imm) (y_old := y_old) (y_ports := y_ports) (y_place := pl')) post (v := 14) (by decide) hp
  have kY := kY0
  obtain ⟨⟨m, hm, em⟩, ⟨k, hk, ek⟩, ⟨q, hq, eq⟩⟩ := dc_fields b hb
  have hiff := dc_bad_iff n hn hF hA m hm k hk
  by_cases hbad : dc_bad (tb_formOf (nI n)) (tb_allowedRegFields (tb_formOf (nI n))) (nI m) (nI k)
  · have hAl : tb_allowedY (nI n) (nI m) (nI k) = 0 := hiff.mp hbad
    refine Or.inr (Or.inl ⟨6, -1, cr2, nxt + 1, tb_formOf (nI n), nI m, nI k, nI q, nI m, nI k, nI q, m', mp', dA, tA, pl', Or.inr ⟨rfl, rfl⟩, fun post hp => ?_, fun post hp => ?_⟩)
    · exact (by unfold wpX_fetchModRm; exact tb_allowedRegFields_w _ _ (br_f hA (kX _ (br_t rfl (nm_r em (nm_r ek (nm_r eq ((mr_bad (size := size) (eip := eip) (flags := flags) (paging := paging) (cr2 := cr2) (cr3 := cr3) (cr4 := cr4) (cr5 := cr5) (cpl := cpl) (state := state) (pending := pending) (deliveries := deliveries) (lastVector := lastVector) (lastError := lastError) (portTotal := portTotal) (portKept := portKept) (nxt := nxt + 1) (returnTo := returnTo) (raised := -1) (raisedError := raisedError) (directoryAt := dA) (tableAt := tA) (code := code) (form := tb_formOf (nI n)) (width := width) (mod := nI m) (regField := nI k) (rm := nI q) (linear := linear) (immediate := immediate) (operand := operand) (memory := m') (general := general) (ports := ports) (mapped := mp') (words := words)) post _ hbad hp))))))))
    · refine br_f (by decide) ((tb_hasModrmY_w (size := size) (eip := eip) (flags := flags) (paging := paging) (cr2 := cr2) (cr3 := cr3) (cr4 := cr4) (cr5 := cr5) (cpl := cpl) (state := state) (pending := pending) (deliveries := deliveries) (lastVector := lastVector) (lastError := lastError) (portTotal := portTotal) (nxt := nxt) (raised := -1) (memory := memory) (general := general) (y_faultError := y_faultError) (y_startEip := y_startEip) (y_op := nI n) (y_mod := y_mod) (y_reg := y_reg) (y_rm := y_rm) (y_address := y_address) (y_imm := y_imm) (y_old := y_old) (y_ports := y_ports) (y_place := y_place)) _ (br_f hM (kY _ (br_t (by decide) (nm_r em (nm_r ek (nm_r eq ((tb_allowedY_w (size := size) (eip := eip) (flags := flags) (paging := paging) (cr2 := cr2) (cr3 := cr3) (cr4 := cr4) (cr5 := cr5) (cpl := cpl) (state := state) (pending := pending) (deliveries := deliveries) (lastVector := lastVector) (lastError := lastError) (portTotal := portTotal) (nxt := nxt + 1) (raised := -1) (memory := m') (general := general) (y_faultError := y_faultError) (y_startEip := y_startEip) (y_op := nI n) (y_mod := nI m) (y_reg := nI k) (y_rm := nI q) (y_address := y_address) (y_imm := y_imm) (y_old := y_old) (y_ports := y_ports) (y_place := pl')) _ (br_t hAl ?_)))))))))
      exact (fp_y104 (size := size) (eip := eip) (flags := flags) (paging := paging) (cr2 := cr2) (cr3 := cr3) (cr4 := cr4) (cr5 := cr5) (cpl := cpl) (state := state) (pending := pending) (deliveries := deliveries) (lastVector := lastVector) (lastError := lastError) (portTotal := portTotal) (nxt := nxt + 1) (memory := m') (general := general) (y_faultError := -1) (y_startEip := y_startEip) (y_op := nI n) (y_mod := nI m) (y_reg := nI k) (y_rm := nI q) (y_address := y_address) (y_imm := y_imm) (y_old := y_old) (y_ports := y_ports) (y_place := pl')) post (v := 6) (by decide) hp
  have hAl : ¬ tb_allowedY (nI n) (nI m) (nI k) = 0 := fun w => hbad (hiff.mpr w)
  have gX : ∀ post : SX → Prop, post (size, eip, flags, paging, cr2, cr3, cr4, cr5, cpl, state, pending, deliveries, lastVector, lastError, portTotal, portKept, nxt + 1, returnTo, -1, raisedError, dA, tA, code, tb_memberOf (tb_formOf (nI n)) (nI k), width, nI m, nI k, nI q, linear, immediate, operand, m', general, ports, mp', words) → wpX_fetchModRm post (size, eip, flags, paging, cr2, cr3, cr4, cr5, cpl, state, pending, deliveries, lastVector, lastError, portTotal, portKept, nxt, returnTo, -1, raisedError, directoryAt, tableAt, code, tb_formOf (nI n), width, mod, regField, rm, linear, immediate, operand, memory, general, ports, mapped, words) := by
    intro post hp
    exact (by unfold wpX_fetchModRm; exact tb_allowedRegFields_w _ _ (br_f hA (kX _ (br_t rfl (nm_r em (nm_r ek (nm_r eq ((mr_good (size := size) (eip := eip) (flags := flags) (paging := paging) (cr2 := cr2) (cr3 := cr3) (cr4 := cr4) (cr5 := cr5) (cpl := cpl) (state := state) (pending := pending) (deliveries := deliveries) (lastVector := lastVector) (lastError := lastError) (portTotal := portTotal) (portKept := portKept) (nxt := nxt + 1) (returnTo := returnTo) (raised := -1) (raisedError := raisedError) (directoryAt := dA) (tableAt := tA) (code := code) (form := tb_formOf (nI n)) (width := width) (mod := nI m) (regField := nI k) (rm := nI q) (linear := linear) (immediate := immediate) (operand := operand) (memory := m') (general := general) (ports := ports) (mapped := mp') (words := words)) post _ hbad hp))))))))
  have ok : ∀ la : Int32, dc_ok n (tb_memberOf (tb_formOf (nI n)) (nI k)) (dc_width (nI n)) (nI m) (nI k) (nI q) (nI m) (nI k) (nI q) la la := fun la => ⟨hn, hF, rfl, Or.inr ⟨hA, m, k, q, hm, hk, hq, rfl, rfl, rfl, rfl, rfl, rfl, rfl, hbad, fun _ => rfl⟩⟩
  by_cases h3 : m = 3
  · have e3 : nI m = 3 := by rw [h3]; rfl
    refine Or.inl ⟨tb_memberOf (tb_formOf (nI n)) (nI k), nI m, nI k, nI q, linear, nI m, nI k, nI q, y_address, nxt + 1, nxt + 1, m', mp', m', mp', dA, tA, dA, tA, pl', ⟨hn, hF, rfl, Or.inr ⟨hA, m, k, q, hm, hk, hq, rfl, rfl, rfl, rfl, rfl, rfl, rfl, hbad, fun w => absurd h3 w⟩⟩, fun w => absurd w hA, gX, fun post hp => br_t e3 hp, fun post hp => ?_⟩
    exact br_f (by decide) ((tb_hasModrmY_w (size := size) (eip := eip) (flags := flags) (paging := paging) (cr2 := cr2) (cr3 := cr3) (cr4 := cr4) (cr5 := cr5) (cpl := cpl) (state := state) (pending := pending) (deliveries := deliveries) (lastVector := lastVector) (lastError := lastError) (portTotal := portTotal) (nxt := nxt) (raised := -1) (memory := memory) (general := general) (y_faultError := y_faultError) (y_startEip := y_startEip) (y_op := nI n) (y_mod := y_mod) (y_reg := y_reg) (y_rm := y_rm) (y_address := y_address) (y_imm := y_imm) (y_old := y_old) (y_ports := y_ports) (y_place := y_place)) _ (br_f hM (kY _ (br_t (by decide) (nm_r em (nm_r ek (nm_r eq ((tb_allowedY_w (size := size) (eip := eip) (flags := flags) (paging := paging) (cr2 := cr2) (cr3 := cr3) (cr4 := cr4) (cr5 := cr5) (cpl := cpl) (state := state) (pending := pending) (deliveries := deliveries) (lastVector := lastVector) (lastError := lastError) (portTotal := portTotal) (nxt := nxt + 1) (raised := -1) (memory := m') (general := general) (y_faultError := y_faultError) (y_startEip := y_startEip) (y_op := nI n) (y_mod := nI m) (y_reg := nI k) (y_rm := nI q) (y_address := y_address) (y_imm := y_imm) (y_old := y_old) (y_ports := y_ports) (y_place := pl')) _ (br_f hAl (br_t e3 hp))))))))))
  have hm3 : m < 3 := by omega
  have hm3X : ¬ nI m = 3 := fun w => h3 ((nI_eq (b := 3) (by omega) (by omega)).mp w)
  by_cases h4 : nI q = 4
  · rcases (ft_fetch1 (size := size) (eip := eip) (flags := flags) (paging := paging) (cr2 := cr2) (cr3 := cr3) (cr4 := cr4) (cr5 := cr5) (cpl := cpl) (state := state) (pending := pending) (deliveries := deliveries) (lastVector := lastVector) (lastError := lastError) (portTotal := portTotal) (portKept := portKept) (nxt := nxt + 1) (returnTo := returnTo) (raisedError := raisedError) (directoryAt := dA) (tableAt := tA) (code := code) (form := tb_memberOf (tb_formOf (nI n)) (nI k)) (width := width) (mod := nI m) (regField := nI k) (rm := nI q) (linear := linear) (immediate := immediate) (operand := operand) (memory := m') (general := general) (ports := ports) (mapped := mp') (words := words) (y_faultError := y_faultError) (y_startEip := y_startEip) (y_op := nI n) (y_mod := nI m) (y_reg := nI k) (y_rm := nI q) (y_address := 0) (y_imm := y_imm) (y_old := y_old) (y_ports := y_ports) (y_place := pl')) hok with ⟨s, m2, mp2, dA2, tA2, pl2, hs, lX, lY⟩ | ⟨y, nx, m2, mp2, dA2, tA2, cr, er, pl2, he, lX, lY⟩
    rotate_left
    · obtain ⟨b7, hb7, eb7⟩ := pk_andE y (m := 7) 3 (by decide)
      obtain ⟨i7, hi7, ei7⟩ := pk_andE (y >>> ((3 : Int32) &&& 31)) (m := 7) 3 (by decide)
      have hin : vp_in ((y >>> ((3 : Int32) &&& 31)) &&& 7) 8 := by rw [ei7]; exact vp_in_nI (by omega) (by omega)
      by_cases hi4 : (y >>> ((3 : Int32) &&& 31)) &&& 7 = 4
      · obtain ⟨ya, dY⟩ := (mr_dead (size := size) (eip := eip) (flags := flags) (paging := paging) (cr2 := cr) (cr3 := cr3) (cr4 := cr4) (cr5 := cr5) (cpl := cpl) (state := state) (pending := pending) (deliveries := deliveries) (lastVector := lastVector) (lastError := lastError) (portTotal := portTotal) (nxt := nx) (memory := m2) (general := general) (y_faultError := er) (y_startEip := y_startEip) (y_op := nI n) (y_mod := nI m) (y_reg := nI k) (y_rm := nI q) (y_address := 0) (y_imm := y_imm) (y_old := y_old) (y_ports := y_ports) (y_place := pl2)) hm3 (by omega : b7 < 8) rfl
        refine Or.inr (Or.inr ⟨er, cr, nxt + 1, nx, tb_memberOf (tb_formOf (nI n)) (nI k), nI m, nI k, nI q, linear, nI m, nI k, nI q, ya, m', mp', m2, mp2, dA, tA, dA2, tA2, pl2, he, gX, fun post hp => br_f hm3X (br_t h4 (lX _ (br_f (by decide) hp))), fun post hp => ?_⟩)
        refine br_f (by decide) ((tb_hasModrmY_w (size := size) (eip := eip) (flags := flags) (paging := paging) (cr2 := cr2) (cr3 := cr3) (cr4 := cr4) (cr5 := cr5) (cpl := cpl) (state := state) (pending := pending) (deliveries := deliveries) (lastVector := lastVector) (lastError := lastError) (portTotal := portTotal) (nxt := nxt) (raised := -1) (memory := memory) (general := general) (y_faultError := y_faultError) (y_startEip := y_startEip) (y_op := nI n) (y_mod := y_mod) (y_reg := y_reg) (y_rm := y_rm) (y_address := y_address) (y_imm := y_imm) (y_old := y_old) (y_ports := y_ports) (y_place := y_place)) _ (br_f hM (kY _ (br_t (by decide) (nm_r em (nm_r ek (nm_r eq ((tb_allowedY_w (size := size) (eip := eip) (flags := flags) (paging := paging) (cr2 := cr2) (cr3 := cr3) (cr4 := cr4) (cr5 := cr5) (cpl := cpl) (state := state) (pending := pending) (deliveries := deliveries) (lastVector := lastVector) (lastError := lastError) (portTotal := portTotal) (nxt := nxt + 1) (raised := -1) (memory := m') (general := general) (y_faultError := y_faultError) (y_startEip := y_startEip) (y_op := nI n) (y_mod := nI m) (y_reg := nI k) (y_rm := nI q) (y_address := y_address) (y_imm := y_imm) (y_old := y_old) (y_ports := y_ports) (y_place := pl')) _ (br_f hAl (br_f hm3X (br_t h4 (lY _ (nm_r eb7 (br_t hi4 (dY _ ?_)))))))))))))))
        exact (fp_y104 (size := size) (eip := eip) (flags := flags) (paging := paging) (cr2 := cr) (cr3 := cr3) (cr4 := cr4) (cr5 := cr5) (cpl := cpl) (state := state) (pending := pending) (deliveries := deliveries) (lastVector := lastVector) (lastError := lastError) (portTotal := portTotal) (nxt := nx) (memory := m2) (general := general) (y_faultError := er) (y_startEip := y_startEip) (y_op := nI n) (y_mod := nI m) (y_reg := nI k) (y_rm := nI q) (y_address := ya) (y_imm := y_imm) (y_old := y_old) (y_ports := y_ports) (y_place := pl2)) post (v := 14) (by decide) hp
      · obtain ⟨ya, dY⟩ := (mr_dead (size := size) (eip := eip) (flags := flags) (paging := paging) (cr2 := cr) (cr3 := cr3) (cr4 := cr4) (cr5 := cr5) (cpl := cpl) (state := state) (pending := pending) (deliveries := deliveries) (lastVector := lastVector) (lastError := lastError) (portTotal := portTotal) (nxt := nx) (memory := m2) (general := general) (y_faultError := er) (y_startEip := y_startEip) (y_op := nI n) (y_mod := nI m) (y_reg := nI k) (y_rm := nI q) (y_address := general ((y >>> ((3 : Int32) &&& 31)) &&& 7).toNatClampNeg <<< ((y >>> ((6 : Int32) &&& 31)) &&& 31)) (y_imm := y_imm) (y_old := y_old) (y_ports := y_ports) (y_place := pl2)) hm3 (by omega : b7 < 8) rfl
        refine Or.inr (Or.inr ⟨er, cr, nxt + 1, nx, tb_memberOf (tb_formOf (nI n)) (nI k), nI m, nI k, nI q, linear, nI m, nI k, nI q, ya, m', mp', m2, mp2, dA, tA, dA2, tA2, pl2, he, gX, fun post hp => br_f hm3X (br_t h4 (lX _ (br_f (by decide) hp))), fun post hp => ?_⟩)
        refine br_f (by decide) ((tb_hasModrmY_w (size := size) (eip := eip) (flags := flags) (paging := paging) (cr2 := cr2) (cr3 := cr3) (cr4 := cr4) (cr5 := cr5) (cpl := cpl) (state := state) (pending := pending) (deliveries := deliveries) (lastVector := lastVector) (lastError := lastError) (portTotal := portTotal) (nxt := nxt) (raised := -1) (memory := memory) (general := general) (y_faultError := y_faultError) (y_startEip := y_startEip) (y_op := nI n) (y_mod := y_mod) (y_reg := y_reg) (y_rm := y_rm) (y_address := y_address) (y_imm := y_imm) (y_old := y_old) (y_ports := y_ports) (y_place := y_place)) _ (br_f hM (kY _ (br_t (by decide) (nm_r em (nm_r ek (nm_r eq ((tb_allowedY_w (size := size) (eip := eip) (flags := flags) (paging := paging) (cr2 := cr2) (cr3 := cr3) (cr4 := cr4) (cr5 := cr5) (cpl := cpl) (state := state) (pending := pending) (deliveries := deliveries) (lastVector := lastVector) (lastError := lastError) (portTotal := portTotal) (nxt := nxt + 1) (raised := -1) (memory := m') (general := general) (y_faultError := y_faultError) (y_startEip := y_startEip) (y_op := nI n) (y_mod := nI m) (y_reg := nI k) (y_rm := nI q) (y_address := y_address) (y_imm := y_imm) (y_old := y_old) (y_ports := y_ports) (y_place := pl')) _ (br_f hAl (br_f hm3X (br_t h4 (lY _ (nm_r eb7 (br_f hi4 ⟨hin, nm_e (dY _ ?_)⟩))))))))))))))
        exact (fp_y104 (size := size) (eip := eip) (flags := flags) (paging := paging) (cr2 := cr) (cr3 := cr3) (cr4 := cr4) (cr5 := cr5) (cpl := cpl) (state := state) (pending := pending) (deliveries := deliveries) (lastVector := lastVector) (lastError := lastError) (portTotal := portTotal) (nxt := nx) (memory := m2) (general := general) (y_faultError := er) (y_startEip := y_startEip) (y_op := nI n) (y_mod := nI m) (y_reg := nI k) (y_rm := nI q) (y_address := ya) (y_imm := y_imm) (y_old := y_old) (y_ports := y_ports) (y_place := pl2)) post (v := 14) (by decide) hp
    obtain ⟨_, ⟨i, hi, ei⟩, ⟨q2, hq2, eq2⟩⟩ := dc_fields s hs
    have hi8 : vp_in (nI i) 8 := vp_in_nI hi (by omega)
    -- the index
    have key : ∃ sc : Int32, (∀ post : SX → Prop, wX_fetchAddress_71 post (nI q2) sc size eip flags paging cr2 cr3 cr4 cr5 cpl state pending deliveries lastVector lastError portTotal portKept (nxt + 1 + 1) returnTo (-1) raisedError dA2 tA2 code (tb_memberOf (tb_formOf (nI n)) (nI k)) width (nI m) (nI k) (nI q) linear immediate operand m2 general ports mp2 words → wpX_fetchAddress post (size, eip, flags, paging, cr2, cr3, cr4, cr5, cpl, state, pending, deliveries, lastVector, lastError, portTotal, portKept, nxt + 1, returnTo, -1, raisedError, dA, tA, code, tb_memberOf (tb_formOf (nI n)) (nI k), width, nI m, nI k, nI q, linear, immediate, operand, m', general, ports, mp', words)) ∧
        (∀ post : SY → Prop, wY_fetchModrm_123 (fun u => match u with | (v_size, v_eip, v_f, v_cr0, v_cr2, v_cr3, v_cr4, v_cr5, v_cpl, v_status, v_pending, v_delivered, v_lastVector, v_lastError, v_portCount, v_fault, v_faultError, v_startEip, v_cursor, v_op, v_mod, v_reg, v_rm, v_address, v_imm, v_mem, v_g, v_old, v_ports, v_place) => wY_fetch_104 post v_size v_eip v_f v_cr0 v_cr2 v_cr3 v_cr4 v_cr5 v_cpl v_status v_pending v_delivered v_lastVector v_lastError v_portCount v_fault v_faultError v_startEip v_cursor v_op v_mod v_reg v_rm v_address v_imm v_mem v_g v_old v_ports v_place) (nI q2) size eip flags (ar_cz paging) cr2 cr3 cr4 cr5 cpl state pending deliveries lastVector lastError portTotal (-1) y_faultError y_startEip (nxt + 1 + 1) (nI n) (nI m) (nI k) (nI q) sc y_imm (ar_ym m2) general y_old y_ports pl2 → wY_fetch_86 post size eip flags (ar_cz paging) cr2 cr3 cr4 cr5 cpl state pending deliveries lastVector lastError portTotal (-1) y_faultError y_startEip nxt (nI n) y_mod y_reg y_rm y_address y_imm (ar_ym memory) general y_old y_ports y_place) := by
      by_cases hi4 : nI i = 4
      · exact ⟨0, fun post hp => br_f hm3X (br_t h4 (lX _ (br_t rfl (nm_r ei (nm_r eq2 (br_t hi4 hp)))))), fun post hp => br_f (by decide) ((tb_hasModrmY_w (size := size) (eip := eip) (flags := flags) (paging := paging) (cr2 := cr2) (cr3 := cr3) (cr4 := cr4) (cr5 := cr5) (cpl := cpl) (state := state) (pending := pending) (deliveries := deliveries) (lastVector := lastVector) (lastError := lastError) (portTotal := portTotal) (nxt := nxt) (raised := -1) (memory := memory) (general := general) (y_faultError := y_faultError) (y_startEip := y_startEip) (y_op := nI n) (y_mod := y_mod) (y_reg := y_reg) (y_rm := y_rm) (y_address := y_address) (y_imm := y_imm) (y_old := y_old) (y_ports := y_ports) (y_place := y_place)) _ (br_f hM (kY _ (br_t (by decide) (nm_r em (nm_r ek (nm_r eq ((tb_allowedY_w (size := size) (eip := eip) (flags := flags) (paging := paging) (cr2 := cr2) (cr3 := cr3) (cr4 := cr4) (cr5 := cr5) (cpl := cpl) (state := state) (pending := pending) (deliveries := deliveries) (lastVector := lastVector) (lastError := lastError) (portTotal := portTotal) (nxt := nxt + 1) (raised := -1) (memory := m') (general := general) (y_faultError := y_faultError) (y_startEip := y_startEip) (y_op := nI n) (y_mod := nI m) (y_reg := nI k) (y_rm := nI q) (y_address := y_address) (y_imm := y_imm) (y_old := y_old) (y_ports := y_ports) (y_place := pl')) _ (br_f hAl (br_f hm3X (br_t h4 (lY _ (nm_r eq2 (br_t (ei.trans hi4) hp))))))))))))))⟩
      · refine ⟨general (nI i).toNatClampNeg <<< ((nI s >>> ((6 : Int32) &&& 31)) &&& 31), fun post hp => br_f hm3X (br_t h4 (lX _ (br_t rfl (nm_r ei (nm_r eq2 (br_f hi4 ⟨hi8, nm_e hp⟩)))))), fun post hp => ?_⟩
        refine br_f (by decide) ((tb_hasModrmY_w (size := size) (eip := eip) (flags := flags) (paging := paging) (cr2 := cr2) (cr3 := cr3) (cr4 := cr4) (cr5 := cr5) (cpl := cpl) (state := state) (pending := pending) (deliveries := deliveries) (lastVector := lastVector) (lastError := lastError) (portTotal := portTotal) (nxt := nxt) (raised := -1) (memory := memory) (general := general) (y_faultError := y_faultError) (y_startEip := y_startEip) (y_op := nI n) (y_mod := y_mod) (y_reg := y_reg) (y_rm := y_rm) (y_address := y_address) (y_imm := y_imm) (y_old := y_old) (y_ports := y_ports) (y_place := y_place)) _ (br_f hM (kY _ (br_t (by decide) (nm_r em (nm_r ek (nm_r eq ((tb_allowedY_w (size := size) (eip := eip) (flags := flags) (paging := paging) (cr2 := cr2) (cr3 := cr3) (cr4 := cr4) (cr5 := cr5) (cpl := cpl) (state := state) (pending := pending) (deliveries := deliveries) (lastVector := lastVector) (lastError := lastError) (portTotal := portTotal) (nxt := nxt + 1) (raised := -1) (memory := m') (general := general) (y_faultError := y_faultError) (y_startEip := y_startEip) (y_op := nI n) (y_mod := nI m) (y_reg := nI k) (y_rm := nI q) (y_address := y_address) (y_imm := y_imm) (y_old := y_old) (y_ports := y_ports) (y_place := pl')) _ (br_f hAl (br_f hm3X (br_t h4 (lY _ (nm_r eq2 (br_f (fun w => hi4 (ei.symm.trans w)) ⟨?_, nm_r ?_ hp⟩))))))))))))))
        · rw [ei]; exact hi8
        · rw [ei]
    obtain ⟨sc, sX, sY⟩ := key
    rcases (mr_disp (size := size) (eip := eip) (flags := flags) (paging := paging) (cr2 := cr2) (cr3 := cr3) (cr4 := cr4) (cr5 := cr5) (cpl := cpl) (state := state) (pending := pending) (deliveries := deliveries) (lastVector := lastVector) (lastError := lastError) (portTotal := portTotal) (portKept := portKept) (nxt := nxt + 1 + 1) (returnTo := returnTo) (raisedError := raisedError) (directoryAt := dA2) (tableAt := tA2) (code := code) (form := tb_memberOf (tb_formOf (nI n)) (nI k)) (width := width) (mod := nI m) (regField := nI k) (rm := nI q) (linear := linear) (immediate := immediate) (operand := operand) (memory := m2) (general := general) (ports := ports) (mapped := mp2) (words := words) (y_faultError := y_faultError) (y_startEip := y_startEip) (y_op := nI n) (y_mod := nI m) (y_reg := nI k) (y_rm := nI q) (y_address := sc) (y_imm := y_imm) (y_old := y_old) (y_ports := y_ports) (y_place := pl2)) hok hm3 hq2 sc rfl rfl rfl with ⟨la, nx, m3, mp3, dA3, tA3, pl3, zX, zY⟩ | ⟨la, ya, er, cr, nx, m3, mp3, dA3, tA3, pl3, he, zX, zY⟩
    · exact Or.inl ⟨_, nI m, nI k, nI q, la, nI m, nI k, nI q, la, nxt + 1, nx, m', mp', m3, mp3, dA, tA, dA3, tA3, pl3, ok la, fun w => absurd w hA, gX, fun post hp => sX post (zX post hp), fun post hp => sY post (zY _ hp)⟩
    · refine Or.inr (Or.inr ⟨er, cr, nxt + 1, nx, _, nI m, nI k, nI q, la, nI m, nI k, nI q, ya, m', mp', m3, mp3, dA, tA, dA3, tA3, pl3, he, gX, fun post hp => sX post (zX post hp), fun post hp => sY post (zY _ ?_)⟩)
      exact (fp_y104 (size := size) (eip := eip) (flags := flags) (paging := paging) (cr2 := cr) (cr3 := cr3) (cr4 := cr4) (cr5 := cr5) (cpl := cpl) (state := state) (pending := pending) (deliveries := deliveries) (lastVector := lastVector) (lastError := lastError) (portTotal := portTotal) (nxt := nx) (memory := m3) (general := general) (y_faultError := er) (y_startEip := y_startEip) (y_op := nI n) (y_mod := nI m) (y_reg := nI k) (y_rm := nI q) (y_address := ya) (y_imm := y_imm) (y_old := y_old) (y_ports := y_ports) (y_place := pl3)) post (v := 14) (by decide) hp
  · rcases (mr_disp (size := size) (eip := eip) (flags := flags) (paging := paging) (cr2 := cr2) (cr3 := cr3) (cr4 := cr4) (cr5 := cr5) (cpl := cpl) (state := state) (pending := pending) (deliveries := deliveries) (lastVector := lastVector) (lastError := lastError) (portTotal := portTotal) (portKept := portKept) (nxt := nxt + 1) (returnTo := returnTo) (raisedError := raisedError) (directoryAt := dA) (tableAt := tA) (code := code) (form := tb_memberOf (tb_formOf (nI n)) (nI k)) (width := width) (mod := nI m) (regField := nI k) (rm := nI q) (linear := linear) (immediate := immediate) (operand := operand) (memory := m') (general := general) (ports := ports) (mapped := mp') (words := words) (y_faultError := y_faultError) (y_startEip := y_startEip) (y_op := nI n) (y_mod := nI m) (y_reg := nI k) (y_rm := nI q) (y_address := 0) (y_imm := y_imm) (y_old := y_old) (y_ports := y_ports) (y_place := pl')) hok hm3 hq 0 rfl rfl rfl with ⟨la, nx, m3, mp3, dA3, tA3, pl3, zX, zY⟩ | ⟨la, ya, er, cr, nx, m3, mp3, dA3, tA3, pl3, he, zX, zY⟩
    · exact Or.inl ⟨_, nI m, nI k, nI q, la, nI m, nI k, nI q, la, nxt + 1, nx, m', mp', m3, mp3, dA, tA, dA3, tA3, pl3, ok la, fun w => absurd w hA, gX, fun post hp => br_f hm3X (br_f h4 (zX post hp)), fun post hp => br_f (by decide) ((tb_hasModrmY_w (size := size) (eip := eip) (flags := flags) (paging := paging) (cr2 := cr2) (cr3 := cr3) (cr4 := cr4) (cr5 := cr5) (cpl := cpl) (state := state) (pending := pending) (deliveries := deliveries) (lastVector := lastVector) (lastError := lastError) (portTotal := portTotal) (nxt := nxt) (raised := -1) (memory := memory) (general := general) (y_faultError := y_faultError) (y_startEip := y_startEip) (y_op := nI n) (y_mod := y_mod) (y_reg := y_reg) (y_rm := y_rm) (y_address := y_address) (y_imm := y_imm) (y_old := y_old) (y_ports := y_ports) (y_place := y_place)) _ (br_f hM (kY _ (br_t (by decide) (nm_r em (nm_r ek (nm_r eq ((tb_allowedY_w (size := size) (eip := eip) (flags := flags) (paging := paging) (cr2 := cr2) (cr3 := cr3) (cr4 := cr4) (cr5 := cr5) (cpl := cpl) (state := state) (pending := pending) (deliveries := deliveries) (lastVector := lastVector) (lastError := lastError) (portTotal := portTotal) (nxt := nxt + 1) (raised := -1) (memory := m') (general := general) (y_faultError := y_faultError) (y_startEip := y_startEip) (y_op := nI n) (y_mod := nI m) (y_reg := nI k) (y_rm := nI q) (y_address := y_address) (y_imm := y_imm) (y_old := y_old) (y_ports := y_ports) (y_place := pl')) _ (br_f hAl (br_f hm3X (br_f h4 (zY _ hp))))))))))))⟩
    · refine Or.inr (Or.inr ⟨er, cr, nxt + 1, nx, _, nI m, nI k, nI q, la, nI m, nI k, nI q, ya, m', mp', m3, mp3, dA, tA, dA3, tA3, pl3, he, gX, fun post hp => br_f hm3X (br_f h4 (zX post hp)), fun post hp => ?_⟩)
      refine br_f (by decide) ((tb_hasModrmY_w (size := size) (eip := eip) (flags := flags) (paging := paging) (cr2 := cr2) (cr3 := cr3) (cr4 := cr4) (cr5 := cr5) (cpl := cpl) (state := state) (pending := pending) (deliveries := deliveries) (lastVector := lastVector) (lastError := lastError) (portTotal := portTotal) (nxt := nxt) (raised := -1) (memory := memory) (general := general) (y_faultError := y_faultError) (y_startEip := y_startEip) (y_op := nI n) (y_mod := y_mod) (y_reg := y_reg) (y_rm := y_rm) (y_address := y_address) (y_imm := y_imm) (y_old := y_old) (y_ports := y_ports) (y_place := y_place)) _ (br_f hM (kY _ (br_t (by decide) (nm_r em (nm_r ek (nm_r eq ((tb_allowedY_w (size := size) (eip := eip) (flags := flags) (paging := paging) (cr2 := cr2) (cr3 := cr3) (cr4 := cr4) (cr5 := cr5) (cpl := cpl) (state := state) (pending := pending) (deliveries := deliveries) (lastVector := lastVector) (lastError := lastError) (portTotal := portTotal) (nxt := nxt + 1) (raised := -1) (memory := m') (general := general) (y_faultError := y_faultError) (y_startEip := y_startEip) (y_op := nI n) (y_mod := nI m) (y_reg := nI k) (y_rm := nI q) (y_address := y_address) (y_imm := y_imm) (y_old := y_old) (y_ports := y_ports) (y_place := pl')) _ (br_f hAl (br_f hm3X (br_f h4 (zY _ ?_))))))))))))
      exact (fp_y104 (size := size) (eip := eip) (flags := flags) (paging := paging) (cr2 := cr) (cr3 := cr3) (cr4 := cr4) (cr5 := cr5) (cpl := cpl) (state := state) (pending := pending) (deliveries := deliveries) (lastVector := lastVector) (lastError := lastError) (portTotal := portTotal) (nxt := nx) (memory := m3) (general := general) (y_faultError := er) (y_startEip := y_startEip) (y_op := nI n) (y_mod := nI m) (y_reg := nI k) (y_rm := nI q) (y_address := ya) (y_imm := y_imm) (y_old := y_old) (y_ports := y_ports) (y_place := pl3)) post (v := 14) (by decide) hp
end
end
section
/-! the immediate, and the whole fetch -/
section
variable {size eip flags paging cr2 cr3 cr4 cr5 cpl state pending deliveries lastVector lastError portTotal portKept nxt returnTo raised raisedError directoryAt tableAt code form width mod regField rm linear immediate operand : Int32} {memory general ports mapped words : Nat → Int32} {y_faultError y_startEip y_op y_mod y_reg y_rm y_address y_imm : Int32} {y_old y_ports : Nat → Int32} {y_place : Nat → Int64}
theorem fi_dead (post : SY → Prop) {v : Int32} (hv : 0 ≤ v) (h : post (size, eip, flags, (ar_cz paging), cr2, cr3, cr4, cr5, cpl, state, pending, deliveries, lastVector, lastError, portTotal, v, y_faultError, y_startEip, nxt, y_op, y_mod, y_reg, y_rm, y_address, y_imm, (ar_ym memory), general, y_old, y_ports, y_place)) : wY_fetch_140 post size eip flags (ar_cz paging) cr2 cr3 cr4 cr5 cpl state pending deliveries lastVector lastError portTotal v y_faultError y_startEip nxt y_op y_mod y_reg y_rm y_address y_imm (ar_ym memory) general y_old y_ports y_place := sorry
/-- the immediate's bytes and the privilege -/
theorem fi_facts {n : Nat} {fm wd md rg r ymd yrg yr la yla : Int32} (h : dc_ok n fm wd md rg r ymd yrg yr la yla) : tb_immediateBytes fm wd (nI n) = tb_immediateY (nI n) ∧ (¬ tb_isPrivileged fm = 0 ↔ dc_inner (nI n) = true) := sorry
theorem fi_main (hok : mm_ok size cr3) {n : Nat} (hd : dc_ok n form width mod regField rm y_mod y_reg y_rm linear y_address) (hc : code = nI n) (hy : y_op = nI n) :
    (∃ (im nx : Int32) (m' mp' : Nat → Int32) (dA tA : Int32) (pl' : Nat → Int64), (tb_immediateY (nI n) = 0 → nx = nxt) ∧
      (∀ post : SX → Prop, post (size, eip, flags, paging, cr2, cr3, cr4, cr5, cpl, state, pending, deliveries, lastVector, lastError, portTotal, portKept, nx, returnTo, -1, raisedError, dA, tA, code, form, width, mod, regField, rm, linear, im, operand, m', general, ports, mp', words) → wpX_fetchImmediate post (size, eip, flags, paging, cr2, cr3, cr4, cr5, cpl, state, pending, deliveries, lastVector, lastError, portTotal, portKept, nxt, returnTo, -1, raisedError, directoryAt, tableAt, code, form, width, mod, regField, rm, linear, immediate, operand, memory, general, ports, mapped, words)) ∧
      (∀ post : SY → Prop, post (size, eip, flags, (ar_cz paging), cr2, cr3, cr4, cr5, cpl, state, pending, deliveries, lastVector, lastError, portTotal, -1, y_faultError, y_startEip, nx, y_op, y_mod, y_reg, y_rm, y_address, im, ar_ym m', general, y_old, y_ports, pl') → wY_fetch_104 post size eip flags (ar_cz paging) cr2 cr3 cr4 cr5 cpl state pending deliveries lastVector lastError portTotal (-1) y_faultError y_startEip nxt y_op y_mod y_reg y_rm y_address y_imm (ar_ym memory) general y_old y_ports y_place)) ∨
    (∃ (v er cr nx im yim : Int32) (m' mp' : Nat → Int32) (dA tA : Int32) (pl' : Nat → Int64), ((v = 14 ∧ 0 ≤ er) ∨ (v = 13 ∧ er = 0)) ∧
      (∀ post : SX → Prop, post (size, eip, flags, paging, cr, cr3, cr4, cr5, cpl, state, pending, deliveries, lastVector, lastError, portTotal, portKept, nx, returnTo, v, er, dA, tA, code, form, width, mod, regField, rm, linear, im, operand, m', general, ports, mp', words) → wpX_fetchImmediate post (size, eip, flags, paging, cr2, cr3, cr4, cr5, cpl, state, pending, deliveries, lastVector, lastError, portTotal, portKept, nxt, returnTo, -1, raisedError, directoryAt, tableAt, code, form, width, mod, regField, rm, linear, immediate, operand, memory, general, ports, mapped, words)) ∧
      (∀ post : SY → Prop, post (size, eip, flags, (ar_cz paging), cr, cr3, cr4, cr5, cpl, state, pending, deliveries, lastVector, lastError, portTotal, v, er, y_startEip, nx, y_op, y_mod, y_reg, y_rm, y_address, yim, ar_ym m', general, y_old, y_ports, pl') → wY_fetch_104 post size eip flags (ar_cz paging) cr2 cr3 cr4 cr5 cpl state pending deliveries lastVector lastError portTotal (-1) y_faultError y_startEip nxt y_op y_mod y_reg y_rm y_address y_imm (ar_ym memory) general y_old y_ports y_place)) := sorry
end
end
section
/-! flags: setResultFlags ~ flag, flag, zsp -/
def fl_ok (f : Int32) : Prop := (f &&& 3781) ||| 2 = f
theorem fl_bit {f : Int32} (h : fl_ok f) (i : Nat) : ((bt f i && bt 3781 i) || bt 2 i) = bt f i := sorry
theorem fl_xf {f : Int32} (h : fl_ok f) (c o z s p : Bool) : fl_ok (ar_xf f c o z s p) := sorry
theorem fl_pf {r v : Int32} (h : r &&& 255 = v &&& 255) : decide (ar_par (r &&& 255) &&& 1 = 0) = decide (ar_pc (v &&& 255) 8 - ar_pc (v &&& 255) 8 / 2 * 2 = 0) := sorry
theorem fl_lt128 {r : Int32} : decide (¬ (r &&& 255) &&& 128 = 0) = decide (¬ (r &&& 255) < 128) := sorry
theorem fl_neg (r : Int32) : decide (¬ r &&& (-2147483648) = 0) = decide (¬ 0 ≤ r) := sorry
section
variable {size eip flags paging cr2 cr3 cr4 cr5 cpl state pending deliveries lastVector lastError portTotal portKept nxt returnTo raised raisedError directoryAt tableAt code form width mod regField rm linear immediate operand : Int32} {memory general ports mapped words : Nat → Int32} {y_faultError y_startEip y_op y_mod y_reg y_rm y_address y_imm : Int32} {y_old y_ports : Nat → Int32} {y_place : Nat → Int64}
theorem fl_flagY (post : SY → Prop) (b on : Int32) (h : post (size, eip, ar_yf flags b (decide (¬ on = 0)), (ar_cz paging), cr2, cr3, cr4, cr5, cpl, state, pending, deliveries, lastVector, lastError, portTotal, raised, y_faultError, y_startEip, nxt, y_op, y_mod, y_reg, y_rm, y_address, y_imm, (ar_ym memory), general, y_old, y_ports, y_place)) : wpY_flag post (size, eip, flags, (ar_cz paging), cr2, cr3, cr4, cr5, cpl, state, pending, deliveries, lastVector, lastError, portTotal, raised, y_faultError, y_startEip, nxt, y_op, y_mod, y_reg, y_rm, y_address, y_imm, (ar_ym memory), general, y_old, y_ports, y_place) b on := sorry
theorem fl_set (post : SX → Prop) (res c o kept top : Int32) (hk : (width = 1 ∧ kept = res &&& 255 ∧ top = 128) ∨ (¬ width = 1 ∧ kept = res ∧ top = -2147483648))
    (h : post (size, eip, ar_xf flags (decide (¬ c = 0)) (decide (¬ o = 0)) (decide (kept = 0)) (decide (¬ kept &&& top = 0)) (decide (ar_par (res &&& 255) &&& 1 = 0)), paging, cr2, cr3, cr4, cr5, cpl, state, pending, deliveries, lastVector, lastError, portTotal, portKept, nxt, returnTo, raised, raisedError, directoryAt, tableAt, code, form, width, mod, regField, rm, linear, immediate, operand, memory, general, ports, mapped, words)) : wpX_setResultFlags post (size, eip, flags, paging, cr2, cr3, cr4, cr5, cpl, state, pending, deliveries, lastVector, lastError, portTotal, portKept, nxt, returnTo, raised, raisedError, directoryAt, tableAt, code, form, width, mod, regField, rm, linear, immediate, operand, memory, general, ports, mapped, words) res c o := sorry
theorem fl_zsp (post : SY → Prop) (v w : Int32) (z s : Bool) (hz : (w = 4 ∧ z = decide (v = 0) ∧ s = decide (¬ 0 ≤ v)) ∨ (¬ w = 4 ∧ z = decide (v &&& 255 = 0) ∧ s = decide (¬ (v &&& 255) < 128)))
    (h : post (size, eip, ar_yz flags z s (decide (ar_pc (v &&& 255) 8 - ar_pc (v &&& 255) 8 / 2 * 2 = 0)), (ar_cz paging), cr2, cr3, cr4, cr5, cpl, state, pending, deliveries, lastVector, lastError, portTotal, raised, y_faultError, y_startEip, nxt, y_op, y_mod, y_reg, y_rm, y_address, y_imm, (ar_ym memory), general, y_old, y_ports, y_place)) : wpY_zsp post (size, eip, flags, (ar_cz paging), cr2, cr3, cr4, cr5, cpl, state, pending, deliveries, lastVector, lastError, portTotal, raised, y_faultError, y_startEip, nxt, y_op, y_mod, y_reg, y_rm, y_address, y_imm, (ar_ym memory), general, y_old, y_ports, y_place) v w := sorry
/-- X's setResultFlags against Y's two flags and zsp -/
theorem fl_main (res v c o : Int32) (hf : fl_ok flags) (hw : (width = 4 ∧ res = v) ∨ (width = 1 ∧ res &&& 255 = v &&& 255)) : ∃ F : Int32, fl_ok F ∧
    (∀ post : SX → Prop, post (size, eip, F, paging, cr2, cr3, cr4, cr5, cpl, state, pending, deliveries, lastVector, lastError, portTotal, portKept, nxt, returnTo, raised, raisedError, directoryAt, tableAt, code, form, width, mod, regField, rm, linear, immediate, operand, memory, general, ports, mapped, words) → wpX_setResultFlags post (size, eip, flags, paging, cr2, cr3, cr4, cr5, cpl, state, pending, deliveries, lastVector, lastError, portTotal, portKept, nxt, returnTo, raised, raisedError, directoryAt, tableAt, code, form, width, mod, regField, rm, linear, immediate, operand, memory, general, ports, mapped, words) res c o) ∧
    (∀ post : SY → Prop, post (size, eip, F, (ar_cz paging), cr2, cr3, cr4, cr5, cpl, state, pending, deliveries, lastVector, lastError, portTotal, raised, y_faultError, y_startEip, nxt, y_op, y_mod, y_reg, y_rm, y_address, y_imm, (ar_ym memory), general, y_old, y_ports, y_place) → wpY_zsp post (size, eip, ar_yf (ar_yf flags 1 (decide (¬ c = 0))) 2048 (decide (¬ o = 0)), (ar_cz paging), cr2, cr3, cr4, cr5, cpl, state, pending, deliveries, lastVector, lastError, portTotal, raised, y_faultError, y_startEip, nxt, y_op, y_mod, y_reg, y_rm, y_address, y_imm, (ar_ym memory), general, y_old, y_ports, y_place) v width) := sorry
end
end
section
/-! combine ~ alu -/
theorem al_ss (d : Int32) : d.toInt64.toInt32.toInt64 = d.toInt64 := by rw [Int32.toInt32_toInt64]
theorem al_m1 : (4294967295 : Int64).toInt32 = -1 := by decide
theorem al_4 (d : Int32) : (d.toInt64 &&& 4294967295).toInt32 = d := by
  rw [Int64.toInt32_and, al_m1, Int32.toInt32_toInt64, Int32.and_comm]; exact Int32.neg_one_and
theorem al_255 : ∀ d : Int32, (d &&& 255).toInt64 = d.toInt64 &&& 255 := fun d => by rw [Int32.toInt64_and]; rfl
section
variable {size eip flags paging cr2 cr3 cr4 cr5 cpl state pending deliveries lastVector lastError portTotal portKept nxt returnTo raised raisedError directoryAt tableAt code form width mod regField rm linear immediate operand : Int32} {memory general ports mapped words : Nat → Int32} {y_faultError y_startEip y_op y_mod y_reg y_rm y_address y_imm : Int32} {y_old y_ports : Nat → Int32} {y_place : Nat → Int64}
/-- Y's end of alu: flag, flag, zsp -/
theorem al_268 (post : Int32 → SY → Prop) (x15 x18 : Int64) (cy ov : Int32) (w : Int32) (F : Int32)
    (hov : (w = 4 ∧ ((x18 = x18.toInt32.toInt64 ∧ ov = 0) ∨ (¬ x18 = x18.toInt32.toInt64 ∧ ov = 1))) ∨ (¬ w = 4 ∧ ((x18 = x18.toInt32.toInt8.toInt32.toInt64 ∧ ov = 0) ∨ (¬ x18 = x18.toInt32.toInt8.toInt32.toInt64 ∧ ov = 1))))
    (hz : ∀ post : SY → Prop, post (size, eip, F, (ar_cz paging), cr2, cr3, cr4, cr5, cpl, state, pending, deliveries, lastVector, lastError, portTotal, raised, y_faultError, y_startEip, nxt, y_op, y_mod, y_reg, y_rm, y_address, y_imm, (ar_ym memory), general, y_old, y_ports, y_place) → wpY_zsp post (size, eip, ar_yf (ar_yf flags 1 (decide (¬ cy = 0))) 2048 (decide (¬ ov = 0)), (ar_cz paging), cr2, cr3, cr4, cr5, cpl, state, pending, deliveries, lastVector, lastError, portTotal, raised, y_faultError, y_startEip, nxt, y_op, y_mod, y_reg, y_rm, y_address, y_imm, (ar_ym memory), general, y_old, y_ports, y_place) x15.toInt32 w)
    (h : post x15.toInt32 (size, eip, F, (ar_cz paging), cr2, cr3, cr4, cr5, cpl, state, pending, deliveries, lastVector, lastError, portTotal, raised, y_faultError, y_startEip, nxt, y_op, y_mod, y_reg, y_rm, y_address, y_imm, (ar_ym memory), general, y_old, y_ports, y_place)) : wY_alu_268 post w x15 cy x18 size eip flags (ar_cz paging) cr2 cr3 cr4 cr5 cpl state pending deliveries lastVector lastError portTotal raised y_faultError y_startEip nxt y_op y_mod y_reg y_rm y_address y_imm (ar_ym memory) general y_old y_ports y_place := by
  refine (fl_flagY (size := size) (eip := eip) (flags := flags) (paging := paging) (cr2 := cr2) (cr3 := cr3) (cr4 := cr4) (cr5 := cr5) (cpl := cpl) (state := state) (pending := pending) (deliveries := deliveries) (lastVector := lastVector) (lastError := lastError) (portTotal := portTotal) (nxt := nxt) (raised := raised) (memory := memory) (general := general) (y_faultError := y_faultError) (y_startEip := y_startEip) (y_op := y_op) (y_mod := y_mod) (y_reg := y_reg) (y_rm := y_rm) (y_address := y_address) (y_imm := y_imm) (y_old := y_old) (y_ports := y_ports) (y_place := y_place)) _ 1 cy ?_
  have k : wY_alu_318 post w x15 ov 2048 size eip (ar_yf flags 1 (decide (¬ cy = 0))) (ar_cz paging) cr2 cr3 cr4 cr5 cpl state pending deliveries lastVector lastError portTotal raised y_faultError y_startEip nxt y_op y_mod y_reg y_rm y_address y_imm (ar_ym memory) general y_old y_ports y_place := (fl_flagY (size := size) (eip := eip) (flags := ar_yf flags 1 (decide (¬ cy = 0))) (paging := paging) (cr2 := cr2) (cr3 := cr3) (cr4 := cr4) (cr5 := cr5) (cpl := cpl) (state := state) (pending := pending) (deliveries := deliveries) (lastVector := lastVector) (lastError := lastError) (portTotal := portTotal) (nxt := nxt) (raised := raised) (memory := memory) (general := general) (y_faultError := y_faultError) (y_startEip := y_startEip) (y_op := y_op) (y_mod := y_mod) (y_reg := y_reg) (y_rm := y_rm) (y_address := y_address) (y_imm := y_imm) (y_old := y_old) (y_ports := y_ports) (y_place := y_place)) _ 2048 ov (hz _ h)
  rcases hov with ⟨hw, ⟨q, e⟩ | ⟨q, e⟩⟩ | ⟨hw, ⟨q, e⟩ | ⟨q, e⟩⟩
  · subst e; exact br_t hw (br_t q k)
  · subst e; exact br_t hw (br_f q k)
  · subst e; exact br_f hw (br_t q k)
  · subst e; exact br_f hw (br_f q k)
/-- sums -/
theorem al_sum (hf : fl_ok flags) (hw : width = 4 ∨ width = 1) (d s : Int32) {b : Nat} (hb : b < 2) : ∃ rx ry F : Int32, fl_ok F ∧ (width = 4 → rx = ry) ∧ rx &&& 255 = ry &&& 255 ∧
    (∀ post : Int32 → SX → Prop, post rx (size, eip, F, paging, cr2, cr3, cr4, cr5, cpl, state, pending, deliveries, lastVector, lastError, portTotal, portKept, nxt, returnTo, raised, raisedError, directoryAt, tableAt, code, form, width, mod, regField, rm, linear, immediate, operand, memory, general, ports, mapped, words) → wpX_sum post (size, eip, flags, paging, cr2, cr3, cr4, cr5, cpl, state, pending, deliveries, lastVector, lastError, portTotal, portKept, nxt, returnTo, raised, raisedError, directoryAt, tableAt, code, form, width, mod, regField, rm, linear, immediate, operand, memory, general, ports, mapped, words) d s (nI b)) ∧
    (∀ post : Int32 → SY → Prop, post ry (size, eip, F, (ar_cz paging), cr2, cr3, cr4, cr5, cpl, state, pending, deliveries, lastVector, lastError, portTotal, raised, y_faultError, y_startEip, nxt, y_op, y_mod, y_reg, y_rm, y_address, y_imm, (ar_ym memory), general, y_old, y_ports, y_place) → wY_alu_132 post width (if width = 4 then d.toInt64 &&& 4294967295 else (d &&& 255).toInt64) (if width = 4 then s.toInt64 &&& 4294967295 else (s &&& 255).toInt64) (if width = 4 then d.toInt64 else d.toInt8.toInt32.toInt64) (if width = 4 then s.toInt64 else s.toInt8.toInt32.toInt64) (lN b) size eip flags (ar_cz paging) cr2 cr3 cr4 cr5 cpl state pending deliveries lastVector lastError portTotal raised y_faultError y_startEip nxt y_op y_mod y_reg y_rm y_address y_imm (ar_ym memory) general y_old y_ports y_place) := by
  have eb : (nI b).toInt64 = lN b := nI_l (by omega)
  rcases hw with hw | hw
  · have w1 : ¬ width = 1 := by rw [hw]; decide
    obtain ⟨x, hx, ex, ex2⟩ := au_u4 d
    obtain ⟨y, hy, ey, ey2⟩ := au_u4 s
    have eN : lN x + lN y + lN b = lN (x + y + b) := by rw [lN_add, lN_add]
    have er : (lN x + lN y + lN b).toInt32 = (d.toInt64 + s.toInt64 + lN b).toInt32 := by
      rw [← ex, ← ey, Int64.toInt32_add, Int64.toInt32_add, Int64.toInt32_add, Int64.toInt32_add, al_4, al_4, Int32.toInt32_toInt64, Int32.toInt32_toInt64]
    rw [if_pos hw, if_pos hw, if_pos hw, if_pos hw, ex, ey]
    have hcy : ∃ cy : Int32, (lN x + lN y + lN b = (lN x + lN y + lN b) &&& 4294967295 ∧ lN x + lN y + lN b ≤ 4294967295 ∧ cy = 0) ∨ (¬ lN x + lN y + lN b = (lN x + lN y + lN b) &&& 4294967295 ∧ ¬ lN x + lN y + lN b ≤ 4294967295 ∧ cy = 1) := by
      rw [eN]
      by_cases q : lN (x + y + b) ≤ 4294967295
      · exact ⟨0, Or.inl ⟨(au_cy4 (by omega)).mpr q, q, rfl⟩⟩
      · exact ⟨1, Or.inr ⟨fun w => q ((au_cy4 (by omega)).mp w), q, rfl⟩⟩
    obtain ⟨cy, hcy⟩ := hcy
    have hov : ∃ ov : Int32, ((d.toInt64 + s.toInt64 + lN b = (d.toInt64 + s.toInt64 + lN b).toInt32.toInt64 ∧ ov = 0) ∨ (¬ d.toInt64 + s.toInt64 + lN b = (d.toInt64 + s.toInt64 + lN b).toInt32.toInt64 ∧ ov = 1)) := by
      by_cases q : d.toInt64 + s.toInt64 + lN b = (d.toInt64 + s.toInt64 + lN b).toInt32.toInt64
      · exact ⟨0, Or.inl ⟨q, rfl⟩⟩
      · exact ⟨1, Or.inr ⟨q, rfl⟩⟩
    obtain ⟨ov, hov⟩ := hov
    obtain ⟨F, hF, kX, kY⟩ := (fl_main (size := size) (eip := eip) (flags := flags) (paging := paging) (cr2 := cr2) (cr3 := cr3) (cr4 := cr4) (cr5 := cr5) (cpl := cpl) (state := state) (pending := pending) (deliveries := deliveries) (lastVector := lastVector) (lastError := lastError) (portTotal := portTotal) (portKept := portKept) (nxt := nxt) (returnTo := returnTo) (raised := raised) (raisedError := raisedError) (directoryAt := directoryAt) (tableAt := tableAt) (code := code) (form := form) (width := width) (mod := mod) (regField := regField) (rm := rm) (linear := linear) (immediate := immediate) (operand := operand) (memory := memory) (general := general) (ports := ports) (mapped := mapped) (words := words) (y_faultError := y_faultError) (y_startEip := y_startEip) (y_op := y_op) (y_mod := y_mod) (y_reg := y_reg) (y_rm := y_rm) (y_address := y_address) (y_imm := y_imm) (y_old := y_old) (y_ports := y_ports) (y_place := y_place)) ((d.toInt64 + s.toInt64 + lN b).toInt32) ((lN x + lN y + lN b).toInt32) cy ov hf (Or.inl ⟨hw, er.symm⟩)
    refine ⟨(d.toInt64 + s.toInt64 + lN b).toInt32, (lN x + lN y + lN b).toInt32, F, hF, fun _ => er.symm, by rw [er], fun post hp => ?_, fun post hp => ?_⟩
    · have k53 : wX_sum_53 post (d.toInt64 + s.toInt64 + lN b) cy size eip flags paging cr2 cr3 cr4 cr5 cpl state pending deliveries lastVector lastError portTotal portKept nxt returnTo raised raisedError directoryAt tableAt code form width mod regField rm linear immediate operand memory general ports mapped words := by
        refine br_f w1 ?_
        rcases hov with ⟨q, e⟩ | ⟨q, e⟩
        · subst e; exact br_t q (kX _ hp)
        · subst e; exact br_f q (kX _ hp)
      refine br_f w1 (br_f w1 (nm_r (by rw [ex, ey, eb]) (br_f w1 (br_f w1 (nm_r (by rw [al_ss, al_ss, eb]) (br_f w1 ?_))))))
      rcases hcy with ⟨q, _, e⟩ | ⟨q, _, e⟩
      · subst e; exact br_t q k53
      · subst e; exact br_f q k53
    · refine nm_e (br_t hw ?_)
      have k : wY_alu_167 post width d.toInt64 s.toInt64 (lN b) (lN x + lN y + lN b) cy size eip flags (ar_cz paging) cr2 cr3 cr4 cr5 cpl state pending deliveries lastVector lastError portTotal raised y_faultError y_startEip nxt y_op y_mod y_reg y_rm y_address y_imm (ar_ym memory) general y_old y_ports y_place := nm_e ((al_268 (size := size) (eip := eip) (flags := flags) (paging := paging) (cr2 := cr2) (cr3 := cr3) (cr4 := cr4) (cr5 := cr5) (cpl := cpl) (state := state) (pending := pending) (deliveries := deliveries) (lastVector := lastVector) (lastError := lastError) (portTotal := portTotal) (nxt := nxt) (raised := raised) (memory := memory) (general := general) (y_faultError := y_faultError) (y_startEip := y_startEip) (y_op := y_op) (y_mod := y_mod) (y_reg := y_reg) (y_rm := y_rm) (y_address := y_address) (y_imm := y_imm) (y_old := y_old) (y_ports := y_ports) (y_place := y_place)) post _ _ cy ov width F (Or.inl ⟨hw, hov⟩) kY hp)
      rcases hcy with ⟨_, q, e⟩ | ⟨_, q, e⟩
      · subst e; exact br_t q k
      · subst e; exact br_f q k
  · have w4 : ¬ width = 4 := by rw [hw]; decide
    obtain ⟨x, hx, ex, ex3, ex2⟩ := au_u1 d
    obtain ⟨y, hy, ey, ey3, ey2⟩ := au_u1 s
    have eN : lN x + lN y + lN b = lN (x + y + b) := by rw [lN_add, lN_add]
    have er : (d.toInt8.toInt32.toInt64 + s.toInt8.toInt32.toInt64 + lN b).toInt32 &&& 255 = (lN x + lN y + lN b).toInt32 &&& 255 := by
      apply au_lo
      rw [← ex2, ← ey2, Int64.toInt32_add, Int64.toInt32_add, Int64.toInt32_add, Int64.toInt32_add, Int32.toInt32_toInt64, Int32.toInt32_toInt64, Int32.toInt32_toInt64, Int32.toInt32_toInt64, Int32.toInt8_add, Int32.toInt8_add, Int32.toInt8_add, Int32.toInt8_add, au_8, au_8, au_bb, au_bb]
    rw [if_neg w4, if_neg w4, if_neg w4, if_neg w4, ex2, ey2]
    have hcy : ∃ cy : Int32, (lN x + lN y + lN b = (lN x + lN y + lN b) &&& 255 ∧ lN x + lN y + lN b ≤ 255 ∧ cy = 0) ∨ (¬ lN x + lN y + lN b = (lN x + lN y + lN b) &&& 255 ∧ ¬ lN x + lN y + lN b ≤ 255 ∧ cy = 1) := by
      rw [eN]
      by_cases q : lN (x + y + b) ≤ 255
      · exact ⟨0, Or.inl ⟨(au_cy1 (by omega)).mpr q, q, rfl⟩⟩
      · exact ⟨1, Or.inr ⟨fun w => q ((au_cy1 (by omega)).mp w), q, rfl⟩⟩
    obtain ⟨cy, hcy⟩ := hcy
    have hov : ∃ ov : Int32, ((d.toInt8.toInt32.toInt64 + s.toInt8.toInt32.toInt64 + lN b = (d.toInt8.toInt32.toInt64 + s.toInt8.toInt32.toInt64 + lN b).toInt32.toInt8.toInt32.toInt64 ∧ ov = 0) ∨ (¬ d.toInt8.toInt32.toInt64 + s.toInt8.toInt32.toInt64 + lN b = (d.toInt8.toInt32.toInt64 + s.toInt8.toInt32.toInt64 + lN b).toInt32.toInt8.toInt32.toInt64 ∧ ov = 1)) := by
      by_cases q : d.toInt8.toInt32.toInt64 + s.toInt8.toInt32.toInt64 + lN b = (d.toInt8.toInt32.toInt64 + s.toInt8.toInt32.toInt64 + lN b).toInt32.toInt8.toInt32.toInt64
      · exact ⟨0, Or.inl ⟨q, rfl⟩⟩
      · exact ⟨1, Or.inr ⟨q, rfl⟩⟩
    obtain ⟨ov, hov⟩ := hov
    obtain ⟨F, hF, kX, kY⟩ := (fl_main (size := size) (eip := eip) (flags := flags) (paging := paging) (cr2 := cr2) (cr3 := cr3) (cr4 := cr4) (cr5 := cr5) (cpl := cpl) (state := state) (pending := pending) (deliveries := deliveries) (lastVector := lastVector) (lastError := lastError) (portTotal := portTotal) (portKept := portKept) (nxt := nxt) (returnTo := returnTo) (raised := raised) (raisedError := raisedError) (directoryAt := directoryAt) (tableAt := tableAt) (code := code) (form := form) (width := width) (mod := mod) (regField := regField) (rm := rm) (linear := linear) (immediate := immediate) (operand := operand) (memory := memory) (general := general) (ports := ports) (mapped := mapped) (words := words) (y_faultError := y_faultError) (y_startEip := y_startEip) (y_op := y_op) (y_mod := y_mod) (y_reg := y_reg) (y_rm := y_rm) (y_address := y_address) (y_imm := y_imm) (y_old := y_old) (y_ports := y_ports) (y_place := y_place)) ((d.toInt8.toInt32.toInt64 + s.toInt8.toInt32.toInt64 + lN b).toInt32) ((lN x + lN y + lN b).toInt32) cy ov hf (Or.inr ⟨hw, er⟩)
    refine ⟨(d.toInt8.toInt32.toInt64 + s.toInt8.toInt32.toInt64 + lN b).toInt32, (lN x + lN y + lN b).toInt32, F, hF, fun w => absurd w w4, er, fun post hp => ?_, fun post hp => ?_⟩
    · have k53 : wX_sum_53 post (d.toInt8.toInt32.toInt64 + s.toInt8.toInt32.toInt64 + lN b) cy size eip flags paging cr2 cr3 cr4 cr5 cpl state pending deliveries lastVector lastError portTotal portKept nxt returnTo raised raisedError directoryAt tableAt code form width mod regField rm linear immediate operand memory general ports mapped words := by
        refine br_t hw ?_
        rcases hov with ⟨q, e⟩ | ⟨q, e⟩
        · subst e; exact br_t q (kX _ hp)
        · subst e; exact br_f q (kX _ hp)
      refine br_t hw (br_t hw (nm_r (by rw [ex, ey, eb]) (br_t hw (br_t hw (nm_r (by rw [Int32.toInt32_toInt64, Int32.toInt32_toInt64, eb]) (br_t hw ?_))))))
      rcases hcy with ⟨q, _, e⟩ | ⟨q, _, e⟩
      · subst e; exact br_t q k53
      · subst e; exact br_f q k53
    · refine nm_e (br_f w4 ?_)
      have k : wY_alu_167 post width d.toInt8.toInt32.toInt64 s.toInt8.toInt32.toInt64 (lN b) (lN x + lN y + lN b) cy size eip flags (ar_cz paging) cr2 cr3 cr4 cr5 cpl state pending deliveries lastVector lastError portTotal raised y_faultError y_startEip nxt y_op y_mod y_reg y_rm y_address y_imm (ar_ym memory) general y_old y_ports y_place := nm_e ((al_268 (size := size) (eip := eip) (flags := flags) (paging := paging) (cr2 := cr2) (cr3 := cr3) (cr4 := cr4) (cr5 := cr5) (cpl := cpl) (state := state) (pending := pending) (deliveries := deliveries) (lastVector := lastVector) (lastError := lastError) (portTotal := portTotal) (nxt := nxt) (raised := raised) (memory := memory) (general := general) (y_faultError := y_faultError) (y_startEip := y_startEip) (y_op := y_op) (y_mod := y_mod) (y_reg := y_reg) (y_rm := y_rm) (y_address := y_address) (y_imm := y_imm) (y_old := y_old) (y_ports := y_ports) (y_place := y_place)) post _ _ cy ov width F (Or.inr ⟨w4, hov⟩) kY hp)
      rcases hcy with ⟨_, q, e⟩ | ⟨_, q, e⟩
      · subst e; exact br_t q k
      · subst e; exact br_f q k
/-- differences -/
theorem al_dif (hf : fl_ok flags) (hw : width = 4 ∨ width = 1) (d s : Int32) {b : Nat} (hb : b < 2) : ∃ rx ry F : Int32, fl_ok F ∧ (width = 4 → rx = ry) ∧ rx &&& 255 = ry &&& 255 ∧
    (∀ post : Int32 → SX → Prop, post rx (size, eip, F, paging, cr2, cr3, cr4, cr5, cpl, state, pending, deliveries, lastVector, lastError, portTotal, portKept, nxt, returnTo, raised, raisedError, directoryAt, tableAt, code, form, width, mod, regField, rm, linear, immediate, operand, memory, general, ports, mapped, words) → wpX_difference post (size, eip, flags, paging, cr2, cr3, cr4, cr5, cpl, state, pending, deliveries, lastVector, lastError, portTotal, portKept, nxt, returnTo, raised, raisedError, directoryAt, tableAt, code, form, width, mod, regField, rm, linear, immediate, operand, memory, general, ports, mapped, words) d s (nI b)) ∧
    (∀ post : Int32 → SY → Prop, post ry (size, eip, F, (ar_cz paging), cr2, cr3, cr4, cr5, cpl, state, pending, deliveries, lastVector, lastError, portTotal, raised, y_faultError, y_startEip, nxt, y_op, y_mod, y_reg, y_rm, y_address, y_imm, (ar_ym memory), general, y_old, y_ports, y_place) → wY_alu_198 post width (if width = 4 then d.toInt64 &&& 4294967295 else (d &&& 255).toInt64) (if width = 4 then s.toInt64 &&& 4294967295 else (s &&& 255).toInt64) (if width = 4 then d.toInt64 else d.toInt8.toInt32.toInt64) (if width = 4 then s.toInt64 else s.toInt8.toInt32.toInt64) (lN b) size eip flags (ar_cz paging) cr2 cr3 cr4 cr5 cpl state pending deliveries lastVector lastError portTotal raised y_faultError y_startEip nxt y_op y_mod y_reg y_rm y_address y_imm (ar_ym memory) general y_old y_ports y_place) := by
  have eb : (nI b).toInt64 = lN b := nI_l (by omega)
  have bw : ∀ x y : Nat, x < 2 ^ 32 → y < 2 ^ 32 → ∃ cy : Int32, (lN y + lN b ≤ lN x ∧ 0 ≤ lN x - lN y - lN b ∧ cy = 0) ∨ (¬ lN y + lN b ≤ lN x ∧ ¬ 0 ≤ lN x - lN y - lN b ∧ cy = 1) := by
    intro x y hx hy
    have e := au_bw (a := x) (b := y) (c := b) (by omega) (by omega) (by omega)
    by_cases q : lN x < lN y + lN b
    · exact ⟨1, Or.inr ⟨Int64.not_le.mpr q, Int64.not_le.mpr (e.mp q), rfl⟩⟩
    · exact ⟨0, Or.inl ⟨Int64.not_lt.mp q, Int64.not_lt.mp (fun w => q (e.mpr w)), rfl⟩⟩
  rcases hw with hw | hw
  · have w1 : ¬ width = 1 := by rw [hw]; decide
    obtain ⟨x, hx, ex, ex2⟩ := au_u4 d
    obtain ⟨y, hy, ey, ey2⟩ := au_u4 s
    have er : (lN x - lN y - lN b).toInt32 = (d.toInt64 - s.toInt64 - lN b).toInt32 := by
      rw [← ex, ← ey, Int64.toInt32_sub, Int64.toInt32_sub, Int64.toInt32_sub, Int64.toInt32_sub, al_4, al_4, Int32.toInt32_toInt64, Int32.toInt32_toInt64]
    rw [if_pos hw, if_pos hw, if_pos hw, if_pos hw, ex, ey]
    obtain ⟨cy, hcy⟩ := bw x y hx hy
    have hov : ∃ ov : Int32, ((d.toInt64 - s.toInt64 - lN b = (d.toInt64 - s.toInt64 - lN b).toInt32.toInt64 ∧ ov = 0) ∨ (¬ d.toInt64 - s.toInt64 - lN b = (d.toInt64 - s.toInt64 - lN b).toInt32.toInt64 ∧ ov = 1)) := by
      by_cases q : d.toInt64 - s.toInt64 - lN b = (d.toInt64 - s.toInt64 - lN b).toInt32.toInt64
      · exact ⟨0, Or.inl ⟨q, rfl⟩⟩
      · exact ⟨1, Or.inr ⟨q, rfl⟩⟩
    obtain ⟨ov, hov⟩ := hov
    obtain ⟨F, hF, kX, kY⟩ := (fl_main (size := size) (eip := eip) (flags := flags) (paging := paging) (cr2 := cr2) (cr3 := cr3) (cr4 := cr4) (cr5 := cr5) (cpl := cpl) (state := state) (pending := pending) (deliveries := deliveries) (lastVector := lastVector) (lastError := lastError) (portTotal := portTotal) (portKept := portKept) (nxt := nxt) (returnTo := returnTo) (raised := raised) (raisedError := raisedError) (directoryAt := directoryAt) (tableAt := tableAt) (code := code) (form := form) (width := width) (mod := mod) (regField := regField) (rm := rm) (linear := linear) (immediate := immediate) (operand := operand) (memory := memory) (general := general) (ports := ports) (mapped := mapped) (words := words) (y_faultError := y_faultError) (y_startEip := y_startEip) (y_op := y_op) (y_mod := y_mod) (y_reg := y_reg) (y_rm := y_rm) (y_address := y_address) (y_imm := y_imm) (y_old := y_old) (y_ports := y_ports) (y_place := y_place)) ((d.toInt64 - s.toInt64 - lN b).toInt32) ((lN x - lN y - lN b).toInt32) cy ov hf (Or.inl ⟨hw, er.symm⟩)
    refine ⟨(d.toInt64 - s.toInt64 - lN b).toInt32, (lN x - lN y - lN b).toInt32, F, hF, fun _ => er.symm, by rw [er], fun post hp => ?_, fun post hp => ?_⟩
    · have k24 : wX_difference_24 post d s (nI b) cy size eip flags paging cr2 cr3 cr4 cr5 cpl state pending deliveries lastVector lastError portTotal portKept nxt returnTo raised raisedError directoryAt tableAt code form width mod regField rm linear immediate operand memory general ports mapped words := by
        refine br_f w1 (br_f w1 (nm_r (by rw [al_ss, al_ss, eb]) (br_f w1 ?_)))
        rcases hov with ⟨q, e⟩ | ⟨q, e⟩
        · subst e; exact br_t q (kX _ hp)
        · subst e; exact br_f q (kX _ hp)
      refine br_f w1 (br_f w1 ?_)
      rw [ex, ey, eb]
      rcases hcy with ⟨q, _, e⟩ | ⟨q, _, e⟩
      · subst e; exact br_t q k24
      · subst e; exact br_f q k24
    · refine nm_e ?_
      have k : wY_alu_220 post width d.toInt64 s.toInt64 (lN b) (lN x - lN y - lN b) cy size eip flags (ar_cz paging) cr2 cr3 cr4 cr5 cpl state pending deliveries lastVector lastError portTotal raised y_faultError y_startEip nxt y_op y_mod y_reg y_rm y_address y_imm (ar_ym memory) general y_old y_ports y_place := nm_e ((al_268 (size := size) (eip := eip) (flags := flags) (paging := paging) (cr2 := cr2) (cr3 := cr3) (cr4 := cr4) (cr5 := cr5) (cpl := cpl) (state := state) (pending := pending) (deliveries := deliveries) (lastVector := lastVector) (lastError := lastError) (portTotal := portTotal) (nxt := nxt) (raised := raised) (memory := memory) (general := general) (y_faultError := y_faultError) (y_startEip := y_startEip) (y_op := y_op) (y_mod := y_mod) (y_reg := y_reg) (y_rm := y_rm) (y_address := y_address) (y_imm := y_imm) (y_old := y_old) (y_ports := y_ports) (y_place := y_place)) post _ _ cy ov width F (Or.inl ⟨hw, hov⟩) kY hp)
      rcases hcy with ⟨_, q, e⟩ | ⟨_, q, e⟩
      · subst e; exact br_t q k
      · subst e; exact br_f q k
  · have w4 : ¬ width = 4 := by rw [hw]; decide
    obtain ⟨x, hx, ex, ex3, ex2⟩ := au_u1 d
    obtain ⟨y, hy, ey, ey3, ey2⟩ := au_u1 s
    have er : (d.toInt8.toInt32.toInt64 - s.toInt8.toInt32.toInt64 - lN b).toInt32 &&& 255 = (lN x - lN y - lN b).toInt32 &&& 255 := by
      apply au_lo
      rw [← ex2, ← ey2, Int64.toInt32_sub, Int64.toInt32_sub, Int64.toInt32_sub, Int64.toInt32_sub, Int32.toInt32_toInt64, Int32.toInt32_toInt64, Int32.toInt32_toInt64, Int32.toInt32_toInt64, Int32.toInt8_sub, Int32.toInt8_sub, Int32.toInt8_sub, Int32.toInt8_sub, au_8, au_8, au_bb, au_bb]
    rw [if_neg w4, if_neg w4, if_neg w4, if_neg w4, ex2, ey2]
    obtain ⟨cy, hcy⟩ := bw x y (by omega) (by omega)
    have hov : ∃ ov : Int32, ((d.toInt8.toInt32.toInt64 - s.toInt8.toInt32.toInt64 - lN b = (d.toInt8.toInt32.toInt64 - s.toInt8.toInt32.toInt64 - lN b).toInt32.toInt8.toInt32.toInt64 ∧ ov = 0) ∨ (¬ d.toInt8.toInt32.toInt64 - s.toInt8.toInt32.toInt64 - lN b = (d.toInt8.toInt32.toInt64 - s.toInt8.toInt32.toInt64 - lN b).toInt32.toInt8.toInt32.toInt64 ∧ ov = 1)) := by
      by_cases q : d.toInt8.toInt32.toInt64 - s.toInt8.toInt32.toInt64 - lN b = (d.toInt8.toInt32.toInt64 - s.toInt8.toInt32.toInt64 - lN b).toInt32.toInt8.toInt32.toInt64
      · exact ⟨0, Or.inl ⟨q, rfl⟩⟩
      · exact ⟨1, Or.inr ⟨q, rfl⟩⟩
    obtain ⟨ov, hov⟩ := hov
    obtain ⟨F, hF, kX, kY⟩ := (fl_main (size := size) (eip := eip) (flags := flags) (paging := paging) (cr2 := cr2) (cr3 := cr3) (cr4 := cr4) (cr5 := cr5) (cpl := cpl) (state := state) (pending := pending) (deliveries := deliveries) (lastVector := lastVector) (lastError := lastError) (portTotal := portTotal) (portKept := portKept) (nxt := nxt) (returnTo := returnTo) (raised := raised) (raisedError := raisedError) (directoryAt := directoryAt) (tableAt := tableAt) (code := code) (form := form) (width := width) (mod := mod) (regField := regField) (rm := rm) (linear := linear) (immediate := immediate) (operand := operand) (memory := memory) (general := general) (ports := ports) (mapped := mapped) (words := words) (y_faultError := y_faultError) (y_startEip := y_startEip) (y_op := y_op) (y_mod := y_mod) (y_reg := y_reg) (y_rm := y_rm) (y_address := y_address) (y_imm := y_imm) (y_old := y_old) (y_ports := y_ports) (y_place := y_place)) ((d.toInt8.toInt32.toInt64 - s.toInt8.toInt32.toInt64 - lN b).toInt32) ((lN x - lN y - lN b).toInt32) cy ov hf (Or.inr ⟨hw, er⟩)
    refine ⟨(d.toInt8.toInt32.toInt64 - s.toInt8.toInt32.toInt64 - lN b).toInt32, (lN x - lN y - lN b).toInt32, F, hF, fun w => absurd w w4, er, fun post hp => ?_, fun post hp => ?_⟩
    · have k24 : wX_difference_24 post d s (nI b) cy size eip flags paging cr2 cr3 cr4 cr5 cpl state pending deliveries lastVector lastError portTotal portKept nxt returnTo raised raisedError directoryAt tableAt code form width mod regField rm linear immediate operand memory general ports mapped words := by
        refine br_t hw (br_t hw (nm_r (by rw [Int32.toInt32_toInt64, Int32.toInt32_toInt64, eb]) (br_t hw ?_)))
        rcases hov with ⟨q, e⟩ | ⟨q, e⟩
        · subst e; exact br_t q (kX _ hp)
        · subst e; exact br_f q (kX _ hp)
      refine br_t hw (br_t hw ?_)
      rw [ex, ey, eb]
      rcases hcy with ⟨q, _, e⟩ | ⟨q, _, e⟩
      · subst e; exact br_t q k24
      · subst e; exact br_f q k24
    · refine nm_e ?_
      have k : wY_alu_220 post width d.toInt8.toInt32.toInt64 s.toInt8.toInt32.toInt64 (lN b) (lN x - lN y - lN b) cy size eip flags (ar_cz paging) cr2 cr3 cr4 cr5 cpl state pending deliveries lastVector lastError portTotal raised y_faultError y_startEip nxt y_op y_mod y_reg y_rm y_address y_imm (ar_ym memory) general y_old y_ports y_place := nm_e ((al_268 (size := size) (eip := eip) (flags := flags) (paging := paging) (cr2 := cr2) (cr3 := cr3) (cr4 := cr4) (cr5 := cr5) (cpl := cpl) (state := state) (pending := pending) (deliveries := deliveries) (lastVector := lastVector) (lastError := lastError) (portTotal := portTotal) (nxt := nxt) (raised := raised) (memory := memory) (general := general) (y_faultError := y_faultError) (y_startEip := y_startEip) (y_op := y_op) (y_mod := y_mod) (y_reg := y_reg) (y_rm := y_rm) (y_address := y_address) (y_imm := y_imm) (y_old := y_old) (y_ports := y_ports) (y_place := y_place)) post _ _ cy ov width F (Or.inr ⟨w4, hov⟩) kY hp)
      rcases hcy with ⟨_, q, e⟩ | ⟨_, q, e⟩
      · subst e; exact br_t q k
      · subst e; exact br_f q k
end
end
section
/-! combine ~ alu, all kinds -/
theorem al_lo3 (d s : Int32) : ((d ||| s) &&& 255 = ((d &&& 255) ||| (s &&& 255)) &&& 255) ∧ ((d &&& s) &&& 255 = ((d &&& 255) &&& (s &&& 255)) &&& 255) ∧ ((d ^^^ s) &&& 255 = ((d &&& 255) ^^^ (s &&& 255)) &&& 255) := by
  refine ⟨b_ext (fun i hi => ?_), b_ext (fun i hi => ?_), b_ext (fun i hi => ?_)⟩ <;>
    (simp only [b_or, b_and, b_xor]
     cases bt d i <;> cases bt s i <;> cases bt 255 i <;> rfl)
section
variable {size eip flags paging cr2 cr3 cr4 cr5 cpl state pending deliveries lastVector lastError portTotal portKept nxt returnTo raised raisedError directoryAt tableAt code form width mod regField rm linear immediate operand : Int32} {memory general ports mapped words : Nat → Int32} {y_faultError y_startEip y_op y_mod y_reg y_rm y_address y_imm : Int32} {y_old y_ports : Nat → Int32} {y_place : Nat → Int64}
/-- a logic result -/
theorem al_log (hf : fl_ok flags) (hw : width = 4 ∨ width = 1) (rx : Int32) (z : Int64) (h4 : width = 4 → rx = z.toInt32) (h1 : rx &&& 255 = z.toInt32 &&& 255) : ∃ F : Int32, fl_ok F ∧
    (∀ post : Int32 → SX → Prop, post rx (size, eip, F, paging, cr2, cr3, cr4, cr5, cpl, state, pending, deliveries, lastVector, lastError, portTotal, portKept, nxt, returnTo, raised, raisedError, directoryAt, tableAt, code, form, width, mod, regField, rm, linear, immediate, operand, memory, general, ports, mapped, words) → wX_combine_115 post rx size eip flags paging cr2 cr3 cr4 cr5 cpl state pending deliveries lastVector lastError portTotal portKept nxt returnTo raised raisedError directoryAt tableAt code form width mod regField rm linear immediate operand memory general ports mapped words) ∧
    (∀ post : Int32 → SY → Prop, post z.toInt32 (size, eip, F, (ar_cz paging), cr2, cr3, cr4, cr5, cpl, state, pending, deliveries, lastVector, lastError, portTotal, raised, y_faultError, y_startEip, nxt, y_op, y_mod, y_reg, y_rm, y_address, y_imm, (ar_ym memory), general, y_old, y_ports, y_place) → wY_alu_266 post width 0 0 z size eip flags (ar_cz paging) cr2 cr3 cr4 cr5 cpl state pending deliveries lastVector lastError portTotal raised y_faultError y_startEip nxt y_op y_mod y_reg y_rm y_address y_imm (ar_ym memory) general y_old y_ports y_place) := by
  obtain ⟨F, hF, kX, kY⟩ := (fl_main (size := size) (eip := eip) (flags := flags) (paging := paging) (cr2 := cr2) (cr3 := cr3) (cr4 := cr4) (cr5 := cr5) (cpl := cpl) (state := state) (pending := pending) (deliveries := deliveries) (lastVector := lastVector) (lastError := lastError) (portTotal := portTotal) (portKept := portKept) (nxt := nxt) (returnTo := returnTo) (raised := raised) (raisedError := raisedError) (directoryAt := directoryAt) (tableAt := tableAt) (code := code) (form := form) (width := width) (mod := mod) (regField := regField) (rm := rm) (linear := linear) (immediate := immediate) (operand := operand) (memory := memory) (general := general) (ports := ports) (mapped := mapped) (words := words) (y_faultError := y_faultError) (y_startEip := y_startEip) (y_op := y_op) (y_mod := y_mod) (y_reg := y_reg) (y_rm := y_rm) (y_address := y_address) (y_imm := y_imm) (y_old := y_old) (y_ports := y_ports) (y_place := y_place)) rx z.toInt32 0 0 hf (hw.elim (fun w => Or.inl ⟨w, h4 w⟩) (fun w => Or.inr ⟨w, h1⟩))
  refine ⟨F, hF, fun post hp => kX _ hp, fun post hp => ?_⟩
  refine (al_268 (size := size) (eip := eip) (flags := flags) (paging := paging) (cr2 := cr2) (cr3 := cr3) (cr4 := cr4) (cr5 := cr5) (cpl := cpl) (state := state) (pending := pending) (deliveries := deliveries) (lastVector := lastVector) (lastError := lastError) (portTotal := portTotal) (nxt := nxt) (raised := raised) (memory := memory) (general := general) (y_faultError := y_faultError) (y_startEip := y_startEip) (y_op := y_op) (y_mod := y_mod) (y_reg := y_reg) (y_rm := y_rm) (y_address := y_address) (y_imm := y_imm) (y_old := y_old) (y_ports := y_ports) (y_place := y_place)) post z 0 0 0 width F ?_ kY hp
  rcases hw with w | w
  · exact Or.inl ⟨w, Or.inl ⟨by decide, rfl⟩⟩
  · exact Or.inr ⟨by rw [w]; decide, Or.inl ⟨by decide, rfl⟩⟩
theorem al_main (hf : fl_ok flags) (hw : width = 4 ∨ width = 1) (d s : Int32) {k : Nat} (hk : k < 8) : ∃ rx ry F : Int32, fl_ok F ∧ (width = 4 → rx = ry) ∧ rx &&& 255 = ry &&& 255 ∧
    (∀ post : Int32 → SX → Prop, post rx (size, eip, F, paging, cr2, cr3, cr4, cr5, cpl, state, pending, deliveries, lastVector, lastError, portTotal, portKept, nxt, returnTo, raised, raisedError, directoryAt, tableAt, code, form, width, mod, regField, rm, linear, immediate, operand, memory, general, ports, mapped, words) → wpX_combine post (size, eip, flags, paging, cr2, cr3, cr4, cr5, cpl, state, pending, deliveries, lastVector, lastError, portTotal, portKept, nxt, returnTo, raised, raisedError, directoryAt, tableAt, code, form, width, mod, regField, rm, linear, immediate, operand, memory, general, ports, mapped, words) (nI k) d s) ∧
    (∀ post : Int32 → SY → Prop, post ry (size, eip, F, (ar_cz paging), cr2, cr3, cr4, cr5, cpl, state, pending, deliveries, lastVector, lastError, portTotal, raised, y_faultError, y_startEip, nxt, y_op, y_mod, y_reg, y_rm, y_address, y_imm, (ar_ym memory), general, y_old, y_ports, y_place) → wpY_alu post (size, eip, flags, (ar_cz paging), cr2, cr3, cr4, cr5, cpl, state, pending, deliveries, lastVector, lastError, portTotal, raised, y_faultError, y_startEip, nxt, y_op, y_mod, y_reg, y_rm, y_address, y_imm, (ar_ym memory), general, y_old, y_ports, y_place) (nI k) width d s) := by
  -- Y's head: operands by width
  have hd : ∀ (post : Int32 → SY → Prop) (K : Int32), wY_alu_76 post K width (if width = 4 then d.toInt64 &&& 4294967295 else (d &&& 255).toInt64) (if width = 4 then s.toInt64 &&& 4294967295 else (s &&& 255).toInt64) (if width = 4 then d.toInt64 else d.toInt8.toInt32.toInt64) (if width = 4 then s.toInt64 else s.toInt8.toInt32.toInt64) size eip flags (ar_cz paging) cr2 cr3 cr4 cr5 cpl state pending deliveries lastVector lastError portTotal raised y_faultError y_startEip nxt y_op y_mod y_reg y_rm y_address y_imm (ar_ym memory) general y_old y_ports y_place → wpY_alu post (size, eip, flags, (ar_cz paging), cr2, cr3, cr4, cr5, cpl, state, pending, deliveries, lastVector, lastError, portTotal, raised, y_faultError, y_startEip, nxt, y_op, y_mod, y_reg, y_rm, y_address, y_imm, (ar_ym memory), general, y_old, y_ports, y_place) K width d s := by
    intro post K hp
    by_cases w : width = 4
    · rw [if_pos w, if_pos w, if_pos w, if_pos w] at hp
      exact br_t w (br_t w (br_t w (br_t w hp)))
    · rw [if_neg w, if_neg w, if_neg w, if_neg w] at hp
      exact br_f w (br_f w (br_f w (br_f w hp)))
  -- logic operands
  have e4 : ∀ w : width = 4, ((if width = 4 then d.toInt64 &&& 4294967295 else (d &&& 255).toInt64).toInt32 = d) ∧ ((if width = 4 then s.toInt64 &&& 4294967295 else (s &&& 255).toInt64).toInt32 = s) := by
    intro w
    rw [if_pos w, if_pos w, al_4, al_4]
    exact ⟨rfl, rfl⟩
  have e1 : ∀ w : ¬ width = 4, ((if width = 4 then d.toInt64 &&& 4294967295 else (d &&& 255).toInt64).toInt32 = d &&& 255) ∧ ((if width = 4 then s.toInt64 &&& 4294967295 else (s &&& 255).toInt64).toInt32 = s &&& 255) := by
    intro w
    rw [if_neg w, if_neg w, Int32.toInt32_toInt64, Int32.toInt32_toInt64]
    exact ⟨rfl, rfl⟩
  obtain ⟨l1, l2, l3⟩ := al_lo3 d s
  -- the carry
  obtain ⟨b, hb, eb⟩ := pk_andE flags (m := 1) 1 (by decide)
  have hb2 : b = 0 ∨ b = 1 := by omega
  have is1 : ∀ post : Int32 → Prop, post (nI b) → wpY_is post (size, eip, flags, (ar_cz paging), cr2, cr3, cr4, cr5, cpl, state, pending, deliveries, lastVector, lastError, portTotal, raised, y_faultError, y_startEip, nxt, y_op, y_mod, y_reg, y_rm, y_address, y_imm, (ar_ym memory), general, y_old, y_ports, y_place) 1 := by
    intro post hp
    rcases hb2 with e | e
    · subst e; exact br_t eb hp
    · subst e; exact br_f (by rw [eb]; decide) hp
  rcases (by omega : k = 0 ∨ k = 1 ∨ k = 2 ∨ k = 3 ∨ k = 4 ∨ k = 5 ∨ k = 6 ∨ k = 7) with e | e | e | e | e | e | e | e
  · subst e
    obtain ⟨rx, ry, F, hF, a1, a2, kX, kY⟩ := (al_sum (size := size) (eip := eip) (flags := flags) (paging := paging) (cr2 := cr2) (cr3 := cr3) (cr4 := cr4) (cr5 := cr5) (cpl := cpl) (state := state) (pending := pending) (deliveries := deliveries) (lastVector := lastVector) (lastError := lastError) (portTotal := portTotal) (portKept := portKept) (nxt := nxt) (returnTo := returnTo) (raised := raised) (raisedError := raisedError) (directoryAt := directoryAt) (tableAt := tableAt) (code := code) (form := form) (width := width) (mod := mod) (regField := regField) (rm := rm) (linear := linear) (immediate := immediate) (operand := operand) (memory := memory) (general := general) (ports := ports) (mapped := mapped) (words := words) (y_faultError := y_faultError) (y_startEip := y_startEip) (y_op := y_op) (y_mod := y_mod) (y_reg := y_reg) (y_rm := y_rm) (y_address := y_address) (y_imm := y_imm) (y_old := y_old) (y_ports := y_ports) (y_place := y_place)) hf hw d s (by omega : 0 < 2)
    exact ⟨rx, ry, F, hF, a1, a2, fun post hp => br_f (by decide) (br_f (by decide) (br_t rfl (kX _ hp))), fun post hp => hd post _ (br_f (by decide) (br_f (by decide) (br_t (by decide) (br_t rfl (kY _ hp)))))⟩
  · subst e
    obtain ⟨F, hF, kX, kY⟩ := (al_log (size := size) (eip := eip) (flags := flags) (paging := paging) (cr2 := cr2) (cr3 := cr3) (cr4 := cr4) (cr5 := cr5) (cpl := cpl) (state := state) (pending := pending) (deliveries := deliveries) (lastVector := lastVector) (lastError := lastError) (portTotal := portTotal) (portKept := portKept) (nxt := nxt) (returnTo := returnTo) (raised := raised) (raisedError := raisedError) (directoryAt := directoryAt) (tableAt := tableAt) (code := code) (form := form) (width := width) (mod := mod) (regField := regField) (rm := rm) (linear := linear) (immediate := immediate) (operand := operand) (memory := memory) (general := general) (ports := ports) (mapped := mapped) (words := words) (y_faultError := y_faultError) (y_startEip := y_startEip) (y_op := y_op) (y_mod := y_mod) (y_reg := y_reg) (y_rm := y_rm) (y_address := y_address) (y_imm := y_imm) (y_old := y_old) (y_ports := y_ports) (y_place := y_place)) hf hw (d ||| s) ((if width = 4 then d.toInt64 &&& 4294967295 else (d &&& 255).toInt64) ||| (if width = 4 then s.toInt64 &&& 4294967295 else (s &&& 255).toInt64)) (fun w => by rw [Int64.toInt32_or, (e4 w).1, (e4 w).2]) (by
      rw [Int64.toInt32_or]
      by_cases w : width = 4
      · rw [(e4 w).1, (e4 w).2]
      · rw [(e1 w).1, (e1 w).2, l1])
    exact ⟨d ||| s, _, F, hF, fun w => by rw [Int64.toInt32_or, (e4 w).1, (e4 w).2], by
      rw [Int64.toInt32_or]
      by_cases w : width = 4
      · rw [(e4 w).1, (e4 w).2]
      · rw [(e1 w).1, (e1 w).2, l1], fun post hp => br_f (by decide) (br_f (by decide) (br_f (by decide) (br_t rfl (br_t rfl (kX _ hp))))), fun post hp => hd post _ (br_f (by decide) (br_f (by decide) (br_t (by decide) (br_f (by decide) (br_f (by decide) (br_f (by decide) (br_f (by decide) (br_f (by decide) (br_t rfl (kY _ hp))))))))))⟩
  · subst e
    obtain ⟨rx, ry, F, hF, a1, a2, kX, kY⟩ := (al_sum (size := size) (eip := eip) (flags := flags) (paging := paging) (cr2 := cr2) (cr3 := cr3) (cr4 := cr4) (cr5 := cr5) (cpl := cpl) (state := state) (pending := pending) (deliveries := deliveries) (lastVector := lastVector) (lastError := lastError) (portTotal := portTotal) (portKept := portKept) (nxt := nxt) (returnTo := returnTo) (raised := raised) (raisedError := raisedError) (directoryAt := directoryAt) (tableAt := tableAt) (code := code) (form := form) (width := width) (mod := mod) (regField := regField) (rm := rm) (linear := linear) (immediate := immediate) (operand := operand) (memory := memory) (general := general) (ports := ports) (mapped := mapped) (words := words) (y_faultError := y_faultError) (y_startEip := y_startEip) (y_op := y_op) (y_mod := y_mod) (y_reg := y_reg) (y_rm := y_rm) (y_address := y_address) (y_imm := y_imm) (y_old := y_old) (y_ports := y_ports) (y_place := y_place)) hf hw d s (by omega : b < 2)
    rw [← eb] at kX
    refine ⟨rx, ry, F, hF, a1, a2, fun post hp => br_f (by decide) (br_f (by decide) (br_f (by decide) (br_f (by decide) (br_t rfl (kX _ hp))))), fun post hp => hd post _ (br_t rfl (br_f (by decide) (br_f (by decide) (is1 _ ?_))))⟩
    rcases hb2 with e | e
    · subst e; exact br_t rfl (br_f (by decide) (br_t rfl (kY _ hp)))
    · subst e; exact br_f (by decide) (br_f (by decide) (br_t rfl (kY _ hp)))
  · subst e
    obtain ⟨rx, ry, F, hF, a1, a2, kX, kY⟩ := (al_dif (size := size) (eip := eip) (flags := flags) (paging := paging) (cr2 := cr2) (cr3 := cr3) (cr4 := cr4) (cr5 := cr5) (cpl := cpl) (state := state) (pending := pending) (deliveries := deliveries) (lastVector := lastVector) (lastError := lastError) (portTotal := portTotal) (portKept := portKept) (nxt := nxt) (returnTo := returnTo) (raised := raised) (raisedError := raisedError) (directoryAt := directoryAt) (tableAt := tableAt) (code := code) (form := form) (width := width) (mod := mod) (regField := regField) (rm := rm) (linear := linear) (immediate := immediate) (operand := operand) (memory := memory) (general := general) (ports := ports) (mapped := mapped) (words := words) (y_faultError := y_faultError) (y_startEip := y_startEip) (y_op := y_op) (y_mod := y_mod) (y_reg := y_reg) (y_rm := y_rm) (y_address := y_address) (y_imm := y_imm) (y_old := y_old) (y_ports := y_ports) (y_place := y_place)) hf hw d s (by omega : b < 2)
    rw [← eb] at kX
    refine ⟨rx, ry, F, hF, a1, a2, fun post hp => br_f (by decide) (br_f (by decide) (br_f (by decide) (br_f (by decide) (br_f (by decide) (br_t rfl (kX _ hp)))))), fun post hp => hd post _ (br_f (by decide) (br_t rfl (br_f (by decide) (is1 _ ?_))))⟩
    rcases hb2 with e | e
    · subst e; exact br_t rfl (br_f (by decide) (br_f (by decide) (br_t rfl (kY _ hp))))
    · subst e; exact br_f (by decide) (br_f (by decide) (br_f (by decide) (br_t rfl (kY _ hp))))
  · subst e
    obtain ⟨F, hF, kX, kY⟩ := (al_log (size := size) (eip := eip) (flags := flags) (paging := paging) (cr2 := cr2) (cr3 := cr3) (cr4 := cr4) (cr5 := cr5) (cpl := cpl) (state := state) (pending := pending) (deliveries := deliveries) (lastVector := lastVector) (lastError := lastError) (portTotal := portTotal) (portKept := portKept) (nxt := nxt) (returnTo := returnTo) (raised := raised) (raisedError := raisedError) (directoryAt := directoryAt) (tableAt := tableAt) (code := code) (form := form) (width := width) (mod := mod) (regField := regField) (rm := rm) (linear := linear) (immediate := immediate) (operand := operand) (memory := memory) (general := general) (ports := ports) (mapped := mapped) (words := words) (y_faultError := y_faultError) (y_startEip := y_startEip) (y_op := y_op) (y_mod := y_mod) (y_reg := y_reg) (y_rm := y_rm) (y_address := y_address) (y_imm := y_imm) (y_old := y_old) (y_ports := y_ports) (y_place := y_place)) hf hw (d &&& s) ((if width = 4 then d.toInt64 &&& 4294967295 else (d &&& 255).toInt64) &&& (if width = 4 then s.toInt64 &&& 4294967295 else (s &&& 255).toInt64)) (fun w => by rw [Int64.toInt32_and, (e4 w).1, (e4 w).2]) (by
      rw [Int64.toInt32_and]
      by_cases w : width = 4
      · rw [(e4 w).1, (e4 w).2]
      · rw [(e1 w).1, (e1 w).2, l2])
    exact ⟨d &&& s, _, F, hF, fun w => by rw [Int64.toInt32_and, (e4 w).1, (e4 w).2], by
      rw [Int64.toInt32_and]
      by_cases w : width = 4
      · rw [(e4 w).1, (e4 w).2]
      · rw [(e1 w).1, (e1 w).2, l2], fun post hp => br_f (by decide) (br_f (by decide) (br_f (by decide) (br_f (by decide) (br_f (by decide) (br_f (by decide) (br_t rfl (br_f (by decide) (br_t rfl (kX _ hp))))))))), fun post hp => hd post _ (br_f (by decide) (br_f (by decide) (br_t (by decide) (br_f (by decide) (br_f (by decide) (br_f (by decide) (br_f (by decide) (br_f (by decide) (br_f (by decide) (br_t rfl (kY _ hp)))))))))))⟩
  · subst e
    obtain ⟨rx, ry, F, hF, a1, a2, kX, kY⟩ := (al_dif (size := size) (eip := eip) (flags := flags) (paging := paging) (cr2 := cr2) (cr3 := cr3) (cr4 := cr4) (cr5 := cr5) (cpl := cpl) (state := state) (pending := pending) (deliveries := deliveries) (lastVector := lastVector) (lastError := lastError) (portTotal := portTotal) (portKept := portKept) (nxt := nxt) (returnTo := returnTo) (raised := raised) (raisedError := raisedError) (directoryAt := directoryAt) (tableAt := tableAt) (code := code) (form := form) (width := width) (mod := mod) (regField := regField) (rm := rm) (linear := linear) (immediate := immediate) (operand := operand) (memory := memory) (general := general) (ports := ports) (mapped := mapped) (words := words) (y_faultError := y_faultError) (y_startEip := y_startEip) (y_op := y_op) (y_mod := y_mod) (y_reg := y_reg) (y_rm := y_rm) (y_address := y_address) (y_imm := y_imm) (y_old := y_old) (y_ports := y_ports) (y_place := y_place)) hf hw d s (by omega : 0 < 2)
    exact ⟨rx, ry, F, hF, a1, a2, fun post hp => br_f (by decide) (br_f (by decide) (br_f (by decide) (br_f (by decide) (br_f (by decide) (br_f (by decide) (br_f (by decide) (br_t rfl (kX _ hp)))))))), fun post hp => hd post _ (br_f (by decide) (br_f (by decide) (br_t (by decide) (br_f (by decide) (br_f (by decide) (br_f (by decide) (br_t rfl (kY _ hp))))))))⟩
  · subst e
    obtain ⟨F, hF, kX, kY⟩ := (al_log (size := size) (eip := eip) (flags := flags) (paging := paging) (cr2 := cr2) (cr3 := cr3) (cr4 := cr4) (cr5 := cr5) (cpl := cpl) (state := state) (pending := pending) (deliveries := deliveries) (lastVector := lastVector) (lastError := lastError) (portTotal := portTotal) (portKept := portKept) (nxt := nxt) (returnTo := returnTo) (raised := raised) (raisedError := raisedError) (directoryAt := directoryAt) (tableAt := tableAt) (code := code) (form := form) (width := width) (mod := mod) (regField := regField) (rm := rm) (linear := linear) (immediate := immediate) (operand := operand) (memory := memory) (general := general) (ports := ports) (mapped := mapped) (words := words) (y_faultError := y_faultError) (y_startEip := y_startEip) (y_op := y_op) (y_mod := y_mod) (y_reg := y_reg) (y_rm := y_rm) (y_address := y_address) (y_imm := y_imm) (y_old := y_old) (y_ports := y_ports) (y_place := y_place)) hf hw (d ^^^ s) ((if width = 4 then d.toInt64 &&& 4294967295 else (d &&& 255).toInt64) ^^^ (if width = 4 then s.toInt64 &&& 4294967295 else (s &&& 255).toInt64)) (fun w => by rw [Int64.toInt32_xor, (e4 w).1, (e4 w).2]) (by
      rw [Int64.toInt32_xor]
      by_cases w : width = 4
      · rw [(e4 w).1, (e4 w).2]
      · rw [(e1 w).1, (e1 w).2, l3])
    exact ⟨d ^^^ s, _, F, hF, fun w => by rw [Int64.toInt32_xor, (e4 w).1, (e4 w).2], by
      rw [Int64.toInt32_xor]
      by_cases w : width = 4
      · rw [(e4 w).1, (e4 w).2]
      · rw [(e1 w).1, (e1 w).2, l3], fun post hp => br_f (by decide) (br_f (by decide) (br_f (by decide) (br_f (by decide) (br_f (by decide) (br_f (by decide) (br_f (by decide) (br_f (by decide) (br_t rfl (br_f (by decide) (br_f (by decide) (kX _ hp))))))))))), fun post hp => hd post _ (br_f (by decide) (br_f (by decide) (br_t (by decide) (br_f (by decide) (br_f (by decide) (br_f (by decide) (br_f (by decide) (br_f (by decide) (br_f (by decide) (br_f (by decide) (kY _ hp)))))))))))⟩
  · subst e
    obtain ⟨rx, ry, F, hF, a1, a2, kX, kY⟩ := (al_dif (size := size) (eip := eip) (flags := flags) (paging := paging) (cr2 := cr2) (cr3 := cr3) (cr4 := cr4) (cr5 := cr5) (cpl := cpl) (state := state) (pending := pending) (deliveries := deliveries) (lastVector := lastVector) (lastError := lastError) (portTotal := portTotal) (portKept := portKept) (nxt := nxt) (returnTo := returnTo) (raised := raised) (raisedError := raisedError) (directoryAt := directoryAt) (tableAt := tableAt) (code := code) (form := form) (width := width) (mod := mod) (regField := regField) (rm := rm) (linear := linear) (immediate := immediate) (operand := operand) (memory := memory) (general := general) (ports := ports) (mapped := mapped) (words := words) (y_faultError := y_faultError) (y_startEip := y_startEip) (y_op := y_op) (y_mod := y_mod) (y_reg := y_reg) (y_rm := y_rm) (y_address := y_address) (y_imm := y_imm) (y_old := y_old) (y_ports := y_ports) (y_place := y_place)) hf hw d s (by omega : 0 < 2)
    exact ⟨rx, ry, F, hF, a1, a2, fun post hp => br_f (by decide) (br_f (by decide) (br_f (by decide) (br_f (by decide) (br_f (by decide) (br_f (by decide) (br_f (by decide) (br_f (by decide) (br_f (by decide) (br_t rfl (kX _ hp)))))))))), fun post hp => hd post _ (br_f (by decide) (br_f (by decide) (br_t (by decide) (br_f (by decide) (br_f (by decide) (br_f (by decide) (br_f (by decide) (br_t rfl (kY _ hp)))))))))⟩
end
end
section
/-! operands: load, keep, store, registers -/
theorem op_reg8 (g : Nat → Int32) : ∀ q, q < 8 → (nI q &&& 3 = nI (q % 4)) ∧ (nI q &&& 7 = nI q) ∧ ((nI q &&& 4) * 2 = if q < 4 then 0 else 8) ∧ (4 ≤ q → nI q - 4 = nI (q % 4)) := by decide +kernel
theorem op_b8 (x : Int32) : (x >>> ((8 : Int32) &&& 31)) &&& 255 = ((x.toUInt32 >>> ((8 : Int32).toUInt32 &&& Int32.toUInt32 31)).toInt32) &&& 255 := by
  apply b_ext
  intro i hi
  rw [b_and, b_and, b_255]
  by_cases h : i < 8
  · rw [show ((8 : Int32) &&& 31) = (nI 8 &&& 31) from rfl, b_sshr 8 (by omega) x hi, if_pos (by omega)]
    rw [show bt ((x.toUInt32 >>> ((8 : Int32).toUInt32 &&& Int32.toUInt32 31)).toInt32) i = bt x (8 + i) from b_ushr 8 (by omega) x i]
  · rw [decide_eq_false h, Bool.and_false, Bool.and_false]
theorem op_b0 (x : Int32) : x >>> ((0 : Int32) &&& 31) = x := by
  apply b_ext
  intro i hi
  rw [show ((0 : Int32) &&& 31) = (nI 0 &&& 31) from rfl, b_sshr 0 (by omega) x hi, if_pos (by omega), Nat.zero_add]
theorem op_l0 (x : Int32) : x <<< ((0 : Int32) &&& 31) = x := by
  apply b_ext
  intro i hi
  rw [show ((0 : Int32) &&& 31) = (nI 0 &&& 31) from rfl, b_shl 0 (by omega) x hi, decide_eq_true (Nat.zero_le i), Bool.true_and, Nat.sub_zero]
section
variable {size eip flags paging cr2 cr3 cr4 cr5 cpl state pending deliveries lastVector lastError portTotal portKept nxt returnTo raised raisedError directoryAt tableAt code form width mod regField rm linear immediate operand : Int32} {memory general ports mapped words : Nat → Int32} {y_faultError y_startEip y_op y_mod y_reg y_rm y_address y_imm : Int32} {y_old y_ports : Nat → Int32} {y_place : Nat → Int64}
/-- register ~ getReg -/
theorem op_get {q : Nat} (hq : q < 8) (hw : width = 4 ∨ width = 1) : ∃ v : Int32, (∀ post : Int32 → Prop, post v → wpX_register post (size, eip, flags, paging, cr2, cr3, cr4, cr5, cpl, state, pending, deliveries, lastVector, lastError, portTotal, portKept, nxt, returnTo, raised, raisedError, directoryAt, tableAt, code, form, width, mod, regField, rm, linear, immediate, operand, memory, general, ports, mapped, words) (nI q)) ∧ (∀ post : Int32 → Prop, post v → wpY_getReg post (size, eip, flags, (ar_cz paging), cr2, cr3, cr4, cr5, cpl, state, pending, deliveries, lastVector, lastError, portTotal, raised, y_faultError, y_startEip, nxt, y_op, y_mod, y_reg, y_rm, y_address, y_imm, (ar_ym memory), general, y_old, y_ports, y_place) (nI q) width) := by
  obtain ⟨e3, e7, e4, em⟩ := op_reg8 general q hq
  rcases hw with hw | hw
  · refine ⟨general q, fun post hp => br_t hw ⟨?_, ?_⟩, fun post hp => br_t hw ⟨vp_in_nI hq (by omega), ?_⟩⟩
    · rw [e7]; exact vp_in_nI hq (by omega)
    · rw [e7, nI_clamp (by omega)]; exact hp
    · rw [nI_clamp (by omega)]; exact hp
  · have w4 : ¬ width = 4 := by rw [hw]; decide
    by_cases h4 : q < 4
    · refine ⟨general q &&& 255, fun post hp => br_f w4 ⟨?_, ?_⟩, fun post hp => br_f w4 (br_f (nI_ge (b := 4) h4 (by decide)) ⟨vp_in_nI hq (by omega), ?_⟩)⟩
      · rw [e3]; exact vp_in_nI (by omega) (by omega)
      · rw [e3, e4, if_pos h4, op_b0, nI_clamp (by omega), Nat.mod_eq_of_lt h4]; exact hp
      · rw [nI_clamp (by omega)]; exact hp
    · refine ⟨(general (q % 4) >>> ((8 : Int32) &&& 31)) &&& 255, fun post hp => br_f w4 ⟨?_, ?_⟩, fun post hp => br_f w4 (br_t (nI_le (a := 4) (by omega) (by omega)) ⟨?_, ?_⟩)⟩
      · rw [e3]; exact vp_in_nI (by omega) (by omega)
      · rw [e3, e4, if_neg h4, nI_clamp (by omega)]; exact hp
      · rw [em (by omega)]; exact vp_in_nI (by omega) (by omega)
      · rw [em (by omega), nI_clamp (by omega), ← op_b8]; exact hp
/-- setRegister ~ putReg -/
theorem op_put {q : Nat} (hq : q < 8) (hw : width = 4 ∨ width = 1) (x y : Int32) (h4 : width = 4 → x = y) (h1 : x &&& 255 = y &&& 255) : ∃ g' : Nat → Int32, (∀ post : SX → Prop, post (size, eip, flags, paging, cr2, cr3, cr4, cr5, cpl, state, pending, deliveries, lastVector, lastError, portTotal, portKept, nxt, returnTo, raised, raisedError, directoryAt, tableAt, code, form, width, mod, regField, rm, linear, immediate, operand, memory, g', ports, mapped, words) → wpX_setRegister post (size, eip, flags, paging, cr2, cr3, cr4, cr5, cpl, state, pending, deliveries, lastVector, lastError, portTotal, portKept, nxt, returnTo, raised, raisedError, directoryAt, tableAt, code, form, width, mod, regField, rm, linear, immediate, operand, memory, general, ports, mapped, words) (nI q) x) ∧ (∀ post : SY → Prop, post (size, eip, flags, (ar_cz paging), cr2, cr3, cr4, cr5, cpl, state, pending, deliveries, lastVector, lastError, portTotal, raised, y_faultError, y_startEip, nxt, y_op, y_mod, y_reg, y_rm, y_address, y_imm, (ar_ym memory), g', y_old, y_ports, y_place) → wpY_putReg post (size, eip, flags, (ar_cz paging), cr2, cr3, cr4, cr5, cpl, state, pending, deliveries, lastVector, lastError, portTotal, raised, y_faultError, y_startEip, nxt, y_op, y_mod, y_reg, y_rm, y_address, y_imm, (ar_ym memory), general, y_old, y_ports, y_place) (nI q) width y) := by
  obtain ⟨e3, e7, e4, em⟩ := op_reg8 general q hq
  rcases hw with hw | hw
  · have exy := h4 hw
    subst exy
    refine ⟨upd general q x, fun post hp => br_t hw ⟨?_, nm_r ?_ hp⟩, fun post hp => br_t hw ⟨vp_in_nI hq (by omega), nm_r ?_ hp⟩⟩
    · rw [e7]; exact vp_in_nI hq (by omega)
    · rw [e7, nI_clamp (by omega)]
    · rw [nI_clamp (by omega)]
  · have w4 : ¬ width = 4 := by rw [hw]; decide
    by_cases hq4 : q < 4
    · refine ⟨upd general q ((general q &&& (-256)) ||| (y &&& 255)), fun post hp => br_f w4 (nm_r (e4.trans (if_pos hq4)) ⟨?_, ?_, nm_r ?_ hp⟩), fun post hp => br_f w4 (br_f (nI_ge (b := 4) hq4 (by decide)) ⟨vp_in_nI hq (by omega), vp_in_nI hq (by omega), nm_r ?_ hp⟩)⟩
      · rw [e3]; exact vp_in_nI (by omega) (by omega)
      · rw [e3]; exact vp_in_nI (by omega) (by omega)
      · rw [e3, nI_clamp (by omega), Nat.mod_eq_of_lt hq4, op_l0, op_l0, h1]
        rfl
      · rw [nI_clamp (by omega)]
    · refine ⟨upd general (q % 4) ((general (q % 4) &&& (-65281)) ||| ((y &&& 255) <<< ((8 : Int32) &&& 31))), fun post hp => br_f w4 (nm_r (e4.trans (if_neg hq4)) ⟨?_, ?_, nm_r ?_ hp⟩), fun post hp => br_f w4 (br_t (nI_le (a := 4) (by omega) (by omega)) ⟨?_, ?_, nm_r ?_ hp⟩)⟩
      · rw [e3]; exact vp_in_nI (by omega) (by omega)
      · rw [e3]; exact vp_in_nI (by omega) (by omega)
      · rw [e3, nI_clamp (by omega), h1]
        rfl
      · rw [em (by omega)]; exact vp_in_nI (by omega) (by omega)
      · rw [em (by omega)]; exact vp_in_nI (by omega) (by omega)
      · rw [em (by omega), nI_clamp (by omega)]
end
end
