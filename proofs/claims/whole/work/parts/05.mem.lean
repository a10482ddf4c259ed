/-! memory: the two-level look-up, one access, byte by byte; X and Y in lockstep -/
def ar_cz (p : Int32) : Int32 := if p = 0 then 0 else (-2147483648)
theorem ar_cz0 {p : Int32} (h : p = 0) : ar_cz p = 0 := if_pos h
theorem ar_cz1 {p : Int32} (h : ¬ p = 0) : ¬ ar_cz p = 0 := by
  unfold ar_cz
  rw [if_neg h]
  decide
/-- size and cr3 -/
def mm_ok (size cr3 : Int32) : Prop := ∃ S q : Nat, size = nI S ∧ 2 ≤ S ∧ S ≤ 1024 ∧ S % 2 = 0 ∧ cr3 = nI (2 * q) ∧ q < 512
def mm_mark (m : Nat → Int32) (d t : Nat) (k : Int32) : Nat → Int32 :=
  upd (upd m d ((m d ||| 8).toInt8.toInt32)) t (((upd m d ((m d ||| 8).toInt8.toInt32)) t ||| k).toInt8.toInt32)
theorem mm_markY (m : Nat → Int32) (d t : Nat) (k : Int32) (hk : ∀ x : Int32, (x ||| k) &&& 255 = (x &&& 255) ||| k) :
    ar_ym (mm_mark m d t k) = upd (upd (ar_ym m) d (ar_ym m d ||| 8)) t ((upd (ar_ym m) d (ar_ym m d ||| 8)) t ||| k) := by
  have e : ar_ym (upd m d ((m d ||| 8).toInt8.toInt32)) = upd (ar_ym m) d (ar_ym m d ||| 8) := by
    rw [ar_ymU, ar_or8]; rfl
  unfold mm_mark
  rw [ar_ymU, hk, ← e]
  rfl
theorem mm_even (x : Int32) : ∃ j : Nat, j < 64 ∧ x &&& 1008 = nI (2 * (8 * j)) := by
  obtain ⟨j, hj, e⟩ := pk_andE x (m := 1023) 10 (by decide)
  have e2 : x &&& 1008 = (x &&& 1023) &&& 1008 := by rw [Int32.and_assoc]; rfl
  rw [e2, e]
  exact (by decide +kernel : ∀ j, j < 1024 → ∃ i, i < 64 ∧ nI j &&& 1008 = nI (2 * (8 * i))) j hj
theorem mm_two (x : Int32) : ∃ j : Nat, j < 8 ∧ 2 * (x &&& 7) = nI (2 * j) := by
  obtain ⟨j, hj, e⟩ := pk_andE x (m := 7) 3 (by decide)
  refine ⟨j, hj, ?_⟩
  rw [e, show (2 : Int32) = nI 2 from rfl, pk_mul]
section
variable {size eip flags paging cr2 cr3 cr4 cr5 cpl state pending deliveries lastVector lastError portTotal portKept nxt returnTo raised raisedError directoryAt tableAt code form width mod regField rm linear immediate operand : Int32} {memory general ports mapped words : Nat → Int32} {y_eip y_fault y_faultError y_startEip y_cursor y_op y_mod y_reg y_rm y_address y_imm : Int32} {y_old y_ports : Nat → Int32} {y_place : Nat → Int64}
theorem mm_half {S p : Nat} (hS : size = nI S) (hS2 : S ≤ 1024) (hSe : S % 2 = 0) (h2 : 2 ≤ S) (hp : p % 2 = 0) (hp2 : p < 4096) : ∃ h : Int32, (∀ post : Int32 → Prop, post h → wpX_halfWord post (size, eip, flags, paging, cr2, cr3, cr4, cr5, cpl, state, pending, deliveries, lastVector, lastError, portTotal, portKept, nxt, returnTo, raised, raisedError, directoryAt, tableAt, code, form, width, mod, regField, rm, linear, immediate, operand, memory, general, ports, mapped, words) (nI p)) ∧ (∀ post : Int32 → Prop, post h → wpY_half post (size, y_eip, flags, (ar_cz paging), cr2, cr3, cr4, cr5, cpl, state, pending, deliveries, lastVector, lastError, portTotal, y_fault, y_faultError, y_startEip, y_cursor, y_op, y_mod, y_reg, y_rm, y_address, y_imm, (ar_ym memory), general, y_old, y_ports, y_place) (nI p)) ∧ (S ≤ p → h = 0) := by
  subst hS
  by_cases h : p < S
  · refine ⟨(memory p &&& 255) ||| ((memory (p + 1) &&& 255) <<< ((8 : Int32) &&& 31)), ?_, ?_, fun z => absurd h (by omega)⟩
    · intro post hpost
      refine br_f (nI_pos (by omega)) (br_t ?_ ⟨vp_in_nI (by omega) (by omega), ?_, ?_⟩)
      · rw [show (2 : Int32) = nI 2 from rfl, pk_sub (by omega)]
        exact nI_le (by omega) (by omega)
      · rw [nI_1]; exact vp_in_nI (by omega) (by omega)
      · rw [nI_1, nI_clamp (by omega), nI_clamp (by omega)]; exact hpost
    · intro post hpost
      refine br_t (nI_lt (by omega) (by omega)) ⟨vp_in_nI (by omega) (by omega), ?_, ?_⟩
      · rw [nI_1]; exact vp_in_nI (by omega) (by omega)
      · rw [nI_1, nI_clamp (by omega), nI_clamp (by omega)]; exact hpost
  · refine ⟨0, ?_, ?_, fun _ => rfl⟩
    · intro post hpost
      refine br_f (nI_pos (by omega)) (br_f ?_ hpost)
      rw [show (2 : Int32) = nI 2 from rfl, pk_sub (by omega)]
      exact nI_ge (by omega) (by omega)
    · intro post hpost
      exact br_f (nI_nlt (by omega) (by omega)) hpost
theorem mm_walk (hok : mm_ok size cr3) (a w l : Int32) : ∃ (r : Int64) (d t : Int32) (m' : Nat → Int32),
    (∀ post : Int64 → SX → Prop, post r (size, eip, flags, paging, cr2, cr3, cr4, cr5, cpl, state, pending, deliveries, lastVector, lastError, portTotal, portKept, nxt, returnTo, raised, raisedError, d, t, code, form, width, mod, regField, rm, linear, immediate, operand, memory, general, ports, mapped, words) → wpX_lookUp post (size, eip, flags, paging, cr2, cr3, cr4, cr5, cpl, state, pending, deliveries, lastVector, lastError, portTotal, portKept, nxt, returnTo, raised, raisedError, directoryAt, tableAt, code, form, width, mod, regField, rm, linear, immediate, operand, memory, general, ports, mapped, words) a w l) ∧
    (∀ post : Int64 → SY → Prop, post r (size, y_eip, flags, (ar_cz paging), cr2, cr3, cr4, cr5, cpl, state, pending, deliveries, lastVector, lastError, portTotal, y_fault, y_faultError, y_startEip, y_cursor, y_op, y_mod, y_reg, y_rm, y_address, y_imm, ar_ym m', general, y_old, y_ports, y_place) → wpY_walk post (size, y_eip, flags, (ar_cz paging), cr2, cr3, cr4, cr5, cpl, state, pending, deliveries, lastVector, lastError, portTotal, y_fault, y_faultError, y_startEip, y_cursor, y_op, y_mod, y_reg, y_rm, y_address, y_imm, (ar_ym memory), general, y_old, y_ports, y_place) a w l 1) ∧
    (∀ post : Int64 → SY → Prop, post r (size, y_eip, flags, (ar_cz paging), cr2, cr3, cr4, cr5, cpl, state, pending, deliveries, lastVector, lastError, portTotal, y_fault, y_faultError, y_startEip, y_cursor, y_op, y_mod, y_reg, y_rm, y_address, y_imm, (ar_ym memory), general, y_old, y_ports, y_place) → wpY_walk post (size, y_eip, flags, (ar_cz paging), cr2, cr3, cr4, cr5, cpl, state, pending, deliveries, lastVector, lastError, portTotal, y_fault, y_faultError, y_startEip, y_cursor, y_op, y_mod, y_reg, y_rm, y_address, y_imm, (ar_ym memory), general, y_old, y_ports, y_place) a w l 0) ∧
    (((r = -1 ∨ r = -2) ∧ m' = memory) ∨ ((∃ p : Nat, p < 2 ^ 32 ∧ r = lN p) ∧ ((paging = 0 ∧ m' = memory) ∨ (¬ paging = 0 ∧ vp_in d 1024 ∧ vp_in t 1024 ∧ m' = mm_mark memory d.toNatClampNeg t.toNatClampNeg (if w = 0 then 8 else 24))))) := by
  obtain ⟨S, q, hS, h2, hS2, hSe, h3, hq⟩ := hok
  by_cases hpg : paging = 0
  · obtain ⟨p, hp, ep, _⟩ := au_u4 a
    refine ⟨a.toInt64 &&& 4294967295, directoryAt, tableAt, memory, fun post h => br_t hpg h, fun post h => br_t (ar_cz0 hpg) h, fun post h => br_t (ar_cz0 hpg) h, Or.inr ⟨⟨p, hp, ep⟩, Or.inl ⟨hpg, rfl⟩⟩⟩
  by_cases ha : (a.toUInt32 >>> ((12 : Int32).toUInt32 &&& Int32.toUInt32 31)).toInt32 = 0
  rotate_left
  · exact ⟨-1, directoryAt, tableAt, memory, fun post h => br_f hpg (br_f ha h), fun post h => br_f (ar_cz1 hpg) (br_f ha h), fun post h => br_f (ar_cz1 hpg) (br_f ha h), Or.inl ⟨Or.inl rfl, rfl⟩⟩
  obtain ⟨i, hi, ei⟩ := mm_two ((a.toUInt32 >>> ((9 : Int32).toUInt32 &&& Int32.toUInt32 31)).toInt32)
  have ed : cr3 + (2 * ((a.toUInt32 >>> ((9 : Int32).toUInt32 &&& Int32.toUInt32 31)).toInt32 &&& 7)) = nI (2 * q + 2 * i) := by rw [ei, h3, nI_add]
  obtain ⟨d, hdX, hdY, hd0⟩ := (mm_half (size := size) (eip := eip) (flags := flags) (paging := paging) (cr2 := cr2) (cr3 := cr3) (cr4 := cr4) (cr5 := cr5) (cpl := cpl) (state := state) (pending := pending) (deliveries := deliveries) (lastVector := lastVector) (lastError := lastError) (portTotal := portTotal) (portKept := portKept) (nxt := nxt) (returnTo := returnTo) (raised := raised) (raisedError := raisedError) (directoryAt := nI (2 * q + 2 * i)) (tableAt := tableAt) (code := code) (form := form) (width := width) (mod := mod) (regField := regField) (rm := rm) (linear := linear) (immediate := immediate) (operand := operand) (memory := memory) (general := general) (ports := ports) (mapped := mapped) (words := words) (y_eip := y_eip) (y_fault := y_fault) (y_faultError := y_faultError) (y_startEip := y_startEip) (y_cursor := y_cursor) (y_op := y_op) (y_mod := y_mod) (y_reg := y_reg) (y_rm := y_rm) (y_address := y_address) (y_imm := y_imm) (y_old := y_old) (y_ports := y_ports) (y_place := y_place)) hS hS2 hSe h2 (by omega : (2 * q + 2 * i) % 2 = 0) (by omega)
  by_cases d1 : d &&& 1 = 0
  · exact ⟨-1, nI (2 * q + 2 * i), tableAt, memory, fun post h => br_f hpg (br_t ha (nm_r ed (hdX _ (br_t d1 h)))), fun post h => br_f (ar_cz1 hpg) (br_t ha (nm_r ed (hdY _ (br_t d1 h)))), fun post h => br_f (ar_cz1 hpg) (br_t ha (nm_r ed (hdY _ (br_t d1 h)))), Or.inl ⟨Or.inl rfl, rfl⟩⟩
  have hd : vp_in (nI (2 * q + 2 * i)) 1024 := by
    by_cases z : S ≤ 2 * q + 2 * i
    · rw [hd0 z] at d1; exact absurd rfl d1
    · exact vp_in_nI (by omega) (by omega)
  obtain ⟨j, hj, ej⟩ := mm_two ((a.toUInt32 >>> ((6 : Int32).toUInt32 &&& Int32.toUInt32 31)).toInt32)
  obtain ⟨g, hg, eg⟩ := mm_even d
  have et : (d &&& 1008) + (2 * ((a.toUInt32 >>> ((6 : Int32).toUInt32 &&& Int32.toUInt32 31)).toInt32 &&& 7)) = nI (2 * (8 * g) + 2 * j) := by rw [ej, eg, nI_add]
  obtain ⟨t, htX, htY, ht0⟩ := (mm_half (size := size) (eip := eip) (flags := flags) (paging := paging) (cr2 := cr2) (cr3 := cr3) (cr4 := cr4) (cr5 := cr5) (cpl := cpl) (state := state) (pending := pending) (deliveries := deliveries) (lastVector := lastVector) (lastError := lastError) (portTotal := portTotal) (portKept := portKept) (nxt := nxt) (returnTo := returnTo) (raised := raised) (raisedError := raisedError) (directoryAt := nI (2 * q + 2 * i)) (tableAt := nI (2 * (8 * g) + 2 * j)) (code := code) (form := form) (width := width) (mod := mod) (regField := regField) (rm := rm) (linear := linear) (immediate := immediate) (operand := operand) (memory := memory) (general := general) (ports := ports) (mapped := mapped) (words := words) (y_eip := y_eip) (y_fault := y_fault) (y_faultError := y_faultError) (y_startEip := y_startEip) (y_cursor := y_cursor) (y_op := y_op) (y_mod := y_mod) (y_reg := y_reg) (y_rm := y_rm) (y_address := y_address) (y_imm := y_imm) (y_old := y_old) (y_ports := y_ports) (y_place := y_place)) hS hS2 hSe h2 (by omega : (2 * (8 * g) + 2 * j) % 2 = 0) (by omega)
  by_cases t1 : t &&& 1 = 0
  · exact ⟨-1, nI (2 * q + 2 * i), nI (2 * (8 * g) + 2 * j), memory, fun post h => br_f hpg (br_t ha (nm_r ed (hdX _ (br_f d1 (nm_r et (htX _ (br_t t1 h))))))), fun post h => br_f (ar_cz1 hpg) (br_t ha (nm_r ed (hdY _ (br_f d1 (nm_r et (htY _ (br_t t1 h))))))), fun post h => br_f (ar_cz1 hpg) (br_t ha (nm_r ed (hdY _ (br_f d1 (nm_r et (htY _ (br_t t1 h))))))), Or.inl ⟨Or.inl rfl, rfl⟩⟩
  have ht : vp_in (nI (2 * (8 * g) + 2 * j)) 1024 := by
    by_cases z : S ≤ 2 * (8 * g) + 2 * j
    · rw [ht0 z] at t1; exact absurd rfl t1
    · exact vp_in_nI (by omega) (by omega)
  have hr : ∃ p : Nat, p < 2 ^ 32 ∧ ((t &&& 960) ||| (a &&& 63)).toInt64 = lN p := by
    obtain ⟨x, hx, ex⟩ := pk_andE ((t &&& 960) ||| (a &&& 63)) (m := 1023) 10 (by decide)
    have e2 : (t &&& 960) ||| (a &&& 63) = ((t &&& 960) ||| (a &&& 63)) &&& 1023 := b_ext (fun i hi => by
      simp only [b_or, b_and]
      generalize bt t i = q
      generalize bt a i = q2
      revert i
      cases q <;> cases q2 <;> decide +kernel)
    rw [e2, ex]
    exact ⟨x, by omega, nI_l (by omega)⟩
  -- forbidden or found
  by_cases c4 : l = 3 ∧ (d &&& t) &&& 4 = 0
  · exact ⟨-2, nI (2 * q + 2 * i), nI (2 * (8 * g) + 2 * j), memory, fun post h => br_f hpg (br_t ha (nm_r ed (hdX _ (br_f d1 (nm_r et (htX _ (br_f t1 (br_t c4.1 (br_t c4.2 h)))))))) ), fun post h => br_f (ar_cz1 hpg) (br_t ha (nm_r ed (hdY _ (br_f d1 (nm_r et (htY _ (br_f t1 (br_t c4.1 (br_t c4.2 h)))))))) ), fun post h => br_f (ar_cz1 hpg) (br_t ha (nm_r ed (hdY _ (br_f d1 (nm_r et (htY _ (br_f t1 (br_t c4.1 (br_t c4.2 h)))))))) ), Or.inl ⟨Or.inr rfl, rfl⟩⟩
  have kX : ∀ post : Int64 → SX → Prop, wX_lookUp_124 post a w d t size eip flags paging cr2 cr3 cr4 cr5 cpl state pending deliveries lastVector lastError portTotal portKept nxt returnTo raised raisedError (nI (2 * q + 2 * i)) (nI (2 * (8 * g) + 2 * j)) code form width mod regField rm linear immediate operand memory general ports mapped words → wpX_lookUp post (size, eip, flags, paging, cr2, cr3, cr4, cr5, cpl, state, pending, deliveries, lastVector, lastError, portTotal, portKept, nxt, returnTo, raised, raisedError, directoryAt, tableAt, code, form, width, mod, regField, rm, linear, immediate, operand, memory, general, ports, mapped, words) a w l := by
    intro post h
    refine br_f hpg (br_t ha (nm_r ed (hdX _ (br_f d1 (nm_r et (htX _ (br_f t1 ?_)))))))
    by_cases c : l = 3
    · exact br_t c (br_f (fun z => c4 ⟨c, z⟩) h)
    · exact br_f c h
  have kY : ∀ (k : Int32) (post : Int64 → SY → Prop), wY_walk_116 post a w k (nI (2 * q + 2 * i)) d (nI (2 * (8 * g) + 2 * j)) t size y_eip flags (ar_cz paging) cr2 cr3 cr4 cr5 cpl state pending deliveries lastVector lastError portTotal y_fault y_faultError y_startEip y_cursor y_op y_mod y_reg y_rm y_address y_imm (ar_ym memory) general y_old y_ports y_place → wpY_walk post (size, y_eip, flags, (ar_cz paging), cr2, cr3, cr4, cr5, cpl, state, pending, deliveries, lastVector, lastError, portTotal, y_fault, y_faultError, y_startEip, y_cursor, y_op, y_mod, y_reg, y_rm, y_address, y_imm, (ar_ym memory), general, y_old, y_ports, y_place) a w l k := by
    intro k post h
    refine br_f (ar_cz1 hpg) (br_t ha (nm_r ed (hdY _ (br_f d1 (nm_r et (htY _ (br_f t1 ?_)))))))
    by_cases c : l = 3
    · exact br_t c (br_f (fun z => c4 ⟨c, z⟩) h)
    · exact br_f c h
  by_cases hw : w = 0
  · refine ⟨((t &&& 960) ||| (a &&& 63)).toInt64, nI (2 * q + 2 * i), nI (2 * (8 * g) + 2 * j), mm_mark memory (nI (2 * q + 2 * i)).toNatClampNeg (nI (2 * (8 * g) + 2 * j)).toNatClampNeg 8, fun post h => kX post (br_t hw h), fun post h => kY 1 post (br_t hw (br_f (by decide) ⟨hd, hd, nm_e ⟨ht, br_t hw ⟨ht, ?_⟩⟩⟩)), fun post h => kY 0 post (br_t hw (br_t rfl h)), Or.inr ⟨hr, Or.inr ⟨hpg, hd, ht, by rw [if_pos hw]⟩⟩⟩
    refine nm_e ?_
    rw [mm_markY _ _ _ 8 ar_or8] at h
    exact h
  by_cases c2 : (d &&& t) &&& 2 = 0
  · exact ⟨-2, nI (2 * q + 2 * i), nI (2 * (8 * g) + 2 * j), memory, fun post h => kX post (br_f hw (br_t c2 h)), fun post h => kY 1 post (br_f hw (br_t c2 h)), fun post h => kY 0 post (br_f hw (br_t c2 h)), Or.inl ⟨Or.inr rfl, rfl⟩⟩
  · refine ⟨((t &&& 960) ||| (a &&& 63)).toInt64, nI (2 * q + 2 * i), nI (2 * (8 * g) + 2 * j), mm_mark memory (nI (2 * q + 2 * i)).toNatClampNeg (nI (2 * (8 * g) + 2 * j)).toNatClampNeg 24, fun post h => kX post (br_f hw (br_f c2 h)), fun post h => kY 1 post (br_f hw (br_f c2 (br_f (by decide) ⟨hd, hd, nm_e ⟨ht, br_f hw ⟨ht, ?_⟩⟩⟩))), fun post h => kY 0 post (br_f hw (br_f c2 (br_t rfl h))), Or.inr ⟨hr, Or.inr ⟨hpg, hd, ht, by rw [if_neg hw]⟩⟩⟩
    refine nm_e ?_
    rw [mm_markY _ _ _ 24 ar_or24] at h
    exact h
end
