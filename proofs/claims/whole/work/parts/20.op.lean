/-! operands: load, keep, store, registers -/
theorem op_reg8 (g : Nat → Int32) : ∀ q, q < 8 → (nI q &&& 3 = nI (q % 4)) ∧ (nI q &&& 7 = nI q) ∧ ((nI q &&& 4) * 2 = if q < 4 then 0 else 8) ∧ (4 ≤ q → nI q - 4 = nI (q % 4)) := by decide +kernel
theorem op_b8 (x : Int32) : (x >>> ((8 : Int32) &&& 31)) &&& 255 = ((x.toUInt32 >>> ((8 : Int32).toUInt32 &&& Int32.toUInt32 31)).toInt32) &&& 255 := by
  apply b_ext
  intro i hi
  rw [b_and, b_and, b_255]
  by_cases h : i < 8
  · rw [show ((8 : Int32) &&& 31) = (nI 8 &&& 31) from rfl, b_sshr 8 (by omega) x hi, if_pos (by omega)]
    rw [show bt ((x.toUInt32 >>> ((8 : Int32).toUInt32 &&& Int32.toUInt32 31)).toInt32) i = bt x (8 + i) from b_ushr 8 (by omega) x i]
  · rw [decide_eq_false h, Bool.and_false, Bool.and_false]
theorem op_b0 (x : Int32) : x >>> ((0 : Int32) &&& 31) = x := by
  apply b_ext
  intro i hi
  rw [show ((0 : Int32) &&& 31) = (nI 0 &&& 31) from rfl, b_sshr 0 (by omega) x hi, if_pos (by omega), Nat.zero_add]
theorem op_l0 (x : Int32) : x <<< ((0 : Int32) &&& 31) = x := by
  apply b_ext
  intro i hi
  rw [show ((0 : Int32) &&& 31) = (nI 0 &&& 31) from rfl, b_shl 0 (by omega) x hi, decide_eq_true (Nat.zero_le i), Bool.true_and, Nat.sub_zero]
section
variable {size eip flags paging cr2 cr3 cr4 cr5 cpl state pending deliveries lastVector lastError portTotal portKept nxt returnTo raised raisedError directoryAt tableAt code form width mod regField rm linear immediate operand : Int32} {memory general ports mapped words : Nat → Int32} {y_eip y_fault y_faultError y_startEip y_cursor y_op y_mod y_reg y_rm y_address y_imm : Int32} {y_old y_ports : Nat → Int32} {y_place : Nat → Int64}
/-- register ~ getReg -/
theorem op_get {q : Nat} (hq : q < 8) (hw : width = 4 ∨ width = 1) : ∃ v : Int32, (∀ post : Int32 → Prop, post v → wpX_register post (size, eip, flags, paging, cr2, cr3, cr4, cr5, cpl, state, pending, deliveries, lastVector, lastError, portTotal, portKept, nxt, returnTo, raised, raisedError, directoryAt, tableAt, code, form, width, mod, regField, rm, linear, immediate, operand, memory, general, ports, mapped, words) (nI q)) ∧ (∀ post : Int32 → Prop, post v → wpY_getReg post (size, y_eip, flags, (ar_cz paging), cr2, cr3, cr4, cr5, cpl, state, pending, deliveries, lastVector, lastError, portTotal, raised, y_faultError, y_startEip, nxt, y_op, y_mod, y_reg, y_rm, y_address, y_imm, (ar_ym memory), general, y_old, y_ports, y_place) (nI q) width) := by
  obtain ⟨e3, e7, e4, em⟩ := op_reg8 general q hq
  rcases hw with hw | hw
  · refine ⟨general q, fun post hp => br_t hw ⟨?_, ?_⟩, fun post hp => br_t hw ⟨vp_in_nI hq (by omega), ?_⟩⟩
    · rw [e7]; exact vp_in_nI hq (by omega)
    · rw [e7, nI_clamp (by omega)]; exact hp
    · rw [nI_clamp (by omega)]; exact hp
  · have w4 : ¬ width = 4 := by rw [hw]; decide
    by_cases h4 : q < 4
    · refine ⟨general q &&& 255, fun post hp => br_f w4 ⟨?_, ?_⟩, fun post hp => br_f w4 (br_f (nI_ge (b := 4) h4 (by decide)) ⟨vp_in_nI hq (by omega), ?_⟩)⟩
      · rw [e3]; exact vp_in_nI (by omega) (by omega)
      · rw [e3, e4, if_pos h4, op_b0, nI_clamp (by omega), Nat.mod_eq_of_lt h4]; exact hp
      · rw [nI_clamp (by omega)]; exact hp
    · refine ⟨(general (q % 4) >>> ((8 : Int32) &&& 31)) &&& 255, fun post hp => br_f w4 ⟨?_, ?_⟩, fun post hp => br_f w4 (br_t (nI_le (a := 4) (by omega) (by omega)) ⟨?_, ?_⟩)⟩
      · rw [e3]; exact vp_in_nI (by omega) (by omega)
      · rw [e3, e4, if_neg h4, nI_clamp (by omega)]; exact hp
      · rw [em (by omega)]; exact vp_in_nI (by omega) (by omega)
      · rw [em (by omega), nI_clamp (by omega), ← op_b8]; exact hp
/-- setRegister ~ putReg -/
theorem op_put {q : Nat} (hq : q < 8) (hw : width = 4 ∨ width = 1) (x y : Int32) (h4 : width = 4 → x = y) (h1 : x &&& 255 = y &&& 255) : ∃ g' : Nat → Int32, (∀ post : SX → Prop, post (size, eip, flags, paging, cr2, cr3, cr4, cr5, cpl, state, pending, deliveries, lastVector, lastError, portTotal, portKept, nxt, returnTo, raised, raisedError, directoryAt, tableAt, code, form, width, mod, regField, rm, linear, immediate, operand, memory, g', ports, mapped, words) → wpX_setRegister post (size, eip, flags, paging, cr2, cr3, cr4, cr5, cpl, state, pending, deliveries, lastVector, lastError, portTotal, portKept, nxt, returnTo, raised, raisedError, directoryAt, tableAt, code, form, width, mod, regField, rm, linear, immediate, operand, memory, general, ports, mapped, words) (nI q) x) ∧ (∀ post : SY → Prop, post (size, y_eip, flags, (ar_cz paging), cr2, cr3, cr4, cr5, cpl, state, pending, deliveries, lastVector, lastError, portTotal, raised, y_faultError, y_startEip, nxt, y_op, y_mod, y_reg, y_rm, y_address, y_imm, (ar_ym memory), g', y_old, y_ports, y_place) → wpY_putReg post (size, y_eip, flags, (ar_cz paging), cr2, cr3, cr4, cr5, cpl, state, pending, deliveries, lastVector, lastError, portTotal, raised, y_faultError, y_startEip, nxt, y_op, y_mod, y_reg, y_rm, y_address, y_imm, (ar_ym memory), general, y_old, y_ports, y_place) (nI q) width y) := by
  obtain ⟨e3, e7, e4, em⟩ := op_reg8 general q hq
  rcases hw with hw | hw
  · have exy := h4 hw
    subst exy
    refine ⟨upd general q x, fun post hp => br_t hw ⟨?_, nm_r ?_ hp⟩, fun post hp => br_t hw ⟨vp_in_nI hq (by omega), nm_r ?_ hp⟩⟩
    · rw [e7]; exact vp_in_nI hq (by omega)
    · rw [e7, nI_clamp (by omega)]
    · rw [nI_clamp (by omega)]
  · have w4 : ¬ width = 4 := by rw [hw]; decide
    by_cases hq4 : q < 4
    · refine ⟨upd general q ((general q &&& (-256)) ||| (y &&& 255)), fun post hp => br_f w4 (nm_r (e4.trans (if_pos hq4)) ⟨?_, ?_, nm_r ?_ hp⟩), fun post hp => br_f w4 (br_f (nI_ge (b := 4) hq4 (by decide)) ⟨vp_in_nI hq (by omega), vp_in_nI hq (by omega), nm_r ?_ hp⟩)⟩
      · rw [e3]; exact vp_in_nI (by omega) (by omega)
      · rw [e3]; exact vp_in_nI (by omega) (by omega)
      · rw [e3, nI_clamp (by omega), Nat.mod_eq_of_lt hq4, op_l0, op_l0, h1]
        rfl
      · rw [nI_clamp (by omega)]
    · refine ⟨upd general (q % 4) ((general (q % 4) &&& (-65281)) ||| ((y &&& 255) <<< ((8 : Int32) &&& 31))), fun post hp => br_f w4 (nm_r (e4.trans (if_neg hq4)) ⟨?_, ?_, nm_r ?_ hp⟩), fun post hp => br_f w4 (br_t (nI_le (a := 4) (by omega) (by omega)) ⟨?_, ?_, nm_r ?_ hp⟩)⟩
      · rw [e3]; exact vp_in_nI (by omega) (by omega)
      · rw [e3]; exact vp_in_nI (by omega) (by omega)
      · rw [e3, nI_clamp (by omega), h1]
        rfl
      · rw [em (by omega)]; exact vp_in_nI (by omega) (by omega)
      · rw [em (by omega)]; exact vp_in_nI (by omega) (by omega)
      · rw [em (by omega), nI_clamp (by omega)]
end
