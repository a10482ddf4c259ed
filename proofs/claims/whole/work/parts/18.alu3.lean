/-! combine ~ alu, all kinds -/
theorem al_lo3 (d s : Int32) : ((d ||| s) &&& 255 = ((d &&& 255) ||| (s &&& 255)) &&& 255) ∧ ((d &&& s) &&& 255 = ((d &&& 255) &&& (s &&& 255)) &&& 255) ∧ ((d ^^^ s) &&& 255 = ((d &&& 255) ^^^ (s &&& 255)) &&& 255) := by
  refine ⟨b_ext (fun i hi => ?_), b_ext (fun i hi => ?_), b_ext (fun i hi => ?_)⟩ <;>
    (simp only [b_or, b_and, b_xor]
     cases bt d i <;> cases bt s i <;> cases bt 255 i <;> rfl)
section
variable {size eip flags paging cr2 cr3 cr4 cr5 cpl state pending deliveries lastVector lastError portTotal portKept nxt returnTo raised raisedError directoryAt tableAt code form width mod regField rm linear immediate operand : Int32} {memory general ports mapped words : Nat → Int32} {y_eip y_fault y_faultError y_startEip y_cursor y_op y_mod y_reg y_rm y_address y_imm : Int32} {y_old y_ports : Nat → Int32} {y_place : Nat → Int64}
/-- a logic result -/
theorem al_log (hf : fl_ok flags) (hw : width = 4 ∨ width = 1) (rx : Int32) (z : Int64) (h4 : width = 4 → rx = z.toInt32) (h1 : rx &&& 255 = z.toInt32 &&& 255) : ∃ F : Int32, fl_ok F ∧
    (∀ post : Int32 → SX → Prop, post rx (size, eip, F, paging, cr2, cr3, cr4, cr5, cpl, state, pending, deliveries, lastVector, lastError, portTotal, portKept, nxt, returnTo, raised, raisedError, directoryAt, tableAt, code, form, width, mod, regField, rm, linear, immediate, operand, memory, general, ports, mapped, words) → wX_combine_115 post rx size eip flags paging cr2 cr3 cr4 cr5 cpl state pending deliveries lastVector lastError portTotal portKept nxt returnTo raised raisedError directoryAt tableAt code form width mod regField rm linear immediate operand memory general ports mapped words) ∧
    (∀ post : Int32 → SY → Prop, post z.toInt32 (size, y_eip, F, (ar_cz paging), cr2, cr3, cr4, cr5, cpl, state, pending, deliveries, lastVector, lastError, portTotal, raised, y_faultError, y_startEip, nxt, y_op, y_mod, y_reg, y_rm, y_address, y_imm, (ar_ym memory), general, y_old, y_ports, y_place) → wY_alu_266 post width 0 0 z size y_eip flags (ar_cz paging) cr2 cr3 cr4 cr5 cpl state pending deliveries lastVector lastError portTotal raised y_faultError y_startEip nxt y_op y_mod y_reg y_rm y_address y_imm (ar_ym memory) general y_old y_ports y_place) := by
  obtain ⟨F, hF, kX, kY⟩ := (fl_main (size := size) (eip := eip) (flags := flags) (paging := paging) (cr2 := cr2) (cr3 := cr3) (cr4 := cr4) (cr5 := cr5) (cpl := cpl) (state := state) (pending := pending) (deliveries := deliveries) (lastVector := lastVector) (lastError := lastError) (portTotal := portTotal) (portKept := portKept) (nxt := nxt) (returnTo := returnTo) (raised := raised) (raisedError := raisedError) (directoryAt := directoryAt) (tableAt := tableAt) (code := code) (form := form) (width := width) (mod := mod) (regField := regField) (rm := rm) (linear := linear) (immediate := immediate) (operand := operand) (memory := memory) (general := general) (ports := ports) (mapped := mapped) (words := words) (y_eip := y_eip) (y_faultError := y_faultError) (y_startEip := y_startEip) (y_cursor := nxt) (y_op := y_op) (y_mod := y_mod) (y_reg := y_reg) (y_rm := y_rm) (y_address := y_address) (y_imm := y_imm) (y_old := y_old) (y_ports := y_ports) (y_place := y_place)) rx z.toInt32 0 0 hf (hw.elim (fun w => Or.inl ⟨w, h4 w⟩) (fun w => Or.inr ⟨w, h1⟩))
  refine ⟨F, hF, fun post hp => kX _ hp, fun post hp => ?_⟩
  refine (al_268 (size := size) (flags := flags) (paging := paging) (cr2 := cr2) (cr3 := cr3) (cr4 := cr4) (cr5 := cr5) (cpl := cpl) (state := state) (pending := pending) (deliveries := deliveries) (lastVector := lastVector) (lastError := lastError) (portTotal := portTotal) (nxt := nxt) (raised := raised) (memory := memory) (general := general) (y_eip := y_eip) (y_faultError := y_faultError) (y_startEip := y_startEip) (y_op := y_op) (y_mod := y_mod) (y_reg := y_reg) (y_rm := y_rm) (y_address := y_address) (y_imm := y_imm) (y_old := y_old) (y_ports := y_ports) (y_place := y_place)) post z 0 0 0 width F ?_ kY hp
  rcases hw with w | w
  · exact Or.inl ⟨w, Or.inl ⟨by decide, rfl⟩⟩
  · exact Or.inr ⟨by rw [w]; decide, Or.inl ⟨by decide, rfl⟩⟩
theorem al_main (hf : fl_ok flags) (hw : width = 4 ∨ width = 1) (d s : Int32) {k : Nat} (hk : k < 8) : ∃ rx ry F : Int32, fl_ok F ∧ (width = 4 → rx = ry) ∧ rx &&& 255 = ry &&& 255 ∧
    (∀ post : Int32 → SX → Prop, post rx (size, eip, F, paging, cr2, cr3, cr4, cr5, cpl, state, pending, deliveries, lastVector, lastError, portTotal, portKept, nxt, returnTo, raised, raisedError, directoryAt, tableAt, code, form, width, mod, regField, rm, linear, immediate, operand, memory, general, ports, mapped, words) → wpX_combine post (size, eip, flags, paging, cr2, cr3, cr4, cr5, cpl, state, pending, deliveries, lastVector, lastError, portTotal, portKept, nxt, returnTo, raised, raisedError, directoryAt, tableAt, code, form, width, mod, regField, rm, linear, immediate, operand, memory, general, ports, mapped, words) (nI k) d s) ∧
    (∀ post : Int32 → SY → Prop, post ry (size, y_eip, F, (ar_cz paging), cr2, cr3, cr4, cr5, cpl, state, pending, deliveries, lastVector, lastError, portTotal, raised, y_faultError, y_startEip, nxt, y_op, y_mod, y_reg, y_rm, y_address, y_imm, (ar_ym memory), general, y_old, y_ports, y_place) → wpY_alu post (size, y_eip, flags, (ar_cz paging), cr2, cr3, cr4, cr5, cpl, state, pending, deliveries, lastVector, lastError, portTotal, raised, y_faultError, y_startEip, nxt, y_op, y_mod, y_reg, y_rm, y_address, y_imm, (ar_ym memory), general, y_old, y_ports, y_place) (nI k) width d s) := by
  -- Y's head: operands by width
  have hd : ∀ (post : Int32 → SY → Prop) (K : Int32), wY_alu_76 post K width (if width = 4 then d.toInt64 &&& 4294967295 else (d &&& 255).toInt64) (if width = 4 then s.toInt64 &&& 4294967295 else (s &&& 255).toInt64) (if width = 4 then d.toInt64 else d.toInt8.toInt32.toInt64) (if width = 4 then s.toInt64 else s.toInt8.toInt32.toInt64) size y_eip flags (ar_cz paging) cr2 cr3 cr4 cr5 cpl state pending deliveries lastVector lastError portTotal raised y_faultError y_startEip nxt y_op y_mod y_reg y_rm y_address y_imm (ar_ym memory) general y_old y_ports y_place → wpY_alu post (size, y_eip, flags, (ar_cz paging), cr2, cr3, cr4, cr5, cpl, state, pending, deliveries, lastVector, lastError, portTotal, raised, y_faultError, y_startEip, nxt, y_op, y_mod, y_reg, y_rm, y_address, y_imm, (ar_ym memory), general, y_old, y_ports, y_place) K width d s := by
    intro post K hp
    by_cases w : width = 4
    · rw [if_pos w, if_pos w, if_pos w, if_pos w] at hp
      exact br_t w (br_t w (br_t w (br_t w hp)))
    · rw [if_neg w, if_neg w, if_neg w, if_neg w] at hp
      exact br_f w (br_f w (br_f w (br_f w hp)))
  -- logic operands
  have e4 : ∀ w : width = 4, ((if width = 4 then d.toInt64 &&& 4294967295 else (d &&& 255).toInt64).toInt32 = d) ∧ ((if width = 4 then s.toInt64 &&& 4294967295 else (s &&& 255).toInt64).toInt32 = s) := by
    intro w
    rw [if_pos w, if_pos w, al_4, al_4]
    exact ⟨rfl, rfl⟩
  have e1 : ∀ w : ¬ width = 4, ((if width = 4 then d.toInt64 &&& 4294967295 else (d &&& 255).toInt64).toInt32 = d &&& 255) ∧ ((if width = 4 then s.toInt64 &&& 4294967295 else (s &&& 255).toInt64).toInt32 = s &&& 255) := by
    intro w
    rw [if_neg w, if_neg w, Int32.toInt32_toInt64, Int32.toInt32_toInt64]
    exact ⟨rfl, rfl⟩
  obtain ⟨l1, l2, l3⟩ := al_lo3 d s
  -- the carry
  obtain ⟨b, hb, eb⟩ := pk_andE flags (m := 1) 1 (by decide)
  have hb2 : b = 0 ∨ b = 1 := by omega
  have is1 : ∀ post : Int32 → Prop, post (nI b) → wpY_is post (size, y_eip, flags, (ar_cz paging), cr2, cr3, cr4, cr5, cpl, state, pending, deliveries, lastVector, lastError, portTotal, raised, y_faultError, y_startEip, nxt, y_op, y_mod, y_reg, y_rm, y_address, y_imm, (ar_ym memory), general, y_old, y_ports, y_place) 1 := by
    intro post hp
    rcases hb2 with e | e
    · subst e; exact br_t eb hp
    · subst e; exact br_f (by rw [eb]; decide) hp
  rcases (by omega : k = 0 ∨ k = 1 ∨ k = 2 ∨ k = 3 ∨ k = 4 ∨ k = 5 ∨ k = 6 ∨ k = 7) with e | e | e | e | e | e | e | e
  · subst e
    obtain ⟨rx, ry, F, hF, a1, a2, kX, kY⟩ := (al_sum (size := size) (eip := eip) (flags := flags) (paging := paging) (cr2 := cr2) (cr3 := cr3) (cr4 := cr4) (cr5 := cr5) (cpl := cpl) (state := state) (pending := pending) (deliveries := deliveries) (lastVector := lastVector) (lastError := lastError) (portTotal := portTotal) (portKept := portKept) (nxt := nxt) (returnTo := returnTo) (raised := raised) (raisedError := raisedError) (directoryAt := directoryAt) (tableAt := tableAt) (code := code) (form := form) (width := width) (mod := mod) (regField := regField) (rm := rm) (linear := linear) (immediate := immediate) (operand := operand) (memory := memory) (general := general) (ports := ports) (mapped := mapped) (words := words) (y_eip := y_eip) (y_faultError := y_faultError) (y_startEip := y_startEip) (y_op := y_op) (y_mod := y_mod) (y_reg := y_reg) (y_rm := y_rm) (y_address := y_address) (y_imm := y_imm) (y_old := y_old) (y_ports := y_ports) (y_place := y_place)) hf hw d s (by omega : 0 < 2)
    exact ⟨rx, ry, F, hF, a1, a2, fun post hp => br_f (by decide) (br_f (by decide) (br_t rfl (kX _ hp))), fun post hp => hd post _ (br_f (by decide) (br_f (by decide) (br_t (by decide) (br_t rfl (kY _ hp)))))⟩
  · subst e
    obtain ⟨F, hF, kX, kY⟩ := (al_log (size := size) (eip := eip) (flags := flags) (paging := paging) (cr2 := cr2) (cr3 := cr3) (cr4 := cr4) (cr5 := cr5) (cpl := cpl) (state := state) (pending := pending) (deliveries := deliveries) (lastVector := lastVector) (lastError := lastError) (portTotal := portTotal) (portKept := portKept) (nxt := nxt) (returnTo := returnTo) (raised := raised) (raisedError := raisedError) (directoryAt := directoryAt) (tableAt := tableAt) (code := code) (form := form) (width := width) (mod := mod) (regField := regField) (rm := rm) (linear := linear) (immediate := immediate) (operand := operand) (memory := memory) (general := general) (ports := ports) (mapped := mapped) (words := words) (y_eip := y_eip) (y_faultError := y_faultError) (y_startEip := y_startEip) (y_op := y_op) (y_mod := y_mod) (y_reg := y_reg) (y_rm := y_rm) (y_address := y_address) (y_imm := y_imm) (y_old := y_old) (y_ports := y_ports) (y_place := y_place)) hf hw (d ||| s) ((if width = 4 then d.toInt64 &&& 4294967295 else (d &&& 255).toInt64) ||| (if width = 4 then s.toInt64 &&& 4294967295 else (s &&& 255).toInt64)) (fun w => by rw [Int64.toInt32_or, (e4 w).1, (e4 w).2]) (by
      rw [Int64.toInt32_or]
      by_cases w : width = 4
      · rw [(e4 w).1, (e4 w).2]
      · rw [(e1 w).1, (e1 w).2, l1])
    exact ⟨d ||| s, _, F, hF, fun w => by rw [Int64.toInt32_or, (e4 w).1, (e4 w).2], by
      rw [Int64.toInt32_or]
      by_cases w : width = 4
      · rw [(e4 w).1, (e4 w).2]
      · rw [(e1 w).1, (e1 w).2, l1], fun post hp => br_f (by decide) (br_f (by decide) (br_f (by decide) (br_t rfl (br_t rfl (kX _ hp))))), fun post hp => hd post _ (br_f (by decide) (br_f (by decide) (br_t (by decide) (br_f (by decide) (br_f (by decide) (br_f (by decide) (br_f (by decide) (br_f (by decide) (br_t rfl (kY _ hp))))))))))⟩
  · subst e
    obtain ⟨rx, ry, F, hF, a1, a2, kX, kY⟩ := (al_sum (size := size) (eip := eip) (flags := flags) (paging := paging) (cr2 := cr2) (cr3 := cr3) (cr4 := cr4) (cr5 := cr5) (cpl := cpl) (state := state) (pending := pending) (deliveries := deliveries) (lastVector := lastVector) (lastError := lastError) (portTotal := portTotal) (portKept := portKept) (nxt := nxt) (returnTo := returnTo) (raised := raised) (raisedError := raisedError) (directoryAt := directoryAt) (tableAt := tableAt) (code := code) (form := form) (width := width) (mod := mod) (regField := regField) (rm := rm) (linear := linear) (immediate := immediate) (operand := operand) (memory := memory) (general := general) (ports := ports) (mapped := mapped) (words := words) (y_eip := y_eip) (y_faultError := y_faultError) (y_startEip := y_startEip) (y_op := y_op) (y_mod := y_mod) (y_reg := y_reg) (y_rm := y_rm) (y_address := y_address) (y_imm := y_imm) (y_old := y_old) (y_ports := y_ports) (y_place := y_place)) hf hw d s (by omega : b < 2)
    rw [← eb] at kX
    refine ⟨rx, ry, F, hF, a1, a2, fun post hp => br_f (by decide) (br_f (by decide) (br_f (by decide) (br_f (by decide) (br_t rfl (kX _ hp))))), fun post hp => hd post _ (br_t rfl (br_f (by decide) (br_f (by decide) (is1 _ ?_))))⟩
    rcases hb2 with e | e
    · subst e; exact br_t rfl (br_f (by decide) (br_t rfl (kY _ hp)))
    · subst e; exact br_f (by decide) (br_f (by decide) (br_t rfl (kY _ hp)))
  · subst e
    obtain ⟨rx, ry, F, hF, a1, a2, kX, kY⟩ := (al_dif (size := size) (eip := eip) (flags := flags) (paging := paging) (cr2 := cr2) (cr3 := cr3) (cr4 := cr4) (cr5 := cr5) (cpl := cpl) (state := state) (pending := pending) (deliveries := deliveries) (lastVector := lastVector) (lastError := lastError) (portTotal := portTotal) (portKept := portKept) (nxt := nxt) (returnTo := returnTo) (raised := raised) (raisedError := raisedError) (directoryAt := directoryAt) (tableAt := tableAt) (code := code) (form := form) (width := width) (mod := mod) (regField := regField) (rm := rm) (linear := linear) (immediate := immediate) (operand := operand) (memory := memory) (general := general) (ports := ports) (mapped := mapped) (words := words) (y_eip := y_eip) (y_faultError := y_faultError) (y_startEip := y_startEip) (y_op := y_op) (y_mod := y_mod) (y_reg := y_reg) (y_rm := y_rm) (y_address := y_address) (y_imm := y_imm) (y_old := y_old) (y_ports := y_ports) (y_place := y_place)) hf hw d s (by omega : b < 2)
    rw [← eb] at kX
    refine ⟨rx, ry, F, hF, a1, a2, fun post hp => br_f (by decide) (br_f (by decide) (br_f (by decide) (br_f (by decide) (br_f (by decide) (br_t rfl (kX _ hp)))))), fun post hp => hd post _ (br_f (by decide) (br_t rfl (br_f (by decide) (is1 _ ?_))))⟩
    rcases hb2 with e | e
    · subst e; exact br_t rfl (br_f (by decide) (br_f (by decide) (br_t rfl (kY _ hp))))
    · subst e; exact br_f (by decide) (br_f (by decide) (br_f (by decide) (br_t rfl (kY _ hp))))
  · subst e
    obtain ⟨F, hF, kX, kY⟩ := (al_log (size := size) (eip := eip) (flags := flags) (paging := paging) (cr2 := cr2) (cr3 := cr3) (cr4 := cr4) (cr5 := cr5) (cpl := cpl) (state := state) (pending := pending) (deliveries := deliveries) (lastVector := lastVector) (lastError := lastError) (portTotal := portTotal) (portKept := portKept) (nxt := nxt) (returnTo := returnTo) (raised := raised) (raisedError := raisedError) (directoryAt := directoryAt) (tableAt := tableAt) (code := code) (form := form) (width := width) (mod := mod) (regField := regField) (rm := rm) (linear := linear) (immediate := immediate) (operand := operand) (memory := memory) (general := general) (ports := ports) (mapped := mapped) (words := words) (y_eip := y_eip) (y_faultError := y_faultError) (y_startEip := y_startEip) (y_op := y_op) (y_mod := y_mod) (y_reg := y_reg) (y_rm := y_rm) (y_address := y_address) (y_imm := y_imm) (y_old := y_old) (y_ports := y_ports) (y_place := y_place)) hf hw (d &&& s) ((if width = 4 then d.toInt64 &&& 4294967295 else (d &&& 255).toInt64) &&& (if width = 4 then s.toInt64 &&& 4294967295 else (s &&& 255).toInt64)) (fun w => by rw [Int64.toInt32_and, (e4 w).1, (e4 w).2]) (by
      rw [Int64.toInt32_and]
      by_cases w : width = 4
      · rw [(e4 w).1, (e4 w).2]
      · rw [(e1 w).1, (e1 w).2, l2])
    exact ⟨d &&& s, _, F, hF, fun w => by rw [Int64.toInt32_and, (e4 w).1, (e4 w).2], by
      rw [Int64.toInt32_and]
      by_cases w : width = 4
      · rw [(e4 w).1, (e4 w).2]
      · rw [(e1 w).1, (e1 w).2, l2], fun post hp => br_f (by decide) (br_f (by decide) (br_f (by decide) (br_f (by decide) (br_f (by decide) (br_f (by decide) (br_t rfl (br_f (by decide) (br_t rfl (kX _ hp))))))))), fun post hp => hd post _ (br_f (by decide) (br_f (by decide) (br_t (by decide) (br_f (by decide) (br_f (by decide) (br_f (by decide) (br_f (by decide) (br_f (by decide) (br_f (by decide) (br_t rfl (kY _ hp)))))))))))⟩
  · subst e
    obtain ⟨rx, ry, F, hF, a1, a2, kX, kY⟩ := (al_dif (size := size) (eip := eip) (flags := flags) (paging := paging) (cr2 := cr2) (cr3 := cr3) (cr4 := cr4) (cr5 := cr5) (cpl := cpl) (state := state) (pending := pending) (deliveries := deliveries) (lastVector := lastVector) (lastError := lastError) (portTotal := portTotal) (portKept := portKept) (nxt := nxt) (returnTo := returnTo) (raised := raised) (raisedError := raisedError) (directoryAt := directoryAt) (tableAt := tableAt) (code := code) (form := form) (width := width) (mod := mod) (regField := regField) (rm := rm) (linear := linear) (immediate := immediate) (operand := operand) (memory := memory) (general := general) (ports := ports) (mapped := mapped) (words := words) (y_eip := y_eip) (y_faultError := y_faultError) (y_startEip := y_startEip) (y_op := y_op) (y_mod := y_mod) (y_reg := y_reg) (y_rm := y_rm) (y_address := y_address) (y_imm := y_imm) (y_old := y_old) (y_ports := y_ports) (y_place := y_place)) hf hw d s (by omega : 0 < 2)
    exact ⟨rx, ry, F, hF, a1, a2, fun post hp => br_f (by decide) (br_f (by decide) (br_f (by decide) (br_f (by decide) (br_f (by decide) (br_f (by decide) (br_f (by decide) (br_t rfl (kX _ hp)))))))), fun post hp => hd post _ (br_f (by decide) (br_f (by decide) (br_t (by decide) (br_f (by decide) (br_f (by decide) (br_f (by decide) (br_t rfl (kY _ hp))))))))⟩
  · subst e
    obtain ⟨F, hF, kX, kY⟩ := (al_log (size := size) (eip := eip) (flags := flags) (paging := paging) (cr2 := cr2) (cr3 := cr3) (cr4 := cr4) (cr5 := cr5) (cpl := cpl) (state := state) (pending := pending) (deliveries := deliveries) (lastVector := lastVector) (lastError := lastError) (portTotal := portTotal) (portKept := portKept) (nxt := nxt) (returnTo := returnTo) (raised := raised) (raisedError := raisedError) (directoryAt := directoryAt) (tableAt := tableAt) (code := code) (form := form) (width := width) (mod := mod) (regField := regField) (rm := rm) (linear := linear) (immediate := immediate) (operand := operand) (memory := memory) (general := general) (ports := ports) (mapped := mapped) (words := words) (y_eip := y_eip) (y_faultError := y_faultError) (y_startEip := y_startEip) (y_op := y_op) (y_mod := y_mod) (y_reg := y_reg) (y_rm := y_rm) (y_address := y_address) (y_imm := y_imm) (y_old := y_old) (y_ports := y_ports) (y_place := y_place)) hf hw (d ^^^ s) ((if width = 4 then d.toInt64 &&& 4294967295 else (d &&& 255).toInt64) ^^^ (if width = 4 then s.toInt64 &&& 4294967295 else (s &&& 255).toInt64)) (fun w => by rw [Int64.toInt32_xor, (e4 w).1, (e4 w).2]) (by
      rw [Int64.toInt32_xor]
      by_cases w : width = 4
      · rw [(e4 w).1, (e4 w).2]
      · rw [(e1 w).1, (e1 w).2, l3])
    exact ⟨d ^^^ s, _, F, hF, fun w => by rw [Int64.toInt32_xor, (e4 w).1, (e4 w).2], by
      rw [Int64.toInt32_xor]
      by_cases w : width = 4
      · rw [(e4 w).1, (e4 w).2]
      · rw [(e1 w).1, (e1 w).2, l3], fun post hp => br_f (by decide) (br_f (by decide) (br_f (by decide) (br_f (by decide) (br_f (by decide) (br_f (by decide) (br_f (by decide) (br_f (by decide) (br_t rfl (br_f (by decide) (br_f (by decide) (kX _ hp))))))))))), fun post hp => hd post _ (br_f (by decide) (br_f (by decide) (br_t (by decide) (br_f (by decide) (br_f (by decide) (br_f (by decide) (br_f (by decide) (br_f (by decide) (br_f (by decide) (br_f (by decide) (kY _ hp)))))))))))⟩
  · subst e
    obtain ⟨rx, ry, F, hF, a1, a2, kX, kY⟩ := (al_dif (size := size) (eip := eip) (flags := flags) (paging := paging) (cr2 := cr2) (cr3 := cr3) (cr4 := cr4) (cr5 := cr5) (cpl := cpl) (state := state) (pending := pending) (deliveries := deliveries) (lastVector := lastVector) (lastError := lastError) (portTotal := portTotal) (portKept := portKept) (nxt := nxt) (returnTo := returnTo) (raised := raised) (raisedError := raisedError) (directoryAt := directoryAt) (tableAt := tableAt) (code := code) (form := form) (width := width) (mod := mod) (regField := regField) (rm := rm) (linear := linear) (immediate := immediate) (operand := operand) (memory := memory) (general := general) (ports := ports) (mapped := mapped) (words := words) (y_eip := y_eip) (y_faultError := y_faultError) (y_startEip := y_startEip) (y_op := y_op) (y_mod := y_mod) (y_reg := y_reg) (y_rm := y_rm) (y_address := y_address) (y_imm := y_imm) (y_old := y_old) (y_ports := y_ports) (y_place := y_place)) hf hw d s (by omega : 0 < 2)
    exact ⟨rx, ry, F, hF, a1, a2, fun post hp => br_f (by decide) (br_f (by decide) (br_f (by decide) (br_f (by decide) (br_f (by decide) (br_f (by decide) (br_f (by decide) (br_f (by decide) (br_f (by decide) (br_t rfl (kX _ hp)))))))))), fun post hp => hd post _ (br_f (by decide) (br_f (by decide) (br_t (by decide) (br_f (by decide) (br_f (by decide) (br_f (by decide) (br_f (by decide) (br_t rfl (kY _ hp)))))))))⟩
end
