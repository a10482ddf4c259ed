/-! combine ~ alu -/
theorem al_ss (d : Int32) : d.toInt64.toInt32.toInt64 = d.toInt64 := by rw [Int32.toInt32_toInt64]
theorem al_m1 : (4294967295 : Int64).toInt32 = -1 := by decide
theorem al_4 (d : Int32) : (d.toInt64 &&& 4294967295).toInt32 = d := by
  rw [Int64.toInt32_and, al_m1, Int32.toInt32_toInt64, Int32.and_comm]; exact Int32.neg_one_and
theorem al_255 : ∀ d : Int32, (d &&& 255).toInt64 = d.toInt64 &&& 255 := fun d => by rw [Int32.toInt64_and]; rfl
section
variable {size eip flags paging cr2 cr3 cr4 cr5 cpl state pending deliveries lastVector lastError portTotal portKept nxt returnTo raised raisedError directoryAt tableAt code form width mod regField rm linear immediate operand : Int32} {memory general ports mapped words : Nat → Int32} {y_eip y_fault y_faultError y_startEip y_cursor y_op y_mod y_reg y_rm y_address y_imm : Int32} {y_old y_ports : Nat → Int32} {y_place : Nat → Int64}
/-- Y's end of alu: flag, flag, zsp -/
theorem al_268 (post : Int32 → SY → Prop) (x15 x18 : Int64) (cy ov : Int32) (w : Int32) (F : Int32)
    (hov : (w = 4 ∧ ((x18 = x18.toInt32.toInt64 ∧ ov = 0) ∨ (¬ x18 = x18.toInt32.toInt64 ∧ ov = 1))) ∨ (¬ w = 4 ∧ ((x18 = x18.toInt32.toInt8.toInt32.toInt64 ∧ ov = 0) ∨ (¬ x18 = x18.toInt32.toInt8.toInt32.toInt64 ∧ ov = 1))))
    (hz : ∀ post : SY → Prop, post (size, y_eip, F, (ar_cz paging), cr2, cr3, cr4, cr5, cpl, state, pending, deliveries, lastVector, lastError, portTotal, raised, y_faultError, y_startEip, nxt, y_op, y_mod, y_reg, y_rm, y_address, y_imm, (ar_ym memory), general, y_old, y_ports, y_place) → wpY_zsp post (size, y_eip, ar_yf (ar_yf flags 1 (decide (¬ cy = 0))) 2048 (decide (¬ ov = 0)), (ar_cz paging), cr2, cr3, cr4, cr5, cpl, state, pending, deliveries, lastVector, lastError, portTotal, raised, y_faultError, y_startEip, nxt, y_op, y_mod, y_reg, y_rm, y_address, y_imm, (ar_ym memory), general, y_old, y_ports, y_place) x15.toInt32 w)
    (h : post x15.toInt32 (size, y_eip, F, (ar_cz paging), cr2, cr3, cr4, cr5, cpl, state, pending, deliveries, lastVector, lastError, portTotal, raised, y_faultError, y_startEip, nxt, y_op, y_mod, y_reg, y_rm, y_address, y_imm, (ar_ym memory), general, y_old, y_ports, y_place)) : wY_alu_268 post w x15 cy x18 size y_eip flags (ar_cz paging) cr2 cr3 cr4 cr5 cpl state pending deliveries lastVector lastError portTotal raised y_faultError y_startEip nxt y_op y_mod y_reg y_rm y_address y_imm (ar_ym memory) general y_old y_ports y_place := by
  refine (fl_flagY (size := size) (flags := flags) (paging := paging) (cr2 := cr2) (cr3 := cr3) (cr4 := cr4) (cr5 := cr5) (cpl := cpl) (state := state) (pending := pending) (deliveries := deliveries) (lastVector := lastVector) (lastError := lastError) (portTotal := portTotal) (raised := raised) (memory := memory) (general := general) (y_eip := y_eip) (y_faultError := y_faultError) (y_startEip := y_startEip) (y_cursor := nxt) (y_op := y_op) (y_mod := y_mod) (y_reg := y_reg) (y_rm := y_rm) (y_address := y_address) (y_imm := y_imm) (y_old := y_old) (y_ports := y_ports) (y_place := y_place)) _ 1 cy ?_
  have k : wY_alu_318 post w x15 ov 2048 size y_eip (ar_yf flags 1 (decide (¬ cy = 0))) (ar_cz paging) cr2 cr3 cr4 cr5 cpl state pending deliveries lastVector lastError portTotal raised y_faultError y_startEip nxt y_op y_mod y_reg y_rm y_address y_imm (ar_ym memory) general y_old y_ports y_place := (fl_flagY (size := size) (flags := ar_yf flags 1 (decide (¬ cy = 0))) (paging := paging) (cr2 := cr2) (cr3 := cr3) (cr4 := cr4) (cr5 := cr5) (cpl := cpl) (state := state) (pending := pending) (deliveries := deliveries) (lastVector := lastVector) (lastError := lastError) (portTotal := portTotal) (raised := raised) (memory := memory) (general := general) (y_eip := y_eip) (y_faultError := y_faultError) (y_startEip := y_startEip) (y_cursor := nxt) (y_op := y_op) (y_mod := y_mod) (y_reg := y_reg) (y_rm := y_rm) (y_address := y_address) (y_imm := y_imm) (y_old := y_old) (y_ports := y_ports) (y_place := y_place)) _ 2048 ov (hz _ h)
  rcases hov with ⟨hw, ⟨q, e⟩ | ⟨q, e⟩⟩ | ⟨hw, ⟨q, e⟩ | ⟨q, e⟩⟩
  · subst e; exact br_t hw (br_t q k)
  · subst e; exact br_t hw (br_f q k)
  · subst e; exact br_f hw (br_t q k)
  · subst e; exact br_f hw (br_f q k)
/-- sums -/
theorem al_sum (hf : fl_ok flags) (hw : width = 4 ∨ width = 1) (d s : Int32) {b : Nat} (hb : b < 2) : ∃ rx ry F : Int32, fl_ok F ∧ (width = 4 → rx = ry) ∧ rx &&& 255 = ry &&& 255 ∧
    (∀ post : Int32 → SX → Prop, post rx (size, eip, F, paging, cr2, cr3, cr4, cr5, cpl, state, pending, deliveries, lastVector, lastError, portTotal, portKept, nxt, returnTo, raised, raisedError, directoryAt, tableAt, code, form, width, mod, regField, rm, linear, immediate, operand, memory, general, ports, mapped, words) → wpX_sum post (size, eip, flags, paging, cr2, cr3, cr4, cr5, cpl, state, pending, deliveries, lastVector, lastError, portTotal, portKept, nxt, returnTo, raised, raisedError, directoryAt, tableAt, code, form, width, mod, regField, rm, linear, immediate, operand, memory, general, ports, mapped, words) d s (nI b)) ∧
    (∀ post : Int32 → SY → Prop, post ry (size, y_eip, F, (ar_cz paging), cr2, cr3, cr4, cr5, cpl, state, pending, deliveries, lastVector, lastError, portTotal, raised, y_faultError, y_startEip, nxt, y_op, y_mod, y_reg, y_rm, y_address, y_imm, (ar_ym memory), general, y_old, y_ports, y_place) → wY_alu_132 post width (if width = 4 then d.toInt64 &&& 4294967295 else (d &&& 255).toInt64) (if width = 4 then s.toInt64 &&& 4294967295 else (s &&& 255).toInt64) (if width = 4 then d.toInt64 else d.toInt8.toInt32.toInt64) (if width = 4 then s.toInt64 else s.toInt8.toInt32.toInt64) (lN b) size y_eip flags (ar_cz paging) cr2 cr3 cr4 cr5 cpl state pending deliveries lastVector lastError portTotal raised y_faultError y_startEip nxt y_op y_mod y_reg y_rm y_address y_imm (ar_ym memory) general y_old y_ports y_place) := by
  have eb : (nI b).toInt64 = lN b := nI_l (by omega)
  rcases hw with hw | hw
  · have w1 : ¬ width = 1 := by rw [hw]; decide
    obtain ⟨x, hx, ex, ex2⟩ := au_u4 d
    obtain ⟨y, hy, ey, ey2⟩ := au_u4 s
    have eN : lN x + lN y + lN b = lN (x + y + b) := by rw [lN_add, lN_add]
    have er : (lN x + lN y + lN b).toInt32 = (d.toInt64 + s.toInt64 + lN b).toInt32 := by
      rw [← ex, ← ey, Int64.toInt32_add, Int64.toInt32_add, Int64.toInt32_add, Int64.toInt32_add, al_4, al_4, Int32.toInt32_toInt64, Int32.toInt32_toInt64]
    rw [if_pos hw, if_pos hw, if_pos hw, if_pos hw, ex, ey]
    have hcy : ∃ cy : Int32, (lN x + lN y + lN b = (lN x + lN y + lN b) &&& 4294967295 ∧ lN x + lN y + lN b ≤ 4294967295 ∧ cy = 0) ∨ (¬ lN x + lN y + lN b = (lN x + lN y + lN b) &&& 4294967295 ∧ ¬ lN x + lN y + lN b ≤ 4294967295 ∧ cy = 1) := by
      rw [eN]
      by_cases q : lN (x + y + b) ≤ 4294967295
      · exact ⟨0, Or.inl ⟨(au_cy4 (by omega)).mpr q, q, rfl⟩⟩
      · exact ⟨1, Or.inr ⟨fun w => q ((au_cy4 (by omega)).mp w), q, rfl⟩⟩
    obtain ⟨cy, hcy⟩ := hcy
    have hov : ∃ ov : Int32, ((d.toInt64 + s.toInt64 + lN b = (d.toInt64 + s.toInt64 + lN b).toInt32.toInt64 ∧ ov = 0) ∨ (¬ d.toInt64 + s.toInt64 + lN b = (d.toInt64 + s.toInt64 + lN b).toInt32.toInt64 ∧ ov = 1)) := by
      by_cases q : d.toInt64 + s.toInt64 + lN b = (d.toInt64 + s.toInt64 + lN b).toInt32.toInt64
      · exact ⟨0, Or.inl ⟨q, rfl⟩⟩
      · exact ⟨1, Or.inr ⟨q, rfl⟩⟩
    obtain ⟨ov, hov⟩ := hov
    obtain ⟨F, hF, kX, kY⟩ := (fl_main (size := size) (eip := eip) (flags := flags) (paging := paging) (cr2 := cr2) (cr3 := cr3) (cr4 := cr4) (cr5 := cr5) (cpl := cpl) (state := state) (pending := pending) (deliveries := deliveries) (lastVector := lastVector) (lastError := lastError) (portTotal := portTotal) (portKept := portKept) (nxt := nxt) (returnTo := returnTo) (raised := raised) (raisedError := raisedError) (directoryAt := directoryAt) (tableAt := tableAt) (code := code) (form := form) (width := width) (mod := mod) (regField := regField) (rm := rm) (linear := linear) (immediate := immediate) (operand := operand) (memory := memory) (general := general) (ports := ports) (mapped := mapped) (words := words) (y_eip := y_eip) (y_faultError := y_faultError) (y_startEip := y_startEip) (y_cursor := nxt) (y_op := y_op) (y_mod := y_mod) (y_reg := y_reg) (y_rm := y_rm) (y_address := y_address) (y_imm := y_imm) (y_old := y_old) (y_ports := y_ports) (y_place := y_place)) ((d.toInt64 + s.toInt64 + lN b).toInt32) ((lN x + lN y + lN b).toInt32) cy ov hf (Or.inl ⟨hw, er.symm⟩)
    refine ⟨(d.toInt64 + s.toInt64 + lN b).toInt32, (lN x + lN y + lN b).toInt32, F, hF, fun _ => er.symm, by rw [er], fun post hp => ?_, fun post hp => ?_⟩
    · have k53 : wX_sum_53 post (d.toInt64 + s.toInt64 + lN b) cy size eip flags paging cr2 cr3 cr4 cr5 cpl state pending deliveries lastVector lastError portTotal portKept nxt returnTo raised raisedError directoryAt tableAt code form width mod regField rm linear immediate operand memory general ports mapped words := by
        refine br_f w1 ?_
        rcases hov with ⟨q, e⟩ | ⟨q, e⟩
        · subst e; exact br_t q (kX _ hp)
        · subst e; exact br_f q (kX _ hp)
      refine br_f w1 (br_f w1 (nm_r (by rw [ex, ey, eb]) (br_f w1 (br_f w1 (nm_r (by rw [al_ss, al_ss, eb]) (br_f w1 ?_))))))
      rcases hcy with ⟨q, _, e⟩ | ⟨q, _, e⟩
      · subst e; exact br_t q k53
      · subst e; exact br_f q k53
    · refine nm_e (br_t hw ?_)
      have k : wY_alu_167 post width d.toInt64 s.toInt64 (lN b) (lN x + lN y + lN b) cy size y_eip flags (ar_cz paging) cr2 cr3 cr4 cr5 cpl state pending deliveries lastVector lastError portTotal raised y_faultError y_startEip nxt y_op y_mod y_reg y_rm y_address y_imm (ar_ym memory) general y_old y_ports y_place := nm_e ((al_268 (size := size) (flags := flags) (paging := paging) (cr2 := cr2) (cr3 := cr3) (cr4 := cr4) (cr5 := cr5) (cpl := cpl) (state := state) (pending := pending) (deliveries := deliveries) (lastVector := lastVector) (lastError := lastError) (portTotal := portTotal) (nxt := nxt) (raised := raised) (memory := memory) (general := general) (y_eip := y_eip) (y_faultError := y_faultError) (y_startEip := y_startEip) (y_op := y_op) (y_mod := y_mod) (y_reg := y_reg) (y_rm := y_rm) (y_address := y_address) (y_imm := y_imm) (y_old := y_old) (y_ports := y_ports) (y_place := y_place)) post _ _ cy ov width F (Or.inl ⟨hw, hov⟩) kY hp)
      rcases hcy with ⟨_, q, e⟩ | ⟨_, q, e⟩
      · subst e; exact br_t q k
      · subst e; exact br_f q k
  · have w4 : ¬ width = 4 := by rw [hw]; decide
    obtain ⟨x, hx, ex, ex3, ex2⟩ := au_u1 d
    obtain ⟨y, hy, ey, ey3, ey2⟩ := au_u1 s
    have eN : lN x + lN y + lN b = lN (x + y + b) := by rw [lN_add, lN_add]
    have er : (d.toInt8.toInt32.toInt64 + s.toInt8.toInt32.toInt64 + lN b).toInt32 &&& 255 = (lN x + lN y + lN b).toInt32 &&& 255 := by
      apply au_lo
      rw [← ex2, ← ey2, Int64.toInt32_add, Int64.toInt32_add, Int64.toInt32_add, Int64.toInt32_add, Int32.toInt32_toInt64, Int32.toInt32_toInt64, Int32.toInt32_toInt64, Int32.toInt32_toInt64, Int32.toInt8_add, Int32.toInt8_add, Int32.toInt8_add, Int32.toInt8_add, au_8, au_8, au_bb, au_bb]
    rw [if_neg w4, if_neg w4, if_neg w4, if_neg w4, ex2, ey2]
    have hcy : ∃ cy : Int32, (lN x + lN y + lN b = (lN x + lN y + lN b) &&& 255 ∧ lN x + lN y + lN b ≤ 255 ∧ cy = 0) ∨ (¬ lN x + lN y + lN b = (lN x + lN y + lN b) &&& 255 ∧ ¬ lN x + lN y + lN b ≤ 255 ∧ cy = 1) := by
      rw [eN]
      by_cases q : lN (x + y + b) ≤ 255
      · exact ⟨0, Or.inl ⟨(au_cy1 (by omega)).mpr q, q, rfl⟩⟩
      · exact ⟨1, Or.inr ⟨fun w => q ((au_cy1 (by omega)).mp w), q, rfl⟩⟩
    obtain ⟨cy, hcy⟩ := hcy
    have hov : ∃ ov : Int32, ((d.toInt8.toInt32.toInt64 + s.toInt8.toInt32.toInt64 + lN b = (d.toInt8.toInt32.toInt64 + s.toInt8.toInt32.toInt64 + lN b).toInt32.toInt8.toInt32.toInt64 ∧ ov = 0) ∨ (¬ d.toInt8.toInt32.toInt64 + s.toInt8.toInt32.toInt64 + lN b = (d.toInt8.toInt32.toInt64 + s.toInt8.toInt32.toInt64 + lN b).toInt32.toInt8.toInt32.toInt64 ∧ ov = 1)) := by
      by_cases q : d.toInt8.toInt32.toInt64 + s.toInt8.toInt32.toInt64 + lN b = (d.toInt8.toInt32.toInt64 + s.toInt8.toInt32.toInt64 + lN b).toInt32.toInt8.toInt32.toInt64
      · exact ⟨0, Or.inl ⟨q, rfl⟩⟩
      · exact ⟨1, Or.inr ⟨q, rfl⟩⟩
    obtain ⟨ov, hov⟩ := hov
    obtain ⟨F, hF, kX, kY⟩ := (fl_main (size := size) (eip := eip) (flags := flags) (paging := paging) (cr2 := cr2) (cr3 := cr3) (cr4 := cr4) (cr5 := cr5) (cpl := cpl) (state := state) (pending := pending) (deliveries := deliveries) (lastVector := lastVector) (lastError := lastError) (portTotal := portTotal) (portKept := portKept) (nxt := nxt) (returnTo := returnTo) (raised := raised) (raisedError := raisedError) (directoryAt := directoryAt) (tableAt := tableAt) (code := code) (form := form) (width := width) (mod := mod) (regField := regField) (rm := rm) (linear := linear) (immediate := immediate) (operand := operand) (memory := memory) (general := general) (ports := ports) (mapped := mapped) (words := words) (y_eip := y_eip) (y_faultError := y_faultError) (y_startEip := y_startEip) (y_cursor := nxt) (y_op := y_op) (y_mod := y_mod) (y_reg := y_reg) (y_rm := y_rm) (y_address := y_address) (y_imm := y_imm) (y_old := y_old) (y_ports := y_ports) (y_place := y_place)) ((d.toInt8.toInt32.toInt64 + s.toInt8.toInt32.toInt64 + lN b).toInt32) ((lN x + lN y + lN b).toInt32) cy ov hf (Or.inr ⟨hw, er⟩)
    refine ⟨(d.toInt8.toInt32.toInt64 + s.toInt8.toInt32.toInt64 + lN b).toInt32, (lN x + lN y + lN b).toInt32, F, hF, fun w => absurd w w4, er, fun post hp => ?_, fun post hp => ?_⟩
    · have k53 : wX_sum_53 post (d.toInt8.toInt32.toInt64 + s.toInt8.toInt32.toInt64 + lN b) cy size eip flags paging cr2 cr3 cr4 cr5 cpl state pending deliveries lastVector lastError portTotal portKept nxt returnTo raised raisedError directoryAt tableAt code form width mod regField rm linear immediate operand memory general ports mapped words := by
        refine br_t hw ?_
        rcases hov with ⟨q, e⟩ | ⟨q, e⟩
        · subst e; exact br_t q (kX _ hp)
        · subst e; exact br_f q (kX _ hp)
      refine br_t hw (br_t hw (nm_r (by rw [ex, ey, eb]) (br_t hw (br_t hw (nm_r (by rw [Int32.toInt32_toInt64, Int32.toInt32_toInt64, eb]) (br_t hw ?_))))))
      rcases hcy with ⟨q, _, e⟩ | ⟨q, _, e⟩
      · subst e; exact br_t q k53
      · subst e; exact br_f q k53
    · refine nm_e (br_f w4 ?_)
      have k : wY_alu_167 post width d.toInt8.toInt32.toInt64 s.toInt8.toInt32.toInt64 (lN b) (lN x + lN y + lN b) cy size y_eip flags (ar_cz paging) cr2 cr3 cr4 cr5 cpl state pending deliveries lastVector lastError portTotal raised y_faultError y_startEip nxt y_op y_mod y_reg y_rm y_address y_imm (ar_ym memory) general y_old y_ports y_place := nm_e ((al_268 (size := size) (flags := flags) (paging := paging) (cr2 := cr2) (cr3 := cr3) (cr4 := cr4) (cr5 := cr5) (cpl := cpl) (state := state) (pending := pending) (deliveries := deliveries) (lastVector := lastVector) (lastError := lastError) (portTotal := portTotal) (nxt := nxt) (raised := raised) (memory := memory) (general := general) (y_eip := y_eip) (y_faultError := y_faultError) (y_startEip := y_startEip) (y_op := y_op) (y_mod := y_mod) (y_reg := y_reg) (y_rm := y_rm) (y_address := y_address) (y_imm := y_imm) (y_old := y_old) (y_ports := y_ports) (y_place := y_place)) post _ _ cy ov width F (Or.inr ⟨w4, hov⟩) kY hp)
      rcases hcy with ⟨_, q, e⟩ | ⟨_, q, e⟩
      · subst e; exact br_t q k
      · subst e; exact br_f q k
/-- differences -/
theorem al_dif (hf : fl_ok flags) (hw : width = 4 ∨ width = 1) (d s : Int32) {b : Nat} (hb : b < 2) : ∃ rx ry F : Int32, fl_ok F ∧ (width = 4 → rx = ry) ∧ rx &&& 255 = ry &&& 255 ∧
    (∀ post : Int32 → SX → Prop, post rx (size, eip, F, paging, cr2, cr3, cr4, cr5, cpl, state, pending, deliveries, lastVector, lastError, portTotal, portKept, nxt, returnTo, raised, raisedError, directoryAt, tableAt, code, form, width, mod, regField, rm, linear, immediate, operand, memory, general, ports, mapped, words) → wpX_difference post (size, eip, flags, paging, cr2, cr3, cr4, cr5, cpl, state, pending, deliveries, lastVector, lastError, portTotal, portKept, nxt, returnTo, raised, raisedError, directoryAt, tableAt, code, form, width, mod, regField, rm, linear, immediate, operand, memory, general, ports, mapped, words) d s (nI b)) ∧
    (∀ post : Int32 → SY → Prop, post ry (size, y_eip, F, (ar_cz paging), cr2, cr3, cr4, cr5, cpl, state, pending, deliveries, lastVector, lastError, portTotal, raised, y_faultError, y_startEip, nxt, y_op, y_mod, y_reg, y_rm, y_address, y_imm, (ar_ym memory), general, y_old, y_ports, y_place) → wY_alu_198 post width (if width = 4 then d.toInt64 &&& 4294967295 else (d &&& 255).toInt64) (if width = 4 then s.toInt64 &&& 4294967295 else (s &&& 255).toInt64) (if width = 4 then d.toInt64 else d.toInt8.toInt32.toInt64) (if width = 4 then s.toInt64 else s.toInt8.toInt32.toInt64) (lN b) size y_eip flags (ar_cz paging) cr2 cr3 cr4 cr5 cpl state pending deliveries lastVector lastError portTotal raised y_faultError y_startEip nxt y_op y_mod y_reg y_rm y_address y_imm (ar_ym memory) general y_old y_ports y_place) := by
  have eb : (nI b).toInt64 = lN b := nI_l (by omega)
  have bw : ∀ x y : Nat, x < 2 ^ 32 → y < 2 ^ 32 → ∃ cy : Int32, (lN y + lN b ≤ lN x ∧ 0 ≤ lN x - lN y - lN b ∧ cy = 0) ∨ (¬ lN y + lN b ≤ lN x ∧ ¬ 0 ≤ lN x - lN y - lN b ∧ cy = 1) := by
    intro x y hx hy
    have e := au_bw (a := x) (b := y) (c := b) (by omega) (by omega) (by omega)
    by_cases q : lN x < lN y + lN b
    · exact ⟨1, Or.inr ⟨Int64.not_le.mpr q, Int64.not_le.mpr (e.mp q), rfl⟩⟩
    · exact ⟨0, Or.inl ⟨Int64.not_lt.mp q, Int64.not_lt.mp (fun w => q (e.mpr w)), rfl⟩⟩
  rcases hw with hw | hw
  · have w1 : ¬ width = 1 := by rw [hw]; decide
    obtain ⟨x, hx, ex, ex2⟩ := au_u4 d
    obtain ⟨y, hy, ey, ey2⟩ := au_u4 s
    have er : (lN x - lN y - lN b).toInt32 = (d.toInt64 - s.toInt64 - lN b).toInt32 := by
      rw [← ex, ← ey, Int64.toInt32_sub, Int64.toInt32_sub, Int64.toInt32_sub, Int64.toInt32_sub, al_4, al_4, Int32.toInt32_toInt64, Int32.toInt32_toInt64]
    rw [if_pos hw, if_pos hw, if_pos hw, if_pos hw, ex, ey]
    obtain ⟨cy, hcy⟩ := bw x y hx hy
    have hov : ∃ ov : Int32, ((d.toInt64 - s.toInt64 - lN b = (d.toInt64 - s.toInt64 - lN b).toInt32.toInt64 ∧ ov = 0) ∨ (¬ d.toInt64 - s.toInt64 - lN b = (d.toInt64 - s.toInt64 - lN b).toInt32.toInt64 ∧ ov = 1)) := by
      by_cases q : d.toInt64 - s.toInt64 - lN b = (d.toInt64 - s.toInt64 - lN b).toInt32.toInt64
      · exact ⟨0, Or.inl ⟨q, rfl⟩⟩
      · exact ⟨1, Or.inr ⟨q, rfl⟩⟩
    obtain ⟨ov, hov⟩ := hov
    obtain ⟨F, hF, kX, kY⟩ := (fl_main (size := size) (eip := eip) (flags := flags) (paging := paging) (cr2 := cr2) (cr3 := cr3) (cr4 := cr4) (cr5 := cr5) (cpl := cpl) (state := state) (pending := pending) (deliveries := deliveries) (lastVector := lastVector) (lastError := lastError) (portTotal := portTotal) (portKept := portKept) (nxt := nxt) (returnTo := returnTo) (raised := raised) (raisedError := raisedError) (directoryAt := directoryAt) (tableAt := tableAt) (code := code) (form := form) (width := width) (mod := mod) (regField := regField) (rm := rm) (linear := linear) (immediate := immediate) (operand := operand) (memory := memory) (general := general) (ports := ports) (mapped := mapped) (words := words) (y_eip := y_eip) (y_faultError := y_faultError) (y_startEip := y_startEip) (y_cursor := nxt) (y_op := y_op) (y_mod := y_mod) (y_reg := y_reg) (y_rm := y_rm) (y_address := y_address) (y_imm := y_imm) (y_old := y_old) (y_ports := y_ports) (y_place := y_place)) ((d.toInt64 - s.toInt64 - lN b).toInt32) ((lN x - lN y - lN b).toInt32) cy ov hf (Or.inl ⟨hw, er.symm⟩)
    refine ⟨(d.toInt64 - s.toInt64 - lN b).toInt32, (lN x - lN y - lN b).toInt32, F, hF, fun _ => er.symm, by rw [er], fun post hp => ?_, fun post hp => ?_⟩
    · have k24 : wX_difference_24 post d s (nI b) cy size eip flags paging cr2 cr3 cr4 cr5 cpl state pending deliveries lastVector lastError portTotal portKept nxt returnTo raised raisedError directoryAt tableAt code form width mod regField rm linear immediate operand memory general ports mapped words := by
        refine br_f w1 (br_f w1 (nm_r (by rw [al_ss, al_ss, eb]) (br_f w1 ?_)))
        rcases hov with ⟨q, e⟩ | ⟨q, e⟩
        · subst e; exact br_t q (kX _ hp)
        · subst e; exact br_f q (kX _ hp)
      refine br_f w1 (br_f w1 ?_)
      rw [ex, ey, eb]
      rcases hcy with ⟨q, _, e⟩ | ⟨q, _, e⟩
      · subst e; exact br_t q k24
      · subst e; exact br_f q k24
    · refine nm_e ?_
      have k : wY_alu_220 post width d.toInt64 s.toInt64 (lN b) (lN x - lN y - lN b) cy size y_eip flags (ar_cz paging) cr2 cr3 cr4 cr5 cpl state pending deliveries lastVector lastError portTotal raised y_faultError y_startEip nxt y_op y_mod y_reg y_rm y_address y_imm (ar_ym memory) general y_old y_ports y_place := nm_e ((al_268 (size := size) (flags := flags) (paging := paging) (cr2 := cr2) (cr3 := cr3) (cr4 := cr4) (cr5 := cr5) (cpl := cpl) (state := state) (pending := pending) (deliveries := deliveries) (lastVector := lastVector) (lastError := lastError) (portTotal := portTotal) (nxt := nxt) (raised := raised) (memory := memory) (general := general) (y_eip := y_eip) (y_faultError := y_faultError) (y_startEip := y_startEip) (y_op := y_op) (y_mod := y_mod) (y_reg := y_reg) (y_rm := y_rm) (y_address := y_address) (y_imm := y_imm) (y_old := y_old) (y_ports := y_ports) (y_place := y_place)) post _ _ cy ov width F (Or.inl ⟨hw, hov⟩) kY hp)
      rcases hcy with ⟨_, q, e⟩ | ⟨_, q, e⟩
      · subst e; exact br_t q k
      · subst e; exact br_f q k
  · have w4 : ¬ width = 4 := by rw [hw]; decide
    obtain ⟨x, hx, ex, ex3, ex2⟩ := au_u1 d
    obtain ⟨y, hy, ey, ey3, ey2⟩ := au_u1 s
    have er : (d.toInt8.toInt32.toInt64 - s.toInt8.toInt32.toInt64 - lN b).toInt32 &&& 255 = (lN x - lN y - lN b).toInt32 &&& 255 := by
      apply au_lo
      rw [← ex2, ← ey2, Int64.toInt32_sub, Int64.toInt32_sub, Int64.toInt32_sub, Int64.toInt32_sub, Int32.toInt32_toInt64, Int32.toInt32_toInt64, Int32.toInt32_toInt64, Int32.toInt32_toInt64, Int32.toInt8_sub, Int32.toInt8_sub, Int32.toInt8_sub, Int32.toInt8_sub, au_8, au_8, au_bb, au_bb]
    rw [if_neg w4, if_neg w4, if_neg w4, if_neg w4, ex2, ey2]
    obtain ⟨cy, hcy⟩ := bw x y (by omega) (by omega)
    have hov : ∃ ov : Int32, ((d.toInt8.toInt32.toInt64 - s.toInt8.toInt32.toInt64 - lN b = (d.toInt8.toInt32.toInt64 - s.toInt8.toInt32.toInt64 - lN b).toInt32.toInt8.toInt32.toInt64 ∧ ov = 0) ∨ (¬ d.toInt8.toInt32.toInt64 - s.toInt8.toInt32.toInt64 - lN b = (d.toInt8.toInt32.toInt64 - s.toInt8.toInt32.toInt64 - lN b).toInt32.toInt8.toInt32.toInt64 ∧ ov = 1)) := by
      by_cases q : d.toInt8.toInt32.toInt64 - s.toInt8.toInt32.toInt64 - lN b = (d.toInt8.toInt32.toInt64 - s.toInt8.toInt32.toInt64 - lN b).toInt32.toInt8.toInt32.toInt64
      · exact ⟨0, Or.inl ⟨q, rfl⟩⟩
      · exact ⟨1, Or.inr ⟨q, rfl⟩⟩
    obtain ⟨ov, hov⟩ := hov
    obtain ⟨F, hF, kX, kY⟩ := (fl_main (size := size) (eip := eip) (flags := flags) (paging := paging) (cr2 := cr2) (cr3 := cr3) (cr4 := cr4) (cr5 := cr5) (cpl := cpl) (state := state) (pending := pending) (deliveries := deliveries) (lastVector := lastVector) (lastError := lastError) (portTotal := portTotal) (portKept := portKept) (nxt := nxt) (returnTo := returnTo) (raised := raised) (raisedError := raisedError) (directoryAt := directoryAt) (tableAt := tableAt) (code := code) (form := form) (width := width) (mod := mod) (regField := regField) (rm := rm) (linear := linear) (immediate := immediate) (operand := operand) (memory := memory) (general := general) (ports := ports) (mapped := mapped) (words := words) (y_eip := y_eip) (y_faultError := y_faultError) (y_startEip := y_startEip) (y_cursor := nxt) (y_op := y_op) (y_mod := y_mod) (y_reg := y_reg) (y_rm := y_rm) (y_address := y_address) (y_imm := y_imm) (y_old := y_old) (y_ports := y_ports) (y_place := y_place)) ((d.toInt8.toInt32.toInt64 - s.toInt8.toInt32.toInt64 - lN b).toInt32) ((lN x - lN y - lN b).toInt32) cy ov hf (Or.inr ⟨hw, er⟩)
    refine ⟨(d.toInt8.toInt32.toInt64 - s.toInt8.toInt32.toInt64 - lN b).toInt32, (lN x - lN y - lN b).toInt32, F, hF, fun w => absurd w w4, er, fun post hp => ?_, fun post hp => ?_⟩
    · have k24 : wX_difference_24 post d s (nI b) cy size eip flags paging cr2 cr3 cr4 cr5 cpl state pending deliveries lastVector lastError portTotal portKept nxt returnTo raised raisedError directoryAt tableAt code form width mod regField rm linear immediate operand memory general ports mapped words := by
        refine br_t hw (br_t hw (nm_r (by rw [Int32.toInt32_toInt64, Int32.toInt32_toInt64, eb]) (br_t hw ?_)))
        rcases hov with ⟨q, e⟩ | ⟨q, e⟩
        · subst e; exact br_t q (kX _ hp)
        · subst e; exact br_f q (kX _ hp)
      refine br_t hw (br_t hw ?_)
      rw [ex, ey, eb]
      rcases hcy with ⟨q, _, e⟩ | ⟨q, _, e⟩
      · subst e; exact br_t q k24
      · subst e; exact br_f q k24
    · refine nm_e ?_
      have k : wY_alu_220 post width d.toInt8.toInt32.toInt64 s.toInt8.toInt32.toInt64 (lN b) (lN x - lN y - lN b) cy size y_eip flags (ar_cz paging) cr2 cr3 cr4 cr5 cpl state pending deliveries lastVector lastError portTotal raised y_faultError y_startEip nxt y_op y_mod y_reg y_rm y_address y_imm (ar_ym memory) general y_old y_ports y_place := nm_e ((al_268 (size := size) (flags := flags) (paging := paging) (cr2 := cr2) (cr3 := cr3) (cr4 := cr4) (cr5 := cr5) (cpl := cpl) (state := state) (pending := pending) (deliveries := deliveries) (lastVector := lastVector) (lastError := lastError) (portTotal := portTotal) (nxt := nxt) (raised := raised) (memory := memory) (general := general) (y_eip := y_eip) (y_faultError := y_faultError) (y_startEip := y_startEip) (y_op := y_op) (y_mod := y_mod) (y_reg := y_reg) (y_rm := y_rm) (y_address := y_address) (y_imm := y_imm) (y_old := y_old) (y_ports := y_ports) (y_place := y_place)) post _ _ cy ov width F (Or.inr ⟨w4, hov⟩) kY hp)
      rcases hcy with ⟨_, q, e⟩ | ⟨_, q, e⟩
      · subst e; exact br_t q k
      · subst e; exact br_f q k
end
