/-! one more, one less; shifts: the parts of execution that need a lemma of their own -/
theorem is_fok {F f : Int32} (h : fl_ok F) (hf : fl_ok f) : fl_ok ((F &&& (-2)) ||| (f &&& 1)) := by
  unfold fl_ok
  apply b_ext
  intro i hi
  have hb := fl_bit h i
  have hb2 := fl_bit hf i
  simp only [b_or, b_and]
  revert hb hb2
  generalize bt F i = q
  generalize bt f i = q2
  revert i
  cases q <;> cases q2 <;> decide +kernel
theorem is_yf (f : Int32) (a b : Bool) : ar_yf (ar_yf f 1 a) 1 b = ar_yf f 1 b := by
  cases a <;> cases b <;>
    (apply b_ext
     intro i hi
     simp only [ar_yf, cond_true, cond_false, b_or, b_and, b_xor]
     generalize bt f i = q
     revert i
     cases q <;> decide +kernel)
theorem is_yf1 (f : Int32) (b : Bool) : (ar_yf f 1 b &&& 1 = 0) ↔ b = false := by
  rw [sh_one]
  cases b
  · simp only [ar_yf, cond_false, b_and, b_xor]
    have : (bt 1 0 ^^ bt (-1) 0) = false := by decide +kernel
    rw [this, Bool.and_false]
    exact ⟨fun _ => trivial, fun _ => rfl⟩
  · simp only [ar_yf, cond_true, b_or]
    have : bt 1 0 = true := by decide +kernel
    rw [this, Bool.or_true]
def is_r (r : Int32) (v : Int32) (k : Nat) : Int32 := if r = 4 then v <<< (nI k &&& 31) else if r = 5 then (v.toUInt32 >>> ((nI k).toUInt32 &&& Int32.toUInt32 31)).toInt32 else v >>> (nI k &&& 31)
def is_c (r : Int32) (v : Int32) (k : Nat) : Bool := if r = 4 then bt v (32 - k) else bt v (k - 1)
theorem is_r0 (r v : Int32) : is_r r v 0 = v := by
  unfold is_r
  by_cases h4 : r = 4
  · rw [if_pos h4]; exact op_l0 v
  · rw [if_neg h4]
    by_cases h5 : r = 5
    · rw [if_pos h5]
      apply b_ext
      intro i hi
      rw [b_ushr 0 (by omega) v i, Nat.zero_add]
    · rw [if_neg h5]; exact op_b0 v
section
variable {size eip flags paging cr2 cr3 cr4 cr5 cpl state pending deliveries lastVector lastError portTotal portKept nxt returnTo raised raisedError directoryAt tableAt code form width mod regField rm linear immediate operand : Int32} {memory general ports mapped words : Nat → Int32} {y_eip y_fault y_faultError y_startEip y_cursor y_op y_mod y_reg y_rm y_address y_imm : Int32} {y_old y_ports : Nat → Int32} {y_place : Nat → Int64}
theorem al_head (post : Int32 → SY → Prop) (K d s : Int32) (hp : wY_alu_76 post K width (if width = 4 then d.toInt64 &&& 4294967295 else (d &&& 255).toInt64) (if width = 4 then s.toInt64 &&& 4294967295 else (s &&& 255).toInt64) (if width = 4 then d.toInt64 else d.toInt8.toInt32.toInt64) (if width = 4 then s.toInt64 else s.toInt8.toInt32.toInt64) size y_eip flags (ar_cz paging) cr2 cr3 cr4 cr5 cpl state pending deliveries lastVector lastError portTotal raised y_faultError y_startEip nxt y_op y_mod y_reg y_rm y_address y_imm (ar_ym memory) general y_old y_ports y_place) : wpY_alu post (size, y_eip, flags, (ar_cz paging), cr2, cr3, cr4, cr5, cpl, state, pending, deliveries, lastVector, lastError, portTotal, raised, y_faultError, y_startEip, nxt, y_op, y_mod, y_reg, y_rm, y_address, y_imm, (ar_ym memory), general, y_old, y_ports, y_place) K width d s := by
  by_cases w : width = 4
  · rw [if_pos w, if_pos w, if_pos w, if_pos w] at hp
    exact br_t w (br_t w (br_t w (br_t w hp)))
  · rw [if_neg w, if_neg w, if_neg w, if_neg w] at hp
    exact br_f w (br_f w (br_f w (br_f w hp)))
/-- 0 - v, and v + 1, v - 1 with the carry kept -/
theorem is_neg (hf : fl_ok flags) (d s : Int32) : ∃ r F : Int32, fl_ok F ∧
    (∀ post : Int32 → SX → Prop, post r (size, eip, F, paging, cr2, cr3, cr4, cr5, cpl, state, pending, deliveries, lastVector, lastError, portTotal, portKept, nxt, returnTo, raised, raisedError, directoryAt, tableAt, code, form, nI 4, mod, regField, rm, linear, immediate, operand, memory, general, ports, mapped, words) → wpX_difference post (size, eip, flags, paging, cr2, cr3, cr4, cr5, cpl, state, pending, deliveries, lastVector, lastError, portTotal, portKept, nxt, returnTo, raised, raisedError, directoryAt, tableAt, code, form, nI 4, mod, regField, rm, linear, immediate, operand, memory, general, ports, mapped, words) d s 0) ∧
    (∀ post : Int32 → SY → Prop, post r (size, y_eip, F, (ar_cz paging), cr2, cr3, cr4, cr5, cpl, state, pending, deliveries, lastVector, lastError, portTotal, raised, y_faultError, y_startEip, nxt, y_op, y_mod, y_reg, y_rm, y_address, y_imm, (ar_ym memory), general, y_old, y_ports, y_place) → wpY_alu post (size, y_eip, flags, (ar_cz paging), cr2, cr3, cr4, cr5, cpl, state, pending, deliveries, lastVector, lastError, portTotal, raised, y_faultError, y_startEip, nxt, y_op, y_mod, y_reg, y_rm, y_address, y_imm, (ar_ym memory), general, y_old, y_ports, y_place) 5 4 d s) := by
  obtain ⟨rx, ry, F, hF, a1, a2, kX, kY⟩ := (al_dif (size := size) (eip := eip) (flags := flags) (paging := paging) (cr2 := cr2) (cr3 := cr3) (cr4 := cr4) (cr5 := cr5) (cpl := cpl) (state := state) (pending := pending) (deliveries := deliveries) (lastVector := lastVector) (lastError := lastError) (portTotal := portTotal) (portKept := portKept) (nxt := nxt) (returnTo := returnTo) (raised := raised) (raisedError := raisedError) (directoryAt := directoryAt) (tableAt := tableAt) (code := code) (form := form) (width := nI 4) (mod := mod) (regField := regField) (rm := rm) (linear := linear) (immediate := immediate) (operand := operand) (memory := memory) (general := general) (ports := ports) (mapped := mapped) (words := words) (y_eip := y_eip) (y_faultError := y_faultError) (y_startEip := y_startEip) (y_op := y_op) (y_mod := y_mod) (y_reg := y_reg) (y_rm := y_rm) (y_address := y_address) (y_imm := y_imm) (y_old := y_old) (y_ports := y_ports) (y_place := y_place)) hf (Or.inl rfl) d s (by omega : 0 < 2)
  have e := a1 rfl
  subst e
  exact ⟨rx, F, hF, fun post hp => kX _ hp, fun post hp => (al_head (size := size) (flags := flags) (paging := paging) (cr2 := cr2) (cr3 := cr3) (cr4 := cr4) (cr5 := cr5) (cpl := cpl) (state := state) (pending := pending) (deliveries := deliveries) (lastVector := lastVector) (lastError := lastError) (portTotal := portTotal) (nxt := nxt) (raised := raised) (width := nI 4) (memory := memory) (general := general) (y_eip := y_eip) (y_faultError := y_faultError) (y_startEip := y_startEip) (y_op := y_op) (y_mod := y_mod) (y_reg := y_reg) (y_rm := y_rm) (y_address := y_address) (y_imm := y_imm) (y_old := y_old) (y_ports := y_ports) (y_place := y_place)) post 5 d s (br_f (by decide) (br_f (by decide) (br_t (by decide) (br_f (by decide) (br_f (by decide) (br_f (by decide) (br_t rfl (kY _ hp))))))))⟩
theorem is_sum (hf : fl_ok flags) (d s : Int32) : ∃ r F : Int32, fl_ok F ∧
    (∀ post : Int32 → SX → Prop, post r (size, eip, F, paging, cr2, cr3, cr4, cr5, cpl, state, pending, deliveries, lastVector, lastError, portTotal, portKept, nxt, returnTo, raised, raisedError, directoryAt, tableAt, code, form, nI 4, mod, regField, rm, linear, immediate, operand, memory, general, ports, mapped, words) → wpX_sum post (size, eip, flags, paging, cr2, cr3, cr4, cr5, cpl, state, pending, deliveries, lastVector, lastError, portTotal, portKept, nxt, returnTo, raised, raisedError, directoryAt, tableAt, code, form, nI 4, mod, regField, rm, linear, immediate, operand, memory, general, ports, mapped, words) d s 0) ∧
    (∀ post : Int32 → SY → Prop, post r (size, y_eip, F, (ar_cz paging), cr2, cr3, cr4, cr5, cpl, state, pending, deliveries, lastVector, lastError, portTotal, raised, y_faultError, y_startEip, nxt, y_op, y_mod, y_reg, y_rm, y_address, y_imm, (ar_ym memory), general, y_old, y_ports, y_place) → wpY_alu post (size, y_eip, flags, (ar_cz paging), cr2, cr3, cr4, cr5, cpl, state, pending, deliveries, lastVector, lastError, portTotal, raised, y_faultError, y_startEip, nxt, y_op, y_mod, y_reg, y_rm, y_address, y_imm, (ar_ym memory), general, y_old, y_ports, y_place) 0 4 d s) := by
  obtain ⟨rx, ry, F, hF, a1, a2, kX, kY⟩ := (al_sum (size := size) (eip := eip) (flags := flags) (paging := paging) (cr2 := cr2) (cr3 := cr3) (cr4 := cr4) (cr5 := cr5) (cpl := cpl) (state := state) (pending := pending) (deliveries := deliveries) (lastVector := lastVector) (lastError := lastError) (portTotal := portTotal) (portKept := portKept) (nxt := nxt) (returnTo := returnTo) (raised := raised) (raisedError := raisedError) (directoryAt := directoryAt) (tableAt := tableAt) (code := code) (form := form) (width := nI 4) (mod := mod) (regField := regField) (rm := rm) (linear := linear) (immediate := immediate) (operand := operand) (memory := memory) (general := general) (ports := ports) (mapped := mapped) (words := words) (y_eip := y_eip) (y_faultError := y_faultError) (y_startEip := y_startEip) (y_op := y_op) (y_mod := y_mod) (y_reg := y_reg) (y_rm := y_rm) (y_address := y_address) (y_imm := y_imm) (y_old := y_old) (y_ports := y_ports) (y_place := y_place)) hf (Or.inl rfl) d s (by omega : 0 < 2)
  have e := a1 rfl
  subst e
  exact ⟨rx, F, hF, fun post hp => kX _ hp, fun post hp => (al_head (size := size) (flags := flags) (paging := paging) (cr2 := cr2) (cr3 := cr3) (cr4 := cr4) (cr5 := cr5) (cpl := cpl) (state := state) (pending := pending) (deliveries := deliveries) (lastVector := lastVector) (lastError := lastError) (portTotal := portTotal) (nxt := nxt) (raised := raised) (width := nI 4) (memory := memory) (general := general) (y_eip := y_eip) (y_faultError := y_faultError) (y_startEip := y_startEip) (y_op := y_op) (y_mod := y_mod) (y_reg := y_reg) (y_rm := y_rm) (y_address := y_address) (y_imm := y_imm) (y_old := y_old) (y_ports := y_ports) (y_place := y_place)) post 0 d s (br_f (by decide) (br_f (by decide) (br_t (by decide) (br_t rfl (kY _ hp)))))⟩
theorem is_step (hf : fl_ok flags) (v : Int32) (dn up : Int32) (hd : (dn = 0 ∧ up = 1) ∨ (dn = 1 ∧ up = 0)) : ∃ r F F2 : Int32, fl_ok F2 ∧ F2 = (F &&& (-2)) ||| (flags &&& 1) ∧
    (∀ (post : SX → Prop) (x1 : Int32), wX_executeIncDec_103 post x1 (flags &&& 1) r size eip F paging cr2 cr3 cr4 cr5 cpl state pending deliveries lastVector lastError portTotal portKept nxt returnTo raised raisedError directoryAt tableAt code form (nI 4) mod regField rm linear immediate operand memory general ports mapped words → wX_executeIncDec_73 post x1 dn v size eip flags paging cr2 cr3 cr4 cr5 cpl state pending deliveries lastVector lastError portTotal portKept nxt returnTo raised raisedError directoryAt tableAt code form (nI 4) mod regField rm linear immediate operand memory general ports mapped words) ∧
    (∀ post : Int32 → SY → Prop, post r (size, y_eip, F2, (ar_cz paging), cr2, cr3, cr4, cr5, cpl, state, pending, deliveries, lastVector, lastError, portTotal, raised, y_faultError, y_startEip, nxt, y_op, y_mod, y_reg, y_rm, y_address, y_imm, (ar_ym memory), general, y_old, y_ports, y_place) → wpY_step1 post (size, y_eip, flags, (ar_cz paging), cr2, cr3, cr4, cr5, cpl, state, pending, deliveries, lastVector, lastError, portTotal, raised, y_faultError, y_startEip, nxt, y_op, y_mod, y_reg, y_rm, y_address, y_imm, (ar_ym memory), general, y_old, y_ports, y_place) v up) := by
  have fin : ∀ (F r : Int32) (z : Int32) (post : Int32 → SY → Prop), ((flags &&& 1 = 0 ∧ z = 0) ∨ (¬ flags &&& 1 = 0 ∧ z = 1)) → post r (size, y_eip, (F &&& (-2)) ||| (flags &&& 1), (ar_cz paging), cr2, cr3, cr4, cr5, cpl, state, pending, deliveries, lastVector, lastError, portTotal, raised, y_faultError, y_startEip, nxt, y_op, y_mod, y_reg, y_rm, y_address, y_imm, (ar_ym memory), general, y_old, y_ports, y_place) → wpY_flag (fun u => post r u) (size, y_eip, F, (ar_cz paging), cr2, cr3, cr4, cr5, cpl, state, pending, deliveries, lastVector, lastError, portTotal, raised, y_faultError, y_startEip, nxt, y_op, y_mod, y_reg, y_rm, y_address, y_imm, (ar_ym memory), general, y_old, y_ports, y_place) 1 z := by
    intro F r z post hz hp
    refine (fl_flagY (size := size) (flags := F) (paging := paging) (cr2 := cr2) (cr3 := cr3) (cr4 := cr4) (cr5 := cr5) (cpl := cpl) (state := state) (pending := pending) (deliveries := deliveries) (lastVector := lastVector) (lastError := lastError) (portTotal := portTotal) (raised := raised) (memory := memory) (general := general) (y_eip := y_eip) (y_faultError := y_faultError) (y_startEip := y_startEip) (y_cursor := nxt) (y_op := y_op) (y_mod := y_mod) (y_reg := y_reg) (y_rm := y_rm) (y_address := y_address) (y_imm := y_imm) (y_old := y_old) (y_ports := y_ports) (y_place := y_place)) _ 1 z ?_
    rw [ar_fl1] at hp
    rcases hz with ⟨e, ez⟩ | ⟨e, ez⟩
    · subst ez
      rw [show decide (¬ flags &&& 1 = 0) = decide (¬ (0 : Int32) = 0) from by rw [decide_eq_false (fun w => w e)]; rfl] at hp
      exact hp
    · subst ez
      rw [show decide (¬ flags &&& 1 = 0) = decide (¬ (1 : Int32) = 0) from by rw [decide_eq_true e]; rfl] at hp
      exact hp
  rcases hd with ⟨e1, e2⟩ | ⟨e1, e2⟩
  · subst e1 e2
    obtain ⟨r, F, hF, kX, kY⟩ := (is_sum (size := size) (eip := eip) (flags := flags) (paging := paging) (cr2 := cr2) (cr3 := cr3) (cr4 := cr4) (cr5 := cr5) (cpl := cpl) (state := state) (pending := pending) (deliveries := deliveries) (lastVector := lastVector) (lastError := lastError) (portTotal := portTotal) (portKept := portKept) (nxt := nxt) (returnTo := returnTo) (raised := raised) (raisedError := raisedError) (directoryAt := directoryAt) (tableAt := tableAt) (code := code) (form := form) (mod := mod) (regField := regField) (rm := rm) (linear := linear) (immediate := immediate) (operand := operand) (memory := memory) (general := general) (ports := ports) (mapped := mapped) (words := words) (y_eip := y_eip) (y_faultError := y_faultError) (y_startEip := y_startEip) (y_op := y_op) (y_mod := y_mod) (y_reg := y_reg) (y_rm := y_rm) (y_address := y_address) (y_imm := y_imm) (y_old := y_old) (y_ports := y_ports) (y_place := y_place)) hf v 1
    refine ⟨r, F, _, is_fok hF hf, rfl, fun post x1 hp => nm_e (br_t rfl (kX _ hp)), fun post hp => br_c (fun z => br_f (by decide) (kY _ ?_)) (fun z => br_f (by decide) (kY _ ?_))⟩
    · exact fin F r 0 post (Or.inl ⟨z, rfl⟩) hp
    · exact fin F r 1 post (Or.inr ⟨z, rfl⟩) hp
  · subst e1 e2
    obtain ⟨r, F, hF, kX, kY⟩ := (is_neg (size := size) (eip := eip) (flags := flags) (paging := paging) (cr2 := cr2) (cr3 := cr3) (cr4 := cr4) (cr5 := cr5) (cpl := cpl) (state := state) (pending := pending) (deliveries := deliveries) (lastVector := lastVector) (lastError := lastError) (portTotal := portTotal) (portKept := portKept) (nxt := nxt) (returnTo := returnTo) (raised := raised) (raisedError := raisedError) (directoryAt := directoryAt) (tableAt := tableAt) (code := code) (form := form) (mod := mod) (regField := regField) (rm := rm) (linear := linear) (immediate := immediate) (operand := operand) (memory := memory) (general := general) (ports := ports) (mapped := mapped) (words := words) (y_eip := y_eip) (y_faultError := y_faultError) (y_startEip := y_startEip) (y_op := y_op) (y_mod := y_mod) (y_reg := y_reg) (y_rm := y_rm) (y_address := y_address) (y_imm := y_imm) (y_old := y_old) (y_ports := y_ports) (y_place := y_place)) hf v 1
    refine ⟨r, F, _, is_fok hF hf, rfl, fun post x1 hp => nm_e (br_f (by decide) (kX _ hp)), fun post hp => br_c (fun z => br_t rfl (kY _ ?_)) (fun z => br_t rfl (kY _ ?_))⟩
    · exact fin F r 0 post (Or.inl ⟨z, rfl⟩) hp
    · exact fin F r 1 post (Or.inr ⟨z, rfl⟩) hp
/-- Y's loop of shifts -/
theorem is_loop (post : SY → Prop) (v : Int32) {n : Nat} (hn : n < 32) (f0 : Int32) : ∀ (d k : Nat) (m : Nat), k + d = n → wY_shift_20 post (nI n) v (m + 1) (is_r y_reg v n) (nI n) size y_eip (if n = 0 then f0 else ar_yf f0 1 (is_c y_reg v n)) (ar_cz paging) cr2 cr3 cr4 cr5 cpl state pending deliveries lastVector lastError portTotal raised y_faultError y_startEip nxt y_op y_mod y_reg y_rm y_address y_imm (ar_ym memory) general y_old y_ports y_place → wY_shift_20 post (nI n) v (d + m + 1) (is_r y_reg v k) (nI k) size y_eip (if k = 0 then f0 else ar_yf f0 1 (is_c y_reg v k)) (ar_cz paging) cr2 cr3 cr4 cr5 cpl state pending deliveries lastVector lastError portTotal raised y_faultError y_startEip nxt y_op y_mod y_reg y_rm y_address y_imm (ar_ym memory) general y_old y_ports y_place := by
  intro d
  induction d with
  | zero =>
    intro k m hk hp
    have e : k = n := by omega
    subst e
    rw [Nat.zero_add]
    exact hp
  | succ d ih =>
    intro k m hk hp
    have hlt : ¬ nI n ≤ nI k := nI_ge (by omega) (by omega)
    rw [show d + 1 + m + 1 = (d + m + 1) + 1 from by omega]
    have nxt2 := ih (k + 1) m (by omega) hp
    rw [if_neg (by omega : ¬ k + 1 = 0)] at nxt2
    -- the carry of this step
    have go : ∀ on : Int32, decide (¬ on = 0) = is_c y_reg v (k + 1) → wY_shift_59 post (wY_shift_20 post (nI n) v (d + m + 1)) (nI n) v (is_r y_reg v k) (nI k) on 1 size y_eip (if k = 0 then f0 else ar_yf f0 1 (is_c y_reg v k)) (ar_cz paging) cr2 cr3 cr4 cr5 cpl state pending deliveries lastVector lastError portTotal raised y_faultError y_startEip nxt y_op y_mod y_reg y_rm y_address y_imm (ar_ym memory) general y_old y_ports y_place := by
      intro on hon
      refine (fl_flagY (size := size) (flags := if k = 0 then f0 else ar_yf f0 1 (is_c y_reg v k)) (paging := paging) (cr2 := cr2) (cr3 := cr3) (cr4 := cr4) (cr5 := cr5) (cpl := cpl) (state := state) (pending := pending) (deliveries := deliveries) (lastVector := lastVector) (lastError := lastError) (portTotal := portTotal) (raised := raised) (memory := memory) (general := general) (y_eip := y_eip) (y_faultError := y_faultError) (y_startEip := y_startEip) (y_cursor := nxt) (y_op := y_op) (y_mod := y_mod) (y_reg := y_reg) (y_rm := y_rm) (y_address := y_address) (y_imm := y_imm) (y_old := y_old) (y_ports := y_ports) (y_place := y_place)) _ 1 on ?_
      rw [hon]
      have ef : ar_yf (if k = 0 then f0 else ar_yf f0 1 (is_c y_reg v k)) 1 (is_c y_reg v (k + 1)) = ar_yf f0 1 (is_c y_reg v (k + 1)) := by
        by_cases z : k = 0
        · rw [if_pos z]
        · rw [if_neg z, is_yf]
      rw [ef]
      by_cases h4 : y_reg = 4
      · refine br_t h4 (nm_r ?_ (nm_r (nI_1 k) nxt2))
        unfold is_r
        rw [if_pos h4, if_pos h4, sh_l v (by omega)]
      · refine br_f h4 ?_
        by_cases h5 : y_reg = 5
        · refine br_t h5 (nm_r ?_ (nm_r (nI_1 k) nxt2))
          unfold is_r
          rw [if_neg h4, if_neg h4, if_pos h5, if_pos h5, sh_u v (by omega)]
        · refine br_f h5 (nm_r ?_ (nm_r (nI_1 k) nxt2))
          unfold is_r
          rw [if_neg h4, if_neg h4, if_neg h5, if_neg h5, sh_s v (by omega)]
    refine br_f hlt ?_
    by_cases h4 : y_reg = 4
    · refine br_t h4 ?_
      have ec : is_c y_reg v (k + 1) = bt v (31 - k) := by
        unfold is_c
        rw [if_pos h4, show 32 - (k + 1) = 31 - k from by omega]
      have er : is_r y_reg v k = v <<< (nI k &&& 31) := by unfold is_r; rw [if_pos h4]
      have hs := sh_lc v (by omega : k < 32)
      rw [← er] at hs
      by_cases z : 0 ≤ is_r y_reg v k
      · refine br_t z (go 0 ?_)
        rw [ec]
        cases q : bt v (31 - k) with
        | false => rfl
        | true => exact absurd (hs.mpr q) (Int32.not_lt.mpr z)
      · refine br_f z (go 1 ?_)
        rw [ec, hs.mp (Int32.not_le.mp z)]
        rfl
    · refine br_f h4 ?_
      have ec : is_c y_reg v (k + 1) = bt v k := by
        unfold is_c
        rw [if_neg h4, show k + 1 - 1 = k from by omega]
      have hs : (is_r y_reg v k &&& 1 = 0) ↔ bt v k = false := by
        unfold is_r
        rw [if_neg h4]
        by_cases h5 : y_reg = 5
        · rw [if_pos h5]; exact sh_uc v (by omega)
        · rw [if_neg h5]; exact sh_sc v (by omega)
      by_cases z : is_r y_reg v k &&& 1 = 0
      · refine br_t z (go 0 ?_)
        rw [ec, hs.mp z]
        rfl
      · refine br_f z (go 1 ?_)
        rw [ec]
        cases q : bt v k with
        | true => rfl
        | false => exact absurd (hs.mpr q) z
end
