/-! execution: shifts, MUL, IDIV, IMUL, CDQ -/
section
variable {size eip flags paging cr2 cr3 cr4 cr5 cpl state pending deliveries lastVector lastError portTotal portKept nxt returnTo raised raisedError directoryAt tableAt code form width mod regField rm linear immediate operand : Int32} {memory general ports mapped words : Nat → Int32} {y_eip y_fault y_faultError y_startEip y_cursor y_op y_mod y_reg y_rm y_address y_imm : Int32} {y_old y_ports : Nat → Int32} {y_place : Nat → Int64}
/-- what a shift does to value and flags -/
theorem sf_main (hf : fl_ok flags) (v : Int32) {n : Nat} (hn : n < 32) (hn0 : 0 < n) (hy : y_reg = regField) : ∃ F : Int32, fl_ok F ∧
    (∀ post : SX → Prop, wX_executeShift_165 post (is_r regField v n) size eip F paging cr2 cr3 cr4 cr5 cpl state pending deliveries lastVector lastError portTotal portKept nxt returnTo raised raisedError directoryAt tableAt code form (nI 4) mod regField rm linear immediate operand memory general ports mapped words → ((((((v.toUInt32 >>> ((nI n - 1).toUInt32 &&& Int32.toUInt32 31)).toInt32) &&& 1) = 0 → (wX_executeShift_67 post (nI n) v 0 size eip flags paging cr2 cr3 cr4 cr5 cpl state pending deliveries lastVector lastError portTotal portKept nxt returnTo raised raisedError directoryAt tableAt code form (nI 4) mod regField rm linear immediate operand memory general ports mapped words)) ∧ (¬ (((v.toUInt32 >>> ((nI n - 1).toUInt32 &&& Int32.toUInt32 31)).toInt32) &&& 1) = 0 → (wX_executeShift_67 post (nI n) v 1 size eip flags paging cr2 cr3 cr4 cr5 cpl state pending deliveries lastVector lastError portTotal portKept nxt returnTo raised raisedError directoryAt tableAt code form (nI 4) mod regField rm linear immediate operand memory general ports mapped words))))) ∧
    (∀ post : SY → Prop, wY_shift_167 post (is_r regField v n) size y_eip F (ar_cz paging) cr2 cr3 cr4 cr5 cpl state pending deliveries lastVector lastError portTotal raised y_faultError y_startEip nxt y_op y_mod y_reg y_rm y_address y_imm (ar_ym memory) general y_old y_ports y_place → ∃ N : Nat, wY_shift_20 post (nI n) v N v 0 size y_eip flags (ar_cz paging) cr2 cr3 cr4 cr5 cpl state pending deliveries lastVector lastError portTotal raised y_faultError y_startEip nxt y_op y_mod y_reg y_rm y_address y_imm (ar_ym memory) general y_old y_ports y_place) := by
  subst hy
  -- carry and overflow as numbers
  have hcy : ∃ cy : Int32, decide (¬ cy = 0) = is_c y_reg v n ∧ (cy = 0 ∨ cy = 1) := by
    cases is_c y_reg v n with
    | false => exact ⟨0, by decide, Or.inl rfl⟩
    | true => exact ⟨1, by decide, Or.inr rfl⟩
  obtain ⟨cy, ecy, cy01⟩ := hcy
  have hov : ∃ ov : Int32, ov = (if y_reg = 4 then (if decide (is_r y_reg v n < 0) = is_c y_reg v n then 0 else 1) else if y_reg = 5 then (if 0 ≤ v then 0 else 1) else 0) := ⟨_, rfl⟩
  obtain ⟨ov, eov⟩ := hov
  obtain ⟨F, hF, kX, kY⟩ := (fl_main (size := size) (eip := eip) (flags := flags) (paging := paging) (cr2 := cr2) (cr3 := cr3) (cr4 := cr4) (cr5 := cr5) (cpl := cpl) (state := state) (pending := pending) (deliveries := deliveries) (lastVector := lastVector) (lastError := lastError) (portTotal := portTotal) (portKept := portKept) (nxt := nxt) (returnTo := returnTo) (raised := raised) (raisedError := raisedError) (directoryAt := directoryAt) (tableAt := tableAt) (code := code) (form := form) (width := nI 4) (mod := mod) (regField := y_reg) (rm := rm) (linear := linear) (immediate := immediate) (operand := operand) (memory := memory) (general := general) (ports := ports) (mapped := mapped) (words := words) (y_eip := y_eip) (y_faultError := y_faultError) (y_startEip := y_startEip) (y_cursor := nxt) (y_op := y_op) (y_mod := y_mod) (y_reg := y_reg) (y_rm := y_rm) (y_address := y_address) (y_imm := y_imm) (y_old := y_old) (y_ports := y_ports) (y_place := y_place)) (is_r y_reg v n) (is_r y_reg v n) cy ov hf (Or.inl ⟨rfl, rfl⟩)
  have ep : nI n - 1 = nI (n - 1) := by rw [show (1 : Int32) = nI 1 from rfl, pk_sub (by omega)]
  have hlow : (((v.toUInt32 >>> ((nI n - 1).toUInt32 &&& Int32.toUInt32 31)).toInt32) &&& 1 = 0) ↔ bt v (n - 1) = false := by rw [ep]; exact sh_uc v (by omega)
  have c01 : ∀ z : Int32, (z = 0 ∨ z = 1) → (decide (¬ z = 0) = is_c y_reg v n) → z = cy := by
    intro z hz e
    rw [← ecy] at e
    rcases hz with a | a <;> rcases cy01 with b | b <;> subst a <;> subst b <;> first | rfl | exact absurd e (by decide)
  refine ⟨F, hF, fun post hp => ?_, fun post hp => ?_⟩
  · have k156 : ∀ z o : Int32, z = cy → o = ov → wX_executeShift_156 post (is_r y_reg v n) z o size eip flags paging cr2 cr3 cr4 cr5 cpl state pending deliveries lastVector lastError portTotal portKept nxt returnTo raised raisedError directoryAt tableAt code form (nI 4) mod y_reg rm linear immediate operand memory general ports mapped words := by
      intro z o ez eo
      subst ez eo
      exact kX _ hp
    have k67 : ∀ z : Int32, (z = 0 ∧ bt v (n - 1) = false ∨ z = 1 ∧ bt v (n - 1) = true) → wX_executeShift_67 post (nI n) v z size eip flags paging cr2 cr3 cr4 cr5 cpl state pending deliveries lastVector lastError portTotal portKept nxt returnTo raised raisedError directoryAt tableAt code form (nI 4) mod y_reg rm linear immediate operand memory general ports mapped words := by
      intro z hz
      by_cases h4 : y_reg = 4
      · have er : is_r y_reg v n = v <<< (nI n &&& 31) := by unfold is_r; rw [if_pos h4]
        have ec : is_c y_reg v n = bt v (32 - n) := by unfold is_c; rw [if_pos h4]
        have e32 : 32 - nI n = nI (32 - n) := by rw [show (32 : Int32) = nI 32 from rfl, pk_sub (by omega)]
        have h32 : (((v.toUInt32 >>> ((32 - nI n).toUInt32 &&& Int32.toUInt32 31)).toInt32) &&& 1 = 0) ↔ bt v (32 - n) = false := by rw [e32]; exact sh_uc v (by omega)
        refine br_t h4 (nm_r er.symm ?_)
        have k100 : ∀ z : Int32, (z = 0 ∨ z = 1) → decide (¬ z = 0) = is_c y_reg v n → wX_executeShift_100 post (is_r y_reg v n) z size eip flags paging cr2 cr3 cr4 cr5 cpl state pending deliveries lastVector lastError portTotal portKept nxt returnTo raised raisedError directoryAt tableAt code form (nI 4) mod y_reg rm linear immediate operand memory general ports mapped words := by
          intro z hz e
          have ez := c01 z hz e
          subst ez
          rw [if_pos h4] at eov
          by_cases q : 0 ≤ is_r y_reg v n
          · refine br_t q ?_
            have ed : decide (is_r y_reg v n < 0) = false := decide_eq_false (Int32.not_lt.mpr q)
            rw [ed, ← ecy] at eov
            by_cases w : (0 : Int32) = z
            · refine br_t w (k156 _ 0 rfl ?_)
              rw [eov, ← w]; rfl
            · refine br_f w (k156 _ 1 rfl ?_)
              rw [eov, if_neg (fun t => w (by have : decide (¬ z = 0) = false := t.symm; rcases hz with a | a <;> subst a <;> first | rfl | exact absurd this (by decide)))]
          · refine br_f q ?_
            have ed : decide (is_r y_reg v n < 0) = true := decide_eq_true (Int32.not_le.mp q)
            rw [ed, ← ecy] at eov
            by_cases w : (1 : Int32) = z
            · refine br_t w (k156 _ 0 rfl ?_)
              rw [eov, ← w]; rfl
            · refine br_f w (k156 _ 1 rfl ?_)
              rw [eov, if_neg (fun t => w (by have : decide (¬ z = 0) = true := t.symm; rcases hz with a | a <;> subst a <;> first | rfl | exact absurd this (by decide)))]
        by_cases q : ((v.toUInt32 >>> ((32 - nI n).toUInt32 &&& Int32.toUInt32 31)).toInt32) &&& 1 = 0
        · refine br_t q (k100 0 (Or.inl rfl) ?_)
          rw [ec, h32.mp q]; rfl
        · refine br_f q (k100 1 (Or.inr rfl) ?_)
          rw [ec]
          cases w : bt v (32 - n) with
          | true => rfl
          | false => exact absurd (h32.mpr w) q
      · have ec : is_c y_reg v n = bt v (n - 1) := by unfold is_c; rw [if_neg h4]
        have ez : z = cy := by
          rcases hz with ⟨a, b⟩ | ⟨a, b⟩
          · exact c01 z (Or.inl a) (by rw [ec, b, a]; rfl)
          · exact c01 z (Or.inr a) (by rw [ec, b, a]; rfl)
        refine br_f h4 ?_
        rw [if_neg h4] at eov
        by_cases h5 : y_reg = 5
        · have er : is_r y_reg v n = (v.toUInt32 >>> ((nI n).toUInt32 &&& Int32.toUInt32 31)).toInt32 := by unfold is_r; rw [if_neg h4, if_pos h5]
          rw [if_pos h5] at eov
          refine br_t h5 (nm_r er.symm ?_)
          by_cases q : 0 ≤ v
          · rw [if_pos q] at eov
            exact br_t q (k156 z 0 ez eov.symm)
          · rw [if_neg q] at eov
            exact br_f q (k156 z 1 ez eov.symm)
        · have er : is_r y_reg v n = v >>> (nI n &&& 31) := by unfold is_r; rw [if_neg h4, if_neg h5]
          rw [if_neg h5] at eov
          exact br_f h5 (nm_r er.symm (k156 z 0 ez eov.symm))
    by_cases q : ((v.toUInt32 >>> ((nI n - 1).toUInt32 &&& Int32.toUInt32 31)).toInt32) &&& 1 = 0
    · exact br_t q (k67 0 (Or.inl ⟨rfl, hlow.mp q⟩))
    · refine br_f q (k67 1 (Or.inr ⟨rfl, ?_⟩))
      cases w : bt v (n - 1) with
      | true => rfl
      | false => exact absurd (hlow.mpr w) q
  · refine ⟨n + 0 + 1, ?_⟩
    have lp := (is_loop (size := size) (paging := paging) (cr2 := cr2) (cr3 := cr3) (cr4 := cr4) (cr5 := cr5) (cpl := cpl) (state := state) (pending := pending) (deliveries := deliveries) (lastVector := lastVector) (lastError := lastError) (portTotal := portTotal) (nxt := nxt) (raised := raised) (memory := memory) (general := general) (y_eip := y_eip) (y_faultError := y_faultError) (y_startEip := y_startEip) (y_op := y_op) (y_mod := y_mod) (y_reg := y_reg) (y_rm := y_rm) (y_address := y_address) (y_imm := y_imm) (y_old := y_old) (y_ports := y_ports) (y_place := y_place)) post v hn flags n 0 0 (by omega)
    rw [is_r0, if_pos rfl, if_neg (by omega : ¬ n = 0)] at lp
    refine lp (br_t (nI_le (by omega) (by omega)) (br_f (nI_nle hn0 (by omega)) ?_))
    have k158 : ∀ o : Int32, o = ov → wY_shift_158 post (is_r y_reg v n) o 2048 size y_eip (ar_yf flags 1 (is_c y_reg v n)) (ar_cz paging) cr2 cr3 cr4 cr5 cpl state pending deliveries lastVector lastError portTotal raised y_faultError y_startEip nxt y_op y_mod y_reg y_rm y_address y_imm (ar_ym memory) general y_old y_ports y_place := by
      intro o eo
      subst eo
      rw [← ecy]
      exact (fl_flagY (size := size) (flags := ar_yf flags 1 (decide (¬ cy = 0))) (paging := paging) (cr2 := cr2) (cr3 := cr3) (cr4 := cr4) (cr5 := cr5) (cpl := cpl) (state := state) (pending := pending) (deliveries := deliveries) (lastVector := lastVector) (lastError := lastError) (portTotal := portTotal) (raised := raised) (memory := memory) (general := general) (y_eip := y_eip) (y_faultError := y_faultError) (y_startEip := y_startEip) (y_cursor := nxt) (y_op := y_op) (y_mod := y_mod) (y_reg := y_reg) (y_rm := y_rm) (y_address := y_address) (y_imm := y_imm) (y_old := y_old) (y_ports := y_ports) (y_place := y_place)) _ 2048 o (kY _ hp)
    have is1 : ∀ post : Int32 → Prop, post cy → wpY_is post (size, y_eip, ar_yf flags 1 (is_c y_reg v n), (ar_cz paging), cr2, cr3, cr4, cr5, cpl, state, pending, deliveries, lastVector, lastError, portTotal, raised, y_faultError, y_startEip, nxt, y_op, y_mod, y_reg, y_rm, y_address, y_imm, (ar_ym memory), general, y_old, y_ports, y_place) 1 := by
      intro post hp
      have e1 := is_yf1 flags (is_c y_reg v n)
      rcases cy01 with a | a
      · subst a
        exact br_t (e1.mpr (ecy.symm.trans (by decide))) hp
      · subst a
        refine br_f (fun t => ?_) hp
        have := e1.mp t
        rw [← ecy] at this
        exact absurd this (by decide)
    by_cases h4 : y_reg = 4
    · rw [if_pos h4] at eov
      refine br_t h4 ?_
      by_cases q : 0 ≤ is_r y_reg v n
      · refine br_t q (is1 _ ?_)
        have ed : decide (is_r y_reg v n < 0) = false := decide_eq_false (Int32.not_lt.mpr q)
        rw [ed, ← ecy] at eov
        rcases cy01 with a | a
        · subst a; exact br_t rfl (k158 0 (by rw [eov]; rfl))
        · subst a; exact br_f (by decide) (k158 1 (by rw [eov]; rfl))
      · refine br_f q (is1 _ ?_)
        have ed : decide (is_r y_reg v n < 0) = true := decide_eq_true (Int32.not_le.mp q)
        rw [ed, ← ecy] at eov
        rcases cy01 with a | a
        · subst a; exact br_f (by decide) (k158 1 (by rw [eov]; rfl))
        · subst a; exact br_t rfl (k158 0 (by rw [eov]; rfl))
    · rw [if_neg h4] at eov
      refine br_f h4 ?_
      by_cases h5 : y_reg = 5
      · rw [if_pos h5] at eov
        refine br_t h5 ?_
        by_cases q : 0 ≤ v
        · rw [if_pos q] at eov
          exact br_t q (k158 0 eov.symm)
        · rw [if_neg q] at eov
          exact br_f q (k158 1 eov.symm)
      · rw [if_neg h5] at eov
        exact br_f h5 (k158 0 eov.symm)
end
