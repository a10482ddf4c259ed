/-! flags: setResultFlags ~ flag, flag, zsp -/
def fl_ok (f : Int32) : Prop := (f &&& 3781) ||| 2 = f
theorem fl_bit {f : Int32} (h : fl_ok f) (i : Nat) : ((bt f i && bt 3781 i) || bt 2 i) = bt f i := by
  have := congrArg (fun x => bt x i) h
  simp only [b_or, b_and] at this
  exact this
theorem fl_xf {f : Int32} (h : fl_ok f) (c o z s p : Bool) : fl_ok (ar_xf f c o z s p) := by
  unfold fl_ok
  cases c <;> cases o <;> cases z <;> cases s <;> cases p <;>
    (apply b_ext
     intro i hi
     have hb := fl_bit h i
     simp only [ar_xf, ar_bs, cond_true, cond_false, b_or, b_and]
     revert hb
     generalize bt f i = q
     revert i
     cases q <;> decide +kernel)
theorem fl_pf {r v : Int32} (h : r &&& 255 = v &&& 255) : decide (ar_par (r &&& 255) &&& 1 = 0) = decide (ar_pc (v &&& 255) 8 - ar_pc (v &&& 255) 8 / 2 * 2 = 0) := by
  obtain ⟨n, hn, e⟩ := pk_andE v (m := 255) 8 (by decide)
  rw [h, e]
  exact (ar_par256 n (by omega)).symm
theorem fl_lt128 {r : Int32} : decide (¬ (r &&& 255) &&& 128 = 0) = decide (¬ (r &&& 255) < 128) := by
  obtain ⟨n, hn, e⟩ := pk_andE r (m := 255) 8 (by decide)
  rw [e]
  exact (by decide +kernel : ∀ n, n < 256 → decide (¬ nI n &&& 128 = 0) = decide (¬ nI n < 128)) n (by omega)
theorem fl_neg (r : Int32) : decide (¬ r &&& (-2147483648) = 0) = decide (¬ 0 ≤ r) := by
  rw [decide_eq_decide, ar_sf32, Int32.not_le]
section
variable {size eip flags paging cr2 cr3 cr4 cr5 cpl state pending deliveries lastVector lastError portTotal portKept nxt returnTo raised raisedError directoryAt tableAt code form width mod regField rm linear immediate operand : Int32} {memory general ports mapped words : Nat → Int32} {y_eip y_fault y_faultError y_startEip y_cursor y_op y_mod y_reg y_rm y_address y_imm : Int32} {y_old y_ports : Nat → Int32} {y_place : Nat → Int64}
theorem fl_flagY (post : SY → Prop) (b on : Int32) (h : post (size, y_eip, ar_yf flags b (decide (¬ on = 0)), (ar_cz paging), cr2, cr3, cr4, cr5, cpl, state, pending, deliveries, lastVector, lastError, portTotal, raised, y_faultError, y_startEip, y_cursor, y_op, y_mod, y_reg, y_rm, y_address, y_imm, (ar_ym memory), general, y_old, y_ports, y_place)) : wpY_flag post (size, y_eip, flags, (ar_cz paging), cr2, cr3, cr4, cr5, cpl, state, pending, deliveries, lastVector, lastError, portTotal, raised, y_faultError, y_startEip, y_cursor, y_op, y_mod, y_reg, y_rm, y_address, y_imm, (ar_ym memory), general, y_old, y_ports, y_place) b on := by
  by_cases q : on = 0
  · rw [decide_eq_false (fun w => w q)] at h
    exact br_t q (nm_e h)
  · rw [decide_eq_true q] at h
    exact br_f q (nm_e h)
theorem fl_set (post : SX → Prop) (res c o kept top : Int32) (hk : (width = 1 ∧ kept = res &&& 255 ∧ top = 128) ∨ (¬ width = 1 ∧ kept = res ∧ top = -2147483648))
    (h : post (size, eip, ar_xf flags (decide (¬ c = 0)) (decide (¬ o = 0)) (decide (kept = 0)) (decide (¬ kept &&& top = 0)) (decide (ar_par (res &&& 255) &&& 1 = 0)), paging, cr2, cr3, cr4, cr5, cpl, state, pending, deliveries, lastVector, lastError, portTotal, portKept, nxt, returnTo, raised, raisedError, directoryAt, tableAt, code, form, width, mod, regField, rm, linear, immediate, operand, memory, general, ports, mapped, words)) : wpX_setResultFlags post (size, eip, flags, paging, cr2, cr3, cr4, cr5, cpl, state, pending, deliveries, lastVector, lastError, portTotal, portKept, nxt, returnTo, raised, raisedError, directoryAt, tableAt, code, form, width, mod, regField, rm, linear, immediate, operand, memory, general, ports, mapped, words) res c o := by
  have k124 : ∀ x6 x7 : Int32, post (size, eip, (flags &&& (-2246)) ||| ar_bs x7 4 (decide (x6 &&& 1 = 0)), paging, cr2, cr3, cr4, cr5, cpl, state, pending, deliveries, lastVector, lastError, portTotal, portKept, nxt, returnTo, raised, raisedError, directoryAt, tableAt, code, form, width, mod, regField, rm, linear, immediate, operand, memory, general, ports, mapped, words) → wX_setResultFlags_124 post x6 x7 size eip flags paging cr2 cr3 cr4 cr5 cpl state pending deliveries lastVector lastError portTotal portKept nxt returnTo raised raisedError directoryAt tableAt code form width mod regField rm linear immediate operand memory general ports mapped words := by
    intro x6 x7 hp
    by_cases q : x6 &&& 1 = 0
    · rw [decide_eq_true q] at hp; exact br_t q (nm_e (nm_e hp))
    · rw [decide_eq_false q] at hp; exact br_f q (nm_e hp)
  have k108 : ∀ x4 x5 x6 x7 : Int32, post (size, eip, (flags &&& (-2246)) ||| ar_bs (ar_bs x7 128 (decide (¬ x4 &&& x5 = 0))) 4 (decide (x6 &&& 1 = 0)), paging, cr2, cr3, cr4, cr5, cpl, state, pending, deliveries, lastVector, lastError, portTotal, portKept, nxt, returnTo, raised, raisedError, directoryAt, tableAt, code, form, width, mod, regField, rm, linear, immediate, operand, memory, general, ports, mapped, words) → wX_setResultFlags_108 post x4 x5 x6 x7 size eip flags paging cr2 cr3 cr4 cr5 cpl state pending deliveries lastVector lastError portTotal portKept nxt returnTo raised raisedError directoryAt tableAt code form width mod regField rm linear immediate operand memory general ports mapped words := by
    intro x4 x5 x6 x7 hp
    by_cases q : x4 &&& x5 = 0
    · rw [decide_eq_false (fun w => w q)] at hp; exact br_t q (k124 _ _ hp)
    · rw [decide_eq_true q] at hp; exact br_f q (nm_e (k124 _ _ hp))
  have k96 : ∀ x4 x5 x6 x7 : Int32, post (size, eip, (flags &&& (-2246)) ||| ar_bs (ar_bs (ar_bs x7 64 (decide (x4 = 0))) 128 (decide (¬ x4 &&& x5 = 0))) 4 (decide (x6 &&& 1 = 0)), paging, cr2, cr3, cr4, cr5, cpl, state, pending, deliveries, lastVector, lastError, portTotal, portKept, nxt, returnTo, raised, raisedError, directoryAt, tableAt, code, form, width, mod, regField, rm, linear, immediate, operand, memory, general, ports, mapped, words) → wX_setResultFlags_96 post x4 x5 x6 x7 size eip flags paging cr2 cr3 cr4 cr5 cpl state pending deliveries lastVector lastError portTotal portKept nxt returnTo raised raisedError directoryAt tableAt code form width mod regField rm linear immediate operand memory general ports mapped words := by
    intro x4 x5 x6 x7 hp
    by_cases q : x4 = 0
    · rw [show decide (x4 = 0) = true from decide_eq_true q] at hp; exact br_t q (nm_e (k108 _ _ _ _ hp))
    · rw [show decide (x4 = 0) = false from decide_eq_false q] at hp; exact br_f q (k108 _ _ _ _ hp)
  have k84 : ∀ x3 x4 x5 x6 x7 : Int32, post (size, eip, (flags &&& (-2246)) ||| ar_bs (ar_bs (ar_bs (ar_bs x7 2048 (decide (¬ x3 = 0))) 64 (decide (x4 = 0))) 128 (decide (¬ x4 &&& x5 = 0))) 4 (decide (x6 &&& 1 = 0)), paging, cr2, cr3, cr4, cr5, cpl, state, pending, deliveries, lastVector, lastError, portTotal, portKept, nxt, returnTo, raised, raisedError, directoryAt, tableAt, code, form, width, mod, regField, rm, linear, immediate, operand, memory, general, ports, mapped, words) → wX_setResultFlags_84 post x3 x4 x5 x6 x7 size eip flags paging cr2 cr3 cr4 cr5 cpl state pending deliveries lastVector lastError portTotal portKept nxt returnTo raised raisedError directoryAt tableAt code form width mod regField rm linear immediate operand memory general ports mapped words := by
    intro x3 x4 x5 x6 x7 hp
    by_cases q : x3 = 0
    · rw [show decide (¬ x3 = 0) = false from decide_eq_false (fun w => w q)] at hp; exact br_t q (k96 _ _ _ _ hp)
    · rw [show decide (¬ x3 = 0) = true from decide_eq_true q] at hp; exact br_f q (nm_e (k96 _ _ _ _ hp))
  have k35 : wX_setResultFlags_35 post res c o kept top size eip flags paging cr2 cr3 cr4 cr5 cpl state pending deliveries lastVector lastError portTotal portKept nxt returnTo raised raisedError directoryAt tableAt code form width mod regField rm linear immediate operand memory general ports mapped words := by
    refine nm_e (nm_e (nm_e (nm_e ?_)))
    unfold ar_xf ar_par at h
    by_cases q : c = 0
    · rw [show decide (¬ c = 0) = false from decide_eq_false (fun w => w q)] at h; exact br_t q (k84 _ _ _ _ _ h)
    · rw [show decide (¬ c = 0) = true from decide_eq_true q] at h; exact br_f q (nm_e (k84 _ _ _ _ _ h))
  rcases hk with ⟨w1, e, e2⟩ | ⟨w1, e, e2⟩
  · subst e e2
    exact br_t w1 (br_t w1 k35)
  · subst e e2
    exact br_f w1 (br_f w1 k35)
theorem fl_zsp (post : SY → Prop) (v w : Int32) (z s : Bool) (hz : (w = 4 ∧ z = decide (v = 0) ∧ s = decide (¬ 0 ≤ v)) ∨ (¬ w = 4 ∧ z = decide (v &&& 255 = 0) ∧ s = decide (¬ (v &&& 255) < 128)))
    (h : post (size, y_eip, ar_yz flags z s (decide (ar_pc (v &&& 255) 8 - ar_pc (v &&& 255) 8 / 2 * 2 = 0)), (ar_cz paging), cr2, cr3, cr4, cr5, cpl, state, pending, deliveries, lastVector, lastError, portTotal, raised, y_faultError, y_startEip, y_cursor, y_op, y_mod, y_reg, y_rm, y_address, y_imm, (ar_ym memory), general, y_old, y_ports, y_place)) : wpY_zsp post (size, y_eip, flags, (ar_cz paging), cr2, cr3, cr4, cr5, cpl, state, pending, deliveries, lastVector, lastError, portTotal, raised, y_faultError, y_startEip, y_cursor, y_op, y_mod, y_reg, y_rm, y_address, y_imm, (ar_ym memory), general, y_old, y_ports, y_place) v w := by
  have k101 : ∀ (flags x4 on : Int32), post (size, y_eip, ar_yf (ar_yf flags 128 (decide (¬ on = 0))) 4 (decide (x4 - x4 / 2 * 2 = 0)), (ar_cz paging), cr2, cr3, cr4, cr5, cpl, state, pending, deliveries, lastVector, lastError, portTotal, raised, y_faultError, y_startEip, y_cursor, y_op, y_mod, y_reg, y_rm, y_address, y_imm, (ar_ym memory), general, y_old, y_ports, y_place) → wY_zsp_101 post x4 on 128 size y_eip flags (ar_cz paging) cr2 cr3 cr4 cr5 cpl state pending deliveries lastVector lastError portTotal raised y_faultError y_startEip y_cursor y_op y_mod y_reg y_rm y_address y_imm (ar_ym memory) general y_old y_ports y_place := by
    intro flags x4 on hp
    refine (fl_flagY (size := size) (flags := flags) (paging := paging) (cr2 := cr2) (cr3 := cr3) (cr4 := cr4) (cr5 := cr5) (cpl := cpl) (state := state) (pending := pending) (deliveries := deliveries) (lastVector := lastVector) (lastError := lastError) (portTotal := portTotal) (raised := raised) (memory := memory) (general := general) (y_eip := y_eip) (y_faultError := y_faultError) (y_startEip := y_startEip) (y_cursor := y_cursor) (y_op := y_op) (y_mod := y_mod) (y_reg := y_reg) (y_rm := y_rm) (y_address := y_address) (y_imm := y_imm) (y_old := y_old) (y_ports := y_ports) (y_place := y_place)) _ 128 on ⟨by decide, ?_⟩
    by_cases q : x4 - x4 / 2 * 2 = 0
    · rw [show decide (x4 - x4 / 2 * 2 = 0) = true from decide_eq_true q] at hp
      exact br_t q ((fl_flagY (size := size) (flags := ar_yf flags 128 (decide (¬ on = 0))) (paging := paging) (cr2 := cr2) (cr3 := cr3) (cr4 := cr4) (cr5 := cr5) (cpl := cpl) (state := state) (pending := pending) (deliveries := deliveries) (lastVector := lastVector) (lastError := lastError) (portTotal := portTotal) (raised := raised) (memory := memory) (general := general) (y_eip := y_eip) (y_faultError := y_faultError) (y_startEip := y_startEip) (y_cursor := y_cursor) (y_op := y_op) (y_mod := y_mod) (y_reg := y_reg) (y_rm := y_rm) (y_address := y_address) (y_imm := y_imm) (y_old := y_old) (y_ports := y_ports) (y_place := y_place)) _ 4 1 hp)
    · rw [show decide (x4 - x4 / 2 * 2 = 0) = false from decide_eq_false q] at hp
      exact br_f q ((fl_flagY (size := size) (flags := ar_yf flags 128 (decide (¬ on = 0))) (paging := paging) (cr2 := cr2) (cr3 := cr3) (cr4 := cr4) (cr5 := cr5) (cpl := cpl) (state := state) (pending := pending) (deliveries := deliveries) (lastVector := lastVector) (lastError := lastError) (portTotal := portTotal) (raised := raised) (memory := memory) (general := general) (y_eip := y_eip) (y_faultError := y_faultError) (y_startEip := y_startEip) (y_cursor := y_cursor) (y_op := y_op) (y_mod := y_mod) (y_reg := y_reg) (y_rm := y_rm) (y_address := y_address) (y_imm := y_imm) (y_old := y_old) (y_ports := y_ports) (y_place := y_place)) _ 4 0 hp)
  have k65 : ∀ (x4 on : Int32), decide (¬ on = 0) = z → post (size, y_eip, ar_yf (ar_yf (ar_yf flags 64 z) 128 s) 4 (decide (x4 - x4 / 2 * 2 = 0)), (ar_cz paging), cr2, cr3, cr4, cr5, cpl, state, pending, deliveries, lastVector, lastError, portTotal, raised, y_faultError, y_startEip, y_cursor, y_op, y_mod, y_reg, y_rm, y_address, y_imm, (ar_ym memory), general, y_old, y_ports, y_place) → wY_zsp_65 post v w (v &&& 255) x4 on 64 size y_eip flags (ar_cz paging) cr2 cr3 cr4 cr5 cpl state pending deliveries lastVector lastError portTotal raised y_faultError y_startEip y_cursor y_op y_mod y_reg y_rm y_address y_imm (ar_ym memory) general y_old y_ports y_place := by
    intro x4 on hon hp
    refine (fl_flagY (size := size) (flags := flags) (paging := paging) (cr2 := cr2) (cr3 := cr3) (cr4 := cr4) (cr5 := cr5) (cpl := cpl) (state := state) (pending := pending) (deliveries := deliveries) (lastVector := lastVector) (lastError := lastError) (portTotal := portTotal) (raised := raised) (memory := memory) (general := general) (y_eip := y_eip) (y_faultError := y_faultError) (y_startEip := y_startEip) (y_cursor := y_cursor) (y_op := y_op) (y_mod := y_mod) (y_reg := y_reg) (y_rm := y_rm) (y_address := y_address) (y_imm := y_imm) (y_old := y_old) (y_ports := y_ports) (y_place := y_place)) _ 64 on ?_
    rw [hon]
    rcases hz with ⟨hw, ez, es⟩ | ⟨hw, ez, es⟩
    · refine br_t hw ?_
      by_cases q : 0 ≤ v
      · rw [es, show decide (¬ 0 ≤ v) = decide (¬ (0 : Int32) = 0) from by rw [decide_eq_false (fun w => w q)]; rfl] at hp
        exact br_t q (k101 _ _ _ hp)
      · rw [es, show decide (¬ 0 ≤ v) = decide (¬ (1 : Int32) = 0) from by rw [decide_eq_true q]; rfl] at hp
        exact br_f q (k101 _ _ _ hp)
    · refine br_f hw ?_
      by_cases q : (v &&& 255) < 128
      · rw [es, show decide (¬ (v &&& 255) < 128) = decide (¬ (0 : Int32) = 0) from by rw [decide_eq_false (fun w => w q)]; rfl] at hp
        exact br_t q (k101 _ _ _ hp)
      · rw [es, show decide (¬ (v &&& 255) < 128) = decide (¬ (1 : Int32) = 0) from by rw [decide_eq_true q]; rfl] at hp
        exact br_f q (k101 _ _ _ hp)
  have fin : ∀ n : Nat, wY_zsp_12 post v w (v &&& 255) size y_eip flags (ar_cz paging) cr2 cr3 cr4 cr5 cpl state pending deliveries lastVector lastError portTotal raised y_faultError y_startEip y_cursor y_op y_mod y_reg y_rm y_address y_imm (ar_ym memory) general y_old y_ports y_place (n + 1) (ar_pc (v &&& 255) 8) (nI 8) := by
    intro n
    refine br_t (by decide) ?_
    rcases hz with ⟨hw, ez, es⟩ | ⟨hw, ez, es⟩
    · refine br_t hw ?_
      by_cases q : v = 0
      · exact br_t q (k65 _ 1 (by rw [ez, decide_eq_true q]; rfl) h)
      · exact br_f q (k65 _ 0 (by rw [ez, decide_eq_false q]; rfl) h)
    · refine br_f hw ?_
      by_cases q : v &&& 255 = 0
      · exact br_t q (k65 _ 1 (by rw [ez, decide_eq_true q]; rfl) h)
      · exact br_f q (k65 _ 0 (by rw [ez, decide_eq_false q]; rfl) h)
  have loop : ∀ (d k : Nat), k + d = 8 → wY_zsp_12 post v w (v &&& 255) size y_eip flags (ar_cz paging) cr2 cr3 cr4 cr5 cpl state pending deliveries lastVector lastError portTotal raised y_faultError y_startEip y_cursor y_op y_mod y_reg y_rm y_address y_imm (ar_ym memory) general y_old y_ports y_place (d + 1) (ar_pc (v &&& 255) k) (nI k) := by
    intro d
    induction d with
    | zero =>
      intro k hk
      have e : k = 8 := by omega
      subst e
      exact fin 0
    | succ d ih =>
      intro k hk
      refine br_f (nI_ge (b := 8) (by omega) (by decide)) (nm_e (nm_r (nI_1 k) ?_))
      exact ih (k + 1) (by omega)
  exact nm_e ⟨9, loop 8 0 (by omega)⟩
/-- X's setResultFlags against Y's two flags and zsp -/
theorem fl_main (res v c o : Int32) (hf : fl_ok flags) (hw : (width = 4 ∧ res = v) ∨ (width = 1 ∧ res &&& 255 = v &&& 255)) : ∃ F : Int32, fl_ok F ∧
    (∀ post : SX → Prop, post (size, eip, F, paging, cr2, cr3, cr4, cr5, cpl, state, pending, deliveries, lastVector, lastError, portTotal, portKept, nxt, returnTo, raised, raisedError, directoryAt, tableAt, code, form, width, mod, regField, rm, linear, immediate, operand, memory, general, ports, mapped, words) → wpX_setResultFlags post (size, eip, flags, paging, cr2, cr3, cr4, cr5, cpl, state, pending, deliveries, lastVector, lastError, portTotal, portKept, nxt, returnTo, raised, raisedError, directoryAt, tableAt, code, form, width, mod, regField, rm, linear, immediate, operand, memory, general, ports, mapped, words) res c o) ∧
    (∀ post : SY → Prop, post (size, y_eip, F, (ar_cz paging), cr2, cr3, cr4, cr5, cpl, state, pending, deliveries, lastVector, lastError, portTotal, raised, y_faultError, y_startEip, y_cursor, y_op, y_mod, y_reg, y_rm, y_address, y_imm, (ar_ym memory), general, y_old, y_ports, y_place) → wpY_zsp post (size, y_eip, ar_yf (ar_yf flags 1 (decide (¬ c = 0))) 2048 (decide (¬ o = 0)), (ar_cz paging), cr2, cr3, cr4, cr5, cpl, state, pending, deliveries, lastVector, lastError, portTotal, raised, y_faultError, y_startEip, y_cursor, y_op, y_mod, y_reg, y_rm, y_address, y_imm, (ar_ym memory), general, y_old, y_ports, y_place) v width) := by
  rcases hw with ⟨hw, e⟩ | ⟨hw, e⟩
  · subst e
    have w1 : ¬ width = 1 := by rw [hw]; decide
    refine ⟨_, fl_xf hf (decide (¬ c = 0)) (decide (¬ o = 0)) (decide (res = 0)) (decide (¬ res &&& (-2147483648) = 0)) (decide (ar_par (res &&& 255) &&& 1 = 0)), fun post hp => (fl_set (size := size) (eip := eip) (flags := flags) (paging := paging) (cr2 := cr2) (cr3 := cr3) (cr4 := cr4) (cr5 := cr5) (cpl := cpl) (state := state) (pending := pending) (deliveries := deliveries) (lastVector := lastVector) (lastError := lastError) (portTotal := portTotal) (portKept := portKept) (nxt := nxt) (returnTo := returnTo) (raised := raised) (raisedError := raisedError) (directoryAt := directoryAt) (tableAt := tableAt) (code := code) (form := form) (width := width) (mod := mod) (regField := regField) (rm := rm) (linear := linear) (immediate := immediate) (operand := operand) (memory := memory) (general := general) (ports := ports) (mapped := mapped) (words := words)) post res c o res (-2147483648) (Or.inr ⟨w1, rfl, rfl⟩) hp, fun post hp => ?_⟩
    refine (fl_zsp (size := size) (flags := ar_yf (ar_yf flags 1 (decide (¬ c = 0))) 2048 (decide (¬ o = 0))) (paging := paging) (cr2 := cr2) (cr3 := cr3) (cr4 := cr4) (cr5 := cr5) (cpl := cpl) (state := state) (pending := pending) (deliveries := deliveries) (lastVector := lastVector) (lastError := lastError) (portTotal := portTotal) (raised := raised) (memory := memory) (general := general) (y_eip := y_eip) (y_faultError := y_faultError) (y_startEip := y_startEip) (y_cursor := y_cursor) (y_op := y_op) (y_mod := y_mod) (y_reg := y_reg) (y_rm := y_rm) (y_address := y_address) (y_imm := y_imm) (y_old := y_old) (y_ports := y_ports) (y_place := y_place)) post res width (decide (res = 0)) (decide (¬ 0 ≤ res)) (Or.inl ⟨hw, rfl, rfl⟩) ?_
    rw [ar_fl, fl_pf rfl, fl_neg] at hp
    exact hp
  · have w4 : ¬ width = 4 := by rw [hw]; decide
    refine ⟨_, fl_xf hf (decide (¬ c = 0)) (decide (¬ o = 0)) (decide (res &&& 255 = 0)) (decide (¬ (res &&& 255) &&& 128 = 0)) (decide (ar_par (res &&& 255) &&& 1 = 0)), fun post hp => (fl_set (size := size) (eip := eip) (flags := flags) (paging := paging) (cr2 := cr2) (cr3 := cr3) (cr4 := cr4) (cr5 := cr5) (cpl := cpl) (state := state) (pending := pending) (deliveries := deliveries) (lastVector := lastVector) (lastError := lastError) (portTotal := portTotal) (portKept := portKept) (nxt := nxt) (returnTo := returnTo) (raised := raised) (raisedError := raisedError) (directoryAt := directoryAt) (tableAt := tableAt) (code := code) (form := form) (width := width) (mod := mod) (regField := regField) (rm := rm) (linear := linear) (immediate := immediate) (operand := operand) (memory := memory) (general := general) (ports := ports) (mapped := mapped) (words := words)) post res c o (res &&& 255) 128 (Or.inl ⟨hw, rfl, rfl⟩) hp, fun post hp => ?_⟩
    refine (fl_zsp (size := size) (flags := ar_yf (ar_yf flags 1 (decide (¬ c = 0))) 2048 (decide (¬ o = 0))) (paging := paging) (cr2 := cr2) (cr3 := cr3) (cr4 := cr4) (cr5 := cr5) (cpl := cpl) (state := state) (pending := pending) (deliveries := deliveries) (lastVector := lastVector) (lastError := lastError) (portTotal := portTotal) (raised := raised) (memory := memory) (general := general) (y_eip := y_eip) (y_faultError := y_faultError) (y_startEip := y_startEip) (y_cursor := y_cursor) (y_op := y_op) (y_mod := y_mod) (y_reg := y_reg) (y_rm := y_rm) (y_address := y_address) (y_imm := y_imm) (y_old := y_old) (y_ports := y_ports) (y_place := y_place)) post v width (decide (v &&& 255 = 0)) (decide (¬ (v &&& 255) < 128)) (Or.inr ⟨w4, rfl, rfl⟩) ?_
    rw [ar_fl, fl_pf e, fl_lt128, e] at hp
    exact hp
end
