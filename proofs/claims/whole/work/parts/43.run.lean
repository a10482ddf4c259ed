/-! run -/
theorem rn_y (post : Int32 → SY → Prop) (x2 x3 : Int32) (N : Nat) (v : SY) (h : st_K (wY_run_25 post x2 N) (x3 + 1) v) : (match v with | (v_size, v_eip, v_f, v_cr0, v_cr2, v_cr3, v_cr4, v_cr5, v_cpl, v_status, v_pending, v_delivered, v_lastVector, v_lastError, v_portCount, v_fault, v_faultError, v_startEip, v_cursor, v_op, v_mod, v_reg, v_rm, v_address, v_imm, v_mem, v_g, v_old, v_ports, v_place) => (((1 : Int32) = 0 → post x3 (v_size, v_eip, v_f, v_cr0, v_cr2, v_cr3, v_cr4, v_cr5, v_cpl, v_status, v_pending, v_delivered, v_lastVector, v_lastError, v_portCount, v_fault, v_faultError, v_startEip, v_cursor, v_op, v_mod, v_reg, v_rm, v_address, v_imm, v_mem, v_g, v_old, v_ports, v_place)) ∧ (¬ (1 : Int32) = 0 → ∀ x : Int32, x = x3 + 1 → wY_run_25 post x2 N x v_size v_eip v_f v_cr0 v_cr2 v_cr3 v_cr4 v_cr5 v_cpl v_status v_pending v_delivered v_lastVector v_lastError v_portCount v_fault v_faultError v_startEip v_cursor v_op v_mod v_reg v_rm v_address v_imm v_mem v_g v_old v_ports v_place))) := by
  revert h
  exact match v with | (v_size, v_eip, v_f, v_cr0, v_cr2, v_cr3, v_cr4, v_cr5, v_cpl, v_status, v_pending, v_delivered, v_lastVector, v_lastError, v_portCount, v_fault, v_faultError, v_startEip, v_cursor, v_op, v_mod, v_reg, v_rm, v_address, v_imm, v_mem, v_g, v_old, v_ports, v_place) => fun h => br_f (by decide) (nm_e h)
theorem rn_loop {B : Nat} (hB : B ≤ 200) : ∀ (d i n : Nat) (u : SX) (v : SY), i + d = B → n + d < 2 ^ 30 → rl n u v →
    ∃ (r : Int32) (u' : SX) (v' : SY) (n' : Nat), (n' ≤ n + d ∧ rl n' u' v') ∧ (∀ post : Int32 → SX → Prop, post r u' → ∃ N : Nat, st_J (wX_run_17 post (nI B) N) (nI i) u) ∧ (∀ post : Int32 → SY → Prop, post r v' → ∃ N : Nat, st_K (wY_run_25 post (nI B) N) (nI i) v) := by
  intro d
  induction d with
  | zero =>
    intro i n u v hi hn h
    have h0 := h
    obtain ⟨size, eip, flags, paging, cr2, cr3, cr4, cr5, cpl, state, pending, deliveries, lastVector, lastError, portTotal, portKept, nxt, returnTo, raised, raisedError, directoryAt, tableAt, code, form, width, mod, regField, rm, linear, immediate, operand, memory, general, ports, mapped, words, y_eip, y_fault, y_faultError, y_startEip, y_cursor, y_op, y_mod, y_reg, y_rm, y_address, y_imm, y_old, y_ports, y_place, rfl, rfl, hk⟩ := h
    have hle : nI B ≤ nI i := nI_le (by omega) (by omega)
    exact ⟨nI i, _, _, n, ⟨by omega, h0⟩, fun post hp => ⟨1, br_t hle hp⟩, fun post hp => ⟨1, br_t hle hp⟩⟩
  | succ d ih =>
    intro i n u v hi hn h
    have h0 := h
    obtain ⟨size, eip, flags, paging, cr2, cr3, cr4, cr5, cpl, state, pending, deliveries, lastVector, lastError, portTotal, portKept, nxt, returnTo, raised, raisedError, directoryAt, tableAt, code, form, width, mod, regField, rm, linear, immediate, operand, memory, general, ports, mapped, words, y_eip, y_fault, y_faultError, y_startEip, y_cursor, y_op, y_mod, y_reg, y_rm, y_address, y_imm, y_old, y_ports, y_place, rfl, rfl, hk⟩ := h
    have hnle : ¬ nI B ≤ nI i := nI_ge (by omega) (by omega)
    by_cases s2 : state = 2
    · have x46 : ∀ (z : Int32) (post : Int32 → SX → Prop) (J : Int32 → Int32 → Int32 → Int32 → Int32 → Int32 → Int32 → Int32 → Int32 → Int32 → Int32 → Int32 → Int32 → Int32 → Int32 → Int32 → Int32 → Int32 → Int32 → Int32 → Int32 → Int32 → Int32 → Int32 → Int32 → Int32 → Int32 → Int32 → Int32 → Int32 → Int32 → Int32 → (Nat → Int32) → (Nat → Int32) → (Nat → Int32) → (Nat → Int32) → (Nat → Int32) → Prop), post (nI i) (size, eip, flags, paging, cr2, cr3, cr4, cr5, cpl, state, pending, deliveries, lastVector, lastError, portTotal, portKept, nxt, returnTo, raised, raisedError, directoryAt, tableAt, code, form, width, mod, regField, rm, linear, immediate, operand, memory, general, ports, mapped, words) → wX_run_46 post J (nI B) (nI i) z size eip flags paging cr2 cr3 cr4 cr5 cpl state pending deliveries lastVector lastError portTotal portKept nxt returnTo raised raisedError directoryAt tableAt code form width mod regField rm linear immediate operand memory general ports mapped words := fun z post J hp => br_t s2 hp
      exact ⟨nI i, _, _, n, ⟨by omega, h0⟩, fun post hp => ⟨1, br_f hnle (br_c (fun _ => x46 0 post _ hp) (fun _ => br_c (fun _ => x46 0 post _ hp) (fun _ => x46 1 post _ hp)))⟩, fun post hp => ⟨1, br_f hnle (br_t s2 hp)⟩⟩
    by_cases hI : ¬ pending = -1 ∧ ¬ flags &&& 512 = 0
    · obtain ⟨p, p1, p2, ep⟩ := hk.2.2.1.resolve_left hI.1
      have hpn : ¬ pending < 0 := by rw [ep]; exact nI_pos (by omega)
      obtain ⟨u', v', ⟨n1, hn1, hr⟩, zX, zY⟩ := (st_intr (size := size) (eip := eip) (flags := flags) (paging := paging) (cr2 := cr2) (cr3 := cr3) (cr4 := cr4) (cr5 := cr5) (cpl := cpl) (state := state) (pending := pending) (deliveries := deliveries) (lastVector := lastVector) (lastError := lastError) (portTotal := portTotal) (portKept := portKept) (nxt := nxt) (returnTo := returnTo) (raised := raised) (raisedError := raisedError) (directoryAt := directoryAt) (tableAt := tableAt) (code := code) (form := form) (width := width) (mod := mod) (regField := regField) (rm := rm) (linear := linear) (immediate := immediate) (operand := operand) (memory := memory) (general := general) (ports := ports) (mapped := mapped) (words := words) (y_faultError := y_faultError) (y_op := y_op) (y_mod := y_mod) (y_reg := y_reg) (y_rm := y_rm) (y_address := y_address) (y_imm := y_imm) (y_old := y_old) (y_ports := y_ports) (y_place := y_place)) hk (by omega : p < 256) ep y_cursor
      have yint : ∀ post : Int32 → SY → Prop, post 1 v' → wpY_step post (size, eip, flags, (ar_cz paging), cr2, cr3, cr4, cr5, cpl, state, pending, deliveries, lastVector, lastError, portTotal, y_fault, y_faultError, y_startEip, y_cursor, y_op, y_mod, y_reg, y_rm, y_address, y_imm, (ar_ym memory), general, y_old, y_ports, y_place) := fun post hp => br_f hpn (br_f hI.2 (br_f (by decide) (zY post hp)))
      obtain ⟨r, u2, v2, n2, ⟨hn2, hr2⟩, wX, wY⟩ := ih (i + 1) n1 u' v' (by omega) (by omega) hr
      refine ⟨r, u2, v2, n2, ⟨by omega, hr2⟩, fun post hp => ?_, fun post hp => ?_⟩
      · obtain ⟨N, hN⟩ := wX post hp
        have k72 := zX post (wX_run_17 post (nI B) N) (nI B) (nI i) (by rw [nI_1]; exact hN)
        exact ⟨N + 1, br_f hnle (br_f hI.1 (br_f hI.2 (br_f s2 (br_c (fun _ => br_f (by decide) k72) (fun _ => k72)))))⟩
      · obtain ⟨N, hN⟩ := wY post hp
        exact ⟨N + 1, br_f hnle (br_f s2 (yint _ (rn_y post (nI B) (nI i) N v' (by rw [nI_1]; exact hN))))⟩
    have hI' : pending = -1 ∨ flags &&& 512 = 0 := by
      by_cases q : pending = -1
      · exact Or.inl q
      · exact Or.inr (Classical.byContradiction fun w => hI ⟨q, w⟩)
    have xk : ∀ (post : Int32 → SX → Prop) (N : Nat), wX_run_46 post (wX_run_17 post (nI B) N) (nI B) (nI i) 0 size eip flags paging cr2 cr3 cr4 cr5 cpl state pending deliveries lastVector lastError portTotal portKept nxt returnTo raised raisedError directoryAt tableAt code form width mod regField rm linear immediate operand memory general ports mapped words → wX_run_17 post (nI B) (N + 1) (nI i) size eip flags paging cr2 cr3 cr4 cr5 cpl state pending deliveries lastVector lastError portTotal portKept nxt returnTo raised raisedError directoryAt tableAt code form width mod regField rm linear immediate operand memory general ports mapped words := by
      intro post N hp
      refine br_f hnle ?_
      by_cases q : pending = -1
      · exact br_t q hp
      · exact br_f q (br_t (hI'.resolve_left q) hp)
    have yk : ∀ post : Int32 → SY → Prop, wY_step_57 post size eip flags (ar_cz paging) cr2 cr3 cr4 cr5 cpl state pending deliveries lastVector lastError portTotal (-1) y_faultError eip y_cursor y_op y_mod y_reg y_rm y_address y_imm (ar_ym memory) general y_old y_ports y_place → wpY_step post (size, eip, flags, (ar_cz paging), cr2, cr3, cr4, cr5, cpl, state, pending, deliveries, lastVector, lastError, portTotal, y_fault, y_faultError, y_startEip, y_cursor, y_op, y_mod, y_reg, y_rm, y_address, y_imm, (ar_ym memory), general, y_old, y_ports, y_place) := by
      intro post hp
      by_cases q : pending = -1
      · exact br_t (by rw [q]; decide) hp
      · obtain ⟨p, p1, p2, ep⟩ := hk.2.2.1.resolve_left q
        have hpn : ¬ pending < 0 := by rw [ep]; exact nI_pos (by omega)
        exact br_f hpn (br_t (hI'.resolve_left q) (br_t rfl hp))
    by_cases s1 : state = 1
    · exact ⟨nI i, _, (size, eip, flags, (ar_cz paging), cr2, cr3, cr4, cr5, cpl, state, pending, deliveries, lastVector, lastError, portTotal, -1, y_faultError, eip, y_cursor, y_op, y_mod, y_reg, y_rm, y_address, y_imm, (ar_ym memory), general, y_old, y_ports, y_place), n, ⟨by omega, (rl_mk (size := size) (eip := eip) (flags := flags) (paging := paging) (cr2 := cr2) (cr3 := cr3) (cr4 := cr4) (cr5 := cr5) (cpl := cpl) (state := state) (pending := pending) (deliveries := deliveries) (lastVector := lastVector) (lastError := lastError) (portTotal := portTotal) (portKept := portKept) (nxt := nxt) (returnTo := returnTo) (raised := raised) (raisedError := raisedError) (directoryAt := directoryAt) (tableAt := tableAt) (code := code) (form := form) (width := width) (mod := mod) (regField := regField) (rm := rm) (linear := linear) (immediate := immediate) (operand := operand) (memory := memory) (general := general) (ports := ports) (mapped := mapped) (words := words) (y_fault := -1) (y_faultError := y_faultError) (y_startEip := eip) (y_cursor := y_cursor) (y_op := y_op) (y_mod := y_mod) (y_reg := y_reg) (y_rm := y_rm) (y_address := y_address) (y_imm := y_imm) (y_old := y_old) (y_ports := y_ports) (y_place := y_place)) hk⟩, fun post hp => ⟨1, xk post 0 (br_f s2 (br_t s1 (br_t rfl hp)))⟩, fun post hp => ⟨1, br_f hnle (br_f s2 (yk _ (br_t s1 (br_t rfl hp))))⟩⟩
    have s0 : state = 0 := by
      rcases hk.2.1 with w | w | w
      · exact w
      · exact absurd w s1
      · exact absurd w s2
    obtain ⟨u', v', ⟨n1, hn1, hr⟩, zX, zY⟩ := (st_norm (size := size) (eip := eip) (flags := flags) (paging := paging) (cr2 := cr2) (cr3 := cr3) (cr4 := cr4) (cr5 := cr5) (cpl := cpl) (state := state) (pending := pending) (deliveries := deliveries) (lastVector := lastVector) (lastError := lastError) (portTotal := portTotal) (portKept := portKept) (nxt := nxt) (returnTo := returnTo) (raised := raised) (raisedError := raisedError) (directoryAt := directoryAt) (tableAt := tableAt) (code := code) (form := form) (width := width) (mod := mod) (regField := regField) (rm := rm) (linear := linear) (immediate := immediate) (operand := operand) (memory := memory) (general := general) (ports := ports) (mapped := mapped) (words := words) (y_faultError := y_faultError) (y_op := y_op) (y_mod := y_mod) (y_reg := y_reg) (y_rm := y_rm) (y_address := y_address) (y_imm := y_imm) (y_old := y_old) (y_ports := y_ports) (y_place := y_place)) (by omega : n < 2 ^ 30) hk s0 y_cursor
    have ynm : ∀ post : Int32 → SY → Prop, post 1 v' → wpY_step post (size, eip, flags, (ar_cz paging), cr2, cr3, cr4, cr5, cpl, state, pending, deliveries, lastVector, lastError, portTotal, y_fault, y_faultError, y_startEip, y_cursor, y_op, y_mod, y_reg, y_rm, y_address, y_imm, (ar_ym memory), general, y_old, y_ports, y_place) := fun post hp => yk post (zY post hp)
    obtain ⟨r, u2, v2, n2, ⟨hn2, hr2⟩, wX, wY⟩ := ih (i + 1) n1 u' v' (by omega) (by omega) hr
    refine ⟨r, u2, v2, n2, ⟨by omega, hr2⟩, fun post hp => ?_, fun post hp => ?_⟩
    · obtain ⟨N, hN⟩ := wX post hp
      have k72 := zX post (wX_run_17 post (nI B) N) (nI B) (nI i) (by rw [nI_1]; exact hN)
      exact ⟨N + 1, xk post N (br_f s2 (br_f s1 k72))⟩
    · obtain ⟨N, hN⟩ := wY post hp
      exact ⟨N + 1, br_f hnle (br_f s2 (ynm _ (rn_y post (nI B) (nI i) N v' (by rw [nI_1]; exact hN))))⟩
theorem rn_run {n : Nat} {u : SX} {v : SY} (h : rl n u v) (hn : n + 200 < 2 ^ 30) (p : Int32) :
    ∃ (r : Int32) (u' : SX) (v' : SY) (n' : Nat), (n' ≤ n + 200 ∧ rl n' u' v') ∧ (∀ post : Int32 → SX → Prop, post r u' → wpX_run post u p) ∧ (∀ post : Int32 → SY → Prop, post r v' → wpY_run post v p) := by
  have h0 := h
  obtain ⟨size, eip, flags, paging, cr2, cr3, cr4, cr5, cpl, state, pending, deliveries, lastVector, lastError, portTotal, portKept, nxt, returnTo, raised, raisedError, directoryAt, tableAt, code, form, width, mod, regField, rm, linear, immediate, operand, memory, general, ports, mapped, words, y_eip, y_fault, y_faultError, y_startEip, y_cursor, y_op, y_mod, y_reg, y_rm, y_address, y_imm, y_old, y_ports, y_place, rfl, rfl, hk⟩ := h
  by_cases hp : p < 0
  · have p200 : p ≤ 200 := by rw [Int32.le_iff_toInt_le]; rw [Int32.lt_iff_toInt_lt] at hp; have e : (0 : Int32).toInt = 0 := by decide
                              have e2 : (200 : Int32).toInt = 200 := by decide
                              omega
    have p0 : p ≤ 0 := Int32.le_of_lt hp
    exact ⟨0, _, _, n, ⟨by omega, h0⟩, fun post h => br_t p200 ⟨1, br_t p0 h⟩, fun post h => br_f (Int32.not_le.mpr hp) ⟨1, br_t (by decide) h⟩⟩
  obtain ⟨j, hj, rfl⟩ := nI_of hp
  have hpos : 0 ≤ nI j := nI_pos' hj
  by_cases h200 : j ≤ 200
  · have hle : nI j ≤ 200 := nI_le (b := 200) h200 (by omega)
    obtain ⟨r, u', v', n', ⟨hn', hr⟩, zX, zY⟩ := rn_loop h200 j 0 n _ _ (by omega) (by omega) h0
    exact ⟨r, u', v', n', ⟨by omega, hr⟩, fun post h => br_t hle (zX post h), fun post h => br_t hpos (br_t hle (zY post h))⟩
  · have hle : ¬ nI j ≤ 200 := nI_ge (a := 200) (by omega) (by omega)
    obtain ⟨r, u', v', n', ⟨hn', hr⟩, zX, zY⟩ := rn_loop (B := 200) (by omega) 200 0 n _ _ (by omega) (by omega) h0
    exact ⟨r, u', v', n', ⟨by omega, hr⟩, fun post h => br_f hle (zX post h), fun post h => br_t hpos (br_f hle (zY post h))⟩
