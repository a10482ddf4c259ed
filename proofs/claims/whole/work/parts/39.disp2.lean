/-! dispatch by form -/
theorem dp_none (f : Nat) (hf : f < 45) (h0 : ¬ nI f = 0) (h1 : ¬ (f = 1 ∨ f = 2 ∨ f = 4 ∨ f = 5 ∨ f = 8 ∨ f = 13 ∨ f = 15 ∨ f = 16 ∨ f = 18 ∨ f = 19 ∨ f = 20 ∨ f = 21 ∨ f = 41 ∨ f = 42 ∨ f = 43 ∨ f = 44)) (h2 : ¬ (nI f = 7 ∨ nI f = 9 ∨ nI f = 10 ∨ nI f = 11 ∨ nI f = 12 ∨ nI f = 24 ∨ nI f = 28 ∨ nI f = 30)) : (f = 3 ∨ f = 6 ∨ f = 14 ∨ f = 17 ∨ f = 22) ∨ (f = 23 ∨ f = 25 ∨ f = 26 ∨ f = 27 ∨ f = 29) ∨ (f = 31 ∨ f = 32 ∨ f = 33 ∨ f = 34 ∨ f = 35) ∨ (f = 36 ∨ f = 37 ∨ f = 38 ∨ f = 39 ∨ f = 40) := by
  have a0 : f ≠ 0 := fun e => h0 (by rw [e]; rfl)
  have a7 : f ≠ 7 := fun e => h2 (Or.inl (by rw [e]; rfl))
  have a9 : f ≠ 9 := fun e => h2 (Or.inr (Or.inl (by rw [e]; rfl)))
  have a10 : f ≠ 10 := fun e => h2 (Or.inr (Or.inr (Or.inl (by rw [e]; rfl))))
  have a11 : f ≠ 11 := fun e => h2 (Or.inr (Or.inr (Or.inr (Or.inl (by rw [e]; rfl)))))
  have a12 : f ≠ 12 := fun e => h2 (Or.inr (Or.inr (Or.inr (Or.inr (Or.inl (by rw [e]; rfl))))))
  have a24 : f ≠ 24 := fun e => h2 (Or.inr (Or.inr (Or.inr (Or.inr (Or.inr (Or.inl (by rw [e]; rfl)))))))
  have a28 : f ≠ 28 := fun e => h2 (Or.inr (Or.inr (Or.inr (Or.inr (Or.inr (Or.inr (Or.inl (by rw [e]; rfl))))))))
  have a30 : f ≠ 30 := fun e => h2 (Or.inr (Or.inr (Or.inr (Or.inr (Or.inr (Or.inr (Or.inr (by rw [e]; rfl))))))))
  clear h0 h2
  omega
section
variable {size eip flags paging cr2 cr3 cr4 cr5 cpl state pending deliveries lastVector lastError portTotal portKept nxt returnTo raised raisedError directoryAt tableAt code form width mod regField rm linear immediate operand : Int32} {memory general ports mapped words : Nat → Int32} {y_eip y_fault y_faultError y_startEip y_cursor y_op y_mod y_reg y_rm y_address y_imm : Int32} {y_old y_ports : Nat → Int32} {y_place : Nat → Int64}
theorem dp_no (hok : mm_ok size cr3) (hf : fl_ok flags) (hcp : cpl = 0 ∨ cpl = 3) (hst : state = 0) (hc4 : sy_c4 cr4) {n0 : Nat} (hP : sy_P portTotal portKept ports y_ports n0) (hn0 : n0 < 2 ^ 30)
    {n : Nat} (hn : n < 768) (hF0 : ¬ tb_formOf (nI n) = 0) (hA : tb_allowedRegFields (tb_formOf (nI n)) = 0) (hfm : form = tb_formOf (nI n)) (hw : width = dc_width (nI n)) (hm : mod = 3) (hcd : code = nI n) (hop : y_op = nI n) (him : y_imm = immediate) (hrep : 512 ≤ n → nxt = eip + 1 + 1) :     (∃ (F nx oper cpl1 st1 pg1 c2 c3 c4 c5 pt pk : Int32) (n1 : Nat) (m' g' mp' wd' po ypo : Nat → Int32) (dA tA : Int32) (pl' : Nat → Int64), (fl_ok F ∧ (cpl1 = 0 ∨ cpl1 = 3) ∧ (st1 = 0 ∨ st1 = 1) ∧ mm_ok size c3 ∧ sy_c4 c4 ∧ sy_P pt pk po ypo n1 ∧ n1 ≤ n0 + 1) ∧
      (∀ (post : Int32 → SX → Prop) (J : Int32 → Int32 → Int32 → Int32 → Int32 → Int32 → Int32 → Int32 → Int32 → Int32 → Int32 → Int32 → Int32 → Int32 → Int32 → Int32 → Int32 → Int32 → Int32 → Int32 → Int32 → Int32 → Int32 → Int32 → Int32 → Int32 → Int32 → Int32 → Int32 → Int32 → Int32 → Int32 → (Nat → Int32) → (Nat → Int32) → (Nat → Int32) → (Nat → Int32) → (Nat → Int32) → Prop) (x2 x3 : Int32), wX_run_164 post J x2 x3 size eip F pg1 c2 c3 c4 c5 cpl1 st1 pending deliveries lastVector lastError pt pk nx returnTo (-1) raisedError dA tA code form width mod regField rm linear immediate oper m' g' po mp' wd' → wX_run_128 post J x2 x3 size eip flags paging cr2 cr3 cr4 cr5 cpl state pending deliveries lastVector lastError portTotal portKept nxt returnTo (-1) raisedError directoryAt tableAt code form width mod regField rm linear immediate operand memory general ports mapped words) ∧
      (∀ post : SY → Prop, post (size, nx, F, ar_cz pg1, c2, c3, c4, c5, cpl1, st1, pending, deliveries, lastVector, lastError, pt, -1, y_faultError, y_startEip, nxt, y_op, y_mod, y_reg, y_rm, y_address, y_imm, ar_ym m', g', y_old, ypo, pl') → wpY_execute post (size, y_eip, flags, (ar_cz paging), cr2, cr3, cr4, cr5, cpl, state, pending, deliveries, lastVector, lastError, portTotal, -1, y_faultError, y_startEip, nxt, y_op, y_mod, y_reg, y_rm, y_address, y_imm, (ar_ym memory), general, y_old, y_ports, y_place))) ∨
    (∃ (v er cr oper yf ye : Int32) (m' mp' wd' yg : Nat → Int32) (dA tA : Int32) (pl' : Nat → Int64), (((v = 14 ∧ 0 ≤ er) ∨ (v = 0 ∧ er = -1) ∨ (v = 13 ∧ 0 ≤ er)) ∧ (∀ j : Nat, 8 ≤ j → yg j = general j)) ∧
      (∀ (post : Int32 → SX → Prop) (J : Int32 → Int32 → Int32 → Int32 → Int32 → Int32 → Int32 → Int32 → Int32 → Int32 → Int32 → Int32 → Int32 → Int32 → Int32 → Int32 → Int32 → Int32 → Int32 → Int32 → Int32 → Int32 → Int32 → Int32 → Int32 → Int32 → Int32 → Int32 → Int32 → Int32 → Int32 → Int32 → (Nat → Int32) → (Nat → Int32) → (Nat → Int32) → (Nat → Int32) → (Nat → Int32) → Prop) (x2 x3 : Int32), wX_run_164 post J x2 x3 size eip flags paging cr cr3 cr4 cr5 cpl state pending deliveries lastVector lastError portTotal portKept nxt returnTo v er dA tA code form width mod regField rm linear immediate oper m' general ports mp' wd' → wX_run_128 post J x2 x3 size eip flags paging cr2 cr3 cr4 cr5 cpl state pending deliveries lastVector lastError portTotal portKept nxt returnTo (-1) raisedError directoryAt tableAt code form width mod regField rm linear immediate operand memory general ports mapped words) ∧
      (∀ post : SY → Prop, post (size, ye, yf, (ar_cz paging), cr, cr3, cr4, cr5, cpl, state, pending, deliveries, lastVector, lastError, portTotal, v, er, y_startEip, nxt, y_op, y_mod, y_reg, y_rm, y_address, y_imm, ar_ym m', yg, y_old, y_ports, pl') → wpY_execute post (size, y_eip, flags, (ar_cz paging), cr2, cr3, cr4, cr5, cpl, state, pending, deliveries, lastVector, lastError, portTotal, -1, y_faultError, y_startEip, nxt, y_op, y_mod, y_reg, y_rm, y_address, y_imm, (ar_ym memory), general, y_old, y_ports, y_place))) ∨
    (∃ (k : Nat), k < 256 ∧
      (∀ (post : Int32 → SX → Prop) (J : Int32 → Int32 → Int32 → Int32 → Int32 → Int32 → Int32 → Int32 → Int32 → Int32 → Int32 → Int32 → Int32 → Int32 → Int32 → Int32 → Int32 → Int32 → Int32 → Int32 → Int32 → Int32 → Int32 → Int32 → Int32 → Int32 → Int32 → Int32 → Int32 → Int32 → Int32 → Int32 → (Nat → Int32) → (Nat → Int32) → (Nat → Int32) → (Nat → Int32) → (Nat → Int32) → Prop) (x2 x3 : Int32), wX_run_164 post J x2 x3 size eip flags paging cr2 cr3 cr4 cr5 cpl state pending deliveries lastVector lastError portTotal portKept nxt nxt (nI k) (-1) directoryAt tableAt code form width mod regField rm linear immediate operand memory general ports mapped words → wX_run_128 post J x2 x3 size eip flags paging cr2 cr3 cr4 cr5 cpl state pending deliveries lastVector lastError portTotal portKept nxt returnTo (-1) raisedError directoryAt tableAt code form width mod regField rm linear immediate operand memory general ports mapped words) ∧
      (∀ post : SY → Prop, wpY_deliver post (size, y_startEip, flags, (ar_cz paging), cr2, cr3, cr4, cr5, cpl, state, pending, deliveries, lastVector, lastError, portTotal, -1, y_faultError, y_startEip, nxt, y_op, y_mod, y_reg, y_rm, y_address, y_imm, (ar_ym memory), general, y_old, y_ports, y_place) (nI k) (-1) nxt → wpY_execute post (size, y_eip, flags, (ar_cz paging), cr2, cr3, cr4, cr5, cpl, state, pending, deliveries, lastVector, lastError, portTotal, -1, y_faultError, y_startEip, nxt, y_op, y_mod, y_reg, y_rm, y_address, y_imm, (ar_ym memory), general, y_old, y_ports, y_place))) := by
  obtain ⟨f, hf45, eF⟩ := ds_range n hn
  have nv := ds_never n hn
  rw [eF] at hA hF0 nv
  have hl := dp_none f hf45 hF0 ((ds_none f hf45).mp hA) nv
  have L : (    (∃ (F nx oper : Int32) (m' g' mp' wd' : Nat → Int32) (dA tA : Int32) (pl' : Nat → Int64), fl_ok F ∧
      (∀ (post : Int32 → SX → Prop) (J : Int32 → Int32 → Int32 → Int32 → Int32 → Int32 → Int32 → Int32 → Int32 → Int32 → Int32 → Int32 → Int32 → Int32 → Int32 → Int32 → Int32 → Int32 → Int32 → Int32 → Int32 → Int32 → Int32 → Int32 → Int32 → Int32 → Int32 → Int32 → Int32 → Int32 → Int32 → Int32 → (Nat → Int32) → (Nat → Int32) → (Nat → Int32) → (Nat → Int32) → (Nat → Int32) → Prop) (x2 x3 : Int32), wX_run_164 post J x2 x3 size eip F paging cr2 cr3 cr4 cr5 cpl state pending deliveries lastVector lastError portTotal portKept nx returnTo (-1) raisedError dA tA code form width mod regField rm linear immediate oper m' g' ports mp' wd' → wX_run_128 post J x2 x3 size eip flags paging cr2 cr3 cr4 cr5 cpl state pending deliveries lastVector lastError portTotal portKept nxt returnTo (-1) raisedError directoryAt tableAt code form width mod regField rm linear immediate operand memory general ports mapped words) ∧
      (∀ post : SY → Prop, post (size, nx, F, (ar_cz paging), cr2, cr3, cr4, cr5, cpl, state, pending, deliveries, lastVector, lastError, portTotal, -1, y_faultError, y_startEip, nxt, y_op, y_mod, y_reg, y_rm, y_address, y_imm, ar_ym m', g', y_old, y_ports, pl') → wpY_execute post (size, y_eip, flags, (ar_cz paging), cr2, cr3, cr4, cr5, cpl, state, pending, deliveries, lastVector, lastError, portTotal, -1, y_faultError, y_startEip, nxt, y_op, y_mod, y_reg, y_rm, y_address, y_imm, (ar_ym memory), general, y_old, y_ports, y_place))) ∨
    (∃ (v er cr oper yf ye : Int32) (m' mp' wd' yg : Nat → Int32) (dA tA : Int32) (pl' : Nat → Int64), (((v = 14 ∧ 0 ≤ er) ∨ (v = 0 ∧ er = -1) ∨ (v = 13 ∧ 0 ≤ er)) ∧ (∀ j : Nat, 8 ≤ j → yg j = general j)) ∧
      (∀ (post : Int32 → SX → Prop) (J : Int32 → Int32 → Int32 → Int32 → Int32 → Int32 → Int32 → Int32 → Int32 → Int32 → Int32 → Int32 → Int32 → Int32 → Int32 → Int32 → Int32 → Int32 → Int32 → Int32 → Int32 → Int32 → Int32 → Int32 → Int32 → Int32 → Int32 → Int32 → Int32 → Int32 → Int32 → Int32 → (Nat → Int32) → (Nat → Int32) → (Nat → Int32) → (Nat → Int32) → (Nat → Int32) → Prop) (x2 x3 : Int32), wX_run_164 post J x2 x3 size eip flags paging cr cr3 cr4 cr5 cpl state pending deliveries lastVector lastError portTotal portKept nxt returnTo v er dA tA code form width mod regField rm linear immediate oper m' general ports mp' wd' → wX_run_128 post J x2 x3 size eip flags paging cr2 cr3 cr4 cr5 cpl state pending deliveries lastVector lastError portTotal portKept nxt returnTo (-1) raisedError directoryAt tableAt code form width mod regField rm linear immediate operand memory general ports mapped words) ∧
      (∀ post : SY → Prop, post (size, ye, yf, (ar_cz paging), cr, cr3, cr4, cr5, cpl, state, pending, deliveries, lastVector, lastError, portTotal, v, er, y_startEip, nxt, y_op, y_mod, y_reg, y_rm, y_address, y_imm, ar_ym m', yg, y_old, y_ports, pl') → wpY_execute post (size, y_eip, flags, (ar_cz paging), cr2, cr3, cr4, cr5, cpl, state, pending, deliveries, lastVector, lastError, portTotal, -1, y_faultError, y_startEip, nxt, y_op, y_mod, y_reg, y_rm, y_address, y_imm, (ar_ym memory), general, y_old, y_ports, y_place)))) →     (∃ (F nx oper cpl1 st1 pg1 c2 c3 c4 c5 pt pk : Int32) (n1 : Nat) (m' g' mp' wd' po ypo : Nat → Int32) (dA tA : Int32) (pl' : Nat → Int64), (fl_ok F ∧ (cpl1 = 0 ∨ cpl1 = 3) ∧ (st1 = 0 ∨ st1 = 1) ∧ mm_ok size c3 ∧ sy_c4 c4 ∧ sy_P pt pk po ypo n1 ∧ n1 ≤ n0 + 1) ∧
      (∀ (post : Int32 → SX → Prop) (J : Int32 → Int32 → Int32 → Int32 → Int32 → Int32 → Int32 → Int32 → Int32 → Int32 → Int32 → Int32 → Int32 → Int32 → Int32 → Int32 → Int32 → Int32 → Int32 → Int32 → Int32 → Int32 → Int32 → Int32 → Int32 → Int32 → Int32 → Int32 → Int32 → Int32 → Int32 → Int32 → (Nat → Int32) → (Nat → Int32) → (Nat → Int32) → (Nat → Int32) → (Nat → Int32) → Prop) (x2 x3 : Int32), wX_run_164 post J x2 x3 size eip F pg1 c2 c3 c4 c5 cpl1 st1 pending deliveries lastVector lastError pt pk nx returnTo (-1) raisedError dA tA code form width mod regField rm linear immediate oper m' g' po mp' wd' → wX_run_128 post J x2 x3 size eip flags paging cr2 cr3 cr4 cr5 cpl state pending deliveries lastVector lastError portTotal portKept nxt returnTo (-1) raisedError directoryAt tableAt code form width mod regField rm linear immediate operand memory general ports mapped words) ∧
      (∀ post : SY → Prop, post (size, nx, F, ar_cz pg1, c2, c3, c4, c5, cpl1, st1, pending, deliveries, lastVector, lastError, pt, -1, y_faultError, y_startEip, nxt, y_op, y_mod, y_reg, y_rm, y_address, y_imm, ar_ym m', g', y_old, ypo, pl') → wpY_execute post (size, y_eip, flags, (ar_cz paging), cr2, cr3, cr4, cr5, cpl, state, pending, deliveries, lastVector, lastError, portTotal, -1, y_faultError, y_startEip, nxt, y_op, y_mod, y_reg, y_rm, y_address, y_imm, (ar_ym memory), general, y_old, y_ports, y_place))) ∨
    (∃ (v er cr oper yf ye : Int32) (m' mp' wd' yg : Nat → Int32) (dA tA : Int32) (pl' : Nat → Int64), (((v = 14 ∧ 0 ≤ er) ∨ (v = 0 ∧ er = -1) ∨ (v = 13 ∧ 0 ≤ er)) ∧ (∀ j : Nat, 8 ≤ j → yg j = general j)) ∧
      (∀ (post : Int32 → SX → Prop) (J : Int32 → Int32 → Int32 → Int32 → Int32 → Int32 → Int32 → Int32 → Int32 → Int32 → Int32 → Int32 → Int32 → Int32 → Int32 → Int32 → Int32 → Int32 → Int32 → Int32 → Int32 → Int32 → Int32 → Int32 → Int32 → Int32 → Int32 → Int32 → Int32 → Int32 → Int32 → Int32 → (Nat → Int32) → (Nat → Int32) → (Nat → Int32) → (Nat → Int32) → (Nat → Int32) → Prop) (x2 x3 : Int32), wX_run_164 post J x2 x3 size eip flags paging cr cr3 cr4 cr5 cpl state pending deliveries lastVector lastError portTotal portKept nxt returnTo v er dA tA code form width mod regField rm linear immediate oper m' general ports mp' wd' → wX_run_128 post J x2 x3 size eip flags paging cr2 cr3 cr4 cr5 cpl state pending deliveries lastVector lastError portTotal portKept nxt returnTo (-1) raisedError directoryAt tableAt code form width mod regField rm linear immediate operand memory general ports mapped words) ∧
      (∀ post : SY → Prop, post (size, ye, yf, (ar_cz paging), cr, cr3, cr4, cr5, cpl, state, pending, deliveries, lastVector, lastError, portTotal, v, er, y_startEip, nxt, y_op, y_mod, y_reg, y_rm, y_address, y_imm, ar_ym m', yg, y_old, y_ports, pl') → wpY_execute post (size, y_eip, flags, (ar_cz paging), cr2, cr3, cr4, cr5, cpl, state, pending, deliveries, lastVector, lastError, portTotal, -1, y_faultError, y_startEip, nxt, y_op, y_mod, y_reg, y_rm, y_address, y_imm, (ar_ym memory), general, y_old, y_ports, y_place))) ∨
    (∃ (k : Nat), k < 256 ∧
      (∀ (post : Int32 → SX → Prop) (J : Int32 → Int32 → Int32 → Int32 → Int32 → Int32 → Int32 → Int32 → Int32 → Int32 → Int32 → Int32 → Int32 → Int32 → Int32 → Int32 → Int32 → Int32 → Int32 → Int32 → Int32 → Int32 → Int32 → Int32 → Int32 → Int32 → Int32 → Int32 → Int32 → Int32 → Int32 → Int32 → (Nat → Int32) → (Nat → Int32) → (Nat → Int32) → (Nat → Int32) → (Nat → Int32) → Prop) (x2 x3 : Int32), wX_run_164 post J x2 x3 size eip flags paging cr2 cr3 cr4 cr5 cpl state pending deliveries lastVector lastError portTotal portKept nxt nxt (nI k) (-1) directoryAt tableAt code form width mod regField rm linear immediate operand memory general ports mapped words → wX_run_128 post J x2 x3 size eip flags paging cr2 cr3 cr4 cr5 cpl state pending deliveries lastVector lastError portTotal portKept nxt returnTo (-1) raisedError directoryAt tableAt code form width mod regField rm linear immediate operand memory general ports mapped words) ∧
      (∀ post : SY → Prop, wpY_deliver post (size, y_startEip, flags, (ar_cz paging), cr2, cr3, cr4, cr5, cpl, state, pending, deliveries, lastVector, lastError, portTotal, -1, y_faultError, y_startEip, nxt, y_op, y_mod, y_reg, y_rm, y_address, y_imm, (ar_ym memory), general, y_old, y_ports, y_place) (nI k) (-1) nxt → wpY_execute post (size, y_eip, flags, (ar_cz paging), cr2, cr3, cr4, cr5, cpl, state, pending, deliveries, lastVector, lastError, portTotal, -1, y_faultError, y_startEip, nxt, y_op, y_mod, y_reg, y_rm, y_address, y_imm, (ar_ym memory), general, y_old, y_ports, y_place))) := fun h => (ds_lift (size := size) (eip := eip) (flags := flags) (paging := paging) (cr2 := cr2) (cr3 := cr3) (cr4 := cr4) (cr5 := cr5) (cpl := cpl) (state := state) (pending := pending) (deliveries := deliveries) (lastVector := lastVector) (lastError := lastError) (portTotal := portTotal) (portKept := portKept) (nxt := nxt) (returnTo := returnTo) (raisedError := raisedError) (directoryAt := directoryAt) (tableAt := tableAt) (code := code) (form := form) (width := width) (mod := mod) (regField := regField) (rm := rm) (linear := linear) (immediate := immediate) (operand := operand) (memory := memory) (general := general) (ports := ports) (mapped := mapped) (words := words) (y_eip := y_eip) (y_faultError := y_faultError) (y_startEip := y_startEip) (y_op := y_op) (y_mod := y_mod) (y_reg := y_reg) (y_rm := y_rm) (y_address := y_address) (y_imm := y_imm) (y_old := y_old) (y_ports := y_ports) (y_place := y_place)) hok hcp hst hc4 hP h
  subst hw hcd hop him
  rcases hl with (e | e | e | e | e) | (e | e | e | e | e) | (e | e | e | e | e) | (e | e | e | e | e) <;> subst e
  · have F : tb_formOf (nI n) = 3 := eF
    have hform := hfm.trans F
    subst hform
    obtain ⟨⟨a, b⟩, ⟨k, hk, ek⟩, c⟩ := ds_3 n hn F
    rcases c with ⟨c, w⟩ | ⟨c, w⟩
    · rw [w] at L ⊢; exact L (ex_3 hf (Or.inr rfl) hk hm rfl rfl a b ek (Or.inl ⟨c, rfl⟩))
    · rw [w] at L ⊢; exact L (ex_3 hf (Or.inl rfl) hk hm rfl rfl a b ek (Or.inr ⟨c, rfl⟩))
  · have F : tb_formOf (nI n) = 6 := eF
    have hform := hfm.trans F
    subst hform
    obtain ⟨⟨a, b, w⟩, ⟨j, hj, ej⟩, c⟩ := ds_6 n hn F
    rw [w] at L ⊢
    exact L (ex_6 hf hj hm rfl ej a b c)
  · have F : tb_formOf (nI n) = 14 := eF
    have hform := hfm.trans F
    subst hform
    have e := ds_14 n hn F
    subst e
    exact L (ex_14 hf hm rfl)
  · have F : tb_formOf (nI n) = 17 := eF
    have hform := hfm.trans F
    subst hform
    obtain ⟨⟨a, b⟩, ⟨j, hj, ej⟩, c⟩ := ds_17 n hn F
    rcases c with ⟨c, w⟩ | ⟨c, w⟩
    · rw [w] at L ⊢; exact L (ex_17 hf hj hm rfl rfl ej a b (Or.inl ⟨c, rfl⟩))
    · rw [w] at L ⊢; exact L (ex_17 hf hj hm rfl rfl ej a b (Or.inr ⟨c, rfl⟩))
  · have F : tb_formOf (nI n) = 22 := eF
    have hform := hfm.trans F
    subst hform
    obtain ⟨⟨a, b, c⟩, ⟨j, hj, ej⟩⟩ := ds_22 n hn F
    exact L (ex_22 hok hf hj hm rfl ej a b c)
  · have F : tb_formOf (nI n) = 23 := eF
    have hform := hfm.trans F
    subst hform
    rcases ds_23 n hn F with e | e <;> subst e
    · exact L (ex_23 hok hf hm rfl (Or.inl rfl))
    · exact L (ex_23 hok hf hm rfl (Or.inr rfl))
  · have F : tb_formOf (nI n) = 25 := eF
    have hform := hfm.trans F
    subst hform
    obtain ⟨⟨a, b, c⟩, ⟨j, hj, ej⟩⟩ := ds_25 n hn F
    exact L (ex_25 hok hf hj hm rfl ej a b c)
  · have F : tb_formOf (nI n) = 26 := eF
    have hform := hfm.trans F
    subst hform
    obtain ⟨j, hj, e⟩ := ds_26 n hn F
    rcases e with e | e <;> subst e
    · exact L (ex_26 hf hj hm rfl rfl (Or.inl rfl))
    · exact L (ex_26 hf hj hm rfl rfl (Or.inr rfl))
  · have F : tb_formOf (nI n) = 27 := eF
    have hform := hfm.trans F
    subst hform
    rcases ds_27 n hn F with e | e <;> subst e
    · exact L (ex_27 hf hm rfl (Or.inl rfl))
    · exact L (ex_27 hf hm rfl (Or.inr rfl))
  · have F : tb_formOf (nI n) = 29 := eF
    have hform := hfm.trans F
    subst hform
    have e := ds_29 n hn F
    subst e
    exact L (ex_29 hok hf hm rfl rfl)
  · have F : tb_formOf (nI n) = 31 := eF
    have hform := hfm.trans F
    subst hform
    have e := ds_31 n hn F
    subst e
    exact L (ex_31 hok hf hm rfl)
  · have F : tb_formOf (nI n) = 32 := eF
    have hform := hfm.trans F
    subst hform
    rcases ds_32 n hn F with e | e <;> subst e
    · exact ex_32 hok hc4 hm rfl rfl (Or.inl rfl)
    · exact ex_32 hok hc4 hm rfl rfl (Or.inr rfl)
  · have F : tb_formOf (nI n) = 33 := eF
    have hform := hfm.trans F
    subst hform
    have e := ds_33 n hn F
    subst e
    exact ex_33 hok hst hc4 hP hm rfl
  · have F : tb_formOf (nI n) = 34 := eF
    have hform := hfm.trans F
    subst hform
    rcases ds_34 n hn F with e | e <;> subst e
    · exact L (ex_34a hok hf hm rfl rfl)
    · exact L (ex_34b hok hf hm rfl rfl (hrep (by omega)))
  · have F : tb_formOf (nI n) = 35 := eF
    have hform := hfm.trans F
    subst hform
    rcases ds_35 n hn F with e | e <;> subst e
    · exact L (ex_35a hok hf hm rfl rfl)
    · exact L (ex_35b hok hf hm rfl rfl (hrep (by omega)))
  · have F : tb_formOf (nI n) = 36 := eF
    have hform := hfm.trans F
    subst hform
    have e := ds_36 n hn F
    subst e
    exact L (ex_36 hf hm rfl)
  · have F : tb_formOf (nI n) = 37 := eF
    have hform := hfm.trans F
    subst hform
    rcases ds_37 n hn (Or.inl F) with e | e | e | e | e | e | e <;> subst e
    · exact L (ex_37 hf hm rfl (Or.inl rfl) (Or.inl rfl))
    · exact L (ex_37 hf hm rfl (Or.inr (Or.inl rfl)) (Or.inl rfl))
    · exact L (ex_37 hf hm rfl (Or.inr (Or.inr (Or.inl rfl))) (Or.inl rfl))
    · exact L (ex_37 hf hm rfl (Or.inr (Or.inr (Or.inr (Or.inl rfl)))) (Or.inl rfl))
    · exact L (ex_37 hf hm rfl (Or.inr (Or.inr (Or.inr (Or.inr (Or.inl rfl))))) (Or.inl rfl))
    · exact L (ex_37 hf hm rfl (Or.inr (Or.inr (Or.inr (Or.inr (Or.inr (Or.inl rfl)))))) (Or.inl rfl))
    · exact L (ex_37 hf hm rfl (Or.inr (Or.inr (Or.inr (Or.inr (Or.inr (Or.inr rfl)))))) (Or.inl rfl))
  · have F : tb_formOf (nI n) = 38 := eF
    have hform := hfm.trans F
    subst hform
    rcases ds_37 n hn (Or.inr F) with e | e | e | e | e | e | e <;> subst e
    · exact L (ex_37 hf hm rfl (Or.inl rfl) (Or.inr rfl))
    · exact L (ex_37 hf hm rfl (Or.inr (Or.inl rfl)) (Or.inr rfl))
    · exact L (ex_37 hf hm rfl (Or.inr (Or.inr (Or.inl rfl))) (Or.inr rfl))
    · exact L (ex_37 hf hm rfl (Or.inr (Or.inr (Or.inr (Or.inl rfl)))) (Or.inr rfl))
    · exact L (ex_37 hf hm rfl (Or.inr (Or.inr (Or.inr (Or.inr (Or.inl rfl))))) (Or.inr rfl))
    · exact L (ex_37 hf hm rfl (Or.inr (Or.inr (Or.inr (Or.inr (Or.inr (Or.inl rfl)))))) (Or.inr rfl))
    · exact L (ex_37 hf hm rfl (Or.inr (Or.inr (Or.inr (Or.inr (Or.inr (Or.inr rfl)))))) (Or.inr rfl))
  · have F : tb_formOf (nI n) = 39 := eF
    have hform := hfm.trans F
    subst hform
    have e := ds_39 n hn F
    subst e
    exact ex_39 hok hf hcp hst hc4 hP hn0 hm rfl rfl
  · have F : tb_formOf (nI n) = 40 := eF
    have hform := hfm.trans F
    subst hform
    have e := ds_40 n hn F
    subst e
    exact ex_40 hok hf hcp hc4 hP hm rfl
end
