/-! dispatch by form, with ModRM -/
theorem dp_mem (f r : Int32) (h1 : ¬ f = 43) (h2 : ¬ f = 44) : tb_memberOf f r = f := by
  unfold tb_memberOf
  rw [if_neg h1, if_neg h2]
section
variable {size eip flags paging cr2 cr3 cr4 cr5 cpl state pending deliveries lastVector lastError portTotal portKept nxt returnTo raised raisedError directoryAt tableAt code form width mod regField rm linear immediate operand : Int32} {memory general ports mapped words : Nat → Int32} {y_eip y_fault y_faultError y_startEip y_cursor y_op y_mod y_reg y_rm y_address y_imm : Int32} {y_old y_ports : Nat → Int32} {y_place : Nat → Int64}
theorem dp_mod (hok : mm_ok size cr3) (hf : fl_ok flags) (hcp : cpl = 0 ∨ cpl = 3) (hst : state = 0) (hc4 : sy_c4 cr4) {n0 : Nat} (hP : sy_P portTotal portKept ports y_ports n0)
    {n m k q : Nat} (hn : n < 768) (hA : ¬ tb_allowedRegFields (tb_formOf (nI n)) = 0) (hm4 : m < 4) (hk : k < 8) (hq : q < 8) (emd : mod = nI m) (erg : regField = nI k) (erm : rm = nI q) (eym : y_mod = nI m) (eyr : y_reg = nI k) (eyrm : y_rm = nI q)
    (hfm : form = tb_memberOf (tb_formOf (nI n)) (nI k)) (hbad : ¬ dc_bad (tb_formOf (nI n)) (tb_allowedRegFields (tb_formOf (nI n))) (nI m) (nI k)) (hla : ¬ m = 3 → linear = y_address) (hw : width = dc_width (nI n)) (hcd : code = nI n) (hop : y_op = nI n) (him : y_imm = immediate) :     (∃ (F nx oper cpl1 st1 pg1 c2 c3 c4 c5 pt pk : Int32) (n1 : Nat) (m' g' mp' wd' po ypo : Nat → Int32) (dA tA : Int32) (pl' : Nat → Int64), (fl_ok F ∧ (cpl1 = 0 ∨ cpl1 = 3) ∧ (st1 = 0 ∨ st1 = 1) ∧ mm_ok size c3 ∧ sy_c4 c4 ∧ sy_P pt pk po ypo n1 ∧ n1 ≤ n0 + 1) ∧
      (∀ (post : Int32 → SX → Prop) (J : Int32 → Int32 → Int32 → Int32 → Int32 → Int32 → Int32 → Int32 → Int32 → Int32 → Int32 → Int32 → Int32 → Int32 → Int32 → Int32 → Int32 → Int32 → Int32 → Int32 → Int32 → Int32 → Int32 → Int32 → Int32 → Int32 → Int32 → Int32 → Int32 → Int32 → Int32 → Int32 → (Nat → Int32) → (Nat → Int32) → (Nat → Int32) → (Nat → Int32) → (Nat → Int32) → Prop) (x2 x3 : Int32), wX_run_164 post J x2 x3 size eip F pg1 c2 c3 c4 c5 cpl1 st1 pending deliveries lastVector lastError pt pk nx returnTo (-1) raisedError dA tA code form width mod regField rm linear immediate oper m' g' po mp' wd' → wX_run_128 post J x2 x3 size eip flags paging cr2 cr3 cr4 cr5 cpl state pending deliveries lastVector lastError portTotal portKept nxt returnTo (-1) raisedError directoryAt tableAt code form width mod regField rm linear immediate operand memory general ports mapped words) ∧
      (∀ post : SY → Prop, post (size, nx, F, ar_cz pg1, c2, c3, c4, c5, cpl1, st1, pending, deliveries, lastVector, lastError, pt, -1, y_faultError, y_startEip, nxt, y_op, y_mod, y_reg, y_rm, y_address, y_imm, ar_ym m', g', y_old, ypo, pl') → wpY_execute post (size, y_eip, flags, (ar_cz paging), cr2, cr3, cr4, cr5, cpl, state, pending, deliveries, lastVector, lastError, portTotal, -1, y_faultError, y_startEip, nxt, y_op, y_mod, y_reg, y_rm, y_address, y_imm, (ar_ym memory), general, y_old, y_ports, y_place))) ∨
    (∃ (v er cr oper yf ye : Int32) (m' mp' wd' yg : Nat → Int32) (dA tA : Int32) (pl' : Nat → Int64), (((v = 14 ∧ 0 ≤ er) ∨ (v = 0 ∧ er = -1) ∨ (v = 13 ∧ 0 ≤ er)) ∧ (∀ j : Nat, 8 ≤ j → yg j = general j)) ∧
      (∀ (post : Int32 → SX → Prop) (J : Int32 → Int32 → Int32 → Int32 → Int32 → Int32 → Int32 → Int32 → Int32 → Int32 → Int32 → Int32 → Int32 → Int32 → Int32 → Int32 → Int32 → Int32 → Int32 → Int32 → Int32 → Int32 → Int32 → Int32 → Int32 → Int32 → Int32 → Int32 → Int32 → Int32 → Int32 → Int32 → (Nat → Int32) → (Nat → Int32) → (Nat → Int32) → (Nat → Int32) → (Nat → Int32) → Prop) (x2 x3 : Int32), wX_run_164 post J x2 x3 size eip flags paging cr cr3 cr4 cr5 cpl state pending deliveries lastVector lastError portTotal portKept nxt returnTo v er dA tA code form width mod regField rm linear immediate oper m' general ports mp' wd' → wX_run_128 post J x2 x3 size eip flags paging cr2 cr3 cr4 cr5 cpl state pending deliveries lastVector lastError portTotal portKept nxt returnTo (-1) raisedError directoryAt tableAt code form width mod regField rm linear immediate operand memory general ports mapped words) ∧
      (∀ post : SY → Prop, post (size, ye, yf, (ar_cz paging), cr, cr3, cr4, cr5, cpl, state, pending, deliveries, lastVector, lastError, portTotal, v, er, y_startEip, nxt, y_op, y_mod, y_reg, y_rm, y_address, y_imm, ar_ym m', yg, y_old, y_ports, pl') → wpY_execute post (size, y_eip, flags, (ar_cz paging), cr2, cr3, cr4, cr5, cpl, state, pending, deliveries, lastVector, lastError, portTotal, -1, y_faultError, y_startEip, nxt, y_op, y_mod, y_reg, y_rm, y_address, y_imm, (ar_ym memory), general, y_old, y_ports, y_place))) ∨
    (∃ (k : Nat), k < 256 ∧
      (∀ (post : Int32 → SX → Prop) (J : Int32 → Int32 → Int32 → Int32 → Int32 → Int32 → Int32 → Int32 → Int32 → Int32 → Int32 → Int32 → Int32 → Int32 → Int32 → Int32 → Int32 → Int32 → Int32 → Int32 → Int32 → Int32 → Int32 → Int32 → Int32 → Int32 → Int32 → Int32 → Int32 → Int32 → Int32 → Int32 → (Nat → Int32) → (Nat → Int32) → (Nat → Int32) → (Nat → Int32) → (Nat → Int32) → Prop) (x2 x3 : Int32), wX_run_164 post J x2 x3 size eip flags paging cr2 cr3 cr4 cr5 cpl state pending deliveries lastVector lastError portTotal portKept nxt nxt (nI k) (-1) directoryAt tableAt code form width mod regField rm linear immediate operand memory general ports mapped words → wX_run_128 post J x2 x3 size eip flags paging cr2 cr3 cr4 cr5 cpl state pending deliveries lastVector lastError portTotal portKept nxt returnTo (-1) raisedError directoryAt tableAt code form width mod regField rm linear immediate operand memory general ports mapped words) ∧
      (∀ post : SY → Prop, wpY_deliver post (size, y_startEip, flags, (ar_cz paging), cr2, cr3, cr4, cr5, cpl, state, pending, deliveries, lastVector, lastError, portTotal, -1, y_faultError, y_startEip, nxt, y_op, y_mod, y_reg, y_rm, y_address, y_imm, (ar_ym memory), general, y_old, y_ports, y_place) (nI k) (-1) nxt → wpY_execute post (size, y_eip, flags, (ar_cz paging), cr2, cr3, cr4, cr5, cpl, state, pending, deliveries, lastVector, lastError, portTotal, -1, y_faultError, y_startEip, nxt, y_op, y_mod, y_reg, y_rm, y_address, y_imm, (ar_ym memory), general, y_old, y_ports, y_place))) := by
  obtain ⟨f, hf45, eF⟩ := ds_range n hn
  rw [eF] at hA hfm hbad
  have hl : f = 1 ∨ f = 2 ∨ f = 4 ∨ f = 5 ∨ f = 8 ∨ f = 13 ∨ f = 15 ∨ f = 16 ∨ f = 18 ∨ f = 19 ∨ f = 20 ∨ f = 21 ∨ f = 41 ∨ f = 42 ∨ f = 43 ∨ f = 44 := by
    refine Classical.byContradiction (fun w => ?_)
    exact hA ((ds_none f hf45).mpr w)
  have L : (    (∃ (F nx oper : Int32) (m' g' mp' wd' : Nat → Int32) (dA tA : Int32) (pl' : Nat → Int64), fl_ok F ∧
      (∀ (post : Int32 → SX → Prop) (J : Int32 → Int32 → Int32 → Int32 → Int32 → Int32 → Int32 → Int32 → Int32 → Int32 → Int32 → Int32 → Int32 → Int32 → Int32 → Int32 → Int32 → Int32 → Int32 → Int32 → Int32 → Int32 → Int32 → Int32 → Int32 → Int32 → Int32 → Int32 → Int32 → Int32 → Int32 → Int32 → (Nat → Int32) → (Nat → Int32) → (Nat → Int32) → (Nat → Int32) → (Nat → Int32) → Prop) (x2 x3 : Int32), wX_run_164 post J x2 x3 size eip F paging cr2 cr3 cr4 cr5 cpl state pending deliveries lastVector lastError portTotal portKept nx returnTo (-1) raisedError dA tA code form width mod regField rm linear immediate oper m' g' ports mp' wd' → wX_run_128 post J x2 x3 size eip flags paging cr2 cr3 cr4 cr5 cpl state pending deliveries lastVector lastError portTotal portKept nxt returnTo (-1) raisedError directoryAt tableAt code form width mod regField rm linear immediate operand memory general ports mapped words) ∧
      (∀ post : SY → Prop, post (size, nx, F, (ar_cz paging), cr2, cr3, cr4, cr5, cpl, state, pending, deliveries, lastVector, lastError, portTotal, -1, y_faultError, y_startEip, nxt, y_op, y_mod, y_reg, y_rm, y_address, y_imm, ar_ym m', g', y_old, y_ports, pl') → wpY_execute post (size, y_eip, flags, (ar_cz paging), cr2, cr3, cr4, cr5, cpl, state, pending, deliveries, lastVector, lastError, portTotal, -1, y_faultError, y_startEip, nxt, y_op, y_mod, y_reg, y_rm, y_address, y_imm, (ar_ym memory), general, y_old, y_ports, y_place))) ∨
    (∃ (v er cr oper yf ye : Int32) (m' mp' wd' yg : Nat → Int32) (dA tA : Int32) (pl' : Nat → Int64), (((v = 14 ∧ 0 ≤ er) ∨ (v = 0 ∧ er = -1) ∨ (v = 13 ∧ 0 ≤ er)) ∧ (∀ j : Nat, 8 ≤ j → yg j = general j)) ∧
      (∀ (post : Int32 → SX → Prop) (J : Int32 → Int32 → Int32 → Int32 → Int32 → Int32 → Int32 → Int32 → Int32 → Int32 → Int32 → Int32 → Int32 → Int32 → Int32 → Int32 → Int32 → Int32 → Int32 → Int32 → Int32 → Int32 → Int32 → Int32 → Int32 → Int32 → Int32 → Int32 → Int32 → Int32 → Int32 → Int32 → (Nat → Int32) → (Nat → Int32) → (Nat → Int32) → (Nat → Int32) → (Nat → Int32) → Prop) (x2 x3 : Int32), wX_run_164 post J x2 x3 size eip flags paging cr cr3 cr4 cr5 cpl state pending deliveries lastVector lastError portTotal portKept nxt returnTo v er dA tA code form width mod regField rm linear immediate oper m' general ports mp' wd' → wX_run_128 post J x2 x3 size eip flags paging cr2 cr3 cr4 cr5 cpl state pending deliveries lastVector lastError portTotal portKept nxt returnTo (-1) raisedError directoryAt tableAt code form width mod regField rm linear immediate operand memory general ports mapped words) ∧
      (∀ post : SY → Prop, post (size, ye, yf, (ar_cz paging), cr, cr3, cr4, cr5, cpl, state, pending, deliveries, lastVector, lastError, portTotal, v, er, y_startEip, nxt, y_op, y_mod, y_reg, y_rm, y_address, y_imm, ar_ym m', yg, y_old, y_ports, pl') → wpY_execute post (size, y_eip, flags, (ar_cz paging), cr2, cr3, cr4, cr5, cpl, state, pending, deliveries, lastVector, lastError, portTotal, -1, y_faultError, y_startEip, nxt, y_op, y_mod, y_reg, y_rm, y_address, y_imm, (ar_ym memory), general, y_old, y_ports, y_place)))) →     (∃ (F nx oper cpl1 st1 pg1 c2 c3 c4 c5 pt pk : Int32) (n1 : Nat) (m' g' mp' wd' po ypo : Nat → Int32) (dA tA : Int32) (pl' : Nat → Int64), (fl_ok F ∧ (cpl1 = 0 ∨ cpl1 = 3) ∧ (st1 = 0 ∨ st1 = 1) ∧ mm_ok size c3 ∧ sy_c4 c4 ∧ sy_P pt pk po ypo n1 ∧ n1 ≤ n0 + 1) ∧
      (∀ (post : Int32 → SX → Prop) (J : Int32 → Int32 → Int32 → Int32 → Int32 → Int32 → Int32 → Int32 → Int32 → Int32 → Int32 → Int32 → Int32 → Int32 → Int32 → Int32 → Int32 → Int32 → Int32 → Int32 → Int32 → Int32 → Int32 → Int32 → Int32 → Int32 → Int32 → Int32 → Int32 → Int32 → Int32 → Int32 → (Nat → Int32) → (Nat → Int32) → (Nat → Int32) → (Nat → Int32) → (Nat → Int32) → Prop) (x2 x3 : Int32), wX_run_164 post J x2 x3 size eip F pg1 c2 c3 c4 c5 cpl1 st1 pending deliveries lastVector lastError pt pk nx returnTo (-1) raisedError dA tA code form width mod regField rm linear immediate oper m' g' po mp' wd' → wX_run_128 post J x2 x3 size eip flags paging cr2 cr3 cr4 cr5 cpl state pending deliveries lastVector lastError portTotal portKept nxt returnTo (-1) raisedError directoryAt tableAt code form width mod regField rm linear immediate operand memory general ports mapped words) ∧
      (∀ post : SY → Prop, post (size, nx, F, ar_cz pg1, c2, c3, c4, c5, cpl1, st1, pending, deliveries, lastVector, lastError, pt, -1, y_faultError, y_startEip, nxt, y_op, y_mod, y_reg, y_rm, y_address, y_imm, ar_ym m', g', y_old, ypo, pl') → wpY_execute post (size, y_eip, flags, (ar_cz paging), cr2, cr3, cr4, cr5, cpl, state, pending, deliveries, lastVector, lastError, portTotal, -1, y_faultError, y_startEip, nxt, y_op, y_mod, y_reg, y_rm, y_address, y_imm, (ar_ym memory), general, y_old, y_ports, y_place))) ∨
    (∃ (v er cr oper yf ye : Int32) (m' mp' wd' yg : Nat → Int32) (dA tA : Int32) (pl' : Nat → Int64), (((v = 14 ∧ 0 ≤ er) ∨ (v = 0 ∧ er = -1) ∨ (v = 13 ∧ 0 ≤ er)) ∧ (∀ j : Nat, 8 ≤ j → yg j = general j)) ∧
      (∀ (post : Int32 → SX → Prop) (J : Int32 → Int32 → Int32 → Int32 → Int32 → Int32 → Int32 → Int32 → Int32 → Int32 → Int32 → Int32 → Int32 → Int32 → Int32 → Int32 → Int32 → Int32 → Int32 → Int32 → Int32 → Int32 → Int32 → Int32 → Int32 → Int32 → Int32 → Int32 → Int32 → Int32 → Int32 → Int32 → (Nat → Int32) → (Nat → Int32) → (Nat → Int32) → (Nat → Int32) → (Nat → Int32) → Prop) (x2 x3 : Int32), wX_run_164 post J x2 x3 size eip flags paging cr cr3 cr4 cr5 cpl state pending deliveries lastVector lastError portTotal portKept nxt returnTo v er dA tA code form width mod regField rm linear immediate oper m' general ports mp' wd' → wX_run_128 post J x2 x3 size eip flags paging cr2 cr3 cr4 cr5 cpl state pending deliveries lastVector lastError portTotal portKept nxt returnTo (-1) raisedError directoryAt tableAt code form width mod regField rm linear immediate operand memory general ports mapped words) ∧
      (∀ post : SY → Prop, post (size, ye, yf, (ar_cz paging), cr, cr3, cr4, cr5, cpl, state, pending, deliveries, lastVector, lastError, portTotal, v, er, y_startEip, nxt, y_op, y_mod, y_reg, y_rm, y_address, y_imm, ar_ym m', yg, y_old, y_ports, pl') → wpY_execute post (size, y_eip, flags, (ar_cz paging), cr2, cr3, cr4, cr5, cpl, state, pending, deliveries, lastVector, lastError, portTotal, -1, y_faultError, y_startEip, nxt, y_op, y_mod, y_reg, y_rm, y_address, y_imm, (ar_ym memory), general, y_old, y_ports, y_place))) ∨
    (∃ (k : Nat), k < 256 ∧
      (∀ (post : Int32 → SX → Prop) (J : Int32 → Int32 → Int32 → Int32 → Int32 → Int32 → Int32 → Int32 → Int32 → Int32 → Int32 → Int32 → Int32 → Int32 → Int32 → Int32 → Int32 → Int32 → Int32 → Int32 → Int32 → Int32 → Int32 → Int32 → Int32 → Int32 → Int32 → Int32 → Int32 → Int32 → Int32 → Int32 → (Nat → Int32) → (Nat → Int32) → (Nat → Int32) → (Nat → Int32) → (Nat → Int32) → Prop) (x2 x3 : Int32), wX_run_164 post J x2 x3 size eip flags paging cr2 cr3 cr4 cr5 cpl state pending deliveries lastVector lastError portTotal portKept nxt nxt (nI k) (-1) directoryAt tableAt code form width mod regField rm linear immediate operand memory general ports mapped words → wX_run_128 post J x2 x3 size eip flags paging cr2 cr3 cr4 cr5 cpl state pending deliveries lastVector lastError portTotal portKept nxt returnTo (-1) raisedError directoryAt tableAt code form width mod regField rm linear immediate operand memory general ports mapped words) ∧
      (∀ post : SY → Prop, wpY_deliver post (size, y_startEip, flags, (ar_cz paging), cr2, cr3, cr4, cr5, cpl, state, pending, deliveries, lastVector, lastError, portTotal, -1, y_faultError, y_startEip, nxt, y_op, y_mod, y_reg, y_rm, y_address, y_imm, (ar_ym memory), general, y_old, y_ports, y_place) (nI k) (-1) nxt → wpY_execute post (size, y_eip, flags, (ar_cz paging), cr2, cr3, cr4, cr5, cpl, state, pending, deliveries, lastVector, lastError, portTotal, -1, y_faultError, y_startEip, nxt, y_op, y_mod, y_reg, y_rm, y_address, y_imm, (ar_ym memory), general, y_old, y_ports, y_place))) := fun h => (ds_lift (size := size) (eip := eip) (flags := flags) (paging := paging) (cr2 := cr2) (cr3 := cr3) (cr4 := cr4) (cr5 := cr5) (cpl := cpl) (state := state) (pending := pending) (deliveries := deliveries) (lastVector := lastVector) (lastError := lastError) (portTotal := portTotal) (portKept := portKept) (nxt := nxt) (returnTo := returnTo) (raisedError := raisedError) (directoryAt := directoryAt) (tableAt := tableAt) (code := code) (form := form) (width := width) (mod := mod) (regField := regField) (rm := rm) (linear := linear) (immediate := immediate) (operand := operand) (memory := memory) (general := general) (ports := ports) (mapped := mapped) (words := words) (y_eip := y_eip) (y_faultError := y_faultError) (y_startEip := y_startEip) (y_op := y_op) (y_mod := y_mod) (y_reg := y_reg) (y_rm := y_rm) (y_address := y_address) (y_imm := y_imm) (y_old := y_old) (y_ports := y_ports) (y_place := y_place)) hok hcp hst hc4 hP h
  have hla' : ¬ nI m = 3 → linear = y_address := fun w => hla (fun e => w (by rw [e]; rfl))
  have al : ¬ ((tb_allowedRegFields (nI f) >>> (nI k &&& 31)) &&& 1) = 0 := fun w => hbad (Or.inr (Or.inr w))
  subst hw hcd hop him emd erg erm eym eyr eyrm
  rcases hl with e | e | e | e | e | e | e | e | e | e | e | e | e | e | e | e <;> subst e
  · have F : tb_formOf (nI n) = 1 := eF
    have hform : form = 1 := hfm.trans (dp_mem _ _ (by decide) (by decide))
    subst hform
    obtain ⟨⟨a, b⟩, ⟨j, hj, ej⟩, c⟩ := ds_1 n hn F
    rcases c with ⟨c, w⟩ | ⟨c, w⟩
    · rw [w] at L ⊢; exact L (ex_1 hok hf (Or.inr rfl) hq hj hk (fun _ => ⟨rfl, rfl⟩) rfl hla' rfl rfl rfl a b ej (Or.inl ⟨c, rfl⟩))
    · rw [w] at L ⊢; exact L (ex_1 hok hf (Or.inl rfl) hq hj hk (fun _ => ⟨rfl, rfl⟩) rfl hla' rfl rfl rfl a b ej (Or.inr ⟨c, rfl⟩))
  · have F : tb_formOf (nI n) = 2 := eF
    have hform : form = 2 := hfm.trans (dp_mem _ _ (by decide) (by decide))
    subst hform
    obtain ⟨⟨a, b, b2⟩, ⟨j, hj, ej⟩, c⟩ := ds_2 n hn F
    rcases c with ⟨c, w⟩ | ⟨c, w⟩
    · rw [w] at L ⊢; exact L (ex_2 hok hf (Or.inr rfl) hq hj hk (fun _ => ⟨rfl, rfl⟩) rfl hla' rfl rfl rfl a b b2 ej (Or.inl ⟨c, rfl⟩))
    · rw [w] at L ⊢; exact L (ex_2 hok hf (Or.inl rfl) hq hj hk (fun _ => ⟨rfl, rfl⟩) rfl hla' rfl rfl rfl a b b2 ej (Or.inr ⟨c, rfl⟩))
  · have F : tb_formOf (nI n) = 4 := eF
    have hform : form = 4 := hfm.trans (dp_mem _ _ (by decide) (by decide))
    subst hform
    rcases ds_4 n hn F with ⟨e, w⟩ | ⟨e, w⟩
    · rw [w] at L ⊢; subst e; exact L (ex_4 hok hf (Or.inr rfl) hq hk (fun _ => ⟨rfl, rfl⟩) rfl hla' rfl rfl rfl (Or.inl ⟨rfl, rfl⟩))
    · rw [w] at L ⊢
      rcases e with e | e <;> subst e
      · exact L (ex_4 hok hf (Or.inl rfl) hq hk (fun _ => ⟨rfl, rfl⟩) rfl hla' rfl rfl rfl (Or.inr ⟨Or.inl rfl, rfl⟩))
      · exact L (ex_4 hok hf (Or.inl rfl) hq hk (fun _ => ⟨rfl, rfl⟩) rfl hla' rfl rfl rfl (Or.inr ⟨Or.inr rfl, rfl⟩))
  · have F : tb_formOf (nI n) = 5 := eF
    have hform : form = 5 := hfm.trans (dp_mem _ _ (by decide) (by decide))
    subst hform
    rcases ds_5 n hn F with ⟨e, w⟩ | ⟨e, w⟩
    · rw [w] at L ⊢; subst e; exact L (ex_5 hok hf (Or.inr rfl) hq hk (fun _ => ⟨rfl, rfl⟩) rfl hla' rfl rfl (Or.inl ⟨rfl, rfl⟩))
    · rw [w] at L ⊢; subst e; exact L (ex_5 hok hf (Or.inl rfl) hq hk (fun _ => ⟨rfl, rfl⟩) rfl hla' rfl rfl (Or.inr ⟨rfl, rfl⟩))
  · have F : tb_formOf (nI n) = 8 := eF
    have hform : form = 8 := hfm.trans (dp_mem _ _ (by decide) (by decide))
    subst hform
    obtain ⟨w, e⟩ := ds_8 n hn F
    rw [w] at L ⊢
    rcases e with e | e | e <;> subst e
    · exact L (ex_8 hok hf hq (fun _ => ⟨rfl, rfl⟩) rfl hla' rfl rfl rfl (Or.inl rfl))
    · exact L (ex_8 hok hf hq (fun _ => ⟨rfl, rfl⟩) rfl hla' rfl rfl rfl (Or.inr (Or.inl rfl)))
    · exact L (ex_8 hok hf hq (fun _ => ⟨rfl, rfl⟩) rfl hla' rfl rfl rfl (Or.inr (Or.inr rfl)))
  · have F : tb_formOf (nI n) = 13 := eF
    have hform : form = 13 := hfm.trans (dp_mem _ _ (by decide) (by decide))
    subst hform
    obtain ⟨w, e⟩ := ds_13 n hn F
    rw [w] at L ⊢
    subst e
    exact L (ex_13 hok hf hq hk (fun _ => ⟨rfl, rfl⟩) rfl hla' rfl rfl rfl)
  · have F : tb_formOf (nI n) = 15 := eF
    have hform : form = 15 := hfm.trans (dp_mem _ _ (by decide) (by decide))
    subst hform
    rcases ds_15 n hn F with ⟨e, w⟩ | ⟨e, w⟩
    · rw [w] at L ⊢; subst e; exact L (ex_15 hok hf (Or.inr rfl) hq hk (fun _ => ⟨rfl, rfl⟩) rfl hla' rfl rfl (Or.inl ⟨rfl, rfl⟩))
    · rw [w] at L ⊢; subst e; exact L (ex_15 hok hf (Or.inl rfl) hq hk (fun _ => ⟨rfl, rfl⟩) rfl hla' rfl rfl (Or.inr ⟨rfl, rfl⟩))
  · have F : tb_formOf (nI n) = 16 := eF
    have hform : form = 16 := hfm.trans (dp_mem _ _ (by decide) (by decide))
    subst hform
    rcases ds_16 n hn F with ⟨e, w⟩ | ⟨e, w⟩
    · rw [w] at L ⊢; subst e; exact L (ex_16 hok hf (Or.inr rfl) hq hk (fun _ => ⟨rfl, rfl⟩) rfl hla' rfl rfl (Or.inl ⟨rfl, rfl⟩))
    · rw [w] at L ⊢; subst e; exact L (ex_16 hok hf (Or.inl rfl) hq hk (fun _ => ⟨rfl, rfl⟩) rfl hla' rfl rfl (Or.inr ⟨rfl, rfl⟩))
  · have F : tb_formOf (nI n) = 18 := eF
    have hform : form = 18 := hfm.trans (dp_mem _ _ (by decide) (by decide))
    subst hform
    rcases ds_18 n hn F with ⟨e, w⟩ | ⟨e, w⟩
    · rw [w] at L ⊢; subst e; exact L (ex_18 hok hf (Or.inr rfl) hq (fun _ => ⟨rfl, rfl⟩) rfl hla' rfl (Or.inl ⟨rfl, rfl⟩))
    · rw [w] at L ⊢; subst e; exact L (ex_18 hok hf (Or.inl rfl) hq (fun _ => ⟨rfl, rfl⟩) rfl hla' rfl (Or.inr ⟨rfl, rfl⟩))
  · have F : tb_formOf (nI n) = 19 := eF
    have hform : form = 19 := hfm.trans (dp_mem _ _ (by decide) (by decide))
    subst hform
    have e := ds_19 n hn F
    have m3 : ¬ nI m = 3 := fun w => hbad (Or.inl ⟨rfl, w⟩)
    subst e
    exact L (ex_19 hf hk m3 (hla' m3) rfl rfl rfl)
  · have F : tb_formOf (nI n) = 20 := eF
    have hform : form = 20 := hfm.trans (dp_mem _ _ (by decide) (by decide))
    subst hform
    obtain ⟨w, e⟩ := ds_20 n hn F
    rw [w] at L ⊢
    subst e
    exact L (ex_20 hok hf hq hk (fun _ => ⟨rfl, rfl⟩) rfl hla' rfl rfl rfl)
  · have F : tb_formOf (nI n) = 21 := eF
    have hform : form = 21 := hfm.trans (dp_mem _ _ (by decide) (by decide))
    subst hform
    obtain ⟨w, j, hj, e⟩ := ds_21 n hn F
    rw [w] at L ⊢
    subst e
    exact L (ex_21 hok hf hq hj (fun _ => ⟨rfl, rfl⟩) rfl hla' rfl rfl)
  · have F : tb_formOf (nI n) = 41 := eF
    have hform : form = 41 := hfm.trans (dp_mem _ _ (by decide) (by decide))
    subst hform
    have e := ds_41 n hn F
    have m3 : nI m = 3 := Classical.byContradiction (fun w => hbad (Or.inr (Or.inl ⟨Or.inl rfl, w⟩)))
    have hkk : k = 0 ∨ k = 2 ∨ k = 3 ∨ k = 4 ∨ k = 5 := by
      rcases (by omega : k = 0 ∨ k = 1 ∨ k = 2 ∨ k = 3 ∨ k = 4 ∨ k = 5 ∨ k = 6 ∨ k = 7) with z | z | z | z | z | z | z | z <;> first | omega | (subst z; exact absurd (by decide) al)
    subst e
    exact L (ex_41 hf hq hkk m3 rfl rfl rfl rfl rfl)
  · have F : tb_formOf (nI n) = 42 := eF
    have hform : form = 42 := hfm.trans (dp_mem _ _ (by decide) (by decide))
    subst hform
    have e := ds_42 n hn F
    have m3 : nI m = 3 := Classical.byContradiction (fun w => hbad (Or.inr (Or.inl ⟨Or.inr rfl, w⟩)))
    have hkk : k = 0 ∨ k = 2 ∨ k = 3 ∨ k = 4 ∨ k = 5 := by
      rcases (by omega : k = 0 ∨ k = 1 ∨ k = 2 ∨ k = 3 ∨ k = 4 ∨ k = 5 ∨ k = 6 ∨ k = 7) with z | z | z | z | z | z | z | z <;> first | omega | (subst z; exact absurd (by decide) al)
    subst e
    exact ex_42 hok hf hcp hst hc4 hP hq hkk m3 rfl rfl rfl rfl rfl
  · have F : tb_formOf (nI n) = 43 := eF
    obtain ⟨e, w⟩ := ds_43 n hn F
    rw [w] at L ⊢
    subst e
    rcases (by omega : k = 0 ∨ k = 1 ∨ k = 2 ∨ k = 3 ∨ k = 4 ∨ k = 5 ∨ k = 6 ∨ k = 7) with z | z | z | z | z | z | z | z <;> subst z
    · have hform : form = 7 := hfm.trans (by decide)
      subst hform
      exact L (ex_7 hok hf hq (by omega : 0 < 2) (fun _ => ⟨rfl, rfl⟩) rfl hla' rfl rfl rfl)
    · have hform : form = 7 := hfm.trans (by decide)
      subst hform
      exact L (ex_7 hok hf hq (by omega : 1 < 2) (fun _ => ⟨rfl, rfl⟩) rfl hla' rfl rfl rfl)
    · have hform : form = 30 := hfm.trans (by decide)
      subst hform
      exact L (ex_30 hok hf hq (fun _ => ⟨rfl, rfl⟩) rfl hla' rfl rfl)
    · exact absurd (by decide) al
    · have hform : form = 28 := hfm.trans (by decide)
      subst hform
      exact L (ex_28 hok hf hq (fun _ => ⟨rfl, rfl⟩) rfl hla' rfl rfl)
    · exact absurd (by decide) al
    · have hform : form = 24 := hfm.trans (by decide)
      subst hform
      exact L (ex_24 hok hf hq (fun _ => ⟨rfl, rfl⟩) rfl hla' rfl rfl)
    · exact absurd (by decide) al
  · have F : tb_formOf (nI n) = 44 := eF
    obtain ⟨e, w⟩ := ds_44 n hn F
    rw [w] at L ⊢
    subst e
    rcases (by omega : k = 0 ∨ k = 1 ∨ k = 2 ∨ k = 3 ∨ k = 4 ∨ k = 5 ∨ k = 6 ∨ k = 7) with z | z | z | z | z | z | z | z <;> subst z
    · exact absurd (by decide) al
    · exact absurd (by decide) al
    · have hform : form = 9 := hfm.trans (by decide)
      subst hform
      exact L (ex_9 hok hf hq (fun _ => ⟨rfl, rfl⟩) rfl hla' rfl rfl)
    · have hform : form = 10 := hfm.trans (by decide)
      subst hform
      exact L (ex_10 hok hf hq (fun _ => ⟨rfl, rfl⟩) rfl hla' rfl rfl)
    · have hform : form = 11 := hfm.trans (by decide)
      subst hform
      exact L (ex_11 hok hf hq (fun _ => ⟨rfl, rfl⟩) rfl hla' rfl rfl)
    · exact absurd (by decide) al
    · exact absurd (by decide) al
    · have hform : form = 12 := hfm.trans (by decide)
      subst hform
      exact L (ex_12 hok hf hq (fun _ => ⟨rfl, rfl⟩) rfl hla' rfl rfl)
end
