/-! ModRM as a whole: fetchModRm and fetchAddress against fetchModrm -/
section
variable {size eip flags paging cr2 cr3 cr4 cr5 cpl state pending deliveries lastVector lastError portTotal portKept nxt returnTo raised raisedError directoryAt tableAt code form width mod regField rm linear immediate operand : Int32} {memory general ports mapped words : Nat → Int32} {y_eip y_fault y_faultError y_startEip y_cursor y_op y_mod y_reg y_rm y_address y_imm : Int32} {y_old y_ports : Nat → Int32} {y_place : Nat → Int64}
/-- Y goes on with a fault standing -/
theorem mr_dead {m q : Nat} (hm : m < 3) (hq : q < 8) (hymd : y_mod = nI m) : ∃ ya : Int32, ∀ post : SY → Prop, post (size, y_eip, flags, (ar_cz paging), cr2, cr3, cr4, cr5, cpl, state, pending, deliveries, lastVector, lastError, portTotal, 14, y_faultError, y_startEip, nxt, y_op, y_mod, y_reg, y_rm, ya, y_imm, (ar_ym memory), general, y_old, y_ports, y_place) → wY_fetchModrm_123 post (nI q) size y_eip flags (ar_cz paging) cr2 cr3 cr4 cr5 cpl state pending deliveries lastVector lastError portTotal 14 y_faultError y_startEip nxt y_op y_mod y_reg y_rm y_address y_imm (ar_ym memory) general y_old y_ports y_place := by
  subst hymd
  have hq8 : vp_in (nI q) 8 := vp_in_nI hq (by omega)
  have nx : ∀ (c : Nat) (y_address : Int32) (post : Int32 → SY → Prop), c ≤ 4 → post 0 (size, y_eip, flags, (ar_cz paging), cr2, cr3, cr4, cr5, cpl, state, pending, deliveries, lastVector, lastError, portTotal, 14, y_faultError, y_startEip, nxt, y_op, nI m, y_reg, y_rm, y_address, y_imm, (ar_ym memory), general, y_old, y_ports, y_place) → wpY_next post (size, y_eip, flags, (ar_cz paging), cr2, cr3, cr4, cr5, cpl, state, pending, deliveries, lastVector, lastError, portTotal, 14, y_faultError, y_startEip, nxt, y_op, nI m, y_reg, y_rm, y_address, y_imm, (ar_ym memory), general, y_old, y_ports, y_place) (nI c) := by
    intro c y_address post hc hp
    exact ⟨1, br_c (fun _ => hp) (fun _ => br_t (by decide) hp)⟩
  have go : ∀ (c : Nat) (y_address : Int32), c ≤ 4 → ∃ ya : Int32, ∀ post : SY → Prop, post (size, y_eip, flags, (ar_cz paging), cr2, cr3, cr4, cr5, cpl, state, pending, deliveries, lastVector, lastError, portTotal, 14, y_faultError, y_startEip, nxt, y_op, nI m, y_reg, y_rm, ya, y_imm, (ar_ym memory), general, y_old, y_ports, y_place) → wY_fetchModrm_189 post (nI c) size y_eip flags (ar_cz paging) cr2 cr3 cr4 cr5 cpl state pending deliveries lastVector lastError portTotal 14 y_faultError y_startEip nxt y_op (nI m) y_reg y_rm y_address y_imm (ar_ym memory) general y_old y_ports y_place := by
    intro c y_address hc
    by_cases h1 : nI c = 1
    · exact ⟨y_address + (0 : Int32).toInt8.toInt32, fun post hp => nx c y_address _ hc (br_t h1 (nm_e hp))⟩
    · exact ⟨y_address + 0, fun post hp => nx c y_address _ hc (br_f h1 (nm_e hp))⟩
  rcases (by omega : m = 0 ∨ m = 1 ∨ m = 2) with e | e | e
  · subst e
    by_cases h5 : nI q = 5
    · obtain ⟨ya, k⟩ := go 4 y_address (by omega)
      exact ⟨ya, fun post hp => br_t rfl (br_t h5 (br_f (by decide) (br_f (by decide) (br_f (by decide) (br_f (by decide) (k post hp))))))⟩
    · obtain ⟨ya, k⟩ := go 0 (y_address + general (nI q).toNatClampNeg) (by omega)
      exact ⟨ya, fun post hp => br_t rfl (br_f h5 (br_t rfl ⟨hq8, nm_e (br_f (by decide) (br_f (by decide) (br_t rfl (k post hp))))⟩))⟩
  · subst e
    obtain ⟨ya, k⟩ := go 1 (y_address + general (nI q).toNatClampNeg) (by omega)
    exact ⟨ya, fun post hp => br_f (by decide) (br_t rfl ⟨hq8, nm_e (br_t rfl (k post hp))⟩)⟩
  · subst e
    obtain ⟨ya, k⟩ := go 4 (y_address + general (nI q).toNatClampNeg) (by omega)
    exact ⟨ya, fun post hp => br_f (by decide) (br_t rfl ⟨hq8, nm_e (br_f (by decide) (br_t rfl (k post hp)))⟩)⟩
/-- X's refusal of a ModRM byte -/
theorem mr_bad (post : SX → Prop) (A : Int32) (hb : dc_bad form A mod regField) (h : wX_fetchModRm_135 post size eip flags paging cr2 cr3 cr4 cr5 cpl state pending deliveries lastVector lastError portTotal portKept nxt returnTo raised raisedError directoryAt tableAt code form width mod regField rm linear immediate operand memory general ports mapped words) :
    (form = 41 → wX_fetchModRm_77 post A size eip flags paging cr2 cr3 cr4 cr5 cpl state pending deliveries lastVector lastError portTotal portKept nxt returnTo raised raisedError directoryAt tableAt code form width mod regField rm linear immediate operand memory general ports mapped words) ∧ (¬ form = 41 → ((form = 42 → wX_fetchModRm_77 post A size eip flags paging cr2 cr3 cr4 cr5 cpl state pending deliveries lastVector lastError portTotal portKept nxt returnTo raised raisedError directoryAt tableAt code form width mod regField rm linear immediate operand memory general ports mapped words) ∧ (¬ form = 42 → wX_fetchModRm_82 post A 0 size eip flags paging cr2 cr3 cr4 cr5 cpl state pending deliveries lastVector lastError portTotal portKept nxt returnTo raised raisedError directoryAt tableAt code form width mod regField rm linear immediate operand memory general ports mapped words))) := by
  have h117 : ∀ z : Int32, (¬ z = 0 ∨ ((A >>> (regField &&& 31)) &&& 1) = 0) → wX_fetchModRm_117 post A z size eip flags paging cr2 cr3 cr4 cr5 cpl state pending deliveries lastVector lastError portTotal portKept nxt returnTo raised raisedError directoryAt tableAt code form width mod regField rm linear immediate operand memory general ports mapped words := by
    intro z hz
    by_cases q : z = 0
    · exact br_t q (br_t (hz.resolve_left (fun w => w q)) h)
    · exact br_f q h
  have h100 : ∀ z : Int32, ((¬ z = 0 ∧ ¬ mod = 3) ∨ ((A >>> (regField &&& 31)) &&& 1) = 0) → wX_fetchModRm_100 post A z size eip flags paging cr2 cr3 cr4 cr5 cpl state pending deliveries lastVector lastError portTotal portKept nxt returnTo raised raisedError directoryAt tableAt code form width mod regField rm linear immediate operand memory general ports mapped words := by
    intro z hz
    by_cases q : z = 0
    · exact br_t q (h117 0 (Or.inr (hz.resolve_left (fun w => w.1 q))))
    · refine br_f q ?_
      by_cases q3 : mod = 3
      · exact br_t q3 (h117 0 (Or.inr (hz.resolve_left (fun w => w.2 q3))))
      · exact br_f q3 (h117 1 (Or.inl (by decide)))
  have h82 : ∀ z : Int32, ((form = 19 ∧ mod = 3) ∨ (¬ z = 0 ∧ ¬ mod = 3) ∨ ((A >>> (regField &&& 31)) &&& 1) = 0) → wX_fetchModRm_82 post A z size eip flags paging cr2 cr3 cr4 cr5 cpl state pending deliveries lastVector lastError portTotal portKept nxt returnTo raised raisedError directoryAt tableAt code form width mod regField rm linear immediate operand memory general ports mapped words := by
    intro z hz
    by_cases q : form = 19
    · refine br_t q ?_
      by_cases q3 : mod = 3
      · exact br_t q3 (h117 1 (Or.inl (by decide)))
      · exact br_f q3 (h100 z (hz.resolve_left (fun w => q3 w.2)))
    · exact br_f q (h100 z (hz.resolve_left (fun w => q w.1)))
  unfold dc_bad at hb
  by_cases q1 : form = 41
  · refine br_t q1 (h82 1 ?_)
    rcases hb with w | w | w
    · exact Or.inl w
    · exact Or.inr (Or.inl ⟨by decide, w.2⟩)
    · exact Or.inr (Or.inr w)
  · refine br_f q1 ?_
    by_cases q2 : form = 42
    · refine br_t q2 (h82 1 ?_)
      rcases hb with w | w | w
      · exact Or.inl w
      · exact Or.inr (Or.inl ⟨by decide, w.2⟩)
      · exact Or.inr (Or.inr w)
    · refine br_f q2 (h82 0 ?_)
      rcases hb with w | w | w
      · exact Or.inl w
      · exact absurd w.1 (fun z => z.elim q1 q2)
      · exact Or.inr (Or.inr w)
theorem mr_good (post : SX → Prop) (A : Int32) (hb : ¬ dc_bad form A mod regField) (h : post (size, eip, flags, paging, cr2, cr3, cr4, cr5, cpl, state, pending, deliveries, lastVector, lastError, portTotal, portKept, nxt, returnTo, raised, raisedError, directoryAt, tableAt, code, tb_memberOf form regField, width, mod, regField, rm, linear, immediate, operand, memory, general, ports, mapped, words)) :
    (form = 41 → wX_fetchModRm_77 post A size eip flags paging cr2 cr3 cr4 cr5 cpl state pending deliveries lastVector lastError portTotal portKept nxt returnTo raised raisedError directoryAt tableAt code form width mod regField rm linear immediate operand memory general ports mapped words) ∧ (¬ form = 41 → ((form = 42 → wX_fetchModRm_77 post A size eip flags paging cr2 cr3 cr4 cr5 cpl state pending deliveries lastVector lastError portTotal portKept nxt returnTo raised raisedError directoryAt tableAt code form width mod regField rm linear immediate operand memory general ports mapped words) ∧ (¬ form = 42 → wX_fetchModRm_82 post A 0 size eip flags paging cr2 cr3 cr4 cr5 cpl state pending deliveries lastVector lastError portTotal portKept nxt returnTo raised raisedError directoryAt tableAt code form width mod regField rm linear immediate operand memory general ports mapped words))) := by
  unfold dc_bad at hb
  have hA : ¬ ((A >>> (regField &&& 31)) &&& 1) = 0 := fun w => hb (Or.inr (Or.inr w))
  have h117 : wX_fetchModRm_117 post A 0 size eip flags paging cr2 cr3 cr4 cr5 cpl state pending deliveries lastVector lastError portTotal portKept nxt returnTo raised raisedError directoryAt tableAt code form width mod regField rm linear immediate operand memory general ports mapped words := br_t rfl (br_f hA (tb_memberOf_w _ _ _ h))
  have h100 : ∀ z : Int32, (¬ z = 0 → mod = 3) → wX_fetchModRm_100 post A z size eip flags paging cr2 cr3 cr4 cr5 cpl state pending deliveries lastVector lastError portTotal portKept nxt returnTo raised raisedError directoryAt tableAt code form width mod regField rm linear immediate operand memory general ports mapped words := by
    intro z hz
    by_cases q : z = 0
    · exact br_t q h117
    · exact br_f q (br_t (hz q) h117)
  have h82 : ∀ z : Int32, (¬ z = 0 → mod = 3) → wX_fetchModRm_82 post A z size eip flags paging cr2 cr3 cr4 cr5 cpl state pending deliveries lastVector lastError portTotal portKept nxt returnTo raised raisedError directoryAt tableAt code form width mod regField rm linear immediate operand memory general ports mapped words := by
    intro z hz
    by_cases q : form = 19
    · exact br_t q (br_f (fun w => hb (Or.inl ⟨q, w⟩)) (h100 z hz))
    · exact br_f q (h100 z hz)
  have h3 : form = 41 ∨ form = 42 → mod = 3 := by
    intro w
    by_cases q : mod = 3
    · exact q
    · exact absurd (Or.inr (Or.inl ⟨w, q⟩)) hb
  by_cases q1 : form = 41
  · exact br_t q1 (h82 1 (fun _ => h3 (Or.inl q1)))
  · refine br_f q1 ?_
    by_cases q2 : form = 42
    · exact br_t q2 (h82 1 (fun _ => h3 (Or.inr q2)))
    · exact br_f q2 (h82 0 (fun w => absurd rfl w))
end
