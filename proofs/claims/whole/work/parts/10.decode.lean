/-! decoding: what the two sides' tables have in common, op by op -/
theorem dc_known : ∀ n, n < 768 → (tb_formOf (nI n) = 0 ↔ tb_knownY (nI n) = 0) := by decide +kernel
theorem dc_modrm : ∀ n, n < 768 → ¬ tb_formOf (nI n) = 0 → (tb_allowedRegFields (tb_formOf (nI n)) = 0 ↔ tb_hasModrmY (nI n) = 0) := by decide +kernel
/-- the component's refusal of a ModRM byte -/
def dc_bad (F A m r : Int32) : Prop := (F = 19 ∧ m = 3) ∨ ((F = 41 ∨ F = 42) ∧ ¬ m = 3) ∨ ((A >>> (r &&& 31)) &&& 1) = 0
def dc_b1 (F A m r : Int32) : Bool := (decide (F = 19) && decide (m = 3)) || ((decide (F = 41) || decide (F = 42)) && !decide (m = 3)) || decide (((A >>> (r &&& 31)) &&& 1) = 0)
theorem dc_b1_iff (F A m r : Int32) : dc_b1 F A m r = true ↔ dc_bad F A m r := by
  unfold dc_b1 dc_bad
  simp only [Bool.or_eq_true, Bool.and_eq_true, decide_eq_true_eq, Bool.not_eq_true', decide_eq_false_iff_not, or_assoc]
theorem dc_bad_tab : ∀ n, n < 768 → ¬ tb_formOf (nI n) = 0 → ¬ tb_allowedRegFields (tb_formOf (nI n)) = 0 → ∀ m, m < 4 → ∀ r, r < 8 → dc_b1 (tb_formOf (nI n)) (tb_allowedRegFields (tb_formOf (nI n))) (nI m) (nI r) = decide (tb_allowedY (nI n) (nI m) (nI r) = 0) := by decide +kernel
theorem dc_bad_iff (n : Nat) (hn : n < 768) (hF : ¬ tb_formOf (nI n) = 0) (hA : ¬ tb_allowedRegFields (tb_formOf (nI n)) = 0) (m : Nat) (hm : m < 4) (r : Nat) (hr : r < 8) : dc_bad (tb_formOf (nI n)) (tb_allowedRegFields (tb_formOf (nI n))) (nI m) (nI r) ↔ tb_allowedY (nI n) (nI m) (nI r) = 0 := by
  rw [← dc_b1_iff, dc_bad_tab n hn hF hA m hm r hr, decide_eq_true_eq]
/-- the form that is executed -/
def dc_form (op r : Int32) : Int32 := if tb_allowedRegFields (tb_formOf op) = 0 then tb_formOf op else tb_memberOf (tb_formOf op) r
def dc_width (op : Int32) : Int32 := tb_widthOf (tb_formOf op) op
theorem dc_imm0 : ∀ n, n < 768 → ¬ tb_formOf (nI n) = 0 → tb_allowedRegFields (tb_formOf (nI n)) = 0 → tb_immediateBytes (tb_formOf (nI n)) (dc_width (nI n)) (nI n) = tb_immediateY (nI n) := by decide +kernel
theorem dc_imm1 : ∀ n, n < 768 → ¬ tb_formOf (nI n) = 0 → ¬ tb_allowedRegFields (tb_formOf (nI n)) = 0 → ∀ r, r < 8 → ((tb_allowedRegFields (tb_formOf (nI n)) >>> (nI r &&& 31)) &&& 1) = 0 ∨ tb_immediateBytes (tb_memberOf (tb_formOf (nI n)) (nI r)) (dc_width (nI n)) (nI n) = tb_immediateY (nI n) := by decide +kernel
theorem dc_immR : ∀ n, n < 768 → ∃ c, c ≤ 4 ∧ tb_immediateY (nI n) = nI c := by decide +kernel
/-- the reference's privileged ones -/
def dc_inner (op : Int32) : Bool := decide (op = 250) || decide (op = 251) || decide (op = 230) || decide (op = 207) || decide (op = 244) || decide (op = 288) || decide (op = 290)
theorem dc_priv0 : ∀ n, n < 768 → ¬ tb_formOf (nI n) = 0 → tb_allowedRegFields (tb_formOf (nI n)) = 0 → (¬ tb_isPrivileged (tb_formOf (nI n)) = 0 ↔ dc_inner (nI n) = true) := by decide +kernel
theorem dc_priv1b : ∀ n, n < 768 → ¬ tb_formOf (nI n) = 0 → ¬ tb_allowedRegFields (tb_formOf (nI n)) = 0 → ∀ r, r < 8 → (decide (((tb_allowedRegFields (tb_formOf (nI n)) >>> (nI r &&& 31)) &&& 1) = 0) || (decide (¬ tb_isPrivileged (tb_memberOf (tb_formOf (nI n)) (nI r)) = 0) == dc_inner (nI n))) = true := by decide +kernel
theorem dc_priv1 (n : Nat) (hn : n < 768) (hF : ¬ tb_formOf (nI n) = 0) (hA : ¬ tb_allowedRegFields (tb_formOf (nI n)) = 0) (r : Nat) (hr : r < 8) : ((tb_allowedRegFields (tb_formOf (nI n)) >>> (nI r &&& 31)) &&& 1) = 0 ∨ (¬ tb_isPrivileged (tb_memberOf (tb_formOf (nI n)) (nI r)) = 0 ↔ dc_inner (nI n) = true) := by
  have h := dc_priv1b n hn hF hA r hr
  rw [Bool.or_eq_true, decide_eq_true_eq, beq_iff_eq] at h
  rcases h with h | h
  · exact Or.inl h
  · refine Or.inr ?_
    rw [← h, decide_eq_true_eq]
/-- ModRM's and SIB's fields -/
theorem dc_fields : ∀ b, b < 256 → (∃ m, m < 4 ∧ nI b >>> ((6 : Int32) &&& 31) = nI m) ∧ (∃ r, r < 8 ∧ (nI b >>> ((3 : Int32) &&& 31)) &&& 7 = nI r) ∧ (∃ q, q < 8 ∧ nI b &&& 7 = nI q) := by decide +kernel
theorem dc_or : ∀ b, b < 256 → 256 + nI b = nI (256 + b) ∧ nI b ||| 256 = nI (256 + b) ∧ 512 + nI b = nI (512 + b) ∧ nI b ||| 512 = nI (512 + b) := by decide +kernel
/-- what has been decoded: op, form, width, mod, reg, rm -/
def dc_ok (n : Nat) (fm wd md rg r ymd yrg yr la yla : Int32) : Prop := n < 768 ∧ ¬ tb_formOf (nI n) = 0 ∧ wd = dc_width (nI n) ∧
  ((tb_allowedRegFields (tb_formOf (nI n)) = 0 ∧ fm = tb_formOf (nI n) ∧ md = 3) ∨
   (¬ tb_allowedRegFields (tb_formOf (nI n)) = 0 ∧ ∃ m k q : Nat, m < 4 ∧ k < 8 ∧ q < 8 ∧ md = nI m ∧ rg = nI k ∧ r = nI q ∧ ymd = md ∧ yrg = rg ∧ yr = r ∧ fm = tb_memberOf (tb_formOf (nI n)) (nI k) ∧
     ¬ dc_bad (tb_formOf (nI n)) (tb_allowedRegFields (tb_formOf (nI n))) (nI m) (nI k) ∧ (¬ m = 3 → la = yla)))
section
variable {size eip flags paging cr2 cr3 cr4 cr5 cpl state pending deliveries lastVector lastError portTotal portKept nxt returnTo raised raisedError directoryAt tableAt code form width mod regField rm linear immediate operand : Int32} {memory general ports mapped words : Nat → Int32} {y_eip y_fault y_faultError y_startEip y_cursor y_op y_mod y_reg y_rm y_address y_imm : Int32} {y_old y_ports : Nat → Int32} {y_place : Nat → Int64}
theorem dc_innerY (post : SY → Prop) (hf : raised < 0) (h : (dc_inner y_op = true ∧ cpl = 3 → post (size, y_eip, flags, (ar_cz paging), cr2, cr3, cr4, cr5, cpl, state, pending, deliveries, lastVector, lastError, portTotal, 13, 0, y_startEip, nxt, y_op, y_mod, y_reg, y_rm, y_address, y_imm, (ar_ym memory), general, y_old, y_ports, y_place)) ∧ (¬ (dc_inner y_op = true ∧ cpl = 3) → post (size, y_eip, flags, (ar_cz paging), cr2, cr3, cr4, cr5, cpl, state, pending, deliveries, lastVector, lastError, portTotal, raised, y_faultError, y_startEip, nxt, y_op, y_mod, y_reg, y_rm, y_address, y_imm, (ar_ym memory), general, y_old, y_ports, y_place))) : wY_fetch_140 post size y_eip flags (ar_cz paging) cr2 cr3 cr4 cr5 cpl state pending deliveries lastVector lastError portTotal raised y_faultError y_startEip nxt y_op y_mod y_reg y_rm y_address y_imm (ar_ym memory) general y_old y_ports y_place := by
  have hf0 : ¬ 0 ≤ raised := Int32.not_le.mpr hf
  have key : ∀ (z0 z1 : Int32), ((z1 ||| z0 = 0 ∧ dc_inner y_op = false) ∨ (¬ z1 ||| z0 = 0 ∧ dc_inner y_op = true)) → wY_fetch_250 post z0 z1 size y_eip flags (ar_cz paging) cr2 cr3 cr4 cr5 cpl state pending deliveries lastVector lastError portTotal raised y_faultError y_startEip nxt y_op y_mod y_reg y_rm y_address y_imm (ar_ym memory) general y_old y_ports y_place := by
    intro z0 z1 hz
    refine nm_e (br_f hf0 ?_)
    rcases hz with ⟨hz, hd⟩ | ⟨hz, hd⟩
    · exact br_t hz (h.2 (fun q => by rw [hd] at q; exact absurd q.1 (by decide)))
    · refine br_f hz ?_
      by_cases hc : cpl = 3
      · exact br_t hc (h.1 ⟨hd, hc⟩)
      · exact br_f hc (h.2 (fun q => hc q.2))
  unfold dc_inner at key
  by_cases h1 : y_op = 250
  · subst h1
    exact br_t rfl (br_f (by decide) (br_f (by decide) (br_f (by decide) (br_f (by decide) (br_f (by decide) (br_f (by decide) (key _ _ (Or.inr ⟨by decide, by decide⟩))))))))
  by_cases h2 : y_op = 251
  · subst h2
    exact br_f (by decide) (br_t rfl (br_f (by decide) (br_f (by decide) (br_f (by decide) (br_f (by decide) (br_f (by decide) (key _ _ (Or.inr ⟨by decide, by decide⟩))))))))
  by_cases h3 : y_op = 230
  · subst h3
    exact br_f (by decide) (br_f (by decide) (br_t rfl (br_f (by decide) (br_f (by decide) (br_f (by decide) (br_f (by decide) (key _ _ (Or.inr ⟨by decide, by decide⟩))))))))
  by_cases h4 : y_op = 207
  · subst h4
    exact br_f (by decide) (br_f (by decide) (br_f (by decide) (br_t rfl (br_f (by decide) (br_f (by decide) (br_f (by decide) (key _ _ (Or.inr ⟨by decide, by decide⟩))))))))
  by_cases h5 : y_op = 244
  · subst h5
    exact br_f (by decide) (br_f (by decide) (br_f (by decide) (br_f (by decide) (br_t rfl (br_f (by decide) (br_f (by decide) (key _ _ (Or.inr ⟨by decide, by decide⟩))))))))
  by_cases h6 : y_op = 288
  · subst h6
    exact br_f (by decide) (br_f (by decide) (br_f (by decide) (br_f (by decide) (br_f (by decide) (br_t rfl (br_f (by decide) (key _ _ (Or.inr ⟨by decide, by decide⟩))))))))
  by_cases h7 : y_op = 290
  · subst h7
    exact br_f (by decide) (br_f (by decide) (br_f (by decide) (br_f (by decide) (br_f (by decide) (br_f (by decide) (br_t rfl (key _ _ (Or.inr ⟨by decide, by decide⟩))))))))
  · refine br_f h1 (br_f h2 (br_f h3 (br_f h4 (br_f h5 (br_f h6 (br_f h7 (key _ _ (Or.inl ⟨by decide, ?_⟩))))))))
    rw [decide_eq_false h1, decide_eq_false h2, decide_eq_false h3, decide_eq_false h4, decide_eq_false h5, decide_eq_false h6, decide_eq_false h7]
    rfl
end
