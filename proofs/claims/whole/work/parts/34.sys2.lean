/-! execution: OUT, HLT, MOV CRn, INT -/
/-- cr4: even, below 1024 -/
def sy_c4 (c : Int32) : Prop := ∃ q : Nat, q < 512 ∧ c = nI (2 * q)
/-- the port writes: n of them so far -/
def sy_P (pt pk : Int32) (po ypo : Nat → Int32) (n : Nat) : Prop := pt = nI n ∧ pk = nI (if n < 16 then n else 16) ∧ ∀ j, j < 16 → j < n → po j = ypo j
theorem sy_1022 (x : Int32) : sy_c4 (x &&& 1022) := by
  obtain ⟨j, hj, e⟩ := pk_andE x (m := 1023) 10 (by decide)
  have e2 : x &&& 1022 = (x &&& 1023) &&& 1022 := by rw [Int32.and_assoc]; rfl
  rw [e2, e]
  obtain ⟨i, hi, e3⟩ := (by decide +kernel : ∀ j, j < 1024 → ∃ i, i < 512 ∧ nI j &&& 1022 = nI (2 * i)) j hj
  exact ⟨i, hi, e3⟩
theorem sy_1008 {size : Int32} {cr3 : Int32} (h : mm_ok size cr3) (x : Int32) : mm_ok size (x &&& 1008) := by
  obtain ⟨S, q, a, b, c, d, _, _⟩ := h
  obtain ⟨j, hj, e⟩ := mm_even x
  exact ⟨S, 8 * j, a, b, c, d, e, by omega⟩
theorem sy_port : ∀ a, a < 256 → ∀ b, b < 256 → (nI a <<< ((8 : Int32) &&& 31)) ||| nI b = nI a * 256 + nI b := by
  intro a ha b hb
  rw [pk_shlN (n := a) ((8 : Int32) &&& 31) 8 (by decide) (by omega), show (256 : Int32) = nI 256 from rfl, pk_mul, nI_add]
  apply Int32.toBitVec_inj.mp
  apply BitVec.eq_of_toNat_eq
  rw [Int32.toBitVec_or, BitVec.toNat_or, pk_tn (by omega), pk_tn (by omega), pk_tn (by omega)]
  rw [show a * 2 ^ 8 = 2 ^ 8 * a from by omega, Nat.two_pow_add_eq_or_of_lt (by omega : b < 2 ^ 8) a |>.symm]
  omega
section
variable {size eip flags paging cr2 cr3 cr4 cr5 cpl state pending deliveries lastVector lastError portTotal portKept nxt returnTo raised raisedError directoryAt tableAt code form width mod regField rm linear immediate operand : Int32} {memory general ports mapped words : Nat → Int32} {y_eip y_faultError y_startEip y_op y_mod y_reg y_rm y_address y_imm : Int32} {y_old y_ports : Nat → Int32} {y_place : Nat → Int64}
/-- OUT -/
theorem ex_39 (hok : mm_ok size cr3) (hf : fl_ok flags) (hcp : cpl = 0 ∨ cpl = 3) (hst : state = 0) (hc4 : sy_c4 cr4) {n0 : Nat} (hP : sy_P portTotal portKept ports y_ports n0) (hn0 : n0 < 2 ^ 30) (hm : mod = 3) (him : y_imm = immediate) (hop : y_op = 230) :     (∃ (F nx oper cpl1 st1 pg1 c2 c3 c4 c5 pt pk : Int32) (n1 : Nat) (m' g' mp' wd' po ypo : Nat → Int32) (dA tA : Int32) (pl' : Nat → Int64), (fl_ok F ∧ (cpl1 = 0 ∨ cpl1 = 3) ∧ (st1 = 0 ∨ st1 = 1) ∧ mm_ok size c3 ∧ sy_c4 c4 ∧ sy_P pt pk po ypo n1 ∧ n1 ≤ n0 + 1) ∧
      (∀ (post : Int32 → SX → Prop) (J : Int32 → Int32 → Int32 → Int32 → Int32 → Int32 → Int32 → Int32 → Int32 → Int32 → Int32 → Int32 → Int32 → Int32 → Int32 → Int32 → Int32 → Int32 → Int32 → Int32 → Int32 → Int32 → Int32 → Int32 → Int32 → Int32 → Int32 → Int32 → Int32 → Int32 → Int32 → Int32 → (Nat → Int32) → (Nat → Int32) → (Nat → Int32) → (Nat → Int32) → (Nat → Int32) → Prop) (x2 x3 : Int32), wX_run_164 post J x2 x3 size eip F pg1 c2 c3 c4 c5 cpl1 st1 pending deliveries lastVector lastError pt pk nx returnTo (-1) raisedError dA tA code 39 width mod regField rm linear immediate oper m' g' po mp' wd' → wX_run_128 post J x2 x3 size eip flags paging cr2 cr3 cr4 cr5 cpl state pending deliveries lastVector lastError portTotal portKept nxt returnTo (-1) raisedError directoryAt tableAt code 39 width mod regField rm linear immediate operand memory general ports mapped words) ∧
      (∀ post : SY → Prop, post (size, nx, F, ar_cz pg1, c2, c3, c4, c5, cpl1, st1, pending, deliveries, lastVector, lastError, pt, -1, y_faultError, y_startEip, nxt, y_op, y_mod, y_reg, y_rm, y_address, y_imm, ar_ym m', g', y_old, ypo, pl') → wpY_execute post (size, y_eip, flags, (ar_cz paging), cr2, cr3, cr4, cr5, cpl, state, pending, deliveries, lastVector, lastError, portTotal, -1, y_faultError, y_startEip, nxt, y_op, y_mod, y_reg, y_rm, y_address, y_imm, (ar_ym memory), general, y_old, y_ports, y_place))) ∨
    (∃ (v er cr oper yf ye : Int32) (m' mp' wd' yg : Nat → Int32) (dA tA : Int32) (pl' : Nat → Int64), ((v = 14 ∧ 0 ≤ er) ∨ (v = 0 ∧ er = -1) ∨ (v = 13 ∧ 0 ≤ er)) ∧
      (∀ (post : Int32 → SX → Prop) (J : Int32 → Int32 → Int32 → Int32 → Int32 → Int32 → Int32 → Int32 → Int32 → Int32 → Int32 → Int32 → Int32 → Int32 → Int32 → Int32 → Int32 → Int32 → Int32 → Int32 → Int32 → Int32 → Int32 → Int32 → Int32 → Int32 → Int32 → Int32 → Int32 → Int32 → Int32 → Int32 → (Nat → Int32) → (Nat → Int32) → (Nat → Int32) → (Nat → Int32) → (Nat → Int32) → Prop) (x2 x3 : Int32), wX_run_164 post J x2 x3 size eip flags paging cr cr3 cr4 cr5 cpl state pending deliveries lastVector lastError portTotal portKept nxt returnTo v er dA tA code 39 width mod regField rm linear immediate oper m' general ports mp' wd' → wX_run_128 post J x2 x3 size eip flags paging cr2 cr3 cr4 cr5 cpl state pending deliveries lastVector lastError portTotal portKept nxt returnTo (-1) raisedError directoryAt tableAt code 39 width mod regField rm linear immediate operand memory general ports mapped words) ∧
      (∀ post : SY → Prop, post (size, ye, yf, (ar_cz paging), cr, cr3, cr4, cr5, cpl, state, pending, deliveries, lastVector, lastError, portTotal, v, er, y_startEip, nxt, y_op, y_mod, y_reg, y_rm, y_address, y_imm, ar_ym m', yg, y_old, y_ports, pl') → wpY_execute post (size, y_eip, flags, (ar_cz paging), cr2, cr3, cr4, cr5, cpl, state, pending, deliveries, lastVector, lastError, portTotal, -1, y_faultError, y_startEip, nxt, y_op, y_mod, y_reg, y_rm, y_address, y_imm, (ar_ym memory), general, y_old, y_ports, y_place))) ∨
    (∃ (k : Nat), k < 256 ∧
      (∀ (post : Int32 → SX → Prop) (J : Int32 → Int32 → Int32 → Int32 → Int32 → Int32 → Int32 → Int32 → Int32 → Int32 → Int32 → Int32 → Int32 → Int32 → Int32 → Int32 → Int32 → Int32 → Int32 → Int32 → Int32 → Int32 → Int32 → Int32 → Int32 → Int32 → Int32 → Int32 → Int32 → Int32 → Int32 → Int32 → (Nat → Int32) → (Nat → Int32) → (Nat → Int32) → (Nat → Int32) → (Nat → Int32) → Prop) (x2 x3 : Int32), wX_run_164 post J x2 x3 size eip flags paging cr2 cr3 cr4 cr5 cpl state pending deliveries lastVector lastError portTotal portKept nxt nxt (nI k) (-1) directoryAt tableAt code 39 width mod regField rm linear immediate operand memory general ports mapped words → wX_run_128 post J x2 x3 size eip flags paging cr2 cr3 cr4 cr5 cpl state pending deliveries lastVector lastError portTotal portKept nxt returnTo (-1) raisedError directoryAt tableAt code 39 width mod regField rm linear immediate operand memory general ports mapped words) ∧
      (∀ post : SY → Prop, wpY_deliver post (size, y_startEip, flags, (ar_cz paging), cr2, cr3, cr4, cr5, cpl, state, pending, deliveries, lastVector, lastError, portTotal, -1, y_faultError, y_startEip, nxt, y_op, y_mod, y_reg, y_rm, y_address, y_imm, (ar_ym memory), general, y_old, y_ports, y_place) (nI k) (-1) nxt → wpY_execute post (size, y_eip, flags, (ar_cz paging), cr2, cr3, cr4, cr5, cpl, state, pending, deliveries, lastVector, lastError, portTotal, -1, y_faultError, y_startEip, nxt, y_op, y_mod, y_reg, y_rm, y_address, y_imm, (ar_ym memory), general, y_old, y_ports, y_place))) := by
  subst him hop
  obtain ⟨e1, e2, e3⟩ := hP
  obtain ⟨j, hj, ej⟩ := pk_andE portTotal (m := 15) 4 (by decide)
  have hin : vp_in (portTotal &&& 15) 16 := by rw [ej]; exact vp_in_nI (by omega) (by omega)
  have ejn : j = n0 % 16 := by
    rw [e1, pk_andN (n := n0) (by omega) 4 (by decide)] at ej
    have := (nI_eq (by omega) (by omega)).mp ej
    omega
  obtain ⟨a, ha, ea⟩ := pk_andE y_imm (m := 255) 8 (by decide)
  obtain ⟨b, hb, eb⟩ := pk_andE (general 0) (m := 255) 8 (by decide)
  have ev : ((y_imm &&& 255) <<< ((8 : Int32) &&& 31)) ||| (general 0 &&& 255) = (y_imm &&& 255) * 256 + (general 0 &&& 255) := by rw [ea, eb]; exact sy_port a (by omega) b (by omega)
  have hcl : (portTotal &&& 15).toNatClampNeg = n0 % 16 := by rw [ej, nI_clamp (by omega)]; exact ejn
  have upd_ok : ∀ (v : Int32) (k : Nat), k < 16 → k < n0 + 1 → upd ports (portTotal &&& 15).toNatClampNeg v k = upd y_ports (portTotal &&& 15).toNatClampNeg v k := by
    intro v k hk hk2
    rw [hcl]
    by_cases z : k = n0 % 16
    · subst z; rw [pk_us, pk_us]
    · rw [pk_un z, pk_un z]
      by_cases w : k < n0
      · exact e3 k hk w
      · exact absurd (by omega : k = n0 % 16) z
  have ept : portTotal + 1 = nI (n0 + 1) := by rw [e1, nI_1]
  have yk : ∀ post : SY → Prop, post (size, nxt, flags, (ar_cz paging), cr2, cr3, cr4, cr5, cpl, state, pending, deliveries, lastVector, lastError, portTotal + 1, -1, y_faultError, y_startEip, nxt, 230, y_mod, y_reg, y_rm, y_address, y_imm, (ar_ym memory), general, y_old, upd y_ports (portTotal &&& 15).toNatClampNeg (((y_imm &&& 255) <<< ((8 : Int32) &&& 31)) ||| (general 0 &&& 255)), y_place) → wpY_execute post (size, y_eip, flags, (ar_cz paging), cr2, cr3, cr4, cr5, cpl, state, pending, deliveries, lastVector, lastError, portTotal, -1, y_faultError, y_startEip, nxt, 230, y_mod, y_reg, y_rm, y_address, y_imm, (ar_ym memory), general, y_old, y_ports, y_place) := by
    intro post hp
    rw [ev] at hp
    exact (br_t (by decide) (br_t (by decide) (br_t (by decide) (br_t (by decide) (br_t (by decide) (br_t (by decide) (br_f (by decide) (br_t (by decide) (br_f (by decide) (br_t (by decide) (br_t (by decide) (br_f (by decide) (br_f (by decide) (br_f (by decide) (br_f (by decide) (br_f (by decide) (br_f (by decide) (br_f (by decide) (br_f (by decide) (br_f (by decide) (br_f (by decide) (br_f (by decide) (br_t rfl (⟨hin, nm_e (nm_e (hp))⟩))))))))))))))))))))))))
  by_cases k16 : n0 < 16
  · have hk : ¬ 16 ≤ portKept := by rw [e2, if_pos k16]; exact nI_ge (b := 16) k16 (by decide)
    refine Or.inl ⟨flags, nxt, operand, cpl, 0, paging, cr2, cr3, cr4, cr5, portTotal + 1, portKept + 1, n0 + 1, memory, general, mapped, words, _, _, directoryAt, tableAt, y_place, ⟨hf, hcp, Or.inl rfl, hok, hc4, ⟨ept, ?_, upd_ok _⟩, by omega⟩, fun post J x2 x3 hp => ?_, fun post hp => by rw [hst] at *; exact yk post hp⟩
    · rw [e2, if_pos k16, nI_1]
      by_cases w : n0 + 1 < 16
      · rw [if_pos w]
      · rw [if_neg w, show n0 + 1 = 16 from by omega]
    · subst hst
      exact br_t rfl (br_f (by decide) (br_f (by decide) (br_f (by decide) (br_f (by decide) (br_t hm (br_t rfl (br_t rfl (br_t hm (br_f (by decide) (br_f (by decide) (br_f (by decide) (br_f (by decide) (br_f (by decide) (br_t rfl (br_f (by decide) (br_f (by decide) (br_t rfl (br_t rfl (br_f (by decide) (br_f (by decide) (br_t rfl (br_t rfl (br_f (by decide) (br_t (by decide) (br_f (by decide) (br_f (by decide) (br_f (by decide) (br_f (by decide) (br_f (by decide) (br_f (by decide) (br_f (by decide) (br_f (by decide) (br_f (by decide) (br_t rfl (⟨hin, nm_e (nm_e (br_f hk (nm_e (hp))))⟩)))))))))))))))))))))))))))))))))))
  · have hk : 16 ≤ portKept := by rw [e2, if_neg k16]; exact nI_le (a := 16) (by omega) (by decide)
    refine Or.inl ⟨flags, nxt, operand, cpl, 0, paging, cr2, cr3, cr4, cr5, portTotal + 1, portKept, n0 + 1, memory, general, mapped, words, _, _, directoryAt, tableAt, y_place, ⟨hf, hcp, Or.inl rfl, hok, hc4, ⟨ept, ?_, upd_ok _⟩, by omega⟩, fun post J x2 x3 hp => ?_, fun post hp => by rw [hst] at *; exact yk post hp⟩
    · rw [e2, if_neg k16, if_neg (by omega : ¬ n0 + 1 < 16)]
    · subst hst
      exact br_t rfl (br_f (by decide) (br_f (by decide) (br_f (by decide) (br_f (by decide) (br_t hm (br_t rfl (br_t rfl (br_t hm (br_f (by decide) (br_f (by decide) (br_f (by decide) (br_f (by decide) (br_f (by decide) (br_t rfl (br_f (by decide) (br_f (by decide) (br_t rfl (br_t rfl (br_f (by decide) (br_f (by decide) (br_t rfl (br_t rfl (br_f (by decide) (br_t (by decide) (br_f (by decide) (br_f (by decide) (br_f (by decide) (br_f (by decide) (br_f (by decide) (br_f (by decide) (br_f (by decide) (br_f (by decide) (br_f (by decide) (br_t rfl (⟨hin, nm_e (nm_e (br_t hk (hp)))⟩)))))))))))))))))))))))))))))))))))
end
