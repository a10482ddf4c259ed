/-! one access: map ~ reach, then the bytes -/
/-- the places of the bytes: the component's ints, the reference's longs -/
def mm_PL (mp : Nat → Int32) (pl : Nat → Int64) (n : Nat) : Prop := ∀ j, j < n → ∃ p : Nat, p < 2 ^ 32 ∧ mp j = nI p ∧ pl j = lN p
theorem mm_PL0 (mp : Nat → Int32) (pl : Nat → Int64) : mm_PL mp pl 0 := fun j h => absurd h (by omega)
theorem mm_PLs {mp : Nat → Int32} {pl : Nat → Int64} {n p : Nat} (h : mm_PL mp pl n) (hp : p < 2 ^ 32) : mm_PL (upd mp n (nI p)) (vp_updL pl n (lN p)) (n + 1) := by
  intro j hj
  by_cases e : j = n
  · subst e
    exact ⟨p, hp, pk_us, pk_uLs⟩
  · obtain ⟨x, hx, a, b⟩ := h j (by omega)
    exact ⟨x, hx, by rw [pk_un e]; exact a, by rw [pk_uLn e]; exact b⟩
theorem mm_and3 : ∀ i, i < 4 → nI i &&& 3 = nI i := by decide +kernel
theorem mm_neg {r : Int64} (h : r = -1 ∨ r = -2) : ¬ 0 ≤ r := by
  rcases h with h | h <;> subst h <;> decide
theorem mm_nonneg {p : Nat} (h : p < 2 ^ 32) : (0 : Int64) ≤ lN p := (pk_lLE (a := 0) (by omega) (by omega)).mpr (Nat.zero_le _)
section
variable {size eip flags paging cr2 cr3 cr4 cr5 cpl state pending deliveries lastVector lastError portTotal portKept nxt returnTo raised raisedError directoryAt tableAt code form width mod regField rm linear immediate operand : Int32} {memory general ports mapped words : Nat → Int32} {y_eip y_fault y_faultError y_startEip y_cursor y_op y_mod y_reg y_rm y_address y_imm : Int32} {y_old y_ports : Nat → Int32} {y_place : Nat → Int64}
theorem mm_mapL (hok : mm_ok size cr3) (a w l : Int32) {c : Nat} (hc : c ≤ 4) : ∀ (d i : Nat), i + d = c → ∀ (memory mapped : Nat → Int32) (directoryAt tableAt : Int32) (y_place : Nat → Int64), mm_PL mapped y_place i →
    (∃ (m' mp' : Nat → Int32) (dA tA : Int32) (pl' : Nat → Int64),
      (∀ post : SX → Prop, post (size, eip, flags, paging, cr2, cr3, cr4, cr5, cpl, state, pending, deliveries, lastVector, lastError, portTotal, portKept, nxt, returnTo, -1, raisedError, dA, tA, code, form, width, mod, regField, rm, linear, immediate, operand, m', general, ports, mp', words) → wX_map_3 post a (nI c) w l (d + 1) (nI i) size eip flags paging cr2 cr3 cr4 cr5 cpl state pending deliveries lastVector lastError portTotal portKept nxt returnTo (-1) raisedError directoryAt tableAt code form width mod regField rm linear immediate operand memory general ports mapped words) ∧
      (∀ post : Int32 → SY → Prop, post 1 (size, y_eip, flags, (ar_cz paging), cr2, cr3, cr4, cr5, cpl, state, pending, deliveries, lastVector, lastError, portTotal, -1, y_faultError, y_startEip, y_cursor, y_op, y_mod, y_reg, y_rm, y_address, y_imm, ar_ym m', general, y_old, y_ports, pl') → wY_reach_3 post a (nI c) w l (d + 1) (nI i) size y_eip flags (ar_cz paging) cr2 cr3 cr4 cr5 cpl state pending deliveries lastVector lastError portTotal (-1) y_faultError y_startEip y_cursor y_op y_mod y_reg y_rm y_address y_imm (ar_ym memory) general y_old y_ports y_place) ∧ mm_PL mp' pl' c) ∨
    (∃ (m' mp' : Nat → Int32) (dA tA cr er : Int32) (pl' : Nat → Int64),
      (∀ post : SX → Prop, post (size, eip, flags, paging, cr, cr3, cr4, cr5, cpl, state, pending, deliveries, lastVector, lastError, portTotal, portKept, nxt, returnTo, 14, er, dA, tA, code, form, width, mod, regField, rm, linear, immediate, operand, m', general, ports, mp', words) → wX_map_3 post a (nI c) w l (d + 1) (nI i) size eip flags paging cr2 cr3 cr4 cr5 cpl state pending deliveries lastVector lastError portTotal portKept nxt returnTo (-1) raisedError directoryAt tableAt code form width mod regField rm linear immediate operand memory general ports mapped words) ∧
      (∀ post : Int32 → SY → Prop, post 0 (size, y_eip, flags, (ar_cz paging), cr, cr3, cr4, cr5, cpl, state, pending, deliveries, lastVector, lastError, portTotal, 14, er, y_startEip, y_cursor, y_op, y_mod, y_reg, y_rm, y_address, y_imm, ar_ym m', general, y_old, y_ports, pl') → wY_reach_3 post a (nI c) w l (d + 1) (nI i) size y_eip flags (ar_cz paging) cr2 cr3 cr4 cr5 cpl state pending deliveries lastVector lastError portTotal (-1) y_faultError y_startEip y_cursor y_op y_mod y_reg y_rm y_address y_imm (ar_ym memory) general y_old y_ports y_place) ∧ 0 ≤ er) := by
  intro d
  induction d with
  | zero =>
    intro i hi memory mapped directoryAt tableAt y_place hP
    have e : i = c := by omega
    subst e
    have h : nI i ≤ nI i := nI_le (by omega) (by omega)
    exact Or.inl ⟨memory, mapped, directoryAt, tableAt, y_place, fun post hp => br_t h hp, fun post hp => br_t h hp, hP⟩
  | succ d ih =>
    intro i hi memory mapped directoryAt tableAt y_place hP
    have h : ¬ nI c ≤ nI i := nI_ge (by omega) (by omega)
    have hi4 : vp_in (nI i) 4 := vp_in_nI (by omega) (by omega)
    have hi3 : vp_in (nI i &&& 3) 4 := by rw [mm_and3 i (by omega)]; exact hi4
    have ecl : (nI i).toNatClampNeg = i := nI_clamp (by omega)
    have ecl3 : (nI i &&& 3).toNatClampNeg = i := by rw [mm_and3 i (by omega)]; exact ecl
    obtain ⟨r, dA, tA, m', hX, hY, _, hr⟩ := (mm_walk (size := size) (eip := eip) (flags := flags) (paging := paging) (cr2 := cr2) (cr3 := cr3) (cr4 := cr4) (cr5 := cr5) (cpl := cpl) (state := state) (pending := pending) (deliveries := deliveries) (lastVector := lastVector) (lastError := lastError) (portTotal := portTotal) (portKept := portKept) (nxt := nxt) (returnTo := returnTo) (raised := -1) (raisedError := raisedError) (directoryAt := directoryAt) (tableAt := tableAt) (code := code) (form := form) (width := width) (mod := mod) (regField := regField) (rm := rm) (linear := linear) (immediate := immediate) (operand := operand) (memory := memory) (general := general) (ports := ports) (mapped := mapped) (words := words) (y_eip := y_eip) (y_fault := -1) (y_faultError := y_faultError) (y_startEip := y_startEip) (y_cursor := y_cursor) (y_op := y_op) (y_mod := y_mod) (y_reg := y_reg) (y_rm := y_rm) (y_address := y_address) (y_imm := y_imm) (y_old := y_old) (y_ports := y_ports) (y_place := y_place)) hok (a + nI i) w l
    rcases hr with ⟨hr, em⟩ | ⟨⟨p, hp, ep⟩, hm⟩
    · refine Or.inr ?_
      subst em
      have hn := mm_neg hr
      have hpl : vp_updL y_place (nI i).toNatClampNeg r (nI i).toNatClampNeg = r := pk_uLs
      have eX : ∀ (z : Int32) (post : SX → Prop), (r = -2 ∧ z = 1 ∨ ¬ r = -2 ∧ z = 0) → wX_map_54 post w l z 14 size eip flags paging (a + nI i) cr3 cr4 cr5 cpl state pending deliveries lastVector lastError portTotal portKept nxt returnTo (-1) raisedError dA tA code form width mod regField rm linear immediate operand m' general ports mapped words → wX_map_3 post a (nI c) w l (d + 1 + 1) (nI i) size eip flags paging cr2 cr3 cr4 cr5 cpl state pending deliveries lastVector lastError portTotal portKept nxt returnTo (-1) raisedError directoryAt tableAt code form width mod regField rm linear immediate operand m' general ports mapped words := by
        intro z post hz hp
        refine br_f h (hX _ (br_f hn (nm_e ?_)))
        rcases hz with ⟨h2, e⟩ | ⟨h2, e⟩
        · subst e; exact br_t h2 hp
        · subst e; exact br_f h2 hp
      have eY : ∀ (z : Int32) (post : Int32 → SY → Prop), (r = -2 ∧ z = 1 ∨ ¬ r = -2 ∧ z = 0) → wY_reach_66 post a w l (nI i) z size y_eip flags (ar_cz paging) cr2 cr3 cr4 cr5 cpl state pending deliveries lastVector lastError portTotal 14 y_faultError y_startEip y_cursor y_op y_mod y_reg y_rm y_address y_imm (ar_ym m') general y_old y_ports (vp_updL y_place (nI i).toNatClampNeg r) → wY_reach_3 post a (nI c) w l (d + 1 + 1) (nI i) size y_eip flags (ar_cz paging) cr2 cr3 cr4 cr5 cpl state pending deliveries lastVector lastError portTotal (-1) y_faultError y_startEip y_cursor y_op y_mod y_reg y_rm y_address y_imm (ar_ym m') general y_old y_ports y_place := by
        intro z post hz hp
        refine br_f h (hY _ ⟨hi4, nm_e ⟨hi4, br_f ?_ ⟨hi4, ?_⟩⟩⟩)
        · rw [hpl]; exact hn
        · rcases hz with ⟨h2, e⟩ | ⟨h2, e⟩
          · subst e; exact br_t (hpl.trans h2) hp
          · subst e; exact br_f (fun q => h2 (hpl.symm.trans q)) hp
      have hz : ∃ z : Int32, (r = -2 ∧ z = 1 ∨ ¬ r = -2 ∧ z = 0) ∧ (z = 0 ∨ z = 1) := by
        by_cases q : r = -2
        · exact ⟨1, Or.inl ⟨q, rfl⟩, Or.inr rfl⟩
        · exact ⟨0, Or.inr ⟨q, rfl⟩, Or.inl rfl⟩
      obtain ⟨z, hz, hz01⟩ := hz
      by_cases hw : w = 0
      · by_cases hl : l = 3
        · exact ⟨m', mapped, dA, tA, a + nI i, z + 0 + 4, _, fun post hp => eX z post hz (br_t hw (br_t hl hp)), fun post hp => eY z post hz (br_t hw (br_t hl (nm_e (nm_e hp)))), by rcases hz01 with q | q <;> subst q <;> decide⟩
        · exact ⟨m', mapped, dA, tA, a + nI i, z + 0 + 0, _, fun post hp => eX z post hz (br_t hw (br_f hl hp)), fun post hp => eY z post hz (br_t hw (br_f hl (nm_e (nm_e hp)))), by rcases hz01 with q | q <;> subst q <;> decide⟩
      · by_cases hl : l = 3
        · exact ⟨m', mapped, dA, tA, a + nI i, z + 2 + 4, _, fun post hp => eX z post hz (br_f hw (br_t hl hp)), fun post hp => eY z post hz (br_f hw (br_t hl (nm_e (nm_e hp)))), by rcases hz01 with q | q <;> subst q <;> decide⟩
        · exact ⟨m', mapped, dA, tA, a + nI i, z + 2 + 0, _, fun post hp => eX z post hz (br_f hw (br_f hl hp)), fun post hp => eY z post hz (br_f hw (br_f hl (nm_e (nm_e hp)))), by rcases hz01 with q | q <;> subst q <;> decide⟩
    · subst ep
      have h0 := mm_nonneg hp
      have hpl : vp_updL y_place (nI i).toNatClampNeg (lN p) (nI i).toNatClampNeg = lN p := pk_uLs
      have sY : ∀ post : Int32 → SY → Prop, wY_reach_3 post a (nI c) w l (d + 1) (nI (i + 1)) size y_eip flags (ar_cz paging) cr2 cr3 cr4 cr5 cpl state pending deliveries lastVector lastError portTotal (-1) y_faultError y_startEip y_cursor y_op y_mod y_reg y_rm y_address y_imm (ar_ym m') general y_old y_ports (vp_updL y_place i (lN p)) → wY_reach_3 post a (nI c) w l (d + 1 + 1) (nI i) size y_eip flags (ar_cz paging) cr2 cr3 cr4 cr5 cpl state pending deliveries lastVector lastError portTotal (-1) y_faultError y_startEip y_cursor y_op y_mod y_reg y_rm y_address y_imm (ar_ym memory) general y_old y_ports y_place := by
        intro post hp
        refine br_f h (hY _ ⟨hi4, nm_e ⟨hi4, br_t ?_ (nm_r (nI_1 i) ?_)⟩⟩)
        · rw [hpl]; exact h0
        · rw [ecl]; exact hp
      have sX : ∀ post : SX → Prop, wX_map_3 post a (nI c) w l (d + 1) (nI (i + 1)) size eip flags paging cr2 cr3 cr4 cr5 cpl state pending deliveries lastVector lastError portTotal portKept nxt returnTo (-1) raisedError dA tA code form width mod regField rm linear immediate operand m' general ports (upd mapped i (nI p)) words → wX_map_3 post a (nI c) w l (d + 1 + 1) (nI i) size eip flags paging cr2 cr3 cr4 cr5 cpl state pending deliveries lastVector lastError portTotal portKept nxt returnTo (-1) raisedError directoryAt tableAt code form width mod regField rm linear immediate operand memory general ports mapped words := by
        intro post hp
        refine br_f h (hX _ (br_t h0 ?_))
        have tail : ∀ mm : Nat → Int32, mm = m' → wX_map_126 post (wX_map_3 post a (nI c) w l (d + 1)) a (nI c) w l (nI i) (lN p) size eip flags paging cr2 cr3 cr4 cr5 cpl state pending deliveries lastVector lastError portTotal portKept nxt returnTo (-1) raisedError dA tA code form width mod regField rm linear immediate operand mm general ports mapped words := by
          intro mm emm
          subst emm
          refine ⟨hi3, nm_e (nm_r (nI_1 i) ?_)⟩
          rw [ecl3, lN_i]
          exact hp
        rcases hm with ⟨hpg, em⟩ | ⟨hpg, hd, ht, em⟩
        · exact br_t hpg (tail _ em.symm)
        · refine br_f hpg ⟨hd, hd, nm_e ⟨ht, ?_⟩⟩
          rw [pk_vb]
          by_cases hw : w = 0
          · refine br_t hw ⟨ht, nm_e ?_⟩
            rw [pk_vb]
            rw [if_pos hw] at em
            exact tail _ em.symm
          · refine br_f hw ⟨ht, nm_e ?_⟩
            rw [pk_vb]
            rw [if_neg hw] at em
            exact tail _ em.symm
      rcases ih (i + 1) (by omega) m' (upd mapped i (nI p)) dA tA (vp_updL y_place i (lN p)) (mm_PLs hP hp) with ⟨m2, mp2, dA2, tA2, pl2, kX, kY, kP⟩ | ⟨m2, mp2, dA2, tA2, cr, er, pl2, kX, kY, kE⟩
      · exact Or.inl ⟨m2, mp2, dA2, tA2, pl2, fun post hp => sX post (kX post hp), fun post hp => sY post (kY post hp), kP⟩
      · exact Or.inr ⟨m2, mp2, dA2, tA2, cr, er, pl2, fun post hp => sX post (kX post hp), fun post hp => sY post (kY post hp), kE⟩
/-- one access of c bytes -/
theorem mm_map (hok : mm_ok size cr3) (a w l : Int32) {c : Nat} (hc : c ≤ 4) :
    (∃ (m' mp' : Nat → Int32) (dA tA : Int32) (pl' : Nat → Int64),
      (∀ post : SX → Prop, post (size, eip, flags, paging, cr2, cr3, cr4, cr5, cpl, state, pending, deliveries, lastVector, lastError, portTotal, portKept, nxt, returnTo, -1, raisedError, dA, tA, code, form, width, mod, regField, rm, linear, immediate, operand, m', general, ports, mp', words) → wpX_map post (size, eip, flags, paging, cr2, cr3, cr4, cr5, cpl, state, pending, deliveries, lastVector, lastError, portTotal, portKept, nxt, returnTo, -1, raisedError, directoryAt, tableAt, code, form, width, mod, regField, rm, linear, immediate, operand, memory, general, ports, mapped, words) a (nI c) w l) ∧
      (∀ post : Int32 → SY → Prop, post 1 (size, y_eip, flags, (ar_cz paging), cr2, cr3, cr4, cr5, cpl, state, pending, deliveries, lastVector, lastError, portTotal, -1, y_faultError, y_startEip, y_cursor, y_op, y_mod, y_reg, y_rm, y_address, y_imm, ar_ym m', general, y_old, y_ports, pl') → wpY_reach post (size, y_eip, flags, (ar_cz paging), cr2, cr3, cr4, cr5, cpl, state, pending, deliveries, lastVector, lastError, portTotal, -1, y_faultError, y_startEip, y_cursor, y_op, y_mod, y_reg, y_rm, y_address, y_imm, (ar_ym memory), general, y_old, y_ports, y_place) a (nI c) w l) ∧ mm_PL mp' pl' c) ∨
    (∃ (m' mp' : Nat → Int32) (dA tA cr er : Int32) (pl' : Nat → Int64),
      (∀ post : SX → Prop, post (size, eip, flags, paging, cr, cr3, cr4, cr5, cpl, state, pending, deliveries, lastVector, lastError, portTotal, portKept, nxt, returnTo, 14, er, dA, tA, code, form, width, mod, regField, rm, linear, immediate, operand, m', general, ports, mp', words) → wpX_map post (size, eip, flags, paging, cr2, cr3, cr4, cr5, cpl, state, pending, deliveries, lastVector, lastError, portTotal, portKept, nxt, returnTo, -1, raisedError, directoryAt, tableAt, code, form, width, mod, regField, rm, linear, immediate, operand, memory, general, ports, mapped, words) a (nI c) w l) ∧
      (∀ post : Int32 → SY → Prop, post 0 (size, y_eip, flags, (ar_cz paging), cr, cr3, cr4, cr5, cpl, state, pending, deliveries, lastVector, lastError, portTotal, 14, er, y_startEip, y_cursor, y_op, y_mod, y_reg, y_rm, y_address, y_imm, ar_ym m', general, y_old, y_ports, pl') → wpY_reach post (size, y_eip, flags, (ar_cz paging), cr2, cr3, cr4, cr5, cpl, state, pending, deliveries, lastVector, lastError, portTotal, -1, y_faultError, y_startEip, y_cursor, y_op, y_mod, y_reg, y_rm, y_address, y_imm, (ar_ym memory), general, y_old, y_ports, y_place) a (nI c) w l) ∧ 0 ≤ er) := by
  rcases (mm_mapL (size := size) (eip := eip) (flags := flags) (paging := paging) (cr2 := cr2) (cr3 := cr3) (cr4 := cr4) (cr5 := cr5) (cpl := cpl) (state := state) (pending := pending) (deliveries := deliveries) (lastVector := lastVector) (lastError := lastError) (portTotal := portTotal) (portKept := portKept) (nxt := nxt) (returnTo := returnTo) (raisedError := raisedError) (code := code) (form := form) (width := width) (mod := mod) (regField := regField) (rm := rm) (linear := linear) (immediate := immediate) (operand := operand) (general := general) (ports := ports) (words := words) (y_eip := y_eip) (y_faultError := y_faultError) (y_startEip := y_startEip) (y_cursor := y_cursor) (y_op := y_op) (y_mod := y_mod) (y_reg := y_reg) (y_rm := y_rm) (y_address := y_address) (y_imm := y_imm) (y_old := y_old) (y_ports := y_ports)) hok a w l hc c 0 (by omega) memory mapped directoryAt tableAt y_place (mm_PL0 _ _) with ⟨m2, mp2, dA2, tA2, pl2, kX, kY, kP⟩ | ⟨m2, mp2, dA2, tA2, cr, er, pl2, kX, kY, kE⟩
  · exact Or.inl ⟨m2, mp2, dA2, tA2, pl2, fun post hp => ⟨c + 1, kX post hp⟩, fun post hp => ⟨c + 1, kY post hp⟩, kP⟩
  · exact Or.inr ⟨m2, mp2, dA2, tA2, cr, er, pl2, fun post hp => ⟨c + 1, kX post hp⟩, fun post hp => ⟨c + 1, kY post hp⟩, kE⟩
end
