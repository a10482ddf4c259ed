/-! the other calls -/
theorem pe_255 (x : Int32) : x.toInt64 &&& 255 = (x &&& 255).toInt64 := by
  rw [Int32.toInt64_and]
  rfl
/-- the bytes asked for lie in memory -/
theorem pe_in {S a c : Nat} (hS : S ≤ 1024) (hc : c ≤ 8) (ha : a < 2 ^ 31) (h : nI a ≤ nI S - nI c) : a + c ≤ S := by
  rw [Int32.le_iff_toInt_le, pk_sub_toInt (by omega) (by omega), nI_toInt ha] at h
  omega
theorem pe_top {x : Int32} (h : ¬ x &&& (-2147483648) = 0) : x &&& (-2147483648) = -2147483648 := by
  apply b_ext
  intro i hi
  have hb : ∀ i, i < 32 → bt (-2147483648) i = decide (i = 31) := by decide +kernel
  rw [b_and, hb i hi]
  by_cases w : i = 31
  · subst w
    rw [(sh_neg _).mp ((ar_sf32 _).mp h)]; rfl
  · rw [decide_eq_false w, Bool.and_false]
section
variable {size eip flags paging cr2 cr3 cr4 cr5 cpl state pending deliveries lastVector lastError portTotal portKept nxt returnTo raised raisedError directoryAt tableAt code form width mod regField rm linear immediate operand : Int32} {memory general ports mapped words : Nat → Int32} {y_eip y_fault y_faultError y_startEip y_cursor y_op y_mod y_reg y_rm y_address y_imm : Int32} {y_old y_ports : Nat → Int32} {y_place : Nat → Int64}
/-- peek's loop -/
theorem pe_loop {S a c : Nat} (hS : S ≤ 1024) (hc : c ≤ 8) (hac : a + c ≤ S) : ∀ (d i : Nat) (acc : Int64), i + d = c → ∃ r : Int64,
    (∀ post : Int64 → Prop, post r → wX_peek_16 post (nI a) (nI c) size eip flags paging cr2 cr3 cr4 cr5 cpl state pending deliveries lastVector lastError portTotal portKept nxt returnTo raised raisedError directoryAt tableAt code form width mod regField rm linear immediate operand memory general ports mapped words (d + 1) acc (nI i)) ∧ (∀ post : Int64 → Prop, post r → wY_peek_32 post (nI a) (nI c) size eip flags (ar_cz paging) cr2 cr3 cr4 cr5 cpl state pending deliveries lastVector lastError portTotal y_fault y_faultError y_startEip y_cursor y_op y_mod y_reg y_rm y_address y_imm (ar_ym memory) general y_old y_ports y_place (d + 1) acc (nI i)) := by
  intro d
  induction d with
  | zero =>
    intro i acc hi
    have hle : nI c ≤ nI i := nI_le (by omega) (by omega)
    exact ⟨acc, fun post hp => br_t hle hp, fun post hp => br_t hle hp⟩
  | succ d ih =>
    intro i acc hi
    have hnle : ¬ nI c ≤ nI i := nI_ge (by omega) (by omega)
    have hin : vp_in (nI a + nI i) 1024 := by rw [nI_add]; exact vp_in_nI (by omega) (by omega)
    obtain ⟨r, zX, zY⟩ := ih (i + 1) (acc ||| ((((memory (nI a + nI i).toNatClampNeg).toInt64) &&& 255) <<< ((8 * nI i).toInt64 &&& 63))) (by omega)
    refine ⟨r, fun post hp => br_f hnle ⟨hin, nm_e (nm_r (nI_1 i) (zX post hp))⟩, fun post hp => br_f hnle ⟨hin, nm_r ?_ (nm_r (nI_1 i) (zY post hp))⟩⟩
    rw [pe_255]
    rfl
/-- poke's loop -/
theorem pe_poke {S a c : Nat} (hS : S ≤ 1024) (hc : c ≤ 8) (hac : a + c ≤ S) (b : Int64) : ∀ (d i : Nat) (m : Nat → Int32), i + d = c → ∃ m' : Nat → Int32,
    (∀ post : Int32 → SX → Prop, post 1 (size, eip, flags, paging, cr2, cr3, cr4, cr5, cpl, state, pending, deliveries, lastVector, lastError, portTotal, portKept, nxt, returnTo, raised, raisedError, directoryAt, tableAt, code, form, width, mod, regField, rm, linear, immediate, operand, m', general, ports, mapped, words) → wX_poke_15 post (nI a) b (nI c) size eip flags paging cr2 cr3 cr4 cr5 cpl state pending deliveries lastVector lastError portTotal portKept nxt returnTo raised raisedError directoryAt tableAt code form width mod regField rm linear immediate operand (d + 1) (nI i) m general ports mapped words) ∧ (∀ post : Int32 → SY → Prop, post 1 (size, eip, flags, (ar_cz paging), cr2, cr3, cr4, cr5, cpl, state, pending, deliveries, lastVector, lastError, portTotal, y_fault, y_faultError, y_startEip, y_cursor, y_op, y_mod, y_reg, y_rm, y_address, y_imm, ar_ym m', general, y_old, y_ports, y_place) → wY_poke_33 post (nI a) b (nI c) size eip flags (ar_cz paging) cr2 cr3 cr4 cr5 cpl state pending deliveries lastVector lastError portTotal y_fault y_faultError y_startEip y_cursor y_op y_mod y_reg y_rm y_address y_imm (d + 1) (nI i) (ar_ym m) general y_old y_ports y_place) := by
  intro d
  induction d with
  | zero =>
    intro i m hi
    have hle : nI c ≤ nI i := nI_le (by omega) (by omega)
    exact ⟨m, fun post hp => br_t hle hp, fun post hp => br_t hle hp⟩
  | succ d ih =>
    intro i m hi
    have hnle : ¬ nI c ≤ nI i := nI_ge (by omega) (by omega)
    have hin : vp_in (nI a + nI i) 1024 := by rw [nI_add]; exact vp_in_nI (by omega) (by omega)
    obtain ⟨m', zX, zY⟩ := ih (i + 1) (upd m (nI a + nI i).toNatClampNeg ((((b.toUInt64 >>> ((8 * nI i).toInt64.toUInt64 &&& Int64.toUInt64 63)).toInt64).toInt32).toInt8.toInt32)) (by omega)
    exact ⟨m', fun post hp => br_f hnle ⟨hin, nm_r (by rw [pk_vb]) (nm_r (nI_1 i) (zX post hp))⟩, fun post hp => br_f hnle ⟨hin, nm_r (ar_ymU _ _ _).symm (nm_r (nI_1 i) (zY post hp))⟩⟩
theorem pe_isIn (a c : Int32) : ∃ r : Int32, (∀ post : Int32 → Prop, post r → wpX_isInMemory post (size, eip, flags, paging, cr2, cr3, cr4, cr5, cpl, state, pending, deliveries, lastVector, lastError, portTotal, portKept, nxt, returnTo, raised, raisedError, directoryAt, tableAt, code, form, width, mod, regField, rm, linear, immediate, operand, memory, general, ports, mapped, words) a c) ∧ ((r = 0 ∧ (c < 1 ∨ 8 < c ∨ a < 0 ∨ ¬ a ≤ size - c)) ∨ (r = 1 ∧ ¬ c < 1 ∧ ¬ 8 < c ∧ ¬ a < 0 ∧ a ≤ size - c)) := by
  by_cases h1 : c < 1
  · exact ⟨0, fun post hp => br_t h1 hp, Or.inl ⟨rfl, Or.inl h1⟩⟩
  by_cases h2 : 8 < c
  · exact ⟨0, fun post hp => br_f h1 (br_t h2 hp), Or.inl ⟨rfl, Or.inr (Or.inl h2)⟩⟩
  by_cases h3 : a < 0
  · exact ⟨0, fun post hp => br_f h1 (br_f h2 (br_t h3 hp)), Or.inl ⟨rfl, Or.inr (Or.inr (Or.inl h3))⟩⟩
  by_cases h4 : size - c < a
  · exact ⟨0, fun post hp => br_f h1 (br_f h2 (br_f h3 (br_t h4 hp))), Or.inl ⟨rfl, Or.inr (Or.inr (Or.inr (Int32.not_le.mpr h4)))⟩⟩
  · exact ⟨1, fun post hp => br_f h1 (br_f h2 (br_f h3 (br_f h4 hp))), Or.inr ⟨rfl, h1, h2, h3, Int32.not_lt.mp h4⟩⟩
theorem pe_ac {a c : Int32} (hok : mm_ok size cr3) (h1 : ¬ c < 1) (h2 : ¬ 8 < c) (h3 : ¬ a < 0) (h4 : a ≤ size - c) : ∃ S i j : Nat, S ≤ 1024 ∧ j ≤ 8 ∧ i + j ≤ S ∧ a = nI i ∧ c = nI j := by
  obtain ⟨S, q, hS, _, hS2, _⟩ := hok
  obtain ⟨i, hi, rfl⟩ := nI_of h3
  have c0 : ¬ c < 0 := fun w => h1 (Int32.lt_trans w (by decide))
  obtain ⟨j, hj, rfl⟩ := nI_of c0
  have hj8 : j ≤ 8 := by
    refine Nat.le_of_not_lt (fun w => h2 ?_)
    exact nI_lt (a := 8) w hj
  rw [hS] at h4
  exact ⟨S, i, j, hS2, hj8, pe_in hS2 hj8 hi h4, rfl, rfl⟩
theorem pe_main (hok : mm_ok size cr3) (a c : Int32) : ∃ r : Int64, (∀ post : Int64 → Prop, post r → wpX_peek post (size, eip, flags, paging, cr2, cr3, cr4, cr5, cpl, state, pending, deliveries, lastVector, lastError, portTotal, portKept, nxt, returnTo, raised, raisedError, directoryAt, tableAt, code, form, width, mod, regField, rm, linear, immediate, operand, memory, general, ports, mapped, words) a c) ∧ (∀ post : Int64 → Prop, post r → wpY_peek post (size, eip, flags, (ar_cz paging), cr2, cr3, cr4, cr5, cpl, state, pending, deliveries, lastVector, lastError, portTotal, y_fault, y_faultError, y_startEip, y_cursor, y_op, y_mod, y_reg, y_rm, y_address, y_imm, (ar_ym memory), general, y_old, y_ports, y_place) a c) := by
  obtain ⟨r, kX, hr⟩ := (pe_isIn (size := size) (eip := eip) (flags := flags) (paging := paging) (cr2 := cr2) (cr3 := cr3) (cr4 := cr4) (cr5 := cr5) (cpl := cpl) (state := state) (pending := pending) (deliveries := deliveries) (lastVector := lastVector) (lastError := lastError) (portTotal := portTotal) (portKept := portKept) (nxt := nxt) (returnTo := returnTo) (raised := raised) (raisedError := raisedError) (directoryAt := directoryAt) (tableAt := tableAt) (code := code) (form := form) (width := width) (mod := mod) (regField := regField) (rm := rm) (linear := linear) (immediate := immediate) (operand := operand) (memory := memory) (general := general) (ports := ports) (mapped := mapped) (words := words)) a c
  rcases hr with ⟨rfl, hr⟩ | ⟨rfl, h1, h2, h3, h4⟩
  · refine ⟨0, fun post hp => (by unfold wpX_peek; exact kX _ (br_t rfl hp)), fun post hp => ?_⟩
    by_cases h1 : c < 1
    · exact br_t h1 hp
    by_cases h2 : 8 < c
    · exact br_f h1 (br_t h2 hp)
    by_cases h3 : a < 0
    · exact br_f h1 (br_f h2 (br_t h3 hp))
    · exact br_f h1 (br_f h2 (br_f h3 (br_f (((hr.resolve_left h1).resolve_left h2).resolve_left h3) hp)))
  · obtain ⟨S, i, j, hS, hj, hij, ea, ec⟩ := pe_ac hok h1 h2 h3 h4
    subst ea ec
    obtain ⟨r, zX, zY⟩ := (pe_loop (size := size) (eip := eip) (flags := flags) (paging := paging) (cr2 := cr2) (cr3 := cr3) (cr4 := cr4) (cr5 := cr5) (cpl := cpl) (state := state) (pending := pending) (deliveries := deliveries) (lastVector := lastVector) (lastError := lastError) (portTotal := portTotal) (portKept := portKept) (nxt := nxt) (returnTo := returnTo) (raised := raised) (raisedError := raisedError) (directoryAt := directoryAt) (tableAt := tableAt) (code := code) (form := form) (width := width) (mod := mod) (regField := regField) (rm := rm) (linear := linear) (immediate := immediate) (operand := operand) (memory := memory) (general := general) (ports := ports) (mapped := mapped) (words := words) (y_fault := y_fault) (y_faultError := y_faultError) (y_startEip := y_startEip) (y_cursor := y_cursor) (y_op := y_op) (y_mod := y_mod) (y_reg := y_reg) (y_rm := y_rm) (y_address := y_address) (y_imm := y_imm) (y_old := y_old) (y_ports := y_ports) (y_place := y_place)) hS hj hij j 0 0 (by omega)
    exact ⟨r, fun post hp => (by unfold wpX_peek; exact kX _ (br_f (by decide) ⟨_, zX _ hp⟩)), fun post hp => br_f h1 (br_f h2 (br_f h3 (br_t h4 ⟨_, zY _ hp⟩)))⟩
theorem po_main (hok : mm_ok size cr3) (a : Int32) (b : Int64) (c : Int32) : ∃ (r : Int32) (m' : Nat → Int32), (∀ post : Int32 → SX → Prop, post r (size, eip, flags, paging, cr2, cr3, cr4, cr5, cpl, state, pending, deliveries, lastVector, lastError, portTotal, portKept, nxt, returnTo, raised, raisedError, directoryAt, tableAt, code, form, width, mod, regField, rm, linear, immediate, operand, m', general, ports, mapped, words) → wpX_poke post (size, eip, flags, paging, cr2, cr3, cr4, cr5, cpl, state, pending, deliveries, lastVector, lastError, portTotal, portKept, nxt, returnTo, raised, raisedError, directoryAt, tableAt, code, form, width, mod, regField, rm, linear, immediate, operand, memory, general, ports, mapped, words) a b c) ∧ (∀ post : Int32 → SY → Prop, post r (size, eip, flags, (ar_cz paging), cr2, cr3, cr4, cr5, cpl, state, pending, deliveries, lastVector, lastError, portTotal, y_fault, y_faultError, y_startEip, y_cursor, y_op, y_mod, y_reg, y_rm, y_address, y_imm, ar_ym m', general, y_old, y_ports, y_place) → wpY_poke post (size, eip, flags, (ar_cz paging), cr2, cr3, cr4, cr5, cpl, state, pending, deliveries, lastVector, lastError, portTotal, y_fault, y_faultError, y_startEip, y_cursor, y_op, y_mod, y_reg, y_rm, y_address, y_imm, (ar_ym memory), general, y_old, y_ports, y_place) a b c) := by
  obtain ⟨r, kX, hr⟩ := (pe_isIn (size := size) (eip := eip) (flags := flags) (paging := paging) (cr2 := cr2) (cr3 := cr3) (cr4 := cr4) (cr5 := cr5) (cpl := cpl) (state := state) (pending := pending) (deliveries := deliveries) (lastVector := lastVector) (lastError := lastError) (portTotal := portTotal) (portKept := portKept) (nxt := nxt) (returnTo := returnTo) (raised := raised) (raisedError := raisedError) (directoryAt := directoryAt) (tableAt := tableAt) (code := code) (form := form) (width := width) (mod := mod) (regField := regField) (rm := rm) (linear := linear) (immediate := immediate) (operand := operand) (memory := memory) (general := general) (ports := ports) (mapped := mapped) (words := words)) a c
  rcases hr with ⟨rfl, hr⟩ | ⟨rfl, h1, h2, h3, h4⟩
  · refine ⟨0, memory, fun post hp => (by unfold wpX_poke; exact kX _ (br_t rfl hp)), fun post hp => ?_⟩
    by_cases h1 : c < 1
    · exact br_t h1 hp
    by_cases h2 : 8 < c
    · exact br_f h1 (br_t h2 hp)
    by_cases h3 : a < 0
    · exact br_f h1 (br_f h2 (br_t h3 hp))
    · exact br_f h1 (br_f h2 (br_f h3 (br_f (((hr.resolve_left h1).resolve_left h2).resolve_left h3) hp)))
  · obtain ⟨S, i, j, hS, hj, hij, ea, ec⟩ := pe_ac hok h1 h2 h3 h4
    subst ea ec
    obtain ⟨m', zX, zY⟩ := (pe_poke (size := size) (eip := eip) (flags := flags) (paging := paging) (cr2 := cr2) (cr3 := cr3) (cr4 := cr4) (cr5 := cr5) (cpl := cpl) (state := state) (pending := pending) (deliveries := deliveries) (lastVector := lastVector) (lastError := lastError) (portTotal := portTotal) (portKept := portKept) (nxt := nxt) (returnTo := returnTo) (raised := raised) (raisedError := raisedError) (directoryAt := directoryAt) (tableAt := tableAt) (code := code) (form := form) (width := width) (mod := mod) (regField := regField) (rm := rm) (linear := linear) (immediate := immediate) (operand := operand) (general := general) (ports := ports) (mapped := mapped) (words := words) (y_fault := y_fault) (y_faultError := y_faultError) (y_startEip := y_startEip) (y_cursor := y_cursor) (y_op := y_op) (y_mod := y_mod) (y_reg := y_reg) (y_rm := y_rm) (y_address := y_address) (y_imm := y_imm) (y_old := y_old) (y_ports := y_ports) (y_place := y_place)) hS hj hij b j 0 memory (by omega)
    exact ⟨1, m', fun post hp => (by unfold wpX_poke; exact kX _ (br_f (by decide) ⟨_, zX _ hp⟩)), fun post hp => br_f h1 (br_f h2 (br_f h3 (br_t h4 ⟨_, zY _ hp⟩)))⟩
/-- translate -/
theorem tr_main (hok : mm_ok size cr3) (a k : Int32) : ∃ (r d t : Int32), (∀ post : Int32 → SX → Prop, post r (size, eip, flags, paging, cr2, cr3, cr4, cr5, cpl, state, pending, deliveries, lastVector, lastError, portTotal, portKept, nxt, returnTo, raised, raisedError, d, t, code, form, width, mod, regField, rm, linear, immediate, operand, memory, general, ports, mapped, words) → wpX_translate post (size, eip, flags, paging, cr2, cr3, cr4, cr5, cpl, state, pending, deliveries, lastVector, lastError, portTotal, portKept, nxt, returnTo, raised, raisedError, directoryAt, tableAt, code, form, width, mod, regField, rm, linear, immediate, operand, memory, general, ports, mapped, words) a k) ∧ (∀ post : Int32 → SY → Prop, post r (size, eip, flags, (ar_cz paging), cr2, cr3, cr4, cr5, cpl, state, pending, deliveries, lastVector, lastError, portTotal, y_fault, y_faultError, y_startEip, y_cursor, y_op, y_mod, y_reg, y_rm, y_address, y_imm, (ar_ym memory), general, y_old, y_ports, y_place) → wpY_translate post (size, eip, flags, (ar_cz paging), cr2, cr3, cr4, cr5, cpl, state, pending, deliveries, lastVector, lastError, portTotal, y_fault, y_faultError, y_startEip, y_cursor, y_op, y_mod, y_reg, y_rm, y_address, y_imm, (ar_ym memory), general, y_old, y_ports, y_place) a k) := by
  have one : ∀ w l : Int32, ∃ (r d t : Int32), (∀ post : Int32 → SX → Prop, post r (size, eip, flags, paging, cr2, cr3, cr4, cr5, cpl, state, pending, deliveries, lastVector, lastError, portTotal, portKept, nxt, returnTo, raised, raisedError, d, t, code, form, width, mod, regField, rm, linear, immediate, operand, memory, general, ports, mapped, words) → wX_translate_25 post l w a size eip flags paging cr2 cr3 cr4 cr5 cpl state pending deliveries lastVector lastError portTotal portKept nxt returnTo raised raisedError directoryAt tableAt code form width mod regField rm linear immediate operand memory general ports mapped words) ∧ (∀ post : Int32 → SY → Prop, post r (size, eip, flags, (ar_cz paging), cr2, cr3, cr4, cr5, cpl, state, pending, deliveries, lastVector, lastError, portTotal, y_fault, y_faultError, y_startEip, y_cursor, y_op, y_mod, y_reg, y_rm, y_address, y_imm, (ar_ym memory), general, y_old, y_ports, y_place) → wY_translate_24 post l w a size eip flags (ar_cz paging) cr2 cr3 cr4 cr5 cpl state pending deliveries lastVector lastError portTotal y_fault y_faultError y_startEip y_cursor y_op y_mod y_reg y_rm y_address y_imm (ar_ym memory) general y_old y_ports y_place) := by
    intro w l
    obtain ⟨r, d, t, m', kX, _, kY, _⟩ := (mm_walk (size := size) (eip := eip) (flags := flags) (paging := paging) (cr2 := cr2) (cr3 := cr3) (cr4 := cr4) (cr5 := cr5) (cpl := cpl) (state := state) (pending := pending) (deliveries := deliveries) (lastVector := lastVector) (lastError := lastError) (portTotal := portTotal) (portKept := portKept) (nxt := nxt) (returnTo := returnTo) (raised := raised) (raisedError := raisedError) (directoryAt := directoryAt) (tableAt := tableAt) (code := code) (form := form) (width := width) (mod := mod) (regField := regField) (rm := rm) (linear := linear) (immediate := immediate) (operand := operand) (memory := memory) (general := general) (ports := ports) (mapped := mapped) (words := words) (y_eip := eip) (y_fault := y_fault) (y_faultError := y_faultError) (y_startEip := y_startEip) (y_cursor := y_cursor) (y_op := y_op) (y_mod := y_mod) (y_reg := y_reg) (y_rm := y_rm) (y_address := y_address) (y_imm := y_imm) (y_old := y_old) (y_ports := y_ports) (y_place := y_place)) hok a w l
    by_cases h0 : 0 ≤ r
    · by_cases hs : r < size.toInt64
      · exact ⟨r.toInt32, d, t, fun post hp => kX _ (br_t h0 (br_t hs hp)), fun post hp => kY _ (br_t h0 (br_t hs hp))⟩
      · exact ⟨-2, d, t, fun post hp => kX _ (br_t h0 (br_f hs hp)), fun post hp => kY _ (br_t h0 (br_f hs hp))⟩
    · exact ⟨-1, d, t, fun post hp => kX _ (br_f h0 hp), fun post hp => kY _ (br_f h0 hp)⟩
  by_cases h1 : k &&& 1 = 0
  · by_cases h2 : k &&& 2 = 0
    · obtain ⟨r, d, t, zX, zY⟩ := one 0 0
      exact ⟨r, d, t, fun post hp => br_t h2 (br_t h1 (zX _ hp)), fun post hp => br_t h1 (br_t h2 (zY _ hp))⟩
    · obtain ⟨r, d, t, zX, zY⟩ := one 0 3
      exact ⟨r, d, t, fun post hp => br_f h2 (br_t h1 (zX _ hp)), fun post hp => br_t h1 (br_f h2 (zY _ hp))⟩
  · by_cases h2 : k &&& 2 = 0
    · obtain ⟨r, d, t, zX, zY⟩ := one 1 0
      exact ⟨r, d, t, fun post hp => br_t h2 (br_f h1 (zX _ hp)), fun post hp => br_f h1 (br_t h2 (zY _ hp))⟩
    · obtain ⟨r, d, t, zX, zY⟩ := one 1 3
      exact ⟨r, d, t, fun post hp => br_f h2 (br_f h1 (zX _ hp)), fun post hp => br_f h1 (br_f h2 (zY _ hp))⟩
end
