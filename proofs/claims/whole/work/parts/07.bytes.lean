/-! the bytes of an access: readMapped ~ readPlaces, writeMapped ~ writePlaces; fetch ~ next -/
theorem by_big {p S : Nat} (h : S ≤ p) (hp : p < 2 ^ 32) (hS : S ≤ 1024) : nI p < 0 ∨ (¬ nI p < 0 ∧ nI S ≤ nI p) := by
  by_cases z : nI p < 0
  · exact Or.inl z
  · obtain ⟨j, hj, e⟩ := nI_of z
    have e2 : p = j := by
      have := congrArg (fun x : Int32 => x.toBitVec.toNat) e
      rw [show (nI p).toBitVec.toNat = p from pk_tn hp, show (nI j).toBitVec.toNat = j from pk_tn (by omega)] at this
      exact this
    subst e2
    exact Or.inr ⟨z, nI_le h hj⟩
section
variable {size eip flags paging cr2 cr3 cr4 cr5 cpl state pending deliveries lastVector lastError portTotal portKept nxt returnTo raised raisedError directoryAt tableAt code form width mod regField rm linear immediate operand : Int32} {memory general ports mapped words : Nat → Int32} {y_eip y_fault y_faultError y_startEip y_cursor y_op y_mod y_reg y_rm y_address y_imm : Int32} {y_old y_ports : Nat → Int32} {y_place : Nat → Int64}
theorem by_rstep {S c i : Nat} (hS : size = nI S) (hS2 : S ≤ 1024) (hc : c ≤ 4) (hi : i < c) (hP : mm_PL mapped y_place c) : ∃ b : Nat, b < 256 ∧
    (∀ (post : Int32 → Prop) (n : Nat) (x : Int32), wX_readMapped_4 post (nI c) size eip flags paging cr2 cr3 cr4 cr5 cpl state pending deliveries lastVector lastError portTotal portKept nxt returnTo raised raisedError directoryAt tableAt code form width mod regField rm linear immediate operand memory general ports mapped words n (x ||| (nI b <<< ((8 * nI i) &&& 31))) (nI (i + 1)) → wX_readMapped_4 post (nI c) size eip flags paging cr2 cr3 cr4 cr5 cpl state pending deliveries lastVector lastError portTotal portKept nxt returnTo raised raisedError directoryAt tableAt code form width mod regField rm linear immediate operand memory general ports mapped words (n + 1) x (nI i)) ∧
    (∀ (post : Int32 → Prop) (n : Nat) (x : Int32), wY_readPlaces_4 post (nI c) size y_eip flags (ar_cz paging) cr2 cr3 cr4 cr5 cpl state pending deliveries lastVector lastError portTotal raised y_faultError y_startEip y_cursor y_op y_mod y_reg y_rm y_address y_imm (ar_ym memory) general y_old y_ports y_place n (x ||| (nI b <<< ((8 * nI i) &&& 31))) (nI (i + 1)) → wY_readPlaces_4 post (nI c) size y_eip flags (ar_cz paging) cr2 cr3 cr4 cr5 cpl state pending deliveries lastVector lastError portTotal raised y_faultError y_startEip y_cursor y_op y_mod y_reg y_rm y_address y_imm (ar_ym memory) general y_old y_ports y_place (n + 1) x (nI i)) := by
  subst hS
  obtain ⟨p, hp, em, ep⟩ := hP i hi
  have h : ¬ nI c ≤ nI i := nI_ge (by omega) (by omega)
  have hi4 : vp_in (nI i) 4 := vp_in_nI (by omega) (by omega)
  have hi3 : vp_in (nI i &&& 3) 4 := by rw [mm_and3 i (by omega)]; exact hi4
  have em3 : mapped (nI i &&& 3).toNatClampNeg = nI p := by rw [mm_and3 i (by omega), nI_clamp (by omega)]; exact em
  have epl : y_place (nI i).toNatClampNeg = lN p := by rw [nI_clamp (by omega)]; exact ep
  have esz : (nI S).toInt64 = lN S := nI_l (by omega)
  by_cases hs : p < S
  · obtain ⟨b, hb, eb⟩ := pk_andE (memory p) (m := 255) 8 (by decide)
    have ecl : (nI p).toNatClampNeg = p := nI_clamp (by omega)
    refine ⟨b, by omega, fun post n x hp' => ?_, fun post n x hp' => ?_⟩
    · refine br_f h ⟨hi3, nm_r em3 (br_f (nI_pos (by omega)) (br_f (nI_ge hs (by omega)) ⟨vp_in_nI (by omega) (by omega), nm_r ?_ (nm_r (nI_1 i) hp')⟩))⟩
      rw [ecl, eb]
    · refine br_f h ⟨hi4, br_t ?_ ⟨hi4, ?_, nm_r ?_ (nm_r (nI_1 i) hp')⟩⟩
      · rw [epl, esz]; exact (pk_lLT (by omega) (by omega)).mpr hs
      · rw [epl, lN_i]; exact vp_in_nI (by omega) (by omega)
      · rw [epl, lN_i, ecl, ← eb]; rfl
  · refine ⟨255, by omega, fun post n x hp' => ?_, fun post n x hp' => ?_⟩
    · rcases by_big (by omega : S ≤ p) hp hS2 with z | ⟨z, z2⟩
      · exact br_f h ⟨hi3, nm_r em3 (br_t z (nm_e (nm_r (nI_1 i) hp')))⟩
      · exact br_f h ⟨hi3, nm_r em3 (br_f z (br_t z2 (nm_e (nm_r (nI_1 i) hp'))))⟩
    · refine br_f h ⟨hi4, br_f ?_ (nm_e (nm_r (nI_1 i) hp'))⟩
      rw [epl, esz]; exact fun z => hs ((pk_lLT (by omega) (by omega)).mp z)
theorem by_readL {S c : Nat} (hS : size = nI S) (hS2 : S ≤ 1024) (hc : c ≤ 4) (hP : mm_PL mapped y_place c) : ∀ (d i : Nat), i + d = c → ∀ x : Int32, ∃ v : Int32,
    (∀ post : Int32 → Prop, post v → wX_readMapped_4 post (nI c) size eip flags paging cr2 cr3 cr4 cr5 cpl state pending deliveries lastVector lastError portTotal portKept nxt returnTo raised raisedError directoryAt tableAt code form width mod regField rm linear immediate operand memory general ports mapped words (d + 1) x (nI i)) ∧
    (∀ post : Int32 → Prop, post v → wY_readPlaces_4 post (nI c) size y_eip flags (ar_cz paging) cr2 cr3 cr4 cr5 cpl state pending deliveries lastVector lastError portTotal raised y_faultError y_startEip y_cursor y_op y_mod y_reg y_rm y_address y_imm (ar_ym memory) general y_old y_ports y_place (d + 1) x (nI i)) := by
  intro d
  induction d with
  | zero =>
    intro i hi x
    have e : i = c := by omega
    subst e
    have h : nI i ≤ nI i := nI_le (by omega) (by omega)
    exact ⟨x, fun post hp => br_t h hp, fun post hp => br_t h hp⟩
  | succ d ih =>
    intro i hi x
    obtain ⟨b, hb, sX, sY⟩ := (by_rstep (size := size) (eip := eip) (flags := flags) (paging := paging) (cr2 := cr2) (cr3 := cr3) (cr4 := cr4) (cr5 := cr5) (cpl := cpl) (state := state) (pending := pending) (deliveries := deliveries) (lastVector := lastVector) (lastError := lastError) (portTotal := portTotal) (portKept := portKept) (nxt := nxt) (returnTo := returnTo) (raised := raised) (raisedError := raisedError) (directoryAt := directoryAt) (tableAt := tableAt) (code := code) (form := form) (width := width) (mod := mod) (regField := regField) (rm := rm) (linear := linear) (immediate := immediate) (operand := operand) (memory := memory) (general := general) (ports := ports) (mapped := mapped) (words := words) (y_eip := y_eip) (y_faultError := y_faultError) (y_startEip := y_startEip) (y_cursor := y_cursor) (y_op := y_op) (y_mod := y_mod) (y_reg := y_reg) (y_rm := y_rm) (y_address := y_address) (y_imm := y_imm) (y_old := y_old) (y_ports := y_ports) (y_place := y_place)) hS hS2 hc (by omega : i < c) hP
    obtain ⟨v, kX, kY⟩ := ih (i + 1) (by omega) (x ||| (nI b <<< ((8 * nI i) &&& 31)))
    exact ⟨v, fun post hp => sX post _ x (kX post hp), fun post hp => sY post _ x (kY post hp)⟩
theorem by_read {c : Nat} (hok : mm_ok size cr3) (hc : c ≤ 4) (hP : mm_PL mapped y_place c) : ∃ v : Int32,
    (∀ post : Int32 → Prop, post v → wpX_readMapped post (size, eip, flags, paging, cr2, cr3, cr4, cr5, cpl, state, pending, deliveries, lastVector, lastError, portTotal, portKept, nxt, returnTo, raised, raisedError, directoryAt, tableAt, code, form, width, mod, regField, rm, linear, immediate, operand, memory, general, ports, mapped, words) (nI c)) ∧
    (∀ post : Int32 → Prop, post v → wpY_readPlaces post (size, y_eip, flags, (ar_cz paging), cr2, cr3, cr4, cr5, cpl, state, pending, deliveries, lastVector, lastError, portTotal, raised, y_faultError, y_startEip, y_cursor, y_op, y_mod, y_reg, y_rm, y_address, y_imm, (ar_ym memory), general, y_old, y_ports, y_place) (nI c)) := by
  obtain ⟨S, q, hS, h2, hS2, hSe, h3, hq⟩ := hok
  obtain ⟨v, kX, kY⟩ := (by_readL (size := size) (eip := eip) (flags := flags) (paging := paging) (cr2 := cr2) (cr3 := cr3) (cr4 := cr4) (cr5 := cr5) (cpl := cpl) (state := state) (pending := pending) (deliveries := deliveries) (lastVector := lastVector) (lastError := lastError) (portTotal := portTotal) (portKept := portKept) (nxt := nxt) (returnTo := returnTo) (raised := raised) (raisedError := raisedError) (directoryAt := directoryAt) (tableAt := tableAt) (code := code) (form := form) (width := width) (mod := mod) (regField := regField) (rm := rm) (linear := linear) (immediate := immediate) (operand := operand) (memory := memory) (general := general) (ports := ports) (mapped := mapped) (words := words) (y_eip := y_eip) (y_faultError := y_faultError) (y_startEip := y_startEip) (y_cursor := y_cursor) (y_op := y_op) (y_mod := y_mod) (y_reg := y_reg) (y_rm := y_rm) (y_address := y_address) (y_imm := y_imm) (y_old := y_old) (y_ports := y_ports) (y_place := y_place)) hS hS2 hc hP c 0 (by omega) 0
  exact ⟨v, fun post hp => ⟨c + 1, kX post hp⟩, fun post hp => ⟨c + 1, kY post hp⟩⟩
/-- one byte -/
theorem by_read1 (hok : mm_ok size cr3) (hP : mm_PL mapped y_place 1) : ∃ b : Nat, b < 256 ∧
    (∀ post : Int32 → Prop, post (nI b) → wpX_readMapped post (size, eip, flags, paging, cr2, cr3, cr4, cr5, cpl, state, pending, deliveries, lastVector, lastError, portTotal, portKept, nxt, returnTo, raised, raisedError, directoryAt, tableAt, code, form, width, mod, regField, rm, linear, immediate, operand, memory, general, ports, mapped, words) 1) ∧
    (∀ post : Int32 → Prop, post (nI b) → wpY_readPlaces post (size, y_eip, flags, (ar_cz paging), cr2, cr3, cr4, cr5, cpl, state, pending, deliveries, lastVector, lastError, portTotal, raised, y_faultError, y_startEip, y_cursor, y_op, y_mod, y_reg, y_rm, y_address, y_imm, (ar_ym memory), general, y_old, y_ports, y_place) 1) := by
  obtain ⟨S, q, hS, h2, hS2, hSe, h3, hq⟩ := hok
  obtain ⟨b, hb, sX, sY⟩ := (by_rstep (size := size) (eip := eip) (flags := flags) (paging := paging) (cr2 := cr2) (cr3 := cr3) (cr4 := cr4) (cr5 := cr5) (cpl := cpl) (state := state) (pending := pending) (deliveries := deliveries) (lastVector := lastVector) (lastError := lastError) (portTotal := portTotal) (portKept := portKept) (nxt := nxt) (returnTo := returnTo) (raised := raised) (raisedError := raisedError) (directoryAt := directoryAt) (tableAt := tableAt) (code := code) (form := form) (width := width) (mod := mod) (regField := regField) (rm := rm) (linear := linear) (immediate := immediate) (operand := operand) (memory := memory) (general := general) (ports := ports) (mapped := mapped) (words := words) (y_eip := y_eip) (y_faultError := y_faultError) (y_startEip := y_startEip) (y_cursor := y_cursor) (y_op := y_op) (y_mod := y_mod) (y_reg := y_reg) (y_rm := y_rm) (y_address := y_address) (y_imm := y_imm) (y_old := y_old) (y_ports := y_ports) (y_place := y_place)) hS hS2 (by omega : 1 ≤ 4) (by omega : 0 < 1) hP
  have e : (0 : Int32) ||| (nI b <<< ((8 * nI 0) &&& 31)) = nI b := by
    rw [show (8 * nI 0) &&& 31 = nI 0 &&& 31 from by decide]
    apply b_ext
    intro i hi
    rw [b_or, b_0, b_shl 0 (by omega) _ hi, Bool.false_or, decide_eq_true (Nat.zero_le i), Bool.true_and, Nat.sub_zero]
  have h : nI 1 ≤ nI (0 + 1) := nI_le (by omega) (by omega)
  refine ⟨b, hb, fun post hp => ⟨2, sX post 1 0 ?_⟩, fun post hp => ⟨2, sY post 1 0 ?_⟩⟩
  · rw [e]; exact br_t h hp
  · rw [e]; exact br_t h hp
theorem by_writeL {S c : Nat} (hS : size = nI S) (hS2 : S ≤ 1024) (hc : c ≤ 4) (hP : mm_PL mapped y_place c) (x y : Int32)
    (hv : ∀ i, i < c → ((x.toUInt32 >>> ((8 * nI i).toUInt32 &&& Int32.toUInt32 31)).toInt32) &&& 255 = ((y.toUInt32 >>> ((8 * nI i).toUInt32 &&& Int32.toUInt32 31)).toInt32) &&& 255) : ∀ (d i : Nat), i + d = c → ∀ memory : Nat → Int32, ∃ m' : Nat → Int32,
    (∀ post : SX → Prop, post (size, eip, flags, paging, cr2, cr3, cr4, cr5, cpl, state, pending, deliveries, lastVector, lastError, portTotal, portKept, nxt, returnTo, raised, raisedError, directoryAt, tableAt, code, form, width, mod, regField, rm, linear, immediate, operand, m', general, ports, mapped, words) → wX_writeMapped_2 post x (nI c) size eip flags paging cr2 cr3 cr4 cr5 cpl state pending deliveries lastVector lastError portTotal portKept nxt returnTo raised raisedError directoryAt tableAt code form width mod regField rm linear immediate operand (d + 1) (nI i) memory general ports mapped words) ∧
    (∀ post : SY → Prop, post (size, y_eip, flags, (ar_cz paging), cr2, cr3, cr4, cr5, cpl, state, pending, deliveries, lastVector, lastError, portTotal, raised, y_faultError, y_startEip, y_cursor, y_op, y_mod, y_reg, y_rm, y_address, y_imm, ar_ym m', general, y_old, y_ports, y_place) → wY_writePlaces_2 post (nI c) y size y_eip flags (ar_cz paging) cr2 cr3 cr4 cr5 cpl state pending deliveries lastVector lastError portTotal raised y_faultError y_startEip y_cursor y_op y_mod y_reg y_rm y_address y_imm (d + 1) (nI i) (ar_ym memory) general y_old y_ports y_place) := by
  subst hS
  intro d
  induction d with
  | zero =>
    intro i hi memory
    have e : i = c := by omega
    subst e
    have h : nI i ≤ nI i := nI_le (by omega) (by omega)
    exact ⟨memory, fun post hp => br_t h hp, fun post hp => br_t h hp⟩
  | succ d ih =>
    intro i hi memory
    obtain ⟨p, hp, em, ep⟩ := hP i (by omega)
    have h : ¬ nI c ≤ nI i := nI_ge (by omega) (by omega)
    have hi4 : vp_in (nI i) 4 := vp_in_nI (by omega) (by omega)
    have hi3 : vp_in (nI i &&& 3) 4 := by rw [mm_and3 i (by omega)]; exact hi4
    have em3 : mapped (nI i &&& 3).toNatClampNeg = nI p := by rw [mm_and3 i (by omega), nI_clamp (by omega)]; exact em
    have epl : y_place (nI i).toNatClampNeg = lN p := by rw [nI_clamp (by omega)]; exact ep
    have esz : (nI S).toInt64 = lN S := nI_l (by omega)
    by_cases hs : p < S
    · have ecl : (nI p).toNatClampNeg = p := nI_clamp (by omega)
      obtain ⟨m', kX, kY⟩ := ih (i + 1) (by omega) (upd memory p (((x.toUInt32 >>> ((8 * nI i).toUInt32 &&& Int32.toUInt32 31)).toInt32).toInt8.toInt32))
      refine ⟨m', fun post hpo => ?_, fun post hpo => ?_⟩
      · refine br_f h ⟨hi3, nm_r em3 (br_f (nI_pos (by omega)) (br_f (nI_ge hs (by omega)) ⟨vp_in_nI (by omega) (by omega), nm_r ?_ (nm_r (nI_1 i) (kX post hpo))⟩))⟩
        rw [ecl, pk_vb]
      · refine br_f h ⟨hi4, br_f ?_ ⟨hi4, ?_, nm_r ?_ (nm_r (nI_1 i) (kY post hpo))⟩⟩
        · rw [epl, esz]; exact fun z => by have := (pk_lLE (by omega) (by omega)).mp z; omega
        · rw [epl, lN_i]; exact vp_in_nI (by omega) (by omega)
        · rw [epl, lN_i, ecl, ar_ymU, hv i (by omega)]
    · obtain ⟨m', kX, kY⟩ := ih (i + 1) (by omega) memory
      refine ⟨m', fun post hpo => ?_, fun post hpo => ?_⟩
      · rcases by_big (by omega : S ≤ p) hp hS2 with z | ⟨z, z2⟩
        · exact br_f h ⟨hi3, nm_r em3 (br_t z (nm_r (nI_1 i) (kX post hpo)))⟩
        · exact br_f h ⟨hi3, nm_r em3 (br_f z (br_t z2 (nm_r (nI_1 i) (kX post hpo))))⟩
      · refine br_f h ⟨hi4, br_t ?_ (nm_r (nI_1 i) (kY post hpo))⟩
        rw [epl, esz]; exact (pk_lLE (by omega) (by omega)).mpr (by omega)
theorem by_write4 (hok : mm_ok size cr3) (hP : mm_PL mapped y_place 4) (x : Int32) : ∃ m' : Nat → Int32,
    (∀ post : SX → Prop, post (size, eip, flags, paging, cr2, cr3, cr4, cr5, cpl, state, pending, deliveries, lastVector, lastError, portTotal, portKept, nxt, returnTo, raised, raisedError, directoryAt, tableAt, code, form, width, mod, regField, rm, linear, immediate, operand, m', general, ports, mapped, words) → wpX_writeMapped post (size, eip, flags, paging, cr2, cr3, cr4, cr5, cpl, state, pending, deliveries, lastVector, lastError, portTotal, portKept, nxt, returnTo, raised, raisedError, directoryAt, tableAt, code, form, width, mod, regField, rm, linear, immediate, operand, memory, general, ports, mapped, words) x 4) ∧
    (∀ post : SY → Prop, post (size, y_eip, flags, (ar_cz paging), cr2, cr3, cr4, cr5, cpl, state, pending, deliveries, lastVector, lastError, portTotal, raised, y_faultError, y_startEip, y_cursor, y_op, y_mod, y_reg, y_rm, y_address, y_imm, ar_ym m', general, y_old, y_ports, y_place) → wpY_writePlaces post (size, y_eip, flags, (ar_cz paging), cr2, cr3, cr4, cr5, cpl, state, pending, deliveries, lastVector, lastError, portTotal, raised, y_faultError, y_startEip, y_cursor, y_op, y_mod, y_reg, y_rm, y_address, y_imm, (ar_ym memory), general, y_old, y_ports, y_place) 4 x) := by
  obtain ⟨S, q, hS, h2, hS2, hSe, h3, hq⟩ := hok
  obtain ⟨m', kX, kY⟩ := (by_writeL (size := size) (eip := eip) (flags := flags) (paging := paging) (cr2 := cr2) (cr3 := cr3) (cr4 := cr4) (cr5 := cr5) (cpl := cpl) (state := state) (pending := pending) (deliveries := deliveries) (lastVector := lastVector) (lastError := lastError) (portTotal := portTotal) (portKept := portKept) (nxt := nxt) (returnTo := returnTo) (raised := raised) (raisedError := raisedError) (directoryAt := directoryAt) (tableAt := tableAt) (code := code) (form := form) (width := width) (mod := mod) (regField := regField) (rm := rm) (linear := linear) (immediate := immediate) (operand := operand) (general := general) (ports := ports) (mapped := mapped) (words := words) (y_eip := y_eip) (y_faultError := y_faultError) (y_startEip := y_startEip) (y_cursor := y_cursor) (y_op := y_op) (y_mod := y_mod) (y_reg := y_reg) (y_rm := y_rm) (y_address := y_address) (y_imm := y_imm) (y_old := y_old) (y_ports := y_ports) (y_place := y_place)) hS hS2 (by omega : 4 ≤ 4) hP x x (fun _ _ => rfl) 4 0 (by omega) memory
  exact ⟨m', fun post hp => ⟨5, kX post hp⟩, fun post hp => ⟨5, kY post hp⟩⟩
theorem by_write1 (hok : mm_ok size cr3) (hP : mm_PL mapped y_place 1) (x y : Int32) (h : x &&& 255 = y &&& 255) : ∃ m' : Nat → Int32,
    (∀ post : SX → Prop, post (size, eip, flags, paging, cr2, cr3, cr4, cr5, cpl, state, pending, deliveries, lastVector, lastError, portTotal, portKept, nxt, returnTo, raised, raisedError, directoryAt, tableAt, code, form, width, mod, regField, rm, linear, immediate, operand, m', general, ports, mapped, words) → wpX_writeMapped post (size, eip, flags, paging, cr2, cr3, cr4, cr5, cpl, state, pending, deliveries, lastVector, lastError, portTotal, portKept, nxt, returnTo, raised, raisedError, directoryAt, tableAt, code, form, width, mod, regField, rm, linear, immediate, operand, memory, general, ports, mapped, words) x 1) ∧
    (∀ post : SY → Prop, post (size, y_eip, flags, (ar_cz paging), cr2, cr3, cr4, cr5, cpl, state, pending, deliveries, lastVector, lastError, portTotal, raised, y_faultError, y_startEip, y_cursor, y_op, y_mod, y_reg, y_rm, y_address, y_imm, ar_ym m', general, y_old, y_ports, y_place) → wpY_writePlaces post (size, y_eip, flags, (ar_cz paging), cr2, cr3, cr4, cr5, cpl, state, pending, deliveries, lastVector, lastError, portTotal, raised, y_faultError, y_startEip, y_cursor, y_op, y_mod, y_reg, y_rm, y_address, y_imm, (ar_ym memory), general, y_old, y_ports, y_place) 1 y) := by
  obtain ⟨S, q, hS, h2, hS2, hSe, h3, hq⟩ := hok
  have e0 : ∀ z : Int32, (z.toUInt32 >>> ((8 * nI 0).toUInt32 &&& Int32.toUInt32 31)).toInt32 = z := by
    intro z
    rw [show 8 * nI 0 = nI 0 from by decide]
    apply b_ext
    intro i hi
    rw [b_ushr 0 (by omega) z i, Nat.zero_add]
  obtain ⟨m', kX, kY⟩ := (by_writeL (size := size) (eip := eip) (flags := flags) (paging := paging) (cr2 := cr2) (cr3 := cr3) (cr4 := cr4) (cr5 := cr5) (cpl := cpl) (state := state) (pending := pending) (deliveries := deliveries) (lastVector := lastVector) (lastError := lastError) (portTotal := portTotal) (portKept := portKept) (nxt := nxt) (returnTo := returnTo) (raised := raised) (raisedError := raisedError) (directoryAt := directoryAt) (tableAt := tableAt) (code := code) (form := form) (width := width) (mod := mod) (regField := regField) (rm := rm) (linear := linear) (immediate := immediate) (operand := operand) (general := general) (ports := ports) (mapped := mapped) (words := words) (y_eip := y_eip) (y_faultError := y_faultError) (y_startEip := y_startEip) (y_cursor := y_cursor) (y_op := y_op) (y_mod := y_mod) (y_reg := y_reg) (y_rm := y_rm) (y_address := y_address) (y_imm := y_imm) (y_old := y_old) (y_ports := y_ports) (y_place := y_place)) hS hS2 (by omega : 1 ≤ 4) hP x y (fun i hi => by
    have e : i = 0 := by omega
    subst e
    rw [e0, e0]; exact h) 1 0 (by omega) memory
  exact ⟨m', fun post hp => ⟨2, kX post hp⟩, fun post hp => ⟨2, kY post hp⟩⟩
end
