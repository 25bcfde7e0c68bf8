noncomputable section
def ri_tok (y : am_M) (tb : List ri_row) : Bool := (tb.zipIdx.all (fun q => ri_rok y (ri_pcs tb) q.2 q.1 && ri_rokI ri_M y q.1)) && decide ((ri_pcs tb)[0]? = some 0)
theorem ri_tok_use {y : am_M} {tb : List ri_row} (h : ri_tok y tb = true) : (∀ i r, tb[i]? = some r → ri_rok y (ri_pcs tb) i r = true ∧ ri_rokI ri_M y r = true) ∧ (ri_pcs tb)[0]? = some 0 := by
  unfold ri_tok at h
  rw [Bool.and_eq_true, decide_eq_true_eq, List.all_eq_true] at h
  refine ⟨fun i r hr => ?_, h.2⟩
  have h1 := h.1 (r, i) (by
    rw [List.mem_zipIdx_iff_getElem?]
    exact hr)
  rwa [Bool.and_eq_true] at h1
def ri_mok (y : am_M) (n kd p1 p2 p3 p4 : Nat) : Bool := plainName y.1.cls && (ri_lw p1 (.code y.1 y.2.1 y.2.2.1 y.2.2.2) && (ri_lw p2 (.initialized y.1.cls) && (decide (y.1.cls ≠ "java/lang/invoke/MethodHandle" ∧ y.1.cls ≠ "java/lang/invoke/VarHandle" ∧ (parseMethodDescriptor y.1.desc).map (fun d => d.parameters.length) = some n) && (decide (y.2.2.1 ≤ 60) && (match kd with
  | 0 => ri_lw p3 (.static y.1)
  | 1 => ri_lw p3 (.instanceMethod y.1) && ri_lw p4 (.selects y.1.cls y.1 y.1)
  | 2 => ri_lw p3 (.instanceMethod y.1) && (decide (y.1.name = "<init>") && decide (y.2.2.2 = none))
  | _ => false)))))
def ri_okq (q : ri_mi) : Prop := am_okM q.1 q.2.1 ∧ (q.2.2.1 = 0 → Cond.static q.1.1 ∈ am_tbl) ∧ (q.2.2.1 = 1 → Cond.instanceMethod q.1.1 ∈ am_tbl ∧ Cond.selects q.1.1.cls q.1.1 q.1.1 ∈ am_tbl) ∧ (q.2.2.1 = 2 → Cond.instanceMethod q.1.1 ∈ am_tbl ∧ q.1.1.name = "<init>" ∧ q.1.2.2.2 = none) ∧
  (∀ i r, q.2.2.2[i]? = some r → ri_rok q.1 (ri_pcs q.2.2.2) i r = true ∧ ri_rokI ri_M q.1 r = true) ∧ (ri_pcs q.2.2.2)[0]? = some 0
theorem ri_okq_of {y : am_M} {n kd : Nat} {tb : List ri_row} (p1 p2 p3 p4 : Nat) (h1 : ri_mok y n kd p1 p2 p3 p4 = true) (h2 : ri_tok y tb = true) : ri_okq (y, n, kd, tb) := by
  unfold ri_mok at h1
  simp only [Bool.and_eq_true, decide_eq_true_eq] at h1
  obtain ⟨a1, a2, a3, a4, a5, a6⟩ := h1
  refine ⟨⟨a1, ri_lw_in a2, ri_lw_in a3, a4, a5⟩, fun e => ?_, fun e => ?_, fun e => ?_, ri_tok_use h2⟩
  · have e : kd = 0 := e
    subst e
    exact ri_lw_in a6
  · have e : kd = 1 := e
    subst e
    simp only [Bool.and_eq_true] at a6
    exact ⟨ri_lw_in a6.1, ri_lw_in a6.2⟩
  · have e : kd = 2 := e
    subst e
    simp only [Bool.and_eq_true, decide_eq_true_eq] at a6
    exact ⟨ri_lw_in a6.1, a6.2.1, a6.2.2⟩
theorem ri_mk1 {y : am_M} {n : Nat} (p1 p2 p3 p4 : Nat) (h1 : ri_mok y n 1 p1 p2 p3 p4 = true) : am_okM y n ∧ Cond.instanceMethod y.1 ∈ am_tbl ∧ Cond.selects y.1.cls y.1 y.1 ∈ am_tbl := by
  unfold ri_mok at h1
  simp only [Bool.and_eq_true, decide_eq_true_eq] at h1
  obtain ⟨a1, a2, a3, a4, a5, a6⟩ := h1
  exact ⟨⟨a1, ri_lw_in a2, ri_lw_in a3, a4, a5⟩, ri_lw_in a6.1, ri_lw_in a6.2⟩
theorem ri_mk0 {y : am_M} {n : Nat} (p1 p2 p3 p4 : Nat) (h1 : ri_mok y n 0 p1 p2 p3 p4 = true) : am_okM y n ∧ Cond.static y.1 ∈ am_tbl := by
  unfold ri_mok at h1
  simp only [Bool.and_eq_true, decide_eq_true_eq] at h1
  obtain ⟨a1, a2, a3, a4, a5, a6⟩ := h1
  exact ⟨⟨a1, ri_lw_in a2, ri_lw_in a3, a4, a5⟩, ri_lw_in a6⟩
set_option maxRecDepth 100000 in
theorem o_X0_init : ri_okq (m_X0_init, 1, 2, t_X0_init) := ri_okq_of 173 87 172 0 (by decide +kernel) (by decide +kernel)
set_option maxRecDepth 100000 in
theorem o_X1_init : ri_okq (m_X1_init, 0, 2, t_X1_init) := ri_okq_of 161 86 160 0 (by decide +kernel) (by decide +kernel)
set_option maxRecDepth 100000 in
theorem o_X2_init : ri_okq (m_X2_init, 0, 2, t_X2_init) := ri_okq_of 231 90 230 0 (by decide +kernel) (by decide +kernel)
set_option maxRecDepth 100000 in
theorem o_X3_init : ri_okq (m_X3_init, 0, 2, t_X3_init) := ri_okq_of 285 91 284 0 (by decide +kernel) (by decide +kernel)
set_option maxRecDepth 100000 in
theorem o_X4_init : ri_okq (m_X4_init, 1, 2, t_X4_init) := ri_okq_of 111 83 110 0 (by decide +kernel) (by decide +kernel)
set_option maxRecDepth 100000 in
theorem o_X4_push : ri_okq (m_X4_push, 1, 1, t_X4_push) := ri_okq_of 321 83 319 320 (by decide +kernel) (by decide +kernel)
set_option maxRecDepth 100000 in
theorem o_X4_becomeBack : ri_okq (m_X4_becomeBack, 1, 1, t_X4_becomeBack) := ri_okq_of 337 83 335 336 (by decide +kernel) (by decide +kernel)
set_option maxRecDepth 100000 in
theorem o_X5_init : ri_okq (m_X5_init, 2, 2, t_X5_init) := ri_okq_of 198 88 197 0 (by decide +kernel) (by decide +kernel)
set_option maxRecDepth 100000 in
theorem o_X6_init : ri_okq (m_X6_init, 0, 2, t_X6_init) := ri_okq_of 225 89 224 0 (by decide +kernel) (by decide +kernel)
set_option maxRecDepth 100000 in
theorem o_X7_init : ri_okq (m_X7_init, 0, 2, t_X7_init) := ri_okq_of 135 85 134 0 (by decide +kernel) (by decide +kernel)
set_option maxRecDepth 100000 in
theorem o_X7_layOut : ri_okq (m_X7_layOut, 1, 1, t_X7_layOut) := ri_okq_of 309 85 307 308 (by decide +kernel) (by decide +kernel)
set_option maxRecDepth 100000 in
theorem o_X7_layWord : ri_okq (m_X7_layWord, 3, 1, t_X7_layWord) := ri_okq_of 313 85 312 1 (by decide +kernel) (by decide +kernel)
set_option maxRecDepth 100000 in
theorem o_X7_spellFirst : ri_okq (m_X7_spellFirst, 3, 1, t_X7_spellFirst) := ri_okq_of 317 85 316 2 (by decide +kernel) (by decide +kernel)
set_option maxRecDepth 100000 in
theorem o_X7_spellSecond : ri_okq (m_X7_spellSecond, 3, 1, t_X7_spellSecond) := ri_okq_of 325 85 324 3 (by decide +kernel) (by decide +kernel)
set_option maxRecDepth 100000 in
theorem o_X7_spellThird : ri_okq (m_X7_spellThird, 3, 1, t_X7_spellThird) := ri_okq_of 329 85 328 4 (by decide +kernel) (by decide +kernel)
set_option maxRecDepth 100000 in
theorem o_X7_spellBetween : ri_okq (m_X7_spellBetween, 2, 1, t_X7_spellBetween) := ri_okq_of 333 85 332 5 (by decide +kernel) (by decide +kernel)
set_option maxRecDepth 100000 in
theorem o_X7_slotOf : ri_okq (m_X7_slotOf, 2, 0, t_X7_slotOf) := ri_okq_of 347 85 346 0 (by decide +kernel) (by decide +kernel)
set_option maxRecDepth 100000 in
theorem o_X7_keepWord : ri_okq (m_X7_keepWord, 3, 1, t_X7_keepWord) := ri_okq_of 344 85 343 6 (by decide +kernel) (by decide +kernel)
set_option maxRecDepth 100000 in
theorem o_X8_init : ri_okq (m_X8_init, 0, 2, t_X8_init) := ri_okq_of 99 82 98 0 (by decide +kernel) (by decide +kernel)
set_option maxRecDepth 100000 in
theorem o_X8_layOut : ri_okq (m_X8_layOut, 1, 1, t_X8_layOut) := ri_okq_of 305 82 304 0 (by decide +kernel) (by decide +kernel)
set_option maxRecDepth 100000 in
theorem o_X9_init : ri_okq (m_X9_init, 0, 2, t_X9_init) := ri_okq_of 776 93 775 0 (by decide +kernel) (by decide +kernel)
set_option maxRecDepth 100000 in
theorem o_X9_lay : ri_okq (m_X9_lay, 1, 1, t_X9_lay) := ri_okq_of 781 93 780 29 (by decide +kernel) (by decide +kernel)
theorem ri_okl : ∀ l ∈ ri_ms, ∀ q ∈ l, ri_okq q := by
  intro l hl
  simp only [ri_ms, List.mem_cons, List.not_mem_nil, or_false] at hl
  rcases hl with rfl | rfl | rfl | rfl | rfl | rfl | rfl | rfl | rfl | rfl | rfl | rfl | rfl | rfl
  · exact List.forall_mem_cons.mpr ⟨o_X0_init, List.forall_mem_cons.mpr ⟨o_X0_init, List.forall_mem_cons.mpr ⟨o_X0_init, List.forall_mem_cons.mpr ⟨o_X0_init, List.forall_mem_cons.mpr ⟨o_X0_init, List.forall_mem_cons.mpr ⟨o_X0_init, List.forall_mem_cons.mpr ⟨o_X0_init, List.forall_mem_cons.mpr ⟨o_X0_init, List.forall_mem_cons.mpr ⟨o_X0_init, List.forall_mem_cons.mpr ⟨o_X0_init, List.forall_mem_cons.mpr ⟨o_X1_init, List.forall_mem_cons.mpr ⟨o_X0_init, List.forall_mem_cons.mpr ⟨o_X0_init, List.forall_mem_cons.mpr ⟨o_X0_init, fun _ h => absurd h List.not_mem_nil⟩⟩⟩⟩⟩⟩⟩⟩⟩⟩⟩⟩⟩⟩
  · exact List.forall_mem_cons.mpr ⟨o_X0_init, List.forall_mem_cons.mpr ⟨o_X0_init, List.forall_mem_cons.mpr ⟨o_X0_init, List.forall_mem_cons.mpr ⟨o_X2_init, List.forall_mem_cons.mpr ⟨o_X0_init, List.forall_mem_cons.mpr ⟨o_X0_init, List.forall_mem_cons.mpr ⟨o_X0_init, List.forall_mem_cons.mpr ⟨o_X0_init, List.forall_mem_cons.mpr ⟨o_X0_init, List.forall_mem_cons.mpr ⟨o_X3_init, List.forall_mem_cons.mpr ⟨o_X0_init, List.forall_mem_cons.mpr ⟨o_X0_init, List.forall_mem_cons.mpr ⟨o_X4_init, List.forall_mem_cons.mpr ⟨o_X4_push, fun _ h => absurd h List.not_mem_nil⟩⟩⟩⟩⟩⟩⟩⟩⟩⟩⟩⟩⟩⟩
  · exact List.forall_mem_cons.mpr ⟨o_X0_init, List.forall_mem_cons.mpr ⟨o_X0_init, List.forall_mem_cons.mpr ⟨o_X4_becomeBack, List.forall_mem_cons.mpr ⟨o_X0_init, List.forall_mem_cons.mpr ⟨o_X0_init, List.forall_mem_cons.mpr ⟨o_X0_init, List.forall_mem_cons.mpr ⟨o_X0_init, List.forall_mem_cons.mpr ⟨o_X0_init, List.forall_mem_cons.mpr ⟨o_X0_init, List.forall_mem_cons.mpr ⟨o_X0_init, List.forall_mem_cons.mpr ⟨o_X0_init, List.forall_mem_cons.mpr ⟨o_X0_init, List.forall_mem_cons.mpr ⟨o_X0_init, List.forall_mem_cons.mpr ⟨o_X5_init, fun _ h => absurd h List.not_mem_nil⟩⟩⟩⟩⟩⟩⟩⟩⟩⟩⟩⟩⟩⟩
  · exact List.forall_mem_cons.mpr ⟨o_X0_init, List.forall_mem_cons.mpr ⟨o_X0_init, List.forall_mem_cons.mpr ⟨o_X0_init, List.forall_mem_cons.mpr ⟨o_X0_init, List.forall_mem_cons.mpr ⟨o_X0_init, List.forall_mem_cons.mpr ⟨o_X0_init, List.forall_mem_cons.mpr ⟨o_X6_init, List.forall_mem_cons.mpr ⟨o_X0_init, List.forall_mem_cons.mpr ⟨o_X0_init, List.forall_mem_cons.mpr ⟨o_X0_init, List.forall_mem_cons.mpr ⟨o_X0_init, List.forall_mem_cons.mpr ⟨o_X0_init, List.forall_mem_cons.mpr ⟨o_X0_init, List.forall_mem_cons.mpr ⟨o_X0_init, fun _ h => absurd h List.not_mem_nil⟩⟩⟩⟩⟩⟩⟩⟩⟩⟩⟩⟩⟩⟩
  · exact List.forall_mem_cons.mpr ⟨o_X7_init, List.forall_mem_cons.mpr ⟨o_X7_layOut, List.forall_mem_cons.mpr ⟨o_X7_layWord, List.forall_mem_cons.mpr ⟨o_X7_spellFirst, List.forall_mem_cons.mpr ⟨o_X7_spellSecond, List.forall_mem_cons.mpr ⟨o_X7_spellThird, List.forall_mem_cons.mpr ⟨o_X7_spellBetween, List.forall_mem_cons.mpr ⟨o_X7_slotOf, List.forall_mem_cons.mpr ⟨o_X7_keepWord, List.forall_mem_cons.mpr ⟨o_X0_init, List.forall_mem_cons.mpr ⟨o_X0_init, List.forall_mem_cons.mpr ⟨o_X8_init, List.forall_mem_cons.mpr ⟨o_X0_init, List.forall_mem_cons.mpr ⟨o_X0_init, fun _ h => absurd h List.not_mem_nil⟩⟩⟩⟩⟩⟩⟩⟩⟩⟩⟩⟩⟩⟩
  · exact List.forall_mem_cons.mpr ⟨o_X0_init, List.forall_mem_cons.mpr ⟨o_X0_init, List.forall_mem_cons.mpr ⟨o_X0_init, List.forall_mem_cons.mpr ⟨o_X0_init, List.forall_mem_cons.mpr ⟨o_X0_init, List.forall_mem_cons.mpr ⟨o_X0_init, List.forall_mem_cons.mpr ⟨o_X0_init, List.forall_mem_cons.mpr ⟨o_X0_init, List.forall_mem_cons.mpr ⟨o_X0_init, List.forall_mem_cons.mpr ⟨o_X0_init, List.forall_mem_cons.mpr ⟨o_X0_init, List.forall_mem_cons.mpr ⟨o_X0_init, List.forall_mem_cons.mpr ⟨o_X0_init, List.forall_mem_cons.mpr ⟨o_X0_init, fun _ h => absurd h List.not_mem_nil⟩⟩⟩⟩⟩⟩⟩⟩⟩⟩⟩⟩⟩⟩
  · exact List.forall_mem_cons.mpr ⟨o_X0_init, List.forall_mem_cons.mpr ⟨o_X0_init, List.forall_mem_cons.mpr ⟨o_X0_init, List.forall_mem_cons.mpr ⟨o_X0_init, List.forall_mem_cons.mpr ⟨o_X0_init, List.forall_mem_cons.mpr ⟨o_X0_init, List.forall_mem_cons.mpr ⟨o_X0_init, List.forall_mem_cons.mpr ⟨o_X0_init, List.forall_mem_cons.mpr ⟨o_X0_init, List.forall_mem_cons.mpr ⟨o_X0_init, List.forall_mem_cons.mpr ⟨o_X0_init, List.forall_mem_cons.mpr ⟨o_X0_init, List.forall_mem_cons.mpr ⟨o_X0_init, List.forall_mem_cons.mpr ⟨o_X8_layOut, fun _ h => absurd h List.not_mem_nil⟩⟩⟩⟩⟩⟩⟩⟩⟩⟩⟩⟩⟩⟩
  · exact List.forall_mem_cons.mpr ⟨o_X0_init, List.forall_mem_cons.mpr ⟨o_X0_init, List.forall_mem_cons.mpr ⟨o_X0_init, List.forall_mem_cons.mpr ⟨o_X0_init, List.forall_mem_cons.mpr ⟨o_X0_init, List.forall_mem_cons.mpr ⟨o_X0_init, List.forall_mem_cons.mpr ⟨o_X0_init, List.forall_mem_cons.mpr ⟨o_X0_init, List.forall_mem_cons.mpr ⟨o_X0_init, List.forall_mem_cons.mpr ⟨o_X0_init, List.forall_mem_cons.mpr ⟨o_X0_init, List.forall_mem_cons.mpr ⟨o_X9_init, List.forall_mem_cons.mpr ⟨o_X0_init, List.forall_mem_cons.mpr ⟨o_X0_init, fun _ h => absurd h List.not_mem_nil⟩⟩⟩⟩⟩⟩⟩⟩⟩⟩⟩⟩⟩⟩
  · exact List.forall_mem_cons.mpr ⟨o_X9_lay, List.forall_mem_cons.mpr ⟨o_X0_init, List.forall_mem_cons.mpr ⟨o_X0_init, List.forall_mem_cons.mpr ⟨o_X0_init, List.forall_mem_cons.mpr ⟨o_X0_init, List.forall_mem_cons.mpr ⟨o_X0_init, List.forall_mem_cons.mpr ⟨o_X0_init, List.forall_mem_cons.mpr ⟨o_X0_init, List.forall_mem_cons.mpr ⟨o_X0_init, List.forall_mem_cons.mpr ⟨o_X0_init, List.forall_mem_cons.mpr ⟨o_X0_init, List.forall_mem_cons.mpr ⟨o_X0_init, List.forall_mem_cons.mpr ⟨o_X0_init, List.forall_mem_cons.mpr ⟨o_X0_init, fun _ h => absurd h List.not_mem_nil⟩⟩⟩⟩⟩⟩⟩⟩⟩⟩⟩⟩⟩⟩
  · exact List.forall_mem_cons.mpr ⟨o_X0_init, List.forall_mem_cons.mpr ⟨o_X0_init, List.forall_mem_cons.mpr ⟨o_X0_init, List.forall_mem_cons.mpr ⟨o_X0_init, List.forall_mem_cons.mpr ⟨o_X0_init, List.forall_mem_cons.mpr ⟨o_X0_init, List.forall_mem_cons.mpr ⟨o_X0_init, List.forall_mem_cons.mpr ⟨o_X0_init, List.forall_mem_cons.mpr ⟨o_X0_init, List.forall_mem_cons.mpr ⟨o_X0_init, List.forall_mem_cons.mpr ⟨o_X0_init, List.forall_mem_cons.mpr ⟨o_X0_init, List.forall_mem_cons.mpr ⟨o_X0_init, List.forall_mem_cons.mpr ⟨o_X0_init, fun _ h => absurd h List.not_mem_nil⟩⟩⟩⟩⟩⟩⟩⟩⟩⟩⟩⟩⟩⟩
  · exact List.forall_mem_cons.mpr ⟨o_X0_init, List.forall_mem_cons.mpr ⟨o_X0_init, List.forall_mem_cons.mpr ⟨o_X0_init, List.forall_mem_cons.mpr ⟨o_X0_init, List.forall_mem_cons.mpr ⟨o_X0_init, List.forall_mem_cons.mpr ⟨o_X0_init, List.forall_mem_cons.mpr ⟨o_X0_init, List.forall_mem_cons.mpr ⟨o_X0_init, List.forall_mem_cons.mpr ⟨o_X0_init, List.forall_mem_cons.mpr ⟨o_X0_init, List.forall_mem_cons.mpr ⟨o_X0_init, List.forall_mem_cons.mpr ⟨o_X0_init, List.forall_mem_cons.mpr ⟨o_X0_init, List.forall_mem_cons.mpr ⟨o_X0_init, fun _ h => absurd h List.not_mem_nil⟩⟩⟩⟩⟩⟩⟩⟩⟩⟩⟩⟩⟩⟩
  · exact List.forall_mem_cons.mpr ⟨o_X0_init, List.forall_mem_cons.mpr ⟨o_X0_init, List.forall_mem_cons.mpr ⟨o_X0_init, List.forall_mem_cons.mpr ⟨o_X0_init, List.forall_mem_cons.mpr ⟨o_X0_init, List.forall_mem_cons.mpr ⟨o_X0_init, List.forall_mem_cons.mpr ⟨o_X0_init, List.forall_mem_cons.mpr ⟨o_X0_init, List.forall_mem_cons.mpr ⟨o_X0_init, List.forall_mem_cons.mpr ⟨o_X0_init, List.forall_mem_cons.mpr ⟨o_X0_init, List.forall_mem_cons.mpr ⟨o_X0_init, List.forall_mem_cons.mpr ⟨o_X0_init, List.forall_mem_cons.mpr ⟨o_X0_init, fun _ h => absurd h List.not_mem_nil⟩⟩⟩⟩⟩⟩⟩⟩⟩⟩⟩⟩⟩⟩
  · exact List.forall_mem_cons.mpr ⟨o_X0_init, List.forall_mem_cons.mpr ⟨o_X0_init, List.forall_mem_cons.mpr ⟨o_X0_init, List.forall_mem_cons.mpr ⟨o_X0_init, List.forall_mem_cons.mpr ⟨o_X0_init, List.forall_mem_cons.mpr ⟨o_X0_init, List.forall_mem_cons.mpr ⟨o_X0_init, List.forall_mem_cons.mpr ⟨o_X0_init, List.forall_mem_cons.mpr ⟨o_X0_init, List.forall_mem_cons.mpr ⟨o_X0_init, List.forall_mem_cons.mpr ⟨o_X0_init, List.forall_mem_cons.mpr ⟨o_X0_init, List.forall_mem_cons.mpr ⟨o_X0_init, List.forall_mem_cons.mpr ⟨o_X0_init, fun _ h => absurd h List.not_mem_nil⟩⟩⟩⟩⟩⟩⟩⟩⟩⟩⟩⟩⟩⟩
  · exact List.forall_mem_cons.mpr ⟨o_X0_init, List.forall_mem_cons.mpr ⟨o_X0_init, List.forall_mem_cons.mpr ⟨o_X0_init, List.forall_mem_cons.mpr ⟨o_X0_init, List.forall_mem_cons.mpr ⟨o_X0_init, List.forall_mem_cons.mpr ⟨o_X0_init, List.forall_mem_cons.mpr ⟨o_X0_init, List.forall_mem_cons.mpr ⟨o_X0_init, List.forall_mem_cons.mpr ⟨o_X0_init, List.forall_mem_cons.mpr ⟨o_X0_init, List.forall_mem_cons.mpr ⟨o_X0_init, List.forall_mem_cons.mpr ⟨o_X0_init, List.forall_mem_cons.mpr ⟨o_X0_init, List.forall_mem_cons.mpr ⟨o_X0_init, fun _ h => absurd h List.not_mem_nil⟩⟩⟩⟩⟩⟩⟩⟩⟩⟩⟩⟩⟩⟩
theorem ri_nthD_mem {α : Type} (d : α) : ∀ (l : List α) (n : Nat), ri_nthD d l n = d ∨ ri_nthD d l n ∈ l
  | [], n => Or.inl rfl
  | x :: t, 0 => Or.inr List.mem_cons_self
  | x :: t, n + 1 => (ri_nthD_mem d t n).imp id (fun h => List.mem_cons_of_mem _ h)
theorem ri_all (j : Nat) : ri_okj ri_M j := by
  show ri_okq (ri_M j)
  unfold ri_M
  rcases ri_nthD_mem ri_m0d (ri_nthD [] ri_ms (j / 14)) (j % 14) with h | h
  · rw [h]
    exact o_X0_init
  · rcases ri_nthD_mem [] ri_ms (j / 14) with h2 | h2
    · rw [h2] at h
      exact absurd h List.not_mem_nil
    · exact ri_okl _ h2 _ h
end
