noncomputable section
def ri_tok (y : am_M) (tb : List ri_row) : Bool := (tb.zipIdx.all (fun q => ri_rok y (ri_pcs tb) q.2 q.1 && ri_rokI ri_M y q.1)) && decide ((ri_pcs tb)[0]? = some 0)
theorem ri_tok_use {y : am_M} {tb : List ri_row} (h : ri_tok y tb = true) : (∀ i r, tb[i]? = some r → ri_rok y (ri_pcs tb) i r = true ∧ ri_rokI ri_M y r = true) ∧ (ri_pcs tb)[0]? = some 0 := by
  unfold ri_tok at h
  rw [Bool.and_eq_true, decide_eq_true_eq, List.all_eq_true] at h
  refine ⟨fun i r hr => ?_, h.2⟩
  have h1 := h.1 (r, i) (by
    rw [List.mem_zipIdx_iff_getElem?]
    exact hr)
  rwa [Bool.and_eq_true] at h1
def ri_mok (y : am_M) (n kd p1 p2 p3 p4 : Nat) : Bool := plainName y.1.cls && (ri_lw p1 (.code y.1 y.2.1 y.2.2.1 y.2.2.2) && (ri_lw p2 (.initialized y.1.cls) && (decide (y.1.cls ≠ "java/lang/invoke/MethodHandle" ∧ y.1.cls ≠ "java/lang/invoke/VarHandle" ∧ (parseMethodDescriptor y.1.desc).map (fun d => d.parameters.length) = some n) && (decide (y.2.2.1 ≤ 60) && (match kd with
  | 0 => ri_lw p3 (.static y.1)
  | 1 => ri_lw p3 (.instanceMethod y.1) && ri_lw p4 (.selects y.1.cls y.1 y.1)
  | 2 => ri_lw p3 (.instanceMethod y.1) && (decide (y.1.name = "<init>") && decide (y.2.2.2 = none))
  | _ => false)))))
def ri_okq (q : ri_mi) : Prop := am_okM q.1 q.2.1 ∧ (q.2.2.1 = 0 → Cond.static q.1.1 ∈ am_tbl) ∧ (q.2.2.1 = 1 → Cond.instanceMethod q.1.1 ∈ am_tbl ∧ Cond.selects q.1.1.cls q.1.1 q.1.1 ∈ am_tbl) ∧ (q.2.2.1 = 2 → Cond.instanceMethod q.1.1 ∈ am_tbl ∧ q.1.1.name = "<init>" ∧ q.1.2.2.2 = none) ∧
  (∀ i r, q.2.2.2[i]? = some r → ri_rok q.1 (ri_pcs q.2.2.2) i r = true ∧ ri_rokI ri_M q.1 r = true) ∧ (ri_pcs q.2.2.2)[0]? = some 0
theorem ri_okq_of {y : am_M} {n kd : Nat} {tb : List ri_row} (p1 p2 p3 p4 : Nat) (h1 : ri_mok y n kd p1 p2 p3 p4 = true) (h2 : ri_tok y tb = true) : ri_okq (y, n, kd, tb) := by
  unfold ri_mok at h1
  simp only [Bool.and_eq_true, decide_eq_true_eq] at h1
  obtain ⟨a1, a2, a3, a4, a5, a6⟩ := h1
  refine ⟨⟨a1, ri_lw_in a2, ri_lw_in a3, a4, a5⟩, fun e => ?_, fun e => ?_, fun e => ?_, ri_tok_use h2⟩
  · have e : kd = 0 := e
    subst e
    exact ri_lw_in a6
  · have e : kd = 1 := e
    subst e
    simp only [Bool.and_eq_true] at a6
    exact ⟨ri_lw_in a6.1, ri_lw_in a6.2⟩
  · have e : kd = 2 := e
    subst e
    simp only [Bool.and_eq_true, decide_eq_true_eq] at a6
    exact ⟨ri_lw_in a6.1, a6.2.1, a6.2.2⟩
set_option maxRecDepth 100000 in
theorem o_X0_init : ri_okq (m_X0_init, 1, 2, t_X0_init) := ri_okq_of 173 87 172 0 (by decide +kernel) (by decide +kernel)
set_option maxRecDepth 100000 in
theorem o_X0_begin : ri_okq (m_X0_begin, 1, 1, t_X0_begin) := ri_okq_of 629 87 627 628 (by decide +kernel) (by decide +kernel)
set_option maxRecDepth 100000 in
theorem o_X0_doPlan : ri_okq (m_X0_doPlan, 1, 1, t_X0_doPlan) := ri_okq_of 634 87 632 633 (by decide +kernel) (by decide +kernel)
set_option maxRecDepth 100000 in
theorem o_X0_lettersTogether : ri_okq (m_X0_lettersTogether, 0, 1, t_X0_lettersTogether) := ri_okq_of 704 87 702 703 (by decide +kernel) (by decide +kernel)
set_option maxRecDepth 100000 in
theorem o_X0_fullTurns : ri_okq (m_X0_fullTurns, 1, 1, t_X0_fullTurns) := ri_okq_of 647 87 645 646 (by decide +kernel) (by decide +kernel)
set_option maxRecDepth 100000 in
theorem o_X0_areTurns : ri_okq (m_X0_areTurns, 2, 1, t_X0_areTurns) := ri_okq_of 651 87 650 20 (by decide +kernel) (by decide +kernel)
set_option maxRecDepth 100000 in
theorem o_X0_pushRim : ri_okq (m_X0_pushRim, 2, 1, t_X0_pushRim) := ri_okq_of 655 87 654 21 (by decide +kernel) (by decide +kernel)
set_option maxRecDepth 100000 in
theorem o_X0_rimLetter : ri_okq (m_X0_rimLetter, 1, 0, t_X0_rimLetter) := ri_okq_of 661 87 660 0 (by decide +kernel) (by decide +kernel)
set_option maxRecDepth 100000 in
theorem o_X0_cornerSum : ri_okq (m_X0_cornerSum, 1, 1, t_X0_cornerSum) := ri_okq_of 685 87 683 684 (by decide +kernel) (by decide +kernel)
set_option maxRecDepth 100000 in
theorem o_X0_corner : ri_okq (m_X0_corner, 4, 0, t_X0_corner) := ri_okq_of 695 87 694 0 (by decide +kernel) (by decide +kernel)
set_option maxRecDepth 100000 in
theorem o_X1_init : ri_okq (m_X1_init, 0, 2, t_X1_init) := ri_okq_of 161 86 160 0 (by decide +kernel) (by decide +kernel)
set_option maxRecDepth 100000 in
theorem o_X1_between : ri_okq (m_X1_between, 2, 1, t_X1_between) := ri_okq_of 432 86 430 431 (by decide +kernel) (by decide +kernel)
set_option maxRecDepth 100000 in
theorem o_X1_crossings : ri_okq (m_X1_crossings, 3, 0, t_X1_crossings) := ri_okq_of 436 86 435 0 (by decide +kernel) (by decide +kernel)
set_option maxRecDepth 100000 in
theorem o_X1_cross : ri_okq (m_X1_cross, 4, 0, t_X1_cross) := ri_okq_of 450 86 449 0 (by decide +kernel) (by decide +kernel)
set_option maxRecDepth 100000 in
theorem o_X1_changeSides : ri_okq (m_X1_changeSides, 4, 0, t_X1_changeSides) := ri_okq_of 439 86 438 0 (by decide +kernel) (by decide +kernel)
set_option maxRecDepth 100000 in
theorem o_X1_goRound : ri_okq (m_X1_goRound, 3, 0, t_X1_goRound) := ri_okq_of 442 86 441 0 (by decide +kernel) (by decide +kernel)
set_option maxRecDepth 100000 in
theorem o_X1_stepsRound : ri_okq (m_X1_stepsRound, 2, 0, t_X1_stepsRound) := ri_okq_of 445 86 444 0 (by decide +kernel) (by decide +kernel)
set_option maxRecDepth 100000 in
theorem o_X2_init : ri_okq (m_X2_init, 0, 2, t_X2_init) := ri_okq_of 231 90 230 0 (by decide +kernel) (by decide +kernel)
set_option maxRecDepth 100000 in
theorem o_X2_add : ri_okq (m_X2_add, 1, 1, t_X2_add) := ri_okq_of 541 90 539 540 (by decide +kernel) (by decide +kernel)
set_option maxRecDepth 100000 in
theorem o_X2_addAll : ri_okq (m_X2_addAll, 1, 1, t_X2_addAll) := ri_okq_of 574 90 572 573 (by decide +kernel) (by decide +kernel)
set_option maxRecDepth 100000 in
theorem o_X2_copy : ri_okq (m_X2_copy, 1, 1, t_X2_copy) := ri_okq_of 553 90 551 552 (by decide +kernel) (by decide +kernel)
set_option maxRecDepth 100000 in
theorem o_X2_becomeReversed : ri_okq (m_X2_becomeReversed, 1, 1, t_X2_becomeReversed) := ri_okq_of 583 90 581 582 (by decide +kernel) (by decide +kernel)
set_option maxRecDepth 100000 in
theorem o_X2_codeOrSize : ri_okq (m_X2_codeOrSize, 1, 1, t_X2_codeOrSize) := ri_okq_of 566 90 564 565 (by decide +kernel) (by decide +kernel)
set_option maxRecDepth 100000 in
theorem o_X3_init : ri_okq (m_X3_init, 0, 2, t_X3_init) := ri_okq_of 285 91 284 0 (by decide +kernel) (by decide +kernel)
set_option maxRecDepth 100000 in
theorem o_X3_become : ri_okq (m_X3_become, 2, 1, t_X3_become) := ri_okq_of 407 91 405 406 (by decide +kernel) (by decide +kernel)
set_option maxRecDepth 100000 in
theorem o_X3_isSimple : ri_okq (m_X3_isSimple, 0, 1, t_X3_isSimple) := ri_okq_of 465 91 463 464 (by decide +kernel) (by decide +kernel)
set_option maxRecDepth 100000 in
theorem o_X4_init : ri_okq (m_X4_init, 1, 2, t_X4_init) := ri_okq_of 111 83 110 0 (by decide +kernel) (by decide +kernel)
set_option maxRecDepth 100000 in
theorem o_X4_push : ri_okq (m_X4_push, 1, 1, t_X4_push) := ri_okq_of 321 83 319 320 (by decide +kernel) (by decide +kernel)
set_option maxRecDepth 100000 in
theorem o_X4_becomeLetter : ri_okq (m_X4_becomeLetter, 1, 1, t_X4_becomeLetter) := ri_okq_of 595 83 593 594 (by decide +kernel) (by decide +kernel)
set_option maxRecDepth 100000 in
theorem o_X4_copy : ri_okq (m_X4_copy, 1, 1, t_X4_copy) := ri_okq_of 411 83 409 410 (by decide +kernel) (by decide +kernel)
set_option maxRecDepth 100000 in
theorem o_X4_becomeBack : ri_okq (m_X4_becomeBack, 1, 1, t_X4_becomeBack) := ri_okq_of 337 83 335 336 (by decide +kernel) (by decide +kernel)
set_option maxRecDepth 100000 in
theorem o_X4_looseEnds : ri_okq (m_X4_looseEnds, 0, 1, t_X4_looseEnds) := ri_okq_of 420 83 419 7 (by decide +kernel) (by decide +kernel)
set_option maxRecDepth 100000 in
theorem o_X4_closedSize : ri_okq (m_X4_closedSize, 0, 1, t_X4_closedSize) := ri_okq_of 746 83 744 745 (by decide +kernel) (by decide +kernel)
set_option maxRecDepth 100000 in
theorem o_X4_close : ri_okq (m_X4_close, 0, 1, t_X4_close) := ri_okq_of 416 83 414 415 (by decide +kernel) (by decide +kernel)
set_option maxRecDepth 100000 in
theorem o_X4_isLike : ri_okq (m_X4_isLike, 1, 1, t_X4_isLike) := ri_okq_of 639 83 637 638 (by decide +kernel) (by decide +kernel)
set_option maxRecDepth 100000 in
theorem o_X4_isOneWith : ri_okq (m_X4_isOneWith, 1, 1, t_X4_isOneWith) := ri_okq_of 482 83 480 481 (by decide +kernel) (by decide +kernel)
set_option maxRecDepth 100000 in
theorem o_X4_runsAlong : ri_okq (m_X4_runsAlong, 3, 1, t_X4_runsAlong) := ri_okq_of 486 83 485 10 (by decide +kernel) (by decide +kernel)
set_option maxRecDepth 100000 in
theorem o_X4_runsAgainst : ri_okq (m_X4_runsAgainst, 3, 1, t_X4_runsAgainst) := ri_okq_of 490 83 489 11 (by decide +kernel) (by decide +kernel)
set_option maxRecDepth 100000 in
theorem o_X4_isPower : ri_okq (m_X4_isPower, 0, 1, t_X4_isPower) := ri_okq_of 424 83 422 423 (by decide +kernel) (by decide +kernel)
set_option maxRecDepth 100000 in
theorem o_X4_repeats : ri_okq (m_X4_repeats, 1, 1, t_X4_repeats) := ri_okq_of 428 83 427 8 (by decide +kernel) (by decide +kernel)
set_option maxRecDepth 100000 in
theorem o_X4_balanceOf : ri_okq (m_X4_balanceOf, 1, 1, t_X4_balanceOf) := ri_okq_of 675 83 673 674 (by decide +kernel) (by decide +kernel)
set_option maxRecDepth 100000 in
theorem o_X5_init : ri_okq (m_X5_init, 2, 2, t_X5_init) := ri_okq_of 198 88 197 0 (by decide +kernel) (by decide +kernel)
set_option maxRecDepth 100000 in
theorem o_X5_forCarrying : ri_okq (m_X5_forCarrying, 4, 1, t_X5_forCarrying) := ri_okq_of 736 88 734 735 (by decide +kernel) (by decide +kernel)
set_option maxRecDepth 100000 in
theorem o_X5_measureAhead : ri_okq (m_X5_measureAhead, 0, 1, t_X5_measureAhead) := ri_okq_of 741 88 740 25 (by decide +kernel) (by decide +kernel)
set_option maxRecDepth 100000 in
theorem o_X5_tryTwists : ri_okq (m_X5_tryTwists, 4, 1, t_X5_tryTwists) := ri_okq_of 751 88 750 26 (by decide +kernel) (by decide +kernel)
end
