noncomputable section
set_option maxRecDepth 100000 in
theorem o_X9_onesOf : ri_okq (m_X9_onesOf, 1, 0, t_X9_onesOf) := ri_okq_of 1150 93 1149 0 (by decide +kernel) (by decide +kernel)
set_option maxRecDepth 100000 in
theorem o_X9_character : ri_okq (m_X9_character, 2, 1, t_X9_character) := ri_okq_of 1144 93 1142 1143 (by decide +kernel) (by decide +kernel)
set_option maxRecDepth 100000 in
theorem o_X9_lengthNow : ri_okq (m_X9_lengthNow, 0, 1, t_X9_lengthNow) := ri_okq_of 1163 93 1162 73 (by decide +kernel) (by decide +kernel)
set_option maxRecDepth 100000 in
theorem o_X9_length : ri_okq (m_X9_length, 2, 1, t_X9_length) := ri_okq_of 1159 93 1157 1158 (by decide +kernel) (by decide +kernel)
set_option maxRecDepth 100000 in
theorem o_X9_comesBack : ri_okq (m_X9_comesBack, 3, 1, t_X9_comesBack) := ri_okq_of 1172 93 1171 74 (by decide +kernel) (by decide +kernel)
set_option maxRecDepth 100000 in
theorem o_X9_sort : ri_okq (m_X9_sort, 2, 1, t_X9_sort) := ri_okq_of 1167 93 1165 1166 (by decide +kernel) (by decide +kernel)
set_option maxRecDepth 100000 in
theorem o_X9_draftPlan : ri_okq (m_X9_draftPlan, 3, 1, t_X9_draftPlan) := ri_okq_of 1184 93 1183 76 (by decide +kernel) (by decide +kernel)
set_option maxRecDepth 100000 in
theorem o_X9_isDraftLike : ri_okq (m_X9_isDraftLike, 0, 1, t_X9_isDraftLike) := ri_okq_of 1188 93 1187 77 (by decide +kernel) (by decide +kernel)
set_option maxRecDepth 100000 in
theorem o_X9_law : ri_okq (m_X9_law, 2, 1, t_X9_law) := ri_okq_of 1176 93 1174 1175 (by decide +kernel) (by decide +kernel)
set_option maxRecDepth 100000 in
theorem o_X9_power : ri_okq (m_X9_power, 1, 1, t_X9_power) := ri_okq_of 1197 93 1196 78 (by decide +kernel) (by decide +kernel)
set_option maxRecDepth 100000 in
theorem o_X9_numberPlan : ri_okq (m_X9_numberPlan, 2, 1, t_X9_numberPlan) := ri_okq_of 1201 93 1200 79 (by decide +kernel) (by decide +kernel)
set_option maxRecDepth 100000 in
theorem o_X9_carries : ri_okq (m_X9_carries, 2, 1, t_X9_carries) := ri_okq_of 1205 93 1204 80 (by decide +kernel) (by decide +kernel)
set_option maxRecDepth 100000 in
theorem o_X9_carry : ri_okq (m_X9_carry, 4, 1, t_X9_carry) := ri_okq_of 1192 93 1190 1191 (by decide +kernel) (by decide +kernel)
set_option maxRecDepth 100000 in
theorem o_X9_fewest : ri_okq (m_X9_fewest, 3, 1, t_X9_fewest) := ri_okq_of 1209 93 1207 1208 (by decide +kernel) (by decide +kernel)
set_option maxRecDepth 100000 in
theorem o_X9_count : ri_okq (m_X9_count, 1, 1, t_X9_count) := ri_okq_of 1213 93 1211 1212 (by decide +kernel) (by decide +kernel)
set_option maxRecDepth 100000 in
theorem o_J6_bitCount_0f7a4 : ri_okq (m_J6_bitCount_0f7a4, 1, 0, t_J6_bitCount_0f7a4) := ri_okq_of 689 94 688 0 (by decide +kernel) (by decide +kernel)
theorem ri_okl : ∀ l ∈ ri_ms, ∀ q ∈ l, ri_okq q := by
  intro l hl
  simp only [ri_ms, List.mem_cons, List.not_mem_nil, or_false] at hl
  rcases hl with rfl | rfl | rfl | rfl | rfl | rfl | rfl | rfl | rfl | rfl | rfl | rfl | rfl | rfl
  · exact List.forall_mem_cons.mpr ⟨o_X0_init, List.forall_mem_cons.mpr ⟨o_X0_begin, List.forall_mem_cons.mpr ⟨o_X0_doPlan, List.forall_mem_cons.mpr ⟨o_X0_lettersTogether, List.forall_mem_cons.mpr ⟨o_X0_fullTurns, List.forall_mem_cons.mpr ⟨o_X0_areTurns, List.forall_mem_cons.mpr ⟨o_X0_pushRim, List.forall_mem_cons.mpr ⟨o_X0_rimLetter, List.forall_mem_cons.mpr ⟨o_X0_cornerSum, List.forall_mem_cons.mpr ⟨o_X0_corner, List.forall_mem_cons.mpr ⟨o_X1_init, List.forall_mem_cons.mpr ⟨o_X1_between, List.forall_mem_cons.mpr ⟨o_X1_crossings, List.forall_mem_cons.mpr ⟨o_X1_cross, fun _ h => absurd h List.not_mem_nil⟩⟩⟩⟩⟩⟩⟩⟩⟩⟩⟩⟩⟩⟩
  · exact List.forall_mem_cons.mpr ⟨o_X1_changeSides, List.forall_mem_cons.mpr ⟨o_X1_goRound, List.forall_mem_cons.mpr ⟨o_X1_stepsRound, List.forall_mem_cons.mpr ⟨o_X2_init, List.forall_mem_cons.mpr ⟨o_X2_add, List.forall_mem_cons.mpr ⟨o_X2_addAll, List.forall_mem_cons.mpr ⟨o_X2_copy, List.forall_mem_cons.mpr ⟨o_X2_becomeReversed, List.forall_mem_cons.mpr ⟨o_X2_codeOrSize, List.forall_mem_cons.mpr ⟨o_X3_init, List.forall_mem_cons.mpr ⟨o_X3_become, List.forall_mem_cons.mpr ⟨o_X3_isSimple, List.forall_mem_cons.mpr ⟨o_X4_init, List.forall_mem_cons.mpr ⟨o_X4_push, fun _ h => absurd h List.not_mem_nil⟩⟩⟩⟩⟩⟩⟩⟩⟩⟩⟩⟩⟩⟩
  · exact List.forall_mem_cons.mpr ⟨o_X4_becomeLetter, List.forall_mem_cons.mpr ⟨o_X4_copy, List.forall_mem_cons.mpr ⟨o_X4_becomeBack, List.forall_mem_cons.mpr ⟨o_X4_looseEnds, List.forall_mem_cons.mpr ⟨o_X4_closedSize, List.forall_mem_cons.mpr ⟨o_X4_close, List.forall_mem_cons.mpr ⟨o_X4_isLike, List.forall_mem_cons.mpr ⟨o_X4_isOneWith, List.forall_mem_cons.mpr ⟨o_X4_runsAlong, List.forall_mem_cons.mpr ⟨o_X4_runsAgainst, List.forall_mem_cons.mpr ⟨o_X4_isPower, List.forall_mem_cons.mpr ⟨o_X4_repeats, List.forall_mem_cons.mpr ⟨o_X4_balanceOf, List.forall_mem_cons.mpr ⟨o_X5_init, fun _ h => absurd h List.not_mem_nil⟩⟩⟩⟩⟩⟩⟩⟩⟩⟩⟩⟩⟩⟩
  · exact List.forall_mem_cons.mpr ⟨o_X5_forCarrying, List.forall_mem_cons.mpr ⟨o_X5_measureAhead, List.forall_mem_cons.mpr ⟨o_X5_tryTwists, List.forall_mem_cons.mpr ⟨o_X5_spell, List.forall_mem_cons.mpr ⟨o_X5_forImages, List.forall_mem_cons.mpr ⟨o_X5_doesAsImages, List.forall_mem_cons.mpr ⟨o_X6_init, List.forall_mem_cons.mpr ⟨o_X6_add, List.forall_mem_cons.mpr ⟨o_X6_understand, List.forall_mem_cons.mpr ⟨o_X6_take, List.forall_mem_cons.mpr ⟨o_X6_isFigure, List.forall_mem_cons.mpr ⟨o_X6_takeHandle, List.forall_mem_cons.mpr ⟨o_X6_takeTimes, List.forall_mem_cons.mpr ⟨o_X6_takeItem, fun _ h => absurd h List.not_mem_nil⟩⟩⟩⟩⟩⟩⟩⟩⟩⟩⟩⟩⟩⟩
  · exact List.forall_mem_cons.mpr ⟨o_X7_init, List.forall_mem_cons.mpr ⟨o_X7_layOut, List.forall_mem_cons.mpr ⟨o_X7_layWord, List.forall_mem_cons.mpr ⟨o_X7_spellFirst, List.forall_mem_cons.mpr ⟨o_X7_spellSecond, List.forall_mem_cons.mpr ⟨o_X7_spellThird, List.forall_mem_cons.mpr ⟨o_X7_spellBetween, List.forall_mem_cons.mpr ⟨o_X7_slotOf, List.forall_mem_cons.mpr ⟨o_X7_keepWord, List.forall_mem_cons.mpr ⟨o_X7_doTwist, List.forall_mem_cons.mpr ⟨o_X7_doPlan, List.forall_mem_cons.mpr ⟨o_X8_init, List.forall_mem_cons.mpr ⟨o_X8_skin, List.forall_mem_cons.mpr ⟨o_X8_letter, fun _ h => absurd h List.not_mem_nil⟩⟩⟩⟩⟩⟩⟩⟩⟩⟩⟩⟩⟩⟩
  · exact List.forall_mem_cons.mpr ⟨o_X8_ring, List.forall_mem_cons.mpr ⟨o_X8_told, List.forall_mem_cons.mpr ⟨o_X8_at, List.forall_mem_cons.mpr ⟨o_X8_meets, List.forall_mem_cons.mpr ⟨o_X8_one, List.forall_mem_cons.mpr ⟨o_X8_heap, List.forall_mem_cons.mpr ⟨o_X8_drop, List.forall_mem_cons.mpr ⟨o_X8_count, List.forall_mem_cons.mpr ⟨o_X8_feed, List.forall_mem_cons.mpr ⟨o_X8_read, List.forall_mem_cons.mpr ⟨o_X8_fault, List.forall_mem_cons.mpr ⟨o_X8_twist, List.forall_mem_cons.mpr ⟨o_X8_chain, List.forall_mem_cons.mpr ⟨o_X8_turn, fun _ h => absurd h List.not_mem_nil⟩⟩⟩⟩⟩⟩⟩⟩⟩⟩⟩⟩⟩⟩
  · exact List.forall_mem_cons.mpr ⟨o_X8_image, List.forall_mem_cons.mpr ⟨o_X8_carried, List.forall_mem_cons.mpr ⟨o_X8_meetsThen, List.forall_mem_cons.mpr ⟨o_X8_same, List.forall_mem_cons.mpr ⟨o_X8_turns, List.forall_mem_cons.mpr ⟨o_X8_order, List.forall_mem_cons.mpr ⟨o_X8_table, List.forall_mem_cons.mpr ⟨o_X8_character, List.forall_mem_cons.mpr ⟨o_X8_length, List.forall_mem_cons.mpr ⟨o_X8_sort, List.forall_mem_cons.mpr ⟨o_X8_law, List.forall_mem_cons.mpr ⟨o_X8_carry, List.forall_mem_cons.mpr ⟨o_X8_fewest, List.forall_mem_cons.mpr ⟨o_X8_layOut, fun _ h => absurd h List.not_mem_nil⟩⟩⟩⟩⟩⟩⟩⟩⟩⟩⟩⟩⟩⟩
  · exact List.forall_mem_cons.mpr ⟨o_X8_isRing, List.forall_mem_cons.mpr ⟨o_X8_isPlan, List.forall_mem_cons.mpr ⟨o_X8_isTwist, List.forall_mem_cons.mpr ⟨o_X8_isLetter, List.forall_mem_cons.mpr ⟨o_X8_isSearch, List.forall_mem_cons.mpr ⟨o_X8_oneIf, List.forall_mem_cons.mpr ⟨o_X8_firstBarring, List.forall_mem_cons.mpr ⟨o_X8_carryToWork, List.forall_mem_cons.mpr ⟨o_X8_firstUnlike, List.forall_mem_cons.mpr ⟨o_X8_keepsSomeRing, List.forall_mem_cons.mpr ⟨o_X8_keepsRing, List.forall_mem_cons.mpr ⟨o_X9_init, List.forall_mem_cons.mpr ⟨o_X9_in, List.forall_mem_cons.mpr ⟨o_X9_bit, fun _ h => absurd h List.not_mem_nil⟩⟩⟩⟩⟩⟩⟩⟩⟩⟩⟩⟩⟩⟩
  · exact List.forall_mem_cons.mpr ⟨o_X9_lay, List.forall_mem_cons.mpr ⟨o_X9_skin, List.forall_mem_cons.mpr ⟨o_X9_twists, List.forall_mem_cons.mpr ⟨o_X9_isLetter, List.forall_mem_cons.mpr ⟨o_X9_letter, List.forall_mem_cons.mpr ⟨o_X9_ring, List.forall_mem_cons.mpr ⟨o_X9_noRing, List.forall_mem_cons.mpr ⟨o_X9_drop, List.forall_mem_cons.mpr ⟨o_X9_takeU, List.forall_mem_cons.mpr ⟨o_X9_takeV, List.forall_mem_cons.mpr ⟨o_X9_turnV, List.forall_mem_cons.mpr ⟨o_X9_ofU, List.forall_mem_cons.mpr ⟨o_X9_ofV, List.forall_mem_cons.mpr ⟨o_X9_isTurned, fun _ h => absurd h List.not_mem_nil⟩⟩⟩⟩⟩⟩⟩⟩⟩⟩⟩⟩⟩⟩
  · exact List.forall_mem_cons.mpr ⟨o_X9_areOne, List.forall_mem_cons.mpr ⟨o_X9_one, List.forall_mem_cons.mpr ⟨o_X9_isPower, List.forall_mem_cons.mpr ⟨o_X9_placeOf, List.forall_mem_cons.mpr ⟨o_X9_farFrom, List.forall_mem_cons.mpr ⟨o_X9_goRound, List.forall_mem_cons.mpr ⟨o_X9_meetAtOnce, List.forall_mem_cons.mpr ⟨o_X9_meetAlong, List.forall_mem_cons.mpr ⟨o_X9_countMeetings, List.forall_mem_cons.mpr ⟨o_X9_meetings, List.forall_mem_cons.mpr ⟨o_X9_meetingsOf, List.forall_mem_cons.mpr ⟨o_X9_isSimple, List.forall_mem_cons.mpr ⟨o_X9_meets, List.forall_mem_cons.mpr ⟨o_X9_told, fun _ h => absurd h List.not_mem_nil⟩⟩⟩⟩⟩⟩⟩⟩⟩⟩⟩⟩⟩⟩
  · exact List.forall_mem_cons.mpr ⟨o_X9_at, List.forall_mem_cons.mpr ⟨o_X9_heap, List.forall_mem_cons.mpr ⟨o_X9_put, List.forall_mem_cons.mpr ⟨o_X9_putC, List.forall_mem_cons.mpr ⟨o_X9_putImage, List.forall_mem_cons.mpr ⟨o_X9_twistRow, List.forall_mem_cons.mpr ⟨o_X9_imageRow, List.forall_mem_cons.mpr ⟨o_X9_takeLetter, List.forall_mem_cons.mpr ⟨o_X9_takeRing, List.forall_mem_cons.mpr ⟨o_X9_closeToU, List.forall_mem_cons.mpr ⟨o_X9_noPlan, List.forall_mem_cons.mpr ⟨o_X9_feed, List.forall_mem_cons.mpr ⟨o_X9_look, List.forall_mem_cons.mpr ⟨o_X9_want, fun _ h => absurd h List.not_mem_nil⟩⟩⟩⟩⟩⟩⟩⟩⟩⟩⟩⟩⟩⟩
  · exact List.forall_mem_cons.mpr ⟨o_X9_takeFigure, List.forall_mem_cons.mpr ⟨o_X9_readTwist, List.forall_mem_cons.mpr ⟨o_X9_closeBracket, List.forall_mem_cons.mpr ⟨o_X9_readItem, List.forall_mem_cons.mpr ⟨o_X9_read, List.forall_mem_cons.mpr ⟨o_X9_fault, List.forall_mem_cons.mpr ⟨o_X9_twist, List.forall_mem_cons.mpr ⟨o_X9_chain, List.forall_mem_cons.mpr ⟨o_X9_turn, List.forall_mem_cons.mpr ⟨o_X9_image, List.forall_mem_cons.mpr ⟨o_X9_carried, List.forall_mem_cons.mpr ⟨o_X9_meetsThen, List.forall_mem_cons.mpr ⟨o_X9_startImages, List.forall_mem_cons.mpr ⟨o_X9_goOn, fun _ h => absurd h List.not_mem_nil⟩⟩⟩⟩⟩⟩⟩⟩⟩⟩⟩⟩⟩⟩
  · exact List.forall_mem_cons.mpr ⟨o_X9_findImages, List.forall_mem_cons.mpr ⟨o_X9_isImage, List.forall_mem_cons.mpr ⟨o_X9_same, List.forall_mem_cons.mpr ⟨o_X9_putRim, List.forall_mem_cons.mpr ⟨o_X9_isTurns, List.forall_mem_cons.mpr ⟨o_X9_findTurns, List.forall_mem_cons.mpr ⟨o_X9_turns, List.forall_mem_cons.mpr ⟨o_X9_findOrder, List.forall_mem_cons.mpr ⟨o_X9_order, List.forall_mem_cons.mpr ⟨o_X9_tableOf, List.forall_mem_cons.mpr ⟨o_X9_table, List.forall_mem_cons.mpr ⟨o_X9_determinant, List.forall_mem_cons.mpr ⟨o_X9_onesOf, List.forall_mem_cons.mpr ⟨o_X9_character, fun _ h => absurd h List.not_mem_nil⟩⟩⟩⟩⟩⟩⟩⟩⟩⟩⟩⟩⟩⟩
  · exact List.forall_mem_cons.mpr ⟨o_X9_lengthNow, List.forall_mem_cons.mpr ⟨o_X9_length, List.forall_mem_cons.mpr ⟨o_X9_comesBack, List.forall_mem_cons.mpr ⟨o_X9_sort, List.forall_mem_cons.mpr ⟨o_X9_draftPlan, List.forall_mem_cons.mpr ⟨o_X9_isDraftLike, List.forall_mem_cons.mpr ⟨o_X9_law, List.forall_mem_cons.mpr ⟨o_X9_power, List.forall_mem_cons.mpr ⟨o_X9_numberPlan, List.forall_mem_cons.mpr ⟨o_X9_carries, List.forall_mem_cons.mpr ⟨o_X9_carry, List.forall_mem_cons.mpr ⟨o_X9_fewest, List.forall_mem_cons.mpr ⟨o_X9_count, List.forall_mem_cons.mpr ⟨o_J6_bitCount_0f7a4, fun _ h => absurd h List.not_mem_nil⟩⟩⟩⟩⟩⟩⟩⟩⟩⟩⟩⟩⟩⟩
theorem ri_nthD_mem {α : Type} (d : α) : ∀ (l : List α) (n : Nat), ri_nthD d l n = d ∨ ri_nthD d l n ∈ l
  | [], n => Or.inl rfl
  | x :: t, 0 => Or.inr List.mem_cons_self
  | x :: t, n + 1 => (ri_nthD_mem d t n).imp id (fun h => List.mem_cons_of_mem _ h)
theorem ri_all (j : Nat) : ri_okj ri_M j := by
  show ri_okq (ri_M j)
  unfold ri_M
  rcases ri_nthD_mem ri_m0d (ri_nthD [] ri_ms (j / 14)) (j % 14) with h | h
  · rw [h]
    exact o_X0_init
  · rcases ri_nthD_mem [] ri_ms (j / 14) with h2 | h2
    · rw [h2] at h
      exact absurd h List.not_mem_nil
    · exact ri_okl _ h2 _ h
end
