noncomputable section
theorem dd_X8_isPlan_0 : decode cX8_isPlan 0 = .ok (.iload_n 0, 1) := by decide +kernel
theorem dd_X8_isPlan_1 : decode cX8_isPlan 1 = .ok (.ifCond .lt 13, 3) := by decide +kernel
theorem dd_X8_isPlan_4 : decode cX8_isPlan 4 = .ok (.iload_n 0, 1) := by decide +kernel
theorem dd_X8_isPlan_5 : decode cX8_isPlan 5 = .ok (.bipush 8, 2) := by decide +kernel
theorem dd_X8_isPlan_7 : decode cX8_isPlan 7 = .ok (.if_icmp .ge 7, 3) := by decide +kernel
theorem dd_X8_isPlan_10 : decode cX8_isPlan 10 = .ok (.iconst 1, 1) := by decide +kernel
theorem dd_X8_isPlan_11 : decode cX8_isPlan 11 = .ok (.goto 4, 3) := by decide +kernel
theorem dd_X8_isPlan_14 : decode cX8_isPlan 14 = .ok (.iconst 0, 1) := by decide +kernel
theorem dd_X8_isPlan_15 : decode cX8_isPlan 15 = .ok (.ireturn, 1) := by decide +kernel
theorem ok_X8_isPlan : am_okM m_X8_isPlan 1 ∧ Cond.static m_X8_isPlan.1 ∈ am_tbl := ri_mk0 522 82 521 0 (by decide +kernel)
theorem c_X8_isPlan {p : Int} {F A : gs_F} (hp : -2147483648 ≤ p ∧ p ≤ 2147483647) : sC m_X8_isPlan 1 [gs_iv p] F A (fun rv F' A' => ∃ z : Int, rv = some (gs_iv z) ∧ F = F' ∧ A = A' ∧ ((z = 1 ∧ 0 ≤ p ∧ p ≤ 7) ∨ (z = 0 ∧ (p < 0 ∨ 7 < p)))) := by
  refine sC_of ok_X8_isPlan.1 (Nat.le_of_ble_eq_true rfl) ?_
  show sA _ _ _ 0 [(0, gs_iv p)] [] F A
  refine sA_iload_n dd_X8_isPlan_0 rfl (.head _) ?_
  refine sA_if_lt (tgt := 14) dd_X8_isPlan_1 (by decide) (by omega) (fun q1 => ?_) (fun q1 => ?_)
  · skip
    refine sA_iconst (z := 0) dd_X8_isPlan_14 ?_
    refine sA_bret (z := 0) dd_X8_isPlan_15 rfl (by omega) ?_
    exact ⟨_, rfl, rfl, rfl, by omega⟩
  · skip
    refine sA_iload_n dd_X8_isPlan_4 rfl (.head _) ?_
    refine sA_bipush (z := 8) dd_X8_isPlan_5 (by decide) ?_
    refine sA_icmp_ge (tgt := 14) dd_X8_isPlan_7 (by decide) (by omega) (by omega) (fun q2 => ?_) (fun q2 => ?_)
    · skip
      refine sA_iconst (z := 0) dd_X8_isPlan_14 ?_
      refine sA_bret (z := 0) dd_X8_isPlan_15 rfl (by omega) ?_
      exact ⟨_, rfl, rfl, rfl, by omega⟩
    · skip
      refine sA_iconst (z := 1) dd_X8_isPlan_10 ?_
      refine sA_goto (tgt := 15) dd_X8_isPlan_11 (by decide) ?_
      refine sA_bret (z := 1) dd_X8_isPlan_15 rfl (by omega) ?_
      exact ⟨_, rfl, rfl, rfl, by omega⟩
theorem dd_X8_isRing_0 : decode cX8_isRing 0 = .ok (.iload_n 1, 1) := by decide +kernel
theorem dd_X8_isRing_1 : decode cX8_isRing 1 = .ok (.ifCond .lt 21, 3) := by decide +kernel
theorem dd_X8_isRing_4 : decode cX8_isRing 4 = .ok (.iload_n 1, 1) := by decide +kernel
theorem dd_X8_isRing_5 : decode cX8_isRing 5 = .ok (.aload_n 0, 1) := by decide +kernel
theorem dd_X8_isRing_6 : decode cX8_isRing 6 = .ok (.getfield 94, 3) := by decide +kernel
theorem dd_X8_isRing_9 : decode cX8_isRing 9 = .ok (.if_icmp .ge 13, 3) := by decide +kernel
theorem dd_X8_isRing_12 : decode cX8_isRing 12 = .ok (.iload_n 1, 1) := by decide +kernel
theorem dd_X8_isRing_13 : decode cX8_isRing 13 = .ok (.bipush 12, 2) := by decide +kernel
theorem dd_X8_isRing_15 : decode cX8_isRing 15 = .ok (.if_icmp .ge 7, 3) := by decide +kernel
theorem dd_X8_isRing_18 : decode cX8_isRing 18 = .ok (.iconst 1, 1) := by decide +kernel
theorem dd_X8_isRing_19 : decode cX8_isRing 19 = .ok (.goto 4, 3) := by decide +kernel
theorem dd_X8_isRing_22 : decode cX8_isRing 22 = .ok (.iconst 0, 1) := by decide +kernel
theorem dd_X8_isRing_23 : decode cX8_isRing 23 = .ok (.ireturn, 1) := by decide +kernel
theorem gs_s0 : gs_sh 0 = .inl (8, [some 1, some 2, some 3, some 5, some 12, some 15, some 30, some 43, some 48, some 50, some 52, none, none]) := rfl
theorem fl_X8_94 : Cond.fieldLink RX8 94 (TX8 12).1 (TX8 12).2.1 (TX8 12).2.2.1 ∈ am_tbl := ri_lw_in (pl := 363) (by decide +kernel)
theorem ok_X8_isRing : am_okM m_X8_isRing 1 ∧ Cond.instanceMethod m_X8_isRing.1 ∈ am_tbl ∧ Cond.selects m_X8_isRing.1.cls m_X8_isRing.1 m_X8_isRing.1 ∈ am_tbl := ri_mk1 458 82 457 9 (by decide +kernel)
theorem c_X8_isRing {r : Int} {F A : gs_F} (hI : gs_I F A) (hr : -2147483648 ≤ r ∧ r ≤ 2147483647) : sC m_X8_isRing 1 [.ref 0, gs_iv r] F A (fun rv F' A' => ∃ z : Int, rv = some (gs_iv z) ∧ F = F' ∧ A = A' ∧ ((z = 1 ∧ 0 ≤ r ∧ r < F 0 12 ∧ r < 12) ∨ (z = 0 ∧ (r < 0 ∨ F 0 12 ≤ r)))) := by
  refine sC_of ok_X8_isRing.1 (Nat.le_of_ble_eq_true rfl) ?_
  show sA _ _ _ 0 [(0, .ref 0), (1, gs_iv r)] [] F A
  refine sA_iload_n dd_X8_isRing_0 rfl (.tail _ (.head _)) ?_
  refine sA_if_lt (tgt := 22) dd_X8_isRing_1 (by decide) (by omega) (fun q1 => ?_) (fun q1 => ?_)
  · skip
    refine sA_iconst (z := 0) dd_X8_isRing_22 ?_
    refine sA_bret (z := 0) dd_X8_isRing_23 rfl (by omega) ?_
    exact ⟨_, rfl, rfl, rfl, by omega⟩
  · skip
    refine sA_iload_n dd_X8_isRing_4 rfl (.tail _ (.head _)) ?_
    refine sA_aload_n dd_X8_isRing_5 rfl (.head _) ?_
    refine sA_geti (ci := 8) (j := 12) (q := (RX8, TX8, 13)) dd_X8_isRing_6 rfl (by decide) fl_X8_94 (by decide) gs_s0 rfl ?_
    have b2 : (0 : Int) ≤ F 0 12 ∧ F 0 12 ≤ 12 := hI.1 0 12
    refine sA_icmp_ge (tgt := 22) dd_X8_isRing_9 (by decide) (by omega) (by omega) (fun q3 => ?_) (fun q3 => ?_)
    · skip
      refine sA_iconst (z := 0) dd_X8_isRing_22 ?_
      refine sA_bret (z := 0) dd_X8_isRing_23 rfl (by omega) ?_
      exact ⟨_, rfl, rfl, rfl, by omega⟩
    · skip
      refine sA_iload_n dd_X8_isRing_12 rfl (.tail _ (.head _)) ?_
      refine sA_bipush (z := 12) dd_X8_isRing_13 (by decide) ?_
      refine sA_icmp_ge (tgt := 22) dd_X8_isRing_15 (by decide) (by omega) (by omega) (fun q4 => ?_) (fun q4 => ?_)
      · skip
        refine sA_iconst (z := 0) dd_X8_isRing_22 ?_
        refine sA_bret (z := 0) dd_X8_isRing_23 rfl (by omega) ?_
        exact ⟨_, rfl, rfl, rfl, by omega⟩
      · skip
        refine sA_iconst (z := 1) dd_X8_isRing_18 ?_
        refine sA_goto (tgt := 23) dd_X8_isRing_19 (by decide) ?_
        refine sA_bret (z := 1) dd_X8_isRing_23 rfl (by omega) ?_
        exact ⟨_, rfl, rfl, rfl, by omega⟩
theorem dd_X8_isTwist_0 : decode cX8_isTwist 0 = .ok (.iload_n 1, 1) := by decide +kernel
theorem dd_X8_isTwist_1 : decode cX8_isTwist 1 = .ok (.ifCond .lt 18, 3) := by decide +kernel
theorem dd_X8_isTwist_4 : decode cX8_isTwist 4 = .ok (.iload_n 1, 1) := by decide +kernel
theorem dd_X8_isTwist_5 : decode cX8_isTwist 5 = .ok (.aload_n 0, 1) := by decide +kernel
theorem dd_X8_isTwist_6 : decode cX8_isTwist 6 = .ok (.getfield 33, 3) := by decide +kernel
theorem dd_X8_isTwist_9 : decode cX8_isTwist 9 = .ok (.getfield 139, 3) := by decide +kernel
theorem dd_X8_isTwist_12 : decode cX8_isTwist 12 = .ok (.if_icmp .ge 7, 3) := by decide +kernel
theorem dd_X8_isTwist_15 : decode cX8_isTwist 15 = .ok (.iconst 1, 1) := by decide +kernel
theorem dd_X8_isTwist_16 : decode cX8_isTwist 16 = .ok (.goto 4, 3) := by decide +kernel
theorem dd_X8_isTwist_19 : decode cX8_isTwist 19 = .ok (.iconst 0, 1) := by decide +kernel
theorem dd_X8_isTwist_20 : decode cX8_isTwist 20 = .ok (.ireturn, 1) := by decide +kernel
theorem fl_X8_139 : Cond.fieldLink RX8 139 (TX7 0).1 (TX7 0).2.1 (TX7 0).2.2.1 ∈ am_tbl := ri_lw_in (pl := 141) (by decide +kernel)
theorem fl_X8_33 : Cond.fieldLink RX8 33 (TX8 3).1 (TX8 3).2.1 (TX8 3).2.2.1 ∈ am_tbl := ri_lw_in (pl := 354) (by decide +kernel)
theorem ok_X8_isTwist : am_okM m_X8_isTwist 1 ∧ Cond.instanceMethod m_X8_isTwist.1 ∈ am_tbl ∧ Cond.selects m_X8_isTwist.1.cls m_X8_isTwist.1 m_X8_isTwist.1 ∈ am_tbl := ri_mk1 724 82 723 24 (by decide +kernel)
theorem c_X8_isTwist {t : Int} {F A : gs_F} (hI : gs_I F A) (ht : -2147483648 ≤ t ∧ t ≤ 2147483647) : sC m_X8_isTwist 1 [.ref 0, gs_iv t] F A (fun rv F' A' => ∃ z : Int, rv = some (gs_iv z) ∧ F = F' ∧ A = A' ∧ ((z = 1 ∧ 0 ≤ t ∧ t < F 5 0 ∧ t < 8) ∨ (z = 0 ∧ (t < 0 ∨ F 5 0 ≤ t)))) := by
  refine sC_of ok_X8_isTwist.1 (Nat.le_of_ble_eq_true rfl) ?_
  show sA _ _ _ 0 [(0, .ref 0), (1, gs_iv t)] [] F A
  refine sA_iload_n dd_X8_isTwist_0 rfl (.tail _ (.head _)) ?_
  refine sA_if_lt (tgt := 19) dd_X8_isTwist_1 (by decide) (by omega) (fun q1 => ?_) (fun q1 => ?_)
  · skip
    refine sA_iconst (z := 0) dd_X8_isTwist_19 ?_
    refine sA_bret (z := 0) dd_X8_isTwist_20 rfl (by omega) ?_
    exact ⟨_, rfl, rfl, rfl, by omega⟩
  · skip
    refine sA_iload_n dd_X8_isTwist_4 rfl (.tail _ (.head _)) ?_
    refine sA_aload_n dd_X8_isTwist_5 rfl (.head _) ?_
    refine sA_getr (ci := 8) (j := 3) (q := (RX8, TX8, 13)) dd_X8_isTwist_6 rfl (by decide) fl_X8_33 (by decide) gs_s0 rfl ?_
    refine sA_geti (ci := 7) (j := 0) (q := (RX7, TX7, 5)) dd_X8_isTwist_9 rfl (by decide) fl_X8_139 (by decide) gs_s5 rfl ?_
    have b2 : (1 : Int) ≤ F 5 0 ∧ F 5 0 ≤ 8 := hI.1 5 0
    refine sA_icmp_ge (tgt := 19) dd_X8_isTwist_12 (by decide) (by omega) (by omega) (fun q3 => ?_) (fun q3 => ?_)
    · skip
      refine sA_iconst (z := 0) dd_X8_isTwist_19 ?_
      refine sA_bret (z := 0) dd_X8_isTwist_20 rfl (by omega) ?_
      exact ⟨_, rfl, rfl, rfl, by omega⟩
    · skip
      refine sA_iconst (z := 1) dd_X8_isTwist_15 ?_
      refine sA_goto (tgt := 20) dd_X8_isTwist_16 (by decide) ?_
      refine sA_bret (z := 1) dd_X8_isTwist_20 rfl (by omega) ?_
      exact ⟨_, rfl, rfl, rfl, by omega⟩
theorem dd_X8_isLetter_0 : decode cX8_isLetter 0 = .ok (.iload_n 1, 1) := by decide +kernel
theorem dd_X8_isLetter_1 : decode cX8_isLetter 1 = .ok (.iconst 1, 1) := by decide +kernel
theorem dd_X8_isLetter_2 : decode cX8_isLetter 2 = .ok (.if_icmp .lt 17, 3) := by decide +kernel
theorem dd_X8_isLetter_5 : decode cX8_isLetter 5 = .ok (.iload_n 1, 1) := by decide +kernel
theorem dd_X8_isLetter_6 : decode cX8_isLetter 6 = .ok (.iconst 2, 1) := by decide +kernel
theorem dd_X8_isLetter_7 : decode cX8_isLetter 7 = .ok (.aload_n 0, 1) := by decide +kernel
theorem dd_X8_isLetter_8 : decode cX8_isLetter 8 = .ok (.getfield 84, 3) := by decide +kernel
theorem dd_X8_isLetter_11 : decode cX8_isLetter 11 = .ok (.imul, 1) := by decide +kernel
theorem dd_X8_isLetter_12 : decode cX8_isLetter 12 = .ok (.if_icmp .gt 7, 3) := by decide +kernel
theorem dd_X8_isLetter_15 : decode cX8_isLetter 15 = .ok (.iconst 1, 1) := by decide +kernel
theorem dd_X8_isLetter_16 : decode cX8_isLetter 16 = .ok (.goto 4, 3) := by decide +kernel
theorem dd_X8_isLetter_19 : decode cX8_isLetter 19 = .ok (.iconst 0, 1) := by decide +kernel
theorem dd_X8_isLetter_20 : decode cX8_isLetter 20 = .ok (.ireturn, 1) := by decide +kernel
theorem fl_X8_84 : Cond.fieldLink RX8 84 (TX8 11).1 (TX8 11).2.1 (TX8 11).2.2.1 ∈ am_tbl := ri_lw_in (pl := 362) (by decide +kernel)
theorem ok_X8_isLetter : am_okM m_X8_isLetter 1 ∧ Cond.instanceMethod m_X8_isLetter.1 ∈ am_tbl ∧ Cond.selects m_X8_isLetter.1.cls m_X8_isLetter.1 m_X8_isLetter.1 ∈ am_tbl := ri_mk1 591 82 590 17 (by decide +kernel)
theorem c_X8_isLetter {x : Int} {F A : gs_F} (hI : gs_I F A) (hx : -2147483648 ≤ x ∧ x ≤ 2147483647) : sC m_X8_isLetter 1 [.ref 0, gs_iv x] F A (fun rv F' A' => ∃ z : Int, rv = some (gs_iv z) ∧ F = F' ∧ A = A' ∧ ((z = 1 ∧ 1 ≤ x ∧ x ≤ 2 * F 0 11 ∧ x ≤ 6) ∨ (z = 0 ∧ (x < 1 ∨ 2 * F 0 11 < x)))) := by
  refine sC_of ok_X8_isLetter.1 (Nat.le_of_ble_eq_true rfl) ?_
  show sA _ _ _ 0 [(0, .ref 0), (1, gs_iv x)] [] F A
  refine sA_iload_n dd_X8_isLetter_0 rfl (.tail _ (.head _)) ?_
  refine sA_iconst (z := 1) dd_X8_isLetter_1 ?_
  refine sA_icmp_lt (tgt := 19) dd_X8_isLetter_2 (by decide) (by omega) (by omega) (fun q1 => ?_) (fun q1 => ?_)
  · skip
    refine sA_iconst (z := 0) dd_X8_isLetter_19 ?_
    refine sA_bret (z := 0) dd_X8_isLetter_20 rfl (by omega) ?_
    exact ⟨_, rfl, rfl, rfl, by omega⟩
  · skip
    refine sA_iload_n dd_X8_isLetter_5 rfl (.tail _ (.head _)) ?_
    refine sA_iconst (z := 2) dd_X8_isLetter_6 ?_
    refine sA_aload_n dd_X8_isLetter_7 rfl (.head _) ?_
    refine sA_geti (ci := 8) (j := 11) (q := (RX8, TX8, 13)) dd_X8_isLetter_8 rfl (by decide) fl_X8_84 (by decide) gs_s0 rfl ?_
    have b2 : (1 : Int) ≤ F 0 11 ∧ F 0 11 ≤ 3 := hI.1 0 11
    refine sA_imul dd_X8_isLetter_11 ?_
    refine sA_icmp_gt (tgt := 19) dd_X8_isLetter_12 (by decide) (by omega) (by omega) (fun q3 => ?_) (fun q3 => ?_)
    · skip
      refine sA_iconst (z := 0) dd_X8_isLetter_19 ?_
      refine sA_bret (z := 0) dd_X8_isLetter_20 rfl (by omega) ?_
      exact ⟨_, rfl, rfl, rfl, by omega⟩
    · skip
      refine sA_iconst (z := 1) dd_X8_isLetter_15 ?_
      refine sA_goto (tgt := 20) dd_X8_isLetter_16 (by decide) ?_
      refine sA_bret (z := 1) dd_X8_isLetter_20 rfl (by omega) ?_
      exact ⟨_, rfl, rfl, rfl, by omega⟩
theorem dd_X8_isSearch_0 : decode cX8_isSearch 0 = .ok (.iload_n 0, 1) := by decide +kernel
theorem dd_X8_isSearch_1 : decode cX8_isSearch 1 = .ok (.ifCond .lt 22, 3) := by decide +kernel
theorem dd_X8_isSearch_4 : decode cX8_isSearch 4 = .ok (.iload_n 0, 1) := by decide +kernel
theorem dd_X8_isSearch_5 : decode cX8_isSearch 5 = .ok (.iconst 3, 1) := by decide +kernel
theorem dd_X8_isSearch_6 : decode cX8_isSearch 6 = .ok (.if_icmp .gt 17, 3) := by decide +kernel
theorem dd_X8_isSearch_9 : decode cX8_isSearch 9 = .ok (.iload_n 1, 1) := by decide +kernel
theorem dd_X8_isSearch_10 : decode cX8_isSearch 10 = .ok (.iconst (-1), 1) := by decide +kernel
theorem dd_X8_isSearch_11 : decode cX8_isSearch 11 = .ok (.if_icmp .lt 12, 3) := by decide +kernel
theorem dd_X8_isSearch_14 : decode cX8_isSearch 14 = .ok (.iload_n 1, 1) := by decide +kernel
theorem dd_X8_isSearch_15 : decode cX8_isSearch 15 = .ok (.iconst 3, 1) := by decide +kernel
theorem dd_X8_isSearch_16 : decode cX8_isSearch 16 = .ok (.if_icmp .ge 7, 3) := by decide +kernel
theorem dd_X8_isSearch_19 : decode cX8_isSearch 19 = .ok (.iconst 1, 1) := by decide +kernel
theorem dd_X8_isSearch_20 : decode cX8_isSearch 20 = .ok (.goto 4, 3) := by decide +kernel
theorem dd_X8_isSearch_23 : decode cX8_isSearch 23 = .ok (.iconst 0, 1) := by decide +kernel
theorem dd_X8_isSearch_24 : decode cX8_isSearch 24 = .ok (.ireturn, 1) := by decide +kernel
theorem ok_X8_isSearch : am_okM m_X8_isSearch 2 ∧ Cond.static m_X8_isSearch.1 ∈ am_tbl := ri_mk0 732 82 731 0 (by decide +kernel)
theorem c_X8_isSearch {n i : Int} {F A : gs_F} (hn : -2147483648 ≤ n ∧ n ≤ 2147483647) (hi : -2147483648 ≤ i ∧ i ≤ 2147483647) : sC m_X8_isSearch 1 [gs_iv n, gs_iv i] F A (fun rv F' A' => ∃ z : Int, rv = some (gs_iv z) ∧ F = F' ∧ A = A' ∧ ((z = 1 ∧ 0 ≤ n ∧ n ≤ 3 ∧ -1 ≤ i ∧ i ≤ 2) ∨ (z = 0 ∧ (n < 0 ∨ 3 < n ∨ i < -1 ∨ 2 < i)))) := by
  refine sC_of ok_X8_isSearch.1 (Nat.le_of_ble_eq_true rfl) ?_
  show sA _ _ _ 0 [(0, gs_iv n), (1, gs_iv i)] [] F A
  refine sA_iload_n dd_X8_isSearch_0 rfl (.head _) ?_
  refine sA_if_lt (tgt := 23) dd_X8_isSearch_1 (by decide) (by omega) (fun q1 => ?_) (fun q1 => ?_)
  · skip
    refine sA_iconst (z := 0) dd_X8_isSearch_23 ?_
    refine sA_bret (z := 0) dd_X8_isSearch_24 rfl (by omega) ?_
    exact ⟨_, rfl, rfl, rfl, by omega⟩
  · skip
    refine sA_iload_n dd_X8_isSearch_4 rfl (.head _) ?_
    refine sA_iconst (z := 3) dd_X8_isSearch_5 ?_
    refine sA_icmp_gt (tgt := 23) dd_X8_isSearch_6 (by decide) (by omega) (by omega) (fun q2 => ?_) (fun q2 => ?_)
    · skip
      refine sA_iconst (z := 0) dd_X8_isSearch_23 ?_
      refine sA_bret (z := 0) dd_X8_isSearch_24 rfl (by omega) ?_
      exact ⟨_, rfl, rfl, rfl, by omega⟩
    · skip
      refine sA_iload_n dd_X8_isSearch_9 rfl (.tail _ (.head _)) ?_
      refine sA_iconst (z := (-1)) dd_X8_isSearch_10 ?_
      refine sA_icmp_lt (tgt := 23) dd_X8_isSearch_11 (by decide) (by omega) (by omega) (fun q3 => ?_) (fun q3 => ?_)
      · skip
        refine sA_iconst (z := 0) dd_X8_isSearch_23 ?_
        refine sA_bret (z := 0) dd_X8_isSearch_24 rfl (by omega) ?_
        exact ⟨_, rfl, rfl, rfl, by omega⟩
      · skip
        refine sA_iload_n dd_X8_isSearch_14 rfl (.tail _ (.head _)) ?_
        refine sA_iconst (z := 3) dd_X8_isSearch_15 ?_
        refine sA_icmp_ge (tgt := 23) dd_X8_isSearch_16 (by decide) (by omega) (by omega) (fun q4 => ?_) (fun q4 => ?_)
        · skip
          refine sA_iconst (z := 0) dd_X8_isSearch_23 ?_
          refine sA_bret (z := 0) dd_X8_isSearch_24 rfl (by omega) ?_
          exact ⟨_, rfl, rfl, rfl, by omega⟩
        · skip
          refine sA_iconst (z := 1) dd_X8_isSearch_19 ?_
          refine sA_goto (tgt := 24) dd_X8_isSearch_20 (by decide) ?_
          refine sA_bret (z := 1) dd_X8_isSearch_24 rfl (by omega) ?_
          exact ⟨_, rfl, rfl, rfl, by omega⟩
theorem dd_X8_oneIf_0 : decode cX8_oneIf 0 = .ok (.iload_n 0, 1) := by decide +kernel
theorem dd_X8_oneIf_1 : decode cX8_oneIf 1 = .ok (.ifCond .eq 7, 3) := by decide +kernel
theorem dd_X8_oneIf_4 : decode cX8_oneIf 4 = .ok (.iconst 1, 1) := by decide +kernel
theorem dd_X8_oneIf_5 : decode cX8_oneIf 5 = .ok (.goto 4, 3) := by decide +kernel
theorem dd_X8_oneIf_8 : decode cX8_oneIf 8 = .ok (.iconst 0, 1) := by decide +kernel
theorem dd_X8_oneIf_9 : decode cX8_oneIf 9 = .ok (.ireturn, 1) := by decide +kernel
theorem ok_X8_oneIf : am_okM m_X8_oneIf 1 ∧ Cond.static m_X8_oneIf.1 ∈ am_tbl := ri_mk0 461 82 460 0 (by decide +kernel)
theorem c_X8_oneIf {b : Int} {F A : gs_F} (hb : b = 0 ∨ b = 1) : sC m_X8_oneIf 1 [gs_iv b] F A (fun rv F' A' => ∃ z : Int, rv = some (gs_iv z) ∧ F = F' ∧ A = A' ∧ (z = b)) := by
  refine sC_of ok_X8_oneIf.1 (Nat.le_of_ble_eq_true rfl) ?_
  show sA _ _ _ 0 [(0, gs_iv b)] [] F A
  refine sA_iload_n dd_X8_oneIf_0 rfl (.head _) ?_
  refine sA_if_eq (tgt := 8) dd_X8_oneIf_1 (by decide) (by omega) (fun q1 => ?_) (fun q1 => ?_)
  · skip
    refine sA_iconst (z := 0) dd_X8_oneIf_8 ?_
    refine sA_iret (z := 0) dd_X8_oneIf_9 rfl ?_
    exact ⟨_, rfl, rfl, rfl, by omega⟩
  · skip
    refine sA_iconst (z := 1) dd_X8_oneIf_4 ?_
    refine sA_goto (tgt := 9) dd_X8_oneIf_5 (by decide) ?_
    refine sA_iret (z := 1) dd_X8_oneIf_9 rfl ?_
    exact ⟨_, rfl, rfl, rfl, by omega⟩
theorem dd_X8_layOut_0 : decode cX8_layOut 0 = .ok (.aload_n 0, 1) := by decide +kernel
theorem dd_X8_layOut_1 : decode cX8_layOut 1 = .ok (.iload_n 1, 1) := by decide +kernel
theorem dd_X8_layOut_2 : decode cX8_layOut 2 = .ok (.putfield 84, 3) := by decide +kernel
theorem dd_X8_layOut_5 : decode cX8_layOut 5 = .ok (.aload_n 0, 1) := by decide +kernel
theorem dd_X8_layOut_6 : decode cX8_layOut 6 = .ok (.iconst 0, 1) := by decide +kernel
theorem dd_X8_layOut_7 : decode cX8_layOut 7 = .ok (.putfield 94, 3) := by decide +kernel
theorem dd_X8_layOut_10 : decode cX8_layOut 10 = .ok (.aload_n 0, 1) := by decide +kernel
theorem dd_X8_layOut_11 : decode cX8_layOut 11 = .ok (.getfield 26, 3) := by decide +kernel
theorem dd_X8_layOut_14 : decode cX8_layOut 14 = .ok (.iconst 0, 1) := by decide +kernel
theorem dd_X8_layOut_15 : decode cX8_layOut 15 = .ok (.putfield 88, 3) := by decide +kernel
theorem dd_X8_layOut_18 : decode cX8_layOut 18 = .ok (.iconst 0, 1) := by decide +kernel
theorem dd_X8_layOut_19 : decode cX8_layOut 19 = .ok (.istore_n 2, 1) := by decide +kernel
theorem dd_X8_layOut_20 : decode cX8_layOut 20 = .ok (.iload_n 2, 1) := by decide +kernel
theorem dd_X8_layOut_21 : decode cX8_layOut 21 = .ok (.bipush 8, 2) := by decide +kernel
theorem dd_X8_layOut_23 : decode cX8_layOut 23 = .ok (.if_icmp .ge 19, 3) := by decide +kernel
theorem dd_X8_layOut_26 : decode cX8_layOut 26 = .ok (.aload_n 0, 1) := by decide +kernel
theorem dd_X8_layOut_27 : decode cX8_layOut 27 = .ok (.getfield 17, 3) := by decide +kernel
theorem dd_X8_layOut_30 : decode cX8_layOut 30 = .ok (.iload_n 2, 1) := by decide +kernel
theorem dd_X8_layOut_31 : decode cX8_layOut 31 = .ok (.aaload, 1) := by decide +kernel
theorem dd_X8_layOut_32 : decode cX8_layOut 32 = .ok (.iconst 0, 1) := by decide +kernel
theorem dd_X8_layOut_33 : decode cX8_layOut 33 = .ok (.putfield 162, 3) := by decide +kernel
theorem dd_X8_layOut_36 : decode cX8_layOut 36 = .ok (.iinc 2 1, 3) := by decide +kernel
theorem dd_X8_layOut_39 : decode cX8_layOut 39 = .ok (.goto (-19), 3) := by decide +kernel
theorem dd_X8_layOut_42 : decode cX8_layOut 42 = .ok (.aload_n 0, 1) := by decide +kernel
theorem dd_X8_layOut_43 : decode cX8_layOut 43 = .ok (.getfield 33, 3) := by decide +kernel
theorem dd_X8_layOut_46 : decode cX8_layOut 46 = .ok (.iload_n 1, 1) := by decide +kernel
theorem dd_X8_layOut_47 : decode cX8_layOut 47 = .ok (.invokevirtual 239, 3) := by decide +kernel
theorem dd_X8_layOut_50 : decode cX8_layOut 50 = .ok (.return_, 1) := by decide +kernel
theorem gs_s2 : gs_sh 2 = .inr (.inr (4, 8, 90, 2)) := rfl
theorem fl_X8_162 : Cond.fieldLink RX8 162 (TX2 1).1 (TX2 1).2.1 (TX2 1).2.2.1 ∈ am_tbl := ri_lw_in (pl := 241) (by decide +kernel)
theorem fl_X8_17 : Cond.fieldLink RX8 17 (TX8 1).1 (TX8 1).2.1 (TX8 1).2.2.1 ∈ am_tbl := ri_lw_in (pl := 352) (by decide +kernel)
theorem fl_X8_26 : Cond.fieldLink RX8 26 (TX8 2).1 (TX8 2).2.1 (TX8 2).2.2.1 ∈ am_tbl := ri_lw_in (pl := 353) (by decide +kernel)
theorem fl_X8_88 : Cond.fieldLink RX8 88 (TX4 1).1 (TX4 1).2.1 (TX4 1).2.2.1 ∈ am_tbl := ri_lw_in (pl := 123) (by decide +kernel)
theorem ml_X8_239 : Cond.methodLink RX8 239 m_X7_layOut.1 ∈ am_tbl := ri_lw_in (pl := 306) (by decide +kernel)
theorem ok_X8_layOut : am_okM m_X8_layOut 1 ∧ Cond.instanceMethod m_X8_layOut.1 ∈ am_tbl ∧ Cond.selects m_X8_layOut.1.cls m_X8_layOut.1 m_X8_layOut.1 ∈ am_tbl := ri_mk1 305 82 304 0 (by decide +kernel)
theorem k_X8_layOut {g : Int} {F A : gs_F} (hI : gs_I F A) (hg : 1 ≤ g ∧ g ≤ 3) : ∀ nN : Nat, (∀ (p : Int)  (F1 A1 : gs_F), gs_I F1 A1 → gs_fr (fun c j => (c = 0 ∧ (j = 11 ∨ j = 12)) ∨ (c = 3 ∧ j = 1) ∨ (90 ≤ c ∧ c < 106 ∧ j = 1) ∨ (c = 5 ∧ j = 0) ∨ ((c = 8 ∨ c = 10) ∧ j = 1)) (fun c => c = 9 ∨ c = 11 ∨ c = 6) F A F1 A1 → 0 ≤ p ∧ p ≤ 8 → F1 0 11 = g → F1 0 12 = 0 → F1 3 1 = 0 → 8 - p < (nN : Int) → sA m_X8_layOut 6 (fun rv F' A' => rv = none ∧ gs_I F' A' ∧ gs_fr (fun c j => (c = 0 ∧ (j = 11 ∨ j = 12)) ∨ (c = 3 ∧ j = 1) ∨ (90 ≤ c ∧ c < 106 ∧ j = 1) ∨ (c = 5 ∧ j = 0) ∨ ((c = 8 ∨ c = 10) ∧ j = 1)) (fun c => c = 9 ∨ c = 11 ∨ c = 6) F A F' A' ∧ (F' 0 11 = g ∧ F' 0 12 = 0 ∧ F' 3 1 = 0 ∧ F' 5 0 = 3 * g - 1)) 20 [(2, gs_iv p), (0, .ref 0), (1, gs_iv g)] [] F1 A1) := by
  intro nN
  induction nN with
  | zero =>
    exact fun a0 a1 a2 a3 a4 i0 i1 i2 i3 hm => by exfalso; omega
  | succ nN ih =>
    intro p F1 A1 hI1 hf1 i0 i1 i2 i3 hm
    have b1 : (1 : Int) ≤ F1 0 11 ∧ F1 0 11 ≤ 3 := hI1.1 0 11
    have b2 : (0 : Int) ≤ F1 0 12 ∧ F1 0 12 ≤ 12 := hI1.1 0 12
    have b3 := gs_row_sz gs_row_3 hI1
    refine sA_iload_n dd_X8_layOut_20 rfl (.head _) ?_
    refine sA_bipush (z := 8) dd_X8_layOut_21 (by decide) ?_
    refine sA_icmp_ge (tgt := 42) dd_X8_layOut_23 (by decide) (by omega) (by omega) (fun q4 => ?_) (fun q4 => ?_)
    · skip
      refine sA_aload_n dd_X8_layOut_42 rfl (.tail _ (.head _)) ?_
      refine sA_getr (ci := 8) (j := 3) (q := (RX8, TX8, 13)) dd_X8_layOut_43 rfl (by decide) fl_X8_33 (by decide) gs_s0 rfl ?_
      refine sA_iload_n dd_X8_layOut_46 rfl (.tail _ (.tail _ (.head _))) ?_
      refine sA_callV (y2 := m_X7_layOut) (n2 := 1) (d2 := 5) (a := 5) (ci := 7) (q := (RX7, TX7, 5)) (as := [gs_iv g]) (rest := []) dd_X8_layOut_47 ok_X7_layOut ml_X8_239 rfl rfl (by decide) gs_s5 rfl rfl (Nat.le_of_ble_eq_true rfl) (by decide) (c_X7_layOut hI1 (by omega)) (fun r5 F6 A7 h8 => ?_)
      obtain ⟨e10, I11, f12, x9⟩ := h8
      subst e10
      have v13 : F6 0 11 = F1 0 11 := f12.1 0 11 (by first | exact id | omega | (dsimp only; omega) | (dsimp only))
      have v14 : F6 0 12 = F1 0 12 := f12.1 0 12 (by first | exact id | omega | (dsimp only; omega) | (dsimp only))
      have v15 : F6 3 1 = F1 3 1 := f12.1 3 1 (by first | exact id | omega | (dsimp only; omega) | (dsimp only))
      have f16 := gs_fr_tr hf1 f12 (fun b j h => by first | exact False.elim h | omega | (dsimp only at h ⊢; omega)) (fun b h => by first | exact False.elim h | omega | (dsimp only at h ⊢; omega))
      show sA _ _ _ 50 _ [] _ _
      refine sA_vret dd_X8_layOut_50 rfl ?_
      exact ⟨rfl, I11, f16, by omega⟩
    · skip
      refine sA_aload_n dd_X8_layOut_26 rfl (.tail _ (.head _)) ?_
      refine sA_getr (ci := 8) (j := 1) (q := (RX8, TX8, 13)) dd_X8_layOut_27 rfl (by decide) fl_X8_17 (by decide) gs_s0 rfl ?_
      refine sA_iload_n dd_X8_layOut_30 rfl (.head _) ?_
      refine sA_aald (n := 8) dd_X8_layOut_31 (by decide) (by decide) (by decide) gs_s2 (by omega) (by decide) ?_
      have g17 := gs_plan_at (k := p.toNat) (by omega)
      refine sA_iconst (z := 0) dd_X8_layOut_32 ?_
      refine sA_put (ci := 2) (j := 1) (q := (RX2, TX2, 2)) (ty := .int) dd_X8_layOut_33 rfl (by decide) fl_X8_162 rfl (tyX2_ok 1 (by decide)) rfl rfl (Nat.lt_of_succ_lt g17.1) g17.2.1 rfl ?_
      have I19 : gs_I (gs_up F1 (90 + 2 * p.toNat) 1 0) A1 := gs_plan_put g17 hI1 (by omega)
      have f20 := gs_fr_put hf1 (a := 90 + 2 * p.toNat) (z := 0) (j := 1) (by first | omega | (dsimp only; omega) | (dsimp only))
      have v21 : gs_up F1 (90 + 2 * p.toNat) 1 0 (90 + 2 * p.toNat) 1 = 0 := gs_up_self _ _ _ _
      have v22 : (gs_up F1 (90 + 2 * p.toNat) 1 0) 0 11 = F1 0 11 := gs_up_ne _ _ (by omega)
      have v23 : (gs_up F1 (90 + 2 * p.toNat) 1 0) 0 12 = F1 0 12 := gs_up_ne _ _ (by omega)
      have v24 : (gs_up F1 (90 + 2 * p.toNat) 1 0) 3 1 = F1 3 1 := gs_up_ne _ _ (by omega)
      generalize gs_up F1 (90 + 2 * p.toNat) 1 0 = F18 at I19 f20 v21 v22 v23 v24 ⊢
      refine sA_iinc (lv' := [(2, gs_iv (p + 1)), (0, .ref 0), (1, gs_iv g)]) dd_X8_layOut_36 (.head _) (by decide) rfl ?_
      refine sA_goto (tgt := 20) dd_X8_layOut_39 (by decide) ?_
      have b25 : (1 : Int) ≤ F18 0 11 ∧ F18 0 11 ≤ 3 := I19.1 0 11
      have b26 : (0 : Int) ≤ F18 0 12 ∧ F18 0 12 ≤ 12 := I19.1 0 12
      have b27 := gs_row_sz gs_row_3 I19
      refine sA_sub (lv2 := [(2, gs_iv (p + 1)), (0, .ref 0), (1, gs_iv g)]) (List.forall_mem_cons.mpr ⟨(.head _), (List.forall_mem_cons.mpr ⟨(.tail _ (.head _)), (List.forall_mem_cons.mpr ⟨(.tail _ (.tail _ (.head _))), (fun _ h => absurd h List.not_mem_nil)⟩)⟩)⟩) ?_
      exact ih (p + 1) F18 A1 I19 f20 (by omega) (by omega) (by omega) (by omega) (by omega)
theorem c_X8_layOut {g : Int} {F A : gs_F} (hI : gs_I F A) (hg : 1 ≤ g ∧ g ≤ 3) : sC m_X8_layOut 6 [.ref 0, gs_iv g] F A (fun rv F' A' => rv = none ∧ gs_I F' A' ∧ gs_fr (fun c j => (c = 0 ∧ (j = 11 ∨ j = 12)) ∨ (c = 3 ∧ j = 1) ∨ (90 ≤ c ∧ c < 106 ∧ j = 1) ∨ (c = 5 ∧ j = 0) ∨ ((c = 8 ∨ c = 10) ∧ j = 1)) (fun c => c = 9 ∨ c = 11 ∨ c = 6) F A F' A' ∧ (F' 0 11 = g ∧ F' 0 12 = 0 ∧ F' 3 1 = 0 ∧ F' 5 0 = 3 * g - 1)) := by
  refine sC_of ok_X8_layOut.1 (Nat.le_of_ble_eq_true rfl) ?_
  show sA _ _ _ 0 [(0, .ref 0), (1, gs_iv g)] [] F A
  have hf : gs_fr (fun c j => (c = 0 ∧ (j = 11 ∨ j = 12)) ∨ (c = 3 ∧ j = 1) ∨ (90 ≤ c ∧ c < 106 ∧ j = 1) ∨ (c = 5 ∧ j = 0) ∨ ((c = 8 ∨ c = 10) ∧ j = 1)) (fun c => c = 9 ∨ c = 11 ∨ c = 6) F A F A := gs_fr_refl _ _ _ _
  have b28 : (1 : Int) ≤ F 0 11 ∧ F 0 11 ≤ 3 := hI.1 0 11
  have b29 : (0 : Int) ≤ F 0 12 ∧ F 0 12 ≤ 12 := hI.1 0 12
  have b30 := gs_row_sz gs_row_3 hI
  refine sA_aload_n dd_X8_layOut_0 rfl (.head _) ?_
  refine sA_iload_n dd_X8_layOut_1 rfl (.tail _ (.head _)) ?_
  refine sA_put (ci := 8) (j := 11) (q := (RX8, TX8, 13)) (ty := .int) dd_X8_layOut_2 rfl (by decide) fl_X8_84 rfl (tyX8_ok 11 (by decide)) rfl rfl (by decide) gs_s0 rfl ?_
  have I32 : gs_I (gs_up F 0 11 g) A := gs_I_put hI (show (1 : Int) ≤ g ∧ g ≤ 3 by omega)
  have f33 := gs_fr_put hf (a := 0) (z := g) (j := 11) (by first | omega | (dsimp only; omega) | (dsimp only))
  have v34 : gs_up F 0 11 g 0 11 = g := gs_up_self _ _ _ _
  have v35 : (gs_up F 0 11 g) 0 12 = F 0 12 := gs_up_ne _ _ (by omega)
  have v36 : (gs_up F 0 11 g) 3 1 = F 3 1 := gs_up_ne _ _ (by omega)
  generalize gs_up F 0 11 g = F31 at I32 f33 v34 v35 v36 ⊢
  refine sA_aload_n dd_X8_layOut_5 rfl (.head _) ?_
  refine sA_iconst (z := 0) dd_X8_layOut_6 ?_
  refine sA_put (ci := 8) (j := 12) (q := (RX8, TX8, 13)) (ty := .int) dd_X8_layOut_7 rfl (by decide) fl_X8_94 rfl (tyX8_ok 12 (by decide)) rfl rfl (by decide) gs_s0 rfl ?_
  have I38 : gs_I (gs_up F31 0 12 0) A := gs_I_put I32 (show (0 : Int) ≤ 0 ∧ 0 ≤ 12 by omega)
  have f39 := gs_fr_put f33 (a := 0) (z := 0) (j := 12) (by first | omega | (dsimp only; omega) | (dsimp only))
  have v40 : gs_up F31 0 12 0 0 12 = 0 := gs_up_self _ _ _ _
  have v41 : (gs_up F31 0 12 0) 0 11 = F31 0 11 := gs_up_ne _ _ (by omega)
  have v42 : (gs_up F31 0 12 0) 3 1 = F31 3 1 := gs_up_ne _ _ (by omega)
  generalize gs_up F31 0 12 0 = F37 at I38 f39 v40 v41 v42 ⊢
  refine sA_aload_n dd_X8_layOut_10 rfl (.head _) ?_
  refine sA_getr (ci := 8) (j := 2) (q := (RX8, TX8, 13)) dd_X8_layOut_11 rfl (by decide) fl_X8_26 (by decide) gs_s0 rfl ?_
  refine sA_iconst (z := 0) dd_X8_layOut_14 ?_
  refine sA_put (ci := 4) (j := 1) (q := (RX4, TX4, 2)) (ty := .int) dd_X8_layOut_15 rfl (by decide) fl_X8_88 rfl (tyX4_ok 1 (by decide)) rfl rfl (Nat.lt_of_succ_lt gs_row_3.1) gs_row_3.2.1 rfl ?_
  have I44 : gs_I (gs_up F37 3 1 0) A := gs_row_put gs_row_3 I38 (by omega)
  have f45 := gs_fr_put f39 (a := 3) (z := 0) (j := 1) (by first | omega | (dsimp only; omega) | (dsimp only))
  have v46 : gs_up F37 3 1 0 3 1 = 0 := gs_up_self _ _ _ _
  have v47 : (gs_up F37 3 1 0) 0 11 = F37 0 11 := gs_up_ne _ _ (by omega)
  have v48 : (gs_up F37 3 1 0) 0 12 = F37 0 12 := gs_up_ne _ _ (by omega)
  generalize gs_up F37 3 1 0 = F43 at I44 f45 v46 v47 v48 ⊢
  refine sA_iconst (z := 0) dd_X8_layOut_18 ?_
  refine sA_istore_n (lv' := [(2, gs_iv 0), (0, .ref 0), (1, gs_iv g)]) dd_X8_layOut_19 rfl (by decide) rfl ?_
  have b49 : (1 : Int) ≤ F43 0 11 ∧ F43 0 11 ≤ 3 := I44.1 0 11
  have b50 : (0 : Int) ≤ F43 0 12 ∧ F43 0 12 ≤ 12 := I44.1 0 12
  have b51 := gs_row_sz gs_row_3 I44
  refine sA_sub (lv2 := [(2, gs_iv 0), (0, .ref 0), (1, gs_iv g)]) (List.forall_mem_cons.mpr ⟨(.head _), (List.forall_mem_cons.mpr ⟨(.tail _ (.head _)), (List.forall_mem_cons.mpr ⟨(.tail _ (.tail _ (.head _))), (fun _ h => absurd h List.not_mem_nil)⟩)⟩)⟩) ?_
  exact (k_X8_layOut hI hg (8 - 0 : Int).toNat.succ) 0 F43 A I44 f45 (by omega) (by omega) (by omega) (by omega) (by omega)
theorem dd_X8_skin_0 : decode cX8_skin 0 = .ok (.iload_n 1, 1) := by decide +kernel
theorem dd_X8_skin_1 : decode cX8_skin 1 = .ok (.iconst 1, 1) := by decide +kernel
theorem dd_X8_skin_2 : decode cX8_skin 2 = .ok (.if_icmp .lt 8, 3) := by decide +kernel
theorem dd_X8_skin_5 : decode cX8_skin 5 = .ok (.iload_n 1, 1) := by decide +kernel
theorem dd_X8_skin_6 : decode cX8_skin 6 = .ok (.iconst 3, 1) := by decide +kernel
theorem dd_X8_skin_7 : decode cX8_skin 7 = .ok (.if_icmp .le 7, 3) := by decide +kernel
theorem dd_X8_skin_10 : decode cX8_skin 10 = .ok (.sipush (-1002), 3) := by decide +kernel
theorem dd_X8_skin_13 : decode cX8_skin 13 = .ok (.ireturn, 1) := by decide +kernel
theorem dd_X8_skin_14 : decode cX8_skin 14 = .ok (.aload_n 0, 1) := by decide +kernel
theorem dd_X8_skin_15 : decode cX8_skin 15 = .ok (.iload_n 1, 1) := by decide +kernel
theorem dd_X8_skin_16 : decode cX8_skin 16 = .ok (.invokevirtual 81, 3) := by decide +kernel
theorem dd_X8_skin_19 : decode cX8_skin 19 = .ok (.iconst 2, 1) := by decide +kernel
theorem dd_X8_skin_20 : decode cX8_skin 20 = .ok (.iload_n 1, 1) := by decide +kernel
theorem dd_X8_skin_21 : decode cX8_skin 21 = .ok (.imul, 1) := by decide +kernel
theorem dd_X8_skin_22 : decode cX8_skin 22 = .ok (.ireturn, 1) := by decide +kernel
theorem ml_X8_81 : Cond.methodLink RX8 81 m_X8_layOut.1 ∈ am_tbl := ri_lw_in (pl := 302) (by decide +kernel)
theorem ok_X8_skin : am_okM m_X8_skin 1 ∧ Cond.instanceMethod m_X8_skin.1 ∈ am_tbl ∧ Cond.selects m_X8_skin.1.cls m_X8_skin.1 m_X8_skin.1 ∈ am_tbl := ri_mk1 394 82 392 393 (by decide +kernel)
theorem c_X8_skin {g : Int} {F A : gs_F} (hI : gs_I F A) (hg : -2147483648 ≤ g ∧ g ≤ 2147483647) : sC m_X8_skin 7 [.ref 0, gs_iv g] F A (fun rv F' A' => ∃ z : Int, rv = some (gs_iv z) ∧ gs_I F' A' ∧ gs_fr (fun c j => (c = 0 ∧ (j = 11 ∨ j = 12)) ∨ (c = 3 ∧ j = 1) ∨ (90 ≤ c ∧ c < 106 ∧ j = 1) ∨ (c = 5 ∧ j = 0) ∨ ((c = 8 ∨ c = 10) ∧ j = 1)) (fun c => c = 9 ∨ c = 11 ∨ c = 6) F A F' A' ∧ ((1 ≤ g ∧ g ≤ 3 ∧ z = 2 * g ∧ F' 0 11 = g ∧ F' 0 12 = 0 ∧ F' 3 1 = 0 ∧ F' 5 0 = 3 * g - 1) ∨ ((g < 1 ∨ 3 < g) ∧ z = -1002 ∧ F' 0 11 = F 0 11 ∧ F' 0 12 = F 0 12 ∧ F' 3 1 = F 3 1 ∧ F' 5 0 = F 5 0))) := by
  refine sC_of ok_X8_skin.1 (Nat.le_of_ble_eq_true rfl) ?_
  show sA _ _ _ 0 [(0, .ref 0), (1, gs_iv g)] [] F A
  have hf : gs_fr (fun c j => (c = 0 ∧ (j = 11 ∨ j = 12)) ∨ (c = 3 ∧ j = 1) ∨ (90 ≤ c ∧ c < 106 ∧ j = 1) ∨ (c = 5 ∧ j = 0) ∨ ((c = 8 ∨ c = 10) ∧ j = 1)) (fun c => c = 9 ∨ c = 11 ∨ c = 6) F A F A := gs_fr_refl _ _ _ _
  refine sA_iload_n dd_X8_skin_0 rfl (.tail _ (.head _)) ?_
  refine sA_iconst (z := 1) dd_X8_skin_1 ?_
  refine sA_icmp_lt (tgt := 10) dd_X8_skin_2 (by decide) (by omega) (by omega) (fun q1 => ?_) (fun q1 => ?_)
  · skip
    refine sA_sipush (z := (-1002)) dd_X8_skin_10 (by decide) ?_
    refine sA_iret (z := -1002) dd_X8_skin_13 rfl ?_
    exact ⟨_, rfl, hI, hf, by omega⟩
  · skip
    refine sA_iload_n dd_X8_skin_5 rfl (.tail _ (.head _)) ?_
    refine sA_iconst (z := 3) dd_X8_skin_6 ?_
    refine sA_icmp_le (tgt := 14) dd_X8_skin_7 (by decide) (by omega) (by omega) (fun q2 => ?_) (fun q2 => ?_)
    · skip
      refine sA_aload_n dd_X8_skin_14 rfl (.head _) ?_
      refine sA_iload_n dd_X8_skin_15 rfl (.tail _ (.head _)) ?_
      refine sA_callV (y2 := m_X8_layOut) (n2 := 1) (d2 := 6) (a := 0) (ci := 8) (q := (RX8, TX8, 13)) (as := [gs_iv g]) (rest := []) dd_X8_skin_16 ok_X8_layOut ml_X8_81 rfl rfl (by decide) gs_s0 rfl rfl (Nat.le_of_ble_eq_true rfl) (by decide) (c_X8_layOut hI (by omega)) (fun r3 F4 A5 h6 => ?_)
      obtain ⟨e8, I9, f10, x7⟩ := h6
      subst e8
      have f11 := gs_fr_tr hf f10 (fun b j h => by first | exact False.elim h | omega | (dsimp only at h ⊢; omega)) (fun b h => by first | exact False.elim h | omega | (dsimp only at h ⊢; omega))
      show sA _ _ _ 19 _ [] _ _
      refine sA_iconst (z := 2) dd_X8_skin_19 ?_
      refine sA_iload_n dd_X8_skin_20 rfl (.tail _ (.head _)) ?_
      refine sA_imul dd_X8_skin_21 ?_
      refine sA_iret (z := 2 * g) dd_X8_skin_22 rfl ?_
      exact ⟨_, rfl, I9, f11, by omega⟩
    · skip
      refine sA_sipush (z := (-1002)) dd_X8_skin_10 (by decide) ?_
      refine sA_iret (z := -1002) dd_X8_skin_13 rfl ?_
      exact ⟨_, rfl, hI, hf, by omega⟩
theorem dd_X8_letter_0 : decode cX8_letter 0 = .ok (.iload_n 1, 1) := by decide +kernel
theorem dd_X8_letter_1 : decode cX8_letter 1 = .ok (.ifCond .eq 24, 3) := by decide +kernel
theorem dd_X8_letter_4 : decode cX8_letter 4 = .ok (.iload_n 1, 1) := by decide +kernel
theorem dd_X8_letter_5 : decode cX8_letter 5 = .ok (.bipush (-2), 2) := by decide +kernel
theorem dd_X8_letter_7 : decode cX8_letter 7 = .ok (.aload_n 0, 1) := by decide +kernel
theorem dd_X8_letter_8 : decode cX8_letter 8 = .ok (.getfield 84, 3) := by decide +kernel
theorem dd_X8_letter_11 : decode cX8_letter 11 = .ok (.imul, 1) := by decide +kernel
theorem dd_X8_letter_12 : decode cX8_letter 12 = .ok (.if_icmp .lt 13, 3) := by decide +kernel
theorem dd_X8_letter_15 : decode cX8_letter 15 = .ok (.iload_n 1, 1) := by decide +kernel
theorem dd_X8_letter_16 : decode cX8_letter 16 = .ok (.iconst 2, 1) := by decide +kernel
theorem dd_X8_letter_17 : decode cX8_letter 17 = .ok (.aload_n 0, 1) := by decide +kernel
theorem dd_X8_letter_18 : decode cX8_letter 18 = .ok (.getfield 84, 3) := by decide +kernel
theorem dd_X8_letter_21 : decode cX8_letter 21 = .ok (.imul, 1) := by decide +kernel
theorem dd_X8_letter_22 : decode cX8_letter 22 = .ok (.if_icmp .le 7, 3) := by decide +kernel
theorem dd_X8_letter_25 : decode cX8_letter 25 = .ok (.sipush (-1002), 3) := by decide +kernel
theorem dd_X8_letter_28 : decode cX8_letter 28 = .ok (.ireturn, 1) := by decide +kernel
theorem dd_X8_letter_29 : decode cX8_letter 29 = .ok (.aload_n 0, 1) := by decide +kernel
theorem dd_X8_letter_30 : decode cX8_letter 30 = .ok (.getfield 26, 3) := by decide +kernel
theorem dd_X8_letter_33 : decode cX8_letter 33 = .ok (.getfield 88, 3) := by decide +kernel
theorem dd_X8_letter_36 : decode cX8_letter 36 = .ok (.bipush 60, 2) := by decide +kernel
theorem dd_X8_letter_38 : decode cX8_letter 38 = .ok (.if_icmp .lt 7, 3) := by decide +kernel
theorem dd_X8_letter_41 : decode cX8_letter 41 = .ok (.sipush (-1004), 3) := by decide +kernel
theorem dd_X8_letter_44 : decode cX8_letter 44 = .ok (.ireturn, 1) := by decide +kernel
theorem dd_X8_letter_45 : decode cX8_letter 45 = .ok (.aload_n 0, 1) := by decide +kernel
theorem dd_X8_letter_46 : decode cX8_letter 46 = .ok (.getfield 26, 3) := by decide +kernel
theorem dd_X8_letter_49 : decode cX8_letter 49 = .ok (.iload_n 1, 1) := by decide +kernel
theorem dd_X8_letter_50 : decode cX8_letter 50 = .ok (.invokevirtual 91, 3) := by decide +kernel
theorem dd_X8_letter_53 : decode cX8_letter 53 = .ok (.aload_n 0, 1) := by decide +kernel
theorem dd_X8_letter_54 : decode cX8_letter 54 = .ok (.getfield 26, 3) := by decide +kernel
theorem dd_X8_letter_57 : decode cX8_letter 57 = .ok (.getfield 88, 3) := by decide +kernel
theorem dd_X8_letter_60 : decode cX8_letter 60 = .ok (.ireturn, 1) := by decide +kernel
theorem ml_X8_91 : Cond.methodLink RX8 91 m_X4_push.1 ∈ am_tbl := ri_lw_in (pl := 399) (by decide +kernel)
theorem ok_X8_letter : am_okM m_X8_letter 1 ∧ Cond.instanceMethod m_X8_letter.1 ∈ am_tbl ∧ Cond.selects m_X8_letter.1.cls m_X8_letter.1 m_X8_letter.1 ∈ am_tbl := ri_mk1 398 82 396 397 (by decide +kernel)
theorem c_X8_letter {x : Int} {F A : gs_F} (hI : gs_I F A) (hx : -2147483648 ≤ x ∧ x ≤ 2147483647) : sC m_X8_letter 2 [.ref 0, gs_iv x] F A (fun rv F' A' => ∃ z : Int, rv = some (gs_iv z) ∧ gs_I F' A' ∧ gs_fr (fun c j => c = 3 ∧ j = 1) (fun c => c = 4) F A F' A' ∧ (True)) := by
  refine sC_of ok_X8_letter.1 (Nat.le_of_ble_eq_true rfl) ?_
  show sA _ _ _ 0 [(0, .ref 0), (1, gs_iv x)] [] F A
  have hf : gs_fr (fun c j => c = 3 ∧ j = 1) (fun c => c = 4) F A F A := gs_fr_refl _ _ _ _
  refine sA_iload_n dd_X8_letter_0 rfl (.tail _ (.head _)) ?_
  refine sA_if_eq (tgt := 25) dd_X8_letter_1 (by decide) (by omega) (fun q1 => ?_) (fun q1 => ?_)
  · skip
    refine sA_sipush (z := (-1002)) dd_X8_letter_25 (by decide) ?_
    refine sA_iret (z := -1002) dd_X8_letter_28 rfl ?_
    exact ⟨_, rfl, hI, hf, trivial⟩
  · skip
    refine sA_iload_n dd_X8_letter_4 rfl (.tail _ (.head _)) ?_
    refine sA_bipush (z := (-2)) dd_X8_letter_5 (by decide) ?_
    refine sA_aload_n dd_X8_letter_7 rfl (.head _) ?_
    refine sA_geti (ci := 8) (j := 11) (q := (RX8, TX8, 13)) dd_X8_letter_8 rfl (by decide) fl_X8_84 (by decide) gs_s0 rfl ?_
    have b2 : (1 : Int) ≤ F 0 11 ∧ F 0 11 ≤ 3 := hI.1 0 11
    refine sA_imul dd_X8_letter_11 ?_
    refine sA_icmp_lt (tgt := 25) dd_X8_letter_12 (by decide) (by omega) (by omega) (fun q3 => ?_) (fun q3 => ?_)
    · skip
      refine sA_sipush (z := (-1002)) dd_X8_letter_25 (by decide) ?_
      refine sA_iret (z := -1002) dd_X8_letter_28 rfl ?_
      exact ⟨_, rfl, hI, hf, trivial⟩
    · skip
      refine sA_iload_n dd_X8_letter_15 rfl (.tail _ (.head _)) ?_
      refine sA_iconst (z := 2) dd_X8_letter_16 ?_
      refine sA_aload_n dd_X8_letter_17 rfl (.head _) ?_
      refine sA_geti (ci := 8) (j := 11) (q := (RX8, TX8, 13)) dd_X8_letter_18 rfl (by decide) fl_X8_84 (by decide) gs_s0 rfl ?_
      refine sA_imul dd_X8_letter_21 ?_
      refine sA_icmp_le (tgt := 29) dd_X8_letter_22 (by decide) (by omega) (by omega) (fun q4 => ?_) (fun q4 => ?_)
      · skip
        refine sA_aload_n dd_X8_letter_29 rfl (.head _) ?_
        refine sA_getr (ci := 8) (j := 2) (q := (RX8, TX8, 13)) dd_X8_letter_30 rfl (by decide) fl_X8_26 (by decide) gs_s0 rfl ?_
        refine sA_geti (ci := 4) (j := 1) (q := (RX4, TX4, 2)) dd_X8_letter_33 rfl (by decide) fl_X8_88 (Nat.lt_of_succ_lt gs_row_3.1) gs_row_3.2.1 rfl ?_
        have b5 := gs_row_sz gs_row_3 hI
        refine sA_bipush (z := 60) dd_X8_letter_36 (by decide) ?_
        refine sA_icmp_lt (tgt := 45) dd_X8_letter_38 (by decide) (by omega) (by omega) (fun q6 => ?_) (fun q6 => ?_)
        · skip
          refine sA_aload_n dd_X8_letter_45 rfl (.head _) ?_
          refine sA_getr (ci := 8) (j := 2) (q := (RX8, TX8, 13)) dd_X8_letter_46 rfl (by decide) fl_X8_26 (by decide) gs_s0 rfl ?_
          refine sA_iload_n dd_X8_letter_49 rfl (.tail _ (.head _)) ?_
          refine sA_callV (y2 := m_X4_push) (n2 := 1) (d2 := 1) (a := 3) (ci := 4) (q := (RX4, TX4, 2)) (as := [gs_iv x]) (rest := []) dd_X8_letter_50 ok_X4_push ml_X8_91 rfl rfl (Nat.lt_of_succ_lt gs_row_3.1) gs_row_3.2.1 rfl rfl (Nat.le_of_ble_eq_true rfl) (by decide) (c_X4_push hI gs_row_3 (by omega)) (fun r7 F8 A9 h10 => ?_)
          obtain ⟨e12, I13, f14, x11⟩ := h10
          subst e12
          have f15 := gs_fr_tr hf f14 (fun b j h => by first | exact False.elim h | omega | (dsimp only at h ⊢; omega)) (fun b h => by first | exact False.elim h | omega | (dsimp only at h ⊢; omega))
          show sA _ _ _ 53 _ [] _ _
          refine sA_aload_n dd_X8_letter_53 rfl (.head _) ?_
          refine sA_getr (ci := 8) (j := 2) (q := (RX8, TX8, 13)) dd_X8_letter_54 rfl (by decide) fl_X8_26 (by decide) gs_s0 rfl ?_
          refine sA_geti (ci := 4) (j := 1) (q := (RX4, TX4, 2)) dd_X8_letter_57 rfl (by decide) fl_X8_88 (Nat.lt_of_succ_lt gs_row_3.1) gs_row_3.2.1 rfl ?_
          have b16 := gs_row_sz gs_row_3 I13
          refine sA_iret (z := F8 3 1) dd_X8_letter_60 rfl ?_
          exact ⟨_, rfl, I13, f15, trivial⟩
        · skip
          refine sA_sipush (z := (-1004)) dd_X8_letter_41 (by decide) ?_
          refine sA_iret (z := -1004) dd_X8_letter_44 rfl ?_
          exact ⟨_, rfl, hI, hf, trivial⟩
      · skip
        refine sA_sipush (z := (-1002)) dd_X8_letter_25 (by decide) ?_
        refine sA_iret (z := -1002) dd_X8_letter_28 rfl ?_
        exact ⟨_, rfl, hI, hf, trivial⟩
theorem dd_X8_ring_0 : decode cX8_ring 0 = .ok (.aload_n 0, 1) := by decide +kernel
theorem dd_X8_ring_1 : decode cX8_ring 1 = .ok (.getfield 26, 3) := by decide +kernel
theorem dd_X8_ring_4 : decode cX8_ring 4 = .ok (.getfield 88, 3) := by decide +kernel
theorem dd_X8_ring_7 : decode cX8_ring 7 = .ok (.ifCond .ne 7, 3) := by decide +kernel
theorem dd_X8_ring_10 : decode cX8_ring 10 = .ok (.sipush (-1003), 3) := by decide +kernel
theorem dd_X8_ring_13 : decode cX8_ring 13 = .ok (.ireturn, 1) := by decide +kernel
theorem dd_X8_ring_14 : decode cX8_ring 14 = .ok (.aload_n 0, 1) := by decide +kernel
theorem dd_X8_ring_15 : decode cX8_ring 15 = .ok (.getfield 94, 3) := by decide +kernel
theorem dd_X8_ring_18 : decode cX8_ring 18 = .ok (.bipush 12, 2) := by decide +kernel
theorem dd_X8_ring_20 : decode cX8_ring 20 = .ok (.if_icmp .lt 7, 3) := by decide +kernel
theorem dd_X8_ring_23 : decode cX8_ring 23 = .ok (.sipush (-1004), 3) := by decide +kernel
theorem dd_X8_ring_26 : decode cX8_ring 26 = .ok (.ireturn, 1) := by decide +kernel
theorem dd_X8_ring_27 : decode cX8_ring 27 = .ok (.aload_n 0, 1) := by decide +kernel
theorem dd_X8_ring_28 : decode cX8_ring 28 = .ok (.getfield 11, 3) := by decide +kernel
theorem dd_X8_ring_31 : decode cX8_ring 31 = .ok (.aload_n 0, 1) := by decide +kernel
theorem dd_X8_ring_32 : decode cX8_ring 32 = .ok (.getfield 94, 3) := by decide +kernel
theorem dd_X8_ring_35 : decode cX8_ring 35 = .ok (.aaload, 1) := by decide +kernel
theorem dd_X8_ring_36 : decode cX8_ring 36 = .ok (.aload_n 0, 1) := by decide +kernel
theorem dd_X8_ring_37 : decode cX8_ring 37 = .ok (.getfield 26, 3) := by decide +kernel
theorem dd_X8_ring_40 : decode cX8_ring 40 = .ok (.aload_n 0, 1) := by decide +kernel
theorem dd_X8_ring_41 : decode cX8_ring 41 = .ok (.getfield 40, 3) := by decide +kernel
theorem dd_X8_ring_44 : decode cX8_ring 44 = .ok (.invokevirtual 97, 3) := by decide +kernel
theorem dd_X8_ring_47 : decode cX8_ring 47 = .ok (.aload_n 0, 1) := by decide +kernel
theorem dd_X8_ring_48 : decode cX8_ring 48 = .ok (.getfield 26, 3) := by decide +kernel
theorem dd_X8_ring_51 : decode cX8_ring 51 = .ok (.iconst 0, 1) := by decide +kernel
theorem dd_X8_ring_52 : decode cX8_ring 52 = .ok (.putfield 88, 3) := by decide +kernel
theorem dd_X8_ring_55 : decode cX8_ring 55 = .ok (.aload_n 0, 1) := by decide +kernel
theorem dd_X8_ring_56 : decode cX8_ring 56 = .ok (.dup, 1) := by decide +kernel
theorem dd_X8_ring_57 : decode cX8_ring 57 = .ok (.getfield 94, 3) := by decide +kernel
theorem dd_X8_ring_60 : decode cX8_ring 60 = .ok (.iconst 1, 1) := by decide +kernel
theorem dd_X8_ring_61 : decode cX8_ring 61 = .ok (.iadd, 1) := by decide +kernel
theorem dd_X8_ring_62 : decode cX8_ring 62 = .ok (.putfield 94, 3) := by decide +kernel
theorem dd_X8_ring_65 : decode cX8_ring 65 = .ok (.aload_n 0, 1) := by decide +kernel
theorem dd_X8_ring_66 : decode cX8_ring 66 = .ok (.getfield 94, 3) := by decide +kernel
theorem dd_X8_ring_69 : decode cX8_ring 69 = .ok (.iconst 1, 1) := by decide +kernel
theorem dd_X8_ring_70 : decode cX8_ring 70 = .ok (.isub, 1) := by decide +kernel
theorem dd_X8_ring_71 : decode cX8_ring 71 = .ok (.ireturn, 1) := by decide +kernel
theorem gs_s1 : gs_sh 1 = .inr (.inr (3, 12, 54, 3)) := rfl
theorem fl_X8_11 : Cond.fieldLink RX8 11 (TX8 0).1 (TX8 0).2.1 (TX8 0).2.2.1 ∈ am_tbl := ri_lw_in (pl := 351) (by decide +kernel)
theorem fl_X8_40 : Cond.fieldLink RX8 40 (TX8 4).1 (TX8 4).2.1 (TX8 4).2.2.1 ∈ am_tbl := ri_lw_in (pl := 355) (by decide +kernel)
theorem ml_X8_97 : Cond.methodLink RX8 97 m_X3_become.1 ∈ am_tbl := ri_lw_in (pl := 404) (by decide +kernel)
theorem ok_X8_ring : am_okM m_X8_ring 0 ∧ Cond.instanceMethod m_X8_ring.1 ∈ am_tbl ∧ Cond.selects m_X8_ring.1.cls m_X8_ring.1 m_X8_ring.1 ∈ am_tbl := ri_mk1 403 82 401 402 (by decide +kernel)
theorem c_X8_ring  {F A : gs_F} (hI : gs_I F A)  : sC m_X8_ring 7 [.ref 0] F A (fun rv F' A' => ∃ z : Int, rv = some (gs_iv z) ∧ gs_I F' A' ∧ gs_fr (fun c j => (c = 0 ∧ j = 12) ∨ (c = 3 ∧ j = 1) ∨ (54 ≤ c ∧ c < 90) ∨ (c = 13 ∧ j = 1)) (fun c => (54 ≤ c ∧ c < 90) ∨ c = 14) F A F' A' ∧ ((F 3 1 = 0 ∧ z = -1003 ∧ F' 0 12 = F 0 12 ∧ F' 3 1 = F 3 1) ∨ (F 3 1 ≠ 0 ∧ F 0 12 = 12 ∧ z = -1004 ∧ F' 0 12 = F 0 12 ∧ F' 3 1 = F 3 1) ∨ (F 3 1 ≠ 0 ∧ F 0 12 < 12 ∧ z = F 0 12 ∧ F' 0 12 = F 0 12 + 1 ∧ F' 3 1 = 0))) := by
  refine sC_of ok_X8_ring.1 (Nat.le_of_ble_eq_true rfl) ?_
  show sA _ _ _ 0 [(0, .ref 0)] [] F A
  have hf : gs_fr (fun c j => (c = 0 ∧ j = 12) ∨ (c = 3 ∧ j = 1) ∨ (54 ≤ c ∧ c < 90) ∨ (c = 13 ∧ j = 1)) (fun c => (54 ≤ c ∧ c < 90) ∨ c = 14) F A F A := gs_fr_refl _ _ _ _
  have b1 : (0 : Int) ≤ F 0 12 ∧ F 0 12 ≤ 12 := hI.1 0 12
  have b2 := gs_row_sz gs_row_3 hI
  refine sA_aload_n dd_X8_ring_0 rfl (.head _) ?_
  refine sA_getr (ci := 8) (j := 2) (q := (RX8, TX8, 13)) dd_X8_ring_1 rfl (by decide) fl_X8_26 (by decide) gs_s0 rfl ?_
  refine sA_geti (ci := 4) (j := 1) (q := (RX4, TX4, 2)) dd_X8_ring_4 rfl (by decide) fl_X8_88 (Nat.lt_of_succ_lt gs_row_3.1) gs_row_3.2.1 rfl ?_
  refine sA_if_ne (tgt := 14) dd_X8_ring_7 (by decide) (by omega) (fun q3 => ?_) (fun q3 => ?_)
  · skip
    refine sA_aload_n dd_X8_ring_14 rfl (.head _) ?_
    refine sA_geti (ci := 8) (j := 12) (q := (RX8, TX8, 13)) dd_X8_ring_15 rfl (by decide) fl_X8_94 (by decide) gs_s0 rfl ?_
    refine sA_bipush (z := 12) dd_X8_ring_18 (by decide) ?_
    refine sA_icmp_lt (tgt := 27) dd_X8_ring_20 (by decide) (by omega) (by omega) (fun q4 => ?_) (fun q4 => ?_)
    · skip
      refine sA_aload_n dd_X8_ring_27 rfl (.head _) ?_
      refine sA_getr (ci := 8) (j := 0) (q := (RX8, TX8, 13)) dd_X8_ring_28 rfl (by decide) fl_X8_11 (by decide) gs_s0 rfl ?_
      refine sA_aload_n dd_X8_ring_31 rfl (.head _) ?_
      refine sA_geti (ci := 8) (j := 12) (q := (RX8, TX8, 13)) dd_X8_ring_32 rfl (by decide) fl_X8_94 (by decide) gs_s0 rfl ?_
      refine sA_aald (n := 12) dd_X8_ring_35 (by decide) (by decide) (by decide) gs_s1 (by omega) (by decide) ?_
      have g5 := gs_ring_at (k := (F 0 12).toNat) (by omega)
      refine sA_aload_n dd_X8_ring_36 rfl (.head _) ?_
      refine sA_getr (ci := 8) (j := 2) (q := (RX8, TX8, 13)) dd_X8_ring_37 rfl (by decide) fl_X8_26 (by decide) gs_s0 rfl ?_
      refine sA_aload_n dd_X8_ring_40 rfl (.head _) ?_
      refine sA_getr (ci := 8) (j := 4) (q := (RX8, TX8, 13)) dd_X8_ring_41 rfl (by decide) fl_X8_40 (by decide) gs_s0 rfl ?_
      refine sA_callV (y2 := m_X3_become) (n2 := 2) (d2 := 6) (a := (54 + 3 * (F 0 12).toNat)) (ci := 3) (q := (RX3, TX3, 3)) (as := [.ref 3, .ref 12]) (rest := []) dd_X8_ring_44 ok_X3_become ml_X8_97 rfl rfl (Nat.lt_of_succ_lt g5.1) g5.2.1 rfl rfl (Nat.le_of_ble_eq_true rfl) (by decide) (c_X3_become hI g5 gs_row_3) (fun r6 F7 A8 h9 => ?_)
      obtain ⟨e11, I12, f13, x10⟩ := h9
      subst e11
      have v14 : F7 0 12 = F 0 12 := f13.1 0 12 (by first | exact id | omega | (dsimp only; omega) | (dsimp only))
      have v15 : F7 3 1 = F 3 1 := f13.1 3 1 (by first | exact id | omega | (dsimp only; omega) | (dsimp only))
      have f16 := gs_fr_tr hf f13 (fun b j h => by first | exact False.elim h | omega | (dsimp only at h ⊢; omega)) (fun b h => by first | exact False.elim h | omega | (dsimp only at h ⊢; omega))
      show sA _ _ _ 47 _ [] _ _
      refine sA_aload_n dd_X8_ring_47 rfl (.head _) ?_
      refine sA_getr (ci := 8) (j := 2) (q := (RX8, TX8, 13)) dd_X8_ring_48 rfl (by decide) fl_X8_26 (by decide) gs_s0 rfl ?_
      refine sA_iconst (z := 0) dd_X8_ring_51 ?_
      refine sA_put (ci := 4) (j := 1) (q := (RX4, TX4, 2)) (ty := .int) dd_X8_ring_52 rfl (by decide) fl_X8_88 rfl (tyX4_ok 1 (by decide)) rfl rfl (Nat.lt_of_succ_lt gs_row_3.1) gs_row_3.2.1 rfl ?_
      have I18 : gs_I (gs_up F7 3 1 0) A8 := gs_row_put gs_row_3 I12 (by omega)
      have f19 := gs_fr_put f16 (a := 3) (z := 0) (j := 1) (by first | omega | (dsimp only; omega) | (dsimp only))
      have v20 : gs_up F7 3 1 0 3 1 = 0 := gs_up_self _ _ _ _
      have v21 : (gs_up F7 3 1 0) 0 12 = F7 0 12 := gs_up_ne _ _ (by omega)
      generalize gs_up F7 3 1 0 = F17 at I18 f19 v20 v21 ⊢
      refine sA_aload_n dd_X8_ring_55 rfl (.head _) ?_
      refine sA_dup dd_X8_ring_56 rfl ?_
      refine sA_geti (ci := 8) (j := 12) (q := (RX8, TX8, 13)) dd_X8_ring_57 rfl (by decide) fl_X8_94 (by decide) gs_s0 rfl ?_
      have b22 : (0 : Int) ≤ F17 0 12 ∧ F17 0 12 ≤ 12 := I18.1 0 12
      refine sA_iconst (z := 1) dd_X8_ring_60 ?_
      refine sA_iadd dd_X8_ring_61 ?_
      refine sA_put (ci := 8) (j := 12) (q := (RX8, TX8, 13)) (ty := .int) dd_X8_ring_62 rfl (by decide) fl_X8_94 rfl (tyX8_ok 12 (by decide)) rfl rfl (by decide) gs_s0 rfl ?_
      have I24 : gs_I (gs_up F17 0 12 ((F17 0 12) + 1)) A8 := gs_I_put I18 (show (0 : Int) ≤ (F17 0 12) + 1 ∧ (F17 0 12) + 1 ≤ 12 by omega)
      have f25 := gs_fr_put f19 (a := 0) (z := (F17 0 12) + 1) (j := 12) (by first | omega | (dsimp only; omega) | (dsimp only))
      have v26 : gs_up F17 0 12 ((F17 0 12) + 1) 0 12 = (F17 0 12) + 1 := gs_up_self _ _ _ _
      have v27 : (gs_up F17 0 12 ((F17 0 12) + 1)) 3 1 = F17 3 1 := gs_up_ne _ _ (by omega)
      generalize gs_up F17 0 12 ((F17 0 12) + 1) = F23 at I24 f25 v26 v27 ⊢
      refine sA_aload_n dd_X8_ring_65 rfl (.head _) ?_
      refine sA_geti (ci := 8) (j := 12) (q := (RX8, TX8, 13)) dd_X8_ring_66 rfl (by decide) fl_X8_94 (by decide) gs_s0 rfl ?_
      have b28 : (0 : Int) ≤ F23 0 12 ∧ F23 0 12 ≤ 12 := I24.1 0 12
      refine sA_iconst (z := 1) dd_X8_ring_69 ?_
      refine sA_isub dd_X8_ring_70 ?_
      refine sA_iret (z := (F23 0 12) - 1) dd_X8_ring_71 rfl ?_
      exact ⟨_, rfl, I24, f25, by omega⟩
    · skip
      refine sA_sipush (z := (-1004)) dd_X8_ring_23 (by decide) ?_
      refine sA_iret (z := -1004) dd_X8_ring_26 rfl ?_
      exact ⟨_, rfl, hI, hf, by omega⟩
  · skip
    refine sA_sipush (z := (-1003)) dd_X8_ring_10 (by decide) ?_
    refine sA_iret (z := -1003) dd_X8_ring_13 rfl ?_
    exact ⟨_, rfl, hI, hf, by omega⟩
theorem dd_X8_told_0 : decode cX8_told 0 = .ok (.aload_n 0, 1) := by decide +kernel
theorem dd_X8_told_1 : decode cX8_told 1 = .ok (.iload_n 1, 1) := by decide +kernel
theorem dd_X8_told_2 : decode cX8_told 2 = .ok (.invokevirtual 101, 3) := by decide +kernel
theorem dd_X8_told_5 : decode cX8_told 5 = .ok (.ifCond .ne 7, 3) := by decide +kernel
theorem dd_X8_told_8 : decode cX8_told 8 = .ok (.sipush (-1001), 3) := by decide +kernel
theorem dd_X8_told_11 : decode cX8_told 11 = .ok (.ireturn, 1) := by decide +kernel
theorem dd_X8_told_12 : decode cX8_told 12 = .ok (.iload_n 2, 1) := by decide +kernel
theorem dd_X8_told_13 : decode cX8_told 13 = .ok (.tableswitch 80 0 3 #[31, 44, 57, 67], 31) := by decide +kernel
theorem dd_X8_told_44 : decode cX8_told 44 = .ok (.aload_n 0, 1) := by decide +kernel
theorem dd_X8_told_45 : decode cX8_told 45 = .ok (.getfield 11, 3) := by decide +kernel
theorem dd_X8_told_48 : decode cX8_told 48 = .ok (.iload_n 1, 1) := by decide +kernel
theorem dd_X8_told_49 : decode cX8_told 49 = .ok (.aaload, 1) := by decide +kernel
theorem dd_X8_told_50 : decode cX8_told 50 = .ok (.getfield 105, 3) := by decide +kernel
theorem dd_X8_told_53 : decode cX8_told 53 = .ok (.getfield 88, 3) := by decide +kernel
theorem dd_X8_told_56 : decode cX8_told 56 = .ok (.ireturn, 1) := by decide +kernel
theorem dd_X8_told_57 : decode cX8_told 57 = .ok (.aload_n 0, 1) := by decide +kernel
theorem dd_X8_told_58 : decode cX8_told 58 = .ok (.getfield 11, 3) := by decide +kernel
theorem dd_X8_told_61 : decode cX8_told 61 = .ok (.iload_n 1, 1) := by decide +kernel
theorem dd_X8_told_62 : decode cX8_told 62 = .ok (.aaload, 1) := by decide +kernel
theorem dd_X8_told_63 : decode cX8_told 63 = .ok (.getfield 108, 3) := by decide +kernel
theorem dd_X8_told_66 : decode cX8_told 66 = .ok (.invokestatic 112, 3) := by decide +kernel
theorem dd_X8_told_69 : decode cX8_told 69 = .ok (.ireturn, 1) := by decide +kernel
theorem dd_X8_told_70 : decode cX8_told 70 = .ok (.aload_n 0, 1) := by decide +kernel
theorem dd_X8_told_71 : decode cX8_told 71 = .ok (.getfield 11, 3) := by decide +kernel
theorem dd_X8_told_74 : decode cX8_told 74 = .ok (.iload_n 1, 1) := by decide +kernel
theorem dd_X8_told_75 : decode cX8_told 75 = .ok (.aaload, 1) := by decide +kernel
theorem dd_X8_told_76 : decode cX8_told 76 = .ok (.getfield 116, 3) := by decide +kernel
theorem dd_X8_told_79 : decode cX8_told 79 = .ok (.ireturn, 1) := by decide +kernel
theorem dd_X8_told_80 : decode cX8_told 80 = .ok (.aload_n 0, 1) := by decide +kernel
theorem dd_X8_told_81 : decode cX8_told 81 = .ok (.getfield 11, 3) := by decide +kernel
theorem dd_X8_told_84 : decode cX8_told 84 = .ok (.iload_n 1, 1) := by decide +kernel
theorem dd_X8_told_85 : decode cX8_told 85 = .ok (.aaload, 1) := by decide +kernel
theorem dd_X8_told_86 : decode cX8_told 86 = .ok (.invokevirtual 119, 3) := by decide +kernel
theorem dd_X8_told_89 : decode cX8_told 89 = .ok (.invokestatic 112, 3) := by decide +kernel
theorem dd_X8_told_92 : decode cX8_told 92 = .ok (.ireturn, 1) := by decide +kernel
theorem dd_X8_told_93 : decode cX8_told 93 = .ok (.sipush (-1002), 3) := by decide +kernel
theorem dd_X8_told_96 : decode cX8_told 96 = .ok (.ireturn, 1) := by decide +kernel
theorem fl_X8_105 : Cond.fieldLink RX8 105 (TX3 0).1 (TX3 0).2.1 (TX3 0).2.2.1 ∈ am_tbl := ri_lw_in (pl := 290) (by decide +kernel)
theorem fl_X8_108 : Cond.fieldLink RX8 108 (TX3 1).1 (TX3 1).2.1 (TX3 1).2.2.1 ∈ am_tbl := ri_lw_in (pl := 292) (by decide +kernel)
theorem fl_X8_116 : Cond.fieldLink RX8 116 (TX3 2).1 (TX3 2).2.1 (TX3 2).2.2.1 ∈ am_tbl := ri_lw_in (pl := 294) (by decide +kernel)
theorem ml_X8_101 : Cond.methodLink RX8 101 m_X8_isRing.1 ∈ am_tbl := ri_lw_in (pl := 455) (by decide +kernel)
theorem ml_X8_112 : Cond.methodLink RX8 112 m_X8_oneIf.1 ∈ am_tbl := ri_lw_in (pl := 459) (by decide +kernel)
theorem ml_X8_119 : Cond.methodLink RX8 119 m_X3_isSimple.1 ∈ am_tbl := ri_lw_in (pl := 462) (by decide +kernel)
theorem ok_X8_told : am_okM m_X8_told 2 ∧ Cond.instanceMethod m_X8_told.1 ∈ am_tbl ∧ Cond.selects m_X8_told.1.cls m_X8_told.1 m_X8_told.1 ∈ am_tbl := ri_mk1 454 82 452 453 (by decide +kernel)
theorem c_X8_told {r w : Int} {F A : gs_F} (hI : gs_I F A) (hr : -2147483648 ≤ r ∧ r ≤ 2147483647) (hw : -2147483648 ≤ w ∧ w ≤ 2147483647) : sC m_X8_told 2 [.ref 0, gs_iv r, gs_iv w] F A (fun rv F' A' => ∃ z : Int, rv = some (gs_iv z) ∧ F = F' ∧ A = A' ∧ (True)) := by
  refine sC_of ok_X8_told.1 (Nat.le_of_ble_eq_true rfl) ?_
  show sA _ _ _ 0 [(0, .ref 0), (1, gs_iv r), (2, gs_iv w)] [] F A
  refine sA_aload_n dd_X8_told_0 rfl (.head _) ?_
  refine sA_iload_n dd_X8_told_1 rfl (.tail _ (.head _)) ?_
  refine sA_callV (y2 := m_X8_isRing) (n2 := 1) (d2 := 1) (a := 0) (ci := 8) (q := (RX8, TX8, 13)) (as := [gs_iv r]) (rest := []) dd_X8_told_2 ok_X8_isRing ml_X8_101 rfl rfl (by decide) gs_s0 rfl rfl (Nat.le_of_ble_eq_true rfl) (by decide) (c_X8_isRing hI (by omega)) (fun r1 F2 A3 h4 => ?_)
  obtain ⟨z7, e6, e8, e9, x5⟩ := h4
  subst e6 e8 e9
  show sA _ _ _ 5 _ [gs_iv z7] _ _
  refine sA_if_ne (tgt := 12) dd_X8_told_5 (by decide) (by omega) (fun q10 => ?_) (fun q10 => ?_)
  · skip
    refine sA_iload_n dd_X8_told_12 rfl (.tail _ (.tail _ (.head _))) ?_
    by_cases q11 : w = 0
    · refine sA_tblIn (off := 31) (tgt := 44) dd_X8_told_13 (by omega) (by omega) (by rw [q11]; rfl) (by decide) ?_
      refine sA_aload_n dd_X8_told_44 rfl (.head _) ?_
      refine sA_getr (ci := 8) (j := 0) (q := (RX8, TX8, 13)) dd_X8_told_45 rfl (by decide) fl_X8_11 (by decide) gs_s0 rfl ?_
      refine sA_iload_n dd_X8_told_48 rfl (.tail _ (.head _)) ?_
      refine sA_aald (n := 12) dd_X8_told_49 (by decide) (by decide) (by decide) gs_s1 (by omega) (by decide) ?_
      have g12 := gs_ring_at (k := r.toNat) (by omega)
      refine sA_getr (ci := 3) (j := 0) (q := (RX3, TX3, 3)) dd_X8_told_50 rfl (by decide) fl_X8_105 (Nat.lt_of_succ_lt g12.1) g12.2.1 rfl ?_
      refine sA_geti (ci := 4) (j := 1) (q := (RX4, TX4, 2)) dd_X8_told_53 rfl (by decide) fl_X8_88 (Nat.lt_of_succ_lt g12.2.2.1.1) g12.2.2.1.2.1 rfl ?_
      have b13 := gs_row_sz g12.2.2.1 hI
      refine sA_iret (z := F (54 + 3 * r.toNat + 1) 1) dd_X8_told_56 rfl ?_
      exact ⟨_, rfl, rfl, rfl, trivial⟩
    · skip
      by_cases q14 : w = 1
      · refine sA_tblIn (off := 44) (tgt := 57) dd_X8_told_13 (by omega) (by omega) (by rw [q14]; rfl) (by decide) ?_
        refine sA_aload_n dd_X8_told_57 rfl (.head _) ?_
        refine sA_getr (ci := 8) (j := 0) (q := (RX8, TX8, 13)) dd_X8_told_58 rfl (by decide) fl_X8_11 (by decide) gs_s0 rfl ?_
        refine sA_iload_n dd_X8_told_61 rfl (.tail _ (.head _)) ?_
        refine sA_aald (n := 12) dd_X8_told_62 (by decide) (by decide) (by decide) gs_s1 (by omega) (by decide) ?_
        have g15 := gs_ring_at (k := r.toNat) (by omega)
        refine sA_geti (ci := 3) (j := 1) (q := (RX3, TX3, 3)) dd_X8_told_63 rfl (by decide) fl_X8_108 (Nat.lt_of_succ_lt g15.1) g15.2.1 rfl ?_
        have b16 := gs_ring_f1 g15 hI
        refine sA_callS (y2 := m_X8_oneIf) (n2 := 1) (d2 := 1) (as := [gs_iv (F (54 + 3 * r.toNat) 1)]) (rest := []) dd_X8_told_66 ok_X8_oneIf ml_X8_112 rfl rfl (Nat.le_of_ble_eq_true rfl) (by decide) (c_X8_oneIf (by omega)) (fun r17 F18 A19 h20 => ?_)
        obtain ⟨z23, e22, e24, e25, x21⟩ := h20
        subst e22 e24 e25
        show sA _ _ _ 69 _ [gs_iv z23] _ _
        refine sA_iret (z := z23) dd_X8_told_69 rfl ?_
        exact ⟨_, rfl, rfl, rfl, trivial⟩
      · skip
        by_cases q26 : w = 2
        · refine sA_tblIn (off := 57) (tgt := 70) dd_X8_told_13 (by omega) (by omega) (by rw [q26]; rfl) (by decide) ?_
          refine sA_aload_n dd_X8_told_70 rfl (.head _) ?_
          refine sA_getr (ci := 8) (j := 0) (q := (RX8, TX8, 13)) dd_X8_told_71 rfl (by decide) fl_X8_11 (by decide) gs_s0 rfl ?_
          refine sA_iload_n dd_X8_told_74 rfl (.tail _ (.head _)) ?_
          refine sA_aald (n := 12) dd_X8_told_75 (by decide) (by decide) (by decide) gs_s1 (by omega) (by decide) ?_
          have g27 := gs_ring_at (k := r.toNat) (by omega)
          refine sA_geti (ci := 3) (j := 2) (q := (RX3, TX3, 3)) dd_X8_told_76 rfl (by decide) fl_X8_116 (Nat.lt_of_succ_lt g27.1) g27.2.1 rfl ?_
          have b28 := gs_ring_f2 g27 hI
          refine sA_iret (z := F (54 + 3 * r.toNat) 2) dd_X8_told_79 rfl ?_
          exact ⟨_, rfl, rfl, rfl, trivial⟩
        · skip
          by_cases q29 : w = 3
          · refine sA_tblIn (off := 67) (tgt := 80) dd_X8_told_13 (by omega) (by omega) (by rw [q29]; rfl) (by decide) ?_
            refine sA_aload_n dd_X8_told_80 rfl (.head _) ?_
            refine sA_getr (ci := 8) (j := 0) (q := (RX8, TX8, 13)) dd_X8_told_81 rfl (by decide) fl_X8_11 (by decide) gs_s0 rfl ?_
            refine sA_iload_n dd_X8_told_84 rfl (.tail _ (.head _)) ?_
            refine sA_aald (n := 12) dd_X8_told_85 (by decide) (by decide) (by decide) gs_s1 (by omega) (by decide) ?_
            have g30 := gs_ring_at (k := r.toNat) (by omega)
            refine sA_callV (y2 := m_X3_isSimple) (n2 := 0) (d2 := 1) (a := (54 + 3 * r.toNat)) (ci := 3) (q := (RX3, TX3, 3)) (as := []) (rest := []) dd_X8_told_86 ok_X3_isSimple ml_X8_119 rfl rfl (Nat.lt_of_succ_lt g30.1) g30.2.1 rfl rfl (Nat.le_of_ble_eq_true rfl) (by decide) (c_X3_isSimple hI g30) (fun r31 F32 A33 h34 => ?_)
            obtain ⟨z37, e36, e38, e39, x35⟩ := h34
            subst e36 e38 e39
            show sA _ _ _ 89 _ [gs_iv z37] _ _
            refine sA_callS (y2 := m_X8_oneIf) (n2 := 1) (d2 := 1) (as := [gs_iv z37]) (rest := []) dd_X8_told_89 ok_X8_oneIf ml_X8_112 rfl rfl (Nat.le_of_ble_eq_true rfl) (by decide) (c_X8_oneIf (by omega)) (fun r40 F41 A42 h43 => ?_)
            obtain ⟨z46, e45, e47, e48, x44⟩ := h43
            subst e45 e47 e48
            show sA _ _ _ 92 _ [gs_iv z46] _ _
            refine sA_iret (z := z46) dd_X8_told_92 rfl ?_
            exact ⟨_, rfl, rfl, rfl, trivial⟩
          · skip
            refine sA_tblOut (tgt := 93) dd_X8_told_13 (by omega) (by omega) (by decide) ?_
            refine sA_sipush (z := (-1002)) dd_X8_told_93 (by decide) ?_
            refine sA_iret (z := -1002) dd_X8_told_96 rfl ?_
            exact ⟨_, rfl, rfl, rfl, trivial⟩
  · skip
    refine sA_sipush (z := (-1001)) dd_X8_told_8 (by decide) ?_
    refine sA_iret (z := -1001) dd_X8_told_11 rfl ?_
    exact ⟨_, rfl, rfl, rfl, trivial⟩
theorem dd_X8_at_0 : decode cX8_at 0 = .ok (.aload_n 0, 1) := by decide +kernel
theorem dd_X8_at_1 : decode cX8_at 1 = .ok (.iload_n 1, 1) := by decide +kernel
theorem dd_X8_at_2 : decode cX8_at 2 = .ok (.invokevirtual 101, 3) := by decide +kernel
theorem dd_X8_at_5 : decode cX8_at 5 = .ok (.ifCond .ne 7, 3) := by decide +kernel
theorem dd_X8_at_8 : decode cX8_at 8 = .ok (.sipush (-1001), 3) := by decide +kernel
theorem dd_X8_at_11 : decode cX8_at 11 = .ok (.ireturn, 1) := by decide +kernel
theorem dd_X8_at_12 : decode cX8_at 12 = .ok (.aload_n 0, 1) := by decide +kernel
theorem dd_X8_at_13 : decode cX8_at 13 = .ok (.getfield 11, 3) := by decide +kernel
theorem dd_X8_at_16 : decode cX8_at 16 = .ok (.iload_n 1, 1) := by decide +kernel
theorem dd_X8_at_17 : decode cX8_at 17 = .ok (.aaload, 1) := by decide +kernel
theorem dd_X8_at_18 : decode cX8_at 18 = .ok (.getfield 105, 3) := by decide +kernel
theorem dd_X8_at_21 : decode cX8_at 21 = .ok (.astore_n 3, 1) := by decide +kernel
theorem dd_X8_at_22 : decode cX8_at 22 = .ok (.iload_n 2, 1) := by decide +kernel
theorem dd_X8_at_23 : decode cX8_at 23 = .ok (.ifCond .lt 20, 3) := by decide +kernel
theorem dd_X8_at_26 : decode cX8_at 26 = .ok (.iload_n 2, 1) := by decide +kernel
theorem dd_X8_at_27 : decode cX8_at 27 = .ok (.aload_n 3, 1) := by decide +kernel
theorem dd_X8_at_28 : decode cX8_at 28 = .ok (.getfield 88, 3) := by decide +kernel
theorem dd_X8_at_31 : decode cX8_at 31 = .ok (.if_icmp .ge 12, 3) := by decide +kernel
theorem dd_X8_at_34 : decode cX8_at 34 = .ok (.aload_n 3, 1) := by decide +kernel
theorem dd_X8_at_35 : decode cX8_at 35 = .ok (.getfield 123, 3) := by decide +kernel
theorem dd_X8_at_38 : decode cX8_at 38 = .ok (.iload_n 2, 1) := by decide +kernel
theorem dd_X8_at_39 : decode cX8_at 39 = .ok (.iaload, 1) := by decide +kernel
theorem dd_X8_at_40 : decode cX8_at 40 = .ok (.goto 4, 3) := by decide +kernel
theorem dd_X8_at_43 : decode cX8_at 43 = .ok (.iconst (-1), 1) := by decide +kernel
theorem dd_X8_at_44 : decode cX8_at 44 = .ok (.ireturn, 1) := by decide +kernel
theorem fl_X8_123 : Cond.fieldLink RX8 123 (TX4 0).1 (TX4 0).2.1 (TX4 0).2.2.1 ∈ am_tbl := ri_lw_in (pl := 118) (by decide +kernel)
theorem ok_X8_at : am_okM m_X8_at 2 ∧ Cond.instanceMethod m_X8_at.1 ∈ am_tbl ∧ Cond.selects m_X8_at.1.cls m_X8_at.1 m_X8_at.1 ∈ am_tbl := ri_mk1 469 82 467 468 (by decide +kernel)
theorem c_X8_at {r i : Int} {F A : gs_F} (hI : gs_I F A) (hr : -2147483648 ≤ r ∧ r ≤ 2147483647) (hi : -2147483648 ≤ i ∧ i ≤ 2147483647) : sC m_X8_at 2 [.ref 0, gs_iv r, gs_iv i] F A (fun rv F' A' => ∃ z : Int, rv = some (gs_iv z) ∧ F = F' ∧ A = A' ∧ (True)) := by
  refine sC_of ok_X8_at.1 (Nat.le_of_ble_eq_true rfl) ?_
  show sA _ _ _ 0 [(0, .ref 0), (1, gs_iv r), (2, gs_iv i)] [] F A
  refine sA_aload_n dd_X8_at_0 rfl (.head _) ?_
  refine sA_iload_n dd_X8_at_1 rfl (.tail _ (.head _)) ?_
  refine sA_callV (y2 := m_X8_isRing) (n2 := 1) (d2 := 1) (a := 0) (ci := 8) (q := (RX8, TX8, 13)) (as := [gs_iv r]) (rest := []) dd_X8_at_2 ok_X8_isRing ml_X8_101 rfl rfl (by decide) gs_s0 rfl rfl (Nat.le_of_ble_eq_true rfl) (by decide) (c_X8_isRing hI (by omega)) (fun r1 F2 A3 h4 => ?_)
  obtain ⟨z7, e6, e8, e9, x5⟩ := h4
  subst e6 e8 e9
  show sA _ _ _ 5 _ [gs_iv z7] _ _
  refine sA_if_ne (tgt := 12) dd_X8_at_5 (by decide) (by omega) (fun q10 => ?_) (fun q10 => ?_)
  · skip
    refine sA_aload_n dd_X8_at_12 rfl (.head _) ?_
    refine sA_getr (ci := 8) (j := 0) (q := (RX8, TX8, 13)) dd_X8_at_13 rfl (by decide) fl_X8_11 (by decide) gs_s0 rfl ?_
    refine sA_iload_n dd_X8_at_16 rfl (.tail _ (.head _)) ?_
    refine sA_aald (n := 12) dd_X8_at_17 (by decide) (by decide) (by decide) gs_s1 (by omega) (by decide) ?_
    have g11 := gs_ring_at (k := r.toNat) (by omega)
    refine sA_getr (ci := 3) (j := 0) (q := (RX3, TX3, 3)) dd_X8_at_18 rfl (by decide) fl_X8_105 (Nat.lt_of_succ_lt g11.1) g11.2.1 rfl ?_
    refine sA_astore_n (lv' := [(3, .ref (54 + 3 * r.toNat + 1)), (0, .ref 0), (1, gs_iv r), (2, gs_iv i)]) dd_X8_at_21 rfl (by decide) rfl ?_
    refine sA_iload_n dd_X8_at_22 rfl (.tail _ (.tail _ (.tail _ (.head _)))) ?_
    refine sA_if_lt (tgt := 43) dd_X8_at_23 (by decide) (by omega) (fun q12 => ?_) (fun q12 => ?_)
    · skip
      refine sA_iconst (z := (-1)) dd_X8_at_43 ?_
      refine sA_iret (z := -1) dd_X8_at_44 rfl ?_
      exact ⟨_, rfl, rfl, rfl, trivial⟩
    · skip
      refine sA_iload_n dd_X8_at_26 rfl (.tail _ (.tail _ (.tail _ (.head _)))) ?_
      refine sA_aload_n dd_X8_at_27 rfl (.head _) ?_
      refine sA_geti (ci := 4) (j := 1) (q := (RX4, TX4, 2)) dd_X8_at_28 rfl (by decide) fl_X8_88 (Nat.lt_of_succ_lt g11.2.2.1.1) g11.2.2.1.2.1 rfl ?_
      have b13 := gs_row_sz g11.2.2.1 hI
      refine sA_icmp_ge (tgt := 43) dd_X8_at_31 (by decide) (by omega) (by omega) (fun q14 => ?_) (fun q14 => ?_)
      · skip
        refine sA_iconst (z := (-1)) dd_X8_at_43 ?_
        refine sA_iret (z := -1) dd_X8_at_44 rfl ?_
        exact ⟨_, rfl, rfl, rfl, trivial⟩
      · skip
        refine sA_aload_n dd_X8_at_34 rfl (.head _) ?_
        refine sA_getr (ci := 4) (j := 0) (q := (RX4, TX4, 2)) dd_X8_at_35 rfl (by decide) fl_X8_123 (Nat.lt_of_succ_lt g11.2.2.1.1) g11.2.2.1.2.1 rfl ?_
        refine sA_iload_n dd_X8_at_38 rfl (.tail _ (.tail _ (.tail _ (.head _)))) ?_
        refine sA_iald (n := 60) dd_X8_at_39 g11.2.2.1.1 g11.2.2.1.2.2.1 (by omega) (Nat.le_trans g11.2.2.1.2.2.2.2.2.2 (by decide)) ?_
        have b15 := gs_row_el g11.2.2.1 hI i.toNat
        refine sA_goto (tgt := 44) dd_X8_at_40 (by decide) ?_
        refine sA_iret (z := A (54 + 3 * r.toNat + 1 + 1) i.toNat) dd_X8_at_44 rfl ?_
        exact ⟨_, rfl, rfl, rfl, trivial⟩
  · skip
    refine sA_sipush (z := (-1001)) dd_X8_at_8 (by decide) ?_
    refine sA_iret (z := -1001) dd_X8_at_11 rfl ?_
    exact ⟨_, rfl, rfl, rfl, trivial⟩
theorem dd_X8_meets_0 : decode cX8_meets 0 = .ok (.aload_n 0, 1) := by decide +kernel
theorem dd_X8_meets_1 : decode cX8_meets 1 = .ok (.iload_n 1, 1) := by decide +kernel
theorem dd_X8_meets_2 : decode cX8_meets 2 = .ok (.invokevirtual 101, 3) := by decide +kernel
theorem dd_X8_meets_5 : decode cX8_meets 5 = .ok (.ifCond .eq 11, 3) := by decide +kernel
theorem dd_X8_meets_8 : decode cX8_meets 8 = .ok (.aload_n 0, 1) := by decide +kernel
theorem dd_X8_meets_9 : decode cX8_meets 9 = .ok (.iload_n 2, 1) := by decide +kernel
theorem dd_X8_meets_10 : decode cX8_meets 10 = .ok (.invokevirtual 101, 3) := by decide +kernel
theorem dd_X8_meets_13 : decode cX8_meets 13 = .ok (.ifCond .ne 7, 3) := by decide +kernel
theorem dd_X8_meets_16 : decode cX8_meets 16 = .ok (.sipush (-1001), 3) := by decide +kernel
theorem dd_X8_meets_19 : decode cX8_meets 19 = .ok (.ireturn, 1) := by decide +kernel
theorem dd_X8_meets_20 : decode cX8_meets 20 = .ok (.aload_n 0, 1) := by decide +kernel
theorem dd_X8_meets_21 : decode cX8_meets 21 = .ok (.getfield 11, 3) := by decide +kernel
theorem dd_X8_meets_24 : decode cX8_meets 24 = .ok (.iload_n 1, 1) := by decide +kernel
theorem dd_X8_meets_25 : decode cX8_meets 25 = .ok (.aaload, 1) := by decide +kernel
theorem dd_X8_meets_26 : decode cX8_meets 26 = .ok (.getfield 108, 3) := by decide +kernel
theorem dd_X8_meets_29 : decode cX8_meets 29 = .ok (.ifCond .ne 15, 3) := by decide +kernel
theorem dd_X8_meets_32 : decode cX8_meets 32 = .ok (.aload_n 0, 1) := by decide +kernel
theorem dd_X8_meets_33 : decode cX8_meets 33 = .ok (.getfield 11, 3) := by decide +kernel
theorem dd_X8_meets_36 : decode cX8_meets 36 = .ok (.iload_n 2, 1) := by decide +kernel
theorem dd_X8_meets_37 : decode cX8_meets 37 = .ok (.aaload, 1) := by decide +kernel
theorem dd_X8_meets_38 : decode cX8_meets 38 = .ok (.getfield 108, 3) := by decide +kernel
theorem dd_X8_meets_41 : decode cX8_meets 41 = .ok (.ifCond .eq 7, 3) := by decide +kernel
theorem dd_X8_meets_44 : decode cX8_meets 44 = .ok (.sipush (-1003), 3) := by decide +kernel
theorem dd_X8_meets_47 : decode cX8_meets 47 = .ok (.ireturn, 1) := by decide +kernel
theorem dd_X8_meets_48 : decode cX8_meets 48 = .ok (.aload_n 0, 1) := by decide +kernel
theorem dd_X8_meets_49 : decode cX8_meets 49 = .ok (.getfield 40, 3) := by decide +kernel
theorem dd_X8_meets_52 : decode cX8_meets 52 = .ok (.aload_n 0, 1) := by decide +kernel
theorem dd_X8_meets_53 : decode cX8_meets 53 = .ok (.getfield 11, 3) := by decide +kernel
theorem dd_X8_meets_56 : decode cX8_meets 56 = .ok (.iload_n 1, 1) := by decide +kernel
theorem dd_X8_meets_57 : decode cX8_meets 57 = .ok (.aaload, 1) := by decide +kernel
theorem dd_X8_meets_58 : decode cX8_meets 58 = .ok (.getfield 105, 3) := by decide +kernel
theorem dd_X8_meets_61 : decode cX8_meets 61 = .ok (.aload_n 0, 1) := by decide +kernel
theorem dd_X8_meets_62 : decode cX8_meets 62 = .ok (.getfield 11, 3) := by decide +kernel
theorem dd_X8_meets_65 : decode cX8_meets 65 = .ok (.iload_n 2, 1) := by decide +kernel
theorem dd_X8_meets_66 : decode cX8_meets 66 = .ok (.aaload, 1) := by decide +kernel
theorem dd_X8_meets_67 : decode cX8_meets 67 = .ok (.getfield 105, 3) := by decide +kernel
theorem dd_X8_meets_70 : decode cX8_meets 70 = .ok (.invokevirtual 127, 3) := by decide +kernel
theorem dd_X8_meets_73 : decode cX8_meets 73 = .ok (.ireturn, 1) := by decide +kernel
theorem ml_X8_127 : Cond.methodLink RX8 127 m_X1_between.1 ∈ am_tbl := ri_lw_in (pl := 474) (by decide +kernel)
theorem ok_X8_meets : am_okM m_X8_meets 2 ∧ Cond.instanceMethod m_X8_meets.1 ∈ am_tbl ∧ Cond.selects m_X8_meets.1.cls m_X8_meets.1 m_X8_meets.1 ∈ am_tbl := ri_mk1 473 82 471 472 (by decide +kernel)
theorem c_X8_meets {r s : Int} {F A : gs_F} (hI : gs_I F A) (hr : -2147483648 ≤ r ∧ r ≤ 2147483647) (hs : -2147483648 ≤ s ∧ s ≤ 2147483647) : sC m_X8_meets 6 [.ref 0, gs_iv r, gs_iv s] F A (fun rv F' A' => ∃ z : Int, rv = some (gs_iv z) ∧ gs_I F' A' ∧ gs_fr (fun c j => c = 13 ∧ j = 1) (fun c => c = 14) F A F' A' ∧ (True)) := by
  refine sC_of ok_X8_meets.1 (Nat.le_of_ble_eq_true rfl) ?_
  show sA _ _ _ 0 [(0, .ref 0), (1, gs_iv r), (2, gs_iv s)] [] F A
  have hf : gs_fr (fun c j => c = 13 ∧ j = 1) (fun c => c = 14) F A F A := gs_fr_refl _ _ _ _
  refine sA_aload_n dd_X8_meets_0 rfl (.head _) ?_
  refine sA_iload_n dd_X8_meets_1 rfl (.tail _ (.head _)) ?_
  refine sA_callV (y2 := m_X8_isRing) (n2 := 1) (d2 := 1) (a := 0) (ci := 8) (q := (RX8, TX8, 13)) (as := [gs_iv r]) (rest := []) dd_X8_meets_2 ok_X8_isRing ml_X8_101 rfl rfl (by decide) gs_s0 rfl rfl (Nat.le_of_ble_eq_true rfl) (by decide) (c_X8_isRing hI (by omega)) (fun r1 F2 A3 h4 => ?_)
  obtain ⟨z7, e6, e8, e9, x5⟩ := h4
  subst e6 e8 e9
  show sA _ _ _ 5 _ [gs_iv z7] _ _
  refine sA_if_eq (tgt := 16) dd_X8_meets_5 (by decide) (by omega) (fun q10 => ?_) (fun q10 => ?_)
  · skip
    refine sA_sipush (z := (-1001)) dd_X8_meets_16 (by decide) ?_
    refine sA_iret (z := -1001) dd_X8_meets_19 rfl ?_
    exact ⟨_, rfl, hI, hf, trivial⟩
  · skip
    refine sA_aload_n dd_X8_meets_8 rfl (.head _) ?_
    refine sA_iload_n dd_X8_meets_9 rfl (.tail _ (.tail _ (.head _))) ?_
    refine sA_callV (y2 := m_X8_isRing) (n2 := 1) (d2 := 1) (a := 0) (ci := 8) (q := (RX8, TX8, 13)) (as := [gs_iv s]) (rest := []) dd_X8_meets_10 ok_X8_isRing ml_X8_101 rfl rfl (by decide) gs_s0 rfl rfl (Nat.le_of_ble_eq_true rfl) (by decide) (c_X8_isRing hI (by omega)) (fun r11 F12 A13 h14 => ?_)
    obtain ⟨z17, e16, e18, e19, x15⟩ := h14
    subst e16 e18 e19
    show sA _ _ _ 13 _ [gs_iv z17] _ _
    refine sA_if_ne (tgt := 20) dd_X8_meets_13 (by decide) (by omega) (fun q20 => ?_) (fun q20 => ?_)
    · skip
      refine sA_aload_n dd_X8_meets_20 rfl (.head _) ?_
      refine sA_getr (ci := 8) (j := 0) (q := (RX8, TX8, 13)) dd_X8_meets_21 rfl (by decide) fl_X8_11 (by decide) gs_s0 rfl ?_
      refine sA_iload_n dd_X8_meets_24 rfl (.tail _ (.head _)) ?_
      refine sA_aald (n := 12) dd_X8_meets_25 (by decide) (by decide) (by decide) gs_s1 (by omega) (by decide) ?_
      have g21 := gs_ring_at (k := r.toNat) (by omega)
      refine sA_geti (ci := 3) (j := 1) (q := (RX3, TX3, 3)) dd_X8_meets_26 rfl (by decide) fl_X8_108 (Nat.lt_of_succ_lt g21.1) g21.2.1 rfl ?_
      have b22 := gs_ring_f1 g21 hI
      refine sA_if_ne (tgt := 44) dd_X8_meets_29 (by decide) (by omega) (fun q23 => ?_) (fun q23 => ?_)
      · skip
        refine sA_sipush (z := (-1003)) dd_X8_meets_44 (by decide) ?_
        refine sA_iret (z := -1003) dd_X8_meets_47 rfl ?_
        exact ⟨_, rfl, hI, hf, trivial⟩
      · skip
        refine sA_aload_n dd_X8_meets_32 rfl (.head _) ?_
        refine sA_getr (ci := 8) (j := 0) (q := (RX8, TX8, 13)) dd_X8_meets_33 rfl (by decide) fl_X8_11 (by decide) gs_s0 rfl ?_
        refine sA_iload_n dd_X8_meets_36 rfl (.tail _ (.tail _ (.head _))) ?_
        refine sA_aald (n := 12) dd_X8_meets_37 (by decide) (by decide) (by decide) gs_s1 (by omega) (by decide) ?_
        have g24 := gs_ring_at (k := s.toNat) (by omega)
        refine sA_geti (ci := 3) (j := 1) (q := (RX3, TX3, 3)) dd_X8_meets_38 rfl (by decide) fl_X8_108 (Nat.lt_of_succ_lt g24.1) g24.2.1 rfl ?_
        have b25 := gs_ring_f1 g24 hI
        refine sA_if_eq (tgt := 48) dd_X8_meets_41 (by decide) (by omega) (fun q26 => ?_) (fun q26 => ?_)
        · skip
          refine sA_aload_n dd_X8_meets_48 rfl (.head _) ?_
          refine sA_getr (ci := 8) (j := 4) (q := (RX8, TX8, 13)) dd_X8_meets_49 rfl (by decide) fl_X8_40 (by decide) gs_s0 rfl ?_
          refine sA_aload_n dd_X8_meets_52 rfl (.head _) ?_
          refine sA_getr (ci := 8) (j := 0) (q := (RX8, TX8, 13)) dd_X8_meets_53 rfl (by decide) fl_X8_11 (by decide) gs_s0 rfl ?_
          refine sA_iload_n dd_X8_meets_56 rfl (.tail _ (.head _)) ?_
          refine sA_aald (n := 12) dd_X8_meets_57 (by decide) (by decide) (by decide) gs_s1 (by omega) (by decide) ?_
          have g27 := gs_ring_at (k := r.toNat) (by omega)
          refine sA_getr (ci := 3) (j := 0) (q := (RX3, TX3, 3)) dd_X8_meets_58 rfl (by decide) fl_X8_105 (Nat.lt_of_succ_lt g27.1) g27.2.1 rfl ?_
          refine sA_aload_n dd_X8_meets_61 rfl (.head _) ?_
          refine sA_getr (ci := 8) (j := 0) (q := (RX8, TX8, 13)) dd_X8_meets_62 rfl (by decide) fl_X8_11 (by decide) gs_s0 rfl ?_
          refine sA_iload_n dd_X8_meets_65 rfl (.tail _ (.tail _ (.head _))) ?_
          refine sA_aald (n := 12) dd_X8_meets_66 (by decide) (by decide) (by decide) gs_s1 (by omega) (by decide) ?_
          have g28 := gs_ring_at (k := s.toNat) (by omega)
          refine sA_getr (ci := 3) (j := 0) (q := (RX3, TX3, 3)) dd_X8_meets_67 rfl (by decide) fl_X8_105 (Nat.lt_of_succ_lt g28.1) g28.2.1 rfl ?_
          refine sA_callV (y2 := m_X1_between) (n2 := 2) (d2 := 5) (a := 12) (ci := 1) (q := (RX1, TX1, 1)) (as := [.ref (54 + 3 * r.toNat + 1), .ref (54 + 3 * s.toNat + 1)]) (rest := []) dd_X8_meets_70 ok_X1_between ml_X8_127 rfl rfl (by decide) gs_s12 rfl rfl (Nat.le_of_ble_eq_true rfl) (by decide) (c_X1_between hI g27.2.2.1 g28.2.2.1) (fun r29 F30 A31 h32 => ?_)
          obtain ⟨z35, e34, I36, f37, x33⟩ := h32
          subst e34
          have f38 := gs_fr_tr hf f37 (fun b j h => by first | exact False.elim h | omega | (dsimp only at h ⊢; omega)) (fun b h => by first | exact False.elim h | omega | (dsimp only at h ⊢; omega))
          show sA _ _ _ 73 _ [gs_iv z35] _ _
          refine sA_iret (z := z35) dd_X8_meets_73 rfl ?_
          exact ⟨_, rfl, I36, f38, trivial⟩
        · skip
          refine sA_sipush (z := (-1003)) dd_X8_meets_44 (by decide) ?_
          refine sA_iret (z := -1003) dd_X8_meets_47 rfl ?_
          exact ⟨_, rfl, hI, hf, trivial⟩
    · skip
      refine sA_sipush (z := (-1001)) dd_X8_meets_16 (by decide) ?_
      refine sA_iret (z := -1001) dd_X8_meets_19 rfl ?_
      exact ⟨_, rfl, hI, hf, trivial⟩
theorem dd_X8_one_0 : decode cX8_one 0 = .ok (.aload_n 0, 1) := by decide +kernel
theorem dd_X8_one_1 : decode cX8_one 1 = .ok (.iload_n 1, 1) := by decide +kernel
theorem dd_X8_one_2 : decode cX8_one 2 = .ok (.invokevirtual 101, 3) := by decide +kernel
theorem dd_X8_one_5 : decode cX8_one 5 = .ok (.ifCond .eq 11, 3) := by decide +kernel
theorem dd_X8_one_8 : decode cX8_one 8 = .ok (.aload_n 0, 1) := by decide +kernel
theorem dd_X8_one_9 : decode cX8_one 9 = .ok (.iload_n 2, 1) := by decide +kernel
theorem dd_X8_one_10 : decode cX8_one 10 = .ok (.invokevirtual 101, 3) := by decide +kernel
theorem dd_X8_one_13 : decode cX8_one 13 = .ok (.ifCond .ne 7, 3) := by decide +kernel
theorem dd_X8_one_16 : decode cX8_one 16 = .ok (.sipush (-1001), 3) := by decide +kernel
theorem dd_X8_one_19 : decode cX8_one 19 = .ok (.ireturn, 1) := by decide +kernel
theorem dd_X8_one_20 : decode cX8_one 20 = .ok (.aload_n 0, 1) := by decide +kernel
theorem dd_X8_one_21 : decode cX8_one 21 = .ok (.getfield 11, 3) := by decide +kernel
theorem dd_X8_one_24 : decode cX8_one 24 = .ok (.iload_n 1, 1) := by decide +kernel
theorem dd_X8_one_25 : decode cX8_one 25 = .ok (.aaload, 1) := by decide +kernel
theorem dd_X8_one_26 : decode cX8_one 26 = .ok (.getfield 105, 3) := by decide +kernel
theorem dd_X8_one_29 : decode cX8_one 29 = .ok (.aload_n 0, 1) := by decide +kernel
theorem dd_X8_one_30 : decode cX8_one 30 = .ok (.getfield 11, 3) := by decide +kernel
theorem dd_X8_one_33 : decode cX8_one 33 = .ok (.iload_n 2, 1) := by decide +kernel
theorem dd_X8_one_34 : decode cX8_one 34 = .ok (.aaload, 1) := by decide +kernel
theorem dd_X8_one_35 : decode cX8_one 35 = .ok (.getfield 105, 3) := by decide +kernel
theorem dd_X8_one_38 : decode cX8_one 38 = .ok (.invokevirtual 131, 3) := by decide +kernel
theorem dd_X8_one_41 : decode cX8_one 41 = .ok (.invokestatic 112, 3) := by decide +kernel
theorem dd_X8_one_44 : decode cX8_one 44 = .ok (.ireturn, 1) := by decide +kernel
theorem ml_X8_131 : Cond.methodLink RX8 131 m_X4_isOneWith.1 ∈ am_tbl := ri_lw_in (pl := 479) (by decide +kernel)
theorem ok_X8_one : am_okM m_X8_one 2 ∧ Cond.instanceMethod m_X8_one.1 ∈ am_tbl ∧ Cond.selects m_X8_one.1.cls m_X8_one.1 m_X8_one.1 ∈ am_tbl := ri_mk1 478 82 476 477 (by decide +kernel)
theorem c_X8_one {r s : Int} {F A : gs_F} (hI : gs_I F A) (hr : -2147483648 ≤ r ∧ r ≤ 2147483647) (hs : -2147483648 ≤ s ∧ s ≤ 2147483647) : sC m_X8_one 3 [.ref 0, gs_iv r, gs_iv s] F A (fun rv F' A' => ∃ z : Int, rv = some (gs_iv z) ∧ F = F' ∧ A = A' ∧ (True)) := by
  refine sC_of ok_X8_one.1 (Nat.le_of_ble_eq_true rfl) ?_
  show sA _ _ _ 0 [(0, .ref 0), (1, gs_iv r), (2, gs_iv s)] [] F A
  refine sA_aload_n dd_X8_one_0 rfl (.head _) ?_
  refine sA_iload_n dd_X8_one_1 rfl (.tail _ (.head _)) ?_
  refine sA_callV (y2 := m_X8_isRing) (n2 := 1) (d2 := 1) (a := 0) (ci := 8) (q := (RX8, TX8, 13)) (as := [gs_iv r]) (rest := []) dd_X8_one_2 ok_X8_isRing ml_X8_101 rfl rfl (by decide) gs_s0 rfl rfl (Nat.le_of_ble_eq_true rfl) (by decide) (c_X8_isRing hI (by omega)) (fun r1 F2 A3 h4 => ?_)
  obtain ⟨z7, e6, e8, e9, x5⟩ := h4
  subst e6 e8 e9
  show sA _ _ _ 5 _ [gs_iv z7] _ _
  refine sA_if_eq (tgt := 16) dd_X8_one_5 (by decide) (by omega) (fun q10 => ?_) (fun q10 => ?_)
  · skip
    refine sA_sipush (z := (-1001)) dd_X8_one_16 (by decide) ?_
    refine sA_iret (z := -1001) dd_X8_one_19 rfl ?_
    exact ⟨_, rfl, rfl, rfl, trivial⟩
  · skip
    refine sA_aload_n dd_X8_one_8 rfl (.head _) ?_
    refine sA_iload_n dd_X8_one_9 rfl (.tail _ (.tail _ (.head _))) ?_
    refine sA_callV (y2 := m_X8_isRing) (n2 := 1) (d2 := 1) (a := 0) (ci := 8) (q := (RX8, TX8, 13)) (as := [gs_iv s]) (rest := []) dd_X8_one_10 ok_X8_isRing ml_X8_101 rfl rfl (by decide) gs_s0 rfl rfl (Nat.le_of_ble_eq_true rfl) (by decide) (c_X8_isRing hI (by omega)) (fun r11 F12 A13 h14 => ?_)
    obtain ⟨z17, e16, e18, e19, x15⟩ := h14
    subst e16 e18 e19
    show sA _ _ _ 13 _ [gs_iv z17] _ _
    refine sA_if_ne (tgt := 20) dd_X8_one_13 (by decide) (by omega) (fun q20 => ?_) (fun q20 => ?_)
    · skip
      refine sA_aload_n dd_X8_one_20 rfl (.head _) ?_
      refine sA_getr (ci := 8) (j := 0) (q := (RX8, TX8, 13)) dd_X8_one_21 rfl (by decide) fl_X8_11 (by decide) gs_s0 rfl ?_
      refine sA_iload_n dd_X8_one_24 rfl (.tail _ (.head _)) ?_
      refine sA_aald (n := 12) dd_X8_one_25 (by decide) (by decide) (by decide) gs_s1 (by omega) (by decide) ?_
      have g21 := gs_ring_at (k := r.toNat) (by omega)
      refine sA_getr (ci := 3) (j := 0) (q := (RX3, TX3, 3)) dd_X8_one_26 rfl (by decide) fl_X8_105 (Nat.lt_of_succ_lt g21.1) g21.2.1 rfl ?_
      refine sA_aload_n dd_X8_one_29 rfl (.head _) ?_
      refine sA_getr (ci := 8) (j := 0) (q := (RX8, TX8, 13)) dd_X8_one_30 rfl (by decide) fl_X8_11 (by decide) gs_s0 rfl ?_
      refine sA_iload_n dd_X8_one_33 rfl (.tail _ (.tail _ (.head _))) ?_
      refine sA_aald (n := 12) dd_X8_one_34 (by decide) (by decide) (by decide) gs_s1 (by omega) (by decide) ?_
      have g22 := gs_ring_at (k := s.toNat) (by omega)
      refine sA_getr (ci := 3) (j := 0) (q := (RX3, TX3, 3)) dd_X8_one_35 rfl (by decide) fl_X8_105 (Nat.lt_of_succ_lt g22.1) g22.2.1 rfl ?_
      refine sA_callV (y2 := m_X4_isOneWith) (n2 := 1) (d2 := 2) (a := (54 + 3 * r.toNat + 1)) (ci := 4) (q := (RX4, TX4, 2)) (as := [.ref (54 + 3 * s.toNat + 1)]) (rest := []) dd_X8_one_38 ok_X4_isOneWith ml_X8_131 rfl rfl (Nat.lt_of_succ_lt g21.2.2.1.1) g21.2.2.1.2.1 rfl rfl (Nat.le_of_ble_eq_true rfl) (by decide) (c_X4_isOneWith hI g21.2.2.1 g22.2.2.1) (fun r23 F24 A25 h26 => ?_)
      obtain ⟨z29, e28, e30, e31, x27⟩ := h26
      subst e28 e30 e31
      show sA _ _ _ 41 _ [gs_iv z29] _ _
      refine sA_callS (y2 := m_X8_oneIf) (n2 := 1) (d2 := 1) (as := [gs_iv z29]) (rest := []) dd_X8_one_41 ok_X8_oneIf ml_X8_112 rfl rfl (Nat.le_of_ble_eq_true rfl) (by decide) (c_X8_oneIf (by omega)) (fun r32 F33 A34 h35 => ?_)
      obtain ⟨z38, e37, e39, e40, x36⟩ := h35
      subst e37 e39 e40
      show sA _ _ _ 44 _ [gs_iv z38] _ _
      refine sA_iret (z := z38) dd_X8_one_44 rfl ?_
      exact ⟨_, rfl, rfl, rfl, trivial⟩
    · skip
      refine sA_sipush (z := (-1001)) dd_X8_one_16 (by decide) ?_
      refine sA_iret (z := -1001) dd_X8_one_19 rfl ?_
      exact ⟨_, rfl, rfl, rfl, trivial⟩
theorem dd_X8_firstBarring_0 : decode cX8_firstBarring 0 = .ok (.aload_n 0, 1) := by decide +kernel
theorem dd_X8_firstBarring_1 : decode cX8_firstBarring 1 = .ok (.getfield 11, 3) := by decide +kernel
theorem dd_X8_firstBarring_4 : decode cX8_firstBarring 4 = .ok (.iload_n 2, 1) := by decide +kernel
theorem dd_X8_firstBarring_5 : decode cX8_firstBarring 5 = .ok (.aaload, 1) := by decide +kernel
theorem dd_X8_firstBarring_6 : decode cX8_firstBarring 6 = .ok (.invokevirtual 119, 3) := by decide +kernel
theorem dd_X8_firstBarring_9 : decode cX8_firstBarring 9 = .ok (.ifCond .ne 5, 3) := by decide +kernel
theorem dd_X8_firstBarring_12 : decode cX8_firstBarring 12 = .ok (.iload_n 2, 1) := by decide +kernel
theorem dd_X8_firstBarring_13 : decode cX8_firstBarring 13 = .ok (.ireturn, 1) := by decide +kernel
theorem dd_X8_firstBarring_14 : decode cX8_firstBarring 14 = .ok (.aload_n 0, 1) := by decide +kernel
theorem dd_X8_firstBarring_15 : decode cX8_firstBarring 15 = .ok (.getfield 11, 3) := by decide +kernel
theorem dd_X8_firstBarring_18 : decode cX8_firstBarring 18 = .ok (.iload_n 2, 1) := by decide +kernel
theorem dd_X8_firstBarring_19 : decode cX8_firstBarring 19 = .ok (.aaload, 1) := by decide +kernel
theorem dd_X8_firstBarring_20 : decode cX8_firstBarring 20 = .ok (.getfield 105, 3) := by decide +kernel
theorem dd_X8_firstBarring_23 : decode cX8_firstBarring 23 = .ok (.astore_n 3, 1) := by decide +kernel
theorem dd_X8_firstBarring_24 : decode cX8_firstBarring 24 = .ok (.iload_n 2, 1) := by decide +kernel
theorem dd_X8_firstBarring_25 : decode cX8_firstBarring 25 = .ok (.iconst 1, 1) := by decide +kernel
theorem dd_X8_firstBarring_26 : decode cX8_firstBarring 26 = .ok (.iadd, 1) := by decide +kernel
theorem dd_X8_firstBarring_27 : decode cX8_firstBarring 27 = .ok (.istore 4, 2) := by decide +kernel
theorem dd_X8_firstBarring_29 : decode cX8_firstBarring 29 = .ok (.iload 4, 2) := by decide +kernel
theorem dd_X8_firstBarring_31 : decode cX8_firstBarring 31 = .ok (.aload_n 0, 1) := by decide +kernel
theorem dd_X8_firstBarring_32 : decode cX8_firstBarring 32 = .ok (.getfield 94, 3) := by decide +kernel
theorem dd_X8_firstBarring_35 : decode cX8_firstBarring 35 = .ok (.if_icmp .ge 72, 3) := by decide +kernel
theorem dd_X8_firstBarring_38 : decode cX8_firstBarring 38 = .ok (.iload_n 1, 1) := by decide +kernel
theorem dd_X8_firstBarring_39 : decode cX8_firstBarring 39 = .ok (.iload 4, 2) := by decide +kernel
theorem dd_X8_firstBarring_41 : decode cX8_firstBarring 41 = .ok (.ishr, 1) := by decide +kernel
theorem dd_X8_firstBarring_42 : decode cX8_firstBarring 42 = .ok (.iconst 1, 1) := by decide +kernel
theorem dd_X8_firstBarring_43 : decode cX8_firstBarring 43 = .ok (.iand, 1) := by decide +kernel
theorem dd_X8_firstBarring_44 : decode cX8_firstBarring 44 = .ok (.ifCond .eq 57, 3) := by decide +kernel
theorem dd_X8_firstBarring_47 : decode cX8_firstBarring 47 = .ok (.aload_n 0, 1) := by decide +kernel
theorem dd_X8_firstBarring_48 : decode cX8_firstBarring 48 = .ok (.getfield 11, 3) := by decide +kernel
theorem dd_X8_firstBarring_51 : decode cX8_firstBarring 51 = .ok (.iload 4, 2) := by decide +kernel
theorem dd_X8_firstBarring_53 : decode cX8_firstBarring 53 = .ok (.aaload, 1) := by decide +kernel
theorem dd_X8_firstBarring_54 : decode cX8_firstBarring 54 = .ok (.invokevirtual 119, 3) := by decide +kernel
theorem dd_X8_firstBarring_57 : decode cX8_firstBarring 57 = .ok (.ifCond .eq 44, 3) := by decide +kernel
theorem dd_X8_firstBarring_60 : decode cX8_firstBarring 60 = .ok (.aload_n 3, 1) := by decide +kernel
theorem dd_X8_firstBarring_61 : decode cX8_firstBarring 61 = .ok (.aload_n 0, 1) := by decide +kernel
theorem dd_X8_firstBarring_62 : decode cX8_firstBarring 62 = .ok (.getfield 11, 3) := by decide +kernel
theorem dd_X8_firstBarring_65 : decode cX8_firstBarring 65 = .ok (.iload 4, 2) := by decide +kernel
theorem dd_X8_firstBarring_67 : decode cX8_firstBarring 67 = .ok (.aaload, 1) := by decide +kernel
theorem dd_X8_firstBarring_68 : decode cX8_firstBarring 68 = .ok (.getfield 105, 3) := by decide +kernel
theorem dd_X8_firstBarring_71 : decode cX8_firstBarring 71 = .ok (.invokevirtual 131, 3) := by decide +kernel
theorem dd_X8_firstBarring_74 : decode cX8_firstBarring 74 = .ok (.ifCond .ne 24, 3) := by decide +kernel
theorem dd_X8_firstBarring_77 : decode cX8_firstBarring 77 = .ok (.aload_n 0, 1) := by decide +kernel
theorem dd_X8_firstBarring_78 : decode cX8_firstBarring 78 = .ok (.getfield 40, 3) := by decide +kernel
theorem dd_X8_firstBarring_81 : decode cX8_firstBarring 81 = .ok (.aload_n 3, 1) := by decide +kernel
theorem dd_X8_firstBarring_82 : decode cX8_firstBarring 82 = .ok (.aload_n 0, 1) := by decide +kernel
theorem dd_X8_firstBarring_83 : decode cX8_firstBarring 83 = .ok (.getfield 11, 3) := by decide +kernel
theorem dd_X8_firstBarring_86 : decode cX8_firstBarring 86 = .ok (.iload 4, 2) := by decide +kernel
theorem dd_X8_firstBarring_88 : decode cX8_firstBarring 88 = .ok (.aaload, 1) := by decide +kernel
theorem dd_X8_firstBarring_89 : decode cX8_firstBarring 89 = .ok (.getfield 105, 3) := by decide +kernel
theorem dd_X8_firstBarring_92 : decode cX8_firstBarring 92 = .ok (.invokevirtual 127, 3) := by decide +kernel
theorem dd_X8_firstBarring_95 : decode cX8_firstBarring 95 = .ok (.ifCond .eq 6, 3) := by decide +kernel
theorem dd_X8_firstBarring_98 : decode cX8_firstBarring 98 = .ok (.iload 4, 2) := by decide +kernel
theorem dd_X8_firstBarring_100 : decode cX8_firstBarring 100 = .ok (.ireturn, 1) := by decide +kernel
theorem dd_X8_firstBarring_101 : decode cX8_firstBarring 101 = .ok (.iinc 4 1, 3) := by decide +kernel
theorem dd_X8_firstBarring_104 : decode cX8_firstBarring 104 = .ok (.goto (-75), 3) := by decide +kernel
theorem dd_X8_firstBarring_107 : decode cX8_firstBarring 107 = .ok (.iconst (-1), 1) := by decide +kernel
theorem dd_X8_firstBarring_108 : decode cX8_firstBarring 108 = .ok (.ireturn, 1) := by decide +kernel
theorem ok_X8_firstBarring : am_okM m_X8_firstBarring 2 ∧ Cond.instanceMethod m_X8_firstBarring.1 ∈ am_tbl ∧ Cond.selects m_X8_firstBarring.1.cls m_X8_firstBarring.1 m_X8_firstBarring.1 ∈ am_tbl := ri_mk1 498 82 497 12 (by decide +kernel)
theorem k_X8_firstBarring {e p : Int} {F A : gs_F} (hI : gs_I F A) (he : -2147483648 ≤ e ∧ e ≤ 2147483647) (hp : 0 ≤ p ∧ p < 12) : ∀ nN : Nat, (∀ (b : Int)  (F1 A1 : gs_F), gs_I F1 A1 → gs_fr (fun c j => c = 13 ∧ j = 1) (fun c => c = 14) F A F1 A1 → 0 ≤ b ∧ b ≤ 12 → 12 - b < (nN : Int) → sA m_X8_firstBarring 6 (fun rv F' A' => ∃ z : Int, rv = some (gs_iv z) ∧ gs_I F' A' ∧ gs_fr (fun c j => c = 13 ∧ j = 1) (fun c => c = 14) F A F' A' ∧ (-1 ≤ z ∧ z ≤ 12)) 29 [(4, gs_iv b), (0, .ref 0), (1, gs_iv e), (3, .ref (54 + 3 * p.toNat + 1))] [] F1 A1) := by
  intro nN
  induction nN with
  | zero =>
    exact fun a0 a1 a2 a3 a4 i0 hm => by exfalso; omega
  | succ nN ih =>
    intro b F1 A1 hI1 hf1 i0 hm
    refine sA_iload dd_X8_firstBarring_29 (.head _) ?_
    refine sA_aload_n dd_X8_firstBarring_31 rfl (.tail _ (.head _)) ?_
    refine sA_geti (ci := 8) (j := 12) (q := (RX8, TX8, 13)) dd_X8_firstBarring_32 rfl (by decide) fl_X8_94 (by decide) gs_s0 rfl ?_
    have b1 : (0 : Int) ≤ F1 0 12 ∧ F1 0 12 ≤ 12 := hI1.1 0 12
    refine sA_icmp_ge (tgt := 107) dd_X8_firstBarring_35 (by decide) (by omega) (by omega) (fun q2 => ?_) (fun q2 => ?_)
    · skip
      refine sA_iconst (z := (-1)) dd_X8_firstBarring_107 ?_
      refine sA_iret (z := -1) dd_X8_firstBarring_108 rfl ?_
      exact ⟨_, rfl, hI1, hf1, by omega⟩
    · skip
      refine sA_iload_n dd_X8_firstBarring_38 rfl (.tail _ (.tail _ (.head _))) ?_
      refine sA_iload dd_X8_firstBarring_39 (.head _) ?_
      refine sA_ishr dd_X8_firstBarring_41 ?_
      have b3 := gs_t_rng (Int32.ofInt e >>> (Int32.ofInt b &&& 31))
      generalize gs_t (Int32.ofInt e >>> (Int32.ofInt b &&& 31)) = w4 at b3 ⊢
      refine sA_iconst (z := 1) dd_X8_firstBarring_42 ?_
      refine sA_iand dd_X8_firstBarring_43 ?_
      have b5 := gs_t_rng (Int32.ofInt w4 &&& Int32.ofInt 1)
      generalize gs_t (Int32.ofInt w4 &&& Int32.ofInt 1) = w6 at b5 ⊢
      refine sA_if_eq (tgt := 101) dd_X8_firstBarring_44 (by decide) (by omega) (fun q7 => ?_) (fun q7 => ?_)
      · skip
        refine sA_iinc (lv' := [(4, gs_iv (b + 1)), (0, .ref 0), (1, gs_iv e), (3, .ref (54 + 3 * p.toNat + 1))]) dd_X8_firstBarring_101 (.head _) (by decide) rfl ?_
        refine sA_goto (tgt := 29) dd_X8_firstBarring_104 (by decide) ?_
        refine sA_sub (lv2 := [(4, gs_iv (b + 1)), (0, .ref 0), (1, gs_iv e), (3, .ref (54 + 3 * p.toNat + 1))]) (List.forall_mem_cons.mpr ⟨(.head _), (List.forall_mem_cons.mpr ⟨(.tail _ (.head _)), (List.forall_mem_cons.mpr ⟨(.tail _ (.tail _ (.head _))), (List.forall_mem_cons.mpr ⟨(.tail _ (.tail _ (.tail _ (.head _)))), (fun _ h => absurd h List.not_mem_nil)⟩)⟩)⟩)⟩) ?_
        exact ih (b + 1) F1 A1 hI1 hf1 (by omega) (by omega)
      · skip
        refine sA_aload_n dd_X8_firstBarring_47 rfl (.tail _ (.head _)) ?_
        refine sA_getr (ci := 8) (j := 0) (q := (RX8, TX8, 13)) dd_X8_firstBarring_48 rfl (by decide) fl_X8_11 (by decide) gs_s0 rfl ?_
        refine sA_iload dd_X8_firstBarring_51 (.head _) ?_
        refine sA_aald (n := 12) dd_X8_firstBarring_53 (by decide) (by decide) (by decide) gs_s1 (by omega) (by decide) ?_
        have g8 := gs_ring_at (k := b.toNat) (by omega)
        refine sA_callV (y2 := m_X3_isSimple) (n2 := 0) (d2 := 1) (a := (54 + 3 * b.toNat)) (ci := 3) (q := (RX3, TX3, 3)) (as := []) (rest := []) dd_X8_firstBarring_54 ok_X3_isSimple ml_X8_119 rfl rfl (Nat.lt_of_succ_lt g8.1) g8.2.1 rfl rfl (Nat.le_of_ble_eq_true rfl) (by decide) (c_X3_isSimple hI1 g8) (fun r9 F10 A11 h12 => ?_)
        obtain ⟨z15, e14, e16, e17, x13⟩ := h12
        subst e14 e16 e17
        show sA _ _ _ 57 _ [gs_iv z15] _ _
        refine sA_if_eq (tgt := 101) dd_X8_firstBarring_57 (by decide) (by omega) (fun q18 => ?_) (fun q18 => ?_)
        · skip
          refine sA_iinc (lv' := [(4, gs_iv (b + 1)), (0, .ref 0), (1, gs_iv e), (3, .ref (54 + 3 * p.toNat + 1))]) dd_X8_firstBarring_101 (.head _) (by decide) rfl ?_
          refine sA_goto (tgt := 29) dd_X8_firstBarring_104 (by decide) ?_
          refine sA_sub (lv2 := [(4, gs_iv (b + 1)), (0, .ref 0), (1, gs_iv e), (3, .ref (54 + 3 * p.toNat + 1))]) (List.forall_mem_cons.mpr ⟨(.head _), (List.forall_mem_cons.mpr ⟨(.tail _ (.head _)), (List.forall_mem_cons.mpr ⟨(.tail _ (.tail _ (.head _))), (List.forall_mem_cons.mpr ⟨(.tail _ (.tail _ (.tail _ (.head _)))), (fun _ h => absurd h List.not_mem_nil)⟩)⟩)⟩)⟩) ?_
          exact ih (b + 1) F1 A1 hI1 hf1 (by omega) (by omega)
        · skip
          refine sA_aload_n dd_X8_firstBarring_60 rfl (.tail _ (.tail _ (.tail _ (.head _)))) ?_
          refine sA_aload_n dd_X8_firstBarring_61 rfl (.tail _ (.head _)) ?_
          refine sA_getr (ci := 8) (j := 0) (q := (RX8, TX8, 13)) dd_X8_firstBarring_62 rfl (by decide) fl_X8_11 (by decide) gs_s0 rfl ?_
          refine sA_iload dd_X8_firstBarring_65 (.head _) ?_
          refine sA_aald (n := 12) dd_X8_firstBarring_67 (by decide) (by decide) (by decide) gs_s1 (by omega) (by decide) ?_
          have g19 := gs_ring_at (k := b.toNat) (by omega)
          refine sA_getr (ci := 3) (j := 0) (q := (RX3, TX3, 3)) dd_X8_firstBarring_68 rfl (by decide) fl_X8_105 (Nat.lt_of_succ_lt g19.1) g19.2.1 rfl ?_
          refine sA_callV (y2 := m_X4_isOneWith) (n2 := 1) (d2 := 2) (a := (54 + 3 * p.toNat + 1)) (ci := 4) (q := (RX4, TX4, 2)) (as := [.ref (54 + 3 * b.toNat + 1)]) (rest := []) dd_X8_firstBarring_71 ok_X4_isOneWith ml_X8_131 rfl rfl (Nat.lt_of_succ_lt (gs_ring_at (k := p.toNat) (show p.toNat < 12 by omega)).2.2.1.1) (gs_ring_at (k := p.toNat) (show p.toNat < 12 by omega)).2.2.1.2.1 rfl rfl (Nat.le_of_ble_eq_true rfl) (by decide) (c_X4_isOneWith hI1 (gs_ring_at (k := p.toNat) (show p.toNat < 12 by omega)).2.2.1 g19.2.2.1) (fun r20 F21 A22 h23 => ?_)
          obtain ⟨z26, e25, e27, e28, x24⟩ := h23
          subst e25 e27 e28
          show sA _ _ _ 74 _ [gs_iv z26] _ _
          refine sA_if_ne (tgt := 98) dd_X8_firstBarring_74 (by decide) (by omega) (fun q29 => ?_) (fun q29 => ?_)
          · skip
            refine sA_iload dd_X8_firstBarring_98 (.head _) ?_
            refine sA_iret (z := b) dd_X8_firstBarring_100 rfl ?_
            exact ⟨_, rfl, hI1, hf1, by omega⟩
          · skip
            refine sA_aload_n dd_X8_firstBarring_77 rfl (.tail _ (.head _)) ?_
            refine sA_getr (ci := 8) (j := 4) (q := (RX8, TX8, 13)) dd_X8_firstBarring_78 rfl (by decide) fl_X8_40 (by decide) gs_s0 rfl ?_
            refine sA_aload_n dd_X8_firstBarring_81 rfl (.tail _ (.tail _ (.tail _ (.head _)))) ?_
            refine sA_aload_n dd_X8_firstBarring_82 rfl (.tail _ (.head _)) ?_
            refine sA_getr (ci := 8) (j := 0) (q := (RX8, TX8, 13)) dd_X8_firstBarring_83 rfl (by decide) fl_X8_11 (by decide) gs_s0 rfl ?_
            refine sA_iload dd_X8_firstBarring_86 (.head _) ?_
            refine sA_aald (n := 12) dd_X8_firstBarring_88 (by decide) (by decide) (by decide) gs_s1 (by omega) (by decide) ?_
            have g30 := gs_ring_at (k := b.toNat) (by omega)
            refine sA_getr (ci := 3) (j := 0) (q := (RX3, TX3, 3)) dd_X8_firstBarring_89 rfl (by decide) fl_X8_105 (Nat.lt_of_succ_lt g30.1) g30.2.1 rfl ?_
            refine sA_callV (y2 := m_X1_between) (n2 := 2) (d2 := 5) (a := 12) (ci := 1) (q := (RX1, TX1, 1)) (as := [.ref (54 + 3 * p.toNat + 1), .ref (54 + 3 * b.toNat + 1)]) (rest := []) dd_X8_firstBarring_92 ok_X1_between ml_X8_127 rfl rfl (by decide) gs_s12 rfl rfl (Nat.le_of_ble_eq_true rfl) (by decide) (c_X1_between hI1 (gs_ring_at (k := p.toNat) (show p.toNat < 12 by omega)).2.2.1 g30.2.2.1) (fun r31 F32 A33 h34 => ?_)
            obtain ⟨z37, e36, I38, f39, x35⟩ := h34
            subst e36
            have f40 := gs_fr_tr hf1 f39 (fun b j h => by first | exact False.elim h | omega | (dsimp only at h ⊢; omega)) (fun b h => by first | exact False.elim h | omega | (dsimp only at h ⊢; omega))
            show sA _ _ _ 95 _ [gs_iv z37] _ _
            refine sA_if_eq (tgt := 101) dd_X8_firstBarring_95 (by decide) (by omega) (fun q41 => ?_) (fun q41 => ?_)
            · skip
              refine sA_iinc (lv' := [(4, gs_iv (b + 1)), (0, .ref 0), (1, gs_iv e), (3, .ref (54 + 3 * p.toNat + 1))]) dd_X8_firstBarring_101 (.head _) (by decide) rfl ?_
              refine sA_goto (tgt := 29) dd_X8_firstBarring_104 (by decide) ?_
              refine sA_sub (lv2 := [(4, gs_iv (b + 1)), (0, .ref 0), (1, gs_iv e), (3, .ref (54 + 3 * p.toNat + 1))]) (List.forall_mem_cons.mpr ⟨(.head _), (List.forall_mem_cons.mpr ⟨(.tail _ (.head _)), (List.forall_mem_cons.mpr ⟨(.tail _ (.tail _ (.head _))), (List.forall_mem_cons.mpr ⟨(.tail _ (.tail _ (.tail _ (.head _)))), (fun _ h => absurd h List.not_mem_nil)⟩)⟩)⟩)⟩) ?_
              exact ih (b + 1) F32 A33 I38 f40 (by omega) (by omega)
            · skip
              refine sA_iload dd_X8_firstBarring_98 (.head _) ?_
              refine sA_iret (z := b) dd_X8_firstBarring_100 rfl ?_
              exact ⟨_, rfl, I38, f40, by omega⟩
theorem c_X8_firstBarring {e p : Int} {F A : gs_F} (hI : gs_I F A) (he : -2147483648 ≤ e ∧ e ≤ 2147483647) (hp : 0 ≤ p ∧ p < 12) : sC m_X8_firstBarring 6 [.ref 0, gs_iv e, gs_iv p] F A (fun rv F' A' => ∃ z : Int, rv = some (gs_iv z) ∧ gs_I F' A' ∧ gs_fr (fun c j => c = 13 ∧ j = 1) (fun c => c = 14) F A F' A' ∧ (-1 ≤ z ∧ z ≤ 12)) := by
  refine sC_of ok_X8_firstBarring.1 (Nat.le_of_ble_eq_true rfl) ?_
  show sA _ _ _ 0 [(0, .ref 0), (1, gs_iv e), (2, gs_iv p)] [] F A
  have hf : gs_fr (fun c j => c = 13 ∧ j = 1) (fun c => c = 14) F A F A := gs_fr_refl _ _ _ _
  refine sA_aload_n dd_X8_firstBarring_0 rfl (.head _) ?_
  refine sA_getr (ci := 8) (j := 0) (q := (RX8, TX8, 13)) dd_X8_firstBarring_1 rfl (by decide) fl_X8_11 (by decide) gs_s0 rfl ?_
  refine sA_iload_n dd_X8_firstBarring_4 rfl (.tail _ (.tail _ (.head _))) ?_
  refine sA_aald (n := 12) dd_X8_firstBarring_5 (by decide) (by decide) (by decide) gs_s1 (by omega) (by decide) ?_
  have g42 := gs_ring_at (k := p.toNat) (by omega)
  refine sA_callV (y2 := m_X3_isSimple) (n2 := 0) (d2 := 1) (a := (54 + 3 * p.toNat)) (ci := 3) (q := (RX3, TX3, 3)) (as := []) (rest := []) dd_X8_firstBarring_6 ok_X3_isSimple ml_X8_119 rfl rfl (Nat.lt_of_succ_lt g42.1) g42.2.1 rfl rfl (Nat.le_of_ble_eq_true rfl) (by decide) (c_X3_isSimple hI g42) (fun r43 F44 A45 h46 => ?_)
  obtain ⟨z49, e48, e50, e51, x47⟩ := h46
  subst e48 e50 e51
  show sA _ _ _ 9 _ [gs_iv z49] _ _
  refine sA_if_ne (tgt := 14) dd_X8_firstBarring_9 (by decide) (by omega) (fun q52 => ?_) (fun q52 => ?_)
  · skip
    refine sA_aload_n dd_X8_firstBarring_14 rfl (.head _) ?_
    refine sA_getr (ci := 8) (j := 0) (q := (RX8, TX8, 13)) dd_X8_firstBarring_15 rfl (by decide) fl_X8_11 (by decide) gs_s0 rfl ?_
    refine sA_iload_n dd_X8_firstBarring_18 rfl (.tail _ (.tail _ (.head _))) ?_
    refine sA_aald (n := 12) dd_X8_firstBarring_19 (by decide) (by decide) (by decide) gs_s1 (by omega) (by decide) ?_
    have g53 := gs_ring_at (k := p.toNat) (by omega)
    refine sA_getr (ci := 3) (j := 0) (q := (RX3, TX3, 3)) dd_X8_firstBarring_20 rfl (by decide) fl_X8_105 (Nat.lt_of_succ_lt g53.1) g53.2.1 rfl ?_
    refine sA_astore_n (lv' := [(3, .ref (54 + 3 * p.toNat + 1)), (0, .ref 0), (1, gs_iv e), (2, gs_iv p)]) dd_X8_firstBarring_23 rfl (by decide) rfl ?_
    refine sA_iload_n dd_X8_firstBarring_24 rfl (.tail _ (.tail _ (.tail _ (.head _)))) ?_
    refine sA_iconst (z := 1) dd_X8_firstBarring_25 ?_
    refine sA_iadd dd_X8_firstBarring_26 ?_
    refine sA_istore (lv' := [(4, gs_iv (p + 1)), (3, .ref (54 + 3 * p.toNat + 1)), (0, .ref 0), (1, gs_iv e), (2, gs_iv p)]) dd_X8_firstBarring_27 (by decide) rfl ?_
    refine sA_sub (lv2 := [(4, gs_iv (p + 1)), (0, .ref 0), (1, gs_iv e), (3, .ref (54 + 3 * p.toNat + 1))]) (List.forall_mem_cons.mpr ⟨(.head _), (List.forall_mem_cons.mpr ⟨(.tail _ (.tail _ (.head _))), (List.forall_mem_cons.mpr ⟨(.tail _ (.tail _ (.tail _ (.head _)))), (List.forall_mem_cons.mpr ⟨(.tail _ (.head _)), (fun _ h => absurd h List.not_mem_nil)⟩)⟩)⟩)⟩) ?_
    exact (k_X8_firstBarring hI he hp (12 - (p + 1) : Int).toNat.succ) (p + 1) F A hI hf (by omega) (by omega)
  · skip
    refine sA_iload_n dd_X8_firstBarring_12 rfl (.tail _ (.tail _ (.head _))) ?_
    refine sA_iret (z := p) dd_X8_firstBarring_13 rfl ?_
    exact ⟨_, rfl, hI, hf, by omega⟩
theorem dd_X8_heap_0 : decode cX8_heap 0 = .ok (.iload_n 1, 1) := by decide +kernel
theorem dd_X8_heap_1 : decode cX8_heap 1 = .ok (.ifCond .lt 12, 3) := by decide +kernel
theorem dd_X8_heap_4 : decode cX8_heap 4 = .ok (.iload_n 1, 1) := by decide +kernel
theorem dd_X8_heap_5 : decode cX8_heap 5 = .ok (.aload_n 0, 1) := by decide +kernel
theorem dd_X8_heap_6 : decode cX8_heap 6 = .ok (.getfield 94, 3) := by decide +kernel
theorem dd_X8_heap_9 : decode cX8_heap 9 = .ok (.ishr, 1) := by decide +kernel
theorem dd_X8_heap_10 : decode cX8_heap 10 = .ok (.ifCond .eq 7, 3) := by decide +kernel
theorem dd_X8_heap_13 : decode cX8_heap 13 = .ok (.sipush (-1001), 3) := by decide +kernel
theorem dd_X8_heap_16 : decode cX8_heap 16 = .ok (.ireturn, 1) := by decide +kernel
theorem dd_X8_heap_17 : decode cX8_heap 17 = .ok (.iconst 0, 1) := by decide +kernel
theorem dd_X8_heap_18 : decode cX8_heap 18 = .ok (.istore_n 2, 1) := by decide +kernel
theorem dd_X8_heap_19 : decode cX8_heap 19 = .ok (.iload_n 2, 1) := by decide +kernel
theorem dd_X8_heap_20 : decode cX8_heap 20 = .ok (.aload_n 0, 1) := by decide +kernel
theorem dd_X8_heap_21 : decode cX8_heap 21 = .ok (.getfield 94, 3) := by decide +kernel
theorem dd_X8_heap_24 : decode cX8_heap 24 = .ok (.if_icmp .ge 36, 3) := by decide +kernel
theorem dd_X8_heap_27 : decode cX8_heap 27 = .ok (.iload_n 1, 1) := by decide +kernel
theorem dd_X8_heap_28 : decode cX8_heap 28 = .ok (.iload_n 2, 1) := by decide +kernel
theorem dd_X8_heap_29 : decode cX8_heap 29 = .ok (.ishr, 1) := by decide +kernel
theorem dd_X8_heap_30 : decode cX8_heap 30 = .ok (.iconst 1, 1) := by decide +kernel
theorem dd_X8_heap_31 : decode cX8_heap 31 = .ok (.iand, 1) := by decide +kernel
theorem dd_X8_heap_32 : decode cX8_heap 32 = .ok (.ifCond .eq 22, 3) := by decide +kernel
theorem dd_X8_heap_35 : decode cX8_heap 35 = .ok (.aload_n 0, 1) := by decide +kernel
theorem dd_X8_heap_36 : decode cX8_heap 36 = .ok (.iload_n 1, 1) := by decide +kernel
theorem dd_X8_heap_37 : decode cX8_heap 37 = .ok (.iload_n 2, 1) := by decide +kernel
theorem dd_X8_heap_38 : decode cX8_heap 38 = .ok (.invokevirtual 135, 3) := by decide +kernel
theorem dd_X8_heap_41 : decode cX8_heap 41 = .ok (.istore_n 3, 1) := by decide +kernel
theorem dd_X8_heap_42 : decode cX8_heap 42 = .ok (.iload_n 3, 1) := by decide +kernel
theorem dd_X8_heap_43 : decode cX8_heap 43 = .ok (.iconst (-1), 1) := by decide +kernel
theorem dd_X8_heap_44 : decode cX8_heap 44 = .ok (.if_icmp .eq 10, 3) := by decide +kernel
theorem dd_X8_heap_47 : decode cX8_heap 47 = .ok (.bipush 13, 2) := by decide +kernel
theorem dd_X8_heap_49 : decode cX8_heap 49 = .ok (.iload_n 2, 1) := by decide +kernel
theorem dd_X8_heap_50 : decode cX8_heap 50 = .ok (.imul, 1) := by decide +kernel
theorem dd_X8_heap_51 : decode cX8_heap 51 = .ok (.iload_n 3, 1) := by decide +kernel
theorem dd_X8_heap_52 : decode cX8_heap 52 = .ok (.iadd, 1) := by decide +kernel
theorem dd_X8_heap_53 : decode cX8_heap 53 = .ok (.ireturn, 1) := by decide +kernel
theorem dd_X8_heap_54 : decode cX8_heap 54 = .ok (.iinc 2 1, 3) := by decide +kernel
theorem dd_X8_heap_57 : decode cX8_heap 57 = .ok (.goto (-38), 3) := by decide +kernel
theorem dd_X8_heap_60 : decode cX8_heap 60 = .ok (.iconst (-1), 1) := by decide +kernel
theorem dd_X8_heap_61 : decode cX8_heap 61 = .ok (.ireturn, 1) := by decide +kernel
theorem ml_X8_135 : Cond.methodLink RX8 135 m_X8_firstBarring.1 ∈ am_tbl := ri_lw_in (pl := 495) (by decide +kernel)
theorem ok_X8_heap : am_okM m_X8_heap 1 ∧ Cond.instanceMethod m_X8_heap.1 ∈ am_tbl ∧ Cond.selects m_X8_heap.1.cls m_X8_heap.1 m_X8_heap.1 ∈ am_tbl := ri_mk1 494 82 492 493 (by decide +kernel)
theorem k_X8_heap {e : Int} {F A : gs_F} (hI : gs_I F A) (he : -2147483648 ≤ e ∧ e ≤ 2147483647) : ∀ nN : Nat, (∀ (p : Int)  (F1 A1 : gs_F), gs_I F1 A1 → gs_fr (fun c j => c = 13 ∧ j = 1) (fun c => c = 14) F A F1 A1 → 0 ≤ p ∧ p ≤ F1 0 12 → F1 0 12 - p < (nN : Int) → sA m_X8_heap 7 (fun rv F' A' => ∃ z : Int, rv = some (gs_iv z) ∧ gs_I F' A' ∧ gs_fr (fun c j => c = 13 ∧ j = 1) (fun c => c = 14) F A F' A' ∧ (True)) 19 [(2, gs_iv p), (0, .ref 0), (1, gs_iv e)] [] F1 A1) := by
  intro nN
  induction nN with
  | zero =>
    exact fun a0 a1 a2 a3 a4 i0 hm => by exfalso; omega
  | succ nN ih =>
    intro p F1 A1 hI1 hf1 i0 hm
    have b1 : (0 : Int) ≤ F1 0 12 ∧ F1 0 12 ≤ 12 := hI1.1 0 12
    refine sA_iload_n dd_X8_heap_19 rfl (.head _) ?_
    refine sA_aload_n dd_X8_heap_20 rfl (.tail _ (.head _)) ?_
    refine sA_geti (ci := 8) (j := 12) (q := (RX8, TX8, 13)) dd_X8_heap_21 rfl (by decide) fl_X8_94 (by decide) gs_s0 rfl ?_
    refine sA_icmp_ge (tgt := 60) dd_X8_heap_24 (by decide) (by omega) (by omega) (fun q2 => ?_) (fun q2 => ?_)
    · skip
      refine sA_iconst (z := (-1)) dd_X8_heap_60 ?_
      refine sA_iret (z := -1) dd_X8_heap_61 rfl ?_
      exact ⟨_, rfl, hI1, hf1, trivial⟩
    · skip
      refine sA_iload_n dd_X8_heap_27 rfl (.tail _ (.tail _ (.head _))) ?_
      refine sA_iload_n dd_X8_heap_28 rfl (.head _) ?_
      refine sA_ishr dd_X8_heap_29 ?_
      have b3 := gs_t_rng (Int32.ofInt e >>> (Int32.ofInt p &&& 31))
      generalize gs_t (Int32.ofInt e >>> (Int32.ofInt p &&& 31)) = w4 at b3 ⊢
      refine sA_iconst (z := 1) dd_X8_heap_30 ?_
      refine sA_iand dd_X8_heap_31 ?_
      have b5 := gs_t_rng (Int32.ofInt w4 &&& Int32.ofInt 1)
      generalize gs_t (Int32.ofInt w4 &&& Int32.ofInt 1) = w6 at b5 ⊢
      refine sA_if_eq (tgt := 54) dd_X8_heap_32 (by decide) (by omega) (fun q7 => ?_) (fun q7 => ?_)
      · skip
        refine sA_iinc (lv' := [(2, gs_iv (p + 1)), (0, .ref 0), (1, gs_iv e)]) dd_X8_heap_54 (.head _) (by decide) rfl ?_
        refine sA_goto (tgt := 19) dd_X8_heap_57 (by decide) ?_
        refine sA_sub (lv2 := [(2, gs_iv (p + 1)), (0, .ref 0), (1, gs_iv e)]) (List.forall_mem_cons.mpr ⟨(.head _), (List.forall_mem_cons.mpr ⟨(.tail _ (.head _)), (List.forall_mem_cons.mpr ⟨(.tail _ (.tail _ (.head _))), (fun _ h => absurd h List.not_mem_nil)⟩)⟩)⟩) ?_
        exact ih (p + 1) F1 A1 hI1 hf1 (by omega) (by omega)
      · skip
        refine sA_aload_n dd_X8_heap_35 rfl (.tail _ (.head _)) ?_
        refine sA_iload_n dd_X8_heap_36 rfl (.tail _ (.tail _ (.head _))) ?_
        refine sA_iload_n dd_X8_heap_37 rfl (.head _) ?_
        refine sA_callV (y2 := m_X8_firstBarring) (n2 := 2) (d2 := 6) (a := 0) (ci := 8) (q := (RX8, TX8, 13)) (as := [gs_iv e, gs_iv p]) (rest := []) dd_X8_heap_38 ok_X8_firstBarring ml_X8_135 rfl rfl (by decide) gs_s0 rfl rfl (Nat.le_of_ble_eq_true rfl) (by decide) (c_X8_firstBarring hI1 (by omega) (by omega)) (fun r8 F9 A10 h11 => ?_)
        obtain ⟨z14, e13, I15, f16, x12⟩ := h11
        subst e13
        have v17 : F9 0 12 = F1 0 12 := f16.1 0 12 (by first | exact id | omega | (dsimp only; omega) | (dsimp only))
        have f18 := gs_fr_tr hf1 f16 (fun b j h => by first | exact False.elim h | omega | (dsimp only at h ⊢; omega)) (fun b h => by first | exact False.elim h | omega | (dsimp only at h ⊢; omega))
        show sA _ _ _ 41 _ [gs_iv z14] _ _
        refine sA_istore_n (lv' := [(3, gs_iv z14), (2, gs_iv p), (0, .ref 0), (1, gs_iv e)]) dd_X8_heap_41 rfl (by decide) rfl ?_
        refine sA_iload_n dd_X8_heap_42 rfl (.head _) ?_
        refine sA_iconst (z := (-1)) dd_X8_heap_43 ?_
        refine sA_icmp_eq (tgt := 54) dd_X8_heap_44 (by decide) (by omega) (by omega) (fun q19 => ?_) (fun q19 => ?_)
        · skip
          refine sA_iinc (lv' := [(2, gs_iv (p + 1)), (3, gs_iv z14), (0, .ref 0), (1, gs_iv e)]) dd_X8_heap_54 (.tail _ (.head _)) (by decide) rfl ?_
          refine sA_goto (tgt := 19) dd_X8_heap_57 (by decide) ?_
          have b20 : (0 : Int) ≤ F9 0 12 ∧ F9 0 12 ≤ 12 := I15.1 0 12
          refine sA_sub (lv2 := [(2, gs_iv (p + 1)), (0, .ref 0), (1, gs_iv e)]) (List.forall_mem_cons.mpr ⟨(.head _), (List.forall_mem_cons.mpr ⟨(.tail _ (.tail _ (.head _))), (List.forall_mem_cons.mpr ⟨(.tail _ (.tail _ (.tail _ (.head _)))), (fun _ h => absurd h List.not_mem_nil)⟩)⟩)⟩) ?_
          exact ih (p + 1) F9 A10 I15 f18 (by omega) (by omega)
        · skip
          refine sA_bipush (z := 13) dd_X8_heap_47 (by decide) ?_
          refine sA_iload_n dd_X8_heap_49 rfl (.tail _ (.head _)) ?_
          refine sA_imul dd_X8_heap_50 ?_
          refine sA_iload_n dd_X8_heap_51 rfl (.head _) ?_
          refine sA_iadd dd_X8_heap_52 ?_
          refine sA_iret (z := (13 * p) + z14) dd_X8_heap_53 rfl ?_
          exact ⟨_, rfl, I15, f18, trivial⟩
theorem c_X8_heap {e : Int} {F A : gs_F} (hI : gs_I F A) (he : -2147483648 ≤ e ∧ e ≤ 2147483647) : sC m_X8_heap 7 [.ref 0, gs_iv e] F A (fun rv F' A' => ∃ z : Int, rv = some (gs_iv z) ∧ gs_I F' A' ∧ gs_fr (fun c j => c = 13 ∧ j = 1) (fun c => c = 14) F A F' A' ∧ (True)) := by
  refine sC_of ok_X8_heap.1 (Nat.le_of_ble_eq_true rfl) ?_
  show sA _ _ _ 0 [(0, .ref 0), (1, gs_iv e)] [] F A
  have hf : gs_fr (fun c j => c = 13 ∧ j = 1) (fun c => c = 14) F A F A := gs_fr_refl _ _ _ _
  have b21 : (0 : Int) ≤ F 0 12 ∧ F 0 12 ≤ 12 := hI.1 0 12
  refine sA_iload_n dd_X8_heap_0 rfl (.tail _ (.head _)) ?_
  refine sA_if_lt (tgt := 13) dd_X8_heap_1 (by decide) (by omega) (fun q22 => ?_) (fun q22 => ?_)
  · skip
    refine sA_sipush (z := (-1001)) dd_X8_heap_13 (by decide) ?_
    refine sA_iret (z := -1001) dd_X8_heap_16 rfl ?_
    exact ⟨_, rfl, hI, hf, trivial⟩
  · skip
    refine sA_iload_n dd_X8_heap_4 rfl (.tail _ (.head _)) ?_
    refine sA_aload_n dd_X8_heap_5 rfl (.head _) ?_
    refine sA_geti (ci := 8) (j := 12) (q := (RX8, TX8, 13)) dd_X8_heap_6 rfl (by decide) fl_X8_94 (by decide) gs_s0 rfl ?_
    refine sA_ishr dd_X8_heap_9 ?_
    have b23 := gs_t_rng (Int32.ofInt e >>> (Int32.ofInt (F 0 12) &&& 31))
    generalize gs_t (Int32.ofInt e >>> (Int32.ofInt (F 0 12) &&& 31)) = w24 at b23 ⊢
    refine sA_if_eq (tgt := 17) dd_X8_heap_10 (by decide) (by omega) (fun q25 => ?_) (fun q25 => ?_)
    · skip
      refine sA_iconst (z := 0) dd_X8_heap_17 ?_
      refine sA_istore_n (lv' := [(2, gs_iv 0), (0, .ref 0), (1, gs_iv e)]) dd_X8_heap_18 rfl (by decide) rfl ?_
      refine sA_sub (lv2 := [(2, gs_iv 0), (0, .ref 0), (1, gs_iv e)]) (List.forall_mem_cons.mpr ⟨(.head _), (List.forall_mem_cons.mpr ⟨(.tail _ (.head _)), (List.forall_mem_cons.mpr ⟨(.tail _ (.tail _ (.head _))), (fun _ h => absurd h List.not_mem_nil)⟩)⟩)⟩) ?_
      exact (k_X8_heap hI he (F 0 12 - 0 : Int).toNat.succ) 0 F A hI hf (by omega) (by omega)
    · skip
      refine sA_sipush (z := (-1001)) dd_X8_heap_13 (by decide) ?_
      refine sA_iret (z := -1001) dd_X8_heap_16 rfl ?_
      exact ⟨_, rfl, hI, hf, trivial⟩
theorem dd_X8_drop_0 : decode cX8_drop 0 = .ok (.aload_n 0, 1) := by decide +kernel
theorem dd_X8_drop_1 : decode cX8_drop 1 = .ok (.getfield 94, 3) := by decide +kernel
theorem dd_X8_drop_4 : decode cX8_drop 4 = .ok (.ifCond .ne 7, 3) := by decide +kernel
theorem dd_X8_drop_7 : decode cX8_drop 7 = .ok (.sipush (-1003), 3) := by decide +kernel
theorem dd_X8_drop_10 : decode cX8_drop 10 = .ok (.ireturn, 1) := by decide +kernel
theorem dd_X8_drop_11 : decode cX8_drop 11 = .ok (.aload_n 0, 1) := by decide +kernel
theorem dd_X8_drop_12 : decode cX8_drop 12 = .ok (.dup, 1) := by decide +kernel
theorem dd_X8_drop_13 : decode cX8_drop 13 = .ok (.getfield 94, 3) := by decide +kernel
theorem dd_X8_drop_16 : decode cX8_drop 16 = .ok (.iconst 1, 1) := by decide +kernel
theorem dd_X8_drop_17 : decode cX8_drop 17 = .ok (.isub, 1) := by decide +kernel
theorem dd_X8_drop_18 : decode cX8_drop 18 = .ok (.putfield 94, 3) := by decide +kernel
theorem dd_X8_drop_21 : decode cX8_drop 21 = .ok (.aload_n 0, 1) := by decide +kernel
theorem dd_X8_drop_22 : decode cX8_drop 22 = .ok (.getfield 94, 3) := by decide +kernel
theorem dd_X8_drop_25 : decode cX8_drop 25 = .ok (.ireturn, 1) := by decide +kernel
theorem ok_X8_drop : am_okM m_X8_drop 0 ∧ Cond.instanceMethod m_X8_drop.1 ∈ am_tbl ∧ Cond.selects m_X8_drop.1.cls m_X8_drop.1 m_X8_drop.1 ∈ am_tbl := ri_mk1 502 82 500 501 (by decide +kernel)
theorem c_X8_drop  {F A : gs_F} (hI : gs_I F A)  : sC m_X8_drop 1 [.ref 0] F A (fun rv F' A' => ∃ z : Int, rv = some (gs_iv z) ∧ gs_I F' A' ∧ gs_fr (fun c j => c = 0 ∧ j = 12) (fun _ => False) F A F' A' ∧ ((F 0 12 = 0 ∧ z = -1003 ∧ F' 0 12 = 0) ∨ (0 < F 0 12 ∧ F' 0 12 = F 0 12 - 1 ∧ z = F 0 12 - 1))) := by
  refine sC_of ok_X8_drop.1 (Nat.le_of_ble_eq_true rfl) ?_
  show sA _ _ _ 0 [(0, .ref 0)] [] F A
  have hf : gs_fr (fun c j => c = 0 ∧ j = 12) (fun _ => False) F A F A := gs_fr_refl _ _ _ _
  have b1 : (0 : Int) ≤ F 0 12 ∧ F 0 12 ≤ 12 := hI.1 0 12
  refine sA_aload_n dd_X8_drop_0 rfl (.head _) ?_
  refine sA_geti (ci := 8) (j := 12) (q := (RX8, TX8, 13)) dd_X8_drop_1 rfl (by decide) fl_X8_94 (by decide) gs_s0 rfl ?_
  refine sA_if_ne (tgt := 11) dd_X8_drop_4 (by decide) (by omega) (fun q2 => ?_) (fun q2 => ?_)
  · skip
    refine sA_aload_n dd_X8_drop_11 rfl (.head _) ?_
    refine sA_dup dd_X8_drop_12 rfl ?_
    refine sA_geti (ci := 8) (j := 12) (q := (RX8, TX8, 13)) dd_X8_drop_13 rfl (by decide) fl_X8_94 (by decide) gs_s0 rfl ?_
    refine sA_iconst (z := 1) dd_X8_drop_16 ?_
    refine sA_isub dd_X8_drop_17 ?_
    refine sA_put (ci := 8) (j := 12) (q := (RX8, TX8, 13)) (ty := .int) dd_X8_drop_18 rfl (by decide) fl_X8_94 rfl (tyX8_ok 12 (by decide)) rfl rfl (by decide) gs_s0 rfl ?_
    have I4 : gs_I (gs_up F 0 12 ((F 0 12) - 1)) A := gs_I_put hI (show (0 : Int) ≤ (F 0 12) - 1 ∧ (F 0 12) - 1 ≤ 12 by omega)
    have f5 := gs_fr_put hf (a := 0) (z := (F 0 12) - 1) (j := 12) (by first | omega | (dsimp only; omega) | (dsimp only))
    have v6 : gs_up F 0 12 ((F 0 12) - 1) 0 12 = (F 0 12) - 1 := gs_up_self _ _ _ _
    generalize gs_up F 0 12 ((F 0 12) - 1) = F3 at I4 f5 v6 ⊢
    refine sA_aload_n dd_X8_drop_21 rfl (.head _) ?_
    refine sA_geti (ci := 8) (j := 12) (q := (RX8, TX8, 13)) dd_X8_drop_22 rfl (by decide) fl_X8_94 (by decide) gs_s0 rfl ?_
    have b7 : (0 : Int) ≤ F3 0 12 ∧ F3 0 12 ≤ 12 := I4.1 0 12
    refine sA_iret (z := F3 0 12) dd_X8_drop_25 rfl ?_
    exact ⟨_, rfl, I4, f5, by omega⟩
  · skip
    refine sA_sipush (z := (-1003)) dd_X8_drop_7 (by decide) ?_
    refine sA_iret (z := -1003) dd_X8_drop_10 rfl ?_
    exact ⟨_, rfl, hI, hf, by omega⟩
theorem dd_X8_count_0 : decode cX8_count 0 = .ok (.iload_n 1, 1) := by decide +kernel
theorem dd_X8_count_1 : decode cX8_count 1 = .ok (.tableswitch 69 0 4 #[35, 40, 45, 53, 61], 35) := by decide +kernel
theorem dd_X8_count_36 : decode cX8_count 36 = .ok (.aload_n 0, 1) := by decide +kernel
theorem dd_X8_count_37 : decode cX8_count 37 = .ok (.getfield 84, 3) := by decide +kernel
theorem dd_X8_count_40 : decode cX8_count 40 = .ok (.ireturn, 1) := by decide +kernel
theorem dd_X8_count_41 : decode cX8_count 41 = .ok (.aload_n 0, 1) := by decide +kernel
theorem dd_X8_count_42 : decode cX8_count 42 = .ok (.getfield 94, 3) := by decide +kernel
theorem dd_X8_count_45 : decode cX8_count 45 = .ok (.ireturn, 1) := by decide +kernel
theorem dd_X8_count_46 : decode cX8_count 46 = .ok (.aload_n 0, 1) := by decide +kernel
theorem dd_X8_count_47 : decode cX8_count 47 = .ok (.getfield 26, 3) := by decide +kernel
theorem dd_X8_count_50 : decode cX8_count 50 = .ok (.getfield 88, 3) := by decide +kernel
theorem dd_X8_count_53 : decode cX8_count 53 = .ok (.ireturn, 1) := by decide +kernel
theorem dd_X8_count_54 : decode cX8_count 54 = .ok (.aload_n 0, 1) := by decide +kernel
theorem dd_X8_count_55 : decode cX8_count 55 = .ok (.getfield 33, 3) := by decide +kernel
theorem dd_X8_count_58 : decode cX8_count 58 = .ok (.getfield 139, 3) := by decide +kernel
theorem dd_X8_count_61 : decode cX8_count 61 = .ok (.ireturn, 1) := by decide +kernel
theorem dd_X8_count_62 : decode cX8_count 62 = .ok (.aload_n 0, 1) := by decide +kernel
theorem dd_X8_count_63 : decode cX8_count 63 = .ok (.getfield 65, 3) := by decide +kernel
theorem dd_X8_count_66 : decode cX8_count 66 = .ok (.getfield 142, 3) := by decide +kernel
theorem dd_X8_count_69 : decode cX8_count 69 = .ok (.ireturn, 1) := by decide +kernel
theorem dd_X8_count_70 : decode cX8_count 70 = .ok (.sipush (-1002), 3) := by decide +kernel
theorem dd_X8_count_73 : decode cX8_count 73 = .ok (.ireturn, 1) := by decide +kernel
theorem fl_X8_142 : Cond.fieldLink RX8 142 (TX6 0).1 (TX6 0).2.1 (TX6 0).2.2.1 ∈ am_tbl := ri_lw_in (pl := 248) (by decide +kernel)
theorem fl_X8_65 : Cond.fieldLink RX8 65 (TX8 7).1 (TX8 7).2.1 (TX8 7).2.2.1 ∈ am_tbl := ri_lw_in (pl := 358) (by decide +kernel)
theorem ok_X8_count : am_okM m_X8_count 1 ∧ Cond.instanceMethod m_X8_count.1 ∈ am_tbl ∧ Cond.selects m_X8_count.1.cls m_X8_count.1 m_X8_count.1 ∈ am_tbl := ri_mk1 506 82 504 505 (by decide +kernel)
theorem c_X8_count {w : Int} {F A : gs_F} (hI : gs_I F A) (hw : -2147483648 ≤ w ∧ w ≤ 2147483647) : sC m_X8_count 1 [.ref 0, gs_iv w] F A (fun rv F' A' => ∃ z : Int, rv = some (gs_iv z) ∧ F = F' ∧ A = A' ∧ ((w = 0 ∧ z = F 0 11) ∨ (w = 1 ∧ z = F 0 12) ∨ (w = 2 ∧ z = F 3 1) ∨ (w = 3 ∧ z = F 5 0) ∨ (w = 4 ∧ z = F 43 0) ∨ ((w < 0 ∨ 4 < w) ∧ z = -1002))) := by
  refine sC_of ok_X8_count.1 (Nat.le_of_ble_eq_true rfl) ?_
  show sA _ _ _ 0 [(0, .ref 0), (1, gs_iv w)] [] F A
  refine sA_iload_n dd_X8_count_0 rfl (.tail _ (.head _)) ?_
  by_cases q1 : w = 0
  · refine sA_tblIn (off := 35) (tgt := 36) dd_X8_count_1 (by omega) (by omega) (by rw [q1]; rfl) (by decide) ?_
    refine sA_aload_n dd_X8_count_36 rfl (.head _) ?_
    refine sA_geti (ci := 8) (j := 11) (q := (RX8, TX8, 13)) dd_X8_count_37 rfl (by decide) fl_X8_84 (by decide) gs_s0 rfl ?_
    have b2 : (1 : Int) ≤ F 0 11 ∧ F 0 11 ≤ 3 := hI.1 0 11
    refine sA_iret (z := F 0 11) dd_X8_count_40 rfl ?_
    exact ⟨_, rfl, rfl, rfl, by omega⟩
  · skip
    by_cases q3 : w = 1
    · refine sA_tblIn (off := 40) (tgt := 41) dd_X8_count_1 (by omega) (by omega) (by rw [q3]; rfl) (by decide) ?_
      refine sA_aload_n dd_X8_count_41 rfl (.head _) ?_
      refine sA_geti (ci := 8) (j := 12) (q := (RX8, TX8, 13)) dd_X8_count_42 rfl (by decide) fl_X8_94 (by decide) gs_s0 rfl ?_
      have b4 : (0 : Int) ≤ F 0 12 ∧ F 0 12 ≤ 12 := hI.1 0 12
      refine sA_iret (z := F 0 12) dd_X8_count_45 rfl ?_
      exact ⟨_, rfl, rfl, rfl, by omega⟩
    · skip
      by_cases q5 : w = 2
      · refine sA_tblIn (off := 45) (tgt := 46) dd_X8_count_1 (by omega) (by omega) (by rw [q5]; rfl) (by decide) ?_
        refine sA_aload_n dd_X8_count_46 rfl (.head _) ?_
        refine sA_getr (ci := 8) (j := 2) (q := (RX8, TX8, 13)) dd_X8_count_47 rfl (by decide) fl_X8_26 (by decide) gs_s0 rfl ?_
        refine sA_geti (ci := 4) (j := 1) (q := (RX4, TX4, 2)) dd_X8_count_50 rfl (by decide) fl_X8_88 (Nat.lt_of_succ_lt gs_row_3.1) gs_row_3.2.1 rfl ?_
        have b6 := gs_row_sz gs_row_3 hI
        refine sA_iret (z := F 3 1) dd_X8_count_53 rfl ?_
        exact ⟨_, rfl, rfl, rfl, by omega⟩
      · skip
        by_cases q7 : w = 3
        · refine sA_tblIn (off := 53) (tgt := 54) dd_X8_count_1 (by omega) (by omega) (by rw [q7]; rfl) (by decide) ?_
          refine sA_aload_n dd_X8_count_54 rfl (.head _) ?_
          refine sA_getr (ci := 8) (j := 3) (q := (RX8, TX8, 13)) dd_X8_count_55 rfl (by decide) fl_X8_33 (by decide) gs_s0 rfl ?_
          refine sA_geti (ci := 7) (j := 0) (q := (RX7, TX7, 5)) dd_X8_count_58 rfl (by decide) fl_X8_139 (by decide) gs_s5 rfl ?_
          have b8 : (1 : Int) ≤ F 5 0 ∧ F 5 0 ≤ 8 := hI.1 5 0
          refine sA_iret (z := F 5 0) dd_X8_count_61 rfl ?_
          exact ⟨_, rfl, rfl, rfl, by omega⟩
        · skip
          by_cases q9 : w = 4
          · refine sA_tblIn (off := 61) (tgt := 62) dd_X8_count_1 (by omega) (by omega) (by rw [q9]; rfl) (by decide) ?_
            refine sA_aload_n dd_X8_count_62 rfl (.head _) ?_
            refine sA_getr (ci := 8) (j := 7) (q := (RX8, TX8, 13)) dd_X8_count_63 rfl (by decide) fl_X8_65 (by decide) gs_s0 rfl ?_
            refine sA_geti (ci := 6) (j := 0) (q := (RX6, TX6, 10)) dd_X8_count_66 rfl (by decide) fl_X8_142 (by decide) gs_s43 rfl ?_
            have b10 : (0 : Int) ≤ F 43 0 ∧ F 43 0 ≤ 120 := hI.1 43 0
            refine sA_iret (z := F 43 0) dd_X8_count_69 rfl ?_
            exact ⟨_, rfl, rfl, rfl, by omega⟩
          · skip
            refine sA_tblOut (tgt := 70) dd_X8_count_1 (by omega) (by omega) (by decide) ?_
            refine sA_sipush (z := (-1002)) dd_X8_count_70 (by decide) ?_
            refine sA_iret (z := -1002) dd_X8_count_73 rfl ?_
            exact ⟨_, rfl, rfl, rfl, by omega⟩
theorem dd_X8_feed_0 : decode cX8_feed 0 = .ok (.iload_n 1, 1) := by decide +kernel
theorem dd_X8_feed_1 : decode cX8_feed 1 = .ok (.iconst 1, 1) := by decide +kernel
theorem dd_X8_feed_2 : decode cX8_feed 2 = .ok (.if_icmp .lt 9, 3) := by decide +kernel
theorem dd_X8_feed_5 : decode cX8_feed 5 = .ok (.iload_n 1, 1) := by decide +kernel
theorem dd_X8_feed_6 : decode cX8_feed 6 = .ok (.bipush 8, 2) := by decide +kernel
theorem dd_X8_feed_8 : decode cX8_feed 8 = .ok (.if_icmp .le 7, 3) := by decide +kernel
theorem dd_X8_feed_11 : decode cX8_feed 11 = .ok (.sipush (-1002), 3) := by decide +kernel
theorem dd_X8_feed_14 : decode cX8_feed 14 = .ok (.ireturn, 1) := by decide +kernel
theorem dd_X8_feed_15 : decode cX8_feed 15 = .ok (.aload_n 0, 1) := by decide +kernel
theorem dd_X8_feed_16 : decode cX8_feed 16 = .ok (.getfield 65, 3) := by decide +kernel
theorem dd_X8_feed_19 : decode cX8_feed 19 = .ok (.getfield 142, 3) := by decide +kernel
theorem dd_X8_feed_22 : decode cX8_feed 22 = .ok (.iload_n 1, 1) := by decide +kernel
theorem dd_X8_feed_23 : decode cX8_feed 23 = .ok (.iadd, 1) := by decide +kernel
theorem dd_X8_feed_24 : decode cX8_feed 24 = .ok (.bipush 120, 2) := by decide +kernel
theorem dd_X8_feed_26 : decode cX8_feed 26 = .ok (.if_icmp .le 7, 3) := by decide +kernel
theorem dd_X8_feed_29 : decode cX8_feed 29 = .ok (.sipush (-1004), 3) := by decide +kernel
theorem dd_X8_feed_32 : decode cX8_feed 32 = .ok (.ireturn, 1) := by decide +kernel
theorem dd_X8_feed_33 : decode cX8_feed 33 = .ok (.iload_n 1, 1) := by decide +kernel
theorem dd_X8_feed_34 : decode cX8_feed 34 = .ok (.iconst 1, 1) := by decide +kernel
theorem dd_X8_feed_35 : decode cX8_feed 35 = .ok (.isub, 1) := by decide +kernel
theorem dd_X8_feed_36 : decode cX8_feed 36 = .ok (.istore 4, 2) := by decide +kernel
theorem dd_X8_feed_38 : decode cX8_feed 38 = .ok (.iload 4, 2) := by decide +kernel
theorem dd_X8_feed_40 : decode cX8_feed 40 = .ok (.ifCond .lt 28, 3) := by decide +kernel
theorem dd_X8_feed_43 : decode cX8_feed 43 = .ok (.aload_n 0, 1) := by decide +kernel
theorem dd_X8_feed_44 : decode cX8_feed 44 = .ok (.getfield 65, 3) := by decide +kernel
theorem dd_X8_feed_47 : decode cX8_feed 47 = .ok (.lload_n 2, 1) := by decide +kernel
theorem dd_X8_feed_48 : decode cX8_feed 48 = .ok (.bipush 8, 2) := by decide +kernel
theorem dd_X8_feed_50 : decode cX8_feed 50 = .ok (.iload 4, 2) := by decide +kernel
theorem dd_X8_feed_52 : decode cX8_feed 52 = .ok (.imul, 1) := by decide +kernel
theorem dd_X8_feed_53 : decode cX8_feed 53 = .ok (.lshr, 1) := by decide +kernel
theorem dd_X8_feed_54 : decode cX8_feed 54 = .ok (.ldc2_w 143, 3) := by decide +kernel
theorem dd_X8_feed_57 : decode cX8_feed 57 = .ok (.land, 1) := by decide +kernel
theorem dd_X8_feed_58 : decode cX8_feed 58 = .ok (.l2i, 1) := by decide +kernel
theorem dd_X8_feed_59 : decode cX8_feed 59 = .ok (.invokevirtual 145, 3) := by decide +kernel
theorem dd_X8_feed_62 : decode cX8_feed 62 = .ok (.iinc 4 (-1), 3) := by decide +kernel
theorem dd_X8_feed_65 : decode cX8_feed 65 = .ok (.goto (-27), 3) := by decide +kernel
theorem dd_X8_feed_68 : decode cX8_feed 68 = .ok (.aload_n 0, 1) := by decide +kernel
theorem dd_X8_feed_69 : decode cX8_feed 69 = .ok (.getfield 65, 3) := by decide +kernel
theorem dd_X8_feed_72 : decode cX8_feed 72 = .ok (.getfield 142, 3) := by decide +kernel
theorem dd_X8_feed_75 : decode cX8_feed 75 = .ok (.ireturn, 1) := by decide +kernel
theorem ml_X8_145 : Cond.methodLink RX8 145 m_X6_add.1 ∈ am_tbl := ri_lw_in (pl := 512) (by decide +kernel)
theorem ok_X8_feed : am_okM m_X8_feed 2 ∧ Cond.instanceMethod m_X8_feed.1 ∈ am_tbl ∧ Cond.selects m_X8_feed.1.cls m_X8_feed.1 m_X8_feed.1 ∈ am_tbl := ri_mk1 510 82 508 509 (by decide +kernel)
theorem k_X8_feed {n : Int} {v : Int64} {F A : gs_F} (hI : gs_I F A) (hn : -2147483648 ≤ n ∧ n ≤ 2147483647) : ∀ nN : Nat, (∀ (k : Int)  (F1 A1 : gs_F), gs_I F1 A1 → gs_fr (fun c j => c = 43 ∧ j = 0) (fun c => c = 46) F A F1 A1 → -1 ≤ k ∧ k ≤ 7 → 1 ≤ n ∧ n ≤ 8 ∧ F 43 0 + n ≤ 120 → F1 43 0 + k + 1 = F 43 0 + n → k + 1 < (nN : Int) → sA m_X8_feed 2 (fun rv F' A' => ∃ z : Int, rv = some (gs_iv z) ∧ gs_I F' A' ∧ gs_fr (fun c j => c = 43 ∧ j = 0) (fun c => c = 46) F A F' A' ∧ (((n < 1 ∨ 8 < n) ∧ z = -1002 ∧ F' 43 0 = F 43 0) ∨ (1 ≤ n ∧ n ≤ 8 ∧ 120 < F 43 0 + n ∧ z = -1004 ∧ F' 43 0 = F 43 0) ∨ (1 ≤ n ∧ n ≤ 8 ∧ F 43 0 + n ≤ 120 ∧ z = F 43 0 + n ∧ F' 43 0 = F 43 0 + n))) 38 [(4, gs_iv k), (0, .ref 0), (1, gs_iv n), (2, .long v)] [] F1 A1) := by
  intro nN
  induction nN with
  | zero =>
    exact fun a0 a1 a2 a3 a4 i0 i1 i2 hm => by exfalso; omega
  | succ nN ih =>
    intro k F1 A1 hI1 hf1 i0 i1 i2 hm
    have b1 : (0 : Int) ≤ F1 43 0 ∧ F1 43 0 ≤ 120 := hI1.1 43 0
    refine sA_iload dd_X8_feed_38 (.head _) ?_
    refine sA_if_lt (tgt := 68) dd_X8_feed_40 (by decide) (by omega) (fun q2 => ?_) (fun q2 => ?_)
    · skip
      refine sA_aload_n dd_X8_feed_68 rfl (.tail _ (.head _)) ?_
      refine sA_getr (ci := 8) (j := 7) (q := (RX8, TX8, 13)) dd_X8_feed_69 rfl (by decide) fl_X8_65 (by decide) gs_s0 rfl ?_
      refine sA_geti (ci := 6) (j := 0) (q := (RX6, TX6, 10)) dd_X8_feed_72 rfl (by decide) fl_X8_142 (by decide) gs_s43 rfl ?_
      refine sA_iret (z := F1 43 0) dd_X8_feed_75 rfl ?_
      exact ⟨_, rfl, hI1, hf1, by omega⟩
    · skip
      refine sA_aload_n dd_X8_feed_43 rfl (.tail _ (.head _)) ?_
      refine sA_getr (ci := 8) (j := 7) (q := (RX8, TX8, 13)) dd_X8_feed_44 rfl (by decide) fl_X8_65 (by decide) gs_s0 rfl ?_
      refine sA_lload_n dd_X8_feed_47 rfl (.tail _ (.tail _ (.tail _ (.head _)))) ?_
      refine sA_bipush (z := 8) dd_X8_feed_48 (by decide) ?_
      refine sA_iload dd_X8_feed_50 (.head _) ?_
      refine sA_imul dd_X8_feed_52 ?_
      refine sA_lshr dd_X8_feed_53 ?_
      refine sA_ldc2 (z := 255) dd_X8_feed_54 (ri_lw_in (pl := 511) (by decide +kernel)) ?_
      refine sA_land dd_X8_feed_57 ?_
      refine sA_l2i dd_X8_feed_58 ?_
      have b3 := gs_t_rng (((v >>> ((Int32.ofInt (8 * k)).toInt64 &&& 63)) &&& (Int64.ofInt 255)).toInt32)
      generalize gs_t (((v >>> ((Int32.ofInt (8 * k)).toInt64 &&& 63)) &&& (Int64.ofInt 255)).toInt32) = w4 at b3 ⊢
      refine sA_callV (y2 := m_X6_add) (n2 := 1) (d2 := 1) (a := 43) (ci := 6) (q := (RX6, TX6, 10)) (as := [gs_iv w4]) (rest := []) dd_X8_feed_59 ok_X6_add ml_X8_145 rfl rfl (by decide) gs_s43 rfl rfl (Nat.le_of_ble_eq_true rfl) (by decide) (c_X6_add hI1 (by omega)) (fun r5 F6 A7 h8 => ?_)
      obtain ⟨e10, I11, f12, x9⟩ := h8
      subst e10
      have f14 := gs_fr_tr hf1 f12 (fun b j h => by first | exact False.elim h | omega | (dsimp only at h ⊢; omega)) (fun b h => by first | exact False.elim h | omega | (dsimp only at h ⊢; omega))
      show sA _ _ _ 62 _ [] _ _
      refine sA_iinc (lv' := [(4, gs_iv (k + (-1))), (0, .ref 0), (1, gs_iv n), (2, .long v)]) dd_X8_feed_62 (.head _) (by decide) rfl ?_
      refine sA_goto (tgt := 38) dd_X8_feed_65 (by decide) ?_
      have b15 : (0 : Int) ≤ F6 43 0 ∧ F6 43 0 ≤ 120 := I11.1 43 0
      refine sA_sub (lv2 := [(4, gs_iv (k + (-1))), (0, .ref 0), (1, gs_iv n), (2, .long v)]) (List.forall_mem_cons.mpr ⟨(.head _), (List.forall_mem_cons.mpr ⟨(.tail _ (.head _)), (List.forall_mem_cons.mpr ⟨(.tail _ (.tail _ (.head _))), (List.forall_mem_cons.mpr ⟨(.tail _ (.tail _ (.tail _ (.head _)))), (fun _ h => absurd h List.not_mem_nil)⟩)⟩)⟩)⟩) ?_
      exact ih (k + (-1)) F6 A7 I11 f14 (by omega) (by omega) (by omega) (by omega)
theorem c_X8_feed {n : Int} {v : Int64} {F A : gs_F} (hI : gs_I F A) (hn : -2147483648 ≤ n ∧ n ≤ 2147483647) : sC m_X8_feed 2 [.ref 0, gs_iv n, .long v] F A (fun rv F' A' => ∃ z : Int, rv = some (gs_iv z) ∧ gs_I F' A' ∧ gs_fr (fun c j => c = 43 ∧ j = 0) (fun c => c = 46) F A F' A' ∧ (((n < 1 ∨ 8 < n) ∧ z = -1002 ∧ F' 43 0 = F 43 0) ∨ (1 ≤ n ∧ n ≤ 8 ∧ 120 < F 43 0 + n ∧ z = -1004 ∧ F' 43 0 = F 43 0) ∨ (1 ≤ n ∧ n ≤ 8 ∧ F 43 0 + n ≤ 120 ∧ z = F 43 0 + n ∧ F' 43 0 = F 43 0 + n))) := by
  refine sC_of ok_X8_feed.1 (Nat.le_of_ble_eq_true rfl) ?_
  show sA _ _ _ 0 [(0, .ref 0), (1, gs_iv n), (2, .long v)] [] F A
  have hf : gs_fr (fun c j => c = 43 ∧ j = 0) (fun c => c = 46) F A F A := gs_fr_refl _ _ _ _
  have b16 : (0 : Int) ≤ F 43 0 ∧ F 43 0 ≤ 120 := hI.1 43 0
  refine sA_iload_n dd_X8_feed_0 rfl (.tail _ (.head _)) ?_
  refine sA_iconst (z := 1) dd_X8_feed_1 ?_
  refine sA_icmp_lt (tgt := 11) dd_X8_feed_2 (by decide) (by omega) (by omega) (fun q17 => ?_) (fun q17 => ?_)
  · skip
    refine sA_sipush (z := (-1002)) dd_X8_feed_11 (by decide) ?_
    refine sA_iret (z := -1002) dd_X8_feed_14 rfl ?_
    exact ⟨_, rfl, hI, hf, by omega⟩
  · skip
    refine sA_iload_n dd_X8_feed_5 rfl (.tail _ (.head _)) ?_
    refine sA_bipush (z := 8) dd_X8_feed_6 (by decide) ?_
    refine sA_icmp_le (tgt := 15) dd_X8_feed_8 (by decide) (by omega) (by omega) (fun q18 => ?_) (fun q18 => ?_)
    · skip
      refine sA_aload_n dd_X8_feed_15 rfl (.head _) ?_
      refine sA_getr (ci := 8) (j := 7) (q := (RX8, TX8, 13)) dd_X8_feed_16 rfl (by decide) fl_X8_65 (by decide) gs_s0 rfl ?_
      refine sA_geti (ci := 6) (j := 0) (q := (RX6, TX6, 10)) dd_X8_feed_19 rfl (by decide) fl_X8_142 (by decide) gs_s43 rfl ?_
      refine sA_iload_n dd_X8_feed_22 rfl (.tail _ (.head _)) ?_
      refine sA_iadd dd_X8_feed_23 ?_
      refine sA_bipush (z := 120) dd_X8_feed_24 (by decide) ?_
      refine sA_icmp_le (tgt := 33) dd_X8_feed_26 (by decide) (by omega) (by omega) (fun q19 => ?_) (fun q19 => ?_)
      · skip
        refine sA_iload_n dd_X8_feed_33 rfl (.tail _ (.head _)) ?_
        refine sA_iconst (z := 1) dd_X8_feed_34 ?_
        refine sA_isub dd_X8_feed_35 ?_
        refine sA_istore (lv' := [(4, gs_iv (n - 1)), (0, .ref 0), (1, gs_iv n), (2, .long v)]) dd_X8_feed_36 (by decide) rfl ?_
        refine sA_sub (lv2 := [(4, gs_iv (n - 1)), (0, .ref 0), (1, gs_iv n), (2, .long v)]) (List.forall_mem_cons.mpr ⟨(.head _), (List.forall_mem_cons.mpr ⟨(.tail _ (.head _)), (List.forall_mem_cons.mpr ⟨(.tail _ (.tail _ (.head _))), (List.forall_mem_cons.mpr ⟨(.tail _ (.tail _ (.tail _ (.head _)))), (fun _ h => absurd h List.not_mem_nil)⟩)⟩)⟩)⟩) ?_
        exact (k_X8_feed hI hn ((n - 1) + 1 : Int).toNat.succ) (n - 1) F A hI hf (by omega) (by omega) (by omega) (by omega)
      · skip
        refine sA_sipush (z := (-1004)) dd_X8_feed_29 (by decide) ?_
        refine sA_iret (z := -1004) dd_X8_feed_32 rfl ?_
        exact ⟨_, rfl, hI, hf, by omega⟩
    · skip
      refine sA_sipush (z := (-1002)) dd_X8_feed_11 (by decide) ?_
      refine sA_iret (z := -1002) dd_X8_feed_14 rfl ?_
      exact ⟨_, rfl, hI, hf, by omega⟩
theorem dd_X8_read_0 : decode cX8_read 0 = .ok (.iload_n 1, 1) := by decide +kernel
theorem dd_X8_read_1 : decode cX8_read 1 = .ok (.invokestatic 148, 3) := by decide +kernel
theorem dd_X8_read_4 : decode cX8_read 4 = .ok (.ifCond .ne 7, 3) := by decide +kernel
theorem dd_X8_read_7 : decode cX8_read 7 = .ok (.sipush (-1001), 3) := by decide +kernel
theorem dd_X8_read_10 : decode cX8_read 10 = .ok (.ireturn, 1) := by decide +kernel
theorem dd_X8_read_11 : decode cX8_read 11 = .ok (.aload_n 0, 1) := by decide +kernel
theorem dd_X8_read_12 : decode cX8_read 12 = .ok (.getfield 65, 3) := by decide +kernel
theorem dd_X8_read_15 : decode cX8_read 15 = .ok (.aload_n 0, 1) := by decide +kernel
theorem dd_X8_read_16 : decode cX8_read 16 = .ok (.getfield 84, 3) := by decide +kernel
theorem dd_X8_read_19 : decode cX8_read 19 = .ok (.invokevirtual 151, 3) := by decide +kernel
theorem dd_X8_read_22 : decode cX8_read 22 = .ok (.istore_n 2, 1) := by decide +kernel
theorem dd_X8_read_23 : decode cX8_read 23 = .ok (.aload_n 0, 1) := by decide +kernel
theorem dd_X8_read_24 : decode cX8_read 24 = .ok (.getfield 65, 3) := by decide +kernel
theorem dd_X8_read_27 : decode cX8_read 27 = .ok (.iconst 0, 1) := by decide +kernel
theorem dd_X8_read_28 : decode cX8_read 28 = .ok (.putfield 142, 3) := by decide +kernel
theorem dd_X8_read_31 : decode cX8_read 31 = .ok (.iload_n 2, 1) := by decide +kernel
theorem dd_X8_read_32 : decode cX8_read 32 = .ok (.ifCond .eq 8, 3) := by decide +kernel
theorem dd_X8_read_35 : decode cX8_read 35 = .ok (.bipush (-10), 2) := by decide +kernel
theorem dd_X8_read_37 : decode cX8_read 37 = .ok (.iload_n 2, 1) := by decide +kernel
theorem dd_X8_read_38 : decode cX8_read 38 = .ok (.isub, 1) := by decide +kernel
theorem dd_X8_read_39 : decode cX8_read 39 = .ok (.ireturn, 1) := by decide +kernel
theorem dd_X8_read_40 : decode cX8_read 40 = .ok (.aload_n 0, 1) := by decide +kernel
theorem dd_X8_read_41 : decode cX8_read 41 = .ok (.getfield 17, 3) := by decide +kernel
theorem dd_X8_read_44 : decode cX8_read 44 = .ok (.iload_n 1, 1) := by decide +kernel
theorem dd_X8_read_45 : decode cX8_read 45 = .ok (.aaload, 1) := by decide +kernel
theorem dd_X8_read_46 : decode cX8_read 46 = .ok (.aload_n 0, 1) := by decide +kernel
theorem dd_X8_read_47 : decode cX8_read 47 = .ok (.getfield 65, 3) := by decide +kernel
theorem dd_X8_read_50 : decode cX8_read 50 = .ok (.getfield 155, 3) := by decide +kernel
theorem dd_X8_read_53 : decode cX8_read 53 = .ok (.invokevirtual 158, 3) := by decide +kernel
theorem dd_X8_read_56 : decode cX8_read 56 = .ok (.aload_n 0, 1) := by decide +kernel
theorem dd_X8_read_57 : decode cX8_read 57 = .ok (.getfield 17, 3) := by decide +kernel
theorem dd_X8_read_60 : decode cX8_read 60 = .ok (.iload_n 1, 1) := by decide +kernel
theorem dd_X8_read_61 : decode cX8_read 61 = .ok (.aaload, 1) := by decide +kernel
theorem dd_X8_read_62 : decode cX8_read 62 = .ok (.getfield 162, 3) := by decide +kernel
theorem dd_X8_read_65 : decode cX8_read 65 = .ok (.ireturn, 1) := by decide +kernel
theorem fl_X8_155 : Cond.fieldLink RX8 155 (TX6 2).1 (TX6 2).2.1 (TX6 2).2.2.1 ∈ am_tbl := ri_lw_in (pl := 252) (by decide +kernel)
theorem ml_X8_148 : Cond.methodLink RX8 148 m_X8_isPlan.1 ∈ am_tbl := ri_lw_in (pl := 520) (by decide +kernel)
theorem ml_X8_151 : Cond.methodLink RX8 151 m_X6_understand.1 ∈ am_tbl := ri_lw_in (pl := 523) (by decide +kernel)
theorem ml_X8_158 : Cond.methodLink RX8 158 m_X2_copy.1 ∈ am_tbl := ri_lw_in (pl := 550) (by decide +kernel)
theorem ok_X8_read : am_okM m_X8_read 1 ∧ Cond.instanceMethod m_X8_read.1 ∈ am_tbl ∧ Cond.selects m_X8_read.1.cls m_X8_read.1 m_X8_read.1 ∈ am_tbl := ri_mk1 519 82 517 518 (by decide +kernel)
theorem c_X8_read {p : Int} {F A : gs_F} (hI : gs_I F A) (hp : -2147483648 ≤ p ∧ p ≤ 2147483647) : sC m_X8_read 5 [.ref 0, gs_iv p] F A (fun rv F' A' => ∃ z : Int, rv = some (gs_iv z) ∧ gs_I F' A' ∧ gs_fr (fun c j => c = 43 ∨ (c = 44 ∧ j = 1) ∨ (90 ≤ c ∧ c < 106 ∧ j = 1)) (fun c => c = 45 ∨ c = 47 ∨ (90 ≤ c ∧ c < 106)) F A F' A' ∧ (((p < 0 ∨ 7 < p) ∧ F' 43 0 = F 43 0) ∨ (0 ≤ p ∧ p ≤ 7 ∧ F' 43 0 = 0))) := by
  refine sC_of ok_X8_read.1 (Nat.le_of_ble_eq_true rfl) ?_
  show sA _ _ _ 0 [(0, .ref 0), (1, gs_iv p)] [] F A
  have hf : gs_fr (fun c j => c = 43 ∨ (c = 44 ∧ j = 1) ∨ (90 ≤ c ∧ c < 106 ∧ j = 1)) (fun c => c = 45 ∨ c = 47 ∨ (90 ≤ c ∧ c < 106)) F A F A := gs_fr_refl _ _ _ _
  have b1 : (0 : Int) ≤ F 43 0 ∧ F 43 0 ≤ 120 := hI.1 43 0
  refine sA_iload_n dd_X8_read_0 rfl (.tail _ (.head _)) ?_
  refine sA_callS (y2 := m_X8_isPlan) (n2 := 1) (d2 := 1) (as := [gs_iv p]) (rest := []) dd_X8_read_1 ok_X8_isPlan ml_X8_148 rfl rfl (Nat.le_of_ble_eq_true rfl) (by decide) (c_X8_isPlan (by omega)) (fun r2 F3 A4 h5 => ?_)
  obtain ⟨z8, e7, e9, e10, x6⟩ := h5
  subst e7 e9 e10
  show sA _ _ _ 4 _ [gs_iv z8] _ _
  refine sA_if_ne (tgt := 11) dd_X8_read_4 (by decide) (by omega) (fun q11 => ?_) (fun q11 => ?_)
  · skip
    refine sA_aload_n dd_X8_read_11 rfl (.head _) ?_
    refine sA_getr (ci := 8) (j := 7) (q := (RX8, TX8, 13)) dd_X8_read_12 rfl (by decide) fl_X8_65 (by decide) gs_s0 rfl ?_
    refine sA_aload_n dd_X8_read_15 rfl (.head _) ?_
    refine sA_geti (ci := 8) (j := 11) (q := (RX8, TX8, 13)) dd_X8_read_16 rfl (by decide) fl_X8_84 (by decide) gs_s0 rfl ?_
    have b12 : (1 : Int) ≤ F 0 11 ∧ F 0 11 ≤ 3 := hI.1 0 11
    refine sA_callV (y2 := m_X6_understand) (n2 := 1) (d2 := 4) (a := 43) (ci := 6) (q := (RX6, TX6, 10)) (as := [gs_iv (F 0 11)]) (rest := []) dd_X8_read_19 ok_X6_understand ml_X8_151 rfl rfl (by decide) gs_s43 rfl rfl (Nat.le_of_ble_eq_true rfl) (by decide) (c_X6_understand hI (by omega)) (fun r13 F14 A15 h16 => ?_)
    obtain ⟨z19, e18, I20, f21, x17⟩ := h16
    subst e18
    have v22 : F14 43 0 = F 43 0 := f21.1 43 0 (by first | exact id | omega | (dsimp only; omega) | (dsimp only))
    have f23 := gs_fr_tr hf f21 (fun b j h => by first | exact False.elim h | omega | (dsimp only at h ⊢; omega)) (fun b h => by first | exact False.elim h | omega | (dsimp only at h ⊢; omega))
    show sA _ _ _ 22 _ [gs_iv z19] _ _
    refine sA_istore_n (lv' := [(2, gs_iv z19), (0, .ref 0), (1, gs_iv p)]) dd_X8_read_22 rfl (by decide) rfl ?_
    refine sA_aload_n dd_X8_read_23 rfl (.tail _ (.head _)) ?_
    refine sA_getr (ci := 8) (j := 7) (q := (RX8, TX8, 13)) dd_X8_read_24 rfl (by decide) fl_X8_65 (by decide) gs_s0 rfl ?_
    refine sA_iconst (z := 0) dd_X8_read_27 ?_
    refine sA_put (ci := 6) (j := 0) (q := (RX6, TX6, 10)) (ty := .int) dd_X8_read_28 rfl (by decide) fl_X8_142 rfl (tyX6_ok 0 (by decide)) rfl rfl (by decide) gs_s43 rfl ?_
    have I25 : gs_I (gs_up F14 43 0 0) A15 := gs_I_put I20 (show (0 : Int) ≤ 0 ∧ 0 ≤ 120 by omega)
    have f26 := gs_fr_put f23 (a := 43) (z := 0) (j := 0) (by first | omega | (dsimp only; omega) | (dsimp only))
    have v27 : gs_up F14 43 0 0 43 0 = 0 := gs_up_self _ _ _ _
    generalize gs_up F14 43 0 0 = F24 at I25 f26 v27 ⊢
    refine sA_iload_n dd_X8_read_31 rfl (.head _) ?_
    refine sA_if_eq (tgt := 40) dd_X8_read_32 (by decide) (by omega) (fun q28 => ?_) (fun q28 => ?_)
    · skip
      refine sA_aload_n dd_X8_read_40 rfl (.tail _ (.head _)) ?_
      refine sA_getr (ci := 8) (j := 1) (q := (RX8, TX8, 13)) dd_X8_read_41 rfl (by decide) fl_X8_17 (by decide) gs_s0 rfl ?_
      refine sA_iload_n dd_X8_read_44 rfl (.tail _ (.tail _ (.head _))) ?_
      refine sA_aald (n := 8) dd_X8_read_45 (by decide) (by decide) (by decide) gs_s2 (by omega) (by decide) ?_
      have g29 := gs_plan_at (k := p.toNat) (by omega)
      refine sA_aload_n dd_X8_read_46 rfl (.tail _ (.head _)) ?_
      refine sA_getr (ci := 8) (j := 7) (q := (RX8, TX8, 13)) dd_X8_read_47 rfl (by decide) fl_X8_65 (by decide) gs_s0 rfl ?_
      refine sA_getr (ci := 6) (j := 2) (q := (RX6, TX6, 10)) dd_X8_read_50 rfl (by decide) fl_X8_155 (by decide) gs_s43 rfl ?_
      refine sA_callV (y2 := m_X2_copy) (n2 := 1) (d2 := 1) (a := (90 + 2 * p.toNat)) (ci := 2) (q := (RX2, TX2, 2)) (as := [.ref 44]) (rest := []) dd_X8_read_53 ok_X2_copy ml_X8_158 rfl rfl (Nat.lt_of_succ_lt g29.1) g29.2.1 rfl rfl (Nat.le_of_ble_eq_true rfl) (by decide) (c_X2_copy I25 g29 gs_plan_44) (fun r30 F31 A32 h33 => ?_)
      obtain ⟨e35, I36, f37, x34⟩ := h33
      subst e35
      have v38 : F31 43 0 = F24 43 0 := f37.1 43 0 (by first | exact id | omega | (dsimp only; omega) | (dsimp only))
      have f39 := gs_fr_tr f26 f37 (fun b j h => by first | exact False.elim h | omega | (dsimp only at h ⊢; omega)) (fun b h => by first | exact False.elim h | omega | (dsimp only at h ⊢; omega))
      show sA _ _ _ 56 _ [] _ _
      refine sA_aload_n dd_X8_read_56 rfl (.tail _ (.head _)) ?_
      refine sA_getr (ci := 8) (j := 1) (q := (RX8, TX8, 13)) dd_X8_read_57 rfl (by decide) fl_X8_17 (by decide) gs_s0 rfl ?_
      refine sA_iload_n dd_X8_read_60 rfl (.tail _ (.tail _ (.head _))) ?_
      refine sA_aald (n := 8) dd_X8_read_61 (by decide) (by decide) (by decide) gs_s2 (by omega) (by decide) ?_
      have g40 := gs_plan_at (k := p.toNat) (by omega)
      refine sA_geti (ci := 2) (j := 1) (q := (RX2, TX2, 2)) dd_X8_read_62 rfl (by decide) fl_X8_162 (Nat.lt_of_succ_lt g40.1) g40.2.1 rfl ?_
      have b41 := gs_plan_sz g40 I36
      refine sA_iret (z := F31 (90 + 2 * p.toNat) 1) dd_X8_read_65 rfl ?_
      exact ⟨_, rfl, I36, f39, by omega⟩
    · skip
      refine sA_bipush (z := (-10)) dd_X8_read_35 (by decide) ?_
      refine sA_iload_n dd_X8_read_37 rfl (.head _) ?_
      refine sA_isub dd_X8_read_38 ?_
      refine sA_iret (z := (-10) - z19) dd_X8_read_39 rfl ?_
      exact ⟨_, rfl, I25, f26, by omega⟩
  · skip
    refine sA_sipush (z := (-1001)) dd_X8_read_7 (by decide) ?_
    refine sA_iret (z := -1001) dd_X8_read_10 rfl ?_
    exact ⟨_, rfl, hI, hf, by omega⟩
theorem dd_X8_fault_0 : decode cX8_fault 0 = .ok (.aload_n 0, 1) := by decide +kernel
theorem dd_X8_fault_1 : decode cX8_fault 1 = .ok (.getfield 65, 3) := by decide +kernel
theorem dd_X8_fault_4 : decode cX8_fault 4 = .ok (.getfield 163, 3) := by decide +kernel
theorem dd_X8_fault_7 : decode cX8_fault 7 = .ok (.ireturn, 1) := by decide +kernel
theorem fl_X8_163 : Cond.fieldLink RX8 163 (TX6 1).1 (TX6 1).2.1 (TX6 1).2.2.1 ∈ am_tbl := ri_lw_in (pl := 250) (by decide +kernel)
theorem ok_X8_fault : am_okM m_X8_fault 0 ∧ Cond.instanceMethod m_X8_fault.1 ∈ am_tbl ∧ Cond.selects m_X8_fault.1.cls m_X8_fault.1 m_X8_fault.1 ∈ am_tbl := ri_mk1 558 82 556 557 (by decide +kernel)
theorem c_X8_fault  {F A : gs_F} (hI : gs_I F A)  : sC m_X8_fault 1 [.ref 0] F A (fun rv F' A' => ∃ z : Int, rv = some (gs_iv z) ∧ F = F' ∧ A = A' ∧ (True)) := by
  refine sC_of ok_X8_fault.1 (Nat.le_of_ble_eq_true rfl) ?_
  show sA _ _ _ 0 [(0, .ref 0)] [] F A
  refine sA_aload_n dd_X8_fault_0 rfl (.head _) ?_
  refine sA_getr (ci := 8) (j := 7) (q := (RX8, TX8, 13)) dd_X8_fault_1 rfl (by decide) fl_X8_65 (by decide) gs_s0 rfl ?_
  refine sA_geti (ci := 6) (j := 1) (q := (RX6, TX6, 10)) dd_X8_fault_4 rfl (by decide) fl_X8_163 (by decide) gs_s43 rfl ?_
  have b1 : (-2147483648 : Int) ≤ F 43 1 ∧ F 43 1 ≤ 2147483647 := hI.1 43 1
  refine sA_iret (z := F 43 1) dd_X8_fault_7 rfl ?_
  exact ⟨_, rfl, rfl, rfl, trivial⟩
theorem dd_X8_twist_0 : decode cX8_twist 0 = .ok (.iload_n 1, 1) := by decide +kernel
theorem dd_X8_twist_1 : decode cX8_twist 1 = .ok (.invokestatic 148, 3) := by decide +kernel
theorem dd_X8_twist_4 : decode cX8_twist 4 = .ok (.ifCond .eq 16, 3) := by decide +kernel
theorem dd_X8_twist_7 : decode cX8_twist 7 = .ok (.aload_n 0, 1) := by decide +kernel
theorem dd_X8_twist_8 : decode cX8_twist 8 = .ok (.getfield 17, 3) := by decide +kernel
theorem dd_X8_twist_11 : decode cX8_twist 11 = .ok (.iload_n 1, 1) := by decide +kernel
theorem dd_X8_twist_12 : decode cX8_twist 12 = .ok (.aaload, 1) := by decide +kernel
theorem dd_X8_twist_13 : decode cX8_twist 13 = .ok (.iload_n 2, 1) := by decide +kernel
theorem dd_X8_twist_14 : decode cX8_twist 14 = .ok (.invokevirtual 166, 3) := by decide +kernel
theorem dd_X8_twist_17 : decode cX8_twist 17 = .ok (.goto 6, 3) := by decide +kernel
theorem dd_X8_twist_20 : decode cX8_twist 20 = .ok (.sipush (-1001), 3) := by decide +kernel
theorem dd_X8_twist_23 : decode cX8_twist 23 = .ok (.ireturn, 1) := by decide +kernel
theorem ml_X8_166 : Cond.methodLink RX8 166 m_X2_codeOrSize.1 ∈ am_tbl := ri_lw_in (pl := 563) (by decide +kernel)
theorem ok_X8_twist : am_okM m_X8_twist 2 ∧ Cond.instanceMethod m_X8_twist.1 ∈ am_tbl ∧ Cond.selects m_X8_twist.1.cls m_X8_twist.1 m_X8_twist.1 ∈ am_tbl := ri_mk1 562 82 560 561 (by decide +kernel)
theorem c_X8_twist {p i : Int} {F A : gs_F} (hI : gs_I F A) (hp : -2147483648 ≤ p ∧ p ≤ 2147483647) (hi : -2147483648 ≤ i ∧ i ≤ 2147483647) : sC m_X8_twist 2 [.ref 0, gs_iv p, gs_iv i] F A (fun rv F' A' => ∃ z : Int, rv = some (gs_iv z) ∧ F = F' ∧ A = A' ∧ (True)) := by
  refine sC_of ok_X8_twist.1 (Nat.le_of_ble_eq_true rfl) ?_
  show sA _ _ _ 0 [(0, .ref 0), (1, gs_iv p), (2, gs_iv i)] [] F A
  refine sA_iload_n dd_X8_twist_0 rfl (.tail _ (.head _)) ?_
  refine sA_callS (y2 := m_X8_isPlan) (n2 := 1) (d2 := 1) (as := [gs_iv p]) (rest := []) dd_X8_twist_1 ok_X8_isPlan ml_X8_148 rfl rfl (Nat.le_of_ble_eq_true rfl) (by decide) (c_X8_isPlan (by omega)) (fun r1 F2 A3 h4 => ?_)
  obtain ⟨z7, e6, e8, e9, x5⟩ := h4
  subst e6 e8 e9
  show sA _ _ _ 4 _ [gs_iv z7] _ _
  refine sA_if_eq (tgt := 20) dd_X8_twist_4 (by decide) (by omega) (fun q10 => ?_) (fun q10 => ?_)
  · skip
    refine sA_sipush (z := (-1001)) dd_X8_twist_20 (by decide) ?_
    refine sA_iret (z := -1001) dd_X8_twist_23 rfl ?_
    exact ⟨_, rfl, rfl, rfl, trivial⟩
  · skip
    refine sA_aload_n dd_X8_twist_7 rfl (.head _) ?_
    refine sA_getr (ci := 8) (j := 1) (q := (RX8, TX8, 13)) dd_X8_twist_8 rfl (by decide) fl_X8_17 (by decide) gs_s0 rfl ?_
    refine sA_iload_n dd_X8_twist_11 rfl (.tail _ (.head _)) ?_
    refine sA_aald (n := 8) dd_X8_twist_12 (by decide) (by decide) (by decide) gs_s2 (by omega) (by decide) ?_
    have g11 := gs_plan_at (k := p.toNat) (by omega)
    refine sA_iload_n dd_X8_twist_13 rfl (.tail _ (.tail _ (.head _))) ?_
    refine sA_callV (y2 := m_X2_codeOrSize) (n2 := 1) (d2 := 1) (a := (90 + 2 * p.toNat)) (ci := 2) (q := (RX2, TX2, 2)) (as := [gs_iv i]) (rest := []) dd_X8_twist_14 ok_X2_codeOrSize ml_X8_166 rfl rfl (Nat.lt_of_succ_lt g11.1) g11.2.1 rfl rfl (Nat.le_of_ble_eq_true rfl) (by decide) (c_X2_codeOrSize hI g11 (by omega)) (fun r12 F13 A14 h15 => ?_)
    obtain ⟨z18, e17, e19, e20, x16⟩ := h15
    subst e17 e19 e20
    show sA _ _ _ 17 _ [gs_iv z18] _ _
    refine sA_goto (tgt := 23) dd_X8_twist_17 (by decide) ?_
    refine sA_iret (z := z18) dd_X8_twist_23 rfl ?_
    exact ⟨_, rfl, rfl, rfl, trivial⟩
theorem dd_X8_chain_0 : decode cX8_chain 0 = .ok (.iload_n 1, 1) := by decide +kernel
theorem dd_X8_chain_1 : decode cX8_chain 1 = .ok (.invokestatic 148, 3) := by decide +kernel
theorem dd_X8_chain_4 : decode cX8_chain 4 = .ok (.ifCond .eq 17, 3) := by decide +kernel
theorem dd_X8_chain_7 : decode cX8_chain 7 = .ok (.iload_n 2, 1) := by decide +kernel
theorem dd_X8_chain_8 : decode cX8_chain 8 = .ok (.invokestatic 148, 3) := by decide +kernel
theorem dd_X8_chain_11 : decode cX8_chain 11 = .ok (.ifCond .eq 10, 3) := by decide +kernel
theorem dd_X8_chain_14 : decode cX8_chain 14 = .ok (.iload_n 3, 1) := by decide +kernel
theorem dd_X8_chain_15 : decode cX8_chain 15 = .ok (.invokestatic 148, 3) := by decide +kernel
theorem dd_X8_chain_18 : decode cX8_chain 18 = .ok (.ifCond .ne 7, 3) := by decide +kernel
theorem dd_X8_chain_21 : decode cX8_chain 21 = .ok (.sipush (-1001), 3) := by decide +kernel
theorem dd_X8_chain_24 : decode cX8_chain 24 = .ok (.ireturn, 1) := by decide +kernel
theorem dd_X8_chain_25 : decode cX8_chain 25 = .ok (.aload_n 0, 1) := by decide +kernel
theorem dd_X8_chain_26 : decode cX8_chain 26 = .ok (.getfield 17, 3) := by decide +kernel
theorem dd_X8_chain_29 : decode cX8_chain 29 = .ok (.iload_n 2, 1) := by decide +kernel
theorem dd_X8_chain_30 : decode cX8_chain 30 = .ok (.aaload, 1) := by decide +kernel
theorem dd_X8_chain_31 : decode cX8_chain 31 = .ok (.getfield 162, 3) := by decide +kernel
theorem dd_X8_chain_34 : decode cX8_chain 34 = .ok (.aload_n 0, 1) := by decide +kernel
theorem dd_X8_chain_35 : decode cX8_chain 35 = .ok (.getfield 17, 3) := by decide +kernel
theorem dd_X8_chain_38 : decode cX8_chain 38 = .ok (.iload_n 3, 1) := by decide +kernel
theorem dd_X8_chain_39 : decode cX8_chain 39 = .ok (.aaload, 1) := by decide +kernel
theorem dd_X8_chain_40 : decode cX8_chain 40 = .ok (.getfield 162, 3) := by decide +kernel
theorem dd_X8_chain_43 : decode cX8_chain 43 = .ok (.iadd, 1) := by decide +kernel
theorem dd_X8_chain_44 : decode cX8_chain 44 = .ok (.bipush 60, 2) := by decide +kernel
theorem dd_X8_chain_46 : decode cX8_chain 46 = .ok (.if_icmp .le 7, 3) := by decide +kernel
theorem dd_X8_chain_49 : decode cX8_chain 49 = .ok (.sipush (-1004), 3) := by decide +kernel
theorem dd_X8_chain_52 : decode cX8_chain 52 = .ok (.ireturn, 1) := by decide +kernel
theorem dd_X8_chain_53 : decode cX8_chain 53 = .ok (.aload_n 0, 1) := by decide +kernel
theorem dd_X8_chain_54 : decode cX8_chain 54 = .ok (.getfield 73, 3) := by decide +kernel
theorem dd_X8_chain_57 : decode cX8_chain 57 = .ok (.aload_n 0, 1) := by decide +kernel
theorem dd_X8_chain_58 : decode cX8_chain 58 = .ok (.getfield 17, 3) := by decide +kernel
theorem dd_X8_chain_61 : decode cX8_chain 61 = .ok (.iload_n 2, 1) := by decide +kernel
theorem dd_X8_chain_62 : decode cX8_chain 62 = .ok (.aaload, 1) := by decide +kernel
theorem dd_X8_chain_63 : decode cX8_chain 63 = .ok (.invokevirtual 158, 3) := by decide +kernel
theorem dd_X8_chain_66 : decode cX8_chain 66 = .ok (.aload_n 0, 1) := by decide +kernel
theorem dd_X8_chain_67 : decode cX8_chain 67 = .ok (.getfield 73, 3) := by decide +kernel
theorem dd_X8_chain_70 : decode cX8_chain 70 = .ok (.aload_n 0, 1) := by decide +kernel
theorem dd_X8_chain_71 : decode cX8_chain 71 = .ok (.getfield 17, 3) := by decide +kernel
theorem dd_X8_chain_74 : decode cX8_chain 74 = .ok (.iload_n 3, 1) := by decide +kernel
theorem dd_X8_chain_75 : decode cX8_chain 75 = .ok (.aaload, 1) := by decide +kernel
theorem dd_X8_chain_76 : decode cX8_chain 76 = .ok (.invokevirtual 169, 3) := by decide +kernel
theorem dd_X8_chain_79 : decode cX8_chain 79 = .ok (.aload_n 0, 1) := by decide +kernel
theorem dd_X8_chain_80 : decode cX8_chain 80 = .ok (.getfield 17, 3) := by decide +kernel
theorem dd_X8_chain_83 : decode cX8_chain 83 = .ok (.iload_n 1, 1) := by decide +kernel
theorem dd_X8_chain_84 : decode cX8_chain 84 = .ok (.aaload, 1) := by decide +kernel
theorem dd_X8_chain_85 : decode cX8_chain 85 = .ok (.aload_n 0, 1) := by decide +kernel
theorem dd_X8_chain_86 : decode cX8_chain 86 = .ok (.getfield 73, 3) := by decide +kernel
theorem dd_X8_chain_89 : decode cX8_chain 89 = .ok (.invokevirtual 158, 3) := by decide +kernel
theorem dd_X8_chain_92 : decode cX8_chain 92 = .ok (.aload_n 0, 1) := by decide +kernel
theorem dd_X8_chain_93 : decode cX8_chain 93 = .ok (.getfield 17, 3) := by decide +kernel
theorem dd_X8_chain_96 : decode cX8_chain 96 = .ok (.iload_n 1, 1) := by decide +kernel
theorem dd_X8_chain_97 : decode cX8_chain 97 = .ok (.aaload, 1) := by decide +kernel
theorem dd_X8_chain_98 : decode cX8_chain 98 = .ok (.getfield 162, 3) := by decide +kernel
theorem dd_X8_chain_101 : decode cX8_chain 101 = .ok (.ireturn, 1) := by decide +kernel
theorem fl_X8_73 : Cond.fieldLink RX8 73 (TX8 9).1 (TX8 9).2.1 (TX8 9).2.2.1 ∈ am_tbl := ri_lw_in (pl := 360) (by decide +kernel)
theorem ml_X8_169 : Cond.methodLink RX8 169 m_X2_addAll.1 ∈ am_tbl := ri_lw_in (pl := 571) (by decide +kernel)
theorem ok_X8_chain : am_okM m_X8_chain 3 ∧ Cond.instanceMethod m_X8_chain.1 ∈ am_tbl ∧ Cond.selects m_X8_chain.1.cls m_X8_chain.1 m_X8_chain.1 ∈ am_tbl := ri_mk1 570 82 568 569 (by decide +kernel)
theorem c_X8_chain {r p q : Int} {F A : gs_F} (hI : gs_I F A) (hr : -2147483648 ≤ r ∧ r ≤ 2147483647) (hp : -2147483648 ≤ p ∧ p ≤ 2147483647) (hq : -2147483648 ≤ q ∧ q ≤ 2147483647) : sC m_X8_chain 3 [.ref 0, gs_iv r, gs_iv p, gs_iv q] F A (fun rv F' A' => ∃ z : Int, rv = some (gs_iv z) ∧ gs_I F' A' ∧ gs_fr (fun c j => (c = 50 ∧ j = 1) ∨ (90 ≤ c ∧ c < 106 ∧ j = 1)) (fun c => c = 51 ∨ (90 ≤ c ∧ c < 106)) F A F' A' ∧ (True)) := by
  refine sC_of ok_X8_chain.1 (Nat.le_of_ble_eq_true rfl) ?_
  show sA _ _ _ 0 [(0, .ref 0), (1, gs_iv r), (2, gs_iv p), (3, gs_iv q)] [] F A
  have hf : gs_fr (fun c j => (c = 50 ∧ j = 1) ∨ (90 ≤ c ∧ c < 106 ∧ j = 1)) (fun c => c = 51 ∨ (90 ≤ c ∧ c < 106)) F A F A := gs_fr_refl _ _ _ _
  refine sA_iload_n dd_X8_chain_0 rfl (.tail _ (.head _)) ?_
  refine sA_callS (y2 := m_X8_isPlan) (n2 := 1) (d2 := 1) (as := [gs_iv r]) (rest := []) dd_X8_chain_1 ok_X8_isPlan ml_X8_148 rfl rfl (Nat.le_of_ble_eq_true rfl) (by decide) (c_X8_isPlan (by omega)) (fun r1 F2 A3 h4 => ?_)
  obtain ⟨z7, e6, e8, e9, x5⟩ := h4
  subst e6 e8 e9
  show sA _ _ _ 4 _ [gs_iv z7] _ _
  refine sA_if_eq (tgt := 21) dd_X8_chain_4 (by decide) (by omega) (fun q10 => ?_) (fun q10 => ?_)
  · skip
    refine sA_sipush (z := (-1001)) dd_X8_chain_21 (by decide) ?_
    refine sA_iret (z := -1001) dd_X8_chain_24 rfl ?_
    exact ⟨_, rfl, hI, hf, trivial⟩
  · skip
    refine sA_iload_n dd_X8_chain_7 rfl (.tail _ (.tail _ (.head _))) ?_
    refine sA_callS (y2 := m_X8_isPlan) (n2 := 1) (d2 := 1) (as := [gs_iv p]) (rest := []) dd_X8_chain_8 ok_X8_isPlan ml_X8_148 rfl rfl (Nat.le_of_ble_eq_true rfl) (by decide) (c_X8_isPlan (by omega)) (fun r11 F12 A13 h14 => ?_)
    obtain ⟨z17, e16, e18, e19, x15⟩ := h14
    subst e16 e18 e19
    show sA _ _ _ 11 _ [gs_iv z17] _ _
    refine sA_if_eq (tgt := 21) dd_X8_chain_11 (by decide) (by omega) (fun q20 => ?_) (fun q20 => ?_)
    · skip
      refine sA_sipush (z := (-1001)) dd_X8_chain_21 (by decide) ?_
      refine sA_iret (z := -1001) dd_X8_chain_24 rfl ?_
      exact ⟨_, rfl, hI, hf, trivial⟩
    · skip
      refine sA_iload_n dd_X8_chain_14 rfl (.tail _ (.tail _ (.tail _ (.head _)))) ?_
      refine sA_callS (y2 := m_X8_isPlan) (n2 := 1) (d2 := 1) (as := [gs_iv q]) (rest := []) dd_X8_chain_15 ok_X8_isPlan ml_X8_148 rfl rfl (Nat.le_of_ble_eq_true rfl) (by decide) (c_X8_isPlan (by omega)) (fun r21 F22 A23 h24 => ?_)
      obtain ⟨z27, e26, e28, e29, x25⟩ := h24
      subst e26 e28 e29
      show sA _ _ _ 18 _ [gs_iv z27] _ _
      refine sA_if_ne (tgt := 25) dd_X8_chain_18 (by decide) (by omega) (fun q30 => ?_) (fun q30 => ?_)
      · skip
        refine sA_aload_n dd_X8_chain_25 rfl (.head _) ?_
        refine sA_getr (ci := 8) (j := 1) (q := (RX8, TX8, 13)) dd_X8_chain_26 rfl (by decide) fl_X8_17 (by decide) gs_s0 rfl ?_
        refine sA_iload_n dd_X8_chain_29 rfl (.tail _ (.tail _ (.head _))) ?_
        refine sA_aald (n := 8) dd_X8_chain_30 (by decide) (by decide) (by decide) gs_s2 (by omega) (by decide) ?_
        have g31 := gs_plan_at (k := p.toNat) (by omega)
        refine sA_geti (ci := 2) (j := 1) (q := (RX2, TX2, 2)) dd_X8_chain_31 rfl (by decide) fl_X8_162 (Nat.lt_of_succ_lt g31.1) g31.2.1 rfl ?_
        have b32 := gs_plan_sz g31 hI
        refine sA_aload_n dd_X8_chain_34 rfl (.head _) ?_
        refine sA_getr (ci := 8) (j := 1) (q := (RX8, TX8, 13)) dd_X8_chain_35 rfl (by decide) fl_X8_17 (by decide) gs_s0 rfl ?_
        refine sA_iload_n dd_X8_chain_38 rfl (.tail _ (.tail _ (.tail _ (.head _)))) ?_
        refine sA_aald (n := 8) dd_X8_chain_39 (by decide) (by decide) (by decide) gs_s2 (by omega) (by decide) ?_
        have g33 := gs_plan_at (k := q.toNat) (by omega)
        refine sA_geti (ci := 2) (j := 1) (q := (RX2, TX2, 2)) dd_X8_chain_40 rfl (by decide) fl_X8_162 (Nat.lt_of_succ_lt g33.1) g33.2.1 rfl ?_
        have b34 := gs_plan_sz g33 hI
        refine sA_iadd dd_X8_chain_43 ?_
        refine sA_bipush (z := 60) dd_X8_chain_44 (by decide) ?_
        refine sA_icmp_le (tgt := 53) dd_X8_chain_46 (by decide) (by omega) (by omega) (fun q35 => ?_) (fun q35 => ?_)
        · skip
          refine sA_aload_n dd_X8_chain_53 rfl (.head _) ?_
          refine sA_getr (ci := 8) (j := 9) (q := (RX8, TX8, 13)) dd_X8_chain_54 rfl (by decide) fl_X8_73 (by decide) gs_s0 rfl ?_
          refine sA_aload_n dd_X8_chain_57 rfl (.head _) ?_
          refine sA_getr (ci := 8) (j := 1) (q := (RX8, TX8, 13)) dd_X8_chain_58 rfl (by decide) fl_X8_17 (by decide) gs_s0 rfl ?_
          refine sA_iload_n dd_X8_chain_61 rfl (.tail _ (.tail _ (.head _))) ?_
          refine sA_aald (n := 8) dd_X8_chain_62 (by decide) (by decide) (by decide) gs_s2 (by omega) (by decide) ?_
          have g36 := gs_plan_at (k := p.toNat) (by omega)
          refine sA_callV (y2 := m_X2_copy) (n2 := 1) (d2 := 1) (a := 50) (ci := 2) (q := (RX2, TX2, 2)) (as := [.ref (90 + 2 * p.toNat)]) (rest := []) dd_X8_chain_63 ok_X2_copy ml_X8_158 rfl rfl (Nat.lt_of_succ_lt gs_plan_50.1) gs_plan_50.2.1 rfl rfl (Nat.le_of_ble_eq_true rfl) (by decide) (c_X2_copy hI gs_plan_50 g36) (fun r37 F38 A39 h40 => ?_)
          obtain ⟨e42, I43, f44, x41⟩ := h40
          subst e42
          have f45 := gs_fr_tr hf f44 (fun b j h => by first | exact False.elim h | omega | (dsimp only at h ⊢; omega)) (fun b h => by first | exact False.elim h | omega | (dsimp only at h ⊢; omega))
          show sA _ _ _ 66 _ [] _ _
          refine sA_aload_n dd_X8_chain_66 rfl (.head _) ?_
          refine sA_getr (ci := 8) (j := 9) (q := (RX8, TX8, 13)) dd_X8_chain_67 rfl (by decide) fl_X8_73 (by decide) gs_s0 rfl ?_
          refine sA_aload_n dd_X8_chain_70 rfl (.head _) ?_
          refine sA_getr (ci := 8) (j := 1) (q := (RX8, TX8, 13)) dd_X8_chain_71 rfl (by decide) fl_X8_17 (by decide) gs_s0 rfl ?_
          refine sA_iload_n dd_X8_chain_74 rfl (.tail _ (.tail _ (.tail _ (.head _)))) ?_
          refine sA_aald (n := 8) dd_X8_chain_75 (by decide) (by decide) (by decide) gs_s2 (by omega) (by decide) ?_
          have g46 := gs_plan_at (k := q.toNat) (by omega)
          refine sA_callV (y2 := m_X2_addAll) (n2 := 1) (d2 := 2) (a := 50) (ci := 2) (q := (RX2, TX2, 2)) (as := [.ref (90 + 2 * q.toNat)]) (rest := []) dd_X8_chain_76 ok_X2_addAll ml_X8_169 rfl rfl (Nat.lt_of_succ_lt gs_plan_50.1) gs_plan_50.2.1 rfl rfl (Nat.le_of_ble_eq_true rfl) (by decide) (c_X2_addAll I43 gs_plan_50 g46 (by omega)) (fun r47 F48 A49 h50 => ?_)
          obtain ⟨e52, I53, f54, x51⟩ := h50
          subst e52
          have f55 := gs_fr_tr f45 f54 (fun b j h => by first | exact False.elim h | omega | (dsimp only at h ⊢; omega)) (fun b h => by first | exact False.elim h | omega | (dsimp only at h ⊢; omega))
          show sA _ _ _ 79 _ [] _ _
          refine sA_aload_n dd_X8_chain_79 rfl (.head _) ?_
          refine sA_getr (ci := 8) (j := 1) (q := (RX8, TX8, 13)) dd_X8_chain_80 rfl (by decide) fl_X8_17 (by decide) gs_s0 rfl ?_
          refine sA_iload_n dd_X8_chain_83 rfl (.tail _ (.head _)) ?_
          refine sA_aald (n := 8) dd_X8_chain_84 (by decide) (by decide) (by decide) gs_s2 (by omega) (by decide) ?_
          have g56 := gs_plan_at (k := r.toNat) (by omega)
          refine sA_aload_n dd_X8_chain_85 rfl (.head _) ?_
          refine sA_getr (ci := 8) (j := 9) (q := (RX8, TX8, 13)) dd_X8_chain_86 rfl (by decide) fl_X8_73 (by decide) gs_s0 rfl ?_
          refine sA_callV (y2 := m_X2_copy) (n2 := 1) (d2 := 1) (a := (90 + 2 * r.toNat)) (ci := 2) (q := (RX2, TX2, 2)) (as := [.ref 50]) (rest := []) dd_X8_chain_89 ok_X2_copy ml_X8_158 rfl rfl (Nat.lt_of_succ_lt g56.1) g56.2.1 rfl rfl (Nat.le_of_ble_eq_true rfl) (by decide) (c_X2_copy I53 g56 gs_plan_50) (fun r57 F58 A59 h60 => ?_)
          obtain ⟨e62, I63, f64, x61⟩ := h60
          subst e62
          have f65 := gs_fr_tr f55 f64 (fun b j h => by first | exact False.elim h | omega | (dsimp only at h ⊢; omega)) (fun b h => by first | exact False.elim h | omega | (dsimp only at h ⊢; omega))
          show sA _ _ _ 92 _ [] _ _
          refine sA_aload_n dd_X8_chain_92 rfl (.head _) ?_
          refine sA_getr (ci := 8) (j := 1) (q := (RX8, TX8, 13)) dd_X8_chain_93 rfl (by decide) fl_X8_17 (by decide) gs_s0 rfl ?_
          refine sA_iload_n dd_X8_chain_96 rfl (.tail _ (.head _)) ?_
          refine sA_aald (n := 8) dd_X8_chain_97 (by decide) (by decide) (by decide) gs_s2 (by omega) (by decide) ?_
          have g66 := gs_plan_at (k := r.toNat) (by omega)
          refine sA_geti (ci := 2) (j := 1) (q := (RX2, TX2, 2)) dd_X8_chain_98 rfl (by decide) fl_X8_162 (Nat.lt_of_succ_lt g66.1) g66.2.1 rfl ?_
          have b67 := gs_plan_sz g66 I63
          refine sA_iret (z := F58 (90 + 2 * r.toNat) 1) dd_X8_chain_101 rfl ?_
          exact ⟨_, rfl, I63, f65, trivial⟩
        · skip
          refine sA_sipush (z := (-1004)) dd_X8_chain_49 (by decide) ?_
          refine sA_iret (z := -1004) dd_X8_chain_52 rfl ?_
          exact ⟨_, rfl, hI, hf, trivial⟩
      · skip
        refine sA_sipush (z := (-1001)) dd_X8_chain_21 (by decide) ?_
        refine sA_iret (z := -1001) dd_X8_chain_24 rfl ?_
        exact ⟨_, rfl, hI, hf, trivial⟩
theorem dd_X8_turn_0 : decode cX8_turn 0 = .ok (.iload_n 1, 1) := by decide +kernel
theorem dd_X8_turn_1 : decode cX8_turn 1 = .ok (.invokestatic 148, 3) := by decide +kernel
theorem dd_X8_turn_4 : decode cX8_turn 4 = .ok (.ifCond .eq 10, 3) := by decide +kernel
theorem dd_X8_turn_7 : decode cX8_turn 7 = .ok (.iload_n 2, 1) := by decide +kernel
theorem dd_X8_turn_8 : decode cX8_turn 8 = .ok (.invokestatic 148, 3) := by decide +kernel
theorem dd_X8_turn_11 : decode cX8_turn 11 = .ok (.ifCond .ne 7, 3) := by decide +kernel
theorem dd_X8_turn_14 : decode cX8_turn 14 = .ok (.sipush (-1001), 3) := by decide +kernel
theorem dd_X8_turn_17 : decode cX8_turn 17 = .ok (.ireturn, 1) := by decide +kernel
theorem dd_X8_turn_18 : decode cX8_turn 18 = .ok (.aload_n 0, 1) := by decide +kernel
theorem dd_X8_turn_19 : decode cX8_turn 19 = .ok (.getfield 73, 3) := by decide +kernel
theorem dd_X8_turn_22 : decode cX8_turn 22 = .ok (.aload_n 0, 1) := by decide +kernel
theorem dd_X8_turn_23 : decode cX8_turn 23 = .ok (.getfield 17, 3) := by decide +kernel
theorem dd_X8_turn_26 : decode cX8_turn 26 = .ok (.iload_n 2, 1) := by decide +kernel
theorem dd_X8_turn_27 : decode cX8_turn 27 = .ok (.aaload, 1) := by decide +kernel
theorem dd_X8_turn_28 : decode cX8_turn 28 = .ok (.invokevirtual 172, 3) := by decide +kernel
theorem dd_X8_turn_31 : decode cX8_turn 31 = .ok (.aload_n 0, 1) := by decide +kernel
theorem dd_X8_turn_32 : decode cX8_turn 32 = .ok (.getfield 17, 3) := by decide +kernel
theorem dd_X8_turn_35 : decode cX8_turn 35 = .ok (.iload_n 1, 1) := by decide +kernel
theorem dd_X8_turn_36 : decode cX8_turn 36 = .ok (.aaload, 1) := by decide +kernel
theorem dd_X8_turn_37 : decode cX8_turn 37 = .ok (.aload_n 0, 1) := by decide +kernel
theorem dd_X8_turn_38 : decode cX8_turn 38 = .ok (.getfield 73, 3) := by decide +kernel
theorem dd_X8_turn_41 : decode cX8_turn 41 = .ok (.invokevirtual 158, 3) := by decide +kernel
theorem dd_X8_turn_44 : decode cX8_turn 44 = .ok (.aload_n 0, 1) := by decide +kernel
theorem dd_X8_turn_45 : decode cX8_turn 45 = .ok (.getfield 17, 3) := by decide +kernel
theorem dd_X8_turn_48 : decode cX8_turn 48 = .ok (.iload_n 1, 1) := by decide +kernel
theorem dd_X8_turn_49 : decode cX8_turn 49 = .ok (.aaload, 1) := by decide +kernel
theorem dd_X8_turn_50 : decode cX8_turn 50 = .ok (.getfield 162, 3) := by decide +kernel
theorem dd_X8_turn_53 : decode cX8_turn 53 = .ok (.ireturn, 1) := by decide +kernel
theorem ml_X8_172 : Cond.methodLink RX8 172 m_X2_becomeReversed.1 ∈ am_tbl := ri_lw_in (pl := 580) (by decide +kernel)
theorem ok_X8_turn : am_okM m_X8_turn 2 ∧ Cond.instanceMethod m_X8_turn.1 ∈ am_tbl ∧ Cond.selects m_X8_turn.1.cls m_X8_turn.1 m_X8_turn.1 ∈ am_tbl := ri_mk1 579 82 577 578 (by decide +kernel)
theorem c_X8_turn {r p : Int} {F A : gs_F} (hI : gs_I F A) (hr : -2147483648 ≤ r ∧ r ≤ 2147483647) (hp : -2147483648 ≤ p ∧ p ≤ 2147483647) : sC m_X8_turn 3 [.ref 0, gs_iv r, gs_iv p] F A (fun rv F' A' => ∃ z : Int, rv = some (gs_iv z) ∧ gs_I F' A' ∧ gs_fr (fun c j => (c = 50 ∧ j = 1) ∨ (90 ≤ c ∧ c < 106 ∧ j = 1)) (fun c => c = 51 ∨ (90 ≤ c ∧ c < 106)) F A F' A' ∧ (True)) := by
  refine sC_of ok_X8_turn.1 (Nat.le_of_ble_eq_true rfl) ?_
  show sA _ _ _ 0 [(0, .ref 0), (1, gs_iv r), (2, gs_iv p)] [] F A
  have hf : gs_fr (fun c j => (c = 50 ∧ j = 1) ∨ (90 ≤ c ∧ c < 106 ∧ j = 1)) (fun c => c = 51 ∨ (90 ≤ c ∧ c < 106)) F A F A := gs_fr_refl _ _ _ _
  refine sA_iload_n dd_X8_turn_0 rfl (.tail _ (.head _)) ?_
  refine sA_callS (y2 := m_X8_isPlan) (n2 := 1) (d2 := 1) (as := [gs_iv r]) (rest := []) dd_X8_turn_1 ok_X8_isPlan ml_X8_148 rfl rfl (Nat.le_of_ble_eq_true rfl) (by decide) (c_X8_isPlan (by omega)) (fun r1 F2 A3 h4 => ?_)
  obtain ⟨z7, e6, e8, e9, x5⟩ := h4
  subst e6 e8 e9
  show sA _ _ _ 4 _ [gs_iv z7] _ _
  refine sA_if_eq (tgt := 14) dd_X8_turn_4 (by decide) (by omega) (fun q10 => ?_) (fun q10 => ?_)
  · skip
    refine sA_sipush (z := (-1001)) dd_X8_turn_14 (by decide) ?_
    refine sA_iret (z := -1001) dd_X8_turn_17 rfl ?_
    exact ⟨_, rfl, hI, hf, trivial⟩
  · skip
    refine sA_iload_n dd_X8_turn_7 rfl (.tail _ (.tail _ (.head _))) ?_
    refine sA_callS (y2 := m_X8_isPlan) (n2 := 1) (d2 := 1) (as := [gs_iv p]) (rest := []) dd_X8_turn_8 ok_X8_isPlan ml_X8_148 rfl rfl (Nat.le_of_ble_eq_true rfl) (by decide) (c_X8_isPlan (by omega)) (fun r11 F12 A13 h14 => ?_)
    obtain ⟨z17, e16, e18, e19, x15⟩ := h14
    subst e16 e18 e19
    show sA _ _ _ 11 _ [gs_iv z17] _ _
    refine sA_if_ne (tgt := 18) dd_X8_turn_11 (by decide) (by omega) (fun q20 => ?_) (fun q20 => ?_)
    · skip
      refine sA_aload_n dd_X8_turn_18 rfl (.head _) ?_
      refine sA_getr (ci := 8) (j := 9) (q := (RX8, TX8, 13)) dd_X8_turn_19 rfl (by decide) fl_X8_73 (by decide) gs_s0 rfl ?_
      refine sA_aload_n dd_X8_turn_22 rfl (.head _) ?_
      refine sA_getr (ci := 8) (j := 1) (q := (RX8, TX8, 13)) dd_X8_turn_23 rfl (by decide) fl_X8_17 (by decide) gs_s0 rfl ?_
      refine sA_iload_n dd_X8_turn_26 rfl (.tail _ (.tail _ (.head _))) ?_
      refine sA_aald (n := 8) dd_X8_turn_27 (by decide) (by decide) (by decide) gs_s2 (by omega) (by decide) ?_
      have g21 := gs_plan_at (k := p.toNat) (by omega)
      refine sA_callV (y2 := m_X2_becomeReversed) (n2 := 1) (d2 := 2) (a := 50) (ci := 2) (q := (RX2, TX2, 2)) (as := [.ref (90 + 2 * p.toNat)]) (rest := []) dd_X8_turn_28 ok_X2_becomeReversed ml_X8_172 rfl rfl (Nat.lt_of_succ_lt gs_plan_50.1) gs_plan_50.2.1 rfl rfl (Nat.le_of_ble_eq_true rfl) (by decide) (c_X2_becomeReversed hI gs_plan_50 g21 (by omega)) (fun r22 F23 A24 h25 => ?_)
      obtain ⟨e27, I28, f29, x26⟩ := h25
      subst e27
      have f30 := gs_fr_tr hf f29 (fun b j h => by first | exact False.elim h | omega | (dsimp only at h ⊢; omega)) (fun b h => by first | exact False.elim h | omega | (dsimp only at h ⊢; omega))
      show sA _ _ _ 31 _ [] _ _
      refine sA_aload_n dd_X8_turn_31 rfl (.head _) ?_
      refine sA_getr (ci := 8) (j := 1) (q := (RX8, TX8, 13)) dd_X8_turn_32 rfl (by decide) fl_X8_17 (by decide) gs_s0 rfl ?_
      refine sA_iload_n dd_X8_turn_35 rfl (.tail _ (.head _)) ?_
      refine sA_aald (n := 8) dd_X8_turn_36 (by decide) (by decide) (by decide) gs_s2 (by omega) (by decide) ?_
      have g31 := gs_plan_at (k := r.toNat) (by omega)
      refine sA_aload_n dd_X8_turn_37 rfl (.head _) ?_
      refine sA_getr (ci := 8) (j := 9) (q := (RX8, TX8, 13)) dd_X8_turn_38 rfl (by decide) fl_X8_73 (by decide) gs_s0 rfl ?_
      refine sA_callV (y2 := m_X2_copy) (n2 := 1) (d2 := 1) (a := (90 + 2 * r.toNat)) (ci := 2) (q := (RX2, TX2, 2)) (as := [.ref 50]) (rest := []) dd_X8_turn_41 ok_X2_copy ml_X8_158 rfl rfl (Nat.lt_of_succ_lt g31.1) g31.2.1 rfl rfl (Nat.le_of_ble_eq_true rfl) (by decide) (c_X2_copy I28 g31 gs_plan_50) (fun r32 F33 A34 h35 => ?_)
      obtain ⟨e37, I38, f39, x36⟩ := h35
      subst e37
      have f40 := gs_fr_tr f30 f39 (fun b j h => by first | exact False.elim h | omega | (dsimp only at h ⊢; omega)) (fun b h => by first | exact False.elim h | omega | (dsimp only at h ⊢; omega))
      show sA _ _ _ 44 _ [] _ _
      refine sA_aload_n dd_X8_turn_44 rfl (.head _) ?_
      refine sA_getr (ci := 8) (j := 1) (q := (RX8, TX8, 13)) dd_X8_turn_45 rfl (by decide) fl_X8_17 (by decide) gs_s0 rfl ?_
      refine sA_iload_n dd_X8_turn_48 rfl (.tail _ (.head _)) ?_
      refine sA_aald (n := 8) dd_X8_turn_49 (by decide) (by decide) (by decide) gs_s2 (by omega) (by decide) ?_
      have g41 := gs_plan_at (k := r.toNat) (by omega)
      refine sA_geti (ci := 2) (j := 1) (q := (RX2, TX2, 2)) dd_X8_turn_50 rfl (by decide) fl_X8_162 (Nat.lt_of_succ_lt g41.1) g41.2.1 rfl ?_
      have b42 := gs_plan_sz g41 I38
      refine sA_iret (z := F33 (90 + 2 * r.toNat) 1) dd_X8_turn_53 rfl ?_
      exact ⟨_, rfl, I38, f40, trivial⟩
    · skip
      refine sA_sipush (z := (-1001)) dd_X8_turn_14 (by decide) ?_
      refine sA_iret (z := -1001) dd_X8_turn_17 rfl ?_
      exact ⟨_, rfl, hI, hf, trivial⟩
end
