noncomputable section
theorem dd_X1_stepsRound_0 : decode cX1_stepsRound 0 = .ok (.iload_n 0, 1) := by decide +kernel
theorem dd_X1_stepsRound_1 : decode cX1_stepsRound 1 = .ok (.bipush 6, 2) := by decide +kernel
theorem dd_X1_stepsRound_3 : decode cX1_stepsRound 3 = .ok (.iadd, 1) := by decide +kernel
theorem dd_X1_stepsRound_4 : decode cX1_stepsRound 4 = .ok (.istore_n 2, 1) := by decide +kernel
theorem dd_X1_stepsRound_5 : decode cX1_stepsRound 5 = .ok (.iload_n 1, 1) := by decide +kernel
theorem dd_X1_stepsRound_6 : decode cX1_stepsRound 6 = .ok (.bipush 6, 2) := by decide +kernel
theorem dd_X1_stepsRound_8 : decode cX1_stepsRound 8 = .ok (.iadd, 1) := by decide +kernel
theorem dd_X1_stepsRound_9 : decode cX1_stepsRound 9 = .ok (.istore_n 3, 1) := by decide +kernel
theorem dd_X1_stepsRound_10 : decode cX1_stepsRound 10 = .ok (.iload_n 2, 1) := by decide +kernel
theorem dd_X1_stepsRound_11 : decode cX1_stepsRound 11 = .ok (.ifCond .lt 23, 3) := by decide +kernel
theorem dd_X1_stepsRound_14 : decode cX1_stepsRound 14 = .ok (.iload_n 2, 1) := by decide +kernel
theorem dd_X1_stepsRound_15 : decode cX1_stepsRound 15 = .ok (.getstatic 52, 3) := by decide +kernel
theorem dd_X1_stepsRound_18 : decode cX1_stepsRound 18 = .ok (.arraylength, 1) := by decide +kernel
theorem dd_X1_stepsRound_19 : decode cX1_stepsRound 19 = .ok (.if_icmp .ge 15, 3) := by decide +kernel
theorem dd_X1_stepsRound_22 : decode cX1_stepsRound 22 = .ok (.iload_n 3, 1) := by decide +kernel
theorem dd_X1_stepsRound_23 : decode cX1_stepsRound 23 = .ok (.ifCond .lt 11, 3) := by decide +kernel
theorem dd_X1_stepsRound_26 : decode cX1_stepsRound 26 = .ok (.iload_n 3, 1) := by decide +kernel
theorem dd_X1_stepsRound_27 : decode cX1_stepsRound 27 = .ok (.getstatic 52, 3) := by decide +kernel
theorem dd_X1_stepsRound_30 : decode cX1_stepsRound 30 = .ok (.arraylength, 1) := by decide +kernel
theorem dd_X1_stepsRound_31 : decode cX1_stepsRound 31 = .ok (.if_icmp .lt 5, 3) := by decide +kernel
theorem dd_X1_stepsRound_34 : decode cX1_stepsRound 34 = .ok (.iconst 0, 1) := by decide +kernel
theorem dd_X1_stepsRound_35 : decode cX1_stepsRound 35 = .ok (.ireturn, 1) := by decide +kernel
theorem dd_X1_stepsRound_36 : decode cX1_stepsRound 36 = .ok (.getstatic 52, 3) := by decide +kernel
theorem dd_X1_stepsRound_39 : decode cX1_stepsRound 39 = .ok (.iload_n 3, 1) := by decide +kernel
theorem dd_X1_stepsRound_40 : decode cX1_stepsRound 40 = .ok (.iaload, 1) := by decide +kernel
theorem dd_X1_stepsRound_41 : decode cX1_stepsRound 41 = .ok (.getstatic 52, 3) := by decide +kernel
theorem dd_X1_stepsRound_44 : decode cX1_stepsRound 44 = .ok (.iload_n 2, 1) := by decide +kernel
theorem dd_X1_stepsRound_45 : decode cX1_stepsRound 45 = .ok (.iaload, 1) := by decide +kernel
theorem dd_X1_stepsRound_46 : decode cX1_stepsRound 46 = .ok (.isub, 1) := by decide +kernel
theorem dd_X1_stepsRound_47 : decode cX1_stepsRound 47 = .ok (.istore 4, 2) := by decide +kernel
theorem dd_X1_stepsRound_49 : decode cX1_stepsRound 49 = .ok (.iload 4, 2) := by decide +kernel
theorem dd_X1_stepsRound_51 : decode cX1_stepsRound 51 = .ok (.ifCond .ge 11, 3) := by decide +kernel
theorem dd_X1_stepsRound_54 : decode cX1_stepsRound 54 = .ok (.iload 4, 2) := by decide +kernel
theorem dd_X1_stepsRound_56 : decode cX1_stepsRound 56 = .ok (.bipush 12, 2) := by decide +kernel
theorem dd_X1_stepsRound_58 : decode cX1_stepsRound 58 = .ok (.iadd, 1) := by decide +kernel
theorem dd_X1_stepsRound_59 : decode cX1_stepsRound 59 = .ok (.goto 5, 3) := by decide +kernel
theorem dd_X1_stepsRound_62 : decode cX1_stepsRound 62 = .ok (.iload 4, 2) := by decide +kernel
theorem dd_X1_stepsRound_64 : decode cX1_stepsRound 64 = .ok (.ireturn, 1) := by decide +kernel
theorem ok_X1_stepsRound : am_okM m_X1_stepsRound 2 ∧ Cond.static m_X1_stepsRound.1 ∈ am_tbl := ri_mk0 445 86 444 0 (by decide +kernel)
theorem c_X1_stepsRound {x y : Int} {F A : gs_F} (hx : -9 ≤ x ∧ x ≤ 9) (hy : -9 ≤ y ∧ y ≤ 9) : sC m_X1_stepsRound 1 [gs_iv x, gs_iv y] F A (fun rv F' A' => ∃ z : Int, rv = some (gs_iv z) ∧ F = F' ∧ A = A' ∧ (-100 ≤ z ∧ z ≤ 100)) := by
  refine sC_of ok_X1_stepsRound.1 (Nat.le_of_ble_eq_true rfl) ?_
  show sA _ _ _ 0 [(0, gs_iv x), (1, gs_iv y)] [] F A
  refine sA_iload_n dd_X1_stepsRound_0 rfl (.head _) ?_
  refine sA_bipush (z := 6) dd_X1_stepsRound_1 (by decide) ?_
  refine sA_iadd dd_X1_stepsRound_3 ?_
  refine sA_istore_n (lv' := [(2, gs_iv (x + 6)), (0, gs_iv x), (1, gs_iv y)]) dd_X1_stepsRound_4 rfl (by decide) rfl ?_
  refine sA_iload_n dd_X1_stepsRound_5 rfl (.tail _ (.tail _ (.head _))) ?_
  refine sA_bipush (z := 6) dd_X1_stepsRound_6 (by decide) ?_
  refine sA_iadd dd_X1_stepsRound_8 ?_
  refine sA_istore_n (lv' := [(3, gs_iv (y + 6)), (2, gs_iv (x + 6)), (0, gs_iv x), (1, gs_iv y)]) dd_X1_stepsRound_9 rfl (by decide) rfl ?_
  refine sA_iload_n dd_X1_stepsRound_10 rfl (.tail _ (.head _)) ?_
  refine sA_if_lt (tgt := 34) dd_X1_stepsRound_11 (by decide) (by omega) (fun q1 => ?_) (fun q1 => ?_)
  · skip
    refine sA_iconst (z := 0) dd_X1_stepsRound_34 ?_
    refine sA_iret (z := 0) dd_X1_stepsRound_35 rfl ?_
    exact ⟨_, rfl, rfl, rfl, by omega⟩
  · skip
    refine sA_iload_n dd_X1_stepsRound_14 rfl (.tail _ (.head _)) ?_
    refine sA_gets dd_X1_stepsRound_15 (ri_lw_in (pl := 446) (by decide +kernel)) ?_
    refine sA_plen dd_X1_stepsRound_18 ?_
    refine sA_icmp_ge (tgt := 34) dd_X1_stepsRound_19 (by decide) (by omega) (by omega) (fun q2 => ?_) (fun q2 => ?_)
    · skip
      refine sA_iconst (z := 0) dd_X1_stepsRound_34 ?_
      refine sA_iret (z := 0) dd_X1_stepsRound_35 rfl ?_
      exact ⟨_, rfl, rfl, rfl, by omega⟩
    · skip
      refine sA_iload_n dd_X1_stepsRound_22 rfl (.head _) ?_
      refine sA_if_lt (tgt := 34) dd_X1_stepsRound_23 (by decide) (by omega) (fun q3 => ?_) (fun q3 => ?_)
      · skip
        refine sA_iconst (z := 0) dd_X1_stepsRound_34 ?_
        refine sA_iret (z := 0) dd_X1_stepsRound_35 rfl ?_
        exact ⟨_, rfl, rfl, rfl, by omega⟩
      · skip
        refine sA_iload_n dd_X1_stepsRound_26 rfl (.head _) ?_
        refine sA_gets dd_X1_stepsRound_27 (ri_lw_in (pl := 446) (by decide +kernel)) ?_
        refine sA_plen dd_X1_stepsRound_30 ?_
        refine sA_icmp_lt (tgt := 36) dd_X1_stepsRound_31 (by decide) (by omega) (by omega) (fun q4 => ?_) (fun q4 => ?_)
        · skip
          refine sA_gets dd_X1_stepsRound_36 (ri_lw_in (pl := 446) (by decide +kernel)) ?_
          refine sA_iload_n dd_X1_stepsRound_39 rfl (.head _) ?_
          refine sA_plald dd_X1_stepsRound_40 (by omega) ?_
          have b5 := gs_pl_bd ((y + 6).toNat)
          generalize gs_t (am_PL (y + 6).toNat) = w6 at b5 ⊢
          refine sA_gets dd_X1_stepsRound_41 (ri_lw_in (pl := 446) (by decide +kernel)) ?_
          refine sA_iload_n dd_X1_stepsRound_44 rfl (.tail _ (.head _)) ?_
          refine sA_plald dd_X1_stepsRound_45 (by omega) ?_
          have b7 := gs_pl_bd ((x + 6).toNat)
          generalize gs_t (am_PL (x + 6).toNat) = w8 at b7 ⊢
          refine sA_isub dd_X1_stepsRound_46 ?_
          refine sA_istore (lv' := [(4, gs_iv (w6 - w8)), (3, gs_iv (y + 6)), (2, gs_iv (x + 6)), (0, gs_iv x), (1, gs_iv y)]) dd_X1_stepsRound_47 (by decide) rfl ?_
          refine sA_iload dd_X1_stepsRound_49 (.head _) ?_
          refine sA_if_ge (tgt := 62) dd_X1_stepsRound_51 (by decide) (by omega) (fun q9 => ?_) (fun q9 => ?_)
          · skip
            refine sA_iload dd_X1_stepsRound_62 (.head _) ?_
            refine sA_iret (z := w6 - w8) dd_X1_stepsRound_64 rfl ?_
            exact ⟨_, rfl, rfl, rfl, by omega⟩
          · skip
            refine sA_iload dd_X1_stepsRound_54 (.head _) ?_
            refine sA_bipush (z := 12) dd_X1_stepsRound_56 (by decide) ?_
            refine sA_iadd dd_X1_stepsRound_58 ?_
            refine sA_goto (tgt := 64) dd_X1_stepsRound_59 (by decide) ?_
            refine sA_iret (z := (w6 - w8) + 12) dd_X1_stepsRound_64 rfl ?_
            exact ⟨_, rfl, rfl, rfl, by omega⟩
        · skip
          refine sA_iconst (z := 0) dd_X1_stepsRound_34 ?_
          refine sA_iret (z := 0) dd_X1_stepsRound_35 rfl ?_
          exact ⟨_, rfl, rfl, rfl, by omega⟩
theorem dd_X1_goRound_0 : decode cX1_goRound 0 = .ok (.iload_n 0, 1) := by decide +kernel
theorem dd_X1_goRound_1 : decode cX1_goRound 1 = .ok (.iload_n 1, 1) := by decide +kernel
theorem dd_X1_goRound_2 : decode cX1_goRound 2 = .ok (.invokestatic 48, 3) := by decide +kernel
theorem dd_X1_goRound_5 : decode cX1_goRound 5 = .ok (.iload_n 0, 1) := by decide +kernel
theorem dd_X1_goRound_6 : decode cX1_goRound 6 = .ok (.iload_n 2, 1) := by decide +kernel
theorem dd_X1_goRound_7 : decode cX1_goRound 7 = .ok (.invokestatic 48, 3) := by decide +kernel
theorem dd_X1_goRound_10 : decode cX1_goRound 10 = .ok (.if_icmp .ge 7, 3) := by decide +kernel
theorem dd_X1_goRound_13 : decode cX1_goRound 13 = .ok (.iconst 1, 1) := by decide +kernel
theorem dd_X1_goRound_14 : decode cX1_goRound 14 = .ok (.goto 4, 3) := by decide +kernel
theorem dd_X1_goRound_17 : decode cX1_goRound 17 = .ok (.iconst 0, 1) := by decide +kernel
theorem dd_X1_goRound_18 : decode cX1_goRound 18 = .ok (.ireturn, 1) := by decide +kernel
theorem ml_X1_48 : Cond.methodLink RX1 48 m_X1_stepsRound.1 ∈ am_tbl := ri_lw_in (pl := 443) (by decide +kernel)
theorem ok_X1_goRound : am_okM m_X1_goRound 3 ∧ Cond.static m_X1_goRound.1 ∈ am_tbl := ri_mk0 442 86 441 0 (by decide +kernel)
theorem c_X1_goRound {x y u : Int} {F A : gs_F} (hx : -9 ≤ x ∧ x ≤ 9) (hy : -9 ≤ y ∧ y ≤ 9) (hu : -9 ≤ u ∧ u ≤ 9) : sC m_X1_goRound 2 [gs_iv x, gs_iv y, gs_iv u] F A (fun rv F' A' => ∃ z : Int, rv = some (gs_iv z) ∧ F = F' ∧ A = A' ∧ (z = 0 ∨ z = 1)) := by
  refine sC_of ok_X1_goRound.1 (Nat.le_of_ble_eq_true rfl) ?_
  show sA _ _ _ 0 [(0, gs_iv x), (1, gs_iv y), (2, gs_iv u)] [] F A
  refine sA_iload_n dd_X1_goRound_0 rfl (.head _) ?_
  refine sA_iload_n dd_X1_goRound_1 rfl (.tail _ (.head _)) ?_
  refine sA_callS (y2 := m_X1_stepsRound) (n2 := 2) (d2 := 1) (as := [gs_iv x, gs_iv y]) (rest := []) dd_X1_goRound_2 ok_X1_stepsRound ml_X1_48 rfl rfl (Nat.le_of_ble_eq_true rfl) (by decide) (c_X1_stepsRound (by omega) (by omega)) (fun r1 F2 A3 h4 => ?_)
  obtain ⟨z7, e6, e8, e9, x5⟩ := h4
  subst e6 e8 e9
  show sA _ _ _ 5 _ [gs_iv z7] _ _
  refine sA_iload_n dd_X1_goRound_5 rfl (.head _) ?_
  refine sA_iload_n dd_X1_goRound_6 rfl (.tail _ (.tail _ (.head _))) ?_
  refine sA_callS (y2 := m_X1_stepsRound) (n2 := 2) (d2 := 1) (as := [gs_iv x, gs_iv u]) (rest := [gs_iv z7]) dd_X1_goRound_7 ok_X1_stepsRound ml_X1_48 rfl rfl (Nat.le_of_ble_eq_true rfl) (by decide) (c_X1_stepsRound (by omega) (by omega)) (fun r10 F11 A12 h13 => ?_)
  obtain ⟨z16, e15, e17, e18, x14⟩ := h13
  subst e15 e17 e18
  show sA _ _ _ 10 _ [gs_iv z16, gs_iv z7] _ _
  refine sA_icmp_ge (tgt := 17) dd_X1_goRound_10 (by decide) (by omega) (by omega) (fun q19 => ?_) (fun q19 => ?_)
  · skip
    refine sA_iconst (z := 0) dd_X1_goRound_17 ?_
    refine sA_bret (z := 0) dd_X1_goRound_18 rfl (by omega) ?_
    exact ⟨_, rfl, rfl, rfl, by omega⟩
  · skip
    refine sA_iconst (z := 1) dd_X1_goRound_13 ?_
    refine sA_goto (tgt := 18) dd_X1_goRound_14 (by decide) ?_
    refine sA_bret (z := 1) dd_X1_goRound_18 rfl (by omega) ?_
    exact ⟨_, rfl, rfl, rfl, by omega⟩
theorem dd_X1_cross_0 : decode cX1_cross 0 = .ok (.iload_n 0, 1) := by decide +kernel
theorem dd_X1_cross_1 : decode cX1_cross 1 = .ok (.iload_n 2, 1) := by decide +kernel
theorem dd_X1_cross_2 : decode cX1_cross 2 = .ok (.if_icmp .eq 13, 3) := by decide +kernel
theorem dd_X1_cross_5 : decode cX1_cross 5 = .ok (.iload_n 0, 1) := by decide +kernel
theorem dd_X1_cross_6 : decode cX1_cross 6 = .ok (.iload_n 3, 1) := by decide +kernel
theorem dd_X1_cross_7 : decode cX1_cross 7 = .ok (.if_icmp .eq 8, 3) := by decide +kernel
theorem dd_X1_cross_10 : decode cX1_cross 10 = .ok (.iload_n 1, 1) := by decide +kernel
theorem dd_X1_cross_11 : decode cX1_cross 11 = .ok (.iload_n 2, 1) := by decide +kernel
theorem dd_X1_cross_12 : decode cX1_cross 12 = .ok (.if_icmp .ne 5, 3) := by decide +kernel
theorem dd_X1_cross_15 : decode cX1_cross 15 = .ok (.iconst 0, 1) := by decide +kernel
theorem dd_X1_cross_16 : decode cX1_cross 16 = .ok (.ireturn, 1) := by decide +kernel
theorem dd_X1_cross_17 : decode cX1_cross 17 = .ok (.iload_n 0, 1) := by decide +kernel
theorem dd_X1_cross_18 : decode cX1_cross 18 = .ok (.iload_n 2, 1) := by decide +kernel
theorem dd_X1_cross_19 : decode cX1_cross 19 = .ok (.iload_n 1, 1) := by decide +kernel
theorem dd_X1_cross_20 : decode cX1_cross 20 = .ok (.invokestatic 44, 3) := by decide +kernel
theorem dd_X1_cross_23 : decode cX1_cross 23 = .ok (.iload_n 0, 1) := by decide +kernel
theorem dd_X1_cross_24 : decode cX1_cross 24 = .ok (.iload_n 3, 1) := by decide +kernel
theorem dd_X1_cross_25 : decode cX1_cross 25 = .ok (.iload_n 1, 1) := by decide +kernel
theorem dd_X1_cross_26 : decode cX1_cross 26 = .ok (.invokestatic 44, 3) := by decide +kernel
theorem dd_X1_cross_29 : decode cX1_cross 29 = .ok (.if_icmp .eq 7, 3) := by decide +kernel
theorem dd_X1_cross_32 : decode cX1_cross 32 = .ok (.iconst 1, 1) := by decide +kernel
theorem dd_X1_cross_33 : decode cX1_cross 33 = .ok (.goto 4, 3) := by decide +kernel
theorem dd_X1_cross_36 : decode cX1_cross 36 = .ok (.iconst 0, 1) := by decide +kernel
theorem dd_X1_cross_37 : decode cX1_cross 37 = .ok (.ireturn, 1) := by decide +kernel
theorem ml_X1_44 : Cond.methodLink RX1 44 m_X1_goRound.1 ∈ am_tbl := ri_lw_in (pl := 440) (by decide +kernel)
theorem ok_X1_cross : am_okM m_X1_cross 4 ∧ Cond.static m_X1_cross.1 ∈ am_tbl := ri_mk0 450 86 449 0 (by decide +kernel)
theorem c_X1_cross {x y u v : Int} {F A : gs_F} (hx : -9 ≤ x ∧ x ≤ 9) (hy : -9 ≤ y ∧ y ≤ 9) (hu : -9 ≤ u ∧ u ≤ 9) (hv : -9 ≤ v ∧ v ≤ 9) : sC m_X1_cross 3 [gs_iv x, gs_iv y, gs_iv u, gs_iv v] F A (fun rv F' A' => ∃ z : Int, rv = some (gs_iv z) ∧ F = F' ∧ A = A' ∧ (z = 0 ∨ z = 1)) := by
  refine sC_of ok_X1_cross.1 (Nat.le_of_ble_eq_true rfl) ?_
  show sA _ _ _ 0 [(0, gs_iv x), (1, gs_iv y), (2, gs_iv u), (3, gs_iv v)] [] F A
  refine sA_iload_n dd_X1_cross_0 rfl (.head _) ?_
  refine sA_iload_n dd_X1_cross_1 rfl (.tail _ (.tail _ (.head _))) ?_
  refine sA_icmp_eq (tgt := 15) dd_X1_cross_2 (by decide) (by omega) (by omega) (fun q1 => ?_) (fun q1 => ?_)
  · skip
    refine sA_iconst (z := 0) dd_X1_cross_15 ?_
    refine sA_bret (z := 0) dd_X1_cross_16 rfl (by omega) ?_
    exact ⟨_, rfl, rfl, rfl, by omega⟩
  · skip
    refine sA_iload_n dd_X1_cross_5 rfl (.head _) ?_
    refine sA_iload_n dd_X1_cross_6 rfl (.tail _ (.tail _ (.tail _ (.head _)))) ?_
    refine sA_icmp_eq (tgt := 15) dd_X1_cross_7 (by decide) (by omega) (by omega) (fun q2 => ?_) (fun q2 => ?_)
    · skip
      refine sA_iconst (z := 0) dd_X1_cross_15 ?_
      refine sA_bret (z := 0) dd_X1_cross_16 rfl (by omega) ?_
      exact ⟨_, rfl, rfl, rfl, by omega⟩
    · skip
      refine sA_iload_n dd_X1_cross_10 rfl (.tail _ (.head _)) ?_
      refine sA_iload_n dd_X1_cross_11 rfl (.tail _ (.tail _ (.head _))) ?_
      refine sA_icmp_ne (tgt := 17) dd_X1_cross_12 (by decide) (by omega) (by omega) (fun q3 => ?_) (fun q3 => ?_)
      · skip
        refine sA_iload_n dd_X1_cross_17 rfl (.head _) ?_
        refine sA_iload_n dd_X1_cross_18 rfl (.tail _ (.tail _ (.head _))) ?_
        refine sA_iload_n dd_X1_cross_19 rfl (.tail _ (.head _)) ?_
        refine sA_callS (y2 := m_X1_goRound) (n2 := 3) (d2 := 2) (as := [gs_iv x, gs_iv u, gs_iv y]) (rest := []) dd_X1_cross_20 ok_X1_goRound ml_X1_44 rfl rfl (Nat.le_of_ble_eq_true rfl) (by decide) (c_X1_goRound (by omega) (by omega) (by omega)) (fun r4 F5 A6 h7 => ?_)
        obtain ⟨z10, e9, e11, e12, x8⟩ := h7
        subst e9 e11 e12
        show sA _ _ _ 23 _ [gs_iv z10] _ _
        refine sA_iload_n dd_X1_cross_23 rfl (.head _) ?_
        refine sA_iload_n dd_X1_cross_24 rfl (.tail _ (.tail _ (.tail _ (.head _)))) ?_
        refine sA_iload_n dd_X1_cross_25 rfl (.tail _ (.head _)) ?_
        refine sA_callS (y2 := m_X1_goRound) (n2 := 3) (d2 := 2) (as := [gs_iv x, gs_iv v, gs_iv y]) (rest := [gs_iv z10]) dd_X1_cross_26 ok_X1_goRound ml_X1_44 rfl rfl (Nat.le_of_ble_eq_true rfl) (by decide) (c_X1_goRound (by omega) (by omega) (by omega)) (fun r13 F14 A15 h16 => ?_)
        obtain ⟨z19, e18, e20, e21, x17⟩ := h16
        subst e18 e20 e21
        show sA _ _ _ 29 _ [gs_iv z19, gs_iv z10] _ _
        refine sA_icmp_eq (tgt := 36) dd_X1_cross_29 (by decide) (by omega) (by omega) (fun q22 => ?_) (fun q22 => ?_)
        · skip
          refine sA_iconst (z := 0) dd_X1_cross_36 ?_
          refine sA_bret (z := 0) dd_X1_cross_37 rfl (by omega) ?_
          exact ⟨_, rfl, rfl, rfl, by omega⟩
        · skip
          refine sA_iconst (z := 1) dd_X1_cross_32 ?_
          refine sA_goto (tgt := 37) dd_X1_cross_33 (by decide) ?_
          refine sA_bret (z := 1) dd_X1_cross_37 rfl (by omega) ?_
          exact ⟨_, rfl, rfl, rfl, by omega⟩
      · skip
        refine sA_iconst (z := 0) dd_X1_cross_15 ?_
        refine sA_bret (z := 0) dd_X1_cross_16 rfl (by omega) ?_
        exact ⟨_, rfl, rfl, rfl, by omega⟩
theorem dd_X1_changeSides_0 : decode cX1_changeSides 0 = .ok (.aload_n 0, 1) := by decide +kernel
theorem dd_X1_changeSides_1 : decode cX1_changeSides 1 = .ok (.getfield 32, 3) := by decide +kernel
theorem dd_X1_changeSides_4 : decode cX1_changeSides 4 = .ok (.iload_n 1, 1) := by decide +kernel
theorem dd_X1_changeSides_5 : decode cX1_changeSides 5 = .ok (.iaload, 1) := by decide +kernel
theorem dd_X1_changeSides_6 : decode cX1_changeSides 6 = .ok (.istore 4, 2) := by decide +kernel
theorem dd_X1_changeSides_8 : decode cX1_changeSides 8 = .ok (.aload_n 0, 1) := by decide +kernel
theorem dd_X1_changeSides_9 : decode cX1_changeSides 9 = .ok (.getfield 32, 3) := by decide +kernel
theorem dd_X1_changeSides_12 : decode cX1_changeSides 12 = .ok (.iload_n 1, 1) := by decide +kernel
theorem dd_X1_changeSides_13 : decode cX1_changeSides 13 = .ok (.ifCond .ne 12, 3) := by decide +kernel
theorem dd_X1_changeSides_16 : decode cX1_changeSides 16 = .ok (.aload_n 0, 1) := by decide +kernel
theorem dd_X1_changeSides_17 : decode cX1_changeSides 17 = .ok (.getfield 28, 3) := by decide +kernel
theorem dd_X1_changeSides_20 : decode cX1_changeSides 20 = .ok (.iconst 1, 1) := by decide +kernel
theorem dd_X1_changeSides_21 : decode cX1_changeSides 21 = .ok (.isub, 1) := by decide +kernel
theorem dd_X1_changeSides_22 : decode cX1_changeSides 22 = .ok (.goto 6, 3) := by decide +kernel
theorem dd_X1_changeSides_25 : decode cX1_changeSides 25 = .ok (.iload_n 1, 1) := by decide +kernel
theorem dd_X1_changeSides_26 : decode cX1_changeSides 26 = .ok (.iconst 1, 1) := by decide +kernel
theorem dd_X1_changeSides_27 : decode cX1_changeSides 27 = .ok (.isub, 1) := by decide +kernel
theorem dd_X1_changeSides_28 : decode cX1_changeSides 28 = .ok (.iaload, 1) := by decide +kernel
theorem dd_X1_changeSides_29 : decode cX1_changeSides 29 = .ok (.ineg, 1) := by decide +kernel
theorem dd_X1_changeSides_30 : decode cX1_changeSides 30 = .ok (.istore 5, 2) := by decide +kernel
theorem dd_X1_changeSides_32 : decode cX1_changeSides 32 = .ok (.aload_n 2, 1) := by decide +kernel
theorem dd_X1_changeSides_33 : decode cX1_changeSides 33 = .ok (.getfield 32, 3) := by decide +kernel
theorem dd_X1_changeSides_36 : decode cX1_changeSides 36 = .ok (.iload_n 3, 1) := by decide +kernel
theorem dd_X1_changeSides_37 : decode cX1_changeSides 37 = .ok (.ifCond .ne 12, 3) := by decide +kernel
theorem dd_X1_changeSides_40 : decode cX1_changeSides 40 = .ok (.aload_n 2, 1) := by decide +kernel
theorem dd_X1_changeSides_41 : decode cX1_changeSides 41 = .ok (.getfield 28, 3) := by decide +kernel
theorem dd_X1_changeSides_44 : decode cX1_changeSides 44 = .ok (.iconst 1, 1) := by decide +kernel
theorem dd_X1_changeSides_45 : decode cX1_changeSides 45 = .ok (.isub, 1) := by decide +kernel
theorem dd_X1_changeSides_46 : decode cX1_changeSides 46 = .ok (.goto 6, 3) := by decide +kernel
theorem dd_X1_changeSides_49 : decode cX1_changeSides 49 = .ok (.iload_n 3, 1) := by decide +kernel
theorem dd_X1_changeSides_50 : decode cX1_changeSides 50 = .ok (.iconst 1, 1) := by decide +kernel
theorem dd_X1_changeSides_51 : decode cX1_changeSides 51 = .ok (.isub, 1) := by decide +kernel
theorem dd_X1_changeSides_52 : decode cX1_changeSides 52 = .ok (.iaload, 1) := by decide +kernel
theorem dd_X1_changeSides_53 : decode cX1_changeSides 53 = .ok (.ineg, 1) := by decide +kernel
theorem dd_X1_changeSides_54 : decode cX1_changeSides 54 = .ok (.istore 6, 2) := by decide +kernel
theorem dd_X1_changeSides_56 : decode cX1_changeSides 56 = .ok (.iload_n 1, 1) := by decide +kernel
theorem dd_X1_changeSides_57 : decode cX1_changeSides 57 = .ok (.istore 7, 2) := by decide +kernel
theorem dd_X1_changeSides_59 : decode cX1_changeSides 59 = .ok (.iload_n 3, 1) := by decide +kernel
theorem dd_X1_changeSides_60 : decode cX1_changeSides 60 = .ok (.istore 8, 2) := by decide +kernel
theorem dd_X1_changeSides_62 : decode cX1_changeSides 62 = .ok (.iload 4, 2) := by decide +kernel
theorem dd_X1_changeSides_64 : decode cX1_changeSides 64 = .ok (.istore 9, 2) := by decide +kernel
theorem dd_X1_changeSides_66 : decode cX1_changeSides 66 = .ok (.iconst 0, 1) := by decide +kernel
theorem dd_X1_changeSides_67 : decode cX1_changeSides 67 = .ok (.istore 10, 2) := by decide +kernel
theorem dd_X1_changeSides_69 : decode cX1_changeSides 69 = .ok (.iload 10, 2) := by decide +kernel
theorem dd_X1_changeSides_71 : decode cX1_changeSides 71 = .ok (.aload_n 0, 1) := by decide +kernel
theorem dd_X1_changeSides_72 : decode cX1_changeSides 72 = .ok (.getfield 28, 3) := by decide +kernel
theorem dd_X1_changeSides_75 : decode cX1_changeSides 75 = .ok (.aload_n 2, 1) := by decide +kernel
theorem dd_X1_changeSides_76 : decode cX1_changeSides 76 = .ok (.getfield 28, 3) := by decide +kernel
theorem dd_X1_changeSides_79 : decode cX1_changeSides 79 = .ok (.iadd, 1) := by decide +kernel
theorem dd_X1_changeSides_80 : decode cX1_changeSides 80 = .ok (.if_icmp .ge 108, 3) := by decide +kernel
theorem dd_X1_changeSides_83 : decode cX1_changeSides 83 = .ok (.aload_n 0, 1) := by decide +kernel
theorem dd_X1_changeSides_84 : decode cX1_changeSides 84 = .ok (.getfield 32, 3) := by decide +kernel
theorem dd_X1_changeSides_87 : decode cX1_changeSides 87 = .ok (.iload 7, 2) := by decide +kernel
theorem dd_X1_changeSides_89 : decode cX1_changeSides 89 = .ok (.iaload, 1) := by decide +kernel
theorem dd_X1_changeSides_90 : decode cX1_changeSides 90 = .ok (.istore 11, 2) := by decide +kernel
theorem dd_X1_changeSides_92 : decode cX1_changeSides 92 = .ok (.aload_n 2, 1) := by decide +kernel
theorem dd_X1_changeSides_93 : decode cX1_changeSides 93 = .ok (.getfield 32, 3) := by decide +kernel
theorem dd_X1_changeSides_96 : decode cX1_changeSides 96 = .ok (.iload 8, 2) := by decide +kernel
theorem dd_X1_changeSides_98 : decode cX1_changeSides 98 = .ok (.iaload, 1) := by decide +kernel
theorem dd_X1_changeSides_99 : decode cX1_changeSides 99 = .ok (.istore 12, 2) := by decide +kernel
theorem dd_X1_changeSides_101 : decode cX1_changeSides 101 = .ok (.iload 11, 2) := by decide +kernel
theorem dd_X1_changeSides_103 : decode cX1_changeSides 103 = .ok (.iload 12, 2) := by decide +kernel
theorem dd_X1_changeSides_105 : decode cX1_changeSides 105 = .ok (.if_icmp .eq 31, 3) := by decide +kernel
theorem dd_X1_changeSides_108 : decode cX1_changeSides 108 = .ok (.iload 4, 2) := by decide +kernel
theorem dd_X1_changeSides_110 : decode cX1_changeSides 110 = .ok (.iload 5, 2) := by decide +kernel
theorem dd_X1_changeSides_112 : decode cX1_changeSides 112 = .ok (.iload 6, 2) := by decide +kernel
theorem dd_X1_changeSides_114 : decode cX1_changeSides 114 = .ok (.invokestatic 44, 3) := by decide +kernel
theorem dd_X1_changeSides_117 : decode cX1_changeSides 117 = .ok (.iload 9, 2) := by decide +kernel
theorem dd_X1_changeSides_119 : decode cX1_changeSides 119 = .ok (.ineg, 1) := by decide +kernel
theorem dd_X1_changeSides_120 : decode cX1_changeSides 120 = .ok (.iload 11, 2) := by decide +kernel
theorem dd_X1_changeSides_122 : decode cX1_changeSides 122 = .ok (.iload 12, 2) := by decide +kernel
theorem dd_X1_changeSides_124 : decode cX1_changeSides 124 = .ok (.invokestatic 44, 3) := by decide +kernel
theorem dd_X1_changeSides_127 : decode cX1_changeSides 127 = .ok (.if_icmp .ne 7, 3) := by decide +kernel
theorem dd_X1_changeSides_130 : decode cX1_changeSides 130 = .ok (.iconst 1, 1) := by decide +kernel
theorem dd_X1_changeSides_131 : decode cX1_changeSides 131 = .ok (.goto 4, 3) := by decide +kernel
theorem dd_X1_changeSides_134 : decode cX1_changeSides 134 = .ok (.iconst 0, 1) := by decide +kernel
theorem dd_X1_changeSides_135 : decode cX1_changeSides 135 = .ok (.ireturn, 1) := by decide +kernel
theorem dd_X1_changeSides_136 : decode cX1_changeSides 136 = .ok (.iload 11, 2) := by decide +kernel
theorem dd_X1_changeSides_138 : decode cX1_changeSides 138 = .ok (.istore 9, 2) := by decide +kernel
theorem dd_X1_changeSides_140 : decode cX1_changeSides 140 = .ok (.iload 7, 2) := by decide +kernel
theorem dd_X1_changeSides_142 : decode cX1_changeSides 142 = .ok (.iconst 1, 1) := by decide +kernel
theorem dd_X1_changeSides_143 : decode cX1_changeSides 143 = .ok (.iadd, 1) := by decide +kernel
theorem dd_X1_changeSides_144 : decode cX1_changeSides 144 = .ok (.aload_n 0, 1) := by decide +kernel
theorem dd_X1_changeSides_145 : decode cX1_changeSides 145 = .ok (.getfield 28, 3) := by decide +kernel
theorem dd_X1_changeSides_148 : decode cX1_changeSides 148 = .ok (.if_icmp .ne 7, 3) := by decide +kernel
theorem dd_X1_changeSides_151 : decode cX1_changeSides 151 = .ok (.iconst 0, 1) := by decide +kernel
theorem dd_X1_changeSides_152 : decode cX1_changeSides 152 = .ok (.goto 7, 3) := by decide +kernel
theorem dd_X1_changeSides_155 : decode cX1_changeSides 155 = .ok (.iload 7, 2) := by decide +kernel
theorem dd_X1_changeSides_157 : decode cX1_changeSides 157 = .ok (.iconst 1, 1) := by decide +kernel
theorem dd_X1_changeSides_158 : decode cX1_changeSides 158 = .ok (.iadd, 1) := by decide +kernel
theorem dd_X1_changeSides_159 : decode cX1_changeSides 159 = .ok (.istore 7, 2) := by decide +kernel
theorem dd_X1_changeSides_161 : decode cX1_changeSides 161 = .ok (.iload 8, 2) := by decide +kernel
theorem dd_X1_changeSides_163 : decode cX1_changeSides 163 = .ok (.iconst 1, 1) := by decide +kernel
theorem dd_X1_changeSides_164 : decode cX1_changeSides 164 = .ok (.iadd, 1) := by decide +kernel
theorem dd_X1_changeSides_165 : decode cX1_changeSides 165 = .ok (.aload_n 2, 1) := by decide +kernel
theorem dd_X1_changeSides_166 : decode cX1_changeSides 166 = .ok (.getfield 28, 3) := by decide +kernel
theorem dd_X1_changeSides_169 : decode cX1_changeSides 169 = .ok (.if_icmp .ne 7, 3) := by decide +kernel
theorem dd_X1_changeSides_172 : decode cX1_changeSides 172 = .ok (.iconst 0, 1) := by decide +kernel
theorem dd_X1_changeSides_173 : decode cX1_changeSides 173 = .ok (.goto 7, 3) := by decide +kernel
theorem dd_X1_changeSides_176 : decode cX1_changeSides 176 = .ok (.iload 8, 2) := by decide +kernel
theorem dd_X1_changeSides_178 : decode cX1_changeSides 178 = .ok (.iconst 1, 1) := by decide +kernel
theorem dd_X1_changeSides_179 : decode cX1_changeSides 179 = .ok (.iadd, 1) := by decide +kernel
theorem dd_X1_changeSides_180 : decode cX1_changeSides 180 = .ok (.istore 8, 2) := by decide +kernel
theorem dd_X1_changeSides_182 : decode cX1_changeSides 182 = .ok (.iinc 10 1, 3) := by decide +kernel
theorem dd_X1_changeSides_185 : decode cX1_changeSides 185 = .ok (.goto (-116), 3) := by decide +kernel
theorem dd_X1_changeSides_188 : decode cX1_changeSides 188 = .ok (.iconst 0, 1) := by decide +kernel
theorem dd_X1_changeSides_189 : decode cX1_changeSides 189 = .ok (.ireturn, 1) := by decide +kernel
theorem fl_X1_28 : Cond.fieldLink RX1 28 (TX4 1).1 (TX4 1).2.1 (TX4 1).2.2.1 ∈ am_tbl := ri_lw_in (pl := 121) (by decide +kernel)
theorem fl_X1_32 : Cond.fieldLink RX1 32 (TX4 0).1 (TX4 0).2.1 (TX4 0).2.2.1 ∈ am_tbl := ri_lw_in (pl := 117) (by decide +kernel)
theorem ok_X1_changeSides : am_okM m_X1_changeSides 4 ∧ Cond.static m_X1_changeSides.1 ∈ am_tbl := ri_mk0 439 86 438 0 (by decide +kernel)
theorem k_X1_changeSides {a L b M : Nat} {i j : Int} {F A : gs_F} (hI : gs_I F A) (hr : gs_row a L) (hi : 0 ≤ i ∧ i < F a 1) (ho : gs_row b M) (hj : 0 ≤ j ∧ j < F b 1) : ∀ nN : Nat, (∀ (u : Int) (x : Int) (y : Int) (p : Int) (q : Int) (l : Int) (k : Int),  -9 ≤ u ∧ u ≤ 9 → -9 ≤ x ∧ x ≤ 9 → -9 ≤ y ∧ y ≤ 9 → -9 ≤ l ∧ l ≤ 9 → 0 ≤ p ∧ p < F a 1 → 0 ≤ q ∧ q < F b 1 → 0 ≤ k ∧ k ≤ F a 1 + F b 1 → F a 1 + F b 1 - k < (nN : Int) → sA m_X1_changeSides 3 (fun rv F' A' => ∃ z : Int, rv = some (gs_iv z) ∧ F = F' ∧ A = A' ∧ (z = 0 ∨ z = 1)) 69 [(10, gs_iv k), (9, gs_iv l), (8, gs_iv q), (7, gs_iv p), (6, gs_iv y), (5, gs_iv x), (4, gs_iv u), (0, .ref a), (2, .ref b)] [] F A) := by
  intro nN
  induction nN with
  | zero =>
    exact fun a0 a1 a2 a3 a4 a5 a6 i0 i1 i2 i3 i4 i5 i6 hm => by exfalso; omega
  | succ nN ih =>
    intro u x y p q l k i0 i1 i2 i3 i4 i5 i6 hm
    have b1 := gs_row_sz hr hI
    have b2 := gs_row_sz ho hI
    refine sA_iload dd_X1_changeSides_69 (.head _) ?_
    refine sA_aload_n dd_X1_changeSides_71 rfl (.tail _ (.tail _ (.tail _ (.tail _ (.tail _ (.tail _ (.tail _ (.head _)))))))) ?_
    refine sA_geti (ci := 4) (j := 1) (q := (RX4, TX4, 2)) dd_X1_changeSides_72 rfl (by decide) fl_X1_28 (Nat.lt_of_succ_lt hr.1) hr.2.1 rfl ?_
    refine sA_aload_n dd_X1_changeSides_75 rfl (.tail _ (.tail _ (.tail _ (.tail _ (.tail _ (.tail _ (.tail _ (.tail _ (.head _))))))))) ?_
    refine sA_geti (ci := 4) (j := 1) (q := (RX4, TX4, 2)) dd_X1_changeSides_76 rfl (by decide) fl_X1_28 (Nat.lt_of_succ_lt ho.1) ho.2.1 rfl ?_
    refine sA_iadd dd_X1_changeSides_79 ?_
    refine sA_icmp_ge (tgt := 188) dd_X1_changeSides_80 (by decide) (by omega) (by omega) (fun q3 => ?_) (fun q3 => ?_)
    · skip
      refine sA_iconst (z := 0) dd_X1_changeSides_188 ?_
      refine sA_bret (z := 0) dd_X1_changeSides_189 rfl (by omega) ?_
      exact ⟨_, rfl, rfl, rfl, by omega⟩
    · skip
      refine sA_aload_n dd_X1_changeSides_83 rfl (.tail _ (.tail _ (.tail _ (.tail _ (.tail _ (.tail _ (.tail _ (.head _)))))))) ?_
      refine sA_getr (ci := 4) (j := 0) (q := (RX4, TX4, 2)) dd_X1_changeSides_84 rfl (by decide) fl_X1_32 (Nat.lt_of_succ_lt hr.1) hr.2.1 rfl ?_
      refine sA_iload dd_X1_changeSides_87 (.tail _ (.tail _ (.tail _ (.head _)))) ?_
      refine sA_iald (n := L) dd_X1_changeSides_89 hr.1 hr.2.2.1 (by omega) (Nat.le_trans hr.2.2.2.2.2.2 (by decide)) ?_
      have b4 := gs_row_el hr hI p.toNat
      refine sA_istore (lv' := [(11, gs_iv (A (a + 1) p.toNat)), (10, gs_iv k), (9, gs_iv l), (8, gs_iv q), (7, gs_iv p), (6, gs_iv y), (5, gs_iv x), (4, gs_iv u), (0, .ref a), (2, .ref b)]) dd_X1_changeSides_90 (by decide) rfl ?_
      refine sA_aload_n dd_X1_changeSides_92 rfl (.tail _ (.tail _ (.tail _ (.tail _ (.tail _ (.tail _ (.tail _ (.tail _ (.tail _ (.head _)))))))))) ?_
      refine sA_getr (ci := 4) (j := 0) (q := (RX4, TX4, 2)) dd_X1_changeSides_93 rfl (by decide) fl_X1_32 (Nat.lt_of_succ_lt ho.1) ho.2.1 rfl ?_
      refine sA_iload dd_X1_changeSides_96 (.tail _ (.tail _ (.tail _ (.head _)))) ?_
      refine sA_iald (n := M) dd_X1_changeSides_98 ho.1 ho.2.2.1 (by omega) (Nat.le_trans ho.2.2.2.2.2.2 (by decide)) ?_
      have b5 := gs_row_el ho hI q.toNat
      refine sA_istore (lv' := [(12, gs_iv (A (b + 1) q.toNat)), (11, gs_iv (A (a + 1) p.toNat)), (10, gs_iv k), (9, gs_iv l), (8, gs_iv q), (7, gs_iv p), (6, gs_iv y), (5, gs_iv x), (4, gs_iv u), (0, .ref a), (2, .ref b)]) dd_X1_changeSides_99 (by decide) rfl ?_
      refine sA_iload dd_X1_changeSides_101 (.tail _ (.head _)) ?_
      refine sA_iload dd_X1_changeSides_103 (.head _) ?_
      refine sA_icmp_eq (tgt := 136) dd_X1_changeSides_105 (by decide) (by omega) (by omega) (fun q6 => ?_) (fun q6 => ?_)
      · skip
        refine sA_iload dd_X1_changeSides_136 (.tail _ (.head _)) ?_
        refine sA_istore (lv' := [(9, gs_iv (A (a + 1) p.toNat)), (12, gs_iv (A (b + 1) q.toNat)), (11, gs_iv (A (a + 1) p.toNat)), (10, gs_iv k), (8, gs_iv q), (7, gs_iv p), (6, gs_iv y), (5, gs_iv x), (4, gs_iv u), (0, .ref a), (2, .ref b)]) dd_X1_changeSides_138 (by decide) rfl ?_
        refine sA_iload dd_X1_changeSides_140 (.tail _ (.tail _ (.tail _ (.tail _ (.tail _ (.head _)))))) ?_
        refine sA_iconst (z := 1) dd_X1_changeSides_142 ?_
        refine sA_iadd dd_X1_changeSides_143 ?_
        refine sA_aload_n dd_X1_changeSides_144 rfl (.tail _ (.tail _ (.tail _ (.tail _ (.tail _ (.tail _ (.tail _ (.tail _ (.tail _ (.head _)))))))))) ?_
        refine sA_geti (ci := 4) (j := 1) (q := (RX4, TX4, 2)) dd_X1_changeSides_145 rfl (by decide) fl_X1_28 (Nat.lt_of_succ_lt hr.1) hr.2.1 rfl ?_
        refine sA_icmp_ne (tgt := 155) dd_X1_changeSides_148 (by decide) (by omega) (by omega) (fun q7 => ?_) (fun q7 => ?_)
        · skip
          refine sA_iload dd_X1_changeSides_155 (.tail _ (.tail _ (.tail _ (.tail _ (.tail _ (.head _)))))) ?_
          refine sA_iconst (z := 1) dd_X1_changeSides_157 ?_
          refine sA_iadd dd_X1_changeSides_158 ?_
          refine sA_istore (lv' := [(7, gs_iv (p + 1)), (9, gs_iv (A (a + 1) p.toNat)), (12, gs_iv (A (b + 1) q.toNat)), (11, gs_iv (A (a + 1) p.toNat)), (10, gs_iv k), (8, gs_iv q), (6, gs_iv y), (5, gs_iv x), (4, gs_iv u), (0, .ref a), (2, .ref b)]) dd_X1_changeSides_159 (by decide) rfl ?_
          refine sA_iload dd_X1_changeSides_161 (.tail _ (.tail _ (.tail _ (.tail _ (.tail _ (.head _)))))) ?_
          refine sA_iconst (z := 1) dd_X1_changeSides_163 ?_
          refine sA_iadd dd_X1_changeSides_164 ?_
          refine sA_aload_n dd_X1_changeSides_165 rfl (.tail _ (.tail _ (.tail _ (.tail _ (.tail _ (.tail _ (.tail _ (.tail _ (.tail _ (.tail _ (.head _))))))))))) ?_
          refine sA_geti (ci := 4) (j := 1) (q := (RX4, TX4, 2)) dd_X1_changeSides_166 rfl (by decide) fl_X1_28 (Nat.lt_of_succ_lt ho.1) ho.2.1 rfl ?_
          refine sA_icmp_ne (tgt := 176) dd_X1_changeSides_169 (by decide) (by omega) (by omega) (fun q8 => ?_) (fun q8 => ?_)
          · skip
            refine sA_iload dd_X1_changeSides_176 (.tail _ (.tail _ (.tail _ (.tail _ (.tail _ (.head _)))))) ?_
            refine sA_iconst (z := 1) dd_X1_changeSides_178 ?_
            refine sA_iadd dd_X1_changeSides_179 ?_
            refine sA_istore (lv' := [(8, gs_iv (q + 1)), (7, gs_iv (p + 1)), (9, gs_iv (A (a + 1) p.toNat)), (12, gs_iv (A (b + 1) q.toNat)), (11, gs_iv (A (a + 1) p.toNat)), (10, gs_iv k), (6, gs_iv y), (5, gs_iv x), (4, gs_iv u), (0, .ref a), (2, .ref b)]) dd_X1_changeSides_180 (by decide) rfl ?_
            refine sA_iinc (lv' := [(10, gs_iv (k + 1)), (8, gs_iv (q + 1)), (7, gs_iv (p + 1)), (9, gs_iv (A (a + 1) p.toNat)), (12, gs_iv (A (b + 1) q.toNat)), (11, gs_iv (A (a + 1) p.toNat)), (6, gs_iv y), (5, gs_iv x), (4, gs_iv u), (0, .ref a), (2, .ref b)]) dd_X1_changeSides_182 (.tail _ (.tail _ (.tail _ (.tail _ (.tail _ (.head _)))))) (by decide) rfl ?_
            refine sA_goto (tgt := 69) dd_X1_changeSides_185 (by decide) ?_
            refine sA_sub (lv2 := [(10, gs_iv (k + 1)), (9, gs_iv (A (a + 1) p.toNat)), (8, gs_iv (q + 1)), (7, gs_iv (p + 1)), (6, gs_iv y), (5, gs_iv x), (4, gs_iv u), (0, .ref a), (2, .ref b)]) (List.forall_mem_cons.mpr ⟨(.head _), (List.forall_mem_cons.mpr ⟨(.tail _ (.tail _ (.tail _ (.head _)))), (List.forall_mem_cons.mpr ⟨(.tail _ (.head _)), (List.forall_mem_cons.mpr ⟨(.tail _ (.tail _ (.head _))), (List.forall_mem_cons.mpr ⟨(.tail _ (.tail _ (.tail _ (.tail _ (.tail _ (.tail _ (.head _))))))), (List.forall_mem_cons.mpr ⟨(.tail _ (.tail _ (.tail _ (.tail _ (.tail _ (.tail _ (.tail _ (.head _)))))))), (List.forall_mem_cons.mpr ⟨(.tail _ (.tail _ (.tail _ (.tail _ (.tail _ (.tail _ (.tail _ (.tail _ (.head _))))))))), (List.forall_mem_cons.mpr ⟨(.tail _ (.tail _ (.tail _ (.tail _ (.tail _ (.tail _ (.tail _ (.tail _ (.tail _ (.head _)))))))))), (List.forall_mem_cons.mpr ⟨(.tail _ (.tail _ (.tail _ (.tail _ (.tail _ (.tail _ (.tail _ (.tail _ (.tail _ (.tail _ (.head _))))))))))), (fun _ h => absurd h List.not_mem_nil)⟩)⟩)⟩)⟩)⟩)⟩)⟩)⟩)⟩) ?_
            exact ih u x y (p + 1) (q + 1) (A (a + 1) p.toNat) (k + 1)  (by omega) (by omega) (by omega) (by omega) (by omega) (by omega) (by omega) (by omega)
          · skip
            refine sA_iconst (z := 0) dd_X1_changeSides_172 ?_
            refine sA_goto (tgt := 180) dd_X1_changeSides_173 (by decide) ?_
            refine sA_istore (lv' := [(8, gs_iv 0), (7, gs_iv (p + 1)), (9, gs_iv (A (a + 1) p.toNat)), (12, gs_iv (A (b + 1) q.toNat)), (11, gs_iv (A (a + 1) p.toNat)), (10, gs_iv k), (6, gs_iv y), (5, gs_iv x), (4, gs_iv u), (0, .ref a), (2, .ref b)]) dd_X1_changeSides_180 (by decide) rfl ?_
            refine sA_iinc (lv' := [(10, gs_iv (k + 1)), (8, gs_iv 0), (7, gs_iv (p + 1)), (9, gs_iv (A (a + 1) p.toNat)), (12, gs_iv (A (b + 1) q.toNat)), (11, gs_iv (A (a + 1) p.toNat)), (6, gs_iv y), (5, gs_iv x), (4, gs_iv u), (0, .ref a), (2, .ref b)]) dd_X1_changeSides_182 (.tail _ (.tail _ (.tail _ (.tail _ (.tail _ (.head _)))))) (by decide) rfl ?_
            refine sA_goto (tgt := 69) dd_X1_changeSides_185 (by decide) ?_
            refine sA_sub (lv2 := [(10, gs_iv (k + 1)), (9, gs_iv (A (a + 1) p.toNat)), (8, gs_iv 0), (7, gs_iv (p + 1)), (6, gs_iv y), (5, gs_iv x), (4, gs_iv u), (0, .ref a), (2, .ref b)]) (List.forall_mem_cons.mpr ⟨(.head _), (List.forall_mem_cons.mpr ⟨(.tail _ (.tail _ (.tail _ (.head _)))), (List.forall_mem_cons.mpr ⟨(.tail _ (.head _)), (List.forall_mem_cons.mpr ⟨(.tail _ (.tail _ (.head _))), (List.forall_mem_cons.mpr ⟨(.tail _ (.tail _ (.tail _ (.tail _ (.tail _ (.tail _ (.head _))))))), (List.forall_mem_cons.mpr ⟨(.tail _ (.tail _ (.tail _ (.tail _ (.tail _ (.tail _ (.tail _ (.head _)))))))), (List.forall_mem_cons.mpr ⟨(.tail _ (.tail _ (.tail _ (.tail _ (.tail _ (.tail _ (.tail _ (.tail _ (.head _))))))))), (List.forall_mem_cons.mpr ⟨(.tail _ (.tail _ (.tail _ (.tail _ (.tail _ (.tail _ (.tail _ (.tail _ (.tail _ (.head _)))))))))), (List.forall_mem_cons.mpr ⟨(.tail _ (.tail _ (.tail _ (.tail _ (.tail _ (.tail _ (.tail _ (.tail _ (.tail _ (.tail _ (.head _))))))))))), (fun _ h => absurd h List.not_mem_nil)⟩)⟩)⟩)⟩)⟩)⟩)⟩)⟩)⟩) ?_
            exact ih u x y (p + 1) 0 (A (a + 1) p.toNat) (k + 1)  (by omega) (by omega) (by omega) (by omega) (by omega) (by omega) (by omega) (by omega)
        · skip
          refine sA_iconst (z := 0) dd_X1_changeSides_151 ?_
          refine sA_goto (tgt := 159) dd_X1_changeSides_152 (by decide) ?_
          refine sA_istore (lv' := [(7, gs_iv 0), (9, gs_iv (A (a + 1) p.toNat)), (12, gs_iv (A (b + 1) q.toNat)), (11, gs_iv (A (a + 1) p.toNat)), (10, gs_iv k), (8, gs_iv q), (6, gs_iv y), (5, gs_iv x), (4, gs_iv u), (0, .ref a), (2, .ref b)]) dd_X1_changeSides_159 (by decide) rfl ?_
          refine sA_iload dd_X1_changeSides_161 (.tail _ (.tail _ (.tail _ (.tail _ (.tail _ (.head _)))))) ?_
          refine sA_iconst (z := 1) dd_X1_changeSides_163 ?_
          refine sA_iadd dd_X1_changeSides_164 ?_
          refine sA_aload_n dd_X1_changeSides_165 rfl (.tail _ (.tail _ (.tail _ (.tail _ (.tail _ (.tail _ (.tail _ (.tail _ (.tail _ (.tail _ (.head _))))))))))) ?_
          refine sA_geti (ci := 4) (j := 1) (q := (RX4, TX4, 2)) dd_X1_changeSides_166 rfl (by decide) fl_X1_28 (Nat.lt_of_succ_lt ho.1) ho.2.1 rfl ?_
          refine sA_icmp_ne (tgt := 176) dd_X1_changeSides_169 (by decide) (by omega) (by omega) (fun q9 => ?_) (fun q9 => ?_)
          · skip
            refine sA_iload dd_X1_changeSides_176 (.tail _ (.tail _ (.tail _ (.tail _ (.tail _ (.head _)))))) ?_
            refine sA_iconst (z := 1) dd_X1_changeSides_178 ?_
            refine sA_iadd dd_X1_changeSides_179 ?_
            refine sA_istore (lv' := [(8, gs_iv (q + 1)), (7, gs_iv 0), (9, gs_iv (A (a + 1) p.toNat)), (12, gs_iv (A (b + 1) q.toNat)), (11, gs_iv (A (a + 1) p.toNat)), (10, gs_iv k), (6, gs_iv y), (5, gs_iv x), (4, gs_iv u), (0, .ref a), (2, .ref b)]) dd_X1_changeSides_180 (by decide) rfl ?_
            refine sA_iinc (lv' := [(10, gs_iv (k + 1)), (8, gs_iv (q + 1)), (7, gs_iv 0), (9, gs_iv (A (a + 1) p.toNat)), (12, gs_iv (A (b + 1) q.toNat)), (11, gs_iv (A (a + 1) p.toNat)), (6, gs_iv y), (5, gs_iv x), (4, gs_iv u), (0, .ref a), (2, .ref b)]) dd_X1_changeSides_182 (.tail _ (.tail _ (.tail _ (.tail _ (.tail _ (.head _)))))) (by decide) rfl ?_
            refine sA_goto (tgt := 69) dd_X1_changeSides_185 (by decide) ?_
            refine sA_sub (lv2 := [(10, gs_iv (k + 1)), (9, gs_iv (A (a + 1) p.toNat)), (8, gs_iv (q + 1)), (7, gs_iv 0), (6, gs_iv y), (5, gs_iv x), (4, gs_iv u), (0, .ref a), (2, .ref b)]) (List.forall_mem_cons.mpr ⟨(.head _), (List.forall_mem_cons.mpr ⟨(.tail _ (.tail _ (.tail _ (.head _)))), (List.forall_mem_cons.mpr ⟨(.tail _ (.head _)), (List.forall_mem_cons.mpr ⟨(.tail _ (.tail _ (.head _))), (List.forall_mem_cons.mpr ⟨(.tail _ (.tail _ (.tail _ (.tail _ (.tail _ (.tail _ (.head _))))))), (List.forall_mem_cons.mpr ⟨(.tail _ (.tail _ (.tail _ (.tail _ (.tail _ (.tail _ (.tail _ (.head _)))))))), (List.forall_mem_cons.mpr ⟨(.tail _ (.tail _ (.tail _ (.tail _ (.tail _ (.tail _ (.tail _ (.tail _ (.head _))))))))), (List.forall_mem_cons.mpr ⟨(.tail _ (.tail _ (.tail _ (.tail _ (.tail _ (.tail _ (.tail _ (.tail _ (.tail _ (.head _)))))))))), (List.forall_mem_cons.mpr ⟨(.tail _ (.tail _ (.tail _ (.tail _ (.tail _ (.tail _ (.tail _ (.tail _ (.tail _ (.tail _ (.head _))))))))))), (fun _ h => absurd h List.not_mem_nil)⟩)⟩)⟩)⟩)⟩)⟩)⟩)⟩)⟩) ?_
            exact ih u x y 0 (q + 1) (A (a + 1) p.toNat) (k + 1)  (by omega) (by omega) (by omega) (by omega) (by omega) (by omega) (by omega) (by omega)
          · skip
            refine sA_iconst (z := 0) dd_X1_changeSides_172 ?_
            refine sA_goto (tgt := 180) dd_X1_changeSides_173 (by decide) ?_
            refine sA_istore (lv' := [(8, gs_iv 0), (7, gs_iv 0), (9, gs_iv (A (a + 1) p.toNat)), (12, gs_iv (A (b + 1) q.toNat)), (11, gs_iv (A (a + 1) p.toNat)), (10, gs_iv k), (6, gs_iv y), (5, gs_iv x), (4, gs_iv u), (0, .ref a), (2, .ref b)]) dd_X1_changeSides_180 (by decide) rfl ?_
            refine sA_iinc (lv' := [(10, gs_iv (k + 1)), (8, gs_iv 0), (7, gs_iv 0), (9, gs_iv (A (a + 1) p.toNat)), (12, gs_iv (A (b + 1) q.toNat)), (11, gs_iv (A (a + 1) p.toNat)), (6, gs_iv y), (5, gs_iv x), (4, gs_iv u), (0, .ref a), (2, .ref b)]) dd_X1_changeSides_182 (.tail _ (.tail _ (.tail _ (.tail _ (.tail _ (.head _)))))) (by decide) rfl ?_
            refine sA_goto (tgt := 69) dd_X1_changeSides_185 (by decide) ?_
            refine sA_sub (lv2 := [(10, gs_iv (k + 1)), (9, gs_iv (A (a + 1) p.toNat)), (8, gs_iv 0), (7, gs_iv 0), (6, gs_iv y), (5, gs_iv x), (4, gs_iv u), (0, .ref a), (2, .ref b)]) (List.forall_mem_cons.mpr ⟨(.head _), (List.forall_mem_cons.mpr ⟨(.tail _ (.tail _ (.tail _ (.head _)))), (List.forall_mem_cons.mpr ⟨(.tail _ (.head _)), (List.forall_mem_cons.mpr ⟨(.tail _ (.tail _ (.head _))), (List.forall_mem_cons.mpr ⟨(.tail _ (.tail _ (.tail _ (.tail _ (.tail _ (.tail _ (.head _))))))), (List.forall_mem_cons.mpr ⟨(.tail _ (.tail _ (.tail _ (.tail _ (.tail _ (.tail _ (.tail _ (.head _)))))))), (List.forall_mem_cons.mpr ⟨(.tail _ (.tail _ (.tail _ (.tail _ (.tail _ (.tail _ (.tail _ (.tail _ (.head _))))))))), (List.forall_mem_cons.mpr ⟨(.tail _ (.tail _ (.tail _ (.tail _ (.tail _ (.tail _ (.tail _ (.tail _ (.tail _ (.head _)))))))))), (List.forall_mem_cons.mpr ⟨(.tail _ (.tail _ (.tail _ (.tail _ (.tail _ (.tail _ (.tail _ (.tail _ (.tail _ (.tail _ (.head _))))))))))), (fun _ h => absurd h List.not_mem_nil)⟩)⟩)⟩)⟩)⟩)⟩)⟩)⟩)⟩) ?_
            exact ih u x y 0 0 (A (a + 1) p.toNat) (k + 1)  (by omega) (by omega) (by omega) (by omega) (by omega) (by omega) (by omega) (by omega)
      · skip
        refine sA_iload dd_X1_changeSides_108 (.tail _ (.tail _ (.tail _ (.tail _ (.tail _ (.tail _ (.tail _ (.tail _ (.head _))))))))) ?_
        refine sA_iload dd_X1_changeSides_110 (.tail _ (.tail _ (.tail _ (.tail _ (.tail _ (.tail _ (.tail _ (.head _)))))))) ?_
        refine sA_iload dd_X1_changeSides_112 (.tail _ (.tail _ (.tail _ (.tail _ (.tail _ (.tail _ (.head _))))))) ?_
        refine sA_callS (y2 := m_X1_goRound) (n2 := 3) (d2 := 2) (as := [gs_iv u, gs_iv x, gs_iv y]) (rest := []) dd_X1_changeSides_114 ok_X1_goRound ml_X1_44 rfl rfl (Nat.le_of_ble_eq_true rfl) (by decide) (c_X1_goRound (by omega) (by omega) (by omega)) (fun r10 F11 A12 h13 => ?_)
        obtain ⟨z16, e15, e17, e18, x14⟩ := h13
        subst e15 e17 e18
        show sA _ _ _ 117 _ [gs_iv z16] _ _
        refine sA_iload dd_X1_changeSides_117 (.tail _ (.tail _ (.tail _ (.head _)))) ?_
        refine sA_ineg dd_X1_changeSides_119 ?_
        refine sA_iload dd_X1_changeSides_120 (.tail _ (.head _)) ?_
        refine sA_iload dd_X1_changeSides_122 (.head _) ?_
        refine sA_callS (y2 := m_X1_goRound) (n2 := 3) (d2 := 2) (as := [gs_iv (-l), gs_iv (A (a + 1) p.toNat), gs_iv (A (b + 1) q.toNat)]) (rest := [gs_iv z16]) dd_X1_changeSides_124 ok_X1_goRound ml_X1_44 rfl rfl (Nat.le_of_ble_eq_true rfl) (by decide) (c_X1_goRound (by omega) (by omega) (by omega)) (fun r19 F20 A21 h22 => ?_)
        obtain ⟨z25, e24, e26, e27, x23⟩ := h22
        subst e24 e26 e27
        show sA _ _ _ 127 _ [gs_iv z25, gs_iv z16] _ _
        refine sA_icmp_ne (tgt := 134) dd_X1_changeSides_127 (by decide) (by omega) (by omega) (fun q28 => ?_) (fun q28 => ?_)
        · skip
          refine sA_iconst (z := 0) dd_X1_changeSides_134 ?_
          refine sA_bret (z := 0) dd_X1_changeSides_135 rfl (by omega) ?_
          exact ⟨_, rfl, rfl, rfl, by omega⟩
        · skip
          refine sA_iconst (z := 1) dd_X1_changeSides_130 ?_
          refine sA_goto (tgt := 135) dd_X1_changeSides_131 (by decide) ?_
          refine sA_bret (z := 1) dd_X1_changeSides_135 rfl (by omega) ?_
          exact ⟨_, rfl, rfl, rfl, by omega⟩
theorem c_X1_changeSides {a L b M : Nat} {i j : Int} {F A : gs_F} (hI : gs_I F A) (hr : gs_row a L) (hi : 0 ≤ i ∧ i < F a 1) (ho : gs_row b M) (hj : 0 ≤ j ∧ j < F b 1) : sC m_X1_changeSides 3 [.ref a, gs_iv i, .ref b, gs_iv j] F A (fun rv F' A' => ∃ z : Int, rv = some (gs_iv z) ∧ F = F' ∧ A = A' ∧ (z = 0 ∨ z = 1)) := by
  refine sC_of ok_X1_changeSides.1 (Nat.le_of_ble_eq_true rfl) ?_
  show sA _ _ _ 0 [(0, .ref a), (1, gs_iv i), (2, .ref b), (3, gs_iv j)] [] F A
  have b29 := gs_row_sz hr hI
  have b30 := gs_row_sz ho hI
  refine sA_aload_n dd_X1_changeSides_0 rfl (.head _) ?_
  refine sA_getr (ci := 4) (j := 0) (q := (RX4, TX4, 2)) dd_X1_changeSides_1 rfl (by decide) fl_X1_32 (Nat.lt_of_succ_lt hr.1) hr.2.1 rfl ?_
  refine sA_iload_n dd_X1_changeSides_4 rfl (.tail _ (.head _)) ?_
  refine sA_iald (n := L) dd_X1_changeSides_5 hr.1 hr.2.2.1 (by omega) (Nat.le_trans hr.2.2.2.2.2.2 (by decide)) ?_
  have b31 := gs_row_el hr hI i.toNat
  refine sA_istore (lv' := [(4, gs_iv (A (a + 1) i.toNat)), (0, .ref a), (1, gs_iv i), (2, .ref b), (3, gs_iv j)]) dd_X1_changeSides_6 (by decide) rfl ?_
  refine sA_aload_n dd_X1_changeSides_8 rfl (.tail _ (.head _)) ?_
  refine sA_getr (ci := 4) (j := 0) (q := (RX4, TX4, 2)) dd_X1_changeSides_9 rfl (by decide) fl_X1_32 (Nat.lt_of_succ_lt hr.1) hr.2.1 rfl ?_
  refine sA_iload_n dd_X1_changeSides_12 rfl (.tail _ (.tail _ (.head _))) ?_
  refine sA_if_ne (tgt := 25) dd_X1_changeSides_13 (by decide) (by omega) (fun q32 => ?_) (fun q32 => ?_)
  · skip
    refine sA_iload_n dd_X1_changeSides_25 rfl (.tail _ (.tail _ (.head _))) ?_
    refine sA_iconst (z := 1) dd_X1_changeSides_26 ?_
    refine sA_isub dd_X1_changeSides_27 ?_
    refine sA_iald (n := L) dd_X1_changeSides_28 hr.1 hr.2.2.1 (by omega) (Nat.le_trans hr.2.2.2.2.2.2 (by decide)) ?_
    have b33 := gs_row_el hr hI (i - 1).toNat
    refine sA_ineg dd_X1_changeSides_29 ?_
    refine sA_istore (lv' := [(5, gs_iv (-(A (a + 1) (i - 1).toNat))), (4, gs_iv (A (a + 1) i.toNat)), (0, .ref a), (1, gs_iv i), (2, .ref b), (3, gs_iv j)]) dd_X1_changeSides_30 (by decide) rfl ?_
    refine sA_aload_n dd_X1_changeSides_32 rfl (.tail _ (.tail _ (.tail _ (.tail _ (.head _))))) ?_
    refine sA_getr (ci := 4) (j := 0) (q := (RX4, TX4, 2)) dd_X1_changeSides_33 rfl (by decide) fl_X1_32 (Nat.lt_of_succ_lt ho.1) ho.2.1 rfl ?_
    refine sA_iload_n dd_X1_changeSides_36 rfl (.tail _ (.tail _ (.tail _ (.tail _ (.tail _ (.head _)))))) ?_
    refine sA_if_ne (tgt := 49) dd_X1_changeSides_37 (by decide) (by omega) (fun q34 => ?_) (fun q34 => ?_)
    · skip
      refine sA_iload_n dd_X1_changeSides_49 rfl (.tail _ (.tail _ (.tail _ (.tail _ (.tail _ (.head _)))))) ?_
      refine sA_iconst (z := 1) dd_X1_changeSides_50 ?_
      refine sA_isub dd_X1_changeSides_51 ?_
      refine sA_iald (n := M) dd_X1_changeSides_52 ho.1 ho.2.2.1 (by omega) (Nat.le_trans ho.2.2.2.2.2.2 (by decide)) ?_
      have b35 := gs_row_el ho hI (j - 1).toNat
      refine sA_ineg dd_X1_changeSides_53 ?_
      refine sA_istore (lv' := [(6, gs_iv (-(A (b + 1) (j - 1).toNat))), (5, gs_iv (-(A (a + 1) (i - 1).toNat))), (4, gs_iv (A (a + 1) i.toNat)), (0, .ref a), (1, gs_iv i), (2, .ref b), (3, gs_iv j)]) dd_X1_changeSides_54 (by decide) rfl ?_
      refine sA_iload_n dd_X1_changeSides_56 rfl (.tail _ (.tail _ (.tail _ (.tail _ (.head _))))) ?_
      refine sA_istore (lv' := [(7, gs_iv i), (6, gs_iv (-(A (b + 1) (j - 1).toNat))), (5, gs_iv (-(A (a + 1) (i - 1).toNat))), (4, gs_iv (A (a + 1) i.toNat)), (0, .ref a), (1, gs_iv i), (2, .ref b), (3, gs_iv j)]) dd_X1_changeSides_57 (by decide) rfl ?_
      refine sA_iload_n dd_X1_changeSides_59 rfl (.tail _ (.tail _ (.tail _ (.tail _ (.tail _ (.tail _ (.tail _ (.head _)))))))) ?_
      refine sA_istore (lv' := [(8, gs_iv j), (7, gs_iv i), (6, gs_iv (-(A (b + 1) (j - 1).toNat))), (5, gs_iv (-(A (a + 1) (i - 1).toNat))), (4, gs_iv (A (a + 1) i.toNat)), (0, .ref a), (1, gs_iv i), (2, .ref b), (3, gs_iv j)]) dd_X1_changeSides_60 (by decide) rfl ?_
      refine sA_iload dd_X1_changeSides_62 (.tail _ (.tail _ (.tail _ (.tail _ (.head _))))) ?_
      refine sA_istore (lv' := [(9, gs_iv (A (a + 1) i.toNat)), (8, gs_iv j), (7, gs_iv i), (6, gs_iv (-(A (b + 1) (j - 1).toNat))), (5, gs_iv (-(A (a + 1) (i - 1).toNat))), (4, gs_iv (A (a + 1) i.toNat)), (0, .ref a), (1, gs_iv i), (2, .ref b), (3, gs_iv j)]) dd_X1_changeSides_64 (by decide) rfl ?_
      refine sA_iconst (z := 0) dd_X1_changeSides_66 ?_
      refine sA_istore (lv' := [(10, gs_iv 0), (9, gs_iv (A (a + 1) i.toNat)), (8, gs_iv j), (7, gs_iv i), (6, gs_iv (-(A (b + 1) (j - 1).toNat))), (5, gs_iv (-(A (a + 1) (i - 1).toNat))), (4, gs_iv (A (a + 1) i.toNat)), (0, .ref a), (1, gs_iv i), (2, .ref b), (3, gs_iv j)]) dd_X1_changeSides_67 (by decide) rfl ?_
      refine sA_sub (lv2 := [(10, gs_iv 0), (9, gs_iv (A (a + 1) i.toNat)), (8, gs_iv j), (7, gs_iv i), (6, gs_iv (-(A (b + 1) (j - 1).toNat))), (5, gs_iv (-(A (a + 1) (i - 1).toNat))), (4, gs_iv (A (a + 1) i.toNat)), (0, .ref a), (2, .ref b)]) (List.forall_mem_cons.mpr ⟨(.head _), (List.forall_mem_cons.mpr ⟨(.tail _ (.head _)), (List.forall_mem_cons.mpr ⟨(.tail _ (.tail _ (.head _))), (List.forall_mem_cons.mpr ⟨(.tail _ (.tail _ (.tail _ (.head _)))), (List.forall_mem_cons.mpr ⟨(.tail _ (.tail _ (.tail _ (.tail _ (.head _))))), (List.forall_mem_cons.mpr ⟨(.tail _ (.tail _ (.tail _ (.tail _ (.tail _ (.head _)))))), (List.forall_mem_cons.mpr ⟨(.tail _ (.tail _ (.tail _ (.tail _ (.tail _ (.tail _ (.head _))))))), (List.forall_mem_cons.mpr ⟨(.tail _ (.tail _ (.tail _ (.tail _ (.tail _ (.tail _ (.tail _ (.head _)))))))), (List.forall_mem_cons.mpr ⟨(.tail _ (.tail _ (.tail _ (.tail _ (.tail _ (.tail _ (.tail _ (.tail _ (.tail _ (.head _)))))))))), (fun _ h => absurd h List.not_mem_nil)⟩)⟩)⟩)⟩)⟩)⟩)⟩)⟩)⟩) ?_
      exact (k_X1_changeSides hI hr hi ho hj (F a 1 + F b 1 - 0 : Int).toNat.succ) (A (a + 1) i.toNat) (-(A (a + 1) (i - 1).toNat)) (-(A (b + 1) (j - 1).toNat)) i j (A (a + 1) i.toNat) 0  (by omega) (by omega) (by omega) (by omega) (by omega) (by omega) (by omega) (by omega)
    · skip
      refine sA_aload_n dd_X1_changeSides_40 rfl (.tail _ (.tail _ (.tail _ (.tail _ (.head _))))) ?_
      refine sA_geti (ci := 4) (j := 1) (q := (RX4, TX4, 2)) dd_X1_changeSides_41 rfl (by decide) fl_X1_28 (Nat.lt_of_succ_lt ho.1) ho.2.1 rfl ?_
      refine sA_iconst (z := 1) dd_X1_changeSides_44 ?_
      refine sA_isub dd_X1_changeSides_45 ?_
      refine sA_goto (tgt := 52) dd_X1_changeSides_46 (by decide) ?_
      refine sA_iald (n := M) dd_X1_changeSides_52 ho.1 ho.2.2.1 (by omega) (Nat.le_trans ho.2.2.2.2.2.2 (by decide)) ?_
      have b36 := gs_row_el ho hI ((F b 1) - 1).toNat
      refine sA_ineg dd_X1_changeSides_53 ?_
      refine sA_istore (lv' := [(6, gs_iv (-(A (b + 1) ((F b 1) - 1).toNat))), (5, gs_iv (-(A (a + 1) (i - 1).toNat))), (4, gs_iv (A (a + 1) i.toNat)), (0, .ref a), (1, gs_iv i), (2, .ref b), (3, gs_iv j)]) dd_X1_changeSides_54 (by decide) rfl ?_
      refine sA_iload_n dd_X1_changeSides_56 rfl (.tail _ (.tail _ (.tail _ (.tail _ (.head _))))) ?_
      refine sA_istore (lv' := [(7, gs_iv i), (6, gs_iv (-(A (b + 1) ((F b 1) - 1).toNat))), (5, gs_iv (-(A (a + 1) (i - 1).toNat))), (4, gs_iv (A (a + 1) i.toNat)), (0, .ref a), (1, gs_iv i), (2, .ref b), (3, gs_iv j)]) dd_X1_changeSides_57 (by decide) rfl ?_
      refine sA_iload_n dd_X1_changeSides_59 rfl (.tail _ (.tail _ (.tail _ (.tail _ (.tail _ (.tail _ (.tail _ (.head _)))))))) ?_
      refine sA_istore (lv' := [(8, gs_iv j), (7, gs_iv i), (6, gs_iv (-(A (b + 1) ((F b 1) - 1).toNat))), (5, gs_iv (-(A (a + 1) (i - 1).toNat))), (4, gs_iv (A (a + 1) i.toNat)), (0, .ref a), (1, gs_iv i), (2, .ref b), (3, gs_iv j)]) dd_X1_changeSides_60 (by decide) rfl ?_
      refine sA_iload dd_X1_changeSides_62 (.tail _ (.tail _ (.tail _ (.tail _ (.head _))))) ?_
      refine sA_istore (lv' := [(9, gs_iv (A (a + 1) i.toNat)), (8, gs_iv j), (7, gs_iv i), (6, gs_iv (-(A (b + 1) ((F b 1) - 1).toNat))), (5, gs_iv (-(A (a + 1) (i - 1).toNat))), (4, gs_iv (A (a + 1) i.toNat)), (0, .ref a), (1, gs_iv i), (2, .ref b), (3, gs_iv j)]) dd_X1_changeSides_64 (by decide) rfl ?_
      refine sA_iconst (z := 0) dd_X1_changeSides_66 ?_
      refine sA_istore (lv' := [(10, gs_iv 0), (9, gs_iv (A (a + 1) i.toNat)), (8, gs_iv j), (7, gs_iv i), (6, gs_iv (-(A (b + 1) ((F b 1) - 1).toNat))), (5, gs_iv (-(A (a + 1) (i - 1).toNat))), (4, gs_iv (A (a + 1) i.toNat)), (0, .ref a), (1, gs_iv i), (2, .ref b), (3, gs_iv j)]) dd_X1_changeSides_67 (by decide) rfl ?_
      refine sA_sub (lv2 := [(10, gs_iv 0), (9, gs_iv (A (a + 1) i.toNat)), (8, gs_iv j), (7, gs_iv i), (6, gs_iv (-(A (b + 1) ((F b 1) - 1).toNat))), (5, gs_iv (-(A (a + 1) (i - 1).toNat))), (4, gs_iv (A (a + 1) i.toNat)), (0, .ref a), (2, .ref b)]) (List.forall_mem_cons.mpr ⟨(.head _), (List.forall_mem_cons.mpr ⟨(.tail _ (.head _)), (List.forall_mem_cons.mpr ⟨(.tail _ (.tail _ (.head _))), (List.forall_mem_cons.mpr ⟨(.tail _ (.tail _ (.tail _ (.head _)))), (List.forall_mem_cons.mpr ⟨(.tail _ (.tail _ (.tail _ (.tail _ (.head _))))), (List.forall_mem_cons.mpr ⟨(.tail _ (.tail _ (.tail _ (.tail _ (.tail _ (.head _)))))), (List.forall_mem_cons.mpr ⟨(.tail _ (.tail _ (.tail _ (.tail _ (.tail _ (.tail _ (.head _))))))), (List.forall_mem_cons.mpr ⟨(.tail _ (.tail _ (.tail _ (.tail _ (.tail _ (.tail _ (.tail _ (.head _)))))))), (List.forall_mem_cons.mpr ⟨(.tail _ (.tail _ (.tail _ (.tail _ (.tail _ (.tail _ (.tail _ (.tail _ (.tail _ (.head _)))))))))), (fun _ h => absurd h List.not_mem_nil)⟩)⟩)⟩)⟩)⟩)⟩)⟩)⟩)⟩) ?_
      exact (k_X1_changeSides hI hr hi ho hj (F a 1 + F b 1 - 0 : Int).toNat.succ) (A (a + 1) i.toNat) (-(A (a + 1) (i - 1).toNat)) (-(A (b + 1) ((F b 1) - 1).toNat)) i j (A (a + 1) i.toNat) 0  (by omega) (by omega) (by omega) (by omega) (by omega) (by omega) (by omega) (by omega)
  · skip
    refine sA_aload_n dd_X1_changeSides_16 rfl (.tail _ (.head _)) ?_
    refine sA_geti (ci := 4) (j := 1) (q := (RX4, TX4, 2)) dd_X1_changeSides_17 rfl (by decide) fl_X1_28 (Nat.lt_of_succ_lt hr.1) hr.2.1 rfl ?_
    refine sA_iconst (z := 1) dd_X1_changeSides_20 ?_
    refine sA_isub dd_X1_changeSides_21 ?_
    refine sA_goto (tgt := 28) dd_X1_changeSides_22 (by decide) ?_
    refine sA_iald (n := L) dd_X1_changeSides_28 hr.1 hr.2.2.1 (by omega) (Nat.le_trans hr.2.2.2.2.2.2 (by decide)) ?_
    have b37 := gs_row_el hr hI ((F a 1) - 1).toNat
    refine sA_ineg dd_X1_changeSides_29 ?_
    refine sA_istore (lv' := [(5, gs_iv (-(A (a + 1) ((F a 1) - 1).toNat))), (4, gs_iv (A (a + 1) i.toNat)), (0, .ref a), (1, gs_iv i), (2, .ref b), (3, gs_iv j)]) dd_X1_changeSides_30 (by decide) rfl ?_
    refine sA_aload_n dd_X1_changeSides_32 rfl (.tail _ (.tail _ (.tail _ (.tail _ (.head _))))) ?_
    refine sA_getr (ci := 4) (j := 0) (q := (RX4, TX4, 2)) dd_X1_changeSides_33 rfl (by decide) fl_X1_32 (Nat.lt_of_succ_lt ho.1) ho.2.1 rfl ?_
    refine sA_iload_n dd_X1_changeSides_36 rfl (.tail _ (.tail _ (.tail _ (.tail _ (.tail _ (.head _)))))) ?_
    refine sA_if_ne (tgt := 49) dd_X1_changeSides_37 (by decide) (by omega) (fun q38 => ?_) (fun q38 => ?_)
    · skip
      refine sA_iload_n dd_X1_changeSides_49 rfl (.tail _ (.tail _ (.tail _ (.tail _ (.tail _ (.head _)))))) ?_
      refine sA_iconst (z := 1) dd_X1_changeSides_50 ?_
      refine sA_isub dd_X1_changeSides_51 ?_
      refine sA_iald (n := M) dd_X1_changeSides_52 ho.1 ho.2.2.1 (by omega) (Nat.le_trans ho.2.2.2.2.2.2 (by decide)) ?_
      have b39 := gs_row_el ho hI (j - 1).toNat
      refine sA_ineg dd_X1_changeSides_53 ?_
      refine sA_istore (lv' := [(6, gs_iv (-(A (b + 1) (j - 1).toNat))), (5, gs_iv (-(A (a + 1) ((F a 1) - 1).toNat))), (4, gs_iv (A (a + 1) i.toNat)), (0, .ref a), (1, gs_iv i), (2, .ref b), (3, gs_iv j)]) dd_X1_changeSides_54 (by decide) rfl ?_
      refine sA_iload_n dd_X1_changeSides_56 rfl (.tail _ (.tail _ (.tail _ (.tail _ (.head _))))) ?_
      refine sA_istore (lv' := [(7, gs_iv i), (6, gs_iv (-(A (b + 1) (j - 1).toNat))), (5, gs_iv (-(A (a + 1) ((F a 1) - 1).toNat))), (4, gs_iv (A (a + 1) i.toNat)), (0, .ref a), (1, gs_iv i), (2, .ref b), (3, gs_iv j)]) dd_X1_changeSides_57 (by decide) rfl ?_
      refine sA_iload_n dd_X1_changeSides_59 rfl (.tail _ (.tail _ (.tail _ (.tail _ (.tail _ (.tail _ (.tail _ (.head _)))))))) ?_
      refine sA_istore (lv' := [(8, gs_iv j), (7, gs_iv i), (6, gs_iv (-(A (b + 1) (j - 1).toNat))), (5, gs_iv (-(A (a + 1) ((F a 1) - 1).toNat))), (4, gs_iv (A (a + 1) i.toNat)), (0, .ref a), (1, gs_iv i), (2, .ref b), (3, gs_iv j)]) dd_X1_changeSides_60 (by decide) rfl ?_
      refine sA_iload dd_X1_changeSides_62 (.tail _ (.tail _ (.tail _ (.tail _ (.head _))))) ?_
      refine sA_istore (lv' := [(9, gs_iv (A (a + 1) i.toNat)), (8, gs_iv j), (7, gs_iv i), (6, gs_iv (-(A (b + 1) (j - 1).toNat))), (5, gs_iv (-(A (a + 1) ((F a 1) - 1).toNat))), (4, gs_iv (A (a + 1) i.toNat)), (0, .ref a), (1, gs_iv i), (2, .ref b), (3, gs_iv j)]) dd_X1_changeSides_64 (by decide) rfl ?_
      refine sA_iconst (z := 0) dd_X1_changeSides_66 ?_
      refine sA_istore (lv' := [(10, gs_iv 0), (9, gs_iv (A (a + 1) i.toNat)), (8, gs_iv j), (7, gs_iv i), (6, gs_iv (-(A (b + 1) (j - 1).toNat))), (5, gs_iv (-(A (a + 1) ((F a 1) - 1).toNat))), (4, gs_iv (A (a + 1) i.toNat)), (0, .ref a), (1, gs_iv i), (2, .ref b), (3, gs_iv j)]) dd_X1_changeSides_67 (by decide) rfl ?_
      refine sA_sub (lv2 := [(10, gs_iv 0), (9, gs_iv (A (a + 1) i.toNat)), (8, gs_iv j), (7, gs_iv i), (6, gs_iv (-(A (b + 1) (j - 1).toNat))), (5, gs_iv (-(A (a + 1) ((F a 1) - 1).toNat))), (4, gs_iv (A (a + 1) i.toNat)), (0, .ref a), (2, .ref b)]) (List.forall_mem_cons.mpr ⟨(.head _), (List.forall_mem_cons.mpr ⟨(.tail _ (.head _)), (List.forall_mem_cons.mpr ⟨(.tail _ (.tail _ (.head _))), (List.forall_mem_cons.mpr ⟨(.tail _ (.tail _ (.tail _ (.head _)))), (List.forall_mem_cons.mpr ⟨(.tail _ (.tail _ (.tail _ (.tail _ (.head _))))), (List.forall_mem_cons.mpr ⟨(.tail _ (.tail _ (.tail _ (.tail _ (.tail _ (.head _)))))), (List.forall_mem_cons.mpr ⟨(.tail _ (.tail _ (.tail _ (.tail _ (.tail _ (.tail _ (.head _))))))), (List.forall_mem_cons.mpr ⟨(.tail _ (.tail _ (.tail _ (.tail _ (.tail _ (.tail _ (.tail _ (.head _)))))))), (List.forall_mem_cons.mpr ⟨(.tail _ (.tail _ (.tail _ (.tail _ (.tail _ (.tail _ (.tail _ (.tail _ (.tail _ (.head _)))))))))), (fun _ h => absurd h List.not_mem_nil)⟩)⟩)⟩)⟩)⟩)⟩)⟩)⟩)⟩) ?_
      exact (k_X1_changeSides hI hr hi ho hj (F a 1 + F b 1 - 0 : Int).toNat.succ) (A (a + 1) i.toNat) (-(A (a + 1) ((F a 1) - 1).toNat)) (-(A (b + 1) (j - 1).toNat)) i j (A (a + 1) i.toNat) 0  (by omega) (by omega) (by omega) (by omega) (by omega) (by omega) (by omega) (by omega)
    · skip
      refine sA_aload_n dd_X1_changeSides_40 rfl (.tail _ (.tail _ (.tail _ (.tail _ (.head _))))) ?_
      refine sA_geti (ci := 4) (j := 1) (q := (RX4, TX4, 2)) dd_X1_changeSides_41 rfl (by decide) fl_X1_28 (Nat.lt_of_succ_lt ho.1) ho.2.1 rfl ?_
      refine sA_iconst (z := 1) dd_X1_changeSides_44 ?_
      refine sA_isub dd_X1_changeSides_45 ?_
      refine sA_goto (tgt := 52) dd_X1_changeSides_46 (by decide) ?_
      refine sA_iald (n := M) dd_X1_changeSides_52 ho.1 ho.2.2.1 (by omega) (Nat.le_trans ho.2.2.2.2.2.2 (by decide)) ?_
      have b40 := gs_row_el ho hI ((F b 1) - 1).toNat
      refine sA_ineg dd_X1_changeSides_53 ?_
      refine sA_istore (lv' := [(6, gs_iv (-(A (b + 1) ((F b 1) - 1).toNat))), (5, gs_iv (-(A (a + 1) ((F a 1) - 1).toNat))), (4, gs_iv (A (a + 1) i.toNat)), (0, .ref a), (1, gs_iv i), (2, .ref b), (3, gs_iv j)]) dd_X1_changeSides_54 (by decide) rfl ?_
      refine sA_iload_n dd_X1_changeSides_56 rfl (.tail _ (.tail _ (.tail _ (.tail _ (.head _))))) ?_
      refine sA_istore (lv' := [(7, gs_iv i), (6, gs_iv (-(A (b + 1) ((F b 1) - 1).toNat))), (5, gs_iv (-(A (a + 1) ((F a 1) - 1).toNat))), (4, gs_iv (A (a + 1) i.toNat)), (0, .ref a), (1, gs_iv i), (2, .ref b), (3, gs_iv j)]) dd_X1_changeSides_57 (by decide) rfl ?_
      refine sA_iload_n dd_X1_changeSides_59 rfl (.tail _ (.tail _ (.tail _ (.tail _ (.tail _ (.tail _ (.tail _ (.head _)))))))) ?_
      refine sA_istore (lv' := [(8, gs_iv j), (7, gs_iv i), (6, gs_iv (-(A (b + 1) ((F b 1) - 1).toNat))), (5, gs_iv (-(A (a + 1) ((F a 1) - 1).toNat))), (4, gs_iv (A (a + 1) i.toNat)), (0, .ref a), (1, gs_iv i), (2, .ref b), (3, gs_iv j)]) dd_X1_changeSides_60 (by decide) rfl ?_
      refine sA_iload dd_X1_changeSides_62 (.tail _ (.tail _ (.tail _ (.tail _ (.head _))))) ?_
      refine sA_istore (lv' := [(9, gs_iv (A (a + 1) i.toNat)), (8, gs_iv j), (7, gs_iv i), (6, gs_iv (-(A (b + 1) ((F b 1) - 1).toNat))), (5, gs_iv (-(A (a + 1) ((F a 1) - 1).toNat))), (4, gs_iv (A (a + 1) i.toNat)), (0, .ref a), (1, gs_iv i), (2, .ref b), (3, gs_iv j)]) dd_X1_changeSides_64 (by decide) rfl ?_
      refine sA_iconst (z := 0) dd_X1_changeSides_66 ?_
      refine sA_istore (lv' := [(10, gs_iv 0), (9, gs_iv (A (a + 1) i.toNat)), (8, gs_iv j), (7, gs_iv i), (6, gs_iv (-(A (b + 1) ((F b 1) - 1).toNat))), (5, gs_iv (-(A (a + 1) ((F a 1) - 1).toNat))), (4, gs_iv (A (a + 1) i.toNat)), (0, .ref a), (1, gs_iv i), (2, .ref b), (3, gs_iv j)]) dd_X1_changeSides_67 (by decide) rfl ?_
      refine sA_sub (lv2 := [(10, gs_iv 0), (9, gs_iv (A (a + 1) i.toNat)), (8, gs_iv j), (7, gs_iv i), (6, gs_iv (-(A (b + 1) ((F b 1) - 1).toNat))), (5, gs_iv (-(A (a + 1) ((F a 1) - 1).toNat))), (4, gs_iv (A (a + 1) i.toNat)), (0, .ref a), (2, .ref b)]) (List.forall_mem_cons.mpr ⟨(.head _), (List.forall_mem_cons.mpr ⟨(.tail _ (.head _)), (List.forall_mem_cons.mpr ⟨(.tail _ (.tail _ (.head _))), (List.forall_mem_cons.mpr ⟨(.tail _ (.tail _ (.tail _ (.head _)))), (List.forall_mem_cons.mpr ⟨(.tail _ (.tail _ (.tail _ (.tail _ (.head _))))), (List.forall_mem_cons.mpr ⟨(.tail _ (.tail _ (.tail _ (.tail _ (.tail _ (.head _)))))), (List.forall_mem_cons.mpr ⟨(.tail _ (.tail _ (.tail _ (.tail _ (.tail _ (.tail _ (.head _))))))), (List.forall_mem_cons.mpr ⟨(.tail _ (.tail _ (.tail _ (.tail _ (.tail _ (.tail _ (.tail _ (.head _)))))))), (List.forall_mem_cons.mpr ⟨(.tail _ (.tail _ (.tail _ (.tail _ (.tail _ (.tail _ (.tail _ (.tail _ (.tail _ (.head _)))))))))), (fun _ h => absurd h List.not_mem_nil)⟩)⟩)⟩)⟩)⟩)⟩)⟩)⟩)⟩) ?_
      exact (k_X1_changeSides hI hr hi ho hj (F a 1 + F b 1 - 0 : Int).toNat.succ) (A (a + 1) i.toNat) (-(A (a + 1) ((F a 1) - 1).toNat)) (-(A (b + 1) ((F b 1) - 1).toNat)) i j (A (a + 1) i.toNat) 0  (by omega) (by omega) (by omega) (by omega) (by omega) (by omega) (by omega) (by omega)
theorem dd_X1_crossings_0 : decode cX1_crossings 0 = .ok (.iconst 0, 1) := by decide +kernel
theorem dd_X1_crossings_1 : decode cX1_crossings 1 = .ok (.istore_n 3, 1) := by decide +kernel
theorem dd_X1_crossings_2 : decode cX1_crossings 2 = .ok (.iconst 0, 1) := by decide +kernel
theorem dd_X1_crossings_3 : decode cX1_crossings 3 = .ok (.istore 4, 2) := by decide +kernel
theorem dd_X1_crossings_5 : decode cX1_crossings 5 = .ok (.iload 4, 2) := by decide +kernel
theorem dd_X1_crossings_7 : decode cX1_crossings 7 = .ok (.aload_n 0, 1) := by decide +kernel
theorem dd_X1_crossings_8 : decode cX1_crossings 8 = .ok (.getfield 28, 3) := by decide +kernel
theorem dd_X1_crossings_11 : decode cX1_crossings 11 = .ok (.if_icmp .ge 157, 3) := by decide +kernel
theorem dd_X1_crossings_14 : decode cX1_crossings 14 = .ok (.aload_n 0, 1) := by decide +kernel
theorem dd_X1_crossings_15 : decode cX1_crossings 15 = .ok (.getfield 32, 3) := by decide +kernel
theorem dd_X1_crossings_18 : decode cX1_crossings 18 = .ok (.iload 4, 2) := by decide +kernel
theorem dd_X1_crossings_20 : decode cX1_crossings 20 = .ok (.iaload, 1) := by decide +kernel
theorem dd_X1_crossings_21 : decode cX1_crossings 21 = .ok (.istore 5, 2) := by decide +kernel
theorem dd_X1_crossings_23 : decode cX1_crossings 23 = .ok (.aload_n 0, 1) := by decide +kernel
theorem dd_X1_crossings_24 : decode cX1_crossings 24 = .ok (.getfield 32, 3) := by decide +kernel
theorem dd_X1_crossings_27 : decode cX1_crossings 27 = .ok (.iload 4, 2) := by decide +kernel
theorem dd_X1_crossings_29 : decode cX1_crossings 29 = .ok (.ifCond .ne 12, 3) := by decide +kernel
theorem dd_X1_crossings_32 : decode cX1_crossings 32 = .ok (.aload_n 0, 1) := by decide +kernel
theorem dd_X1_crossings_33 : decode cX1_crossings 33 = .ok (.getfield 28, 3) := by decide +kernel
theorem dd_X1_crossings_36 : decode cX1_crossings 36 = .ok (.iconst 1, 1) := by decide +kernel
theorem dd_X1_crossings_37 : decode cX1_crossings 37 = .ok (.isub, 1) := by decide +kernel
theorem dd_X1_crossings_38 : decode cX1_crossings 38 = .ok (.goto 7, 3) := by decide +kernel
theorem dd_X1_crossings_41 : decode cX1_crossings 41 = .ok (.iload 4, 2) := by decide +kernel
theorem dd_X1_crossings_43 : decode cX1_crossings 43 = .ok (.iconst 1, 1) := by decide +kernel
theorem dd_X1_crossings_44 : decode cX1_crossings 44 = .ok (.isub, 1) := by decide +kernel
theorem dd_X1_crossings_45 : decode cX1_crossings 45 = .ok (.iaload, 1) := by decide +kernel
theorem dd_X1_crossings_46 : decode cX1_crossings 46 = .ok (.ineg, 1) := by decide +kernel
theorem dd_X1_crossings_47 : decode cX1_crossings 47 = .ok (.istore 6, 2) := by decide +kernel
theorem dd_X1_crossings_49 : decode cX1_crossings 49 = .ok (.iconst 0, 1) := by decide +kernel
theorem dd_X1_crossings_50 : decode cX1_crossings 50 = .ok (.istore 7, 2) := by decide +kernel
theorem dd_X1_crossings_52 : decode cX1_crossings 52 = .ok (.iload 7, 2) := by decide +kernel
theorem dd_X1_crossings_54 : decode cX1_crossings 54 = .ok (.aload_n 1, 1) := by decide +kernel
theorem dd_X1_crossings_55 : decode cX1_crossings 55 = .ok (.getfield 28, 3) := by decide +kernel
theorem dd_X1_crossings_58 : decode cX1_crossings 58 = .ok (.if_icmp .ge 104, 3) := by decide +kernel
theorem dd_X1_crossings_61 : decode cX1_crossings 61 = .ok (.aload_n 1, 1) := by decide +kernel
theorem dd_X1_crossings_62 : decode cX1_crossings 62 = .ok (.getfield 32, 3) := by decide +kernel
theorem dd_X1_crossings_65 : decode cX1_crossings 65 = .ok (.iload 7, 2) := by decide +kernel
theorem dd_X1_crossings_67 : decode cX1_crossings 67 = .ok (.iaload, 1) := by decide +kernel
theorem dd_X1_crossings_68 : decode cX1_crossings 68 = .ok (.istore 8, 2) := by decide +kernel
theorem dd_X1_crossings_70 : decode cX1_crossings 70 = .ok (.iload 5, 2) := by decide +kernel
theorem dd_X1_crossings_72 : decode cX1_crossings 72 = .ok (.iload 8, 2) := by decide +kernel
theorem dd_X1_crossings_74 : decode cX1_crossings 74 = .ok (.if_icmp .eq 10, 3) := by decide +kernel
theorem dd_X1_crossings_77 : decode cX1_crossings 77 = .ok (.iload_n 2, 1) := by decide +kernel
theorem dd_X1_crossings_78 : decode cX1_crossings 78 = .ok (.ifCond .ne 6, 3) := by decide +kernel
theorem dd_X1_crossings_81 : decode cX1_crossings 81 = .ok (.goto 75, 3) := by decide +kernel
theorem dd_X1_crossings_84 : decode cX1_crossings 84 = .ok (.aload_n 1, 1) := by decide +kernel
theorem dd_X1_crossings_85 : decode cX1_crossings 85 = .ok (.getfield 32, 3) := by decide +kernel
theorem dd_X1_crossings_88 : decode cX1_crossings 88 = .ok (.iload 7, 2) := by decide +kernel
theorem dd_X1_crossings_90 : decode cX1_crossings 90 = .ok (.ifCond .ne 12, 3) := by decide +kernel
theorem dd_X1_crossings_93 : decode cX1_crossings 93 = .ok (.aload_n 1, 1) := by decide +kernel
theorem dd_X1_crossings_94 : decode cX1_crossings 94 = .ok (.getfield 28, 3) := by decide +kernel
theorem dd_X1_crossings_97 : decode cX1_crossings 97 = .ok (.iconst 1, 1) := by decide +kernel
theorem dd_X1_crossings_98 : decode cX1_crossings 98 = .ok (.isub, 1) := by decide +kernel
theorem dd_X1_crossings_99 : decode cX1_crossings 99 = .ok (.goto 7, 3) := by decide +kernel
theorem dd_X1_crossings_102 : decode cX1_crossings 102 = .ok (.iload 7, 2) := by decide +kernel
theorem dd_X1_crossings_104 : decode cX1_crossings 104 = .ok (.iconst 1, 1) := by decide +kernel
theorem dd_X1_crossings_105 : decode cX1_crossings 105 = .ok (.isub, 1) := by decide +kernel
theorem dd_X1_crossings_106 : decode cX1_crossings 106 = .ok (.iaload, 1) := by decide +kernel
theorem dd_X1_crossings_107 : decode cX1_crossings 107 = .ok (.ineg, 1) := by decide +kernel
theorem dd_X1_crossings_108 : decode cX1_crossings 108 = .ok (.istore 9, 2) := by decide +kernel
theorem dd_X1_crossings_110 : decode cX1_crossings 110 = .ok (.iload 5, 2) := by decide +kernel
theorem dd_X1_crossings_112 : decode cX1_crossings 112 = .ok (.iload 8, 2) := by decide +kernel
theorem dd_X1_crossings_114 : decode cX1_crossings 114 = .ok (.if_icmp .ne 25, 3) := by decide +kernel
theorem dd_X1_crossings_117 : decode cX1_crossings 117 = .ok (.iload 6, 2) := by decide +kernel
theorem dd_X1_crossings_119 : decode cX1_crossings 119 = .ok (.iload 9, 2) := by decide +kernel
theorem dd_X1_crossings_121 : decode cX1_crossings 121 = .ok (.if_icmp .eq 35, 3) := by decide +kernel
theorem dd_X1_crossings_124 : decode cX1_crossings 124 = .ok (.aload_n 0, 1) := by decide +kernel
theorem dd_X1_crossings_125 : decode cX1_crossings 125 = .ok (.iload 4, 2) := by decide +kernel
theorem dd_X1_crossings_127 : decode cX1_crossings 127 = .ok (.aload_n 1, 1) := by decide +kernel
theorem dd_X1_crossings_128 : decode cX1_crossings 128 = .ok (.iload 7, 2) := by decide +kernel
theorem dd_X1_crossings_130 : decode cX1_crossings 130 = .ok (.invokestatic 36, 3) := by decide +kernel
theorem dd_X1_crossings_133 : decode cX1_crossings 133 = .ok (.ifCond .eq 23, 3) := by decide +kernel
theorem dd_X1_crossings_136 : decode cX1_crossings 136 = .ok (.goto 17, 3) := by decide +kernel
theorem dd_X1_crossings_139 : decode cX1_crossings 139 = .ok (.iload 6, 2) := by decide +kernel
theorem dd_X1_crossings_141 : decode cX1_crossings 141 = .ok (.iload 5, 2) := by decide +kernel
theorem dd_X1_crossings_143 : decode cX1_crossings 143 = .ok (.iload 9, 2) := by decide +kernel
theorem dd_X1_crossings_145 : decode cX1_crossings 145 = .ok (.iload 8, 2) := by decide +kernel
theorem dd_X1_crossings_147 : decode cX1_crossings 147 = .ok (.invokestatic 40, 3) := by decide +kernel
theorem dd_X1_crossings_150 : decode cX1_crossings 150 = .ok (.ifCond .eq 6, 3) := by decide +kernel
theorem dd_X1_crossings_153 : decode cX1_crossings 153 = .ok (.iinc 3 1, 3) := by decide +kernel
theorem dd_X1_crossings_156 : decode cX1_crossings 156 = .ok (.iinc 7 1, 3) := by decide +kernel
theorem dd_X1_crossings_159 : decode cX1_crossings 159 = .ok (.goto (-107), 3) := by decide +kernel
theorem dd_X1_crossings_162 : decode cX1_crossings 162 = .ok (.iinc 4 1, 3) := by decide +kernel
theorem dd_X1_crossings_165 : decode cX1_crossings 165 = .ok (.goto (-160), 3) := by decide +kernel
theorem dd_X1_crossings_168 : decode cX1_crossings 168 = .ok (.iload_n 3, 1) := by decide +kernel
theorem dd_X1_crossings_169 : decode cX1_crossings 169 = .ok (.ireturn, 1) := by decide +kernel
theorem ml_X1_36 : Cond.methodLink RX1 36 m_X1_changeSides.1 ∈ am_tbl := ri_lw_in (pl := 437) (by decide +kernel)
theorem ml_X1_40 : Cond.methodLink RX1 40 m_X1_cross.1 ∈ am_tbl := ri_lw_in (pl := 448) (by decide +kernel)
theorem ok_X1_crossings : am_okM m_X1_crossings 3 ∧ Cond.static m_X1_crossings.1 ∈ am_tbl := ri_mk0 436 86 435 0 (by decide +kernel)
theorem k_X1_crossings {a L b M : Nat} {g : Int} {F A : gs_F} (hI : gs_I F A) (hr : gs_row a L) (ho : gs_row b M) (hg : g = 0 ∨ g = 1) : ∀ nN : Nat, (∀ (s : Int) (i : Int),  0 ≤ i ∧ i ≤ F a 1 → 0 ≤ s ∧ s ≤ 400 * i → (F a 1 - i) * 402 + 1 < (nN : Int) → sA m_X1_crossings 4 (fun rv F' A' => ∃ z : Int, rv = some (gs_iv z) ∧ F = F' ∧ A = A' ∧ (0 ≤ z ∧ z ≤ 160000)) 5 [(4, gs_iv i), (3, gs_iv s), (0, .ref a), (1, .ref b), (2, gs_iv g)] [] F A) ∧ (∀ (s : Int) (i : Int) (u : Int) (x : Int) (j : Int),  0 ≤ i ∧ i < F a 1 → 0 ≤ j ∧ j ≤ F b 1 → 0 ≤ s ∧ s ≤ 400 * i + j → -9 ≤ u ∧ u ≤ 9 → -9 ≤ x ∧ x ≤ 9 → F b 1 ≤ 400 → (F a 1 - i) * 402 - j < (nN : Int) → sA m_X1_crossings 4 (fun rv F' A' => ∃ z : Int, rv = some (gs_iv z) ∧ F = F' ∧ A = A' ∧ (0 ≤ z ∧ z ≤ 160000)) 52 [(7, gs_iv j), (6, gs_iv x), (5, gs_iv u), (4, gs_iv i), (3, gs_iv s), (0, .ref a), (1, .ref b), (2, gs_iv g)] [] F A) := by
  intro nN
  induction nN with
  | zero =>
    exact ⟨fun a0 a1 i0 i1 hm => by exfalso; omega, fun a0 a1 a2 a3 a4 i0 i1 i2 i3 i4 i5 hm => by exfalso; omega⟩
  | succ nN ih =>
    refine ⟨?_, ?_⟩
    · skip
      intro s i i0 i1 hm
      have b1 := gs_row_sz hr hI
      have b2 := gs_row_sz ho hI
      have hLL := gs_row_sz hr hI
      have hMM := gs_row_sz ho hI
      refine sA_iload dd_X1_crossings_5 (.head _) ?_
      refine sA_aload_n dd_X1_crossings_7 rfl (.tail _ (.tail _ (.head _))) ?_
      refine sA_geti (ci := 4) (j := 1) (q := (RX4, TX4, 2)) dd_X1_crossings_8 rfl (by decide) fl_X1_28 (Nat.lt_of_succ_lt hr.1) hr.2.1 rfl ?_
      refine sA_icmp_ge (tgt := 168) dd_X1_crossings_11 (by decide) (by omega) (by omega) (fun q3 => ?_) (fun q3 => ?_)
      · skip
        refine sA_iload_n dd_X1_crossings_168 rfl (.tail _ (.head _)) ?_
        refine sA_iret (z := s) dd_X1_crossings_169 rfl ?_
        exact ⟨_, rfl, rfl, rfl, by omega⟩
      · skip
        refine sA_aload_n dd_X1_crossings_14 rfl (.tail _ (.tail _ (.head _))) ?_
        refine sA_getr (ci := 4) (j := 0) (q := (RX4, TX4, 2)) dd_X1_crossings_15 rfl (by decide) fl_X1_32 (Nat.lt_of_succ_lt hr.1) hr.2.1 rfl ?_
        refine sA_iload dd_X1_crossings_18 (.head _) ?_
        refine sA_iald (n := L) dd_X1_crossings_20 hr.1 hr.2.2.1 (by omega) (Nat.le_trans hr.2.2.2.2.2.2 (by decide)) ?_
        have b4 := gs_row_el hr hI i.toNat
        refine sA_istore (lv' := [(5, gs_iv (A (a + 1) i.toNat)), (4, gs_iv i), (3, gs_iv s), (0, .ref a), (1, .ref b), (2, gs_iv g)]) dd_X1_crossings_21 (by decide) rfl ?_
        refine sA_aload_n dd_X1_crossings_23 rfl (.tail _ (.tail _ (.tail _ (.head _)))) ?_
        refine sA_getr (ci := 4) (j := 0) (q := (RX4, TX4, 2)) dd_X1_crossings_24 rfl (by decide) fl_X1_32 (Nat.lt_of_succ_lt hr.1) hr.2.1 rfl ?_
        refine sA_iload dd_X1_crossings_27 (.tail _ (.head _)) ?_
        refine sA_if_ne (tgt := 41) dd_X1_crossings_29 (by decide) (by omega) (fun q5 => ?_) (fun q5 => ?_)
        · skip
          refine sA_iload dd_X1_crossings_41 (.tail _ (.head _)) ?_
          refine sA_iconst (z := 1) dd_X1_crossings_43 ?_
          refine sA_isub dd_X1_crossings_44 ?_
          refine sA_iald (n := L) dd_X1_crossings_45 hr.1 hr.2.2.1 (by omega) (Nat.le_trans hr.2.2.2.2.2.2 (by decide)) ?_
          have b6 := gs_row_el hr hI (i - 1).toNat
          refine sA_ineg dd_X1_crossings_46 ?_
          refine sA_istore (lv' := [(6, gs_iv (-(A (a + 1) (i - 1).toNat))), (5, gs_iv (A (a + 1) i.toNat)), (4, gs_iv i), (3, gs_iv s), (0, .ref a), (1, .ref b), (2, gs_iv g)]) dd_X1_crossings_47 (by decide) rfl ?_
          refine sA_iconst (z := 0) dd_X1_crossings_49 ?_
          refine sA_istore (lv' := [(7, gs_iv 0), (6, gs_iv (-(A (a + 1) (i - 1).toNat))), (5, gs_iv (A (a + 1) i.toNat)), (4, gs_iv i), (3, gs_iv s), (0, .ref a), (1, .ref b), (2, gs_iv g)]) dd_X1_crossings_50 (by decide) rfl ?_
          refine sA_sub (lv2 := [(7, gs_iv 0), (6, gs_iv (-(A (a + 1) (i - 1).toNat))), (5, gs_iv (A (a + 1) i.toNat)), (4, gs_iv i), (3, gs_iv s), (0, .ref a), (1, .ref b), (2, gs_iv g)]) (List.forall_mem_cons.mpr ⟨(.head _), (List.forall_mem_cons.mpr ⟨(.tail _ (.head _)), (List.forall_mem_cons.mpr ⟨(.tail _ (.tail _ (.head _))), (List.forall_mem_cons.mpr ⟨(.tail _ (.tail _ (.tail _ (.head _)))), (List.forall_mem_cons.mpr ⟨(.tail _ (.tail _ (.tail _ (.tail _ (.head _))))), (List.forall_mem_cons.mpr ⟨(.tail _ (.tail _ (.tail _ (.tail _ (.tail _ (.head _)))))), (List.forall_mem_cons.mpr ⟨(.tail _ (.tail _ (.tail _ (.tail _ (.tail _ (.tail _ (.head _))))))), (List.forall_mem_cons.mpr ⟨(.tail _ (.tail _ (.tail _ (.tail _ (.tail _ (.tail _ (.tail _ (.head _)))))))), (fun _ h => absurd h List.not_mem_nil)⟩)⟩)⟩)⟩)⟩)⟩)⟩)⟩) ?_
          exact ih.2 s i (A (a + 1) i.toNat) (-(A (a + 1) (i - 1).toNat)) 0  (by omega) (by omega) (by omega) (by omega) (by omega) (by omega) (by omega)
        · skip
          refine sA_aload_n dd_X1_crossings_32 rfl (.tail _ (.tail _ (.tail _ (.head _)))) ?_
          refine sA_geti (ci := 4) (j := 1) (q := (RX4, TX4, 2)) dd_X1_crossings_33 rfl (by decide) fl_X1_28 (Nat.lt_of_succ_lt hr.1) hr.2.1 rfl ?_
          refine sA_iconst (z := 1) dd_X1_crossings_36 ?_
          refine sA_isub dd_X1_crossings_37 ?_
          refine sA_goto (tgt := 45) dd_X1_crossings_38 (by decide) ?_
          refine sA_iald (n := L) dd_X1_crossings_45 hr.1 hr.2.2.1 (by omega) (Nat.le_trans hr.2.2.2.2.2.2 (by decide)) ?_
          have b7 := gs_row_el hr hI ((F a 1) - 1).toNat
          refine sA_ineg dd_X1_crossings_46 ?_
          refine sA_istore (lv' := [(6, gs_iv (-(A (a + 1) ((F a 1) - 1).toNat))), (5, gs_iv (A (a + 1) i.toNat)), (4, gs_iv i), (3, gs_iv s), (0, .ref a), (1, .ref b), (2, gs_iv g)]) dd_X1_crossings_47 (by decide) rfl ?_
          refine sA_iconst (z := 0) dd_X1_crossings_49 ?_
          refine sA_istore (lv' := [(7, gs_iv 0), (6, gs_iv (-(A (a + 1) ((F a 1) - 1).toNat))), (5, gs_iv (A (a + 1) i.toNat)), (4, gs_iv i), (3, gs_iv s), (0, .ref a), (1, .ref b), (2, gs_iv g)]) dd_X1_crossings_50 (by decide) rfl ?_
          refine sA_sub (lv2 := [(7, gs_iv 0), (6, gs_iv (-(A (a + 1) ((F a 1) - 1).toNat))), (5, gs_iv (A (a + 1) i.toNat)), (4, gs_iv i), (3, gs_iv s), (0, .ref a), (1, .ref b), (2, gs_iv g)]) (List.forall_mem_cons.mpr ⟨(.head _), (List.forall_mem_cons.mpr ⟨(.tail _ (.head _)), (List.forall_mem_cons.mpr ⟨(.tail _ (.tail _ (.head _))), (List.forall_mem_cons.mpr ⟨(.tail _ (.tail _ (.tail _ (.head _)))), (List.forall_mem_cons.mpr ⟨(.tail _ (.tail _ (.tail _ (.tail _ (.head _))))), (List.forall_mem_cons.mpr ⟨(.tail _ (.tail _ (.tail _ (.tail _ (.tail _ (.head _)))))), (List.forall_mem_cons.mpr ⟨(.tail _ (.tail _ (.tail _ (.tail _ (.tail _ (.tail _ (.head _))))))), (List.forall_mem_cons.mpr ⟨(.tail _ (.tail _ (.tail _ (.tail _ (.tail _ (.tail _ (.tail _ (.head _)))))))), (fun _ h => absurd h List.not_mem_nil)⟩)⟩)⟩)⟩)⟩)⟩)⟩)⟩) ?_
          exact ih.2 s i (A (a + 1) i.toNat) (-(A (a + 1) ((F a 1) - 1).toNat)) 0  (by omega) (by omega) (by omega) (by omega) (by omega) (by omega) (by omega)
    · skip
      intro s i u x j i0 i1 i2 i3 i4 i5 hm
      have b8 := gs_row_sz hr hI
      have b9 := gs_row_sz ho hI
      have hLL := gs_row_sz hr hI
      have hMM := gs_row_sz ho hI
      refine sA_iload dd_X1_crossings_52 (.head _) ?_
      refine sA_aload_n dd_X1_crossings_54 rfl (.tail _ (.tail _ (.tail _ (.tail _ (.tail _ (.tail _ (.head _))))))) ?_
      refine sA_geti (ci := 4) (j := 1) (q := (RX4, TX4, 2)) dd_X1_crossings_55 rfl (by decide) fl_X1_28 (Nat.lt_of_succ_lt ho.1) ho.2.1 rfl ?_
      refine sA_icmp_ge (tgt := 162) dd_X1_crossings_58 (by decide) (by omega) (by omega) (fun q10 => ?_) (fun q10 => ?_)
      · skip
        refine sA_iinc (lv' := [(4, gs_iv (i + 1)), (7, gs_iv j), (6, gs_iv x), (5, gs_iv u), (3, gs_iv s), (0, .ref a), (1, .ref b), (2, gs_iv g)]) dd_X1_crossings_162 (.tail _ (.tail _ (.tail _ (.head _)))) (by decide) rfl ?_
        refine sA_goto (tgt := 5) dd_X1_crossings_165 (by decide) ?_
        refine sA_sub (lv2 := [(4, gs_iv (i + 1)), (3, gs_iv s), (0, .ref a), (1, .ref b), (2, gs_iv g)]) (List.forall_mem_cons.mpr ⟨(.head _), (List.forall_mem_cons.mpr ⟨(.tail _ (.tail _ (.tail _ (.tail _ (.head _))))), (List.forall_mem_cons.mpr ⟨(.tail _ (.tail _ (.tail _ (.tail _ (.tail _ (.head _)))))), (List.forall_mem_cons.mpr ⟨(.tail _ (.tail _ (.tail _ (.tail _ (.tail _ (.tail _ (.head _))))))), (List.forall_mem_cons.mpr ⟨(.tail _ (.tail _ (.tail _ (.tail _ (.tail _ (.tail _ (.tail _ (.head _)))))))), (fun _ h => absurd h List.not_mem_nil)⟩)⟩)⟩)⟩)⟩) ?_
        exact ih.1 s (i + 1)  (by omega) (by omega) (by omega)
      · skip
        refine sA_aload_n dd_X1_crossings_61 rfl (.tail _ (.tail _ (.tail _ (.tail _ (.tail _ (.tail _ (.head _))))))) ?_
        refine sA_getr (ci := 4) (j := 0) (q := (RX4, TX4, 2)) dd_X1_crossings_62 rfl (by decide) fl_X1_32 (Nat.lt_of_succ_lt ho.1) ho.2.1 rfl ?_
        refine sA_iload dd_X1_crossings_65 (.head _) ?_
        refine sA_iald (n := M) dd_X1_crossings_67 ho.1 ho.2.2.1 (by omega) (Nat.le_trans ho.2.2.2.2.2.2 (by decide)) ?_
        have b11 := gs_row_el ho hI j.toNat
        refine sA_istore (lv' := [(8, gs_iv (A (b + 1) j.toNat)), (7, gs_iv j), (6, gs_iv x), (5, gs_iv u), (4, gs_iv i), (3, gs_iv s), (0, .ref a), (1, .ref b), (2, gs_iv g)]) dd_X1_crossings_68 (by decide) rfl ?_
        refine sA_iload dd_X1_crossings_70 (.tail _ (.tail _ (.tail _ (.head _)))) ?_
        refine sA_iload dd_X1_crossings_72 (.head _) ?_
        refine sA_icmp_eq (tgt := 84) dd_X1_crossings_74 (by decide) (by omega) (by omega) (fun q12 => ?_) (fun q12 => ?_)
        · skip
          refine sA_aload_n dd_X1_crossings_84 rfl (.tail _ (.tail _ (.tail _ (.tail _ (.tail _ (.tail _ (.tail _ (.head _)))))))) ?_
          refine sA_getr (ci := 4) (j := 0) (q := (RX4, TX4, 2)) dd_X1_crossings_85 rfl (by decide) fl_X1_32 (Nat.lt_of_succ_lt ho.1) ho.2.1 rfl ?_
          refine sA_iload dd_X1_crossings_88 (.tail _ (.head _)) ?_
          refine sA_if_ne (tgt := 102) dd_X1_crossings_90 (by decide) (by omega) (fun q13 => ?_) (fun q13 => ?_)
          · skip
            refine sA_iload dd_X1_crossings_102 (.tail _ (.head _)) ?_
            refine sA_iconst (z := 1) dd_X1_crossings_104 ?_
            refine sA_isub dd_X1_crossings_105 ?_
            refine sA_iald (n := M) dd_X1_crossings_106 ho.1 ho.2.2.1 (by omega) (Nat.le_trans ho.2.2.2.2.2.2 (by decide)) ?_
            have b14 := gs_row_el ho hI (j - 1).toNat
            refine sA_ineg dd_X1_crossings_107 ?_
            refine sA_istore (lv' := [(9, gs_iv (-(A (b + 1) (j - 1).toNat))), (8, gs_iv (A (b + 1) j.toNat)), (7, gs_iv j), (6, gs_iv x), (5, gs_iv u), (4, gs_iv i), (3, gs_iv s), (0, .ref a), (1, .ref b), (2, gs_iv g)]) dd_X1_crossings_108 (by decide) rfl ?_
            refine sA_iload dd_X1_crossings_110 (.tail _ (.tail _ (.tail _ (.tail _ (.head _))))) ?_
            refine sA_iload dd_X1_crossings_112 (.tail _ (.head _)) ?_
            refine sA_icmp_ne (tgt := 139) dd_X1_crossings_114 (by decide) (by omega) (by omega) (fun q15 => absurd q15 (by omega)) (fun q15 => ?_)
            refine sA_iload dd_X1_crossings_117 (.tail _ (.tail _ (.tail _ (.head _)))) ?_
            refine sA_iload dd_X1_crossings_119 (.head _) ?_
            refine sA_icmp_eq (tgt := 156) dd_X1_crossings_121 (by decide) (by omega) (by omega) (fun q16 => ?_) (fun q16 => ?_)
            · skip
              refine sA_iinc (lv' := [(7, gs_iv (j + 1)), (9, gs_iv (-(A (b + 1) (j - 1).toNat))), (8, gs_iv (A (b + 1) j.toNat)), (6, gs_iv x), (5, gs_iv u), (4, gs_iv i), (3, gs_iv s), (0, .ref a), (1, .ref b), (2, gs_iv g)]) dd_X1_crossings_156 (.tail _ (.tail _ (.head _))) (by decide) rfl ?_
              refine sA_goto (tgt := 52) dd_X1_crossings_159 (by decide) ?_
              refine sA_sub (lv2 := [(7, gs_iv (j + 1)), (6, gs_iv x), (5, gs_iv u), (4, gs_iv i), (3, gs_iv s), (0, .ref a), (1, .ref b), (2, gs_iv g)]) (List.forall_mem_cons.mpr ⟨(.head _), (List.forall_mem_cons.mpr ⟨(.tail _ (.tail _ (.tail _ (.head _)))), (List.forall_mem_cons.mpr ⟨(.tail _ (.tail _ (.tail _ (.tail _ (.head _))))), (List.forall_mem_cons.mpr ⟨(.tail _ (.tail _ (.tail _ (.tail _ (.tail _ (.head _)))))), (List.forall_mem_cons.mpr ⟨(.tail _ (.tail _ (.tail _ (.tail _ (.tail _ (.tail _ (.head _))))))), (List.forall_mem_cons.mpr ⟨(.tail _ (.tail _ (.tail _ (.tail _ (.tail _ (.tail _ (.tail _ (.head _)))))))), (List.forall_mem_cons.mpr ⟨(.tail _ (.tail _ (.tail _ (.tail _ (.tail _ (.tail _ (.tail _ (.tail _ (.head _))))))))), (List.forall_mem_cons.mpr ⟨(.tail _ (.tail _ (.tail _ (.tail _ (.tail _ (.tail _ (.tail _ (.tail _ (.tail _ (.head _)))))))))), (fun _ h => absurd h List.not_mem_nil)⟩)⟩)⟩)⟩)⟩)⟩)⟩)⟩) ?_
              exact ih.2 s i u x (j + 1)  (by omega) (by omega) (by omega) (by omega) (by omega) (by omega) (by omega)
            · skip
              refine sA_aload_n dd_X1_crossings_124 rfl (.tail _ (.tail _ (.tail _ (.tail _ (.tail _ (.tail _ (.tail _ (.head _)))))))) ?_
              refine sA_iload dd_X1_crossings_125 (.tail _ (.tail _ (.tail _ (.tail _ (.tail _ (.head _)))))) ?_
              refine sA_aload_n dd_X1_crossings_127 rfl (.tail _ (.tail _ (.tail _ (.tail _ (.tail _ (.tail _ (.tail _ (.tail _ (.head _))))))))) ?_
              refine sA_iload dd_X1_crossings_128 (.tail _ (.tail _ (.head _))) ?_
              refine sA_callS (y2 := m_X1_changeSides) (n2 := 4) (d2 := 3) (as := [.ref a, gs_iv i, .ref b, gs_iv j]) (rest := []) dd_X1_crossings_130 ok_X1_changeSides ml_X1_36 rfl rfl (Nat.le_of_ble_eq_true rfl) (by decide) (c_X1_changeSides hI hr (by omega) ho (by omega)) (fun r17 F18 A19 h20 => ?_)
              obtain ⟨z23, e22, e24, e25, x21⟩ := h20
              subst e22 e24 e25
              show sA _ _ _ 133 _ [gs_iv z23] _ _
              refine sA_if_eq (tgt := 156) dd_X1_crossings_133 (by decide) (by omega) (fun q26 => ?_) (fun q26 => ?_)
              · skip
                refine sA_iinc (lv' := [(7, gs_iv (j + 1)), (9, gs_iv (-(A (b + 1) (j - 1).toNat))), (8, gs_iv (A (b + 1) j.toNat)), (6, gs_iv x), (5, gs_iv u), (4, gs_iv i), (3, gs_iv s), (0, .ref a), (1, .ref b), (2, gs_iv g)]) dd_X1_crossings_156 (.tail _ (.tail _ (.head _))) (by decide) rfl ?_
                refine sA_goto (tgt := 52) dd_X1_crossings_159 (by decide) ?_
                refine sA_sub (lv2 := [(7, gs_iv (j + 1)), (6, gs_iv x), (5, gs_iv u), (4, gs_iv i), (3, gs_iv s), (0, .ref a), (1, .ref b), (2, gs_iv g)]) (List.forall_mem_cons.mpr ⟨(.head _), (List.forall_mem_cons.mpr ⟨(.tail _ (.tail _ (.tail _ (.head _)))), (List.forall_mem_cons.mpr ⟨(.tail _ (.tail _ (.tail _ (.tail _ (.head _))))), (List.forall_mem_cons.mpr ⟨(.tail _ (.tail _ (.tail _ (.tail _ (.tail _ (.head _)))))), (List.forall_mem_cons.mpr ⟨(.tail _ (.tail _ (.tail _ (.tail _ (.tail _ (.tail _ (.head _))))))), (List.forall_mem_cons.mpr ⟨(.tail _ (.tail _ (.tail _ (.tail _ (.tail _ (.tail _ (.tail _ (.head _)))))))), (List.forall_mem_cons.mpr ⟨(.tail _ (.tail _ (.tail _ (.tail _ (.tail _ (.tail _ (.tail _ (.tail _ (.head _))))))))), (List.forall_mem_cons.mpr ⟨(.tail _ (.tail _ (.tail _ (.tail _ (.tail _ (.tail _ (.tail _ (.tail _ (.tail _ (.head _)))))))))), (fun _ h => absurd h List.not_mem_nil)⟩)⟩)⟩)⟩)⟩)⟩)⟩)⟩) ?_
                exact ih.2 s i u x (j + 1)  (by omega) (by omega) (by omega) (by omega) (by omega) (by omega) (by omega)
              · skip
                refine sA_goto (tgt := 153) dd_X1_crossings_136 (by decide) ?_
                refine sA_iinc (lv' := [(3, gs_iv (s + 1)), (9, gs_iv (-(A (b + 1) (j - 1).toNat))), (8, gs_iv (A (b + 1) j.toNat)), (7, gs_iv j), (6, gs_iv x), (5, gs_iv u), (4, gs_iv i), (0, .ref a), (1, .ref b), (2, gs_iv g)]) dd_X1_crossings_153 (.tail _ (.tail _ (.tail _ (.tail _ (.tail _ (.tail _ (.head _))))))) (by decide) rfl ?_
                refine sA_iinc (lv' := [(7, gs_iv (j + 1)), (3, gs_iv (s + 1)), (9, gs_iv (-(A (b + 1) (j - 1).toNat))), (8, gs_iv (A (b + 1) j.toNat)), (6, gs_iv x), (5, gs_iv u), (4, gs_iv i), (0, .ref a), (1, .ref b), (2, gs_iv g)]) dd_X1_crossings_156 (.tail _ (.tail _ (.tail _ (.head _)))) (by decide) rfl ?_
                refine sA_goto (tgt := 52) dd_X1_crossings_159 (by decide) ?_
                refine sA_sub (lv2 := [(7, gs_iv (j + 1)), (6, gs_iv x), (5, gs_iv u), (4, gs_iv i), (3, gs_iv (s + 1)), (0, .ref a), (1, .ref b), (2, gs_iv g)]) (List.forall_mem_cons.mpr ⟨(.head _), (List.forall_mem_cons.mpr ⟨(.tail _ (.tail _ (.tail _ (.tail _ (.head _))))), (List.forall_mem_cons.mpr ⟨(.tail _ (.tail _ (.tail _ (.tail _ (.tail _ (.head _)))))), (List.forall_mem_cons.mpr ⟨(.tail _ (.tail _ (.tail _ (.tail _ (.tail _ (.tail _ (.head _))))))), (List.forall_mem_cons.mpr ⟨(.tail _ (.head _)), (List.forall_mem_cons.mpr ⟨(.tail _ (.tail _ (.tail _ (.tail _ (.tail _ (.tail _ (.tail _ (.head _)))))))), (List.forall_mem_cons.mpr ⟨(.tail _ (.tail _ (.tail _ (.tail _ (.tail _ (.tail _ (.tail _ (.tail _ (.head _))))))))), (List.forall_mem_cons.mpr ⟨(.tail _ (.tail _ (.tail _ (.tail _ (.tail _ (.tail _ (.tail _ (.tail _ (.tail _ (.head _)))))))))), (fun _ h => absurd h List.not_mem_nil)⟩)⟩)⟩)⟩)⟩)⟩)⟩)⟩) ?_
                exact ih.2 (s + 1) i u x (j + 1)  (by omega) (by omega) (by omega) (by omega) (by omega) (by omega) (by omega)
          · skip
            refine sA_aload_n dd_X1_crossings_93 rfl (.tail _ (.tail _ (.tail _ (.tail _ (.tail _ (.tail _ (.tail _ (.head _)))))))) ?_
            refine sA_geti (ci := 4) (j := 1) (q := (RX4, TX4, 2)) dd_X1_crossings_94 rfl (by decide) fl_X1_28 (Nat.lt_of_succ_lt ho.1) ho.2.1 rfl ?_
            refine sA_iconst (z := 1) dd_X1_crossings_97 ?_
            refine sA_isub dd_X1_crossings_98 ?_
            refine sA_goto (tgt := 106) dd_X1_crossings_99 (by decide) ?_
            refine sA_iald (n := M) dd_X1_crossings_106 ho.1 ho.2.2.1 (by omega) (Nat.le_trans ho.2.2.2.2.2.2 (by decide)) ?_
            have b27 := gs_row_el ho hI ((F b 1) - 1).toNat
            refine sA_ineg dd_X1_crossings_107 ?_
            refine sA_istore (lv' := [(9, gs_iv (-(A (b + 1) ((F b 1) - 1).toNat))), (8, gs_iv (A (b + 1) j.toNat)), (7, gs_iv j), (6, gs_iv x), (5, gs_iv u), (4, gs_iv i), (3, gs_iv s), (0, .ref a), (1, .ref b), (2, gs_iv g)]) dd_X1_crossings_108 (by decide) rfl ?_
            refine sA_iload dd_X1_crossings_110 (.tail _ (.tail _ (.tail _ (.tail _ (.head _))))) ?_
            refine sA_iload dd_X1_crossings_112 (.tail _ (.head _)) ?_
            refine sA_icmp_ne (tgt := 139) dd_X1_crossings_114 (by decide) (by omega) (by omega) (fun q28 => absurd q28 (by omega)) (fun q28 => ?_)
            refine sA_iload dd_X1_crossings_117 (.tail _ (.tail _ (.tail _ (.head _)))) ?_
            refine sA_iload dd_X1_crossings_119 (.head _) ?_
            refine sA_icmp_eq (tgt := 156) dd_X1_crossings_121 (by decide) (by omega) (by omega) (fun q29 => ?_) (fun q29 => ?_)
            · skip
              refine sA_iinc (lv' := [(7, gs_iv (j + 1)), (9, gs_iv (-(A (b + 1) ((F b 1) - 1).toNat))), (8, gs_iv (A (b + 1) j.toNat)), (6, gs_iv x), (5, gs_iv u), (4, gs_iv i), (3, gs_iv s), (0, .ref a), (1, .ref b), (2, gs_iv g)]) dd_X1_crossings_156 (.tail _ (.tail _ (.head _))) (by decide) rfl ?_
              refine sA_goto (tgt := 52) dd_X1_crossings_159 (by decide) ?_
              refine sA_sub (lv2 := [(7, gs_iv (j + 1)), (6, gs_iv x), (5, gs_iv u), (4, gs_iv i), (3, gs_iv s), (0, .ref a), (1, .ref b), (2, gs_iv g)]) (List.forall_mem_cons.mpr ⟨(.head _), (List.forall_mem_cons.mpr ⟨(.tail _ (.tail _ (.tail _ (.head _)))), (List.forall_mem_cons.mpr ⟨(.tail _ (.tail _ (.tail _ (.tail _ (.head _))))), (List.forall_mem_cons.mpr ⟨(.tail _ (.tail _ (.tail _ (.tail _ (.tail _ (.head _)))))), (List.forall_mem_cons.mpr ⟨(.tail _ (.tail _ (.tail _ (.tail _ (.tail _ (.tail _ (.head _))))))), (List.forall_mem_cons.mpr ⟨(.tail _ (.tail _ (.tail _ (.tail _ (.tail _ (.tail _ (.tail _ (.head _)))))))), (List.forall_mem_cons.mpr ⟨(.tail _ (.tail _ (.tail _ (.tail _ (.tail _ (.tail _ (.tail _ (.tail _ (.head _))))))))), (List.forall_mem_cons.mpr ⟨(.tail _ (.tail _ (.tail _ (.tail _ (.tail _ (.tail _ (.tail _ (.tail _ (.tail _ (.head _)))))))))), (fun _ h => absurd h List.not_mem_nil)⟩)⟩)⟩)⟩)⟩)⟩)⟩)⟩) ?_
              exact ih.2 s i u x (j + 1)  (by omega) (by omega) (by omega) (by omega) (by omega) (by omega) (by omega)
            · skip
              refine sA_aload_n dd_X1_crossings_124 rfl (.tail _ (.tail _ (.tail _ (.tail _ (.tail _ (.tail _ (.tail _ (.head _)))))))) ?_
              refine sA_iload dd_X1_crossings_125 (.tail _ (.tail _ (.tail _ (.tail _ (.tail _ (.head _)))))) ?_
              refine sA_aload_n dd_X1_crossings_127 rfl (.tail _ (.tail _ (.tail _ (.tail _ (.tail _ (.tail _ (.tail _ (.tail _ (.head _))))))))) ?_
              refine sA_iload dd_X1_crossings_128 (.tail _ (.tail _ (.head _))) ?_
              refine sA_callS (y2 := m_X1_changeSides) (n2 := 4) (d2 := 3) (as := [.ref a, gs_iv i, .ref b, gs_iv j]) (rest := []) dd_X1_crossings_130 ok_X1_changeSides ml_X1_36 rfl rfl (Nat.le_of_ble_eq_true rfl) (by decide) (c_X1_changeSides hI hr (by omega) ho (by omega)) (fun r30 F31 A32 h33 => ?_)
              obtain ⟨z36, e35, e37, e38, x34⟩ := h33
              subst e35 e37 e38
              show sA _ _ _ 133 _ [gs_iv z36] _ _
              refine sA_if_eq (tgt := 156) dd_X1_crossings_133 (by decide) (by omega) (fun q39 => ?_) (fun q39 => ?_)
              · skip
                refine sA_iinc (lv' := [(7, gs_iv (j + 1)), (9, gs_iv (-(A (b + 1) ((F b 1) - 1).toNat))), (8, gs_iv (A (b + 1) j.toNat)), (6, gs_iv x), (5, gs_iv u), (4, gs_iv i), (3, gs_iv s), (0, .ref a), (1, .ref b), (2, gs_iv g)]) dd_X1_crossings_156 (.tail _ (.tail _ (.head _))) (by decide) rfl ?_
                refine sA_goto (tgt := 52) dd_X1_crossings_159 (by decide) ?_
                refine sA_sub (lv2 := [(7, gs_iv (j + 1)), (6, gs_iv x), (5, gs_iv u), (4, gs_iv i), (3, gs_iv s), (0, .ref a), (1, .ref b), (2, gs_iv g)]) (List.forall_mem_cons.mpr ⟨(.head _), (List.forall_mem_cons.mpr ⟨(.tail _ (.tail _ (.tail _ (.head _)))), (List.forall_mem_cons.mpr ⟨(.tail _ (.tail _ (.tail _ (.tail _ (.head _))))), (List.forall_mem_cons.mpr ⟨(.tail _ (.tail _ (.tail _ (.tail _ (.tail _ (.head _)))))), (List.forall_mem_cons.mpr ⟨(.tail _ (.tail _ (.tail _ (.tail _ (.tail _ (.tail _ (.head _))))))), (List.forall_mem_cons.mpr ⟨(.tail _ (.tail _ (.tail _ (.tail _ (.tail _ (.tail _ (.tail _ (.head _)))))))), (List.forall_mem_cons.mpr ⟨(.tail _ (.tail _ (.tail _ (.tail _ (.tail _ (.tail _ (.tail _ (.tail _ (.head _))))))))), (List.forall_mem_cons.mpr ⟨(.tail _ (.tail _ (.tail _ (.tail _ (.tail _ (.tail _ (.tail _ (.tail _ (.tail _ (.head _)))))))))), (fun _ h => absurd h List.not_mem_nil)⟩)⟩)⟩)⟩)⟩)⟩)⟩)⟩) ?_
                exact ih.2 s i u x (j + 1)  (by omega) (by omega) (by omega) (by omega) (by omega) (by omega) (by omega)
              · skip
                refine sA_goto (tgt := 153) dd_X1_crossings_136 (by decide) ?_
                refine sA_iinc (lv' := [(3, gs_iv (s + 1)), (9, gs_iv (-(A (b + 1) ((F b 1) - 1).toNat))), (8, gs_iv (A (b + 1) j.toNat)), (7, gs_iv j), (6, gs_iv x), (5, gs_iv u), (4, gs_iv i), (0, .ref a), (1, .ref b), (2, gs_iv g)]) dd_X1_crossings_153 (.tail _ (.tail _ (.tail _ (.tail _ (.tail _ (.tail _ (.head _))))))) (by decide) rfl ?_
                refine sA_iinc (lv' := [(7, gs_iv (j + 1)), (3, gs_iv (s + 1)), (9, gs_iv (-(A (b + 1) ((F b 1) - 1).toNat))), (8, gs_iv (A (b + 1) j.toNat)), (6, gs_iv x), (5, gs_iv u), (4, gs_iv i), (0, .ref a), (1, .ref b), (2, gs_iv g)]) dd_X1_crossings_156 (.tail _ (.tail _ (.tail _ (.head _)))) (by decide) rfl ?_
                refine sA_goto (tgt := 52) dd_X1_crossings_159 (by decide) ?_
                refine sA_sub (lv2 := [(7, gs_iv (j + 1)), (6, gs_iv x), (5, gs_iv u), (4, gs_iv i), (3, gs_iv (s + 1)), (0, .ref a), (1, .ref b), (2, gs_iv g)]) (List.forall_mem_cons.mpr ⟨(.head _), (List.forall_mem_cons.mpr ⟨(.tail _ (.tail _ (.tail _ (.tail _ (.head _))))), (List.forall_mem_cons.mpr ⟨(.tail _ (.tail _ (.tail _ (.tail _ (.tail _ (.head _)))))), (List.forall_mem_cons.mpr ⟨(.tail _ (.tail _ (.tail _ (.tail _ (.tail _ (.tail _ (.head _))))))), (List.forall_mem_cons.mpr ⟨(.tail _ (.head _)), (List.forall_mem_cons.mpr ⟨(.tail _ (.tail _ (.tail _ (.tail _ (.tail _ (.tail _ (.tail _ (.head _)))))))), (List.forall_mem_cons.mpr ⟨(.tail _ (.tail _ (.tail _ (.tail _ (.tail _ (.tail _ (.tail _ (.tail _ (.head _))))))))), (List.forall_mem_cons.mpr ⟨(.tail _ (.tail _ (.tail _ (.tail _ (.tail _ (.tail _ (.tail _ (.tail _ (.tail _ (.head _)))))))))), (fun _ h => absurd h List.not_mem_nil)⟩)⟩)⟩)⟩)⟩)⟩)⟩)⟩) ?_
                exact ih.2 (s + 1) i u x (j + 1)  (by omega) (by omega) (by omega) (by omega) (by omega) (by omega) (by omega)
        · skip
          refine sA_iload_n dd_X1_crossings_77 rfl (.tail _ (.tail _ (.tail _ (.tail _ (.tail _ (.tail _ (.tail _ (.tail _ (.head _))))))))) ?_
          refine sA_if_ne (tgt := 84) dd_X1_crossings_78 (by decide) (by omega) (fun q40 => ?_) (fun q40 => ?_)
          · skip
            refine sA_aload_n dd_X1_crossings_84 rfl (.tail _ (.tail _ (.tail _ (.tail _ (.tail _ (.tail _ (.tail _ (.head _)))))))) ?_
            refine sA_getr (ci := 4) (j := 0) (q := (RX4, TX4, 2)) dd_X1_crossings_85 rfl (by decide) fl_X1_32 (Nat.lt_of_succ_lt ho.1) ho.2.1 rfl ?_
            refine sA_iload dd_X1_crossings_88 (.tail _ (.head _)) ?_
            refine sA_if_ne (tgt := 102) dd_X1_crossings_90 (by decide) (by omega) (fun q41 => ?_) (fun q41 => ?_)
            · skip
              refine sA_iload dd_X1_crossings_102 (.tail _ (.head _)) ?_
              refine sA_iconst (z := 1) dd_X1_crossings_104 ?_
              refine sA_isub dd_X1_crossings_105 ?_
              refine sA_iald (n := M) dd_X1_crossings_106 ho.1 ho.2.2.1 (by omega) (Nat.le_trans ho.2.2.2.2.2.2 (by decide)) ?_
              have b42 := gs_row_el ho hI (j - 1).toNat
              refine sA_ineg dd_X1_crossings_107 ?_
              refine sA_istore (lv' := [(9, gs_iv (-(A (b + 1) (j - 1).toNat))), (8, gs_iv (A (b + 1) j.toNat)), (7, gs_iv j), (6, gs_iv x), (5, gs_iv u), (4, gs_iv i), (3, gs_iv s), (0, .ref a), (1, .ref b), (2, gs_iv g)]) dd_X1_crossings_108 (by decide) rfl ?_
              refine sA_iload dd_X1_crossings_110 (.tail _ (.tail _ (.tail _ (.tail _ (.head _))))) ?_
              refine sA_iload dd_X1_crossings_112 (.tail _ (.head _)) ?_
              refine sA_icmp_ne (tgt := 139) dd_X1_crossings_114 (by decide) (by omega) (by omega) (fun q43 => ?_) (fun q43 => absurd q43 (by omega))
              refine sA_iload dd_X1_crossings_139 (.tail _ (.tail _ (.tail _ (.head _)))) ?_
              refine sA_iload dd_X1_crossings_141 (.tail _ (.tail _ (.tail _ (.tail _ (.head _))))) ?_
              refine sA_iload dd_X1_crossings_143 (.head _) ?_
              refine sA_iload dd_X1_crossings_145 (.tail _ (.head _)) ?_
              refine sA_callS (y2 := m_X1_cross) (n2 := 4) (d2 := 3) (as := [gs_iv x, gs_iv u, gs_iv (-(A (b + 1) (j - 1).toNat)), gs_iv (A (b + 1) j.toNat)]) (rest := []) dd_X1_crossings_147 ok_X1_cross ml_X1_40 rfl rfl (Nat.le_of_ble_eq_true rfl) (by decide) (c_X1_cross (by omega) (by omega) (by omega) (by omega)) (fun r44 F45 A46 h47 => ?_)
              obtain ⟨z50, e49, e51, e52, x48⟩ := h47
              subst e49 e51 e52
              show sA _ _ _ 150 _ [gs_iv z50] _ _
              refine sA_if_eq (tgt := 156) dd_X1_crossings_150 (by decide) (by omega) (fun q53 => ?_) (fun q53 => ?_)
              · skip
                refine sA_iinc (lv' := [(7, gs_iv (j + 1)), (9, gs_iv (-(A (b + 1) (j - 1).toNat))), (8, gs_iv (A (b + 1) j.toNat)), (6, gs_iv x), (5, gs_iv u), (4, gs_iv i), (3, gs_iv s), (0, .ref a), (1, .ref b), (2, gs_iv g)]) dd_X1_crossings_156 (.tail _ (.tail _ (.head _))) (by decide) rfl ?_
                refine sA_goto (tgt := 52) dd_X1_crossings_159 (by decide) ?_
                refine sA_sub (lv2 := [(7, gs_iv (j + 1)), (6, gs_iv x), (5, gs_iv u), (4, gs_iv i), (3, gs_iv s), (0, .ref a), (1, .ref b), (2, gs_iv g)]) (List.forall_mem_cons.mpr ⟨(.head _), (List.forall_mem_cons.mpr ⟨(.tail _ (.tail _ (.tail _ (.head _)))), (List.forall_mem_cons.mpr ⟨(.tail _ (.tail _ (.tail _ (.tail _ (.head _))))), (List.forall_mem_cons.mpr ⟨(.tail _ (.tail _ (.tail _ (.tail _ (.tail _ (.head _)))))), (List.forall_mem_cons.mpr ⟨(.tail _ (.tail _ (.tail _ (.tail _ (.tail _ (.tail _ (.head _))))))), (List.forall_mem_cons.mpr ⟨(.tail _ (.tail _ (.tail _ (.tail _ (.tail _ (.tail _ (.tail _ (.head _)))))))), (List.forall_mem_cons.mpr ⟨(.tail _ (.tail _ (.tail _ (.tail _ (.tail _ (.tail _ (.tail _ (.tail _ (.head _))))))))), (List.forall_mem_cons.mpr ⟨(.tail _ (.tail _ (.tail _ (.tail _ (.tail _ (.tail _ (.tail _ (.tail _ (.tail _ (.head _)))))))))), (fun _ h => absurd h List.not_mem_nil)⟩)⟩)⟩)⟩)⟩)⟩)⟩)⟩) ?_
                exact ih.2 s i u x (j + 1)  (by omega) (by omega) (by omega) (by omega) (by omega) (by omega) (by omega)
              · skip
                refine sA_iinc (lv' := [(3, gs_iv (s + 1)), (9, gs_iv (-(A (b + 1) (j - 1).toNat))), (8, gs_iv (A (b + 1) j.toNat)), (7, gs_iv j), (6, gs_iv x), (5, gs_iv u), (4, gs_iv i), (0, .ref a), (1, .ref b), (2, gs_iv g)]) dd_X1_crossings_153 (.tail _ (.tail _ (.tail _ (.tail _ (.tail _ (.tail _ (.head _))))))) (by decide) rfl ?_
                refine sA_iinc (lv' := [(7, gs_iv (j + 1)), (3, gs_iv (s + 1)), (9, gs_iv (-(A (b + 1) (j - 1).toNat))), (8, gs_iv (A (b + 1) j.toNat)), (6, gs_iv x), (5, gs_iv u), (4, gs_iv i), (0, .ref a), (1, .ref b), (2, gs_iv g)]) dd_X1_crossings_156 (.tail _ (.tail _ (.tail _ (.head _)))) (by decide) rfl ?_
                refine sA_goto (tgt := 52) dd_X1_crossings_159 (by decide) ?_
                refine sA_sub (lv2 := [(7, gs_iv (j + 1)), (6, gs_iv x), (5, gs_iv u), (4, gs_iv i), (3, gs_iv (s + 1)), (0, .ref a), (1, .ref b), (2, gs_iv g)]) (List.forall_mem_cons.mpr ⟨(.head _), (List.forall_mem_cons.mpr ⟨(.tail _ (.tail _ (.tail _ (.tail _ (.head _))))), (List.forall_mem_cons.mpr ⟨(.tail _ (.tail _ (.tail _ (.tail _ (.tail _ (.head _)))))), (List.forall_mem_cons.mpr ⟨(.tail _ (.tail _ (.tail _ (.tail _ (.tail _ (.tail _ (.head _))))))), (List.forall_mem_cons.mpr ⟨(.tail _ (.head _)), (List.forall_mem_cons.mpr ⟨(.tail _ (.tail _ (.tail _ (.tail _ (.tail _ (.tail _ (.tail _ (.head _)))))))), (List.forall_mem_cons.mpr ⟨(.tail _ (.tail _ (.tail _ (.tail _ (.tail _ (.tail _ (.tail _ (.tail _ (.head _))))))))), (List.forall_mem_cons.mpr ⟨(.tail _ (.tail _ (.tail _ (.tail _ (.tail _ (.tail _ (.tail _ (.tail _ (.tail _ (.head _)))))))))), (fun _ h => absurd h List.not_mem_nil)⟩)⟩)⟩)⟩)⟩)⟩)⟩)⟩) ?_
                exact ih.2 (s + 1) i u x (j + 1)  (by omega) (by omega) (by omega) (by omega) (by omega) (by omega) (by omega)
            · skip
              refine sA_aload_n dd_X1_crossings_93 rfl (.tail _ (.tail _ (.tail _ (.tail _ (.tail _ (.tail _ (.tail _ (.head _)))))))) ?_
              refine sA_geti (ci := 4) (j := 1) (q := (RX4, TX4, 2)) dd_X1_crossings_94 rfl (by decide) fl_X1_28 (Nat.lt_of_succ_lt ho.1) ho.2.1 rfl ?_
              refine sA_iconst (z := 1) dd_X1_crossings_97 ?_
              refine sA_isub dd_X1_crossings_98 ?_
              refine sA_goto (tgt := 106) dd_X1_crossings_99 (by decide) ?_
              refine sA_iald (n := M) dd_X1_crossings_106 ho.1 ho.2.2.1 (by omega) (Nat.le_trans ho.2.2.2.2.2.2 (by decide)) ?_
              have b54 := gs_row_el ho hI ((F b 1) - 1).toNat
              refine sA_ineg dd_X1_crossings_107 ?_
              refine sA_istore (lv' := [(9, gs_iv (-(A (b + 1) ((F b 1) - 1).toNat))), (8, gs_iv (A (b + 1) j.toNat)), (7, gs_iv j), (6, gs_iv x), (5, gs_iv u), (4, gs_iv i), (3, gs_iv s), (0, .ref a), (1, .ref b), (2, gs_iv g)]) dd_X1_crossings_108 (by decide) rfl ?_
              refine sA_iload dd_X1_crossings_110 (.tail _ (.tail _ (.tail _ (.tail _ (.head _))))) ?_
              refine sA_iload dd_X1_crossings_112 (.tail _ (.head _)) ?_
              refine sA_icmp_ne (tgt := 139) dd_X1_crossings_114 (by decide) (by omega) (by omega) (fun q55 => ?_) (fun q55 => absurd q55 (by omega))
              refine sA_iload dd_X1_crossings_139 (.tail _ (.tail _ (.tail _ (.head _)))) ?_
              refine sA_iload dd_X1_crossings_141 (.tail _ (.tail _ (.tail _ (.tail _ (.head _))))) ?_
              refine sA_iload dd_X1_crossings_143 (.head _) ?_
              refine sA_iload dd_X1_crossings_145 (.tail _ (.head _)) ?_
              refine sA_callS (y2 := m_X1_cross) (n2 := 4) (d2 := 3) (as := [gs_iv x, gs_iv u, gs_iv (-(A (b + 1) ((F b 1) - 1).toNat)), gs_iv (A (b + 1) j.toNat)]) (rest := []) dd_X1_crossings_147 ok_X1_cross ml_X1_40 rfl rfl (Nat.le_of_ble_eq_true rfl) (by decide) (c_X1_cross (by omega) (by omega) (by omega) (by omega)) (fun r56 F57 A58 h59 => ?_)
              obtain ⟨z62, e61, e63, e64, x60⟩ := h59
              subst e61 e63 e64
              show sA _ _ _ 150 _ [gs_iv z62] _ _
              refine sA_if_eq (tgt := 156) dd_X1_crossings_150 (by decide) (by omega) (fun q65 => ?_) (fun q65 => ?_)
              · skip
                refine sA_iinc (lv' := [(7, gs_iv (j + 1)), (9, gs_iv (-(A (b + 1) ((F b 1) - 1).toNat))), (8, gs_iv (A (b + 1) j.toNat)), (6, gs_iv x), (5, gs_iv u), (4, gs_iv i), (3, gs_iv s), (0, .ref a), (1, .ref b), (2, gs_iv g)]) dd_X1_crossings_156 (.tail _ (.tail _ (.head _))) (by decide) rfl ?_
                refine sA_goto (tgt := 52) dd_X1_crossings_159 (by decide) ?_
                refine sA_sub (lv2 := [(7, gs_iv (j + 1)), (6, gs_iv x), (5, gs_iv u), (4, gs_iv i), (3, gs_iv s), (0, .ref a), (1, .ref b), (2, gs_iv g)]) (List.forall_mem_cons.mpr ⟨(.head _), (List.forall_mem_cons.mpr ⟨(.tail _ (.tail _ (.tail _ (.head _)))), (List.forall_mem_cons.mpr ⟨(.tail _ (.tail _ (.tail _ (.tail _ (.head _))))), (List.forall_mem_cons.mpr ⟨(.tail _ (.tail _ (.tail _ (.tail _ (.tail _ (.head _)))))), (List.forall_mem_cons.mpr ⟨(.tail _ (.tail _ (.tail _ (.tail _ (.tail _ (.tail _ (.head _))))))), (List.forall_mem_cons.mpr ⟨(.tail _ (.tail _ (.tail _ (.tail _ (.tail _ (.tail _ (.tail _ (.head _)))))))), (List.forall_mem_cons.mpr ⟨(.tail _ (.tail _ (.tail _ (.tail _ (.tail _ (.tail _ (.tail _ (.tail _ (.head _))))))))), (List.forall_mem_cons.mpr ⟨(.tail _ (.tail _ (.tail _ (.tail _ (.tail _ (.tail _ (.tail _ (.tail _ (.tail _ (.head _)))))))))), (fun _ h => absurd h List.not_mem_nil)⟩)⟩)⟩)⟩)⟩)⟩)⟩)⟩) ?_
                exact ih.2 s i u x (j + 1)  (by omega) (by omega) (by omega) (by omega) (by omega) (by omega) (by omega)
              · skip
                refine sA_iinc (lv' := [(3, gs_iv (s + 1)), (9, gs_iv (-(A (b + 1) ((F b 1) - 1).toNat))), (8, gs_iv (A (b + 1) j.toNat)), (7, gs_iv j), (6, gs_iv x), (5, gs_iv u), (4, gs_iv i), (0, .ref a), (1, .ref b), (2, gs_iv g)]) dd_X1_crossings_153 (.tail _ (.tail _ (.tail _ (.tail _ (.tail _ (.tail _ (.head _))))))) (by decide) rfl ?_
                refine sA_iinc (lv' := [(7, gs_iv (j + 1)), (3, gs_iv (s + 1)), (9, gs_iv (-(A (b + 1) ((F b 1) - 1).toNat))), (8, gs_iv (A (b + 1) j.toNat)), (6, gs_iv x), (5, gs_iv u), (4, gs_iv i), (0, .ref a), (1, .ref b), (2, gs_iv g)]) dd_X1_crossings_156 (.tail _ (.tail _ (.tail _ (.head _)))) (by decide) rfl ?_
                refine sA_goto (tgt := 52) dd_X1_crossings_159 (by decide) ?_
                refine sA_sub (lv2 := [(7, gs_iv (j + 1)), (6, gs_iv x), (5, gs_iv u), (4, gs_iv i), (3, gs_iv (s + 1)), (0, .ref a), (1, .ref b), (2, gs_iv g)]) (List.forall_mem_cons.mpr ⟨(.head _), (List.forall_mem_cons.mpr ⟨(.tail _ (.tail _ (.tail _ (.tail _ (.head _))))), (List.forall_mem_cons.mpr ⟨(.tail _ (.tail _ (.tail _ (.tail _ (.tail _ (.head _)))))), (List.forall_mem_cons.mpr ⟨(.tail _ (.tail _ (.tail _ (.tail _ (.tail _ (.tail _ (.head _))))))), (List.forall_mem_cons.mpr ⟨(.tail _ (.head _)), (List.forall_mem_cons.mpr ⟨(.tail _ (.tail _ (.tail _ (.tail _ (.tail _ (.tail _ (.tail _ (.head _)))))))), (List.forall_mem_cons.mpr ⟨(.tail _ (.tail _ (.tail _ (.tail _ (.tail _ (.tail _ (.tail _ (.tail _ (.head _))))))))), (List.forall_mem_cons.mpr ⟨(.tail _ (.tail _ (.tail _ (.tail _ (.tail _ (.tail _ (.tail _ (.tail _ (.tail _ (.head _)))))))))), (fun _ h => absurd h List.not_mem_nil)⟩)⟩)⟩)⟩)⟩)⟩)⟩)⟩) ?_
                exact ih.2 (s + 1) i u x (j + 1)  (by omega) (by omega) (by omega) (by omega) (by omega) (by omega) (by omega)
          · skip
            refine sA_goto (tgt := 156) dd_X1_crossings_81 (by decide) ?_
            refine sA_iinc (lv' := [(7, gs_iv (j + 1)), (8, gs_iv (A (b + 1) j.toNat)), (6, gs_iv x), (5, gs_iv u), (4, gs_iv i), (3, gs_iv s), (0, .ref a), (1, .ref b), (2, gs_iv g)]) dd_X1_crossings_156 (.tail _ (.head _)) (by decide) rfl ?_
            refine sA_goto (tgt := 52) dd_X1_crossings_159 (by decide) ?_
            refine sA_sub (lv2 := [(7, gs_iv (j + 1)), (6, gs_iv x), (5, gs_iv u), (4, gs_iv i), (3, gs_iv s), (0, .ref a), (1, .ref b), (2, gs_iv g)]) (List.forall_mem_cons.mpr ⟨(.head _), (List.forall_mem_cons.mpr ⟨(.tail _ (.tail _ (.head _))), (List.forall_mem_cons.mpr ⟨(.tail _ (.tail _ (.tail _ (.head _)))), (List.forall_mem_cons.mpr ⟨(.tail _ (.tail _ (.tail _ (.tail _ (.head _))))), (List.forall_mem_cons.mpr ⟨(.tail _ (.tail _ (.tail _ (.tail _ (.tail _ (.head _)))))), (List.forall_mem_cons.mpr ⟨(.tail _ (.tail _ (.tail _ (.tail _ (.tail _ (.tail _ (.head _))))))), (List.forall_mem_cons.mpr ⟨(.tail _ (.tail _ (.tail _ (.tail _ (.tail _ (.tail _ (.tail _ (.head _)))))))), (List.forall_mem_cons.mpr ⟨(.tail _ (.tail _ (.tail _ (.tail _ (.tail _ (.tail _ (.tail _ (.tail _ (.head _))))))))), (fun _ h => absurd h List.not_mem_nil)⟩)⟩)⟩)⟩)⟩)⟩)⟩)⟩) ?_
            exact ih.2 s i u x (j + 1)  (by omega) (by omega) (by omega) (by omega) (by omega) (by omega) (by omega)
theorem c_X1_crossings {a L b M : Nat} {g : Int} {F A : gs_F} (hI : gs_I F A) (hr : gs_row a L) (ho : gs_row b M) (hg : g = 0 ∨ g = 1) : sC m_X1_crossings 4 [.ref a, .ref b, gs_iv g] F A (fun rv F' A' => ∃ z : Int, rv = some (gs_iv z) ∧ F = F' ∧ A = A' ∧ (0 ≤ z ∧ z ≤ 160000)) := by
  refine sC_of ok_X1_crossings.1 (Nat.le_of_ble_eq_true rfl) ?_
  show sA _ _ _ 0 [(0, .ref a), (1, .ref b), (2, gs_iv g)] [] F A
  have b66 := gs_row_sz hr hI
  have b67 := gs_row_sz ho hI
  refine sA_iconst (z := 0) dd_X1_crossings_0 ?_
  refine sA_istore_n (lv' := [(3, gs_iv 0), (0, .ref a), (1, .ref b), (2, gs_iv g)]) dd_X1_crossings_1 rfl (by decide) rfl ?_
  refine sA_iconst (z := 0) dd_X1_crossings_2 ?_
  refine sA_istore (lv' := [(4, gs_iv 0), (3, gs_iv 0), (0, .ref a), (1, .ref b), (2, gs_iv g)]) dd_X1_crossings_3 (by decide) rfl ?_
  refine sA_sub (lv2 := [(4, gs_iv 0), (3, gs_iv 0), (0, .ref a), (1, .ref b), (2, gs_iv g)]) (List.forall_mem_cons.mpr ⟨(.head _), (List.forall_mem_cons.mpr ⟨(.tail _ (.head _)), (List.forall_mem_cons.mpr ⟨(.tail _ (.tail _ (.head _))), (List.forall_mem_cons.mpr ⟨(.tail _ (.tail _ (.tail _ (.head _)))), (List.forall_mem_cons.mpr ⟨(.tail _ (.tail _ (.tail _ (.tail _ (.head _))))), (fun _ h => absurd h List.not_mem_nil)⟩)⟩)⟩)⟩)⟩) ?_
  exact (k_X1_crossings hI hr ho hg ((F a 1 - 0) * 402 + 1 : Int).toNat.succ).1 0 0  (by omega) (by omega) (by omega)
theorem dd_X1_between_0 : decode cX1_between 0 = .ok (.aload_n 0, 1) := by decide +kernel
theorem dd_X1_between_1 : decode cX1_between 1 = .ok (.getfield 14, 3) := by decide +kernel
theorem dd_X1_between_4 : decode cX1_between 4 = .ok (.aload_n 2, 1) := by decide +kernel
theorem dd_X1_between_5 : decode cX1_between 5 = .ok (.invokevirtual 20, 3) := by decide +kernel
theorem dd_X1_between_8 : decode cX1_between 8 = .ok (.aload_n 1, 1) := by decide +kernel
theorem dd_X1_between_9 : decode cX1_between 9 = .ok (.aload_n 2, 1) := by decide +kernel
theorem dd_X1_between_10 : decode cX1_between 10 = .ok (.iconst 1, 1) := by decide +kernel
theorem dd_X1_between_11 : decode cX1_between 11 = .ok (.invokestatic 24, 3) := by decide +kernel
theorem dd_X1_between_14 : decode cX1_between 14 = .ok (.aload_n 1, 1) := by decide +kernel
theorem dd_X1_between_15 : decode cX1_between 15 = .ok (.aload_n 0, 1) := by decide +kernel
theorem dd_X1_between_16 : decode cX1_between 16 = .ok (.getfield 14, 3) := by decide +kernel
theorem dd_X1_between_19 : decode cX1_between 19 = .ok (.iconst 0, 1) := by decide +kernel
theorem dd_X1_between_20 : decode cX1_between 20 = .ok (.invokestatic 24, 3) := by decide +kernel
theorem dd_X1_between_23 : decode cX1_between 23 = .ok (.iadd, 1) := by decide +kernel
theorem dd_X1_between_24 : decode cX1_between 24 = .ok (.ireturn, 1) := by decide +kernel
theorem gs_s12 : gs_sh 12 = .inl (1, [some 13]) := rfl
theorem fl_X1_14 : Cond.fieldLink RX1 14 (TX1 0).1 (TX1 0).2.1 (TX1 0).2.2.1 ∈ am_tbl := ri_lw_in (pl := 165) (by decide +kernel)
theorem ml_X1_20 : Cond.methodLink RX1 20 m_X4_becomeBack.1 ∈ am_tbl := ri_lw_in (pl := 433) (by decide +kernel)
theorem ml_X1_24 : Cond.methodLink RX1 24 m_X1_crossings.1 ∈ am_tbl := ri_lw_in (pl := 434) (by decide +kernel)
theorem ok_X1_between : am_okM m_X1_between 2 ∧ Cond.instanceMethod m_X1_between.1 ∈ am_tbl ∧ Cond.selects m_X1_between.1.cls m_X1_between.1 m_X1_between.1 ∈ am_tbl := ri_mk1 432 86 430 431 (by decide +kernel)
theorem c_X1_between {a L b M : Nat} {F A : gs_F} (hI : gs_I F A) (hr : gs_row a L) (ho : gs_row b M) : sC m_X1_between 5 [.ref 12, .ref a, .ref b] F A (fun rv F' A' => ∃ z : Int, rv = some (gs_iv z) ∧ gs_I F' A' ∧ gs_fr (fun c j => c = 13 ∧ j = 1) (fun c => c = 14) F A F' A' ∧ (0 ≤ z ∧ z ≤ 400000)) := by
  refine sC_of ok_X1_between.1 (Nat.le_of_ble_eq_true rfl) ?_
  show sA _ _ _ 0 [(0, .ref 12), (1, .ref a), (2, .ref b)] [] F A
  have hf : gs_fr (fun c j => c = 13 ∧ j = 1) (fun c => c = 14) F A F A := gs_fr_refl _ _ _ _
  have b1 := gs_row_sz hr hI
  have b2 := gs_row_sz ho hI
  refine sA_aload_n dd_X1_between_0 rfl (.head _) ?_
  refine sA_getr (ci := 1) (j := 0) (q := (RX1, TX1, 1)) dd_X1_between_1 rfl (by decide) fl_X1_14 (by decide) gs_s12 rfl ?_
  refine sA_aload_n dd_X1_between_4 rfl (.tail _ (.tail _ (.head _))) ?_
  refine sA_callV (y2 := m_X4_becomeBack) (n2 := 1) (d2 := 1) (a := 13) (ci := 4) (q := (RX4, TX4, 2)) (as := [.ref b]) (rest := []) dd_X1_between_5 ok_X4_becomeBack ml_X1_20 rfl rfl (Nat.lt_of_succ_lt gs_row_13.1) gs_row_13.2.1 rfl rfl (Nat.le_of_ble_eq_true rfl) (by decide) (c_X4_becomeBack hI gs_row_13 ho) (fun r3 F4 A5 h6 => ?_)
  obtain ⟨e8, I9, f10, x7⟩ := h6
  subst e8
  have f11 := gs_fr_tr hf f10 (fun b j h => by first | exact False.elim h | omega | (dsimp only at h ⊢; omega)) (fun b h => by first | exact False.elim h | omega | (dsimp only at h ⊢; omega))
  show sA _ _ _ 8 _ [] _ _
  refine sA_aload_n dd_X1_between_8 rfl (.tail _ (.head _)) ?_
  refine sA_aload_n dd_X1_between_9 rfl (.tail _ (.tail _ (.head _))) ?_
  refine sA_iconst (z := 1) dd_X1_between_10 ?_
  refine sA_callS (y2 := m_X1_crossings) (n2 := 3) (d2 := 4) (as := [.ref a, .ref b, gs_iv 1]) (rest := []) dd_X1_between_11 ok_X1_crossings ml_X1_24 rfl rfl (Nat.le_of_ble_eq_true rfl) (by decide) (c_X1_crossings I9 hr ho (by omega)) (fun r12 F13 A14 h15 => ?_)
  obtain ⟨z18, e17, e19, e20, x16⟩ := h15
  subst e17 e19 e20
  show sA _ _ _ 14 _ [gs_iv z18] _ _
  refine sA_aload_n dd_X1_between_14 rfl (.tail _ (.head _)) ?_
  refine sA_aload_n dd_X1_between_15 rfl (.head _) ?_
  refine sA_getr (ci := 1) (j := 0) (q := (RX1, TX1, 1)) dd_X1_between_16 rfl (by decide) fl_X1_14 (by decide) gs_s12 rfl ?_
  refine sA_iconst (z := 0) dd_X1_between_19 ?_
  refine sA_callS (y2 := m_X1_crossings) (n2 := 3) (d2 := 4) (as := [.ref a, .ref 13, gs_iv 0]) (rest := [gs_iv z18]) dd_X1_between_20 ok_X1_crossings ml_X1_24 rfl rfl (Nat.le_of_ble_eq_true rfl) (by decide) (c_X1_crossings I9 hr gs_row_13 (by omega)) (fun r21 F22 A23 h24 => ?_)
  obtain ⟨z27, e26, e28, e29, x25⟩ := h24
  subst e26 e28 e29
  show sA _ _ _ 23 _ [gs_iv z27, gs_iv z18] _ _
  refine sA_iadd dd_X1_between_23 ?_
  refine sA_iret (z := z18 + z27) dd_X1_between_24 rfl ?_
  exact ⟨_, rfl, I9, f11, by omega⟩
theorem dd_X3_become_0 : decode cX3_become 0 = .ok (.aload_n 0, 1) := by decide +kernel
theorem dd_X3_become_1 : decode cX3_become 1 = .ok (.getfield 14, 3) := by decide +kernel
theorem dd_X3_become_4 : decode cX3_become 4 = .ok (.aload_n 1, 1) := by decide +kernel
theorem dd_X3_become_5 : decode cX3_become 5 = .ok (.invokevirtual 20, 3) := by decide +kernel
theorem dd_X3_become_8 : decode cX3_become 8 = .ok (.aload_n 0, 1) := by decide +kernel
theorem dd_X3_become_9 : decode cX3_become 9 = .ok (.getfield 14, 3) := by decide +kernel
theorem dd_X3_become_12 : decode cX3_become 12 = .ok (.invokevirtual 24, 3) := by decide +kernel
theorem dd_X3_become_15 : decode cX3_become 15 = .ok (.aload_n 0, 1) := by decide +kernel
theorem dd_X3_become_16 : decode cX3_become 16 = .ok (.aload_n 0, 1) := by decide +kernel
theorem dd_X3_become_17 : decode cX3_become 17 = .ok (.getfield 14, 3) := by decide +kernel
theorem dd_X3_become_20 : decode cX3_become 20 = .ok (.invokevirtual 27, 3) := by decide +kernel
theorem dd_X3_become_23 : decode cX3_become 23 = .ok (.putfield 31, 3) := by decide +kernel
theorem dd_X3_become_26 : decode cX3_become 26 = .ok (.aload_n 0, 1) := by decide +kernel
theorem dd_X3_become_27 : decode cX3_become 27 = .ok (.aload_n 0, 1) := by decide +kernel
theorem dd_X3_become_28 : decode cX3_become 28 = .ok (.getfield 31, 3) := by decide +kernel
theorem dd_X3_become_31 : decode cX3_become 31 = .ok (.ifCond .eq 7, 3) := by decide +kernel
theorem dd_X3_become_34 : decode cX3_become 34 = .ok (.iconst (-1), 1) := by decide +kernel
theorem dd_X3_become_35 : decode cX3_become 35 = .ok (.goto 17, 3) := by decide +kernel
theorem dd_X3_become_38 : decode cX3_become 38 = .ok (.aload_n 2, 1) := by decide +kernel
theorem dd_X3_become_39 : decode cX3_become 39 = .ok (.aload_n 0, 1) := by decide +kernel
theorem dd_X3_become_40 : decode cX3_become 40 = .ok (.getfield 14, 3) := by decide +kernel
theorem dd_X3_become_43 : decode cX3_become 43 = .ok (.aload_n 0, 1) := by decide +kernel
theorem dd_X3_become_44 : decode cX3_become 44 = .ok (.getfield 14, 3) := by decide +kernel
theorem dd_X3_become_47 : decode cX3_become 47 = .ok (.invokevirtual 35, 3) := by decide +kernel
theorem dd_X3_become_50 : decode cX3_become 50 = .ok (.iconst 2, 1) := by decide +kernel
theorem dd_X3_become_51 : decode cX3_become 51 = .ok (.idiv, 1) := by decide +kernel
theorem dd_X3_become_52 : decode cX3_become 52 = .ok (.putfield 41, 3) := by decide +kernel
theorem dd_X3_become_55 : decode cX3_become 55 = .ok (.return_, 1) := by decide +kernel
theorem fl_X3_14 : Cond.fieldLink RX3 14 (TX3 0).1 (TX3 0).2.1 (TX3 0).2.2.1 ∈ am_tbl := ri_lw_in (pl := 289) (by decide +kernel)
theorem fl_X3_31 : Cond.fieldLink RX3 31 (TX3 1).1 (TX3 1).2.1 (TX3 1).2.2.1 ∈ am_tbl := ri_lw_in (pl := 291) (by decide +kernel)
theorem fl_X3_41 : Cond.fieldLink RX3 41 (TX3 2).1 (TX3 2).2.1 (TX3 2).2.2.1 ∈ am_tbl := ri_lw_in (pl := 293) (by decide +kernel)
theorem ml_X3_20 : Cond.methodLink RX3 20 m_X4_copy.1 ∈ am_tbl := ri_lw_in (pl := 408) (by decide +kernel)
theorem ml_X3_24 : Cond.methodLink RX3 24 m_X4_close.1 ∈ am_tbl := ri_lw_in (pl := 413) (by decide +kernel)
theorem ml_X3_27 : Cond.methodLink RX3 27 m_X4_isPower.1 ∈ am_tbl := ri_lw_in (pl := 421) (by decide +kernel)
theorem ml_X3_35 : Cond.methodLink RX3 35 m_X1_between.1 ∈ am_tbl := ri_lw_in (pl := 429) (by decide +kernel)
theorem ok_X3_become : am_okM m_X3_become 2 ∧ Cond.instanceMethod m_X3_become.1 ∈ am_tbl ∧ Cond.selects m_X3_become.1.cls m_X3_become.1 m_X3_become.1 ∈ am_tbl := ri_mk1 407 91 405 406 (by decide +kernel)
theorem c_X3_become {a b M : Nat} {F A : gs_F} (hI : gs_I F A) (hg : gs_ring a) (ho : gs_row b M) : sC m_X3_become 6 [.ref a, .ref b, .ref 12] F A (fun rv F' A' => rv = none ∧ gs_I F' A' ∧ gs_fr (fun c j => (c = a + 1 ∧ j = 1) ∨ (c = a ∧ (j = 1 ∨ j = 2)) ∨ (c = 13 ∧ j = 1)) (fun c => c = a + 1 + 1 ∨ c = 14) F A F' A' ∧ (True)) := by
  refine sC_of ok_X3_become.1 (Nat.le_of_ble_eq_true rfl) ?_
  show sA _ _ _ 0 [(0, .ref a), (1, .ref b), (2, .ref 12)] [] F A
  have hf : gs_fr (fun c j => (c = a + 1 ∧ j = 1) ∨ (c = a ∧ (j = 1 ∨ j = 2)) ∨ (c = 13 ∧ j = 1)) (fun c => c = a + 1 + 1 ∨ c = 14) F A F A := gs_fr_refl _ _ _ _
  have b1 := gs_row_sz hg.2.2.1 hI
  have b2 := gs_row_sz ho hI
  refine sA_aload_n dd_X3_become_0 rfl (.head _) ?_
  refine sA_getr (ci := 3) (j := 0) (q := (RX3, TX3, 3)) dd_X3_become_1 rfl (by decide) fl_X3_14 (Nat.lt_of_succ_lt hg.1) hg.2.1 rfl ?_
  refine sA_aload_n dd_X3_become_4 rfl (.tail _ (.head _)) ?_
  refine sA_callV (y2 := m_X4_copy) (n2 := 1) (d2 := 1) (a := (a + 1)) (ci := 4) (q := (RX4, TX4, 2)) (as := [.ref b]) (rest := []) dd_X3_become_5 ok_X4_copy ml_X3_20 rfl rfl (Nat.lt_of_succ_lt hg.2.2.1.1) hg.2.2.1.2.1 rfl rfl (Nat.le_of_ble_eq_true rfl) (by decide) (c_X4_copy hI hg.2.2.1 ho) (fun r3 F4 A5 h6 => ?_)
  obtain ⟨e8, I9, f10, x7⟩ := h6
  subst e8
  have f11 := gs_fr_tr hf f10 (fun b j h => by first | exact False.elim h | omega | (dsimp only at h ⊢; omega)) (fun b h => by first | exact False.elim h | omega | (dsimp only at h ⊢; omega))
  show sA _ _ _ 8 _ [] _ _
  refine sA_aload_n dd_X3_become_8 rfl (.head _) ?_
  refine sA_getr (ci := 3) (j := 0) (q := (RX3, TX3, 3)) dd_X3_become_9 rfl (by decide) fl_X3_14 (Nat.lt_of_succ_lt hg.1) hg.2.1 rfl ?_
  refine sA_callV (y2 := m_X4_close) (n2 := 0) (d2 := 2) (a := (a + 1)) (ci := 4) (q := (RX4, TX4, 2)) (as := []) (rest := []) dd_X3_become_12 ok_X4_close ml_X3_24 rfl rfl (Nat.lt_of_succ_lt hg.2.2.1.1) hg.2.2.1.2.1 rfl rfl (Nat.le_of_ble_eq_true rfl) (by decide) (c_X4_close I9 hg.2.2.1) (fun r12 F13 A14 h15 => ?_)
  obtain ⟨e17, I18, f19, x16⟩ := h15
  subst e17
  have f20 := gs_fr_tr f11 f19 (fun b j h => by first | exact False.elim h | omega | (dsimp only at h ⊢; omega)) (fun b h => by first | exact False.elim h | omega | (dsimp only at h ⊢; omega))
  show sA _ _ _ 15 _ [] _ _
  refine sA_aload_n dd_X3_become_15 rfl (.head _) ?_
  refine sA_aload_n dd_X3_become_16 rfl (.head _) ?_
  refine sA_getr (ci := 3) (j := 0) (q := (RX3, TX3, 3)) dd_X3_become_17 rfl (by decide) fl_X3_14 (Nat.lt_of_succ_lt hg.1) hg.2.1 rfl ?_
  refine sA_callV (y2 := m_X4_isPower) (n2 := 0) (d2 := 2) (a := (a + 1)) (ci := 4) (q := (RX4, TX4, 2)) (as := []) (rest := [.ref a]) dd_X3_become_20 ok_X4_isPower ml_X3_27 rfl rfl (Nat.lt_of_succ_lt hg.2.2.1.1) hg.2.2.1.2.1 rfl rfl (Nat.le_of_ble_eq_true rfl) (by decide) (c_X4_isPower I18 hg.2.2.1) (fun r21 F22 A23 h24 => ?_)
  obtain ⟨z27, e26, e28, e29, x25⟩ := h24
  subst e26 e28 e29
  show sA _ _ _ 23 _ [gs_iv z27, .ref a] _ _
  refine sA_put (ci := 3) (j := 1) (q := (RX3, TX3, 3)) (ty := .boolean) dd_X3_become_23 rfl (by decide) fl_X3_31 rfl (tyX3_ok 1 (by decide)) (gs_bool (by omega)) (gs_boolf (by omega)) (Nat.lt_of_succ_lt hg.1) hg.2.1 rfl ?_
  have I31 : gs_I (gs_up F13 a 1 z27) A14 := gs_ring_put1 hg I18 (by omega)
  have f32 := gs_fr_put f20 (a := a) (z := z27) (j := 1) (by first | omega | (dsimp only; omega) | (dsimp only))
  have v33 : gs_up F13 a 1 z27 a 1 = z27 := gs_up_self _ _ _ _
  generalize gs_up F13 a 1 z27 = F30 at I31 f32 v33 ⊢
  refine sA_aload_n dd_X3_become_26 rfl (.head _) ?_
  refine sA_aload_n dd_X3_become_27 rfl (.head _) ?_
  refine sA_geti (ci := 3) (j := 1) (q := (RX3, TX3, 3)) dd_X3_become_28 rfl (by decide) fl_X3_31 (Nat.lt_of_succ_lt hg.1) hg.2.1 rfl ?_
  have b34 := gs_ring_f1 hg I31
  refine sA_if_eq (tgt := 38) dd_X3_become_31 (by decide) (by omega) (fun q35 => ?_) (fun q35 => ?_)
  · skip
    refine sA_aload_n dd_X3_become_38 rfl (.tail _ (.tail _ (.head _))) ?_
    refine sA_aload_n dd_X3_become_39 rfl (.head _) ?_
    refine sA_getr (ci := 3) (j := 0) (q := (RX3, TX3, 3)) dd_X3_become_40 rfl (by decide) fl_X3_14 (Nat.lt_of_succ_lt hg.1) hg.2.1 rfl ?_
    refine sA_aload_n dd_X3_become_43 rfl (.head _) ?_
    refine sA_getr (ci := 3) (j := 0) (q := (RX3, TX3, 3)) dd_X3_become_44 rfl (by decide) fl_X3_14 (Nat.lt_of_succ_lt hg.1) hg.2.1 rfl ?_
    refine sA_callV (y2 := m_X1_between) (n2 := 2) (d2 := 5) (a := 12) (ci := 1) (q := (RX1, TX1, 1)) (as := [.ref (a + 1), .ref (a + 1)]) (rest := [.ref a]) dd_X3_become_47 ok_X1_between ml_X3_35 rfl rfl (by decide) gs_s12 rfl rfl (Nat.le_of_ble_eq_true rfl) (by decide) (c_X1_between I31 hg.2.2.1 hg.2.2.1) (fun r36 F37 A38 h39 => ?_)
    obtain ⟨z42, e41, I43, f44, x40⟩ := h39
    subst e41
    have f45 := gs_fr_tr f32 f44 (fun b j h => by first | exact False.elim h | omega | (dsimp only at h ⊢; omega)) (fun b h => by first | exact False.elim h | omega | (dsimp only at h ⊢; omega))
    show sA _ _ _ 50 _ [gs_iv z42, .ref a] _ _
    refine sA_iconst (z := 2) dd_X3_become_50 ?_
    refine sA_idivN dd_X3_become_51 (by omega) (by omega) (by omega) ?_
    refine sA_put (ci := 3) (j := 2) (q := (RX3, TX3, 3)) (ty := .int) dd_X3_become_52 rfl (by decide) fl_X3_41 rfl (tyX3_ok 2 (by decide)) rfl rfl (Nat.lt_of_succ_lt hg.1) hg.2.1 rfl ?_
    have I47 : gs_I (gs_up F37 a 2 (z42 / 2)) A38 := gs_ring_put2 hg I43 (by omega)
    have f48 := gs_fr_put f45 (a := a) (z := z42 / 2) (j := 2) (by first | omega | (dsimp only; omega) | (dsimp only))
    have v49 : gs_up F37 a 2 (z42 / 2) a 2 = z42 / 2 := gs_up_self _ _ _ _
    generalize gs_up F37 a 2 (z42 / 2) = F46 at I47 f48 v49 ⊢
    refine sA_vret dd_X3_become_55 rfl ?_
    exact ⟨rfl, I47, f48, trivial⟩
  · skip
    refine sA_iconst (z := (-1)) dd_X3_become_34 ?_
    refine sA_goto (tgt := 52) dd_X3_become_35 (by decide) ?_
    refine sA_put (ci := 3) (j := 2) (q := (RX3, TX3, 3)) (ty := .int) dd_X3_become_52 rfl (by decide) fl_X3_41 rfl (tyX3_ok 2 (by decide)) rfl rfl (Nat.lt_of_succ_lt hg.1) hg.2.1 rfl ?_
    have I51 : gs_I (gs_up F30 a 2 (-1)) A14 := gs_ring_put2 hg I31 (by omega)
    have f52 := gs_fr_put f32 (a := a) (z := -1) (j := 2) (by first | omega | (dsimp only; omega) | (dsimp only))
    have v53 : gs_up F30 a 2 (-1) a 2 = -1 := gs_up_self _ _ _ _
    generalize gs_up F30 a 2 (-1) = F50 at I51 f52 v53 ⊢
    refine sA_vret dd_X3_become_55 rfl ?_
    exact ⟨rfl, I51, f52, trivial⟩
theorem dd_X3_isSimple_0 : decode cX3_isSimple 0 = .ok (.aload_n 0, 1) := by decide +kernel
theorem dd_X3_isSimple_1 : decode cX3_isSimple 1 = .ok (.getfield 41, 3) := by decide +kernel
theorem dd_X3_isSimple_4 : decode cX3_isSimple 4 = .ok (.ifCond .ne 7, 3) := by decide +kernel
theorem dd_X3_isSimple_7 : decode cX3_isSimple 7 = .ok (.iconst 1, 1) := by decide +kernel
theorem dd_X3_isSimple_8 : decode cX3_isSimple 8 = .ok (.goto 4, 3) := by decide +kernel
theorem dd_X3_isSimple_11 : decode cX3_isSimple 11 = .ok (.iconst 0, 1) := by decide +kernel
theorem dd_X3_isSimple_12 : decode cX3_isSimple 12 = .ok (.ireturn, 1) := by decide +kernel
theorem ok_X3_isSimple : am_okM m_X3_isSimple 0 ∧ Cond.instanceMethod m_X3_isSimple.1 ∈ am_tbl ∧ Cond.selects m_X3_isSimple.1.cls m_X3_isSimple.1 m_X3_isSimple.1 ∈ am_tbl := ri_mk1 465 91 463 464 (by decide +kernel)
theorem c_X3_isSimple {a : Nat} {F A : gs_F} (hI : gs_I F A) (hg : gs_ring a) : sC m_X3_isSimple 1 [.ref a] F A (fun rv F' A' => ∃ z : Int, rv = some (gs_iv z) ∧ F = F' ∧ A = A' ∧ (z = 0 ∨ z = 1)) := by
  refine sC_of ok_X3_isSimple.1 (Nat.le_of_ble_eq_true rfl) ?_
  show sA _ _ _ 0 [(0, .ref a)] [] F A
  have b1 := gs_row_sz hg.2.2.1 hI
  refine sA_aload_n dd_X3_isSimple_0 rfl (.head _) ?_
  refine sA_geti (ci := 3) (j := 2) (q := (RX3, TX3, 3)) dd_X3_isSimple_1 rfl (by decide) fl_X3_41 (Nat.lt_of_succ_lt hg.1) hg.2.1 rfl ?_
  have b2 := gs_ring_f2 hg hI
  refine sA_if_ne (tgt := 11) dd_X3_isSimple_4 (by decide) (by omega) (fun q3 => ?_) (fun q3 => ?_)
  · skip
    refine sA_iconst (z := 0) dd_X3_isSimple_11 ?_
    refine sA_bret (z := 0) dd_X3_isSimple_12 rfl (by omega) ?_
    exact ⟨_, rfl, rfl, rfl, by omega⟩
  · skip
    refine sA_iconst (z := 1) dd_X3_isSimple_7 ?_
    refine sA_goto (tgt := 12) dd_X3_isSimple_8 (by decide) ?_
    refine sA_bret (z := 1) dd_X3_isSimple_12 rfl (by omega) ?_
    exact ⟨_, rfl, rfl, rfl, by omega⟩
theorem dd_X7_slotOf_0 : decode cX7_slotOf 0 = .ok (.iload_n 0, 1) := by decide +kernel
theorem dd_X7_slotOf_1 : decode cX7_slotOf 1 = .ok (.bipush 13, 2) := by decide +kernel
theorem dd_X7_slotOf_3 : decode cX7_slotOf 3 = .ok (.imul, 1) := by decide +kernel
theorem dd_X7_slotOf_4 : decode cX7_slotOf 4 = .ok (.iload_n 1, 1) := by decide +kernel
theorem dd_X7_slotOf_5 : decode cX7_slotOf 5 = .ok (.iadd, 1) := by decide +kernel
theorem dd_X7_slotOf_6 : decode cX7_slotOf 6 = .ok (.bipush 6, 2) := by decide +kernel
theorem dd_X7_slotOf_8 : decode cX7_slotOf 8 = .ok (.iadd, 1) := by decide +kernel
theorem dd_X7_slotOf_9 : decode cX7_slotOf 9 = .ok (.bipush 10, 2) := by decide +kernel
theorem dd_X7_slotOf_11 : decode cX7_slotOf 11 = .ok (.imul, 1) := by decide +kernel
theorem dd_X7_slotOf_12 : decode cX7_slotOf 12 = .ok (.ireturn, 1) := by decide +kernel
theorem ok_X7_slotOf : am_okM m_X7_slotOf 2 ∧ Cond.static m_X7_slotOf.1 ∈ am_tbl := ri_mk0 347 85 346 0 (by decide +kernel)
theorem c_X7_slotOf {u x : Int} {F A : gs_F}  : sC m_X7_slotOf 1 [gs_iv u, gs_iv x] F A (fun rv F' A' => ∃ z : Int, rv = some (gs_iv z) ∧ F = F' ∧ A = A' ∧ (z = (u * 13 + x + 6) * 10)) := by
  refine sC_of ok_X7_slotOf.1 (Nat.le_of_ble_eq_true rfl) ?_
  show sA _ _ _ 0 [(0, gs_iv u), (1, gs_iv x)] [] F A
  refine sA_iload_n dd_X7_slotOf_0 rfl (.head _) ?_
  refine sA_bipush (z := 13) dd_X7_slotOf_1 (by decide) ?_
  refine sA_imul dd_X7_slotOf_3 ?_
  refine sA_iload_n dd_X7_slotOf_4 rfl (.tail _ (.head _)) ?_
  refine sA_iadd dd_X7_slotOf_5 ?_
  refine sA_bipush (z := 6) dd_X7_slotOf_6 (by decide) ?_
  refine sA_iadd dd_X7_slotOf_8 ?_
  refine sA_bipush (z := 10) dd_X7_slotOf_9 (by decide) ?_
  refine sA_imul dd_X7_slotOf_11 ?_
  refine sA_iret (z := (((u * 13) + x) + 6) * 10) dd_X7_slotOf_12 rfl ?_
  exact ⟨_, rfl, rfl, rfl, by omega⟩
theorem dd_X7_keepWord_0 : decode cX7_keepWord 0 = .ok (.iload_n 1, 1) := by decide +kernel
theorem dd_X7_keepWord_1 : decode cX7_keepWord 1 = .ok (.iload_n 2, 1) := by decide +kernel
theorem dd_X7_keepWord_2 : decode cX7_keepWord 2 = .ok (.invokestatic 65, 3) := by decide +kernel
theorem dd_X7_keepWord_5 : decode cX7_keepWord 5 = .ok (.istore 4, 2) := by decide +kernel
theorem dd_X7_keepWord_7 : decode cX7_keepWord 7 = .ok (.aload_n 0, 1) := by decide +kernel
theorem dd_X7_keepWord_8 : decode cX7_keepWord 8 = .ok (.getfield 11, 3) := by decide +kernel
theorem dd_X7_keepWord_11 : decode cX7_keepWord 11 = .ok (.iload 4, 2) := by decide +kernel
theorem dd_X7_keepWord_13 : decode cX7_keepWord 13 = .ok (.aload_n 3, 1) := by decide +kernel
theorem dd_X7_keepWord_14 : decode cX7_keepWord 14 = .ok (.getfield 38, 3) := by decide +kernel
theorem dd_X7_keepWord_17 : decode cX7_keepWord 17 = .ok (.iastore, 1) := by decide +kernel
theorem dd_X7_keepWord_18 : decode cX7_keepWord 18 = .ok (.aload_n 3, 1) := by decide +kernel
theorem dd_X7_keepWord_19 : decode cX7_keepWord 19 = .ok (.getfield 69, 3) := by decide +kernel
theorem dd_X7_keepWord_22 : decode cX7_keepWord 22 = .ok (.iconst 0, 1) := by decide +kernel
theorem dd_X7_keepWord_23 : decode cX7_keepWord 23 = .ok (.aload_n 0, 1) := by decide +kernel
theorem dd_X7_keepWord_24 : decode cX7_keepWord 24 = .ok (.getfield 11, 3) := by decide +kernel
theorem dd_X7_keepWord_27 : decode cX7_keepWord 27 = .ok (.iload 4, 2) := by decide +kernel
theorem dd_X7_keepWord_29 : decode cX7_keepWord 29 = .ok (.iconst 1, 1) := by decide +kernel
theorem dd_X7_keepWord_30 : decode cX7_keepWord 30 = .ok (.iadd, 1) := by decide +kernel
theorem dd_X7_keepWord_31 : decode cX7_keepWord 31 = .ok (.aload_n 3, 1) := by decide +kernel
theorem dd_X7_keepWord_32 : decode cX7_keepWord 32 = .ok (.getfield 38, 3) := by decide +kernel
theorem dd_X7_keepWord_35 : decode cX7_keepWord 35 = .ok (.invokestatic 72, 3) := by decide +kernel
theorem dd_X7_keepWord_38 : decode cX7_keepWord 38 = .ok (.return_, 1) := by decide +kernel
theorem gs_s5 : gs_sh 5 = .inl (7, [none, some 6, some 7, some 8, some 10]) := rfl
theorem gs_s6 : gs_sh 6 = .inr (.inl (0, 2080)) := rfl
theorem fl_X7_11 : Cond.fieldLink RX7 11 (TX7 1).1 (TX7 1).2.1 (TX7 1).2.2.1 ∈ am_tbl := ri_lw_in (pl := 142) (by decide +kernel)
theorem fl_X7_38 : Cond.fieldLink RX7 38 (TX4 1).1 (TX4 1).2.1 (TX4 1).2.2.1 ∈ am_tbl := ri_lw_in (pl := 122) (by decide +kernel)
theorem fl_X7_69 : Cond.fieldLink RX7 69 (TX4 0).1 (TX4 0).2.1 (TX4 0).2.2.1 ∈ am_tbl := ri_lw_in (pl := 119) (by decide +kernel)
theorem ml_X7_65 : Cond.methodLink RX7 65 m_X7_slotOf.1 ∈ am_tbl := ri_lw_in (pl := 345) (by decide +kernel)
theorem ok_X7_keepWord : am_okM m_X7_keepWord 3 ∧ Cond.instanceMethod m_X7_keepWord.1 ∈ am_tbl ∧ Cond.selects m_X7_keepWord.1.cls m_X7_keepWord.1 m_X7_keepWord.1 ∈ am_tbl := ri_mk1 344 85 343 6 (by decide +kernel)
theorem c_X7_keepWord {b : Nat} {u x : Int} {F A : gs_F} (hI : gs_I F A) (hu : 0 ≤ u ∧ u ≤ 15) (hx : -6 ≤ x ∧ x ≤ 6) (ho : gs_row b 9) : sC m_X7_keepWord 2 [.ref 5, gs_iv u, gs_iv x, .ref b] F A (fun rv F' A' => rv = none ∧ gs_I F' A' ∧ gs_fr (fun _ _ => False) (fun c => c = 6) F A F' A' ∧ (True)) := by
  refine sC_of ok_X7_keepWord.1 (Nat.le_of_ble_eq_true rfl) ?_
  show sA _ _ _ 0 [(0, .ref 5), (1, gs_iv u), (2, gs_iv x), (3, .ref b)] [] F A
  have hf : gs_fr (fun _ _ => False) (fun c => c = 6) F A F A := gs_fr_refl _ _ _ _
  have b1 := gs_row_sz ho hI
  refine sA_iload_n dd_X7_keepWord_0 rfl (.tail _ (.head _)) ?_
  refine sA_iload_n dd_X7_keepWord_1 rfl (.tail _ (.tail _ (.head _))) ?_
  refine sA_callS (y2 := m_X7_slotOf) (n2 := 2) (d2 := 1) (as := [gs_iv u, gs_iv x]) (rest := []) dd_X7_keepWord_2 ok_X7_slotOf ml_X7_65 rfl rfl (Nat.le_of_ble_eq_true rfl) (by decide) (c_X7_slotOf ) (fun r2 F3 A4 h5 => ?_)
  obtain ⟨z8, e7, e9, e10, x6⟩ := h5
  subst e7 e9 e10
  show sA _ _ _ 5 _ [gs_iv z8] _ _
  refine sA_istore (lv' := [(4, gs_iv z8), (0, .ref 5), (1, gs_iv u), (2, gs_iv x), (3, .ref b)]) dd_X7_keepWord_5 (by decide) rfl ?_
  refine sA_aload_n dd_X7_keepWord_7 rfl (.tail _ (.head _)) ?_
  refine sA_getr (ci := 7) (j := 1) (q := (RX7, TX7, 5)) dd_X7_keepWord_8 rfl (by decide) fl_X7_11 (by decide) gs_s5 rfl ?_
  refine sA_iload dd_X7_keepWord_11 (.head _) ?_
  refine sA_aload_n dd_X7_keepWord_13 rfl (.tail _ (.tail _ (.tail _ (.tail _ (.head _))))) ?_
  refine sA_geti (ci := 4) (j := 1) (q := (RX4, TX4, 2)) dd_X7_keepWord_14 rfl (by decide) fl_X7_38 (Nat.lt_of_succ_lt ho.1) ho.2.1 rfl ?_
  refine sA_iast (n := 2080) dd_X7_keepWord_17 (by decide) gs_s6 (by omega) (by decide) ?_
  have I12 : gs_I F (gs_up A 6 z8.toNat (F b 1)) := gs_I_ast hI (show (-9 : Int) ≤ F b 1 ∧ F b 1 ≤ 9 by omega)
  have f13 := gs_fr_ast hf (a := 6) (z := F b 1) (i := z8.toNat) (by first | omega | (dsimp only; omega) | (dsimp only))
  generalize gs_up A 6 z8.toNat (F b 1) = A11 at I12 f13 ⊢
  refine sA_aload_n dd_X7_keepWord_18 rfl (.tail _ (.tail _ (.tail _ (.tail _ (.head _))))) ?_
  refine sA_getr (ci := 4) (j := 0) (q := (RX4, TX4, 2)) dd_X7_keepWord_19 rfl (by decide) fl_X7_69 (Nat.lt_of_succ_lt ho.1) ho.2.1 rfl ?_
  refine sA_iconst (z := 0) dd_X7_keepWord_22 ?_
  refine sA_aload_n dd_X7_keepWord_23 rfl (.tail _ (.head _)) ?_
  refine sA_getr (ci := 7) (j := 1) (q := (RX7, TX7, 5)) dd_X7_keepWord_24 rfl (by decide) fl_X7_11 (by decide) gs_s5 rfl ?_
  refine sA_iload dd_X7_keepWord_27 (.head _) ?_
  refine sA_iconst (z := 1) dd_X7_keepWord_29 ?_
  refine sA_iadd dd_X7_keepWord_30 ?_
  refine sA_aload_n dd_X7_keepWord_31 rfl (.tail _ (.tail _ (.tail _ (.tail _ (.head _))))) ?_
  refine sA_geti (ci := 4) (j := 1) (q := (RX4, TX4, 2)) dd_X7_keepWord_32 rfl (by decide) fl_X7_38 (Nat.lt_of_succ_lt ho.1) ho.2.1 rfl ?_
  refine sA_copy (n1 := 9) (n2 := 2080) dd_X7_keepWord_35 (ri_lw_in (pl := 348) (by decide +kernel)) gs_copyok ho.1 ho.2.2.1 (by decide) gs_s6 (by omega) (by omega) (by omega) (by omega) (by omega) (Nat.le_trans ho.2.2.2.2.2.2 (by decide)) (by decide) (by decide) (Nat.le_of_ble_eq_true rfl) ?_
  have I15 : gs_I F (gs_cp A11 (b + 1) 6 (0 : Int).toNat (z8 + 1).toNat (F b 1).toNat) := gs_I_cp I12 (b := 6) (a := (b + 1)) (p := ((-9), 9)) (q := ((-9), 9)) rfl ho.2.2.2.2.1 (by decide)
  have f16 := gs_fr_cp f13 (a := (b + 1)) (b := 6) (sp := (0 : Int).toNat) (dp := (z8 + 1).toNat) (n := (F b 1).toNat) (by first | omega | (dsimp only; omega) | (dsimp only))
  generalize gs_cp A11 (b + 1) 6 (0 : Int).toNat (z8 + 1).toNat (F b 1).toNat = A14 at I15 f16 ⊢
  refine sA_vret dd_X7_keepWord_38 rfl ?_
  exact ⟨rfl, I15, f16, trivial⟩
theorem dd_X7_spellFirst_0 : decode cX7_spellFirst 0 = .ok (.aload_n 0, 1) := by decide +kernel
theorem dd_X7_spellFirst_1 : decode cX7_spellFirst 1 = .ok (.getfield 23, 3) := by decide +kernel
theorem dd_X7_spellFirst_4 : decode cX7_spellFirst 4 = .ok (.iload_n 3, 1) := by decide +kernel
theorem dd_X7_spellFirst_5 : decode cX7_spellFirst 5 = .ok (.invokevirtual 58, 3) := by decide +kernel
theorem dd_X7_spellFirst_8 : decode cX7_spellFirst 8 = .ok (.iload_n 3, 1) := by decide +kernel
theorem dd_X7_spellFirst_9 : decode cX7_spellFirst 9 = .ok (.iconst 2, 1) := by decide +kernel
theorem dd_X7_spellFirst_10 : decode cX7_spellFirst 10 = .ok (.iload_n 1, 1) := by decide +kernel
theorem dd_X7_spellFirst_11 : decode cX7_spellFirst 11 = .ok (.imul, 1) := by decide +kernel
theorem dd_X7_spellFirst_12 : decode cX7_spellFirst 12 = .ok (.iconst 2, 1) := by decide +kernel
theorem dd_X7_spellFirst_13 : decode cX7_spellFirst 13 = .ok (.iadd, 1) := by decide +kernel
theorem dd_X7_spellFirst_14 : decode cX7_spellFirst 14 = .ok (.if_icmp .ne 17, 3) := by decide +kernel
theorem dd_X7_spellFirst_17 : decode cX7_spellFirst 17 = .ok (.aload_n 0, 1) := by decide +kernel
theorem dd_X7_spellFirst_18 : decode cX7_spellFirst 18 = .ok (.getfield 23, 3) := by decide +kernel
theorem dd_X7_spellFirst_21 : decode cX7_spellFirst 21 = .ok (.iload_n 2, 1) := by decide +kernel
theorem dd_X7_spellFirst_22 : decode cX7_spellFirst 22 = .ok (.iconst 2, 1) := by decide +kernel
theorem dd_X7_spellFirst_23 : decode cX7_spellFirst 23 = .ok (.iload_n 1, 1) := by decide +kernel
theorem dd_X7_spellFirst_24 : decode cX7_spellFirst 24 = .ok (.imul, 1) := by decide +kernel
theorem dd_X7_spellFirst_25 : decode cX7_spellFirst 25 = .ok (.iconst 1, 1) := by decide +kernel
theorem dd_X7_spellFirst_26 : decode cX7_spellFirst 26 = .ok (.iadd, 1) := by decide +kernel
theorem dd_X7_spellFirst_27 : decode cX7_spellFirst 27 = .ok (.imul, 1) := by decide +kernel
theorem dd_X7_spellFirst_28 : decode cX7_spellFirst 28 = .ok (.invokevirtual 58, 3) := by decide +kernel
theorem dd_X7_spellFirst_31 : decode cX7_spellFirst 31 = .ok (.return_, 1) := by decide +kernel
theorem fl_X7_23 : Cond.fieldLink RX7 23 (TX7 3).1 (TX7 3).2.1 (TX7 3).2.2.1 ∈ am_tbl := ri_lw_in (pl := 144) (by decide +kernel)
theorem ml_X7_58 : Cond.methodLink RX7 58 m_X4_push.1 ∈ am_tbl := ri_lw_in (pl := 318) (by decide +kernel)
theorem ok_X7_spellFirst : am_okM m_X7_spellFirst 3 ∧ Cond.instanceMethod m_X7_spellFirst.1 ∈ am_tbl ∧ Cond.selects m_X7_spellFirst.1.cls m_X7_spellFirst.1 m_X7_spellFirst.1 ∈ am_tbl := ri_mk1 317 85 316 2 (by decide +kernel)
theorem c_X7_spellFirst {i w x : Int} {F A : gs_F} (hI : gs_I F A) (hi : 0 ≤ i ∧ i ≤ 2) (hw : w = 1 ∨ w = -1) (hx : 1 ≤ x ∧ x ≤ 6) : sC m_X7_spellFirst 2 [.ref 5, gs_iv i, gs_iv w, gs_iv x] F A (fun rv F' A' => rv = none ∧ gs_I F' A' ∧ gs_fr (fun c j => c = 8 ∧ j = 1) (fun c => c = 9) F A F' A' ∧ (True)) := by
  refine sC_of ok_X7_spellFirst.1 (Nat.le_of_ble_eq_true rfl) ?_
  show sA _ _ _ 0 [(0, .ref 5), (1, gs_iv i), (2, gs_iv w), (3, gs_iv x)] [] F A
  have hf : gs_fr (fun c j => c = 8 ∧ j = 1) (fun c => c = 9) F A F A := gs_fr_refl _ _ _ _
  refine sA_aload_n dd_X7_spellFirst_0 rfl (.head _) ?_
  refine sA_getr (ci := 7) (j := 3) (q := (RX7, TX7, 5)) dd_X7_spellFirst_1 rfl (by decide) fl_X7_23 (by decide) gs_s5 rfl ?_
  refine sA_iload_n dd_X7_spellFirst_4 rfl (.tail _ (.tail _ (.tail _ (.head _)))) ?_
  refine sA_callV (y2 := m_X4_push) (n2 := 1) (d2 := 1) (a := 8) (ci := 4) (q := (RX4, TX4, 2)) (as := [gs_iv x]) (rest := []) dd_X7_spellFirst_5 ok_X4_push ml_X7_58 rfl rfl (Nat.lt_of_succ_lt gs_row_8.1) gs_row_8.2.1 rfl rfl (Nat.le_of_ble_eq_true rfl) (by decide) (c_X4_push hI gs_row_8 (by omega)) (fun r1 F2 A3 h4 => ?_)
  obtain ⟨e6, I7, f8, x5⟩ := h4
  subst e6
  have f9 := gs_fr_tr hf f8 (fun b j h => by first | exact False.elim h | omega | (dsimp only at h ⊢; omega)) (fun b h => by first | exact False.elim h | omega | (dsimp only at h ⊢; omega))
  show sA _ _ _ 8 _ [] _ _
  refine sA_iload_n dd_X7_spellFirst_8 rfl (.tail _ (.tail _ (.tail _ (.head _)))) ?_
  refine sA_iconst (z := 2) dd_X7_spellFirst_9 ?_
  refine sA_iload_n dd_X7_spellFirst_10 rfl (.tail _ (.head _)) ?_
  refine sA_imul dd_X7_spellFirst_11 ?_
  refine sA_iconst (z := 2) dd_X7_spellFirst_12 ?_
  refine sA_iadd dd_X7_spellFirst_13 ?_
  refine sA_icmp_ne (tgt := 31) dd_X7_spellFirst_14 (by decide) (by omega) (by omega) (fun q10 => ?_) (fun q10 => ?_)
  · skip
    refine sA_vret dd_X7_spellFirst_31 rfl ?_
    exact ⟨rfl, I7, f9, trivial⟩
  · skip
    refine sA_aload_n dd_X7_spellFirst_17 rfl (.head _) ?_
    refine sA_getr (ci := 7) (j := 3) (q := (RX7, TX7, 5)) dd_X7_spellFirst_18 rfl (by decide) fl_X7_23 (by decide) gs_s5 rfl ?_
    refine sA_iload_n dd_X7_spellFirst_21 rfl (.tail _ (.tail _ (.head _))) ?_
    refine sA_iconst (z := 2) dd_X7_spellFirst_22 ?_
    refine sA_iload_n dd_X7_spellFirst_23 rfl (.tail _ (.head _)) ?_
    refine sA_imul dd_X7_spellFirst_24 ?_
    refine sA_iconst (z := 1) dd_X7_spellFirst_25 ?_
    refine sA_iadd dd_X7_spellFirst_26 ?_
    refine sA_imul dd_X7_spellFirst_27 ?_
    have hz : -9 ≤ w * ((2 * i) + 1) ∧ w * ((2 * i) + 1) ≤ 9 := by rcases hw with rfl | rfl <;> omega
    refine sA_callV (y2 := m_X4_push) (n2 := 1) (d2 := 1) (a := 8) (ci := 4) (q := (RX4, TX4, 2)) (as := [gs_iv (w * ((2 * i) + 1))]) (rest := []) dd_X7_spellFirst_28 ok_X4_push ml_X7_58 rfl rfl (Nat.lt_of_succ_lt gs_row_8.1) gs_row_8.2.1 rfl rfl (Nat.le_of_ble_eq_true rfl) (by decide) (c_X4_push I7 gs_row_8 (by omega)) (fun r11 F12 A13 h14 => ?_)
    obtain ⟨e16, I17, f18, x15⟩ := h14
    subst e16
    have f19 := gs_fr_tr f9 f18 (fun b j h => by first | exact False.elim h | omega | (dsimp only at h ⊢; omega)) (fun b h => by first | exact False.elim h | omega | (dsimp only at h ⊢; omega))
    show sA _ _ _ 31 _ [] _ _
    refine sA_vret dd_X7_spellFirst_31 rfl ?_
    exact ⟨rfl, I17, f19, trivial⟩
theorem dd_X7_spellSecond_0 : decode cX7_spellSecond 0 = .ok (.aload_n 0, 1) := by decide +kernel
theorem dd_X7_spellSecond_1 : decode cX7_spellSecond 1 = .ok (.getfield 23, 3) := by decide +kernel
theorem dd_X7_spellSecond_4 : decode cX7_spellSecond 4 = .ok (.iload_n 3, 1) := by decide +kernel
theorem dd_X7_spellSecond_5 : decode cX7_spellSecond 5 = .ok (.invokevirtual 58, 3) := by decide +kernel
theorem dd_X7_spellSecond_8 : decode cX7_spellSecond 8 = .ok (.iload_n 3, 1) := by decide +kernel
theorem dd_X7_spellSecond_9 : decode cX7_spellSecond 9 = .ok (.iconst 2, 1) := by decide +kernel
theorem dd_X7_spellSecond_10 : decode cX7_spellSecond 10 = .ok (.iload_n 1, 1) := by decide +kernel
theorem dd_X7_spellSecond_11 : decode cX7_spellSecond 11 = .ok (.imul, 1) := by decide +kernel
theorem dd_X7_spellSecond_12 : decode cX7_spellSecond 12 = .ok (.iconst 1, 1) := by decide +kernel
theorem dd_X7_spellSecond_13 : decode cX7_spellSecond 13 = .ok (.iadd, 1) := by decide +kernel
theorem dd_X7_spellSecond_14 : decode cX7_spellSecond 14 = .ok (.if_icmp .ne 18, 3) := by decide +kernel
theorem dd_X7_spellSecond_17 : decode cX7_spellSecond 17 = .ok (.aload_n 0, 1) := by decide +kernel
theorem dd_X7_spellSecond_18 : decode cX7_spellSecond 18 = .ok (.getfield 23, 3) := by decide +kernel
theorem dd_X7_spellSecond_21 : decode cX7_spellSecond 21 = .ok (.iload_n 2, 1) := by decide +kernel
theorem dd_X7_spellSecond_22 : decode cX7_spellSecond 22 = .ok (.ineg, 1) := by decide +kernel
theorem dd_X7_spellSecond_23 : decode cX7_spellSecond 23 = .ok (.iconst 2, 1) := by decide +kernel
theorem dd_X7_spellSecond_24 : decode cX7_spellSecond 24 = .ok (.iload_n 1, 1) := by decide +kernel
theorem dd_X7_spellSecond_25 : decode cX7_spellSecond 25 = .ok (.imul, 1) := by decide +kernel
theorem dd_X7_spellSecond_26 : decode cX7_spellSecond 26 = .ok (.iconst 2, 1) := by decide +kernel
theorem dd_X7_spellSecond_27 : decode cX7_spellSecond 27 = .ok (.iadd, 1) := by decide +kernel
theorem dd_X7_spellSecond_28 : decode cX7_spellSecond 28 = .ok (.imul, 1) := by decide +kernel
theorem dd_X7_spellSecond_29 : decode cX7_spellSecond 29 = .ok (.invokevirtual 58, 3) := by decide +kernel
theorem dd_X7_spellSecond_32 : decode cX7_spellSecond 32 = .ok (.return_, 1) := by decide +kernel
theorem ok_X7_spellSecond : am_okM m_X7_spellSecond 3 ∧ Cond.instanceMethod m_X7_spellSecond.1 ∈ am_tbl ∧ Cond.selects m_X7_spellSecond.1.cls m_X7_spellSecond.1 m_X7_spellSecond.1 ∈ am_tbl := ri_mk1 325 85 324 3 (by decide +kernel)
theorem c_X7_spellSecond {i w x : Int} {F A : gs_F} (hI : gs_I F A) (hi : 0 ≤ i ∧ i ≤ 2) (hw : w = 1 ∨ w = -1) (hx : 1 ≤ x ∧ x ≤ 6) : sC m_X7_spellSecond 2 [.ref 5, gs_iv i, gs_iv w, gs_iv x] F A (fun rv F' A' => rv = none ∧ gs_I F' A' ∧ gs_fr (fun c j => c = 8 ∧ j = 1) (fun c => c = 9) F A F' A' ∧ (True)) := by
  refine sC_of ok_X7_spellSecond.1 (Nat.le_of_ble_eq_true rfl) ?_
  show sA _ _ _ 0 [(0, .ref 5), (1, gs_iv i), (2, gs_iv w), (3, gs_iv x)] [] F A
  have hf : gs_fr (fun c j => c = 8 ∧ j = 1) (fun c => c = 9) F A F A := gs_fr_refl _ _ _ _
  refine sA_aload_n dd_X7_spellSecond_0 rfl (.head _) ?_
  refine sA_getr (ci := 7) (j := 3) (q := (RX7, TX7, 5)) dd_X7_spellSecond_1 rfl (by decide) fl_X7_23 (by decide) gs_s5 rfl ?_
  refine sA_iload_n dd_X7_spellSecond_4 rfl (.tail _ (.tail _ (.tail _ (.head _)))) ?_
  refine sA_callV (y2 := m_X4_push) (n2 := 1) (d2 := 1) (a := 8) (ci := 4) (q := (RX4, TX4, 2)) (as := [gs_iv x]) (rest := []) dd_X7_spellSecond_5 ok_X4_push ml_X7_58 rfl rfl (Nat.lt_of_succ_lt gs_row_8.1) gs_row_8.2.1 rfl rfl (Nat.le_of_ble_eq_true rfl) (by decide) (c_X4_push hI gs_row_8 (by omega)) (fun r1 F2 A3 h4 => ?_)
  obtain ⟨e6, I7, f8, x5⟩ := h4
  subst e6
  have f9 := gs_fr_tr hf f8 (fun b j h => by first | exact False.elim h | omega | (dsimp only at h ⊢; omega)) (fun b h => by first | exact False.elim h | omega | (dsimp only at h ⊢; omega))
  show sA _ _ _ 8 _ [] _ _
  refine sA_iload_n dd_X7_spellSecond_8 rfl (.tail _ (.tail _ (.tail _ (.head _)))) ?_
  refine sA_iconst (z := 2) dd_X7_spellSecond_9 ?_
  refine sA_iload_n dd_X7_spellSecond_10 rfl (.tail _ (.head _)) ?_
  refine sA_imul dd_X7_spellSecond_11 ?_
  refine sA_iconst (z := 1) dd_X7_spellSecond_12 ?_
  refine sA_iadd dd_X7_spellSecond_13 ?_
  refine sA_icmp_ne (tgt := 32) dd_X7_spellSecond_14 (by decide) (by omega) (by omega) (fun q10 => ?_) (fun q10 => ?_)
  · skip
    refine sA_vret dd_X7_spellSecond_32 rfl ?_
    exact ⟨rfl, I7, f9, trivial⟩
  · skip
    refine sA_aload_n dd_X7_spellSecond_17 rfl (.head _) ?_
    refine sA_getr (ci := 7) (j := 3) (q := (RX7, TX7, 5)) dd_X7_spellSecond_18 rfl (by decide) fl_X7_23 (by decide) gs_s5 rfl ?_
    refine sA_iload_n dd_X7_spellSecond_21 rfl (.tail _ (.tail _ (.head _))) ?_
    refine sA_ineg dd_X7_spellSecond_22 ?_
    refine sA_iconst (z := 2) dd_X7_spellSecond_23 ?_
    refine sA_iload_n dd_X7_spellSecond_24 rfl (.tail _ (.head _)) ?_
    refine sA_imul dd_X7_spellSecond_25 ?_
    refine sA_iconst (z := 2) dd_X7_spellSecond_26 ?_
    refine sA_iadd dd_X7_spellSecond_27 ?_
    refine sA_imul dd_X7_spellSecond_28 ?_
    have hz : -9 ≤ (-w) * ((2 * i) + 2) ∧ (-w) * ((2 * i) + 2) ≤ 9 := by rcases hw with rfl | rfl <;> omega
    refine sA_callV (y2 := m_X4_push) (n2 := 1) (d2 := 1) (a := 8) (ci := 4) (q := (RX4, TX4, 2)) (as := [gs_iv ((-w) * ((2 * i) + 2))]) (rest := []) dd_X7_spellSecond_29 ok_X4_push ml_X7_58 rfl rfl (Nat.lt_of_succ_lt gs_row_8.1) gs_row_8.2.1 rfl rfl (Nat.le_of_ble_eq_true rfl) (by decide) (c_X4_push I7 gs_row_8 (by omega)) (fun r11 F12 A13 h14 => ?_)
    obtain ⟨e16, I17, f18, x15⟩ := h14
    subst e16
    have f19 := gs_fr_tr f9 f18 (fun b j h => by first | exact False.elim h | omega | (dsimp only at h ⊢; omega)) (fun b h => by first | exact False.elim h | omega | (dsimp only at h ⊢; omega))
    show sA _ _ _ 32 _ [] _ _
    refine sA_vret dd_X7_spellSecond_32 rfl ?_
    exact ⟨rfl, I17, f19, trivial⟩
theorem dd_X7_spellBetween_0 : decode cX7_spellBetween 0 = .ok (.iconst 2, 1) := by decide +kernel
theorem dd_X7_spellBetween_1 : decode cX7_spellBetween 1 = .ok (.iload_n 1, 1) := by decide +kernel
theorem dd_X7_spellBetween_2 : decode cX7_spellBetween 2 = .ok (.imul, 1) := by decide +kernel
theorem dd_X7_spellBetween_3 : decode cX7_spellBetween 3 = .ok (.iconst 1, 1) := by decide +kernel
theorem dd_X7_spellBetween_4 : decode cX7_spellBetween 4 = .ok (.iadd, 1) := by decide +kernel
theorem dd_X7_spellBetween_5 : decode cX7_spellBetween 5 = .ok (.istore_n 3, 1) := by decide +kernel
theorem dd_X7_spellBetween_6 : decode cX7_spellBetween 6 = .ok (.iconst 2, 1) := by decide +kernel
theorem dd_X7_spellBetween_7 : decode cX7_spellBetween 7 = .ok (.iload_n 1, 1) := by decide +kernel
theorem dd_X7_spellBetween_8 : decode cX7_spellBetween 8 = .ok (.imul, 1) := by decide +kernel
theorem dd_X7_spellBetween_9 : decode cX7_spellBetween 9 = .ok (.iconst 2, 1) := by decide +kernel
theorem dd_X7_spellBetween_10 : decode cX7_spellBetween 10 = .ok (.iadd, 1) := by decide +kernel
theorem dd_X7_spellBetween_11 : decode cX7_spellBetween 11 = .ok (.istore 4, 2) := by decide +kernel
theorem dd_X7_spellBetween_13 : decode cX7_spellBetween 13 = .ok (.iconst 2, 1) := by decide +kernel
theorem dd_X7_spellBetween_14 : decode cX7_spellBetween 14 = .ok (.iload_n 1, 1) := by decide +kernel
theorem dd_X7_spellBetween_15 : decode cX7_spellBetween 15 = .ok (.imul, 1) := by decide +kernel
theorem dd_X7_spellBetween_16 : decode cX7_spellBetween 16 = .ok (.iconst 3, 1) := by decide +kernel
theorem dd_X7_spellBetween_17 : decode cX7_spellBetween 17 = .ok (.iadd, 1) := by decide +kernel
theorem dd_X7_spellBetween_18 : decode cX7_spellBetween 18 = .ok (.istore 5, 2) := by decide +kernel
theorem dd_X7_spellBetween_20 : decode cX7_spellBetween 20 = .ok (.aload_n 0, 1) := by decide +kernel
theorem dd_X7_spellBetween_21 : decode cX7_spellBetween 21 = .ok (.getfield 23, 3) := by decide +kernel
theorem dd_X7_spellBetween_24 : decode cX7_spellBetween 24 = .ok (.iload_n 2, 1) := by decide +kernel
theorem dd_X7_spellBetween_25 : decode cX7_spellBetween 25 = .ok (.ifCond .le 8, 3) := by decide +kernel
theorem dd_X7_spellBetween_28 : decode cX7_spellBetween 28 = .ok (.iload 4, 2) := by decide +kernel
theorem dd_X7_spellBetween_30 : decode cX7_spellBetween 30 = .ok (.goto 6, 3) := by decide +kernel
theorem dd_X7_spellBetween_33 : decode cX7_spellBetween 33 = .ok (.iload 5, 2) := by decide +kernel
theorem dd_X7_spellBetween_35 : decode cX7_spellBetween 35 = .ok (.ineg, 1) := by decide +kernel
theorem dd_X7_spellBetween_36 : decode cX7_spellBetween 36 = .ok (.invokevirtual 58, 3) := by decide +kernel
theorem dd_X7_spellBetween_39 : decode cX7_spellBetween 39 = .ok (.aload_n 0, 1) := by decide +kernel
theorem dd_X7_spellBetween_40 : decode cX7_spellBetween 40 = .ok (.getfield 23, 3) := by decide +kernel
theorem dd_X7_spellBetween_43 : decode cX7_spellBetween 43 = .ok (.iload_n 2, 1) := by decide +kernel
theorem dd_X7_spellBetween_44 : decode cX7_spellBetween 44 = .ok (.ifCond .le 8, 3) := by decide +kernel
theorem dd_X7_spellBetween_47 : decode cX7_spellBetween 47 = .ok (.iload_n 3, 1) := by decide +kernel
theorem dd_X7_spellBetween_48 : decode cX7_spellBetween 48 = .ok (.ineg, 1) := by decide +kernel
theorem dd_X7_spellBetween_49 : decode cX7_spellBetween 49 = .ok (.goto 5, 3) := by decide +kernel
theorem dd_X7_spellBetween_52 : decode cX7_spellBetween 52 = .ok (.iload 4, 2) := by decide +kernel
theorem dd_X7_spellBetween_54 : decode cX7_spellBetween 54 = .ok (.invokevirtual 58, 3) := by decide +kernel
theorem dd_X7_spellBetween_57 : decode cX7_spellBetween 57 = .ok (.aload_n 0, 1) := by decide +kernel
theorem dd_X7_spellBetween_58 : decode cX7_spellBetween 58 = .ok (.getfield 23, 3) := by decide +kernel
theorem dd_X7_spellBetween_61 : decode cX7_spellBetween 61 = .ok (.iload_n 2, 1) := by decide +kernel
theorem dd_X7_spellBetween_62 : decode cX7_spellBetween 62 = .ok (.ifCond .le 9, 3) := by decide +kernel
theorem dd_X7_spellBetween_65 : decode cX7_spellBetween 65 = .ok (.iload 4, 2) := by decide +kernel
theorem dd_X7_spellBetween_67 : decode cX7_spellBetween 67 = .ok (.ineg, 1) := by decide +kernel
theorem dd_X7_spellBetween_68 : decode cX7_spellBetween 68 = .ok (.goto 4, 3) := by decide +kernel
theorem dd_X7_spellBetween_71 : decode cX7_spellBetween 71 = .ok (.iload_n 3, 1) := by decide +kernel
theorem dd_X7_spellBetween_72 : decode cX7_spellBetween 72 = .ok (.invokevirtual 58, 3) := by decide +kernel
theorem dd_X7_spellBetween_75 : decode cX7_spellBetween 75 = .ok (.aload_n 0, 1) := by decide +kernel
theorem dd_X7_spellBetween_76 : decode cX7_spellBetween 76 = .ok (.getfield 23, 3) := by decide +kernel
theorem dd_X7_spellBetween_79 : decode cX7_spellBetween 79 = .ok (.iload_n 2, 1) := by decide +kernel
theorem dd_X7_spellBetween_80 : decode cX7_spellBetween 80 = .ok (.ifCond .le 8, 3) := by decide +kernel
theorem dd_X7_spellBetween_83 : decode cX7_spellBetween 83 = .ok (.iload 5, 2) := by decide +kernel
theorem dd_X7_spellBetween_85 : decode cX7_spellBetween 85 = .ok (.goto 6, 3) := by decide +kernel
theorem dd_X7_spellBetween_88 : decode cX7_spellBetween 88 = .ok (.iload 4, 2) := by decide +kernel
theorem dd_X7_spellBetween_90 : decode cX7_spellBetween 90 = .ok (.ineg, 1) := by decide +kernel
theorem dd_X7_spellBetween_91 : decode cX7_spellBetween 91 = .ok (.invokevirtual 58, 3) := by decide +kernel
theorem dd_X7_spellBetween_94 : decode cX7_spellBetween 94 = .ok (.return_, 1) := by decide +kernel
theorem ok_X7_spellBetween : am_okM m_X7_spellBetween 2 ∧ Cond.instanceMethod m_X7_spellBetween.1 ∈ am_tbl ∧ Cond.selects m_X7_spellBetween.1.cls m_X7_spellBetween.1 m_X7_spellBetween.1 ∈ am_tbl := ri_mk1 333 85 332 5 (by decide +kernel)
theorem c_X7_spellBetween {i w : Int} {F A : gs_F} (hI : gs_I F A) (hi : 0 ≤ i ∧ i ≤ 2) (hw : w = 1 ∨ w = -1) : sC m_X7_spellBetween 2 [.ref 5, gs_iv i, gs_iv w] F A (fun rv F' A' => rv = none ∧ gs_I F' A' ∧ gs_fr (fun c j => c = 8 ∧ j = 1) (fun c => c = 9) F A F' A' ∧ (True)) := by
  refine sC_of ok_X7_spellBetween.1 (Nat.le_of_ble_eq_true rfl) ?_
  show sA _ _ _ 0 [(0, .ref 5), (1, gs_iv i), (2, gs_iv w)] [] F A
  have hf : gs_fr (fun c j => c = 8 ∧ j = 1) (fun c => c = 9) F A F A := gs_fr_refl _ _ _ _
  refine sA_iconst (z := 2) dd_X7_spellBetween_0 ?_
  refine sA_iload_n dd_X7_spellBetween_1 rfl (.tail _ (.head _)) ?_
  refine sA_imul dd_X7_spellBetween_2 ?_
  refine sA_iconst (z := 1) dd_X7_spellBetween_3 ?_
  refine sA_iadd dd_X7_spellBetween_4 ?_
  refine sA_istore_n (lv' := [(3, gs_iv ((2 * i) + 1)), (0, .ref 5), (1, gs_iv i), (2, gs_iv w)]) dd_X7_spellBetween_5 rfl (by decide) rfl ?_
  refine sA_iconst (z := 2) dd_X7_spellBetween_6 ?_
  refine sA_iload_n dd_X7_spellBetween_7 rfl (.tail _ (.tail _ (.head _))) ?_
  refine sA_imul dd_X7_spellBetween_8 ?_
  refine sA_iconst (z := 2) dd_X7_spellBetween_9 ?_
  refine sA_iadd dd_X7_spellBetween_10 ?_
  refine sA_istore (lv' := [(4, gs_iv ((2 * i) + 2)), (3, gs_iv ((2 * i) + 1)), (0, .ref 5), (1, gs_iv i), (2, gs_iv w)]) dd_X7_spellBetween_11 (by decide) rfl ?_
  refine sA_iconst (z := 2) dd_X7_spellBetween_13 ?_
  refine sA_iload_n dd_X7_spellBetween_14 rfl (.tail _ (.tail _ (.tail _ (.head _)))) ?_
  refine sA_imul dd_X7_spellBetween_15 ?_
  refine sA_iconst (z := 3) dd_X7_spellBetween_16 ?_
  refine sA_iadd dd_X7_spellBetween_17 ?_
  refine sA_istore (lv' := [(5, gs_iv ((2 * i) + 3)), (4, gs_iv ((2 * i) + 2)), (3, gs_iv ((2 * i) + 1)), (0, .ref 5), (1, gs_iv i), (2, gs_iv w)]) dd_X7_spellBetween_18 (by decide) rfl ?_
  refine sA_aload_n dd_X7_spellBetween_20 rfl (.tail _ (.tail _ (.tail _ (.head _)))) ?_
  refine sA_getr (ci := 7) (j := 3) (q := (RX7, TX7, 5)) dd_X7_spellBetween_21 rfl (by decide) fl_X7_23 (by decide) gs_s5 rfl ?_
  refine sA_iload_n dd_X7_spellBetween_24 rfl (.tail _ (.tail _ (.tail _ (.tail _ (.tail _ (.head _)))))) ?_
  refine sA_if_le (tgt := 33) dd_X7_spellBetween_25 (by decide) (by omega) (fun q1 => ?_) (fun q1 => ?_)
  · skip
    refine sA_iload dd_X7_spellBetween_33 (.head _) ?_
    refine sA_ineg dd_X7_spellBetween_35 ?_
    refine sA_callV (y2 := m_X4_push) (n2 := 1) (d2 := 1) (a := 8) (ci := 4) (q := (RX4, TX4, 2)) (as := [gs_iv (-((2 * i) + 3))]) (rest := []) dd_X7_spellBetween_36 ok_X4_push ml_X7_58 rfl rfl (Nat.lt_of_succ_lt gs_row_8.1) gs_row_8.2.1 rfl rfl (Nat.le_of_ble_eq_true rfl) (by decide) (c_X4_push hI gs_row_8 (by omega)) (fun r2 F3 A4 h5 => ?_)
    obtain ⟨e7, I8, f9, x6⟩ := h5
    subst e7
    have f10 := gs_fr_tr hf f9 (fun b j h => by first | exact False.elim h | omega | (dsimp only at h ⊢; omega)) (fun b h => by first | exact False.elim h | omega | (dsimp only at h ⊢; omega))
    show sA _ _ _ 39 _ [] _ _
    refine sA_aload_n dd_X7_spellBetween_39 rfl (.tail _ (.tail _ (.tail _ (.head _)))) ?_
    refine sA_getr (ci := 7) (j := 3) (q := (RX7, TX7, 5)) dd_X7_spellBetween_40 rfl (by decide) fl_X7_23 (by decide) gs_s5 rfl ?_
    refine sA_iload_n dd_X7_spellBetween_43 rfl (.tail _ (.tail _ (.tail _ (.tail _ (.tail _ (.head _)))))) ?_
    refine sA_if_le (tgt := 52) dd_X7_spellBetween_44 (by decide) (by omega) (fun q11 => ?_) (fun q11 => absurd q11 (by omega))
    refine sA_iload dd_X7_spellBetween_52 (.tail _ (.head _)) ?_
    refine sA_callV (y2 := m_X4_push) (n2 := 1) (d2 := 1) (a := 8) (ci := 4) (q := (RX4, TX4, 2)) (as := [gs_iv ((2 * i) + 2)]) (rest := []) dd_X7_spellBetween_54 ok_X4_push ml_X7_58 rfl rfl (Nat.lt_of_succ_lt gs_row_8.1) gs_row_8.2.1 rfl rfl (Nat.le_of_ble_eq_true rfl) (by decide) (c_X4_push I8 gs_row_8 (by omega)) (fun r12 F13 A14 h15 => ?_)
    obtain ⟨e17, I18, f19, x16⟩ := h15
    subst e17
    have f20 := gs_fr_tr f10 f19 (fun b j h => by first | exact False.elim h | omega | (dsimp only at h ⊢; omega)) (fun b h => by first | exact False.elim h | omega | (dsimp only at h ⊢; omega))
    show sA _ _ _ 57 _ [] _ _
    refine sA_aload_n dd_X7_spellBetween_57 rfl (.tail _ (.tail _ (.tail _ (.head _)))) ?_
    refine sA_getr (ci := 7) (j := 3) (q := (RX7, TX7, 5)) dd_X7_spellBetween_58 rfl (by decide) fl_X7_23 (by decide) gs_s5 rfl ?_
    refine sA_iload_n dd_X7_spellBetween_61 rfl (.tail _ (.tail _ (.tail _ (.tail _ (.tail _ (.head _)))))) ?_
    refine sA_if_le (tgt := 71) dd_X7_spellBetween_62 (by decide) (by omega) (fun q21 => ?_) (fun q21 => absurd q21 (by omega))
    refine sA_iload_n dd_X7_spellBetween_71 rfl (.tail _ (.tail _ (.head _))) ?_
    refine sA_callV (y2 := m_X4_push) (n2 := 1) (d2 := 1) (a := 8) (ci := 4) (q := (RX4, TX4, 2)) (as := [gs_iv ((2 * i) + 1)]) (rest := []) dd_X7_spellBetween_72 ok_X4_push ml_X7_58 rfl rfl (Nat.lt_of_succ_lt gs_row_8.1) gs_row_8.2.1 rfl rfl (Nat.le_of_ble_eq_true rfl) (by decide) (c_X4_push I18 gs_row_8 (by omega)) (fun r22 F23 A24 h25 => ?_)
    obtain ⟨e27, I28, f29, x26⟩ := h25
    subst e27
    have f30 := gs_fr_tr f20 f29 (fun b j h => by first | exact False.elim h | omega | (dsimp only at h ⊢; omega)) (fun b h => by first | exact False.elim h | omega | (dsimp only at h ⊢; omega))
    show sA _ _ _ 75 _ [] _ _
    refine sA_aload_n dd_X7_spellBetween_75 rfl (.tail _ (.tail _ (.tail _ (.head _)))) ?_
    refine sA_getr (ci := 7) (j := 3) (q := (RX7, TX7, 5)) dd_X7_spellBetween_76 rfl (by decide) fl_X7_23 (by decide) gs_s5 rfl ?_
    refine sA_iload_n dd_X7_spellBetween_79 rfl (.tail _ (.tail _ (.tail _ (.tail _ (.tail _ (.head _)))))) ?_
    refine sA_if_le (tgt := 88) dd_X7_spellBetween_80 (by decide) (by omega) (fun q31 => ?_) (fun q31 => absurd q31 (by omega))
    refine sA_iload dd_X7_spellBetween_88 (.tail _ (.head _)) ?_
    refine sA_ineg dd_X7_spellBetween_90 ?_
    refine sA_callV (y2 := m_X4_push) (n2 := 1) (d2 := 1) (a := 8) (ci := 4) (q := (RX4, TX4, 2)) (as := [gs_iv (-((2 * i) + 2))]) (rest := []) dd_X7_spellBetween_91 ok_X4_push ml_X7_58 rfl rfl (Nat.lt_of_succ_lt gs_row_8.1) gs_row_8.2.1 rfl rfl (Nat.le_of_ble_eq_true rfl) (by decide) (c_X4_push I28 gs_row_8 (by omega)) (fun r32 F33 A34 h35 => ?_)
    obtain ⟨e37, I38, f39, x36⟩ := h35
    subst e37
    have f40 := gs_fr_tr f30 f39 (fun b j h => by first | exact False.elim h | omega | (dsimp only at h ⊢; omega)) (fun b h => by first | exact False.elim h | omega | (dsimp only at h ⊢; omega))
    show sA _ _ _ 94 _ [] _ _
    refine sA_vret dd_X7_spellBetween_94 rfl ?_
    exact ⟨rfl, I38, f40, trivial⟩
  · skip
    refine sA_iload dd_X7_spellBetween_28 (.tail _ (.head _)) ?_
    refine sA_goto (tgt := 36) dd_X7_spellBetween_30 (by decide) ?_
    refine sA_callV (y2 := m_X4_push) (n2 := 1) (d2 := 1) (a := 8) (ci := 4) (q := (RX4, TX4, 2)) (as := [gs_iv ((2 * i) + 2)]) (rest := []) dd_X7_spellBetween_36 ok_X4_push ml_X7_58 rfl rfl (Nat.lt_of_succ_lt gs_row_8.1) gs_row_8.2.1 rfl rfl (Nat.le_of_ble_eq_true rfl) (by decide) (c_X4_push hI gs_row_8 (by omega)) (fun r41 F42 A43 h44 => ?_)
    obtain ⟨e46, I47, f48, x45⟩ := h44
    subst e46
    have f49 := gs_fr_tr hf f48 (fun b j h => by first | exact False.elim h | omega | (dsimp only at h ⊢; omega)) (fun b h => by first | exact False.elim h | omega | (dsimp only at h ⊢; omega))
    show sA _ _ _ 39 _ [] _ _
    refine sA_aload_n dd_X7_spellBetween_39 rfl (.tail _ (.tail _ (.tail _ (.head _)))) ?_
    refine sA_getr (ci := 7) (j := 3) (q := (RX7, TX7, 5)) dd_X7_spellBetween_40 rfl (by decide) fl_X7_23 (by decide) gs_s5 rfl ?_
    refine sA_iload_n dd_X7_spellBetween_43 rfl (.tail _ (.tail _ (.tail _ (.tail _ (.tail _ (.head _)))))) ?_
    refine sA_if_le (tgt := 52) dd_X7_spellBetween_44 (by decide) (by omega) (fun q50 => absurd q50 (by omega)) (fun q50 => ?_)
    refine sA_iload_n dd_X7_spellBetween_47 rfl (.tail _ (.tail _ (.head _))) ?_
    refine sA_ineg dd_X7_spellBetween_48 ?_
    refine sA_goto (tgt := 54) dd_X7_spellBetween_49 (by decide) ?_
    refine sA_callV (y2 := m_X4_push) (n2 := 1) (d2 := 1) (a := 8) (ci := 4) (q := (RX4, TX4, 2)) (as := [gs_iv (-((2 * i) + 1))]) (rest := []) dd_X7_spellBetween_54 ok_X4_push ml_X7_58 rfl rfl (Nat.lt_of_succ_lt gs_row_8.1) gs_row_8.2.1 rfl rfl (Nat.le_of_ble_eq_true rfl) (by decide) (c_X4_push I47 gs_row_8 (by omega)) (fun r51 F52 A53 h54 => ?_)
    obtain ⟨e56, I57, f58, x55⟩ := h54
    subst e56
    have f59 := gs_fr_tr f49 f58 (fun b j h => by first | exact False.elim h | omega | (dsimp only at h ⊢; omega)) (fun b h => by first | exact False.elim h | omega | (dsimp only at h ⊢; omega))
    show sA _ _ _ 57 _ [] _ _
    refine sA_aload_n dd_X7_spellBetween_57 rfl (.tail _ (.tail _ (.tail _ (.head _)))) ?_
    refine sA_getr (ci := 7) (j := 3) (q := (RX7, TX7, 5)) dd_X7_spellBetween_58 rfl (by decide) fl_X7_23 (by decide) gs_s5 rfl ?_
    refine sA_iload_n dd_X7_spellBetween_61 rfl (.tail _ (.tail _ (.tail _ (.tail _ (.tail _ (.head _)))))) ?_
    refine sA_if_le (tgt := 71) dd_X7_spellBetween_62 (by decide) (by omega) (fun q60 => absurd q60 (by omega)) (fun q60 => ?_)
    refine sA_iload dd_X7_spellBetween_65 (.tail _ (.head _)) ?_
    refine sA_ineg dd_X7_spellBetween_67 ?_
    refine sA_goto (tgt := 72) dd_X7_spellBetween_68 (by decide) ?_
    refine sA_callV (y2 := m_X4_push) (n2 := 1) (d2 := 1) (a := 8) (ci := 4) (q := (RX4, TX4, 2)) (as := [gs_iv (-((2 * i) + 2))]) (rest := []) dd_X7_spellBetween_72 ok_X4_push ml_X7_58 rfl rfl (Nat.lt_of_succ_lt gs_row_8.1) gs_row_8.2.1 rfl rfl (Nat.le_of_ble_eq_true rfl) (by decide) (c_X4_push I57 gs_row_8 (by omega)) (fun r61 F62 A63 h64 => ?_)
    obtain ⟨e66, I67, f68, x65⟩ := h64
    subst e66
    have f69 := gs_fr_tr f59 f68 (fun b j h => by first | exact False.elim h | omega | (dsimp only at h ⊢; omega)) (fun b h => by first | exact False.elim h | omega | (dsimp only at h ⊢; omega))
    show sA _ _ _ 75 _ [] _ _
    refine sA_aload_n dd_X7_spellBetween_75 rfl (.tail _ (.tail _ (.tail _ (.head _)))) ?_
    refine sA_getr (ci := 7) (j := 3) (q := (RX7, TX7, 5)) dd_X7_spellBetween_76 rfl (by decide) fl_X7_23 (by decide) gs_s5 rfl ?_
    refine sA_iload_n dd_X7_spellBetween_79 rfl (.tail _ (.tail _ (.tail _ (.tail _ (.tail _ (.head _)))))) ?_
    refine sA_if_le (tgt := 88) dd_X7_spellBetween_80 (by decide) (by omega) (fun q70 => absurd q70 (by omega)) (fun q70 => ?_)
    refine sA_iload dd_X7_spellBetween_83 (.head _) ?_
    refine sA_goto (tgt := 91) dd_X7_spellBetween_85 (by decide) ?_
    refine sA_callV (y2 := m_X4_push) (n2 := 1) (d2 := 1) (a := 8) (ci := 4) (q := (RX4, TX4, 2)) (as := [gs_iv ((2 * i) + 3)]) (rest := []) dd_X7_spellBetween_91 ok_X4_push ml_X7_58 rfl rfl (Nat.lt_of_succ_lt gs_row_8.1) gs_row_8.2.1 rfl rfl (Nat.le_of_ble_eq_true rfl) (by decide) (c_X4_push I67 gs_row_8 (by omega)) (fun r71 F72 A73 h74 => ?_)
    obtain ⟨e76, I77, f78, x75⟩ := h74
    subst e76
    have f79 := gs_fr_tr f69 f78 (fun b j h => by first | exact False.elim h | omega | (dsimp only at h ⊢; omega)) (fun b h => by first | exact False.elim h | omega | (dsimp only at h ⊢; omega))
    show sA _ _ _ 94 _ [] _ _
    refine sA_vret dd_X7_spellBetween_94 rfl ?_
    exact ⟨rfl, I77, f79, trivial⟩
theorem dd_X7_spellThird_0 : decode cX7_spellThird 0 = .ok (.iload_n 3, 1) := by decide +kernel
theorem dd_X7_spellThird_1 : decode cX7_spellThird 1 = .ok (.iconst 2, 1) := by decide +kernel
theorem dd_X7_spellThird_2 : decode cX7_spellThird 2 = .ok (.iload_n 1, 1) := by decide +kernel
theorem dd_X7_spellThird_3 : decode cX7_spellThird 3 = .ok (.imul, 1) := by decide +kernel
theorem dd_X7_spellThird_4 : decode cX7_spellThird 4 = .ok (.iconst 2, 1) := by decide +kernel
theorem dd_X7_spellThird_5 : decode cX7_spellThird 5 = .ok (.iadd, 1) := by decide +kernel
theorem dd_X7_spellThird_6 : decode cX7_spellThird 6 = .ok (.if_icmp .eq 12, 3) := by decide +kernel
theorem dd_X7_spellThird_9 : decode cX7_spellThird 9 = .ok (.iload_n 3, 1) := by decide +kernel
theorem dd_X7_spellThird_10 : decode cX7_spellThird 10 = .ok (.iconst 2, 1) := by decide +kernel
theorem dd_X7_spellThird_11 : decode cX7_spellThird 11 = .ok (.iload_n 1, 1) := by decide +kernel
theorem dd_X7_spellThird_12 : decode cX7_spellThird 12 = .ok (.imul, 1) := by decide +kernel
theorem dd_X7_spellThird_13 : decode cX7_spellThird 13 = .ok (.iconst 3, 1) := by decide +kernel
theorem dd_X7_spellThird_14 : decode cX7_spellThird 14 = .ok (.iadd, 1) := by decide +kernel
theorem dd_X7_spellThird_15 : decode cX7_spellThird 15 = .ok (.if_icmp .ne 10, 3) := by decide +kernel
theorem dd_X7_spellThird_18 : decode cX7_spellThird 18 = .ok (.aload_n 0, 1) := by decide +kernel
theorem dd_X7_spellThird_19 : decode cX7_spellThird 19 = .ok (.iload_n 1, 1) := by decide +kernel
theorem dd_X7_spellThird_20 : decode cX7_spellThird 20 = .ok (.iload_n 2, 1) := by decide +kernel
theorem dd_X7_spellThird_21 : decode cX7_spellThird 21 = .ok (.ineg, 1) := by decide +kernel
theorem dd_X7_spellThird_22 : decode cX7_spellThird 22 = .ok (.invokevirtual 61, 3) := by decide +kernel
theorem dd_X7_spellThird_25 : decode cX7_spellThird 25 = .ok (.aload_n 0, 1) := by decide +kernel
theorem dd_X7_spellThird_26 : decode cX7_spellThird 26 = .ok (.getfield 23, 3) := by decide +kernel
theorem dd_X7_spellThird_29 : decode cX7_spellThird 29 = .ok (.iload_n 3, 1) := by decide +kernel
theorem dd_X7_spellThird_30 : decode cX7_spellThird 30 = .ok (.invokevirtual 58, 3) := by decide +kernel
theorem dd_X7_spellThird_33 : decode cX7_spellThird 33 = .ok (.iload_n 3, 1) := by decide +kernel
theorem dd_X7_spellThird_34 : decode cX7_spellThird 34 = .ok (.iconst 2, 1) := by decide +kernel
theorem dd_X7_spellThird_35 : decode cX7_spellThird 35 = .ok (.iload_n 1, 1) := by decide +kernel
theorem dd_X7_spellThird_36 : decode cX7_spellThird 36 = .ok (.imul, 1) := by decide +kernel
theorem dd_X7_spellThird_37 : decode cX7_spellThird 37 = .ok (.iconst 3, 1) := by decide +kernel
theorem dd_X7_spellThird_38 : decode cX7_spellThird 38 = .ok (.iadd, 1) := by decide +kernel
theorem dd_X7_spellThird_39 : decode cX7_spellThird 39 = .ok (.if_icmp .eq 12, 3) := by decide +kernel
theorem dd_X7_spellThird_42 : decode cX7_spellThird 42 = .ok (.iload_n 3, 1) := by decide +kernel
theorem dd_X7_spellThird_43 : decode cX7_spellThird 43 = .ok (.iconst 2, 1) := by decide +kernel
theorem dd_X7_spellThird_44 : decode cX7_spellThird 44 = .ok (.iload_n 1, 1) := by decide +kernel
theorem dd_X7_spellThird_45 : decode cX7_spellThird 45 = .ok (.imul, 1) := by decide +kernel
theorem dd_X7_spellThird_46 : decode cX7_spellThird 46 = .ok (.iconst 4, 1) := by decide +kernel
theorem dd_X7_spellThird_47 : decode cX7_spellThird 47 = .ok (.iadd, 1) := by decide +kernel
theorem dd_X7_spellThird_48 : decode cX7_spellThird 48 = .ok (.if_icmp .ne 9, 3) := by decide +kernel
theorem dd_X7_spellThird_51 : decode cX7_spellThird 51 = .ok (.aload_n 0, 1) := by decide +kernel
theorem dd_X7_spellThird_52 : decode cX7_spellThird 52 = .ok (.iload_n 1, 1) := by decide +kernel
theorem dd_X7_spellThird_53 : decode cX7_spellThird 53 = .ok (.iload_n 2, 1) := by decide +kernel
theorem dd_X7_spellThird_54 : decode cX7_spellThird 54 = .ok (.invokevirtual 61, 3) := by decide +kernel
theorem dd_X7_spellThird_57 : decode cX7_spellThird 57 = .ok (.return_, 1) := by decide +kernel
theorem ml_X7_61 : Cond.methodLink RX7 61 m_X7_spellBetween.1 ∈ am_tbl := ri_lw_in (pl := 330) (by decide +kernel)
theorem ok_X7_spellThird : am_okM m_X7_spellThird 3 ∧ Cond.instanceMethod m_X7_spellThird.1 ∈ am_tbl ∧ Cond.selects m_X7_spellThird.1.cls m_X7_spellThird.1 m_X7_spellThird.1 ∈ am_tbl := ri_mk1 329 85 328 4 (by decide +kernel)
theorem c_X7_spellThird {i w x : Int} {F A : gs_F} (hI : gs_I F A) (hi : 0 ≤ i ∧ i ≤ 2) (hw : w = 1 ∨ w = -1) (hx : 1 ≤ x ∧ x ≤ 6) : sC m_X7_spellThird 3 [.ref 5, gs_iv i, gs_iv w, gs_iv x] F A (fun rv F' A' => rv = none ∧ gs_I F' A' ∧ gs_fr (fun c j => c = 8 ∧ j = 1) (fun c => c = 9) F A F' A' ∧ (True)) := by
  refine sC_of ok_X7_spellThird.1 (Nat.le_of_ble_eq_true rfl) ?_
  show sA _ _ _ 0 [(0, .ref 5), (1, gs_iv i), (2, gs_iv w), (3, gs_iv x)] [] F A
  have hf : gs_fr (fun c j => c = 8 ∧ j = 1) (fun c => c = 9) F A F A := gs_fr_refl _ _ _ _
  refine sA_iload_n dd_X7_spellThird_0 rfl (.tail _ (.tail _ (.tail _ (.head _)))) ?_
  refine sA_iconst (z := 2) dd_X7_spellThird_1 ?_
  refine sA_iload_n dd_X7_spellThird_2 rfl (.tail _ (.head _)) ?_
  refine sA_imul dd_X7_spellThird_3 ?_
  refine sA_iconst (z := 2) dd_X7_spellThird_4 ?_
  refine sA_iadd dd_X7_spellThird_5 ?_
  refine sA_icmp_eq (tgt := 18) dd_X7_spellThird_6 (by decide) (by omega) (by omega) (fun q1 => ?_) (fun q1 => ?_)
  · skip
    refine sA_aload_n dd_X7_spellThird_18 rfl (.head _) ?_
    refine sA_iload_n dd_X7_spellThird_19 rfl (.tail _ (.head _)) ?_
    refine sA_iload_n dd_X7_spellThird_20 rfl (.tail _ (.tail _ (.head _))) ?_
    refine sA_ineg dd_X7_spellThird_21 ?_
    refine sA_callV (y2 := m_X7_spellBetween) (n2 := 2) (d2 := 2) (a := 5) (ci := 7) (q := (RX7, TX7, 5)) (as := [gs_iv i, gs_iv (-w)]) (rest := []) dd_X7_spellThird_22 ok_X7_spellBetween ml_X7_61 rfl rfl (by decide) gs_s5 rfl rfl (Nat.le_of_ble_eq_true rfl) (by decide) (c_X7_spellBetween hI (by omega) (by omega)) (fun r2 F3 A4 h5 => ?_)
    obtain ⟨e7, I8, f9, x6⟩ := h5
    subst e7
    have f10 := gs_fr_tr hf f9 (fun b j h => by first | exact False.elim h | omega | (dsimp only at h ⊢; omega)) (fun b h => by first | exact False.elim h | omega | (dsimp only at h ⊢; omega))
    show sA _ _ _ 25 _ [] _ _
    refine sA_aload_n dd_X7_spellThird_25 rfl (.head _) ?_
    refine sA_getr (ci := 7) (j := 3) (q := (RX7, TX7, 5)) dd_X7_spellThird_26 rfl (by decide) fl_X7_23 (by decide) gs_s5 rfl ?_
    refine sA_iload_n dd_X7_spellThird_29 rfl (.tail _ (.tail _ (.tail _ (.head _)))) ?_
    refine sA_callV (y2 := m_X4_push) (n2 := 1) (d2 := 1) (a := 8) (ci := 4) (q := (RX4, TX4, 2)) (as := [gs_iv x]) (rest := []) dd_X7_spellThird_30 ok_X4_push ml_X7_58 rfl rfl (Nat.lt_of_succ_lt gs_row_8.1) gs_row_8.2.1 rfl rfl (Nat.le_of_ble_eq_true rfl) (by decide) (c_X4_push I8 gs_row_8 (by omega)) (fun r11 F12 A13 h14 => ?_)
    obtain ⟨e16, I17, f18, x15⟩ := h14
    subst e16
    have f19 := gs_fr_tr f10 f18 (fun b j h => by first | exact False.elim h | omega | (dsimp only at h ⊢; omega)) (fun b h => by first | exact False.elim h | omega | (dsimp only at h ⊢; omega))
    show sA _ _ _ 33 _ [] _ _
    refine sA_iload_n dd_X7_spellThird_33 rfl (.tail _ (.tail _ (.tail _ (.head _)))) ?_
    refine sA_iconst (z := 2) dd_X7_spellThird_34 ?_
    refine sA_iload_n dd_X7_spellThird_35 rfl (.tail _ (.head _)) ?_
    refine sA_imul dd_X7_spellThird_36 ?_
    refine sA_iconst (z := 3) dd_X7_spellThird_37 ?_
    refine sA_iadd dd_X7_spellThird_38 ?_
    refine sA_icmp_eq (tgt := 51) dd_X7_spellThird_39 (by decide) (by omega) (by omega) (fun q20 => ?_) (fun q20 => ?_)
    · skip
      refine sA_aload_n dd_X7_spellThird_51 rfl (.head _) ?_
      refine sA_iload_n dd_X7_spellThird_52 rfl (.tail _ (.head _)) ?_
      refine sA_iload_n dd_X7_spellThird_53 rfl (.tail _ (.tail _ (.head _))) ?_
      refine sA_callV (y2 := m_X7_spellBetween) (n2 := 2) (d2 := 2) (a := 5) (ci := 7) (q := (RX7, TX7, 5)) (as := [gs_iv i, gs_iv w]) (rest := []) dd_X7_spellThird_54 ok_X7_spellBetween ml_X7_61 rfl rfl (by decide) gs_s5 rfl rfl (Nat.le_of_ble_eq_true rfl) (by decide) (c_X7_spellBetween I17 (by omega) (by omega)) (fun r21 F22 A23 h24 => ?_)
      obtain ⟨e26, I27, f28, x25⟩ := h24
      subst e26
      have f29 := gs_fr_tr f19 f28 (fun b j h => by first | exact False.elim h | omega | (dsimp only at h ⊢; omega)) (fun b h => by first | exact False.elim h | omega | (dsimp only at h ⊢; omega))
      show sA _ _ _ 57 _ [] _ _
      refine sA_vret dd_X7_spellThird_57 rfl ?_
      exact ⟨rfl, I27, f29, trivial⟩
    · skip
      refine sA_iload_n dd_X7_spellThird_42 rfl (.tail _ (.tail _ (.tail _ (.head _)))) ?_
      refine sA_iconst (z := 2) dd_X7_spellThird_43 ?_
      refine sA_iload_n dd_X7_spellThird_44 rfl (.tail _ (.head _)) ?_
      refine sA_imul dd_X7_spellThird_45 ?_
      refine sA_iconst (z := 4) dd_X7_spellThird_46 ?_
      refine sA_iadd dd_X7_spellThird_47 ?_
      refine sA_icmp_ne (tgt := 57) dd_X7_spellThird_48 (by decide) (by omega) (by omega) (fun q30 => ?_) (fun q30 => ?_)
      · skip
        refine sA_vret dd_X7_spellThird_57 rfl ?_
        exact ⟨rfl, I17, f19, trivial⟩
      · skip
        refine sA_aload_n dd_X7_spellThird_51 rfl (.head _) ?_
        refine sA_iload_n dd_X7_spellThird_52 rfl (.tail _ (.head _)) ?_
        refine sA_iload_n dd_X7_spellThird_53 rfl (.tail _ (.tail _ (.head _))) ?_
        refine sA_callV (y2 := m_X7_spellBetween) (n2 := 2) (d2 := 2) (a := 5) (ci := 7) (q := (RX7, TX7, 5)) (as := [gs_iv i, gs_iv w]) (rest := []) dd_X7_spellThird_54 ok_X7_spellBetween ml_X7_61 rfl rfl (by decide) gs_s5 rfl rfl (Nat.le_of_ble_eq_true rfl) (by decide) (c_X7_spellBetween I17 (by omega) (by omega)) (fun r31 F32 A33 h34 => ?_)
        obtain ⟨e36, I37, f38, x35⟩ := h34
        subst e36
        have f39 := gs_fr_tr f19 f38 (fun b j h => by first | exact False.elim h | omega | (dsimp only at h ⊢; omega)) (fun b h => by first | exact False.elim h | omega | (dsimp only at h ⊢; omega))
        show sA _ _ _ 57 _ [] _ _
        refine sA_vret dd_X7_spellThird_57 rfl ?_
        exact ⟨rfl, I37, f39, trivial⟩
  · skip
    refine sA_iload_n dd_X7_spellThird_9 rfl (.tail _ (.tail _ (.tail _ (.head _)))) ?_
    refine sA_iconst (z := 2) dd_X7_spellThird_10 ?_
    refine sA_iload_n dd_X7_spellThird_11 rfl (.tail _ (.head _)) ?_
    refine sA_imul dd_X7_spellThird_12 ?_
    refine sA_iconst (z := 3) dd_X7_spellThird_13 ?_
    refine sA_iadd dd_X7_spellThird_14 ?_
    refine sA_icmp_ne (tgt := 25) dd_X7_spellThird_15 (by decide) (by omega) (by omega) (fun q40 => ?_) (fun q40 => ?_)
    · skip
      refine sA_aload_n dd_X7_spellThird_25 rfl (.head _) ?_
      refine sA_getr (ci := 7) (j := 3) (q := (RX7, TX7, 5)) dd_X7_spellThird_26 rfl (by decide) fl_X7_23 (by decide) gs_s5 rfl ?_
      refine sA_iload_n dd_X7_spellThird_29 rfl (.tail _ (.tail _ (.tail _ (.head _)))) ?_
      refine sA_callV (y2 := m_X4_push) (n2 := 1) (d2 := 1) (a := 8) (ci := 4) (q := (RX4, TX4, 2)) (as := [gs_iv x]) (rest := []) dd_X7_spellThird_30 ok_X4_push ml_X7_58 rfl rfl (Nat.lt_of_succ_lt gs_row_8.1) gs_row_8.2.1 rfl rfl (Nat.le_of_ble_eq_true rfl) (by decide) (c_X4_push hI gs_row_8 (by omega)) (fun r41 F42 A43 h44 => ?_)
      obtain ⟨e46, I47, f48, x45⟩ := h44
      subst e46
      have f49 := gs_fr_tr hf f48 (fun b j h => by first | exact False.elim h | omega | (dsimp only at h ⊢; omega)) (fun b h => by first | exact False.elim h | omega | (dsimp only at h ⊢; omega))
      show sA _ _ _ 33 _ [] _ _
      refine sA_iload_n dd_X7_spellThird_33 rfl (.tail _ (.tail _ (.tail _ (.head _)))) ?_
      refine sA_iconst (z := 2) dd_X7_spellThird_34 ?_
      refine sA_iload_n dd_X7_spellThird_35 rfl (.tail _ (.head _)) ?_
      refine sA_imul dd_X7_spellThird_36 ?_
      refine sA_iconst (z := 3) dd_X7_spellThird_37 ?_
      refine sA_iadd dd_X7_spellThird_38 ?_
      refine sA_icmp_eq (tgt := 51) dd_X7_spellThird_39 (by decide) (by omega) (by omega) (fun q50 => absurd q50 (by omega)) (fun q50 => ?_)
      refine sA_iload_n dd_X7_spellThird_42 rfl (.tail _ (.tail _ (.tail _ (.head _)))) ?_
      refine sA_iconst (z := 2) dd_X7_spellThird_43 ?_
      refine sA_iload_n dd_X7_spellThird_44 rfl (.tail _ (.head _)) ?_
      refine sA_imul dd_X7_spellThird_45 ?_
      refine sA_iconst (z := 4) dd_X7_spellThird_46 ?_
      refine sA_iadd dd_X7_spellThird_47 ?_
      refine sA_icmp_ne (tgt := 57) dd_X7_spellThird_48 (by decide) (by omega) (by omega) (fun q51 => ?_) (fun q51 => ?_)
      · skip
        refine sA_vret dd_X7_spellThird_57 rfl ?_
        exact ⟨rfl, I47, f49, trivial⟩
      · skip
        refine sA_aload_n dd_X7_spellThird_51 rfl (.head _) ?_
        refine sA_iload_n dd_X7_spellThird_52 rfl (.tail _ (.head _)) ?_
        refine sA_iload_n dd_X7_spellThird_53 rfl (.tail _ (.tail _ (.head _))) ?_
        refine sA_callV (y2 := m_X7_spellBetween) (n2 := 2) (d2 := 2) (a := 5) (ci := 7) (q := (RX7, TX7, 5)) (as := [gs_iv i, gs_iv w]) (rest := []) dd_X7_spellThird_54 ok_X7_spellBetween ml_X7_61 rfl rfl (by decide) gs_s5 rfl rfl (Nat.le_of_ble_eq_true rfl) (by decide) (c_X7_spellBetween I47 (by omega) (by omega)) (fun r52 F53 A54 h55 => ?_)
        obtain ⟨e57, I58, f59, x56⟩ := h55
        subst e57
        have f60 := gs_fr_tr f49 f59 (fun b j h => by first | exact False.elim h | omega | (dsimp only at h ⊢; omega)) (fun b h => by first | exact False.elim h | omega | (dsimp only at h ⊢; omega))
        show sA _ _ _ 57 _ [] _ _
        refine sA_vret dd_X7_spellThird_57 rfl ?_
        exact ⟨rfl, I58, f60, trivial⟩
    · skip
      refine sA_aload_n dd_X7_spellThird_18 rfl (.head _) ?_
      refine sA_iload_n dd_X7_spellThird_19 rfl (.tail _ (.head _)) ?_
      refine sA_iload_n dd_X7_spellThird_20 rfl (.tail _ (.tail _ (.head _))) ?_
      refine sA_ineg dd_X7_spellThird_21 ?_
      refine sA_callV (y2 := m_X7_spellBetween) (n2 := 2) (d2 := 2) (a := 5) (ci := 7) (q := (RX7, TX7, 5)) (as := [gs_iv i, gs_iv (-w)]) (rest := []) dd_X7_spellThird_22 ok_X7_spellBetween ml_X7_61 rfl rfl (by decide) gs_s5 rfl rfl (Nat.le_of_ble_eq_true rfl) (by decide) (c_X7_spellBetween hI (by omega) (by omega)) (fun r61 F62 A63 h64 => ?_)
      obtain ⟨e66, I67, f68, x65⟩ := h64
      subst e66
      have f69 := gs_fr_tr hf f68 (fun b j h => by first | exact False.elim h | omega | (dsimp only at h ⊢; omega)) (fun b h => by first | exact False.elim h | omega | (dsimp only at h ⊢; omega))
      show sA _ _ _ 25 _ [] _ _
      refine sA_aload_n dd_X7_spellThird_25 rfl (.head _) ?_
      refine sA_getr (ci := 7) (j := 3) (q := (RX7, TX7, 5)) dd_X7_spellThird_26 rfl (by decide) fl_X7_23 (by decide) gs_s5 rfl ?_
      refine sA_iload_n dd_X7_spellThird_29 rfl (.tail _ (.tail _ (.tail _ (.head _)))) ?_
      refine sA_callV (y2 := m_X4_push) (n2 := 1) (d2 := 1) (a := 8) (ci := 4) (q := (RX4, TX4, 2)) (as := [gs_iv x]) (rest := []) dd_X7_spellThird_30 ok_X4_push ml_X7_58 rfl rfl (Nat.lt_of_succ_lt gs_row_8.1) gs_row_8.2.1 rfl rfl (Nat.le_of_ble_eq_true rfl) (by decide) (c_X4_push I67 gs_row_8 (by omega)) (fun r70 F71 A72 h73 => ?_)
      obtain ⟨e75, I76, f77, x74⟩ := h73
      subst e75
      have f78 := gs_fr_tr f69 f77 (fun b j h => by first | exact False.elim h | omega | (dsimp only at h ⊢; omega)) (fun b h => by first | exact False.elim h | omega | (dsimp only at h ⊢; omega))
      show sA _ _ _ 33 _ [] _ _
      refine sA_iload_n dd_X7_spellThird_33 rfl (.tail _ (.tail _ (.tail _ (.head _)))) ?_
      refine sA_iconst (z := 2) dd_X7_spellThird_34 ?_
      refine sA_iload_n dd_X7_spellThird_35 rfl (.tail _ (.head _)) ?_
      refine sA_imul dd_X7_spellThird_36 ?_
      refine sA_iconst (z := 3) dd_X7_spellThird_37 ?_
      refine sA_iadd dd_X7_spellThird_38 ?_
      refine sA_icmp_eq (tgt := 51) dd_X7_spellThird_39 (by decide) (by omega) (by omega) (fun q79 => ?_) (fun q79 => absurd q79 (by omega))
      refine sA_aload_n dd_X7_spellThird_51 rfl (.head _) ?_
      refine sA_iload_n dd_X7_spellThird_52 rfl (.tail _ (.head _)) ?_
      refine sA_iload_n dd_X7_spellThird_53 rfl (.tail _ (.tail _ (.head _))) ?_
      refine sA_callV (y2 := m_X7_spellBetween) (n2 := 2) (d2 := 2) (a := 5) (ci := 7) (q := (RX7, TX7, 5)) (as := [gs_iv i, gs_iv w]) (rest := []) dd_X7_spellThird_54 ok_X7_spellBetween ml_X7_61 rfl rfl (by decide) gs_s5 rfl rfl (Nat.le_of_ble_eq_true rfl) (by decide) (c_X7_spellBetween I76 (by omega) (by omega)) (fun r80 F81 A82 h83 => ?_)
      obtain ⟨e85, I86, f87, x84⟩ := h83
      subst e85
      have f88 := gs_fr_tr f78 f87 (fun b j h => by first | exact False.elim h | omega | (dsimp only at h ⊢; omega)) (fun b h => by first | exact False.elim h | omega | (dsimp only at h ⊢; omega))
      show sA _ _ _ 57 _ [] _ _
      refine sA_vret dd_X7_spellThird_57 rfl ?_
      exact ⟨rfl, I86, f88, trivial⟩
theorem dd_X7_layWord_0 : decode cX7_layWord 0 = .ok (.iload_n 1, 1) := by decide +kernel
theorem dd_X7_layWord_1 : decode cX7_layWord 1 = .ok (.iconst 2, 1) := by decide +kernel
theorem dd_X7_layWord_2 : decode cX7_layWord 2 = .ok (.idiv, 1) := by decide +kernel
theorem dd_X7_layWord_3 : decode cX7_layWord 3 = .ok (.istore 4, 2) := by decide +kernel
theorem dd_X7_layWord_5 : decode cX7_layWord 5 = .ok (.iload_n 1, 1) := by decide +kernel
theorem dd_X7_layWord_6 : decode cX7_layWord 6 = .ok (.iconst 2, 1) := by decide +kernel
theorem dd_X7_layWord_7 : decode cX7_layWord 7 = .ok (.irem, 1) := by decide +kernel
theorem dd_X7_layWord_8 : decode cX7_layWord 8 = .ok (.ifCond .ne 7, 3) := by decide +kernel
theorem dd_X7_layWord_11 : decode cX7_layWord 11 = .ok (.iconst 1, 1) := by decide +kernel
theorem dd_X7_layWord_12 : decode cX7_layWord 12 = .ok (.goto 4, 3) := by decide +kernel
theorem dd_X7_layWord_15 : decode cX7_layWord 15 = .ok (.iconst (-1), 1) := by decide +kernel
theorem dd_X7_layWord_16 : decode cX7_layWord 16 = .ok (.istore 5, 2) := by decide +kernel
theorem dd_X7_layWord_18 : decode cX7_layWord 18 = .ok (.aload_n 0, 1) := by decide +kernel
theorem dd_X7_layWord_19 : decode cX7_layWord 19 = .ok (.getfield 23, 3) := by decide +kernel
theorem dd_X7_layWord_22 : decode cX7_layWord 22 = .ok (.iconst 0, 1) := by decide +kernel
theorem dd_X7_layWord_23 : decode cX7_layWord 23 = .ok (.putfield 38, 3) := by decide +kernel
theorem dd_X7_layWord_26 : decode cX7_layWord 26 = .ok (.iload 4, 2) := by decide +kernel
theorem dd_X7_layWord_28 : decode cX7_layWord 28 = .ok (.iload_n 3, 1) := by decide +kernel
theorem dd_X7_layWord_29 : decode cX7_layWord 29 = .ok (.if_icmp .ge 15, 3) := by decide +kernel
theorem dd_X7_layWord_32 : decode cX7_layWord 32 = .ok (.aload_n 0, 1) := by decide +kernel
theorem dd_X7_layWord_33 : decode cX7_layWord 33 = .ok (.iload 4, 2) := by decide +kernel
theorem dd_X7_layWord_35 : decode cX7_layWord 35 = .ok (.iload 5, 2) := by decide +kernel
theorem dd_X7_layWord_37 : decode cX7_layWord 37 = .ok (.iload_n 2, 1) := by decide +kernel
theorem dd_X7_layWord_38 : decode cX7_layWord 38 = .ok (.invokevirtual 41, 3) := by decide +kernel
theorem dd_X7_layWord_41 : decode cX7_layWord 41 = .ok (.goto 38, 3) := by decide +kernel
theorem dd_X7_layWord_44 : decode cX7_layWord 44 = .ok (.iload 4, 2) := by decide +kernel
theorem dd_X7_layWord_46 : decode cX7_layWord 46 = .ok (.iconst 2, 1) := by decide +kernel
theorem dd_X7_layWord_47 : decode cX7_layWord 47 = .ok (.iload_n 3, 1) := by decide +kernel
theorem dd_X7_layWord_48 : decode cX7_layWord 48 = .ok (.imul, 1) := by decide +kernel
theorem dd_X7_layWord_49 : decode cX7_layWord 49 = .ok (.if_icmp .ge 17, 3) := by decide +kernel
theorem dd_X7_layWord_52 : decode cX7_layWord 52 = .ok (.aload_n 0, 1) := by decide +kernel
theorem dd_X7_layWord_53 : decode cX7_layWord 53 = .ok (.iload 4, 2) := by decide +kernel
theorem dd_X7_layWord_55 : decode cX7_layWord 55 = .ok (.iload_n 3, 1) := by decide +kernel
theorem dd_X7_layWord_56 : decode cX7_layWord 56 = .ok (.isub, 1) := by decide +kernel
theorem dd_X7_layWord_57 : decode cX7_layWord 57 = .ok (.iload 5, 2) := by decide +kernel
theorem dd_X7_layWord_59 : decode cX7_layWord 59 = .ok (.iload_n 2, 1) := by decide +kernel
theorem dd_X7_layWord_60 : decode cX7_layWord 60 = .ok (.invokevirtual 44, 3) := by decide +kernel
theorem dd_X7_layWord_63 : decode cX7_layWord 63 = .ok (.goto 16, 3) := by decide +kernel
theorem dd_X7_layWord_66 : decode cX7_layWord 66 = .ok (.aload_n 0, 1) := by decide +kernel
theorem dd_X7_layWord_67 : decode cX7_layWord 67 = .ok (.iload 4, 2) := by decide +kernel
theorem dd_X7_layWord_69 : decode cX7_layWord 69 = .ok (.iconst 2, 1) := by decide +kernel
theorem dd_X7_layWord_70 : decode cX7_layWord 70 = .ok (.iload_n 3, 1) := by decide +kernel
theorem dd_X7_layWord_71 : decode cX7_layWord 71 = .ok (.imul, 1) := by decide +kernel
theorem dd_X7_layWord_72 : decode cX7_layWord 72 = .ok (.isub, 1) := by decide +kernel
theorem dd_X7_layWord_73 : decode cX7_layWord 73 = .ok (.iload 5, 2) := by decide +kernel
theorem dd_X7_layWord_75 : decode cX7_layWord 75 = .ok (.iload_n 2, 1) := by decide +kernel
theorem dd_X7_layWord_76 : decode cX7_layWord 76 = .ok (.invokevirtual 47, 3) := by decide +kernel
theorem dd_X7_layWord_79 : decode cX7_layWord 79 = .ok (.aload_n 0, 1) := by decide +kernel
theorem dd_X7_layWord_80 : decode cX7_layWord 80 = .ok (.getfield 27, 3) := by decide +kernel
theorem dd_X7_layWord_83 : decode cX7_layWord 83 = .ok (.aload_n 0, 1) := by decide +kernel
theorem dd_X7_layWord_84 : decode cX7_layWord 84 = .ok (.getfield 23, 3) := by decide +kernel
theorem dd_X7_layWord_87 : decode cX7_layWord 87 = .ok (.invokevirtual 50, 3) := by decide +kernel
theorem dd_X7_layWord_90 : decode cX7_layWord 90 = .ok (.aload_n 0, 1) := by decide +kernel
theorem dd_X7_layWord_91 : decode cX7_layWord 91 = .ok (.iload_n 1, 1) := by decide +kernel
theorem dd_X7_layWord_92 : decode cX7_layWord 92 = .ok (.iload_n 2, 1) := by decide +kernel
theorem dd_X7_layWord_93 : decode cX7_layWord 93 = .ok (.aload_n 0, 1) := by decide +kernel
theorem dd_X7_layWord_94 : decode cX7_layWord 94 = .ok (.getfield 23, 3) := by decide +kernel
theorem dd_X7_layWord_97 : decode cX7_layWord 97 = .ok (.invokevirtual 54, 3) := by decide +kernel
theorem dd_X7_layWord_100 : decode cX7_layWord 100 = .ok (.aload_n 0, 1) := by decide +kernel
theorem dd_X7_layWord_101 : decode cX7_layWord 101 = .ok (.iload_n 1, 1) := by decide +kernel
theorem dd_X7_layWord_102 : decode cX7_layWord 102 = .ok (.iload_n 2, 1) := by decide +kernel
theorem dd_X7_layWord_103 : decode cX7_layWord 103 = .ok (.ineg, 1) := by decide +kernel
theorem dd_X7_layWord_104 : decode cX7_layWord 104 = .ok (.aload_n 0, 1) := by decide +kernel
theorem dd_X7_layWord_105 : decode cX7_layWord 105 = .ok (.getfield 27, 3) := by decide +kernel
theorem dd_X7_layWord_108 : decode cX7_layWord 108 = .ok (.invokevirtual 54, 3) := by decide +kernel
theorem dd_X7_layWord_111 : decode cX7_layWord 111 = .ok (.return_, 1) := by decide +kernel
theorem fl_X7_27 : Cond.fieldLink RX7 27 (TX7 4).1 (TX7 4).2.1 (TX7 4).2.2.1 ∈ am_tbl := ri_lw_in (pl := 145) (by decide +kernel)
theorem ml_X7_41 : Cond.methodLink RX7 41 m_X7_spellFirst.1 ∈ am_tbl := ri_lw_in (pl := 314) (by decide +kernel)
theorem ml_X7_44 : Cond.methodLink RX7 44 m_X7_spellSecond.1 ∈ am_tbl := ri_lw_in (pl := 322) (by decide +kernel)
theorem ml_X7_47 : Cond.methodLink RX7 47 m_X7_spellThird.1 ∈ am_tbl := ri_lw_in (pl := 326) (by decide +kernel)
theorem ml_X7_50 : Cond.methodLink RX7 50 m_X4_becomeBack.1 ∈ am_tbl := ri_lw_in (pl := 334) (by decide +kernel)
theorem ml_X7_54 : Cond.methodLink RX7 54 m_X7_keepWord.1 ∈ am_tbl := ri_lw_in (pl := 341) (by decide +kernel)
theorem ok_X7_layWord : am_okM m_X7_layWord 3 ∧ Cond.instanceMethod m_X7_layWord.1 ∈ am_tbl ∧ Cond.selects m_X7_layWord.1.cls m_X7_layWord.1 m_X7_layWord.1 ∈ am_tbl := ri_mk1 313 85 312 1 (by decide +kernel)
theorem c_X7_layWord {u x g : Int} {F A : gs_F} (hI : gs_I F A) (hg : 1 ≤ g ∧ g ≤ 3) (hu : 0 ≤ u ∧ u < 6 * g - 2) (hx : 1 ≤ x ∧ x ≤ 2 * g) : sC m_X7_layWord 4 [.ref 5, gs_iv u, gs_iv x, gs_iv g] F A (fun rv F' A' => rv = none ∧ gs_I F' A' ∧ gs_fr (fun c j => (c = 8 ∨ c = 10) ∧ j = 1) (fun c => c = 9 ∨ c = 11 ∨ c = 6) F A F' A' ∧ (True)) := by
  refine sC_of ok_X7_layWord.1 (Nat.le_of_ble_eq_true rfl) ?_
  show sA _ _ _ 0 [(0, .ref 5), (1, gs_iv u), (2, gs_iv x), (3, gs_iv g)] [] F A
  have hf : gs_fr (fun c j => (c = 8 ∨ c = 10) ∧ j = 1) (fun c => c = 9 ∨ c = 11 ∨ c = 6) F A F A := gs_fr_refl _ _ _ _
  refine sA_iload_n dd_X7_layWord_0 rfl (.tail _ (.head _)) ?_
  refine sA_iconst (z := 2) dd_X7_layWord_1 ?_
  refine sA_idivN dd_X7_layWord_2 (by omega) (by omega) (by omega) ?_
  refine sA_istore (lv' := [(4, gs_iv (u / 2)), (0, .ref 5), (1, gs_iv u), (2, gs_iv x), (3, gs_iv g)]) dd_X7_layWord_3 (by decide) rfl ?_
  refine sA_iload_n dd_X7_layWord_5 rfl (.tail _ (.tail _ (.head _))) ?_
  refine sA_iconst (z := 2) dd_X7_layWord_6 ?_
  refine sA_iremN dd_X7_layWord_7 (by omega) (by omega) (by omega) ?_
  refine sA_if_ne (tgt := 15) dd_X7_layWord_8 (by decide) (by omega) (fun q1 => ?_) (fun q1 => ?_)
  · skip
    refine sA_iconst (z := (-1)) dd_X7_layWord_15 ?_
    refine sA_istore (lv' := [(5, gs_iv (-1)), (4, gs_iv (u / 2)), (0, .ref 5), (1, gs_iv u), (2, gs_iv x), (3, gs_iv g)]) dd_X7_layWord_16 (by decide) rfl ?_
    refine sA_aload_n dd_X7_layWord_18 rfl (.tail _ (.tail _ (.head _))) ?_
    refine sA_getr (ci := 7) (j := 3) (q := (RX7, TX7, 5)) dd_X7_layWord_19 rfl (by decide) fl_X7_23 (by decide) gs_s5 rfl ?_
    refine sA_iconst (z := 0) dd_X7_layWord_22 ?_
    refine sA_put (ci := 4) (j := 1) (q := (RX4, TX4, 2)) (ty := .int) dd_X7_layWord_23 rfl (by decide) fl_X7_38 rfl (tyX4_ok 1 (by decide)) rfl rfl (Nat.lt_of_succ_lt gs_row_8.1) gs_row_8.2.1 rfl ?_
    have I3 : gs_I (gs_up F 8 1 0) A := gs_row_put gs_row_8 hI (by omega)
    have f4 := gs_fr_put hf (a := 8) (z := 0) (j := 1) (by first | omega | (dsimp only; omega) | (dsimp only))
    have v5 : gs_up F 8 1 0 8 1 = 0 := gs_up_self _ _ _ _
    generalize gs_up F 8 1 0 = F2 at I3 f4 v5 ⊢
    refine sA_iload dd_X7_layWord_26 (.tail _ (.head _)) ?_
    refine sA_iload_n dd_X7_layWord_28 rfl (.tail _ (.tail _ (.tail _ (.tail _ (.tail _ (.head _)))))) ?_
    refine sA_icmp_ge (tgt := 44) dd_X7_layWord_29 (by decide) (by omega) (by omega) (fun q6 => ?_) (fun q6 => ?_)
    · skip
      refine sA_iload dd_X7_layWord_44 (.tail _ (.head _)) ?_
      refine sA_iconst (z := 2) dd_X7_layWord_46 ?_
      refine sA_iload_n dd_X7_layWord_47 rfl (.tail _ (.tail _ (.tail _ (.tail _ (.tail _ (.head _)))))) ?_
      refine sA_imul dd_X7_layWord_48 ?_
      refine sA_icmp_ge (tgt := 66) dd_X7_layWord_49 (by decide) (by omega) (by omega) (fun q7 => ?_) (fun q7 => ?_)
      · skip
        refine sA_aload_n dd_X7_layWord_66 rfl (.tail _ (.tail _ (.head _))) ?_
        refine sA_iload dd_X7_layWord_67 (.tail _ (.head _)) ?_
        refine sA_iconst (z := 2) dd_X7_layWord_69 ?_
        refine sA_iload_n dd_X7_layWord_70 rfl (.tail _ (.tail _ (.tail _ (.tail _ (.tail _ (.head _)))))) ?_
        refine sA_imul dd_X7_layWord_71 ?_
        refine sA_isub dd_X7_layWord_72 ?_
        refine sA_iload dd_X7_layWord_73 (.head _) ?_
        refine sA_iload_n dd_X7_layWord_75 rfl (.tail _ (.tail _ (.tail _ (.tail _ (.head _))))) ?_
        refine sA_callV (y2 := m_X7_spellThird) (n2 := 3) (d2 := 3) (a := 5) (ci := 7) (q := (RX7, TX7, 5)) (as := [gs_iv ((u / 2) - (2 * g)), gs_iv (-1), gs_iv x]) (rest := []) dd_X7_layWord_76 ok_X7_spellThird ml_X7_47 rfl rfl (by decide) gs_s5 rfl rfl (Nat.le_of_ble_eq_true rfl) (by decide) (c_X7_spellThird I3 (by omega) (by omega) (by omega)) (fun r8 F9 A10 h11 => ?_)
        obtain ⟨e13, I14, f15, x12⟩ := h11
        subst e13
        have f16 := gs_fr_tr f4 f15 (fun b j h => by first | exact False.elim h | omega | (dsimp only at h ⊢; omega)) (fun b h => by first | exact False.elim h | omega | (dsimp only at h ⊢; omega))
        show sA _ _ _ 79 _ [] _ _
        refine sA_aload_n dd_X7_layWord_79 rfl (.tail _ (.tail _ (.head _))) ?_
        refine sA_getr (ci := 7) (j := 4) (q := (RX7, TX7, 5)) dd_X7_layWord_80 rfl (by decide) fl_X7_27 (by decide) gs_s5 rfl ?_
        refine sA_aload_n dd_X7_layWord_83 rfl (.tail _ (.tail _ (.head _))) ?_
        refine sA_getr (ci := 7) (j := 3) (q := (RX7, TX7, 5)) dd_X7_layWord_84 rfl (by decide) fl_X7_23 (by decide) gs_s5 rfl ?_
        refine sA_callV (y2 := m_X4_becomeBack) (n2 := 1) (d2 := 1) (a := 10) (ci := 4) (q := (RX4, TX4, 2)) (as := [.ref 8]) (rest := []) dd_X7_layWord_87 ok_X4_becomeBack ml_X7_50 rfl rfl (Nat.lt_of_succ_lt gs_row_10.1) gs_row_10.2.1 rfl rfl (Nat.le_of_ble_eq_true rfl) (by decide) (c_X4_becomeBack I14 gs_row_10 gs_row_8) (fun r17 F18 A19 h20 => ?_)
        obtain ⟨e22, I23, f24, x21⟩ := h20
        subst e22
        have f25 := gs_fr_tr f16 f24 (fun b j h => by first | exact False.elim h | omega | (dsimp only at h ⊢; omega)) (fun b h => by first | exact False.elim h | omega | (dsimp only at h ⊢; omega))
        show sA _ _ _ 90 _ [] _ _
        refine sA_aload_n dd_X7_layWord_90 rfl (.tail _ (.tail _ (.head _))) ?_
        refine sA_iload_n dd_X7_layWord_91 rfl (.tail _ (.tail _ (.tail _ (.head _)))) ?_
        refine sA_iload_n dd_X7_layWord_92 rfl (.tail _ (.tail _ (.tail _ (.tail _ (.head _))))) ?_
        refine sA_aload_n dd_X7_layWord_93 rfl (.tail _ (.tail _ (.head _))) ?_
        refine sA_getr (ci := 7) (j := 3) (q := (RX7, TX7, 5)) dd_X7_layWord_94 rfl (by decide) fl_X7_23 (by decide) gs_s5 rfl ?_
        refine sA_callV (y2 := m_X7_keepWord) (n2 := 3) (d2 := 2) (a := 5) (ci := 7) (q := (RX7, TX7, 5)) (as := [gs_iv u, gs_iv x, .ref 8]) (rest := []) dd_X7_layWord_97 ok_X7_keepWord ml_X7_54 rfl rfl (by decide) gs_s5 rfl rfl (Nat.le_of_ble_eq_true rfl) (by decide) (c_X7_keepWord I23 (by omega) (by omega) gs_row_8) (fun r26 F27 A28 h29 => ?_)
        obtain ⟨e31, I32, f33, x30⟩ := h29
        subst e31
        have f34 := gs_fr_tr f25 f33 (fun b j h => by first | exact False.elim h | omega | (dsimp only at h ⊢; omega)) (fun b h => by first | exact False.elim h | omega | (dsimp only at h ⊢; omega))
        show sA _ _ _ 100 _ [] _ _
        refine sA_aload_n dd_X7_layWord_100 rfl (.tail _ (.tail _ (.head _))) ?_
        refine sA_iload_n dd_X7_layWord_101 rfl (.tail _ (.tail _ (.tail _ (.head _)))) ?_
        refine sA_iload_n dd_X7_layWord_102 rfl (.tail _ (.tail _ (.tail _ (.tail _ (.head _))))) ?_
        refine sA_ineg dd_X7_layWord_103 ?_
        refine sA_aload_n dd_X7_layWord_104 rfl (.tail _ (.tail _ (.head _))) ?_
        refine sA_getr (ci := 7) (j := 4) (q := (RX7, TX7, 5)) dd_X7_layWord_105 rfl (by decide) fl_X7_27 (by decide) gs_s5 rfl ?_
        refine sA_callV (y2 := m_X7_keepWord) (n2 := 3) (d2 := 2) (a := 5) (ci := 7) (q := (RX7, TX7, 5)) (as := [gs_iv u, gs_iv (-x), .ref 10]) (rest := []) dd_X7_layWord_108 ok_X7_keepWord ml_X7_54 rfl rfl (by decide) gs_s5 rfl rfl (Nat.le_of_ble_eq_true rfl) (by decide) (c_X7_keepWord I32 (by omega) (by omega) gs_row_10) (fun r35 F36 A37 h38 => ?_)
        obtain ⟨e40, I41, f42, x39⟩ := h38
        subst e40
        have f43 := gs_fr_tr f34 f42 (fun b j h => by first | exact False.elim h | omega | (dsimp only at h ⊢; omega)) (fun b h => by first | exact False.elim h | omega | (dsimp only at h ⊢; omega))
        show sA _ _ _ 111 _ [] _ _
        refine sA_vret dd_X7_layWord_111 rfl ?_
        exact ⟨rfl, I41, f43, trivial⟩
      · skip
        refine sA_aload_n dd_X7_layWord_52 rfl (.tail _ (.tail _ (.head _))) ?_
        refine sA_iload dd_X7_layWord_53 (.tail _ (.head _)) ?_
        refine sA_iload_n dd_X7_layWord_55 rfl (.tail _ (.tail _ (.tail _ (.tail _ (.tail _ (.head _)))))) ?_
        refine sA_isub dd_X7_layWord_56 ?_
        refine sA_iload dd_X7_layWord_57 (.head _) ?_
        refine sA_iload_n dd_X7_layWord_59 rfl (.tail _ (.tail _ (.tail _ (.tail _ (.head _))))) ?_
        refine sA_callV (y2 := m_X7_spellSecond) (n2 := 3) (d2 := 2) (a := 5) (ci := 7) (q := (RX7, TX7, 5)) (as := [gs_iv ((u / 2) - g), gs_iv (-1), gs_iv x]) (rest := []) dd_X7_layWord_60 ok_X7_spellSecond ml_X7_44 rfl rfl (by decide) gs_s5 rfl rfl (Nat.le_of_ble_eq_true rfl) (by decide) (c_X7_spellSecond I3 (by omega) (by omega) (by omega)) (fun r44 F45 A46 h47 => ?_)
        obtain ⟨e49, I50, f51, x48⟩ := h47
        subst e49
        have f52 := gs_fr_tr f4 f51 (fun b j h => by first | exact False.elim h | omega | (dsimp only at h ⊢; omega)) (fun b h => by first | exact False.elim h | omega | (dsimp only at h ⊢; omega))
        show sA _ _ _ 63 _ [] _ _
        refine sA_goto (tgt := 79) dd_X7_layWord_63 (by decide) ?_
        refine sA_aload_n dd_X7_layWord_79 rfl (.tail _ (.tail _ (.head _))) ?_
        refine sA_getr (ci := 7) (j := 4) (q := (RX7, TX7, 5)) dd_X7_layWord_80 rfl (by decide) fl_X7_27 (by decide) gs_s5 rfl ?_
        refine sA_aload_n dd_X7_layWord_83 rfl (.tail _ (.tail _ (.head _))) ?_
        refine sA_getr (ci := 7) (j := 3) (q := (RX7, TX7, 5)) dd_X7_layWord_84 rfl (by decide) fl_X7_23 (by decide) gs_s5 rfl ?_
        refine sA_callV (y2 := m_X4_becomeBack) (n2 := 1) (d2 := 1) (a := 10) (ci := 4) (q := (RX4, TX4, 2)) (as := [.ref 8]) (rest := []) dd_X7_layWord_87 ok_X4_becomeBack ml_X7_50 rfl rfl (Nat.lt_of_succ_lt gs_row_10.1) gs_row_10.2.1 rfl rfl (Nat.le_of_ble_eq_true rfl) (by decide) (c_X4_becomeBack I50 gs_row_10 gs_row_8) (fun r53 F54 A55 h56 => ?_)
        obtain ⟨e58, I59, f60, x57⟩ := h56
        subst e58
        have f61 := gs_fr_tr f52 f60 (fun b j h => by first | exact False.elim h | omega | (dsimp only at h ⊢; omega)) (fun b h => by first | exact False.elim h | omega | (dsimp only at h ⊢; omega))
        show sA _ _ _ 90 _ [] _ _
        refine sA_aload_n dd_X7_layWord_90 rfl (.tail _ (.tail _ (.head _))) ?_
        refine sA_iload_n dd_X7_layWord_91 rfl (.tail _ (.tail _ (.tail _ (.head _)))) ?_
        refine sA_iload_n dd_X7_layWord_92 rfl (.tail _ (.tail _ (.tail _ (.tail _ (.head _))))) ?_
        refine sA_aload_n dd_X7_layWord_93 rfl (.tail _ (.tail _ (.head _))) ?_
        refine sA_getr (ci := 7) (j := 3) (q := (RX7, TX7, 5)) dd_X7_layWord_94 rfl (by decide) fl_X7_23 (by decide) gs_s5 rfl ?_
        refine sA_callV (y2 := m_X7_keepWord) (n2 := 3) (d2 := 2) (a := 5) (ci := 7) (q := (RX7, TX7, 5)) (as := [gs_iv u, gs_iv x, .ref 8]) (rest := []) dd_X7_layWord_97 ok_X7_keepWord ml_X7_54 rfl rfl (by decide) gs_s5 rfl rfl (Nat.le_of_ble_eq_true rfl) (by decide) (c_X7_keepWord I59 (by omega) (by omega) gs_row_8) (fun r62 F63 A64 h65 => ?_)
        obtain ⟨e67, I68, f69, x66⟩ := h65
        subst e67
        have f70 := gs_fr_tr f61 f69 (fun b j h => by first | exact False.elim h | omega | (dsimp only at h ⊢; omega)) (fun b h => by first | exact False.elim h | omega | (dsimp only at h ⊢; omega))
        show sA _ _ _ 100 _ [] _ _
        refine sA_aload_n dd_X7_layWord_100 rfl (.tail _ (.tail _ (.head _))) ?_
        refine sA_iload_n dd_X7_layWord_101 rfl (.tail _ (.tail _ (.tail _ (.head _)))) ?_
        refine sA_iload_n dd_X7_layWord_102 rfl (.tail _ (.tail _ (.tail _ (.tail _ (.head _))))) ?_
        refine sA_ineg dd_X7_layWord_103 ?_
        refine sA_aload_n dd_X7_layWord_104 rfl (.tail _ (.tail _ (.head _))) ?_
        refine sA_getr (ci := 7) (j := 4) (q := (RX7, TX7, 5)) dd_X7_layWord_105 rfl (by decide) fl_X7_27 (by decide) gs_s5 rfl ?_
        refine sA_callV (y2 := m_X7_keepWord) (n2 := 3) (d2 := 2) (a := 5) (ci := 7) (q := (RX7, TX7, 5)) (as := [gs_iv u, gs_iv (-x), .ref 10]) (rest := []) dd_X7_layWord_108 ok_X7_keepWord ml_X7_54 rfl rfl (by decide) gs_s5 rfl rfl (Nat.le_of_ble_eq_true rfl) (by decide) (c_X7_keepWord I68 (by omega) (by omega) gs_row_10) (fun r71 F72 A73 h74 => ?_)
        obtain ⟨e76, I77, f78, x75⟩ := h74
        subst e76
        have f79 := gs_fr_tr f70 f78 (fun b j h => by first | exact False.elim h | omega | (dsimp only at h ⊢; omega)) (fun b h => by first | exact False.elim h | omega | (dsimp only at h ⊢; omega))
        show sA _ _ _ 111 _ [] _ _
        refine sA_vret dd_X7_layWord_111 rfl ?_
        exact ⟨rfl, I77, f79, trivial⟩
    · skip
      refine sA_aload_n dd_X7_layWord_32 rfl (.tail _ (.tail _ (.head _))) ?_
      refine sA_iload dd_X7_layWord_33 (.tail _ (.head _)) ?_
      refine sA_iload dd_X7_layWord_35 (.head _) ?_
      refine sA_iload_n dd_X7_layWord_37 rfl (.tail _ (.tail _ (.tail _ (.tail _ (.head _))))) ?_
      refine sA_callV (y2 := m_X7_spellFirst) (n2 := 3) (d2 := 2) (a := 5) (ci := 7) (q := (RX7, TX7, 5)) (as := [gs_iv (u / 2), gs_iv (-1), gs_iv x]) (rest := []) dd_X7_layWord_38 ok_X7_spellFirst ml_X7_41 rfl rfl (by decide) gs_s5 rfl rfl (Nat.le_of_ble_eq_true rfl) (by decide) (c_X7_spellFirst I3 (by omega) (by omega) (by omega)) (fun r80 F81 A82 h83 => ?_)
      obtain ⟨e85, I86, f87, x84⟩ := h83
      subst e85
      have f88 := gs_fr_tr f4 f87 (fun b j h => by first | exact False.elim h | omega | (dsimp only at h ⊢; omega)) (fun b h => by first | exact False.elim h | omega | (dsimp only at h ⊢; omega))
      show sA _ _ _ 41 _ [] _ _
      refine sA_goto (tgt := 79) dd_X7_layWord_41 (by decide) ?_
      refine sA_aload_n dd_X7_layWord_79 rfl (.tail _ (.tail _ (.head _))) ?_
      refine sA_getr (ci := 7) (j := 4) (q := (RX7, TX7, 5)) dd_X7_layWord_80 rfl (by decide) fl_X7_27 (by decide) gs_s5 rfl ?_
      refine sA_aload_n dd_X7_layWord_83 rfl (.tail _ (.tail _ (.head _))) ?_
      refine sA_getr (ci := 7) (j := 3) (q := (RX7, TX7, 5)) dd_X7_layWord_84 rfl (by decide) fl_X7_23 (by decide) gs_s5 rfl ?_
      refine sA_callV (y2 := m_X4_becomeBack) (n2 := 1) (d2 := 1) (a := 10) (ci := 4) (q := (RX4, TX4, 2)) (as := [.ref 8]) (rest := []) dd_X7_layWord_87 ok_X4_becomeBack ml_X7_50 rfl rfl (Nat.lt_of_succ_lt gs_row_10.1) gs_row_10.2.1 rfl rfl (Nat.le_of_ble_eq_true rfl) (by decide) (c_X4_becomeBack I86 gs_row_10 gs_row_8) (fun r89 F90 A91 h92 => ?_)
      obtain ⟨e94, I95, f96, x93⟩ := h92
      subst e94
      have f97 := gs_fr_tr f88 f96 (fun b j h => by first | exact False.elim h | omega | (dsimp only at h ⊢; omega)) (fun b h => by first | exact False.elim h | omega | (dsimp only at h ⊢; omega))
      show sA _ _ _ 90 _ [] _ _
      refine sA_aload_n dd_X7_layWord_90 rfl (.tail _ (.tail _ (.head _))) ?_
      refine sA_iload_n dd_X7_layWord_91 rfl (.tail _ (.tail _ (.tail _ (.head _)))) ?_
      refine sA_iload_n dd_X7_layWord_92 rfl (.tail _ (.tail _ (.tail _ (.tail _ (.head _))))) ?_
      refine sA_aload_n dd_X7_layWord_93 rfl (.tail _ (.tail _ (.head _))) ?_
      refine sA_getr (ci := 7) (j := 3) (q := (RX7, TX7, 5)) dd_X7_layWord_94 rfl (by decide) fl_X7_23 (by decide) gs_s5 rfl ?_
      refine sA_callV (y2 := m_X7_keepWord) (n2 := 3) (d2 := 2) (a := 5) (ci := 7) (q := (RX7, TX7, 5)) (as := [gs_iv u, gs_iv x, .ref 8]) (rest := []) dd_X7_layWord_97 ok_X7_keepWord ml_X7_54 rfl rfl (by decide) gs_s5 rfl rfl (Nat.le_of_ble_eq_true rfl) (by decide) (c_X7_keepWord I95 (by omega) (by omega) gs_row_8) (fun r98 F99 A100 h101 => ?_)
      obtain ⟨e103, I104, f105, x102⟩ := h101
      subst e103
      have f106 := gs_fr_tr f97 f105 (fun b j h => by first | exact False.elim h | omega | (dsimp only at h ⊢; omega)) (fun b h => by first | exact False.elim h | omega | (dsimp only at h ⊢; omega))
      show sA _ _ _ 100 _ [] _ _
      refine sA_aload_n dd_X7_layWord_100 rfl (.tail _ (.tail _ (.head _))) ?_
      refine sA_iload_n dd_X7_layWord_101 rfl (.tail _ (.tail _ (.tail _ (.head _)))) ?_
      refine sA_iload_n dd_X7_layWord_102 rfl (.tail _ (.tail _ (.tail _ (.tail _ (.head _))))) ?_
      refine sA_ineg dd_X7_layWord_103 ?_
      refine sA_aload_n dd_X7_layWord_104 rfl (.tail _ (.tail _ (.head _))) ?_
      refine sA_getr (ci := 7) (j := 4) (q := (RX7, TX7, 5)) dd_X7_layWord_105 rfl (by decide) fl_X7_27 (by decide) gs_s5 rfl ?_
      refine sA_callV (y2 := m_X7_keepWord) (n2 := 3) (d2 := 2) (a := 5) (ci := 7) (q := (RX7, TX7, 5)) (as := [gs_iv u, gs_iv (-x), .ref 10]) (rest := []) dd_X7_layWord_108 ok_X7_keepWord ml_X7_54 rfl rfl (by decide) gs_s5 rfl rfl (Nat.le_of_ble_eq_true rfl) (by decide) (c_X7_keepWord I104 (by omega) (by omega) gs_row_10) (fun r107 F108 A109 h110 => ?_)
      obtain ⟨e112, I113, f114, x111⟩ := h110
      subst e112
      have f115 := gs_fr_tr f106 f114 (fun b j h => by first | exact False.elim h | omega | (dsimp only at h ⊢; omega)) (fun b h => by first | exact False.elim h | omega | (dsimp only at h ⊢; omega))
      show sA _ _ _ 111 _ [] _ _
      refine sA_vret dd_X7_layWord_111 rfl ?_
      exact ⟨rfl, I113, f115, trivial⟩
  · skip
    refine sA_iconst (z := 1) dd_X7_layWord_11 ?_
    refine sA_goto (tgt := 16) dd_X7_layWord_12 (by decide) ?_
    refine sA_istore (lv' := [(5, gs_iv 1), (4, gs_iv (u / 2)), (0, .ref 5), (1, gs_iv u), (2, gs_iv x), (3, gs_iv g)]) dd_X7_layWord_16 (by decide) rfl ?_
    refine sA_aload_n dd_X7_layWord_18 rfl (.tail _ (.tail _ (.head _))) ?_
    refine sA_getr (ci := 7) (j := 3) (q := (RX7, TX7, 5)) dd_X7_layWord_19 rfl (by decide) fl_X7_23 (by decide) gs_s5 rfl ?_
    refine sA_iconst (z := 0) dd_X7_layWord_22 ?_
    refine sA_put (ci := 4) (j := 1) (q := (RX4, TX4, 2)) (ty := .int) dd_X7_layWord_23 rfl (by decide) fl_X7_38 rfl (tyX4_ok 1 (by decide)) rfl rfl (Nat.lt_of_succ_lt gs_row_8.1) gs_row_8.2.1 rfl ?_
    have I117 : gs_I (gs_up F 8 1 0) A := gs_row_put gs_row_8 hI (by omega)
    have f118 := gs_fr_put hf (a := 8) (z := 0) (j := 1) (by first | omega | (dsimp only; omega) | (dsimp only))
    have v119 : gs_up F 8 1 0 8 1 = 0 := gs_up_self _ _ _ _
    generalize gs_up F 8 1 0 = F116 at I117 f118 v119 ⊢
    refine sA_iload dd_X7_layWord_26 (.tail _ (.head _)) ?_
    refine sA_iload_n dd_X7_layWord_28 rfl (.tail _ (.tail _ (.tail _ (.tail _ (.tail _ (.head _)))))) ?_
    refine sA_icmp_ge (tgt := 44) dd_X7_layWord_29 (by decide) (by omega) (by omega) (fun q120 => ?_) (fun q120 => ?_)
    · skip
      refine sA_iload dd_X7_layWord_44 (.tail _ (.head _)) ?_
      refine sA_iconst (z := 2) dd_X7_layWord_46 ?_
      refine sA_iload_n dd_X7_layWord_47 rfl (.tail _ (.tail _ (.tail _ (.tail _ (.tail _ (.head _)))))) ?_
      refine sA_imul dd_X7_layWord_48 ?_
      refine sA_icmp_ge (tgt := 66) dd_X7_layWord_49 (by decide) (by omega) (by omega) (fun q121 => ?_) (fun q121 => ?_)
      · skip
        refine sA_aload_n dd_X7_layWord_66 rfl (.tail _ (.tail _ (.head _))) ?_
        refine sA_iload dd_X7_layWord_67 (.tail _ (.head _)) ?_
        refine sA_iconst (z := 2) dd_X7_layWord_69 ?_
        refine sA_iload_n dd_X7_layWord_70 rfl (.tail _ (.tail _ (.tail _ (.tail _ (.tail _ (.head _)))))) ?_
        refine sA_imul dd_X7_layWord_71 ?_
        refine sA_isub dd_X7_layWord_72 ?_
        refine sA_iload dd_X7_layWord_73 (.head _) ?_
        refine sA_iload_n dd_X7_layWord_75 rfl (.tail _ (.tail _ (.tail _ (.tail _ (.head _))))) ?_
        refine sA_callV (y2 := m_X7_spellThird) (n2 := 3) (d2 := 3) (a := 5) (ci := 7) (q := (RX7, TX7, 5)) (as := [gs_iv ((u / 2) - (2 * g)), gs_iv 1, gs_iv x]) (rest := []) dd_X7_layWord_76 ok_X7_spellThird ml_X7_47 rfl rfl (by decide) gs_s5 rfl rfl (Nat.le_of_ble_eq_true rfl) (by decide) (c_X7_spellThird I117 (by omega) (by omega) (by omega)) (fun r122 F123 A124 h125 => ?_)
        obtain ⟨e127, I128, f129, x126⟩ := h125
        subst e127
        have f130 := gs_fr_tr f118 f129 (fun b j h => by first | exact False.elim h | omega | (dsimp only at h ⊢; omega)) (fun b h => by first | exact False.elim h | omega | (dsimp only at h ⊢; omega))
        show sA _ _ _ 79 _ [] _ _
        refine sA_aload_n dd_X7_layWord_79 rfl (.tail _ (.tail _ (.head _))) ?_
        refine sA_getr (ci := 7) (j := 4) (q := (RX7, TX7, 5)) dd_X7_layWord_80 rfl (by decide) fl_X7_27 (by decide) gs_s5 rfl ?_
        refine sA_aload_n dd_X7_layWord_83 rfl (.tail _ (.tail _ (.head _))) ?_
        refine sA_getr (ci := 7) (j := 3) (q := (RX7, TX7, 5)) dd_X7_layWord_84 rfl (by decide) fl_X7_23 (by decide) gs_s5 rfl ?_
        refine sA_callV (y2 := m_X4_becomeBack) (n2 := 1) (d2 := 1) (a := 10) (ci := 4) (q := (RX4, TX4, 2)) (as := [.ref 8]) (rest := []) dd_X7_layWord_87 ok_X4_becomeBack ml_X7_50 rfl rfl (Nat.lt_of_succ_lt gs_row_10.1) gs_row_10.2.1 rfl rfl (Nat.le_of_ble_eq_true rfl) (by decide) (c_X4_becomeBack I128 gs_row_10 gs_row_8) (fun r131 F132 A133 h134 => ?_)
        obtain ⟨e136, I137, f138, x135⟩ := h134
        subst e136
        have f139 := gs_fr_tr f130 f138 (fun b j h => by first | exact False.elim h | omega | (dsimp only at h ⊢; omega)) (fun b h => by first | exact False.elim h | omega | (dsimp only at h ⊢; omega))
        show sA _ _ _ 90 _ [] _ _
        refine sA_aload_n dd_X7_layWord_90 rfl (.tail _ (.tail _ (.head _))) ?_
        refine sA_iload_n dd_X7_layWord_91 rfl (.tail _ (.tail _ (.tail _ (.head _)))) ?_
        refine sA_iload_n dd_X7_layWord_92 rfl (.tail _ (.tail _ (.tail _ (.tail _ (.head _))))) ?_
        refine sA_aload_n dd_X7_layWord_93 rfl (.tail _ (.tail _ (.head _))) ?_
        refine sA_getr (ci := 7) (j := 3) (q := (RX7, TX7, 5)) dd_X7_layWord_94 rfl (by decide) fl_X7_23 (by decide) gs_s5 rfl ?_
        refine sA_callV (y2 := m_X7_keepWord) (n2 := 3) (d2 := 2) (a := 5) (ci := 7) (q := (RX7, TX7, 5)) (as := [gs_iv u, gs_iv x, .ref 8]) (rest := []) dd_X7_layWord_97 ok_X7_keepWord ml_X7_54 rfl rfl (by decide) gs_s5 rfl rfl (Nat.le_of_ble_eq_true rfl) (by decide) (c_X7_keepWord I137 (by omega) (by omega) gs_row_8) (fun r140 F141 A142 h143 => ?_)
        obtain ⟨e145, I146, f147, x144⟩ := h143
        subst e145
        have f148 := gs_fr_tr f139 f147 (fun b j h => by first | exact False.elim h | omega | (dsimp only at h ⊢; omega)) (fun b h => by first | exact False.elim h | omega | (dsimp only at h ⊢; omega))
        show sA _ _ _ 100 _ [] _ _
        refine sA_aload_n dd_X7_layWord_100 rfl (.tail _ (.tail _ (.head _))) ?_
        refine sA_iload_n dd_X7_layWord_101 rfl (.tail _ (.tail _ (.tail _ (.head _)))) ?_
        refine sA_iload_n dd_X7_layWord_102 rfl (.tail _ (.tail _ (.tail _ (.tail _ (.head _))))) ?_
        refine sA_ineg dd_X7_layWord_103 ?_
        refine sA_aload_n dd_X7_layWord_104 rfl (.tail _ (.tail _ (.head _))) ?_
        refine sA_getr (ci := 7) (j := 4) (q := (RX7, TX7, 5)) dd_X7_layWord_105 rfl (by decide) fl_X7_27 (by decide) gs_s5 rfl ?_
        refine sA_callV (y2 := m_X7_keepWord) (n2 := 3) (d2 := 2) (a := 5) (ci := 7) (q := (RX7, TX7, 5)) (as := [gs_iv u, gs_iv (-x), .ref 10]) (rest := []) dd_X7_layWord_108 ok_X7_keepWord ml_X7_54 rfl rfl (by decide) gs_s5 rfl rfl (Nat.le_of_ble_eq_true rfl) (by decide) (c_X7_keepWord I146 (by omega) (by omega) gs_row_10) (fun r149 F150 A151 h152 => ?_)
        obtain ⟨e154, I155, f156, x153⟩ := h152
        subst e154
        have f157 := gs_fr_tr f148 f156 (fun b j h => by first | exact False.elim h | omega | (dsimp only at h ⊢; omega)) (fun b h => by first | exact False.elim h | omega | (dsimp only at h ⊢; omega))
        show sA _ _ _ 111 _ [] _ _
        refine sA_vret dd_X7_layWord_111 rfl ?_
        exact ⟨rfl, I155, f157, trivial⟩
      · skip
        refine sA_aload_n dd_X7_layWord_52 rfl (.tail _ (.tail _ (.head _))) ?_
        refine sA_iload dd_X7_layWord_53 (.tail _ (.head _)) ?_
        refine sA_iload_n dd_X7_layWord_55 rfl (.tail _ (.tail _ (.tail _ (.tail _ (.tail _ (.head _)))))) ?_
        refine sA_isub dd_X7_layWord_56 ?_
        refine sA_iload dd_X7_layWord_57 (.head _) ?_
        refine sA_iload_n dd_X7_layWord_59 rfl (.tail _ (.tail _ (.tail _ (.tail _ (.head _))))) ?_
        refine sA_callV (y2 := m_X7_spellSecond) (n2 := 3) (d2 := 2) (a := 5) (ci := 7) (q := (RX7, TX7, 5)) (as := [gs_iv ((u / 2) - g), gs_iv 1, gs_iv x]) (rest := []) dd_X7_layWord_60 ok_X7_spellSecond ml_X7_44 rfl rfl (by decide) gs_s5 rfl rfl (Nat.le_of_ble_eq_true rfl) (by decide) (c_X7_spellSecond I117 (by omega) (by omega) (by omega)) (fun r158 F159 A160 h161 => ?_)
        obtain ⟨e163, I164, f165, x162⟩ := h161
        subst e163
        have f166 := gs_fr_tr f118 f165 (fun b j h => by first | exact False.elim h | omega | (dsimp only at h ⊢; omega)) (fun b h => by first | exact False.elim h | omega | (dsimp only at h ⊢; omega))
        show sA _ _ _ 63 _ [] _ _
        refine sA_goto (tgt := 79) dd_X7_layWord_63 (by decide) ?_
        refine sA_aload_n dd_X7_layWord_79 rfl (.tail _ (.tail _ (.head _))) ?_
        refine sA_getr (ci := 7) (j := 4) (q := (RX7, TX7, 5)) dd_X7_layWord_80 rfl (by decide) fl_X7_27 (by decide) gs_s5 rfl ?_
        refine sA_aload_n dd_X7_layWord_83 rfl (.tail _ (.tail _ (.head _))) ?_
        refine sA_getr (ci := 7) (j := 3) (q := (RX7, TX7, 5)) dd_X7_layWord_84 rfl (by decide) fl_X7_23 (by decide) gs_s5 rfl ?_
        refine sA_callV (y2 := m_X4_becomeBack) (n2 := 1) (d2 := 1) (a := 10) (ci := 4) (q := (RX4, TX4, 2)) (as := [.ref 8]) (rest := []) dd_X7_layWord_87 ok_X4_becomeBack ml_X7_50 rfl rfl (Nat.lt_of_succ_lt gs_row_10.1) gs_row_10.2.1 rfl rfl (Nat.le_of_ble_eq_true rfl) (by decide) (c_X4_becomeBack I164 gs_row_10 gs_row_8) (fun r167 F168 A169 h170 => ?_)
        obtain ⟨e172, I173, f174, x171⟩ := h170
        subst e172
        have f175 := gs_fr_tr f166 f174 (fun b j h => by first | exact False.elim h | omega | (dsimp only at h ⊢; omega)) (fun b h => by first | exact False.elim h | omega | (dsimp only at h ⊢; omega))
        show sA _ _ _ 90 _ [] _ _
        refine sA_aload_n dd_X7_layWord_90 rfl (.tail _ (.tail _ (.head _))) ?_
        refine sA_iload_n dd_X7_layWord_91 rfl (.tail _ (.tail _ (.tail _ (.head _)))) ?_
        refine sA_iload_n dd_X7_layWord_92 rfl (.tail _ (.tail _ (.tail _ (.tail _ (.head _))))) ?_
        refine sA_aload_n dd_X7_layWord_93 rfl (.tail _ (.tail _ (.head _))) ?_
        refine sA_getr (ci := 7) (j := 3) (q := (RX7, TX7, 5)) dd_X7_layWord_94 rfl (by decide) fl_X7_23 (by decide) gs_s5 rfl ?_
        refine sA_callV (y2 := m_X7_keepWord) (n2 := 3) (d2 := 2) (a := 5) (ci := 7) (q := (RX7, TX7, 5)) (as := [gs_iv u, gs_iv x, .ref 8]) (rest := []) dd_X7_layWord_97 ok_X7_keepWord ml_X7_54 rfl rfl (by decide) gs_s5 rfl rfl (Nat.le_of_ble_eq_true rfl) (by decide) (c_X7_keepWord I173 (by omega) (by omega) gs_row_8) (fun r176 F177 A178 h179 => ?_)
        obtain ⟨e181, I182, f183, x180⟩ := h179
        subst e181
        have f184 := gs_fr_tr f175 f183 (fun b j h => by first | exact False.elim h | omega | (dsimp only at h ⊢; omega)) (fun b h => by first | exact False.elim h | omega | (dsimp only at h ⊢; omega))
        show sA _ _ _ 100 _ [] _ _
        refine sA_aload_n dd_X7_layWord_100 rfl (.tail _ (.tail _ (.head _))) ?_
        refine sA_iload_n dd_X7_layWord_101 rfl (.tail _ (.tail _ (.tail _ (.head _)))) ?_
        refine sA_iload_n dd_X7_layWord_102 rfl (.tail _ (.tail _ (.tail _ (.tail _ (.head _))))) ?_
        refine sA_ineg dd_X7_layWord_103 ?_
        refine sA_aload_n dd_X7_layWord_104 rfl (.tail _ (.tail _ (.head _))) ?_
        refine sA_getr (ci := 7) (j := 4) (q := (RX7, TX7, 5)) dd_X7_layWord_105 rfl (by decide) fl_X7_27 (by decide) gs_s5 rfl ?_
        refine sA_callV (y2 := m_X7_keepWord) (n2 := 3) (d2 := 2) (a := 5) (ci := 7) (q := (RX7, TX7, 5)) (as := [gs_iv u, gs_iv (-x), .ref 10]) (rest := []) dd_X7_layWord_108 ok_X7_keepWord ml_X7_54 rfl rfl (by decide) gs_s5 rfl rfl (Nat.le_of_ble_eq_true rfl) (by decide) (c_X7_keepWord I182 (by omega) (by omega) gs_row_10) (fun r185 F186 A187 h188 => ?_)
        obtain ⟨e190, I191, f192, x189⟩ := h188
        subst e190
        have f193 := gs_fr_tr f184 f192 (fun b j h => by first | exact False.elim h | omega | (dsimp only at h ⊢; omega)) (fun b h => by first | exact False.elim h | omega | (dsimp only at h ⊢; omega))
        show sA _ _ _ 111 _ [] _ _
        refine sA_vret dd_X7_layWord_111 rfl ?_
        exact ⟨rfl, I191, f193, trivial⟩
    · skip
      refine sA_aload_n dd_X7_layWord_32 rfl (.tail _ (.tail _ (.head _))) ?_
      refine sA_iload dd_X7_layWord_33 (.tail _ (.head _)) ?_
      refine sA_iload dd_X7_layWord_35 (.head _) ?_
      refine sA_iload_n dd_X7_layWord_37 rfl (.tail _ (.tail _ (.tail _ (.tail _ (.head _))))) ?_
      refine sA_callV (y2 := m_X7_spellFirst) (n2 := 3) (d2 := 2) (a := 5) (ci := 7) (q := (RX7, TX7, 5)) (as := [gs_iv (u / 2), gs_iv 1, gs_iv x]) (rest := []) dd_X7_layWord_38 ok_X7_spellFirst ml_X7_41 rfl rfl (by decide) gs_s5 rfl rfl (Nat.le_of_ble_eq_true rfl) (by decide) (c_X7_spellFirst I117 (by omega) (by omega) (by omega)) (fun r194 F195 A196 h197 => ?_)
      obtain ⟨e199, I200, f201, x198⟩ := h197
      subst e199
      have f202 := gs_fr_tr f118 f201 (fun b j h => by first | exact False.elim h | omega | (dsimp only at h ⊢; omega)) (fun b h => by first | exact False.elim h | omega | (dsimp only at h ⊢; omega))
      show sA _ _ _ 41 _ [] _ _
      refine sA_goto (tgt := 79) dd_X7_layWord_41 (by decide) ?_
      refine sA_aload_n dd_X7_layWord_79 rfl (.tail _ (.tail _ (.head _))) ?_
      refine sA_getr (ci := 7) (j := 4) (q := (RX7, TX7, 5)) dd_X7_layWord_80 rfl (by decide) fl_X7_27 (by decide) gs_s5 rfl ?_
      refine sA_aload_n dd_X7_layWord_83 rfl (.tail _ (.tail _ (.head _))) ?_
      refine sA_getr (ci := 7) (j := 3) (q := (RX7, TX7, 5)) dd_X7_layWord_84 rfl (by decide) fl_X7_23 (by decide) gs_s5 rfl ?_
      refine sA_callV (y2 := m_X4_becomeBack) (n2 := 1) (d2 := 1) (a := 10) (ci := 4) (q := (RX4, TX4, 2)) (as := [.ref 8]) (rest := []) dd_X7_layWord_87 ok_X4_becomeBack ml_X7_50 rfl rfl (Nat.lt_of_succ_lt gs_row_10.1) gs_row_10.2.1 rfl rfl (Nat.le_of_ble_eq_true rfl) (by decide) (c_X4_becomeBack I200 gs_row_10 gs_row_8) (fun r203 F204 A205 h206 => ?_)
      obtain ⟨e208, I209, f210, x207⟩ := h206
      subst e208
      have f211 := gs_fr_tr f202 f210 (fun b j h => by first | exact False.elim h | omega | (dsimp only at h ⊢; omega)) (fun b h => by first | exact False.elim h | omega | (dsimp only at h ⊢; omega))
      show sA _ _ _ 90 _ [] _ _
      refine sA_aload_n dd_X7_layWord_90 rfl (.tail _ (.tail _ (.head _))) ?_
      refine sA_iload_n dd_X7_layWord_91 rfl (.tail _ (.tail _ (.tail _ (.head _)))) ?_
      refine sA_iload_n dd_X7_layWord_92 rfl (.tail _ (.tail _ (.tail _ (.tail _ (.head _))))) ?_
      refine sA_aload_n dd_X7_layWord_93 rfl (.tail _ (.tail _ (.head _))) ?_
      refine sA_getr (ci := 7) (j := 3) (q := (RX7, TX7, 5)) dd_X7_layWord_94 rfl (by decide) fl_X7_23 (by decide) gs_s5 rfl ?_
      refine sA_callV (y2 := m_X7_keepWord) (n2 := 3) (d2 := 2) (a := 5) (ci := 7) (q := (RX7, TX7, 5)) (as := [gs_iv u, gs_iv x, .ref 8]) (rest := []) dd_X7_layWord_97 ok_X7_keepWord ml_X7_54 rfl rfl (by decide) gs_s5 rfl rfl (Nat.le_of_ble_eq_true rfl) (by decide) (c_X7_keepWord I209 (by omega) (by omega) gs_row_8) (fun r212 F213 A214 h215 => ?_)
      obtain ⟨e217, I218, f219, x216⟩ := h215
      subst e217
      have f220 := gs_fr_tr f211 f219 (fun b j h => by first | exact False.elim h | omega | (dsimp only at h ⊢; omega)) (fun b h => by first | exact False.elim h | omega | (dsimp only at h ⊢; omega))
      show sA _ _ _ 100 _ [] _ _
      refine sA_aload_n dd_X7_layWord_100 rfl (.tail _ (.tail _ (.head _))) ?_
      refine sA_iload_n dd_X7_layWord_101 rfl (.tail _ (.tail _ (.tail _ (.head _)))) ?_
      refine sA_iload_n dd_X7_layWord_102 rfl (.tail _ (.tail _ (.tail _ (.tail _ (.head _))))) ?_
      refine sA_ineg dd_X7_layWord_103 ?_
      refine sA_aload_n dd_X7_layWord_104 rfl (.tail _ (.tail _ (.head _))) ?_
      refine sA_getr (ci := 7) (j := 4) (q := (RX7, TX7, 5)) dd_X7_layWord_105 rfl (by decide) fl_X7_27 (by decide) gs_s5 rfl ?_
      refine sA_callV (y2 := m_X7_keepWord) (n2 := 3) (d2 := 2) (a := 5) (ci := 7) (q := (RX7, TX7, 5)) (as := [gs_iv u, gs_iv (-x), .ref 10]) (rest := []) dd_X7_layWord_108 ok_X7_keepWord ml_X7_54 rfl rfl (by decide) gs_s5 rfl rfl (Nat.le_of_ble_eq_true rfl) (by decide) (c_X7_keepWord I218 (by omega) (by omega) gs_row_10) (fun r221 F222 A223 h224 => ?_)
      obtain ⟨e226, I227, f228, x225⟩ := h224
      subst e226
      have f229 := gs_fr_tr f220 f228 (fun b j h => by first | exact False.elim h | omega | (dsimp only at h ⊢; omega)) (fun b h => by first | exact False.elim h | omega | (dsimp only at h ⊢; omega))
      show sA _ _ _ 111 _ [] _ _
      refine sA_vret dd_X7_layWord_111 rfl ?_
      exact ⟨rfl, I227, f229, trivial⟩
theorem dd_X7_layOut_0 : decode cX7_layOut 0 = .ok (.aload_n 0, 1) := by decide +kernel
theorem dd_X7_layOut_1 : decode cX7_layOut 1 = .ok (.iconst 3, 1) := by decide +kernel
theorem dd_X7_layOut_2 : decode cX7_layOut 2 = .ok (.iload_n 1, 1) := by decide +kernel
theorem dd_X7_layOut_3 : decode cX7_layOut 3 = .ok (.imul, 1) := by decide +kernel
theorem dd_X7_layOut_4 : decode cX7_layOut 4 = .ok (.iconst 1, 1) := by decide +kernel
theorem dd_X7_layOut_5 : decode cX7_layOut 5 = .ok (.isub, 1) := by decide +kernel
theorem dd_X7_layOut_6 : decode cX7_layOut 6 = .ok (.putfield 30, 3) := by decide +kernel
theorem dd_X7_layOut_9 : decode cX7_layOut 9 = .ok (.iconst 0, 1) := by decide +kernel
theorem dd_X7_layOut_10 : decode cX7_layOut 10 = .ok (.istore_n 2, 1) := by decide +kernel
theorem dd_X7_layOut_11 : decode cX7_layOut 11 = .ok (.iload_n 2, 1) := by decide +kernel
theorem dd_X7_layOut_12 : decode cX7_layOut 12 = .ok (.aload_n 0, 1) := by decide +kernel
theorem dd_X7_layOut_13 : decode cX7_layOut 13 = .ok (.getfield 30, 3) := by decide +kernel
theorem dd_X7_layOut_16 : decode cX7_layOut 16 = .ok (.if_icmp .ge 44, 3) := by decide +kernel
theorem dd_X7_layOut_19 : decode cX7_layOut 19 = .ok (.iconst 1, 1) := by decide +kernel
theorem dd_X7_layOut_20 : decode cX7_layOut 20 = .ok (.istore_n 3, 1) := by decide +kernel
theorem dd_X7_layOut_21 : decode cX7_layOut 21 = .ok (.iload_n 3, 1) := by decide +kernel
theorem dd_X7_layOut_22 : decode cX7_layOut 22 = .ok (.iconst 2, 1) := by decide +kernel
theorem dd_X7_layOut_23 : decode cX7_layOut 23 = .ok (.iload_n 1, 1) := by decide +kernel
theorem dd_X7_layOut_24 : decode cX7_layOut 24 = .ok (.imul, 1) := by decide +kernel
theorem dd_X7_layOut_25 : decode cX7_layOut 25 = .ok (.if_icmp .gt 29, 3) := by decide +kernel
theorem dd_X7_layOut_28 : decode cX7_layOut 28 = .ok (.aload_n 0, 1) := by decide +kernel
theorem dd_X7_layOut_29 : decode cX7_layOut 29 = .ok (.iconst 2, 1) := by decide +kernel
theorem dd_X7_layOut_30 : decode cX7_layOut 30 = .ok (.iload_n 2, 1) := by decide +kernel
theorem dd_X7_layOut_31 : decode cX7_layOut 31 = .ok (.imul, 1) := by decide +kernel
theorem dd_X7_layOut_32 : decode cX7_layOut 32 = .ok (.iload_n 3, 1) := by decide +kernel
theorem dd_X7_layOut_33 : decode cX7_layOut 33 = .ok (.iload_n 1, 1) := by decide +kernel
theorem dd_X7_layOut_34 : decode cX7_layOut 34 = .ok (.invokevirtual 34, 3) := by decide +kernel
theorem dd_X7_layOut_37 : decode cX7_layOut 37 = .ok (.aload_n 0, 1) := by decide +kernel
theorem dd_X7_layOut_38 : decode cX7_layOut 38 = .ok (.iconst 2, 1) := by decide +kernel
theorem dd_X7_layOut_39 : decode cX7_layOut 39 = .ok (.iload_n 2, 1) := by decide +kernel
theorem dd_X7_layOut_40 : decode cX7_layOut 40 = .ok (.imul, 1) := by decide +kernel
theorem dd_X7_layOut_41 : decode cX7_layOut 41 = .ok (.iconst 1, 1) := by decide +kernel
theorem dd_X7_layOut_42 : decode cX7_layOut 42 = .ok (.iadd, 1) := by decide +kernel
theorem dd_X7_layOut_43 : decode cX7_layOut 43 = .ok (.iload_n 3, 1) := by decide +kernel
theorem dd_X7_layOut_44 : decode cX7_layOut 44 = .ok (.iload_n 1, 1) := by decide +kernel
theorem dd_X7_layOut_45 : decode cX7_layOut 45 = .ok (.invokevirtual 34, 3) := by decide +kernel
theorem dd_X7_layOut_48 : decode cX7_layOut 48 = .ok (.iinc 3 1, 3) := by decide +kernel
theorem dd_X7_layOut_51 : decode cX7_layOut 51 = .ok (.goto (-30), 3) := by decide +kernel
theorem dd_X7_layOut_54 : decode cX7_layOut 54 = .ok (.iinc 2 1, 3) := by decide +kernel
theorem dd_X7_layOut_57 : decode cX7_layOut 57 = .ok (.goto (-46), 3) := by decide +kernel
theorem dd_X7_layOut_60 : decode cX7_layOut 60 = .ok (.return_, 1) := by decide +kernel
theorem fl_X7_30 : Cond.fieldLink RX7 30 (TX7 0).1 (TX7 0).2.1 (TX7 0).2.2.1 ∈ am_tbl := ri_lw_in (pl := 139) (by decide +kernel)
theorem ml_X7_34 : Cond.methodLink RX7 34 m_X7_layWord.1 ∈ am_tbl := ri_lw_in (pl := 310) (by decide +kernel)
theorem ok_X7_layOut : am_okM m_X7_layOut 1 ∧ Cond.instanceMethod m_X7_layOut.1 ∈ am_tbl ∧ Cond.selects m_X7_layOut.1.cls m_X7_layOut.1 m_X7_layOut.1 ∈ am_tbl := ri_mk1 309 85 307 308 (by decide +kernel)
theorem k_X7_layOut {g : Int} {F A : gs_F} (hI : gs_I F A) (hg : 1 ≤ g ∧ g ≤ 3) : ∀ nN : Nat, (∀ (t : Int)  (F1 A1 : gs_F), gs_I F1 A1 → gs_fr (fun c j => (c = 5 ∧ j = 0) ∨ ((c = 8 ∨ c = 10) ∧ j = 1)) (fun c => c = 9 ∨ c = 11 ∨ c = 6) F A F1 A1 → 0 ≤ t ∧ t ≤ F1 5 0 → F1 5 0 = 3 * g - 1 → (F1 5 0 - t) * 20 + 1 < (nN : Int) → sA m_X7_layOut 5 (fun rv F' A' => rv = none ∧ gs_I F' A' ∧ gs_fr (fun c j => (c = 5 ∧ j = 0) ∨ ((c = 8 ∨ c = 10) ∧ j = 1)) (fun c => c = 9 ∨ c = 11 ∨ c = 6) F A F' A' ∧ (F' 5 0 = 3 * g - 1)) 11 [(2, gs_iv t), (0, .ref 5), (1, gs_iv g)] [] F1 A1) ∧ (∀ (t : Int) (x : Int)  (F1 A1 : gs_F), gs_I F1 A1 → gs_fr (fun c j => (c = 5 ∧ j = 0) ∨ ((c = 8 ∨ c = 10) ∧ j = 1)) (fun c => c = 9 ∨ c = 11 ∨ c = 6) F A F1 A1 → 0 ≤ t ∧ t < F1 5 0 → F1 5 0 = 3 * g - 1 → 1 ≤ x ∧ x ≤ 2 * g + 1 → (F1 5 0 - t) * 20 - x < (nN : Int) → sA m_X7_layOut 5 (fun rv F' A' => rv = none ∧ gs_I F' A' ∧ gs_fr (fun c j => (c = 5 ∧ j = 0) ∨ ((c = 8 ∨ c = 10) ∧ j = 1)) (fun c => c = 9 ∨ c = 11 ∨ c = 6) F A F' A' ∧ (F' 5 0 = 3 * g - 1)) 21 [(3, gs_iv x), (2, gs_iv t), (0, .ref 5), (1, gs_iv g)] [] F1 A1) := by
  intro nN
  induction nN with
  | zero =>
    exact ⟨fun a0 a1 a2 a3 a4 i0 i1 hm => by exfalso; omega, fun a0 a1 a2 a3 a4 a5 i0 i1 i2 hm => by exfalso; omega⟩
  | succ nN ih =>
    refine ⟨?_, ?_⟩
    · skip
      intro t F1 A1 hI1 hf1 i0 i1 hm
      have b1 : (1 : Int) ≤ F1 5 0 ∧ F1 5 0 ≤ 8 := hI1.1 5 0
      refine sA_iload_n dd_X7_layOut_11 rfl (.head _) ?_
      refine sA_aload_n dd_X7_layOut_12 rfl (.tail _ (.head _)) ?_
      refine sA_geti (ci := 7) (j := 0) (q := (RX7, TX7, 5)) dd_X7_layOut_13 rfl (by decide) fl_X7_30 (by decide) gs_s5 rfl ?_
      refine sA_icmp_ge (tgt := 60) dd_X7_layOut_16 (by decide) (by omega) (by omega) (fun q2 => ?_) (fun q2 => ?_)
      · skip
        refine sA_vret dd_X7_layOut_60 rfl ?_
        exact ⟨rfl, hI1, hf1, by omega⟩
      · skip
        refine sA_iconst (z := 1) dd_X7_layOut_19 ?_
        refine sA_istore_n (lv' := [(3, gs_iv 1), (2, gs_iv t), (0, .ref 5), (1, gs_iv g)]) dd_X7_layOut_20 rfl (by decide) rfl ?_
        refine sA_sub (lv2 := [(3, gs_iv 1), (2, gs_iv t), (0, .ref 5), (1, gs_iv g)]) (List.forall_mem_cons.mpr ⟨(.head _), (List.forall_mem_cons.mpr ⟨(.tail _ (.head _)), (List.forall_mem_cons.mpr ⟨(.tail _ (.tail _ (.head _))), (List.forall_mem_cons.mpr ⟨(.tail _ (.tail _ (.tail _ (.head _)))), (fun _ h => absurd h List.not_mem_nil)⟩)⟩)⟩)⟩) ?_
        exact ih.2 t 1 F1 A1 hI1 hf1 (by omega) (by omega) (by omega) (by omega)
    · skip
      intro t x F1 A1 hI1 hf1 i0 i1 i2 hm
      have b3 : (1 : Int) ≤ F1 5 0 ∧ F1 5 0 ≤ 8 := hI1.1 5 0
      refine sA_iload_n dd_X7_layOut_21 rfl (.head _) ?_
      refine sA_iconst (z := 2) dd_X7_layOut_22 ?_
      refine sA_iload_n dd_X7_layOut_23 rfl (.tail _ (.tail _ (.tail _ (.head _)))) ?_
      refine sA_imul dd_X7_layOut_24 ?_
      refine sA_icmp_gt (tgt := 54) dd_X7_layOut_25 (by decide) (by omega) (by omega) (fun q4 => ?_) (fun q4 => ?_)
      · skip
        refine sA_iinc (lv' := [(2, gs_iv (t + 1)), (3, gs_iv x), (0, .ref 5), (1, gs_iv g)]) dd_X7_layOut_54 (.tail _ (.head _)) (by decide) rfl ?_
        refine sA_goto (tgt := 11) dd_X7_layOut_57 (by decide) ?_
        refine sA_sub (lv2 := [(2, gs_iv (t + 1)), (0, .ref 5), (1, gs_iv g)]) (List.forall_mem_cons.mpr ⟨(.head _), (List.forall_mem_cons.mpr ⟨(.tail _ (.tail _ (.head _))), (List.forall_mem_cons.mpr ⟨(.tail _ (.tail _ (.tail _ (.head _)))), (fun _ h => absurd h List.not_mem_nil)⟩)⟩)⟩) ?_
        exact ih.1 (t + 1) F1 A1 hI1 hf1 (by omega) (by omega) (by omega)
      · skip
        refine sA_aload_n dd_X7_layOut_28 rfl (.tail _ (.tail _ (.head _))) ?_
        refine sA_iconst (z := 2) dd_X7_layOut_29 ?_
        refine sA_iload_n dd_X7_layOut_30 rfl (.tail _ (.head _)) ?_
        refine sA_imul dd_X7_layOut_31 ?_
        refine sA_iload_n dd_X7_layOut_32 rfl (.head _) ?_
        refine sA_iload_n dd_X7_layOut_33 rfl (.tail _ (.tail _ (.tail _ (.head _)))) ?_
        refine sA_callV (y2 := m_X7_layWord) (n2 := 3) (d2 := 4) (a := 5) (ci := 7) (q := (RX7, TX7, 5)) (as := [gs_iv (2 * t), gs_iv x, gs_iv g]) (rest := []) dd_X7_layOut_34 ok_X7_layWord ml_X7_34 rfl rfl (by decide) gs_s5 rfl rfl (Nat.le_of_ble_eq_true rfl) (by decide) (c_X7_layWord hI1 (by omega) (by omega) (by omega)) (fun r5 F6 A7 h8 => ?_)
        obtain ⟨e10, I11, f12, x9⟩ := h8
        subst e10
        have v13 : F6 5 0 = F1 5 0 := f12.1 5 0 (by first | exact id | omega | (dsimp only; omega) | (dsimp only))
        have f14 := gs_fr_tr hf1 f12 (fun b j h => by first | exact False.elim h | omega | (dsimp only at h ⊢; omega)) (fun b h => by first | exact False.elim h | omega | (dsimp only at h ⊢; omega))
        show sA _ _ _ 37 _ [] _ _
        refine sA_aload_n dd_X7_layOut_37 rfl (.tail _ (.tail _ (.head _))) ?_
        refine sA_iconst (z := 2) dd_X7_layOut_38 ?_
        refine sA_iload_n dd_X7_layOut_39 rfl (.tail _ (.head _)) ?_
        refine sA_imul dd_X7_layOut_40 ?_
        refine sA_iconst (z := 1) dd_X7_layOut_41 ?_
        refine sA_iadd dd_X7_layOut_42 ?_
        refine sA_iload_n dd_X7_layOut_43 rfl (.head _) ?_
        refine sA_iload_n dd_X7_layOut_44 rfl (.tail _ (.tail _ (.tail _ (.head _)))) ?_
        refine sA_callV (y2 := m_X7_layWord) (n2 := 3) (d2 := 4) (a := 5) (ci := 7) (q := (RX7, TX7, 5)) (as := [gs_iv ((2 * t) + 1), gs_iv x, gs_iv g]) (rest := []) dd_X7_layOut_45 ok_X7_layWord ml_X7_34 rfl rfl (by decide) gs_s5 rfl rfl (Nat.le_of_ble_eq_true rfl) (by decide) (c_X7_layWord I11 (by omega) (by omega) (by omega)) (fun r15 F16 A17 h18 => ?_)
        obtain ⟨e20, I21, f22, x19⟩ := h18
        subst e20
        have v23 : F16 5 0 = F6 5 0 := f22.1 5 0 (by first | exact id | omega | (dsimp only; omega) | (dsimp only))
        have f24 := gs_fr_tr f14 f22 (fun b j h => by first | exact False.elim h | omega | (dsimp only at h ⊢; omega)) (fun b h => by first | exact False.elim h | omega | (dsimp only at h ⊢; omega))
        show sA _ _ _ 48 _ [] _ _
        refine sA_iinc (lv' := [(3, gs_iv (x + 1)), (2, gs_iv t), (0, .ref 5), (1, gs_iv g)]) dd_X7_layOut_48 (.head _) (by decide) rfl ?_
        refine sA_goto (tgt := 21) dd_X7_layOut_51 (by decide) ?_
        have b25 : (1 : Int) ≤ F16 5 0 ∧ F16 5 0 ≤ 8 := I21.1 5 0
        refine sA_sub (lv2 := [(3, gs_iv (x + 1)), (2, gs_iv t), (0, .ref 5), (1, gs_iv g)]) (List.forall_mem_cons.mpr ⟨(.head _), (List.forall_mem_cons.mpr ⟨(.tail _ (.head _)), (List.forall_mem_cons.mpr ⟨(.tail _ (.tail _ (.head _))), (List.forall_mem_cons.mpr ⟨(.tail _ (.tail _ (.tail _ (.head _)))), (fun _ h => absurd h List.not_mem_nil)⟩)⟩)⟩)⟩) ?_
        exact ih.2 t (x + 1) F16 A17 I21 f24 (by omega) (by omega) (by omega) (by omega)
theorem c_X7_layOut {g : Int} {F A : gs_F} (hI : gs_I F A) (hg : 1 ≤ g ∧ g ≤ 3) : sC m_X7_layOut 5 [.ref 5, gs_iv g] F A (fun rv F' A' => rv = none ∧ gs_I F' A' ∧ gs_fr (fun c j => (c = 5 ∧ j = 0) ∨ ((c = 8 ∨ c = 10) ∧ j = 1)) (fun c => c = 9 ∨ c = 11 ∨ c = 6) F A F' A' ∧ (F' 5 0 = 3 * g - 1)) := by
  refine sC_of ok_X7_layOut.1 (Nat.le_of_ble_eq_true rfl) ?_
  show sA _ _ _ 0 [(0, .ref 5), (1, gs_iv g)] [] F A
  have hf : gs_fr (fun c j => (c = 5 ∧ j = 0) ∨ ((c = 8 ∨ c = 10) ∧ j = 1)) (fun c => c = 9 ∨ c = 11 ∨ c = 6) F A F A := gs_fr_refl _ _ _ _
  have b26 : (1 : Int) ≤ F 5 0 ∧ F 5 0 ≤ 8 := hI.1 5 0
  refine sA_aload_n dd_X7_layOut_0 rfl (.head _) ?_
  refine sA_iconst (z := 3) dd_X7_layOut_1 ?_
  refine sA_iload_n dd_X7_layOut_2 rfl (.tail _ (.head _)) ?_
  refine sA_imul dd_X7_layOut_3 ?_
  refine sA_iconst (z := 1) dd_X7_layOut_4 ?_
  refine sA_isub dd_X7_layOut_5 ?_
  refine sA_put (ci := 7) (j := 0) (q := (RX7, TX7, 5)) (ty := .int) dd_X7_layOut_6 rfl (by decide) fl_X7_30 rfl (tyX7_ok 0 (by decide)) rfl rfl (by decide) gs_s5 rfl ?_
  have I28 : gs_I (gs_up F 5 0 ((3 * g) - 1)) A := gs_I_put hI (show (1 : Int) ≤ (3 * g) - 1 ∧ (3 * g) - 1 ≤ 8 by omega)
  have f29 := gs_fr_put hf (a := 5) (z := (3 * g) - 1) (j := 0) (by first | omega | (dsimp only; omega) | (dsimp only))
  have v30 : gs_up F 5 0 ((3 * g) - 1) 5 0 = (3 * g) - 1 := gs_up_self _ _ _ _
  generalize gs_up F 5 0 ((3 * g) - 1) = F27 at I28 f29 v30 ⊢
  refine sA_iconst (z := 0) dd_X7_layOut_9 ?_
  refine sA_istore_n (lv' := [(2, gs_iv 0), (0, .ref 5), (1, gs_iv g)]) dd_X7_layOut_10 rfl (by decide) rfl ?_
  have b31 : (1 : Int) ≤ F27 5 0 ∧ F27 5 0 ≤ 8 := I28.1 5 0
  refine sA_sub (lv2 := [(2, gs_iv 0), (0, .ref 5), (1, gs_iv g)]) (List.forall_mem_cons.mpr ⟨(.head _), (List.forall_mem_cons.mpr ⟨(.tail _ (.head _)), (List.forall_mem_cons.mpr ⟨(.tail _ (.tail _ (.head _))), (fun _ h => absurd h List.not_mem_nil)⟩)⟩)⟩) ?_
  exact (k_X7_layOut hI hg ((F27 5 0 - 0) * 20 + 1 : Int).toNat.succ).1 0 F27 A I28 f29 (by omega) (by omega) (by omega)
theorem dd_X7_doTwist_0 : decode cX7_doTwist 0 = .ok (.iload_n 1, 1) := by decide +kernel
theorem dd_X7_doTwist_1 : decode cX7_doTwist 1 = .ok (.ifCond .lt 19, 3) := by decide +kernel
theorem dd_X7_doTwist_4 : decode cX7_doTwist 4 = .ok (.iload_n 1, 1) := by decide +kernel
theorem dd_X7_doTwist_5 : decode cX7_doTwist 5 = .ok (.bipush 16, 2) := by decide +kernel
theorem dd_X7_doTwist_7 : decode cX7_doTwist 7 = .ok (.if_icmp .ge 13, 3) := by decide +kernel
theorem dd_X7_doTwist_10 : decode cX7_doTwist 10 = .ok (.aload_n 2, 1) := by decide +kernel
theorem dd_X7_doTwist_11 : decode cX7_doTwist 11 = .ok (.getfield 38, 3) := by decide +kernel
theorem dd_X7_doTwist_14 : decode cX7_doTwist 14 = .ok (.sipush 400, 3) := by decide +kernel
theorem dd_X7_doTwist_17 : decode cX7_doTwist 17 = .ok (.if_icmp .le 5, 3) := by decide +kernel
theorem dd_X7_doTwist_20 : decode cX7_doTwist 20 = .ok (.iconst 0, 1) := by decide +kernel
theorem dd_X7_doTwist_21 : decode cX7_doTwist 21 = .ok (.ireturn, 1) := by decide +kernel
theorem dd_X7_doTwist_22 : decode cX7_doTwist 22 = .ok (.iload_n 1, 1) := by decide +kernel
theorem dd_X7_doTwist_23 : decode cX7_doTwist 23 = .ok (.iconst 0, 1) := by decide +kernel
theorem dd_X7_doTwist_24 : decode cX7_doTwist 24 = .ok (.invokestatic 65, 3) := by decide +kernel
theorem dd_X7_doTwist_27 : decode cX7_doTwist 27 = .ok (.istore_n 3, 1) := by decide +kernel
theorem dd_X7_doTwist_28 : decode cX7_doTwist 28 = .ok (.iconst 0, 1) := by decide +kernel
theorem dd_X7_doTwist_29 : decode cX7_doTwist 29 = .ok (.istore 4, 2) := by decide +kernel
theorem dd_X7_doTwist_31 : decode cX7_doTwist 31 = .ok (.iconst 0, 1) := by decide +kernel
theorem dd_X7_doTwist_32 : decode cX7_doTwist 32 = .ok (.istore 5, 2) := by decide +kernel
theorem dd_X7_doTwist_34 : decode cX7_doTwist 34 = .ok (.iload 5, 2) := by decide +kernel
theorem dd_X7_doTwist_36 : decode cX7_doTwist 36 = .ok (.aload_n 2, 1) := by decide +kernel
theorem dd_X7_doTwist_37 : decode cX7_doTwist 37 = .ok (.getfield 38, 3) := by decide +kernel
theorem dd_X7_doTwist_40 : decode cX7_doTwist 40 = .ok (.if_icmp .ge 143, 3) := by decide +kernel
theorem dd_X7_doTwist_43 : decode cX7_doTwist 43 = .ok (.iload_n 3, 1) := by decide +kernel
theorem dd_X7_doTwist_44 : decode cX7_doTwist 44 = .ok (.aload_n 2, 1) := by decide +kernel
theorem dd_X7_doTwist_45 : decode cX7_doTwist 45 = .ok (.getfield 69, 3) := by decide +kernel
theorem dd_X7_doTwist_48 : decode cX7_doTwist 48 = .ok (.iload 5, 2) := by decide +kernel
theorem dd_X7_doTwist_50 : decode cX7_doTwist 50 = .ok (.iaload, 1) := by decide +kernel
theorem dd_X7_doTwist_51 : decode cX7_doTwist 51 = .ok (.bipush 10, 2) := by decide +kernel
theorem dd_X7_doTwist_53 : decode cX7_doTwist 53 = .ok (.imul, 1) := by decide +kernel
theorem dd_X7_doTwist_54 : decode cX7_doTwist 54 = .ok (.iadd, 1) := by decide +kernel
theorem dd_X7_doTwist_55 : decode cX7_doTwist 55 = .ok (.istore 6, 2) := by decide +kernel
theorem dd_X7_doTwist_57 : decode cX7_doTwist 57 = .ok (.iload 6, 2) := by decide +kernel
theorem dd_X7_doTwist_59 : decode cX7_doTwist 59 = .ok (.ifCond .lt 28, 3) := by decide +kernel
theorem dd_X7_doTwist_62 : decode cX7_doTwist 62 = .ok (.iload 6, 2) := by decide +kernel
theorem dd_X7_doTwist_64 : decode cX7_doTwist 64 = .ok (.bipush 10, 2) := by decide +kernel
theorem dd_X7_doTwist_66 : decode cX7_doTwist 66 = .ok (.iadd, 1) := by decide +kernel
theorem dd_X7_doTwist_67 : decode cX7_doTwist 67 = .ok (.aload_n 0, 1) := by decide +kernel
theorem dd_X7_doTwist_68 : decode cX7_doTwist 68 = .ok (.getfield 11, 3) := by decide +kernel
theorem dd_X7_doTwist_71 : decode cX7_doTwist 71 = .ok (.arraylength, 1) := by decide +kernel
theorem dd_X7_doTwist_72 : decode cX7_doTwist 72 = .ok (.if_icmp .gt 15, 3) := by decide +kernel
theorem dd_X7_doTwist_75 : decode cX7_doTwist 75 = .ok (.aload_n 0, 1) := by decide +kernel
theorem dd_X7_doTwist_76 : decode cX7_doTwist 76 = .ok (.getfield 11, 3) := by decide +kernel
theorem dd_X7_doTwist_79 : decode cX7_doTwist 79 = .ok (.iload 6, 2) := by decide +kernel
theorem dd_X7_doTwist_81 : decode cX7_doTwist 81 = .ok (.iaload, 1) := by decide +kernel
theorem dd_X7_doTwist_82 : decode cX7_doTwist 82 = .ok (.bipush 10, 2) := by decide +kernel
theorem dd_X7_doTwist_84 : decode cX7_doTwist 84 = .ok (.if_icmp .lt 5, 3) := by decide +kernel
theorem dd_X7_doTwist_87 : decode cX7_doTwist 87 = .ok (.iconst 0, 1) := by decide +kernel
theorem dd_X7_doTwist_88 : decode cX7_doTwist 88 = .ok (.ireturn, 1) := by decide +kernel
theorem dd_X7_doTwist_89 : decode cX7_doTwist 89 = .ok (.iload 6, 2) := by decide +kernel
theorem dd_X7_doTwist_91 : decode cX7_doTwist 91 = .ok (.aload_n 0, 1) := by decide +kernel
theorem dd_X7_doTwist_92 : decode cX7_doTwist 92 = .ok (.getfield 11, 3) := by decide +kernel
theorem dd_X7_doTwist_95 : decode cX7_doTwist 95 = .ok (.iload 6, 2) := by decide +kernel
theorem dd_X7_doTwist_97 : decode cX7_doTwist 97 = .ok (.iaload, 1) := by decide +kernel
theorem dd_X7_doTwist_98 : decode cX7_doTwist 98 = .ok (.iadd, 1) := by decide +kernel
theorem dd_X7_doTwist_99 : decode cX7_doTwist 99 = .ok (.istore 7, 2) := by decide +kernel
theorem dd_X7_doTwist_101 : decode cX7_doTwist 101 = .ok (.iload 6, 2) := by decide +kernel
theorem dd_X7_doTwist_103 : decode cX7_doTwist 103 = .ok (.iconst 1, 1) := by decide +kernel
theorem dd_X7_doTwist_104 : decode cX7_doTwist 104 = .ok (.iadd, 1) := by decide +kernel
theorem dd_X7_doTwist_105 : decode cX7_doTwist 105 = .ok (.istore 8, 2) := by decide +kernel
theorem dd_X7_doTwist_107 : decode cX7_doTwist 107 = .ok (.iload 8, 2) := by decide +kernel
theorem dd_X7_doTwist_109 : decode cX7_doTwist 109 = .ok (.iload 7, 2) := by decide +kernel
theorem dd_X7_doTwist_111 : decode cX7_doTwist 111 = .ok (.if_icmp .gt 66, 3) := by decide +kernel
theorem dd_X7_doTwist_114 : decode cX7_doTwist 114 = .ok (.aload_n 0, 1) := by decide +kernel
theorem dd_X7_doTwist_115 : decode cX7_doTwist 115 = .ok (.getfield 11, 3) := by decide +kernel
theorem dd_X7_doTwist_118 : decode cX7_doTwist 118 = .ok (.iload 8, 2) := by decide +kernel
theorem dd_X7_doTwist_120 : decode cX7_doTwist 120 = .ok (.iaload, 1) := by decide +kernel
theorem dd_X7_doTwist_121 : decode cX7_doTwist 121 = .ok (.istore 9, 2) := by decide +kernel
theorem dd_X7_doTwist_123 : decode cX7_doTwist 123 = .ok (.iload 4, 2) := by decide +kernel
theorem dd_X7_doTwist_125 : decode cX7_doTwist 125 = .ok (.ifCond .le 24, 3) := by decide +kernel
theorem dd_X7_doTwist_128 : decode cX7_doTwist 128 = .ok (.aload_n 0, 1) := by decide +kernel
theorem dd_X7_doTwist_129 : decode cX7_doTwist 129 = .ok (.getfield 15, 3) := by decide +kernel
theorem dd_X7_doTwist_132 : decode cX7_doTwist 132 = .ok (.iload 4, 2) := by decide +kernel
theorem dd_X7_doTwist_134 : decode cX7_doTwist 134 = .ok (.iconst 1, 1) := by decide +kernel
theorem dd_X7_doTwist_135 : decode cX7_doTwist 135 = .ok (.isub, 1) := by decide +kernel
theorem dd_X7_doTwist_136 : decode cX7_doTwist 136 = .ok (.iaload, 1) := by decide +kernel
theorem dd_X7_doTwist_137 : decode cX7_doTwist 137 = .ok (.iload 9, 2) := by decide +kernel
theorem dd_X7_doTwist_139 : decode cX7_doTwist 139 = .ok (.ineg, 1) := by decide +kernel
theorem dd_X7_doTwist_140 : decode cX7_doTwist 140 = .ok (.if_icmp .ne 9, 3) := by decide +kernel
theorem dd_X7_doTwist_143 : decode cX7_doTwist 143 = .ok (.iinc 4 (-1), 3) := by decide +kernel
theorem dd_X7_doTwist_146 : decode cX7_doTwist 146 = .ok (.goto 25, 3) := by decide +kernel
theorem dd_X7_doTwist_149 : decode cX7_doTwist 149 = .ok (.iload 4, 2) := by decide +kernel
theorem dd_X7_doTwist_151 : decode cX7_doTwist 151 = .ok (.aload_n 0, 1) := by decide +kernel
theorem dd_X7_doTwist_152 : decode cX7_doTwist 152 = .ok (.getfield 15, 3) := by decide +kernel
theorem dd_X7_doTwist_155 : decode cX7_doTwist 155 = .ok (.arraylength, 1) := by decide +kernel
theorem dd_X7_doTwist_156 : decode cX7_doTwist 156 = .ok (.if_icmp .ge 15, 3) := by decide +kernel
theorem dd_X7_doTwist_159 : decode cX7_doTwist 159 = .ok (.aload_n 0, 1) := by decide +kernel
theorem dd_X7_doTwist_160 : decode cX7_doTwist 160 = .ok (.getfield 15, 3) := by decide +kernel
theorem dd_X7_doTwist_163 : decode cX7_doTwist 163 = .ok (.iload 4, 2) := by decide +kernel
theorem dd_X7_doTwist_165 : decode cX7_doTwist 165 = .ok (.iload 9, 2) := by decide +kernel
theorem dd_X7_doTwist_167 : decode cX7_doTwist 167 = .ok (.iastore, 1) := by decide +kernel
theorem dd_X7_doTwist_168 : decode cX7_doTwist 168 = .ok (.iinc 4 1, 3) := by decide +kernel
theorem dd_X7_doTwist_171 : decode cX7_doTwist 171 = .ok (.iinc 8 1, 3) := by decide +kernel
theorem dd_X7_doTwist_174 : decode cX7_doTwist 174 = .ok (.goto (-67), 3) := by decide +kernel
theorem dd_X7_doTwist_177 : decode cX7_doTwist 177 = .ok (.iinc 5 1, 3) := by decide +kernel
theorem dd_X7_doTwist_180 : decode cX7_doTwist 180 = .ok (.goto (-146), 3) := by decide +kernel
theorem dd_X7_doTwist_183 : decode cX7_doTwist 183 = .ok (.iload 4, 2) := by decide +kernel
theorem dd_X7_doTwist_185 : decode cX7_doTwist 185 = .ok (.sipush 400, 3) := by decide +kernel
theorem dd_X7_doTwist_188 : decode cX7_doTwist 188 = .ok (.if_icmp .gt 13, 3) := by decide +kernel
theorem dd_X7_doTwist_191 : decode cX7_doTwist 191 = .ok (.iload 4, 2) := by decide +kernel
theorem dd_X7_doTwist_193 : decode cX7_doTwist 193 = .ok (.aload_n 2, 1) := by decide +kernel
theorem dd_X7_doTwist_194 : decode cX7_doTwist 194 = .ok (.getfield 69, 3) := by decide +kernel
theorem dd_X7_doTwist_197 : decode cX7_doTwist 197 = .ok (.arraylength, 1) := by decide +kernel
theorem dd_X7_doTwist_198 : decode cX7_doTwist 198 = .ok (.if_icmp .le 5, 3) := by decide +kernel
theorem dd_X7_doTwist_201 : decode cX7_doTwist 201 = .ok (.iconst 0, 1) := by decide +kernel
theorem dd_X7_doTwist_202 : decode cX7_doTwist 202 = .ok (.ireturn, 1) := by decide +kernel
theorem dd_X7_doTwist_203 : decode cX7_doTwist 203 = .ok (.aload_n 0, 1) := by decide +kernel
theorem dd_X7_doTwist_204 : decode cX7_doTwist 204 = .ok (.getfield 15, 3) := by decide +kernel
theorem dd_X7_doTwist_207 : decode cX7_doTwist 207 = .ok (.iconst 0, 1) := by decide +kernel
theorem dd_X7_doTwist_208 : decode cX7_doTwist 208 = .ok (.aload_n 2, 1) := by decide +kernel
theorem dd_X7_doTwist_209 : decode cX7_doTwist 209 = .ok (.getfield 69, 3) := by decide +kernel
theorem dd_X7_doTwist_212 : decode cX7_doTwist 212 = .ok (.iconst 0, 1) := by decide +kernel
theorem dd_X7_doTwist_213 : decode cX7_doTwist 213 = .ok (.iload 4, 2) := by decide +kernel
theorem dd_X7_doTwist_215 : decode cX7_doTwist 215 = .ok (.invokestatic 72, 3) := by decide +kernel
theorem dd_X7_doTwist_218 : decode cX7_doTwist 218 = .ok (.aload_n 2, 1) := by decide +kernel
theorem dd_X7_doTwist_219 : decode cX7_doTwist 219 = .ok (.iload 4, 2) := by decide +kernel
theorem dd_X7_doTwist_221 : decode cX7_doTwist 221 = .ok (.putfield 38, 3) := by decide +kernel
theorem dd_X7_doTwist_224 : decode cX7_doTwist 224 = .ok (.iconst 1, 1) := by decide +kernel
theorem dd_X7_doTwist_225 : decode cX7_doTwist 225 = .ok (.ireturn, 1) := by decide +kernel
theorem gs_s7 : gs_sh 7 = .inr (.inl (0, 3600)) := rfl
theorem fl_X7_15 : Cond.fieldLink RX7 15 (TX7 2).1 (TX7 2).2.1 (TX7 2).2.2.1 ∈ am_tbl := ri_lw_in (pl := 143) (by decide +kernel)
theorem ok_X7_doTwist : am_okM m_X7_doTwist 2 ∧ Cond.instanceMethod m_X7_doTwist.1 ∈ am_tbl ∧ Cond.selects m_X7_doTwist.1.cls m_X7_doTwist.1 m_X7_doTwist.1 ∈ am_tbl := ri_mk1 603 85 601 602 (by decide +kernel)
theorem k_X7_doTwist {a L : Nat} {u : Int} {F A : gs_F} (hI : gs_I F A) (hu : -2147483648 ≤ u ∧ u ≤ 2147483647) (hr : gs_row a L) : ∀ nN : Nat, (∀ (m : Int) (s : Int) (k : Int)  (F1 A1 : gs_F), gs_I F1 A1 → gs_fr (fun c j => c = a ∧ j = 1) (fun c => c = 7 ∨ c = a + 1) F A F1 A1 → 0 ≤ m ∧ m ≤ 2010 → 0 ≤ s ∧ s ≤ 3600 → 0 ≤ k ∧ k ≤ F1 a 1 → (F1 a 1 - k) * 30 + 1 < (nN : Int) → sA m_X7_doTwist 2 (fun rv F' A' => ∃ z : Int, rv = some (gs_iv z) ∧ gs_I F' A' ∧ gs_fr (fun c j => c = a ∧ j = 1) (fun c => c = 7 ∨ c = a + 1) F A F' A' ∧ (z = 0 ∨ z = 1)) 34 [(5, gs_iv k), (4, gs_iv s), (3, gs_iv m), (0, .ref 5), (2, .ref a)] [] F1 A1) ∧ (∀ (m : Int) (s : Int) (k : Int) (e : Int) (w : Int)  (F1 A1 : gs_F), gs_I F1 A1 → gs_fr (fun c j => c = a ∧ j = 1) (fun c => c = 7 ∨ c = a + 1) F A F1 A1 → 0 ≤ m ∧ m ≤ 2010 → 0 ≤ s ∧ s ≤ 3600 → 0 ≤ k ∧ k < F1 a 1 → 0 ≤ w ∧ e ≤ 2079 → -10 ≤ e - w ∧ e - w ≤ 9 → (F1 a 1 - k) * 30 - 15 + (e - w) < (nN : Int) → sA m_X7_doTwist 2 (fun rv F' A' => ∃ z : Int, rv = some (gs_iv z) ∧ gs_I F' A' ∧ gs_fr (fun c j => c = a ∧ j = 1) (fun c => c = 7 ∨ c = a + 1) F A F' A' ∧ (z = 0 ∨ z = 1)) 107 [(8, gs_iv w), (7, gs_iv e), (5, gs_iv k), (4, gs_iv s), (3, gs_iv m), (0, .ref 5), (2, .ref a)] [] F1 A1) := by
  intro nN
  induction nN with
  | zero =>
    exact ⟨fun a0 a1 a2 a3 a4 a5 a6 i0 i1 i2 hm => by exfalso; omega, fun a0 a1 a2 a3 a4 a5 a6 a7 a8 i0 i1 i2 i3 i4 hm => by exfalso; omega⟩
  | succ nN ih =>
    refine ⟨?_, ?_⟩
    · skip
      intro m s k F1 A1 hI1 hf1 i0 i1 i2 hm
      have b1 := gs_row_sz hr hI1
      refine sA_iload dd_X7_doTwist_34 (.head _) ?_
      refine sA_aload_n dd_X7_doTwist_36 rfl (.tail _ (.tail _ (.tail _ (.tail _ (.head _))))) ?_
      refine sA_geti (ci := 4) (j := 1) (q := (RX4, TX4, 2)) dd_X7_doTwist_37 rfl (by decide) fl_X7_38 (Nat.lt_of_succ_lt hr.1) hr.2.1 rfl ?_
      refine sA_icmp_ge (tgt := 183) dd_X7_doTwist_40 (by decide) (by omega) (by omega) (fun q2 => ?_) (fun q2 => ?_)
      · skip
        refine sA_iload dd_X7_doTwist_183 (.tail _ (.head _)) ?_
        refine sA_sipush (z := 400) dd_X7_doTwist_185 (by decide) ?_
        refine sA_icmp_gt (tgt := 201) dd_X7_doTwist_188 (by decide) (by omega) (by omega) (fun q3 => ?_) (fun q3 => ?_)
        · skip
          refine sA_iconst (z := 0) dd_X7_doTwist_201 ?_
          refine sA_bret (z := 0) dd_X7_doTwist_202 rfl (by omega) ?_
          exact ⟨_, rfl, hI1, hf1, by omega⟩
        · skip
          refine sA_iload dd_X7_doTwist_191 (.tail _ (.head _)) ?_
          refine sA_aload_n dd_X7_doTwist_193 rfl (.tail _ (.tail _ (.tail _ (.tail _ (.head _))))) ?_
          refine sA_getr (ci := 4) (j := 0) (q := (RX4, TX4, 2)) dd_X7_doTwist_194 rfl (by decide) fl_X7_69 (Nat.lt_of_succ_lt hr.1) hr.2.1 rfl ?_
          refine sA_alen (n := L) dd_X7_doTwist_197 hr.1 hr.2.2.1 ?_
          have b4 := hr.2.2.2.2.2
          refine sA_icmp_le (tgt := 203) dd_X7_doTwist_198 (by decide) (by omega) (by omega) (fun q5 => ?_) (fun q5 => ?_)
          · skip
            refine sA_aload_n dd_X7_doTwist_203 rfl (.tail _ (.tail _ (.tail _ (.head _)))) ?_
            refine sA_getr (ci := 7) (j := 2) (q := (RX7, TX7, 5)) dd_X7_doTwist_204 rfl (by decide) fl_X7_15 (by decide) gs_s5 rfl ?_
            refine sA_iconst (z := 0) dd_X7_doTwist_207 ?_
            refine sA_aload_n dd_X7_doTwist_208 rfl (.tail _ (.tail _ (.tail _ (.tail _ (.head _))))) ?_
            refine sA_getr (ci := 4) (j := 0) (q := (RX4, TX4, 2)) dd_X7_doTwist_209 rfl (by decide) fl_X7_69 (Nat.lt_of_succ_lt hr.1) hr.2.1 rfl ?_
            refine sA_iconst (z := 0) dd_X7_doTwist_212 ?_
            refine sA_iload dd_X7_doTwist_213 (.tail _ (.head _)) ?_
            refine sA_copy (n1 := 3600) (n2 := L) dd_X7_doTwist_215 (ri_lw_in (pl := 348) (by decide +kernel)) gs_copyok (by decide) gs_s7 hr.1 hr.2.2.1 (by omega) (by omega) (by omega) (by omega) (by omega) (by decide) (Nat.le_trans hr.2.2.2.2.2.2 (by decide)) (by decide) (Nat.le_of_ble_eq_true rfl) ?_
            have I7 : gs_I F1 (gs_cp A1 7 (a + 1) (0 : Int).toNat (0 : Int).toNat s.toNat) := gs_I_cp hI1 (b := (a + 1)) (a := 7) (p := ((-9), 9)) (q := ((-9), 9)) hr.2.2.2.2.1 rfl (by decide)
            have f8 := gs_fr_cp hf1 (a := 7) (b := (a + 1)) (sp := (0 : Int).toNat) (dp := (0 : Int).toNat) (n := s.toNat) (by first | omega | (dsimp only; omega) | (dsimp only))
            generalize gs_cp A1 7 (a + 1) (0 : Int).toNat (0 : Int).toNat s.toNat = A6 at I7 f8 ⊢
            refine sA_aload_n dd_X7_doTwist_218 rfl (.tail _ (.tail _ (.tail _ (.tail _ (.head _))))) ?_
            refine sA_iload dd_X7_doTwist_219 (.tail _ (.head _)) ?_
            refine sA_put (ci := 4) (j := 1) (q := (RX4, TX4, 2)) (ty := .int) dd_X7_doTwist_221 rfl (by decide) fl_X7_38 rfl (tyX4_ok 1 (by decide)) rfl rfl (Nat.lt_of_succ_lt hr.1) hr.2.1 rfl ?_
            have I10 : gs_I (gs_up F1 a 1 s) A6 := gs_row_put hr I7 (by omega)
            have f11 := gs_fr_put f8 (a := a) (z := s) (j := 1) (by first | omega | (dsimp only; omega) | (dsimp only))
            have v12 : gs_up F1 a 1 s a 1 = s := gs_up_self _ _ _ _
            generalize gs_up F1 a 1 s = F9 at I10 f11 v12 ⊢
            refine sA_iconst (z := 1) dd_X7_doTwist_224 ?_
            refine sA_bret (z := 1) dd_X7_doTwist_225 rfl (by omega) ?_
            exact ⟨_, rfl, I10, f11, by omega⟩
          · skip
            refine sA_iconst (z := 0) dd_X7_doTwist_201 ?_
            refine sA_bret (z := 0) dd_X7_doTwist_202 rfl (by omega) ?_
            exact ⟨_, rfl, hI1, hf1, by omega⟩
      · skip
        refine sA_iload_n dd_X7_doTwist_43 rfl (.tail _ (.tail _ (.head _))) ?_
        refine sA_aload_n dd_X7_doTwist_44 rfl (.tail _ (.tail _ (.tail _ (.tail _ (.head _))))) ?_
        refine sA_getr (ci := 4) (j := 0) (q := (RX4, TX4, 2)) dd_X7_doTwist_45 rfl (by decide) fl_X7_69 (Nat.lt_of_succ_lt hr.1) hr.2.1 rfl ?_
        refine sA_iload dd_X7_doTwist_48 (.head _) ?_
        refine sA_iald (n := L) dd_X7_doTwist_50 hr.1 hr.2.2.1 (by omega) (Nat.le_trans hr.2.2.2.2.2.2 (by decide)) ?_
        have b13 := gs_row_el hr hI1 k.toNat
        refine sA_bipush (z := 10) dd_X7_doTwist_51 (by decide) ?_
        refine sA_imul dd_X7_doTwist_53 ?_
        refine sA_iadd dd_X7_doTwist_54 ?_
        refine sA_istore (lv' := [(6, gs_iv (m + ((A1 (a + 1) k.toNat) * 10))), (5, gs_iv k), (4, gs_iv s), (3, gs_iv m), (0, .ref 5), (2, .ref a)]) dd_X7_doTwist_55 (by decide) rfl ?_
        refine sA_iload dd_X7_doTwist_57 (.head _) ?_
        refine sA_if_lt (tgt := 87) dd_X7_doTwist_59 (by decide) (by omega) (fun q14 => ?_) (fun q14 => ?_)
        · skip
          refine sA_iconst (z := 0) dd_X7_doTwist_87 ?_
          refine sA_bret (z := 0) dd_X7_doTwist_88 rfl (by omega) ?_
          exact ⟨_, rfl, hI1, hf1, by omega⟩
        · skip
          refine sA_iload dd_X7_doTwist_62 (.head _) ?_
          refine sA_bipush (z := 10) dd_X7_doTwist_64 (by decide) ?_
          refine sA_iadd dd_X7_doTwist_66 ?_
          refine sA_aload_n dd_X7_doTwist_67 rfl (.tail _ (.tail _ (.tail _ (.tail _ (.head _))))) ?_
          refine sA_getr (ci := 7) (j := 1) (q := (RX7, TX7, 5)) dd_X7_doTwist_68 rfl (by decide) fl_X7_11 (by decide) gs_s5 rfl ?_
          refine sA_alen (n := 2080) dd_X7_doTwist_71 (by decide) gs_s6 ?_
          refine sA_icmp_gt (tgt := 87) dd_X7_doTwist_72 (by decide) (by omega) (by omega) (fun q15 => ?_) (fun q15 => ?_)
          · skip
            refine sA_iconst (z := 0) dd_X7_doTwist_87 ?_
            refine sA_bret (z := 0) dd_X7_doTwist_88 rfl (by omega) ?_
            exact ⟨_, rfl, hI1, hf1, by omega⟩
          · skip
            refine sA_aload_n dd_X7_doTwist_75 rfl (.tail _ (.tail _ (.tail _ (.tail _ (.head _))))) ?_
            refine sA_getr (ci := 7) (j := 1) (q := (RX7, TX7, 5)) dd_X7_doTwist_76 rfl (by decide) fl_X7_11 (by decide) gs_s5 rfl ?_
            refine sA_iload dd_X7_doTwist_79 (.head _) ?_
            refine sA_iald (n := 2080) dd_X7_doTwist_81 (by decide) gs_s6 (by omega) (by decide) ?_
            have b16 : (-9 : Int) ≤ A1 6 (m + ((A1 (a + 1) k.toNat) * 10)).toNat ∧ A1 6 (m + ((A1 (a + 1) k.toNat) * 10)).toNat ≤ 9 := hI1.2 6 (m + ((A1 (a + 1) k.toNat) * 10)).toNat
            refine sA_bipush (z := 10) dd_X7_doTwist_82 (by decide) ?_
            refine sA_icmp_lt (tgt := 89) dd_X7_doTwist_84 (by decide) (by omega) (by omega) (fun q17 => ?_) (fun q17 => ?_)
            · skip
              refine sA_iload dd_X7_doTwist_89 (.head _) ?_
              refine sA_aload_n dd_X7_doTwist_91 rfl (.tail _ (.tail _ (.tail _ (.tail _ (.head _))))) ?_
              refine sA_getr (ci := 7) (j := 1) (q := (RX7, TX7, 5)) dd_X7_doTwist_92 rfl (by decide) fl_X7_11 (by decide) gs_s5 rfl ?_
              refine sA_iload dd_X7_doTwist_95 (.head _) ?_
              refine sA_iald (n := 2080) dd_X7_doTwist_97 (by decide) gs_s6 (by omega) (by decide) ?_
              refine sA_iadd dd_X7_doTwist_98 ?_
              refine sA_istore (lv' := [(7, gs_iv ((m + ((A1 (a + 1) k.toNat) * 10)) + (A1 6 (m + ((A1 (a + 1) k.toNat) * 10)).toNat))), (6, gs_iv (m + ((A1 (a + 1) k.toNat) * 10))), (5, gs_iv k), (4, gs_iv s), (3, gs_iv m), (0, .ref 5), (2, .ref a)]) dd_X7_doTwist_99 (by decide) rfl ?_
              refine sA_iload dd_X7_doTwist_101 (.tail _ (.head _)) ?_
              refine sA_iconst (z := 1) dd_X7_doTwist_103 ?_
              refine sA_iadd dd_X7_doTwist_104 ?_
              refine sA_istore (lv' := [(8, gs_iv ((m + ((A1 (a + 1) k.toNat) * 10)) + 1)), (7, gs_iv ((m + ((A1 (a + 1) k.toNat) * 10)) + (A1 6 (m + ((A1 (a + 1) k.toNat) * 10)).toNat))), (6, gs_iv (m + ((A1 (a + 1) k.toNat) * 10))), (5, gs_iv k), (4, gs_iv s), (3, gs_iv m), (0, .ref 5), (2, .ref a)]) dd_X7_doTwist_105 (by decide) rfl ?_
              refine sA_sub (lv2 := [(8, gs_iv ((m + ((A1 (a + 1) k.toNat) * 10)) + 1)), (7, gs_iv ((m + ((A1 (a + 1) k.toNat) * 10)) + (A1 6 (m + ((A1 (a + 1) k.toNat) * 10)).toNat))), (5, gs_iv k), (4, gs_iv s), (3, gs_iv m), (0, .ref 5), (2, .ref a)]) (List.forall_mem_cons.mpr ⟨(.head _), (List.forall_mem_cons.mpr ⟨(.tail _ (.head _)), (List.forall_mem_cons.mpr ⟨(.tail _ (.tail _ (.tail _ (.head _)))), (List.forall_mem_cons.mpr ⟨(.tail _ (.tail _ (.tail _ (.tail _ (.head _))))), (List.forall_mem_cons.mpr ⟨(.tail _ (.tail _ (.tail _ (.tail _ (.tail _ (.head _)))))), (List.forall_mem_cons.mpr ⟨(.tail _ (.tail _ (.tail _ (.tail _ (.tail _ (.tail _ (.head _))))))), (List.forall_mem_cons.mpr ⟨(.tail _ (.tail _ (.tail _ (.tail _ (.tail _ (.tail _ (.tail _ (.head _)))))))), (fun _ h => absurd h List.not_mem_nil)⟩)⟩)⟩)⟩)⟩)⟩)⟩) ?_
              exact ih.2 m s k ((m + ((A1 (a + 1) k.toNat) * 10)) + (A1 6 (m + ((A1 (a + 1) k.toNat) * 10)).toNat)) ((m + ((A1 (a + 1) k.toNat) * 10)) + 1) F1 A1 hI1 hf1 (by omega) (by omega) (by omega) (by omega) (by omega) (by omega)
            · skip
              refine sA_iconst (z := 0) dd_X7_doTwist_87 ?_
              refine sA_bret (z := 0) dd_X7_doTwist_88 rfl (by omega) ?_
              exact ⟨_, rfl, hI1, hf1, by omega⟩
    · skip
      intro m s k e w F1 A1 hI1 hf1 i0 i1 i2 i3 i4 hm
      have b18 := gs_row_sz hr hI1
      refine sA_iload dd_X7_doTwist_107 (.head _) ?_
      refine sA_iload dd_X7_doTwist_109 (.tail _ (.head _)) ?_
      refine sA_icmp_gt (tgt := 177) dd_X7_doTwist_111 (by decide) (by omega) (by omega) (fun q19 => ?_) (fun q19 => ?_)
      · skip
        refine sA_iinc (lv' := [(5, gs_iv (k + 1)), (8, gs_iv w), (7, gs_iv e), (4, gs_iv s), (3, gs_iv m), (0, .ref 5), (2, .ref a)]) dd_X7_doTwist_177 (.tail _ (.tail _ (.head _))) (by decide) rfl ?_
        refine sA_goto (tgt := 34) dd_X7_doTwist_180 (by decide) ?_
        refine sA_sub (lv2 := [(5, gs_iv (k + 1)), (4, gs_iv s), (3, gs_iv m), (0, .ref 5), (2, .ref a)]) (List.forall_mem_cons.mpr ⟨(.head _), (List.forall_mem_cons.mpr ⟨(.tail _ (.tail _ (.tail _ (.head _)))), (List.forall_mem_cons.mpr ⟨(.tail _ (.tail _ (.tail _ (.tail _ (.head _))))), (List.forall_mem_cons.mpr ⟨(.tail _ (.tail _ (.tail _ (.tail _ (.tail _ (.head _)))))), (List.forall_mem_cons.mpr ⟨(.tail _ (.tail _ (.tail _ (.tail _ (.tail _ (.tail _ (.head _))))))), (fun _ h => absurd h List.not_mem_nil)⟩)⟩)⟩)⟩)⟩) ?_
        exact ih.1 m s (k + 1) F1 A1 hI1 hf1 (by omega) (by omega) (by omega) (by omega)
      · skip
        refine sA_aload_n dd_X7_doTwist_114 rfl (.tail _ (.tail _ (.tail _ (.tail _ (.tail _ (.head _)))))) ?_
        refine sA_getr (ci := 7) (j := 1) (q := (RX7, TX7, 5)) dd_X7_doTwist_115 rfl (by decide) fl_X7_11 (by decide) gs_s5 rfl ?_
        refine sA_iload dd_X7_doTwist_118 (.head _) ?_
        refine sA_iald (n := 2080) dd_X7_doTwist_120 (by decide) gs_s6 (by omega) (by decide) ?_
        have b20 : (-9 : Int) ≤ A1 6 w.toNat ∧ A1 6 w.toNat ≤ 9 := hI1.2 6 w.toNat
        refine sA_istore (lv' := [(9, gs_iv (A1 6 w.toNat)), (8, gs_iv w), (7, gs_iv e), (5, gs_iv k), (4, gs_iv s), (3, gs_iv m), (0, .ref 5), (2, .ref a)]) dd_X7_doTwist_121 (by decide) rfl ?_
        refine sA_iload dd_X7_doTwist_123 (.tail _ (.tail _ (.tail _ (.tail _ (.head _))))) ?_
        refine sA_if_le (tgt := 149) dd_X7_doTwist_125 (by decide) (by omega) (fun q21 => ?_) (fun q21 => ?_)
        · skip
          refine sA_iload dd_X7_doTwist_149 (.tail _ (.tail _ (.tail _ (.tail _ (.head _))))) ?_
          refine sA_aload_n dd_X7_doTwist_151 rfl (.tail _ (.tail _ (.tail _ (.tail _ (.tail _ (.tail _ (.head _))))))) ?_
          refine sA_getr (ci := 7) (j := 2) (q := (RX7, TX7, 5)) dd_X7_doTwist_152 rfl (by decide) fl_X7_15 (by decide) gs_s5 rfl ?_
          refine sA_alen (n := 3600) dd_X7_doTwist_155 (by decide) gs_s7 ?_
          refine sA_icmp_ge (tgt := 171) dd_X7_doTwist_156 (by decide) (by omega) (by omega) (fun q22 => ?_) (fun q22 => ?_)
          · skip
            refine sA_iinc (lv' := [(8, gs_iv (w + 1)), (9, gs_iv (A1 6 w.toNat)), (7, gs_iv e), (5, gs_iv k), (4, gs_iv s), (3, gs_iv m), (0, .ref 5), (2, .ref a)]) dd_X7_doTwist_171 (.tail _ (.head _)) (by decide) rfl ?_
            refine sA_goto (tgt := 107) dd_X7_doTwist_174 (by decide) ?_
            refine sA_sub (lv2 := [(8, gs_iv (w + 1)), (7, gs_iv e), (5, gs_iv k), (4, gs_iv s), (3, gs_iv m), (0, .ref 5), (2, .ref a)]) (List.forall_mem_cons.mpr ⟨(.head _), (List.forall_mem_cons.mpr ⟨(.tail _ (.tail _ (.head _))), (List.forall_mem_cons.mpr ⟨(.tail _ (.tail _ (.tail _ (.head _)))), (List.forall_mem_cons.mpr ⟨(.tail _ (.tail _ (.tail _ (.tail _ (.head _))))), (List.forall_mem_cons.mpr ⟨(.tail _ (.tail _ (.tail _ (.tail _ (.tail _ (.head _)))))), (List.forall_mem_cons.mpr ⟨(.tail _ (.tail _ (.tail _ (.tail _ (.tail _ (.tail _ (.head _))))))), (List.forall_mem_cons.mpr ⟨(.tail _ (.tail _ (.tail _ (.tail _ (.tail _ (.tail _ (.tail _ (.head _)))))))), (fun _ h => absurd h List.not_mem_nil)⟩)⟩)⟩)⟩)⟩)⟩)⟩) ?_
            exact ih.2 m s k e (w + 1) F1 A1 hI1 hf1 (by omega) (by omega) (by omega) (by omega) (by omega) (by omega)
          · skip
            refine sA_aload_n dd_X7_doTwist_159 rfl (.tail _ (.tail _ (.tail _ (.tail _ (.tail _ (.tail _ (.head _))))))) ?_
            refine sA_getr (ci := 7) (j := 2) (q := (RX7, TX7, 5)) dd_X7_doTwist_160 rfl (by decide) fl_X7_15 (by decide) gs_s5 rfl ?_
            refine sA_iload dd_X7_doTwist_163 (.tail _ (.tail _ (.tail _ (.tail _ (.head _))))) ?_
            refine sA_iload dd_X7_doTwist_165 (.head _) ?_
            refine sA_iast (n := 3600) dd_X7_doTwist_167 (by decide) gs_s7 (by omega) (by decide) ?_
            have I24 : gs_I F1 (gs_up A1 7 s.toNat (A1 6 w.toNat)) := gs_I_ast hI1 (show (-9 : Int) ≤ A1 6 w.toNat ∧ A1 6 w.toNat ≤ 9 by omega)
            have f25 := gs_fr_ast hf1 (a := 7) (z := A1 6 w.toNat) (i := s.toNat) (by first | omega | (dsimp only; omega) | (dsimp only))
            generalize gs_up A1 7 s.toNat (A1 6 w.toNat) = A23 at I24 f25 ⊢
            refine sA_iinc (lv' := [(4, gs_iv (s + 1)), (9, gs_iv (A1 6 w.toNat)), (8, gs_iv w), (7, gs_iv e), (5, gs_iv k), (3, gs_iv m), (0, .ref 5), (2, .ref a)]) dd_X7_doTwist_168 (.tail _ (.tail _ (.tail _ (.tail _ (.head _))))) (by decide) rfl ?_
            refine sA_iinc (lv' := [(8, gs_iv (w + 1)), (4, gs_iv (s + 1)), (9, gs_iv (A1 6 w.toNat)), (7, gs_iv e), (5, gs_iv k), (3, gs_iv m), (0, .ref 5), (2, .ref a)]) dd_X7_doTwist_171 (.tail _ (.tail _ (.head _))) (by decide) rfl ?_
            refine sA_goto (tgt := 107) dd_X7_doTwist_174 (by decide) ?_
            refine sA_sub (lv2 := [(8, gs_iv (w + 1)), (7, gs_iv e), (5, gs_iv k), (4, gs_iv (s + 1)), (3, gs_iv m), (0, .ref 5), (2, .ref a)]) (List.forall_mem_cons.mpr ⟨(.head _), (List.forall_mem_cons.mpr ⟨(.tail _ (.tail _ (.tail _ (.head _)))), (List.forall_mem_cons.mpr ⟨(.tail _ (.tail _ (.tail _ (.tail _ (.head _))))), (List.forall_mem_cons.mpr ⟨(.tail _ (.head _)), (List.forall_mem_cons.mpr ⟨(.tail _ (.tail _ (.tail _ (.tail _ (.tail _ (.head _)))))), (List.forall_mem_cons.mpr ⟨(.tail _ (.tail _ (.tail _ (.tail _ (.tail _ (.tail _ (.head _))))))), (List.forall_mem_cons.mpr ⟨(.tail _ (.tail _ (.tail _ (.tail _ (.tail _ (.tail _ (.tail _ (.head _)))))))), (fun _ h => absurd h List.not_mem_nil)⟩)⟩)⟩)⟩)⟩)⟩)⟩) ?_
            exact ih.2 m (s + 1) k e (w + 1) F1 A23 I24 f25 (by omega) (by omega) (by omega) (by omega) (by omega) (by omega)
        · skip
          refine sA_aload_n dd_X7_doTwist_128 rfl (.tail _ (.tail _ (.tail _ (.tail _ (.tail _ (.tail _ (.head _))))))) ?_
          refine sA_getr (ci := 7) (j := 2) (q := (RX7, TX7, 5)) dd_X7_doTwist_129 rfl (by decide) fl_X7_15 (by decide) gs_s5 rfl ?_
          refine sA_iload dd_X7_doTwist_132 (.tail _ (.tail _ (.tail _ (.tail _ (.head _))))) ?_
          refine sA_iconst (z := 1) dd_X7_doTwist_134 ?_
          refine sA_isub dd_X7_doTwist_135 ?_
          refine sA_iald (n := 3600) dd_X7_doTwist_136 (by decide) gs_s7 (by omega) (by decide) ?_
          have b26 : (-9 : Int) ≤ A1 7 (s - 1).toNat ∧ A1 7 (s - 1).toNat ≤ 9 := hI1.2 7 (s - 1).toNat
          refine sA_iload dd_X7_doTwist_137 (.head _) ?_
          refine sA_ineg dd_X7_doTwist_139 ?_
          refine sA_icmp_ne (tgt := 149) dd_X7_doTwist_140 (by decide) (by omega) (by omega) (fun q27 => ?_) (fun q27 => ?_)
          · skip
            refine sA_iload dd_X7_doTwist_149 (.tail _ (.tail _ (.tail _ (.tail _ (.head _))))) ?_
            refine sA_aload_n dd_X7_doTwist_151 rfl (.tail _ (.tail _ (.tail _ (.tail _ (.tail _ (.tail _ (.head _))))))) ?_
            refine sA_getr (ci := 7) (j := 2) (q := (RX7, TX7, 5)) dd_X7_doTwist_152 rfl (by decide) fl_X7_15 (by decide) gs_s5 rfl ?_
            refine sA_alen (n := 3600) dd_X7_doTwist_155 (by decide) gs_s7 ?_
            refine sA_icmp_ge (tgt := 171) dd_X7_doTwist_156 (by decide) (by omega) (by omega) (fun q28 => ?_) (fun q28 => ?_)
            · skip
              refine sA_iinc (lv' := [(8, gs_iv (w + 1)), (9, gs_iv (A1 6 w.toNat)), (7, gs_iv e), (5, gs_iv k), (4, gs_iv s), (3, gs_iv m), (0, .ref 5), (2, .ref a)]) dd_X7_doTwist_171 (.tail _ (.head _)) (by decide) rfl ?_
              refine sA_goto (tgt := 107) dd_X7_doTwist_174 (by decide) ?_
              refine sA_sub (lv2 := [(8, gs_iv (w + 1)), (7, gs_iv e), (5, gs_iv k), (4, gs_iv s), (3, gs_iv m), (0, .ref 5), (2, .ref a)]) (List.forall_mem_cons.mpr ⟨(.head _), (List.forall_mem_cons.mpr ⟨(.tail _ (.tail _ (.head _))), (List.forall_mem_cons.mpr ⟨(.tail _ (.tail _ (.tail _ (.head _)))), (List.forall_mem_cons.mpr ⟨(.tail _ (.tail _ (.tail _ (.tail _ (.head _))))), (List.forall_mem_cons.mpr ⟨(.tail _ (.tail _ (.tail _ (.tail _ (.tail _ (.head _)))))), (List.forall_mem_cons.mpr ⟨(.tail _ (.tail _ (.tail _ (.tail _ (.tail _ (.tail _ (.head _))))))), (List.forall_mem_cons.mpr ⟨(.tail _ (.tail _ (.tail _ (.tail _ (.tail _ (.tail _ (.tail _ (.head _)))))))), (fun _ h => absurd h List.not_mem_nil)⟩)⟩)⟩)⟩)⟩)⟩)⟩) ?_
              exact ih.2 m s k e (w + 1) F1 A1 hI1 hf1 (by omega) (by omega) (by omega) (by omega) (by omega) (by omega)
            · skip
              refine sA_aload_n dd_X7_doTwist_159 rfl (.tail _ (.tail _ (.tail _ (.tail _ (.tail _ (.tail _ (.head _))))))) ?_
              refine sA_getr (ci := 7) (j := 2) (q := (RX7, TX7, 5)) dd_X7_doTwist_160 rfl (by decide) fl_X7_15 (by decide) gs_s5 rfl ?_
              refine sA_iload dd_X7_doTwist_163 (.tail _ (.tail _ (.tail _ (.tail _ (.head _))))) ?_
              refine sA_iload dd_X7_doTwist_165 (.head _) ?_
              refine sA_iast (n := 3600) dd_X7_doTwist_167 (by decide) gs_s7 (by omega) (by decide) ?_
              have I30 : gs_I F1 (gs_up A1 7 s.toNat (A1 6 w.toNat)) := gs_I_ast hI1 (show (-9 : Int) ≤ A1 6 w.toNat ∧ A1 6 w.toNat ≤ 9 by omega)
              have f31 := gs_fr_ast hf1 (a := 7) (z := A1 6 w.toNat) (i := s.toNat) (by first | omega | (dsimp only; omega) | (dsimp only))
              generalize gs_up A1 7 s.toNat (A1 6 w.toNat) = A29 at I30 f31 ⊢
              refine sA_iinc (lv' := [(4, gs_iv (s + 1)), (9, gs_iv (A1 6 w.toNat)), (8, gs_iv w), (7, gs_iv e), (5, gs_iv k), (3, gs_iv m), (0, .ref 5), (2, .ref a)]) dd_X7_doTwist_168 (.tail _ (.tail _ (.tail _ (.tail _ (.head _))))) (by decide) rfl ?_
              refine sA_iinc (lv' := [(8, gs_iv (w + 1)), (4, gs_iv (s + 1)), (9, gs_iv (A1 6 w.toNat)), (7, gs_iv e), (5, gs_iv k), (3, gs_iv m), (0, .ref 5), (2, .ref a)]) dd_X7_doTwist_171 (.tail _ (.tail _ (.head _))) (by decide) rfl ?_
              refine sA_goto (tgt := 107) dd_X7_doTwist_174 (by decide) ?_
              refine sA_sub (lv2 := [(8, gs_iv (w + 1)), (7, gs_iv e), (5, gs_iv k), (4, gs_iv (s + 1)), (3, gs_iv m), (0, .ref 5), (2, .ref a)]) (List.forall_mem_cons.mpr ⟨(.head _), (List.forall_mem_cons.mpr ⟨(.tail _ (.tail _ (.tail _ (.head _)))), (List.forall_mem_cons.mpr ⟨(.tail _ (.tail _ (.tail _ (.tail _ (.head _))))), (List.forall_mem_cons.mpr ⟨(.tail _ (.head _)), (List.forall_mem_cons.mpr ⟨(.tail _ (.tail _ (.tail _ (.tail _ (.tail _ (.head _)))))), (List.forall_mem_cons.mpr ⟨(.tail _ (.tail _ (.tail _ (.tail _ (.tail _ (.tail _ (.head _))))))), (List.forall_mem_cons.mpr ⟨(.tail _ (.tail _ (.tail _ (.tail _ (.tail _ (.tail _ (.tail _ (.head _)))))))), (fun _ h => absurd h List.not_mem_nil)⟩)⟩)⟩)⟩)⟩)⟩)⟩) ?_
              exact ih.2 m (s + 1) k e (w + 1) F1 A29 I30 f31 (by omega) (by omega) (by omega) (by omega) (by omega) (by omega)
          · skip
            refine sA_iinc (lv' := [(4, gs_iv (s + (-1))), (9, gs_iv (A1 6 w.toNat)), (8, gs_iv w), (7, gs_iv e), (5, gs_iv k), (3, gs_iv m), (0, .ref 5), (2, .ref a)]) dd_X7_doTwist_143 (.tail _ (.tail _ (.tail _ (.tail _ (.head _))))) (by decide) rfl ?_
            refine sA_goto (tgt := 171) dd_X7_doTwist_146 (by decide) ?_
            refine sA_iinc (lv' := [(8, gs_iv (w + 1)), (4, gs_iv (s + (-1))), (9, gs_iv (A1 6 w.toNat)), (7, gs_iv e), (5, gs_iv k), (3, gs_iv m), (0, .ref 5), (2, .ref a)]) dd_X7_doTwist_171 (.tail _ (.tail _ (.head _))) (by decide) rfl ?_
            refine sA_goto (tgt := 107) dd_X7_doTwist_174 (by decide) ?_
            refine sA_sub (lv2 := [(8, gs_iv (w + 1)), (7, gs_iv e), (5, gs_iv k), (4, gs_iv (s + (-1))), (3, gs_iv m), (0, .ref 5), (2, .ref a)]) (List.forall_mem_cons.mpr ⟨(.head _), (List.forall_mem_cons.mpr ⟨(.tail _ (.tail _ (.tail _ (.head _)))), (List.forall_mem_cons.mpr ⟨(.tail _ (.tail _ (.tail _ (.tail _ (.head _))))), (List.forall_mem_cons.mpr ⟨(.tail _ (.head _)), (List.forall_mem_cons.mpr ⟨(.tail _ (.tail _ (.tail _ (.tail _ (.tail _ (.head _)))))), (List.forall_mem_cons.mpr ⟨(.tail _ (.tail _ (.tail _ (.tail _ (.tail _ (.tail _ (.head _))))))), (List.forall_mem_cons.mpr ⟨(.tail _ (.tail _ (.tail _ (.tail _ (.tail _ (.tail _ (.tail _ (.head _)))))))), (fun _ h => absurd h List.not_mem_nil)⟩)⟩)⟩)⟩)⟩)⟩)⟩) ?_
            exact ih.2 m (s + (-1)) k e (w + 1) F1 A1 hI1 hf1 (by omega) (by omega) (by omega) (by omega) (by omega) (by omega)
theorem c_X7_doTwist {a L : Nat} {u : Int} {F A : gs_F} (hI : gs_I F A) (hu : -2147483648 ≤ u ∧ u ≤ 2147483647) (hr : gs_row a L) : sC m_X7_doTwist 2 [.ref 5, gs_iv u, .ref a] F A (fun rv F' A' => ∃ z : Int, rv = some (gs_iv z) ∧ gs_I F' A' ∧ gs_fr (fun c j => c = a ∧ j = 1) (fun c => c = 7 ∨ c = a + 1) F A F' A' ∧ (z = 0 ∨ z = 1)) := by
  refine sC_of ok_X7_doTwist.1 (Nat.le_of_ble_eq_true rfl) ?_
  show sA _ _ _ 0 [(0, .ref 5), (1, gs_iv u), (2, .ref a)] [] F A
  have hf : gs_fr (fun c j => c = a ∧ j = 1) (fun c => c = 7 ∨ c = a + 1) F A F A := gs_fr_refl _ _ _ _
  have b32 := gs_row_sz hr hI
  refine sA_iload_n dd_X7_doTwist_0 rfl (.tail _ (.head _)) ?_
  refine sA_if_lt (tgt := 20) dd_X7_doTwist_1 (by decide) (by omega) (fun q33 => ?_) (fun q33 => ?_)
  · skip
    refine sA_iconst (z := 0) dd_X7_doTwist_20 ?_
    refine sA_bret (z := 0) dd_X7_doTwist_21 rfl (by omega) ?_
    exact ⟨_, rfl, hI, hf, by omega⟩
  · skip
    refine sA_iload_n dd_X7_doTwist_4 rfl (.tail _ (.head _)) ?_
    refine sA_bipush (z := 16) dd_X7_doTwist_5 (by decide) ?_
    refine sA_icmp_ge (tgt := 20) dd_X7_doTwist_7 (by decide) (by omega) (by omega) (fun q34 => ?_) (fun q34 => ?_)
    · skip
      refine sA_iconst (z := 0) dd_X7_doTwist_20 ?_
      refine sA_bret (z := 0) dd_X7_doTwist_21 rfl (by omega) ?_
      exact ⟨_, rfl, hI, hf, by omega⟩
    · skip
      refine sA_aload_n dd_X7_doTwist_10 rfl (.tail _ (.tail _ (.head _))) ?_
      refine sA_geti (ci := 4) (j := 1) (q := (RX4, TX4, 2)) dd_X7_doTwist_11 rfl (by decide) fl_X7_38 (Nat.lt_of_succ_lt hr.1) hr.2.1 rfl ?_
      refine sA_sipush (z := 400) dd_X7_doTwist_14 (by decide) ?_
      refine sA_icmp_le (tgt := 22) dd_X7_doTwist_17 (by decide) (by omega) (by omega) (fun q35 => ?_) (fun q35 => ?_)
      · skip
        refine sA_iload_n dd_X7_doTwist_22 rfl (.tail _ (.head _)) ?_
        refine sA_iconst (z := 0) dd_X7_doTwist_23 ?_
        refine sA_callS (y2 := m_X7_slotOf) (n2 := 2) (d2 := 1) (as := [gs_iv u, gs_iv 0]) (rest := []) dd_X7_doTwist_24 ok_X7_slotOf ml_X7_65 rfl rfl (Nat.le_of_ble_eq_true rfl) (by decide) (c_X7_slotOf ) (fun r36 F37 A38 h39 => ?_)
        obtain ⟨z42, e41, e43, e44, x40⟩ := h39
        subst e41 e43 e44
        show sA _ _ _ 27 _ [gs_iv z42] _ _
        refine sA_istore_n (lv' := [(3, gs_iv z42), (0, .ref 5), (1, gs_iv u), (2, .ref a)]) dd_X7_doTwist_27 rfl (by decide) rfl ?_
        refine sA_iconst (z := 0) dd_X7_doTwist_28 ?_
        refine sA_istore (lv' := [(4, gs_iv 0), (3, gs_iv z42), (0, .ref 5), (1, gs_iv u), (2, .ref a)]) dd_X7_doTwist_29 (by decide) rfl ?_
        refine sA_iconst (z := 0) dd_X7_doTwist_31 ?_
        refine sA_istore (lv' := [(5, gs_iv 0), (4, gs_iv 0), (3, gs_iv z42), (0, .ref 5), (1, gs_iv u), (2, .ref a)]) dd_X7_doTwist_32 (by decide) rfl ?_
        refine sA_sub (lv2 := [(5, gs_iv 0), (4, gs_iv 0), (3, gs_iv z42), (0, .ref 5), (2, .ref a)]) (List.forall_mem_cons.mpr ⟨(.head _), (List.forall_mem_cons.mpr ⟨(.tail _ (.head _)), (List.forall_mem_cons.mpr ⟨(.tail _ (.tail _ (.head _))), (List.forall_mem_cons.mpr ⟨(.tail _ (.tail _ (.tail _ (.head _)))), (List.forall_mem_cons.mpr ⟨(.tail _ (.tail _ (.tail _ (.tail _ (.tail _ (.head _)))))), (fun _ h => absurd h List.not_mem_nil)⟩)⟩)⟩)⟩)⟩) ?_
        exact (k_X7_doTwist hI hu hr ((F a 1 - 0) * 30 + 1 : Int).toNat.succ).1 z42 0 0 F A hI hf (by omega) (by omega) (by omega) (by omega)
      · skip
        refine sA_iconst (z := 0) dd_X7_doTwist_20 ?_
        refine sA_bret (z := 0) dd_X7_doTwist_21 rfl (by omega) ?_
        exact ⟨_, rfl, hI, hf, by omega⟩
theorem dd_X7_doPlan_0 : decode cX7_doPlan 0 = .ok (.aload_n 1, 1) := by decide +kernel
theorem dd_X7_doPlan_1 : decode cX7_doPlan 1 = .ok (.getfield 78, 3) := by decide +kernel
theorem dd_X7_doPlan_4 : decode cX7_doPlan 4 = .ok (.iconst 1, 1) := by decide +kernel
theorem dd_X7_doPlan_5 : decode cX7_doPlan 5 = .ok (.isub, 1) := by decide +kernel
theorem dd_X7_doPlan_6 : decode cX7_doPlan 6 = .ok (.istore_n 3, 1) := by decide +kernel
theorem dd_X7_doPlan_7 : decode cX7_doPlan 7 = .ok (.iload_n 3, 1) := by decide +kernel
theorem dd_X7_doPlan_8 : decode cX7_doPlan 8 = .ok (.ifCond .lt 25, 3) := by decide +kernel
theorem dd_X7_doPlan_11 : decode cX7_doPlan 11 = .ok (.aload_n 0, 1) := by decide +kernel
theorem dd_X7_doPlan_12 : decode cX7_doPlan 12 = .ok (.aload_n 1, 1) := by decide +kernel
theorem dd_X7_doPlan_13 : decode cX7_doPlan 13 = .ok (.getfield 81, 3) := by decide +kernel
theorem dd_X7_doPlan_16 : decode cX7_doPlan 16 = .ok (.iload_n 3, 1) := by decide +kernel
theorem dd_X7_doPlan_17 : decode cX7_doPlan 17 = .ok (.iaload, 1) := by decide +kernel
theorem dd_X7_doPlan_18 : decode cX7_doPlan 18 = .ok (.aload_n 2, 1) := by decide +kernel
theorem dd_X7_doPlan_19 : decode cX7_doPlan 19 = .ok (.invokevirtual 84, 3) := by decide +kernel
theorem dd_X7_doPlan_22 : decode cX7_doPlan 22 = .ok (.ifCond .ne 5, 3) := by decide +kernel
theorem dd_X7_doPlan_25 : decode cX7_doPlan 25 = .ok (.iconst 0, 1) := by decide +kernel
theorem dd_X7_doPlan_26 : decode cX7_doPlan 26 = .ok (.ireturn, 1) := by decide +kernel
theorem dd_X7_doPlan_27 : decode cX7_doPlan 27 = .ok (.iinc 3 (-1), 3) := by decide +kernel
theorem dd_X7_doPlan_30 : decode cX7_doPlan 30 = .ok (.goto (-23), 3) := by decide +kernel
theorem dd_X7_doPlan_33 : decode cX7_doPlan 33 = .ok (.iconst 1, 1) := by decide +kernel
theorem dd_X7_doPlan_34 : decode cX7_doPlan 34 = .ok (.ireturn, 1) := by decide +kernel
theorem fl_X7_78 : Cond.fieldLink RX7 78 (TX2 1).1 (TX2 1).2.1 (TX2 1).2.2.1 ∈ am_tbl := ri_lw_in (pl := 240) (by decide +kernel)
theorem fl_X7_81 : Cond.fieldLink RX7 81 (TX2 0).1 (TX2 0).2.1 (TX2 0).2.2.1 ∈ am_tbl := ri_lw_in (pl := 236) (by decide +kernel)
theorem ml_X7_84 : Cond.methodLink RX7 84 m_X7_doTwist.1 ∈ am_tbl := ri_lw_in (pl := 600) (by decide +kernel)
theorem ok_X7_doPlan : am_okM m_X7_doPlan 2 ∧ Cond.instanceMethod m_X7_doPlan.1 ∈ am_tbl ∧ Cond.selects m_X7_doPlan.1.cls m_X7_doPlan.1 m_X7_doPlan.1 ∈ am_tbl := ri_mk1 599 85 597 598 (by decide +kernel)
theorem k_X7_doPlan {a L b : Nat} {F A : gs_F} (hI : gs_I F A) (ho : gs_plan b) (hr : gs_row a L) : ∀ nN : Nat, (∀ (k : Int)  (F1 A1 : gs_F), gs_I F1 A1 → gs_fr (fun c j => c = a ∧ j = 1) (fun c => c = 7 ∨ c = a + 1) F A F1 A1 → -1 ≤ k ∧ k ≤ 59 → k + 1 < (nN : Int) → sA m_X7_doPlan 3 (fun rv F' A' => ∃ z : Int, rv = some (gs_iv z) ∧ gs_I F' A' ∧ gs_fr (fun c j => c = a ∧ j = 1) (fun c => c = 7 ∨ c = a + 1) F A F' A' ∧ (z = 0 ∨ z = 1)) 7 [(3, gs_iv k), (0, .ref 5), (1, .ref b), (2, .ref a)] [] F1 A1) := by
  intro nN
  induction nN with
  | zero =>
    exact fun a0 a1 a2 a3 a4 i0 hm => by exfalso; omega
  | succ nN ih =>
    intro k F1 A1 hI1 hf1 i0 hm
    have b1 := gs_plan_sz ho hI1
    have b2 := gs_row_sz hr hI1
    refine sA_iload_n dd_X7_doPlan_7 rfl (.head _) ?_
    refine sA_if_lt (tgt := 33) dd_X7_doPlan_8 (by decide) (by omega) (fun q3 => ?_) (fun q3 => ?_)
    · skip
      refine sA_iconst (z := 1) dd_X7_doPlan_33 ?_
      refine sA_bret (z := 1) dd_X7_doPlan_34 rfl (by omega) ?_
      exact ⟨_, rfl, hI1, hf1, by omega⟩
    · skip
      refine sA_aload_n dd_X7_doPlan_11 rfl (.tail _ (.head _)) ?_
      refine sA_aload_n dd_X7_doPlan_12 rfl (.tail _ (.tail _ (.head _))) ?_
      refine sA_getr (ci := 2) (j := 0) (q := (RX2, TX2, 2)) dd_X7_doPlan_13 rfl (by decide) fl_X7_81 (Nat.lt_of_succ_lt ho.1) ho.2.1 rfl ?_
      refine sA_iload_n dd_X7_doPlan_16 rfl (.head _) ?_
      refine sA_iald (n := 60) dd_X7_doPlan_17 ho.1 ho.2.2.1 (by omega) (by decide) ?_
      have b4 := gs_plan_el ho hI1 k.toNat
      refine sA_aload_n dd_X7_doPlan_18 rfl (.tail _ (.tail _ (.tail _ (.head _)))) ?_
      refine sA_callV (y2 := m_X7_doTwist) (n2 := 2) (d2 := 2) (a := 5) (ci := 7) (q := (RX7, TX7, 5)) (as := [gs_iv (A1 (b + 1) k.toNat), .ref a]) (rest := []) dd_X7_doPlan_19 ok_X7_doTwist ml_X7_84 rfl rfl (by decide) gs_s5 rfl rfl (Nat.le_of_ble_eq_true rfl) (by decide) (c_X7_doTwist hI1 (by omega) hr) (fun r5 F6 A7 h8 => ?_)
      obtain ⟨z11, e10, I12, f13, x9⟩ := h8
      subst e10
      have f14 := gs_fr_tr hf1 f13 (fun b j h => by first | exact False.elim h | omega | (dsimp only at h ⊢; omega)) (fun b h => by first | exact False.elim h | omega | (dsimp only at h ⊢; omega))
      show sA _ _ _ 22 _ [gs_iv z11] _ _
      refine sA_if_ne (tgt := 27) dd_X7_doPlan_22 (by decide) (by omega) (fun q15 => ?_) (fun q15 => ?_)
      · skip
        refine sA_iinc (lv' := [(3, gs_iv (k + (-1))), (0, .ref 5), (1, .ref b), (2, .ref a)]) dd_X7_doPlan_27 (.head _) (by decide) rfl ?_
        refine sA_goto (tgt := 7) dd_X7_doPlan_30 (by decide) ?_
        have b16 := gs_plan_sz ho I12
        have b17 := gs_row_sz hr I12
        refine sA_sub (lv2 := [(3, gs_iv (k + (-1))), (0, .ref 5), (1, .ref b), (2, .ref a)]) (List.forall_mem_cons.mpr ⟨(.head _), (List.forall_mem_cons.mpr ⟨(.tail _ (.head _)), (List.forall_mem_cons.mpr ⟨(.tail _ (.tail _ (.head _))), (List.forall_mem_cons.mpr ⟨(.tail _ (.tail _ (.tail _ (.head _)))), (fun _ h => absurd h List.not_mem_nil)⟩)⟩)⟩)⟩) ?_
        exact ih (k + (-1)) F6 A7 I12 f14 (by omega) (by omega)
      · skip
        refine sA_iconst (z := 0) dd_X7_doPlan_25 ?_
        refine sA_bret (z := 0) dd_X7_doPlan_26 rfl (by omega) ?_
        exact ⟨_, rfl, I12, f14, by omega⟩
theorem c_X7_doPlan {a L b : Nat} {F A : gs_F} (hI : gs_I F A) (ho : gs_plan b) (hr : gs_row a L) : sC m_X7_doPlan 3 [.ref 5, .ref b, .ref a] F A (fun rv F' A' => ∃ z : Int, rv = some (gs_iv z) ∧ gs_I F' A' ∧ gs_fr (fun c j => c = a ∧ j = 1) (fun c => c = 7 ∨ c = a + 1) F A F' A' ∧ (z = 0 ∨ z = 1)) := by
  refine sC_of ok_X7_doPlan.1 (Nat.le_of_ble_eq_true rfl) ?_
  show sA _ _ _ 0 [(0, .ref 5), (1, .ref b), (2, .ref a)] [] F A
  have hf : gs_fr (fun c j => c = a ∧ j = 1) (fun c => c = 7 ∨ c = a + 1) F A F A := gs_fr_refl _ _ _ _
  have b18 := gs_plan_sz ho hI
  have b19 := gs_row_sz hr hI
  refine sA_aload_n dd_X7_doPlan_0 rfl (.tail _ (.head _)) ?_
  refine sA_geti (ci := 2) (j := 1) (q := (RX2, TX2, 2)) dd_X7_doPlan_1 rfl (by decide) fl_X7_78 (Nat.lt_of_succ_lt ho.1) ho.2.1 rfl ?_
  refine sA_iconst (z := 1) dd_X7_doPlan_4 ?_
  refine sA_isub dd_X7_doPlan_5 ?_
  refine sA_istore_n (lv' := [(3, gs_iv ((F b 1) - 1)), (0, .ref 5), (1, .ref b), (2, .ref a)]) dd_X7_doPlan_6 rfl (by decide) rfl ?_
  refine sA_sub (lv2 := [(3, gs_iv ((F b 1) - 1)), (0, .ref 5), (1, .ref b), (2, .ref a)]) (List.forall_mem_cons.mpr ⟨(.head _), (List.forall_mem_cons.mpr ⟨(.tail _ (.head _)), (List.forall_mem_cons.mpr ⟨(.tail _ (.tail _ (.head _))), (List.forall_mem_cons.mpr ⟨(.tail _ (.tail _ (.tail _ (.head _)))), (fun _ h => absurd h List.not_mem_nil)⟩)⟩)⟩)⟩) ?_
  exact (k_X7_doPlan hI ho hr (((F b 1) - 1) + 1 : Int).toNat.succ) ((F b 1) - 1) F A hI hf (by omega) (by omega)
end
