noncomputable section
theorem dd_X6_isFigure_0 : decode cX6_isFigure 0 = .ok (.iload_n 0, 1) := by decide +kernel
theorem dd_X6_isFigure_1 : decode cX6_isFigure 1 = .ok (.bipush 48, 2) := by decide +kernel
theorem dd_X6_isFigure_3 : decode cX6_isFigure 3 = .ok (.if_icmp .lt 13, 3) := by decide +kernel
theorem dd_X6_isFigure_6 : decode cX6_isFigure 6 = .ok (.iload_n 0, 1) := by decide +kernel
theorem dd_X6_isFigure_7 : decode cX6_isFigure 7 = .ok (.bipush 57, 2) := by decide +kernel
theorem dd_X6_isFigure_9 : decode cX6_isFigure 9 = .ok (.if_icmp .gt 7, 3) := by decide +kernel
theorem dd_X6_isFigure_12 : decode cX6_isFigure 12 = .ok (.iconst 1, 1) := by decide +kernel
theorem dd_X6_isFigure_13 : decode cX6_isFigure 13 = .ok (.goto 4, 3) := by decide +kernel
theorem dd_X6_isFigure_16 : decode cX6_isFigure 16 = .ok (.iconst 0, 1) := by decide +kernel
theorem dd_X6_isFigure_17 : decode cX6_isFigure 17 = .ok (.ireturn, 1) := by decide +kernel
theorem ok_X6_isFigure : am_okM m_X6_isFigure 1 ∧ Cond.static m_X6_isFigure.1 ∈ am_tbl := ri_mk0 537 89 536 0 (by decide +kernel)
theorem c_X6_isFigure {v : Int} {F A : gs_F} (hv : -2147483648 ≤ v ∧ v ≤ 2147483647) : sC m_X6_isFigure 1 [gs_iv v] F A (fun rv F' A' => ∃ z : Int, rv = some (gs_iv z) ∧ F = F' ∧ A = A' ∧ ((z = 1 ∧ 48 ≤ v ∧ v ≤ 57) ∨ (z = 0 ∧ (v < 48 ∨ 57 < v)))) := by
  refine sC_of ok_X6_isFigure.1 (Nat.le_of_ble_eq_true rfl) ?_
  show sA _ _ _ 0 [(0, gs_iv v)] [] F A
  refine sA_iload_n dd_X6_isFigure_0 rfl (.head _) ?_
  refine sA_bipush (z := 48) dd_X6_isFigure_1 (by decide) ?_
  refine sA_icmp_lt (tgt := 16) dd_X6_isFigure_3 (by decide) (by omega) (by omega) (fun q1 => ?_) (fun q1 => ?_)
  · skip
    refine sA_iconst (z := 0) dd_X6_isFigure_16 ?_
    refine sA_bret (z := 0) dd_X6_isFigure_17 rfl (by omega) ?_
    exact ⟨_, rfl, rfl, rfl, by omega⟩
  · skip
    refine sA_iload_n dd_X6_isFigure_6 rfl (.head _) ?_
    refine sA_bipush (z := 57) dd_X6_isFigure_7 (by decide) ?_
    refine sA_icmp_gt (tgt := 16) dd_X6_isFigure_9 (by decide) (by omega) (by omega) (fun q2 => ?_) (fun q2 => ?_)
    · skip
      refine sA_iconst (z := 0) dd_X6_isFigure_16 ?_
      refine sA_bret (z := 0) dd_X6_isFigure_17 rfl (by omega) ?_
      exact ⟨_, rfl, rfl, rfl, by omega⟩
    · skip
      refine sA_iconst (z := 1) dd_X6_isFigure_12 ?_
      refine sA_goto (tgt := 17) dd_X6_isFigure_13 (by decide) ?_
      refine sA_bret (z := 1) dd_X6_isFigure_17 rfl (by omega) ?_
      exact ⟨_, rfl, rfl, rfl, by omega⟩
theorem dd_X6_add_0 : decode cX6_add 0 = .ok (.aload_n 0, 1) := by decide +kernel
theorem dd_X6_add_1 : decode cX6_add 1 = .ok (.getfield 29, 3) := by decide +kernel
theorem dd_X6_add_4 : decode cX6_add 4 = .ok (.aload_n 0, 1) := by decide +kernel
theorem dd_X6_add_5 : decode cX6_add 5 = .ok (.getfield 22, 3) := by decide +kernel
theorem dd_X6_add_8 : decode cX6_add 8 = .ok (.arraylength, 1) := by decide +kernel
theorem dd_X6_add_9 : decode cX6_add 9 = .ok (.if_icmp .ge 23, 3) := by decide +kernel
theorem dd_X6_add_12 : decode cX6_add 12 = .ok (.aload_n 0, 1) := by decide +kernel
theorem dd_X6_add_13 : decode cX6_add 13 = .ok (.getfield 22, 3) := by decide +kernel
theorem dd_X6_add_16 : decode cX6_add 16 = .ok (.aload_n 0, 1) := by decide +kernel
theorem dd_X6_add_17 : decode cX6_add 17 = .ok (.getfield 29, 3) := by decide +kernel
theorem dd_X6_add_20 : decode cX6_add 20 = .ok (.iload_n 1, 1) := by decide +kernel
theorem dd_X6_add_21 : decode cX6_add 21 = .ok (.iastore, 1) := by decide +kernel
theorem dd_X6_add_22 : decode cX6_add 22 = .ok (.aload_n 0, 1) := by decide +kernel
theorem dd_X6_add_23 : decode cX6_add 23 = .ok (.dup, 1) := by decide +kernel
theorem dd_X6_add_24 : decode cX6_add 24 = .ok (.getfield 29, 3) := by decide +kernel
theorem dd_X6_add_27 : decode cX6_add 27 = .ok (.iconst 1, 1) := by decide +kernel
theorem dd_X6_add_28 : decode cX6_add 28 = .ok (.iadd, 1) := by decide +kernel
theorem dd_X6_add_29 : decode cX6_add 29 = .ok (.putfield 29, 3) := by decide +kernel
theorem dd_X6_add_32 : decode cX6_add 32 = .ok (.return_, 1) := by decide +kernel
theorem gs_s43 : gs_sh 43 = .inl (6, [none, none, some 44, some 46, some 47, none, none, none, none, none]) := rfl
theorem gs_s46 : gs_sh 46 = .inr (.inl (0, 120)) := rfl
theorem fl_X6_22 : Cond.fieldLink RX6 22 (TX6 3).1 (TX6 3).2.1 (TX6 3).2.2.1 ∈ am_tbl := ri_lw_in (pl := 253) (by decide +kernel)
theorem fl_X6_29 : Cond.fieldLink RX6 29 (TX6 0).1 (TX6 0).2.1 (TX6 0).2.2.1 ∈ am_tbl := ri_lw_in (pl := 247) (by decide +kernel)
theorem ok_X6_add : am_okM m_X6_add 1 ∧ Cond.instanceMethod m_X6_add.1 ∈ am_tbl ∧ Cond.selects m_X6_add.1.cls m_X6_add.1 m_X6_add.1 ∈ am_tbl := ri_mk1 515 89 513 514 (by decide +kernel)
theorem c_X6_add {x : Int} {F A : gs_F} (hI : gs_I F A) (hx : -2147483648 ≤ x ∧ x ≤ 2147483647) : sC m_X6_add 1 [.ref 43, gs_iv x] F A (fun rv F' A' => rv = none ∧ gs_I F' A' ∧ gs_fr (fun c j => c = 43 ∧ j = 0) (fun c => c = 46) F A F' A' ∧ ((F 43 0 < 120 ∧ F' 43 0 = F 43 0 + 1) ∨ (F 43 0 = 120 ∧ F' 43 0 = 120))) := by
  refine sC_of ok_X6_add.1 (Nat.le_of_ble_eq_true rfl) ?_
  show sA _ _ _ 0 [(0, .ref 43), (1, gs_iv x)] [] F A
  have hf : gs_fr (fun c j => c = 43 ∧ j = 0) (fun c => c = 46) F A F A := gs_fr_refl _ _ _ _
  have b1 : (0 : Int) ≤ F 43 0 ∧ F 43 0 ≤ 120 := hI.1 43 0
  refine sA_aload_n dd_X6_add_0 rfl (.head _) ?_
  refine sA_geti (ci := 6) (j := 0) (q := (RX6, TX6, 10)) dd_X6_add_1 rfl (by decide) fl_X6_29 (by decide) gs_s43 rfl ?_
  refine sA_aload_n dd_X6_add_4 rfl (.head _) ?_
  refine sA_getr (ci := 6) (j := 3) (q := (RX6, TX6, 10)) dd_X6_add_5 rfl (by decide) fl_X6_22 (by decide) gs_s43 rfl ?_
  refine sA_alen (n := 120) dd_X6_add_8 (by decide) gs_s46 ?_
  refine sA_icmp_ge (tgt := 32) dd_X6_add_9 (by decide) (by omega) (by omega) (fun q2 => ?_) (fun q2 => ?_)
  · skip
    refine sA_vret dd_X6_add_32 rfl ?_
    exact ⟨rfl, hI, hf, by omega⟩
  · skip
    refine sA_aload_n dd_X6_add_12 rfl (.head _) ?_
    refine sA_getr (ci := 6) (j := 3) (q := (RX6, TX6, 10)) dd_X6_add_13 rfl (by decide) fl_X6_22 (by decide) gs_s43 rfl ?_
    refine sA_aload_n dd_X6_add_16 rfl (.head _) ?_
    refine sA_geti (ci := 6) (j := 0) (q := (RX6, TX6, 10)) dd_X6_add_17 rfl (by decide) fl_X6_29 (by decide) gs_s43 rfl ?_
    refine sA_iload_n dd_X6_add_20 rfl (.tail _ (.head _)) ?_
    refine sA_iast (n := 120) dd_X6_add_21 (by decide) gs_s46 (by omega) (by decide) ?_
    have I4 : gs_I F (gs_up A 46 ((F 43 0).toNat) x) := gs_I_ast hI (show (-2147483648 : Int) ≤ x ∧ x ≤ 2147483647 by omega)
    have f5 := gs_fr_ast hf (a := 46) (z := x) (i := (F 43 0).toNat) (by first | omega | (dsimp only; omega) | (dsimp only))
    generalize gs_up A 46 ((F 43 0).toNat) x = A3 at I4 f5 ⊢
    refine sA_aload_n dd_X6_add_22 rfl (.head _) ?_
    refine sA_dup dd_X6_add_23 rfl ?_
    refine sA_geti (ci := 6) (j := 0) (q := (RX6, TX6, 10)) dd_X6_add_24 rfl (by decide) fl_X6_29 (by decide) gs_s43 rfl ?_
    refine sA_iconst (z := 1) dd_X6_add_27 ?_
    refine sA_iadd dd_X6_add_28 ?_
    refine sA_put (ci := 6) (j := 0) (q := (RX6, TX6, 10)) (ty := .int) dd_X6_add_29 rfl (by decide) fl_X6_29 rfl (tyX6_ok 0 (by decide)) rfl rfl (by decide) gs_s43 rfl ?_
    have I7 : gs_I (gs_up F 43 0 ((F 43 0) + 1)) A3 := gs_I_put I4 (show (0 : Int) ≤ (F 43 0) + 1 ∧ (F 43 0) + 1 ≤ 120 by omega)
    have f8 := gs_fr_put f5 (a := 43) (z := (F 43 0) + 1) (j := 0) (by first | omega | (dsimp only; omega) | (dsimp only))
    have v9 : gs_up F 43 0 ((F 43 0) + 1) 43 0 = (F 43 0) + 1 := gs_up_self _ _ _ _
    generalize gs_up F 43 0 ((F 43 0) + 1) = F6 at I7 f8 v9 ⊢
    refine sA_vret dd_X6_add_32 rfl ?_
    exact ⟨rfl, I7, f8, by omega⟩
theorem dd_X6_takeHandle_0 : decode cX6_takeHandle 0 = .ok (.iload_n 1, 1) := by decide +kernel
theorem dd_X6_takeHandle_1 : decode cX6_takeHandle 1 = .ok (.invokestatic 56, 3) := by decide +kernel
theorem dd_X6_takeHandle_4 : decode cX6_takeHandle 4 = .ok (.ifCond .ne 5, 3) := by decide +kernel
theorem dd_X6_takeHandle_7 : decode cX6_takeHandle 7 = .ok (.iconst 1, 1) := by decide +kernel
theorem dd_X6_takeHandle_8 : decode cX6_takeHandle 8 = .ok (.ireturn, 1) := by decide +kernel
theorem dd_X6_takeHandle_9 : decode cX6_takeHandle 9 = .ok (.iload_n 1, 1) := by decide +kernel
theorem dd_X6_takeHandle_10 : decode cX6_takeHandle 10 = .ok (.bipush 48, 2) := by decide +kernel
theorem dd_X6_takeHandle_12 : decode cX6_takeHandle 12 = .ok (.isub, 1) := by decide +kernel
theorem dd_X6_takeHandle_13 : decode cX6_takeHandle 13 = .ok (.istore_n 2, 1) := by decide +kernel
theorem dd_X6_takeHandle_14 : decode cX6_takeHandle 14 = .ok (.iload_n 2, 1) := by decide +kernel
theorem dd_X6_takeHandle_15 : decode cX6_takeHandle 15 = .ok (.iconst 1, 1) := by decide +kernel
theorem dd_X6_takeHandle_16 : decode cX6_takeHandle 16 = .ok (.if_icmp .lt 28, 3) := by decide +kernel
theorem dd_X6_takeHandle_19 : decode cX6_takeHandle 19 = .ok (.iload_n 2, 1) := by decide +kernel
theorem dd_X6_takeHandle_20 : decode cX6_takeHandle 20 = .ok (.aload_n 0, 1) := by decide +kernel
theorem dd_X6_takeHandle_21 : decode cX6_takeHandle 21 = .ok (.getfield 60, 3) := by decide +kernel
theorem dd_X6_takeHandle_24 : decode cX6_takeHandle 24 = .ok (.iconst 2, 1) := by decide +kernel
theorem dd_X6_takeHandle_25 : decode cX6_takeHandle 25 = .ok (.if_icmp .ne 12, 3) := by decide +kernel
theorem dd_X6_takeHandle_28 : decode cX6_takeHandle 28 = .ok (.aload_n 0, 1) := by decide +kernel
theorem dd_X6_takeHandle_29 : decode cX6_takeHandle 29 = .ok (.getfield 33, 3) := by decide +kernel
theorem dd_X6_takeHandle_32 : decode cX6_takeHandle 32 = .ok (.iconst 1, 1) := by decide +kernel
theorem dd_X6_takeHandle_33 : decode cX6_takeHandle 33 = .ok (.isub, 1) := by decide +kernel
theorem dd_X6_takeHandle_34 : decode cX6_takeHandle 34 = .ok (.goto 7, 3) := by decide +kernel
theorem dd_X6_takeHandle_37 : decode cX6_takeHandle 37 = .ok (.aload_n 0, 1) := by decide +kernel
theorem dd_X6_takeHandle_38 : decode cX6_takeHandle 38 = .ok (.getfield 33, 3) := by decide +kernel
theorem dd_X6_takeHandle_41 : decode cX6_takeHandle 41 = .ok (.if_icmp .le 5, 3) := by decide +kernel
theorem dd_X6_takeHandle_44 : decode cX6_takeHandle 44 = .ok (.iconst 2, 1) := by decide +kernel
theorem dd_X6_takeHandle_45 : decode cX6_takeHandle 45 = .ok (.ireturn, 1) := by decide +kernel
theorem dd_X6_takeHandle_46 : decode cX6_takeHandle 46 = .ok (.aload_n 0, 1) := by decide +kernel
theorem dd_X6_takeHandle_47 : decode cX6_takeHandle 47 = .ok (.getfield 18, 3) := by decide +kernel
theorem dd_X6_takeHandle_50 : decode cX6_takeHandle 50 = .ok (.getfield 32, 3) := by decide +kernel
theorem dd_X6_takeHandle_53 : decode cX6_takeHandle 53 = .ok (.bipush 60, 2) := by decide +kernel
theorem dd_X6_takeHandle_55 : decode cX6_takeHandle 55 = .ok (.if_icmp .lt 13, 3) := by decide +kernel
theorem dd_X6_takeHandle_58 : decode cX6_takeHandle 58 = .ok (.aload_n 0, 1) := by decide +kernel
theorem dd_X6_takeHandle_59 : decode cX6_takeHandle 59 = .ok (.aload_n 0, 1) := by decide +kernel
theorem dd_X6_takeHandle_60 : decode cX6_takeHandle 60 = .ok (.getfield 63, 3) := by decide +kernel
theorem dd_X6_takeHandle_63 : decode cX6_takeHandle 63 = .ok (.putfield 9, 3) := by decide +kernel
theorem dd_X6_takeHandle_66 : decode cX6_takeHandle 66 = .ok (.iconst 3, 1) := by decide +kernel
theorem dd_X6_takeHandle_67 : decode cX6_takeHandle 67 = .ok (.ireturn, 1) := by decide +kernel
theorem dd_X6_takeHandle_68 : decode cX6_takeHandle 68 = .ok (.aload_n 0, 1) := by decide +kernel
theorem dd_X6_takeHandle_69 : decode cX6_takeHandle 69 = .ok (.getfield 18, 3) := by decide +kernel
theorem dd_X6_takeHandle_72 : decode cX6_takeHandle 72 = .ok (.iconst 2, 1) := by decide +kernel
theorem dd_X6_takeHandle_73 : decode cX6_takeHandle 73 = .ok (.aload_n 0, 1) := by decide +kernel
theorem dd_X6_takeHandle_74 : decode cX6_takeHandle 74 = .ok (.getfield 60, 3) := by decide +kernel
theorem dd_X6_takeHandle_77 : decode cX6_takeHandle 77 = .ok (.aload_n 0, 1) := by decide +kernel
theorem dd_X6_takeHandle_78 : decode cX6_takeHandle 78 = .ok (.getfield 33, 3) := by decide +kernel
theorem dd_X6_takeHandle_81 : decode cX6_takeHandle 81 = .ok (.imul, 1) := by decide +kernel
theorem dd_X6_takeHandle_82 : decode cX6_takeHandle 82 = .ok (.iload_n 2, 1) := by decide +kernel
theorem dd_X6_takeHandle_83 : decode cX6_takeHandle 83 = .ok (.iadd, 1) := by decide +kernel
theorem dd_X6_takeHandle_84 : decode cX6_takeHandle 84 = .ok (.iconst 1, 1) := by decide +kernel
theorem dd_X6_takeHandle_85 : decode cX6_takeHandle 85 = .ok (.isub, 1) := by decide +kernel
theorem dd_X6_takeHandle_86 : decode cX6_takeHandle 86 = .ok (.imul, 1) := by decide +kernel
theorem dd_X6_takeHandle_87 : decode cX6_takeHandle 87 = .ok (.invokevirtual 66, 3) := by decide +kernel
theorem dd_X6_takeHandle_90 : decode cX6_takeHandle 90 = .ok (.aload_n 0, 1) := by decide +kernel
theorem dd_X6_takeHandle_91 : decode cX6_takeHandle 91 = .ok (.iconst 2, 1) := by decide +kernel
theorem dd_X6_takeHandle_92 : decode cX6_takeHandle 92 = .ok (.putfield 39, 3) := by decide +kernel
theorem dd_X6_takeHandle_95 : decode cX6_takeHandle 95 = .ok (.iconst 0, 1) := by decide +kernel
theorem dd_X6_takeHandle_96 : decode cX6_takeHandle 96 = .ok (.ireturn, 1) := by decide +kernel
theorem fl_X6_18 : Cond.fieldLink RX6 18 (TX6 2).1 (TX6 2).2.1 (TX6 2).2.2.1 ∈ am_tbl := ri_lw_in (pl := 251) (by decide +kernel)
theorem fl_X6_32 : Cond.fieldLink RX6 32 (TX2 1).1 (TX2 1).2.1 (TX2 1).2.2.1 ∈ am_tbl := ri_lw_in (pl := 239) (by decide +kernel)
theorem fl_X6_33 : Cond.fieldLink RX6 33 (TX6 5).1 (TX6 5).2.1 (TX6 5).2.2.1 ∈ am_tbl := ri_lw_in (pl := 255) (by decide +kernel)
theorem fl_X6_39 : Cond.fieldLink RX6 39 (TX6 7).1 (TX6 7).2.1 (TX6 7).2.2.1 ∈ am_tbl := ri_lw_in (pl := 257) (by decide +kernel)
theorem fl_X6_60 : Cond.fieldLink RX6 60 (TX6 8).1 (TX6 8).2.1 (TX6 8).2.2.1 ∈ am_tbl := ri_lw_in (pl := 258) (by decide +kernel)
theorem fl_X6_63 : Cond.fieldLink RX6 63 (TX6 9).1 (TX6 9).2.1 (TX6 9).2.2.1 ∈ am_tbl := ri_lw_in (pl := 259) (by decide +kernel)
theorem fl_X6_9 : Cond.fieldLink RX6 9 (TX6 1).1 (TX6 1).2.1 (TX6 1).2.2.1 ∈ am_tbl := ri_lw_in (pl := 249) (by decide +kernel)
theorem ml_X6_56 : Cond.methodLink RX6 56 m_X6_isFigure.1 ∈ am_tbl := ri_lw_in (pl := 535) (by decide +kernel)
theorem ml_X6_66 : Cond.methodLink RX6 66 m_X2_add.1 ∈ am_tbl := ri_lw_in (pl := 538) (by decide +kernel)
theorem ok_X6_takeHandle : am_okM m_X6_takeHandle 1 ∧ Cond.instanceMethod m_X6_takeHandle.1 ∈ am_tbl ∧ Cond.selects m_X6_takeHandle.1.cls m_X6_takeHandle.1 m_X6_takeHandle.1 ∈ am_tbl := ri_mk1 534 89 533 14 (by decide +kernel)
theorem c_X6_takeHandle {v : Int} {F A : gs_F} (hI : gs_I F A) (hv : -2147483648 ≤ v ∧ v ≤ 2147483647) : sC m_X6_takeHandle 2 [.ref 43, gs_iv v] F A (fun rv F' A' => ∃ z : Int, rv = some (gs_iv z) ∧ gs_I F' A' ∧ gs_fr (fun c j => (c = 43 ∧ (j = 1 ∨ (6 ≤ j ∧ j ≤ 9))) ∨ (c = 44 ∧ j = 1)) (fun c => c = 45 ∨ c = 47) F A F' A' ∧ (0 ≤ z ∧ z ≤ 4)) := by
  refine sC_of ok_X6_takeHandle.1 (Nat.le_of_ble_eq_true rfl) ?_
  show sA _ _ _ 0 [(0, .ref 43), (1, gs_iv v)] [] F A
  have hf : gs_fr (fun c j => (c = 43 ∧ (j = 1 ∨ (6 ≤ j ∧ j ≤ 9))) ∨ (c = 44 ∧ j = 1)) (fun c => c = 45 ∨ c = 47) F A F A := gs_fr_refl _ _ _ _
  refine sA_iload_n dd_X6_takeHandle_0 rfl (.tail _ (.head _)) ?_
  refine sA_callS (y2 := m_X6_isFigure) (n2 := 1) (d2 := 1) (as := [gs_iv v]) (rest := []) dd_X6_takeHandle_1 ok_X6_isFigure ml_X6_56 rfl rfl (Nat.le_of_ble_eq_true rfl) (by decide) (c_X6_isFigure (by omega)) (fun r1 F2 A3 h4 => ?_)
  obtain ⟨z7, e6, e8, e9, x5⟩ := h4
  subst e6 e8 e9
  show sA _ _ _ 4 _ [gs_iv z7] _ _
  refine sA_if_ne (tgt := 9) dd_X6_takeHandle_4 (by decide) (by omega) (fun q10 => ?_) (fun q10 => ?_)
  · skip
    refine sA_iload_n dd_X6_takeHandle_9 rfl (.tail _ (.head _)) ?_
    refine sA_bipush (z := 48) dd_X6_takeHandle_10 (by decide) ?_
    refine sA_isub dd_X6_takeHandle_12 ?_
    refine sA_istore_n (lv' := [(2, gs_iv (v - 48)), (0, .ref 43), (1, gs_iv v)]) dd_X6_takeHandle_13 rfl (by decide) rfl ?_
    refine sA_iload_n dd_X6_takeHandle_14 rfl (.head _) ?_
    refine sA_iconst (z := 1) dd_X6_takeHandle_15 ?_
    refine sA_icmp_lt (tgt := 44) dd_X6_takeHandle_16 (by decide) (by omega) (by omega) (fun q11 => ?_) (fun q11 => ?_)
    · skip
      refine sA_iconst (z := 2) dd_X6_takeHandle_44 ?_
      refine sA_iret (z := 2) dd_X6_takeHandle_45 rfl ?_
      exact ⟨_, rfl, hI, hf, by omega⟩
    · skip
      refine sA_iload_n dd_X6_takeHandle_19 rfl (.head _) ?_
      refine sA_aload_n dd_X6_takeHandle_20 rfl (.tail _ (.head _)) ?_
      refine sA_geti (ci := 6) (j := 8) (q := (RX6, TX6, 10)) dd_X6_takeHandle_21 rfl (by decide) fl_X6_60 (by decide) gs_s43 rfl ?_
      have b12 : (-2147483648 : Int) ≤ F 43 8 ∧ F 43 8 ≤ 2147483647 := hI.1 43 8
      refine sA_iconst (z := 2) dd_X6_takeHandle_24 ?_
      refine sA_icmp_ne (tgt := 37) dd_X6_takeHandle_25 (by decide) (by omega) (by omega) (fun q13 => ?_) (fun q13 => ?_)
      · skip
        refine sA_aload_n dd_X6_takeHandle_37 rfl (.tail _ (.head _)) ?_
        refine sA_geti (ci := 6) (j := 5) (q := (RX6, TX6, 10)) dd_X6_takeHandle_38 rfl (by decide) fl_X6_33 (by decide) gs_s43 rfl ?_
        have b14 : (0 : Int) ≤ F 43 5 ∧ F 43 5 ≤ 3 := hI.1 43 5
        refine sA_icmp_le (tgt := 46) dd_X6_takeHandle_41 (by decide) (by omega) (by omega) (fun q15 => ?_) (fun q15 => ?_)
        · skip
          refine sA_aload_n dd_X6_takeHandle_46 rfl (.tail _ (.head _)) ?_
          refine sA_getr (ci := 6) (j := 2) (q := (RX6, TX6, 10)) dd_X6_takeHandle_47 rfl (by decide) fl_X6_18 (by decide) gs_s43 rfl ?_
          refine sA_geti (ci := 2) (j := 1) (q := (RX2, TX2, 2)) dd_X6_takeHandle_50 rfl (by decide) fl_X6_32 (Nat.lt_of_succ_lt gs_plan_44.1) gs_plan_44.2.1 rfl ?_
          have b16 := gs_plan_sz gs_plan_44 hI
          refine sA_bipush (z := 60) dd_X6_takeHandle_53 (by decide) ?_
          refine sA_icmp_lt (tgt := 68) dd_X6_takeHandle_55 (by decide) (by omega) (by omega) (fun q17 => ?_) (fun q17 => ?_)
          · skip
            refine sA_aload_n dd_X6_takeHandle_68 rfl (.tail _ (.head _)) ?_
            refine sA_getr (ci := 6) (j := 2) (q := (RX6, TX6, 10)) dd_X6_takeHandle_69 rfl (by decide) fl_X6_18 (by decide) gs_s43 rfl ?_
            refine sA_iconst (z := 2) dd_X6_takeHandle_72 ?_
            refine sA_aload_n dd_X6_takeHandle_73 rfl (.tail _ (.head _)) ?_
            refine sA_geti (ci := 6) (j := 8) (q := (RX6, TX6, 10)) dd_X6_takeHandle_74 rfl (by decide) fl_X6_60 (by decide) gs_s43 rfl ?_
            refine sA_aload_n dd_X6_takeHandle_77 rfl (.tail _ (.head _)) ?_
            refine sA_geti (ci := 6) (j := 5) (q := (RX6, TX6, 10)) dd_X6_takeHandle_78 rfl (by decide) fl_X6_33 (by decide) gs_s43 rfl ?_
            refine sA_imul dd_X6_takeHandle_81 ?_
            refine sA_iload_n dd_X6_takeHandle_82 rfl (.head _) ?_
            refine sA_iadd dd_X6_takeHandle_83 ?_
            refine sA_iconst (z := 1) dd_X6_takeHandle_84 ?_
            refine sA_isub dd_X6_takeHandle_85 ?_
            refine sA_imul dd_X6_takeHandle_86 ?_
            refine sA_wrap ?_
            have b19 := gs_w_rng (2 * ((((F 43 8) * (F 43 5)) + (v - 48)) - 1))
            generalize gs_w (2 * ((((F 43 8) * (F 43 5)) + (v - 48)) - 1)) = w18 at b19 ⊢
            refine sA_callV (y2 := m_X2_add) (n2 := 1) (d2 := 1) (a := 44) (ci := 2) (q := (RX2, TX2, 2)) (as := [gs_iv w18]) (rest := []) dd_X6_takeHandle_87 ok_X2_add ml_X6_66 rfl rfl (Nat.lt_of_succ_lt gs_plan_44.1) gs_plan_44.2.1 rfl rfl (Nat.le_of_ble_eq_true rfl) (by decide) (c_X2_add hI gs_plan_44 (by omega)) (fun r20 F21 A22 h23 => ?_)
            obtain ⟨e25, I26, f27, x24⟩ := h23
            subst e25
            have f28 := gs_fr_tr hf f27 (fun b j h => by first | exact False.elim h | omega | (dsimp only at h ⊢; omega)) (fun b h => by first | exact False.elim h | omega | (dsimp only at h ⊢; omega))
            show sA _ _ _ 90 _ [] _ _
            refine sA_aload_n dd_X6_takeHandle_90 rfl (.tail _ (.head _)) ?_
            refine sA_iconst (z := 2) dd_X6_takeHandle_91 ?_
            refine sA_put (ci := 6) (j := 7) (q := (RX6, TX6, 10)) (ty := .int) dd_X6_takeHandle_92 rfl (by decide) fl_X6_39 rfl (tyX6_ok 7 (by decide)) rfl rfl (by decide) gs_s43 rfl ?_
            have I30 : gs_I (gs_up F21 43 7 2) A22 := gs_I_put I26 (show (-2147483648 : Int) ≤ 2 ∧ 2 ≤ 2147483647 by omega)
            have f31 := gs_fr_put f28 (a := 43) (z := 2) (j := 7) (by first | omega | (dsimp only; omega) | (dsimp only))
            have v32 : gs_up F21 43 7 2 43 7 = 2 := gs_up_self _ _ _ _
            generalize gs_up F21 43 7 2 = F29 at I30 f31 v32 ⊢
            refine sA_iconst (z := 0) dd_X6_takeHandle_95 ?_
            refine sA_iret (z := 0) dd_X6_takeHandle_96 rfl ?_
            exact ⟨_, rfl, I30, f31, by omega⟩
          · skip
            refine sA_aload_n dd_X6_takeHandle_58 rfl (.tail _ (.head _)) ?_
            refine sA_aload_n dd_X6_takeHandle_59 rfl (.tail _ (.head _)) ?_
            refine sA_geti (ci := 6) (j := 9) (q := (RX6, TX6, 10)) dd_X6_takeHandle_60 rfl (by decide) fl_X6_63 (by decide) gs_s43 rfl ?_
            have b33 : (-2147483648 : Int) ≤ F 43 9 ∧ F 43 9 ≤ 2147483647 := hI.1 43 9
            refine sA_put (ci := 6) (j := 1) (q := (RX6, TX6, 10)) (ty := .int) dd_X6_takeHandle_63 rfl (by decide) fl_X6_9 rfl (tyX6_ok 1 (by decide)) rfl rfl (by decide) gs_s43 rfl ?_
            have I35 : gs_I (gs_up F 43 1 (F 43 9)) A := gs_I_put hI (show (-2147483648 : Int) ≤ F 43 9 ∧ F 43 9 ≤ 2147483647 by omega)
            have f36 := gs_fr_put hf (a := 43) (z := F 43 9) (j := 1) (by first | omega | (dsimp only; omega) | (dsimp only))
            have v37 : gs_up F 43 1 (F 43 9) 43 1 = F 43 9 := gs_up_self _ _ _ _
            generalize gs_up F 43 1 (F 43 9) = F34 at I35 f36 v37 ⊢
            refine sA_iconst (z := 3) dd_X6_takeHandle_66 ?_
            refine sA_iret (z := 3) dd_X6_takeHandle_67 rfl ?_
            exact ⟨_, rfl, I35, f36, by omega⟩
        · skip
          refine sA_iconst (z := 2) dd_X6_takeHandle_44 ?_
          refine sA_iret (z := 2) dd_X6_takeHandle_45 rfl ?_
          exact ⟨_, rfl, hI, hf, by omega⟩
      · skip
        refine sA_aload_n dd_X6_takeHandle_28 rfl (.tail _ (.head _)) ?_
        refine sA_geti (ci := 6) (j := 5) (q := (RX6, TX6, 10)) dd_X6_takeHandle_29 rfl (by decide) fl_X6_33 (by decide) gs_s43 rfl ?_
        have b38 : (0 : Int) ≤ F 43 5 ∧ F 43 5 ≤ 3 := hI.1 43 5
        refine sA_iconst (z := 1) dd_X6_takeHandle_32 ?_
        refine sA_isub dd_X6_takeHandle_33 ?_
        refine sA_goto (tgt := 41) dd_X6_takeHandle_34 (by decide) ?_
        refine sA_icmp_le (tgt := 46) dd_X6_takeHandle_41 (by decide) (by omega) (by omega) (fun q39 => ?_) (fun q39 => ?_)
        · skip
          refine sA_aload_n dd_X6_takeHandle_46 rfl (.tail _ (.head _)) ?_
          refine sA_getr (ci := 6) (j := 2) (q := (RX6, TX6, 10)) dd_X6_takeHandle_47 rfl (by decide) fl_X6_18 (by decide) gs_s43 rfl ?_
          refine sA_geti (ci := 2) (j := 1) (q := (RX2, TX2, 2)) dd_X6_takeHandle_50 rfl (by decide) fl_X6_32 (Nat.lt_of_succ_lt gs_plan_44.1) gs_plan_44.2.1 rfl ?_
          have b40 := gs_plan_sz gs_plan_44 hI
          refine sA_bipush (z := 60) dd_X6_takeHandle_53 (by decide) ?_
          refine sA_icmp_lt (tgt := 68) dd_X6_takeHandle_55 (by decide) (by omega) (by omega) (fun q41 => ?_) (fun q41 => ?_)
          · skip
            refine sA_aload_n dd_X6_takeHandle_68 rfl (.tail _ (.head _)) ?_
            refine sA_getr (ci := 6) (j := 2) (q := (RX6, TX6, 10)) dd_X6_takeHandle_69 rfl (by decide) fl_X6_18 (by decide) gs_s43 rfl ?_
            refine sA_iconst (z := 2) dd_X6_takeHandle_72 ?_
            refine sA_aload_n dd_X6_takeHandle_73 rfl (.tail _ (.head _)) ?_
            refine sA_geti (ci := 6) (j := 8) (q := (RX6, TX6, 10)) dd_X6_takeHandle_74 rfl (by decide) fl_X6_60 (by decide) gs_s43 rfl ?_
            refine sA_aload_n dd_X6_takeHandle_77 rfl (.tail _ (.head _)) ?_
            refine sA_geti (ci := 6) (j := 5) (q := (RX6, TX6, 10)) dd_X6_takeHandle_78 rfl (by decide) fl_X6_33 (by decide) gs_s43 rfl ?_
            refine sA_imul dd_X6_takeHandle_81 ?_
            refine sA_iload_n dd_X6_takeHandle_82 rfl (.head _) ?_
            refine sA_iadd dd_X6_takeHandle_83 ?_
            refine sA_iconst (z := 1) dd_X6_takeHandle_84 ?_
            refine sA_isub dd_X6_takeHandle_85 ?_
            refine sA_imul dd_X6_takeHandle_86 ?_
            refine sA_wrap ?_
            have b43 := gs_w_rng (2 * ((((F 43 8) * (F 43 5)) + (v - 48)) - 1))
            generalize gs_w (2 * ((((F 43 8) * (F 43 5)) + (v - 48)) - 1)) = w42 at b43 ⊢
            refine sA_callV (y2 := m_X2_add) (n2 := 1) (d2 := 1) (a := 44) (ci := 2) (q := (RX2, TX2, 2)) (as := [gs_iv w42]) (rest := []) dd_X6_takeHandle_87 ok_X2_add ml_X6_66 rfl rfl (Nat.lt_of_succ_lt gs_plan_44.1) gs_plan_44.2.1 rfl rfl (Nat.le_of_ble_eq_true rfl) (by decide) (c_X2_add hI gs_plan_44 (by omega)) (fun r44 F45 A46 h47 => ?_)
            obtain ⟨e49, I50, f51, x48⟩ := h47
            subst e49
            have f52 := gs_fr_tr hf f51 (fun b j h => by first | exact False.elim h | omega | (dsimp only at h ⊢; omega)) (fun b h => by first | exact False.elim h | omega | (dsimp only at h ⊢; omega))
            show sA _ _ _ 90 _ [] _ _
            refine sA_aload_n dd_X6_takeHandle_90 rfl (.tail _ (.head _)) ?_
            refine sA_iconst (z := 2) dd_X6_takeHandle_91 ?_
            refine sA_put (ci := 6) (j := 7) (q := (RX6, TX6, 10)) (ty := .int) dd_X6_takeHandle_92 rfl (by decide) fl_X6_39 rfl (tyX6_ok 7 (by decide)) rfl rfl (by decide) gs_s43 rfl ?_
            have I54 : gs_I (gs_up F45 43 7 2) A46 := gs_I_put I50 (show (-2147483648 : Int) ≤ 2 ∧ 2 ≤ 2147483647 by omega)
            have f55 := gs_fr_put f52 (a := 43) (z := 2) (j := 7) (by first | omega | (dsimp only; omega) | (dsimp only))
            have v56 : gs_up F45 43 7 2 43 7 = 2 := gs_up_self _ _ _ _
            generalize gs_up F45 43 7 2 = F53 at I54 f55 v56 ⊢
            refine sA_iconst (z := 0) dd_X6_takeHandle_95 ?_
            refine sA_iret (z := 0) dd_X6_takeHandle_96 rfl ?_
            exact ⟨_, rfl, I54, f55, by omega⟩
          · skip
            refine sA_aload_n dd_X6_takeHandle_58 rfl (.tail _ (.head _)) ?_
            refine sA_aload_n dd_X6_takeHandle_59 rfl (.tail _ (.head _)) ?_
            refine sA_geti (ci := 6) (j := 9) (q := (RX6, TX6, 10)) dd_X6_takeHandle_60 rfl (by decide) fl_X6_63 (by decide) gs_s43 rfl ?_
            have b57 : (-2147483648 : Int) ≤ F 43 9 ∧ F 43 9 ≤ 2147483647 := hI.1 43 9
            refine sA_put (ci := 6) (j := 1) (q := (RX6, TX6, 10)) (ty := .int) dd_X6_takeHandle_63 rfl (by decide) fl_X6_9 rfl (tyX6_ok 1 (by decide)) rfl rfl (by decide) gs_s43 rfl ?_
            have I59 : gs_I (gs_up F 43 1 (F 43 9)) A := gs_I_put hI (show (-2147483648 : Int) ≤ F 43 9 ∧ F 43 9 ≤ 2147483647 by omega)
            have f60 := gs_fr_put hf (a := 43) (z := F 43 9) (j := 1) (by first | omega | (dsimp only; omega) | (dsimp only))
            have v61 : gs_up F 43 1 (F 43 9) 43 1 = F 43 9 := gs_up_self _ _ _ _
            generalize gs_up F 43 1 (F 43 9) = F58 at I59 f60 v61 ⊢
            refine sA_iconst (z := 3) dd_X6_takeHandle_66 ?_
            refine sA_iret (z := 3) dd_X6_takeHandle_67 rfl ?_
            exact ⟨_, rfl, I59, f60, by omega⟩
        · skip
          refine sA_iconst (z := 2) dd_X6_takeHandle_44 ?_
          refine sA_iret (z := 2) dd_X6_takeHandle_45 rfl ?_
          exact ⟨_, rfl, hI, hf, by omega⟩
  · skip
    refine sA_iconst (z := 1) dd_X6_takeHandle_7 ?_
    refine sA_iret (z := 1) dd_X6_takeHandle_8 rfl ?_
    exact ⟨_, rfl, hI, hf, by omega⟩
theorem dd_X6_takeTimes_0 : decode cX6_takeTimes 0 = .ok (.iload_n 1, 1) := by decide +kernel
theorem dd_X6_takeTimes_1 : decode cX6_takeTimes 1 = .ok (.invokestatic 56, 3) := by decide +kernel
theorem dd_X6_takeTimes_4 : decode cX6_takeTimes 4 = .ok (.ifCond .ne 5, 3) := by decide +kernel
theorem dd_X6_takeTimes_7 : decode cX6_takeTimes 7 = .ok (.iconst 1, 1) := by decide +kernel
theorem dd_X6_takeTimes_8 : decode cX6_takeTimes 8 = .ok (.ireturn, 1) := by decide +kernel
theorem dd_X6_takeTimes_9 : decode cX6_takeTimes 9 = .ok (.iload_n 1, 1) := by decide +kernel
theorem dd_X6_takeTimes_10 : decode cX6_takeTimes 10 = .ok (.bipush 48, 2) := by decide +kernel
theorem dd_X6_takeTimes_12 : decode cX6_takeTimes 12 = .ok (.isub, 1) := by decide +kernel
theorem dd_X6_takeTimes_13 : decode cX6_takeTimes 13 = .ok (.istore_n 2, 1) := by decide +kernel
theorem dd_X6_takeTimes_14 : decode cX6_takeTimes 14 = .ok (.iload_n 2, 1) := by decide +kernel
theorem dd_X6_takeTimes_15 : decode cX6_takeTimes 15 = .ok (.iconst 1, 1) := by decide +kernel
theorem dd_X6_takeTimes_16 : decode cX6_takeTimes 16 = .ok (.if_icmp .ge 5, 3) := by decide +kernel
theorem dd_X6_takeTimes_19 : decode cX6_takeTimes 19 = .ok (.iconst 2, 1) := by decide +kernel
theorem dd_X6_takeTimes_20 : decode cX6_takeTimes 20 = .ok (.ireturn, 1) := by decide +kernel
theorem dd_X6_takeTimes_21 : decode cX6_takeTimes 21 = .ok (.aload_n 0, 1) := by decide +kernel
theorem dd_X6_takeTimes_22 : decode cX6_takeTimes 22 = .ok (.getfield 36, 3) := by decide +kernel
theorem dd_X6_takeTimes_25 : decode cX6_takeTimes 25 = .ok (.ifCond .lt 11, 3) := by decide +kernel
theorem dd_X6_takeTimes_28 : decode cX6_takeTimes 28 = .ok (.aload_n 0, 1) := by decide +kernel
theorem dd_X6_takeTimes_29 : decode cX6_takeTimes 29 = .ok (.getfield 36, 3) := by decide +kernel
theorem dd_X6_takeTimes_32 : decode cX6_takeTimes 32 = .ok (.iconst 4, 1) := by decide +kernel
theorem dd_X6_takeTimes_33 : decode cX6_takeTimes 33 = .ok (.if_icmp .lt 5, 3) := by decide +kernel
theorem dd_X6_takeTimes_36 : decode cX6_takeTimes 36 = .ok (.iconst 1, 1) := by decide +kernel
theorem dd_X6_takeTimes_37 : decode cX6_takeTimes 37 = .ok (.ireturn, 1) := by decide +kernel
theorem dd_X6_takeTimes_38 : decode cX6_takeTimes 38 = .ok (.aload_n 0, 1) := by decide +kernel
theorem dd_X6_takeTimes_39 : decode cX6_takeTimes 39 = .ok (.getfield 26, 3) := by decide +kernel
theorem dd_X6_takeTimes_42 : decode cX6_takeTimes 42 = .ok (.aload_n 0, 1) := by decide +kernel
theorem dd_X6_takeTimes_43 : decode cX6_takeTimes 43 = .ok (.getfield 36, 3) := by decide +kernel
theorem dd_X6_takeTimes_46 : decode cX6_takeTimes 46 = .ok (.iaload, 1) := by decide +kernel
theorem dd_X6_takeTimes_47 : decode cX6_takeTimes 47 = .ok (.istore_n 3, 1) := by decide +kernel
theorem dd_X6_takeTimes_48 : decode cX6_takeTimes 48 = .ok (.aload_n 0, 1) := by decide +kernel
theorem dd_X6_takeTimes_49 : decode cX6_takeTimes 49 = .ok (.getfield 18, 3) := by decide +kernel
theorem dd_X6_takeTimes_52 : decode cX6_takeTimes 52 = .ok (.getfield 32, 3) := by decide +kernel
theorem dd_X6_takeTimes_55 : decode cX6_takeTimes 55 = .ok (.iload_n 3, 1) := by decide +kernel
theorem dd_X6_takeTimes_56 : decode cX6_takeTimes 56 = .ok (.isub, 1) := by decide +kernel
theorem dd_X6_takeTimes_57 : decode cX6_takeTimes 57 = .ok (.istore 4, 2) := by decide +kernel
theorem dd_X6_takeTimes_59 : decode cX6_takeTimes 59 = .ok (.iload_n 3, 1) := by decide +kernel
theorem dd_X6_takeTimes_60 : decode cX6_takeTimes 60 = .ok (.iload 4, 2) := by decide +kernel
theorem dd_X6_takeTimes_62 : decode cX6_takeTimes 62 = .ok (.iload_n 2, 1) := by decide +kernel
theorem dd_X6_takeTimes_63 : decode cX6_takeTimes 63 = .ok (.imul, 1) := by decide +kernel
theorem dd_X6_takeTimes_64 : decode cX6_takeTimes 64 = .ok (.iadd, 1) := by decide +kernel
theorem dd_X6_takeTimes_65 : decode cX6_takeTimes 65 = .ok (.bipush 60, 2) := by decide +kernel
theorem dd_X6_takeTimes_67 : decode cX6_takeTimes 67 = .ok (.if_icmp .le 5, 3) := by decide +kernel
theorem dd_X6_takeTimes_70 : decode cX6_takeTimes 70 = .ok (.iconst 3, 1) := by decide +kernel
theorem dd_X6_takeTimes_71 : decode cX6_takeTimes 71 = .ok (.ireturn, 1) := by decide +kernel
theorem dd_X6_takeTimes_72 : decode cX6_takeTimes 72 = .ok (.iconst 0, 1) := by decide +kernel
theorem dd_X6_takeTimes_73 : decode cX6_takeTimes 73 = .ok (.istore 5, 2) := by decide +kernel
theorem dd_X6_takeTimes_75 : decode cX6_takeTimes 75 = .ok (.iload 5, 2) := by decide +kernel
theorem dd_X6_takeTimes_77 : decode cX6_takeTimes 77 = .ok (.iload 4, 2) := by decide +kernel
theorem dd_X6_takeTimes_79 : decode cX6_takeTimes 79 = .ok (.iload_n 2, 1) := by decide +kernel
theorem dd_X6_takeTimes_80 : decode cX6_takeTimes 80 = .ok (.iconst 1, 1) := by decide +kernel
theorem dd_X6_takeTimes_81 : decode cX6_takeTimes 81 = .ok (.isub, 1) := by decide +kernel
theorem dd_X6_takeTimes_82 : decode cX6_takeTimes 82 = .ok (.imul, 1) := by decide +kernel
theorem dd_X6_takeTimes_83 : decode cX6_takeTimes 83 = .ok (.if_icmp .ge 28, 3) := by decide +kernel
theorem dd_X6_takeTimes_86 : decode cX6_takeTimes 86 = .ok (.aload_n 0, 1) := by decide +kernel
theorem dd_X6_takeTimes_87 : decode cX6_takeTimes 87 = .ok (.getfield 18, 3) := by decide +kernel
theorem dd_X6_takeTimes_90 : decode cX6_takeTimes 90 = .ok (.aload_n 0, 1) := by decide +kernel
theorem dd_X6_takeTimes_91 : decode cX6_takeTimes 91 = .ok (.getfield 18, 3) := by decide +kernel
theorem dd_X6_takeTimes_94 : decode cX6_takeTimes 94 = .ok (.getfield 70, 3) := by decide +kernel
theorem dd_X6_takeTimes_97 : decode cX6_takeTimes 97 = .ok (.iload_n 3, 1) := by decide +kernel
theorem dd_X6_takeTimes_98 : decode cX6_takeTimes 98 = .ok (.iload 5, 2) := by decide +kernel
theorem dd_X6_takeTimes_100 : decode cX6_takeTimes 100 = .ok (.iadd, 1) := by decide +kernel
theorem dd_X6_takeTimes_101 : decode cX6_takeTimes 101 = .ok (.iaload, 1) := by decide +kernel
theorem dd_X6_takeTimes_102 : decode cX6_takeTimes 102 = .ok (.invokevirtual 66, 3) := by decide +kernel
theorem dd_X6_takeTimes_105 : decode cX6_takeTimes 105 = .ok (.iinc 5 1, 3) := by decide +kernel
theorem dd_X6_takeTimes_108 : decode cX6_takeTimes 108 = .ok (.goto (-33), 3) := by decide +kernel
theorem dd_X6_takeTimes_111 : decode cX6_takeTimes 111 = .ok (.aload_n 0, 1) := by decide +kernel
theorem dd_X6_takeTimes_112 : decode cX6_takeTimes 112 = .ok (.iconst 0, 1) := by decide +kernel
theorem dd_X6_takeTimes_113 : decode cX6_takeTimes 113 = .ok (.putfield 39, 3) := by decide +kernel
theorem dd_X6_takeTimes_116 : decode cX6_takeTimes 116 = .ok (.iconst 0, 1) := by decide +kernel
theorem dd_X6_takeTimes_117 : decode cX6_takeTimes 117 = .ok (.ireturn, 1) := by decide +kernel
theorem gs_s47 : gs_sh 47 = .inr (.inl (0, 4)) := rfl
theorem fl_X6_26 : Cond.fieldLink RX6 26 (TX6 4).1 (TX6 4).2.1 (TX6 4).2.2.1 ∈ am_tbl := ri_lw_in (pl := 254) (by decide +kernel)
theorem fl_X6_36 : Cond.fieldLink RX6 36 (TX6 6).1 (TX6 6).2.1 (TX6 6).2.2.1 ∈ am_tbl := ri_lw_in (pl := 256) (by decide +kernel)
theorem fl_X6_70 : Cond.fieldLink RX6 70 (TX2 0).1 (TX2 0).2.1 (TX2 0).2.2.1 ∈ am_tbl := ri_lw_in (pl := 235) (by decide +kernel)
theorem ok_X6_takeTimes : am_okM m_X6_takeTimes 1 ∧ Cond.instanceMethod m_X6_takeTimes.1 ∈ am_tbl ∧ Cond.selects m_X6_takeTimes.1.cls m_X6_takeTimes.1 m_X6_takeTimes.1 ∈ am_tbl := ri_mk1 545 89 544 15 (by decide +kernel)
theorem k_X6_takeTimes {v : Int} {F A : gs_F} (hI : gs_I F A) (hv : -2147483648 ≤ v ∧ v ≤ 2147483647) : ∀ nN : Nat, (∀ (t : Int) (s : Int) (p : Int) (k : Int)  (F1 A1 : gs_F), gs_I F1 A1 → gs_fr (fun c j => (c = 43 ∧ (j = 1 ∨ (6 ≤ j ∧ j ≤ 9))) ∨ (c = 44 ∧ j = 1)) (fun c => c = 45 ∨ c = 47) F A F1 A1 → 0 ≤ k ∧ k ≤ 600 → 1 ≤ t ∧ t ≤ 9 → 0 ≤ s ∧ s ≤ 60 → -60 ≤ p ∧ p ≤ 60 → s + p * t ≤ 60 → 600 - k < (nN : Int) → sA m_X6_takeTimes 2 (fun rv F' A' => ∃ z : Int, rv = some (gs_iv z) ∧ gs_I F' A' ∧ gs_fr (fun c j => (c = 43 ∧ (j = 1 ∨ (6 ≤ j ∧ j ≤ 9))) ∨ (c = 44 ∧ j = 1)) (fun c => c = 45 ∨ c = 47) F A F' A' ∧ (0 ≤ z ∧ z ≤ 4)) 75 [(5, gs_iv k), (4, gs_iv p), (3, gs_iv s), (2, gs_iv t), (0, .ref 43)] [] F1 A1) := by
  intro nN
  induction nN with
  | zero =>
    exact fun a0 a1 a2 a3 a4 a5 a6 a7 i0 i1 i2 i3 i4 hm => by exfalso; omega
  | succ nN ih =>
    intro t s p k F1 A1 hI1 hf1 i0 i1 i2 i3 i4 hm
    have hmu : p * (t - 1) = p * t - p := by rw [Int.mul_sub, Int.mul_one]
    have hmn : p ≤ 0 → p * (t - 1) ≤ 0 := fun h => gs_mul_np h (by omega)
    have hmb := gs_mul_bd (x := p) (y := t) (m := 60) (k := 9) (by omega) (by omega) (by omega)
    refine sA_iload dd_X6_takeTimes_75 (.head _) ?_
    refine sA_iload dd_X6_takeTimes_77 (.tail _ (.head _)) ?_
    refine sA_iload_n dd_X6_takeTimes_79 rfl (.tail _ (.tail _ (.tail _ (.head _)))) ?_
    refine sA_iconst (z := 1) dd_X6_takeTimes_80 ?_
    refine sA_isub dd_X6_takeTimes_81 ?_
    refine sA_imul dd_X6_takeTimes_82 ?_
    refine sA_icmp_ge (tgt := 111) dd_X6_takeTimes_83 (by decide) (by omega) (by omega) (fun q1 => ?_) (fun q1 => ?_)
    · skip
      refine sA_aload_n dd_X6_takeTimes_111 rfl (.tail _ (.tail _ (.tail _ (.tail _ (.head _))))) ?_
      refine sA_iconst (z := 0) dd_X6_takeTimes_112 ?_
      refine sA_put (ci := 6) (j := 7) (q := (RX6, TX6, 10)) (ty := .int) dd_X6_takeTimes_113 rfl (by decide) fl_X6_39 rfl (tyX6_ok 7 (by decide)) rfl rfl (by decide) gs_s43 rfl ?_
      have I3 : gs_I (gs_up F1 43 7 0) A1 := gs_I_put hI1 (show (-2147483648 : Int) ≤ 0 ∧ 0 ≤ 2147483647 by omega)
      have f4 := gs_fr_put hf1 (a := 43) (z := 0) (j := 7) (by first | omega | (dsimp only; omega) | (dsimp only))
      have v5 : gs_up F1 43 7 0 43 7 = 0 := gs_up_self _ _ _ _
      generalize gs_up F1 43 7 0 = F2 at I3 f4 v5 ⊢
      refine sA_iconst (z := 0) dd_X6_takeTimes_116 ?_
      refine sA_iret (z := 0) dd_X6_takeTimes_117 rfl ?_
      exact ⟨_, rfl, I3, f4, by omega⟩
    · skip
      refine sA_aload_n dd_X6_takeTimes_86 rfl (.tail _ (.tail _ (.tail _ (.tail _ (.head _))))) ?_
      refine sA_getr (ci := 6) (j := 2) (q := (RX6, TX6, 10)) dd_X6_takeTimes_87 rfl (by decide) fl_X6_18 (by decide) gs_s43 rfl ?_
      refine sA_aload_n dd_X6_takeTimes_90 rfl (.tail _ (.tail _ (.tail _ (.tail _ (.head _))))) ?_
      refine sA_getr (ci := 6) (j := 2) (q := (RX6, TX6, 10)) dd_X6_takeTimes_91 rfl (by decide) fl_X6_18 (by decide) gs_s43 rfl ?_
      refine sA_getr (ci := 2) (j := 0) (q := (RX2, TX2, 2)) dd_X6_takeTimes_94 rfl (by decide) fl_X6_70 (Nat.lt_of_succ_lt gs_plan_44.1) gs_plan_44.2.1 rfl ?_
      refine sA_iload_n dd_X6_takeTimes_97 rfl (.tail _ (.tail _ (.head _))) ?_
      refine sA_iload dd_X6_takeTimes_98 (.head _) ?_
      refine sA_iadd dd_X6_takeTimes_100 ?_
      refine sA_iald (n := 60) dd_X6_takeTimes_101 gs_plan_44.1 gs_plan_44.2.2.1 (by omega) (by decide) ?_
      have b6 := gs_plan_el gs_plan_44 hI1 (s + k).toNat
      refine sA_callV (y2 := m_X2_add) (n2 := 1) (d2 := 1) (a := 44) (ci := 2) (q := (RX2, TX2, 2)) (as := [gs_iv (A1 (44 + 1) (s + k).toNat)]) (rest := []) dd_X6_takeTimes_102 ok_X2_add ml_X6_66 rfl rfl (Nat.lt_of_succ_lt gs_plan_44.1) gs_plan_44.2.1 rfl rfl (Nat.le_of_ble_eq_true rfl) (by decide) (c_X2_add hI1 gs_plan_44 (by omega)) (fun r7 F8 A9 h10 => ?_)
      obtain ⟨e12, I13, f14, x11⟩ := h10
      subst e12
      have f15 := gs_fr_tr hf1 f14 (fun b j h => by first | exact False.elim h | omega | (dsimp only at h ⊢; omega)) (fun b h => by first | exact False.elim h | omega | (dsimp only at h ⊢; omega))
      show sA _ _ _ 105 _ [] _ _
      refine sA_iinc (lv' := [(5, gs_iv (k + 1)), (4, gs_iv p), (3, gs_iv s), (2, gs_iv t), (0, .ref 43)]) dd_X6_takeTimes_105 (.head _) (by decide) rfl ?_
      refine sA_goto (tgt := 75) dd_X6_takeTimes_108 (by decide) ?_
      refine sA_sub (lv2 := [(5, gs_iv (k + 1)), (4, gs_iv p), (3, gs_iv s), (2, gs_iv t), (0, .ref 43)]) (List.forall_mem_cons.mpr ⟨(.head _), (List.forall_mem_cons.mpr ⟨(.tail _ (.head _)), (List.forall_mem_cons.mpr ⟨(.tail _ (.tail _ (.head _))), (List.forall_mem_cons.mpr ⟨(.tail _ (.tail _ (.tail _ (.head _)))), (List.forall_mem_cons.mpr ⟨(.tail _ (.tail _ (.tail _ (.tail _ (.head _))))), (fun _ h => absurd h List.not_mem_nil)⟩)⟩)⟩)⟩)⟩) ?_
      exact ih t s p (k + 1) F8 A9 I13 f15 (by omega) (by omega) (by omega) (by omega) (by omega) (by omega)
theorem c_X6_takeTimes {v : Int} {F A : gs_F} (hI : gs_I F A) (hv : -2147483648 ≤ v ∧ v ≤ 2147483647) : sC m_X6_takeTimes 2 [.ref 43, gs_iv v] F A (fun rv F' A' => ∃ z : Int, rv = some (gs_iv z) ∧ gs_I F' A' ∧ gs_fr (fun c j => (c = 43 ∧ (j = 1 ∨ (6 ≤ j ∧ j ≤ 9))) ∨ (c = 44 ∧ j = 1)) (fun c => c = 45 ∨ c = 47) F A F' A' ∧ (0 ≤ z ∧ z ≤ 4)) := by
  refine sC_of ok_X6_takeTimes.1 (Nat.le_of_ble_eq_true rfl) ?_
  show sA _ _ _ 0 [(0, .ref 43), (1, gs_iv v)] [] F A
  have hf : gs_fr (fun c j => (c = 43 ∧ (j = 1 ∨ (6 ≤ j ∧ j ≤ 9))) ∨ (c = 44 ∧ j = 1)) (fun c => c = 45 ∨ c = 47) F A F A := gs_fr_refl _ _ _ _
  refine sA_iload_n dd_X6_takeTimes_0 rfl (.tail _ (.head _)) ?_
  refine sA_callS (y2 := m_X6_isFigure) (n2 := 1) (d2 := 1) (as := [gs_iv v]) (rest := []) dd_X6_takeTimes_1 ok_X6_isFigure ml_X6_56 rfl rfl (Nat.le_of_ble_eq_true rfl) (by decide) (c_X6_isFigure (by omega)) (fun r16 F17 A18 h19 => ?_)
  obtain ⟨z22, e21, e23, e24, x20⟩ := h19
  subst e21 e23 e24
  show sA _ _ _ 4 _ [gs_iv z22] _ _
  refine sA_if_ne (tgt := 9) dd_X6_takeTimes_4 (by decide) (by omega) (fun q25 => ?_) (fun q25 => ?_)
  · skip
    refine sA_iload_n dd_X6_takeTimes_9 rfl (.tail _ (.head _)) ?_
    refine sA_bipush (z := 48) dd_X6_takeTimes_10 (by decide) ?_
    refine sA_isub dd_X6_takeTimes_12 ?_
    refine sA_istore_n (lv' := [(2, gs_iv (v - 48)), (0, .ref 43), (1, gs_iv v)]) dd_X6_takeTimes_13 rfl (by decide) rfl ?_
    refine sA_iload_n dd_X6_takeTimes_14 rfl (.head _) ?_
    refine sA_iconst (z := 1) dd_X6_takeTimes_15 ?_
    refine sA_icmp_ge (tgt := 21) dd_X6_takeTimes_16 (by decide) (by omega) (by omega) (fun q26 => ?_) (fun q26 => ?_)
    · skip
      refine sA_aload_n dd_X6_takeTimes_21 rfl (.tail _ (.head _)) ?_
      refine sA_geti (ci := 6) (j := 6) (q := (RX6, TX6, 10)) dd_X6_takeTimes_22 rfl (by decide) fl_X6_36 (by decide) gs_s43 rfl ?_
      have b27 : (0 : Int) ≤ F 43 6 ∧ F 43 6 ≤ 4 := hI.1 43 6
      refine sA_if_lt (tgt := 36) dd_X6_takeTimes_25 (by decide) (by omega) (fun q28 => ?_) (fun q28 => ?_)
      · skip
        refine sA_iconst (z := 1) dd_X6_takeTimes_36 ?_
        refine sA_iret (z := 1) dd_X6_takeTimes_37 rfl ?_
        exact ⟨_, rfl, hI, hf, by omega⟩
      · skip
        refine sA_aload_n dd_X6_takeTimes_28 rfl (.tail _ (.head _)) ?_
        refine sA_geti (ci := 6) (j := 6) (q := (RX6, TX6, 10)) dd_X6_takeTimes_29 rfl (by decide) fl_X6_36 (by decide) gs_s43 rfl ?_
        refine sA_iconst (z := 4) dd_X6_takeTimes_32 ?_
        refine sA_icmp_lt (tgt := 38) dd_X6_takeTimes_33 (by decide) (by omega) (by omega) (fun q29 => ?_) (fun q29 => ?_)
        · skip
          refine sA_aload_n dd_X6_takeTimes_38 rfl (.tail _ (.head _)) ?_
          refine sA_getr (ci := 6) (j := 4) (q := (RX6, TX6, 10)) dd_X6_takeTimes_39 rfl (by decide) fl_X6_26 (by decide) gs_s43 rfl ?_
          refine sA_aload_n dd_X6_takeTimes_42 rfl (.tail _ (.head _)) ?_
          refine sA_geti (ci := 6) (j := 6) (q := (RX6, TX6, 10)) dd_X6_takeTimes_43 rfl (by decide) fl_X6_36 (by decide) gs_s43 rfl ?_
          refine sA_iald (n := 4) dd_X6_takeTimes_46 (by decide) gs_s47 (by omega) (by decide) ?_
          have b30 : (0 : Int) ≤ A 47 (F 43 6).toNat ∧ A 47 (F 43 6).toNat ≤ 60 := hI.2 47 (F 43 6).toNat
          refine sA_istore_n (lv' := [(3, gs_iv (A 47 (F 43 6).toNat)), (2, gs_iv (v - 48)), (0, .ref 43), (1, gs_iv v)]) dd_X6_takeTimes_47 rfl (by decide) rfl ?_
          refine sA_aload_n dd_X6_takeTimes_48 rfl (.tail _ (.tail _ (.head _))) ?_
          refine sA_getr (ci := 6) (j := 2) (q := (RX6, TX6, 10)) dd_X6_takeTimes_49 rfl (by decide) fl_X6_18 (by decide) gs_s43 rfl ?_
          refine sA_geti (ci := 2) (j := 1) (q := (RX2, TX2, 2)) dd_X6_takeTimes_52 rfl (by decide) fl_X6_32 (Nat.lt_of_succ_lt gs_plan_44.1) gs_plan_44.2.1 rfl ?_
          have b31 := gs_plan_sz gs_plan_44 hI
          refine sA_iload_n dd_X6_takeTimes_55 rfl (.head _) ?_
          refine sA_isub dd_X6_takeTimes_56 ?_
          refine sA_istore (lv' := [(4, gs_iv ((F 44 1) - (A 47 (F 43 6).toNat))), (3, gs_iv (A 47 (F 43 6).toNat)), (2, gs_iv (v - 48)), (0, .ref 43), (1, gs_iv v)]) dd_X6_takeTimes_57 (by decide) rfl ?_
          have hpt := gs_mul_bd (x := F 44 1 - A 47 (F 43 6).toNat) (y := v - 48) (m := 60) (k := 9) (by omega) (by omega) (by omega)
          refine sA_iload_n dd_X6_takeTimes_59 rfl (.tail _ (.head _)) ?_
          refine sA_iload dd_X6_takeTimes_60 (.head _) ?_
          refine sA_iload_n dd_X6_takeTimes_62 rfl (.tail _ (.tail _ (.head _))) ?_
          refine sA_imul dd_X6_takeTimes_63 ?_
          refine sA_iadd dd_X6_takeTimes_64 ?_
          refine sA_bipush (z := 60) dd_X6_takeTimes_65 (by decide) ?_
          refine sA_icmp_le (tgt := 72) dd_X6_takeTimes_67 (by decide) (by omega) (by omega) (fun q32 => ?_) (fun q32 => ?_)
          · skip
            refine sA_iconst (z := 0) dd_X6_takeTimes_72 ?_
            refine sA_istore (lv' := [(5, gs_iv 0), (4, gs_iv ((F 44 1) - (A 47 (F 43 6).toNat))), (3, gs_iv (A 47 (F 43 6).toNat)), (2, gs_iv (v - 48)), (0, .ref 43), (1, gs_iv v)]) dd_X6_takeTimes_73 (by decide) rfl ?_
            refine sA_sub (lv2 := [(5, gs_iv 0), (4, gs_iv ((F 44 1) - (A 47 (F 43 6).toNat))), (3, gs_iv (A 47 (F 43 6).toNat)), (2, gs_iv (v - 48)), (0, .ref 43)]) (List.forall_mem_cons.mpr ⟨(.head _), (List.forall_mem_cons.mpr ⟨(.tail _ (.head _)), (List.forall_mem_cons.mpr ⟨(.tail _ (.tail _ (.head _))), (List.forall_mem_cons.mpr ⟨(.tail _ (.tail _ (.tail _ (.head _)))), (List.forall_mem_cons.mpr ⟨(.tail _ (.tail _ (.tail _ (.tail _ (.head _))))), (fun _ h => absurd h List.not_mem_nil)⟩)⟩)⟩)⟩)⟩) ?_
            exact (k_X6_takeTimes hI hv (600 - 0 : Int).toNat.succ) (v - 48) (A 47 (F 43 6).toNat) ((F 44 1) - (A 47 (F 43 6).toNat)) 0 F A hI hf (by omega) (by omega) (by omega) (by omega) (by omega) (by omega)
          · skip
            refine sA_iconst (z := 3) dd_X6_takeTimes_70 ?_
            refine sA_iret (z := 3) dd_X6_takeTimes_71 rfl ?_
            exact ⟨_, rfl, hI, hf, by omega⟩
        · skip
          refine sA_iconst (z := 1) dd_X6_takeTimes_36 ?_
          refine sA_iret (z := 1) dd_X6_takeTimes_37 rfl ?_
          exact ⟨_, rfl, hI, hf, by omega⟩
    · skip
      refine sA_iconst (z := 2) dd_X6_takeTimes_19 ?_
      refine sA_iret (z := 2) dd_X6_takeTimes_20 rfl ?_
      exact ⟨_, rfl, hI, hf, by omega⟩
  · skip
    refine sA_iconst (z := 1) dd_X6_takeTimes_7 ?_
    refine sA_iret (z := 1) dd_X6_takeTimes_8 rfl ?_
    exact ⟨_, rfl, hI, hf, by omega⟩
theorem dd_X6_takeItem_0 : decode cX6_takeItem 0 = .ok (.aload_n 0, 1) := by decide +kernel
theorem dd_X6_takeItem_1 : decode cX6_takeItem 1 = .ok (.getfield 39, 3) := by decide +kernel
theorem dd_X6_takeItem_4 : decode cX6_takeItem 4 = .ok (.iconst 2, 1) := by decide +kernel
theorem dd_X6_takeItem_5 : decode cX6_takeItem 5 = .ok (.if_icmp .ne 7, 3) := by decide +kernel
theorem dd_X6_takeItem_8 : decode cX6_takeItem 8 = .ok (.iconst 1, 1) := by decide +kernel
theorem dd_X6_takeItem_9 : decode cX6_takeItem 9 = .ok (.goto 4, 3) := by decide +kernel
theorem dd_X6_takeItem_12 : decode cX6_takeItem 12 = .ok (.iconst 0, 1) := by decide +kernel
theorem dd_X6_takeItem_13 : decode cX6_takeItem 13 = .ok (.istore_n 3, 1) := by decide +kernel
theorem dd_X6_takeItem_14 : decode cX6_takeItem 14 = .ok (.aload_n 0, 1) := by decide +kernel
theorem dd_X6_takeItem_15 : decode cX6_takeItem 15 = .ok (.iconst 0, 1) := by decide +kernel
theorem dd_X6_takeItem_16 : decode cX6_takeItem 16 = .ok (.putfield 39, 3) := by decide +kernel
theorem dd_X6_takeItem_19 : decode cX6_takeItem 19 = .ok (.iload_n 1, 1) := by decide +kernel
theorem dd_X6_takeItem_20 : decode cX6_takeItem 20 = .ok (.bipush 45, 2) := by decide +kernel
theorem dd_X6_takeItem_22 : decode cX6_takeItem 22 = .ok (.if_icmp .ne 40, 3) := by decide +kernel
theorem dd_X6_takeItem_25 : decode cX6_takeItem 25 = .ok (.iload_n 3, 1) := by decide +kernel
theorem dd_X6_takeItem_26 : decode cX6_takeItem 26 = .ok (.ifCond .eq 36, 3) := by decide +kernel
theorem dd_X6_takeItem_29 : decode cX6_takeItem 29 = .ok (.aload_n 0, 1) := by decide +kernel
theorem dd_X6_takeItem_30 : decode cX6_takeItem 30 = .ok (.getfield 18, 3) := by decide +kernel
theorem dd_X6_takeItem_33 : decode cX6_takeItem 33 = .ok (.getfield 32, 3) := by decide +kernel
theorem dd_X6_takeItem_36 : decode cX6_takeItem 36 = .ok (.ifCond .le 26, 3) := by decide +kernel
theorem dd_X6_takeItem_39 : decode cX6_takeItem 39 = .ok (.aload_n 0, 1) := by decide +kernel
theorem dd_X6_takeItem_40 : decode cX6_takeItem 40 = .ok (.getfield 18, 3) := by decide +kernel
theorem dd_X6_takeItem_43 : decode cX6_takeItem 43 = .ok (.getfield 70, 3) := by decide +kernel
theorem dd_X6_takeItem_46 : decode cX6_takeItem 46 = .ok (.aload_n 0, 1) := by decide +kernel
theorem dd_X6_takeItem_47 : decode cX6_takeItem 47 = .ok (.getfield 18, 3) := by decide +kernel
theorem dd_X6_takeItem_50 : decode cX6_takeItem 50 = .ok (.getfield 32, 3) := by decide +kernel
theorem dd_X6_takeItem_53 : decode cX6_takeItem 53 = .ok (.iconst 1, 1) := by decide +kernel
theorem dd_X6_takeItem_54 : decode cX6_takeItem 54 = .ok (.isub, 1) := by decide +kernel
theorem dd_X6_takeItem_55 : decode cX6_takeItem 55 = .ok (.dup2, 1) := by decide +kernel
theorem dd_X6_takeItem_56 : decode cX6_takeItem 56 = .ok (.iaload, 1) := by decide +kernel
theorem dd_X6_takeItem_57 : decode cX6_takeItem 57 = .ok (.iconst 1, 1) := by decide +kernel
theorem dd_X6_takeItem_58 : decode cX6_takeItem 58 = .ok (.ixor, 1) := by decide +kernel
theorem dd_X6_takeItem_59 : decode cX6_takeItem 59 = .ok (.iastore, 1) := by decide +kernel
theorem dd_X6_takeItem_60 : decode cX6_takeItem 60 = .ok (.iconst 0, 1) := by decide +kernel
theorem dd_X6_takeItem_61 : decode cX6_takeItem 61 = .ok (.ireturn, 1) := by decide +kernel
theorem dd_X6_takeItem_62 : decode cX6_takeItem 62 = .ok (.iload_n 1, 1) := by decide +kernel
theorem dd_X6_takeItem_63 : decode cX6_takeItem 63 = .ok (.bipush 97, 2) := by decide +kernel
theorem dd_X6_takeItem_65 : decode cX6_takeItem 65 = .ok (.if_icmp .lt 29, 3) := by decide +kernel
theorem dd_X6_takeItem_68 : decode cX6_takeItem 68 = .ok (.iload_n 1, 1) := by decide +kernel
theorem dd_X6_takeItem_69 : decode cX6_takeItem 69 = .ok (.bipush 99, 2) := by decide +kernel
theorem dd_X6_takeItem_71 : decode cX6_takeItem 71 = .ok (.if_icmp .gt 23, 3) := by decide +kernel
theorem dd_X6_takeItem_74 : decode cX6_takeItem 74 = .ok (.aload_n 0, 1) := by decide +kernel
theorem dd_X6_takeItem_75 : decode cX6_takeItem 75 = .ok (.iload_n 1, 1) := by decide +kernel
theorem dd_X6_takeItem_76 : decode cX6_takeItem 76 = .ok (.bipush 97, 2) := by decide +kernel
theorem dd_X6_takeItem_78 : decode cX6_takeItem 78 = .ok (.isub, 1) := by decide +kernel
theorem dd_X6_takeItem_79 : decode cX6_takeItem 79 = .ok (.putfield 60, 3) := by decide +kernel
theorem dd_X6_takeItem_82 : decode cX6_takeItem 82 = .ok (.aload_n 0, 1) := by decide +kernel
theorem dd_X6_takeItem_83 : decode cX6_takeItem 83 = .ok (.iload_n 2, 1) := by decide +kernel
theorem dd_X6_takeItem_84 : decode cX6_takeItem 84 = .ok (.putfield 63, 3) := by decide +kernel
theorem dd_X6_takeItem_87 : decode cX6_takeItem 87 = .ok (.aload_n 0, 1) := by decide +kernel
theorem dd_X6_takeItem_88 : decode cX6_takeItem 88 = .ok (.iconst 1, 1) := by decide +kernel
theorem dd_X6_takeItem_89 : decode cX6_takeItem 89 = .ok (.putfield 39, 3) := by decide +kernel
theorem dd_X6_takeItem_92 : decode cX6_takeItem 92 = .ok (.iconst 0, 1) := by decide +kernel
theorem dd_X6_takeItem_93 : decode cX6_takeItem 93 = .ok (.ireturn, 1) := by decide +kernel
theorem dd_X6_takeItem_94 : decode cX6_takeItem 94 = .ok (.iload_n 1, 1) := by decide +kernel
theorem dd_X6_takeItem_95 : decode cX6_takeItem 95 = .ok (.bipush 40, 2) := by decide +kernel
theorem dd_X6_takeItem_97 : decode cX6_takeItem 97 = .ok (.if_icmp .ne 41, 3) := by decide +kernel
theorem dd_X6_takeItem_100 : decode cX6_takeItem 100 = .ok (.aload_n 0, 1) := by decide +kernel
theorem dd_X6_takeItem_101 : decode cX6_takeItem 101 = .ok (.getfield 36, 3) := by decide +kernel
theorem dd_X6_takeItem_104 : decode cX6_takeItem 104 = .ok (.iconst 4, 1) := by decide +kernel
theorem dd_X6_takeItem_105 : decode cX6_takeItem 105 = .ok (.if_icmp .lt 5, 3) := by decide +kernel
theorem dd_X6_takeItem_108 : decode cX6_takeItem 108 = .ok (.iconst 4, 1) := by decide +kernel
theorem dd_X6_takeItem_109 : decode cX6_takeItem 109 = .ok (.ireturn, 1) := by decide +kernel
theorem dd_X6_takeItem_110 : decode cX6_takeItem 110 = .ok (.aload_n 0, 1) := by decide +kernel
theorem dd_X6_takeItem_111 : decode cX6_takeItem 111 = .ok (.getfield 26, 3) := by decide +kernel
theorem dd_X6_takeItem_114 : decode cX6_takeItem 114 = .ok (.aload_n 0, 1) := by decide +kernel
theorem dd_X6_takeItem_115 : decode cX6_takeItem 115 = .ok (.getfield 36, 3) := by decide +kernel
theorem dd_X6_takeItem_118 : decode cX6_takeItem 118 = .ok (.aload_n 0, 1) := by decide +kernel
theorem dd_X6_takeItem_119 : decode cX6_takeItem 119 = .ok (.getfield 18, 3) := by decide +kernel
theorem dd_X6_takeItem_122 : decode cX6_takeItem 122 = .ok (.getfield 32, 3) := by decide +kernel
theorem dd_X6_takeItem_125 : decode cX6_takeItem 125 = .ok (.iastore, 1) := by decide +kernel
theorem dd_X6_takeItem_126 : decode cX6_takeItem 126 = .ok (.aload_n 0, 1) := by decide +kernel
theorem dd_X6_takeItem_127 : decode cX6_takeItem 127 = .ok (.dup, 1) := by decide +kernel
theorem dd_X6_takeItem_128 : decode cX6_takeItem 128 = .ok (.getfield 36, 3) := by decide +kernel
theorem dd_X6_takeItem_131 : decode cX6_takeItem 131 = .ok (.iconst 1, 1) := by decide +kernel
theorem dd_X6_takeItem_132 : decode cX6_takeItem 132 = .ok (.iadd, 1) := by decide +kernel
theorem dd_X6_takeItem_133 : decode cX6_takeItem 133 = .ok (.putfield 36, 3) := by decide +kernel
theorem dd_X6_takeItem_136 : decode cX6_takeItem 136 = .ok (.iconst 0, 1) := by decide +kernel
theorem dd_X6_takeItem_137 : decode cX6_takeItem 137 = .ok (.ireturn, 1) := by decide +kernel
theorem dd_X6_takeItem_138 : decode cX6_takeItem 138 = .ok (.iload_n 1, 1) := by decide +kernel
theorem dd_X6_takeItem_139 : decode cX6_takeItem 139 = .ok (.bipush 41, 2) := by decide +kernel
theorem dd_X6_takeItem_141 : decode cX6_takeItem 141 = .ok (.if_icmp .ne 27, 3) := by decide +kernel
theorem dd_X6_takeItem_144 : decode cX6_takeItem 144 = .ok (.aload_n 0, 1) := by decide +kernel
theorem dd_X6_takeItem_145 : decode cX6_takeItem 145 = .ok (.getfield 36, 3) := by decide +kernel
theorem dd_X6_takeItem_148 : decode cX6_takeItem 148 = .ok (.ifCond .le 20, 3) := by decide +kernel
theorem dd_X6_takeItem_151 : decode cX6_takeItem 151 = .ok (.aload_n 0, 1) := by decide +kernel
theorem dd_X6_takeItem_152 : decode cX6_takeItem 152 = .ok (.dup, 1) := by decide +kernel
theorem dd_X6_takeItem_153 : decode cX6_takeItem 153 = .ok (.getfield 36, 3) := by decide +kernel
theorem dd_X6_takeItem_156 : decode cX6_takeItem 156 = .ok (.iconst 1, 1) := by decide +kernel
theorem dd_X6_takeItem_157 : decode cX6_takeItem 157 = .ok (.isub, 1) := by decide +kernel
theorem dd_X6_takeItem_158 : decode cX6_takeItem 158 = .ok (.putfield 36, 3) := by decide +kernel
theorem dd_X6_takeItem_161 : decode cX6_takeItem 161 = .ok (.aload_n 0, 1) := by decide +kernel
theorem dd_X6_takeItem_162 : decode cX6_takeItem 162 = .ok (.iconst 3, 1) := by decide +kernel
theorem dd_X6_takeItem_163 : decode cX6_takeItem 163 = .ok (.putfield 39, 3) := by decide +kernel
theorem dd_X6_takeItem_166 : decode cX6_takeItem 166 = .ok (.iconst 0, 1) := by decide +kernel
theorem dd_X6_takeItem_167 : decode cX6_takeItem 167 = .ok (.ireturn, 1) := by decide +kernel
theorem dd_X6_takeItem_168 : decode cX6_takeItem 168 = .ok (.iconst 1, 1) := by decide +kernel
theorem dd_X6_takeItem_169 : decode cX6_takeItem 169 = .ok (.ireturn, 1) := by decide +kernel
theorem ok_X6_takeItem : am_okM m_X6_takeItem 2 ∧ Cond.instanceMethod m_X6_takeItem.1 ∈ am_tbl ∧ Cond.selects m_X6_takeItem.1.cls m_X6_takeItem.1 m_X6_takeItem.1 ∈ am_tbl := ri_mk1 549 89 548 16 (by decide +kernel)
theorem c_X6_takeItem {v q : Int} {F A : gs_F} (hI : gs_I F A) (hv : -2147483648 ≤ v ∧ v ≤ 2147483647) (hq : -2147483648 ≤ q ∧ q ≤ 2147483647) : sC m_X6_takeItem 1 [.ref 43, gs_iv v, gs_iv q] F A (fun rv F' A' => ∃ z : Int, rv = some (gs_iv z) ∧ gs_I F' A' ∧ gs_fr (fun c j => (c = 43 ∧ (j = 1 ∨ (6 ≤ j ∧ j ≤ 9))) ∨ (c = 44 ∧ j = 1)) (fun c => c = 45 ∨ c = 47) F A F' A' ∧ (0 ≤ z ∧ z ≤ 4)) := by
  refine sC_of ok_X6_takeItem.1 (Nat.le_of_ble_eq_true rfl) ?_
  show sA _ _ _ 0 [(0, .ref 43), (1, gs_iv v), (2, gs_iv q)] [] F A
  have hf : gs_fr (fun c j => (c = 43 ∧ (j = 1 ∨ (6 ≤ j ∧ j ≤ 9))) ∨ (c = 44 ∧ j = 1)) (fun c => c = 45 ∨ c = 47) F A F A := gs_fr_refl _ _ _ _
  refine sA_aload_n dd_X6_takeItem_0 rfl (.head _) ?_
  refine sA_geti (ci := 6) (j := 7) (q := (RX6, TX6, 10)) dd_X6_takeItem_1 rfl (by decide) fl_X6_39 (by decide) gs_s43 rfl ?_
  have b1 : (-2147483648 : Int) ≤ F 43 7 ∧ F 43 7 ≤ 2147483647 := hI.1 43 7
  refine sA_iconst (z := 2) dd_X6_takeItem_4 ?_
  refine sA_icmp_ne (tgt := 12) dd_X6_takeItem_5 (by decide) (by omega) (by omega) (fun q2 => ?_) (fun q2 => ?_)
  · skip
    refine sA_iconst (z := 0) dd_X6_takeItem_12 ?_
    refine sA_istore_n (lv' := [(3, gs_iv 0), (0, .ref 43), (1, gs_iv v), (2, gs_iv q)]) dd_X6_takeItem_13 rfl (by decide) rfl ?_
    refine sA_aload_n dd_X6_takeItem_14 rfl (.tail _ (.head _)) ?_
    refine sA_iconst (z := 0) dd_X6_takeItem_15 ?_
    refine sA_put (ci := 6) (j := 7) (q := (RX6, TX6, 10)) (ty := .int) dd_X6_takeItem_16 rfl (by decide) fl_X6_39 rfl (tyX6_ok 7 (by decide)) rfl rfl (by decide) gs_s43 rfl ?_
    have I4 : gs_I (gs_up F 43 7 0) A := gs_I_put hI (show (-2147483648 : Int) ≤ 0 ∧ 0 ≤ 2147483647 by omega)
    have f5 := gs_fr_put hf (a := 43) (z := 0) (j := 7) (by first | omega | (dsimp only; omega) | (dsimp only))
    have v6 : gs_up F 43 7 0 43 7 = 0 := gs_up_self _ _ _ _
    generalize gs_up F 43 7 0 = F3 at I4 f5 v6 ⊢
    refine sA_iload_n dd_X6_takeItem_19 rfl (.tail _ (.tail _ (.head _))) ?_
    refine sA_bipush (z := 45) dd_X6_takeItem_20 (by decide) ?_
    refine sA_icmp_ne (tgt := 62) dd_X6_takeItem_22 (by decide) (by omega) (by omega) (fun q7 => ?_) (fun q7 => ?_)
    · skip
      refine sA_iload_n dd_X6_takeItem_62 rfl (.tail _ (.tail _ (.head _))) ?_
      refine sA_bipush (z := 97) dd_X6_takeItem_63 (by decide) ?_
      refine sA_icmp_lt (tgt := 94) dd_X6_takeItem_65 (by decide) (by omega) (by omega) (fun q8 => ?_) (fun q8 => ?_)
      · skip
        refine sA_iload_n dd_X6_takeItem_94 rfl (.tail _ (.tail _ (.head _))) ?_
        refine sA_bipush (z := 40) dd_X6_takeItem_95 (by decide) ?_
        refine sA_icmp_ne (tgt := 138) dd_X6_takeItem_97 (by decide) (by omega) (by omega) (fun q9 => ?_) (fun q9 => ?_)
        · skip
          refine sA_iload_n dd_X6_takeItem_138 rfl (.tail _ (.tail _ (.head _))) ?_
          refine sA_bipush (z := 41) dd_X6_takeItem_139 (by decide) ?_
          refine sA_icmp_ne (tgt := 168) dd_X6_takeItem_141 (by decide) (by omega) (by omega) (fun q10 => ?_) (fun q10 => ?_)
          · skip
            refine sA_iconst (z := 1) dd_X6_takeItem_168 ?_
            refine sA_iret (z := 1) dd_X6_takeItem_169 rfl ?_
            exact ⟨_, rfl, I4, f5, by omega⟩
          · skip
            refine sA_aload_n dd_X6_takeItem_144 rfl (.tail _ (.head _)) ?_
            refine sA_geti (ci := 6) (j := 6) (q := (RX6, TX6, 10)) dd_X6_takeItem_145 rfl (by decide) fl_X6_36 (by decide) gs_s43 rfl ?_
            have b11 : (0 : Int) ≤ F3 43 6 ∧ F3 43 6 ≤ 4 := I4.1 43 6
            refine sA_if_le (tgt := 168) dd_X6_takeItem_148 (by decide) (by omega) (fun q12 => ?_) (fun q12 => ?_)
            · skip
              refine sA_iconst (z := 1) dd_X6_takeItem_168 ?_
              refine sA_iret (z := 1) dd_X6_takeItem_169 rfl ?_
              exact ⟨_, rfl, I4, f5, by omega⟩
            · skip
              refine sA_aload_n dd_X6_takeItem_151 rfl (.tail _ (.head _)) ?_
              refine sA_dup dd_X6_takeItem_152 rfl ?_
              refine sA_geti (ci := 6) (j := 6) (q := (RX6, TX6, 10)) dd_X6_takeItem_153 rfl (by decide) fl_X6_36 (by decide) gs_s43 rfl ?_
              refine sA_iconst (z := 1) dd_X6_takeItem_156 ?_
              refine sA_isub dd_X6_takeItem_157 ?_
              refine sA_put (ci := 6) (j := 6) (q := (RX6, TX6, 10)) (ty := .int) dd_X6_takeItem_158 rfl (by decide) fl_X6_36 rfl (tyX6_ok 6 (by decide)) rfl rfl (by decide) gs_s43 rfl ?_
              have I14 : gs_I (gs_up F3 43 6 ((F3 43 6) - 1)) A := gs_I_put I4 (show (0 : Int) ≤ (F3 43 6) - 1 ∧ (F3 43 6) - 1 ≤ 4 by omega)
              have f15 := gs_fr_put f5 (a := 43) (z := (F3 43 6) - 1) (j := 6) (by first | omega | (dsimp only; omega) | (dsimp only))
              have v16 : gs_up F3 43 6 ((F3 43 6) - 1) 43 6 = (F3 43 6) - 1 := gs_up_self _ _ _ _
              generalize gs_up F3 43 6 ((F3 43 6) - 1) = F13 at I14 f15 v16 ⊢
              refine sA_aload_n dd_X6_takeItem_161 rfl (.tail _ (.head _)) ?_
              refine sA_iconst (z := 3) dd_X6_takeItem_162 ?_
              refine sA_put (ci := 6) (j := 7) (q := (RX6, TX6, 10)) (ty := .int) dd_X6_takeItem_163 rfl (by decide) fl_X6_39 rfl (tyX6_ok 7 (by decide)) rfl rfl (by decide) gs_s43 rfl ?_
              have I18 : gs_I (gs_up F13 43 7 3) A := gs_I_put I14 (show (-2147483648 : Int) ≤ 3 ∧ 3 ≤ 2147483647 by omega)
              have f19 := gs_fr_put f15 (a := 43) (z := 3) (j := 7) (by first | omega | (dsimp only; omega) | (dsimp only))
              have v20 : gs_up F13 43 7 3 43 7 = 3 := gs_up_self _ _ _ _
              generalize gs_up F13 43 7 3 = F17 at I18 f19 v20 ⊢
              refine sA_iconst (z := 0) dd_X6_takeItem_166 ?_
              refine sA_iret (z := 0) dd_X6_takeItem_167 rfl ?_
              exact ⟨_, rfl, I18, f19, by omega⟩
        · skip
          refine sA_aload_n dd_X6_takeItem_100 rfl (.tail _ (.head _)) ?_
          refine sA_geti (ci := 6) (j := 6) (q := (RX6, TX6, 10)) dd_X6_takeItem_101 rfl (by decide) fl_X6_36 (by decide) gs_s43 rfl ?_
          have b21 : (0 : Int) ≤ F3 43 6 ∧ F3 43 6 ≤ 4 := I4.1 43 6
          refine sA_iconst (z := 4) dd_X6_takeItem_104 ?_
          refine sA_icmp_lt (tgt := 110) dd_X6_takeItem_105 (by decide) (by omega) (by omega) (fun q22 => ?_) (fun q22 => ?_)
          · skip
            refine sA_aload_n dd_X6_takeItem_110 rfl (.tail _ (.head _)) ?_
            refine sA_getr (ci := 6) (j := 4) (q := (RX6, TX6, 10)) dd_X6_takeItem_111 rfl (by decide) fl_X6_26 (by decide) gs_s43 rfl ?_
            refine sA_aload_n dd_X6_takeItem_114 rfl (.tail _ (.head _)) ?_
            refine sA_geti (ci := 6) (j := 6) (q := (RX6, TX6, 10)) dd_X6_takeItem_115 rfl (by decide) fl_X6_36 (by decide) gs_s43 rfl ?_
            refine sA_aload_n dd_X6_takeItem_118 rfl (.tail _ (.head _)) ?_
            refine sA_getr (ci := 6) (j := 2) (q := (RX6, TX6, 10)) dd_X6_takeItem_119 rfl (by decide) fl_X6_18 (by decide) gs_s43 rfl ?_
            refine sA_geti (ci := 2) (j := 1) (q := (RX2, TX2, 2)) dd_X6_takeItem_122 rfl (by decide) fl_X6_32 (Nat.lt_of_succ_lt gs_plan_44.1) gs_plan_44.2.1 rfl ?_
            have b23 := gs_plan_sz gs_plan_44 I4
            refine sA_iast (n := 4) dd_X6_takeItem_125 (by decide) gs_s47 (by omega) (by decide) ?_
            have I25 : gs_I F3 (gs_up A 47 ((F3 43 6).toNat) (F3 44 1)) := gs_I_ast I4 (show (0 : Int) ≤ F3 44 1 ∧ F3 44 1 ≤ 60 by omega)
            have f26 := gs_fr_ast f5 (a := 47) (z := F3 44 1) (i := (F3 43 6).toNat) (by first | omega | (dsimp only; omega) | (dsimp only))
            generalize gs_up A 47 ((F3 43 6).toNat) (F3 44 1) = A24 at I25 f26 ⊢
            refine sA_aload_n dd_X6_takeItem_126 rfl (.tail _ (.head _)) ?_
            refine sA_dup dd_X6_takeItem_127 rfl ?_
            refine sA_geti (ci := 6) (j := 6) (q := (RX6, TX6, 10)) dd_X6_takeItem_128 rfl (by decide) fl_X6_36 (by decide) gs_s43 rfl ?_
            refine sA_iconst (z := 1) dd_X6_takeItem_131 ?_
            refine sA_iadd dd_X6_takeItem_132 ?_
            refine sA_put (ci := 6) (j := 6) (q := (RX6, TX6, 10)) (ty := .int) dd_X6_takeItem_133 rfl (by decide) fl_X6_36 rfl (tyX6_ok 6 (by decide)) rfl rfl (by decide) gs_s43 rfl ?_
            have I28 : gs_I (gs_up F3 43 6 ((F3 43 6) + 1)) A24 := gs_I_put I25 (show (0 : Int) ≤ (F3 43 6) + 1 ∧ (F3 43 6) + 1 ≤ 4 by omega)
            have f29 := gs_fr_put f26 (a := 43) (z := (F3 43 6) + 1) (j := 6) (by first | omega | (dsimp only; omega) | (dsimp only))
            have v30 : gs_up F3 43 6 ((F3 43 6) + 1) 43 6 = (F3 43 6) + 1 := gs_up_self _ _ _ _
            generalize gs_up F3 43 6 ((F3 43 6) + 1) = F27 at I28 f29 v30 ⊢
            refine sA_iconst (z := 0) dd_X6_takeItem_136 ?_
            refine sA_iret (z := 0) dd_X6_takeItem_137 rfl ?_
            exact ⟨_, rfl, I28, f29, by omega⟩
          · skip
            refine sA_iconst (z := 4) dd_X6_takeItem_108 ?_
            refine sA_iret (z := 4) dd_X6_takeItem_109 rfl ?_
            exact ⟨_, rfl, I4, f5, by omega⟩
      · skip
        refine sA_iload_n dd_X6_takeItem_68 rfl (.tail _ (.tail _ (.head _))) ?_
        refine sA_bipush (z := 99) dd_X6_takeItem_69 (by decide) ?_
        refine sA_icmp_gt (tgt := 94) dd_X6_takeItem_71 (by decide) (by omega) (by omega) (fun q31 => ?_) (fun q31 => ?_)
        · skip
          refine sA_iload_n dd_X6_takeItem_94 rfl (.tail _ (.tail _ (.head _))) ?_
          refine sA_bipush (z := 40) dd_X6_takeItem_95 (by decide) ?_
          refine sA_icmp_ne (tgt := 138) dd_X6_takeItem_97 (by decide) (by omega) (by omega) (fun q32 => ?_) (fun q32 => ?_)
          · skip
            refine sA_iload_n dd_X6_takeItem_138 rfl (.tail _ (.tail _ (.head _))) ?_
            refine sA_bipush (z := 41) dd_X6_takeItem_139 (by decide) ?_
            refine sA_icmp_ne (tgt := 168) dd_X6_takeItem_141 (by decide) (by omega) (by omega) (fun q33 => ?_) (fun q33 => ?_)
            · skip
              refine sA_iconst (z := 1) dd_X6_takeItem_168 ?_
              refine sA_iret (z := 1) dd_X6_takeItem_169 rfl ?_
              exact ⟨_, rfl, I4, f5, by omega⟩
            · skip
              refine sA_aload_n dd_X6_takeItem_144 rfl (.tail _ (.head _)) ?_
              refine sA_geti (ci := 6) (j := 6) (q := (RX6, TX6, 10)) dd_X6_takeItem_145 rfl (by decide) fl_X6_36 (by decide) gs_s43 rfl ?_
              have b34 : (0 : Int) ≤ F3 43 6 ∧ F3 43 6 ≤ 4 := I4.1 43 6
              refine sA_if_le (tgt := 168) dd_X6_takeItem_148 (by decide) (by omega) (fun q35 => ?_) (fun q35 => ?_)
              · skip
                refine sA_iconst (z := 1) dd_X6_takeItem_168 ?_
                refine sA_iret (z := 1) dd_X6_takeItem_169 rfl ?_
                exact ⟨_, rfl, I4, f5, by omega⟩
              · skip
                refine sA_aload_n dd_X6_takeItem_151 rfl (.tail _ (.head _)) ?_
                refine sA_dup dd_X6_takeItem_152 rfl ?_
                refine sA_geti (ci := 6) (j := 6) (q := (RX6, TX6, 10)) dd_X6_takeItem_153 rfl (by decide) fl_X6_36 (by decide) gs_s43 rfl ?_
                refine sA_iconst (z := 1) dd_X6_takeItem_156 ?_
                refine sA_isub dd_X6_takeItem_157 ?_
                refine sA_put (ci := 6) (j := 6) (q := (RX6, TX6, 10)) (ty := .int) dd_X6_takeItem_158 rfl (by decide) fl_X6_36 rfl (tyX6_ok 6 (by decide)) rfl rfl (by decide) gs_s43 rfl ?_
                have I37 : gs_I (gs_up F3 43 6 ((F3 43 6) - 1)) A := gs_I_put I4 (show (0 : Int) ≤ (F3 43 6) - 1 ∧ (F3 43 6) - 1 ≤ 4 by omega)
                have f38 := gs_fr_put f5 (a := 43) (z := (F3 43 6) - 1) (j := 6) (by first | omega | (dsimp only; omega) | (dsimp only))
                have v39 : gs_up F3 43 6 ((F3 43 6) - 1) 43 6 = (F3 43 6) - 1 := gs_up_self _ _ _ _
                generalize gs_up F3 43 6 ((F3 43 6) - 1) = F36 at I37 f38 v39 ⊢
                refine sA_aload_n dd_X6_takeItem_161 rfl (.tail _ (.head _)) ?_
                refine sA_iconst (z := 3) dd_X6_takeItem_162 ?_
                refine sA_put (ci := 6) (j := 7) (q := (RX6, TX6, 10)) (ty := .int) dd_X6_takeItem_163 rfl (by decide) fl_X6_39 rfl (tyX6_ok 7 (by decide)) rfl rfl (by decide) gs_s43 rfl ?_
                have I41 : gs_I (gs_up F36 43 7 3) A := gs_I_put I37 (show (-2147483648 : Int) ≤ 3 ∧ 3 ≤ 2147483647 by omega)
                have f42 := gs_fr_put f38 (a := 43) (z := 3) (j := 7) (by first | omega | (dsimp only; omega) | (dsimp only))
                have v43 : gs_up F36 43 7 3 43 7 = 3 := gs_up_self _ _ _ _
                generalize gs_up F36 43 7 3 = F40 at I41 f42 v43 ⊢
                refine sA_iconst (z := 0) dd_X6_takeItem_166 ?_
                refine sA_iret (z := 0) dd_X6_takeItem_167 rfl ?_
                exact ⟨_, rfl, I41, f42, by omega⟩
          · skip
            refine sA_aload_n dd_X6_takeItem_100 rfl (.tail _ (.head _)) ?_
            refine sA_geti (ci := 6) (j := 6) (q := (RX6, TX6, 10)) dd_X6_takeItem_101 rfl (by decide) fl_X6_36 (by decide) gs_s43 rfl ?_
            have b44 : (0 : Int) ≤ F3 43 6 ∧ F3 43 6 ≤ 4 := I4.1 43 6
            refine sA_iconst (z := 4) dd_X6_takeItem_104 ?_
            refine sA_icmp_lt (tgt := 110) dd_X6_takeItem_105 (by decide) (by omega) (by omega) (fun q45 => ?_) (fun q45 => ?_)
            · skip
              refine sA_aload_n dd_X6_takeItem_110 rfl (.tail _ (.head _)) ?_
              refine sA_getr (ci := 6) (j := 4) (q := (RX6, TX6, 10)) dd_X6_takeItem_111 rfl (by decide) fl_X6_26 (by decide) gs_s43 rfl ?_
              refine sA_aload_n dd_X6_takeItem_114 rfl (.tail _ (.head _)) ?_
              refine sA_geti (ci := 6) (j := 6) (q := (RX6, TX6, 10)) dd_X6_takeItem_115 rfl (by decide) fl_X6_36 (by decide) gs_s43 rfl ?_
              refine sA_aload_n dd_X6_takeItem_118 rfl (.tail _ (.head _)) ?_
              refine sA_getr (ci := 6) (j := 2) (q := (RX6, TX6, 10)) dd_X6_takeItem_119 rfl (by decide) fl_X6_18 (by decide) gs_s43 rfl ?_
              refine sA_geti (ci := 2) (j := 1) (q := (RX2, TX2, 2)) dd_X6_takeItem_122 rfl (by decide) fl_X6_32 (Nat.lt_of_succ_lt gs_plan_44.1) gs_plan_44.2.1 rfl ?_
              have b46 := gs_plan_sz gs_plan_44 I4
              refine sA_iast (n := 4) dd_X6_takeItem_125 (by decide) gs_s47 (by omega) (by decide) ?_
              have I48 : gs_I F3 (gs_up A 47 ((F3 43 6).toNat) (F3 44 1)) := gs_I_ast I4 (show (0 : Int) ≤ F3 44 1 ∧ F3 44 1 ≤ 60 by omega)
              have f49 := gs_fr_ast f5 (a := 47) (z := F3 44 1) (i := (F3 43 6).toNat) (by first | omega | (dsimp only; omega) | (dsimp only))
              generalize gs_up A 47 ((F3 43 6).toNat) (F3 44 1) = A47 at I48 f49 ⊢
              refine sA_aload_n dd_X6_takeItem_126 rfl (.tail _ (.head _)) ?_
              refine sA_dup dd_X6_takeItem_127 rfl ?_
              refine sA_geti (ci := 6) (j := 6) (q := (RX6, TX6, 10)) dd_X6_takeItem_128 rfl (by decide) fl_X6_36 (by decide) gs_s43 rfl ?_
              refine sA_iconst (z := 1) dd_X6_takeItem_131 ?_
              refine sA_iadd dd_X6_takeItem_132 ?_
              refine sA_put (ci := 6) (j := 6) (q := (RX6, TX6, 10)) (ty := .int) dd_X6_takeItem_133 rfl (by decide) fl_X6_36 rfl (tyX6_ok 6 (by decide)) rfl rfl (by decide) gs_s43 rfl ?_
              have I51 : gs_I (gs_up F3 43 6 ((F3 43 6) + 1)) A47 := gs_I_put I48 (show (0 : Int) ≤ (F3 43 6) + 1 ∧ (F3 43 6) + 1 ≤ 4 by omega)
              have f52 := gs_fr_put f49 (a := 43) (z := (F3 43 6) + 1) (j := 6) (by first | omega | (dsimp only; omega) | (dsimp only))
              have v53 : gs_up F3 43 6 ((F3 43 6) + 1) 43 6 = (F3 43 6) + 1 := gs_up_self _ _ _ _
              generalize gs_up F3 43 6 ((F3 43 6) + 1) = F50 at I51 f52 v53 ⊢
              refine sA_iconst (z := 0) dd_X6_takeItem_136 ?_
              refine sA_iret (z := 0) dd_X6_takeItem_137 rfl ?_
              exact ⟨_, rfl, I51, f52, by omega⟩
            · skip
              refine sA_iconst (z := 4) dd_X6_takeItem_108 ?_
              refine sA_iret (z := 4) dd_X6_takeItem_109 rfl ?_
              exact ⟨_, rfl, I4, f5, by omega⟩
        · skip
          refine sA_aload_n dd_X6_takeItem_74 rfl (.tail _ (.head _)) ?_
          refine sA_iload_n dd_X6_takeItem_75 rfl (.tail _ (.tail _ (.head _))) ?_
          refine sA_bipush (z := 97) dd_X6_takeItem_76 (by decide) ?_
          refine sA_isub dd_X6_takeItem_78 ?_
          refine sA_put (ci := 6) (j := 8) (q := (RX6, TX6, 10)) (ty := .int) dd_X6_takeItem_79 rfl (by decide) fl_X6_60 rfl (tyX6_ok 8 (by decide)) rfl rfl (by decide) gs_s43 rfl ?_
          have I55 : gs_I (gs_up F3 43 8 (v - 97)) A := gs_I_put I4 (show (-2147483648 : Int) ≤ v - 97 ∧ v - 97 ≤ 2147483647 by omega)
          have f56 := gs_fr_put f5 (a := 43) (z := v - 97) (j := 8) (by first | omega | (dsimp only; omega) | (dsimp only))
          have v57 : gs_up F3 43 8 (v - 97) 43 8 = v - 97 := gs_up_self _ _ _ _
          generalize gs_up F3 43 8 (v - 97) = F54 at I55 f56 v57 ⊢
          refine sA_aload_n dd_X6_takeItem_82 rfl (.tail _ (.head _)) ?_
          refine sA_iload_n dd_X6_takeItem_83 rfl (.tail _ (.tail _ (.tail _ (.head _)))) ?_
          refine sA_put (ci := 6) (j := 9) (q := (RX6, TX6, 10)) (ty := .int) dd_X6_takeItem_84 rfl (by decide) fl_X6_63 rfl (tyX6_ok 9 (by decide)) rfl rfl (by decide) gs_s43 rfl ?_
          have I59 : gs_I (gs_up F54 43 9 q) A := gs_I_put I55 (show (-2147483648 : Int) ≤ q ∧ q ≤ 2147483647 by omega)
          have f60 := gs_fr_put f56 (a := 43) (z := q) (j := 9) (by first | omega | (dsimp only; omega) | (dsimp only))
          have v61 : gs_up F54 43 9 q 43 9 = q := gs_up_self _ _ _ _
          generalize gs_up F54 43 9 q = F58 at I59 f60 v61 ⊢
          refine sA_aload_n dd_X6_takeItem_87 rfl (.tail _ (.head _)) ?_
          refine sA_iconst (z := 1) dd_X6_takeItem_88 ?_
          refine sA_put (ci := 6) (j := 7) (q := (RX6, TX6, 10)) (ty := .int) dd_X6_takeItem_89 rfl (by decide) fl_X6_39 rfl (tyX6_ok 7 (by decide)) rfl rfl (by decide) gs_s43 rfl ?_
          have I63 : gs_I (gs_up F58 43 7 1) A := gs_I_put I59 (show (-2147483648 : Int) ≤ 1 ∧ 1 ≤ 2147483647 by omega)
          have f64 := gs_fr_put f60 (a := 43) (z := 1) (j := 7) (by first | omega | (dsimp only; omega) | (dsimp only))
          have v65 : gs_up F58 43 7 1 43 7 = 1 := gs_up_self _ _ _ _
          generalize gs_up F58 43 7 1 = F62 at I63 f64 v65 ⊢
          refine sA_iconst (z := 0) dd_X6_takeItem_92 ?_
          refine sA_iret (z := 0) dd_X6_takeItem_93 rfl ?_
          exact ⟨_, rfl, I63, f64, by omega⟩
    · skip
      refine sA_iload_n dd_X6_takeItem_25 rfl (.head _) ?_
      refine sA_if_eq (tgt := 62) dd_X6_takeItem_26 (by decide) (by omega) (fun q66 => ?_) (fun q66 => absurd q66 (by omega))
      refine sA_iload_n dd_X6_takeItem_62 rfl (.tail _ (.tail _ (.head _))) ?_
      refine sA_bipush (z := 97) dd_X6_takeItem_63 (by decide) ?_
      refine sA_icmp_lt (tgt := 94) dd_X6_takeItem_65 (by decide) (by omega) (by omega) (fun q67 => ?_) (fun q67 => ?_)
      · skip
        refine sA_iload_n dd_X6_takeItem_94 rfl (.tail _ (.tail _ (.head _))) ?_
        refine sA_bipush (z := 40) dd_X6_takeItem_95 (by decide) ?_
        refine sA_icmp_ne (tgt := 138) dd_X6_takeItem_97 (by decide) (by omega) (by omega) (fun q68 => ?_) (fun q68 => ?_)
        · skip
          refine sA_iload_n dd_X6_takeItem_138 rfl (.tail _ (.tail _ (.head _))) ?_
          refine sA_bipush (z := 41) dd_X6_takeItem_139 (by decide) ?_
          refine sA_icmp_ne (tgt := 168) dd_X6_takeItem_141 (by decide) (by omega) (by omega) (fun q69 => ?_) (fun q69 => ?_)
          · skip
            refine sA_iconst (z := 1) dd_X6_takeItem_168 ?_
            refine sA_iret (z := 1) dd_X6_takeItem_169 rfl ?_
            exact ⟨_, rfl, I4, f5, by omega⟩
          · skip
            refine sA_aload_n dd_X6_takeItem_144 rfl (.tail _ (.head _)) ?_
            refine sA_geti (ci := 6) (j := 6) (q := (RX6, TX6, 10)) dd_X6_takeItem_145 rfl (by decide) fl_X6_36 (by decide) gs_s43 rfl ?_
            have b70 : (0 : Int) ≤ F3 43 6 ∧ F3 43 6 ≤ 4 := I4.1 43 6
            refine sA_if_le (tgt := 168) dd_X6_takeItem_148 (by decide) (by omega) (fun q71 => ?_) (fun q71 => ?_)
            · skip
              refine sA_iconst (z := 1) dd_X6_takeItem_168 ?_
              refine sA_iret (z := 1) dd_X6_takeItem_169 rfl ?_
              exact ⟨_, rfl, I4, f5, by omega⟩
            · skip
              refine sA_aload_n dd_X6_takeItem_151 rfl (.tail _ (.head _)) ?_
              refine sA_dup dd_X6_takeItem_152 rfl ?_
              refine sA_geti (ci := 6) (j := 6) (q := (RX6, TX6, 10)) dd_X6_takeItem_153 rfl (by decide) fl_X6_36 (by decide) gs_s43 rfl ?_
              refine sA_iconst (z := 1) dd_X6_takeItem_156 ?_
              refine sA_isub dd_X6_takeItem_157 ?_
              refine sA_put (ci := 6) (j := 6) (q := (RX6, TX6, 10)) (ty := .int) dd_X6_takeItem_158 rfl (by decide) fl_X6_36 rfl (tyX6_ok 6 (by decide)) rfl rfl (by decide) gs_s43 rfl ?_
              have I73 : gs_I (gs_up F3 43 6 ((F3 43 6) - 1)) A := gs_I_put I4 (show (0 : Int) ≤ (F3 43 6) - 1 ∧ (F3 43 6) - 1 ≤ 4 by omega)
              have f74 := gs_fr_put f5 (a := 43) (z := (F3 43 6) - 1) (j := 6) (by first | omega | (dsimp only; omega) | (dsimp only))
              have v75 : gs_up F3 43 6 ((F3 43 6) - 1) 43 6 = (F3 43 6) - 1 := gs_up_self _ _ _ _
              generalize gs_up F3 43 6 ((F3 43 6) - 1) = F72 at I73 f74 v75 ⊢
              refine sA_aload_n dd_X6_takeItem_161 rfl (.tail _ (.head _)) ?_
              refine sA_iconst (z := 3) dd_X6_takeItem_162 ?_
              refine sA_put (ci := 6) (j := 7) (q := (RX6, TX6, 10)) (ty := .int) dd_X6_takeItem_163 rfl (by decide) fl_X6_39 rfl (tyX6_ok 7 (by decide)) rfl rfl (by decide) gs_s43 rfl ?_
              have I77 : gs_I (gs_up F72 43 7 3) A := gs_I_put I73 (show (-2147483648 : Int) ≤ 3 ∧ 3 ≤ 2147483647 by omega)
              have f78 := gs_fr_put f74 (a := 43) (z := 3) (j := 7) (by first | omega | (dsimp only; omega) | (dsimp only))
              have v79 : gs_up F72 43 7 3 43 7 = 3 := gs_up_self _ _ _ _
              generalize gs_up F72 43 7 3 = F76 at I77 f78 v79 ⊢
              refine sA_iconst (z := 0) dd_X6_takeItem_166 ?_
              refine sA_iret (z := 0) dd_X6_takeItem_167 rfl ?_
              exact ⟨_, rfl, I77, f78, by omega⟩
        · skip
          refine sA_aload_n dd_X6_takeItem_100 rfl (.tail _ (.head _)) ?_
          refine sA_geti (ci := 6) (j := 6) (q := (RX6, TX6, 10)) dd_X6_takeItem_101 rfl (by decide) fl_X6_36 (by decide) gs_s43 rfl ?_
          have b80 : (0 : Int) ≤ F3 43 6 ∧ F3 43 6 ≤ 4 := I4.1 43 6
          refine sA_iconst (z := 4) dd_X6_takeItem_104 ?_
          refine sA_icmp_lt (tgt := 110) dd_X6_takeItem_105 (by decide) (by omega) (by omega) (fun q81 => ?_) (fun q81 => ?_)
          · skip
            refine sA_aload_n dd_X6_takeItem_110 rfl (.tail _ (.head _)) ?_
            refine sA_getr (ci := 6) (j := 4) (q := (RX6, TX6, 10)) dd_X6_takeItem_111 rfl (by decide) fl_X6_26 (by decide) gs_s43 rfl ?_
            refine sA_aload_n dd_X6_takeItem_114 rfl (.tail _ (.head _)) ?_
            refine sA_geti (ci := 6) (j := 6) (q := (RX6, TX6, 10)) dd_X6_takeItem_115 rfl (by decide) fl_X6_36 (by decide) gs_s43 rfl ?_
            refine sA_aload_n dd_X6_takeItem_118 rfl (.tail _ (.head _)) ?_
            refine sA_getr (ci := 6) (j := 2) (q := (RX6, TX6, 10)) dd_X6_takeItem_119 rfl (by decide) fl_X6_18 (by decide) gs_s43 rfl ?_
            refine sA_geti (ci := 2) (j := 1) (q := (RX2, TX2, 2)) dd_X6_takeItem_122 rfl (by decide) fl_X6_32 (Nat.lt_of_succ_lt gs_plan_44.1) gs_plan_44.2.1 rfl ?_
            have b82 := gs_plan_sz gs_plan_44 I4
            refine sA_iast (n := 4) dd_X6_takeItem_125 (by decide) gs_s47 (by omega) (by decide) ?_
            have I84 : gs_I F3 (gs_up A 47 ((F3 43 6).toNat) (F3 44 1)) := gs_I_ast I4 (show (0 : Int) ≤ F3 44 1 ∧ F3 44 1 ≤ 60 by omega)
            have f85 := gs_fr_ast f5 (a := 47) (z := F3 44 1) (i := (F3 43 6).toNat) (by first | omega | (dsimp only; omega) | (dsimp only))
            generalize gs_up A 47 ((F3 43 6).toNat) (F3 44 1) = A83 at I84 f85 ⊢
            refine sA_aload_n dd_X6_takeItem_126 rfl (.tail _ (.head _)) ?_
            refine sA_dup dd_X6_takeItem_127 rfl ?_
            refine sA_geti (ci := 6) (j := 6) (q := (RX6, TX6, 10)) dd_X6_takeItem_128 rfl (by decide) fl_X6_36 (by decide) gs_s43 rfl ?_
            refine sA_iconst (z := 1) dd_X6_takeItem_131 ?_
            refine sA_iadd dd_X6_takeItem_132 ?_
            refine sA_put (ci := 6) (j := 6) (q := (RX6, TX6, 10)) (ty := .int) dd_X6_takeItem_133 rfl (by decide) fl_X6_36 rfl (tyX6_ok 6 (by decide)) rfl rfl (by decide) gs_s43 rfl ?_
            have I87 : gs_I (gs_up F3 43 6 ((F3 43 6) + 1)) A83 := gs_I_put I84 (show (0 : Int) ≤ (F3 43 6) + 1 ∧ (F3 43 6) + 1 ≤ 4 by omega)
            have f88 := gs_fr_put f85 (a := 43) (z := (F3 43 6) + 1) (j := 6) (by first | omega | (dsimp only; omega) | (dsimp only))
            have v89 : gs_up F3 43 6 ((F3 43 6) + 1) 43 6 = (F3 43 6) + 1 := gs_up_self _ _ _ _
            generalize gs_up F3 43 6 ((F3 43 6) + 1) = F86 at I87 f88 v89 ⊢
            refine sA_iconst (z := 0) dd_X6_takeItem_136 ?_
            refine sA_iret (z := 0) dd_X6_takeItem_137 rfl ?_
            exact ⟨_, rfl, I87, f88, by omega⟩
          · skip
            refine sA_iconst (z := 4) dd_X6_takeItem_108 ?_
            refine sA_iret (z := 4) dd_X6_takeItem_109 rfl ?_
            exact ⟨_, rfl, I4, f5, by omega⟩
      · skip
        refine sA_iload_n dd_X6_takeItem_68 rfl (.tail _ (.tail _ (.head _))) ?_
        refine sA_bipush (z := 99) dd_X6_takeItem_69 (by decide) ?_
        refine sA_icmp_gt (tgt := 94) dd_X6_takeItem_71 (by decide) (by omega) (by omega) (fun q90 => ?_) (fun q90 => ?_)
        · skip
          refine sA_iload_n dd_X6_takeItem_94 rfl (.tail _ (.tail _ (.head _))) ?_
          refine sA_bipush (z := 40) dd_X6_takeItem_95 (by decide) ?_
          refine sA_icmp_ne (tgt := 138) dd_X6_takeItem_97 (by decide) (by omega) (by omega) (fun q91 => ?_) (fun q91 => ?_)
          · skip
            refine sA_iload_n dd_X6_takeItem_138 rfl (.tail _ (.tail _ (.head _))) ?_
            refine sA_bipush (z := 41) dd_X6_takeItem_139 (by decide) ?_
            refine sA_icmp_ne (tgt := 168) dd_X6_takeItem_141 (by decide) (by omega) (by omega) (fun q92 => ?_) (fun q92 => ?_)
            · skip
              refine sA_iconst (z := 1) dd_X6_takeItem_168 ?_
              refine sA_iret (z := 1) dd_X6_takeItem_169 rfl ?_
              exact ⟨_, rfl, I4, f5, by omega⟩
            · skip
              refine sA_aload_n dd_X6_takeItem_144 rfl (.tail _ (.head _)) ?_
              refine sA_geti (ci := 6) (j := 6) (q := (RX6, TX6, 10)) dd_X6_takeItem_145 rfl (by decide) fl_X6_36 (by decide) gs_s43 rfl ?_
              have b93 : (0 : Int) ≤ F3 43 6 ∧ F3 43 6 ≤ 4 := I4.1 43 6
              refine sA_if_le (tgt := 168) dd_X6_takeItem_148 (by decide) (by omega) (fun q94 => ?_) (fun q94 => ?_)
              · skip
                refine sA_iconst (z := 1) dd_X6_takeItem_168 ?_
                refine sA_iret (z := 1) dd_X6_takeItem_169 rfl ?_
                exact ⟨_, rfl, I4, f5, by omega⟩
              · skip
                refine sA_aload_n dd_X6_takeItem_151 rfl (.tail _ (.head _)) ?_
                refine sA_dup dd_X6_takeItem_152 rfl ?_
                refine sA_geti (ci := 6) (j := 6) (q := (RX6, TX6, 10)) dd_X6_takeItem_153 rfl (by decide) fl_X6_36 (by decide) gs_s43 rfl ?_
                refine sA_iconst (z := 1) dd_X6_takeItem_156 ?_
                refine sA_isub dd_X6_takeItem_157 ?_
                refine sA_put (ci := 6) (j := 6) (q := (RX6, TX6, 10)) (ty := .int) dd_X6_takeItem_158 rfl (by decide) fl_X6_36 rfl (tyX6_ok 6 (by decide)) rfl rfl (by decide) gs_s43 rfl ?_
                have I96 : gs_I (gs_up F3 43 6 ((F3 43 6) - 1)) A := gs_I_put I4 (show (0 : Int) ≤ (F3 43 6) - 1 ∧ (F3 43 6) - 1 ≤ 4 by omega)
                have f97 := gs_fr_put f5 (a := 43) (z := (F3 43 6) - 1) (j := 6) (by first | omega | (dsimp only; omega) | (dsimp only))
                have v98 : gs_up F3 43 6 ((F3 43 6) - 1) 43 6 = (F3 43 6) - 1 := gs_up_self _ _ _ _
                generalize gs_up F3 43 6 ((F3 43 6) - 1) = F95 at I96 f97 v98 ⊢
                refine sA_aload_n dd_X6_takeItem_161 rfl (.tail _ (.head _)) ?_
                refine sA_iconst (z := 3) dd_X6_takeItem_162 ?_
                refine sA_put (ci := 6) (j := 7) (q := (RX6, TX6, 10)) (ty := .int) dd_X6_takeItem_163 rfl (by decide) fl_X6_39 rfl (tyX6_ok 7 (by decide)) rfl rfl (by decide) gs_s43 rfl ?_
                have I100 : gs_I (gs_up F95 43 7 3) A := gs_I_put I96 (show (-2147483648 : Int) ≤ 3 ∧ 3 ≤ 2147483647 by omega)
                have f101 := gs_fr_put f97 (a := 43) (z := 3) (j := 7) (by first | omega | (dsimp only; omega) | (dsimp only))
                have v102 : gs_up F95 43 7 3 43 7 = 3 := gs_up_self _ _ _ _
                generalize gs_up F95 43 7 3 = F99 at I100 f101 v102 ⊢
                refine sA_iconst (z := 0) dd_X6_takeItem_166 ?_
                refine sA_iret (z := 0) dd_X6_takeItem_167 rfl ?_
                exact ⟨_, rfl, I100, f101, by omega⟩
          · skip
            refine sA_aload_n dd_X6_takeItem_100 rfl (.tail _ (.head _)) ?_
            refine sA_geti (ci := 6) (j := 6) (q := (RX6, TX6, 10)) dd_X6_takeItem_101 rfl (by decide) fl_X6_36 (by decide) gs_s43 rfl ?_
            have b103 : (0 : Int) ≤ F3 43 6 ∧ F3 43 6 ≤ 4 := I4.1 43 6
            refine sA_iconst (z := 4) dd_X6_takeItem_104 ?_
            refine sA_icmp_lt (tgt := 110) dd_X6_takeItem_105 (by decide) (by omega) (by omega) (fun q104 => ?_) (fun q104 => ?_)
            · skip
              refine sA_aload_n dd_X6_takeItem_110 rfl (.tail _ (.head _)) ?_
              refine sA_getr (ci := 6) (j := 4) (q := (RX6, TX6, 10)) dd_X6_takeItem_111 rfl (by decide) fl_X6_26 (by decide) gs_s43 rfl ?_
              refine sA_aload_n dd_X6_takeItem_114 rfl (.tail _ (.head _)) ?_
              refine sA_geti (ci := 6) (j := 6) (q := (RX6, TX6, 10)) dd_X6_takeItem_115 rfl (by decide) fl_X6_36 (by decide) gs_s43 rfl ?_
              refine sA_aload_n dd_X6_takeItem_118 rfl (.tail _ (.head _)) ?_
              refine sA_getr (ci := 6) (j := 2) (q := (RX6, TX6, 10)) dd_X6_takeItem_119 rfl (by decide) fl_X6_18 (by decide) gs_s43 rfl ?_
              refine sA_geti (ci := 2) (j := 1) (q := (RX2, TX2, 2)) dd_X6_takeItem_122 rfl (by decide) fl_X6_32 (Nat.lt_of_succ_lt gs_plan_44.1) gs_plan_44.2.1 rfl ?_
              have b105 := gs_plan_sz gs_plan_44 I4
              refine sA_iast (n := 4) dd_X6_takeItem_125 (by decide) gs_s47 (by omega) (by decide) ?_
              have I107 : gs_I F3 (gs_up A 47 ((F3 43 6).toNat) (F3 44 1)) := gs_I_ast I4 (show (0 : Int) ≤ F3 44 1 ∧ F3 44 1 ≤ 60 by omega)
              have f108 := gs_fr_ast f5 (a := 47) (z := F3 44 1) (i := (F3 43 6).toNat) (by first | omega | (dsimp only; omega) | (dsimp only))
              generalize gs_up A 47 ((F3 43 6).toNat) (F3 44 1) = A106 at I107 f108 ⊢
              refine sA_aload_n dd_X6_takeItem_126 rfl (.tail _ (.head _)) ?_
              refine sA_dup dd_X6_takeItem_127 rfl ?_
              refine sA_geti (ci := 6) (j := 6) (q := (RX6, TX6, 10)) dd_X6_takeItem_128 rfl (by decide) fl_X6_36 (by decide) gs_s43 rfl ?_
              refine sA_iconst (z := 1) dd_X6_takeItem_131 ?_
              refine sA_iadd dd_X6_takeItem_132 ?_
              refine sA_put (ci := 6) (j := 6) (q := (RX6, TX6, 10)) (ty := .int) dd_X6_takeItem_133 rfl (by decide) fl_X6_36 rfl (tyX6_ok 6 (by decide)) rfl rfl (by decide) gs_s43 rfl ?_
              have I110 : gs_I (gs_up F3 43 6 ((F3 43 6) + 1)) A106 := gs_I_put I107 (show (0 : Int) ≤ (F3 43 6) + 1 ∧ (F3 43 6) + 1 ≤ 4 by omega)
              have f111 := gs_fr_put f108 (a := 43) (z := (F3 43 6) + 1) (j := 6) (by first | omega | (dsimp only; omega) | (dsimp only))
              have v112 : gs_up F3 43 6 ((F3 43 6) + 1) 43 6 = (F3 43 6) + 1 := gs_up_self _ _ _ _
              generalize gs_up F3 43 6 ((F3 43 6) + 1) = F109 at I110 f111 v112 ⊢
              refine sA_iconst (z := 0) dd_X6_takeItem_136 ?_
              refine sA_iret (z := 0) dd_X6_takeItem_137 rfl ?_
              exact ⟨_, rfl, I110, f111, by omega⟩
            · skip
              refine sA_iconst (z := 4) dd_X6_takeItem_108 ?_
              refine sA_iret (z := 4) dd_X6_takeItem_109 rfl ?_
              exact ⟨_, rfl, I4, f5, by omega⟩
        · skip
          refine sA_aload_n dd_X6_takeItem_74 rfl (.tail _ (.head _)) ?_
          refine sA_iload_n dd_X6_takeItem_75 rfl (.tail _ (.tail _ (.head _))) ?_
          refine sA_bipush (z := 97) dd_X6_takeItem_76 (by decide) ?_
          refine sA_isub dd_X6_takeItem_78 ?_
          refine sA_put (ci := 6) (j := 8) (q := (RX6, TX6, 10)) (ty := .int) dd_X6_takeItem_79 rfl (by decide) fl_X6_60 rfl (tyX6_ok 8 (by decide)) rfl rfl (by decide) gs_s43 rfl ?_
          have I114 : gs_I (gs_up F3 43 8 (v - 97)) A := gs_I_put I4 (show (-2147483648 : Int) ≤ v - 97 ∧ v - 97 ≤ 2147483647 by omega)
          have f115 := gs_fr_put f5 (a := 43) (z := v - 97) (j := 8) (by first | omega | (dsimp only; omega) | (dsimp only))
          have v116 : gs_up F3 43 8 (v - 97) 43 8 = v - 97 := gs_up_self _ _ _ _
          generalize gs_up F3 43 8 (v - 97) = F113 at I114 f115 v116 ⊢
          refine sA_aload_n dd_X6_takeItem_82 rfl (.tail _ (.head _)) ?_
          refine sA_iload_n dd_X6_takeItem_83 rfl (.tail _ (.tail _ (.tail _ (.head _)))) ?_
          refine sA_put (ci := 6) (j := 9) (q := (RX6, TX6, 10)) (ty := .int) dd_X6_takeItem_84 rfl (by decide) fl_X6_63 rfl (tyX6_ok 9 (by decide)) rfl rfl (by decide) gs_s43 rfl ?_
          have I118 : gs_I (gs_up F113 43 9 q) A := gs_I_put I114 (show (-2147483648 : Int) ≤ q ∧ q ≤ 2147483647 by omega)
          have f119 := gs_fr_put f115 (a := 43) (z := q) (j := 9) (by first | omega | (dsimp only; omega) | (dsimp only))
          have v120 : gs_up F113 43 9 q 43 9 = q := gs_up_self _ _ _ _
          generalize gs_up F113 43 9 q = F117 at I118 f119 v120 ⊢
          refine sA_aload_n dd_X6_takeItem_87 rfl (.tail _ (.head _)) ?_
          refine sA_iconst (z := 1) dd_X6_takeItem_88 ?_
          refine sA_put (ci := 6) (j := 7) (q := (RX6, TX6, 10)) (ty := .int) dd_X6_takeItem_89 rfl (by decide) fl_X6_39 rfl (tyX6_ok 7 (by decide)) rfl rfl (by decide) gs_s43 rfl ?_
          have I122 : gs_I (gs_up F117 43 7 1) A := gs_I_put I118 (show (-2147483648 : Int) ≤ 1 ∧ 1 ≤ 2147483647 by omega)
          have f123 := gs_fr_put f119 (a := 43) (z := 1) (j := 7) (by first | omega | (dsimp only; omega) | (dsimp only))
          have v124 : gs_up F117 43 7 1 43 7 = 1 := gs_up_self _ _ _ _
          generalize gs_up F117 43 7 1 = F121 at I122 f123 v124 ⊢
          refine sA_iconst (z := 0) dd_X6_takeItem_92 ?_
          refine sA_iret (z := 0) dd_X6_takeItem_93 rfl ?_
          exact ⟨_, rfl, I122, f123, by omega⟩
  · skip
    refine sA_iconst (z := 1) dd_X6_takeItem_8 ?_
    refine sA_goto (tgt := 13) dd_X6_takeItem_9 (by decide) ?_
    refine sA_istore_n (lv' := [(3, gs_iv 1), (0, .ref 43), (1, gs_iv v), (2, gs_iv q)]) dd_X6_takeItem_13 rfl (by decide) rfl ?_
    refine sA_aload_n dd_X6_takeItem_14 rfl (.tail _ (.head _)) ?_
    refine sA_iconst (z := 0) dd_X6_takeItem_15 ?_
    refine sA_put (ci := 6) (j := 7) (q := (RX6, TX6, 10)) (ty := .int) dd_X6_takeItem_16 rfl (by decide) fl_X6_39 rfl (tyX6_ok 7 (by decide)) rfl rfl (by decide) gs_s43 rfl ?_
    have I126 : gs_I (gs_up F 43 7 0) A := gs_I_put hI (show (-2147483648 : Int) ≤ 0 ∧ 0 ≤ 2147483647 by omega)
    have f127 := gs_fr_put hf (a := 43) (z := 0) (j := 7) (by first | omega | (dsimp only; omega) | (dsimp only))
    have v128 : gs_up F 43 7 0 43 7 = 0 := gs_up_self _ _ _ _
    generalize gs_up F 43 7 0 = F125 at I126 f127 v128 ⊢
    refine sA_iload_n dd_X6_takeItem_19 rfl (.tail _ (.tail _ (.head _))) ?_
    refine sA_bipush (z := 45) dd_X6_takeItem_20 (by decide) ?_
    refine sA_icmp_ne (tgt := 62) dd_X6_takeItem_22 (by decide) (by omega) (by omega) (fun q129 => ?_) (fun q129 => ?_)
    · skip
      refine sA_iload_n dd_X6_takeItem_62 rfl (.tail _ (.tail _ (.head _))) ?_
      refine sA_bipush (z := 97) dd_X6_takeItem_63 (by decide) ?_
      refine sA_icmp_lt (tgt := 94) dd_X6_takeItem_65 (by decide) (by omega) (by omega) (fun q130 => ?_) (fun q130 => ?_)
      · skip
        refine sA_iload_n dd_X6_takeItem_94 rfl (.tail _ (.tail _ (.head _))) ?_
        refine sA_bipush (z := 40) dd_X6_takeItem_95 (by decide) ?_
        refine sA_icmp_ne (tgt := 138) dd_X6_takeItem_97 (by decide) (by omega) (by omega) (fun q131 => ?_) (fun q131 => ?_)
        · skip
          refine sA_iload_n dd_X6_takeItem_138 rfl (.tail _ (.tail _ (.head _))) ?_
          refine sA_bipush (z := 41) dd_X6_takeItem_139 (by decide) ?_
          refine sA_icmp_ne (tgt := 168) dd_X6_takeItem_141 (by decide) (by omega) (by omega) (fun q132 => ?_) (fun q132 => ?_)
          · skip
            refine sA_iconst (z := 1) dd_X6_takeItem_168 ?_
            refine sA_iret (z := 1) dd_X6_takeItem_169 rfl ?_
            exact ⟨_, rfl, I126, f127, by omega⟩
          · skip
            refine sA_aload_n dd_X6_takeItem_144 rfl (.tail _ (.head _)) ?_
            refine sA_geti (ci := 6) (j := 6) (q := (RX6, TX6, 10)) dd_X6_takeItem_145 rfl (by decide) fl_X6_36 (by decide) gs_s43 rfl ?_
            have b133 : (0 : Int) ≤ F125 43 6 ∧ F125 43 6 ≤ 4 := I126.1 43 6
            refine sA_if_le (tgt := 168) dd_X6_takeItem_148 (by decide) (by omega) (fun q134 => ?_) (fun q134 => ?_)
            · skip
              refine sA_iconst (z := 1) dd_X6_takeItem_168 ?_
              refine sA_iret (z := 1) dd_X6_takeItem_169 rfl ?_
              exact ⟨_, rfl, I126, f127, by omega⟩
            · skip
              refine sA_aload_n dd_X6_takeItem_151 rfl (.tail _ (.head _)) ?_
              refine sA_dup dd_X6_takeItem_152 rfl ?_
              refine sA_geti (ci := 6) (j := 6) (q := (RX6, TX6, 10)) dd_X6_takeItem_153 rfl (by decide) fl_X6_36 (by decide) gs_s43 rfl ?_
              refine sA_iconst (z := 1) dd_X6_takeItem_156 ?_
              refine sA_isub dd_X6_takeItem_157 ?_
              refine sA_put (ci := 6) (j := 6) (q := (RX6, TX6, 10)) (ty := .int) dd_X6_takeItem_158 rfl (by decide) fl_X6_36 rfl (tyX6_ok 6 (by decide)) rfl rfl (by decide) gs_s43 rfl ?_
              have I136 : gs_I (gs_up F125 43 6 ((F125 43 6) - 1)) A := gs_I_put I126 (show (0 : Int) ≤ (F125 43 6) - 1 ∧ (F125 43 6) - 1 ≤ 4 by omega)
              have f137 := gs_fr_put f127 (a := 43) (z := (F125 43 6) - 1) (j := 6) (by first | omega | (dsimp only; omega) | (dsimp only))
              have v138 : gs_up F125 43 6 ((F125 43 6) - 1) 43 6 = (F125 43 6) - 1 := gs_up_self _ _ _ _
              generalize gs_up F125 43 6 ((F125 43 6) - 1) = F135 at I136 f137 v138 ⊢
              refine sA_aload_n dd_X6_takeItem_161 rfl (.tail _ (.head _)) ?_
              refine sA_iconst (z := 3) dd_X6_takeItem_162 ?_
              refine sA_put (ci := 6) (j := 7) (q := (RX6, TX6, 10)) (ty := .int) dd_X6_takeItem_163 rfl (by decide) fl_X6_39 rfl (tyX6_ok 7 (by decide)) rfl rfl (by decide) gs_s43 rfl ?_
              have I140 : gs_I (gs_up F135 43 7 3) A := gs_I_put I136 (show (-2147483648 : Int) ≤ 3 ∧ 3 ≤ 2147483647 by omega)
              have f141 := gs_fr_put f137 (a := 43) (z := 3) (j := 7) (by first | omega | (dsimp only; omega) | (dsimp only))
              have v142 : gs_up F135 43 7 3 43 7 = 3 := gs_up_self _ _ _ _
              generalize gs_up F135 43 7 3 = F139 at I140 f141 v142 ⊢
              refine sA_iconst (z := 0) dd_X6_takeItem_166 ?_
              refine sA_iret (z := 0) dd_X6_takeItem_167 rfl ?_
              exact ⟨_, rfl, I140, f141, by omega⟩
        · skip
          refine sA_aload_n dd_X6_takeItem_100 rfl (.tail _ (.head _)) ?_
          refine sA_geti (ci := 6) (j := 6) (q := (RX6, TX6, 10)) dd_X6_takeItem_101 rfl (by decide) fl_X6_36 (by decide) gs_s43 rfl ?_
          have b143 : (0 : Int) ≤ F125 43 6 ∧ F125 43 6 ≤ 4 := I126.1 43 6
          refine sA_iconst (z := 4) dd_X6_takeItem_104 ?_
          refine sA_icmp_lt (tgt := 110) dd_X6_takeItem_105 (by decide) (by omega) (by omega) (fun q144 => ?_) (fun q144 => ?_)
          · skip
            refine sA_aload_n dd_X6_takeItem_110 rfl (.tail _ (.head _)) ?_
            refine sA_getr (ci := 6) (j := 4) (q := (RX6, TX6, 10)) dd_X6_takeItem_111 rfl (by decide) fl_X6_26 (by decide) gs_s43 rfl ?_
            refine sA_aload_n dd_X6_takeItem_114 rfl (.tail _ (.head _)) ?_
            refine sA_geti (ci := 6) (j := 6) (q := (RX6, TX6, 10)) dd_X6_takeItem_115 rfl (by decide) fl_X6_36 (by decide) gs_s43 rfl ?_
            refine sA_aload_n dd_X6_takeItem_118 rfl (.tail _ (.head _)) ?_
            refine sA_getr (ci := 6) (j := 2) (q := (RX6, TX6, 10)) dd_X6_takeItem_119 rfl (by decide) fl_X6_18 (by decide) gs_s43 rfl ?_
            refine sA_geti (ci := 2) (j := 1) (q := (RX2, TX2, 2)) dd_X6_takeItem_122 rfl (by decide) fl_X6_32 (Nat.lt_of_succ_lt gs_plan_44.1) gs_plan_44.2.1 rfl ?_
            have b145 := gs_plan_sz gs_plan_44 I126
            refine sA_iast (n := 4) dd_X6_takeItem_125 (by decide) gs_s47 (by omega) (by decide) ?_
            have I147 : gs_I F125 (gs_up A 47 ((F125 43 6).toNat) (F125 44 1)) := gs_I_ast I126 (show (0 : Int) ≤ F125 44 1 ∧ F125 44 1 ≤ 60 by omega)
            have f148 := gs_fr_ast f127 (a := 47) (z := F125 44 1) (i := (F125 43 6).toNat) (by first | omega | (dsimp only; omega) | (dsimp only))
            generalize gs_up A 47 ((F125 43 6).toNat) (F125 44 1) = A146 at I147 f148 ⊢
            refine sA_aload_n dd_X6_takeItem_126 rfl (.tail _ (.head _)) ?_
            refine sA_dup dd_X6_takeItem_127 rfl ?_
            refine sA_geti (ci := 6) (j := 6) (q := (RX6, TX6, 10)) dd_X6_takeItem_128 rfl (by decide) fl_X6_36 (by decide) gs_s43 rfl ?_
            refine sA_iconst (z := 1) dd_X6_takeItem_131 ?_
            refine sA_iadd dd_X6_takeItem_132 ?_
            refine sA_put (ci := 6) (j := 6) (q := (RX6, TX6, 10)) (ty := .int) dd_X6_takeItem_133 rfl (by decide) fl_X6_36 rfl (tyX6_ok 6 (by decide)) rfl rfl (by decide) gs_s43 rfl ?_
            have I150 : gs_I (gs_up F125 43 6 ((F125 43 6) + 1)) A146 := gs_I_put I147 (show (0 : Int) ≤ (F125 43 6) + 1 ∧ (F125 43 6) + 1 ≤ 4 by omega)
            have f151 := gs_fr_put f148 (a := 43) (z := (F125 43 6) + 1) (j := 6) (by first | omega | (dsimp only; omega) | (dsimp only))
            have v152 : gs_up F125 43 6 ((F125 43 6) + 1) 43 6 = (F125 43 6) + 1 := gs_up_self _ _ _ _
            generalize gs_up F125 43 6 ((F125 43 6) + 1) = F149 at I150 f151 v152 ⊢
            refine sA_iconst (z := 0) dd_X6_takeItem_136 ?_
            refine sA_iret (z := 0) dd_X6_takeItem_137 rfl ?_
            exact ⟨_, rfl, I150, f151, by omega⟩
          · skip
            refine sA_iconst (z := 4) dd_X6_takeItem_108 ?_
            refine sA_iret (z := 4) dd_X6_takeItem_109 rfl ?_
            exact ⟨_, rfl, I126, f127, by omega⟩
      · skip
        refine sA_iload_n dd_X6_takeItem_68 rfl (.tail _ (.tail _ (.head _))) ?_
        refine sA_bipush (z := 99) dd_X6_takeItem_69 (by decide) ?_
        refine sA_icmp_gt (tgt := 94) dd_X6_takeItem_71 (by decide) (by omega) (by omega) (fun q153 => ?_) (fun q153 => ?_)
        · skip
          refine sA_iload_n dd_X6_takeItem_94 rfl (.tail _ (.tail _ (.head _))) ?_
          refine sA_bipush (z := 40) dd_X6_takeItem_95 (by decide) ?_
          refine sA_icmp_ne (tgt := 138) dd_X6_takeItem_97 (by decide) (by omega) (by omega) (fun q154 => ?_) (fun q154 => ?_)
          · skip
            refine sA_iload_n dd_X6_takeItem_138 rfl (.tail _ (.tail _ (.head _))) ?_
            refine sA_bipush (z := 41) dd_X6_takeItem_139 (by decide) ?_
            refine sA_icmp_ne (tgt := 168) dd_X6_takeItem_141 (by decide) (by omega) (by omega) (fun q155 => ?_) (fun q155 => ?_)
            · skip
              refine sA_iconst (z := 1) dd_X6_takeItem_168 ?_
              refine sA_iret (z := 1) dd_X6_takeItem_169 rfl ?_
              exact ⟨_, rfl, I126, f127, by omega⟩
            · skip
              refine sA_aload_n dd_X6_takeItem_144 rfl (.tail _ (.head _)) ?_
              refine sA_geti (ci := 6) (j := 6) (q := (RX6, TX6, 10)) dd_X6_takeItem_145 rfl (by decide) fl_X6_36 (by decide) gs_s43 rfl ?_
              have b156 : (0 : Int) ≤ F125 43 6 ∧ F125 43 6 ≤ 4 := I126.1 43 6
              refine sA_if_le (tgt := 168) dd_X6_takeItem_148 (by decide) (by omega) (fun q157 => ?_) (fun q157 => ?_)
              · skip
                refine sA_iconst (z := 1) dd_X6_takeItem_168 ?_
                refine sA_iret (z := 1) dd_X6_takeItem_169 rfl ?_
                exact ⟨_, rfl, I126, f127, by omega⟩
              · skip
                refine sA_aload_n dd_X6_takeItem_151 rfl (.tail _ (.head _)) ?_
                refine sA_dup dd_X6_takeItem_152 rfl ?_
                refine sA_geti (ci := 6) (j := 6) (q := (RX6, TX6, 10)) dd_X6_takeItem_153 rfl (by decide) fl_X6_36 (by decide) gs_s43 rfl ?_
                refine sA_iconst (z := 1) dd_X6_takeItem_156 ?_
                refine sA_isub dd_X6_takeItem_157 ?_
                refine sA_put (ci := 6) (j := 6) (q := (RX6, TX6, 10)) (ty := .int) dd_X6_takeItem_158 rfl (by decide) fl_X6_36 rfl (tyX6_ok 6 (by decide)) rfl rfl (by decide) gs_s43 rfl ?_
                have I159 : gs_I (gs_up F125 43 6 ((F125 43 6) - 1)) A := gs_I_put I126 (show (0 : Int) ≤ (F125 43 6) - 1 ∧ (F125 43 6) - 1 ≤ 4 by omega)
                have f160 := gs_fr_put f127 (a := 43) (z := (F125 43 6) - 1) (j := 6) (by first | omega | (dsimp only; omega) | (dsimp only))
                have v161 : gs_up F125 43 6 ((F125 43 6) - 1) 43 6 = (F125 43 6) - 1 := gs_up_self _ _ _ _
                generalize gs_up F125 43 6 ((F125 43 6) - 1) = F158 at I159 f160 v161 ⊢
                refine sA_aload_n dd_X6_takeItem_161 rfl (.tail _ (.head _)) ?_
                refine sA_iconst (z := 3) dd_X6_takeItem_162 ?_
                refine sA_put (ci := 6) (j := 7) (q := (RX6, TX6, 10)) (ty := .int) dd_X6_takeItem_163 rfl (by decide) fl_X6_39 rfl (tyX6_ok 7 (by decide)) rfl rfl (by decide) gs_s43 rfl ?_
                have I163 : gs_I (gs_up F158 43 7 3) A := gs_I_put I159 (show (-2147483648 : Int) ≤ 3 ∧ 3 ≤ 2147483647 by omega)
                have f164 := gs_fr_put f160 (a := 43) (z := 3) (j := 7) (by first | omega | (dsimp only; omega) | (dsimp only))
                have v165 : gs_up F158 43 7 3 43 7 = 3 := gs_up_self _ _ _ _
                generalize gs_up F158 43 7 3 = F162 at I163 f164 v165 ⊢
                refine sA_iconst (z := 0) dd_X6_takeItem_166 ?_
                refine sA_iret (z := 0) dd_X6_takeItem_167 rfl ?_
                exact ⟨_, rfl, I163, f164, by omega⟩
          · skip
            refine sA_aload_n dd_X6_takeItem_100 rfl (.tail _ (.head _)) ?_
            refine sA_geti (ci := 6) (j := 6) (q := (RX6, TX6, 10)) dd_X6_takeItem_101 rfl (by decide) fl_X6_36 (by decide) gs_s43 rfl ?_
            have b166 : (0 : Int) ≤ F125 43 6 ∧ F125 43 6 ≤ 4 := I126.1 43 6
            refine sA_iconst (z := 4) dd_X6_takeItem_104 ?_
            refine sA_icmp_lt (tgt := 110) dd_X6_takeItem_105 (by decide) (by omega) (by omega) (fun q167 => ?_) (fun q167 => ?_)
            · skip
              refine sA_aload_n dd_X6_takeItem_110 rfl (.tail _ (.head _)) ?_
              refine sA_getr (ci := 6) (j := 4) (q := (RX6, TX6, 10)) dd_X6_takeItem_111 rfl (by decide) fl_X6_26 (by decide) gs_s43 rfl ?_
              refine sA_aload_n dd_X6_takeItem_114 rfl (.tail _ (.head _)) ?_
              refine sA_geti (ci := 6) (j := 6) (q := (RX6, TX6, 10)) dd_X6_takeItem_115 rfl (by decide) fl_X6_36 (by decide) gs_s43 rfl ?_
              refine sA_aload_n dd_X6_takeItem_118 rfl (.tail _ (.head _)) ?_
              refine sA_getr (ci := 6) (j := 2) (q := (RX6, TX6, 10)) dd_X6_takeItem_119 rfl (by decide) fl_X6_18 (by decide) gs_s43 rfl ?_
              refine sA_geti (ci := 2) (j := 1) (q := (RX2, TX2, 2)) dd_X6_takeItem_122 rfl (by decide) fl_X6_32 (Nat.lt_of_succ_lt gs_plan_44.1) gs_plan_44.2.1 rfl ?_
              have b168 := gs_plan_sz gs_plan_44 I126
              refine sA_iast (n := 4) dd_X6_takeItem_125 (by decide) gs_s47 (by omega) (by decide) ?_
              have I170 : gs_I F125 (gs_up A 47 ((F125 43 6).toNat) (F125 44 1)) := gs_I_ast I126 (show (0 : Int) ≤ F125 44 1 ∧ F125 44 1 ≤ 60 by omega)
              have f171 := gs_fr_ast f127 (a := 47) (z := F125 44 1) (i := (F125 43 6).toNat) (by first | omega | (dsimp only; omega) | (dsimp only))
              generalize gs_up A 47 ((F125 43 6).toNat) (F125 44 1) = A169 at I170 f171 ⊢
              refine sA_aload_n dd_X6_takeItem_126 rfl (.tail _ (.head _)) ?_
              refine sA_dup dd_X6_takeItem_127 rfl ?_
              refine sA_geti (ci := 6) (j := 6) (q := (RX6, TX6, 10)) dd_X6_takeItem_128 rfl (by decide) fl_X6_36 (by decide) gs_s43 rfl ?_
              refine sA_iconst (z := 1) dd_X6_takeItem_131 ?_
              refine sA_iadd dd_X6_takeItem_132 ?_
              refine sA_put (ci := 6) (j := 6) (q := (RX6, TX6, 10)) (ty := .int) dd_X6_takeItem_133 rfl (by decide) fl_X6_36 rfl (tyX6_ok 6 (by decide)) rfl rfl (by decide) gs_s43 rfl ?_
              have I173 : gs_I (gs_up F125 43 6 ((F125 43 6) + 1)) A169 := gs_I_put I170 (show (0 : Int) ≤ (F125 43 6) + 1 ∧ (F125 43 6) + 1 ≤ 4 by omega)
              have f174 := gs_fr_put f171 (a := 43) (z := (F125 43 6) + 1) (j := 6) (by first | omega | (dsimp only; omega) | (dsimp only))
              have v175 : gs_up F125 43 6 ((F125 43 6) + 1) 43 6 = (F125 43 6) + 1 := gs_up_self _ _ _ _
              generalize gs_up F125 43 6 ((F125 43 6) + 1) = F172 at I173 f174 v175 ⊢
              refine sA_iconst (z := 0) dd_X6_takeItem_136 ?_
              refine sA_iret (z := 0) dd_X6_takeItem_137 rfl ?_
              exact ⟨_, rfl, I173, f174, by omega⟩
            · skip
              refine sA_iconst (z := 4) dd_X6_takeItem_108 ?_
              refine sA_iret (z := 4) dd_X6_takeItem_109 rfl ?_
              exact ⟨_, rfl, I126, f127, by omega⟩
        · skip
          refine sA_aload_n dd_X6_takeItem_74 rfl (.tail _ (.head _)) ?_
          refine sA_iload_n dd_X6_takeItem_75 rfl (.tail _ (.tail _ (.head _))) ?_
          refine sA_bipush (z := 97) dd_X6_takeItem_76 (by decide) ?_
          refine sA_isub dd_X6_takeItem_78 ?_
          refine sA_put (ci := 6) (j := 8) (q := (RX6, TX6, 10)) (ty := .int) dd_X6_takeItem_79 rfl (by decide) fl_X6_60 rfl (tyX6_ok 8 (by decide)) rfl rfl (by decide) gs_s43 rfl ?_
          have I177 : gs_I (gs_up F125 43 8 (v - 97)) A := gs_I_put I126 (show (-2147483648 : Int) ≤ v - 97 ∧ v - 97 ≤ 2147483647 by omega)
          have f178 := gs_fr_put f127 (a := 43) (z := v - 97) (j := 8) (by first | omega | (dsimp only; omega) | (dsimp only))
          have v179 : gs_up F125 43 8 (v - 97) 43 8 = v - 97 := gs_up_self _ _ _ _
          generalize gs_up F125 43 8 (v - 97) = F176 at I177 f178 v179 ⊢
          refine sA_aload_n dd_X6_takeItem_82 rfl (.tail _ (.head _)) ?_
          refine sA_iload_n dd_X6_takeItem_83 rfl (.tail _ (.tail _ (.tail _ (.head _)))) ?_
          refine sA_put (ci := 6) (j := 9) (q := (RX6, TX6, 10)) (ty := .int) dd_X6_takeItem_84 rfl (by decide) fl_X6_63 rfl (tyX6_ok 9 (by decide)) rfl rfl (by decide) gs_s43 rfl ?_
          have I181 : gs_I (gs_up F176 43 9 q) A := gs_I_put I177 (show (-2147483648 : Int) ≤ q ∧ q ≤ 2147483647 by omega)
          have f182 := gs_fr_put f178 (a := 43) (z := q) (j := 9) (by first | omega | (dsimp only; omega) | (dsimp only))
          have v183 : gs_up F176 43 9 q 43 9 = q := gs_up_self _ _ _ _
          generalize gs_up F176 43 9 q = F180 at I181 f182 v183 ⊢
          refine sA_aload_n dd_X6_takeItem_87 rfl (.tail _ (.head _)) ?_
          refine sA_iconst (z := 1) dd_X6_takeItem_88 ?_
          refine sA_put (ci := 6) (j := 7) (q := (RX6, TX6, 10)) (ty := .int) dd_X6_takeItem_89 rfl (by decide) fl_X6_39 rfl (tyX6_ok 7 (by decide)) rfl rfl (by decide) gs_s43 rfl ?_
          have I185 : gs_I (gs_up F180 43 7 1) A := gs_I_put I181 (show (-2147483648 : Int) ≤ 1 ∧ 1 ≤ 2147483647 by omega)
          have f186 := gs_fr_put f182 (a := 43) (z := 1) (j := 7) (by first | omega | (dsimp only; omega) | (dsimp only))
          have v187 : gs_up F180 43 7 1 43 7 = 1 := gs_up_self _ _ _ _
          generalize gs_up F180 43 7 1 = F184 at I185 f186 v187 ⊢
          refine sA_iconst (z := 0) dd_X6_takeItem_92 ?_
          refine sA_iret (z := 0) dd_X6_takeItem_93 rfl ?_
          exact ⟨_, rfl, I185, f186, by omega⟩
    · skip
      refine sA_iload_n dd_X6_takeItem_25 rfl (.head _) ?_
      refine sA_if_eq (tgt := 62) dd_X6_takeItem_26 (by decide) (by omega) (fun q188 => absurd q188 (by omega)) (fun q188 => ?_)
      refine sA_aload_n dd_X6_takeItem_29 rfl (.tail _ (.head _)) ?_
      refine sA_getr (ci := 6) (j := 2) (q := (RX6, TX6, 10)) dd_X6_takeItem_30 rfl (by decide) fl_X6_18 (by decide) gs_s43 rfl ?_
      refine sA_geti (ci := 2) (j := 1) (q := (RX2, TX2, 2)) dd_X6_takeItem_33 rfl (by decide) fl_X6_32 (Nat.lt_of_succ_lt gs_plan_44.1) gs_plan_44.2.1 rfl ?_
      have b189 := gs_plan_sz gs_plan_44 I126
      refine sA_if_le (tgt := 62) dd_X6_takeItem_36 (by decide) (by omega) (fun q190 => ?_) (fun q190 => ?_)
      · skip
        refine sA_iload_n dd_X6_takeItem_62 rfl (.tail _ (.tail _ (.head _))) ?_
        refine sA_bipush (z := 97) dd_X6_takeItem_63 (by decide) ?_
        refine sA_icmp_lt (tgt := 94) dd_X6_takeItem_65 (by decide) (by omega) (by omega) (fun q191 => ?_) (fun q191 => ?_)
        · skip
          refine sA_iload_n dd_X6_takeItem_94 rfl (.tail _ (.tail _ (.head _))) ?_
          refine sA_bipush (z := 40) dd_X6_takeItem_95 (by decide) ?_
          refine sA_icmp_ne (tgt := 138) dd_X6_takeItem_97 (by decide) (by omega) (by omega) (fun q192 => ?_) (fun q192 => ?_)
          · skip
            refine sA_iload_n dd_X6_takeItem_138 rfl (.tail _ (.tail _ (.head _))) ?_
            refine sA_bipush (z := 41) dd_X6_takeItem_139 (by decide) ?_
            refine sA_icmp_ne (tgt := 168) dd_X6_takeItem_141 (by decide) (by omega) (by omega) (fun q193 => ?_) (fun q193 => ?_)
            · skip
              refine sA_iconst (z := 1) dd_X6_takeItem_168 ?_
              refine sA_iret (z := 1) dd_X6_takeItem_169 rfl ?_
              exact ⟨_, rfl, I126, f127, by omega⟩
            · skip
              refine sA_aload_n dd_X6_takeItem_144 rfl (.tail _ (.head _)) ?_
              refine sA_geti (ci := 6) (j := 6) (q := (RX6, TX6, 10)) dd_X6_takeItem_145 rfl (by decide) fl_X6_36 (by decide) gs_s43 rfl ?_
              have b194 : (0 : Int) ≤ F125 43 6 ∧ F125 43 6 ≤ 4 := I126.1 43 6
              refine sA_if_le (tgt := 168) dd_X6_takeItem_148 (by decide) (by omega) (fun q195 => ?_) (fun q195 => ?_)
              · skip
                refine sA_iconst (z := 1) dd_X6_takeItem_168 ?_
                refine sA_iret (z := 1) dd_X6_takeItem_169 rfl ?_
                exact ⟨_, rfl, I126, f127, by omega⟩
              · skip
                refine sA_aload_n dd_X6_takeItem_151 rfl (.tail _ (.head _)) ?_
                refine sA_dup dd_X6_takeItem_152 rfl ?_
                refine sA_geti (ci := 6) (j := 6) (q := (RX6, TX6, 10)) dd_X6_takeItem_153 rfl (by decide) fl_X6_36 (by decide) gs_s43 rfl ?_
                refine sA_iconst (z := 1) dd_X6_takeItem_156 ?_
                refine sA_isub dd_X6_takeItem_157 ?_
                refine sA_put (ci := 6) (j := 6) (q := (RX6, TX6, 10)) (ty := .int) dd_X6_takeItem_158 rfl (by decide) fl_X6_36 rfl (tyX6_ok 6 (by decide)) rfl rfl (by decide) gs_s43 rfl ?_
                have I197 : gs_I (gs_up F125 43 6 ((F125 43 6) - 1)) A := gs_I_put I126 (show (0 : Int) ≤ (F125 43 6) - 1 ∧ (F125 43 6) - 1 ≤ 4 by omega)
                have f198 := gs_fr_put f127 (a := 43) (z := (F125 43 6) - 1) (j := 6) (by first | omega | (dsimp only; omega) | (dsimp only))
                have v199 : gs_up F125 43 6 ((F125 43 6) - 1) 43 6 = (F125 43 6) - 1 := gs_up_self _ _ _ _
                generalize gs_up F125 43 6 ((F125 43 6) - 1) = F196 at I197 f198 v199 ⊢
                refine sA_aload_n dd_X6_takeItem_161 rfl (.tail _ (.head _)) ?_
                refine sA_iconst (z := 3) dd_X6_takeItem_162 ?_
                refine sA_put (ci := 6) (j := 7) (q := (RX6, TX6, 10)) (ty := .int) dd_X6_takeItem_163 rfl (by decide) fl_X6_39 rfl (tyX6_ok 7 (by decide)) rfl rfl (by decide) gs_s43 rfl ?_
                have I201 : gs_I (gs_up F196 43 7 3) A := gs_I_put I197 (show (-2147483648 : Int) ≤ 3 ∧ 3 ≤ 2147483647 by omega)
                have f202 := gs_fr_put f198 (a := 43) (z := 3) (j := 7) (by first | omega | (dsimp only; omega) | (dsimp only))
                have v203 : gs_up F196 43 7 3 43 7 = 3 := gs_up_self _ _ _ _
                generalize gs_up F196 43 7 3 = F200 at I201 f202 v203 ⊢
                refine sA_iconst (z := 0) dd_X6_takeItem_166 ?_
                refine sA_iret (z := 0) dd_X6_takeItem_167 rfl ?_
                exact ⟨_, rfl, I201, f202, by omega⟩
          · skip
            refine sA_aload_n dd_X6_takeItem_100 rfl (.tail _ (.head _)) ?_
            refine sA_geti (ci := 6) (j := 6) (q := (RX6, TX6, 10)) dd_X6_takeItem_101 rfl (by decide) fl_X6_36 (by decide) gs_s43 rfl ?_
            have b204 : (0 : Int) ≤ F125 43 6 ∧ F125 43 6 ≤ 4 := I126.1 43 6
            refine sA_iconst (z := 4) dd_X6_takeItem_104 ?_
            refine sA_icmp_lt (tgt := 110) dd_X6_takeItem_105 (by decide) (by omega) (by omega) (fun q205 => ?_) (fun q205 => ?_)
            · skip
              refine sA_aload_n dd_X6_takeItem_110 rfl (.tail _ (.head _)) ?_
              refine sA_getr (ci := 6) (j := 4) (q := (RX6, TX6, 10)) dd_X6_takeItem_111 rfl (by decide) fl_X6_26 (by decide) gs_s43 rfl ?_
              refine sA_aload_n dd_X6_takeItem_114 rfl (.tail _ (.head _)) ?_
              refine sA_geti (ci := 6) (j := 6) (q := (RX6, TX6, 10)) dd_X6_takeItem_115 rfl (by decide) fl_X6_36 (by decide) gs_s43 rfl ?_
              refine sA_aload_n dd_X6_takeItem_118 rfl (.tail _ (.head _)) ?_
              refine sA_getr (ci := 6) (j := 2) (q := (RX6, TX6, 10)) dd_X6_takeItem_119 rfl (by decide) fl_X6_18 (by decide) gs_s43 rfl ?_
              refine sA_geti (ci := 2) (j := 1) (q := (RX2, TX2, 2)) dd_X6_takeItem_122 rfl (by decide) fl_X6_32 (Nat.lt_of_succ_lt gs_plan_44.1) gs_plan_44.2.1 rfl ?_
              refine sA_iast (n := 4) dd_X6_takeItem_125 (by decide) gs_s47 (by omega) (by decide) ?_
              have I207 : gs_I F125 (gs_up A 47 ((F125 43 6).toNat) (F125 44 1)) := gs_I_ast I126 (show (0 : Int) ≤ F125 44 1 ∧ F125 44 1 ≤ 60 by omega)
              have f208 := gs_fr_ast f127 (a := 47) (z := F125 44 1) (i := (F125 43 6).toNat) (by first | omega | (dsimp only; omega) | (dsimp only))
              generalize gs_up A 47 ((F125 43 6).toNat) (F125 44 1) = A206 at I207 f208 ⊢
              refine sA_aload_n dd_X6_takeItem_126 rfl (.tail _ (.head _)) ?_
              refine sA_dup dd_X6_takeItem_127 rfl ?_
              refine sA_geti (ci := 6) (j := 6) (q := (RX6, TX6, 10)) dd_X6_takeItem_128 rfl (by decide) fl_X6_36 (by decide) gs_s43 rfl ?_
              refine sA_iconst (z := 1) dd_X6_takeItem_131 ?_
              refine sA_iadd dd_X6_takeItem_132 ?_
              refine sA_put (ci := 6) (j := 6) (q := (RX6, TX6, 10)) (ty := .int) dd_X6_takeItem_133 rfl (by decide) fl_X6_36 rfl (tyX6_ok 6 (by decide)) rfl rfl (by decide) gs_s43 rfl ?_
              have I210 : gs_I (gs_up F125 43 6 ((F125 43 6) + 1)) A206 := gs_I_put I207 (show (0 : Int) ≤ (F125 43 6) + 1 ∧ (F125 43 6) + 1 ≤ 4 by omega)
              have f211 := gs_fr_put f208 (a := 43) (z := (F125 43 6) + 1) (j := 6) (by first | omega | (dsimp only; omega) | (dsimp only))
              have v212 : gs_up F125 43 6 ((F125 43 6) + 1) 43 6 = (F125 43 6) + 1 := gs_up_self _ _ _ _
              generalize gs_up F125 43 6 ((F125 43 6) + 1) = F209 at I210 f211 v212 ⊢
              refine sA_iconst (z := 0) dd_X6_takeItem_136 ?_
              refine sA_iret (z := 0) dd_X6_takeItem_137 rfl ?_
              exact ⟨_, rfl, I210, f211, by omega⟩
            · skip
              refine sA_iconst (z := 4) dd_X6_takeItem_108 ?_
              refine sA_iret (z := 4) dd_X6_takeItem_109 rfl ?_
              exact ⟨_, rfl, I126, f127, by omega⟩
        · skip
          refine sA_iload_n dd_X6_takeItem_68 rfl (.tail _ (.tail _ (.head _))) ?_
          refine sA_bipush (z := 99) dd_X6_takeItem_69 (by decide) ?_
          refine sA_icmp_gt (tgt := 94) dd_X6_takeItem_71 (by decide) (by omega) (by omega) (fun q213 => ?_) (fun q213 => ?_)
          · skip
            refine sA_iload_n dd_X6_takeItem_94 rfl (.tail _ (.tail _ (.head _))) ?_
            refine sA_bipush (z := 40) dd_X6_takeItem_95 (by decide) ?_
            refine sA_icmp_ne (tgt := 138) dd_X6_takeItem_97 (by decide) (by omega) (by omega) (fun q214 => ?_) (fun q214 => ?_)
            · skip
              refine sA_iload_n dd_X6_takeItem_138 rfl (.tail _ (.tail _ (.head _))) ?_
              refine sA_bipush (z := 41) dd_X6_takeItem_139 (by decide) ?_
              refine sA_icmp_ne (tgt := 168) dd_X6_takeItem_141 (by decide) (by omega) (by omega) (fun q215 => ?_) (fun q215 => ?_)
              · skip
                refine sA_iconst (z := 1) dd_X6_takeItem_168 ?_
                refine sA_iret (z := 1) dd_X6_takeItem_169 rfl ?_
                exact ⟨_, rfl, I126, f127, by omega⟩
              · skip
                refine sA_aload_n dd_X6_takeItem_144 rfl (.tail _ (.head _)) ?_
                refine sA_geti (ci := 6) (j := 6) (q := (RX6, TX6, 10)) dd_X6_takeItem_145 rfl (by decide) fl_X6_36 (by decide) gs_s43 rfl ?_
                have b216 : (0 : Int) ≤ F125 43 6 ∧ F125 43 6 ≤ 4 := I126.1 43 6
                refine sA_if_le (tgt := 168) dd_X6_takeItem_148 (by decide) (by omega) (fun q217 => ?_) (fun q217 => ?_)
                · skip
                  refine sA_iconst (z := 1) dd_X6_takeItem_168 ?_
                  refine sA_iret (z := 1) dd_X6_takeItem_169 rfl ?_
                  exact ⟨_, rfl, I126, f127, by omega⟩
                · skip
                  refine sA_aload_n dd_X6_takeItem_151 rfl (.tail _ (.head _)) ?_
                  refine sA_dup dd_X6_takeItem_152 rfl ?_
                  refine sA_geti (ci := 6) (j := 6) (q := (RX6, TX6, 10)) dd_X6_takeItem_153 rfl (by decide) fl_X6_36 (by decide) gs_s43 rfl ?_
                  refine sA_iconst (z := 1) dd_X6_takeItem_156 ?_
                  refine sA_isub dd_X6_takeItem_157 ?_
                  refine sA_put (ci := 6) (j := 6) (q := (RX6, TX6, 10)) (ty := .int) dd_X6_takeItem_158 rfl (by decide) fl_X6_36 rfl (tyX6_ok 6 (by decide)) rfl rfl (by decide) gs_s43 rfl ?_
                  have I219 : gs_I (gs_up F125 43 6 ((F125 43 6) - 1)) A := gs_I_put I126 (show (0 : Int) ≤ (F125 43 6) - 1 ∧ (F125 43 6) - 1 ≤ 4 by omega)
                  have f220 := gs_fr_put f127 (a := 43) (z := (F125 43 6) - 1) (j := 6) (by first | omega | (dsimp only; omega) | (dsimp only))
                  have v221 : gs_up F125 43 6 ((F125 43 6) - 1) 43 6 = (F125 43 6) - 1 := gs_up_self _ _ _ _
                  generalize gs_up F125 43 6 ((F125 43 6) - 1) = F218 at I219 f220 v221 ⊢
                  refine sA_aload_n dd_X6_takeItem_161 rfl (.tail _ (.head _)) ?_
                  refine sA_iconst (z := 3) dd_X6_takeItem_162 ?_
                  refine sA_put (ci := 6) (j := 7) (q := (RX6, TX6, 10)) (ty := .int) dd_X6_takeItem_163 rfl (by decide) fl_X6_39 rfl (tyX6_ok 7 (by decide)) rfl rfl (by decide) gs_s43 rfl ?_
                  have I223 : gs_I (gs_up F218 43 7 3) A := gs_I_put I219 (show (-2147483648 : Int) ≤ 3 ∧ 3 ≤ 2147483647 by omega)
                  have f224 := gs_fr_put f220 (a := 43) (z := 3) (j := 7) (by first | omega | (dsimp only; omega) | (dsimp only))
                  have v225 : gs_up F218 43 7 3 43 7 = 3 := gs_up_self _ _ _ _
                  generalize gs_up F218 43 7 3 = F222 at I223 f224 v225 ⊢
                  refine sA_iconst (z := 0) dd_X6_takeItem_166 ?_
                  refine sA_iret (z := 0) dd_X6_takeItem_167 rfl ?_
                  exact ⟨_, rfl, I223, f224, by omega⟩
            · skip
              refine sA_aload_n dd_X6_takeItem_100 rfl (.tail _ (.head _)) ?_
              refine sA_geti (ci := 6) (j := 6) (q := (RX6, TX6, 10)) dd_X6_takeItem_101 rfl (by decide) fl_X6_36 (by decide) gs_s43 rfl ?_
              have b226 : (0 : Int) ≤ F125 43 6 ∧ F125 43 6 ≤ 4 := I126.1 43 6
              refine sA_iconst (z := 4) dd_X6_takeItem_104 ?_
              refine sA_icmp_lt (tgt := 110) dd_X6_takeItem_105 (by decide) (by omega) (by omega) (fun q227 => ?_) (fun q227 => ?_)
              · skip
                refine sA_aload_n dd_X6_takeItem_110 rfl (.tail _ (.head _)) ?_
                refine sA_getr (ci := 6) (j := 4) (q := (RX6, TX6, 10)) dd_X6_takeItem_111 rfl (by decide) fl_X6_26 (by decide) gs_s43 rfl ?_
                refine sA_aload_n dd_X6_takeItem_114 rfl (.tail _ (.head _)) ?_
                refine sA_geti (ci := 6) (j := 6) (q := (RX6, TX6, 10)) dd_X6_takeItem_115 rfl (by decide) fl_X6_36 (by decide) gs_s43 rfl ?_
                refine sA_aload_n dd_X6_takeItem_118 rfl (.tail _ (.head _)) ?_
                refine sA_getr (ci := 6) (j := 2) (q := (RX6, TX6, 10)) dd_X6_takeItem_119 rfl (by decide) fl_X6_18 (by decide) gs_s43 rfl ?_
                refine sA_geti (ci := 2) (j := 1) (q := (RX2, TX2, 2)) dd_X6_takeItem_122 rfl (by decide) fl_X6_32 (Nat.lt_of_succ_lt gs_plan_44.1) gs_plan_44.2.1 rfl ?_
                refine sA_iast (n := 4) dd_X6_takeItem_125 (by decide) gs_s47 (by omega) (by decide) ?_
                have I229 : gs_I F125 (gs_up A 47 ((F125 43 6).toNat) (F125 44 1)) := gs_I_ast I126 (show (0 : Int) ≤ F125 44 1 ∧ F125 44 1 ≤ 60 by omega)
                have f230 := gs_fr_ast f127 (a := 47) (z := F125 44 1) (i := (F125 43 6).toNat) (by first | omega | (dsimp only; omega) | (dsimp only))
                generalize gs_up A 47 ((F125 43 6).toNat) (F125 44 1) = A228 at I229 f230 ⊢
                refine sA_aload_n dd_X6_takeItem_126 rfl (.tail _ (.head _)) ?_
                refine sA_dup dd_X6_takeItem_127 rfl ?_
                refine sA_geti (ci := 6) (j := 6) (q := (RX6, TX6, 10)) dd_X6_takeItem_128 rfl (by decide) fl_X6_36 (by decide) gs_s43 rfl ?_
                refine sA_iconst (z := 1) dd_X6_takeItem_131 ?_
                refine sA_iadd dd_X6_takeItem_132 ?_
                refine sA_put (ci := 6) (j := 6) (q := (RX6, TX6, 10)) (ty := .int) dd_X6_takeItem_133 rfl (by decide) fl_X6_36 rfl (tyX6_ok 6 (by decide)) rfl rfl (by decide) gs_s43 rfl ?_
                have I232 : gs_I (gs_up F125 43 6 ((F125 43 6) + 1)) A228 := gs_I_put I229 (show (0 : Int) ≤ (F125 43 6) + 1 ∧ (F125 43 6) + 1 ≤ 4 by omega)
                have f233 := gs_fr_put f230 (a := 43) (z := (F125 43 6) + 1) (j := 6) (by first | omega | (dsimp only; omega) | (dsimp only))
                have v234 : gs_up F125 43 6 ((F125 43 6) + 1) 43 6 = (F125 43 6) + 1 := gs_up_self _ _ _ _
                generalize gs_up F125 43 6 ((F125 43 6) + 1) = F231 at I232 f233 v234 ⊢
                refine sA_iconst (z := 0) dd_X6_takeItem_136 ?_
                refine sA_iret (z := 0) dd_X6_takeItem_137 rfl ?_
                exact ⟨_, rfl, I232, f233, by omega⟩
              · skip
                refine sA_iconst (z := 4) dd_X6_takeItem_108 ?_
                refine sA_iret (z := 4) dd_X6_takeItem_109 rfl ?_
                exact ⟨_, rfl, I126, f127, by omega⟩
          · skip
            refine sA_aload_n dd_X6_takeItem_74 rfl (.tail _ (.head _)) ?_
            refine sA_iload_n dd_X6_takeItem_75 rfl (.tail _ (.tail _ (.head _))) ?_
            refine sA_bipush (z := 97) dd_X6_takeItem_76 (by decide) ?_
            refine sA_isub dd_X6_takeItem_78 ?_
            refine sA_put (ci := 6) (j := 8) (q := (RX6, TX6, 10)) (ty := .int) dd_X6_takeItem_79 rfl (by decide) fl_X6_60 rfl (tyX6_ok 8 (by decide)) rfl rfl (by decide) gs_s43 rfl ?_
            have I236 : gs_I (gs_up F125 43 8 (v - 97)) A := gs_I_put I126 (show (-2147483648 : Int) ≤ v - 97 ∧ v - 97 ≤ 2147483647 by omega)
            have f237 := gs_fr_put f127 (a := 43) (z := v - 97) (j := 8) (by first | omega | (dsimp only; omega) | (dsimp only))
            have v238 : gs_up F125 43 8 (v - 97) 43 8 = v - 97 := gs_up_self _ _ _ _
            generalize gs_up F125 43 8 (v - 97) = F235 at I236 f237 v238 ⊢
            refine sA_aload_n dd_X6_takeItem_82 rfl (.tail _ (.head _)) ?_
            refine sA_iload_n dd_X6_takeItem_83 rfl (.tail _ (.tail _ (.tail _ (.head _)))) ?_
            refine sA_put (ci := 6) (j := 9) (q := (RX6, TX6, 10)) (ty := .int) dd_X6_takeItem_84 rfl (by decide) fl_X6_63 rfl (tyX6_ok 9 (by decide)) rfl rfl (by decide) gs_s43 rfl ?_
            have I240 : gs_I (gs_up F235 43 9 q) A := gs_I_put I236 (show (-2147483648 : Int) ≤ q ∧ q ≤ 2147483647 by omega)
            have f241 := gs_fr_put f237 (a := 43) (z := q) (j := 9) (by first | omega | (dsimp only; omega) | (dsimp only))
            have v242 : gs_up F235 43 9 q 43 9 = q := gs_up_self _ _ _ _
            generalize gs_up F235 43 9 q = F239 at I240 f241 v242 ⊢
            refine sA_aload_n dd_X6_takeItem_87 rfl (.tail _ (.head _)) ?_
            refine sA_iconst (z := 1) dd_X6_takeItem_88 ?_
            refine sA_put (ci := 6) (j := 7) (q := (RX6, TX6, 10)) (ty := .int) dd_X6_takeItem_89 rfl (by decide) fl_X6_39 rfl (tyX6_ok 7 (by decide)) rfl rfl (by decide) gs_s43 rfl ?_
            have I244 : gs_I (gs_up F239 43 7 1) A := gs_I_put I240 (show (-2147483648 : Int) ≤ 1 ∧ 1 ≤ 2147483647 by omega)
            have f245 := gs_fr_put f241 (a := 43) (z := 1) (j := 7) (by first | omega | (dsimp only; omega) | (dsimp only))
            have v246 : gs_up F239 43 7 1 43 7 = 1 := gs_up_self _ _ _ _
            generalize gs_up F239 43 7 1 = F243 at I244 f245 v246 ⊢
            refine sA_iconst (z := 0) dd_X6_takeItem_92 ?_
            refine sA_iret (z := 0) dd_X6_takeItem_93 rfl ?_
            exact ⟨_, rfl, I244, f245, by omega⟩
      · skip
        refine sA_aload_n dd_X6_takeItem_39 rfl (.tail _ (.head _)) ?_
        refine sA_getr (ci := 6) (j := 2) (q := (RX6, TX6, 10)) dd_X6_takeItem_40 rfl (by decide) fl_X6_18 (by decide) gs_s43 rfl ?_
        refine sA_getr (ci := 2) (j := 0) (q := (RX2, TX2, 2)) dd_X6_takeItem_43 rfl (by decide) fl_X6_70 (Nat.lt_of_succ_lt gs_plan_44.1) gs_plan_44.2.1 rfl ?_
        refine sA_aload_n dd_X6_takeItem_46 rfl (.tail _ (.head _)) ?_
        refine sA_getr (ci := 6) (j := 2) (q := (RX6, TX6, 10)) dd_X6_takeItem_47 rfl (by decide) fl_X6_18 (by decide) gs_s43 rfl ?_
        refine sA_geti (ci := 2) (j := 1) (q := (RX2, TX2, 2)) dd_X6_takeItem_50 rfl (by decide) fl_X6_32 (Nat.lt_of_succ_lt gs_plan_44.1) gs_plan_44.2.1 rfl ?_
        refine sA_iconst (z := 1) dd_X6_takeItem_53 ?_
        refine sA_isub dd_X6_takeItem_54 ?_
        refine sA_dup2 dd_X6_takeItem_55 rfl rfl ?_
        refine sA_iald (n := 60) dd_X6_takeItem_56 gs_plan_44.1 gs_plan_44.2.2.1 (by omega) (by decide) ?_
        have b247 := gs_plan_el gs_plan_44 I126 ((F125 44 1) - 1).toNat
        refine sA_iconst (z := 1) dd_X6_takeItem_57 ?_
        refine sA_ixor dd_X6_takeItem_58 ?_
        have b248 := gs_t_rng (Int32.ofInt (A (44 + 1) ((F125 44 1) - 1).toNat) ^^^ Int32.ofInt 1)
        generalize gs_t (Int32.ofInt (A (44 + 1) ((F125 44 1) - 1).toNat) ^^^ Int32.ofInt 1) = w249 at b248 ⊢
        refine sA_iast (n := 60) dd_X6_takeItem_59 gs_plan_44.1 gs_plan_44.2.2.1 (by omega) (by decide) ?_
        have I251 : gs_I F125 (gs_up A (44 + 1) (((F125 44 1) - 1).toNat) w249) := gs_plan_ast gs_plan_44 I126 (by omega)
        have f252 := gs_fr_ast f127 (a := 44 + 1) (z := w249) (i := ((F125 44 1) - 1).toNat) (by first | omega | (dsimp only; omega) | (dsimp only))
        generalize gs_up A (44 + 1) (((F125 44 1) - 1).toNat) w249 = A250 at I251 f252 ⊢
        refine sA_iconst (z := 0) dd_X6_takeItem_60 ?_
        refine sA_iret (z := 0) dd_X6_takeItem_61 rfl ?_
        exact ⟨_, rfl, I251, f252, by omega⟩
theorem dd_X6_take_0 : decode cX6_take 0 = .ok (.aload_n 0, 1) := by decide +kernel
theorem dd_X6_take_1 : decode cX6_take 1 = .ok (.getfield 39, 3) := by decide +kernel
theorem dd_X6_take_4 : decode cX6_take 4 = .ok (.lookupswitch 40 #[(1, 28), (3, 34)], 28) := by decide +kernel
theorem dd_X6_take_32 : decode cX6_take 32 = .ok (.aload_n 0, 1) := by decide +kernel
theorem dd_X6_take_33 : decode cX6_take 33 = .ok (.iload_n 1, 1) := by decide +kernel
theorem dd_X6_take_34 : decode cX6_take 34 = .ok (.invokevirtual 46, 3) := by decide +kernel
theorem dd_X6_take_37 : decode cX6_take 37 = .ok (.ireturn, 1) := by decide +kernel
theorem dd_X6_take_38 : decode cX6_take 38 = .ok (.aload_n 0, 1) := by decide +kernel
theorem dd_X6_take_39 : decode cX6_take 39 = .ok (.iload_n 1, 1) := by decide +kernel
theorem dd_X6_take_40 : decode cX6_take 40 = .ok (.invokevirtual 50, 3) := by decide +kernel
theorem dd_X6_take_43 : decode cX6_take 43 = .ok (.ireturn, 1) := by decide +kernel
theorem dd_X6_take_44 : decode cX6_take 44 = .ok (.aload_n 0, 1) := by decide +kernel
theorem dd_X6_take_45 : decode cX6_take 45 = .ok (.iload_n 1, 1) := by decide +kernel
theorem dd_X6_take_46 : decode cX6_take 46 = .ok (.iload_n 2, 1) := by decide +kernel
theorem dd_X6_take_47 : decode cX6_take 47 = .ok (.invokevirtual 53, 3) := by decide +kernel
theorem dd_X6_take_50 : decode cX6_take 50 = .ok (.ireturn, 1) := by decide +kernel
theorem ml_X6_46 : Cond.methodLink RX6 46 m_X6_takeHandle.1 ∈ am_tbl := ri_lw_in (pl := 531) (by decide +kernel)
theorem ml_X6_50 : Cond.methodLink RX6 50 m_X6_takeTimes.1 ∈ am_tbl := ri_lw_in (pl := 542) (by decide +kernel)
theorem ml_X6_53 : Cond.methodLink RX6 53 m_X6_takeItem.1 ∈ am_tbl := ri_lw_in (pl := 546) (by decide +kernel)
theorem ok_X6_take : am_okM m_X6_take 2 ∧ Cond.instanceMethod m_X6_take.1 ∈ am_tbl ∧ Cond.selects m_X6_take.1.cls m_X6_take.1 m_X6_take.1 ∈ am_tbl := ri_mk1 530 89 529 13 (by decide +kernel)
theorem c_X6_take {v q : Int} {F A : gs_F} (hI : gs_I F A) (hv : -2147483648 ≤ v ∧ v ≤ 2147483647) (hq : -2147483648 ≤ q ∧ q ≤ 2147483647) : sC m_X6_take 3 [.ref 43, gs_iv v, gs_iv q] F A (fun rv F' A' => ∃ z : Int, rv = some (gs_iv z) ∧ gs_I F' A' ∧ gs_fr (fun c j => (c = 43 ∧ (j = 1 ∨ (6 ≤ j ∧ j ≤ 9))) ∨ (c = 44 ∧ j = 1)) (fun c => c = 45 ∨ c = 47) F A F' A' ∧ (0 ≤ z ∧ z ≤ 4)) := by
  refine sC_of ok_X6_take.1 (Nat.le_of_ble_eq_true rfl) ?_
  show sA _ _ _ 0 [(0, .ref 43), (1, gs_iv v), (2, gs_iv q)] [] F A
  have hf : gs_fr (fun c j => (c = 43 ∧ (j = 1 ∨ (6 ≤ j ∧ j ≤ 9))) ∨ (c = 44 ∧ j = 1)) (fun c => c = 45 ∨ c = 47) F A F A := gs_fr_refl _ _ _ _
  refine sA_aload_n dd_X6_take_0 rfl (.head _) ?_
  refine sA_geti (ci := 6) (j := 7) (q := (RX6, TX6, 10)) dd_X6_take_1 rfl (by decide) fl_X6_39 (by decide) gs_s43 rfl ?_
  have b1 : (-2147483648 : Int) ≤ F 43 7 ∧ F 43 7 ≤ 2147483647 := hI.1 43 7
  by_cases q2 : F 43 7 = 1
  · refine sA_lookup (off := 28) (tgt := 32) dd_X6_take_4 (by decide) (by omega) (by rw [q2]; rfl) (by decide) ?_
    refine sA_aload_n dd_X6_take_32 rfl (.head _) ?_
    refine sA_iload_n dd_X6_take_33 rfl (.tail _ (.head _)) ?_
    refine sA_callV (y2 := m_X6_takeHandle) (n2 := 1) (d2 := 2) (a := 43) (ci := 6) (q := (RX6, TX6, 10)) (as := [gs_iv v]) (rest := []) dd_X6_take_34 ok_X6_takeHandle ml_X6_46 rfl rfl (by decide) gs_s43 rfl rfl (Nat.le_of_ble_eq_true rfl) (by decide) (c_X6_takeHandle hI (by omega)) (fun r3 F4 A5 h6 => ?_)
    obtain ⟨z9, e8, I10, f11, x7⟩ := h6
    subst e8
    have f12 := gs_fr_tr hf f11 (fun b j h => by first | exact False.elim h | omega | (dsimp only at h ⊢; omega)) (fun b h => by first | exact False.elim h | omega | (dsimp only at h ⊢; omega))
    show sA _ _ _ 37 _ [gs_iv z9] _ _
    refine sA_iret (z := z9) dd_X6_take_37 rfl ?_
    exact ⟨_, rfl, I10, f12, by omega⟩
  · skip
    by_cases q13 : F 43 7 = 3
    · refine sA_lookup (off := 34) (tgt := 38) dd_X6_take_4 (by decide) (by omega) (by rw [q13]; rfl) (by decide) ?_
      refine sA_aload_n dd_X6_take_38 rfl (.head _) ?_
      refine sA_iload_n dd_X6_take_39 rfl (.tail _ (.head _)) ?_
      refine sA_callV (y2 := m_X6_takeTimes) (n2 := 1) (d2 := 2) (a := 43) (ci := 6) (q := (RX6, TX6, 10)) (as := [gs_iv v]) (rest := []) dd_X6_take_40 ok_X6_takeTimes ml_X6_50 rfl rfl (by decide) gs_s43 rfl rfl (Nat.le_of_ble_eq_true rfl) (by decide) (c_X6_takeTimes hI (by omega)) (fun r14 F15 A16 h17 => ?_)
      obtain ⟨z20, e19, I21, f22, x18⟩ := h17
      subst e19
      have f23 := gs_fr_tr hf f22 (fun b j h => by first | exact False.elim h | omega | (dsimp only at h ⊢; omega)) (fun b h => by first | exact False.elim h | omega | (dsimp only at h ⊢; omega))
      show sA _ _ _ 43 _ [gs_iv z20] _ _
      refine sA_iret (z := z20) dd_X6_take_43 rfl ?_
      exact ⟨_, rfl, I21, f23, by omega⟩
    · skip
      refine sA_lookup (off := 40) (tgt := 44) dd_X6_take_4 (by decide) (by omega) (by simp [Op.lookupswitch.offset, Ne.symm q2, Ne.symm q13]) (by decide) ?_
      refine sA_aload_n dd_X6_take_44 rfl (.head _) ?_
      refine sA_iload_n dd_X6_take_45 rfl (.tail _ (.head _)) ?_
      refine sA_iload_n dd_X6_take_46 rfl (.tail _ (.tail _ (.head _))) ?_
      refine sA_callV (y2 := m_X6_takeItem) (n2 := 2) (d2 := 1) (a := 43) (ci := 6) (q := (RX6, TX6, 10)) (as := [gs_iv v, gs_iv q]) (rest := []) dd_X6_take_47 ok_X6_takeItem ml_X6_53 rfl rfl (by decide) gs_s43 rfl rfl (Nat.le_of_ble_eq_true rfl) (by decide) (c_X6_takeItem hI (by omega) (by omega)) (fun r24 F25 A26 h27 => ?_)
      obtain ⟨z30, e29, I31, f32, x28⟩ := h27
      subst e29
      have f33 := gs_fr_tr hf f32 (fun b j h => by first | exact False.elim h | omega | (dsimp only at h ⊢; omega)) (fun b h => by first | exact False.elim h | omega | (dsimp only at h ⊢; omega))
      show sA _ _ _ 50 _ [gs_iv z30] _ _
      refine sA_iret (z := z30) dd_X6_take_50 rfl ?_
      exact ⟨_, rfl, I31, f33, by omega⟩
theorem dd_X6_understand_0 : decode cX6_understand 0 = .ok (.aload_n 0, 1) := by decide +kernel
theorem dd_X6_understand_1 : decode cX6_understand 1 = .ok (.getfield 18, 3) := by decide +kernel
theorem dd_X6_understand_4 : decode cX6_understand 4 = .ok (.iconst 0, 1) := by decide +kernel
theorem dd_X6_understand_5 : decode cX6_understand 5 = .ok (.putfield 32, 3) := by decide +kernel
theorem dd_X6_understand_8 : decode cX6_understand 8 = .ok (.aload_n 0, 1) := by decide +kernel
theorem dd_X6_understand_9 : decode cX6_understand 9 = .ok (.iload_n 1, 1) := by decide +kernel
theorem dd_X6_understand_10 : decode cX6_understand 10 = .ok (.putfield 33, 3) := by decide +kernel
theorem dd_X6_understand_13 : decode cX6_understand 13 = .ok (.aload_n 0, 1) := by decide +kernel
theorem dd_X6_understand_14 : decode cX6_understand 14 = .ok (.iconst 0, 1) := by decide +kernel
theorem dd_X6_understand_15 : decode cX6_understand 15 = .ok (.putfield 36, 3) := by decide +kernel
theorem dd_X6_understand_18 : decode cX6_understand 18 = .ok (.aload_n 0, 1) := by decide +kernel
theorem dd_X6_understand_19 : decode cX6_understand 19 = .ok (.iconst 0, 1) := by decide +kernel
theorem dd_X6_understand_20 : decode cX6_understand 20 = .ok (.putfield 39, 3) := by decide +kernel
theorem dd_X6_understand_23 : decode cX6_understand 23 = .ok (.iconst 0, 1) := by decide +kernel
theorem dd_X6_understand_24 : decode cX6_understand 24 = .ok (.istore_n 2, 1) := by decide +kernel
theorem dd_X6_understand_25 : decode cX6_understand 25 = .ok (.iload_n 2, 1) := by decide +kernel
theorem dd_X6_understand_26 : decode cX6_understand 26 = .ok (.aload_n 0, 1) := by decide +kernel
theorem dd_X6_understand_27 : decode cX6_understand 27 = .ok (.getfield 29, 3) := by decide +kernel
theorem dd_X6_understand_30 : decode cX6_understand 30 = .ok (.if_icmp .ge 47, 3) := by decide +kernel
theorem dd_X6_understand_33 : decode cX6_understand 33 = .ok (.aload_n 0, 1) := by decide +kernel
theorem dd_X6_understand_34 : decode cX6_understand 34 = .ok (.iload_n 2, 1) := by decide +kernel
theorem dd_X6_understand_35 : decode cX6_understand 35 = .ok (.putfield 9, 3) := by decide +kernel
theorem dd_X6_understand_38 : decode cX6_understand 38 = .ok (.aload_n 0, 1) := by decide +kernel
theorem dd_X6_understand_39 : decode cX6_understand 39 = .ok (.getfield 22, 3) := by decide +kernel
theorem dd_X6_understand_42 : decode cX6_understand 42 = .ok (.iload_n 2, 1) := by decide +kernel
theorem dd_X6_understand_43 : decode cX6_understand 43 = .ok (.iaload, 1) := by decide +kernel
theorem dd_X6_understand_44 : decode cX6_understand 44 = .ok (.bipush 32, 2) := by decide +kernel
theorem dd_X6_understand_46 : decode cX6_understand 46 = .ok (.if_icmp .ne 7, 3) := by decide +kernel
theorem dd_X6_understand_49 : decode cX6_understand 49 = .ok (.iconst 0, 1) := by decide +kernel
theorem dd_X6_understand_50 : decode cX6_understand 50 = .ok (.goto 14, 3) := by decide +kernel
theorem dd_X6_understand_53 : decode cX6_understand 53 = .ok (.aload_n 0, 1) := by decide +kernel
theorem dd_X6_understand_54 : decode cX6_understand 54 = .ok (.aload_n 0, 1) := by decide +kernel
theorem dd_X6_understand_55 : decode cX6_understand 55 = .ok (.getfield 22, 3) := by decide +kernel
theorem dd_X6_understand_58 : decode cX6_understand 58 = .ok (.iload_n 2, 1) := by decide +kernel
theorem dd_X6_understand_59 : decode cX6_understand 59 = .ok (.iaload, 1) := by decide +kernel
theorem dd_X6_understand_60 : decode cX6_understand 60 = .ok (.iload_n 2, 1) := by decide +kernel
theorem dd_X6_understand_61 : decode cX6_understand 61 = .ok (.invokevirtual 42, 3) := by decide +kernel
theorem dd_X6_understand_64 : decode cX6_understand 64 = .ok (.istore_n 3, 1) := by decide +kernel
theorem dd_X6_understand_65 : decode cX6_understand 65 = .ok (.iload_n 3, 1) := by decide +kernel
theorem dd_X6_understand_66 : decode cX6_understand 66 = .ok (.ifCond .eq 5, 3) := by decide +kernel
theorem dd_X6_understand_69 : decode cX6_understand 69 = .ok (.iload_n 3, 1) := by decide +kernel
theorem dd_X6_understand_70 : decode cX6_understand 70 = .ok (.ireturn, 1) := by decide +kernel
theorem dd_X6_understand_71 : decode cX6_understand 71 = .ok (.iinc 2 1, 3) := by decide +kernel
theorem dd_X6_understand_74 : decode cX6_understand 74 = .ok (.goto (-49), 3) := by decide +kernel
theorem dd_X6_understand_77 : decode cX6_understand 77 = .ok (.aload_n 0, 1) := by decide +kernel
theorem dd_X6_understand_78 : decode cX6_understand 78 = .ok (.aload_n 0, 1) := by decide +kernel
theorem dd_X6_understand_79 : decode cX6_understand 79 = .ok (.getfield 29, 3) := by decide +kernel
theorem dd_X6_understand_82 : decode cX6_understand 82 = .ok (.putfield 9, 3) := by decide +kernel
theorem dd_X6_understand_85 : decode cX6_understand 85 = .ok (.aload_n 0, 1) := by decide +kernel
theorem dd_X6_understand_86 : decode cX6_understand 86 = .ok (.getfield 36, 3) := by decide +kernel
theorem dd_X6_understand_89 : decode cX6_understand 89 = .ok (.ifCond .gt 19, 3) := by decide +kernel
theorem dd_X6_understand_92 : decode cX6_understand 92 = .ok (.aload_n 0, 1) := by decide +kernel
theorem dd_X6_understand_93 : decode cX6_understand 93 = .ok (.getfield 39, 3) := by decide +kernel
theorem dd_X6_understand_96 : decode cX6_understand 96 = .ok (.iconst 1, 1) := by decide +kernel
theorem dd_X6_understand_97 : decode cX6_understand 97 = .ok (.if_icmp .eq 11, 3) := by decide +kernel
theorem dd_X6_understand_100 : decode cX6_understand 100 = .ok (.aload_n 0, 1) := by decide +kernel
theorem dd_X6_understand_101 : decode cX6_understand 101 = .ok (.getfield 39, 3) := by decide +kernel
theorem dd_X6_understand_104 : decode cX6_understand 104 = .ok (.iconst 3, 1) := by decide +kernel
theorem dd_X6_understand_105 : decode cX6_understand 105 = .ok (.if_icmp .ne 5, 3) := by decide +kernel
theorem dd_X6_understand_108 : decode cX6_understand 108 = .ok (.iconst 1, 1) := by decide +kernel
theorem dd_X6_understand_109 : decode cX6_understand 109 = .ok (.ireturn, 1) := by decide +kernel
theorem dd_X6_understand_110 : decode cX6_understand 110 = .ok (.aload_n 0, 1) := by decide +kernel
theorem dd_X6_understand_111 : decode cX6_understand 111 = .ok (.iconst (-1), 1) := by decide +kernel
theorem dd_X6_understand_112 : decode cX6_understand 112 = .ok (.putfield 9, 3) := by decide +kernel
theorem dd_X6_understand_115 : decode cX6_understand 115 = .ok (.iconst 0, 1) := by decide +kernel
theorem dd_X6_understand_116 : decode cX6_understand 116 = .ok (.ireturn, 1) := by decide +kernel
theorem ml_X6_42 : Cond.methodLink RX6 42 m_X6_take.1 ∈ am_tbl := ri_lw_in (pl := 527) (by decide +kernel)
theorem ok_X6_understand : am_okM m_X6_understand 1 ∧ Cond.instanceMethod m_X6_understand.1 ∈ am_tbl ∧ Cond.selects m_X6_understand.1.cls m_X6_understand.1 m_X6_understand.1 ∈ am_tbl := ri_mk1 526 89 524 525 (by decide +kernel)
theorem k_X6_understand {g : Int} {F A : gs_F} (hI : gs_I F A) (hg : 1 ≤ g ∧ g ≤ 3) : ∀ nN : Nat, (∀ (p : Int)  (F1 A1 : gs_F), gs_I F1 A1 → gs_fr (fun c j => (c = 43 ∧ (j = 1 ∨ (5 ≤ j ∧ j ≤ 9))) ∨ (c = 44 ∧ j = 1)) (fun c => c = 45 ∨ c = 47) F A F1 A1 → 0 ≤ p ∧ p ≤ F1 43 0 → F1 43 0 - p < (nN : Int) → sA m_X6_understand 4 (fun rv F' A' => ∃ z : Int, rv = some (gs_iv z) ∧ gs_I F' A' ∧ gs_fr (fun c j => (c = 43 ∧ (j = 1 ∨ (5 ≤ j ∧ j ≤ 9))) ∨ (c = 44 ∧ j = 1)) (fun c => c = 45 ∨ c = 47) F A F' A' ∧ (0 ≤ z ∧ z ≤ 4)) 25 [(2, gs_iv p), (0, .ref 43)] [] F1 A1) := by
  intro nN
  induction nN with
  | zero =>
    exact fun a0 a1 a2 a3 a4 i0 hm => by exfalso; omega
  | succ nN ih =>
    intro p F1 A1 hI1 hf1 i0 hm
    have b1 : (0 : Int) ≤ F1 43 0 ∧ F1 43 0 ≤ 120 := hI1.1 43 0
    refine sA_iload_n dd_X6_understand_25 rfl (.head _) ?_
    refine sA_aload_n dd_X6_understand_26 rfl (.tail _ (.head _)) ?_
    refine sA_geti (ci := 6) (j := 0) (q := (RX6, TX6, 10)) dd_X6_understand_27 rfl (by decide) fl_X6_29 (by decide) gs_s43 rfl ?_
    refine sA_icmp_ge (tgt := 77) dd_X6_understand_30 (by decide) (by omega) (by omega) (fun q2 => ?_) (fun q2 => ?_)
    · skip
      refine sA_aload_n dd_X6_understand_77 rfl (.tail _ (.head _)) ?_
      refine sA_aload_n dd_X6_understand_78 rfl (.tail _ (.head _)) ?_
      refine sA_geti (ci := 6) (j := 0) (q := (RX6, TX6, 10)) dd_X6_understand_79 rfl (by decide) fl_X6_29 (by decide) gs_s43 rfl ?_
      refine sA_put (ci := 6) (j := 1) (q := (RX6, TX6, 10)) (ty := .int) dd_X6_understand_82 rfl (by decide) fl_X6_9 rfl (tyX6_ok 1 (by decide)) rfl rfl (by decide) gs_s43 rfl ?_
      have I4 : gs_I (gs_up F1 43 1 (F1 43 0)) A1 := gs_I_put hI1 (show (-2147483648 : Int) ≤ F1 43 0 ∧ F1 43 0 ≤ 2147483647 by omega)
      have f5 := gs_fr_put hf1 (a := 43) (z := F1 43 0) (j := 1) (by first | omega | (dsimp only; omega) | (dsimp only))
      have v6 : gs_up F1 43 1 (F1 43 0) 43 1 = F1 43 0 := gs_up_self _ _ _ _
      have v7 : (gs_up F1 43 1 (F1 43 0)) 43 0 = F1 43 0 := gs_up_ne _ _ (by omega)
      generalize gs_up F1 43 1 (F1 43 0) = F3 at I4 f5 v6 v7 ⊢
      refine sA_aload_n dd_X6_understand_85 rfl (.tail _ (.head _)) ?_
      refine sA_geti (ci := 6) (j := 6) (q := (RX6, TX6, 10)) dd_X6_understand_86 rfl (by decide) fl_X6_36 (by decide) gs_s43 rfl ?_
      have b8 : (0 : Int) ≤ F3 43 6 ∧ F3 43 6 ≤ 4 := I4.1 43 6
      refine sA_if_gt (tgt := 108) dd_X6_understand_89 (by decide) (by omega) (fun q9 => ?_) (fun q9 => ?_)
      · skip
        refine sA_iconst (z := 1) dd_X6_understand_108 ?_
        refine sA_iret (z := 1) dd_X6_understand_109 rfl ?_
        exact ⟨_, rfl, I4, f5, by omega⟩
      · skip
        refine sA_aload_n dd_X6_understand_92 rfl (.tail _ (.head _)) ?_
        refine sA_geti (ci := 6) (j := 7) (q := (RX6, TX6, 10)) dd_X6_understand_93 rfl (by decide) fl_X6_39 (by decide) gs_s43 rfl ?_
        have b10 : (-2147483648 : Int) ≤ F3 43 7 ∧ F3 43 7 ≤ 2147483647 := I4.1 43 7
        refine sA_iconst (z := 1) dd_X6_understand_96 ?_
        refine sA_icmp_eq (tgt := 108) dd_X6_understand_97 (by decide) (by omega) (by omega) (fun q11 => ?_) (fun q11 => ?_)
        · skip
          refine sA_iconst (z := 1) dd_X6_understand_108 ?_
          refine sA_iret (z := 1) dd_X6_understand_109 rfl ?_
          exact ⟨_, rfl, I4, f5, by omega⟩
        · skip
          refine sA_aload_n dd_X6_understand_100 rfl (.tail _ (.head _)) ?_
          refine sA_geti (ci := 6) (j := 7) (q := (RX6, TX6, 10)) dd_X6_understand_101 rfl (by decide) fl_X6_39 (by decide) gs_s43 rfl ?_
          refine sA_iconst (z := 3) dd_X6_understand_104 ?_
          refine sA_icmp_ne (tgt := 110) dd_X6_understand_105 (by decide) (by omega) (by omega) (fun q12 => ?_) (fun q12 => ?_)
          · skip
            refine sA_aload_n dd_X6_understand_110 rfl (.tail _ (.head _)) ?_
            refine sA_iconst (z := (-1)) dd_X6_understand_111 ?_
            refine sA_put (ci := 6) (j := 1) (q := (RX6, TX6, 10)) (ty := .int) dd_X6_understand_112 rfl (by decide) fl_X6_9 rfl (tyX6_ok 1 (by decide)) rfl rfl (by decide) gs_s43 rfl ?_
            have I14 : gs_I (gs_up F3 43 1 (-1)) A1 := gs_I_put I4 (show (-2147483648 : Int) ≤ -1 ∧ -1 ≤ 2147483647 by omega)
            have f15 := gs_fr_put f5 (a := 43) (z := -1) (j := 1) (by first | omega | (dsimp only; omega) | (dsimp only))
            have v16 : gs_up F3 43 1 (-1) 43 1 = -1 := gs_up_self _ _ _ _
            have v17 : (gs_up F3 43 1 (-1)) 43 0 = F3 43 0 := gs_up_ne _ _ (by omega)
            generalize gs_up F3 43 1 (-1) = F13 at I14 f15 v16 v17 ⊢
            refine sA_iconst (z := 0) dd_X6_understand_115 ?_
            refine sA_iret (z := 0) dd_X6_understand_116 rfl ?_
            exact ⟨_, rfl, I14, f15, by omega⟩
          · skip
            refine sA_iconst (z := 1) dd_X6_understand_108 ?_
            refine sA_iret (z := 1) dd_X6_understand_109 rfl ?_
            exact ⟨_, rfl, I4, f5, by omega⟩
    · skip
      refine sA_aload_n dd_X6_understand_33 rfl (.tail _ (.head _)) ?_
      refine sA_iload_n dd_X6_understand_34 rfl (.head _) ?_
      refine sA_put (ci := 6) (j := 1) (q := (RX6, TX6, 10)) (ty := .int) dd_X6_understand_35 rfl (by decide) fl_X6_9 rfl (tyX6_ok 1 (by decide)) rfl rfl (by decide) gs_s43 rfl ?_
      have I19 : gs_I (gs_up F1 43 1 p) A1 := gs_I_put hI1 (show (-2147483648 : Int) ≤ p ∧ p ≤ 2147483647 by omega)
      have f20 := gs_fr_put hf1 (a := 43) (z := p) (j := 1) (by first | omega | (dsimp only; omega) | (dsimp only))
      have v21 : gs_up F1 43 1 p 43 1 = p := gs_up_self _ _ _ _
      have v22 : (gs_up F1 43 1 p) 43 0 = F1 43 0 := gs_up_ne _ _ (by omega)
      generalize gs_up F1 43 1 p = F18 at I19 f20 v21 v22 ⊢
      refine sA_aload_n dd_X6_understand_38 rfl (.tail _ (.head _)) ?_
      refine sA_getr (ci := 6) (j := 3) (q := (RX6, TX6, 10)) dd_X6_understand_39 rfl (by decide) fl_X6_22 (by decide) gs_s43 rfl ?_
      refine sA_iload_n dd_X6_understand_42 rfl (.head _) ?_
      refine sA_iald (n := 120) dd_X6_understand_43 (by decide) gs_s46 (by omega) (by decide) ?_
      have b23 : (-2147483648 : Int) ≤ A1 46 p.toNat ∧ A1 46 p.toNat ≤ 2147483647 := I19.2 46 p.toNat
      refine sA_bipush (z := 32) dd_X6_understand_44 (by decide) ?_
      refine sA_icmp_ne (tgt := 53) dd_X6_understand_46 (by decide) (by omega) (by omega) (fun q24 => ?_) (fun q24 => ?_)
      · skip
        refine sA_aload_n dd_X6_understand_53 rfl (.tail _ (.head _)) ?_
        refine sA_aload_n dd_X6_understand_54 rfl (.tail _ (.head _)) ?_
        refine sA_getr (ci := 6) (j := 3) (q := (RX6, TX6, 10)) dd_X6_understand_55 rfl (by decide) fl_X6_22 (by decide) gs_s43 rfl ?_
        refine sA_iload_n dd_X6_understand_58 rfl (.head _) ?_
        refine sA_iald (n := 120) dd_X6_understand_59 (by decide) gs_s46 (by omega) (by decide) ?_
        refine sA_iload_n dd_X6_understand_60 rfl (.head _) ?_
        refine sA_callV (y2 := m_X6_take) (n2 := 2) (d2 := 3) (a := 43) (ci := 6) (q := (RX6, TX6, 10)) (as := [gs_iv (A1 46 p.toNat), gs_iv p]) (rest := []) dd_X6_understand_61 ok_X6_take ml_X6_42 rfl rfl (by decide) gs_s43 rfl rfl (Nat.le_of_ble_eq_true rfl) (by decide) (c_X6_take I19 (by omega) (by omega)) (fun r25 F26 A27 h28 => ?_)
        obtain ⟨z31, e30, I32, f33, x29⟩ := h28
        subst e30
        have v34 : F26 43 0 = F18 43 0 := f33.1 43 0 (by first | exact id | omega | (dsimp only; omega) | (dsimp only))
        have f35 := gs_fr_tr f20 f33 (fun b j h => by first | exact False.elim h | omega | (dsimp only at h ⊢; omega)) (fun b h => by first | exact False.elim h | omega | (dsimp only at h ⊢; omega))
        show sA _ _ _ 64 _ [gs_iv z31] _ _
        refine sA_istore_n (lv' := [(3, gs_iv z31), (2, gs_iv p), (0, .ref 43)]) dd_X6_understand_64 rfl (by decide) rfl ?_
        refine sA_iload_n dd_X6_understand_65 rfl (.head _) ?_
        refine sA_if_eq (tgt := 71) dd_X6_understand_66 (by decide) (by omega) (fun q36 => ?_) (fun q36 => ?_)
        · skip
          refine sA_iinc (lv' := [(2, gs_iv (p + 1)), (3, gs_iv z31), (0, .ref 43)]) dd_X6_understand_71 (.tail _ (.head _)) (by decide) rfl ?_
          refine sA_goto (tgt := 25) dd_X6_understand_74 (by decide) ?_
          have b37 : (0 : Int) ≤ F26 43 0 ∧ F26 43 0 ≤ 120 := I32.1 43 0
          refine sA_sub (lv2 := [(2, gs_iv (p + 1)), (0, .ref 43)]) (List.forall_mem_cons.mpr ⟨(.head _), (List.forall_mem_cons.mpr ⟨(.tail _ (.tail _ (.head _))), (fun _ h => absurd h List.not_mem_nil)⟩)⟩) ?_
          exact ih (p + 1) F26 A27 I32 f35 (by omega) (by omega)
        · skip
          refine sA_iload_n dd_X6_understand_69 rfl (.head _) ?_
          refine sA_iret (z := z31) dd_X6_understand_70 rfl ?_
          exact ⟨_, rfl, I32, f35, by omega⟩
      · skip
        refine sA_iconst (z := 0) dd_X6_understand_49 ?_
        refine sA_goto (tgt := 64) dd_X6_understand_50 (by decide) ?_
        refine sA_istore_n (lv' := [(3, gs_iv 0), (2, gs_iv p), (0, .ref 43)]) dd_X6_understand_64 rfl (by decide) rfl ?_
        refine sA_iload_n dd_X6_understand_65 rfl (.head _) ?_
        refine sA_if_eq (tgt := 71) dd_X6_understand_66 (by decide) (by omega) (fun q38 => ?_) (fun q38 => absurd q38 (by omega))
        refine sA_iinc (lv' := [(2, gs_iv (p + 1)), (3, gs_iv 0), (0, .ref 43)]) dd_X6_understand_71 (.tail _ (.head _)) (by decide) rfl ?_
        refine sA_goto (tgt := 25) dd_X6_understand_74 (by decide) ?_
        have b39 : (0 : Int) ≤ F18 43 0 ∧ F18 43 0 ≤ 120 := I19.1 43 0
        refine sA_sub (lv2 := [(2, gs_iv (p + 1)), (0, .ref 43)]) (List.forall_mem_cons.mpr ⟨(.head _), (List.forall_mem_cons.mpr ⟨(.tail _ (.tail _ (.head _))), (fun _ h => absurd h List.not_mem_nil)⟩)⟩) ?_
        exact ih (p + 1) F18 A1 I19 f20 (by omega) (by omega)
theorem c_X6_understand {g : Int} {F A : gs_F} (hI : gs_I F A) (hg : 1 ≤ g ∧ g ≤ 3) : sC m_X6_understand 4 [.ref 43, gs_iv g] F A (fun rv F' A' => ∃ z : Int, rv = some (gs_iv z) ∧ gs_I F' A' ∧ gs_fr (fun c j => (c = 43 ∧ (j = 1 ∨ (5 ≤ j ∧ j ≤ 9))) ∨ (c = 44 ∧ j = 1)) (fun c => c = 45 ∨ c = 47) F A F' A' ∧ (0 ≤ z ∧ z ≤ 4)) := by
  refine sC_of ok_X6_understand.1 (Nat.le_of_ble_eq_true rfl) ?_
  show sA _ _ _ 0 [(0, .ref 43), (1, gs_iv g)] [] F A
  have hf : gs_fr (fun c j => (c = 43 ∧ (j = 1 ∨ (5 ≤ j ∧ j ≤ 9))) ∨ (c = 44 ∧ j = 1)) (fun c => c = 45 ∨ c = 47) F A F A := gs_fr_refl _ _ _ _
  have b40 : (0 : Int) ≤ F 43 0 ∧ F 43 0 ≤ 120 := hI.1 43 0
  refine sA_aload_n dd_X6_understand_0 rfl (.head _) ?_
  refine sA_getr (ci := 6) (j := 2) (q := (RX6, TX6, 10)) dd_X6_understand_1 rfl (by decide) fl_X6_18 (by decide) gs_s43 rfl ?_
  refine sA_iconst (z := 0) dd_X6_understand_4 ?_
  refine sA_put (ci := 2) (j := 1) (q := (RX2, TX2, 2)) (ty := .int) dd_X6_understand_5 rfl (by decide) fl_X6_32 rfl (tyX2_ok 1 (by decide)) rfl rfl (Nat.lt_of_succ_lt gs_plan_44.1) gs_plan_44.2.1 rfl ?_
  have I42 : gs_I (gs_up F 44 1 0) A := gs_plan_put gs_plan_44 hI (by omega)
  have f43 := gs_fr_put hf (a := 44) (z := 0) (j := 1) (by first | omega | (dsimp only; omega) | (dsimp only))
  have v44 : gs_up F 44 1 0 44 1 = 0 := gs_up_self _ _ _ _
  have v45 : (gs_up F 44 1 0) 43 0 = F 43 0 := gs_up_ne _ _ (by omega)
  generalize gs_up F 44 1 0 = F41 at I42 f43 v44 v45 ⊢
  refine sA_aload_n dd_X6_understand_8 rfl (.head _) ?_
  refine sA_iload_n dd_X6_understand_9 rfl (.tail _ (.head _)) ?_
  refine sA_put (ci := 6) (j := 5) (q := (RX6, TX6, 10)) (ty := .int) dd_X6_understand_10 rfl (by decide) fl_X6_33 rfl (tyX6_ok 5 (by decide)) rfl rfl (by decide) gs_s43 rfl ?_
  have I47 : gs_I (gs_up F41 43 5 g) A := gs_I_put I42 (show (0 : Int) ≤ g ∧ g ≤ 3 by omega)
  have f48 := gs_fr_put f43 (a := 43) (z := g) (j := 5) (by first | omega | (dsimp only; omega) | (dsimp only))
  have v49 : gs_up F41 43 5 g 43 5 = g := gs_up_self _ _ _ _
  have v50 : (gs_up F41 43 5 g) 43 0 = F41 43 0 := gs_up_ne _ _ (by omega)
  generalize gs_up F41 43 5 g = F46 at I47 f48 v49 v50 ⊢
  refine sA_aload_n dd_X6_understand_13 rfl (.head _) ?_
  refine sA_iconst (z := 0) dd_X6_understand_14 ?_
  refine sA_put (ci := 6) (j := 6) (q := (RX6, TX6, 10)) (ty := .int) dd_X6_understand_15 rfl (by decide) fl_X6_36 rfl (tyX6_ok 6 (by decide)) rfl rfl (by decide) gs_s43 rfl ?_
  have I52 : gs_I (gs_up F46 43 6 0) A := gs_I_put I47 (show (0 : Int) ≤ 0 ∧ 0 ≤ 4 by omega)
  have f53 := gs_fr_put f48 (a := 43) (z := 0) (j := 6) (by first | omega | (dsimp only; omega) | (dsimp only))
  have v54 : gs_up F46 43 6 0 43 6 = 0 := gs_up_self _ _ _ _
  have v55 : (gs_up F46 43 6 0) 43 0 = F46 43 0 := gs_up_ne _ _ (by omega)
  generalize gs_up F46 43 6 0 = F51 at I52 f53 v54 v55 ⊢
  refine sA_aload_n dd_X6_understand_18 rfl (.head _) ?_
  refine sA_iconst (z := 0) dd_X6_understand_19 ?_
  refine sA_put (ci := 6) (j := 7) (q := (RX6, TX6, 10)) (ty := .int) dd_X6_understand_20 rfl (by decide) fl_X6_39 rfl (tyX6_ok 7 (by decide)) rfl rfl (by decide) gs_s43 rfl ?_
  have I57 : gs_I (gs_up F51 43 7 0) A := gs_I_put I52 (show (-2147483648 : Int) ≤ 0 ∧ 0 ≤ 2147483647 by omega)
  have f58 := gs_fr_put f53 (a := 43) (z := 0) (j := 7) (by first | omega | (dsimp only; omega) | (dsimp only))
  have v59 : gs_up F51 43 7 0 43 7 = 0 := gs_up_self _ _ _ _
  have v60 : (gs_up F51 43 7 0) 43 0 = F51 43 0 := gs_up_ne _ _ (by omega)
  generalize gs_up F51 43 7 0 = F56 at I57 f58 v59 v60 ⊢
  refine sA_iconst (z := 0) dd_X6_understand_23 ?_
  refine sA_istore_n (lv' := [(2, gs_iv 0), (0, .ref 43), (1, gs_iv g)]) dd_X6_understand_24 rfl (by decide) rfl ?_
  have b61 : (0 : Int) ≤ F56 43 0 ∧ F56 43 0 ≤ 120 := I57.1 43 0
  refine sA_sub (lv2 := [(2, gs_iv 0), (0, .ref 43)]) (List.forall_mem_cons.mpr ⟨(.head _), (List.forall_mem_cons.mpr ⟨(.tail _ (.head _)), (fun _ h => absurd h List.not_mem_nil)⟩)⟩) ?_
  exact (k_X6_understand hI hg (F56 43 0 - 0 : Int).toNat.succ) 0 F56 A I57 f58 (by omega) (by omega)
end
