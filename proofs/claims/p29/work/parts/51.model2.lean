noncomputable section
theorem dd_X9_put_0 : decode cX9_put 0 = .ok (.aload_n 0, 1) := by decide +kernel
theorem dd_X9_put_1 : decode cX9_put 1 = .ok (.getfield 157, 3) := by decide +kernel
theorem dd_X9_put_4 : decode cX9_put 4 = .ok (.ifCond .le 33, 3) := by decide +kernel
theorem dd_X9_put_7 : decode cX9_put 7 = .ok (.aload_n 0, 1) := by decide +kernel
theorem dd_X9_put_8 : decode cX9_put 8 = .ok (.getfield 34, 3) := by decide +kernel
theorem dd_X9_put_11 : decode cX9_put 11 = .ok (.aload_n 0, 1) := by decide +kernel
theorem dd_X9_put_12 : decode cX9_put 12 = .ok (.getfield 157, 3) := by decide +kernel
theorem dd_X9_put_15 : decode cX9_put 15 = .ok (.iconst 1, 1) := by decide +kernel
theorem dd_X9_put_16 : decode cX9_put 16 = .ok (.isub, 1) := by decide +kernel
theorem dd_X9_put_17 : decode cX9_put 17 = .ok (.iaload, 1) := by decide +kernel
theorem dd_X9_put_18 : decode cX9_put 18 = .ok (.iconst 0, 1) := by decide +kernel
theorem dd_X9_put_19 : decode cX9_put 19 = .ok (.iload_n 1, 1) := by decide +kernel
theorem dd_X9_put_20 : decode cX9_put 20 = .ok (.isub, 1) := by decide +kernel
theorem dd_X9_put_21 : decode cX9_put 21 = .ok (.if_icmp .ne 16, 3) := by decide +kernel
theorem dd_X9_put_24 : decode cX9_put 24 = .ok (.aload_n 0, 1) := by decide +kernel
theorem dd_X9_put_25 : decode cX9_put 25 = .ok (.dup, 1) := by decide +kernel
theorem dd_X9_put_26 : decode cX9_put 26 = .ok (.getfield 157, 3) := by decide +kernel
theorem dd_X9_put_29 : decode cX9_put 29 = .ok (.iconst 1, 1) := by decide +kernel
theorem dd_X9_put_30 : decode cX9_put 30 = .ok (.isub, 1) := by decide +kernel
theorem dd_X9_put_31 : decode cX9_put 31 = .ok (.putfield 157, 3) := by decide +kernel
theorem dd_X9_put_34 : decode cX9_put 34 = .ok (.goto 23, 3) := by decide +kernel
theorem dd_X9_put_37 : decode cX9_put 37 = .ok (.aload_n 0, 1) := by decide +kernel
theorem dd_X9_put_38 : decode cX9_put 38 = .ok (.getfield 34, 3) := by decide +kernel
theorem dd_X9_put_41 : decode cX9_put 41 = .ok (.aload_n 0, 1) := by decide +kernel
theorem dd_X9_put_42 : decode cX9_put 42 = .ok (.getfield 157, 3) := by decide +kernel
theorem dd_X9_put_45 : decode cX9_put 45 = .ok (.iload_n 1, 1) := by decide +kernel
theorem dd_X9_put_46 : decode cX9_put 46 = .ok (.iastore, 1) := by decide +kernel
theorem dd_X9_put_47 : decode cX9_put 47 = .ok (.aload_n 0, 1) := by decide +kernel
theorem dd_X9_put_48 : decode cX9_put 48 = .ok (.dup, 1) := by decide +kernel
theorem dd_X9_put_49 : decode cX9_put 49 = .ok (.getfield 157, 3) := by decide +kernel
theorem dd_X9_put_52 : decode cX9_put 52 = .ok (.iconst 1, 1) := by decide +kernel
theorem dd_X9_put_53 : decode cX9_put 53 = .ok (.iadd, 1) := by decide +kernel
theorem dd_X9_put_54 : decode cX9_put 54 = .ok (.putfield 157, 3) := by decide +kernel
theorem dd_X9_put_57 : decode cX9_put 57 = .ok (.return_, 1) := by decide +kernel
theorem gs_s115 : gs_sh 115 = .inr (.inl (0, 3700)) := rfl
theorem fl_X9_157 : Cond.fieldLink RX9 157 (TX9 15).1 (TX9 15).2.1 (TX9 15).2.2.1 ∈ am_tbl := ri_lw_in (pl := 797) (by decide +kernel)
theorem fl_X9_34 : Cond.fieldLink RX9 34 (TX9 14).1 (TX9 14).2.1 (TX9 14).2.2.1 ∈ am_tbl := ri_lw_in (pl := 796) (by decide +kernel)
theorem ok_X9_put : am_okM m_X9_put 1 ∧ Cond.instanceMethod m_X9_put.1 ∈ am_tbl ∧ Cond.selects m_X9_put.1.cls m_X9_put.1 m_X9_put.1 ∈ am_tbl := ri_mk1 1067 93 1066 59 (by decide +kernel)
theorem c_X9_put {x : Int} {F A : gs_F} (hI : gs_I F A) (hx : -9 ≤ x ∧ x ≤ 9) (hs : F 106 15 < 3700) : sC m_X9_put 1 [.ref 106, gs_iv x] F A (fun rv F' A' => rv = none ∧ gs_I F' A' ∧ gs_fr (fun c j => c = 106 ∧ j = 15) (fun c => c = 115) F A F' A' ∧ (F' 106 15 ≤ F 106 15 + 1 ∧ 0 ≤ F' 106 15)) := by
  refine sC_of ok_X9_put.1 (Nat.le_of_ble_eq_true rfl) ?_
  show sA _ _ _ 0 [(0, .ref 106), (1, gs_iv x)] [] F A
  have hf : gs_fr (fun c j => c = 106 ∧ j = 15) (fun c => c = 115) F A F A := gs_fr_refl _ _ _ _
  have b1 : (0 : Int) ≤ F 106 15 ∧ F 106 15 ≤ 3700 := hI.1 106 15
  refine sA_aload_n dd_X9_put_0 rfl (.head _) ?_
  refine sA_geti (ci := 9) (j := 15) (q := (RX9, TX9, 28)) dd_X9_put_1 rfl (by decide) fl_X9_157 (by decide) gs_s106 rfl ?_
  refine sA_if_le (tgt := 37) dd_X9_put_4 (by decide) (by omega) (fun q2 => ?_) (fun q2 => ?_)
  · skip
    refine sA_aload_n dd_X9_put_37 rfl (.head _) ?_
    refine sA_getr (ci := 9) (j := 14) (q := (RX9, TX9, 28)) dd_X9_put_38 rfl (by decide) fl_X9_34 (by decide) gs_s106 rfl ?_
    refine sA_aload_n dd_X9_put_41 rfl (.head _) ?_
    refine sA_geti (ci := 9) (j := 15) (q := (RX9, TX9, 28)) dd_X9_put_42 rfl (by decide) fl_X9_157 (by decide) gs_s106 rfl ?_
    refine sA_iload_n dd_X9_put_45 rfl (.tail _ (.head _)) ?_
    refine sA_iast (n := 3700) dd_X9_put_46 (by decide) gs_s115 (by omega) (by decide) ?_
    have I4 : gs_I F (gs_up A 115 ((F 106 15).toNat) x) := gs_I_ast hI (show (-9 : Int) ≤ x ∧ x ≤ 9 by omega)
    have f5 := gs_fr_ast hf (a := 115) (z := x) (i := (F 106 15).toNat) (by first | omega | (dsimp only; omega) | (dsimp only))
    generalize gs_up A 115 ((F 106 15).toNat) x = A3 at I4 f5 ⊢
    refine sA_aload_n dd_X9_put_47 rfl (.head _) ?_
    refine sA_dup dd_X9_put_48 rfl ?_
    refine sA_geti (ci := 9) (j := 15) (q := (RX9, TX9, 28)) dd_X9_put_49 rfl (by decide) fl_X9_157 (by decide) gs_s106 rfl ?_
    refine sA_iconst (z := 1) dd_X9_put_52 ?_
    refine sA_iadd dd_X9_put_53 ?_
    refine sA_put (ci := 9) (j := 15) (q := (RX9, TX9, 28)) (ty := .int) dd_X9_put_54 rfl (by decide) fl_X9_157 rfl (tyX9_ok 15 (by decide)) rfl rfl (by decide) gs_s106 rfl ?_
    have I7 : gs_I (gs_up F 106 15 ((F 106 15) + 1)) A3 := gs_I_put I4 (show (0 : Int) ≤ (F 106 15) + 1 ∧ (F 106 15) + 1 ≤ 3700 by omega)
    have f8 := gs_fr_put f5 (a := 106) (z := (F 106 15) + 1) (j := 15) (by first | omega | (dsimp only; omega) | (dsimp only))
    have v9 : gs_up F 106 15 ((F 106 15) + 1) 106 15 = (F 106 15) + 1 := gs_up_self _ _ _ _
    generalize gs_up F 106 15 ((F 106 15) + 1) = F6 at I7 f8 v9 ⊢
    refine sA_vret dd_X9_put_57 rfl ?_
    exact ⟨rfl, I7, f8, by omega⟩
  · skip
    refine sA_aload_n dd_X9_put_7 rfl (.head _) ?_
    refine sA_getr (ci := 9) (j := 14) (q := (RX9, TX9, 28)) dd_X9_put_8 rfl (by decide) fl_X9_34 (by decide) gs_s106 rfl ?_
    refine sA_aload_n dd_X9_put_11 rfl (.head _) ?_
    refine sA_geti (ci := 9) (j := 15) (q := (RX9, TX9, 28)) dd_X9_put_12 rfl (by decide) fl_X9_157 (by decide) gs_s106 rfl ?_
    refine sA_iconst (z := 1) dd_X9_put_15 ?_
    refine sA_isub dd_X9_put_16 ?_
    refine sA_iald (n := 3700) dd_X9_put_17 (by decide) gs_s115 (by omega) (by decide) ?_
    have b10 : (-9 : Int) ≤ A 115 ((F 106 15) - 1).toNat ∧ A 115 ((F 106 15) - 1).toNat ≤ 9 := hI.2 115 ((F 106 15) - 1).toNat
    refine sA_iconst (z := 0) dd_X9_put_18 ?_
    refine sA_iload_n dd_X9_put_19 rfl (.tail _ (.head _)) ?_
    refine sA_isub dd_X9_put_20 ?_
    refine sA_icmp_ne (tgt := 37) dd_X9_put_21 (by decide) (by omega) (by omega) (fun q11 => ?_) (fun q11 => ?_)
    · skip
      refine sA_aload_n dd_X9_put_37 rfl (.head _) ?_
      refine sA_getr (ci := 9) (j := 14) (q := (RX9, TX9, 28)) dd_X9_put_38 rfl (by decide) fl_X9_34 (by decide) gs_s106 rfl ?_
      refine sA_aload_n dd_X9_put_41 rfl (.head _) ?_
      refine sA_geti (ci := 9) (j := 15) (q := (RX9, TX9, 28)) dd_X9_put_42 rfl (by decide) fl_X9_157 (by decide) gs_s106 rfl ?_
      refine sA_iload_n dd_X9_put_45 rfl (.tail _ (.head _)) ?_
      refine sA_iast (n := 3700) dd_X9_put_46 (by decide) gs_s115 (by omega) (by decide) ?_
      have I13 : gs_I F (gs_up A 115 ((F 106 15).toNat) x) := gs_I_ast hI (show (-9 : Int) ≤ x ∧ x ≤ 9 by omega)
      have f14 := gs_fr_ast hf (a := 115) (z := x) (i := (F 106 15).toNat) (by first | omega | (dsimp only; omega) | (dsimp only))
      generalize gs_up A 115 ((F 106 15).toNat) x = A12 at I13 f14 ⊢
      refine sA_aload_n dd_X9_put_47 rfl (.head _) ?_
      refine sA_dup dd_X9_put_48 rfl ?_
      refine sA_geti (ci := 9) (j := 15) (q := (RX9, TX9, 28)) dd_X9_put_49 rfl (by decide) fl_X9_157 (by decide) gs_s106 rfl ?_
      refine sA_iconst (z := 1) dd_X9_put_52 ?_
      refine sA_iadd dd_X9_put_53 ?_
      refine sA_put (ci := 9) (j := 15) (q := (RX9, TX9, 28)) (ty := .int) dd_X9_put_54 rfl (by decide) fl_X9_157 rfl (tyX9_ok 15 (by decide)) rfl rfl (by decide) gs_s106 rfl ?_
      have I16 : gs_I (gs_up F 106 15 ((F 106 15) + 1)) A12 := gs_I_put I13 (show (0 : Int) ≤ (F 106 15) + 1 ∧ (F 106 15) + 1 ≤ 3700 by omega)
      have f17 := gs_fr_put f14 (a := 106) (z := (F 106 15) + 1) (j := 15) (by first | omega | (dsimp only; omega) | (dsimp only))
      have v18 : gs_up F 106 15 ((F 106 15) + 1) 106 15 = (F 106 15) + 1 := gs_up_self _ _ _ _
      generalize gs_up F 106 15 ((F 106 15) + 1) = F15 at I16 f17 v18 ⊢
      refine sA_vret dd_X9_put_57 rfl ?_
      exact ⟨rfl, I16, f17, by omega⟩
    · skip
      refine sA_aload_n dd_X9_put_24 rfl (.head _) ?_
      refine sA_dup dd_X9_put_25 rfl ?_
      refine sA_geti (ci := 9) (j := 15) (q := (RX9, TX9, 28)) dd_X9_put_26 rfl (by decide) fl_X9_157 (by decide) gs_s106 rfl ?_
      refine sA_iconst (z := 1) dd_X9_put_29 ?_
      refine sA_isub dd_X9_put_30 ?_
      refine sA_put (ci := 9) (j := 15) (q := (RX9, TX9, 28)) (ty := .int) dd_X9_put_31 rfl (by decide) fl_X9_157 rfl (tyX9_ok 15 (by decide)) rfl rfl (by decide) gs_s106 rfl ?_
      have I20 : gs_I (gs_up F 106 15 ((F 106 15) - 1)) A := gs_I_put hI (show (0 : Int) ≤ (F 106 15) - 1 ∧ (F 106 15) - 1 ≤ 3700 by omega)
      have f21 := gs_fr_put hf (a := 106) (z := (F 106 15) - 1) (j := 15) (by first | omega | (dsimp only; omega) | (dsimp only))
      have v22 : gs_up F 106 15 ((F 106 15) - 1) 106 15 = (F 106 15) - 1 := gs_up_self _ _ _ _
      generalize gs_up F 106 15 ((F 106 15) - 1) = F19 at I20 f21 v22 ⊢
      refine sA_goto (tgt := 57) dd_X9_put_34 (by decide) ?_
      refine sA_vret dd_X9_put_57 rfl ?_
      exact ⟨rfl, I20, f21, by omega⟩
theorem dd_X9_putC_0 : decode cX9_putC 0 = .ok (.iconst 2, 1) := by decide +kernel
theorem dd_X9_putC_1 : decode cX9_putC 1 = .ok (.iload_n 1, 1) := by decide +kernel
theorem dd_X9_putC_2 : decode cX9_putC 2 = .ok (.imul, 1) := by decide +kernel
theorem dd_X9_putC_3 : decode cX9_putC 3 = .ok (.iconst 1, 1) := by decide +kernel
theorem dd_X9_putC_4 : decode cX9_putC 4 = .ok (.iadd, 1) := by decide +kernel
theorem dd_X9_putC_5 : decode cX9_putC 5 = .ok (.istore_n 3, 1) := by decide +kernel
theorem dd_X9_putC_6 : decode cX9_putC 6 = .ok (.iconst 2, 1) := by decide +kernel
theorem dd_X9_putC_7 : decode cX9_putC 7 = .ok (.iload_n 1, 1) := by decide +kernel
theorem dd_X9_putC_8 : decode cX9_putC 8 = .ok (.imul, 1) := by decide +kernel
theorem dd_X9_putC_9 : decode cX9_putC 9 = .ok (.iconst 2, 1) := by decide +kernel
theorem dd_X9_putC_10 : decode cX9_putC 10 = .ok (.iadd, 1) := by decide +kernel
theorem dd_X9_putC_11 : decode cX9_putC 11 = .ok (.istore 4, 2) := by decide +kernel
theorem dd_X9_putC_13 : decode cX9_putC 13 = .ok (.iconst 2, 1) := by decide +kernel
theorem dd_X9_putC_14 : decode cX9_putC 14 = .ok (.iload_n 1, 1) := by decide +kernel
theorem dd_X9_putC_15 : decode cX9_putC 15 = .ok (.imul, 1) := by decide +kernel
theorem dd_X9_putC_16 : decode cX9_putC 16 = .ok (.iconst 3, 1) := by decide +kernel
theorem dd_X9_putC_17 : decode cX9_putC 17 = .ok (.iadd, 1) := by decide +kernel
theorem dd_X9_putC_18 : decode cX9_putC 18 = .ok (.istore 5, 2) := by decide +kernel
theorem dd_X9_putC_20 : decode cX9_putC 20 = .ok (.iload_n 2, 1) := by decide +kernel
theorem dd_X9_putC_21 : decode cX9_putC 21 = .ok (.ifCond .eq 33, 3) := by decide +kernel
theorem dd_X9_putC_24 : decode cX9_putC 24 = .ok (.aload_n 0, 1) := by decide +kernel
theorem dd_X9_putC_25 : decode cX9_putC 25 = .ok (.iconst 0, 1) := by decide +kernel
theorem dd_X9_putC_26 : decode cX9_putC 26 = .ok (.iload 5, 2) := by decide +kernel
theorem dd_X9_putC_28 : decode cX9_putC 28 = .ok (.isub, 1) := by decide +kernel
theorem dd_X9_putC_29 : decode cX9_putC 29 = .ok (.invokevirtual 160, 3) := by decide +kernel
theorem dd_X9_putC_32 : decode cX9_putC 32 = .ok (.aload_n 0, 1) := by decide +kernel
theorem dd_X9_putC_33 : decode cX9_putC 33 = .ok (.iload 4, 2) := by decide +kernel
theorem dd_X9_putC_35 : decode cX9_putC 35 = .ok (.invokevirtual 160, 3) := by decide +kernel
theorem dd_X9_putC_38 : decode cX9_putC 38 = .ok (.aload_n 0, 1) := by decide +kernel
theorem dd_X9_putC_39 : decode cX9_putC 39 = .ok (.iload_n 3, 1) := by decide +kernel
theorem dd_X9_putC_40 : decode cX9_putC 40 = .ok (.invokevirtual 160, 3) := by decide +kernel
theorem dd_X9_putC_43 : decode cX9_putC 43 = .ok (.aload_n 0, 1) := by decide +kernel
theorem dd_X9_putC_44 : decode cX9_putC 44 = .ok (.iconst 0, 1) := by decide +kernel
theorem dd_X9_putC_45 : decode cX9_putC 45 = .ok (.iload 4, 2) := by decide +kernel
theorem dd_X9_putC_47 : decode cX9_putC 47 = .ok (.isub, 1) := by decide +kernel
theorem dd_X9_putC_48 : decode cX9_putC 48 = .ok (.invokevirtual 160, 3) := by decide +kernel
theorem dd_X9_putC_51 : decode cX9_putC 51 = .ok (.goto 30, 3) := by decide +kernel
theorem dd_X9_putC_54 : decode cX9_putC 54 = .ok (.aload_n 0, 1) := by decide +kernel
theorem dd_X9_putC_55 : decode cX9_putC 55 = .ok (.iload 4, 2) := by decide +kernel
theorem dd_X9_putC_57 : decode cX9_putC 57 = .ok (.invokevirtual 160, 3) := by decide +kernel
theorem dd_X9_putC_60 : decode cX9_putC 60 = .ok (.aload_n 0, 1) := by decide +kernel
theorem dd_X9_putC_61 : decode cX9_putC 61 = .ok (.iconst 0, 1) := by decide +kernel
theorem dd_X9_putC_62 : decode cX9_putC 62 = .ok (.iload_n 3, 1) := by decide +kernel
theorem dd_X9_putC_63 : decode cX9_putC 63 = .ok (.isub, 1) := by decide +kernel
theorem dd_X9_putC_64 : decode cX9_putC 64 = .ok (.invokevirtual 160, 3) := by decide +kernel
theorem dd_X9_putC_67 : decode cX9_putC 67 = .ok (.aload_n 0, 1) := by decide +kernel
theorem dd_X9_putC_68 : decode cX9_putC 68 = .ok (.iconst 0, 1) := by decide +kernel
theorem dd_X9_putC_69 : decode cX9_putC 69 = .ok (.iload 4, 2) := by decide +kernel
theorem dd_X9_putC_71 : decode cX9_putC 71 = .ok (.isub, 1) := by decide +kernel
theorem dd_X9_putC_72 : decode cX9_putC 72 = .ok (.invokevirtual 160, 3) := by decide +kernel
theorem dd_X9_putC_75 : decode cX9_putC 75 = .ok (.aload_n 0, 1) := by decide +kernel
theorem dd_X9_putC_76 : decode cX9_putC 76 = .ok (.iload 5, 2) := by decide +kernel
theorem dd_X9_putC_78 : decode cX9_putC 78 = .ok (.invokevirtual 160, 3) := by decide +kernel
theorem dd_X9_putC_81 : decode cX9_putC 81 = .ok (.return_, 1) := by decide +kernel
theorem ml_X9_160 : Cond.methodLink RX9 160 m_X9_put.1 ∈ am_tbl := ri_lw_in (pl := 1064) (by decide +kernel)
theorem ok_X9_putC : am_okM m_X9_putC 2 ∧ Cond.instanceMethod m_X9_putC.1 ∈ am_tbl ∧ Cond.selects m_X9_putC.1.cls m_X9_putC.1 m_X9_putC.1 ∈ am_tbl := ri_mk1 1071 93 1070 60 (by decide +kernel)
theorem c_X9_putC {h b : Int} {F A : gs_F} (hI : gs_I F A) (hh : -1 ≤ h ∧ h ≤ 3) (hb : b = 0 ∨ b = 1) (hs : F 106 15 ≤ 3690) : sC m_X9_putC 2 [.ref 106, gs_iv h, gs_iv b] F A (fun rv F' A' => rv = none ∧ gs_I F' A' ∧ gs_fr (fun c j => c = 106 ∧ j = 15) (fun c => c = 115) F A F' A' ∧ (F' 106 15 ≤ F 106 15 + 4 ∧ 0 ≤ F' 106 15)) := by
  refine sC_of ok_X9_putC.1 (Nat.le_of_ble_eq_true rfl) ?_
  show sA _ _ _ 0 [(0, .ref 106), (1, gs_iv h), (2, gs_iv b)] [] F A
  have hf : gs_fr (fun c j => c = 106 ∧ j = 15) (fun c => c = 115) F A F A := gs_fr_refl _ _ _ _
  have hb15 : (0 : Int) ≤ F 106 15 ∧ F 106 15 ≤ 3700 := hI.1 106 15
  refine sA_iconst (z := 2) dd_X9_putC_0 ?_
  refine sA_iload_n dd_X9_putC_1 rfl (.tail _ (.head _)) ?_
  refine sA_imul dd_X9_putC_2 ?_
  refine sA_iconst (z := 1) dd_X9_putC_3 ?_
  refine sA_iadd dd_X9_putC_4 ?_
  refine sA_istore_n (lv' := [(3, gs_iv ((2 * h) + 1)), (0, .ref 106), (1, gs_iv h), (2, gs_iv b)]) dd_X9_putC_5 rfl (by decide) rfl ?_
  refine sA_iconst (z := 2) dd_X9_putC_6 ?_
  refine sA_iload_n dd_X9_putC_7 rfl (.tail _ (.tail _ (.head _))) ?_
  refine sA_imul dd_X9_putC_8 ?_
  refine sA_iconst (z := 2) dd_X9_putC_9 ?_
  refine sA_iadd dd_X9_putC_10 ?_
  refine sA_istore (lv' := [(4, gs_iv ((2 * h) + 2)), (3, gs_iv ((2 * h) + 1)), (0, .ref 106), (1, gs_iv h), (2, gs_iv b)]) dd_X9_putC_11 (by decide) rfl ?_
  refine sA_iconst (z := 2) dd_X9_putC_13 ?_
  refine sA_iload_n dd_X9_putC_14 rfl (.tail _ (.tail _ (.tail _ (.head _)))) ?_
  refine sA_imul dd_X9_putC_15 ?_
  refine sA_iconst (z := 3) dd_X9_putC_16 ?_
  refine sA_iadd dd_X9_putC_17 ?_
  refine sA_istore (lv' := [(5, gs_iv ((2 * h) + 3)), (4, gs_iv ((2 * h) + 2)), (3, gs_iv ((2 * h) + 1)), (0, .ref 106), (1, gs_iv h), (2, gs_iv b)]) dd_X9_putC_18 (by decide) rfl ?_
  refine sA_iload_n dd_X9_putC_20 rfl (.tail _ (.tail _ (.tail _ (.tail _ (.tail _ (.head _)))))) ?_
  refine sA_if_eq (tgt := 54) dd_X9_putC_21 (by decide) (by omega) (fun q1 => ?_) (fun q1 => ?_)
  · skip
    refine sA_aload_n dd_X9_putC_54 rfl (.tail _ (.tail _ (.tail _ (.head _)))) ?_
    refine sA_iload dd_X9_putC_55 (.tail _ (.head _)) ?_
    refine sA_callV (y2 := m_X9_put) (n2 := 1) (d2 := 1) (a := 106) (ci := 9) (q := (RX9, TX9, 28)) (as := [gs_iv ((2 * h) + 2)]) (rest := []) dd_X9_putC_57 ok_X9_put ml_X9_160 rfl rfl (by decide) gs_s106 rfl rfl (Nat.le_of_ble_eq_true rfl) (by decide) (c_X9_put hI (by omega) (by omega)) (fun r2 F3 A4 h5 => ?_)
    obtain ⟨e7, I8, f9, x6⟩ := h5
    subst e7
    have f10 := gs_fr_tr hf f9 (fun b j h => by first | exact False.elim h | omega | (dsimp only at h ⊢; omega)) (fun b h => by first | exact False.elim h | omega | (dsimp only at h ⊢; omega))
    show sA _ _ _ 60 _ [] _ _
    refine sA_aload_n dd_X9_putC_60 rfl (.tail _ (.tail _ (.tail _ (.head _)))) ?_
    refine sA_iconst (z := 0) dd_X9_putC_61 ?_
    refine sA_iload_n dd_X9_putC_62 rfl (.tail _ (.tail _ (.head _))) ?_
    refine sA_isub dd_X9_putC_63 ?_
    refine sA_callV (y2 := m_X9_put) (n2 := 1) (d2 := 1) (a := 106) (ci := 9) (q := (RX9, TX9, 28)) (as := [gs_iv (0 - ((2 * h) + 1))]) (rest := []) dd_X9_putC_64 ok_X9_put ml_X9_160 rfl rfl (by decide) gs_s106 rfl rfl (Nat.le_of_ble_eq_true rfl) (by decide) (c_X9_put I8 (by omega) (by omega)) (fun r11 F12 A13 h14 => ?_)
    obtain ⟨e16, I17, f18, x15⟩ := h14
    subst e16
    have f19 := gs_fr_tr f10 f18 (fun b j h => by first | exact False.elim h | omega | (dsimp only at h ⊢; omega)) (fun b h => by first | exact False.elim h | omega | (dsimp only at h ⊢; omega))
    show sA _ _ _ 67 _ [] _ _
    refine sA_aload_n dd_X9_putC_67 rfl (.tail _ (.tail _ (.tail _ (.head _)))) ?_
    refine sA_iconst (z := 0) dd_X9_putC_68 ?_
    refine sA_iload dd_X9_putC_69 (.tail _ (.head _)) ?_
    refine sA_isub dd_X9_putC_71 ?_
    refine sA_callV (y2 := m_X9_put) (n2 := 1) (d2 := 1) (a := 106) (ci := 9) (q := (RX9, TX9, 28)) (as := [gs_iv (0 - ((2 * h) + 2))]) (rest := []) dd_X9_putC_72 ok_X9_put ml_X9_160 rfl rfl (by decide) gs_s106 rfl rfl (Nat.le_of_ble_eq_true rfl) (by decide) (c_X9_put I17 (by omega) (by omega)) (fun r20 F21 A22 h23 => ?_)
    obtain ⟨e25, I26, f27, x24⟩ := h23
    subst e25
    have f28 := gs_fr_tr f19 f27 (fun b j h => by first | exact False.elim h | omega | (dsimp only at h ⊢; omega)) (fun b h => by first | exact False.elim h | omega | (dsimp only at h ⊢; omega))
    show sA _ _ _ 75 _ [] _ _
    refine sA_aload_n dd_X9_putC_75 rfl (.tail _ (.tail _ (.tail _ (.head _)))) ?_
    refine sA_iload dd_X9_putC_76 (.head _) ?_
    refine sA_callV (y2 := m_X9_put) (n2 := 1) (d2 := 1) (a := 106) (ci := 9) (q := (RX9, TX9, 28)) (as := [gs_iv ((2 * h) + 3)]) (rest := []) dd_X9_putC_78 ok_X9_put ml_X9_160 rfl rfl (by decide) gs_s106 rfl rfl (Nat.le_of_ble_eq_true rfl) (by decide) (c_X9_put I26 (by omega) (by omega)) (fun r29 F30 A31 h32 => ?_)
    obtain ⟨e34, I35, f36, x33⟩ := h32
    subst e34
    have f37 := gs_fr_tr f28 f36 (fun b j h => by first | exact False.elim h | omega | (dsimp only at h ⊢; omega)) (fun b h => by first | exact False.elim h | omega | (dsimp only at h ⊢; omega))
    show sA _ _ _ 81 _ [] _ _
    refine sA_vret dd_X9_putC_81 rfl ?_
    exact ⟨rfl, I35, f37, by omega⟩
  · skip
    refine sA_aload_n dd_X9_putC_24 rfl (.tail _ (.tail _ (.tail _ (.head _)))) ?_
    refine sA_iconst (z := 0) dd_X9_putC_25 ?_
    refine sA_iload dd_X9_putC_26 (.head _) ?_
    refine sA_isub dd_X9_putC_28 ?_
    refine sA_callV (y2 := m_X9_put) (n2 := 1) (d2 := 1) (a := 106) (ci := 9) (q := (RX9, TX9, 28)) (as := [gs_iv (0 - ((2 * h) + 3))]) (rest := []) dd_X9_putC_29 ok_X9_put ml_X9_160 rfl rfl (by decide) gs_s106 rfl rfl (Nat.le_of_ble_eq_true rfl) (by decide) (c_X9_put hI (by omega) (by omega)) (fun r38 F39 A40 h41 => ?_)
    obtain ⟨e43, I44, f45, x42⟩ := h41
    subst e43
    have f46 := gs_fr_tr hf f45 (fun b j h => by first | exact False.elim h | omega | (dsimp only at h ⊢; omega)) (fun b h => by first | exact False.elim h | omega | (dsimp only at h ⊢; omega))
    show sA _ _ _ 32 _ [] _ _
    refine sA_aload_n dd_X9_putC_32 rfl (.tail _ (.tail _ (.tail _ (.head _)))) ?_
    refine sA_iload dd_X9_putC_33 (.tail _ (.head _)) ?_
    refine sA_callV (y2 := m_X9_put) (n2 := 1) (d2 := 1) (a := 106) (ci := 9) (q := (RX9, TX9, 28)) (as := [gs_iv ((2 * h) + 2)]) (rest := []) dd_X9_putC_35 ok_X9_put ml_X9_160 rfl rfl (by decide) gs_s106 rfl rfl (Nat.le_of_ble_eq_true rfl) (by decide) (c_X9_put I44 (by omega) (by omega)) (fun r47 F48 A49 h50 => ?_)
    obtain ⟨e52, I53, f54, x51⟩ := h50
    subst e52
    have f55 := gs_fr_tr f46 f54 (fun b j h => by first | exact False.elim h | omega | (dsimp only at h ⊢; omega)) (fun b h => by first | exact False.elim h | omega | (dsimp only at h ⊢; omega))
    show sA _ _ _ 38 _ [] _ _
    refine sA_aload_n dd_X9_putC_38 rfl (.tail _ (.tail _ (.tail _ (.head _)))) ?_
    refine sA_iload_n dd_X9_putC_39 rfl (.tail _ (.tail _ (.head _))) ?_
    refine sA_callV (y2 := m_X9_put) (n2 := 1) (d2 := 1) (a := 106) (ci := 9) (q := (RX9, TX9, 28)) (as := [gs_iv ((2 * h) + 1)]) (rest := []) dd_X9_putC_40 ok_X9_put ml_X9_160 rfl rfl (by decide) gs_s106 rfl rfl (Nat.le_of_ble_eq_true rfl) (by decide) (c_X9_put I53 (by omega) (by omega)) (fun r56 F57 A58 h59 => ?_)
    obtain ⟨e61, I62, f63, x60⟩ := h59
    subst e61
    have f64 := gs_fr_tr f55 f63 (fun b j h => by first | exact False.elim h | omega | (dsimp only at h ⊢; omega)) (fun b h => by first | exact False.elim h | omega | (dsimp only at h ⊢; omega))
    show sA _ _ _ 43 _ [] _ _
    refine sA_aload_n dd_X9_putC_43 rfl (.tail _ (.tail _ (.tail _ (.head _)))) ?_
    refine sA_iconst (z := 0) dd_X9_putC_44 ?_
    refine sA_iload dd_X9_putC_45 (.tail _ (.head _)) ?_
    refine sA_isub dd_X9_putC_47 ?_
    refine sA_callV (y2 := m_X9_put) (n2 := 1) (d2 := 1) (a := 106) (ci := 9) (q := (RX9, TX9, 28)) (as := [gs_iv (0 - ((2 * h) + 2))]) (rest := []) dd_X9_putC_48 ok_X9_put ml_X9_160 rfl rfl (by decide) gs_s106 rfl rfl (Nat.le_of_ble_eq_true rfl) (by decide) (c_X9_put I62 (by omega) (by omega)) (fun r65 F66 A67 h68 => ?_)
    obtain ⟨e70, I71, f72, x69⟩ := h68
    subst e70
    have f73 := gs_fr_tr f64 f72 (fun b j h => by first | exact False.elim h | omega | (dsimp only at h ⊢; omega)) (fun b h => by first | exact False.elim h | omega | (dsimp only at h ⊢; omega))
    show sA _ _ _ 51 _ [] _ _
    refine sA_goto (tgt := 81) dd_X9_putC_51 (by decide) ?_
    refine sA_vret dd_X9_putC_81 rfl ?_
    exact ⟨rfl, I71, f73, by omega⟩
theorem dd_X9_putImage_0 : decode cX9_putImage 0 = .ok (.iload_n 1, 1) := by decide +kernel
theorem dd_X9_putImage_1 : decode cX9_putImage 1 = .ok (.aload_n 0, 1) := by decide +kernel
theorem dd_X9_putImage_2 : decode cX9_putImage 2 = .ok (.getfield 64, 3) := by decide +kernel
theorem dd_X9_putImage_5 : decode cX9_putImage 5 = .ok (.if_icmp .ge 7, 3) := by decide +kernel
theorem dd_X9_putImage_8 : decode cX9_putImage 8 = .ok (.iconst 0, 1) := by decide +kernel
theorem dd_X9_putImage_9 : decode cX9_putImage 9 = .ok (.goto 18, 3) := by decide +kernel
theorem dd_X9_putImage_12 : decode cX9_putImage 12 = .ok (.iload_n 1, 1) := by decide +kernel
theorem dd_X9_putImage_13 : decode cX9_putImage 13 = .ok (.iconst 2, 1) := by decide +kernel
theorem dd_X9_putImage_14 : decode cX9_putImage 14 = .ok (.aload_n 0, 1) := by decide +kernel
theorem dd_X9_putImage_15 : decode cX9_putImage 15 = .ok (.getfield 64, 3) := by decide +kernel
theorem dd_X9_putImage_18 : decode cX9_putImage 18 = .ok (.imul, 1) := by decide +kernel
theorem dd_X9_putImage_19 : decode cX9_putImage 19 = .ok (.if_icmp .ge 7, 3) := by decide +kernel
theorem dd_X9_putImage_22 : decode cX9_putImage 22 = .ok (.iconst 1, 1) := by decide +kernel
theorem dd_X9_putImage_23 : decode cX9_putImage 23 = .ok (.goto 4, 3) := by decide +kernel
theorem dd_X9_putImage_26 : decode cX9_putImage 26 = .ok (.iconst 2, 1) := by decide +kernel
theorem dd_X9_putImage_27 : decode cX9_putImage 27 = .ok (.istore 5, 2) := by decide +kernel
theorem dd_X9_putImage_29 : decode cX9_putImage 29 = .ok (.iload_n 1, 1) := by decide +kernel
theorem dd_X9_putImage_30 : decode cX9_putImage 30 = .ok (.iload 5, 2) := by decide +kernel
theorem dd_X9_putImage_32 : decode cX9_putImage 32 = .ok (.aload_n 0, 1) := by decide +kernel
theorem dd_X9_putImage_33 : decode cX9_putImage 33 = .ok (.getfield 64, 3) := by decide +kernel
theorem dd_X9_putImage_36 : decode cX9_putImage 36 = .ok (.imul, 1) := by decide +kernel
theorem dd_X9_putImage_37 : decode cX9_putImage 37 = .ok (.isub, 1) := by decide +kernel
theorem dd_X9_putImage_38 : decode cX9_putImage 38 = .ok (.istore 6, 2) := by decide +kernel
theorem dd_X9_putImage_40 : decode cX9_putImage 40 = .ok (.iconst 2, 1) := by decide +kernel
theorem dd_X9_putImage_41 : decode cX9_putImage 41 = .ok (.iload 6, 2) := by decide +kernel
theorem dd_X9_putImage_43 : decode cX9_putImage 43 = .ok (.imul, 1) := by decide +kernel
theorem dd_X9_putImage_44 : decode cX9_putImage 44 = .ok (.iconst 1, 1) := by decide +kernel
theorem dd_X9_putImage_45 : decode cX9_putImage 45 = .ok (.iadd, 1) := by decide +kernel
theorem dd_X9_putImage_46 : decode cX9_putImage 46 = .ok (.istore 7, 2) := by decide +kernel
theorem dd_X9_putImage_48 : decode cX9_putImage 48 = .ok (.iconst 2, 1) := by decide +kernel
theorem dd_X9_putImage_49 : decode cX9_putImage 49 = .ok (.iload 6, 2) := by decide +kernel
theorem dd_X9_putImage_51 : decode cX9_putImage 51 = .ok (.imul, 1) := by decide +kernel
theorem dd_X9_putImage_52 : decode cX9_putImage 52 = .ok (.iconst 2, 1) := by decide +kernel
theorem dd_X9_putImage_53 : decode cX9_putImage 53 = .ok (.iadd, 1) := by decide +kernel
theorem dd_X9_putImage_54 : decode cX9_putImage 54 = .ok (.istore 8, 2) := by decide +kernel
theorem dd_X9_putImage_56 : decode cX9_putImage 56 = .ok (.iload 5, 2) := by decide +kernel
theorem dd_X9_putImage_58 : decode cX9_putImage 58 = .ok (.ifCond .ne 63, 3) := by decide +kernel
theorem dd_X9_putImage_61 : decode cX9_putImage 61 = .ok (.iload_n 3, 1) := by decide +kernel
theorem dd_X9_putImage_62 : decode cX9_putImage 62 = .ok (.iload 8, 2) := by decide +kernel
theorem dd_X9_putImage_64 : decode cX9_putImage 64 = .ok (.if_icmp .ne 57, 3) := by decide +kernel
theorem dd_X9_putImage_67 : decode cX9_putImage 67 = .ok (.iload_n 2, 1) := by decide +kernel
theorem dd_X9_putImage_68 : decode cX9_putImage 68 = .ok (.ifCond .eq 10, 3) := by decide +kernel
theorem dd_X9_putImage_71 : decode cX9_putImage 71 = .ok (.iconst 0, 1) := by decide +kernel
theorem dd_X9_putImage_72 : decode cX9_putImage 72 = .ok (.iload 7, 2) := by decide +kernel
theorem dd_X9_putImage_74 : decode cX9_putImage 74 = .ok (.isub, 1) := by decide +kernel
theorem dd_X9_putImage_75 : decode cX9_putImage 75 = .ok (.goto 5, 3) := by decide +kernel
theorem dd_X9_putImage_78 : decode cX9_putImage 78 = .ok (.iload 7, 2) := by decide +kernel
theorem dd_X9_putImage_80 : decode cX9_putImage 80 = .ok (.istore 9, 2) := by decide +kernel
theorem dd_X9_putImage_82 : decode cX9_putImage 82 = .ok (.aload_n 0, 1) := by decide +kernel
theorem dd_X9_putImage_83 : decode cX9_putImage 83 = .ok (.iload 4, 2) := by decide +kernel
theorem dd_X9_putImage_85 : decode cX9_putImage 85 = .ok (.ifCond .eq 10, 3) := by decide +kernel
theorem dd_X9_putImage_88 : decode cX9_putImage 88 = .ok (.iconst 0, 1) := by decide +kernel
theorem dd_X9_putImage_89 : decode cX9_putImage 89 = .ok (.iload 9, 2) := by decide +kernel
theorem dd_X9_putImage_91 : decode cX9_putImage 91 = .ok (.isub, 1) := by decide +kernel
theorem dd_X9_putImage_92 : decode cX9_putImage 92 = .ok (.goto 5, 3) := by decide +kernel
theorem dd_X9_putImage_95 : decode cX9_putImage 95 = .ok (.iload 8, 2) := by decide +kernel
theorem dd_X9_putImage_97 : decode cX9_putImage 97 = .ok (.invokevirtual 160, 3) := by decide +kernel
theorem dd_X9_putImage_100 : decode cX9_putImage 100 = .ok (.aload_n 0, 1) := by decide +kernel
theorem dd_X9_putImage_101 : decode cX9_putImage 101 = .ok (.iload 4, 2) := by decide +kernel
theorem dd_X9_putImage_103 : decode cX9_putImage 103 = .ok (.ifCond .eq 10, 3) := by decide +kernel
theorem dd_X9_putImage_106 : decode cX9_putImage 106 = .ok (.iconst 0, 1) := by decide +kernel
theorem dd_X9_putImage_107 : decode cX9_putImage 107 = .ok (.iload 8, 2) := by decide +kernel
theorem dd_X9_putImage_109 : decode cX9_putImage 109 = .ok (.isub, 1) := by decide +kernel
theorem dd_X9_putImage_110 : decode cX9_putImage 110 = .ok (.goto 5, 3) := by decide +kernel
theorem dd_X9_putImage_113 : decode cX9_putImage 113 = .ok (.iload 9, 2) := by decide +kernel
theorem dd_X9_putImage_115 : decode cX9_putImage 115 = .ok (.invokevirtual 160, 3) := by decide +kernel
theorem dd_X9_putImage_118 : decode cX9_putImage 118 = .ok (.goto 258, 3) := by decide +kernel
theorem dd_X9_putImage_121 : decode cX9_putImage 121 = .ok (.iload 5, 2) := by decide +kernel
theorem dd_X9_putImage_123 : decode cX9_putImage 123 = .ok (.iconst 1, 1) := by decide +kernel
theorem dd_X9_putImage_124 : decode cX9_putImage 124 = .ok (.if_icmp .ne 63, 3) := by decide +kernel
theorem dd_X9_putImage_127 : decode cX9_putImage 127 = .ok (.iload_n 3, 1) := by decide +kernel
theorem dd_X9_putImage_128 : decode cX9_putImage 128 = .ok (.iload 7, 2) := by decide +kernel
theorem dd_X9_putImage_130 : decode cX9_putImage 130 = .ok (.if_icmp .ne 57, 3) := by decide +kernel
theorem dd_X9_putImage_133 : decode cX9_putImage 133 = .ok (.iload_n 2, 1) := by decide +kernel
theorem dd_X9_putImage_134 : decode cX9_putImage 134 = .ok (.ifCond .eq 8, 3) := by decide +kernel
theorem dd_X9_putImage_137 : decode cX9_putImage 137 = .ok (.iload 8, 2) := by decide +kernel
theorem dd_X9_putImage_139 : decode cX9_putImage 139 = .ok (.goto 7, 3) := by decide +kernel
theorem dd_X9_putImage_142 : decode cX9_putImage 142 = .ok (.iconst 0, 1) := by decide +kernel
theorem dd_X9_putImage_143 : decode cX9_putImage 143 = .ok (.iload 8, 2) := by decide +kernel
theorem dd_X9_putImage_145 : decode cX9_putImage 145 = .ok (.isub, 1) := by decide +kernel
theorem dd_X9_putImage_146 : decode cX9_putImage 146 = .ok (.istore 9, 2) := by decide +kernel
theorem dd_X9_putImage_148 : decode cX9_putImage 148 = .ok (.aload_n 0, 1) := by decide +kernel
theorem dd_X9_putImage_149 : decode cX9_putImage 149 = .ok (.iload 4, 2) := by decide +kernel
theorem dd_X9_putImage_151 : decode cX9_putImage 151 = .ok (.ifCond .eq 10, 3) := by decide +kernel
theorem dd_X9_putImage_154 : decode cX9_putImage 154 = .ok (.iconst 0, 1) := by decide +kernel
theorem dd_X9_putImage_155 : decode cX9_putImage 155 = .ok (.iload 9, 2) := by decide +kernel
theorem dd_X9_putImage_157 : decode cX9_putImage 157 = .ok (.isub, 1) := by decide +kernel
theorem dd_X9_putImage_158 : decode cX9_putImage 158 = .ok (.goto 5, 3) := by decide +kernel
theorem dd_X9_putImage_161 : decode cX9_putImage 161 = .ok (.iload 7, 2) := by decide +kernel
theorem dd_X9_putImage_163 : decode cX9_putImage 163 = .ok (.invokevirtual 160, 3) := by decide +kernel
theorem dd_X9_putImage_166 : decode cX9_putImage 166 = .ok (.aload_n 0, 1) := by decide +kernel
theorem dd_X9_putImage_167 : decode cX9_putImage 167 = .ok (.iload 4, 2) := by decide +kernel
theorem dd_X9_putImage_169 : decode cX9_putImage 169 = .ok (.ifCond .eq 10, 3) := by decide +kernel
theorem dd_X9_putImage_172 : decode cX9_putImage 172 = .ok (.iconst 0, 1) := by decide +kernel
theorem dd_X9_putImage_173 : decode cX9_putImage 173 = .ok (.iload 7, 2) := by decide +kernel
theorem dd_X9_putImage_175 : decode cX9_putImage 175 = .ok (.isub, 1) := by decide +kernel
theorem dd_X9_putImage_176 : decode cX9_putImage 176 = .ok (.goto 5, 3) := by decide +kernel
theorem dd_X9_putImage_179 : decode cX9_putImage 179 = .ok (.iload 9, 2) := by decide +kernel
theorem dd_X9_putImage_181 : decode cX9_putImage 181 = .ok (.invokevirtual 160, 3) := by decide +kernel
theorem dd_X9_putImage_184 : decode cX9_putImage 184 = .ok (.goto 192, 3) := by decide +kernel
theorem dd_X9_putImage_187 : decode cX9_putImage 187 = .ok (.iload 5, 2) := by decide +kernel
theorem dd_X9_putImage_189 : decode cX9_putImage 189 = .ok (.iconst 2, 1) := by decide +kernel
theorem dd_X9_putImage_190 : decode cX9_putImage 190 = .ok (.if_icmp .ne 56, 3) := by decide +kernel
theorem dd_X9_putImage_193 : decode cX9_putImage 193 = .ok (.iload_n 3, 1) := by decide +kernel
theorem dd_X9_putImage_194 : decode cX9_putImage 194 = .ok (.iload 8, 2) := by decide +kernel
theorem dd_X9_putImage_196 : decode cX9_putImage 196 = .ok (.if_icmp .ne 50, 3) := by decide +kernel
theorem dd_X9_putImage_199 : decode cX9_putImage 199 = .ok (.iload 4, 2) := by decide +kernel
theorem dd_X9_putImage_201 : decode cX9_putImage 201 = .ok (.ifCond .eq 21, 3) := by decide +kernel
theorem dd_X9_putImage_204 : decode cX9_putImage 204 = .ok (.aload_n 0, 1) := by decide +kernel
theorem dd_X9_putImage_205 : decode cX9_putImage 205 = .ok (.iconst 0, 1) := by decide +kernel
theorem dd_X9_putImage_206 : decode cX9_putImage 206 = .ok (.iload 8, 2) := by decide +kernel
theorem dd_X9_putImage_208 : decode cX9_putImage 208 = .ok (.isub, 1) := by decide +kernel
theorem dd_X9_putImage_209 : decode cX9_putImage 209 = .ok (.invokevirtual 160, 3) := by decide +kernel
theorem dd_X9_putImage_212 : decode cX9_putImage 212 = .ok (.aload_n 0, 1) := by decide +kernel
theorem dd_X9_putImage_213 : decode cX9_putImage 213 = .ok (.iload 6, 2) := by decide +kernel
theorem dd_X9_putImage_215 : decode cX9_putImage 215 = .ok (.iload_n 2, 1) := by decide +kernel
theorem dd_X9_putImage_216 : decode cX9_putImage 216 = .ok (.invokevirtual 163, 3) := by decide +kernel
theorem dd_X9_putImage_219 : decode cX9_putImage 219 = .ok (.goto 157, 3) := by decide +kernel
theorem dd_X9_putImage_222 : decode cX9_putImage 222 = .ok (.aload_n 0, 1) := by decide +kernel
theorem dd_X9_putImage_223 : decode cX9_putImage 223 = .ok (.iload 6, 2) := by decide +kernel
theorem dd_X9_putImage_225 : decode cX9_putImage 225 = .ok (.iload_n 2, 1) := by decide +kernel
theorem dd_X9_putImage_226 : decode cX9_putImage 226 = .ok (.ifCond .ne 7, 3) := by decide +kernel
theorem dd_X9_putImage_229 : decode cX9_putImage 229 = .ok (.iconst 1, 1) := by decide +kernel
theorem dd_X9_putImage_230 : decode cX9_putImage 230 = .ok (.goto 4, 3) := by decide +kernel
theorem dd_X9_putImage_233 : decode cX9_putImage 233 = .ok (.iconst 0, 1) := by decide +kernel
theorem dd_X9_putImage_234 : decode cX9_putImage 234 = .ok (.invokevirtual 163, 3) := by decide +kernel
theorem dd_X9_putImage_237 : decode cX9_putImage 237 = .ok (.aload_n 0, 1) := by decide +kernel
theorem dd_X9_putImage_238 : decode cX9_putImage 238 = .ok (.iload 8, 2) := by decide +kernel
theorem dd_X9_putImage_240 : decode cX9_putImage 240 = .ok (.invokevirtual 160, 3) := by decide +kernel
theorem dd_X9_putImage_243 : decode cX9_putImage 243 = .ok (.goto 133, 3) := by decide +kernel
theorem dd_X9_putImage_246 : decode cX9_putImage 246 = .ok (.iload 5, 2) := by decide +kernel
theorem dd_X9_putImage_248 : decode cX9_putImage 248 = .ok (.iconst 2, 1) := by decide +kernel
theorem dd_X9_putImage_249 : decode cX9_putImage 249 = .ok (.if_icmp .ne 52, 3) := by decide +kernel
theorem dd_X9_putImage_252 : decode cX9_putImage 252 = .ok (.iload_n 3, 1) := by decide +kernel
theorem dd_X9_putImage_253 : decode cX9_putImage 253 = .ok (.iload 8, 2) := by decide +kernel
theorem dd_X9_putImage_255 : decode cX9_putImage 255 = .ok (.iconst 1, 1) := by decide +kernel
theorem dd_X9_putImage_256 : decode cX9_putImage 256 = .ok (.iadd, 1) := by decide +kernel
theorem dd_X9_putImage_257 : decode cX9_putImage 257 = .ok (.if_icmp .ne 44, 3) := by decide +kernel
theorem dd_X9_putImage_260 : decode cX9_putImage 260 = .ok (.aload_n 0, 1) := by decide +kernel
theorem dd_X9_putImage_261 : decode cX9_putImage 261 = .ok (.iload 6, 2) := by decide +kernel
theorem dd_X9_putImage_263 : decode cX9_putImage 263 = .ok (.iload_n 2, 1) := by decide +kernel
theorem dd_X9_putImage_264 : decode cX9_putImage 264 = .ok (.ifCond .ne 7, 3) := by decide +kernel
theorem dd_X9_putImage_267 : decode cX9_putImage 267 = .ok (.iconst 1, 1) := by decide +kernel
theorem dd_X9_putImage_268 : decode cX9_putImage 268 = .ok (.goto 4, 3) := by decide +kernel
theorem dd_X9_putImage_271 : decode cX9_putImage 271 = .ok (.iconst 0, 1) := by decide +kernel
theorem dd_X9_putImage_272 : decode cX9_putImage 272 = .ok (.invokevirtual 163, 3) := by decide +kernel
theorem dd_X9_putImage_275 : decode cX9_putImage 275 = .ok (.aload_n 0, 1) := by decide +kernel
theorem dd_X9_putImage_276 : decode cX9_putImage 276 = .ok (.iload 4, 2) := by decide +kernel
theorem dd_X9_putImage_278 : decode cX9_putImage 278 = .ok (.ifCond .eq 9, 3) := by decide +kernel
theorem dd_X9_putImage_281 : decode cX9_putImage 281 = .ok (.iconst 0, 1) := by decide +kernel
theorem dd_X9_putImage_282 : decode cX9_putImage 282 = .ok (.iload_n 3, 1) := by decide +kernel
theorem dd_X9_putImage_283 : decode cX9_putImage 283 = .ok (.isub, 1) := by decide +kernel
theorem dd_X9_putImage_284 : decode cX9_putImage 284 = .ok (.goto 4, 3) := by decide +kernel
theorem dd_X9_putImage_287 : decode cX9_putImage 287 = .ok (.iload_n 3, 1) := by decide +kernel
theorem dd_X9_putImage_288 : decode cX9_putImage 288 = .ok (.invokevirtual 160, 3) := by decide +kernel
theorem dd_X9_putImage_291 : decode cX9_putImage 291 = .ok (.aload_n 0, 1) := by decide +kernel
theorem dd_X9_putImage_292 : decode cX9_putImage 292 = .ok (.iload 6, 2) := by decide +kernel
theorem dd_X9_putImage_294 : decode cX9_putImage 294 = .ok (.iload_n 2, 1) := by decide +kernel
theorem dd_X9_putImage_295 : decode cX9_putImage 295 = .ok (.invokevirtual 163, 3) := by decide +kernel
theorem dd_X9_putImage_298 : decode cX9_putImage 298 = .ok (.goto 78, 3) := by decide +kernel
theorem dd_X9_putImage_301 : decode cX9_putImage 301 = .ok (.iload 5, 2) := by decide +kernel
theorem dd_X9_putImage_303 : decode cX9_putImage 303 = .ok (.iconst 2, 1) := by decide +kernel
theorem dd_X9_putImage_304 : decode cX9_putImage 304 = .ok (.if_icmp .ne 56, 3) := by decide +kernel
theorem dd_X9_putImage_307 : decode cX9_putImage 307 = .ok (.iload_n 3, 1) := by decide +kernel
theorem dd_X9_putImage_308 : decode cX9_putImage 308 = .ok (.iload 8, 2) := by decide +kernel
theorem dd_X9_putImage_310 : decode cX9_putImage 310 = .ok (.iconst 2, 1) := by decide +kernel
theorem dd_X9_putImage_311 : decode cX9_putImage 311 = .ok (.iadd, 1) := by decide +kernel
theorem dd_X9_putImage_312 : decode cX9_putImage 312 = .ok (.if_icmp .ne 48, 3) := by decide +kernel
theorem dd_X9_putImage_315 : decode cX9_putImage 315 = .ok (.iload 4, 2) := by decide +kernel
theorem dd_X9_putImage_317 : decode cX9_putImage 317 = .ok (.ifCond .eq 28, 3) := by decide +kernel
theorem dd_X9_putImage_320 : decode cX9_putImage 320 = .ok (.aload_n 0, 1) := by decide +kernel
theorem dd_X9_putImage_321 : decode cX9_putImage 321 = .ok (.iload 6, 2) := by decide +kernel
theorem dd_X9_putImage_323 : decode cX9_putImage 323 = .ok (.iload_n 2, 1) := by decide +kernel
theorem dd_X9_putImage_324 : decode cX9_putImage 324 = .ok (.ifCond .ne 7, 3) := by decide +kernel
theorem dd_X9_putImage_327 : decode cX9_putImage 327 = .ok (.iconst 1, 1) := by decide +kernel
theorem dd_X9_putImage_328 : decode cX9_putImage 328 = .ok (.goto 4, 3) := by decide +kernel
theorem dd_X9_putImage_331 : decode cX9_putImage 331 = .ok (.iconst 0, 1) := by decide +kernel
theorem dd_X9_putImage_332 : decode cX9_putImage 332 = .ok (.invokevirtual 163, 3) := by decide +kernel
theorem dd_X9_putImage_335 : decode cX9_putImage 335 = .ok (.aload_n 0, 1) := by decide +kernel
theorem dd_X9_putImage_336 : decode cX9_putImage 336 = .ok (.iconst 0, 1) := by decide +kernel
theorem dd_X9_putImage_337 : decode cX9_putImage 337 = .ok (.iload_n 3, 1) := by decide +kernel
theorem dd_X9_putImage_338 : decode cX9_putImage 338 = .ok (.isub, 1) := by decide +kernel
theorem dd_X9_putImage_339 : decode cX9_putImage 339 = .ok (.invokevirtual 160, 3) := by decide +kernel
theorem dd_X9_putImage_342 : decode cX9_putImage 342 = .ok (.goto 34, 3) := by decide +kernel
theorem dd_X9_putImage_345 : decode cX9_putImage 345 = .ok (.aload_n 0, 1) := by decide +kernel
theorem dd_X9_putImage_346 : decode cX9_putImage 346 = .ok (.iload_n 3, 1) := by decide +kernel
theorem dd_X9_putImage_347 : decode cX9_putImage 347 = .ok (.invokevirtual 160, 3) := by decide +kernel
theorem dd_X9_putImage_350 : decode cX9_putImage 350 = .ok (.aload_n 0, 1) := by decide +kernel
theorem dd_X9_putImage_351 : decode cX9_putImage 351 = .ok (.iload 6, 2) := by decide +kernel
theorem dd_X9_putImage_353 : decode cX9_putImage 353 = .ok (.iload_n 2, 1) := by decide +kernel
theorem dd_X9_putImage_354 : decode cX9_putImage 354 = .ok (.invokevirtual 163, 3) := by decide +kernel
theorem dd_X9_putImage_357 : decode cX9_putImage 357 = .ok (.goto 19, 3) := by decide +kernel
theorem dd_X9_putImage_360 : decode cX9_putImage 360 = .ok (.aload_n 0, 1) := by decide +kernel
theorem dd_X9_putImage_361 : decode cX9_putImage 361 = .ok (.iload 4, 2) := by decide +kernel
theorem dd_X9_putImage_363 : decode cX9_putImage 363 = .ok (.ifCond .eq 9, 3) := by decide +kernel
theorem dd_X9_putImage_366 : decode cX9_putImage 366 = .ok (.iconst 0, 1) := by decide +kernel
theorem dd_X9_putImage_367 : decode cX9_putImage 367 = .ok (.iload_n 3, 1) := by decide +kernel
theorem dd_X9_putImage_368 : decode cX9_putImage 368 = .ok (.isub, 1) := by decide +kernel
theorem dd_X9_putImage_369 : decode cX9_putImage 369 = .ok (.goto 4, 3) := by decide +kernel
theorem dd_X9_putImage_372 : decode cX9_putImage 372 = .ok (.iload_n 3, 1) := by decide +kernel
theorem dd_X9_putImage_373 : decode cX9_putImage 373 = .ok (.invokevirtual 160, 3) := by decide +kernel
theorem dd_X9_putImage_376 : decode cX9_putImage 376 = .ok (.return_, 1) := by decide +kernel
theorem ml_X9_163 : Cond.methodLink RX9 163 m_X9_putC.1 ∈ am_tbl := ri_lw_in (pl := 1068) (by decide +kernel)
theorem ok_X9_putImage : am_okM m_X9_putImage 4 ∧ Cond.instanceMethod m_X9_putImage.1 ∈ am_tbl ∧ Cond.selects m_X9_putImage.1.cls m_X9_putImage.1 m_X9_putImage.1 ∈ am_tbl := ri_mk1 1063 93 1062 58 (by decide +kernel)
theorem c_X9_putImage {t o x b : Int} {F A : gs_F} (hI : gs_I F A) (ht : -1073741824 ≤ t ∧ t ≤ 1073741823) (ho : o = 0 ∨ o = 1) (hx : 0 ≤ x ∧ x ≤ 9) (hb : b = 0 ∨ b = 1) (hs : F 106 15 ≤ 3680) : sC m_X9_putImage 3 [.ref 106, gs_iv t, gs_iv o, gs_iv x, gs_iv b] F A (fun rv F' A' => rv = none ∧ gs_I F' A' ∧ gs_fr (fun c j => c = 106 ∧ j = 15) (fun c => c = 115) F A F' A' ∧ (F' 106 15 ≤ F 106 15 + 9 ∧ 0 ≤ F' 106 15)) := by
  refine sC_of ok_X9_putImage.1 (Nat.le_of_ble_eq_true rfl) ?_
  show sA _ _ _ 0 [(0, .ref 106), (1, gs_iv t), (2, gs_iv o), (3, gs_iv x), (4, gs_iv b)] [] F A
  have hf : gs_fr (fun c j => c = 106 ∧ j = 15) (fun c => c = 115) F A F A := gs_fr_refl _ _ _ _
  have hb15 : (0 : Int) ≤ F 106 15 ∧ F 106 15 ≤ 3700 := hI.1 106 15
  refine sA_iload_n dd_X9_putImage_0 rfl (.tail _ (.head _)) ?_
  refine sA_aload_n dd_X9_putImage_1 rfl (.head _) ?_
  refine sA_geti (ci := 9) (j := 0) (q := (RX9, TX9, 28)) dd_X9_putImage_2 rfl (by decide) fl_X9_64 (by decide) gs_s106 rfl ?_
  have b1 : (1 : Int) ≤ F 106 0 ∧ F 106 0 ≤ 3 := hI.1 106 0
  refine sA_icmp_ge (tgt := 12) dd_X9_putImage_5 (by decide) (by omega) (by omega) (fun q2 => ?_) (fun q2 => ?_)
  · skip
    refine sA_iload_n dd_X9_putImage_12 rfl (.tail _ (.head _)) ?_
    refine sA_iconst (z := 2) dd_X9_putImage_13 ?_
    refine sA_aload_n dd_X9_putImage_14 rfl (.head _) ?_
    refine sA_geti (ci := 9) (j := 0) (q := (RX9, TX9, 28)) dd_X9_putImage_15 rfl (by decide) fl_X9_64 (by decide) gs_s106 rfl ?_
    refine sA_imul dd_X9_putImage_18 ?_
    refine sA_icmp_ge (tgt := 26) dd_X9_putImage_19 (by decide) (by omega) (by omega) (fun q3 => ?_) (fun q3 => ?_)
    · skip
      refine sA_iconst (z := 2) dd_X9_putImage_26 ?_
      refine sA_istore (lv' := [(5, gs_iv 2), (0, .ref 106), (1, gs_iv t), (2, gs_iv o), (3, gs_iv x), (4, gs_iv b)]) dd_X9_putImage_27 (by decide) rfl ?_
      refine sA_iload_n dd_X9_putImage_29 rfl (.tail _ (.tail _ (.head _))) ?_
      refine sA_iload dd_X9_putImage_30 (.head _) ?_
      refine sA_aload_n dd_X9_putImage_32 rfl (.tail _ (.head _)) ?_
      refine sA_geti (ci := 9) (j := 0) (q := (RX9, TX9, 28)) dd_X9_putImage_33 rfl (by decide) fl_X9_64 (by decide) gs_s106 rfl ?_
      refine sA_imul dd_X9_putImage_36 ?_
      refine sA_isub dd_X9_putImage_37 ?_
      refine sA_istore (lv' := [(6, gs_iv (t - (2 * (F 106 0)))), (5, gs_iv 2), (0, .ref 106), (1, gs_iv t), (2, gs_iv o), (3, gs_iv x), (4, gs_iv b)]) dd_X9_putImage_38 (by decide) rfl ?_
      refine sA_iconst (z := 2) dd_X9_putImage_40 ?_
      refine sA_iload dd_X9_putImage_41 (.head _) ?_
      refine sA_imul dd_X9_putImage_43 ?_
      refine sA_iconst (z := 1) dd_X9_putImage_44 ?_
      refine sA_iadd dd_X9_putImage_45 ?_
      refine sA_istore (lv' := [(7, gs_iv ((2 * (t - (2 * (F 106 0)))) + 1)), (6, gs_iv (t - (2 * (F 106 0)))), (5, gs_iv 2), (0, .ref 106), (1, gs_iv t), (2, gs_iv o), (3, gs_iv x), (4, gs_iv b)]) dd_X9_putImage_46 (by decide) rfl ?_
      refine sA_iconst (z := 2) dd_X9_putImage_48 ?_
      refine sA_iload dd_X9_putImage_49 (.tail _ (.head _)) ?_
      refine sA_imul dd_X9_putImage_51 ?_
      refine sA_iconst (z := 2) dd_X9_putImage_52 ?_
      refine sA_iadd dd_X9_putImage_53 ?_
      refine sA_istore (lv' := [(8, gs_iv ((2 * (t - (2 * (F 106 0)))) + 2)), (7, gs_iv ((2 * (t - (2 * (F 106 0)))) + 1)), (6, gs_iv (t - (2 * (F 106 0)))), (5, gs_iv 2), (0, .ref 106), (1, gs_iv t), (2, gs_iv o), (3, gs_iv x), (4, gs_iv b)]) dd_X9_putImage_54 (by decide) rfl ?_
      refine sA_iload dd_X9_putImage_56 (.tail _ (.tail _ (.tail _ (.head _)))) ?_
      refine sA_if_ne (tgt := 121) dd_X9_putImage_58 (by decide) (by omega) (fun q4 => ?_) (fun q4 => absurd q4 (by omega))
      refine sA_iload dd_X9_putImage_121 (.tail _ (.tail _ (.tail _ (.head _)))) ?_
      refine sA_iconst (z := 1) dd_X9_putImage_123 ?_
      refine sA_icmp_ne (tgt := 187) dd_X9_putImage_124 (by decide) (by omega) (by omega) (fun q5 => ?_) (fun q5 => absurd q5 (by omega))
      refine sA_iload dd_X9_putImage_187 (.tail _ (.tail _ (.tail _ (.head _)))) ?_
      refine sA_iconst (z := 2) dd_X9_putImage_189 ?_
      refine sA_icmp_ne (tgt := 246) dd_X9_putImage_190 (by decide) (by omega) (by omega) (fun q6 => absurd q6 (by omega)) (fun q6 => ?_)
      refine sA_iload_n dd_X9_putImage_193 rfl (.tail _ (.tail _ (.tail _ (.tail _ (.tail _ (.tail _ (.tail _ (.head _)))))))) ?_
      refine sA_iload dd_X9_putImage_194 (.head _) ?_
      refine sA_icmp_ne (tgt := 246) dd_X9_putImage_196 (by decide) (by omega) (by omega) (fun q7 => ?_) (fun q7 => ?_)
      · skip
        refine sA_iload dd_X9_putImage_246 (.tail _ (.tail _ (.tail _ (.head _)))) ?_
        refine sA_iconst (z := 2) dd_X9_putImage_248 ?_
        refine sA_icmp_ne (tgt := 301) dd_X9_putImage_249 (by decide) (by omega) (by omega) (fun q8 => absurd q8 (by omega)) (fun q8 => ?_)
        refine sA_iload_n dd_X9_putImage_252 rfl (.tail _ (.tail _ (.tail _ (.tail _ (.tail _ (.tail _ (.tail _ (.head _)))))))) ?_
        refine sA_iload dd_X9_putImage_253 (.head _) ?_
        refine sA_iconst (z := 1) dd_X9_putImage_255 ?_
        refine sA_iadd dd_X9_putImage_256 ?_
        refine sA_icmp_ne (tgt := 301) dd_X9_putImage_257 (by decide) (by omega) (by omega) (fun q9 => ?_) (fun q9 => ?_)
        · skip
          refine sA_iload dd_X9_putImage_301 (.tail _ (.tail _ (.tail _ (.head _)))) ?_
          refine sA_iconst (z := 2) dd_X9_putImage_303 ?_
          refine sA_icmp_ne (tgt := 360) dd_X9_putImage_304 (by decide) (by omega) (by omega) (fun q10 => absurd q10 (by omega)) (fun q10 => ?_)
          refine sA_iload_n dd_X9_putImage_307 rfl (.tail _ (.tail _ (.tail _ (.tail _ (.tail _ (.tail _ (.tail _ (.head _)))))))) ?_
          refine sA_iload dd_X9_putImage_308 (.head _) ?_
          refine sA_iconst (z := 2) dd_X9_putImage_310 ?_
          refine sA_iadd dd_X9_putImage_311 ?_
          refine sA_icmp_ne (tgt := 360) dd_X9_putImage_312 (by decide) (by omega) (by omega) (fun q11 => ?_) (fun q11 => ?_)
          · skip
            refine sA_aload_n dd_X9_putImage_360 rfl (.tail _ (.tail _ (.tail _ (.tail _ (.head _))))) ?_
            refine sA_iload dd_X9_putImage_361 (.tail _ (.tail _ (.tail _ (.tail _ (.tail _ (.tail _ (.tail _ (.tail _ (.head _))))))))) ?_
            refine sA_if_eq (tgt := 372) dd_X9_putImage_363 (by decide) (by omega) (fun q12 => ?_) (fun q12 => ?_)
            · skip
              refine sA_iload_n dd_X9_putImage_372 rfl (.tail _ (.tail _ (.tail _ (.tail _ (.tail _ (.tail _ (.tail _ (.head _)))))))) ?_
              refine sA_callV (y2 := m_X9_put) (n2 := 1) (d2 := 1) (a := 106) (ci := 9) (q := (RX9, TX9, 28)) (as := [gs_iv x]) (rest := []) dd_X9_putImage_373 ok_X9_put ml_X9_160 rfl rfl (by decide) gs_s106 rfl rfl (Nat.le_of_ble_eq_true rfl) (by decide) (c_X9_put hI (by omega) (by omega)) (fun r13 F14 A15 h16 => ?_)
              obtain ⟨e18, I19, f20, x17⟩ := h16
              subst e18
              have f21 := gs_fr_tr hf f20 (fun b j h => by first | exact False.elim h | omega | (dsimp only at h ⊢; omega)) (fun b h => by first | exact False.elim h | omega | (dsimp only at h ⊢; omega))
              show sA _ _ _ 376 _ [] _ _
              refine sA_vret dd_X9_putImage_376 rfl ?_
              exact ⟨rfl, I19, f21, by omega⟩
            · skip
              refine sA_iconst (z := 0) dd_X9_putImage_366 ?_
              refine sA_iload_n dd_X9_putImage_367 rfl (.tail _ (.tail _ (.tail _ (.tail _ (.tail _ (.tail _ (.tail _ (.head _)))))))) ?_
              refine sA_isub dd_X9_putImage_368 ?_
              refine sA_goto (tgt := 373) dd_X9_putImage_369 (by decide) ?_
              refine sA_callV (y2 := m_X9_put) (n2 := 1) (d2 := 1) (a := 106) (ci := 9) (q := (RX9, TX9, 28)) (as := [gs_iv (0 - x)]) (rest := []) dd_X9_putImage_373 ok_X9_put ml_X9_160 rfl rfl (by decide) gs_s106 rfl rfl (Nat.le_of_ble_eq_true rfl) (by decide) (c_X9_put hI (by omega) (by omega)) (fun r22 F23 A24 h25 => ?_)
              obtain ⟨e27, I28, f29, x26⟩ := h25
              subst e27
              have f30 := gs_fr_tr hf f29 (fun b j h => by first | exact False.elim h | omega | (dsimp only at h ⊢; omega)) (fun b h => by first | exact False.elim h | omega | (dsimp only at h ⊢; omega))
              show sA _ _ _ 376 _ [] _ _
              refine sA_vret dd_X9_putImage_376 rfl ?_
              exact ⟨rfl, I28, f30, by omega⟩
          · skip
            refine sA_iload dd_X9_putImage_315 (.tail _ (.tail _ (.tail _ (.tail _ (.tail _ (.tail _ (.tail _ (.tail _ (.head _))))))))) ?_
            refine sA_if_eq (tgt := 345) dd_X9_putImage_317 (by decide) (by omega) (fun q31 => ?_) (fun q31 => ?_)
            · skip
              refine sA_aload_n dd_X9_putImage_345 rfl (.tail _ (.tail _ (.tail _ (.tail _ (.head _))))) ?_
              refine sA_iload_n dd_X9_putImage_346 rfl (.tail _ (.tail _ (.tail _ (.tail _ (.tail _ (.tail _ (.tail _ (.head _)))))))) ?_
              refine sA_callV (y2 := m_X9_put) (n2 := 1) (d2 := 1) (a := 106) (ci := 9) (q := (RX9, TX9, 28)) (as := [gs_iv x]) (rest := []) dd_X9_putImage_347 ok_X9_put ml_X9_160 rfl rfl (by decide) gs_s106 rfl rfl (Nat.le_of_ble_eq_true rfl) (by decide) (c_X9_put hI (by omega) (by omega)) (fun r32 F33 A34 h35 => ?_)
              obtain ⟨e37, I38, f39, x36⟩ := h35
              subst e37
              have f40 := gs_fr_tr hf f39 (fun b j h => by first | exact False.elim h | omega | (dsimp only at h ⊢; omega)) (fun b h => by first | exact False.elim h | omega | (dsimp only at h ⊢; omega))
              show sA _ _ _ 350 _ [] _ _
              refine sA_aload_n dd_X9_putImage_350 rfl (.tail _ (.tail _ (.tail _ (.tail _ (.head _))))) ?_
              refine sA_iload dd_X9_putImage_351 (.tail _ (.tail _ (.head _))) ?_
              refine sA_iload_n dd_X9_putImage_353 rfl (.tail _ (.tail _ (.tail _ (.tail _ (.tail _ (.tail _ (.head _))))))) ?_
              refine sA_callV (y2 := m_X9_putC) (n2 := 2) (d2 := 2) (a := 106) (ci := 9) (q := (RX9, TX9, 28)) (as := [gs_iv (t - (2 * (F 106 0))), gs_iv o]) (rest := []) dd_X9_putImage_354 ok_X9_putC ml_X9_163 rfl rfl (by decide) gs_s106 rfl rfl (Nat.le_of_ble_eq_true rfl) (by decide) (c_X9_putC I38 (by omega) (by omega) (by omega)) (fun r41 F42 A43 h44 => ?_)
              obtain ⟨e46, I47, f48, x45⟩ := h44
              subst e46
              have f49 := gs_fr_tr f40 f48 (fun b j h => by first | exact False.elim h | omega | (dsimp only at h ⊢; omega)) (fun b h => by first | exact False.elim h | omega | (dsimp only at h ⊢; omega))
              show sA _ _ _ 357 _ [] _ _
              refine sA_goto (tgt := 376) dd_X9_putImage_357 (by decide) ?_
              refine sA_vret dd_X9_putImage_376 rfl ?_
              exact ⟨rfl, I47, f49, by omega⟩
            · skip
              refine sA_aload_n dd_X9_putImage_320 rfl (.tail _ (.tail _ (.tail _ (.tail _ (.head _))))) ?_
              refine sA_iload dd_X9_putImage_321 (.tail _ (.tail _ (.head _))) ?_
              refine sA_iload_n dd_X9_putImage_323 rfl (.tail _ (.tail _ (.tail _ (.tail _ (.tail _ (.tail _ (.head _))))))) ?_
              refine sA_if_ne (tgt := 331) dd_X9_putImage_324 (by decide) (by omega) (fun q50 => ?_) (fun q50 => ?_)
              · skip
                refine sA_iconst (z := 0) dd_X9_putImage_331 ?_
                refine sA_callV (y2 := m_X9_putC) (n2 := 2) (d2 := 2) (a := 106) (ci := 9) (q := (RX9, TX9, 28)) (as := [gs_iv (t - (2 * (F 106 0))), gs_iv 0]) (rest := []) dd_X9_putImage_332 ok_X9_putC ml_X9_163 rfl rfl (by decide) gs_s106 rfl rfl (Nat.le_of_ble_eq_true rfl) (by decide) (c_X9_putC hI (by omega) (by omega) (by omega)) (fun r51 F52 A53 h54 => ?_)
                obtain ⟨e56, I57, f58, x55⟩ := h54
                subst e56
                have f59 := gs_fr_tr hf f58 (fun b j h => by first | exact False.elim h | omega | (dsimp only at h ⊢; omega)) (fun b h => by first | exact False.elim h | omega | (dsimp only at h ⊢; omega))
                show sA _ _ _ 335 _ [] _ _
                refine sA_aload_n dd_X9_putImage_335 rfl (.tail _ (.tail _ (.tail _ (.tail _ (.head _))))) ?_
                refine sA_iconst (z := 0) dd_X9_putImage_336 ?_
                refine sA_iload_n dd_X9_putImage_337 rfl (.tail _ (.tail _ (.tail _ (.tail _ (.tail _ (.tail _ (.tail _ (.head _)))))))) ?_
                refine sA_isub dd_X9_putImage_338 ?_
                refine sA_callV (y2 := m_X9_put) (n2 := 1) (d2 := 1) (a := 106) (ci := 9) (q := (RX9, TX9, 28)) (as := [gs_iv (0 - x)]) (rest := []) dd_X9_putImage_339 ok_X9_put ml_X9_160 rfl rfl (by decide) gs_s106 rfl rfl (Nat.le_of_ble_eq_true rfl) (by decide) (c_X9_put I57 (by omega) (by omega)) (fun r60 F61 A62 h63 => ?_)
                obtain ⟨e65, I66, f67, x64⟩ := h63
                subst e65
                have f68 := gs_fr_tr f59 f67 (fun b j h => by first | exact False.elim h | omega | (dsimp only at h ⊢; omega)) (fun b h => by first | exact False.elim h | omega | (dsimp only at h ⊢; omega))
                show sA _ _ _ 342 _ [] _ _
                refine sA_goto (tgt := 376) dd_X9_putImage_342 (by decide) ?_
                refine sA_vret dd_X9_putImage_376 rfl ?_
                exact ⟨rfl, I66, f68, by omega⟩
              · skip
                refine sA_iconst (z := 1) dd_X9_putImage_327 ?_
                refine sA_goto (tgt := 332) dd_X9_putImage_328 (by decide) ?_
                refine sA_callV (y2 := m_X9_putC) (n2 := 2) (d2 := 2) (a := 106) (ci := 9) (q := (RX9, TX9, 28)) (as := [gs_iv (t - (2 * (F 106 0))), gs_iv 1]) (rest := []) dd_X9_putImage_332 ok_X9_putC ml_X9_163 rfl rfl (by decide) gs_s106 rfl rfl (Nat.le_of_ble_eq_true rfl) (by decide) (c_X9_putC hI (by omega) (by omega) (by omega)) (fun r69 F70 A71 h72 => ?_)
                obtain ⟨e74, I75, f76, x73⟩ := h72
                subst e74
                have f77 := gs_fr_tr hf f76 (fun b j h => by first | exact False.elim h | omega | (dsimp only at h ⊢; omega)) (fun b h => by first | exact False.elim h | omega | (dsimp only at h ⊢; omega))
                show sA _ _ _ 335 _ [] _ _
                refine sA_aload_n dd_X9_putImage_335 rfl (.tail _ (.tail _ (.tail _ (.tail _ (.head _))))) ?_
                refine sA_iconst (z := 0) dd_X9_putImage_336 ?_
                refine sA_iload_n dd_X9_putImage_337 rfl (.tail _ (.tail _ (.tail _ (.tail _ (.tail _ (.tail _ (.tail _ (.head _)))))))) ?_
                refine sA_isub dd_X9_putImage_338 ?_
                refine sA_callV (y2 := m_X9_put) (n2 := 1) (d2 := 1) (a := 106) (ci := 9) (q := (RX9, TX9, 28)) (as := [gs_iv (0 - x)]) (rest := []) dd_X9_putImage_339 ok_X9_put ml_X9_160 rfl rfl (by decide) gs_s106 rfl rfl (Nat.le_of_ble_eq_true rfl) (by decide) (c_X9_put I75 (by omega) (by omega)) (fun r78 F79 A80 h81 => ?_)
                obtain ⟨e83, I84, f85, x82⟩ := h81
                subst e83
                have f86 := gs_fr_tr f77 f85 (fun b j h => by first | exact False.elim h | omega | (dsimp only at h ⊢; omega)) (fun b h => by first | exact False.elim h | omega | (dsimp only at h ⊢; omega))
                show sA _ _ _ 342 _ [] _ _
                refine sA_goto (tgt := 376) dd_X9_putImage_342 (by decide) ?_
                refine sA_vret dd_X9_putImage_376 rfl ?_
                exact ⟨rfl, I84, f86, by omega⟩
        · skip
          refine sA_aload_n dd_X9_putImage_260 rfl (.tail _ (.tail _ (.tail _ (.tail _ (.head _))))) ?_
          refine sA_iload dd_X9_putImage_261 (.tail _ (.tail _ (.head _))) ?_
          refine sA_iload_n dd_X9_putImage_263 rfl (.tail _ (.tail _ (.tail _ (.tail _ (.tail _ (.tail _ (.head _))))))) ?_
          refine sA_if_ne (tgt := 271) dd_X9_putImage_264 (by decide) (by omega) (fun q87 => ?_) (fun q87 => ?_)
          · skip
            refine sA_iconst (z := 0) dd_X9_putImage_271 ?_
            refine sA_callV (y2 := m_X9_putC) (n2 := 2) (d2 := 2) (a := 106) (ci := 9) (q := (RX9, TX9, 28)) (as := [gs_iv (t - (2 * (F 106 0))), gs_iv 0]) (rest := []) dd_X9_putImage_272 ok_X9_putC ml_X9_163 rfl rfl (by decide) gs_s106 rfl rfl (Nat.le_of_ble_eq_true rfl) (by decide) (c_X9_putC hI (by omega) (by omega) (by omega)) (fun r88 F89 A90 h91 => ?_)
            obtain ⟨e93, I94, f95, x92⟩ := h91
            subst e93
            have f96 := gs_fr_tr hf f95 (fun b j h => by first | exact False.elim h | omega | (dsimp only at h ⊢; omega)) (fun b h => by first | exact False.elim h | omega | (dsimp only at h ⊢; omega))
            show sA _ _ _ 275 _ [] _ _
            refine sA_aload_n dd_X9_putImage_275 rfl (.tail _ (.tail _ (.tail _ (.tail _ (.head _))))) ?_
            refine sA_iload dd_X9_putImage_276 (.tail _ (.tail _ (.tail _ (.tail _ (.tail _ (.tail _ (.tail _ (.tail _ (.head _))))))))) ?_
            refine sA_if_eq (tgt := 287) dd_X9_putImage_278 (by decide) (by omega) (fun q97 => ?_) (fun q97 => ?_)
            · skip
              refine sA_iload_n dd_X9_putImage_287 rfl (.tail _ (.tail _ (.tail _ (.tail _ (.tail _ (.tail _ (.tail _ (.head _)))))))) ?_
              refine sA_callV (y2 := m_X9_put) (n2 := 1) (d2 := 1) (a := 106) (ci := 9) (q := (RX9, TX9, 28)) (as := [gs_iv x]) (rest := []) dd_X9_putImage_288 ok_X9_put ml_X9_160 rfl rfl (by decide) gs_s106 rfl rfl (Nat.le_of_ble_eq_true rfl) (by decide) (c_X9_put I94 (by omega) (by omega)) (fun r98 F99 A100 h101 => ?_)
              obtain ⟨e103, I104, f105, x102⟩ := h101
              subst e103
              have f106 := gs_fr_tr f96 f105 (fun b j h => by first | exact False.elim h | omega | (dsimp only at h ⊢; omega)) (fun b h => by first | exact False.elim h | omega | (dsimp only at h ⊢; omega))
              show sA _ _ _ 291 _ [] _ _
              refine sA_aload_n dd_X9_putImage_291 rfl (.tail _ (.tail _ (.tail _ (.tail _ (.head _))))) ?_
              refine sA_iload dd_X9_putImage_292 (.tail _ (.tail _ (.head _))) ?_
              refine sA_iload_n dd_X9_putImage_294 rfl (.tail _ (.tail _ (.tail _ (.tail _ (.tail _ (.tail _ (.head _))))))) ?_
              refine sA_callV (y2 := m_X9_putC) (n2 := 2) (d2 := 2) (a := 106) (ci := 9) (q := (RX9, TX9, 28)) (as := [gs_iv (t - (2 * (F 106 0))), gs_iv o]) (rest := []) dd_X9_putImage_295 ok_X9_putC ml_X9_163 rfl rfl (by decide) gs_s106 rfl rfl (Nat.le_of_ble_eq_true rfl) (by decide) (c_X9_putC I104 (by omega) (by omega) (by omega)) (fun r107 F108 A109 h110 => ?_)
              obtain ⟨e112, I113, f114, x111⟩ := h110
              subst e112
              have f115 := gs_fr_tr f106 f114 (fun b j h => by first | exact False.elim h | omega | (dsimp only at h ⊢; omega)) (fun b h => by first | exact False.elim h | omega | (dsimp only at h ⊢; omega))
              show sA _ _ _ 298 _ [] _ _
              refine sA_goto (tgt := 376) dd_X9_putImage_298 (by decide) ?_
              refine sA_vret dd_X9_putImage_376 rfl ?_
              exact ⟨rfl, I113, f115, by omega⟩
            · skip
              refine sA_iconst (z := 0) dd_X9_putImage_281 ?_
              refine sA_iload_n dd_X9_putImage_282 rfl (.tail _ (.tail _ (.tail _ (.tail _ (.tail _ (.tail _ (.tail _ (.head _)))))))) ?_
              refine sA_isub dd_X9_putImage_283 ?_
              refine sA_goto (tgt := 288) dd_X9_putImage_284 (by decide) ?_
              refine sA_callV (y2 := m_X9_put) (n2 := 1) (d2 := 1) (a := 106) (ci := 9) (q := (RX9, TX9, 28)) (as := [gs_iv (0 - x)]) (rest := []) dd_X9_putImage_288 ok_X9_put ml_X9_160 rfl rfl (by decide) gs_s106 rfl rfl (Nat.le_of_ble_eq_true rfl) (by decide) (c_X9_put I94 (by omega) (by omega)) (fun r116 F117 A118 h119 => ?_)
              obtain ⟨e121, I122, f123, x120⟩ := h119
              subst e121
              have f124 := gs_fr_tr f96 f123 (fun b j h => by first | exact False.elim h | omega | (dsimp only at h ⊢; omega)) (fun b h => by first | exact False.elim h | omega | (dsimp only at h ⊢; omega))
              show sA _ _ _ 291 _ [] _ _
              refine sA_aload_n dd_X9_putImage_291 rfl (.tail _ (.tail _ (.tail _ (.tail _ (.head _))))) ?_
              refine sA_iload dd_X9_putImage_292 (.tail _ (.tail _ (.head _))) ?_
              refine sA_iload_n dd_X9_putImage_294 rfl (.tail _ (.tail _ (.tail _ (.tail _ (.tail _ (.tail _ (.head _))))))) ?_
              refine sA_callV (y2 := m_X9_putC) (n2 := 2) (d2 := 2) (a := 106) (ci := 9) (q := (RX9, TX9, 28)) (as := [gs_iv (t - (2 * (F 106 0))), gs_iv o]) (rest := []) dd_X9_putImage_295 ok_X9_putC ml_X9_163 rfl rfl (by decide) gs_s106 rfl rfl (Nat.le_of_ble_eq_true rfl) (by decide) (c_X9_putC I122 (by omega) (by omega) (by omega)) (fun r125 F126 A127 h128 => ?_)
              obtain ⟨e130, I131, f132, x129⟩ := h128
              subst e130
              have f133 := gs_fr_tr f124 f132 (fun b j h => by first | exact False.elim h | omega | (dsimp only at h ⊢; omega)) (fun b h => by first | exact False.elim h | omega | (dsimp only at h ⊢; omega))
              show sA _ _ _ 298 _ [] _ _
              refine sA_goto (tgt := 376) dd_X9_putImage_298 (by decide) ?_
              refine sA_vret dd_X9_putImage_376 rfl ?_
              exact ⟨rfl, I131, f133, by omega⟩
          · skip
            refine sA_iconst (z := 1) dd_X9_putImage_267 ?_
            refine sA_goto (tgt := 272) dd_X9_putImage_268 (by decide) ?_
            refine sA_callV (y2 := m_X9_putC) (n2 := 2) (d2 := 2) (a := 106) (ci := 9) (q := (RX9, TX9, 28)) (as := [gs_iv (t - (2 * (F 106 0))), gs_iv 1]) (rest := []) dd_X9_putImage_272 ok_X9_putC ml_X9_163 rfl rfl (by decide) gs_s106 rfl rfl (Nat.le_of_ble_eq_true rfl) (by decide) (c_X9_putC hI (by omega) (by omega) (by omega)) (fun r134 F135 A136 h137 => ?_)
            obtain ⟨e139, I140, f141, x138⟩ := h137
            subst e139
            have f142 := gs_fr_tr hf f141 (fun b j h => by first | exact False.elim h | omega | (dsimp only at h ⊢; omega)) (fun b h => by first | exact False.elim h | omega | (dsimp only at h ⊢; omega))
            show sA _ _ _ 275 _ [] _ _
            refine sA_aload_n dd_X9_putImage_275 rfl (.tail _ (.tail _ (.tail _ (.tail _ (.head _))))) ?_
            refine sA_iload dd_X9_putImage_276 (.tail _ (.tail _ (.tail _ (.tail _ (.tail _ (.tail _ (.tail _ (.tail _ (.head _))))))))) ?_
            refine sA_if_eq (tgt := 287) dd_X9_putImage_278 (by decide) (by omega) (fun q143 => ?_) (fun q143 => ?_)
            · skip
              refine sA_iload_n dd_X9_putImage_287 rfl (.tail _ (.tail _ (.tail _ (.tail _ (.tail _ (.tail _ (.tail _ (.head _)))))))) ?_
              refine sA_callV (y2 := m_X9_put) (n2 := 1) (d2 := 1) (a := 106) (ci := 9) (q := (RX9, TX9, 28)) (as := [gs_iv x]) (rest := []) dd_X9_putImage_288 ok_X9_put ml_X9_160 rfl rfl (by decide) gs_s106 rfl rfl (Nat.le_of_ble_eq_true rfl) (by decide) (c_X9_put I140 (by omega) (by omega)) (fun r144 F145 A146 h147 => ?_)
              obtain ⟨e149, I150, f151, x148⟩ := h147
              subst e149
              have f152 := gs_fr_tr f142 f151 (fun b j h => by first | exact False.elim h | omega | (dsimp only at h ⊢; omega)) (fun b h => by first | exact False.elim h | omega | (dsimp only at h ⊢; omega))
              show sA _ _ _ 291 _ [] _ _
              refine sA_aload_n dd_X9_putImage_291 rfl (.tail _ (.tail _ (.tail _ (.tail _ (.head _))))) ?_
              refine sA_iload dd_X9_putImage_292 (.tail _ (.tail _ (.head _))) ?_
              refine sA_iload_n dd_X9_putImage_294 rfl (.tail _ (.tail _ (.tail _ (.tail _ (.tail _ (.tail _ (.head _))))))) ?_
              refine sA_callV (y2 := m_X9_putC) (n2 := 2) (d2 := 2) (a := 106) (ci := 9) (q := (RX9, TX9, 28)) (as := [gs_iv (t - (2 * (F 106 0))), gs_iv o]) (rest := []) dd_X9_putImage_295 ok_X9_putC ml_X9_163 rfl rfl (by decide) gs_s106 rfl rfl (Nat.le_of_ble_eq_true rfl) (by decide) (c_X9_putC I150 (by omega) (by omega) (by omega)) (fun r153 F154 A155 h156 => ?_)
              obtain ⟨e158, I159, f160, x157⟩ := h156
              subst e158
              have f161 := gs_fr_tr f152 f160 (fun b j h => by first | exact False.elim h | omega | (dsimp only at h ⊢; omega)) (fun b h => by first | exact False.elim h | omega | (dsimp only at h ⊢; omega))
              show sA _ _ _ 298 _ [] _ _
              refine sA_goto (tgt := 376) dd_X9_putImage_298 (by decide) ?_
              refine sA_vret dd_X9_putImage_376 rfl ?_
              exact ⟨rfl, I159, f161, by omega⟩
            · skip
              refine sA_iconst (z := 0) dd_X9_putImage_281 ?_
              refine sA_iload_n dd_X9_putImage_282 rfl (.tail _ (.tail _ (.tail _ (.tail _ (.tail _ (.tail _ (.tail _ (.head _)))))))) ?_
              refine sA_isub dd_X9_putImage_283 ?_
              refine sA_goto (tgt := 288) dd_X9_putImage_284 (by decide) ?_
              refine sA_callV (y2 := m_X9_put) (n2 := 1) (d2 := 1) (a := 106) (ci := 9) (q := (RX9, TX9, 28)) (as := [gs_iv (0 - x)]) (rest := []) dd_X9_putImage_288 ok_X9_put ml_X9_160 rfl rfl (by decide) gs_s106 rfl rfl (Nat.le_of_ble_eq_true rfl) (by decide) (c_X9_put I140 (by omega) (by omega)) (fun r162 F163 A164 h165 => ?_)
              obtain ⟨e167, I168, f169, x166⟩ := h165
              subst e167
              have f170 := gs_fr_tr f142 f169 (fun b j h => by first | exact False.elim h | omega | (dsimp only at h ⊢; omega)) (fun b h => by first | exact False.elim h | omega | (dsimp only at h ⊢; omega))
              show sA _ _ _ 291 _ [] _ _
              refine sA_aload_n dd_X9_putImage_291 rfl (.tail _ (.tail _ (.tail _ (.tail _ (.head _))))) ?_
              refine sA_iload dd_X9_putImage_292 (.tail _ (.tail _ (.head _))) ?_
              refine sA_iload_n dd_X9_putImage_294 rfl (.tail _ (.tail _ (.tail _ (.tail _ (.tail _ (.tail _ (.head _))))))) ?_
              refine sA_callV (y2 := m_X9_putC) (n2 := 2) (d2 := 2) (a := 106) (ci := 9) (q := (RX9, TX9, 28)) (as := [gs_iv (t - (2 * (F 106 0))), gs_iv o]) (rest := []) dd_X9_putImage_295 ok_X9_putC ml_X9_163 rfl rfl (by decide) gs_s106 rfl rfl (Nat.le_of_ble_eq_true rfl) (by decide) (c_X9_putC I168 (by omega) (by omega) (by omega)) (fun r171 F172 A173 h174 => ?_)
              obtain ⟨e176, I177, f178, x175⟩ := h174
              subst e176
              have f179 := gs_fr_tr f170 f178 (fun b j h => by first | exact False.elim h | omega | (dsimp only at h ⊢; omega)) (fun b h => by first | exact False.elim h | omega | (dsimp only at h ⊢; omega))
              show sA _ _ _ 298 _ [] _ _
              refine sA_goto (tgt := 376) dd_X9_putImage_298 (by decide) ?_
              refine sA_vret dd_X9_putImage_376 rfl ?_
              exact ⟨rfl, I177, f179, by omega⟩
      · skip
        refine sA_iload dd_X9_putImage_199 (.tail _ (.tail _ (.tail _ (.tail _ (.tail _ (.tail _ (.tail _ (.tail _ (.head _))))))))) ?_
        refine sA_if_eq (tgt := 222) dd_X9_putImage_201 (by decide) (by omega) (fun q180 => ?_) (fun q180 => ?_)
        · skip
          refine sA_aload_n dd_X9_putImage_222 rfl (.tail _ (.tail _ (.tail _ (.tail _ (.head _))))) ?_
          refine sA_iload dd_X9_putImage_223 (.tail _ (.tail _ (.head _))) ?_
          refine sA_iload_n dd_X9_putImage_225 rfl (.tail _ (.tail _ (.tail _ (.tail _ (.tail _ (.tail _ (.head _))))))) ?_
          refine sA_if_ne (tgt := 233) dd_X9_putImage_226 (by decide) (by omega) (fun q181 => ?_) (fun q181 => ?_)
          · skip
            refine sA_iconst (z := 0) dd_X9_putImage_233 ?_
            refine sA_callV (y2 := m_X9_putC) (n2 := 2) (d2 := 2) (a := 106) (ci := 9) (q := (RX9, TX9, 28)) (as := [gs_iv (t - (2 * (F 106 0))), gs_iv 0]) (rest := []) dd_X9_putImage_234 ok_X9_putC ml_X9_163 rfl rfl (by decide) gs_s106 rfl rfl (Nat.le_of_ble_eq_true rfl) (by decide) (c_X9_putC hI (by omega) (by omega) (by omega)) (fun r182 F183 A184 h185 => ?_)
            obtain ⟨e187, I188, f189, x186⟩ := h185
            subst e187
            have f190 := gs_fr_tr hf f189 (fun b j h => by first | exact False.elim h | omega | (dsimp only at h ⊢; omega)) (fun b h => by first | exact False.elim h | omega | (dsimp only at h ⊢; omega))
            show sA _ _ _ 237 _ [] _ _
            refine sA_aload_n dd_X9_putImage_237 rfl (.tail _ (.tail _ (.tail _ (.tail _ (.head _))))) ?_
            refine sA_iload dd_X9_putImage_238 (.head _) ?_
            refine sA_callV (y2 := m_X9_put) (n2 := 1) (d2 := 1) (a := 106) (ci := 9) (q := (RX9, TX9, 28)) (as := [gs_iv ((2 * (t - (2 * (F 106 0)))) + 2)]) (rest := []) dd_X9_putImage_240 ok_X9_put ml_X9_160 rfl rfl (by decide) gs_s106 rfl rfl (Nat.le_of_ble_eq_true rfl) (by decide) (c_X9_put I188 (by omega) (by omega)) (fun r191 F192 A193 h194 => ?_)
            obtain ⟨e196, I197, f198, x195⟩ := h194
            subst e196
            have f199 := gs_fr_tr f190 f198 (fun b j h => by first | exact False.elim h | omega | (dsimp only at h ⊢; omega)) (fun b h => by first | exact False.elim h | omega | (dsimp only at h ⊢; omega))
            show sA _ _ _ 243 _ [] _ _
            refine sA_goto (tgt := 376) dd_X9_putImage_243 (by decide) ?_
            refine sA_vret dd_X9_putImage_376 rfl ?_
            exact ⟨rfl, I197, f199, by omega⟩
          · skip
            refine sA_iconst (z := 1) dd_X9_putImage_229 ?_
            refine sA_goto (tgt := 234) dd_X9_putImage_230 (by decide) ?_
            refine sA_callV (y2 := m_X9_putC) (n2 := 2) (d2 := 2) (a := 106) (ci := 9) (q := (RX9, TX9, 28)) (as := [gs_iv (t - (2 * (F 106 0))), gs_iv 1]) (rest := []) dd_X9_putImage_234 ok_X9_putC ml_X9_163 rfl rfl (by decide) gs_s106 rfl rfl (Nat.le_of_ble_eq_true rfl) (by decide) (c_X9_putC hI (by omega) (by omega) (by omega)) (fun r200 F201 A202 h203 => ?_)
            obtain ⟨e205, I206, f207, x204⟩ := h203
            subst e205
            have f208 := gs_fr_tr hf f207 (fun b j h => by first | exact False.elim h | omega | (dsimp only at h ⊢; omega)) (fun b h => by first | exact False.elim h | omega | (dsimp only at h ⊢; omega))
            show sA _ _ _ 237 _ [] _ _
            refine sA_aload_n dd_X9_putImage_237 rfl (.tail _ (.tail _ (.tail _ (.tail _ (.head _))))) ?_
            refine sA_iload dd_X9_putImage_238 (.head _) ?_
            refine sA_callV (y2 := m_X9_put) (n2 := 1) (d2 := 1) (a := 106) (ci := 9) (q := (RX9, TX9, 28)) (as := [gs_iv ((2 * (t - (2 * (F 106 0)))) + 2)]) (rest := []) dd_X9_putImage_240 ok_X9_put ml_X9_160 rfl rfl (by decide) gs_s106 rfl rfl (Nat.le_of_ble_eq_true rfl) (by decide) (c_X9_put I206 (by omega) (by omega)) (fun r209 F210 A211 h212 => ?_)
            obtain ⟨e214, I215, f216, x213⟩ := h212
            subst e214
            have f217 := gs_fr_tr f208 f216 (fun b j h => by first | exact False.elim h | omega | (dsimp only at h ⊢; omega)) (fun b h => by first | exact False.elim h | omega | (dsimp only at h ⊢; omega))
            show sA _ _ _ 243 _ [] _ _
            refine sA_goto (tgt := 376) dd_X9_putImage_243 (by decide) ?_
            refine sA_vret dd_X9_putImage_376 rfl ?_
            exact ⟨rfl, I215, f217, by omega⟩
        · skip
          refine sA_aload_n dd_X9_putImage_204 rfl (.tail _ (.tail _ (.tail _ (.tail _ (.head _))))) ?_
          refine sA_iconst (z := 0) dd_X9_putImage_205 ?_
          refine sA_iload dd_X9_putImage_206 (.head _) ?_
          refine sA_isub dd_X9_putImage_208 ?_
          refine sA_callV (y2 := m_X9_put) (n2 := 1) (d2 := 1) (a := 106) (ci := 9) (q := (RX9, TX9, 28)) (as := [gs_iv (0 - ((2 * (t - (2 * (F 106 0)))) + 2))]) (rest := []) dd_X9_putImage_209 ok_X9_put ml_X9_160 rfl rfl (by decide) gs_s106 rfl rfl (Nat.le_of_ble_eq_true rfl) (by decide) (c_X9_put hI (by omega) (by omega)) (fun r218 F219 A220 h221 => ?_)
          obtain ⟨e223, I224, f225, x222⟩ := h221
          subst e223
          have f226 := gs_fr_tr hf f225 (fun b j h => by first | exact False.elim h | omega | (dsimp only at h ⊢; omega)) (fun b h => by first | exact False.elim h | omega | (dsimp only at h ⊢; omega))
          show sA _ _ _ 212 _ [] _ _
          refine sA_aload_n dd_X9_putImage_212 rfl (.tail _ (.tail _ (.tail _ (.tail _ (.head _))))) ?_
          refine sA_iload dd_X9_putImage_213 (.tail _ (.tail _ (.head _))) ?_
          refine sA_iload_n dd_X9_putImage_215 rfl (.tail _ (.tail _ (.tail _ (.tail _ (.tail _ (.tail _ (.head _))))))) ?_
          refine sA_callV (y2 := m_X9_putC) (n2 := 2) (d2 := 2) (a := 106) (ci := 9) (q := (RX9, TX9, 28)) (as := [gs_iv (t - (2 * (F 106 0))), gs_iv o]) (rest := []) dd_X9_putImage_216 ok_X9_putC ml_X9_163 rfl rfl (by decide) gs_s106 rfl rfl (Nat.le_of_ble_eq_true rfl) (by decide) (c_X9_putC I224 (by omega) (by omega) (by omega)) (fun r227 F228 A229 h230 => ?_)
          obtain ⟨e232, I233, f234, x231⟩ := h230
          subst e232
          have f235 := gs_fr_tr f226 f234 (fun b j h => by first | exact False.elim h | omega | (dsimp only at h ⊢; omega)) (fun b h => by first | exact False.elim h | omega | (dsimp only at h ⊢; omega))
          show sA _ _ _ 219 _ [] _ _
          refine sA_goto (tgt := 376) dd_X9_putImage_219 (by decide) ?_
          refine sA_vret dd_X9_putImage_376 rfl ?_
          exact ⟨rfl, I233, f235, by omega⟩
    · skip
      refine sA_iconst (z := 1) dd_X9_putImage_22 ?_
      refine sA_goto (tgt := 27) dd_X9_putImage_23 (by decide) ?_
      refine sA_istore (lv' := [(5, gs_iv 1), (0, .ref 106), (1, gs_iv t), (2, gs_iv o), (3, gs_iv x), (4, gs_iv b)]) dd_X9_putImage_27 (by decide) rfl ?_
      refine sA_iload_n dd_X9_putImage_29 rfl (.tail _ (.tail _ (.head _))) ?_
      refine sA_iload dd_X9_putImage_30 (.head _) ?_
      refine sA_aload_n dd_X9_putImage_32 rfl (.tail _ (.head _)) ?_
      refine sA_geti (ci := 9) (j := 0) (q := (RX9, TX9, 28)) dd_X9_putImage_33 rfl (by decide) fl_X9_64 (by decide) gs_s106 rfl ?_
      refine sA_imul dd_X9_putImage_36 ?_
      refine sA_isub dd_X9_putImage_37 ?_
      refine sA_istore (lv' := [(6, gs_iv (t - (1 * (F 106 0)))), (5, gs_iv 1), (0, .ref 106), (1, gs_iv t), (2, gs_iv o), (3, gs_iv x), (4, gs_iv b)]) dd_X9_putImage_38 (by decide) rfl ?_
      refine sA_iconst (z := 2) dd_X9_putImage_40 ?_
      refine sA_iload dd_X9_putImage_41 (.head _) ?_
      refine sA_imul dd_X9_putImage_43 ?_
      refine sA_iconst (z := 1) dd_X9_putImage_44 ?_
      refine sA_iadd dd_X9_putImage_45 ?_
      refine sA_istore (lv' := [(7, gs_iv ((2 * (t - (1 * (F 106 0)))) + 1)), (6, gs_iv (t - (1 * (F 106 0)))), (5, gs_iv 1), (0, .ref 106), (1, gs_iv t), (2, gs_iv o), (3, gs_iv x), (4, gs_iv b)]) dd_X9_putImage_46 (by decide) rfl ?_
      refine sA_iconst (z := 2) dd_X9_putImage_48 ?_
      refine sA_iload dd_X9_putImage_49 (.tail _ (.head _)) ?_
      refine sA_imul dd_X9_putImage_51 ?_
      refine sA_iconst (z := 2) dd_X9_putImage_52 ?_
      refine sA_iadd dd_X9_putImage_53 ?_
      refine sA_istore (lv' := [(8, gs_iv ((2 * (t - (1 * (F 106 0)))) + 2)), (7, gs_iv ((2 * (t - (1 * (F 106 0)))) + 1)), (6, gs_iv (t - (1 * (F 106 0)))), (5, gs_iv 1), (0, .ref 106), (1, gs_iv t), (2, gs_iv o), (3, gs_iv x), (4, gs_iv b)]) dd_X9_putImage_54 (by decide) rfl ?_
      refine sA_iload dd_X9_putImage_56 (.tail _ (.tail _ (.tail _ (.head _)))) ?_
      refine sA_if_ne (tgt := 121) dd_X9_putImage_58 (by decide) (by omega) (fun q236 => ?_) (fun q236 => absurd q236 (by omega))
      refine sA_iload dd_X9_putImage_121 (.tail _ (.tail _ (.tail _ (.head _)))) ?_
      refine sA_iconst (z := 1) dd_X9_putImage_123 ?_
      refine sA_icmp_ne (tgt := 187) dd_X9_putImage_124 (by decide) (by omega) (by omega) (fun q237 => absurd q237 (by omega)) (fun q237 => ?_)
      refine sA_iload_n dd_X9_putImage_127 rfl (.tail _ (.tail _ (.tail _ (.tail _ (.tail _ (.tail _ (.tail _ (.head _)))))))) ?_
      refine sA_iload dd_X9_putImage_128 (.tail _ (.head _)) ?_
      refine sA_icmp_ne (tgt := 187) dd_X9_putImage_130 (by decide) (by omega) (by omega) (fun q238 => ?_) (fun q238 => ?_)
      · skip
        refine sA_iload dd_X9_putImage_187 (.tail _ (.tail _ (.tail _ (.head _)))) ?_
        refine sA_iconst (z := 2) dd_X9_putImage_189 ?_
        refine sA_icmp_ne (tgt := 246) dd_X9_putImage_190 (by decide) (by omega) (by omega) (fun q239 => ?_) (fun q239 => absurd q239 (by omega))
        refine sA_iload dd_X9_putImage_246 (.tail _ (.tail _ (.tail _ (.head _)))) ?_
        refine sA_iconst (z := 2) dd_X9_putImage_248 ?_
        refine sA_icmp_ne (tgt := 301) dd_X9_putImage_249 (by decide) (by omega) (by omega) (fun q240 => ?_) (fun q240 => absurd q240 (by omega))
        refine sA_iload dd_X9_putImage_301 (.tail _ (.tail _ (.tail _ (.head _)))) ?_
        refine sA_iconst (z := 2) dd_X9_putImage_303 ?_
        refine sA_icmp_ne (tgt := 360) dd_X9_putImage_304 (by decide) (by omega) (by omega) (fun q241 => ?_) (fun q241 => absurd q241 (by omega))
        refine sA_aload_n dd_X9_putImage_360 rfl (.tail _ (.tail _ (.tail _ (.tail _ (.head _))))) ?_
        refine sA_iload dd_X9_putImage_361 (.tail _ (.tail _ (.tail _ (.tail _ (.tail _ (.tail _ (.tail _ (.tail _ (.head _))))))))) ?_
        refine sA_if_eq (tgt := 372) dd_X9_putImage_363 (by decide) (by omega) (fun q242 => ?_) (fun q242 => ?_)
        · skip
          refine sA_iload_n dd_X9_putImage_372 rfl (.tail _ (.tail _ (.tail _ (.tail _ (.tail _ (.tail _ (.tail _ (.head _)))))))) ?_
          refine sA_callV (y2 := m_X9_put) (n2 := 1) (d2 := 1) (a := 106) (ci := 9) (q := (RX9, TX9, 28)) (as := [gs_iv x]) (rest := []) dd_X9_putImage_373 ok_X9_put ml_X9_160 rfl rfl (by decide) gs_s106 rfl rfl (Nat.le_of_ble_eq_true rfl) (by decide) (c_X9_put hI (by omega) (by omega)) (fun r243 F244 A245 h246 => ?_)
          obtain ⟨e248, I249, f250, x247⟩ := h246
          subst e248
          have f251 := gs_fr_tr hf f250 (fun b j h => by first | exact False.elim h | omega | (dsimp only at h ⊢; omega)) (fun b h => by first | exact False.elim h | omega | (dsimp only at h ⊢; omega))
          show sA _ _ _ 376 _ [] _ _
          refine sA_vret dd_X9_putImage_376 rfl ?_
          exact ⟨rfl, I249, f251, by omega⟩
        · skip
          refine sA_iconst (z := 0) dd_X9_putImage_366 ?_
          refine sA_iload_n dd_X9_putImage_367 rfl (.tail _ (.tail _ (.tail _ (.tail _ (.tail _ (.tail _ (.tail _ (.head _)))))))) ?_
          refine sA_isub dd_X9_putImage_368 ?_
          refine sA_goto (tgt := 373) dd_X9_putImage_369 (by decide) ?_
          refine sA_callV (y2 := m_X9_put) (n2 := 1) (d2 := 1) (a := 106) (ci := 9) (q := (RX9, TX9, 28)) (as := [gs_iv (0 - x)]) (rest := []) dd_X9_putImage_373 ok_X9_put ml_X9_160 rfl rfl (by decide) gs_s106 rfl rfl (Nat.le_of_ble_eq_true rfl) (by decide) (c_X9_put hI (by omega) (by omega)) (fun r252 F253 A254 h255 => ?_)
          obtain ⟨e257, I258, f259, x256⟩ := h255
          subst e257
          have f260 := gs_fr_tr hf f259 (fun b j h => by first | exact False.elim h | omega | (dsimp only at h ⊢; omega)) (fun b h => by first | exact False.elim h | omega | (dsimp only at h ⊢; omega))
          show sA _ _ _ 376 _ [] _ _
          refine sA_vret dd_X9_putImage_376 rfl ?_
          exact ⟨rfl, I258, f260, by omega⟩
      · skip
        refine sA_iload_n dd_X9_putImage_133 rfl (.tail _ (.tail _ (.tail _ (.tail _ (.tail _ (.tail _ (.head _))))))) ?_
        refine sA_if_eq (tgt := 142) dd_X9_putImage_134 (by decide) (by omega) (fun q261 => ?_) (fun q261 => ?_)
        · skip
          refine sA_iconst (z := 0) dd_X9_putImage_142 ?_
          refine sA_iload dd_X9_putImage_143 (.head _) ?_
          refine sA_isub dd_X9_putImage_145 ?_
          refine sA_istore (lv' := [(9, gs_iv (0 - ((2 * (t - (1 * (F 106 0)))) + 2))), (8, gs_iv ((2 * (t - (1 * (F 106 0)))) + 2)), (7, gs_iv ((2 * (t - (1 * (F 106 0)))) + 1)), (6, gs_iv (t - (1 * (F 106 0)))), (5, gs_iv 1), (0, .ref 106), (1, gs_iv t), (2, gs_iv o), (3, gs_iv x), (4, gs_iv b)]) dd_X9_putImage_146 (by decide) rfl ?_
          refine sA_aload_n dd_X9_putImage_148 rfl (.tail _ (.tail _ (.tail _ (.tail _ (.tail _ (.head _)))))) ?_
          refine sA_iload dd_X9_putImage_149 (.tail _ (.tail _ (.tail _ (.tail _ (.tail _ (.tail _ (.tail _ (.tail _ (.tail _ (.head _)))))))))) ?_
          refine sA_if_eq (tgt := 161) dd_X9_putImage_151 (by decide) (by omega) (fun q262 => ?_) (fun q262 => ?_)
          · skip
            refine sA_iload dd_X9_putImage_161 (.tail _ (.tail _ (.head _))) ?_
            refine sA_callV (y2 := m_X9_put) (n2 := 1) (d2 := 1) (a := 106) (ci := 9) (q := (RX9, TX9, 28)) (as := [gs_iv ((2 * (t - (1 * (F 106 0)))) + 1)]) (rest := []) dd_X9_putImage_163 ok_X9_put ml_X9_160 rfl rfl (by decide) gs_s106 rfl rfl (Nat.le_of_ble_eq_true rfl) (by decide) (c_X9_put hI (by omega) (by omega)) (fun r263 F264 A265 h266 => ?_)
            obtain ⟨e268, I269, f270, x267⟩ := h266
            subst e268
            have f271 := gs_fr_tr hf f270 (fun b j h => by first | exact False.elim h | omega | (dsimp only at h ⊢; omega)) (fun b h => by first | exact False.elim h | omega | (dsimp only at h ⊢; omega))
            show sA _ _ _ 166 _ [] _ _
            refine sA_aload_n dd_X9_putImage_166 rfl (.tail _ (.tail _ (.tail _ (.tail _ (.tail _ (.head _)))))) ?_
            refine sA_iload dd_X9_putImage_167 (.tail _ (.tail _ (.tail _ (.tail _ (.tail _ (.tail _ (.tail _ (.tail _ (.tail _ (.head _)))))))))) ?_
            refine sA_if_eq (tgt := 179) dd_X9_putImage_169 (by decide) (by omega) (fun q272 => ?_) (fun q272 => absurd q272 (by omega))
            refine sA_iload dd_X9_putImage_179 (.head _) ?_
            refine sA_callV (y2 := m_X9_put) (n2 := 1) (d2 := 1) (a := 106) (ci := 9) (q := (RX9, TX9, 28)) (as := [gs_iv (0 - ((2 * (t - (1 * (F 106 0)))) + 2))]) (rest := []) dd_X9_putImage_181 ok_X9_put ml_X9_160 rfl rfl (by decide) gs_s106 rfl rfl (Nat.le_of_ble_eq_true rfl) (by decide) (c_X9_put I269 (by omega) (by omega)) (fun r273 F274 A275 h276 => ?_)
            obtain ⟨e278, I279, f280, x277⟩ := h276
            subst e278
            have f281 := gs_fr_tr f271 f280 (fun b j h => by first | exact False.elim h | omega | (dsimp only at h ⊢; omega)) (fun b h => by first | exact False.elim h | omega | (dsimp only at h ⊢; omega))
            show sA _ _ _ 184 _ [] _ _
            refine sA_goto (tgt := 376) dd_X9_putImage_184 (by decide) ?_
            refine sA_vret dd_X9_putImage_376 rfl ?_
            exact ⟨rfl, I279, f281, by omega⟩
          · skip
            refine sA_iconst (z := 0) dd_X9_putImage_154 ?_
            refine sA_iload dd_X9_putImage_155 (.head _) ?_
            refine sA_isub dd_X9_putImage_157 ?_
            refine sA_goto (tgt := 163) dd_X9_putImage_158 (by decide) ?_
            refine sA_callV (y2 := m_X9_put) (n2 := 1) (d2 := 1) (a := 106) (ci := 9) (q := (RX9, TX9, 28)) (as := [gs_iv (0 - (0 - ((2 * (t - (1 * (F 106 0)))) + 2)))]) (rest := []) dd_X9_putImage_163 ok_X9_put ml_X9_160 rfl rfl (by decide) gs_s106 rfl rfl (Nat.le_of_ble_eq_true rfl) (by decide) (c_X9_put hI (by omega) (by omega)) (fun r282 F283 A284 h285 => ?_)
            obtain ⟨e287, I288, f289, x286⟩ := h285
            subst e287
            have f290 := gs_fr_tr hf f289 (fun b j h => by first | exact False.elim h | omega | (dsimp only at h ⊢; omega)) (fun b h => by first | exact False.elim h | omega | (dsimp only at h ⊢; omega))
            show sA _ _ _ 166 _ [] _ _
            refine sA_aload_n dd_X9_putImage_166 rfl (.tail _ (.tail _ (.tail _ (.tail _ (.tail _ (.head _)))))) ?_
            refine sA_iload dd_X9_putImage_167 (.tail _ (.tail _ (.tail _ (.tail _ (.tail _ (.tail _ (.tail _ (.tail _ (.tail _ (.head _)))))))))) ?_
            refine sA_if_eq (tgt := 179) dd_X9_putImage_169 (by decide) (by omega) (fun q291 => absurd q291 (by omega)) (fun q291 => ?_)
            refine sA_iconst (z := 0) dd_X9_putImage_172 ?_
            refine sA_iload dd_X9_putImage_173 (.tail _ (.tail _ (.head _))) ?_
            refine sA_isub dd_X9_putImage_175 ?_
            refine sA_goto (tgt := 181) dd_X9_putImage_176 (by decide) ?_
            refine sA_callV (y2 := m_X9_put) (n2 := 1) (d2 := 1) (a := 106) (ci := 9) (q := (RX9, TX9, 28)) (as := [gs_iv (0 - ((2 * (t - (1 * (F 106 0)))) + 1))]) (rest := []) dd_X9_putImage_181 ok_X9_put ml_X9_160 rfl rfl (by decide) gs_s106 rfl rfl (Nat.le_of_ble_eq_true rfl) (by decide) (c_X9_put I288 (by omega) (by omega)) (fun r292 F293 A294 h295 => ?_)
            obtain ⟨e297, I298, f299, x296⟩ := h295
            subst e297
            have f300 := gs_fr_tr f290 f299 (fun b j h => by first | exact False.elim h | omega | (dsimp only at h ⊢; omega)) (fun b h => by first | exact False.elim h | omega | (dsimp only at h ⊢; omega))
            show sA _ _ _ 184 _ [] _ _
            refine sA_goto (tgt := 376) dd_X9_putImage_184 (by decide) ?_
            refine sA_vret dd_X9_putImage_376 rfl ?_
            exact ⟨rfl, I298, f300, by omega⟩
        · skip
          refine sA_iload dd_X9_putImage_137 (.head _) ?_
          refine sA_goto (tgt := 146) dd_X9_putImage_139 (by decide) ?_
          refine sA_istore (lv' := [(9, gs_iv ((2 * (t - (1 * (F 106 0)))) + 2)), (8, gs_iv ((2 * (t - (1 * (F 106 0)))) + 2)), (7, gs_iv ((2 * (t - (1 * (F 106 0)))) + 1)), (6, gs_iv (t - (1 * (F 106 0)))), (5, gs_iv 1), (0, .ref 106), (1, gs_iv t), (2, gs_iv o), (3, gs_iv x), (4, gs_iv b)]) dd_X9_putImage_146 (by decide) rfl ?_
          refine sA_aload_n dd_X9_putImage_148 rfl (.tail _ (.tail _ (.tail _ (.tail _ (.tail _ (.head _)))))) ?_
          refine sA_iload dd_X9_putImage_149 (.tail _ (.tail _ (.tail _ (.tail _ (.tail _ (.tail _ (.tail _ (.tail _ (.tail _ (.head _)))))))))) ?_
          refine sA_if_eq (tgt := 161) dd_X9_putImage_151 (by decide) (by omega) (fun q301 => ?_) (fun q301 => ?_)
          · skip
            refine sA_iload dd_X9_putImage_161 (.tail _ (.tail _ (.head _))) ?_
            refine sA_callV (y2 := m_X9_put) (n2 := 1) (d2 := 1) (a := 106) (ci := 9) (q := (RX9, TX9, 28)) (as := [gs_iv ((2 * (t - (1 * (F 106 0)))) + 1)]) (rest := []) dd_X9_putImage_163 ok_X9_put ml_X9_160 rfl rfl (by decide) gs_s106 rfl rfl (Nat.le_of_ble_eq_true rfl) (by decide) (c_X9_put hI (by omega) (by omega)) (fun r302 F303 A304 h305 => ?_)
            obtain ⟨e307, I308, f309, x306⟩ := h305
            subst e307
            have f310 := gs_fr_tr hf f309 (fun b j h => by first | exact False.elim h | omega | (dsimp only at h ⊢; omega)) (fun b h => by first | exact False.elim h | omega | (dsimp only at h ⊢; omega))
            show sA _ _ _ 166 _ [] _ _
            refine sA_aload_n dd_X9_putImage_166 rfl (.tail _ (.tail _ (.tail _ (.tail _ (.tail _ (.head _)))))) ?_
            refine sA_iload dd_X9_putImage_167 (.tail _ (.tail _ (.tail _ (.tail _ (.tail _ (.tail _ (.tail _ (.tail _ (.tail _ (.head _)))))))))) ?_
            refine sA_if_eq (tgt := 179) dd_X9_putImage_169 (by decide) (by omega) (fun q311 => ?_) (fun q311 => absurd q311 (by omega))
            refine sA_iload dd_X9_putImage_179 (.head _) ?_
            refine sA_callV (y2 := m_X9_put) (n2 := 1) (d2 := 1) (a := 106) (ci := 9) (q := (RX9, TX9, 28)) (as := [gs_iv ((2 * (t - (1 * (F 106 0)))) + 2)]) (rest := []) dd_X9_putImage_181 ok_X9_put ml_X9_160 rfl rfl (by decide) gs_s106 rfl rfl (Nat.le_of_ble_eq_true rfl) (by decide) (c_X9_put I308 (by omega) (by omega)) (fun r312 F313 A314 h315 => ?_)
            obtain ⟨e317, I318, f319, x316⟩ := h315
            subst e317
            have f320 := gs_fr_tr f310 f319 (fun b j h => by first | exact False.elim h | omega | (dsimp only at h ⊢; omega)) (fun b h => by first | exact False.elim h | omega | (dsimp only at h ⊢; omega))
            show sA _ _ _ 184 _ [] _ _
            refine sA_goto (tgt := 376) dd_X9_putImage_184 (by decide) ?_
            refine sA_vret dd_X9_putImage_376 rfl ?_
            exact ⟨rfl, I318, f320, by omega⟩
          · skip
            refine sA_iconst (z := 0) dd_X9_putImage_154 ?_
            refine sA_iload dd_X9_putImage_155 (.head _) ?_
            refine sA_isub dd_X9_putImage_157 ?_
            refine sA_goto (tgt := 163) dd_X9_putImage_158 (by decide) ?_
            refine sA_callV (y2 := m_X9_put) (n2 := 1) (d2 := 1) (a := 106) (ci := 9) (q := (RX9, TX9, 28)) (as := [gs_iv (0 - ((2 * (t - (1 * (F 106 0)))) + 2))]) (rest := []) dd_X9_putImage_163 ok_X9_put ml_X9_160 rfl rfl (by decide) gs_s106 rfl rfl (Nat.le_of_ble_eq_true rfl) (by decide) (c_X9_put hI (by omega) (by omega)) (fun r321 F322 A323 h324 => ?_)
            obtain ⟨e326, I327, f328, x325⟩ := h324
            subst e326
            have f329 := gs_fr_tr hf f328 (fun b j h => by first | exact False.elim h | omega | (dsimp only at h ⊢; omega)) (fun b h => by first | exact False.elim h | omega | (dsimp only at h ⊢; omega))
            show sA _ _ _ 166 _ [] _ _
            refine sA_aload_n dd_X9_putImage_166 rfl (.tail _ (.tail _ (.tail _ (.tail _ (.tail _ (.head _)))))) ?_
            refine sA_iload dd_X9_putImage_167 (.tail _ (.tail _ (.tail _ (.tail _ (.tail _ (.tail _ (.tail _ (.tail _ (.tail _ (.head _)))))))))) ?_
            refine sA_if_eq (tgt := 179) dd_X9_putImage_169 (by decide) (by omega) (fun q330 => absurd q330 (by omega)) (fun q330 => ?_)
            refine sA_iconst (z := 0) dd_X9_putImage_172 ?_
            refine sA_iload dd_X9_putImage_173 (.tail _ (.tail _ (.head _))) ?_
            refine sA_isub dd_X9_putImage_175 ?_
            refine sA_goto (tgt := 181) dd_X9_putImage_176 (by decide) ?_
            refine sA_callV (y2 := m_X9_put) (n2 := 1) (d2 := 1) (a := 106) (ci := 9) (q := (RX9, TX9, 28)) (as := [gs_iv (0 - ((2 * (t - (1 * (F 106 0)))) + 1))]) (rest := []) dd_X9_putImage_181 ok_X9_put ml_X9_160 rfl rfl (by decide) gs_s106 rfl rfl (Nat.le_of_ble_eq_true rfl) (by decide) (c_X9_put I327 (by omega) (by omega)) (fun r331 F332 A333 h334 => ?_)
            obtain ⟨e336, I337, f338, x335⟩ := h334
            subst e336
            have f339 := gs_fr_tr f329 f338 (fun b j h => by first | exact False.elim h | omega | (dsimp only at h ⊢; omega)) (fun b h => by first | exact False.elim h | omega | (dsimp only at h ⊢; omega))
            show sA _ _ _ 184 _ [] _ _
            refine sA_goto (tgt := 376) dd_X9_putImage_184 (by decide) ?_
            refine sA_vret dd_X9_putImage_376 rfl ?_
            exact ⟨rfl, I337, f339, by omega⟩
  · skip
    refine sA_iconst (z := 0) dd_X9_putImage_8 ?_
    refine sA_goto (tgt := 27) dd_X9_putImage_9 (by decide) ?_
    refine sA_istore (lv' := [(5, gs_iv 0), (0, .ref 106), (1, gs_iv t), (2, gs_iv o), (3, gs_iv x), (4, gs_iv b)]) dd_X9_putImage_27 (by decide) rfl ?_
    refine sA_iload_n dd_X9_putImage_29 rfl (.tail _ (.tail _ (.head _))) ?_
    refine sA_iload dd_X9_putImage_30 (.head _) ?_
    refine sA_aload_n dd_X9_putImage_32 rfl (.tail _ (.head _)) ?_
    refine sA_geti (ci := 9) (j := 0) (q := (RX9, TX9, 28)) dd_X9_putImage_33 rfl (by decide) fl_X9_64 (by decide) gs_s106 rfl ?_
    refine sA_imul dd_X9_putImage_36 ?_
    refine sA_isub dd_X9_putImage_37 ?_
    refine sA_istore (lv' := [(6, gs_iv (t - (0 * (F 106 0)))), (5, gs_iv 0), (0, .ref 106), (1, gs_iv t), (2, gs_iv o), (3, gs_iv x), (4, gs_iv b)]) dd_X9_putImage_38 (by decide) rfl ?_
    refine sA_iconst (z := 2) dd_X9_putImage_40 ?_
    refine sA_iload dd_X9_putImage_41 (.head _) ?_
    refine sA_imul dd_X9_putImage_43 ?_
    refine sA_iconst (z := 1) dd_X9_putImage_44 ?_
    refine sA_iadd dd_X9_putImage_45 ?_
    refine sA_istore (lv' := [(7, gs_iv ((2 * (t - (0 * (F 106 0)))) + 1)), (6, gs_iv (t - (0 * (F 106 0)))), (5, gs_iv 0), (0, .ref 106), (1, gs_iv t), (2, gs_iv o), (3, gs_iv x), (4, gs_iv b)]) dd_X9_putImage_46 (by decide) rfl ?_
    refine sA_iconst (z := 2) dd_X9_putImage_48 ?_
    refine sA_iload dd_X9_putImage_49 (.tail _ (.head _)) ?_
    refine sA_imul dd_X9_putImage_51 ?_
    refine sA_iconst (z := 2) dd_X9_putImage_52 ?_
    refine sA_iadd dd_X9_putImage_53 ?_
    refine sA_istore (lv' := [(8, gs_iv ((2 * (t - (0 * (F 106 0)))) + 2)), (7, gs_iv ((2 * (t - (0 * (F 106 0)))) + 1)), (6, gs_iv (t - (0 * (F 106 0)))), (5, gs_iv 0), (0, .ref 106), (1, gs_iv t), (2, gs_iv o), (3, gs_iv x), (4, gs_iv b)]) dd_X9_putImage_54 (by decide) rfl ?_
    refine sA_iload dd_X9_putImage_56 (.tail _ (.tail _ (.tail _ (.head _)))) ?_
    refine sA_if_ne (tgt := 121) dd_X9_putImage_58 (by decide) (by omega) (fun q340 => absurd q340 (by omega)) (fun q340 => ?_)
    refine sA_iload_n dd_X9_putImage_61 rfl (.tail _ (.tail _ (.tail _ (.tail _ (.tail _ (.tail _ (.tail _ (.head _)))))))) ?_
    refine sA_iload dd_X9_putImage_62 (.head _) ?_
    refine sA_icmp_ne (tgt := 121) dd_X9_putImage_64 (by decide) (by omega) (by omega) (fun q341 => ?_) (fun q341 => ?_)
    · skip
      refine sA_iload dd_X9_putImage_121 (.tail _ (.tail _ (.tail _ (.head _)))) ?_
      refine sA_iconst (z := 1) dd_X9_putImage_123 ?_
      refine sA_icmp_ne (tgt := 187) dd_X9_putImage_124 (by decide) (by omega) (by omega) (fun q342 => ?_) (fun q342 => absurd q342 (by omega))
      refine sA_iload dd_X9_putImage_187 (.tail _ (.tail _ (.tail _ (.head _)))) ?_
      refine sA_iconst (z := 2) dd_X9_putImage_189 ?_
      refine sA_icmp_ne (tgt := 246) dd_X9_putImage_190 (by decide) (by omega) (by omega) (fun q343 => ?_) (fun q343 => absurd q343 (by omega))
      refine sA_iload dd_X9_putImage_246 (.tail _ (.tail _ (.tail _ (.head _)))) ?_
      refine sA_iconst (z := 2) dd_X9_putImage_248 ?_
      refine sA_icmp_ne (tgt := 301) dd_X9_putImage_249 (by decide) (by omega) (by omega) (fun q344 => ?_) (fun q344 => absurd q344 (by omega))
      refine sA_iload dd_X9_putImage_301 (.tail _ (.tail _ (.tail _ (.head _)))) ?_
      refine sA_iconst (z := 2) dd_X9_putImage_303 ?_
      refine sA_icmp_ne (tgt := 360) dd_X9_putImage_304 (by decide) (by omega) (by omega) (fun q345 => ?_) (fun q345 => absurd q345 (by omega))
      refine sA_aload_n dd_X9_putImage_360 rfl (.tail _ (.tail _ (.tail _ (.tail _ (.head _))))) ?_
      refine sA_iload dd_X9_putImage_361 (.tail _ (.tail _ (.tail _ (.tail _ (.tail _ (.tail _ (.tail _ (.tail _ (.head _))))))))) ?_
      refine sA_if_eq (tgt := 372) dd_X9_putImage_363 (by decide) (by omega) (fun q346 => ?_) (fun q346 => ?_)
      · skip
        refine sA_iload_n dd_X9_putImage_372 rfl (.tail _ (.tail _ (.tail _ (.tail _ (.tail _ (.tail _ (.tail _ (.head _)))))))) ?_
        refine sA_callV (y2 := m_X9_put) (n2 := 1) (d2 := 1) (a := 106) (ci := 9) (q := (RX9, TX9, 28)) (as := [gs_iv x]) (rest := []) dd_X9_putImage_373 ok_X9_put ml_X9_160 rfl rfl (by decide) gs_s106 rfl rfl (Nat.le_of_ble_eq_true rfl) (by decide) (c_X9_put hI (by omega) (by omega)) (fun r347 F348 A349 h350 => ?_)
        obtain ⟨e352, I353, f354, x351⟩ := h350
        subst e352
        have f355 := gs_fr_tr hf f354 (fun b j h => by first | exact False.elim h | omega | (dsimp only at h ⊢; omega)) (fun b h => by first | exact False.elim h | omega | (dsimp only at h ⊢; omega))
        show sA _ _ _ 376 _ [] _ _
        refine sA_vret dd_X9_putImage_376 rfl ?_
        exact ⟨rfl, I353, f355, by omega⟩
      · skip
        refine sA_iconst (z := 0) dd_X9_putImage_366 ?_
        refine sA_iload_n dd_X9_putImage_367 rfl (.tail _ (.tail _ (.tail _ (.tail _ (.tail _ (.tail _ (.tail _ (.head _)))))))) ?_
        refine sA_isub dd_X9_putImage_368 ?_
        refine sA_goto (tgt := 373) dd_X9_putImage_369 (by decide) ?_
        refine sA_callV (y2 := m_X9_put) (n2 := 1) (d2 := 1) (a := 106) (ci := 9) (q := (RX9, TX9, 28)) (as := [gs_iv (0 - x)]) (rest := []) dd_X9_putImage_373 ok_X9_put ml_X9_160 rfl rfl (by decide) gs_s106 rfl rfl (Nat.le_of_ble_eq_true rfl) (by decide) (c_X9_put hI (by omega) (by omega)) (fun r356 F357 A358 h359 => ?_)
        obtain ⟨e361, I362, f363, x360⟩ := h359
        subst e361
        have f364 := gs_fr_tr hf f363 (fun b j h => by first | exact False.elim h | omega | (dsimp only at h ⊢; omega)) (fun b h => by first | exact False.elim h | omega | (dsimp only at h ⊢; omega))
        show sA _ _ _ 376 _ [] _ _
        refine sA_vret dd_X9_putImage_376 rfl ?_
        exact ⟨rfl, I362, f364, by omega⟩
    · skip
      refine sA_iload_n dd_X9_putImage_67 rfl (.tail _ (.tail _ (.tail _ (.tail _ (.tail _ (.tail _ (.head _))))))) ?_
      refine sA_if_eq (tgt := 78) dd_X9_putImage_68 (by decide) (by omega) (fun q365 => ?_) (fun q365 => ?_)
      · skip
        refine sA_iload dd_X9_putImage_78 (.tail _ (.head _)) ?_
        refine sA_istore (lv' := [(9, gs_iv ((2 * (t - (0 * (F 106 0)))) + 1)), (8, gs_iv ((2 * (t - (0 * (F 106 0)))) + 2)), (7, gs_iv ((2 * (t - (0 * (F 106 0)))) + 1)), (6, gs_iv (t - (0 * (F 106 0)))), (5, gs_iv 0), (0, .ref 106), (1, gs_iv t), (2, gs_iv o), (3, gs_iv x), (4, gs_iv b)]) dd_X9_putImage_80 (by decide) rfl ?_
        refine sA_aload_n dd_X9_putImage_82 rfl (.tail _ (.tail _ (.tail _ (.tail _ (.tail _ (.head _)))))) ?_
        refine sA_iload dd_X9_putImage_83 (.tail _ (.tail _ (.tail _ (.tail _ (.tail _ (.tail _ (.tail _ (.tail _ (.tail _ (.head _)))))))))) ?_
        refine sA_if_eq (tgt := 95) dd_X9_putImage_85 (by decide) (by omega) (fun q366 => ?_) (fun q366 => ?_)
        · skip
          refine sA_iload dd_X9_putImage_95 (.tail _ (.head _)) ?_
          refine sA_callV (y2 := m_X9_put) (n2 := 1) (d2 := 1) (a := 106) (ci := 9) (q := (RX9, TX9, 28)) (as := [gs_iv ((2 * (t - (0 * (F 106 0)))) + 2)]) (rest := []) dd_X9_putImage_97 ok_X9_put ml_X9_160 rfl rfl (by decide) gs_s106 rfl rfl (Nat.le_of_ble_eq_true rfl) (by decide) (c_X9_put hI (by omega) (by omega)) (fun r367 F368 A369 h370 => ?_)
          obtain ⟨e372, I373, f374, x371⟩ := h370
          subst e372
          have f375 := gs_fr_tr hf f374 (fun b j h => by first | exact False.elim h | omega | (dsimp only at h ⊢; omega)) (fun b h => by first | exact False.elim h | omega | (dsimp only at h ⊢; omega))
          show sA _ _ _ 100 _ [] _ _
          refine sA_aload_n dd_X9_putImage_100 rfl (.tail _ (.tail _ (.tail _ (.tail _ (.tail _ (.head _)))))) ?_
          refine sA_iload dd_X9_putImage_101 (.tail _ (.tail _ (.tail _ (.tail _ (.tail _ (.tail _ (.tail _ (.tail _ (.tail _ (.head _)))))))))) ?_
          refine sA_if_eq (tgt := 113) dd_X9_putImage_103 (by decide) (by omega) (fun q376 => ?_) (fun q376 => absurd q376 (by omega))
          refine sA_iload dd_X9_putImage_113 (.head _) ?_
          refine sA_callV (y2 := m_X9_put) (n2 := 1) (d2 := 1) (a := 106) (ci := 9) (q := (RX9, TX9, 28)) (as := [gs_iv ((2 * (t - (0 * (F 106 0)))) + 1)]) (rest := []) dd_X9_putImage_115 ok_X9_put ml_X9_160 rfl rfl (by decide) gs_s106 rfl rfl (Nat.le_of_ble_eq_true rfl) (by decide) (c_X9_put I373 (by omega) (by omega)) (fun r377 F378 A379 h380 => ?_)
          obtain ⟨e382, I383, f384, x381⟩ := h380
          subst e382
          have f385 := gs_fr_tr f375 f384 (fun b j h => by first | exact False.elim h | omega | (dsimp only at h ⊢; omega)) (fun b h => by first | exact False.elim h | omega | (dsimp only at h ⊢; omega))
          show sA _ _ _ 118 _ [] _ _
          refine sA_goto (tgt := 376) dd_X9_putImage_118 (by decide) ?_
          refine sA_vret dd_X9_putImage_376 rfl ?_
          exact ⟨rfl, I383, f385, by omega⟩
        · skip
          refine sA_iconst (z := 0) dd_X9_putImage_88 ?_
          refine sA_iload dd_X9_putImage_89 (.head _) ?_
          refine sA_isub dd_X9_putImage_91 ?_
          refine sA_goto (tgt := 97) dd_X9_putImage_92 (by decide) ?_
          refine sA_callV (y2 := m_X9_put) (n2 := 1) (d2 := 1) (a := 106) (ci := 9) (q := (RX9, TX9, 28)) (as := [gs_iv (0 - ((2 * (t - (0 * (F 106 0)))) + 1))]) (rest := []) dd_X9_putImage_97 ok_X9_put ml_X9_160 rfl rfl (by decide) gs_s106 rfl rfl (Nat.le_of_ble_eq_true rfl) (by decide) (c_X9_put hI (by omega) (by omega)) (fun r386 F387 A388 h389 => ?_)
          obtain ⟨e391, I392, f393, x390⟩ := h389
          subst e391
          have f394 := gs_fr_tr hf f393 (fun b j h => by first | exact False.elim h | omega | (dsimp only at h ⊢; omega)) (fun b h => by first | exact False.elim h | omega | (dsimp only at h ⊢; omega))
          show sA _ _ _ 100 _ [] _ _
          refine sA_aload_n dd_X9_putImage_100 rfl (.tail _ (.tail _ (.tail _ (.tail _ (.tail _ (.head _)))))) ?_
          refine sA_iload dd_X9_putImage_101 (.tail _ (.tail _ (.tail _ (.tail _ (.tail _ (.tail _ (.tail _ (.tail _ (.tail _ (.head _)))))))))) ?_
          refine sA_if_eq (tgt := 113) dd_X9_putImage_103 (by decide) (by omega) (fun q395 => absurd q395 (by omega)) (fun q395 => ?_)
          refine sA_iconst (z := 0) dd_X9_putImage_106 ?_
          refine sA_iload dd_X9_putImage_107 (.tail _ (.head _)) ?_
          refine sA_isub dd_X9_putImage_109 ?_
          refine sA_goto (tgt := 115) dd_X9_putImage_110 (by decide) ?_
          refine sA_callV (y2 := m_X9_put) (n2 := 1) (d2 := 1) (a := 106) (ci := 9) (q := (RX9, TX9, 28)) (as := [gs_iv (0 - ((2 * (t - (0 * (F 106 0)))) + 2))]) (rest := []) dd_X9_putImage_115 ok_X9_put ml_X9_160 rfl rfl (by decide) gs_s106 rfl rfl (Nat.le_of_ble_eq_true rfl) (by decide) (c_X9_put I392 (by omega) (by omega)) (fun r396 F397 A398 h399 => ?_)
          obtain ⟨e401, I402, f403, x400⟩ := h399
          subst e401
          have f404 := gs_fr_tr f394 f403 (fun b j h => by first | exact False.elim h | omega | (dsimp only at h ⊢; omega)) (fun b h => by first | exact False.elim h | omega | (dsimp only at h ⊢; omega))
          show sA _ _ _ 118 _ [] _ _
          refine sA_goto (tgt := 376) dd_X9_putImage_118 (by decide) ?_
          refine sA_vret dd_X9_putImage_376 rfl ?_
          exact ⟨rfl, I402, f404, by omega⟩
      · skip
        refine sA_iconst (z := 0) dd_X9_putImage_71 ?_
        refine sA_iload dd_X9_putImage_72 (.tail _ (.head _)) ?_
        refine sA_isub dd_X9_putImage_74 ?_
        refine sA_goto (tgt := 80) dd_X9_putImage_75 (by decide) ?_
        refine sA_istore (lv' := [(9, gs_iv (0 - ((2 * (t - (0 * (F 106 0)))) + 1))), (8, gs_iv ((2 * (t - (0 * (F 106 0)))) + 2)), (7, gs_iv ((2 * (t - (0 * (F 106 0)))) + 1)), (6, gs_iv (t - (0 * (F 106 0)))), (5, gs_iv 0), (0, .ref 106), (1, gs_iv t), (2, gs_iv o), (3, gs_iv x), (4, gs_iv b)]) dd_X9_putImage_80 (by decide) rfl ?_
        refine sA_aload_n dd_X9_putImage_82 rfl (.tail _ (.tail _ (.tail _ (.tail _ (.tail _ (.head _)))))) ?_
        refine sA_iload dd_X9_putImage_83 (.tail _ (.tail _ (.tail _ (.tail _ (.tail _ (.tail _ (.tail _ (.tail _ (.tail _ (.head _)))))))))) ?_
        refine sA_if_eq (tgt := 95) dd_X9_putImage_85 (by decide) (by omega) (fun q405 => ?_) (fun q405 => ?_)
        · skip
          refine sA_iload dd_X9_putImage_95 (.tail _ (.head _)) ?_
          refine sA_callV (y2 := m_X9_put) (n2 := 1) (d2 := 1) (a := 106) (ci := 9) (q := (RX9, TX9, 28)) (as := [gs_iv ((2 * (t - (0 * (F 106 0)))) + 2)]) (rest := []) dd_X9_putImage_97 ok_X9_put ml_X9_160 rfl rfl (by decide) gs_s106 rfl rfl (Nat.le_of_ble_eq_true rfl) (by decide) (c_X9_put hI (by omega) (by omega)) (fun r406 F407 A408 h409 => ?_)
          obtain ⟨e411, I412, f413, x410⟩ := h409
          subst e411
          have f414 := gs_fr_tr hf f413 (fun b j h => by first | exact False.elim h | omega | (dsimp only at h ⊢; omega)) (fun b h => by first | exact False.elim h | omega | (dsimp only at h ⊢; omega))
          show sA _ _ _ 100 _ [] _ _
          refine sA_aload_n dd_X9_putImage_100 rfl (.tail _ (.tail _ (.tail _ (.tail _ (.tail _ (.head _)))))) ?_
          refine sA_iload dd_X9_putImage_101 (.tail _ (.tail _ (.tail _ (.tail _ (.tail _ (.tail _ (.tail _ (.tail _ (.tail _ (.head _)))))))))) ?_
          refine sA_if_eq (tgt := 113) dd_X9_putImage_103 (by decide) (by omega) (fun q415 => ?_) (fun q415 => absurd q415 (by omega))
          refine sA_iload dd_X9_putImage_113 (.head _) ?_
          refine sA_callV (y2 := m_X9_put) (n2 := 1) (d2 := 1) (a := 106) (ci := 9) (q := (RX9, TX9, 28)) (as := [gs_iv (0 - ((2 * (t - (0 * (F 106 0)))) + 1))]) (rest := []) dd_X9_putImage_115 ok_X9_put ml_X9_160 rfl rfl (by decide) gs_s106 rfl rfl (Nat.le_of_ble_eq_true rfl) (by decide) (c_X9_put I412 (by omega) (by omega)) (fun r416 F417 A418 h419 => ?_)
          obtain ⟨e421, I422, f423, x420⟩ := h419
          subst e421
          have f424 := gs_fr_tr f414 f423 (fun b j h => by first | exact False.elim h | omega | (dsimp only at h ⊢; omega)) (fun b h => by first | exact False.elim h | omega | (dsimp only at h ⊢; omega))
          show sA _ _ _ 118 _ [] _ _
          refine sA_goto (tgt := 376) dd_X9_putImage_118 (by decide) ?_
          refine sA_vret dd_X9_putImage_376 rfl ?_
          exact ⟨rfl, I422, f424, by omega⟩
        · skip
          refine sA_iconst (z := 0) dd_X9_putImage_88 ?_
          refine sA_iload dd_X9_putImage_89 (.head _) ?_
          refine sA_isub dd_X9_putImage_91 ?_
          refine sA_goto (tgt := 97) dd_X9_putImage_92 (by decide) ?_
          refine sA_callV (y2 := m_X9_put) (n2 := 1) (d2 := 1) (a := 106) (ci := 9) (q := (RX9, TX9, 28)) (as := [gs_iv (0 - (0 - ((2 * (t - (0 * (F 106 0)))) + 1)))]) (rest := []) dd_X9_putImage_97 ok_X9_put ml_X9_160 rfl rfl (by decide) gs_s106 rfl rfl (Nat.le_of_ble_eq_true rfl) (by decide) (c_X9_put hI (by omega) (by omega)) (fun r425 F426 A427 h428 => ?_)
          obtain ⟨e430, I431, f432, x429⟩ := h428
          subst e430
          have f433 := gs_fr_tr hf f432 (fun b j h => by first | exact False.elim h | omega | (dsimp only at h ⊢; omega)) (fun b h => by first | exact False.elim h | omega | (dsimp only at h ⊢; omega))
          show sA _ _ _ 100 _ [] _ _
          refine sA_aload_n dd_X9_putImage_100 rfl (.tail _ (.tail _ (.tail _ (.tail _ (.tail _ (.head _)))))) ?_
          refine sA_iload dd_X9_putImage_101 (.tail _ (.tail _ (.tail _ (.tail _ (.tail _ (.tail _ (.tail _ (.tail _ (.tail _ (.head _)))))))))) ?_
          refine sA_if_eq (tgt := 113) dd_X9_putImage_103 (by decide) (by omega) (fun q434 => absurd q434 (by omega)) (fun q434 => ?_)
          refine sA_iconst (z := 0) dd_X9_putImage_106 ?_
          refine sA_iload dd_X9_putImage_107 (.tail _ (.head _)) ?_
          refine sA_isub dd_X9_putImage_109 ?_
          refine sA_goto (tgt := 115) dd_X9_putImage_110 (by decide) ?_
          refine sA_callV (y2 := m_X9_put) (n2 := 1) (d2 := 1) (a := 106) (ci := 9) (q := (RX9, TX9, 28)) (as := [gs_iv (0 - ((2 * (t - (0 * (F 106 0)))) + 2))]) (rest := []) dd_X9_putImage_115 ok_X9_put ml_X9_160 rfl rfl (by decide) gs_s106 rfl rfl (Nat.le_of_ble_eq_true rfl) (by decide) (c_X9_put I431 (by omega) (by omega)) (fun r435 F436 A437 h438 => ?_)
          obtain ⟨e440, I441, f442, x439⟩ := h438
          subst e440
          have f443 := gs_fr_tr f433 f442 (fun b j h => by first | exact False.elim h | omega | (dsimp only at h ⊢; omega)) (fun b h => by first | exact False.elim h | omega | (dsimp only at h ⊢; omega))
          show sA _ _ _ 118 _ [] _ _
          refine sA_goto (tgt := 376) dd_X9_putImage_118 (by decide) ?_
          refine sA_vret dd_X9_putImage_376 rfl ?_
          exact ⟨rfl, I441, f443, by omega⟩
theorem dd_X9_twistRow_0 : decode cX9_twistRow 0 = .ok (.aload_n 0, 1) := by decide +kernel
theorem dd_X9_twistRow_1 : decode cX9_twistRow 1 = .ok (.iconst 0, 1) := by decide +kernel
theorem dd_X9_twistRow_2 : decode cX9_twistRow 2 = .ok (.putfield 157, 3) := by decide +kernel
theorem dd_X9_twistRow_5 : decode cX9_twistRow 5 = .ok (.iconst 0, 1) := by decide +kernel
theorem dd_X9_twistRow_6 : decode cX9_twistRow 6 = .ok (.istore_n 2, 1) := by decide +kernel
theorem dd_X9_twistRow_7 : decode cX9_twistRow 7 = .ok (.iload_n 2, 1) := by decide +kernel
theorem dd_X9_twistRow_8 : decode cX9_twistRow 8 = .ok (.aload_n 0, 1) := by decide +kernel
theorem dd_X9_twistRow_9 : decode cX9_twistRow 9 = .ok (.getfield 167, 3) := by decide +kernel
theorem dd_X9_twistRow_12 : decode cX9_twistRow 12 = .ok (.if_icmp .ge 55, 3) := by decide +kernel
theorem dd_X9_twistRow_15 : decode cX9_twistRow 15 = .ok (.aload_n 0, 1) := by decide +kernel
theorem dd_X9_twistRow_16 : decode cX9_twistRow 16 = .ok (.getfield 31, 3) := by decide +kernel
theorem dd_X9_twistRow_19 : decode cX9_twistRow 19 = .ok (.iload_n 2, 1) := by decide +kernel
theorem dd_X9_twistRow_20 : decode cX9_twistRow 20 = .ok (.iaload, 1) := by decide +kernel
theorem dd_X9_twistRow_21 : decode cX9_twistRow 21 = .ok (.istore_n 3, 1) := by decide +kernel
theorem dd_X9_twistRow_22 : decode cX9_twistRow 22 = .ok (.aload_n 0, 1) := by decide +kernel
theorem dd_X9_twistRow_23 : decode cX9_twistRow 23 = .ok (.iload_n 1, 1) := by decide +kernel
theorem dd_X9_twistRow_24 : decode cX9_twistRow 24 = .ok (.iconst 2, 1) := by decide +kernel
theorem dd_X9_twistRow_25 : decode cX9_twistRow 25 = .ok (.idiv, 1) := by decide +kernel
theorem dd_X9_twistRow_26 : decode cX9_twistRow 26 = .ok (.iload_n 1, 1) := by decide +kernel
theorem dd_X9_twistRow_27 : decode cX9_twistRow 27 = .ok (.iconst 2, 1) := by decide +kernel
theorem dd_X9_twistRow_28 : decode cX9_twistRow 28 = .ok (.irem, 1) := by decide +kernel
theorem dd_X9_twistRow_29 : decode cX9_twistRow 29 = .ok (.iconst 1, 1) := by decide +kernel
theorem dd_X9_twistRow_30 : decode cX9_twistRow 30 = .ok (.if_icmp .ne 7, 3) := by decide +kernel
theorem dd_X9_twistRow_33 : decode cX9_twistRow 33 = .ok (.iconst 1, 1) := by decide +kernel
theorem dd_X9_twistRow_34 : decode cX9_twistRow 34 = .ok (.goto 4, 3) := by decide +kernel
theorem dd_X9_twistRow_37 : decode cX9_twistRow 37 = .ok (.iconst 0, 1) := by decide +kernel
theorem dd_X9_twistRow_38 : decode cX9_twistRow 38 = .ok (.iload_n 3, 1) := by decide +kernel
theorem dd_X9_twistRow_39 : decode cX9_twistRow 39 = .ok (.ifCond .ge 9, 3) := by decide +kernel
theorem dd_X9_twistRow_42 : decode cX9_twistRow 42 = .ok (.iconst 0, 1) := by decide +kernel
theorem dd_X9_twistRow_43 : decode cX9_twistRow 43 = .ok (.iload_n 3, 1) := by decide +kernel
theorem dd_X9_twistRow_44 : decode cX9_twistRow 44 = .ok (.isub, 1) := by decide +kernel
theorem dd_X9_twistRow_45 : decode cX9_twistRow 45 = .ok (.goto 4, 3) := by decide +kernel
theorem dd_X9_twistRow_48 : decode cX9_twistRow 48 = .ok (.iload_n 3, 1) := by decide +kernel
theorem dd_X9_twistRow_49 : decode cX9_twistRow 49 = .ok (.iload_n 3, 1) := by decide +kernel
theorem dd_X9_twistRow_50 : decode cX9_twistRow 50 = .ok (.ifCond .ge 7, 3) := by decide +kernel
theorem dd_X9_twistRow_53 : decode cX9_twistRow 53 = .ok (.iconst 1, 1) := by decide +kernel
theorem dd_X9_twistRow_54 : decode cX9_twistRow 54 = .ok (.goto 4, 3) := by decide +kernel
theorem dd_X9_twistRow_57 : decode cX9_twistRow 57 = .ok (.iconst 0, 1) := by decide +kernel
theorem dd_X9_twistRow_58 : decode cX9_twistRow 58 = .ok (.invokevirtual 170, 3) := by decide +kernel
theorem dd_X9_twistRow_61 : decode cX9_twistRow 61 = .ok (.iinc 2 1, 3) := by decide +kernel
theorem dd_X9_twistRow_64 : decode cX9_twistRow 64 = .ok (.goto (-57), 3) := by decide +kernel
theorem dd_X9_twistRow_67 : decode cX9_twistRow 67 = .ok (.aload_n 0, 1) := by decide +kernel
theorem dd_X9_twistRow_68 : decode cX9_twistRow 68 = .ok (.getfield 157, 3) := by decide +kernel
theorem dd_X9_twistRow_71 : decode cX9_twistRow 71 = .ok (.sipush 400, 3) := by decide +kernel
theorem dd_X9_twistRow_74 : decode cX9_twistRow 74 = .ok (.if_icmp .le 5, 3) := by decide +kernel
theorem dd_X9_twistRow_77 : decode cX9_twistRow 77 = .ok (.iconst 0, 1) := by decide +kernel
theorem dd_X9_twistRow_78 : decode cX9_twistRow 78 = .ok (.ireturn, 1) := by decide +kernel
theorem dd_X9_twistRow_79 : decode cX9_twistRow 79 = .ok (.aload_n 0, 1) := by decide +kernel
theorem dd_X9_twistRow_80 : decode cX9_twistRow 80 = .ok (.aload_n 0, 1) := by decide +kernel
theorem dd_X9_twistRow_81 : decode cX9_twistRow 81 = .ok (.getfield 157, 3) := by decide +kernel
theorem dd_X9_twistRow_84 : decode cX9_twistRow 84 = .ok (.putfield 167, 3) := by decide +kernel
theorem dd_X9_twistRow_87 : decode cX9_twistRow 87 = .ok (.iconst 0, 1) := by decide +kernel
theorem dd_X9_twistRow_88 : decode cX9_twistRow 88 = .ok (.istore_n 2, 1) := by decide +kernel
theorem dd_X9_twistRow_89 : decode cX9_twistRow 89 = .ok (.iload_n 2, 1) := by decide +kernel
theorem dd_X9_twistRow_90 : decode cX9_twistRow 90 = .ok (.aload_n 0, 1) := by decide +kernel
theorem dd_X9_twistRow_91 : decode cX9_twistRow 91 = .ok (.getfield 157, 3) := by decide +kernel
theorem dd_X9_twistRow_94 : decode cX9_twistRow 94 = .ok (.if_icmp .ge 21, 3) := by decide +kernel
theorem dd_X9_twistRow_97 : decode cX9_twistRow 97 = .ok (.aload_n 0, 1) := by decide +kernel
theorem dd_X9_twistRow_98 : decode cX9_twistRow 98 = .ok (.getfield 31, 3) := by decide +kernel
theorem dd_X9_twistRow_101 : decode cX9_twistRow 101 = .ok (.iload_n 2, 1) := by decide +kernel
theorem dd_X9_twistRow_102 : decode cX9_twistRow 102 = .ok (.aload_n 0, 1) := by decide +kernel
theorem dd_X9_twistRow_103 : decode cX9_twistRow 103 = .ok (.getfield 34, 3) := by decide +kernel
theorem dd_X9_twistRow_106 : decode cX9_twistRow 106 = .ok (.iload_n 2, 1) := by decide +kernel
theorem dd_X9_twistRow_107 : decode cX9_twistRow 107 = .ok (.iaload, 1) := by decide +kernel
theorem dd_X9_twistRow_108 : decode cX9_twistRow 108 = .ok (.iastore, 1) := by decide +kernel
theorem dd_X9_twistRow_109 : decode cX9_twistRow 109 = .ok (.iinc 2 1, 3) := by decide +kernel
theorem dd_X9_twistRow_112 : decode cX9_twistRow 112 = .ok (.goto (-23), 3) := by decide +kernel
theorem dd_X9_twistRow_115 : decode cX9_twistRow 115 = .ok (.iconst 1, 1) := by decide +kernel
theorem dd_X9_twistRow_116 : decode cX9_twistRow 116 = .ok (.ireturn, 1) := by decide +kernel
theorem ml_X9_170 : Cond.methodLink RX9 170 m_X9_putImage.1 ∈ am_tbl := ri_lw_in (pl := 1060) (by decide +kernel)
theorem ok_X9_twistRow : am_okM m_X9_twistRow 1 ∧ Cond.instanceMethod m_X9_twistRow.1 ∈ am_tbl ∧ Cond.selects m_X9_twistRow.1.cls m_X9_twistRow.1 m_X9_twistRow.1 ∈ am_tbl := ri_mk1 1059 93 1058 57 (by decide +kernel)
theorem k_X9_twistRow {u : Int} {F A : gs_F} (hI : gs_I F A) (hu : -2147483648 ≤ u ∧ u ≤ 2147483647) : ∀ nN : Nat, (∀ (k : Int)  (F1 A1 : gs_F), gs_I F1 A1 → gs_fr (fun c j => c = 106 ∧ (j = 13 ∨ j = 15)) (fun c => c = 114 ∨ c = 115) F A F1 A1 → 0 ≤ k ∧ k ≤ F1 106 13 → 0 ≤ F1 106 15 ∧ F1 106 15 ≤ 9 * k → F1 106 13 - k + 1000 < (nN : Int) → sA m_X9_twistRow 4 (fun rv F' A' => ∃ z : Int, rv = some (gs_iv z) ∧ gs_I F' A' ∧ gs_fr (fun c j => c = 106 ∧ (j = 13 ∨ j = 15)) (fun c => c = 114 ∨ c = 115) F A F' A' ∧ (z = 0 ∨ z = 1)) 7 [(2, gs_iv k), (0, .ref 106), (1, gs_iv u)] [] F1 A1) ∧ (∀ (k : Int)  (F1 A1 : gs_F), gs_I F1 A1 → gs_fr (fun c j => c = 106 ∧ (j = 13 ∨ j = 15)) (fun c => c = 114 ∨ c = 115) F A F1 A1 → 0 ≤ k ∧ k ≤ F1 106 15 → F1 106 15 ≤ 400 → F1 106 15 - k < (nN : Int) → sA m_X9_twistRow 4 (fun rv F' A' => ∃ z : Int, rv = some (gs_iv z) ∧ gs_I F' A' ∧ gs_fr (fun c j => c = 106 ∧ (j = 13 ∨ j = 15)) (fun c => c = 114 ∨ c = 115) F A F' A' ∧ (z = 0 ∨ z = 1)) 89 [(2, gs_iv k), (0, .ref 106)] [] F1 A1) := by
  intro nN
  induction nN with
  | zero =>
    exact ⟨fun a0 a1 a2 a3 a4 i0 i1 hm => by exfalso; omega, fun a0 a1 a2 a3 a4 i0 i1 hm => by exfalso; omega⟩
  | succ nN ih =>
    refine ⟨?_, ?_⟩
    · skip
      intro k F1 A1 hI1 hf1 i0 i1 hm
      have b1 : (0 : Int) ≤ F1 106 13 ∧ F1 106 13 ≤ 400 := hI1.1 106 13
      have b2 : (0 : Int) ≤ F1 106 15 ∧ F1 106 15 ≤ 3700 := hI1.1 106 15
      refine sA_iload_n dd_X9_twistRow_7 rfl (.head _) ?_
      refine sA_aload_n dd_X9_twistRow_8 rfl (.tail _ (.head _)) ?_
      refine sA_geti (ci := 9) (j := 13) (q := (RX9, TX9, 28)) dd_X9_twistRow_9 rfl (by decide) fl_X9_167 (by decide) gs_s106 rfl ?_
      refine sA_icmp_ge (tgt := 67) dd_X9_twistRow_12 (by decide) (by omega) (by omega) (fun q3 => ?_) (fun q3 => ?_)
      · skip
        refine sA_aload_n dd_X9_twistRow_67 rfl (.tail _ (.head _)) ?_
        refine sA_geti (ci := 9) (j := 15) (q := (RX9, TX9, 28)) dd_X9_twistRow_68 rfl (by decide) fl_X9_157 (by decide) gs_s106 rfl ?_
        refine sA_sipush (z := 400) dd_X9_twistRow_71 (by decide) ?_
        refine sA_icmp_le (tgt := 79) dd_X9_twistRow_74 (by decide) (by omega) (by omega) (fun q4 => ?_) (fun q4 => ?_)
        · skip
          refine sA_aload_n dd_X9_twistRow_79 rfl (.tail _ (.head _)) ?_
          refine sA_aload_n dd_X9_twistRow_80 rfl (.tail _ (.head _)) ?_
          refine sA_geti (ci := 9) (j := 15) (q := (RX9, TX9, 28)) dd_X9_twistRow_81 rfl (by decide) fl_X9_157 (by decide) gs_s106 rfl ?_
          refine sA_put (ci := 9) (j := 13) (q := (RX9, TX9, 28)) (ty := .int) dd_X9_twistRow_84 rfl (by decide) fl_X9_167 rfl (tyX9_ok 13 (by decide)) rfl rfl (by decide) gs_s106 rfl ?_
          have I6 : gs_I (gs_up F1 106 13 (F1 106 15)) A1 := gs_I_put hI1 (show (0 : Int) ≤ F1 106 15 ∧ F1 106 15 ≤ 400 by omega)
          have f7 := gs_fr_put hf1 (a := 106) (z := F1 106 15) (j := 13) (by first | omega | (dsimp only; omega) | (dsimp only))
          have v8 : gs_up F1 106 13 (F1 106 15) 106 13 = F1 106 15 := gs_up_self _ _ _ _
          have v9 : (gs_up F1 106 13 (F1 106 15)) 106 15 = F1 106 15 := gs_up_ne _ _ (by omega)
          generalize gs_up F1 106 13 (F1 106 15) = F5 at I6 f7 v8 v9 ⊢
          refine sA_iconst (z := 0) dd_X9_twistRow_87 ?_
          refine sA_istore_n (lv' := [(2, gs_iv 0), (0, .ref 106), (1, gs_iv u)]) dd_X9_twistRow_88 rfl (by decide) rfl ?_
          have b10 : (0 : Int) ≤ F5 106 13 ∧ F5 106 13 ≤ 400 := I6.1 106 13
          have b11 : (0 : Int) ≤ F5 106 15 ∧ F5 106 15 ≤ 3700 := I6.1 106 15
          refine sA_sub (lv2 := [(2, gs_iv 0), (0, .ref 106)]) (List.forall_mem_cons.mpr ⟨(.head _), (List.forall_mem_cons.mpr ⟨(.tail _ (.head _)), (fun _ h => absurd h List.not_mem_nil)⟩)⟩) ?_
          exact ih.2 0 F5 A1 I6 f7 (by omega) (by omega) (by omega)
        · skip
          refine sA_iconst (z := 0) dd_X9_twistRow_77 ?_
          refine sA_bret (z := 0) dd_X9_twistRow_78 rfl (by omega) ?_
          exact ⟨_, rfl, hI1, hf1, by omega⟩
      · skip
        refine sA_aload_n dd_X9_twistRow_15 rfl (.tail _ (.head _)) ?_
        refine sA_getr (ci := 9) (j := 12) (q := (RX9, TX9, 28)) dd_X9_twistRow_16 rfl (by decide) fl_X9_31 (by decide) gs_s106 rfl ?_
        refine sA_iload_n dd_X9_twistRow_19 rfl (.head _) ?_
        refine sA_iald (n := 401) dd_X9_twistRow_20 (by decide) gs_s114 (by omega) (by decide) ?_
        have b12 : (-9 : Int) ≤ A1 114 k.toNat ∧ A1 114 k.toNat ≤ 9 := hI1.2 114 k.toNat
        refine sA_istore_n (lv' := [(3, gs_iv (A1 114 k.toNat)), (2, gs_iv k), (0, .ref 106), (1, gs_iv u)]) dd_X9_twistRow_21 rfl (by decide) rfl ?_
        refine sA_aload_n dd_X9_twistRow_22 rfl (.tail _ (.tail _ (.head _))) ?_
        refine sA_iload_n dd_X9_twistRow_23 rfl (.tail _ (.tail _ (.tail _ (.head _)))) ?_
        refine sA_iconst (z := 2) dd_X9_twistRow_24 ?_
        have htd := gs_tdiv2b (u) (by omega)
        refine sA_idiv dd_X9_twistRow_25 (by omega) (by omega) (by omega) ?_
        refine sA_iload_n dd_X9_twistRow_26 rfl (.tail _ (.tail _ (.tail _ (.head _)))) ?_
        refine sA_iconst (z := 2) dd_X9_twistRow_27 ?_
        refine sA_irem dd_X9_twistRow_28 (by omega) (by omega) (by omega) ?_
        refine sA_wrap ?_
        have b14 := gs_w_rng (u.tmod 2)
        generalize gs_w (u.tmod 2) = w13 at b14 ⊢
        refine sA_iconst (z := 1) dd_X9_twistRow_29 ?_
        refine sA_icmp_ne (tgt := 37) dd_X9_twistRow_30 (by decide) (by omega) (by omega) (fun q15 => ?_) (fun q15 => ?_)
        · skip
          refine sA_iconst (z := 0) dd_X9_twistRow_37 ?_
          refine sA_iload_n dd_X9_twistRow_38 rfl (.head _) ?_
          refine sA_if_ge (tgt := 48) dd_X9_twistRow_39 (by decide) (by omega) (fun q16 => ?_) (fun q16 => ?_)
          · skip
            refine sA_iload_n dd_X9_twistRow_48 rfl (.head _) ?_
            refine sA_iload_n dd_X9_twistRow_49 rfl (.head _) ?_
            refine sA_if_ge (tgt := 57) dd_X9_twistRow_50 (by decide) (by omega) (fun q17 => ?_) (fun q17 => absurd q17 (by omega))
            refine sA_iconst (z := 0) dd_X9_twistRow_57 ?_
            refine sA_callV (y2 := m_X9_putImage) (n2 := 4) (d2 := 3) (a := 106) (ci := 9) (q := (RX9, TX9, 28)) (as := [gs_iv (u.tdiv 2), gs_iv 0, gs_iv (A1 114 k.toNat), gs_iv 0]) (rest := []) dd_X9_twistRow_58 ok_X9_putImage ml_X9_170 rfl rfl (by decide) gs_s106 rfl rfl (Nat.le_of_ble_eq_true rfl) (by decide) (c_X9_putImage hI1 (by omega) (by omega) (by omega) (by omega) (by omega)) (fun r18 F19 A20 h21 => ?_)
            obtain ⟨e23, I24, f25, x22⟩ := h21
            subst e23
            have v26 : F19 106 13 = F1 106 13 := f25.1 106 13 (by first | exact id | omega | (dsimp only; omega) | (dsimp only))
            have f28 := gs_fr_tr hf1 f25 (fun b j h => by first | exact False.elim h | omega | (dsimp only at h ⊢; omega)) (fun b h => by first | exact False.elim h | omega | (dsimp only at h ⊢; omega))
            show sA _ _ _ 61 _ [] _ _
            refine sA_iinc (lv' := [(2, gs_iv (k + 1)), (3, gs_iv (A1 114 k.toNat)), (0, .ref 106), (1, gs_iv u)]) dd_X9_twistRow_61 (.tail _ (.head _)) (by decide) rfl ?_
            refine sA_goto (tgt := 7) dd_X9_twistRow_64 (by decide) ?_
            have b29 : (0 : Int) ≤ F19 106 13 ∧ F19 106 13 ≤ 400 := I24.1 106 13
            have b30 : (0 : Int) ≤ F19 106 15 ∧ F19 106 15 ≤ 3700 := I24.1 106 15
            refine sA_sub (lv2 := [(2, gs_iv (k + 1)), (0, .ref 106), (1, gs_iv u)]) (List.forall_mem_cons.mpr ⟨(.head _), (List.forall_mem_cons.mpr ⟨(.tail _ (.tail _ (.head _))), (List.forall_mem_cons.mpr ⟨(.tail _ (.tail _ (.tail _ (.head _)))), (fun _ h => absurd h List.not_mem_nil)⟩)⟩)⟩) ?_
            exact ih.1 (k + 1) F19 A20 I24 f28 (by omega) (by omega) (by omega)
          · skip
            refine sA_iconst (z := 0) dd_X9_twistRow_42 ?_
            refine sA_iload_n dd_X9_twistRow_43 rfl (.head _) ?_
            refine sA_isub dd_X9_twistRow_44 ?_
            refine sA_goto (tgt := 49) dd_X9_twistRow_45 (by decide) ?_
            refine sA_iload_n dd_X9_twistRow_49 rfl (.head _) ?_
            refine sA_if_ge (tgt := 57) dd_X9_twistRow_50 (by decide) (by omega) (fun q31 => absurd q31 (by omega)) (fun q31 => ?_)
            refine sA_iconst (z := 1) dd_X9_twistRow_53 ?_
            refine sA_goto (tgt := 58) dd_X9_twistRow_54 (by decide) ?_
            refine sA_callV (y2 := m_X9_putImage) (n2 := 4) (d2 := 3) (a := 106) (ci := 9) (q := (RX9, TX9, 28)) (as := [gs_iv (u.tdiv 2), gs_iv 0, gs_iv (0 - (A1 114 k.toNat)), gs_iv 1]) (rest := []) dd_X9_twistRow_58 ok_X9_putImage ml_X9_170 rfl rfl (by decide) gs_s106 rfl rfl (Nat.le_of_ble_eq_true rfl) (by decide) (c_X9_putImage hI1 (by omega) (by omega) (by omega) (by omega) (by omega)) (fun r32 F33 A34 h35 => ?_)
            obtain ⟨e37, I38, f39, x36⟩ := h35
            subst e37
            have v40 : F33 106 13 = F1 106 13 := f39.1 106 13 (by first | exact id | omega | (dsimp only; omega) | (dsimp only))
            have f42 := gs_fr_tr hf1 f39 (fun b j h => by first | exact False.elim h | omega | (dsimp only at h ⊢; omega)) (fun b h => by first | exact False.elim h | omega | (dsimp only at h ⊢; omega))
            show sA _ _ _ 61 _ [] _ _
            refine sA_iinc (lv' := [(2, gs_iv (k + 1)), (3, gs_iv (A1 114 k.toNat)), (0, .ref 106), (1, gs_iv u)]) dd_X9_twistRow_61 (.tail _ (.head _)) (by decide) rfl ?_
            refine sA_goto (tgt := 7) dd_X9_twistRow_64 (by decide) ?_
            have b43 : (0 : Int) ≤ F33 106 13 ∧ F33 106 13 ≤ 400 := I38.1 106 13
            have b44 : (0 : Int) ≤ F33 106 15 ∧ F33 106 15 ≤ 3700 := I38.1 106 15
            refine sA_sub (lv2 := [(2, gs_iv (k + 1)), (0, .ref 106), (1, gs_iv u)]) (List.forall_mem_cons.mpr ⟨(.head _), (List.forall_mem_cons.mpr ⟨(.tail _ (.tail _ (.head _))), (List.forall_mem_cons.mpr ⟨(.tail _ (.tail _ (.tail _ (.head _)))), (fun _ h => absurd h List.not_mem_nil)⟩)⟩)⟩) ?_
            exact ih.1 (k + 1) F33 A34 I38 f42 (by omega) (by omega) (by omega)
        · skip
          refine sA_iconst (z := 1) dd_X9_twistRow_33 ?_
          refine sA_goto (tgt := 38) dd_X9_twistRow_34 (by decide) ?_
          refine sA_iload_n dd_X9_twistRow_38 rfl (.head _) ?_
          refine sA_if_ge (tgt := 48) dd_X9_twistRow_39 (by decide) (by omega) (fun q45 => ?_) (fun q45 => ?_)
          · skip
            refine sA_iload_n dd_X9_twistRow_48 rfl (.head _) ?_
            refine sA_iload_n dd_X9_twistRow_49 rfl (.head _) ?_
            refine sA_if_ge (tgt := 57) dd_X9_twistRow_50 (by decide) (by omega) (fun q46 => ?_) (fun q46 => absurd q46 (by omega))
            refine sA_iconst (z := 0) dd_X9_twistRow_57 ?_
            refine sA_callV (y2 := m_X9_putImage) (n2 := 4) (d2 := 3) (a := 106) (ci := 9) (q := (RX9, TX9, 28)) (as := [gs_iv (u.tdiv 2), gs_iv 1, gs_iv (A1 114 k.toNat), gs_iv 0]) (rest := []) dd_X9_twistRow_58 ok_X9_putImage ml_X9_170 rfl rfl (by decide) gs_s106 rfl rfl (Nat.le_of_ble_eq_true rfl) (by decide) (c_X9_putImage hI1 (by omega) (by omega) (by omega) (by omega) (by omega)) (fun r47 F48 A49 h50 => ?_)
            obtain ⟨e52, I53, f54, x51⟩ := h50
            subst e52
            have v55 : F48 106 13 = F1 106 13 := f54.1 106 13 (by first | exact id | omega | (dsimp only; omega) | (dsimp only))
            have f57 := gs_fr_tr hf1 f54 (fun b j h => by first | exact False.elim h | omega | (dsimp only at h ⊢; omega)) (fun b h => by first | exact False.elim h | omega | (dsimp only at h ⊢; omega))
            show sA _ _ _ 61 _ [] _ _
            refine sA_iinc (lv' := [(2, gs_iv (k + 1)), (3, gs_iv (A1 114 k.toNat)), (0, .ref 106), (1, gs_iv u)]) dd_X9_twistRow_61 (.tail _ (.head _)) (by decide) rfl ?_
            refine sA_goto (tgt := 7) dd_X9_twistRow_64 (by decide) ?_
            have b58 : (0 : Int) ≤ F48 106 13 ∧ F48 106 13 ≤ 400 := I53.1 106 13
            have b59 : (0 : Int) ≤ F48 106 15 ∧ F48 106 15 ≤ 3700 := I53.1 106 15
            refine sA_sub (lv2 := [(2, gs_iv (k + 1)), (0, .ref 106), (1, gs_iv u)]) (List.forall_mem_cons.mpr ⟨(.head _), (List.forall_mem_cons.mpr ⟨(.tail _ (.tail _ (.head _))), (List.forall_mem_cons.mpr ⟨(.tail _ (.tail _ (.tail _ (.head _)))), (fun _ h => absurd h List.not_mem_nil)⟩)⟩)⟩) ?_
            exact ih.1 (k + 1) F48 A49 I53 f57 (by omega) (by omega) (by omega)
          · skip
            refine sA_iconst (z := 0) dd_X9_twistRow_42 ?_
            refine sA_iload_n dd_X9_twistRow_43 rfl (.head _) ?_
            refine sA_isub dd_X9_twistRow_44 ?_
            refine sA_goto (tgt := 49) dd_X9_twistRow_45 (by decide) ?_
            refine sA_iload_n dd_X9_twistRow_49 rfl (.head _) ?_
            refine sA_if_ge (tgt := 57) dd_X9_twistRow_50 (by decide) (by omega) (fun q60 => absurd q60 (by omega)) (fun q60 => ?_)
            refine sA_iconst (z := 1) dd_X9_twistRow_53 ?_
            refine sA_goto (tgt := 58) dd_X9_twistRow_54 (by decide) ?_
            refine sA_callV (y2 := m_X9_putImage) (n2 := 4) (d2 := 3) (a := 106) (ci := 9) (q := (RX9, TX9, 28)) (as := [gs_iv (u.tdiv 2), gs_iv 1, gs_iv (0 - (A1 114 k.toNat)), gs_iv 1]) (rest := []) dd_X9_twistRow_58 ok_X9_putImage ml_X9_170 rfl rfl (by decide) gs_s106 rfl rfl (Nat.le_of_ble_eq_true rfl) (by decide) (c_X9_putImage hI1 (by omega) (by omega) (by omega) (by omega) (by omega)) (fun r61 F62 A63 h64 => ?_)
            obtain ⟨e66, I67, f68, x65⟩ := h64
            subst e66
            have v69 : F62 106 13 = F1 106 13 := f68.1 106 13 (by first | exact id | omega | (dsimp only; omega) | (dsimp only))
            have f71 := gs_fr_tr hf1 f68 (fun b j h => by first | exact False.elim h | omega | (dsimp only at h ⊢; omega)) (fun b h => by first | exact False.elim h | omega | (dsimp only at h ⊢; omega))
            show sA _ _ _ 61 _ [] _ _
            refine sA_iinc (lv' := [(2, gs_iv (k + 1)), (3, gs_iv (A1 114 k.toNat)), (0, .ref 106), (1, gs_iv u)]) dd_X9_twistRow_61 (.tail _ (.head _)) (by decide) rfl ?_
            refine sA_goto (tgt := 7) dd_X9_twistRow_64 (by decide) ?_
            have b72 : (0 : Int) ≤ F62 106 13 ∧ F62 106 13 ≤ 400 := I67.1 106 13
            have b73 : (0 : Int) ≤ F62 106 15 ∧ F62 106 15 ≤ 3700 := I67.1 106 15
            refine sA_sub (lv2 := [(2, gs_iv (k + 1)), (0, .ref 106), (1, gs_iv u)]) (List.forall_mem_cons.mpr ⟨(.head _), (List.forall_mem_cons.mpr ⟨(.tail _ (.tail _ (.head _))), (List.forall_mem_cons.mpr ⟨(.tail _ (.tail _ (.tail _ (.head _)))), (fun _ h => absurd h List.not_mem_nil)⟩)⟩)⟩) ?_
            exact ih.1 (k + 1) F62 A63 I67 f71 (by omega) (by omega) (by omega)
    · skip
      intro k F1 A1 hI1 hf1 i0 i1 hm
      have b74 : (0 : Int) ≤ F1 106 13 ∧ F1 106 13 ≤ 400 := hI1.1 106 13
      have b75 : (0 : Int) ≤ F1 106 15 ∧ F1 106 15 ≤ 3700 := hI1.1 106 15
      refine sA_iload_n dd_X9_twistRow_89 rfl (.head _) ?_
      refine sA_aload_n dd_X9_twistRow_90 rfl (.tail _ (.head _)) ?_
      refine sA_geti (ci := 9) (j := 15) (q := (RX9, TX9, 28)) dd_X9_twistRow_91 rfl (by decide) fl_X9_157 (by decide) gs_s106 rfl ?_
      refine sA_icmp_ge (tgt := 115) dd_X9_twistRow_94 (by decide) (by omega) (by omega) (fun q76 => ?_) (fun q76 => ?_)
      · skip
        refine sA_iconst (z := 1) dd_X9_twistRow_115 ?_
        refine sA_bret (z := 1) dd_X9_twistRow_116 rfl (by omega) ?_
        exact ⟨_, rfl, hI1, hf1, by omega⟩
      · skip
        refine sA_aload_n dd_X9_twistRow_97 rfl (.tail _ (.head _)) ?_
        refine sA_getr (ci := 9) (j := 12) (q := (RX9, TX9, 28)) dd_X9_twistRow_98 rfl (by decide) fl_X9_31 (by decide) gs_s106 rfl ?_
        refine sA_iload_n dd_X9_twistRow_101 rfl (.head _) ?_
        refine sA_aload_n dd_X9_twistRow_102 rfl (.tail _ (.head _)) ?_
        refine sA_getr (ci := 9) (j := 14) (q := (RX9, TX9, 28)) dd_X9_twistRow_103 rfl (by decide) fl_X9_34 (by decide) gs_s106 rfl ?_
        refine sA_iload_n dd_X9_twistRow_106 rfl (.head _) ?_
        refine sA_iald (n := 3700) dd_X9_twistRow_107 (by decide) gs_s115 (by omega) (by decide) ?_
        have b77 : (-9 : Int) ≤ A1 115 k.toNat ∧ A1 115 k.toNat ≤ 9 := hI1.2 115 k.toNat
        refine sA_iast (n := 401) dd_X9_twistRow_108 (by decide) gs_s114 (by omega) (by decide) ?_
        have I79 : gs_I F1 (gs_up A1 114 k.toNat (A1 115 k.toNat)) := gs_I_ast hI1 (show (-9 : Int) ≤ A1 115 k.toNat ∧ A1 115 k.toNat ≤ 9 by omega)
        have f80 := gs_fr_ast hf1 (a := 114) (z := A1 115 k.toNat) (i := k.toNat) (by first | omega | (dsimp only; omega) | (dsimp only))
        generalize gs_up A1 114 k.toNat (A1 115 k.toNat) = A78 at I79 f80 ⊢
        refine sA_iinc (lv' := [(2, gs_iv (k + 1)), (0, .ref 106)]) dd_X9_twistRow_109 (.head _) (by decide) rfl ?_
        refine sA_goto (tgt := 89) dd_X9_twistRow_112 (by decide) ?_
        refine sA_sub (lv2 := [(2, gs_iv (k + 1)), (0, .ref 106)]) (List.forall_mem_cons.mpr ⟨(.head _), (List.forall_mem_cons.mpr ⟨(.tail _ (.head _)), (fun _ h => absurd h List.not_mem_nil)⟩)⟩) ?_
        exact ih.2 (k + 1) F1 A78 I79 f80 (by omega) (by omega) (by omega)
theorem c_X9_twistRow {u : Int} {F A : gs_F} (hI : gs_I F A) (hu : -2147483648 ≤ u ∧ u ≤ 2147483647) : sC m_X9_twistRow 4 [.ref 106, gs_iv u] F A (fun rv F' A' => ∃ z : Int, rv = some (gs_iv z) ∧ gs_I F' A' ∧ gs_fr (fun c j => c = 106 ∧ (j = 13 ∨ j = 15)) (fun c => c = 114 ∨ c = 115) F A F' A' ∧ (z = 0 ∨ z = 1)) := by
  refine sC_of ok_X9_twistRow.1 (Nat.le_of_ble_eq_true rfl) ?_
  show sA _ _ _ 0 [(0, .ref 106), (1, gs_iv u)] [] F A
  have hf : gs_fr (fun c j => c = 106 ∧ (j = 13 ∨ j = 15)) (fun c => c = 114 ∨ c = 115) F A F A := gs_fr_refl _ _ _ _
  have b81 : (0 : Int) ≤ F 106 13 ∧ F 106 13 ≤ 400 := hI.1 106 13
  have b82 : (0 : Int) ≤ F 106 15 ∧ F 106 15 ≤ 3700 := hI.1 106 15
  refine sA_aload_n dd_X9_twistRow_0 rfl (.head _) ?_
  refine sA_iconst (z := 0) dd_X9_twistRow_1 ?_
  refine sA_put (ci := 9) (j := 15) (q := (RX9, TX9, 28)) (ty := .int) dd_X9_twistRow_2 rfl (by decide) fl_X9_157 rfl (tyX9_ok 15 (by decide)) rfl rfl (by decide) gs_s106 rfl ?_
  have I84 : gs_I (gs_up F 106 15 0) A := gs_I_put hI (show (0 : Int) ≤ 0 ∧ 0 ≤ 3700 by omega)
  have f85 := gs_fr_put hf (a := 106) (z := 0) (j := 15) (by first | omega | (dsimp only; omega) | (dsimp only))
  have v86 : gs_up F 106 15 0 106 15 = 0 := gs_up_self _ _ _ _
  have v87 : (gs_up F 106 15 0) 106 13 = F 106 13 := gs_up_ne _ _ (by omega)
  generalize gs_up F 106 15 0 = F83 at I84 f85 v86 v87 ⊢
  refine sA_iconst (z := 0) dd_X9_twistRow_5 ?_
  refine sA_istore_n (lv' := [(2, gs_iv 0), (0, .ref 106), (1, gs_iv u)]) dd_X9_twistRow_6 rfl (by decide) rfl ?_
  have b88 : (0 : Int) ≤ F83 106 13 ∧ F83 106 13 ≤ 400 := I84.1 106 13
  have b89 : (0 : Int) ≤ F83 106 15 ∧ F83 106 15 ≤ 3700 := I84.1 106 15
  refine sA_sub (lv2 := [(2, gs_iv 0), (0, .ref 106), (1, gs_iv u)]) (List.forall_mem_cons.mpr ⟨(.head _), (List.forall_mem_cons.mpr ⟨(.tail _ (.head _)), (List.forall_mem_cons.mpr ⟨(.tail _ (.tail _ (.head _))), (fun _ h => absurd h List.not_mem_nil)⟩)⟩)⟩) ?_
  exact (k_X9_twistRow hI hu (F83 106 13 - 0 + 1000 : Int).toNat.succ).1 0 F83 A I84 f85 (by omega) (by omega) (by omega)
theorem dd_X9_imageRow_0 : decode cX9_imageRow 0 = .ok (.aload_n 0, 1) := by decide +kernel
theorem dd_X9_imageRow_1 : decode cX9_imageRow 1 = .ok (.getfield 19, 3) := by decide +kernel
theorem dd_X9_imageRow_4 : decode cX9_imageRow 4 = .ok (.iload_n 1, 1) := by decide +kernel
theorem dd_X9_imageRow_5 : decode cX9_imageRow 5 = .ok (.iaload, 1) := by decide +kernel
theorem dd_X9_imageRow_6 : decode cX9_imageRow 6 = .ok (.iconst 1, 1) := by decide +kernel
theorem dd_X9_imageRow_7 : decode cX9_imageRow 7 = .ok (.isub, 1) := by decide +kernel
theorem dd_X9_imageRow_8 : decode cX9_imageRow 8 = .ok (.istore_n 2, 1) := by decide +kernel
theorem dd_X9_imageRow_9 : decode cX9_imageRow 9 = .ok (.iload_n 2, 1) := by decide +kernel
theorem dd_X9_imageRow_10 : decode cX9_imageRow 10 = .ok (.ifCond .lt 29, 3) := by decide +kernel
theorem dd_X9_imageRow_13 : decode cX9_imageRow 13 = .ok (.aload_n 0, 1) := by decide +kernel
theorem dd_X9_imageRow_14 : decode cX9_imageRow 14 = .ok (.aload_n 0, 1) := by decide +kernel
theorem dd_X9_imageRow_15 : decode cX9_imageRow 15 = .ok (.getfield 22, 3) := by decide +kernel
theorem dd_X9_imageRow_18 : decode cX9_imageRow 18 = .ok (.bipush 60, 2) := by decide +kernel
theorem dd_X9_imageRow_20 : decode cX9_imageRow 20 = .ok (.iload_n 1, 1) := by decide +kernel
theorem dd_X9_imageRow_21 : decode cX9_imageRow 21 = .ok (.imul, 1) := by decide +kernel
theorem dd_X9_imageRow_22 : decode cX9_imageRow 22 = .ok (.iload_n 2, 1) := by decide +kernel
theorem dd_X9_imageRow_23 : decode cX9_imageRow 23 = .ok (.iadd, 1) := by decide +kernel
theorem dd_X9_imageRow_24 : decode cX9_imageRow 24 = .ok (.iaload, 1) := by decide +kernel
theorem dd_X9_imageRow_25 : decode cX9_imageRow 25 = .ok (.invokevirtual 174, 3) := by decide +kernel
theorem dd_X9_imageRow_28 : decode cX9_imageRow 28 = .ok (.ifCond .ne 5, 3) := by decide +kernel
theorem dd_X9_imageRow_31 : decode cX9_imageRow 31 = .ok (.iconst 0, 1) := by decide +kernel
theorem dd_X9_imageRow_32 : decode cX9_imageRow 32 = .ok (.ireturn, 1) := by decide +kernel
theorem dd_X9_imageRow_33 : decode cX9_imageRow 33 = .ok (.iinc 2 (-1), 3) := by decide +kernel
theorem dd_X9_imageRow_36 : decode cX9_imageRow 36 = .ok (.goto (-27), 3) := by decide +kernel
theorem dd_X9_imageRow_39 : decode cX9_imageRow 39 = .ok (.iconst 1, 1) := by decide +kernel
theorem dd_X9_imageRow_40 : decode cX9_imageRow 40 = .ok (.ireturn, 1) := by decide +kernel
theorem gs_s111 : gs_sh 111 = .inr (.inl (0, 540)) := rfl
theorem fl_X9_22 : Cond.fieldLink RX9 22 (TX9 7).1 (TX9 7).2.1 (TX9 7).2.2.1 ∈ am_tbl := ri_lw_in (pl := 789) (by decide +kernel)
theorem ml_X9_174 : Cond.methodLink RX9 174 m_X9_twistRow.1 ∈ am_tbl := ri_lw_in (pl := 1056) (by decide +kernel)
theorem ok_X9_imageRow : am_okM m_X9_imageRow 1 ∧ Cond.instanceMethod m_X9_imageRow.1 ∈ am_tbl ∧ Cond.selects m_X9_imageRow.1.cls m_X9_imageRow.1 m_X9_imageRow.1 ∈ am_tbl := ri_mk1 1055 93 1054 56 (by decide +kernel)
theorem k_X9_imageRow {p : Int} {F A : gs_F} (hI : gs_I F A) (hp : 0 ≤ p ∧ p ≤ 8) : ∀ nN : Nat, (∀ (k : Int)  (F1 A1 : gs_F), gs_I F1 A1 → gs_fr (fun c j => c = 106 ∧ (j = 13 ∨ j = 15)) (fun c => c = 114 ∨ c = 115) F A F1 A1 → -1 ≤ k ∧ k ≤ 59 → k + 1 < (nN : Int) → sA m_X9_imageRow 5 (fun rv F' A' => ∃ z : Int, rv = some (gs_iv z) ∧ gs_I F' A' ∧ gs_fr (fun c j => c = 106 ∧ (j = 13 ∨ j = 15)) (fun c => c = 114 ∨ c = 115) F A F' A' ∧ (z = 0 ∨ z = 1)) 9 [(2, gs_iv k), (0, .ref 106), (1, gs_iv p)] [] F1 A1) := by
  intro nN
  induction nN with
  | zero =>
    exact fun a0 a1 a2 a3 a4 i0 hm => by exfalso; omega
  | succ nN ih =>
    intro k F1 A1 hI1 hf1 i0 hm
    refine sA_iload_n dd_X9_imageRow_9 rfl (.head _) ?_
    refine sA_if_lt (tgt := 39) dd_X9_imageRow_10 (by decide) (by omega) (fun q1 => ?_) (fun q1 => ?_)
    · skip
      refine sA_iconst (z := 1) dd_X9_imageRow_39 ?_
      refine sA_bret (z := 1) dd_X9_imageRow_40 rfl (by omega) ?_
      exact ⟨_, rfl, hI1, hf1, by omega⟩
    · skip
      refine sA_aload_n dd_X9_imageRow_13 rfl (.tail _ (.head _)) ?_
      refine sA_aload_n dd_X9_imageRow_14 rfl (.tail _ (.head _)) ?_
      refine sA_getr (ci := 9) (j := 7) (q := (RX9, TX9, 28)) dd_X9_imageRow_15 rfl (by decide) fl_X9_22 (by decide) gs_s106 rfl ?_
      refine sA_bipush (z := 60) dd_X9_imageRow_18 (by decide) ?_
      refine sA_iload_n dd_X9_imageRow_20 rfl (.tail _ (.tail _ (.head _))) ?_
      refine sA_imul dd_X9_imageRow_21 ?_
      refine sA_iload_n dd_X9_imageRow_22 rfl (.head _) ?_
      refine sA_iadd dd_X9_imageRow_23 ?_
      refine sA_iald (n := 540) dd_X9_imageRow_24 (by decide) gs_s111 (by omega) (by decide) ?_
      have b2 : (-2147483648 : Int) ≤ A1 111 ((60 * p) + k).toNat ∧ A1 111 ((60 * p) + k).toNat ≤ 2147483647 := hI1.2 111 ((60 * p) + k).toNat
      refine sA_callV (y2 := m_X9_twistRow) (n2 := 1) (d2 := 4) (a := 106) (ci := 9) (q := (RX9, TX9, 28)) (as := [gs_iv (A1 111 ((60 * p) + k).toNat)]) (rest := []) dd_X9_imageRow_25 ok_X9_twistRow ml_X9_174 rfl rfl (by decide) gs_s106 rfl rfl (Nat.le_of_ble_eq_true rfl) (by decide) (c_X9_twistRow hI1 (by omega)) (fun r3 F4 A5 h6 => ?_)
      obtain ⟨z9, e8, I10, f11, x7⟩ := h6
      subst e8
      have f12 := gs_fr_tr hf1 f11 (fun b j h => by first | exact False.elim h | omega | (dsimp only at h ⊢; omega)) (fun b h => by first | exact False.elim h | omega | (dsimp only at h ⊢; omega))
      show sA _ _ _ 28 _ [gs_iv z9] _ _
      refine sA_if_ne (tgt := 33) dd_X9_imageRow_28 (by decide) (by omega) (fun q13 => ?_) (fun q13 => ?_)
      · skip
        refine sA_iinc (lv' := [(2, gs_iv (k + (-1))), (0, .ref 106), (1, gs_iv p)]) dd_X9_imageRow_33 (.head _) (by decide) rfl ?_
        refine sA_goto (tgt := 9) dd_X9_imageRow_36 (by decide) ?_
        refine sA_sub (lv2 := [(2, gs_iv (k + (-1))), (0, .ref 106), (1, gs_iv p)]) (List.forall_mem_cons.mpr ⟨(.head _), (List.forall_mem_cons.mpr ⟨(.tail _ (.head _)), (List.forall_mem_cons.mpr ⟨(.tail _ (.tail _ (.head _))), (fun _ h => absurd h List.not_mem_nil)⟩)⟩)⟩) ?_
        exact ih (k + (-1)) F4 A5 I10 f12 (by omega) (by omega)
      · skip
        refine sA_iconst (z := 0) dd_X9_imageRow_31 ?_
        refine sA_bret (z := 0) dd_X9_imageRow_32 rfl (by omega) ?_
        exact ⟨_, rfl, I10, f12, by omega⟩
theorem c_X9_imageRow {p : Int} {F A : gs_F} (hI : gs_I F A) (hp : 0 ≤ p ∧ p ≤ 8) : sC m_X9_imageRow 5 [.ref 106, gs_iv p] F A (fun rv F' A' => ∃ z : Int, rv = some (gs_iv z) ∧ gs_I F' A' ∧ gs_fr (fun c j => c = 106 ∧ (j = 13 ∨ j = 15)) (fun c => c = 114 ∨ c = 115) F A F' A' ∧ (z = 0 ∨ z = 1)) := by
  refine sC_of ok_X9_imageRow.1 (Nat.le_of_ble_eq_true rfl) ?_
  show sA _ _ _ 0 [(0, .ref 106), (1, gs_iv p)] [] F A
  have hf : gs_fr (fun c j => c = 106 ∧ (j = 13 ∨ j = 15)) (fun c => c = 114 ∨ c = 115) F A F A := gs_fr_refl _ _ _ _
  refine sA_aload_n dd_X9_imageRow_0 rfl (.head _) ?_
  refine sA_getr (ci := 9) (j := 6) (q := (RX9, TX9, 28)) dd_X9_imageRow_1 rfl (by decide) fl_X9_19 (by decide) gs_s106 rfl ?_
  refine sA_iload_n dd_X9_imageRow_4 rfl (.tail _ (.head _)) ?_
  refine sA_iald (n := 9) dd_X9_imageRow_5 (by decide) gs_s110 (by omega) (by decide) ?_
  have b14 : (0 : Int) ≤ A 110 p.toNat ∧ A 110 p.toNat ≤ 60 := hI.2 110 p.toNat
  refine sA_iconst (z := 1) dd_X9_imageRow_6 ?_
  refine sA_isub dd_X9_imageRow_7 ?_
  refine sA_istore_n (lv' := [(2, gs_iv ((A 110 p.toNat) - 1)), (0, .ref 106), (1, gs_iv p)]) dd_X9_imageRow_8 rfl (by decide) rfl ?_
  refine sA_sub (lv2 := [(2, gs_iv ((A 110 p.toNat) - 1)), (0, .ref 106), (1, gs_iv p)]) (List.forall_mem_cons.mpr ⟨(.head _), (List.forall_mem_cons.mpr ⟨(.tail _ (.head _)), (List.forall_mem_cons.mpr ⟨(.tail _ (.tail _ (.head _))), (fun _ h => absurd h List.not_mem_nil)⟩)⟩)⟩) ?_
  exact (k_X9_imageRow hI hp (((A 110 p.toNat) - 1) + 1 : Int).toNat.succ) ((A 110 p.toNat) - 1) F A hI hf (by omega) (by omega)
theorem dd_X9_takeLetter_0 : decode cX9_takeLetter 0 = .ok (.aload_n 0, 1) := by decide +kernel
theorem dd_X9_takeLetter_1 : decode cX9_takeLetter 1 = .ok (.iconst 1, 1) := by decide +kernel
theorem dd_X9_takeLetter_2 : decode cX9_takeLetter 2 = .ok (.putfield 167, 3) := by decide +kernel
theorem dd_X9_takeLetter_5 : decode cX9_takeLetter 5 = .ok (.aload_n 0, 1) := by decide +kernel
theorem dd_X9_takeLetter_6 : decode cX9_takeLetter 6 = .ok (.getfield 31, 3) := by decide +kernel
theorem dd_X9_takeLetter_9 : decode cX9_takeLetter 9 = .ok (.iconst 0, 1) := by decide +kernel
theorem dd_X9_takeLetter_10 : decode cX9_takeLetter 10 = .ok (.iload_n 1, 1) := by decide +kernel
theorem dd_X9_takeLetter_11 : decode cX9_takeLetter 11 = .ok (.iastore, 1) := by decide +kernel
theorem dd_X9_takeLetter_12 : decode cX9_takeLetter 12 = .ok (.return_, 1) := by decide +kernel
theorem ok_X9_takeLetter : am_okM m_X9_takeLetter 1 ∧ Cond.instanceMethod m_X9_takeLetter.1 ∈ am_tbl ∧ Cond.selects m_X9_takeLetter.1.cls m_X9_takeLetter.1 m_X9_takeLetter.1 ∈ am_tbl := ri_mk1 1051 93 1050 55 (by decide +kernel)
theorem c_X9_takeLetter {x : Int} {F A : gs_F} (hI : gs_I F A) (hx : -6 ≤ x ∧ x ≤ 6) : sC m_X9_takeLetter 1 [.ref 106, gs_iv x] F A (fun rv F' A' => rv = none ∧ gs_I F' A' ∧ gs_fr (fun c j => c = 106 ∧ j = 13) (fun c => c = 114) F A F' A' ∧ (F' 106 13 = 1)) := by
  refine sC_of ok_X9_takeLetter.1 (Nat.le_of_ble_eq_true rfl) ?_
  show sA _ _ _ 0 [(0, .ref 106), (1, gs_iv x)] [] F A
  have hf : gs_fr (fun c j => c = 106 ∧ j = 13) (fun c => c = 114) F A F A := gs_fr_refl _ _ _ _
  refine sA_aload_n dd_X9_takeLetter_0 rfl (.head _) ?_
  refine sA_iconst (z := 1) dd_X9_takeLetter_1 ?_
  refine sA_put (ci := 9) (j := 13) (q := (RX9, TX9, 28)) (ty := .int) dd_X9_takeLetter_2 rfl (by decide) fl_X9_167 rfl (tyX9_ok 13 (by decide)) rfl rfl (by decide) gs_s106 rfl ?_
  have I2 : gs_I (gs_up F 106 13 1) A := gs_I_put hI (show (0 : Int) ≤ 1 ∧ 1 ≤ 400 by omega)
  have f3 := gs_fr_put hf (a := 106) (z := 1) (j := 13) (by first | omega | (dsimp only; omega) | (dsimp only))
  have v4 : gs_up F 106 13 1 106 13 = 1 := gs_up_self _ _ _ _
  generalize gs_up F 106 13 1 = F1 at I2 f3 v4 ⊢
  refine sA_aload_n dd_X9_takeLetter_5 rfl (.head _) ?_
  refine sA_getr (ci := 9) (j := 12) (q := (RX9, TX9, 28)) dd_X9_takeLetter_6 rfl (by decide) fl_X9_31 (by decide) gs_s106 rfl ?_
  refine sA_iconst (z := 0) dd_X9_takeLetter_9 ?_
  refine sA_iload_n dd_X9_takeLetter_10 rfl (.tail _ (.head _)) ?_
  refine sA_iast (n := 401) dd_X9_takeLetter_11 (by decide) gs_s114 (by omega) (by decide) ?_
  have I6 : gs_I F1 (gs_up A 114 ((0 : Int).toNat) x) := gs_I_ast I2 (show (-9 : Int) ≤ x ∧ x ≤ 9 by omega)
  have f7 := gs_fr_ast f3 (a := 114) (z := x) (i := (0 : Int).toNat) (by first | omega | (dsimp only; omega) | (dsimp only))
  generalize gs_up A 114 ((0 : Int).toNat) x = A5 at I6 f7 ⊢
  refine sA_vret dd_X9_takeLetter_12 rfl ?_
  exact ⟨rfl, I6, f7, by omega⟩
theorem dd_X9_closeToU_0 : decode cX9_closeToU 0 = .ok (.iconst 0, 1) := by decide +kernel
theorem dd_X9_closeToU_1 : decode cX9_closeToU 1 = .ok (.istore_n 1, 1) := by decide +kernel
theorem dd_X9_closeToU_2 : decode cX9_closeToU 2 = .ok (.aload_n 0, 1) := by decide +kernel
theorem dd_X9_closeToU_3 : decode cX9_closeToU 3 = .ok (.getfield 167, 3) := by decide +kernel
theorem dd_X9_closeToU_6 : decode cX9_closeToU 6 = .ok (.istore_n 2, 1) := by decide +kernel
theorem dd_X9_closeToU_7 : decode cX9_closeToU 7 = .ok (.iload_n 2, 1) := by decide +kernel
theorem dd_X9_closeToU_8 : decode cX9_closeToU 8 = .ok (.iload_n 1, 1) := by decide +kernel
theorem dd_X9_closeToU_9 : decode cX9_closeToU 9 = .ok (.isub, 1) := by decide +kernel
theorem dd_X9_closeToU_10 : decode cX9_closeToU 10 = .ok (.iconst 1, 1) := by decide +kernel
theorem dd_X9_closeToU_11 : decode cX9_closeToU 11 = .ok (.if_icmp .le 31, 3) := by decide +kernel
theorem dd_X9_closeToU_14 : decode cX9_closeToU 14 = .ok (.aload_n 0, 1) := by decide +kernel
theorem dd_X9_closeToU_15 : decode cX9_closeToU 15 = .ok (.getfield 31, 3) := by decide +kernel
theorem dd_X9_closeToU_18 : decode cX9_closeToU 18 = .ok (.iload_n 1, 1) := by decide +kernel
theorem dd_X9_closeToU_19 : decode cX9_closeToU 19 = .ok (.iaload, 1) := by decide +kernel
theorem dd_X9_closeToU_20 : decode cX9_closeToU 20 = .ok (.iconst 0, 1) := by decide +kernel
theorem dd_X9_closeToU_21 : decode cX9_closeToU 21 = .ok (.aload_n 0, 1) := by decide +kernel
theorem dd_X9_closeToU_22 : decode cX9_closeToU 22 = .ok (.getfield 31, 3) := by decide +kernel
theorem dd_X9_closeToU_25 : decode cX9_closeToU 25 = .ok (.iload_n 2, 1) := by decide +kernel
theorem dd_X9_closeToU_26 : decode cX9_closeToU 26 = .ok (.iconst 1, 1) := by decide +kernel
theorem dd_X9_closeToU_27 : decode cX9_closeToU 27 = .ok (.isub, 1) := by decide +kernel
theorem dd_X9_closeToU_28 : decode cX9_closeToU 28 = .ok (.iaload, 1) := by decide +kernel
theorem dd_X9_closeToU_29 : decode cX9_closeToU 29 = .ok (.isub, 1) := by decide +kernel
theorem dd_X9_closeToU_30 : decode cX9_closeToU 30 = .ok (.if_icmp .ne 12, 3) := by decide +kernel
theorem dd_X9_closeToU_33 : decode cX9_closeToU 33 = .ok (.iinc 1 1, 3) := by decide +kernel
theorem dd_X9_closeToU_36 : decode cX9_closeToU 36 = .ok (.iinc 2 (-1), 3) := by decide +kernel
theorem dd_X9_closeToU_39 : decode cX9_closeToU 39 = .ok (.goto (-32), 3) := by decide +kernel
theorem dd_X9_closeToU_42 : decode cX9_closeToU 42 = .ok (.aload_n 0, 1) := by decide +kernel
theorem dd_X9_closeToU_43 : decode cX9_closeToU 43 = .ok (.iload_n 2, 1) := by decide +kernel
theorem dd_X9_closeToU_44 : decode cX9_closeToU 44 = .ok (.iload_n 1, 1) := by decide +kernel
theorem dd_X9_closeToU_45 : decode cX9_closeToU 45 = .ok (.isub, 1) := by decide +kernel
theorem dd_X9_closeToU_46 : decode cX9_closeToU 46 = .ok (.putfield 83, 3) := by decide +kernel
theorem dd_X9_closeToU_49 : decode cX9_closeToU 49 = .ok (.iload_n 1, 1) := by decide +kernel
theorem dd_X9_closeToU_50 : decode cX9_closeToU 50 = .ok (.istore_n 3, 1) := by decide +kernel
theorem dd_X9_closeToU_51 : decode cX9_closeToU 51 = .ok (.iload_n 3, 1) := by decide +kernel
theorem dd_X9_closeToU_52 : decode cX9_closeToU 52 = .ok (.iload_n 2, 1) := by decide +kernel
theorem dd_X9_closeToU_53 : decode cX9_closeToU 53 = .ok (.if_icmp .ge 23, 3) := by decide +kernel
theorem dd_X9_closeToU_56 : decode cX9_closeToU 56 = .ok (.aload_n 0, 1) := by decide +kernel
theorem dd_X9_closeToU_57 : decode cX9_closeToU 57 = .ok (.getfield 25, 3) := by decide +kernel
theorem dd_X9_closeToU_60 : decode cX9_closeToU 60 = .ok (.iload_n 3, 1) := by decide +kernel
theorem dd_X9_closeToU_61 : decode cX9_closeToU 61 = .ok (.iload_n 1, 1) := by decide +kernel
theorem dd_X9_closeToU_62 : decode cX9_closeToU 62 = .ok (.isub, 1) := by decide +kernel
theorem dd_X9_closeToU_63 : decode cX9_closeToU 63 = .ok (.aload_n 0, 1) := by decide +kernel
theorem dd_X9_closeToU_64 : decode cX9_closeToU 64 = .ok (.getfield 31, 3) := by decide +kernel
theorem dd_X9_closeToU_67 : decode cX9_closeToU 67 = .ok (.iload_n 3, 1) := by decide +kernel
theorem dd_X9_closeToU_68 : decode cX9_closeToU 68 = .ok (.iaload, 1) := by decide +kernel
theorem dd_X9_closeToU_69 : decode cX9_closeToU 69 = .ok (.iastore, 1) := by decide +kernel
theorem dd_X9_closeToU_70 : decode cX9_closeToU 70 = .ok (.iinc 3 1, 3) := by decide +kernel
theorem dd_X9_closeToU_73 : decode cX9_closeToU 73 = .ok (.goto (-22), 3) := by decide +kernel
theorem dd_X9_closeToU_76 : decode cX9_closeToU 76 = .ok (.return_, 1) := by decide +kernel
theorem ok_X9_closeToU : am_okM m_X9_closeToU 0 ∧ Cond.instanceMethod m_X9_closeToU.1 ∈ am_tbl ∧ Cond.selects m_X9_closeToU.1.cls m_X9_closeToU.1 m_X9_closeToU.1 ∈ am_tbl := ri_mk1 1083 93 1082 62 (by decide +kernel)
theorem k_X9_closeToU  {F A : gs_F} (hI : gs_I F A)  : ∀ nN : Nat, (∀ (f : Int) (t : Int)  (F1 A1 : gs_F), gs_I F1 A1 → gs_fr (fun c j => c = 106 ∧ j = 9) (fun c => c = 112) F A F1 A1 → 0 ≤ f ∧ f ≤ t → t ≤ 400 → t - f + 1000 < (nN : Int) → sA m_X9_closeToU 1 (fun rv F' A' => rv = none ∧ gs_I F' A' ∧ gs_fr (fun c j => c = 106 ∧ j = 9) (fun c => c = 112) F A F' A' ∧ (True)) 7 [(1, gs_iv f), (2, gs_iv t), (0, .ref 106)] [] F1 A1) ∧ (∀ (f : Int) (t : Int) (k : Int)  (F1 A1 : gs_F), gs_I F1 A1 → gs_fr (fun c j => c = 106 ∧ j = 9) (fun c => c = 112) F A F1 A1 → 0 ≤ f ∧ f ≤ k → k ≤ t ∧ t ≤ 400 → t - k < (nN : Int) → sA m_X9_closeToU 1 (fun rv F' A' => rv = none ∧ gs_I F' A' ∧ gs_fr (fun c j => c = 106 ∧ j = 9) (fun c => c = 112) F A F' A' ∧ (True)) 51 [(3, gs_iv k), (1, gs_iv f), (2, gs_iv t), (0, .ref 106)] [] F1 A1) := by
  intro nN
  induction nN with
  | zero =>
    exact ⟨fun a0 a1 a2 a3 a4 a5 i0 i1 hm => by exfalso; omega, fun a0 a1 a2 a3 a4 a5 a6 i0 i1 hm => by exfalso; omega⟩
  | succ nN ih =>
    refine ⟨?_, ?_⟩
    · skip
      intro f t F1 A1 hI1 hf1 i0 i1 hm
      have b1 : (0 : Int) ≤ F1 106 13 ∧ F1 106 13 ≤ 400 := hI1.1 106 13
      refine sA_iload_n dd_X9_closeToU_7 rfl (.tail _ (.head _)) ?_
      refine sA_iload_n dd_X9_closeToU_8 rfl (.head _) ?_
      refine sA_isub dd_X9_closeToU_9 ?_
      refine sA_iconst (z := 1) dd_X9_closeToU_10 ?_
      refine sA_icmp_le (tgt := 42) dd_X9_closeToU_11 (by decide) (by omega) (by omega) (fun q2 => ?_) (fun q2 => ?_)
      · skip
        refine sA_aload_n dd_X9_closeToU_42 rfl (.tail _ (.tail _ (.head _))) ?_
        refine sA_iload_n dd_X9_closeToU_43 rfl (.tail _ (.head _)) ?_
        refine sA_iload_n dd_X9_closeToU_44 rfl (.head _) ?_
        refine sA_isub dd_X9_closeToU_45 ?_
        refine sA_put (ci := 9) (j := 9) (q := (RX9, TX9, 28)) (ty := .int) dd_X9_closeToU_46 rfl (by decide) fl_X9_83 rfl (tyX9_ok 9 (by decide)) rfl rfl (by decide) gs_s106 rfl ?_
        have I4 : gs_I (gs_up F1 106 9 (t - f)) A1 := gs_I_put hI1 (show (0 : Int) ≤ t - f ∧ t - f ≤ 400 by omega)
        have f5 := gs_fr_put hf1 (a := 106) (z := t - f) (j := 9) (by first | omega | (dsimp only; omega) | (dsimp only))
        have v6 : gs_up F1 106 9 (t - f) 106 9 = t - f := gs_up_self _ _ _ _
        have v7 : (gs_up F1 106 9 (t - f)) 106 13 = F1 106 13 := gs_up_ne _ _ (by omega)
        generalize gs_up F1 106 9 (t - f) = F3 at I4 f5 v6 v7 ⊢
        refine sA_iload_n dd_X9_closeToU_49 rfl (.head _) ?_
        refine sA_istore_n (lv' := [(3, gs_iv f), (1, gs_iv f), (2, gs_iv t), (0, .ref 106)]) dd_X9_closeToU_50 rfl (by decide) rfl ?_
        have b8 : (0 : Int) ≤ F3 106 13 ∧ F3 106 13 ≤ 400 := I4.1 106 13
        refine sA_sub (lv2 := [(3, gs_iv f), (1, gs_iv f), (2, gs_iv t), (0, .ref 106)]) (List.forall_mem_cons.mpr ⟨(.head _), (List.forall_mem_cons.mpr ⟨(.tail _ (.head _)), (List.forall_mem_cons.mpr ⟨(.tail _ (.tail _ (.head _))), (List.forall_mem_cons.mpr ⟨(.tail _ (.tail _ (.tail _ (.head _)))), (fun _ h => absurd h List.not_mem_nil)⟩)⟩)⟩)⟩) ?_
        exact ih.2 f t f F3 A1 I4 f5 (by omega) (by omega) (by omega)
      · skip
        refine sA_aload_n dd_X9_closeToU_14 rfl (.tail _ (.tail _ (.head _))) ?_
        refine sA_getr (ci := 9) (j := 12) (q := (RX9, TX9, 28)) dd_X9_closeToU_15 rfl (by decide) fl_X9_31 (by decide) gs_s106 rfl ?_
        refine sA_iload_n dd_X9_closeToU_18 rfl (.head _) ?_
        refine sA_iald (n := 401) dd_X9_closeToU_19 (by decide) gs_s114 (by omega) (by decide) ?_
        have b9 : (-9 : Int) ≤ A1 114 f.toNat ∧ A1 114 f.toNat ≤ 9 := hI1.2 114 f.toNat
        refine sA_iconst (z := 0) dd_X9_closeToU_20 ?_
        refine sA_aload_n dd_X9_closeToU_21 rfl (.tail _ (.tail _ (.head _))) ?_
        refine sA_getr (ci := 9) (j := 12) (q := (RX9, TX9, 28)) dd_X9_closeToU_22 rfl (by decide) fl_X9_31 (by decide) gs_s106 rfl ?_
        refine sA_iload_n dd_X9_closeToU_25 rfl (.tail _ (.head _)) ?_
        refine sA_iconst (z := 1) dd_X9_closeToU_26 ?_
        refine sA_isub dd_X9_closeToU_27 ?_
        refine sA_iald (n := 401) dd_X9_closeToU_28 (by decide) gs_s114 (by omega) (by decide) ?_
        have b10 : (-9 : Int) ≤ A1 114 (t - 1).toNat ∧ A1 114 (t - 1).toNat ≤ 9 := hI1.2 114 (t - 1).toNat
        refine sA_isub dd_X9_closeToU_29 ?_
        refine sA_icmp_ne (tgt := 42) dd_X9_closeToU_30 (by decide) (by omega) (by omega) (fun q11 => ?_) (fun q11 => ?_)
        · skip
          refine sA_aload_n dd_X9_closeToU_42 rfl (.tail _ (.tail _ (.head _))) ?_
          refine sA_iload_n dd_X9_closeToU_43 rfl (.tail _ (.head _)) ?_
          refine sA_iload_n dd_X9_closeToU_44 rfl (.head _) ?_
          refine sA_isub dd_X9_closeToU_45 ?_
          refine sA_put (ci := 9) (j := 9) (q := (RX9, TX9, 28)) (ty := .int) dd_X9_closeToU_46 rfl (by decide) fl_X9_83 rfl (tyX9_ok 9 (by decide)) rfl rfl (by decide) gs_s106 rfl ?_
          have I13 : gs_I (gs_up F1 106 9 (t - f)) A1 := gs_I_put hI1 (show (0 : Int) ≤ t - f ∧ t - f ≤ 400 by omega)
          have f14 := gs_fr_put hf1 (a := 106) (z := t - f) (j := 9) (by first | omega | (dsimp only; omega) | (dsimp only))
          have v15 : gs_up F1 106 9 (t - f) 106 9 = t - f := gs_up_self _ _ _ _
          have v16 : (gs_up F1 106 9 (t - f)) 106 13 = F1 106 13 := gs_up_ne _ _ (by omega)
          generalize gs_up F1 106 9 (t - f) = F12 at I13 f14 v15 v16 ⊢
          refine sA_iload_n dd_X9_closeToU_49 rfl (.head _) ?_
          refine sA_istore_n (lv' := [(3, gs_iv f), (1, gs_iv f), (2, gs_iv t), (0, .ref 106)]) dd_X9_closeToU_50 rfl (by decide) rfl ?_
          have b17 : (0 : Int) ≤ F12 106 13 ∧ F12 106 13 ≤ 400 := I13.1 106 13
          refine sA_sub (lv2 := [(3, gs_iv f), (1, gs_iv f), (2, gs_iv t), (0, .ref 106)]) (List.forall_mem_cons.mpr ⟨(.head _), (List.forall_mem_cons.mpr ⟨(.tail _ (.head _)), (List.forall_mem_cons.mpr ⟨(.tail _ (.tail _ (.head _))), (List.forall_mem_cons.mpr ⟨(.tail _ (.tail _ (.tail _ (.head _)))), (fun _ h => absurd h List.not_mem_nil)⟩)⟩)⟩)⟩) ?_
          exact ih.2 f t f F12 A1 I13 f14 (by omega) (by omega) (by omega)
        · skip
          refine sA_iinc (lv' := [(1, gs_iv (f + 1)), (2, gs_iv t), (0, .ref 106)]) dd_X9_closeToU_33 (.head _) (by decide) rfl ?_
          refine sA_iinc (lv' := [(2, gs_iv (t + (-1))), (1, gs_iv (f + 1)), (0, .ref 106)]) dd_X9_closeToU_36 (.tail _ (.head _)) (by decide) rfl ?_
          refine sA_goto (tgt := 7) dd_X9_closeToU_39 (by decide) ?_
          refine sA_sub (lv2 := [(1, gs_iv (f + 1)), (2, gs_iv (t + (-1))), (0, .ref 106)]) (List.forall_mem_cons.mpr ⟨(.tail _ (.head _)), (List.forall_mem_cons.mpr ⟨(.head _), (List.forall_mem_cons.mpr ⟨(.tail _ (.tail _ (.head _))), (fun _ h => absurd h List.not_mem_nil)⟩)⟩)⟩) ?_
          exact ih.1 (f + 1) (t + (-1)) F1 A1 hI1 hf1 (by omega) (by omega) (by omega)
    · skip
      intro f t k F1 A1 hI1 hf1 i0 i1 hm
      have b18 : (0 : Int) ≤ F1 106 13 ∧ F1 106 13 ≤ 400 := hI1.1 106 13
      refine sA_iload_n dd_X9_closeToU_51 rfl (.head _) ?_
      refine sA_iload_n dd_X9_closeToU_52 rfl (.tail _ (.tail _ (.head _))) ?_
      refine sA_icmp_ge (tgt := 76) dd_X9_closeToU_53 (by decide) (by omega) (by omega) (fun q19 => ?_) (fun q19 => ?_)
      · skip
        refine sA_vret dd_X9_closeToU_76 rfl ?_
        exact ⟨rfl, hI1, hf1, trivial⟩
      · skip
        refine sA_aload_n dd_X9_closeToU_56 rfl (.tail _ (.tail _ (.tail _ (.head _)))) ?_
        refine sA_getr (ci := 9) (j := 8) (q := (RX9, TX9, 28)) dd_X9_closeToU_57 rfl (by decide) fl_X9_25 (by decide) gs_s106 rfl ?_
        refine sA_iload_n dd_X9_closeToU_60 rfl (.head _) ?_
        refine sA_iload_n dd_X9_closeToU_61 rfl (.tail _ (.head _)) ?_
        refine sA_isub dd_X9_closeToU_62 ?_
        refine sA_aload_n dd_X9_closeToU_63 rfl (.tail _ (.tail _ (.tail _ (.head _)))) ?_
        refine sA_getr (ci := 9) (j := 12) (q := (RX9, TX9, 28)) dd_X9_closeToU_64 rfl (by decide) fl_X9_31 (by decide) gs_s106 rfl ?_
        refine sA_iload_n dd_X9_closeToU_67 rfl (.head _) ?_
        refine sA_iald (n := 401) dd_X9_closeToU_68 (by decide) gs_s114 (by omega) (by decide) ?_
        have b20 : (-9 : Int) ≤ A1 114 k.toNat ∧ A1 114 k.toNat ≤ 9 := hI1.2 114 k.toNat
        refine sA_iast (n := 400) dd_X9_closeToU_69 (by decide) gs_s112 (by omega) (by decide) ?_
        have I22 : gs_I F1 (gs_up A1 112 ((k - f).toNat) (A1 114 k.toNat)) := gs_I_ast hI1 (show (-9 : Int) ≤ A1 114 k.toNat ∧ A1 114 k.toNat ≤ 9 by omega)
        have f23 := gs_fr_ast hf1 (a := 112) (z := A1 114 k.toNat) (i := (k - f).toNat) (by first | omega | (dsimp only; omega) | (dsimp only))
        generalize gs_up A1 112 ((k - f).toNat) (A1 114 k.toNat) = A21 at I22 f23 ⊢
        refine sA_iinc (lv' := [(3, gs_iv (k + 1)), (1, gs_iv f), (2, gs_iv t), (0, .ref 106)]) dd_X9_closeToU_70 (.head _) (by decide) rfl ?_
        refine sA_goto (tgt := 51) dd_X9_closeToU_73 (by decide) ?_
        refine sA_sub (lv2 := [(3, gs_iv (k + 1)), (1, gs_iv f), (2, gs_iv t), (0, .ref 106)]) (List.forall_mem_cons.mpr ⟨(.head _), (List.forall_mem_cons.mpr ⟨(.tail _ (.head _)), (List.forall_mem_cons.mpr ⟨(.tail _ (.tail _ (.head _))), (List.forall_mem_cons.mpr ⟨(.tail _ (.tail _ (.tail _ (.head _)))), (fun _ h => absurd h List.not_mem_nil)⟩)⟩)⟩)⟩) ?_
        exact ih.2 f t (k + 1) F1 A21 I22 f23 (by omega) (by omega) (by omega)
theorem c_X9_closeToU  {F A : gs_F} (hI : gs_I F A)  : sC m_X9_closeToU 1 [.ref 106] F A (fun rv F' A' => rv = none ∧ gs_I F' A' ∧ gs_fr (fun c j => c = 106 ∧ j = 9) (fun c => c = 112) F A F' A' ∧ (True)) := by
  refine sC_of ok_X9_closeToU.1 (Nat.le_of_ble_eq_true rfl) ?_
  show sA _ _ _ 0 [(0, .ref 106)] [] F A
  have hf : gs_fr (fun c j => c = 106 ∧ j = 9) (fun c => c = 112) F A F A := gs_fr_refl _ _ _ _
  have b24 : (0 : Int) ≤ F 106 13 ∧ F 106 13 ≤ 400 := hI.1 106 13
  refine sA_iconst (z := 0) dd_X9_closeToU_0 ?_
  refine sA_istore_n (lv' := [(1, gs_iv 0), (0, .ref 106)]) dd_X9_closeToU_1 rfl (by decide) rfl ?_
  refine sA_aload_n dd_X9_closeToU_2 rfl (.tail _ (.head _)) ?_
  refine sA_geti (ci := 9) (j := 13) (q := (RX9, TX9, 28)) dd_X9_closeToU_3 rfl (by decide) fl_X9_167 (by decide) gs_s106 rfl ?_
  refine sA_istore_n (lv' := [(2, gs_iv (F 106 13)), (1, gs_iv 0), (0, .ref 106)]) dd_X9_closeToU_6 rfl (by decide) rfl ?_
  refine sA_sub (lv2 := [(1, gs_iv 0), (2, gs_iv (F 106 13)), (0, .ref 106)]) (List.forall_mem_cons.mpr ⟨(.tail _ (.head _)), (List.forall_mem_cons.mpr ⟨(.head _), (List.forall_mem_cons.mpr ⟨(.tail _ (.tail _ (.head _))), (fun _ h => absurd h List.not_mem_nil)⟩)⟩)⟩) ?_
  exact (k_X9_closeToU hI ((F 106 13) - 0 + 1000 : Int).toNat.succ).1 0 (F 106 13) F A hI hf (by omega) (by omega) (by omega)
theorem dd_X9_noPlan_0 : decode cX9_noPlan 0 = .ok (.iload_n 1, 1) := by decide +kernel
theorem dd_X9_noPlan_1 : decode cX9_noPlan 1 = .ok (.i2l, 1) := by decide +kernel
theorem dd_X9_noPlan_2 : decode cX9_noPlan 2 = .ok (.lconst 0, 1) := by decide +kernel
theorem dd_X9_noPlan_3 : decode cX9_noPlan 3 = .ok (.ldc2_w 177, 3) := by decide +kernel
theorem dd_X9_noPlan_6 : decode cX9_noPlan 6 = .ok (.invokestatic 75, 3) := by decide +kernel
theorem dd_X9_noPlan_9 : decode cX9_noPlan 9 = .ok (.ifCond .ne 7, 3) := by decide +kernel
theorem dd_X9_noPlan_12 : decode cX9_noPlan 12 = .ok (.iconst 1, 1) := by decide +kernel
theorem dd_X9_noPlan_13 : decode cX9_noPlan 13 = .ok (.goto 4, 3) := by decide +kernel
theorem dd_X9_noPlan_16 : decode cX9_noPlan 16 = .ok (.iconst 0, 1) := by decide +kernel
theorem dd_X9_noPlan_17 : decode cX9_noPlan 17 = .ok (.ireturn, 1) := by decide +kernel
theorem ok_X9_noPlan : am_okM m_X9_noPlan 1 ∧ Cond.instanceMethod m_X9_noPlan.1 ∈ am_tbl ∧ Cond.selects m_X9_noPlan.1.cls m_X9_noPlan.1 m_X9_noPlan.1 ∈ am_tbl := ri_mk1 1000 93 999 48 (by decide +kernel)
theorem c_X9_noPlan {p : Int} {F A : gs_F} (hI : gs_I F A) (hp : -2147483648 ≤ p ∧ p ≤ 2147483647) : sC m_X9_noPlan 2 [.ref 106, gs_iv p] F A (fun rv F' A' => ∃ z : Int, rv = some (gs_iv z) ∧ F = F' ∧ A = A' ∧ ((z = 0 ∧ 0 ≤ p ∧ p ≤ 7) ∨ (z = 1 ∧ (p < 0 ∨ 7 < p)))) := by
  refine sC_of ok_X9_noPlan.1 (Nat.le_of_ble_eq_true rfl) ?_
  show sA _ _ _ 0 [(0, .ref 106), (1, gs_iv p)] [] F A
  refine sA_iload_n dd_X9_noPlan_0 rfl (.tail _ (.head _)) ?_
  refine sA_i2l dd_X9_noPlan_1 (by omega) ?_
  refine sA_lconst (z := 0) dd_X9_noPlan_2 (by decide) ?_
  refine sA_ldc2 (z := 7) dd_X9_noPlan_3 (ri_lw_in (pl := 1001) (by decide +kernel)) ?_
  refine sA_callS (y2 := m_X9_in) (n2 := 3) (d2 := 1) (as := [gs_lv p, gs_lv 0, gs_lv 7]) (rest := []) dd_X9_noPlan_6 ok_X9_in ml_X9_75 rfl rfl (Nat.le_of_ble_eq_true rfl) (by decide) (c_X9_in (by omega) (by omega) (by omega)) (fun r1 F2 A3 h4 => ?_)
  obtain ⟨z7, e6, e8, e9, x5⟩ := h4
  subst e6 e8 e9
  show sA _ _ _ 9 _ [gs_iv z7] _ _
  refine sA_if_ne (tgt := 16) dd_X9_noPlan_9 (by decide) (by omega) (fun q10 => ?_) (fun q10 => ?_)
  · skip
    refine sA_iconst (z := 0) dd_X9_noPlan_16 ?_
    refine sA_bret (z := 0) dd_X9_noPlan_17 rfl (by omega) ?_
    exact ⟨_, rfl, rfl, rfl, by omega⟩
  · skip
    refine sA_iconst (z := 1) dd_X9_noPlan_12 ?_
    refine sA_goto (tgt := 17) dd_X9_noPlan_13 (by decide) ?_
    refine sA_bret (z := 1) dd_X9_noPlan_17 rfl (by omega) ?_
    exact ⟨_, rfl, rfl, rfl, by omega⟩
theorem dd_X9_feed_0 : decode cX9_feed 0 = .ok (.iload_n 1, 1) := by decide +kernel
theorem dd_X9_feed_1 : decode cX9_feed 1 = .ok (.i2l, 1) := by decide +kernel
theorem dd_X9_feed_2 : decode cX9_feed 2 = .ok (.lconst 1, 1) := by decide +kernel
theorem dd_X9_feed_3 : decode cX9_feed 3 = .ok (.ldc2_w 179, 3) := by decide +kernel
theorem dd_X9_feed_6 : decode cX9_feed 6 = .ok (.invokestatic 75, 3) := by decide +kernel
theorem dd_X9_feed_9 : decode cX9_feed 9 = .ok (.ifCond .ne 7, 3) := by decide +kernel
theorem dd_X9_feed_12 : decode cX9_feed 12 = .ok (.sipush (-1002), 3) := by decide +kernel
theorem dd_X9_feed_15 : decode cX9_feed 15 = .ok (.ireturn, 1) := by decide +kernel
theorem dd_X9_feed_16 : decode cX9_feed 16 = .ok (.aload_n 0, 1) := by decide +kernel
theorem dd_X9_feed_17 : decode cX9_feed 17 = .ok (.getfield 181, 3) := by decide +kernel
theorem dd_X9_feed_20 : decode cX9_feed 20 = .ok (.iload_n 1, 1) := by decide +kernel
theorem dd_X9_feed_21 : decode cX9_feed 21 = .ok (.iadd, 1) := by decide +kernel
theorem dd_X9_feed_22 : decode cX9_feed 22 = .ok (.bipush 120, 2) := by decide +kernel
theorem dd_X9_feed_24 : decode cX9_feed 24 = .ok (.if_icmp .le 7, 3) := by decide +kernel
theorem dd_X9_feed_27 : decode cX9_feed 27 = .ok (.sipush (-1004), 3) := by decide +kernel
theorem dd_X9_feed_30 : decode cX9_feed 30 = .ok (.ireturn, 1) := by decide +kernel
theorem dd_X9_feed_31 : decode cX9_feed 31 = .ok (.iload_n 1, 1) := by decide +kernel
theorem dd_X9_feed_32 : decode cX9_feed 32 = .ok (.iconst 1, 1) := by decide +kernel
theorem dd_X9_feed_33 : decode cX9_feed 33 = .ok (.isub, 1) := by decide +kernel
theorem dd_X9_feed_34 : decode cX9_feed 34 = .ok (.istore 4, 2) := by decide +kernel
theorem dd_X9_feed_36 : decode cX9_feed 36 = .ok (.iload 4, 2) := by decide +kernel
theorem dd_X9_feed_38 : decode cX9_feed 38 = .ok (.ifCond .lt 40, 3) := by decide +kernel
theorem dd_X9_feed_41 : decode cX9_feed 41 = .ok (.aload_n 0, 1) := by decide +kernel
theorem dd_X9_feed_42 : decode cX9_feed 42 = .ok (.getfield 37, 3) := by decide +kernel
theorem dd_X9_feed_45 : decode cX9_feed 45 = .ok (.aload_n 0, 1) := by decide +kernel
theorem dd_X9_feed_46 : decode cX9_feed 46 = .ok (.getfield 181, 3) := by decide +kernel
theorem dd_X9_feed_49 : decode cX9_feed 49 = .ok (.lload_n 2, 1) := by decide +kernel
theorem dd_X9_feed_50 : decode cX9_feed 50 = .ok (.bipush 8, 2) := by decide +kernel
theorem dd_X9_feed_52 : decode cX9_feed 52 = .ok (.iload 4, 2) := by decide +kernel
theorem dd_X9_feed_54 : decode cX9_feed 54 = .ok (.imul, 1) := by decide +kernel
theorem dd_X9_feed_55 : decode cX9_feed 55 = .ok (.lshr, 1) := by decide +kernel
theorem dd_X9_feed_56 : decode cX9_feed 56 = .ok (.ldc2_w 184, 3) := by decide +kernel
theorem dd_X9_feed_59 : decode cX9_feed 59 = .ok (.land, 1) := by decide +kernel
theorem dd_X9_feed_60 : decode cX9_feed 60 = .ok (.l2i, 1) := by decide +kernel
theorem dd_X9_feed_61 : decode cX9_feed 61 = .ok (.iastore, 1) := by decide +kernel
theorem dd_X9_feed_62 : decode cX9_feed 62 = .ok (.aload_n 0, 1) := by decide +kernel
theorem dd_X9_feed_63 : decode cX9_feed 63 = .ok (.dup, 1) := by decide +kernel
theorem dd_X9_feed_64 : decode cX9_feed 64 = .ok (.getfield 181, 3) := by decide +kernel
theorem dd_X9_feed_67 : decode cX9_feed 67 = .ok (.iconst 1, 1) := by decide +kernel
theorem dd_X9_feed_68 : decode cX9_feed 68 = .ok (.iadd, 1) := by decide +kernel
theorem dd_X9_feed_69 : decode cX9_feed 69 = .ok (.putfield 181, 3) := by decide +kernel
theorem dd_X9_feed_72 : decode cX9_feed 72 = .ok (.iinc 4 (-1), 3) := by decide +kernel
theorem dd_X9_feed_75 : decode cX9_feed 75 = .ok (.goto (-39), 3) := by decide +kernel
theorem dd_X9_feed_78 : decode cX9_feed 78 = .ok (.aload_n 0, 1) := by decide +kernel
theorem dd_X9_feed_79 : decode cX9_feed 79 = .ok (.getfield 181, 3) := by decide +kernel
theorem dd_X9_feed_82 : decode cX9_feed 82 = .ok (.ireturn, 1) := by decide +kernel
theorem gs_s116 : gs_sh 116 = .inr (.inl (0, 120)) := rfl
theorem fl_X9_181 : Cond.fieldLink RX9 181 (TX9 17).1 (TX9 17).2.1 (TX9 17).2.2.1 ∈ am_tbl := ri_lw_in (pl := 799) (by decide +kernel)
theorem fl_X9_37 : Cond.fieldLink RX9 37 (TX9 16).1 (TX9 16).2.1 (TX9 16).2.2.1 ∈ am_tbl := ri_lw_in (pl := 798) (by decide +kernel)
theorem ok_X9_feed : am_okM m_X9_feed 2 ∧ Cond.instanceMethod m_X9_feed.1 ∈ am_tbl ∧ Cond.selects m_X9_feed.1.cls m_X9_feed.1 m_X9_feed.1 ∈ am_tbl := ri_mk1 990 93 988 989 (by decide +kernel)
theorem k_X9_feed {n : Int} {v : Int64} {F A : gs_F} (hI : gs_I F A) (hn : -2147483648 ≤ n ∧ n ≤ 2147483647) : ∀ nN : Nat, (∀ (k : Int)  (F1 A1 : gs_F), gs_I F1 A1 → gs_fr (fun c j => c = 106 ∧ j = 17) (fun c => c = 116) F A F1 A1 → -1 ≤ k ∧ k ≤ 7 → 1 ≤ n ∧ n ≤ 8 ∧ F 106 17 + n ≤ 120 → F1 106 17 + k + 1 = F 106 17 + n → k + 1 < (nN : Int) → sA m_X9_feed 2 (fun rv F' A' => ∃ z : Int, rv = some (gs_iv z) ∧ gs_I F' A' ∧ gs_fr (fun c j => c = 106 ∧ j = 17) (fun c => c = 116) F A F' A' ∧ (((n < 1 ∨ 8 < n) ∧ z = -1002 ∧ F' 106 17 = F 106 17) ∨ (1 ≤ n ∧ n ≤ 8 ∧ 120 < F 106 17 + n ∧ z = -1004 ∧ F' 106 17 = F 106 17) ∨ (1 ≤ n ∧ n ≤ 8 ∧ F 106 17 + n ≤ 120 ∧ z = F 106 17 + n ∧ F' 106 17 = F 106 17 + n))) 36 [(4, gs_iv k), (0, .ref 106), (1, gs_iv n), (2, .long v)] [] F1 A1) := by
  intro nN
  induction nN with
  | zero =>
    exact fun a0 a1 a2 a3 a4 i0 i1 i2 hm => by exfalso; omega
  | succ nN ih =>
    intro k F1 A1 hI1 hf1 i0 i1 i2 hm
    have b1 : (0 : Int) ≤ F1 106 17 ∧ F1 106 17 ≤ 120 := hI1.1 106 17
    refine sA_iload dd_X9_feed_36 (.head _) ?_
    refine sA_if_lt (tgt := 78) dd_X9_feed_38 (by decide) (by omega) (fun q2 => ?_) (fun q2 => ?_)
    · skip
      refine sA_aload_n dd_X9_feed_78 rfl (.tail _ (.head _)) ?_
      refine sA_geti (ci := 9) (j := 17) (q := (RX9, TX9, 28)) dd_X9_feed_79 rfl (by decide) fl_X9_181 (by decide) gs_s106 rfl ?_
      refine sA_iret (z := F1 106 17) dd_X9_feed_82 rfl ?_
      exact ⟨_, rfl, hI1, hf1, by omega⟩
    · skip
      refine sA_aload_n dd_X9_feed_41 rfl (.tail _ (.head _)) ?_
      refine sA_getr (ci := 9) (j := 16) (q := (RX9, TX9, 28)) dd_X9_feed_42 rfl (by decide) fl_X9_37 (by decide) gs_s106 rfl ?_
      refine sA_aload_n dd_X9_feed_45 rfl (.tail _ (.head _)) ?_
      refine sA_geti (ci := 9) (j := 17) (q := (RX9, TX9, 28)) dd_X9_feed_46 rfl (by decide) fl_X9_181 (by decide) gs_s106 rfl ?_
      refine sA_lload_n dd_X9_feed_49 rfl (.tail _ (.tail _ (.tail _ (.head _)))) ?_
      refine sA_bipush (z := 8) dd_X9_feed_50 (by decide) ?_
      refine sA_iload dd_X9_feed_52 (.head _) ?_
      refine sA_imul dd_X9_feed_54 ?_
      refine sA_lshr dd_X9_feed_55 ?_
      refine sA_ldc2 (z := 255) dd_X9_feed_56 (ri_lw_in (pl := 992) (by decide +kernel)) ?_
      refine sA_land dd_X9_feed_59 ?_
      refine sA_l2i dd_X9_feed_60 ?_
      have b3 := gs_t_rng (((v >>> ((Int32.ofInt (8 * k)).toInt64 &&& 63)) &&& (Int64.ofInt 255)).toInt32)
      generalize gs_t (((v >>> ((Int32.ofInt (8 * k)).toInt64 &&& 63)) &&& (Int64.ofInt 255)).toInt32) = w4 at b3 ⊢
      refine sA_iast (n := 120) dd_X9_feed_61 (by decide) gs_s116 (by omega) (by decide) ?_
      have I6 : gs_I F1 (gs_up A1 116 ((F1 106 17).toNat) w4) := gs_I_ast hI1 (show (-2147483648 : Int) ≤ w4 ∧ w4 ≤ 2147483647 by omega)
      have f7 := gs_fr_ast hf1 (a := 116) (z := w4) (i := (F1 106 17).toNat) (by first | omega | (dsimp only; omega) | (dsimp only))
      generalize gs_up A1 116 ((F1 106 17).toNat) w4 = A5 at I6 f7 ⊢
      refine sA_aload_n dd_X9_feed_62 rfl (.tail _ (.head _)) ?_
      refine sA_dup dd_X9_feed_63 rfl ?_
      refine sA_geti (ci := 9) (j := 17) (q := (RX9, TX9, 28)) dd_X9_feed_64 rfl (by decide) fl_X9_181 (by decide) gs_s106 rfl ?_
      refine sA_iconst (z := 1) dd_X9_feed_67 ?_
      refine sA_iadd dd_X9_feed_68 ?_
      refine sA_put (ci := 9) (j := 17) (q := (RX9, TX9, 28)) (ty := .int) dd_X9_feed_69 rfl (by decide) fl_X9_181 rfl (tyX9_ok 17 (by decide)) rfl rfl (by decide) gs_s106 rfl ?_
      have I9 : gs_I (gs_up F1 106 17 ((F1 106 17) + 1)) A5 := gs_I_put I6 (show (0 : Int) ≤ (F1 106 17) + 1 ∧ (F1 106 17) + 1 ≤ 120 by omega)
      have f10 := gs_fr_put f7 (a := 106) (z := (F1 106 17) + 1) (j := 17) (by first | omega | (dsimp only; omega) | (dsimp only))
      have v11 : gs_up F1 106 17 ((F1 106 17) + 1) 106 17 = (F1 106 17) + 1 := gs_up_self _ _ _ _
      generalize gs_up F1 106 17 ((F1 106 17) + 1) = F8 at I9 f10 v11 ⊢
      refine sA_iinc (lv' := [(4, gs_iv (k + (-1))), (0, .ref 106), (1, gs_iv n), (2, .long v)]) dd_X9_feed_72 (.head _) (by decide) rfl ?_
      refine sA_goto (tgt := 36) dd_X9_feed_75 (by decide) ?_
      have b12 : (0 : Int) ≤ F8 106 17 ∧ F8 106 17 ≤ 120 := I9.1 106 17
      refine sA_sub (lv2 := [(4, gs_iv (k + (-1))), (0, .ref 106), (1, gs_iv n), (2, .long v)]) (List.forall_mem_cons.mpr ⟨(.head _), (List.forall_mem_cons.mpr ⟨(.tail _ (.head _)), (List.forall_mem_cons.mpr ⟨(.tail _ (.tail _ (.head _))), (List.forall_mem_cons.mpr ⟨(.tail _ (.tail _ (.tail _ (.head _)))), (fun _ h => absurd h List.not_mem_nil)⟩)⟩)⟩)⟩) ?_
      exact ih (k + (-1)) F8 A5 I9 f10 (by omega) (by omega) (by omega) (by omega)
theorem c_X9_feed {n : Int} {v : Int64} {F A : gs_F} (hI : gs_I F A) (hn : -2147483648 ≤ n ∧ n ≤ 2147483647) : sC m_X9_feed 2 [.ref 106, gs_iv n, .long v] F A (fun rv F' A' => ∃ z : Int, rv = some (gs_iv z) ∧ gs_I F' A' ∧ gs_fr (fun c j => c = 106 ∧ j = 17) (fun c => c = 116) F A F' A' ∧ (((n < 1 ∨ 8 < n) ∧ z = -1002 ∧ F' 106 17 = F 106 17) ∨ (1 ≤ n ∧ n ≤ 8 ∧ 120 < F 106 17 + n ∧ z = -1004 ∧ F' 106 17 = F 106 17) ∨ (1 ≤ n ∧ n ≤ 8 ∧ F 106 17 + n ≤ 120 ∧ z = F 106 17 + n ∧ F' 106 17 = F 106 17 + n))) := by
  refine sC_of ok_X9_feed.1 (Nat.le_of_ble_eq_true rfl) ?_
  show sA _ _ _ 0 [(0, .ref 106), (1, gs_iv n), (2, .long v)] [] F A
  have hf : gs_fr (fun c j => c = 106 ∧ j = 17) (fun c => c = 116) F A F A := gs_fr_refl _ _ _ _
  have b13 : (0 : Int) ≤ F 106 17 ∧ F 106 17 ≤ 120 := hI.1 106 17
  refine sA_iload_n dd_X9_feed_0 rfl (.tail _ (.head _)) ?_
  refine sA_i2l dd_X9_feed_1 (by omega) ?_
  refine sA_lconst (z := 1) dd_X9_feed_2 (by decide) ?_
  refine sA_ldc2 (z := 8) dd_X9_feed_3 (ri_lw_in (pl := 991) (by decide +kernel)) ?_
  refine sA_callS (y2 := m_X9_in) (n2 := 3) (d2 := 1) (as := [gs_lv n, gs_lv 1, gs_lv 8]) (rest := []) dd_X9_feed_6 ok_X9_in ml_X9_75 rfl rfl (Nat.le_of_ble_eq_true rfl) (by decide) (c_X9_in (by omega) (by omega) (by omega)) (fun r14 F15 A16 h17 => ?_)
  obtain ⟨z20, e19, e21, e22, x18⟩ := h17
  subst e19 e21 e22
  show sA _ _ _ 9 _ [gs_iv z20] _ _
  refine sA_if_ne (tgt := 16) dd_X9_feed_9 (by decide) (by omega) (fun q23 => ?_) (fun q23 => ?_)
  · skip
    refine sA_aload_n dd_X9_feed_16 rfl (.head _) ?_
    refine sA_geti (ci := 9) (j := 17) (q := (RX9, TX9, 28)) dd_X9_feed_17 rfl (by decide) fl_X9_181 (by decide) gs_s106 rfl ?_
    refine sA_iload_n dd_X9_feed_20 rfl (.tail _ (.head _)) ?_
    refine sA_iadd dd_X9_feed_21 ?_
    refine sA_bipush (z := 120) dd_X9_feed_22 (by decide) ?_
    refine sA_icmp_le (tgt := 31) dd_X9_feed_24 (by decide) (by omega) (by omega) (fun q24 => ?_) (fun q24 => ?_)
    · skip
      refine sA_iload_n dd_X9_feed_31 rfl (.tail _ (.head _)) ?_
      refine sA_iconst (z := 1) dd_X9_feed_32 ?_
      refine sA_isub dd_X9_feed_33 ?_
      refine sA_istore (lv' := [(4, gs_iv (n - 1)), (0, .ref 106), (1, gs_iv n), (2, .long v)]) dd_X9_feed_34 (by decide) rfl ?_
      refine sA_sub (lv2 := [(4, gs_iv (n - 1)), (0, .ref 106), (1, gs_iv n), (2, .long v)]) (List.forall_mem_cons.mpr ⟨(.head _), (List.forall_mem_cons.mpr ⟨(.tail _ (.head _)), (List.forall_mem_cons.mpr ⟨(.tail _ (.tail _ (.head _))), (List.forall_mem_cons.mpr ⟨(.tail _ (.tail _ (.tail _ (.head _)))), (fun _ h => absurd h List.not_mem_nil)⟩)⟩)⟩)⟩) ?_
      exact (k_X9_feed hI hn ((n - 1) + 1 : Int).toNat.succ) (n - 1) F A hI hf (by omega) (by omega) (by omega) (by omega)
    · skip
      refine sA_sipush (z := (-1004)) dd_X9_feed_27 (by decide) ?_
      refine sA_iret (z := -1004) dd_X9_feed_30 rfl ?_
      exact ⟨_, rfl, hI, hf, by omega⟩
  · skip
    refine sA_sipush (z := (-1002)) dd_X9_feed_12 (by decide) ?_
    refine sA_iret (z := -1002) dd_X9_feed_15 rfl ?_
    exact ⟨_, rfl, hI, hf, by omega⟩
theorem dd_X9_look_0 : decode cX9_look 0 = .ok (.aload_n 0, 1) := by decide +kernel
theorem dd_X9_look_1 : decode cX9_look 1 = .ok (.getfield 186, 3) := by decide +kernel
theorem dd_X9_look_4 : decode cX9_look 4 = .ok (.aload_n 0, 1) := by decide +kernel
theorem dd_X9_look_5 : decode cX9_look 5 = .ok (.getfield 181, 3) := by decide +kernel
theorem dd_X9_look_8 : decode cX9_look 8 = .ok (.if_icmp .ge 30, 3) := by decide +kernel
theorem dd_X9_look_11 : decode cX9_look 11 = .ok (.aload_n 0, 1) := by decide +kernel
theorem dd_X9_look_12 : decode cX9_look 12 = .ok (.getfield 37, 3) := by decide +kernel
theorem dd_X9_look_15 : decode cX9_look 15 = .ok (.aload_n 0, 1) := by decide +kernel
theorem dd_X9_look_16 : decode cX9_look 16 = .ok (.getfield 186, 3) := by decide +kernel
theorem dd_X9_look_19 : decode cX9_look 19 = .ok (.iaload, 1) := by decide +kernel
theorem dd_X9_look_20 : decode cX9_look 20 = .ok (.bipush 32, 2) := by decide +kernel
theorem dd_X9_look_22 : decode cX9_look 22 = .ok (.if_icmp .ne 16, 3) := by decide +kernel
theorem dd_X9_look_25 : decode cX9_look 25 = .ok (.aload_n 0, 1) := by decide +kernel
theorem dd_X9_look_26 : decode cX9_look 26 = .ok (.dup, 1) := by decide +kernel
theorem dd_X9_look_27 : decode cX9_look 27 = .ok (.getfield 186, 3) := by decide +kernel
theorem dd_X9_look_30 : decode cX9_look 30 = .ok (.iconst 1, 1) := by decide +kernel
theorem dd_X9_look_31 : decode cX9_look 31 = .ok (.iadd, 1) := by decide +kernel
theorem dd_X9_look_32 : decode cX9_look 32 = .ok (.putfield 186, 3) := by decide +kernel
theorem dd_X9_look_35 : decode cX9_look 35 = .ok (.goto (-35), 3) := by decide +kernel
theorem dd_X9_look_38 : decode cX9_look 38 = .ok (.aload_n 0, 1) := by decide +kernel
theorem dd_X9_look_39 : decode cX9_look 39 = .ok (.getfield 186, 3) := by decide +kernel
theorem dd_X9_look_42 : decode cX9_look 42 = .ok (.aload_n 0, 1) := by decide +kernel
theorem dd_X9_look_43 : decode cX9_look 43 = .ok (.getfield 181, 3) := by decide +kernel
theorem dd_X9_look_46 : decode cX9_look 46 = .ok (.if_icmp .ge 15, 3) := by decide +kernel
theorem dd_X9_look_49 : decode cX9_look 49 = .ok (.aload_n 0, 1) := by decide +kernel
theorem dd_X9_look_50 : decode cX9_look 50 = .ok (.getfield 37, 3) := by decide +kernel
theorem dd_X9_look_53 : decode cX9_look 53 = .ok (.aload_n 0, 1) := by decide +kernel
theorem dd_X9_look_54 : decode cX9_look 54 = .ok (.getfield 186, 3) := by decide +kernel
theorem dd_X9_look_57 : decode cX9_look 57 = .ok (.iaload, 1) := by decide +kernel
theorem dd_X9_look_58 : decode cX9_look 58 = .ok (.goto 4, 3) := by decide +kernel
theorem dd_X9_look_61 : decode cX9_look 61 = .ok (.iconst (-1), 1) := by decide +kernel
theorem dd_X9_look_62 : decode cX9_look 62 = .ok (.ireturn, 1) := by decide +kernel
theorem fl_X9_186 : Cond.fieldLink RX9 186 (TX9 18).1 (TX9 18).2.1 (TX9 18).2.2.1 ∈ am_tbl := ri_lw_in (pl := 800) (by decide +kernel)
theorem ok_X9_look : am_okM m_X9_look 0 ∧ Cond.instanceMethod m_X9_look.1 ∈ am_tbl ∧ Cond.selects m_X9_look.1.cls m_X9_look.1 m_X9_look.1 ∈ am_tbl := ri_mk1 1005 93 1004 49 (by decide +kernel)
theorem k_X9_look  {F A : gs_F} (hI : gs_I F A)  : ∀ nN : Nat, (∀   (F1 A1 : gs_F), gs_I F1 A1 → gs_fr (fun c j => c = 106 ∧ j = 18) (fun _ => False) F A F1 A1 → F 106 18 ≤ F1 106 18 → F1 106 17 = F 106 17 → F1 106 18 ≤ 120 → 200 - F1 106 18 < (nN : Int) → sA m_X9_look 1 (fun rv F' A' => ∃ z : Int, rv = some (gs_iv z) ∧ gs_I F' A' ∧ gs_fr (fun c j => c = 106 ∧ j = 18) (fun _ => False) F A F' A' ∧ (F 106 18 ≤ F' 106 18 ∧ F' 106 17 = F 106 17 ∧ ((F' 106 18 < F' 106 17 ∧ -2147483648 ≤ z ∧ z ≤ 2147483647) ∨ z = -1))) 0 [(0, .ref 106)] [] F1 A1) := by
  intro nN
  induction nN with
  | zero =>
    exact fun a0 a1 a2 a3 i0 i1 i2 hm => by exfalso; omega
  | succ nN ih =>
    intro F1 A1 hI1 hf1 i0 i1 i2 hm
    have b1 : (0 : Int) ≤ F1 106 18 ∧ F1 106 18 ≤ 120 := hI1.1 106 18
    have b2 : (0 : Int) ≤ F1 106 17 ∧ F1 106 17 ≤ 120 := hI1.1 106 17
    have hb18 : (0 : Int) ≤ F1 106 18 ∧ F1 106 18 ≤ 120 := hI1.1 106 18
    refine sA_aload_n dd_X9_look_0 rfl (.head _) ?_
    refine sA_geti (ci := 9) (j := 18) (q := (RX9, TX9, 28)) dd_X9_look_1 rfl (by decide) fl_X9_186 (by decide) gs_s106 rfl ?_
    refine sA_aload_n dd_X9_look_4 rfl (.head _) ?_
    refine sA_geti (ci := 9) (j := 17) (q := (RX9, TX9, 28)) dd_X9_look_5 rfl (by decide) fl_X9_181 (by decide) gs_s106 rfl ?_
    refine sA_icmp_ge (tgt := 38) dd_X9_look_8 (by decide) (by omega) (by omega) (fun q3 => ?_) (fun q3 => ?_)
    · skip
      refine sA_aload_n dd_X9_look_38 rfl (.head _) ?_
      refine sA_geti (ci := 9) (j := 18) (q := (RX9, TX9, 28)) dd_X9_look_39 rfl (by decide) fl_X9_186 (by decide) gs_s106 rfl ?_
      refine sA_aload_n dd_X9_look_42 rfl (.head _) ?_
      refine sA_geti (ci := 9) (j := 17) (q := (RX9, TX9, 28)) dd_X9_look_43 rfl (by decide) fl_X9_181 (by decide) gs_s106 rfl ?_
      refine sA_icmp_ge (tgt := 61) dd_X9_look_46 (by decide) (by omega) (by omega) (fun q4 => ?_) (fun q4 => absurd q4 (by omega))
      refine sA_iconst (z := (-1)) dd_X9_look_61 ?_
      refine sA_iret (z := -1) dd_X9_look_62 rfl ?_
      exact ⟨_, rfl, hI1, hf1, by omega⟩
    · skip
      refine sA_aload_n dd_X9_look_11 rfl (.head _) ?_
      refine sA_getr (ci := 9) (j := 16) (q := (RX9, TX9, 28)) dd_X9_look_12 rfl (by decide) fl_X9_37 (by decide) gs_s106 rfl ?_
      refine sA_aload_n dd_X9_look_15 rfl (.head _) ?_
      refine sA_geti (ci := 9) (j := 18) (q := (RX9, TX9, 28)) dd_X9_look_16 rfl (by decide) fl_X9_186 (by decide) gs_s106 rfl ?_
      refine sA_iald (n := 120) dd_X9_look_19 (by decide) gs_s116 (by omega) (by decide) ?_
      have b5 : (-2147483648 : Int) ≤ A1 116 (F1 106 18).toNat ∧ A1 116 (F1 106 18).toNat ≤ 2147483647 := hI1.2 116 (F1 106 18).toNat
      refine sA_bipush (z := 32) dd_X9_look_20 (by decide) ?_
      refine sA_icmp_ne (tgt := 38) dd_X9_look_22 (by decide) (by omega) (by omega) (fun q6 => ?_) (fun q6 => ?_)
      · skip
        refine sA_aload_n dd_X9_look_38 rfl (.head _) ?_
        refine sA_geti (ci := 9) (j := 18) (q := (RX9, TX9, 28)) dd_X9_look_39 rfl (by decide) fl_X9_186 (by decide) gs_s106 rfl ?_
        refine sA_aload_n dd_X9_look_42 rfl (.head _) ?_
        refine sA_geti (ci := 9) (j := 17) (q := (RX9, TX9, 28)) dd_X9_look_43 rfl (by decide) fl_X9_181 (by decide) gs_s106 rfl ?_
        refine sA_icmp_ge (tgt := 61) dd_X9_look_46 (by decide) (by omega) (by omega) (fun q7 => absurd q7 (by omega)) (fun q7 => ?_)
        refine sA_aload_n dd_X9_look_49 rfl (.head _) ?_
        refine sA_getr (ci := 9) (j := 16) (q := (RX9, TX9, 28)) dd_X9_look_50 rfl (by decide) fl_X9_37 (by decide) gs_s106 rfl ?_
        refine sA_aload_n dd_X9_look_53 rfl (.head _) ?_
        refine sA_geti (ci := 9) (j := 18) (q := (RX9, TX9, 28)) dd_X9_look_54 rfl (by decide) fl_X9_186 (by decide) gs_s106 rfl ?_
        refine sA_iald (n := 120) dd_X9_look_57 (by decide) gs_s116 (by omega) (by decide) ?_
        refine sA_goto (tgt := 62) dd_X9_look_58 (by decide) ?_
        refine sA_iret (z := A1 116 (F1 106 18).toNat) dd_X9_look_62 rfl ?_
        exact ⟨_, rfl, hI1, hf1, by omega⟩
      · skip
        refine sA_aload_n dd_X9_look_25 rfl (.head _) ?_
        refine sA_dup dd_X9_look_26 rfl ?_
        refine sA_geti (ci := 9) (j := 18) (q := (RX9, TX9, 28)) dd_X9_look_27 rfl (by decide) fl_X9_186 (by decide) gs_s106 rfl ?_
        refine sA_iconst (z := 1) dd_X9_look_30 ?_
        refine sA_iadd dd_X9_look_31 ?_
        refine sA_put (ci := 9) (j := 18) (q := (RX9, TX9, 28)) (ty := .int) dd_X9_look_32 rfl (by decide) fl_X9_186 rfl (tyX9_ok 18 (by decide)) rfl rfl (by decide) gs_s106 rfl ?_
        have I9 : gs_I (gs_up F1 106 18 ((F1 106 18) + 1)) A1 := gs_I_put hI1 (show (0 : Int) ≤ (F1 106 18) + 1 ∧ (F1 106 18) + 1 ≤ 120 by omega)
        have f10 := gs_fr_put hf1 (a := 106) (z := (F1 106 18) + 1) (j := 18) (by first | omega | (dsimp only; omega) | (dsimp only))
        have v11 : gs_up F1 106 18 ((F1 106 18) + 1) 106 18 = (F1 106 18) + 1 := gs_up_self _ _ _ _
        have v12 : (gs_up F1 106 18 ((F1 106 18) + 1)) 106 17 = F1 106 17 := gs_up_ne _ _ (by omega)
        generalize gs_up F1 106 18 ((F1 106 18) + 1) = F8 at I9 f10 v11 v12 ⊢
        refine sA_goto (tgt := 0) dd_X9_look_35 (by decide) ?_
        have b13 : (0 : Int) ≤ F8 106 18 ∧ F8 106 18 ≤ 120 := I9.1 106 18
        have b14 : (0 : Int) ≤ F8 106 17 ∧ F8 106 17 ≤ 120 := I9.1 106 17
        refine sA_sub (lv2 := [(0, .ref 106)]) (List.forall_mem_cons.mpr ⟨(.head _), (fun _ h => absurd h List.not_mem_nil)⟩) ?_
        exact ih  F8 A1 I9 f10 (by omega) (by omega) (by omega) (by omega)
theorem c_X9_look  {F A : gs_F} (hI : gs_I F A)  : sC m_X9_look 1 [.ref 106] F A (fun rv F' A' => ∃ z : Int, rv = some (gs_iv z) ∧ gs_I F' A' ∧ gs_fr (fun c j => c = 106 ∧ j = 18) (fun _ => False) F A F' A' ∧ (F 106 18 ≤ F' 106 18 ∧ F' 106 17 = F 106 17 ∧ ((F' 106 18 < F' 106 17 ∧ -2147483648 ≤ z ∧ z ≤ 2147483647) ∨ z = -1))) := by
  refine sC_of ok_X9_look.1 (Nat.le_of_ble_eq_true rfl) ?_
  show sA _ _ _ 0 [(0, .ref 106)] [] F A
  have hf : gs_fr (fun c j => c = 106 ∧ j = 18) (fun _ => False) F A F A := gs_fr_refl _ _ _ _
  have b15 : (0 : Int) ≤ F 106 18 ∧ F 106 18 ≤ 120 := hI.1 106 18
  have b16 : (0 : Int) ≤ F 106 17 ∧ F 106 17 ≤ 120 := hI.1 106 17
  have hb18 : (0 : Int) ≤ F 106 18 ∧ F 106 18 ≤ 120 := hI.1 106 18
  refine sA_aload_n dd_X9_look_0 rfl (.head _) ?_
  refine sA_geti (ci := 9) (j := 18) (q := (RX9, TX9, 28)) dd_X9_look_1 rfl (by decide) fl_X9_186 (by decide) gs_s106 rfl ?_
  refine sA_aload_n dd_X9_look_4 rfl (.head _) ?_
  refine sA_geti (ci := 9) (j := 17) (q := (RX9, TX9, 28)) dd_X9_look_5 rfl (by decide) fl_X9_181 (by decide) gs_s106 rfl ?_
  refine sA_icmp_ge (tgt := 38) dd_X9_look_8 (by decide) (by omega) (by omega) (fun q17 => ?_) (fun q17 => ?_)
  · skip
    refine sA_aload_n dd_X9_look_38 rfl (.head _) ?_
    refine sA_geti (ci := 9) (j := 18) (q := (RX9, TX9, 28)) dd_X9_look_39 rfl (by decide) fl_X9_186 (by decide) gs_s106 rfl ?_
    refine sA_aload_n dd_X9_look_42 rfl (.head _) ?_
    refine sA_geti (ci := 9) (j := 17) (q := (RX9, TX9, 28)) dd_X9_look_43 rfl (by decide) fl_X9_181 (by decide) gs_s106 rfl ?_
    refine sA_icmp_ge (tgt := 61) dd_X9_look_46 (by decide) (by omega) (by omega) (fun q18 => ?_) (fun q18 => absurd q18 (by omega))
    refine sA_iconst (z := (-1)) dd_X9_look_61 ?_
    refine sA_iret (z := -1) dd_X9_look_62 rfl ?_
    exact ⟨_, rfl, hI, hf, by omega⟩
  · skip
    refine sA_aload_n dd_X9_look_11 rfl (.head _) ?_
    refine sA_getr (ci := 9) (j := 16) (q := (RX9, TX9, 28)) dd_X9_look_12 rfl (by decide) fl_X9_37 (by decide) gs_s106 rfl ?_
    refine sA_aload_n dd_X9_look_15 rfl (.head _) ?_
    refine sA_geti (ci := 9) (j := 18) (q := (RX9, TX9, 28)) dd_X9_look_16 rfl (by decide) fl_X9_186 (by decide) gs_s106 rfl ?_
    refine sA_iald (n := 120) dd_X9_look_19 (by decide) gs_s116 (by omega) (by decide) ?_
    have b19 : (-2147483648 : Int) ≤ A 116 (F 106 18).toNat ∧ A 116 (F 106 18).toNat ≤ 2147483647 := hI.2 116 (F 106 18).toNat
    refine sA_bipush (z := 32) dd_X9_look_20 (by decide) ?_
    refine sA_icmp_ne (tgt := 38) dd_X9_look_22 (by decide) (by omega) (by omega) (fun q20 => ?_) (fun q20 => ?_)
    · skip
      refine sA_aload_n dd_X9_look_38 rfl (.head _) ?_
      refine sA_geti (ci := 9) (j := 18) (q := (RX9, TX9, 28)) dd_X9_look_39 rfl (by decide) fl_X9_186 (by decide) gs_s106 rfl ?_
      refine sA_aload_n dd_X9_look_42 rfl (.head _) ?_
      refine sA_geti (ci := 9) (j := 17) (q := (RX9, TX9, 28)) dd_X9_look_43 rfl (by decide) fl_X9_181 (by decide) gs_s106 rfl ?_
      refine sA_icmp_ge (tgt := 61) dd_X9_look_46 (by decide) (by omega) (by omega) (fun q21 => absurd q21 (by omega)) (fun q21 => ?_)
      refine sA_aload_n dd_X9_look_49 rfl (.head _) ?_
      refine sA_getr (ci := 9) (j := 16) (q := (RX9, TX9, 28)) dd_X9_look_50 rfl (by decide) fl_X9_37 (by decide) gs_s106 rfl ?_
      refine sA_aload_n dd_X9_look_53 rfl (.head _) ?_
      refine sA_geti (ci := 9) (j := 18) (q := (RX9, TX9, 28)) dd_X9_look_54 rfl (by decide) fl_X9_186 (by decide) gs_s106 rfl ?_
      refine sA_iald (n := 120) dd_X9_look_57 (by decide) gs_s116 (by omega) (by decide) ?_
      refine sA_goto (tgt := 62) dd_X9_look_58 (by decide) ?_
      refine sA_iret (z := A 116 (F 106 18).toNat) dd_X9_look_62 rfl ?_
      exact ⟨_, rfl, hI, hf, by omega⟩
    · skip
      refine sA_aload_n dd_X9_look_25 rfl (.head _) ?_
      refine sA_dup dd_X9_look_26 rfl ?_
      refine sA_geti (ci := 9) (j := 18) (q := (RX9, TX9, 28)) dd_X9_look_27 rfl (by decide) fl_X9_186 (by decide) gs_s106 rfl ?_
      refine sA_iconst (z := 1) dd_X9_look_30 ?_
      refine sA_iadd dd_X9_look_31 ?_
      refine sA_put (ci := 9) (j := 18) (q := (RX9, TX9, 28)) (ty := .int) dd_X9_look_32 rfl (by decide) fl_X9_186 rfl (tyX9_ok 18 (by decide)) rfl rfl (by decide) gs_s106 rfl ?_
      have I23 : gs_I (gs_up F 106 18 ((F 106 18) + 1)) A := gs_I_put hI (show (0 : Int) ≤ (F 106 18) + 1 ∧ (F 106 18) + 1 ≤ 120 by omega)
      have f24 := gs_fr_put hf (a := 106) (z := (F 106 18) + 1) (j := 18) (by first | omega | (dsimp only; omega) | (dsimp only))
      have v25 : gs_up F 106 18 ((F 106 18) + 1) 106 18 = (F 106 18) + 1 := gs_up_self _ _ _ _
      have v26 : (gs_up F 106 18 ((F 106 18) + 1)) 106 17 = F 106 17 := gs_up_ne _ _ (by omega)
      generalize gs_up F 106 18 ((F 106 18) + 1) = F22 at I23 f24 v25 v26 ⊢
      refine sA_goto (tgt := 0) dd_X9_look_35 (by decide) ?_
      have b27 : (0 : Int) ≤ F22 106 18 ∧ F22 106 18 ≤ 120 := I23.1 106 18
      have b28 : (0 : Int) ≤ F22 106 17 ∧ F22 106 17 ≤ 120 := I23.1 106 17
      refine sA_sub (lv2 := [(0, .ref 106)]) (List.forall_mem_cons.mpr ⟨(.head _), (fun _ h => absurd h List.not_mem_nil)⟩) ?_
      exact (k_X9_look hI (200 - F22 106 18 : Int).toNat.succ)  F22 A I23 f24 (by omega) (by omega) (by omega) (by omega)
theorem dd_X9_want_0 : decode cX9_want 0 = .ok (.iload_n 1, 1) := by decide +kernel
theorem dd_X9_want_1 : decode cX9_want 1 = .ok (.ifCond .ne 20, 3) := by decide +kernel
theorem dd_X9_want_4 : decode cX9_want 4 = .ok (.aload_n 0, 1) := by decide +kernel
theorem dd_X9_want_5 : decode cX9_want 5 = .ok (.getfield 189, 3) := by decide +kernel
theorem dd_X9_want_8 : decode cX9_want 8 = .ok (.ifCond .ne 13, 3) := by decide +kernel
theorem dd_X9_want_11 : decode cX9_want 11 = .ok (.aload_n 0, 1) := by decide +kernel
theorem dd_X9_want_12 : decode cX9_want 12 = .ok (.iload_n 2, 1) := by decide +kernel
theorem dd_X9_want_13 : decode cX9_want 13 = .ok (.putfield 189, 3) := by decide +kernel
theorem dd_X9_want_16 : decode cX9_want 16 = .ok (.aload_n 0, 1) := by decide +kernel
theorem dd_X9_want_17 : decode cX9_want 17 = .ok (.iload_n 3, 1) := by decide +kernel
theorem dd_X9_want_18 : decode cX9_want 18 = .ok (.putfield 40, 3) := by decide +kernel
theorem dd_X9_want_21 : decode cX9_want 21 = .ok (.aload_n 0, 1) := by decide +kernel
theorem dd_X9_want_22 : decode cX9_want 22 = .ok (.getfield 189, 3) := by decide +kernel
theorem dd_X9_want_25 : decode cX9_want 25 = .ok (.ifCond .ne 7, 3) := by decide +kernel
theorem dd_X9_want_28 : decode cX9_want 28 = .ok (.iconst 1, 1) := by decide +kernel
theorem dd_X9_want_29 : decode cX9_want 29 = .ok (.goto 4, 3) := by decide +kernel
theorem dd_X9_want_32 : decode cX9_want 32 = .ok (.iconst 0, 1) := by decide +kernel
theorem dd_X9_want_33 : decode cX9_want 33 = .ok (.ireturn, 1) := by decide +kernel
theorem fl_X9_189 : Cond.fieldLink RX9 189 (TX9 19).1 (TX9 19).2.1 (TX9 19).2.2.1 ∈ am_tbl := ri_lw_in (pl := 801) (by decide +kernel)
theorem fl_X9_40 : Cond.fieldLink RX9 40 (TX9 20).1 (TX9 20).2.1 (TX9 20).2.2.1 ∈ am_tbl := ri_lw_in (pl := 802) (by decide +kernel)
theorem ok_X9_want : am_okM m_X9_want 3 ∧ Cond.instanceMethod m_X9_want.1 ∈ am_tbl ∧ Cond.selects m_X9_want.1.cls m_X9_want.1 m_X9_want.1 ∈ am_tbl := ri_mk1 1023 93 1022 53 (by decide +kernel)
theorem c_X9_want {gd f w : Int} {F A : gs_F} (hI : gs_I F A) (hg : gd = 0 ∨ gd = 1) (hf0 : 1 ≤ f ∧ f ≤ 4) (hw : -2147483648 ≤ w ∧ w ≤ 2147483647) : sC m_X9_want 1 [.ref 106, gs_iv gd, gs_iv f, gs_iv w] F A (fun rv F' A' => ∃ z : Int, rv = some (gs_iv z) ∧ gs_I F' A' ∧ gs_fr (fun c j => c = 106 ∧ (j = 19 ∨ j = 20)) (fun _ => False) F A F' A' ∧ ((z = 1 ∧ gd = 1 ∧ F' 106 19 = 0 ∧ F 106 19 = 0) ∨ (z = 0 ∧ 1 ≤ F' 106 19 ∧ (gd = 0 ∨ 1 ≤ F 106 19)))) := by
  refine sC_of ok_X9_want.1 (Nat.le_of_ble_eq_true rfl) ?_
  show sA _ _ _ 0 [(0, .ref 106), (1, gs_iv gd), (2, gs_iv f), (3, gs_iv w)] [] F A
  have hf : gs_fr (fun c j => c = 106 ∧ (j = 19 ∨ j = 20)) (fun _ => False) F A F A := gs_fr_refl _ _ _ _
  have b1 : (0 : Int) ≤ F 106 19 ∧ F 106 19 ≤ 4 := hI.1 106 19
  refine sA_iload_n dd_X9_want_0 rfl (.tail _ (.head _)) ?_
  refine sA_if_ne (tgt := 21) dd_X9_want_1 (by decide) (by omega) (fun q2 => ?_) (fun q2 => ?_)
  · skip
    refine sA_aload_n dd_X9_want_21 rfl (.head _) ?_
    refine sA_geti (ci := 9) (j := 19) (q := (RX9, TX9, 28)) dd_X9_want_22 rfl (by decide) fl_X9_189 (by decide) gs_s106 rfl ?_
    refine sA_if_ne (tgt := 32) dd_X9_want_25 (by decide) (by omega) (fun q3 => ?_) (fun q3 => ?_)
    · skip
      refine sA_iconst (z := 0) dd_X9_want_32 ?_
      refine sA_bret (z := 0) dd_X9_want_33 rfl (by omega) ?_
      exact ⟨_, rfl, hI, hf, by omega⟩
    · skip
      refine sA_iconst (z := 1) dd_X9_want_28 ?_
      refine sA_goto (tgt := 33) dd_X9_want_29 (by decide) ?_
      refine sA_bret (z := 1) dd_X9_want_33 rfl (by omega) ?_
      exact ⟨_, rfl, hI, hf, by omega⟩
  · skip
    refine sA_aload_n dd_X9_want_4 rfl (.head _) ?_
    refine sA_geti (ci := 9) (j := 19) (q := (RX9, TX9, 28)) dd_X9_want_5 rfl (by decide) fl_X9_189 (by decide) gs_s106 rfl ?_
    refine sA_if_ne (tgt := 21) dd_X9_want_8 (by decide) (by omega) (fun q4 => ?_) (fun q4 => ?_)
    · skip
      refine sA_aload_n dd_X9_want_21 rfl (.head _) ?_
      refine sA_geti (ci := 9) (j := 19) (q := (RX9, TX9, 28)) dd_X9_want_22 rfl (by decide) fl_X9_189 (by decide) gs_s106 rfl ?_
      refine sA_if_ne (tgt := 32) dd_X9_want_25 (by decide) (by omega) (fun q5 => ?_) (fun q5 => absurd q5 (by omega))
      refine sA_iconst (z := 0) dd_X9_want_32 ?_
      refine sA_bret (z := 0) dd_X9_want_33 rfl (by omega) ?_
      exact ⟨_, rfl, hI, hf, by omega⟩
    · skip
      refine sA_aload_n dd_X9_want_11 rfl (.head _) ?_
      refine sA_iload_n dd_X9_want_12 rfl (.tail _ (.tail _ (.head _))) ?_
      refine sA_put (ci := 9) (j := 19) (q := (RX9, TX9, 28)) (ty := .int) dd_X9_want_13 rfl (by decide) fl_X9_189 rfl (tyX9_ok 19 (by decide)) rfl rfl (by decide) gs_s106 rfl ?_
      have I7 : gs_I (gs_up F 106 19 f) A := gs_I_put hI (show (0 : Int) ≤ f ∧ f ≤ 4 by omega)
      have f8 := gs_fr_put hf (a := 106) (z := f) (j := 19) (by first | omega | (dsimp only; omega) | (dsimp only))
      have v9 : gs_up F 106 19 f 106 19 = f := gs_up_self _ _ _ _
      generalize gs_up F 106 19 f = F6 at I7 f8 v9 ⊢
      refine sA_aload_n dd_X9_want_16 rfl (.head _) ?_
      refine sA_iload_n dd_X9_want_17 rfl (.tail _ (.tail _ (.tail _ (.head _)))) ?_
      refine sA_put (ci := 9) (j := 20) (q := (RX9, TX9, 28)) (ty := .int) dd_X9_want_18 rfl (by decide) fl_X9_40 rfl (tyX9_ok 20 (by decide)) rfl rfl (by decide) gs_s106 rfl ?_
      have I11 : gs_I (gs_up F6 106 20 w) A := gs_I_put I7 (show (-2147483648 : Int) ≤ w ∧ w ≤ 2147483647 by omega)
      have f12 := gs_fr_put f8 (a := 106) (z := w) (j := 20) (by first | omega | (dsimp only; omega) | (dsimp only))
      have v13 : gs_up F6 106 20 w 106 20 = w := gs_up_self _ _ _ _
      have v14 : (gs_up F6 106 20 w) 106 19 = F6 106 19 := gs_up_ne _ _ (by omega)
      generalize gs_up F6 106 20 w = F10 at I11 f12 v13 v14 ⊢
      refine sA_aload_n dd_X9_want_21 rfl (.head _) ?_
      refine sA_geti (ci := 9) (j := 19) (q := (RX9, TX9, 28)) dd_X9_want_22 rfl (by decide) fl_X9_189 (by decide) gs_s106 rfl ?_
      have b15 : (0 : Int) ≤ F10 106 19 ∧ F10 106 19 ≤ 4 := I11.1 106 19
      refine sA_if_ne (tgt := 32) dd_X9_want_25 (by decide) (by omega) (fun q16 => ?_) (fun q16 => ?_)
      · skip
        refine sA_iconst (z := 0) dd_X9_want_32 ?_
        refine sA_bret (z := 0) dd_X9_want_33 rfl (by omega) ?_
        exact ⟨_, rfl, I11, f12, by omega⟩
      · skip
        refine sA_iconst (z := 1) dd_X9_want_28 ?_
        refine sA_goto (tgt := 33) dd_X9_want_29 (by decide) ?_
        refine sA_bret (z := 1) dd_X9_want_33 rfl (by omega) ?_
        exact ⟨_, rfl, I11, f12, by omega⟩
theorem dd_X9_takeFigure_0 : decode cX9_takeFigure 0 = .ok (.aload_n 0, 1) := by decide +kernel
theorem dd_X9_takeFigure_1 : decode cX9_takeFigure 1 = .ok (.invokevirtual 192, 3) := by decide +kernel
theorem dd_X9_takeFigure_4 : decode cX9_takeFigure 4 = .ok (.istore_n 3, 1) := by decide +kernel
theorem dd_X9_takeFigure_5 : decode cX9_takeFigure 5 = .ok (.aload_n 0, 1) := by decide +kernel
theorem dd_X9_takeFigure_6 : decode cX9_takeFigure 6 = .ok (.iload_n 3, 1) := by decide +kernel
theorem dd_X9_takeFigure_7 : decode cX9_takeFigure 7 = .ok (.i2l, 1) := by decide +kernel
theorem dd_X9_takeFigure_8 : decode cX9_takeFigure 8 = .ok (.ldc2_w 195, 3) := by decide +kernel
theorem dd_X9_takeFigure_11 : decode cX9_takeFigure 11 = .ok (.ldc2_w 197, 3) := by decide +kernel
theorem dd_X9_takeFigure_14 : decode cX9_takeFigure 14 = .ok (.invokestatic 75, 3) := by decide +kernel
theorem dd_X9_takeFigure_17 : decode cX9_takeFigure 17 = .ok (.iconst 1, 1) := by decide +kernel
theorem dd_X9_takeFigure_18 : decode cX9_takeFigure 18 = .ok (.aload_n 0, 1) := by decide +kernel
theorem dd_X9_takeFigure_19 : decode cX9_takeFigure 19 = .ok (.getfield 186, 3) := by decide +kernel
theorem dd_X9_takeFigure_22 : decode cX9_takeFigure 22 = .ok (.invokevirtual 199, 3) := by decide +kernel
theorem dd_X9_takeFigure_25 : decode cX9_takeFigure 25 = .ok (.ifCond .eq 27, 3) := by decide +kernel
theorem dd_X9_takeFigure_28 : decode cX9_takeFigure 28 = .ok (.aload_n 0, 1) := by decide +kernel
theorem dd_X9_takeFigure_29 : decode cX9_takeFigure 29 = .ok (.iload_n 3, 1) := by decide +kernel
theorem dd_X9_takeFigure_30 : decode cX9_takeFigure 30 = .ok (.bipush 48, 2) := by decide +kernel
theorem dd_X9_takeFigure_32 : decode cX9_takeFigure 32 = .ok (.isub, 1) := by decide +kernel
theorem dd_X9_takeFigure_33 : decode cX9_takeFigure 33 = .ok (.i2l, 1) := by decide +kernel
theorem dd_X9_takeFigure_34 : decode cX9_takeFigure 34 = .ok (.iload_n 1, 1) := by decide +kernel
theorem dd_X9_takeFigure_35 : decode cX9_takeFigure 35 = .ok (.i2l, 1) := by decide +kernel
theorem dd_X9_takeFigure_36 : decode cX9_takeFigure 36 = .ok (.iload_n 2, 1) := by decide +kernel
theorem dd_X9_takeFigure_37 : decode cX9_takeFigure 37 = .ok (.i2l, 1) := by decide +kernel
theorem dd_X9_takeFigure_38 : decode cX9_takeFigure 38 = .ok (.invokestatic 75, 3) := by decide +kernel
theorem dd_X9_takeFigure_41 : decode cX9_takeFigure 41 = .ok (.iconst 2, 1) := by decide +kernel
theorem dd_X9_takeFigure_42 : decode cX9_takeFigure 42 = .ok (.aload_n 0, 1) := by decide +kernel
theorem dd_X9_takeFigure_43 : decode cX9_takeFigure 43 = .ok (.getfield 186, 3) := by decide +kernel
theorem dd_X9_takeFigure_46 : decode cX9_takeFigure 46 = .ok (.invokevirtual 199, 3) := by decide +kernel
theorem dd_X9_takeFigure_49 : decode cX9_takeFigure 49 = .ok (.ifCond .ne 5, 3) := by decide +kernel
theorem dd_X9_takeFigure_52 : decode cX9_takeFigure 52 = .ok (.iconst 0, 1) := by decide +kernel
theorem dd_X9_takeFigure_53 : decode cX9_takeFigure 53 = .ok (.ireturn, 1) := by decide +kernel
theorem dd_X9_takeFigure_54 : decode cX9_takeFigure 54 = .ok (.aload_n 0, 1) := by decide +kernel
theorem dd_X9_takeFigure_55 : decode cX9_takeFigure 55 = .ok (.dup, 1) := by decide +kernel
theorem dd_X9_takeFigure_56 : decode cX9_takeFigure 56 = .ok (.getfield 186, 3) := by decide +kernel
theorem dd_X9_takeFigure_59 : decode cX9_takeFigure 59 = .ok (.iconst 1, 1) := by decide +kernel
theorem dd_X9_takeFigure_60 : decode cX9_takeFigure 60 = .ok (.iadd, 1) := by decide +kernel
theorem dd_X9_takeFigure_61 : decode cX9_takeFigure 61 = .ok (.putfield 186, 3) := by decide +kernel
theorem dd_X9_takeFigure_64 : decode cX9_takeFigure 64 = .ok (.iload_n 3, 1) := by decide +kernel
theorem dd_X9_takeFigure_65 : decode cX9_takeFigure 65 = .ok (.bipush 48, 2) := by decide +kernel
theorem dd_X9_takeFigure_67 : decode cX9_takeFigure 67 = .ok (.isub, 1) := by decide +kernel
theorem dd_X9_takeFigure_68 : decode cX9_takeFigure 68 = .ok (.ireturn, 1) := by decide +kernel
theorem ml_X9_192 : Cond.methodLink RX9 192 m_X9_look.1 ∈ am_tbl := ri_lw_in (pl := 1002) (by decide +kernel)
theorem ml_X9_199 : Cond.methodLink RX9 199 m_X9_want.1 ∈ am_tbl := ri_lw_in (pl := 1020) (by decide +kernel)
theorem ok_X9_takeFigure : am_okM m_X9_takeFigure 2 ∧ Cond.instanceMethod m_X9_takeFigure.1 ∈ am_tbl ∧ Cond.selects m_X9_takeFigure.1.cls m_X9_takeFigure.1 m_X9_takeFigure.1 ∈ am_tbl := ri_mk1 1017 93 1016 52 (by decide +kernel)
theorem c_X9_takeFigure {lo hi : Int} {F A : gs_F} (hI : gs_I F A) (hlo : -2147483648 ≤ lo ∧ lo ≤ 2147483647) (hhi : -2147483648 ≤ hi ∧ hi ≤ 2147483647) : sC m_X9_takeFigure 2 [.ref 106, gs_iv lo, gs_iv hi] F A (fun rv F' A' => ∃ z : Int, rv = some (gs_iv z) ∧ gs_I F' A' ∧ gs_fr (fun c j => c = 106 ∧ (j = 18 ∨ j = 19 ∨ j = 20)) (fun _ => False) F A F' A' ∧ (F 106 18 ≤ F' 106 18 ∧ F' 106 17 = F 106 17 ∧ ((F' 106 19 = 0 ∧ F 106 19 = 0 ∧ lo ≤ z ∧ z ≤ hi ∧ F 106 18 + 1 ≤ F' 106 18) ∨ 1 ≤ F' 106 19))) := by
  refine sC_of ok_X9_takeFigure.1 (Nat.le_of_ble_eq_true rfl) ?_
  show sA _ _ _ 0 [(0, .ref 106), (1, gs_iv lo), (2, gs_iv hi)] [] F A
  have hf : gs_fr (fun c j => c = 106 ∧ (j = 18 ∨ j = 19 ∨ j = 20)) (fun _ => False) F A F A := gs_fr_refl _ _ _ _
  have b1 : (0 : Int) ≤ F 106 18 ∧ F 106 18 ≤ 120 := hI.1 106 18
  have b2 : (0 : Int) ≤ F 106 17 ∧ F 106 17 ≤ 120 := hI.1 106 17
  have b3 : (0 : Int) ≤ F 106 19 ∧ F 106 19 ≤ 4 := hI.1 106 19
  refine sA_aload_n dd_X9_takeFigure_0 rfl (.head _) ?_
  refine sA_callV (y2 := m_X9_look) (n2 := 0) (d2 := 1) (a := 106) (ci := 9) (q := (RX9, TX9, 28)) (as := []) (rest := []) dd_X9_takeFigure_1 ok_X9_look ml_X9_192 rfl rfl (by decide) gs_s106 rfl rfl (Nat.le_of_ble_eq_true rfl) (by decide) (c_X9_look hI ) (fun r4 F5 A6 h7 => ?_)
  obtain ⟨z10, e9, I11, f12, x8⟩ := h7
  subst e9
  have v14 : F5 106 17 = F 106 17 := f12.1 106 17 (by first | exact id | omega | (dsimp only; omega) | (dsimp only))
  have v15 : F5 106 19 = F 106 19 := f12.1 106 19 (by first | exact id | omega | (dsimp only; omega) | (dsimp only))
  have f16 := gs_fr_tr hf f12 (fun b j h => by first | exact False.elim h | omega | (dsimp only at h ⊢; omega)) (fun b h => by first | exact False.elim h | omega | (dsimp only at h ⊢; omega))
  show sA _ _ _ 4 _ [gs_iv z10] _ _
  refine sA_istore_n (lv' := [(3, gs_iv z10), (0, .ref 106), (1, gs_iv lo), (2, gs_iv hi)]) dd_X9_takeFigure_4 rfl (by decide) rfl ?_
  refine sA_aload_n dd_X9_takeFigure_5 rfl (.tail _ (.head _)) ?_
  refine sA_iload_n dd_X9_takeFigure_6 rfl (.head _) ?_
  refine sA_i2l dd_X9_takeFigure_7 (by omega) ?_
  refine sA_ldc2 (z := 48) dd_X9_takeFigure_8 (ri_lw_in (pl := 1018) (by decide +kernel)) ?_
  refine sA_ldc2 (z := 57) dd_X9_takeFigure_11 (ri_lw_in (pl := 1019) (by decide +kernel)) ?_
  refine sA_callS (y2 := m_X9_in) (n2 := 3) (d2 := 1) (as := [gs_lv z10, gs_lv 48, gs_lv 57]) (rest := [.ref 106]) dd_X9_takeFigure_14 ok_X9_in ml_X9_75 rfl rfl (Nat.le_of_ble_eq_true rfl) (by decide) (c_X9_in (by omega) (by omega) (by omega)) (fun r17 F18 A19 h20 => ?_)
  obtain ⟨z23, e22, e24, e25, x21⟩ := h20
  subst e22 e24 e25
  show sA _ _ _ 17 _ [gs_iv z23, .ref 106] _ _
  refine sA_iconst (z := 1) dd_X9_takeFigure_17 ?_
  refine sA_aload_n dd_X9_takeFigure_18 rfl (.tail _ (.head _)) ?_
  refine sA_geti (ci := 9) (j := 18) (q := (RX9, TX9, 28)) dd_X9_takeFigure_19 rfl (by decide) fl_X9_186 (by decide) gs_s106 rfl ?_
  have b26 : (0 : Int) ≤ F5 106 18 ∧ F5 106 18 ≤ 120 := I11.1 106 18
  refine sA_callV (y2 := m_X9_want) (n2 := 3) (d2 := 1) (a := 106) (ci := 9) (q := (RX9, TX9, 28)) (as := [gs_iv z23, gs_iv 1, gs_iv (F5 106 18)]) (rest := []) dd_X9_takeFigure_22 ok_X9_want ml_X9_199 rfl rfl (by decide) gs_s106 rfl rfl (Nat.le_of_ble_eq_true rfl) (by decide) (c_X9_want I11 (by omega) (by omega) (by omega)) (fun r27 F28 A29 h30 => ?_)
  obtain ⟨z33, e32, I34, f35, x31⟩ := h30
  subst e32
  have v36 : F28 106 18 = F5 106 18 := f35.1 106 18 (by first | exact id | omega | (dsimp only; omega) | (dsimp only))
  have v37 : F28 106 17 = F5 106 17 := f35.1 106 17 (by first | exact id | omega | (dsimp only; omega) | (dsimp only))
  have f39 := gs_fr_tr f16 f35 (fun b j h => by first | exact False.elim h | omega | (dsimp only at h ⊢; omega)) (fun b h => by first | exact False.elim h | omega | (dsimp only at h ⊢; omega))
  show sA _ _ _ 25 _ [gs_iv z33] _ _
  refine sA_if_eq (tgt := 52) dd_X9_takeFigure_25 (by decide) (by omega) (fun q40 => ?_) (fun q40 => ?_)
  · skip
    refine sA_iconst (z := 0) dd_X9_takeFigure_52 ?_
    refine sA_iret (z := 0) dd_X9_takeFigure_53 rfl ?_
    exact ⟨_, rfl, I34, f39, by omega⟩
  · skip
    refine sA_aload_n dd_X9_takeFigure_28 rfl (.tail _ (.head _)) ?_
    refine sA_iload_n dd_X9_takeFigure_29 rfl (.head _) ?_
    refine sA_bipush (z := 48) dd_X9_takeFigure_30 (by decide) ?_
    refine sA_isub dd_X9_takeFigure_32 ?_
    refine sA_i2l dd_X9_takeFigure_33 (by omega) ?_
    refine sA_iload_n dd_X9_takeFigure_34 rfl (.tail _ (.tail _ (.head _))) ?_
    refine sA_i2l dd_X9_takeFigure_35 (by omega) ?_
    refine sA_iload_n dd_X9_takeFigure_36 rfl (.tail _ (.tail _ (.tail _ (.head _)))) ?_
    refine sA_i2l dd_X9_takeFigure_37 (by omega) ?_
    refine sA_callS (y2 := m_X9_in) (n2 := 3) (d2 := 1) (as := [gs_lv (z10 - 48), gs_lv lo, gs_lv hi]) (rest := [.ref 106]) dd_X9_takeFigure_38 ok_X9_in ml_X9_75 rfl rfl (Nat.le_of_ble_eq_true rfl) (by decide) (c_X9_in (by omega) (by omega) (by omega)) (fun r41 F42 A43 h44 => ?_)
    obtain ⟨z47, e46, e48, e49, x45⟩ := h44
    subst e46 e48 e49
    show sA _ _ _ 41 _ [gs_iv z47, .ref 106] _ _
    refine sA_iconst (z := 2) dd_X9_takeFigure_41 ?_
    refine sA_aload_n dd_X9_takeFigure_42 rfl (.tail _ (.head _)) ?_
    refine sA_geti (ci := 9) (j := 18) (q := (RX9, TX9, 28)) dd_X9_takeFigure_43 rfl (by decide) fl_X9_186 (by decide) gs_s106 rfl ?_
    have b50 : (0 : Int) ≤ F28 106 18 ∧ F28 106 18 ≤ 120 := I34.1 106 18
    refine sA_callV (y2 := m_X9_want) (n2 := 3) (d2 := 1) (a := 106) (ci := 9) (q := (RX9, TX9, 28)) (as := [gs_iv z47, gs_iv 2, gs_iv (F28 106 18)]) (rest := []) dd_X9_takeFigure_46 ok_X9_want ml_X9_199 rfl rfl (by decide) gs_s106 rfl rfl (Nat.le_of_ble_eq_true rfl) (by decide) (c_X9_want I34 (by omega) (by omega) (by omega)) (fun r51 F52 A53 h54 => ?_)
    obtain ⟨z57, e56, I58, f59, x55⟩ := h54
    subst e56
    have v60 : F52 106 18 = F28 106 18 := f59.1 106 18 (by first | exact id | omega | (dsimp only; omega) | (dsimp only))
    have v61 : F52 106 17 = F28 106 17 := f59.1 106 17 (by first | exact id | omega | (dsimp only; omega) | (dsimp only))
    have f63 := gs_fr_tr f39 f59 (fun b j h => by first | exact False.elim h | omega | (dsimp only at h ⊢; omega)) (fun b h => by first | exact False.elim h | omega | (dsimp only at h ⊢; omega))
    show sA _ _ _ 49 _ [gs_iv z57] _ _
    refine sA_if_ne (tgt := 54) dd_X9_takeFigure_49 (by decide) (by omega) (fun q64 => ?_) (fun q64 => ?_)
    · skip
      refine sA_aload_n dd_X9_takeFigure_54 rfl (.tail _ (.head _)) ?_
      refine sA_dup dd_X9_takeFigure_55 rfl ?_
      refine sA_geti (ci := 9) (j := 18) (q := (RX9, TX9, 28)) dd_X9_takeFigure_56 rfl (by decide) fl_X9_186 (by decide) gs_s106 rfl ?_
      have b65 : (0 : Int) ≤ F52 106 18 ∧ F52 106 18 ≤ 120 := I58.1 106 18
      refine sA_iconst (z := 1) dd_X9_takeFigure_59 ?_
      refine sA_iadd dd_X9_takeFigure_60 ?_
      refine sA_put (ci := 9) (j := 18) (q := (RX9, TX9, 28)) (ty := .int) dd_X9_takeFigure_61 rfl (by decide) fl_X9_186 rfl (tyX9_ok 18 (by decide)) rfl rfl (by decide) gs_s106 rfl ?_
      have I67 : gs_I (gs_up F52 106 18 ((F52 106 18) + 1)) A53 := gs_I_put I58 (show (0 : Int) ≤ (F52 106 18) + 1 ∧ (F52 106 18) + 1 ≤ 120 by omega)
      have f68 := gs_fr_put f63 (a := 106) (z := (F52 106 18) + 1) (j := 18) (by first | omega | (dsimp only; omega) | (dsimp only))
      have v69 : gs_up F52 106 18 ((F52 106 18) + 1) 106 18 = (F52 106 18) + 1 := gs_up_self _ _ _ _
      have v70 : (gs_up F52 106 18 ((F52 106 18) + 1)) 106 17 = F52 106 17 := gs_up_ne _ _ (by omega)
      have v71 : (gs_up F52 106 18 ((F52 106 18) + 1)) 106 19 = F52 106 19 := gs_up_ne _ _ (by omega)
      generalize gs_up F52 106 18 ((F52 106 18) + 1) = F66 at I67 f68 v69 v70 v71 ⊢
      refine sA_iload_n dd_X9_takeFigure_64 rfl (.head _) ?_
      refine sA_bipush (z := 48) dd_X9_takeFigure_65 (by decide) ?_
      refine sA_isub dd_X9_takeFigure_67 ?_
      refine sA_iret (z := z10 - 48) dd_X9_takeFigure_68 rfl ?_
      exact ⟨_, rfl, I67, f68, by omega⟩
    · skip
      refine sA_iconst (z := 0) dd_X9_takeFigure_52 ?_
      refine sA_iret (z := 0) dd_X9_takeFigure_53 rfl ?_
      exact ⟨_, rfl, I58, f63, by omega⟩
theorem dd_X9_readTwist_0 : decode cX9_readTwist 0 = .ok (.aload_n 0, 1) := by decide +kernel
theorem dd_X9_readTwist_1 : decode cX9_readTwist 1 = .ok (.getfield 186, 3) := by decide +kernel
theorem dd_X9_readTwist_4 : decode cX9_readTwist 4 = .ok (.istore_n 2, 1) := by decide +kernel
theorem dd_X9_readTwist_5 : decode cX9_readTwist 5 = .ok (.aload_n 0, 1) := by decide +kernel
theorem dd_X9_readTwist_6 : decode cX9_readTwist 6 = .ok (.dup, 1) := by decide +kernel
theorem dd_X9_readTwist_7 : decode cX9_readTwist 7 = .ok (.getfield 186, 3) := by decide +kernel
theorem dd_X9_readTwist_10 : decode cX9_readTwist 10 = .ok (.iconst 1, 1) := by decide +kernel
theorem dd_X9_readTwist_11 : decode cX9_readTwist 11 = .ok (.iadd, 1) := by decide +kernel
theorem dd_X9_readTwist_12 : decode cX9_readTwist 12 = .ok (.putfield 186, 3) := by decide +kernel
theorem dd_X9_readTwist_15 : decode cX9_readTwist 15 = .ok (.aload_n 0, 1) := by decide +kernel
theorem dd_X9_readTwist_16 : decode cX9_readTwist 16 = .ok (.iconst 1, 1) := by decide +kernel
theorem dd_X9_readTwist_17 : decode cX9_readTwist 17 = .ok (.iload_n 1, 1) := by decide +kernel
theorem dd_X9_readTwist_18 : decode cX9_readTwist 18 = .ok (.iconst 2, 1) := by decide +kernel
theorem dd_X9_readTwist_19 : decode cX9_readTwist 19 = .ok (.if_icmp .ne 12, 3) := by decide +kernel
theorem dd_X9_readTwist_22 : decode cX9_readTwist 22 = .ok (.aload_n 0, 1) := by decide +kernel
theorem dd_X9_readTwist_23 : decode cX9_readTwist 23 = .ok (.getfield 64, 3) := by decide +kernel
theorem dd_X9_readTwist_26 : decode cX9_readTwist 26 = .ok (.iconst 1, 1) := by decide +kernel
theorem dd_X9_readTwist_27 : decode cX9_readTwist 27 = .ok (.isub, 1) := by decide +kernel
theorem dd_X9_readTwist_28 : decode cX9_readTwist 28 = .ok (.goto 7, 3) := by decide +kernel
theorem dd_X9_readTwist_31 : decode cX9_readTwist 31 = .ok (.aload_n 0, 1) := by decide +kernel
theorem dd_X9_readTwist_32 : decode cX9_readTwist 32 = .ok (.getfield 64, 3) := by decide +kernel
theorem dd_X9_readTwist_35 : decode cX9_readTwist 35 = .ok (.invokevirtual 203, 3) := by decide +kernel
theorem dd_X9_readTwist_38 : decode cX9_readTwist 38 = .ok (.istore_n 3, 1) := by decide +kernel
theorem dd_X9_readTwist_39 : decode cX9_readTwist 39 = .ok (.aload_n 0, 1) := by decide +kernel
theorem dd_X9_readTwist_40 : decode cX9_readTwist 40 = .ok (.getfield 189, 3) := by decide +kernel
theorem dd_X9_readTwist_43 : decode cX9_readTwist 43 = .ok (.ifCond .le 4, 3) := by decide +kernel
theorem dd_X9_readTwist_46 : decode cX9_readTwist 46 = .ok (.return_, 1) := by decide +kernel
theorem dd_X9_readTwist_47 : decode cX9_readTwist 47 = .ok (.aload_n 0, 1) := by decide +kernel
theorem dd_X9_readTwist_48 : decode cX9_readTwist 48 = .ok (.invokevirtual 192, 3) := by decide +kernel
theorem dd_X9_readTwist_51 : decode cX9_readTwist 51 = .ok (.bipush 45, 2) := by decide +kernel
theorem dd_X9_readTwist_53 : decode cX9_readTwist 53 = .ok (.if_icmp .ne 7, 3) := by decide +kernel
theorem dd_X9_readTwist_56 : decode cX9_readTwist 56 = .ok (.iconst 1, 1) := by decide +kernel
theorem dd_X9_readTwist_57 : decode cX9_readTwist 57 = .ok (.goto 4, 3) := by decide +kernel
theorem dd_X9_readTwist_60 : decode cX9_readTwist 60 = .ok (.iconst 0, 1) := by decide +kernel
theorem dd_X9_readTwist_61 : decode cX9_readTwist 61 = .ok (.istore 4, 2) := by decide +kernel
theorem dd_X9_readTwist_63 : decode cX9_readTwist 63 = .ok (.aload_n 0, 1) := by decide +kernel
theorem dd_X9_readTwist_64 : decode cX9_readTwist 64 = .ok (.dup, 1) := by decide +kernel
theorem dd_X9_readTwist_65 : decode cX9_readTwist 65 = .ok (.getfield 186, 3) := by decide +kernel
theorem dd_X9_readTwist_68 : decode cX9_readTwist 68 = .ok (.iload 4, 2) := by decide +kernel
theorem dd_X9_readTwist_70 : decode cX9_readTwist 70 = .ok (.invokestatic 112, 3) := by decide +kernel
theorem dd_X9_readTwist_73 : decode cX9_readTwist 73 = .ok (.iadd, 1) := by decide +kernel
theorem dd_X9_readTwist_74 : decode cX9_readTwist 74 = .ok (.putfield 186, 3) := by decide +kernel
theorem dd_X9_readTwist_77 : decode cX9_readTwist 77 = .ok (.aload_n 0, 1) := by decide +kernel
theorem dd_X9_readTwist_78 : decode cX9_readTwist 78 = .ok (.aload_n 0, 1) := by decide +kernel
theorem dd_X9_readTwist_79 : decode cX9_readTwist 79 = .ok (.getfield 206, 3) := by decide +kernel
theorem dd_X9_readTwist_82 : decode cX9_readTwist 82 = .ok (.bipush 60, 2) := by decide +kernel
theorem dd_X9_readTwist_84 : decode cX9_readTwist 84 = .ok (.if_icmp .ge 7, 3) := by decide +kernel
theorem dd_X9_readTwist_87 : decode cX9_readTwist 87 = .ok (.iconst 1, 1) := by decide +kernel
theorem dd_X9_readTwist_88 : decode cX9_readTwist 88 = .ok (.goto 4, 3) := by decide +kernel
theorem dd_X9_readTwist_91 : decode cX9_readTwist 91 = .ok (.iconst 0, 1) := by decide +kernel
theorem dd_X9_readTwist_92 : decode cX9_readTwist 92 = .ok (.iconst 3, 1) := by decide +kernel
theorem dd_X9_readTwist_93 : decode cX9_readTwist 93 = .ok (.iload_n 2, 1) := by decide +kernel
theorem dd_X9_readTwist_94 : decode cX9_readTwist 94 = .ok (.invokevirtual 199, 3) := by decide +kernel
theorem dd_X9_readTwist_97 : decode cX9_readTwist 97 = .ok (.ifCond .eq 40, 3) := by decide +kernel
theorem dd_X9_readTwist_100 : decode cX9_readTwist 100 = .ok (.aload_n 0, 1) := by decide +kernel
theorem dd_X9_readTwist_101 : decode cX9_readTwist 101 = .ok (.getfield 47, 3) := by decide +kernel
theorem dd_X9_readTwist_104 : decode cX9_readTwist 104 = .ok (.aload_n 0, 1) := by decide +kernel
theorem dd_X9_readTwist_105 : decode cX9_readTwist 105 = .ok (.getfield 206, 3) := by decide +kernel
theorem dd_X9_readTwist_108 : decode cX9_readTwist 108 = .ok (.iconst 2, 1) := by decide +kernel
theorem dd_X9_readTwist_109 : decode cX9_readTwist 109 = .ok (.iload_n 1, 1) := by decide +kernel
theorem dd_X9_readTwist_110 : decode cX9_readTwist 110 = .ok (.aload_n 0, 1) := by decide +kernel
theorem dd_X9_readTwist_111 : decode cX9_readTwist 111 = .ok (.getfield 64, 3) := by decide +kernel
theorem dd_X9_readTwist_114 : decode cX9_readTwist 114 = .ok (.imul, 1) := by decide +kernel
theorem dd_X9_readTwist_115 : decode cX9_readTwist 115 = .ok (.iload_n 3, 1) := by decide +kernel
theorem dd_X9_readTwist_116 : decode cX9_readTwist 116 = .ok (.iadd, 1) := by decide +kernel
theorem dd_X9_readTwist_117 : decode cX9_readTwist 117 = .ok (.iconst 1, 1) := by decide +kernel
theorem dd_X9_readTwist_118 : decode cX9_readTwist 118 = .ok (.isub, 1) := by decide +kernel
theorem dd_X9_readTwist_119 : decode cX9_readTwist 119 = .ok (.imul, 1) := by decide +kernel
theorem dd_X9_readTwist_120 : decode cX9_readTwist 120 = .ok (.iload 4, 2) := by decide +kernel
theorem dd_X9_readTwist_122 : decode cX9_readTwist 122 = .ok (.invokestatic 112, 3) := by decide +kernel
theorem dd_X9_readTwist_125 : decode cX9_readTwist 125 = .ok (.iadd, 1) := by decide +kernel
theorem dd_X9_readTwist_126 : decode cX9_readTwist 126 = .ok (.iastore, 1) := by decide +kernel
theorem dd_X9_readTwist_127 : decode cX9_readTwist 127 = .ok (.aload_n 0, 1) := by decide +kernel
theorem dd_X9_readTwist_128 : decode cX9_readTwist 128 = .ok (.dup, 1) := by decide +kernel
theorem dd_X9_readTwist_129 : decode cX9_readTwist 129 = .ok (.getfield 206, 3) := by decide +kernel
theorem dd_X9_readTwist_132 : decode cX9_readTwist 132 = .ok (.iconst 1, 1) := by decide +kernel
theorem dd_X9_readTwist_133 : decode cX9_readTwist 133 = .ok (.iadd, 1) := by decide +kernel
theorem dd_X9_readTwist_134 : decode cX9_readTwist 134 = .ok (.putfield 206, 3) := by decide +kernel
theorem dd_X9_readTwist_137 : decode cX9_readTwist 137 = .ok (.return_, 1) := by decide +kernel
theorem gs_s118 : gs_sh 118 = .inr (.inl (0, 600)) := rfl
theorem fl_X9_206 : Cond.fieldLink RX9 206 (TX9 24).1 (TX9 24).2.1 (TX9 24).2.2.1 ∈ am_tbl := ri_lw_in (pl := 806) (by decide +kernel)
theorem fl_X9_47 : Cond.fieldLink RX9 47 (TX9 23).1 (TX9 23).2.1 (TX9 23).2.2.1 ∈ am_tbl := ri_lw_in (pl := 805) (by decide +kernel)
theorem ml_X9_203 : Cond.methodLink RX9 203 m_X9_takeFigure.1 ∈ am_tbl := ri_lw_in (pl := 1014) (by decide +kernel)
theorem ok_X9_readTwist : am_okM m_X9_readTwist 1 ∧ Cond.instanceMethod m_X9_readTwist.1 ∈ am_tbl ∧ Cond.selects m_X9_readTwist.1.cls m_X9_readTwist.1 m_X9_readTwist.1 ∈ am_tbl := ri_mk1 1013 93 1012 51 (by decide +kernel)
theorem c_X9_readTwist {k : Int} {F A : gs_F} (hI : gs_I F A) (hk : 0 ≤ k ∧ k ≤ 2) (hh : F 106 18 < F 106 17) : sC m_X9_readTwist 3 [.ref 106, gs_iv k] F A (fun rv F' A' => rv = none ∧ gs_I F' A' ∧ gs_fr (fun c j => c = 106 ∧ (j = 18 ∨ j = 19 ∨ j = 20 ∨ j = 24)) (fun c => c = 118) F A F' A' ∧ ((F 106 18 + 1 ≤ F' 106 18 ∨ 1 ≤ F' 106 19) ∧ F 106 18 ≤ F' 106 18 ∧ F 106 24 ≤ F' 106 24)) := by
  refine sC_of ok_X9_readTwist.1 (Nat.le_of_ble_eq_true rfl) ?_
  show sA _ _ _ 0 [(0, .ref 106), (1, gs_iv k)] [] F A
  have hf : gs_fr (fun c j => c = 106 ∧ (j = 18 ∨ j = 19 ∨ j = 20 ∨ j = 24)) (fun c => c = 118) F A F A := gs_fr_refl _ _ _ _
  have b1 : (0 : Int) ≤ F 106 18 ∧ F 106 18 ≤ 120 := hI.1 106 18
  have b2 : (0 : Int) ≤ F 106 17 ∧ F 106 17 ≤ 120 := hI.1 106 17
  have b3 : (0 : Int) ≤ F 106 19 ∧ F 106 19 ≤ 4 := hI.1 106 19
  have b4 : (0 : Int) ≤ F 106 24 ∧ F 106 24 ≤ 60 := hI.1 106 24
  have b5 : (0 : Int) ≤ F 106 22 ∧ F 106 22 ≤ 4 := hI.1 106 22
  have b6 : (1 : Int) ≤ F 106 0 ∧ F 106 0 ≤ 3 := hI.1 106 0
  have hb17 : (0 : Int) ≤ F 106 17 ∧ F 106 17 ≤ 120 := hI.1 106 17
  refine sA_aload_n dd_X9_readTwist_0 rfl (.head _) ?_
  refine sA_geti (ci := 9) (j := 18) (q := (RX9, TX9, 28)) dd_X9_readTwist_1 rfl (by decide) fl_X9_186 (by decide) gs_s106 rfl ?_
  refine sA_istore_n (lv' := [(2, gs_iv (F 106 18)), (0, .ref 106), (1, gs_iv k)]) dd_X9_readTwist_4 rfl (by decide) rfl ?_
  refine sA_aload_n dd_X9_readTwist_5 rfl (.tail _ (.head _)) ?_
  refine sA_dup dd_X9_readTwist_6 rfl ?_
  refine sA_geti (ci := 9) (j := 18) (q := (RX9, TX9, 28)) dd_X9_readTwist_7 rfl (by decide) fl_X9_186 (by decide) gs_s106 rfl ?_
  refine sA_iconst (z := 1) dd_X9_readTwist_10 ?_
  refine sA_iadd dd_X9_readTwist_11 ?_
  refine sA_put (ci := 9) (j := 18) (q := (RX9, TX9, 28)) (ty := .int) dd_X9_readTwist_12 rfl (by decide) fl_X9_186 rfl (tyX9_ok 18 (by decide)) rfl rfl (by decide) gs_s106 rfl ?_
  have I8 : gs_I (gs_up F 106 18 ((F 106 18) + 1)) A := gs_I_put hI (show (0 : Int) ≤ (F 106 18) + 1 ∧ (F 106 18) + 1 ≤ 120 by omega)
  have f9 := gs_fr_put hf (a := 106) (z := (F 106 18) + 1) (j := 18) (by first | omega | (dsimp only; omega) | (dsimp only))
  have v10 : gs_up F 106 18 ((F 106 18) + 1) 106 18 = (F 106 18) + 1 := gs_up_self _ _ _ _
  have v11 : (gs_up F 106 18 ((F 106 18) + 1)) 106 17 = F 106 17 := gs_up_ne _ _ (by omega)
  have v12 : (gs_up F 106 18 ((F 106 18) + 1)) 106 19 = F 106 19 := gs_up_ne _ _ (by omega)
  have v13 : (gs_up F 106 18 ((F 106 18) + 1)) 106 24 = F 106 24 := gs_up_ne _ _ (by omega)
  have v14 : (gs_up F 106 18 ((F 106 18) + 1)) 106 22 = F 106 22 := gs_up_ne _ _ (by omega)
  have v15 : (gs_up F 106 18 ((F 106 18) + 1)) 106 0 = F 106 0 := gs_up_ne _ _ (by omega)
  generalize gs_up F 106 18 ((F 106 18) + 1) = F7 at I8 f9 v10 v11 v12 v13 v14 v15 ⊢
  refine sA_aload_n dd_X9_readTwist_15 rfl (.tail _ (.head _)) ?_
  refine sA_iconst (z := 1) dd_X9_readTwist_16 ?_
  refine sA_iload_n dd_X9_readTwist_17 rfl (.tail _ (.tail _ (.head _))) ?_
  refine sA_iconst (z := 2) dd_X9_readTwist_18 ?_
  refine sA_icmp_ne (tgt := 31) dd_X9_readTwist_19 (by decide) (by omega) (by omega) (fun q16 => ?_) (fun q16 => ?_)
  · skip
    refine sA_aload_n dd_X9_readTwist_31 rfl (.tail _ (.head _)) ?_
    refine sA_geti (ci := 9) (j := 0) (q := (RX9, TX9, 28)) dd_X9_readTwist_32 rfl (by decide) fl_X9_64 (by decide) gs_s106 rfl ?_
    have b17 : (1 : Int) ≤ F7 106 0 ∧ F7 106 0 ≤ 3 := I8.1 106 0
    refine sA_callV (y2 := m_X9_takeFigure) (n2 := 2) (d2 := 2) (a := 106) (ci := 9) (q := (RX9, TX9, 28)) (as := [gs_iv 1, gs_iv (F7 106 0)]) (rest := []) dd_X9_readTwist_35 ok_X9_takeFigure ml_X9_203 rfl rfl (by decide) gs_s106 rfl rfl (Nat.le_of_ble_eq_true rfl) (by decide) (c_X9_takeFigure I8 (by omega) (by omega)) (fun r18 F19 A20 h21 => ?_)
    obtain ⟨z24, e23, I25, f26, x22⟩ := h21
    subst e23
    have v28 : F19 106 17 = F7 106 17 := f26.1 106 17 (by first | exact id | omega | (dsimp only; omega) | (dsimp only))
    have v30 : F19 106 24 = F7 106 24 := f26.1 106 24 (by first | exact id | omega | (dsimp only; omega) | (dsimp only))
    have v31 : F19 106 22 = F7 106 22 := f26.1 106 22 (by first | exact id | omega | (dsimp only; omega) | (dsimp only))
    have v32 : F19 106 0 = F7 106 0 := f26.1 106 0 (by first | exact id | omega | (dsimp only; omega) | (dsimp only))
    have f33 := gs_fr_tr f9 f26 (fun b j h => by first | exact False.elim h | omega | (dsimp only at h ⊢; omega)) (fun b h => by first | exact False.elim h | omega | (dsimp only at h ⊢; omega))
    show sA _ _ _ 38 _ [gs_iv z24] _ _
    refine sA_istore_n (lv' := [(3, gs_iv z24), (2, gs_iv (F 106 18)), (0, .ref 106), (1, gs_iv k)]) dd_X9_readTwist_38 rfl (by decide) rfl ?_
    refine sA_aload_n dd_X9_readTwist_39 rfl (.tail _ (.tail _ (.head _))) ?_
    refine sA_geti (ci := 9) (j := 19) (q := (RX9, TX9, 28)) dd_X9_readTwist_40 rfl (by decide) fl_X9_189 (by decide) gs_s106 rfl ?_
    have b34 : (0 : Int) ≤ F19 106 19 ∧ F19 106 19 ≤ 4 := I25.1 106 19
    refine sA_if_le (tgt := 47) dd_X9_readTwist_43 (by decide) (by omega) (fun q35 => ?_) (fun q35 => ?_)
    · skip
      refine sA_aload_n dd_X9_readTwist_47 rfl (.tail _ (.tail _ (.head _))) ?_
      refine sA_callV (y2 := m_X9_look) (n2 := 0) (d2 := 1) (a := 106) (ci := 9) (q := (RX9, TX9, 28)) (as := []) (rest := []) dd_X9_readTwist_48 ok_X9_look ml_X9_192 rfl rfl (by decide) gs_s106 rfl rfl (Nat.le_of_ble_eq_true rfl) (by decide) (c_X9_look I25 ) (fun r36 F37 A38 h39 => ?_)
      obtain ⟨z42, e41, I43, f44, x40⟩ := h39
      subst e41
      have v46 : F37 106 17 = F19 106 17 := f44.1 106 17 (by first | exact id | omega | (dsimp only; omega) | (dsimp only))
      have v47 : F37 106 19 = F19 106 19 := f44.1 106 19 (by first | exact id | omega | (dsimp only; omega) | (dsimp only))
      have v48 : F37 106 24 = F19 106 24 := f44.1 106 24 (by first | exact id | omega | (dsimp only; omega) | (dsimp only))
      have v49 : F37 106 22 = F19 106 22 := f44.1 106 22 (by first | exact id | omega | (dsimp only; omega) | (dsimp only))
      have v50 : F37 106 0 = F19 106 0 := f44.1 106 0 (by first | exact id | omega | (dsimp only; omega) | (dsimp only))
      have f51 := gs_fr_tr f33 f44 (fun b j h => by first | exact False.elim h | omega | (dsimp only at h ⊢; omega)) (fun b h => by first | exact False.elim h | omega | (dsimp only at h ⊢; omega))
      show sA _ _ _ 51 _ [gs_iv z42] _ _
      refine sA_bipush (z := 45) dd_X9_readTwist_51 (by decide) ?_
      refine sA_icmp_ne (tgt := 60) dd_X9_readTwist_53 (by decide) (by omega) (by omega) (fun q52 => ?_) (fun q52 => ?_)
      · skip
        refine sA_iconst (z := 0) dd_X9_readTwist_60 ?_
        refine sA_istore (lv' := [(4, gs_iv 0), (3, gs_iv z24), (2, gs_iv (F 106 18)), (0, .ref 106), (1, gs_iv k)]) dd_X9_readTwist_61 (by decide) rfl ?_
        refine sA_aload_n dd_X9_readTwist_63 rfl (.tail _ (.tail _ (.tail _ (.head _)))) ?_
        refine sA_dup dd_X9_readTwist_64 rfl ?_
        refine sA_geti (ci := 9) (j := 18) (q := (RX9, TX9, 28)) dd_X9_readTwist_65 rfl (by decide) fl_X9_186 (by decide) gs_s106 rfl ?_
        have b53 : (0 : Int) ≤ F37 106 18 ∧ F37 106 18 ≤ 120 := I43.1 106 18
        refine sA_iload dd_X9_readTwist_68 (.head _) ?_
        refine sA_callS (y2 := m_X9_bit) (n2 := 1) (d2 := 1) (as := [gs_iv 0]) (rest := [gs_iv (F37 106 18), .ref 106]) dd_X9_readTwist_70 ok_X9_bit ml_X9_112 rfl rfl (Nat.le_of_ble_eq_true rfl) (by decide) (c_X9_bit (by omega)) (fun r54 F55 A56 h57 => ?_)
        obtain ⟨z60, e59, e61, e62, x58⟩ := h57
        subst e59 e61 e62
        show sA _ _ _ 73 _ [gs_iv z60, gs_iv (F37 106 18), .ref 106] _ _
        refine sA_iadd dd_X9_readTwist_73 ?_
        refine sA_put (ci := 9) (j := 18) (q := (RX9, TX9, 28)) (ty := .int) dd_X9_readTwist_74 rfl (by decide) fl_X9_186 rfl (tyX9_ok 18 (by decide)) rfl rfl (by decide) gs_s106 rfl ?_
        have I64 : gs_I (gs_up F37 106 18 ((F37 106 18) + z60)) A38 := gs_I_put I43 (show (0 : Int) ≤ (F37 106 18) + z60 ∧ (F37 106 18) + z60 ≤ 120 by omega)
        have f65 := gs_fr_put f51 (a := 106) (z := (F37 106 18) + z60) (j := 18) (by first | omega | (dsimp only; omega) | (dsimp only))
        have v66 : gs_up F37 106 18 ((F37 106 18) + z60) 106 18 = (F37 106 18) + z60 := gs_up_self _ _ _ _
        have v67 : (gs_up F37 106 18 ((F37 106 18) + z60)) 106 17 = F37 106 17 := gs_up_ne _ _ (by omega)
        have v68 : (gs_up F37 106 18 ((F37 106 18) + z60)) 106 19 = F37 106 19 := gs_up_ne _ _ (by omega)
        have v69 : (gs_up F37 106 18 ((F37 106 18) + z60)) 106 24 = F37 106 24 := gs_up_ne _ _ (by omega)
        have v70 : (gs_up F37 106 18 ((F37 106 18) + z60)) 106 22 = F37 106 22 := gs_up_ne _ _ (by omega)
        have v71 : (gs_up F37 106 18 ((F37 106 18) + z60)) 106 0 = F37 106 0 := gs_up_ne _ _ (by omega)
        generalize gs_up F37 106 18 ((F37 106 18) + z60) = F63 at I64 f65 v66 v67 v68 v69 v70 v71 ⊢
        refine sA_aload_n dd_X9_readTwist_77 rfl (.tail _ (.tail _ (.tail _ (.head _)))) ?_
        refine sA_aload_n dd_X9_readTwist_78 rfl (.tail _ (.tail _ (.tail _ (.head _)))) ?_
        refine sA_geti (ci := 9) (j := 24) (q := (RX9, TX9, 28)) dd_X9_readTwist_79 rfl (by decide) fl_X9_206 (by decide) gs_s106 rfl ?_
        have b72 : (0 : Int) ≤ F63 106 24 ∧ F63 106 24 ≤ 60 := I64.1 106 24
        refine sA_bipush (z := 60) dd_X9_readTwist_82 (by decide) ?_
        refine sA_icmp_ge (tgt := 91) dd_X9_readTwist_84 (by decide) (by omega) (by omega) (fun q73 => ?_) (fun q73 => ?_)
        · skip
          refine sA_iconst (z := 0) dd_X9_readTwist_91 ?_
          refine sA_iconst (z := 3) dd_X9_readTwist_92 ?_
          refine sA_iload_n dd_X9_readTwist_93 rfl (.tail _ (.tail _ (.head _))) ?_
          refine sA_callV (y2 := m_X9_want) (n2 := 3) (d2 := 1) (a := 106) (ci := 9) (q := (RX9, TX9, 28)) (as := [gs_iv 0, gs_iv 3, gs_iv (F 106 18)]) (rest := []) dd_X9_readTwist_94 ok_X9_want ml_X9_199 rfl rfl (by decide) gs_s106 rfl rfl (Nat.le_of_ble_eq_true rfl) (by decide) (c_X9_want I64 (by omega) (by omega) (by omega)) (fun r74 F75 A76 h77 => ?_)
          obtain ⟨z80, e79, I81, f82, x78⟩ := h77
          subst e79
          have v83 : F75 106 18 = F63 106 18 := f82.1 106 18 (by first | exact id | omega | (dsimp only; omega) | (dsimp only))
          have v84 : F75 106 17 = F63 106 17 := f82.1 106 17 (by first | exact id | omega | (dsimp only; omega) | (dsimp only))
          have v86 : F75 106 24 = F63 106 24 := f82.1 106 24 (by first | exact id | omega | (dsimp only; omega) | (dsimp only))
          have v87 : F75 106 22 = F63 106 22 := f82.1 106 22 (by first | exact id | omega | (dsimp only; omega) | (dsimp only))
          have v88 : F75 106 0 = F63 106 0 := f82.1 106 0 (by first | exact id | omega | (dsimp only; omega) | (dsimp only))
          have f89 := gs_fr_tr f65 f82 (fun b j h => by first | exact False.elim h | omega | (dsimp only at h ⊢; omega)) (fun b h => by first | exact False.elim h | omega | (dsimp only at h ⊢; omega))
          show sA _ _ _ 97 _ [gs_iv z80] _ _
          refine sA_if_eq (tgt := 137) dd_X9_readTwist_97 (by decide) (by omega) (fun q90 => ?_) (fun q90 => ?_)
          · skip
            refine sA_vret dd_X9_readTwist_137 rfl ?_
            exact ⟨rfl, I81, f89, by omega⟩
          · skip
            refine sA_aload_n dd_X9_readTwist_100 rfl (.tail _ (.tail _ (.tail _ (.head _)))) ?_
            refine sA_getr (ci := 9) (j := 23) (q := (RX9, TX9, 28)) dd_X9_readTwist_101 rfl (by decide) fl_X9_47 (by decide) gs_s106 rfl ?_
            refine sA_aload_n dd_X9_readTwist_104 rfl (.tail _ (.tail _ (.tail _ (.head _)))) ?_
            refine sA_geti (ci := 9) (j := 24) (q := (RX9, TX9, 28)) dd_X9_readTwist_105 rfl (by decide) fl_X9_206 (by decide) gs_s106 rfl ?_
            have b91 : (0 : Int) ≤ F75 106 24 ∧ F75 106 24 ≤ 60 := I81.1 106 24
            refine sA_iconst (z := 2) dd_X9_readTwist_108 ?_
            refine sA_iload_n dd_X9_readTwist_109 rfl (.tail _ (.tail _ (.tail _ (.tail _ (.head _))))) ?_
            refine sA_aload_n dd_X9_readTwist_110 rfl (.tail _ (.tail _ (.tail _ (.head _)))) ?_
            refine sA_geti (ci := 9) (j := 0) (q := (RX9, TX9, 28)) dd_X9_readTwist_111 rfl (by decide) fl_X9_64 (by decide) gs_s106 rfl ?_
            have b92 : (1 : Int) ≤ F75 106 0 ∧ F75 106 0 ≤ 3 := I81.1 106 0
            refine sA_imul dd_X9_readTwist_114 ?_
            refine sA_iload_n dd_X9_readTwist_115 rfl (.tail _ (.head _)) ?_
            refine sA_iadd dd_X9_readTwist_116 ?_
            refine sA_iconst (z := 1) dd_X9_readTwist_117 ?_
            refine sA_isub dd_X9_readTwist_118 ?_
            refine sA_imul dd_X9_readTwist_119 ?_
            refine sA_iload dd_X9_readTwist_120 (.head _) ?_
            refine sA_callS (y2 := m_X9_bit) (n2 := 1) (d2 := 1) (as := [gs_iv 0]) (rest := [gs_iv (2 * (((k * (F75 106 0)) + z24) - 1)), gs_iv (F75 106 24), .ref 118]) dd_X9_readTwist_122 ok_X9_bit ml_X9_112 rfl rfl (Nat.le_of_ble_eq_true rfl) (by decide) (c_X9_bit (by omega)) (fun r93 F94 A95 h96 => ?_)
            obtain ⟨z99, e98, e100, e101, x97⟩ := h96
            subst e98 e100 e101
            show sA _ _ _ 125 _ [gs_iv z99, gs_iv (2 * (((k * (F75 106 0)) + z24) - 1)), gs_iv (F75 106 24), .ref 118] _ _
            refine sA_iadd dd_X9_readTwist_125 ?_
            refine sA_wrap ?_
            have b103 := gs_w_rng ((2 * (((k * (F75 106 0)) + z24) - 1)) + z99)
            generalize gs_w ((2 * (((k * (F75 106 0)) + z24) - 1)) + z99) = w102 at b103 ⊢
            refine sA_iast (n := 600) dd_X9_readTwist_126 (by decide) gs_s118 (by omega) (by decide) ?_
            have I105 : gs_I F75 (gs_up A76 118 ((F75 106 24).toNat) w102) := gs_I_ast I81 (show (-2147483648 : Int) ≤ w102 ∧ w102 ≤ 2147483647 by omega)
            have f106 := gs_fr_ast f89 (a := 118) (z := w102) (i := (F75 106 24).toNat) (by first | omega | (dsimp only; omega) | (dsimp only))
            generalize gs_up A76 118 ((F75 106 24).toNat) w102 = A104 at I105 f106 ⊢
            refine sA_aload_n dd_X9_readTwist_127 rfl (.tail _ (.tail _ (.tail _ (.head _)))) ?_
            refine sA_dup dd_X9_readTwist_128 rfl ?_
            refine sA_geti (ci := 9) (j := 24) (q := (RX9, TX9, 28)) dd_X9_readTwist_129 rfl (by decide) fl_X9_206 (by decide) gs_s106 rfl ?_
            refine sA_iconst (z := 1) dd_X9_readTwist_132 ?_
            refine sA_iadd dd_X9_readTwist_133 ?_
            refine sA_put (ci := 9) (j := 24) (q := (RX9, TX9, 28)) (ty := .int) dd_X9_readTwist_134 rfl (by decide) fl_X9_206 rfl (tyX9_ok 24 (by decide)) rfl rfl (by decide) gs_s106 rfl ?_
            have I108 : gs_I (gs_up F75 106 24 ((F75 106 24) + 1)) A104 := gs_I_put I105 (show (0 : Int) ≤ (F75 106 24) + 1 ∧ (F75 106 24) + 1 ≤ 60 by omega)
            have f109 := gs_fr_put f106 (a := 106) (z := (F75 106 24) + 1) (j := 24) (by first | omega | (dsimp only; omega) | (dsimp only))
            have v110 : gs_up F75 106 24 ((F75 106 24) + 1) 106 24 = (F75 106 24) + 1 := gs_up_self _ _ _ _
            have v111 : (gs_up F75 106 24 ((F75 106 24) + 1)) 106 18 = F75 106 18 := gs_up_ne _ _ (by omega)
            have v112 : (gs_up F75 106 24 ((F75 106 24) + 1)) 106 17 = F75 106 17 := gs_up_ne _ _ (by omega)
            have v113 : (gs_up F75 106 24 ((F75 106 24) + 1)) 106 19 = F75 106 19 := gs_up_ne _ _ (by omega)
            have v114 : (gs_up F75 106 24 ((F75 106 24) + 1)) 106 22 = F75 106 22 := gs_up_ne _ _ (by omega)
            have v115 : (gs_up F75 106 24 ((F75 106 24) + 1)) 106 0 = F75 106 0 := gs_up_ne _ _ (by omega)
            generalize gs_up F75 106 24 ((F75 106 24) + 1) = F107 at I108 f109 v110 v111 v112 v113 v114 v115 ⊢
            refine sA_vret dd_X9_readTwist_137 rfl ?_
            exact ⟨rfl, I108, f109, by omega⟩
        · skip
          refine sA_iconst (z := 1) dd_X9_readTwist_87 ?_
          refine sA_goto (tgt := 92) dd_X9_readTwist_88 (by decide) ?_
          refine sA_iconst (z := 3) dd_X9_readTwist_92 ?_
          refine sA_iload_n dd_X9_readTwist_93 rfl (.tail _ (.tail _ (.head _))) ?_
          refine sA_callV (y2 := m_X9_want) (n2 := 3) (d2 := 1) (a := 106) (ci := 9) (q := (RX9, TX9, 28)) (as := [gs_iv 1, gs_iv 3, gs_iv (F 106 18)]) (rest := []) dd_X9_readTwist_94 ok_X9_want ml_X9_199 rfl rfl (by decide) gs_s106 rfl rfl (Nat.le_of_ble_eq_true rfl) (by decide) (c_X9_want I64 (by omega) (by omega) (by omega)) (fun r116 F117 A118 h119 => ?_)
          obtain ⟨z122, e121, I123, f124, x120⟩ := h119
          subst e121
          have v125 : F117 106 18 = F63 106 18 := f124.1 106 18 (by first | exact id | omega | (dsimp only; omega) | (dsimp only))
          have v126 : F117 106 17 = F63 106 17 := f124.1 106 17 (by first | exact id | omega | (dsimp only; omega) | (dsimp only))
          have v128 : F117 106 24 = F63 106 24 := f124.1 106 24 (by first | exact id | omega | (dsimp only; omega) | (dsimp only))
          have v129 : F117 106 22 = F63 106 22 := f124.1 106 22 (by first | exact id | omega | (dsimp only; omega) | (dsimp only))
          have v130 : F117 106 0 = F63 106 0 := f124.1 106 0 (by first | exact id | omega | (dsimp only; omega) | (dsimp only))
          have f131 := gs_fr_tr f65 f124 (fun b j h => by first | exact False.elim h | omega | (dsimp only at h ⊢; omega)) (fun b h => by first | exact False.elim h | omega | (dsimp only at h ⊢; omega))
          show sA _ _ _ 97 _ [gs_iv z122] _ _
          refine sA_if_eq (tgt := 137) dd_X9_readTwist_97 (by decide) (by omega) (fun q132 => ?_) (fun q132 => ?_)
          · skip
            refine sA_vret dd_X9_readTwist_137 rfl ?_
            exact ⟨rfl, I123, f131, by omega⟩
          · skip
            refine sA_aload_n dd_X9_readTwist_100 rfl (.tail _ (.tail _ (.tail _ (.head _)))) ?_
            refine sA_getr (ci := 9) (j := 23) (q := (RX9, TX9, 28)) dd_X9_readTwist_101 rfl (by decide) fl_X9_47 (by decide) gs_s106 rfl ?_
            refine sA_aload_n dd_X9_readTwist_104 rfl (.tail _ (.tail _ (.tail _ (.head _)))) ?_
            refine sA_geti (ci := 9) (j := 24) (q := (RX9, TX9, 28)) dd_X9_readTwist_105 rfl (by decide) fl_X9_206 (by decide) gs_s106 rfl ?_
            have b133 : (0 : Int) ≤ F117 106 24 ∧ F117 106 24 ≤ 60 := I123.1 106 24
            refine sA_iconst (z := 2) dd_X9_readTwist_108 ?_
            refine sA_iload_n dd_X9_readTwist_109 rfl (.tail _ (.tail _ (.tail _ (.tail _ (.head _))))) ?_
            refine sA_aload_n dd_X9_readTwist_110 rfl (.tail _ (.tail _ (.tail _ (.head _)))) ?_
            refine sA_geti (ci := 9) (j := 0) (q := (RX9, TX9, 28)) dd_X9_readTwist_111 rfl (by decide) fl_X9_64 (by decide) gs_s106 rfl ?_
            have b134 : (1 : Int) ≤ F117 106 0 ∧ F117 106 0 ≤ 3 := I123.1 106 0
            refine sA_imul dd_X9_readTwist_114 ?_
            refine sA_iload_n dd_X9_readTwist_115 rfl (.tail _ (.head _)) ?_
            refine sA_iadd dd_X9_readTwist_116 ?_
            refine sA_iconst (z := 1) dd_X9_readTwist_117 ?_
            refine sA_isub dd_X9_readTwist_118 ?_
            refine sA_imul dd_X9_readTwist_119 ?_
            refine sA_iload dd_X9_readTwist_120 (.head _) ?_
            refine sA_callS (y2 := m_X9_bit) (n2 := 1) (d2 := 1) (as := [gs_iv 0]) (rest := [gs_iv (2 * (((k * (F117 106 0)) + z24) - 1)), gs_iv (F117 106 24), .ref 118]) dd_X9_readTwist_122 ok_X9_bit ml_X9_112 rfl rfl (Nat.le_of_ble_eq_true rfl) (by decide) (c_X9_bit (by omega)) (fun r135 F136 A137 h138 => ?_)
            obtain ⟨z141, e140, e142, e143, x139⟩ := h138
            subst e140 e142 e143
            show sA _ _ _ 125 _ [gs_iv z141, gs_iv (2 * (((k * (F117 106 0)) + z24) - 1)), gs_iv (F117 106 24), .ref 118] _ _
            refine sA_iadd dd_X9_readTwist_125 ?_
            refine sA_wrap ?_
            have b145 := gs_w_rng ((2 * (((k * (F117 106 0)) + z24) - 1)) + z141)
            generalize gs_w ((2 * (((k * (F117 106 0)) + z24) - 1)) + z141) = w144 at b145 ⊢
            refine sA_iast (n := 600) dd_X9_readTwist_126 (by decide) gs_s118 (by omega) (by decide) ?_
            have I147 : gs_I F117 (gs_up A118 118 ((F117 106 24).toNat) w144) := gs_I_ast I123 (show (-2147483648 : Int) ≤ w144 ∧ w144 ≤ 2147483647 by omega)
            have f148 := gs_fr_ast f131 (a := 118) (z := w144) (i := (F117 106 24).toNat) (by first | omega | (dsimp only; omega) | (dsimp only))
            generalize gs_up A118 118 ((F117 106 24).toNat) w144 = A146 at I147 f148 ⊢
            refine sA_aload_n dd_X9_readTwist_127 rfl (.tail _ (.tail _ (.tail _ (.head _)))) ?_
            refine sA_dup dd_X9_readTwist_128 rfl ?_
            refine sA_geti (ci := 9) (j := 24) (q := (RX9, TX9, 28)) dd_X9_readTwist_129 rfl (by decide) fl_X9_206 (by decide) gs_s106 rfl ?_
            refine sA_iconst (z := 1) dd_X9_readTwist_132 ?_
            refine sA_iadd dd_X9_readTwist_133 ?_
            refine sA_put (ci := 9) (j := 24) (q := (RX9, TX9, 28)) (ty := .int) dd_X9_readTwist_134 rfl (by decide) fl_X9_206 rfl (tyX9_ok 24 (by decide)) rfl rfl (by decide) gs_s106 rfl ?_
            have I150 : gs_I (gs_up F117 106 24 ((F117 106 24) + 1)) A146 := gs_I_put I147 (show (0 : Int) ≤ (F117 106 24) + 1 ∧ (F117 106 24) + 1 ≤ 60 by omega)
            have f151 := gs_fr_put f148 (a := 106) (z := (F117 106 24) + 1) (j := 24) (by first | omega | (dsimp only; omega) | (dsimp only))
            have v152 : gs_up F117 106 24 ((F117 106 24) + 1) 106 24 = (F117 106 24) + 1 := gs_up_self _ _ _ _
            have v153 : (gs_up F117 106 24 ((F117 106 24) + 1)) 106 18 = F117 106 18 := gs_up_ne _ _ (by omega)
            have v154 : (gs_up F117 106 24 ((F117 106 24) + 1)) 106 17 = F117 106 17 := gs_up_ne _ _ (by omega)
            have v155 : (gs_up F117 106 24 ((F117 106 24) + 1)) 106 19 = F117 106 19 := gs_up_ne _ _ (by omega)
            have v156 : (gs_up F117 106 24 ((F117 106 24) + 1)) 106 22 = F117 106 22 := gs_up_ne _ _ (by omega)
            have v157 : (gs_up F117 106 24 ((F117 106 24) + 1)) 106 0 = F117 106 0 := gs_up_ne _ _ (by omega)
            generalize gs_up F117 106 24 ((F117 106 24) + 1) = F149 at I150 f151 v152 v153 v154 v155 v156 v157 ⊢
            refine sA_vret dd_X9_readTwist_137 rfl ?_
            exact ⟨rfl, I150, f151, by omega⟩
      · skip
        refine sA_iconst (z := 1) dd_X9_readTwist_56 ?_
        refine sA_goto (tgt := 61) dd_X9_readTwist_57 (by decide) ?_
        refine sA_istore (lv' := [(4, gs_iv 1), (3, gs_iv z24), (2, gs_iv (F 106 18)), (0, .ref 106), (1, gs_iv k)]) dd_X9_readTwist_61 (by decide) rfl ?_
        refine sA_aload_n dd_X9_readTwist_63 rfl (.tail _ (.tail _ (.tail _ (.head _)))) ?_
        refine sA_dup dd_X9_readTwist_64 rfl ?_
        refine sA_geti (ci := 9) (j := 18) (q := (RX9, TX9, 28)) dd_X9_readTwist_65 rfl (by decide) fl_X9_186 (by decide) gs_s106 rfl ?_
        have b158 : (0 : Int) ≤ F37 106 18 ∧ F37 106 18 ≤ 120 := I43.1 106 18
        refine sA_iload dd_X9_readTwist_68 (.head _) ?_
        refine sA_callS (y2 := m_X9_bit) (n2 := 1) (d2 := 1) (as := [gs_iv 1]) (rest := [gs_iv (F37 106 18), .ref 106]) dd_X9_readTwist_70 ok_X9_bit ml_X9_112 rfl rfl (Nat.le_of_ble_eq_true rfl) (by decide) (c_X9_bit (by omega)) (fun r159 F160 A161 h162 => ?_)
        obtain ⟨z165, e164, e166, e167, x163⟩ := h162
        subst e164 e166 e167
        show sA _ _ _ 73 _ [gs_iv z165, gs_iv (F37 106 18), .ref 106] _ _
        refine sA_iadd dd_X9_readTwist_73 ?_
        refine sA_put (ci := 9) (j := 18) (q := (RX9, TX9, 28)) (ty := .int) dd_X9_readTwist_74 rfl (by decide) fl_X9_186 rfl (tyX9_ok 18 (by decide)) rfl rfl (by decide) gs_s106 rfl ?_
        have I169 : gs_I (gs_up F37 106 18 ((F37 106 18) + z165)) A38 := gs_I_put I43 (show (0 : Int) ≤ (F37 106 18) + z165 ∧ (F37 106 18) + z165 ≤ 120 by omega)
        have f170 := gs_fr_put f51 (a := 106) (z := (F37 106 18) + z165) (j := 18) (by first | omega | (dsimp only; omega) | (dsimp only))
        have v171 : gs_up F37 106 18 ((F37 106 18) + z165) 106 18 = (F37 106 18) + z165 := gs_up_self _ _ _ _
        have v172 : (gs_up F37 106 18 ((F37 106 18) + z165)) 106 17 = F37 106 17 := gs_up_ne _ _ (by omega)
        have v173 : (gs_up F37 106 18 ((F37 106 18) + z165)) 106 19 = F37 106 19 := gs_up_ne _ _ (by omega)
        have v174 : (gs_up F37 106 18 ((F37 106 18) + z165)) 106 24 = F37 106 24 := gs_up_ne _ _ (by omega)
        have v175 : (gs_up F37 106 18 ((F37 106 18) + z165)) 106 22 = F37 106 22 := gs_up_ne _ _ (by omega)
        have v176 : (gs_up F37 106 18 ((F37 106 18) + z165)) 106 0 = F37 106 0 := gs_up_ne _ _ (by omega)
        generalize gs_up F37 106 18 ((F37 106 18) + z165) = F168 at I169 f170 v171 v172 v173 v174 v175 v176 ⊢
        refine sA_aload_n dd_X9_readTwist_77 rfl (.tail _ (.tail _ (.tail _ (.head _)))) ?_
        refine sA_aload_n dd_X9_readTwist_78 rfl (.tail _ (.tail _ (.tail _ (.head _)))) ?_
        refine sA_geti (ci := 9) (j := 24) (q := (RX9, TX9, 28)) dd_X9_readTwist_79 rfl (by decide) fl_X9_206 (by decide) gs_s106 rfl ?_
        have b177 : (0 : Int) ≤ F168 106 24 ∧ F168 106 24 ≤ 60 := I169.1 106 24
        refine sA_bipush (z := 60) dd_X9_readTwist_82 (by decide) ?_
        refine sA_icmp_ge (tgt := 91) dd_X9_readTwist_84 (by decide) (by omega) (by omega) (fun q178 => ?_) (fun q178 => ?_)
        · skip
          refine sA_iconst (z := 0) dd_X9_readTwist_91 ?_
          refine sA_iconst (z := 3) dd_X9_readTwist_92 ?_
          refine sA_iload_n dd_X9_readTwist_93 rfl (.tail _ (.tail _ (.head _))) ?_
          refine sA_callV (y2 := m_X9_want) (n2 := 3) (d2 := 1) (a := 106) (ci := 9) (q := (RX9, TX9, 28)) (as := [gs_iv 0, gs_iv 3, gs_iv (F 106 18)]) (rest := []) dd_X9_readTwist_94 ok_X9_want ml_X9_199 rfl rfl (by decide) gs_s106 rfl rfl (Nat.le_of_ble_eq_true rfl) (by decide) (c_X9_want I169 (by omega) (by omega) (by omega)) (fun r179 F180 A181 h182 => ?_)
          obtain ⟨z185, e184, I186, f187, x183⟩ := h182
          subst e184
          have v188 : F180 106 18 = F168 106 18 := f187.1 106 18 (by first | exact id | omega | (dsimp only; omega) | (dsimp only))
          have v189 : F180 106 17 = F168 106 17 := f187.1 106 17 (by first | exact id | omega | (dsimp only; omega) | (dsimp only))
          have v191 : F180 106 24 = F168 106 24 := f187.1 106 24 (by first | exact id | omega | (dsimp only; omega) | (dsimp only))
          have v192 : F180 106 22 = F168 106 22 := f187.1 106 22 (by first | exact id | omega | (dsimp only; omega) | (dsimp only))
          have v193 : F180 106 0 = F168 106 0 := f187.1 106 0 (by first | exact id | omega | (dsimp only; omega) | (dsimp only))
          have f194 := gs_fr_tr f170 f187 (fun b j h => by first | exact False.elim h | omega | (dsimp only at h ⊢; omega)) (fun b h => by first | exact False.elim h | omega | (dsimp only at h ⊢; omega))
          show sA _ _ _ 97 _ [gs_iv z185] _ _
          refine sA_if_eq (tgt := 137) dd_X9_readTwist_97 (by decide) (by omega) (fun q195 => ?_) (fun q195 => ?_)
          · skip
            refine sA_vret dd_X9_readTwist_137 rfl ?_
            exact ⟨rfl, I186, f194, by omega⟩
          · skip
            refine sA_aload_n dd_X9_readTwist_100 rfl (.tail _ (.tail _ (.tail _ (.head _)))) ?_
            refine sA_getr (ci := 9) (j := 23) (q := (RX9, TX9, 28)) dd_X9_readTwist_101 rfl (by decide) fl_X9_47 (by decide) gs_s106 rfl ?_
            refine sA_aload_n dd_X9_readTwist_104 rfl (.tail _ (.tail _ (.tail _ (.head _)))) ?_
            refine sA_geti (ci := 9) (j := 24) (q := (RX9, TX9, 28)) dd_X9_readTwist_105 rfl (by decide) fl_X9_206 (by decide) gs_s106 rfl ?_
            have b196 : (0 : Int) ≤ F180 106 24 ∧ F180 106 24 ≤ 60 := I186.1 106 24
            refine sA_iconst (z := 2) dd_X9_readTwist_108 ?_
            refine sA_iload_n dd_X9_readTwist_109 rfl (.tail _ (.tail _ (.tail _ (.tail _ (.head _))))) ?_
            refine sA_aload_n dd_X9_readTwist_110 rfl (.tail _ (.tail _ (.tail _ (.head _)))) ?_
            refine sA_geti (ci := 9) (j := 0) (q := (RX9, TX9, 28)) dd_X9_readTwist_111 rfl (by decide) fl_X9_64 (by decide) gs_s106 rfl ?_
            have b197 : (1 : Int) ≤ F180 106 0 ∧ F180 106 0 ≤ 3 := I186.1 106 0
            refine sA_imul dd_X9_readTwist_114 ?_
            refine sA_iload_n dd_X9_readTwist_115 rfl (.tail _ (.head _)) ?_
            refine sA_iadd dd_X9_readTwist_116 ?_
            refine sA_iconst (z := 1) dd_X9_readTwist_117 ?_
            refine sA_isub dd_X9_readTwist_118 ?_
            refine sA_imul dd_X9_readTwist_119 ?_
            refine sA_iload dd_X9_readTwist_120 (.head _) ?_
            refine sA_callS (y2 := m_X9_bit) (n2 := 1) (d2 := 1) (as := [gs_iv 1]) (rest := [gs_iv (2 * (((k * (F180 106 0)) + z24) - 1)), gs_iv (F180 106 24), .ref 118]) dd_X9_readTwist_122 ok_X9_bit ml_X9_112 rfl rfl (Nat.le_of_ble_eq_true rfl) (by decide) (c_X9_bit (by omega)) (fun r198 F199 A200 h201 => ?_)
            obtain ⟨z204, e203, e205, e206, x202⟩ := h201
            subst e203 e205 e206
            show sA _ _ _ 125 _ [gs_iv z204, gs_iv (2 * (((k * (F180 106 0)) + z24) - 1)), gs_iv (F180 106 24), .ref 118] _ _
            refine sA_iadd dd_X9_readTwist_125 ?_
            refine sA_wrap ?_
            have b208 := gs_w_rng ((2 * (((k * (F180 106 0)) + z24) - 1)) + z204)
            generalize gs_w ((2 * (((k * (F180 106 0)) + z24) - 1)) + z204) = w207 at b208 ⊢
            refine sA_iast (n := 600) dd_X9_readTwist_126 (by decide) gs_s118 (by omega) (by decide) ?_
            have I210 : gs_I F180 (gs_up A181 118 ((F180 106 24).toNat) w207) := gs_I_ast I186 (show (-2147483648 : Int) ≤ w207 ∧ w207 ≤ 2147483647 by omega)
            have f211 := gs_fr_ast f194 (a := 118) (z := w207) (i := (F180 106 24).toNat) (by first | omega | (dsimp only; omega) | (dsimp only))
            generalize gs_up A181 118 ((F180 106 24).toNat) w207 = A209 at I210 f211 ⊢
            refine sA_aload_n dd_X9_readTwist_127 rfl (.tail _ (.tail _ (.tail _ (.head _)))) ?_
            refine sA_dup dd_X9_readTwist_128 rfl ?_
            refine sA_geti (ci := 9) (j := 24) (q := (RX9, TX9, 28)) dd_X9_readTwist_129 rfl (by decide) fl_X9_206 (by decide) gs_s106 rfl ?_
            refine sA_iconst (z := 1) dd_X9_readTwist_132 ?_
            refine sA_iadd dd_X9_readTwist_133 ?_
            refine sA_put (ci := 9) (j := 24) (q := (RX9, TX9, 28)) (ty := .int) dd_X9_readTwist_134 rfl (by decide) fl_X9_206 rfl (tyX9_ok 24 (by decide)) rfl rfl (by decide) gs_s106 rfl ?_
            have I213 : gs_I (gs_up F180 106 24 ((F180 106 24) + 1)) A209 := gs_I_put I210 (show (0 : Int) ≤ (F180 106 24) + 1 ∧ (F180 106 24) + 1 ≤ 60 by omega)
            have f214 := gs_fr_put f211 (a := 106) (z := (F180 106 24) + 1) (j := 24) (by first | omega | (dsimp only; omega) | (dsimp only))
            have v215 : gs_up F180 106 24 ((F180 106 24) + 1) 106 24 = (F180 106 24) + 1 := gs_up_self _ _ _ _
            have v216 : (gs_up F180 106 24 ((F180 106 24) + 1)) 106 18 = F180 106 18 := gs_up_ne _ _ (by omega)
            have v217 : (gs_up F180 106 24 ((F180 106 24) + 1)) 106 17 = F180 106 17 := gs_up_ne _ _ (by omega)
            have v218 : (gs_up F180 106 24 ((F180 106 24) + 1)) 106 19 = F180 106 19 := gs_up_ne _ _ (by omega)
            have v219 : (gs_up F180 106 24 ((F180 106 24) + 1)) 106 22 = F180 106 22 := gs_up_ne _ _ (by omega)
            have v220 : (gs_up F180 106 24 ((F180 106 24) + 1)) 106 0 = F180 106 0 := gs_up_ne _ _ (by omega)
            generalize gs_up F180 106 24 ((F180 106 24) + 1) = F212 at I213 f214 v215 v216 v217 v218 v219 v220 ⊢
            refine sA_vret dd_X9_readTwist_137 rfl ?_
            exact ⟨rfl, I213, f214, by omega⟩
        · skip
          refine sA_iconst (z := 1) dd_X9_readTwist_87 ?_
          refine sA_goto (tgt := 92) dd_X9_readTwist_88 (by decide) ?_
          refine sA_iconst (z := 3) dd_X9_readTwist_92 ?_
          refine sA_iload_n dd_X9_readTwist_93 rfl (.tail _ (.tail _ (.head _))) ?_
          refine sA_callV (y2 := m_X9_want) (n2 := 3) (d2 := 1) (a := 106) (ci := 9) (q := (RX9, TX9, 28)) (as := [gs_iv 1, gs_iv 3, gs_iv (F 106 18)]) (rest := []) dd_X9_readTwist_94 ok_X9_want ml_X9_199 rfl rfl (by decide) gs_s106 rfl rfl (Nat.le_of_ble_eq_true rfl) (by decide) (c_X9_want I169 (by omega) (by omega) (by omega)) (fun r221 F222 A223 h224 => ?_)
          obtain ⟨z227, e226, I228, f229, x225⟩ := h224
          subst e226
          have v230 : F222 106 18 = F168 106 18 := f229.1 106 18 (by first | exact id | omega | (dsimp only; omega) | (dsimp only))
          have v231 : F222 106 17 = F168 106 17 := f229.1 106 17 (by first | exact id | omega | (dsimp only; omega) | (dsimp only))
          have v233 : F222 106 24 = F168 106 24 := f229.1 106 24 (by first | exact id | omega | (dsimp only; omega) | (dsimp only))
          have v234 : F222 106 22 = F168 106 22 := f229.1 106 22 (by first | exact id | omega | (dsimp only; omega) | (dsimp only))
          have v235 : F222 106 0 = F168 106 0 := f229.1 106 0 (by first | exact id | omega | (dsimp only; omega) | (dsimp only))
          have f236 := gs_fr_tr f170 f229 (fun b j h => by first | exact False.elim h | omega | (dsimp only at h ⊢; omega)) (fun b h => by first | exact False.elim h | omega | (dsimp only at h ⊢; omega))
          show sA _ _ _ 97 _ [gs_iv z227] _ _
          refine sA_if_eq (tgt := 137) dd_X9_readTwist_97 (by decide) (by omega) (fun q237 => ?_) (fun q237 => ?_)
          · skip
            refine sA_vret dd_X9_readTwist_137 rfl ?_
            exact ⟨rfl, I228, f236, by omega⟩
          · skip
            refine sA_aload_n dd_X9_readTwist_100 rfl (.tail _ (.tail _ (.tail _ (.head _)))) ?_
            refine sA_getr (ci := 9) (j := 23) (q := (RX9, TX9, 28)) dd_X9_readTwist_101 rfl (by decide) fl_X9_47 (by decide) gs_s106 rfl ?_
            refine sA_aload_n dd_X9_readTwist_104 rfl (.tail _ (.tail _ (.tail _ (.head _)))) ?_
            refine sA_geti (ci := 9) (j := 24) (q := (RX9, TX9, 28)) dd_X9_readTwist_105 rfl (by decide) fl_X9_206 (by decide) gs_s106 rfl ?_
            have b238 : (0 : Int) ≤ F222 106 24 ∧ F222 106 24 ≤ 60 := I228.1 106 24
            refine sA_iconst (z := 2) dd_X9_readTwist_108 ?_
            refine sA_iload_n dd_X9_readTwist_109 rfl (.tail _ (.tail _ (.tail _ (.tail _ (.head _))))) ?_
            refine sA_aload_n dd_X9_readTwist_110 rfl (.tail _ (.tail _ (.tail _ (.head _)))) ?_
            refine sA_geti (ci := 9) (j := 0) (q := (RX9, TX9, 28)) dd_X9_readTwist_111 rfl (by decide) fl_X9_64 (by decide) gs_s106 rfl ?_
            have b239 : (1 : Int) ≤ F222 106 0 ∧ F222 106 0 ≤ 3 := I228.1 106 0
            refine sA_imul dd_X9_readTwist_114 ?_
            refine sA_iload_n dd_X9_readTwist_115 rfl (.tail _ (.head _)) ?_
            refine sA_iadd dd_X9_readTwist_116 ?_
            refine sA_iconst (z := 1) dd_X9_readTwist_117 ?_
            refine sA_isub dd_X9_readTwist_118 ?_
            refine sA_imul dd_X9_readTwist_119 ?_
            refine sA_iload dd_X9_readTwist_120 (.head _) ?_
            refine sA_callS (y2 := m_X9_bit) (n2 := 1) (d2 := 1) (as := [gs_iv 1]) (rest := [gs_iv (2 * (((k * (F222 106 0)) + z24) - 1)), gs_iv (F222 106 24), .ref 118]) dd_X9_readTwist_122 ok_X9_bit ml_X9_112 rfl rfl (Nat.le_of_ble_eq_true rfl) (by decide) (c_X9_bit (by omega)) (fun r240 F241 A242 h243 => ?_)
            obtain ⟨z246, e245, e247, e248, x244⟩ := h243
            subst e245 e247 e248
            show sA _ _ _ 125 _ [gs_iv z246, gs_iv (2 * (((k * (F222 106 0)) + z24) - 1)), gs_iv (F222 106 24), .ref 118] _ _
            refine sA_iadd dd_X9_readTwist_125 ?_
            refine sA_wrap ?_
            have b250 := gs_w_rng ((2 * (((k * (F222 106 0)) + z24) - 1)) + z246)
            generalize gs_w ((2 * (((k * (F222 106 0)) + z24) - 1)) + z246) = w249 at b250 ⊢
            refine sA_iast (n := 600) dd_X9_readTwist_126 (by decide) gs_s118 (by omega) (by decide) ?_
            have I252 : gs_I F222 (gs_up A223 118 ((F222 106 24).toNat) w249) := gs_I_ast I228 (show (-2147483648 : Int) ≤ w249 ∧ w249 ≤ 2147483647 by omega)
            have f253 := gs_fr_ast f236 (a := 118) (z := w249) (i := (F222 106 24).toNat) (by first | omega | (dsimp only; omega) | (dsimp only))
            generalize gs_up A223 118 ((F222 106 24).toNat) w249 = A251 at I252 f253 ⊢
            refine sA_aload_n dd_X9_readTwist_127 rfl (.tail _ (.tail _ (.tail _ (.head _)))) ?_
            refine sA_dup dd_X9_readTwist_128 rfl ?_
            refine sA_geti (ci := 9) (j := 24) (q := (RX9, TX9, 28)) dd_X9_readTwist_129 rfl (by decide) fl_X9_206 (by decide) gs_s106 rfl ?_
            refine sA_iconst (z := 1) dd_X9_readTwist_132 ?_
            refine sA_iadd dd_X9_readTwist_133 ?_
            refine sA_put (ci := 9) (j := 24) (q := (RX9, TX9, 28)) (ty := .int) dd_X9_readTwist_134 rfl (by decide) fl_X9_206 rfl (tyX9_ok 24 (by decide)) rfl rfl (by decide) gs_s106 rfl ?_
            have I255 : gs_I (gs_up F222 106 24 ((F222 106 24) + 1)) A251 := gs_I_put I252 (show (0 : Int) ≤ (F222 106 24) + 1 ∧ (F222 106 24) + 1 ≤ 60 by omega)
            have f256 := gs_fr_put f253 (a := 106) (z := (F222 106 24) + 1) (j := 24) (by first | omega | (dsimp only; omega) | (dsimp only))
            have v257 : gs_up F222 106 24 ((F222 106 24) + 1) 106 24 = (F222 106 24) + 1 := gs_up_self _ _ _ _
            have v258 : (gs_up F222 106 24 ((F222 106 24) + 1)) 106 18 = F222 106 18 := gs_up_ne _ _ (by omega)
            have v259 : (gs_up F222 106 24 ((F222 106 24) + 1)) 106 17 = F222 106 17 := gs_up_ne _ _ (by omega)
            have v260 : (gs_up F222 106 24 ((F222 106 24) + 1)) 106 19 = F222 106 19 := gs_up_ne _ _ (by omega)
            have v261 : (gs_up F222 106 24 ((F222 106 24) + 1)) 106 22 = F222 106 22 := gs_up_ne _ _ (by omega)
            have v262 : (gs_up F222 106 24 ((F222 106 24) + 1)) 106 0 = F222 106 0 := gs_up_ne _ _ (by omega)
            generalize gs_up F222 106 24 ((F222 106 24) + 1) = F254 at I255 f256 v257 v258 v259 v260 v261 v262 ⊢
            refine sA_vret dd_X9_readTwist_137 rfl ?_
            exact ⟨rfl, I255, f256, by omega⟩
    · skip
      refine sA_vret dd_X9_readTwist_46 rfl ?_
      exact ⟨rfl, I25, f33, by omega⟩
  · skip
    refine sA_aload_n dd_X9_readTwist_22 rfl (.tail _ (.head _)) ?_
    refine sA_geti (ci := 9) (j := 0) (q := (RX9, TX9, 28)) dd_X9_readTwist_23 rfl (by decide) fl_X9_64 (by decide) gs_s106 rfl ?_
    have b263 : (1 : Int) ≤ F7 106 0 ∧ F7 106 0 ≤ 3 := I8.1 106 0
    refine sA_iconst (z := 1) dd_X9_readTwist_26 ?_
    refine sA_isub dd_X9_readTwist_27 ?_
    refine sA_goto (tgt := 35) dd_X9_readTwist_28 (by decide) ?_
    refine sA_callV (y2 := m_X9_takeFigure) (n2 := 2) (d2 := 2) (a := 106) (ci := 9) (q := (RX9, TX9, 28)) (as := [gs_iv 1, gs_iv ((F7 106 0) - 1)]) (rest := []) dd_X9_readTwist_35 ok_X9_takeFigure ml_X9_203 rfl rfl (by decide) gs_s106 rfl rfl (Nat.le_of_ble_eq_true rfl) (by decide) (c_X9_takeFigure I8 (by omega) (by omega)) (fun r264 F265 A266 h267 => ?_)
    obtain ⟨z270, e269, I271, f272, x268⟩ := h267
    subst e269
    have v274 : F265 106 17 = F7 106 17 := f272.1 106 17 (by first | exact id | omega | (dsimp only; omega) | (dsimp only))
    have v276 : F265 106 24 = F7 106 24 := f272.1 106 24 (by first | exact id | omega | (dsimp only; omega) | (dsimp only))
    have v277 : F265 106 22 = F7 106 22 := f272.1 106 22 (by first | exact id | omega | (dsimp only; omega) | (dsimp only))
    have v278 : F265 106 0 = F7 106 0 := f272.1 106 0 (by first | exact id | omega | (dsimp only; omega) | (dsimp only))
    have f279 := gs_fr_tr f9 f272 (fun b j h => by first | exact False.elim h | omega | (dsimp only at h ⊢; omega)) (fun b h => by first | exact False.elim h | omega | (dsimp only at h ⊢; omega))
    show sA _ _ _ 38 _ [gs_iv z270] _ _
    refine sA_istore_n (lv' := [(3, gs_iv z270), (2, gs_iv (F 106 18)), (0, .ref 106), (1, gs_iv k)]) dd_X9_readTwist_38 rfl (by decide) rfl ?_
    refine sA_aload_n dd_X9_readTwist_39 rfl (.tail _ (.tail _ (.head _))) ?_
    refine sA_geti (ci := 9) (j := 19) (q := (RX9, TX9, 28)) dd_X9_readTwist_40 rfl (by decide) fl_X9_189 (by decide) gs_s106 rfl ?_
    have b280 : (0 : Int) ≤ F265 106 19 ∧ F265 106 19 ≤ 4 := I271.1 106 19
    refine sA_if_le (tgt := 47) dd_X9_readTwist_43 (by decide) (by omega) (fun q281 => ?_) (fun q281 => ?_)
    · skip
      refine sA_aload_n dd_X9_readTwist_47 rfl (.tail _ (.tail _ (.head _))) ?_
      refine sA_callV (y2 := m_X9_look) (n2 := 0) (d2 := 1) (a := 106) (ci := 9) (q := (RX9, TX9, 28)) (as := []) (rest := []) dd_X9_readTwist_48 ok_X9_look ml_X9_192 rfl rfl (by decide) gs_s106 rfl rfl (Nat.le_of_ble_eq_true rfl) (by decide) (c_X9_look I271 ) (fun r282 F283 A284 h285 => ?_)
      obtain ⟨z288, e287, I289, f290, x286⟩ := h285
      subst e287
      have v292 : F283 106 17 = F265 106 17 := f290.1 106 17 (by first | exact id | omega | (dsimp only; omega) | (dsimp only))
      have v293 : F283 106 19 = F265 106 19 := f290.1 106 19 (by first | exact id | omega | (dsimp only; omega) | (dsimp only))
      have v294 : F283 106 24 = F265 106 24 := f290.1 106 24 (by first | exact id | omega | (dsimp only; omega) | (dsimp only))
      have v295 : F283 106 22 = F265 106 22 := f290.1 106 22 (by first | exact id | omega | (dsimp only; omega) | (dsimp only))
      have v296 : F283 106 0 = F265 106 0 := f290.1 106 0 (by first | exact id | omega | (dsimp only; omega) | (dsimp only))
      have f297 := gs_fr_tr f279 f290 (fun b j h => by first | exact False.elim h | omega | (dsimp only at h ⊢; omega)) (fun b h => by first | exact False.elim h | omega | (dsimp only at h ⊢; omega))
      show sA _ _ _ 51 _ [gs_iv z288] _ _
      refine sA_bipush (z := 45) dd_X9_readTwist_51 (by decide) ?_
      refine sA_icmp_ne (tgt := 60) dd_X9_readTwist_53 (by decide) (by omega) (by omega) (fun q298 => ?_) (fun q298 => ?_)
      · skip
        refine sA_iconst (z := 0) dd_X9_readTwist_60 ?_
        refine sA_istore (lv' := [(4, gs_iv 0), (3, gs_iv z270), (2, gs_iv (F 106 18)), (0, .ref 106), (1, gs_iv k)]) dd_X9_readTwist_61 (by decide) rfl ?_
        refine sA_aload_n dd_X9_readTwist_63 rfl (.tail _ (.tail _ (.tail _ (.head _)))) ?_
        refine sA_dup dd_X9_readTwist_64 rfl ?_
        refine sA_geti (ci := 9) (j := 18) (q := (RX9, TX9, 28)) dd_X9_readTwist_65 rfl (by decide) fl_X9_186 (by decide) gs_s106 rfl ?_
        have b299 : (0 : Int) ≤ F283 106 18 ∧ F283 106 18 ≤ 120 := I289.1 106 18
        refine sA_iload dd_X9_readTwist_68 (.head _) ?_
        refine sA_callS (y2 := m_X9_bit) (n2 := 1) (d2 := 1) (as := [gs_iv 0]) (rest := [gs_iv (F283 106 18), .ref 106]) dd_X9_readTwist_70 ok_X9_bit ml_X9_112 rfl rfl (Nat.le_of_ble_eq_true rfl) (by decide) (c_X9_bit (by omega)) (fun r300 F301 A302 h303 => ?_)
        obtain ⟨z306, e305, e307, e308, x304⟩ := h303
        subst e305 e307 e308
        show sA _ _ _ 73 _ [gs_iv z306, gs_iv (F283 106 18), .ref 106] _ _
        refine sA_iadd dd_X9_readTwist_73 ?_
        refine sA_put (ci := 9) (j := 18) (q := (RX9, TX9, 28)) (ty := .int) dd_X9_readTwist_74 rfl (by decide) fl_X9_186 rfl (tyX9_ok 18 (by decide)) rfl rfl (by decide) gs_s106 rfl ?_
        have I310 : gs_I (gs_up F283 106 18 ((F283 106 18) + z306)) A284 := gs_I_put I289 (show (0 : Int) ≤ (F283 106 18) + z306 ∧ (F283 106 18) + z306 ≤ 120 by omega)
        have f311 := gs_fr_put f297 (a := 106) (z := (F283 106 18) + z306) (j := 18) (by first | omega | (dsimp only; omega) | (dsimp only))
        have v312 : gs_up F283 106 18 ((F283 106 18) + z306) 106 18 = (F283 106 18) + z306 := gs_up_self _ _ _ _
        have v313 : (gs_up F283 106 18 ((F283 106 18) + z306)) 106 17 = F283 106 17 := gs_up_ne _ _ (by omega)
        have v314 : (gs_up F283 106 18 ((F283 106 18) + z306)) 106 19 = F283 106 19 := gs_up_ne _ _ (by omega)
        have v315 : (gs_up F283 106 18 ((F283 106 18) + z306)) 106 24 = F283 106 24 := gs_up_ne _ _ (by omega)
        have v316 : (gs_up F283 106 18 ((F283 106 18) + z306)) 106 22 = F283 106 22 := gs_up_ne _ _ (by omega)
        have v317 : (gs_up F283 106 18 ((F283 106 18) + z306)) 106 0 = F283 106 0 := gs_up_ne _ _ (by omega)
        generalize gs_up F283 106 18 ((F283 106 18) + z306) = F309 at I310 f311 v312 v313 v314 v315 v316 v317 ⊢
        refine sA_aload_n dd_X9_readTwist_77 rfl (.tail _ (.tail _ (.tail _ (.head _)))) ?_
        refine sA_aload_n dd_X9_readTwist_78 rfl (.tail _ (.tail _ (.tail _ (.head _)))) ?_
        refine sA_geti (ci := 9) (j := 24) (q := (RX9, TX9, 28)) dd_X9_readTwist_79 rfl (by decide) fl_X9_206 (by decide) gs_s106 rfl ?_
        have b318 : (0 : Int) ≤ F309 106 24 ∧ F309 106 24 ≤ 60 := I310.1 106 24
        refine sA_bipush (z := 60) dd_X9_readTwist_82 (by decide) ?_
        refine sA_icmp_ge (tgt := 91) dd_X9_readTwist_84 (by decide) (by omega) (by omega) (fun q319 => ?_) (fun q319 => ?_)
        · skip
          refine sA_iconst (z := 0) dd_X9_readTwist_91 ?_
          refine sA_iconst (z := 3) dd_X9_readTwist_92 ?_
          refine sA_iload_n dd_X9_readTwist_93 rfl (.tail _ (.tail _ (.head _))) ?_
          refine sA_callV (y2 := m_X9_want) (n2 := 3) (d2 := 1) (a := 106) (ci := 9) (q := (RX9, TX9, 28)) (as := [gs_iv 0, gs_iv 3, gs_iv (F 106 18)]) (rest := []) dd_X9_readTwist_94 ok_X9_want ml_X9_199 rfl rfl (by decide) gs_s106 rfl rfl (Nat.le_of_ble_eq_true rfl) (by decide) (c_X9_want I310 (by omega) (by omega) (by omega)) (fun r320 F321 A322 h323 => ?_)
          obtain ⟨z326, e325, I327, f328, x324⟩ := h323
          subst e325
          have v329 : F321 106 18 = F309 106 18 := f328.1 106 18 (by first | exact id | omega | (dsimp only; omega) | (dsimp only))
          have v330 : F321 106 17 = F309 106 17 := f328.1 106 17 (by first | exact id | omega | (dsimp only; omega) | (dsimp only))
          have v332 : F321 106 24 = F309 106 24 := f328.1 106 24 (by first | exact id | omega | (dsimp only; omega) | (dsimp only))
          have v333 : F321 106 22 = F309 106 22 := f328.1 106 22 (by first | exact id | omega | (dsimp only; omega) | (dsimp only))
          have v334 : F321 106 0 = F309 106 0 := f328.1 106 0 (by first | exact id | omega | (dsimp only; omega) | (dsimp only))
          have f335 := gs_fr_tr f311 f328 (fun b j h => by first | exact False.elim h | omega | (dsimp only at h ⊢; omega)) (fun b h => by first | exact False.elim h | omega | (dsimp only at h ⊢; omega))
          show sA _ _ _ 97 _ [gs_iv z326] _ _
          refine sA_if_eq (tgt := 137) dd_X9_readTwist_97 (by decide) (by omega) (fun q336 => ?_) (fun q336 => ?_)
          · skip
            refine sA_vret dd_X9_readTwist_137 rfl ?_
            exact ⟨rfl, I327, f335, by omega⟩
          · skip
            refine sA_aload_n dd_X9_readTwist_100 rfl (.tail _ (.tail _ (.tail _ (.head _)))) ?_
            refine sA_getr (ci := 9) (j := 23) (q := (RX9, TX9, 28)) dd_X9_readTwist_101 rfl (by decide) fl_X9_47 (by decide) gs_s106 rfl ?_
            refine sA_aload_n dd_X9_readTwist_104 rfl (.tail _ (.tail _ (.tail _ (.head _)))) ?_
            refine sA_geti (ci := 9) (j := 24) (q := (RX9, TX9, 28)) dd_X9_readTwist_105 rfl (by decide) fl_X9_206 (by decide) gs_s106 rfl ?_
            have b337 : (0 : Int) ≤ F321 106 24 ∧ F321 106 24 ≤ 60 := I327.1 106 24
            refine sA_iconst (z := 2) dd_X9_readTwist_108 ?_
            refine sA_iload_n dd_X9_readTwist_109 rfl (.tail _ (.tail _ (.tail _ (.tail _ (.head _))))) ?_
            refine sA_aload_n dd_X9_readTwist_110 rfl (.tail _ (.tail _ (.tail _ (.head _)))) ?_
            refine sA_geti (ci := 9) (j := 0) (q := (RX9, TX9, 28)) dd_X9_readTwist_111 rfl (by decide) fl_X9_64 (by decide) gs_s106 rfl ?_
            have b338 : (1 : Int) ≤ F321 106 0 ∧ F321 106 0 ≤ 3 := I327.1 106 0
            refine sA_imul dd_X9_readTwist_114 ?_
            refine sA_iload_n dd_X9_readTwist_115 rfl (.tail _ (.head _)) ?_
            refine sA_iadd dd_X9_readTwist_116 ?_
            refine sA_iconst (z := 1) dd_X9_readTwist_117 ?_
            refine sA_isub dd_X9_readTwist_118 ?_
            refine sA_imul dd_X9_readTwist_119 ?_
            refine sA_iload dd_X9_readTwist_120 (.head _) ?_
            refine sA_callS (y2 := m_X9_bit) (n2 := 1) (d2 := 1) (as := [gs_iv 0]) (rest := [gs_iv (2 * (((k * (F321 106 0)) + z270) - 1)), gs_iv (F321 106 24), .ref 118]) dd_X9_readTwist_122 ok_X9_bit ml_X9_112 rfl rfl (Nat.le_of_ble_eq_true rfl) (by decide) (c_X9_bit (by omega)) (fun r339 F340 A341 h342 => ?_)
            obtain ⟨z345, e344, e346, e347, x343⟩ := h342
            subst e344 e346 e347
            show sA _ _ _ 125 _ [gs_iv z345, gs_iv (2 * (((k * (F321 106 0)) + z270) - 1)), gs_iv (F321 106 24), .ref 118] _ _
            refine sA_iadd dd_X9_readTwist_125 ?_
            refine sA_wrap ?_
            have b349 := gs_w_rng ((2 * (((k * (F321 106 0)) + z270) - 1)) + z345)
            generalize gs_w ((2 * (((k * (F321 106 0)) + z270) - 1)) + z345) = w348 at b349 ⊢
            refine sA_iast (n := 600) dd_X9_readTwist_126 (by decide) gs_s118 (by omega) (by decide) ?_
            have I351 : gs_I F321 (gs_up A322 118 ((F321 106 24).toNat) w348) := gs_I_ast I327 (show (-2147483648 : Int) ≤ w348 ∧ w348 ≤ 2147483647 by omega)
            have f352 := gs_fr_ast f335 (a := 118) (z := w348) (i := (F321 106 24).toNat) (by first | omega | (dsimp only; omega) | (dsimp only))
            generalize gs_up A322 118 ((F321 106 24).toNat) w348 = A350 at I351 f352 ⊢
            refine sA_aload_n dd_X9_readTwist_127 rfl (.tail _ (.tail _ (.tail _ (.head _)))) ?_
            refine sA_dup dd_X9_readTwist_128 rfl ?_
            refine sA_geti (ci := 9) (j := 24) (q := (RX9, TX9, 28)) dd_X9_readTwist_129 rfl (by decide) fl_X9_206 (by decide) gs_s106 rfl ?_
            refine sA_iconst (z := 1) dd_X9_readTwist_132 ?_
            refine sA_iadd dd_X9_readTwist_133 ?_
            refine sA_put (ci := 9) (j := 24) (q := (RX9, TX9, 28)) (ty := .int) dd_X9_readTwist_134 rfl (by decide) fl_X9_206 rfl (tyX9_ok 24 (by decide)) rfl rfl (by decide) gs_s106 rfl ?_
            have I354 : gs_I (gs_up F321 106 24 ((F321 106 24) + 1)) A350 := gs_I_put I351 (show (0 : Int) ≤ (F321 106 24) + 1 ∧ (F321 106 24) + 1 ≤ 60 by omega)
            have f355 := gs_fr_put f352 (a := 106) (z := (F321 106 24) + 1) (j := 24) (by first | omega | (dsimp only; omega) | (dsimp only))
            have v356 : gs_up F321 106 24 ((F321 106 24) + 1) 106 24 = (F321 106 24) + 1 := gs_up_self _ _ _ _
            have v357 : (gs_up F321 106 24 ((F321 106 24) + 1)) 106 18 = F321 106 18 := gs_up_ne _ _ (by omega)
            have v358 : (gs_up F321 106 24 ((F321 106 24) + 1)) 106 17 = F321 106 17 := gs_up_ne _ _ (by omega)
            have v359 : (gs_up F321 106 24 ((F321 106 24) + 1)) 106 19 = F321 106 19 := gs_up_ne _ _ (by omega)
            have v360 : (gs_up F321 106 24 ((F321 106 24) + 1)) 106 22 = F321 106 22 := gs_up_ne _ _ (by omega)
            have v361 : (gs_up F321 106 24 ((F321 106 24) + 1)) 106 0 = F321 106 0 := gs_up_ne _ _ (by omega)
            generalize gs_up F321 106 24 ((F321 106 24) + 1) = F353 at I354 f355 v356 v357 v358 v359 v360 v361 ⊢
            refine sA_vret dd_X9_readTwist_137 rfl ?_
            exact ⟨rfl, I354, f355, by omega⟩
        · skip
          refine sA_iconst (z := 1) dd_X9_readTwist_87 ?_
          refine sA_goto (tgt := 92) dd_X9_readTwist_88 (by decide) ?_
          refine sA_iconst (z := 3) dd_X9_readTwist_92 ?_
          refine sA_iload_n dd_X9_readTwist_93 rfl (.tail _ (.tail _ (.head _))) ?_
          refine sA_callV (y2 := m_X9_want) (n2 := 3) (d2 := 1) (a := 106) (ci := 9) (q := (RX9, TX9, 28)) (as := [gs_iv 1, gs_iv 3, gs_iv (F 106 18)]) (rest := []) dd_X9_readTwist_94 ok_X9_want ml_X9_199 rfl rfl (by decide) gs_s106 rfl rfl (Nat.le_of_ble_eq_true rfl) (by decide) (c_X9_want I310 (by omega) (by omega) (by omega)) (fun r362 F363 A364 h365 => ?_)
          obtain ⟨z368, e367, I369, f370, x366⟩ := h365
          subst e367
          have v371 : F363 106 18 = F309 106 18 := f370.1 106 18 (by first | exact id | omega | (dsimp only; omega) | (dsimp only))
          have v372 : F363 106 17 = F309 106 17 := f370.1 106 17 (by first | exact id | omega | (dsimp only; omega) | (dsimp only))
          have v374 : F363 106 24 = F309 106 24 := f370.1 106 24 (by first | exact id | omega | (dsimp only; omega) | (dsimp only))
          have v375 : F363 106 22 = F309 106 22 := f370.1 106 22 (by first | exact id | omega | (dsimp only; omega) | (dsimp only))
          have v376 : F363 106 0 = F309 106 0 := f370.1 106 0 (by first | exact id | omega | (dsimp only; omega) | (dsimp only))
          have f377 := gs_fr_tr f311 f370 (fun b j h => by first | exact False.elim h | omega | (dsimp only at h ⊢; omega)) (fun b h => by first | exact False.elim h | omega | (dsimp only at h ⊢; omega))
          show sA _ _ _ 97 _ [gs_iv z368] _ _
          refine sA_if_eq (tgt := 137) dd_X9_readTwist_97 (by decide) (by omega) (fun q378 => ?_) (fun q378 => ?_)
          · skip
            refine sA_vret dd_X9_readTwist_137 rfl ?_
            exact ⟨rfl, I369, f377, by omega⟩
          · skip
            refine sA_aload_n dd_X9_readTwist_100 rfl (.tail _ (.tail _ (.tail _ (.head _)))) ?_
            refine sA_getr (ci := 9) (j := 23) (q := (RX9, TX9, 28)) dd_X9_readTwist_101 rfl (by decide) fl_X9_47 (by decide) gs_s106 rfl ?_
            refine sA_aload_n dd_X9_readTwist_104 rfl (.tail _ (.tail _ (.tail _ (.head _)))) ?_
            refine sA_geti (ci := 9) (j := 24) (q := (RX9, TX9, 28)) dd_X9_readTwist_105 rfl (by decide) fl_X9_206 (by decide) gs_s106 rfl ?_
            have b379 : (0 : Int) ≤ F363 106 24 ∧ F363 106 24 ≤ 60 := I369.1 106 24
            refine sA_iconst (z := 2) dd_X9_readTwist_108 ?_
            refine sA_iload_n dd_X9_readTwist_109 rfl (.tail _ (.tail _ (.tail _ (.tail _ (.head _))))) ?_
            refine sA_aload_n dd_X9_readTwist_110 rfl (.tail _ (.tail _ (.tail _ (.head _)))) ?_
            refine sA_geti (ci := 9) (j := 0) (q := (RX9, TX9, 28)) dd_X9_readTwist_111 rfl (by decide) fl_X9_64 (by decide) gs_s106 rfl ?_
            have b380 : (1 : Int) ≤ F363 106 0 ∧ F363 106 0 ≤ 3 := I369.1 106 0
            refine sA_imul dd_X9_readTwist_114 ?_
            refine sA_iload_n dd_X9_readTwist_115 rfl (.tail _ (.head _)) ?_
            refine sA_iadd dd_X9_readTwist_116 ?_
            refine sA_iconst (z := 1) dd_X9_readTwist_117 ?_
            refine sA_isub dd_X9_readTwist_118 ?_
            refine sA_imul dd_X9_readTwist_119 ?_
            refine sA_iload dd_X9_readTwist_120 (.head _) ?_
            refine sA_callS (y2 := m_X9_bit) (n2 := 1) (d2 := 1) (as := [gs_iv 0]) (rest := [gs_iv (2 * (((k * (F363 106 0)) + z270) - 1)), gs_iv (F363 106 24), .ref 118]) dd_X9_readTwist_122 ok_X9_bit ml_X9_112 rfl rfl (Nat.le_of_ble_eq_true rfl) (by decide) (c_X9_bit (by omega)) (fun r381 F382 A383 h384 => ?_)
            obtain ⟨z387, e386, e388, e389, x385⟩ := h384
            subst e386 e388 e389
            show sA _ _ _ 125 _ [gs_iv z387, gs_iv (2 * (((k * (F363 106 0)) + z270) - 1)), gs_iv (F363 106 24), .ref 118] _ _
            refine sA_iadd dd_X9_readTwist_125 ?_
            refine sA_wrap ?_
            have b391 := gs_w_rng ((2 * (((k * (F363 106 0)) + z270) - 1)) + z387)
            generalize gs_w ((2 * (((k * (F363 106 0)) + z270) - 1)) + z387) = w390 at b391 ⊢
            refine sA_iast (n := 600) dd_X9_readTwist_126 (by decide) gs_s118 (by omega) (by decide) ?_
            have I393 : gs_I F363 (gs_up A364 118 ((F363 106 24).toNat) w390) := gs_I_ast I369 (show (-2147483648 : Int) ≤ w390 ∧ w390 ≤ 2147483647 by omega)
            have f394 := gs_fr_ast f377 (a := 118) (z := w390) (i := (F363 106 24).toNat) (by first | omega | (dsimp only; omega) | (dsimp only))
            generalize gs_up A364 118 ((F363 106 24).toNat) w390 = A392 at I393 f394 ⊢
            refine sA_aload_n dd_X9_readTwist_127 rfl (.tail _ (.tail _ (.tail _ (.head _)))) ?_
            refine sA_dup dd_X9_readTwist_128 rfl ?_
            refine sA_geti (ci := 9) (j := 24) (q := (RX9, TX9, 28)) dd_X9_readTwist_129 rfl (by decide) fl_X9_206 (by decide) gs_s106 rfl ?_
            refine sA_iconst (z := 1) dd_X9_readTwist_132 ?_
            refine sA_iadd dd_X9_readTwist_133 ?_
            refine sA_put (ci := 9) (j := 24) (q := (RX9, TX9, 28)) (ty := .int) dd_X9_readTwist_134 rfl (by decide) fl_X9_206 rfl (tyX9_ok 24 (by decide)) rfl rfl (by decide) gs_s106 rfl ?_
            have I396 : gs_I (gs_up F363 106 24 ((F363 106 24) + 1)) A392 := gs_I_put I393 (show (0 : Int) ≤ (F363 106 24) + 1 ∧ (F363 106 24) + 1 ≤ 60 by omega)
            have f397 := gs_fr_put f394 (a := 106) (z := (F363 106 24) + 1) (j := 24) (by first | omega | (dsimp only; omega) | (dsimp only))
            have v398 : gs_up F363 106 24 ((F363 106 24) + 1) 106 24 = (F363 106 24) + 1 := gs_up_self _ _ _ _
            have v399 : (gs_up F363 106 24 ((F363 106 24) + 1)) 106 18 = F363 106 18 := gs_up_ne _ _ (by omega)
            have v400 : (gs_up F363 106 24 ((F363 106 24) + 1)) 106 17 = F363 106 17 := gs_up_ne _ _ (by omega)
            have v401 : (gs_up F363 106 24 ((F363 106 24) + 1)) 106 19 = F363 106 19 := gs_up_ne _ _ (by omega)
            have v402 : (gs_up F363 106 24 ((F363 106 24) + 1)) 106 22 = F363 106 22 := gs_up_ne _ _ (by omega)
            have v403 : (gs_up F363 106 24 ((F363 106 24) + 1)) 106 0 = F363 106 0 := gs_up_ne _ _ (by omega)
            generalize gs_up F363 106 24 ((F363 106 24) + 1) = F395 at I396 f397 v398 v399 v400 v401 v402 v403 ⊢
            refine sA_vret dd_X9_readTwist_137 rfl ?_
            exact ⟨rfl, I396, f397, by omega⟩
      · skip
        refine sA_iconst (z := 1) dd_X9_readTwist_56 ?_
        refine sA_goto (tgt := 61) dd_X9_readTwist_57 (by decide) ?_
        refine sA_istore (lv' := [(4, gs_iv 1), (3, gs_iv z270), (2, gs_iv (F 106 18)), (0, .ref 106), (1, gs_iv k)]) dd_X9_readTwist_61 (by decide) rfl ?_
        refine sA_aload_n dd_X9_readTwist_63 rfl (.tail _ (.tail _ (.tail _ (.head _)))) ?_
        refine sA_dup dd_X9_readTwist_64 rfl ?_
        refine sA_geti (ci := 9) (j := 18) (q := (RX9, TX9, 28)) dd_X9_readTwist_65 rfl (by decide) fl_X9_186 (by decide) gs_s106 rfl ?_
        have b404 : (0 : Int) ≤ F283 106 18 ∧ F283 106 18 ≤ 120 := I289.1 106 18
        refine sA_iload dd_X9_readTwist_68 (.head _) ?_
        refine sA_callS (y2 := m_X9_bit) (n2 := 1) (d2 := 1) (as := [gs_iv 1]) (rest := [gs_iv (F283 106 18), .ref 106]) dd_X9_readTwist_70 ok_X9_bit ml_X9_112 rfl rfl (Nat.le_of_ble_eq_true rfl) (by decide) (c_X9_bit (by omega)) (fun r405 F406 A407 h408 => ?_)
        obtain ⟨z411, e410, e412, e413, x409⟩ := h408
        subst e410 e412 e413
        show sA _ _ _ 73 _ [gs_iv z411, gs_iv (F283 106 18), .ref 106] _ _
        refine sA_iadd dd_X9_readTwist_73 ?_
        refine sA_put (ci := 9) (j := 18) (q := (RX9, TX9, 28)) (ty := .int) dd_X9_readTwist_74 rfl (by decide) fl_X9_186 rfl (tyX9_ok 18 (by decide)) rfl rfl (by decide) gs_s106 rfl ?_
        have I415 : gs_I (gs_up F283 106 18 ((F283 106 18) + z411)) A284 := gs_I_put I289 (show (0 : Int) ≤ (F283 106 18) + z411 ∧ (F283 106 18) + z411 ≤ 120 by omega)
        have f416 := gs_fr_put f297 (a := 106) (z := (F283 106 18) + z411) (j := 18) (by first | omega | (dsimp only; omega) | (dsimp only))
        have v417 : gs_up F283 106 18 ((F283 106 18) + z411) 106 18 = (F283 106 18) + z411 := gs_up_self _ _ _ _
        have v418 : (gs_up F283 106 18 ((F283 106 18) + z411)) 106 17 = F283 106 17 := gs_up_ne _ _ (by omega)
        have v419 : (gs_up F283 106 18 ((F283 106 18) + z411)) 106 19 = F283 106 19 := gs_up_ne _ _ (by omega)
        have v420 : (gs_up F283 106 18 ((F283 106 18) + z411)) 106 24 = F283 106 24 := gs_up_ne _ _ (by omega)
        have v421 : (gs_up F283 106 18 ((F283 106 18) + z411)) 106 22 = F283 106 22 := gs_up_ne _ _ (by omega)
        have v422 : (gs_up F283 106 18 ((F283 106 18) + z411)) 106 0 = F283 106 0 := gs_up_ne _ _ (by omega)
        generalize gs_up F283 106 18 ((F283 106 18) + z411) = F414 at I415 f416 v417 v418 v419 v420 v421 v422 ⊢
        refine sA_aload_n dd_X9_readTwist_77 rfl (.tail _ (.tail _ (.tail _ (.head _)))) ?_
        refine sA_aload_n dd_X9_readTwist_78 rfl (.tail _ (.tail _ (.tail _ (.head _)))) ?_
        refine sA_geti (ci := 9) (j := 24) (q := (RX9, TX9, 28)) dd_X9_readTwist_79 rfl (by decide) fl_X9_206 (by decide) gs_s106 rfl ?_
        have b423 : (0 : Int) ≤ F414 106 24 ∧ F414 106 24 ≤ 60 := I415.1 106 24
        refine sA_bipush (z := 60) dd_X9_readTwist_82 (by decide) ?_
        refine sA_icmp_ge (tgt := 91) dd_X9_readTwist_84 (by decide) (by omega) (by omega) (fun q424 => ?_) (fun q424 => ?_)
        · skip
          refine sA_iconst (z := 0) dd_X9_readTwist_91 ?_
          refine sA_iconst (z := 3) dd_X9_readTwist_92 ?_
          refine sA_iload_n dd_X9_readTwist_93 rfl (.tail _ (.tail _ (.head _))) ?_
          refine sA_callV (y2 := m_X9_want) (n2 := 3) (d2 := 1) (a := 106) (ci := 9) (q := (RX9, TX9, 28)) (as := [gs_iv 0, gs_iv 3, gs_iv (F 106 18)]) (rest := []) dd_X9_readTwist_94 ok_X9_want ml_X9_199 rfl rfl (by decide) gs_s106 rfl rfl (Nat.le_of_ble_eq_true rfl) (by decide) (c_X9_want I415 (by omega) (by omega) (by omega)) (fun r425 F426 A427 h428 => ?_)
          obtain ⟨z431, e430, I432, f433, x429⟩ := h428
          subst e430
          have v434 : F426 106 18 = F414 106 18 := f433.1 106 18 (by first | exact id | omega | (dsimp only; omega) | (dsimp only))
          have v435 : F426 106 17 = F414 106 17 := f433.1 106 17 (by first | exact id | omega | (dsimp only; omega) | (dsimp only))
          have v437 : F426 106 24 = F414 106 24 := f433.1 106 24 (by first | exact id | omega | (dsimp only; omega) | (dsimp only))
          have v438 : F426 106 22 = F414 106 22 := f433.1 106 22 (by first | exact id | omega | (dsimp only; omega) | (dsimp only))
          have v439 : F426 106 0 = F414 106 0 := f433.1 106 0 (by first | exact id | omega | (dsimp only; omega) | (dsimp only))
          have f440 := gs_fr_tr f416 f433 (fun b j h => by first | exact False.elim h | omega | (dsimp only at h ⊢; omega)) (fun b h => by first | exact False.elim h | omega | (dsimp only at h ⊢; omega))
          show sA _ _ _ 97 _ [gs_iv z431] _ _
          refine sA_if_eq (tgt := 137) dd_X9_readTwist_97 (by decide) (by omega) (fun q441 => ?_) (fun q441 => ?_)
          · skip
            refine sA_vret dd_X9_readTwist_137 rfl ?_
            exact ⟨rfl, I432, f440, by omega⟩
          · skip
            refine sA_aload_n dd_X9_readTwist_100 rfl (.tail _ (.tail _ (.tail _ (.head _)))) ?_
            refine sA_getr (ci := 9) (j := 23) (q := (RX9, TX9, 28)) dd_X9_readTwist_101 rfl (by decide) fl_X9_47 (by decide) gs_s106 rfl ?_
            refine sA_aload_n dd_X9_readTwist_104 rfl (.tail _ (.tail _ (.tail _ (.head _)))) ?_
            refine sA_geti (ci := 9) (j := 24) (q := (RX9, TX9, 28)) dd_X9_readTwist_105 rfl (by decide) fl_X9_206 (by decide) gs_s106 rfl ?_
            have b442 : (0 : Int) ≤ F426 106 24 ∧ F426 106 24 ≤ 60 := I432.1 106 24
            refine sA_iconst (z := 2) dd_X9_readTwist_108 ?_
            refine sA_iload_n dd_X9_readTwist_109 rfl (.tail _ (.tail _ (.tail _ (.tail _ (.head _))))) ?_
            refine sA_aload_n dd_X9_readTwist_110 rfl (.tail _ (.tail _ (.tail _ (.head _)))) ?_
            refine sA_geti (ci := 9) (j := 0) (q := (RX9, TX9, 28)) dd_X9_readTwist_111 rfl (by decide) fl_X9_64 (by decide) gs_s106 rfl ?_
            have b443 : (1 : Int) ≤ F426 106 0 ∧ F426 106 0 ≤ 3 := I432.1 106 0
            refine sA_imul dd_X9_readTwist_114 ?_
            refine sA_iload_n dd_X9_readTwist_115 rfl (.tail _ (.head _)) ?_
            refine sA_iadd dd_X9_readTwist_116 ?_
            refine sA_iconst (z := 1) dd_X9_readTwist_117 ?_
            refine sA_isub dd_X9_readTwist_118 ?_
            refine sA_imul dd_X9_readTwist_119 ?_
            refine sA_iload dd_X9_readTwist_120 (.head _) ?_
            refine sA_callS (y2 := m_X9_bit) (n2 := 1) (d2 := 1) (as := [gs_iv 1]) (rest := [gs_iv (2 * (((k * (F426 106 0)) + z270) - 1)), gs_iv (F426 106 24), .ref 118]) dd_X9_readTwist_122 ok_X9_bit ml_X9_112 rfl rfl (Nat.le_of_ble_eq_true rfl) (by decide) (c_X9_bit (by omega)) (fun r444 F445 A446 h447 => ?_)
            obtain ⟨z450, e449, e451, e452, x448⟩ := h447
            subst e449 e451 e452
            show sA _ _ _ 125 _ [gs_iv z450, gs_iv (2 * (((k * (F426 106 0)) + z270) - 1)), gs_iv (F426 106 24), .ref 118] _ _
            refine sA_iadd dd_X9_readTwist_125 ?_
            refine sA_wrap ?_
            have b454 := gs_w_rng ((2 * (((k * (F426 106 0)) + z270) - 1)) + z450)
            generalize gs_w ((2 * (((k * (F426 106 0)) + z270) - 1)) + z450) = w453 at b454 ⊢
            refine sA_iast (n := 600) dd_X9_readTwist_126 (by decide) gs_s118 (by omega) (by decide) ?_
            have I456 : gs_I F426 (gs_up A427 118 ((F426 106 24).toNat) w453) := gs_I_ast I432 (show (-2147483648 : Int) ≤ w453 ∧ w453 ≤ 2147483647 by omega)
            have f457 := gs_fr_ast f440 (a := 118) (z := w453) (i := (F426 106 24).toNat) (by first | omega | (dsimp only; omega) | (dsimp only))
            generalize gs_up A427 118 ((F426 106 24).toNat) w453 = A455 at I456 f457 ⊢
            refine sA_aload_n dd_X9_readTwist_127 rfl (.tail _ (.tail _ (.tail _ (.head _)))) ?_
            refine sA_dup dd_X9_readTwist_128 rfl ?_
            refine sA_geti (ci := 9) (j := 24) (q := (RX9, TX9, 28)) dd_X9_readTwist_129 rfl (by decide) fl_X9_206 (by decide) gs_s106 rfl ?_
            refine sA_iconst (z := 1) dd_X9_readTwist_132 ?_
            refine sA_iadd dd_X9_readTwist_133 ?_
            refine sA_put (ci := 9) (j := 24) (q := (RX9, TX9, 28)) (ty := .int) dd_X9_readTwist_134 rfl (by decide) fl_X9_206 rfl (tyX9_ok 24 (by decide)) rfl rfl (by decide) gs_s106 rfl ?_
            have I459 : gs_I (gs_up F426 106 24 ((F426 106 24) + 1)) A455 := gs_I_put I456 (show (0 : Int) ≤ (F426 106 24) + 1 ∧ (F426 106 24) + 1 ≤ 60 by omega)
            have f460 := gs_fr_put f457 (a := 106) (z := (F426 106 24) + 1) (j := 24) (by first | omega | (dsimp only; omega) | (dsimp only))
            have v461 : gs_up F426 106 24 ((F426 106 24) + 1) 106 24 = (F426 106 24) + 1 := gs_up_self _ _ _ _
            have v462 : (gs_up F426 106 24 ((F426 106 24) + 1)) 106 18 = F426 106 18 := gs_up_ne _ _ (by omega)
            have v463 : (gs_up F426 106 24 ((F426 106 24) + 1)) 106 17 = F426 106 17 := gs_up_ne _ _ (by omega)
            have v464 : (gs_up F426 106 24 ((F426 106 24) + 1)) 106 19 = F426 106 19 := gs_up_ne _ _ (by omega)
            have v465 : (gs_up F426 106 24 ((F426 106 24) + 1)) 106 22 = F426 106 22 := gs_up_ne _ _ (by omega)
            have v466 : (gs_up F426 106 24 ((F426 106 24) + 1)) 106 0 = F426 106 0 := gs_up_ne _ _ (by omega)
            generalize gs_up F426 106 24 ((F426 106 24) + 1) = F458 at I459 f460 v461 v462 v463 v464 v465 v466 ⊢
            refine sA_vret dd_X9_readTwist_137 rfl ?_
            exact ⟨rfl, I459, f460, by omega⟩
        · skip
          refine sA_iconst (z := 1) dd_X9_readTwist_87 ?_
          refine sA_goto (tgt := 92) dd_X9_readTwist_88 (by decide) ?_
          refine sA_iconst (z := 3) dd_X9_readTwist_92 ?_
          refine sA_iload_n dd_X9_readTwist_93 rfl (.tail _ (.tail _ (.head _))) ?_
          refine sA_callV (y2 := m_X9_want) (n2 := 3) (d2 := 1) (a := 106) (ci := 9) (q := (RX9, TX9, 28)) (as := [gs_iv 1, gs_iv 3, gs_iv (F 106 18)]) (rest := []) dd_X9_readTwist_94 ok_X9_want ml_X9_199 rfl rfl (by decide) gs_s106 rfl rfl (Nat.le_of_ble_eq_true rfl) (by decide) (c_X9_want I415 (by omega) (by omega) (by omega)) (fun r467 F468 A469 h470 => ?_)
          obtain ⟨z473, e472, I474, f475, x471⟩ := h470
          subst e472
          have v476 : F468 106 18 = F414 106 18 := f475.1 106 18 (by first | exact id | omega | (dsimp only; omega) | (dsimp only))
          have v477 : F468 106 17 = F414 106 17 := f475.1 106 17 (by first | exact id | omega | (dsimp only; omega) | (dsimp only))
          have v479 : F468 106 24 = F414 106 24 := f475.1 106 24 (by first | exact id | omega | (dsimp only; omega) | (dsimp only))
          have v480 : F468 106 22 = F414 106 22 := f475.1 106 22 (by first | exact id | omega | (dsimp only; omega) | (dsimp only))
          have v481 : F468 106 0 = F414 106 0 := f475.1 106 0 (by first | exact id | omega | (dsimp only; omega) | (dsimp only))
          have f482 := gs_fr_tr f416 f475 (fun b j h => by first | exact False.elim h | omega | (dsimp only at h ⊢; omega)) (fun b h => by first | exact False.elim h | omega | (dsimp only at h ⊢; omega))
          show sA _ _ _ 97 _ [gs_iv z473] _ _
          refine sA_if_eq (tgt := 137) dd_X9_readTwist_97 (by decide) (by omega) (fun q483 => ?_) (fun q483 => ?_)
          · skip
            refine sA_vret dd_X9_readTwist_137 rfl ?_
            exact ⟨rfl, I474, f482, by omega⟩
          · skip
            refine sA_aload_n dd_X9_readTwist_100 rfl (.tail _ (.tail _ (.tail _ (.head _)))) ?_
            refine sA_getr (ci := 9) (j := 23) (q := (RX9, TX9, 28)) dd_X9_readTwist_101 rfl (by decide) fl_X9_47 (by decide) gs_s106 rfl ?_
            refine sA_aload_n dd_X9_readTwist_104 rfl (.tail _ (.tail _ (.tail _ (.head _)))) ?_
            refine sA_geti (ci := 9) (j := 24) (q := (RX9, TX9, 28)) dd_X9_readTwist_105 rfl (by decide) fl_X9_206 (by decide) gs_s106 rfl ?_
            have b484 : (0 : Int) ≤ F468 106 24 ∧ F468 106 24 ≤ 60 := I474.1 106 24
            refine sA_iconst (z := 2) dd_X9_readTwist_108 ?_
            refine sA_iload_n dd_X9_readTwist_109 rfl (.tail _ (.tail _ (.tail _ (.tail _ (.head _))))) ?_
            refine sA_aload_n dd_X9_readTwist_110 rfl (.tail _ (.tail _ (.tail _ (.head _)))) ?_
            refine sA_geti (ci := 9) (j := 0) (q := (RX9, TX9, 28)) dd_X9_readTwist_111 rfl (by decide) fl_X9_64 (by decide) gs_s106 rfl ?_
            have b485 : (1 : Int) ≤ F468 106 0 ∧ F468 106 0 ≤ 3 := I474.1 106 0
            refine sA_imul dd_X9_readTwist_114 ?_
            refine sA_iload_n dd_X9_readTwist_115 rfl (.tail _ (.head _)) ?_
            refine sA_iadd dd_X9_readTwist_116 ?_
            refine sA_iconst (z := 1) dd_X9_readTwist_117 ?_
            refine sA_isub dd_X9_readTwist_118 ?_
            refine sA_imul dd_X9_readTwist_119 ?_
            refine sA_iload dd_X9_readTwist_120 (.head _) ?_
            refine sA_callS (y2 := m_X9_bit) (n2 := 1) (d2 := 1) (as := [gs_iv 1]) (rest := [gs_iv (2 * (((k * (F468 106 0)) + z270) - 1)), gs_iv (F468 106 24), .ref 118]) dd_X9_readTwist_122 ok_X9_bit ml_X9_112 rfl rfl (Nat.le_of_ble_eq_true rfl) (by decide) (c_X9_bit (by omega)) (fun r486 F487 A488 h489 => ?_)
            obtain ⟨z492, e491, e493, e494, x490⟩ := h489
            subst e491 e493 e494
            show sA _ _ _ 125 _ [gs_iv z492, gs_iv (2 * (((k * (F468 106 0)) + z270) - 1)), gs_iv (F468 106 24), .ref 118] _ _
            refine sA_iadd dd_X9_readTwist_125 ?_
            refine sA_wrap ?_
            have b496 := gs_w_rng ((2 * (((k * (F468 106 0)) + z270) - 1)) + z492)
            generalize gs_w ((2 * (((k * (F468 106 0)) + z270) - 1)) + z492) = w495 at b496 ⊢
            refine sA_iast (n := 600) dd_X9_readTwist_126 (by decide) gs_s118 (by omega) (by decide) ?_
            have I498 : gs_I F468 (gs_up A469 118 ((F468 106 24).toNat) w495) := gs_I_ast I474 (show (-2147483648 : Int) ≤ w495 ∧ w495 ≤ 2147483647 by omega)
            have f499 := gs_fr_ast f482 (a := 118) (z := w495) (i := (F468 106 24).toNat) (by first | omega | (dsimp only; omega) | (dsimp only))
            generalize gs_up A469 118 ((F468 106 24).toNat) w495 = A497 at I498 f499 ⊢
            refine sA_aload_n dd_X9_readTwist_127 rfl (.tail _ (.tail _ (.tail _ (.head _)))) ?_
            refine sA_dup dd_X9_readTwist_128 rfl ?_
            refine sA_geti (ci := 9) (j := 24) (q := (RX9, TX9, 28)) dd_X9_readTwist_129 rfl (by decide) fl_X9_206 (by decide) gs_s106 rfl ?_
            refine sA_iconst (z := 1) dd_X9_readTwist_132 ?_
            refine sA_iadd dd_X9_readTwist_133 ?_
            refine sA_put (ci := 9) (j := 24) (q := (RX9, TX9, 28)) (ty := .int) dd_X9_readTwist_134 rfl (by decide) fl_X9_206 rfl (tyX9_ok 24 (by decide)) rfl rfl (by decide) gs_s106 rfl ?_
            have I501 : gs_I (gs_up F468 106 24 ((F468 106 24) + 1)) A497 := gs_I_put I498 (show (0 : Int) ≤ (F468 106 24) + 1 ∧ (F468 106 24) + 1 ≤ 60 by omega)
            have f502 := gs_fr_put f499 (a := 106) (z := (F468 106 24) + 1) (j := 24) (by first | omega | (dsimp only; omega) | (dsimp only))
            have v503 : gs_up F468 106 24 ((F468 106 24) + 1) 106 24 = (F468 106 24) + 1 := gs_up_self _ _ _ _
            have v504 : (gs_up F468 106 24 ((F468 106 24) + 1)) 106 18 = F468 106 18 := gs_up_ne _ _ (by omega)
            have v505 : (gs_up F468 106 24 ((F468 106 24) + 1)) 106 17 = F468 106 17 := gs_up_ne _ _ (by omega)
            have v506 : (gs_up F468 106 24 ((F468 106 24) + 1)) 106 19 = F468 106 19 := gs_up_ne _ _ (by omega)
            have v507 : (gs_up F468 106 24 ((F468 106 24) + 1)) 106 22 = F468 106 22 := gs_up_ne _ _ (by omega)
            have v508 : (gs_up F468 106 24 ((F468 106 24) + 1)) 106 0 = F468 106 0 := gs_up_ne _ _ (by omega)
            generalize gs_up F468 106 24 ((F468 106 24) + 1) = F500 at I501 f502 v503 v504 v505 v506 v507 v508 ⊢
            refine sA_vret dd_X9_readTwist_137 rfl ?_
            exact ⟨rfl, I501, f502, by omega⟩
    · skip
      refine sA_vret dd_X9_readTwist_46 rfl ?_
      exact ⟨rfl, I271, f279, by omega⟩
theorem dd_X9_closeBracket_0 : decode cX9_closeBracket 0 = .ok (.aload_n 0, 1) := by decide +kernel
theorem dd_X9_closeBracket_1 : decode cX9_closeBracket 1 = .ok (.dup, 1) := by decide +kernel
theorem dd_X9_closeBracket_2 : decode cX9_closeBracket 2 = .ok (.getfield 186, 3) := by decide +kernel
theorem dd_X9_closeBracket_5 : decode cX9_closeBracket 5 = .ok (.iconst 1, 1) := by decide +kernel
theorem dd_X9_closeBracket_6 : decode cX9_closeBracket 6 = .ok (.iadd, 1) := by decide +kernel
theorem dd_X9_closeBracket_7 : decode cX9_closeBracket 7 = .ok (.putfield 186, 3) := by decide +kernel
theorem dd_X9_closeBracket_10 : decode cX9_closeBracket 10 = .ok (.aload_n 0, 1) := by decide +kernel
theorem dd_X9_closeBracket_11 : decode cX9_closeBracket 11 = .ok (.invokevirtual 192, 3) := by decide +kernel
theorem dd_X9_closeBracket_14 : decode cX9_closeBracket 14 = .ok (.istore_n 1, 1) := by decide +kernel
theorem dd_X9_closeBracket_15 : decode cX9_closeBracket 15 = .ok (.aload_n 0, 1) := by decide +kernel
theorem dd_X9_closeBracket_16 : decode cX9_closeBracket 16 = .ok (.getfield 186, 3) := by decide +kernel
theorem dd_X9_closeBracket_19 : decode cX9_closeBracket 19 = .ok (.istore_n 2, 1) := by decide +kernel
theorem dd_X9_closeBracket_20 : decode cX9_closeBracket 20 = .ok (.aload_n 0, 1) := by decide +kernel
theorem dd_X9_closeBracket_21 : decode cX9_closeBracket 21 = .ok (.iconst 1, 1) := by decide +kernel
theorem dd_X9_closeBracket_22 : decode cX9_closeBracket 22 = .ok (.bipush 9, 2) := by decide +kernel
theorem dd_X9_closeBracket_24 : decode cX9_closeBracket 24 = .ok (.invokevirtual 203, 3) := by decide +kernel
theorem dd_X9_closeBracket_27 : decode cX9_closeBracket 27 = .ok (.istore_n 3, 1) := by decide +kernel
theorem dd_X9_closeBracket_28 : decode cX9_closeBracket 28 = .ok (.aload_n 0, 1) := by decide +kernel
theorem dd_X9_closeBracket_29 : decode cX9_closeBracket 29 = .ok (.getfield 189, 3) := by decide +kernel
theorem dd_X9_closeBracket_32 : decode cX9_closeBracket 32 = .ok (.ifCond .le 4, 3) := by decide +kernel
theorem dd_X9_closeBracket_35 : decode cX9_closeBracket 35 = .ok (.return_, 1) := by decide +kernel
theorem dd_X9_closeBracket_36 : decode cX9_closeBracket 36 = .ok (.aload_n 0, 1) := by decide +kernel
theorem dd_X9_closeBracket_37 : decode cX9_closeBracket 37 = .ok (.dup, 1) := by decide +kernel
theorem dd_X9_closeBracket_38 : decode cX9_closeBracket 38 = .ok (.getfield 209, 3) := by decide +kernel
theorem dd_X9_closeBracket_41 : decode cX9_closeBracket 41 = .ok (.iconst 1, 1) := by decide +kernel
theorem dd_X9_closeBracket_42 : decode cX9_closeBracket 42 = .ok (.isub, 1) := by decide +kernel
theorem dd_X9_closeBracket_43 : decode cX9_closeBracket 43 = .ok (.putfield 209, 3) := by decide +kernel
theorem dd_X9_closeBracket_46 : decode cX9_closeBracket 46 = .ok (.aload_n 0, 1) := by decide +kernel
theorem dd_X9_closeBracket_47 : decode cX9_closeBracket 47 = .ok (.getfield 44, 3) := by decide +kernel
theorem dd_X9_closeBracket_50 : decode cX9_closeBracket 50 = .ok (.aload_n 0, 1) := by decide +kernel
theorem dd_X9_closeBracket_51 : decode cX9_closeBracket 51 = .ok (.getfield 209, 3) := by decide +kernel
theorem dd_X9_closeBracket_54 : decode cX9_closeBracket 54 = .ok (.iaload, 1) := by decide +kernel
theorem dd_X9_closeBracket_55 : decode cX9_closeBracket 55 = .ok (.istore 4, 2) := by decide +kernel
theorem dd_X9_closeBracket_57 : decode cX9_closeBracket 57 = .ok (.aload_n 0, 1) := by decide +kernel
theorem dd_X9_closeBracket_58 : decode cX9_closeBracket 58 = .ok (.getfield 206, 3) := by decide +kernel
theorem dd_X9_closeBracket_61 : decode cX9_closeBracket 61 = .ok (.iload 4, 2) := by decide +kernel
theorem dd_X9_closeBracket_63 : decode cX9_closeBracket 63 = .ok (.isub, 1) := by decide +kernel
theorem dd_X9_closeBracket_64 : decode cX9_closeBracket 64 = .ok (.istore 5, 2) := by decide +kernel
theorem dd_X9_closeBracket_66 : decode cX9_closeBracket 66 = .ok (.aload_n 0, 1) := by decide +kernel
theorem dd_X9_closeBracket_67 : decode cX9_closeBracket 67 = .ok (.iload 4, 2) := by decide +kernel
theorem dd_X9_closeBracket_69 : decode cX9_closeBracket 69 = .ok (.iload 5, 2) := by decide +kernel
theorem dd_X9_closeBracket_71 : decode cX9_closeBracket 71 = .ok (.iload_n 3, 1) := by decide +kernel
theorem dd_X9_closeBracket_72 : decode cX9_closeBracket 72 = .ok (.imul, 1) := by decide +kernel
theorem dd_X9_closeBracket_73 : decode cX9_closeBracket 73 = .ok (.iadd, 1) := by decide +kernel
theorem dd_X9_closeBracket_74 : decode cX9_closeBracket 74 = .ok (.bipush 60, 2) := by decide +kernel
theorem dd_X9_closeBracket_76 : decode cX9_closeBracket 76 = .ok (.if_icmp .gt 7, 3) := by decide +kernel
theorem dd_X9_closeBracket_79 : decode cX9_closeBracket 79 = .ok (.iconst 1, 1) := by decide +kernel
theorem dd_X9_closeBracket_80 : decode cX9_closeBracket 80 = .ok (.goto 4, 3) := by decide +kernel
theorem dd_X9_closeBracket_83 : decode cX9_closeBracket 83 = .ok (.iconst 0, 1) := by decide +kernel
theorem dd_X9_closeBracket_84 : decode cX9_closeBracket 84 = .ok (.iconst 3, 1) := by decide +kernel
theorem dd_X9_closeBracket_85 : decode cX9_closeBracket 85 = .ok (.iload_n 2, 1) := by decide +kernel
theorem dd_X9_closeBracket_86 : decode cX9_closeBracket 86 = .ok (.invokevirtual 199, 3) := by decide +kernel
theorem dd_X9_closeBracket_89 : decode cX9_closeBracket 89 = .ok (.ifCond .eq 56, 3) := by decide +kernel
theorem dd_X9_closeBracket_92 : decode cX9_closeBracket 92 = .ok (.iload 4, 2) := by decide +kernel
theorem dd_X9_closeBracket_94 : decode cX9_closeBracket 94 = .ok (.iload 5, 2) := by decide +kernel
theorem dd_X9_closeBracket_96 : decode cX9_closeBracket 96 = .ok (.iadd, 1) := by decide +kernel
theorem dd_X9_closeBracket_97 : decode cX9_closeBracket 97 = .ok (.istore 6, 2) := by decide +kernel
theorem dd_X9_closeBracket_99 : decode cX9_closeBracket 99 = .ok (.iload 6, 2) := by decide +kernel
theorem dd_X9_closeBracket_101 : decode cX9_closeBracket 101 = .ok (.iload 4, 2) := by decide +kernel
theorem dd_X9_closeBracket_103 : decode cX9_closeBracket 103 = .ok (.iload 5, 2) := by decide +kernel
theorem dd_X9_closeBracket_105 : decode cX9_closeBracket 105 = .ok (.iload_n 3, 1) := by decide +kernel
theorem dd_X9_closeBracket_106 : decode cX9_closeBracket 106 = .ok (.imul, 1) := by decide +kernel
theorem dd_X9_closeBracket_107 : decode cX9_closeBracket 107 = .ok (.iadd, 1) := by decide +kernel
theorem dd_X9_closeBracket_108 : decode cX9_closeBracket 108 = .ok (.if_icmp .ge 26, 3) := by decide +kernel
theorem dd_X9_closeBracket_111 : decode cX9_closeBracket 111 = .ok (.aload_n 0, 1) := by decide +kernel
theorem dd_X9_closeBracket_112 : decode cX9_closeBracket 112 = .ok (.getfield 47, 3) := by decide +kernel
theorem dd_X9_closeBracket_115 : decode cX9_closeBracket 115 = .ok (.iload 6, 2) := by decide +kernel
theorem dd_X9_closeBracket_117 : decode cX9_closeBracket 117 = .ok (.aload_n 0, 1) := by decide +kernel
theorem dd_X9_closeBracket_118 : decode cX9_closeBracket 118 = .ok (.getfield 47, 3) := by decide +kernel
theorem dd_X9_closeBracket_121 : decode cX9_closeBracket 121 = .ok (.iload 6, 2) := by decide +kernel
theorem dd_X9_closeBracket_123 : decode cX9_closeBracket 123 = .ok (.iload 5, 2) := by decide +kernel
theorem dd_X9_closeBracket_125 : decode cX9_closeBracket 125 = .ok (.isub, 1) := by decide +kernel
theorem dd_X9_closeBracket_126 : decode cX9_closeBracket 126 = .ok (.iaload, 1) := by decide +kernel
theorem dd_X9_closeBracket_127 : decode cX9_closeBracket 127 = .ok (.iastore, 1) := by decide +kernel
theorem dd_X9_closeBracket_128 : decode cX9_closeBracket 128 = .ok (.iinc 6 1, 3) := by decide +kernel
theorem dd_X9_closeBracket_131 : decode cX9_closeBracket 131 = .ok (.goto (-32), 3) := by decide +kernel
theorem dd_X9_closeBracket_134 : decode cX9_closeBracket 134 = .ok (.aload_n 0, 1) := by decide +kernel
theorem dd_X9_closeBracket_135 : decode cX9_closeBracket 135 = .ok (.iload 4, 2) := by decide +kernel
theorem dd_X9_closeBracket_137 : decode cX9_closeBracket 137 = .ok (.iload 5, 2) := by decide +kernel
theorem dd_X9_closeBracket_139 : decode cX9_closeBracket 139 = .ok (.iload_n 3, 1) := by decide +kernel
theorem dd_X9_closeBracket_140 : decode cX9_closeBracket 140 = .ok (.imul, 1) := by decide +kernel
theorem dd_X9_closeBracket_141 : decode cX9_closeBracket 141 = .ok (.iadd, 1) := by decide +kernel
theorem dd_X9_closeBracket_142 : decode cX9_closeBracket 142 = .ok (.putfield 206, 3) := by decide +kernel
theorem dd_X9_closeBracket_145 : decode cX9_closeBracket 145 = .ok (.return_, 1) := by decide +kernel
theorem gs_s117 : gs_sh 117 = .inr (.inl (0, 4)) := rfl
theorem fl_X9_209 : Cond.fieldLink RX9 209 (TX9 22).1 (TX9 22).2.1 (TX9 22).2.2.1 ∈ am_tbl := ri_lw_in (pl := 804) (by decide +kernel)
theorem fl_X9_44 : Cond.fieldLink RX9 44 (TX9 21).1 (TX9 21).2.1 (TX9 21).2.2.1 ∈ am_tbl := ri_lw_in (pl := 803) (by decide +kernel)
theorem ok_X9_closeBracket : am_okM m_X9_closeBracket 0 ∧ Cond.instanceMethod m_X9_closeBracket.1 ∈ am_tbl ∧ Cond.selects m_X9_closeBracket.1.cls m_X9_closeBracket.1 m_X9_closeBracket.1 ∈ am_tbl := ri_mk1 1027 93 1026 54 (by decide +kernel)
theorem k_X9_closeBracket  {F A : gs_F} (hI : gs_I F A) (hd : 1 ≤ F 106 22) (hh : F 106 18 < F 106 17) (ho : A 117 (F 106 22 - 1).toNat ≤ F 106 24) : ∀ nN : Nat, (∀ (n : Int) (s : Int) (e : Int) (k : Int)  (F1 A1 : gs_F), gs_I F1 A1 → gs_fr (fun c j => c = 106 ∧ (j = 18 ∨ j = 19 ∨ j = 20 ∨ j = 22 ∨ j = 24)) (fun c => c = 118) F A F1 A1 → 1 ≤ n ∧ n ≤ 9 → 0 ≤ s ∧ 0 ≤ e ∧ e ≤ 60 → s + e ≤ k ∧ k ≤ 70 → s + e * n ≤ 60 → F 106 24 ≤ s + e → F 106 18 + 1 ≤ F1 106 18 ∧ F1 106 22 ≤ F 106 22 → 70 - k < (nN : Int) → sA m_X9_closeBracket 3 (fun rv F' A' => rv = none ∧ gs_I F' A' ∧ gs_fr (fun c j => c = 106 ∧ (j = 18 ∨ j = 19 ∨ j = 20 ∨ j = 22 ∨ j = 24)) (fun c => c = 118) F A F' A' ∧ ((F 106 18 + 1 ≤ F' 106 18 ∨ 1 ≤ F' 106 19) ∧ F 106 18 ≤ F' 106 18 ∧ F 106 24 ≤ F' 106 24 ∧ F' 106 22 ≤ F 106 22)) 99 [(6, gs_iv k), (5, gs_iv e), (4, gs_iv s), (3, gs_iv n), (0, .ref 106)] [] F1 A1) := by
  intro nN
  induction nN with
  | zero =>
    exact fun a0 a1 a2 a3 a4 a5 a6 a7 i0 i1 i2 i3 i4 i5 hm => by exfalso; omega
  | succ nN ih =>
    intro n s e k F1 A1 hI1 hf1 i0 i1 i2 i3 i4 i5 hm
    have b1 : (0 : Int) ≤ F1 106 18 ∧ F1 106 18 ≤ 120 := hI1.1 106 18
    have b2 : (0 : Int) ≤ F1 106 17 ∧ F1 106 17 ≤ 120 := hI1.1 106 17
    have b3 : (0 : Int) ≤ F1 106 19 ∧ F1 106 19 ≤ 4 := hI1.1 106 19
    have b4 : (0 : Int) ≤ F1 106 24 ∧ F1 106 24 ≤ 60 := hI1.1 106 24
    have b5 : (0 : Int) ≤ F1 106 22 ∧ F1 106 22 ≤ 4 := hI1.1 106 22
    have b6 : (1 : Int) ≤ F1 106 0 ∧ F1 106 0 ≤ 3 := hI1.1 106 0
    have hmg := gs_mul_ge (x := e) (y := n) (by omega) (by omega)
    have hmb := gs_mul_bd (x := e) (y := n) (m := 60) (k := 9) (by omega) (by omega) (by omega)
    refine sA_iload dd_X9_closeBracket_99 (.head _) ?_
    refine sA_iload dd_X9_closeBracket_101 (.tail _ (.tail _ (.head _))) ?_
    refine sA_iload dd_X9_closeBracket_103 (.tail _ (.head _)) ?_
    refine sA_iload_n dd_X9_closeBracket_105 rfl (.tail _ (.tail _ (.tail _ (.head _)))) ?_
    refine sA_imul dd_X9_closeBracket_106 ?_
    refine sA_iadd dd_X9_closeBracket_107 ?_
    refine sA_icmp_ge (tgt := 134) dd_X9_closeBracket_108 (by decide) (by omega) (by omega) (fun q7 => ?_) (fun q7 => ?_)
    · skip
      refine sA_aload_n dd_X9_closeBracket_134 rfl (.tail _ (.tail _ (.tail _ (.tail _ (.head _))))) ?_
      refine sA_iload dd_X9_closeBracket_135 (.tail _ (.tail _ (.head _))) ?_
      refine sA_iload dd_X9_closeBracket_137 (.tail _ (.head _)) ?_
      refine sA_iload_n dd_X9_closeBracket_139 rfl (.tail _ (.tail _ (.tail _ (.head _)))) ?_
      refine sA_imul dd_X9_closeBracket_140 ?_
      refine sA_iadd dd_X9_closeBracket_141 ?_
      refine sA_put (ci := 9) (j := 24) (q := (RX9, TX9, 28)) (ty := .int) dd_X9_closeBracket_142 rfl (by decide) fl_X9_206 rfl (tyX9_ok 24 (by decide)) rfl rfl (by decide) gs_s106 rfl ?_
      have I9 : gs_I (gs_up F1 106 24 (s + (e * n))) A1 := gs_I_put hI1 (show (0 : Int) ≤ s + (e * n) ∧ s + (e * n) ≤ 60 by omega)
      have f10 := gs_fr_put hf1 (a := 106) (z := s + (e * n)) (j := 24) (by first | omega | (dsimp only; omega) | (dsimp only))
      have v11 : gs_up F1 106 24 (s + (e * n)) 106 24 = s + (e * n) := gs_up_self _ _ _ _
      have v12 : (gs_up F1 106 24 (s + (e * n))) 106 18 = F1 106 18 := gs_up_ne _ _ (by omega)
      have v13 : (gs_up F1 106 24 (s + (e * n))) 106 17 = F1 106 17 := gs_up_ne _ _ (by omega)
      have v14 : (gs_up F1 106 24 (s + (e * n))) 106 19 = F1 106 19 := gs_up_ne _ _ (by omega)
      have v15 : (gs_up F1 106 24 (s + (e * n))) 106 22 = F1 106 22 := gs_up_ne _ _ (by omega)
      have v16 : (gs_up F1 106 24 (s + (e * n))) 106 0 = F1 106 0 := gs_up_ne _ _ (by omega)
      generalize gs_up F1 106 24 (s + (e * n)) = F8 at I9 f10 v11 v12 v13 v14 v15 v16 ⊢
      refine sA_vret dd_X9_closeBracket_145 rfl ?_
      exact ⟨rfl, I9, f10, by omega⟩
    · skip
      refine sA_aload_n dd_X9_closeBracket_111 rfl (.tail _ (.tail _ (.tail _ (.tail _ (.head _))))) ?_
      refine sA_getr (ci := 9) (j := 23) (q := (RX9, TX9, 28)) dd_X9_closeBracket_112 rfl (by decide) fl_X9_47 (by decide) gs_s106 rfl ?_
      refine sA_iload dd_X9_closeBracket_115 (.head _) ?_
      refine sA_aload_n dd_X9_closeBracket_117 rfl (.tail _ (.tail _ (.tail _ (.tail _ (.head _))))) ?_
      refine sA_getr (ci := 9) (j := 23) (q := (RX9, TX9, 28)) dd_X9_closeBracket_118 rfl (by decide) fl_X9_47 (by decide) gs_s106 rfl ?_
      refine sA_iload dd_X9_closeBracket_121 (.head _) ?_
      refine sA_iload dd_X9_closeBracket_123 (.tail _ (.head _)) ?_
      refine sA_isub dd_X9_closeBracket_125 ?_
      refine sA_iald (n := 600) dd_X9_closeBracket_126 (by decide) gs_s118 (by omega) (by decide) ?_
      have b17 : (-2147483648 : Int) ≤ A1 118 (k - e).toNat ∧ A1 118 (k - e).toNat ≤ 2147483647 := hI1.2 118 (k - e).toNat
      refine sA_iast (n := 600) dd_X9_closeBracket_127 (by decide) gs_s118 (by omega) (by decide) ?_
      have I19 : gs_I F1 (gs_up A1 118 k.toNat (A1 118 (k - e).toNat)) := gs_I_ast hI1 (show (-2147483648 : Int) ≤ A1 118 (k - e).toNat ∧ A1 118 (k - e).toNat ≤ 2147483647 by omega)
      have f20 := gs_fr_ast hf1 (a := 118) (z := A1 118 (k - e).toNat) (i := k.toNat) (by first | omega | (dsimp only; omega) | (dsimp only))
      have v21 : (gs_up A1 118 k.toNat (A1 118 (k - e).toNat)) 117 ((F 106 22 - 1).toNat) = A1 117 ((F 106 22 - 1).toNat) := gs_up_ne _ _ (by omega)
      generalize gs_up A1 118 k.toNat (A1 118 (k - e).toNat) = A18 at I19 f20 v21 ⊢
      refine sA_iinc (lv' := [(6, gs_iv (k + 1)), (5, gs_iv e), (4, gs_iv s), (3, gs_iv n), (0, .ref 106)]) dd_X9_closeBracket_128 (.head _) (by decide) rfl ?_
      refine sA_goto (tgt := 99) dd_X9_closeBracket_131 (by decide) ?_
      refine sA_sub (lv2 := [(6, gs_iv (k + 1)), (5, gs_iv e), (4, gs_iv s), (3, gs_iv n), (0, .ref 106)]) (List.forall_mem_cons.mpr ⟨(.head _), (List.forall_mem_cons.mpr ⟨(.tail _ (.head _)), (List.forall_mem_cons.mpr ⟨(.tail _ (.tail _ (.head _))), (List.forall_mem_cons.mpr ⟨(.tail _ (.tail _ (.tail _ (.head _)))), (List.forall_mem_cons.mpr ⟨(.tail _ (.tail _ (.tail _ (.tail _ (.head _))))), (fun _ h => absurd h List.not_mem_nil)⟩)⟩)⟩)⟩)⟩) ?_
      exact ih n s e (k + 1) F1 A18 I19 f20 (by omega) (by omega) (by omega) (by omega) (by omega) (by omega) (by omega)
theorem c_X9_closeBracket  {F A : gs_F} (hI : gs_I F A) (hd : 1 ≤ F 106 22) (hh : F 106 18 < F 106 17) (ho : A 117 (F 106 22 - 1).toNat ≤ F 106 24) : sC m_X9_closeBracket 3 [.ref 106] F A (fun rv F' A' => rv = none ∧ gs_I F' A' ∧ gs_fr (fun c j => c = 106 ∧ (j = 18 ∨ j = 19 ∨ j = 20 ∨ j = 22 ∨ j = 24)) (fun c => c = 118) F A F' A' ∧ ((F 106 18 + 1 ≤ F' 106 18 ∨ 1 ≤ F' 106 19) ∧ F 106 18 ≤ F' 106 18 ∧ F 106 24 ≤ F' 106 24 ∧ F' 106 22 ≤ F 106 22)) := by
  refine sC_of ok_X9_closeBracket.1 (Nat.le_of_ble_eq_true rfl) ?_
  show sA _ _ _ 0 [(0, .ref 106)] [] F A
  have hf : gs_fr (fun c j => c = 106 ∧ (j = 18 ∨ j = 19 ∨ j = 20 ∨ j = 22 ∨ j = 24)) (fun c => c = 118) F A F A := gs_fr_refl _ _ _ _
  have b22 : (0 : Int) ≤ F 106 18 ∧ F 106 18 ≤ 120 := hI.1 106 18
  have b23 : (0 : Int) ≤ F 106 17 ∧ F 106 17 ≤ 120 := hI.1 106 17
  have b24 : (0 : Int) ≤ F 106 19 ∧ F 106 19 ≤ 4 := hI.1 106 19
  have b25 : (0 : Int) ≤ F 106 24 ∧ F 106 24 ≤ 60 := hI.1 106 24
  have b26 : (0 : Int) ≤ F 106 22 ∧ F 106 22 ≤ 4 := hI.1 106 22
  have b27 : (1 : Int) ≤ F 106 0 ∧ F 106 0 ≤ 3 := hI.1 106 0
  have hb17 : (0 : Int) ≤ F 106 17 ∧ F 106 17 ≤ 120 := hI.1 106 17
  refine sA_aload_n dd_X9_closeBracket_0 rfl (.head _) ?_
  refine sA_dup dd_X9_closeBracket_1 rfl ?_
  refine sA_geti (ci := 9) (j := 18) (q := (RX9, TX9, 28)) dd_X9_closeBracket_2 rfl (by decide) fl_X9_186 (by decide) gs_s106 rfl ?_
  refine sA_iconst (z := 1) dd_X9_closeBracket_5 ?_
  refine sA_iadd dd_X9_closeBracket_6 ?_
  refine sA_put (ci := 9) (j := 18) (q := (RX9, TX9, 28)) (ty := .int) dd_X9_closeBracket_7 rfl (by decide) fl_X9_186 rfl (tyX9_ok 18 (by decide)) rfl rfl (by decide) gs_s106 rfl ?_
  have I29 : gs_I (gs_up F 106 18 ((F 106 18) + 1)) A := gs_I_put hI (show (0 : Int) ≤ (F 106 18) + 1 ∧ (F 106 18) + 1 ≤ 120 by omega)
  have f30 := gs_fr_put hf (a := 106) (z := (F 106 18) + 1) (j := 18) (by first | omega | (dsimp only; omega) | (dsimp only))
  have v31 : gs_up F 106 18 ((F 106 18) + 1) 106 18 = (F 106 18) + 1 := gs_up_self _ _ _ _
  have v32 : (gs_up F 106 18 ((F 106 18) + 1)) 106 17 = F 106 17 := gs_up_ne _ _ (by omega)
  have v33 : (gs_up F 106 18 ((F 106 18) + 1)) 106 19 = F 106 19 := gs_up_ne _ _ (by omega)
  have v34 : (gs_up F 106 18 ((F 106 18) + 1)) 106 24 = F 106 24 := gs_up_ne _ _ (by omega)
  have v35 : (gs_up F 106 18 ((F 106 18) + 1)) 106 22 = F 106 22 := gs_up_ne _ _ (by omega)
  have v36 : (gs_up F 106 18 ((F 106 18) + 1)) 106 0 = F 106 0 := gs_up_ne _ _ (by omega)
  generalize gs_up F 106 18 ((F 106 18) + 1) = F28 at I29 f30 v31 v32 v33 v34 v35 v36 ⊢
  refine sA_aload_n dd_X9_closeBracket_10 rfl (.head _) ?_
  refine sA_callV (y2 := m_X9_look) (n2 := 0) (d2 := 1) (a := 106) (ci := 9) (q := (RX9, TX9, 28)) (as := []) (rest := []) dd_X9_closeBracket_11 ok_X9_look ml_X9_192 rfl rfl (by decide) gs_s106 rfl rfl (Nat.le_of_ble_eq_true rfl) (by decide) (c_X9_look I29 ) (fun r37 F38 A39 h40 => ?_)
  obtain ⟨z43, e42, I44, f45, x41⟩ := h40
  subst e42
  have v47 : F38 106 17 = F28 106 17 := f45.1 106 17 (by first | exact id | omega | (dsimp only; omega) | (dsimp only))
  have v48 : F38 106 19 = F28 106 19 := f45.1 106 19 (by first | exact id | omega | (dsimp only; omega) | (dsimp only))
  have v49 : F38 106 24 = F28 106 24 := f45.1 106 24 (by first | exact id | omega | (dsimp only; omega) | (dsimp only))
  have v50 : F38 106 22 = F28 106 22 := f45.1 106 22 (by first | exact id | omega | (dsimp only; omega) | (dsimp only))
  have v51 : F38 106 0 = F28 106 0 := f45.1 106 0 (by first | exact id | omega | (dsimp only; omega) | (dsimp only))
  have v52 : A39 117 ((F 106 22 - 1).toNat) = A 117 ((F 106 22 - 1).toNat) := congrFun (f45.2 117 (by first | exact id | omega | (dsimp only; omega) | (dsimp only))) _
  have f53 := gs_fr_tr f30 f45 (fun b j h => by first | exact False.elim h | omega | (dsimp only at h ⊢; omega)) (fun b h => by first | exact False.elim h | omega | (dsimp only at h ⊢; omega))
  show sA _ _ _ 14 _ [gs_iv z43] _ _
  refine sA_istore_n (lv' := [(1, gs_iv z43), (0, .ref 106)]) dd_X9_closeBracket_14 rfl (by decide) rfl ?_
  refine sA_aload_n dd_X9_closeBracket_15 rfl (.tail _ (.head _)) ?_
  refine sA_geti (ci := 9) (j := 18) (q := (RX9, TX9, 28)) dd_X9_closeBracket_16 rfl (by decide) fl_X9_186 (by decide) gs_s106 rfl ?_
  have b54 : (0 : Int) ≤ F38 106 18 ∧ F38 106 18 ≤ 120 := I44.1 106 18
  refine sA_istore_n (lv' := [(2, gs_iv (F38 106 18)), (1, gs_iv z43), (0, .ref 106)]) dd_X9_closeBracket_19 rfl (by decide) rfl ?_
  refine sA_aload_n dd_X9_closeBracket_20 rfl (.tail _ (.tail _ (.head _))) ?_
  refine sA_iconst (z := 1) dd_X9_closeBracket_21 ?_
  refine sA_bipush (z := 9) dd_X9_closeBracket_22 (by decide) ?_
  refine sA_callV (y2 := m_X9_takeFigure) (n2 := 2) (d2 := 2) (a := 106) (ci := 9) (q := (RX9, TX9, 28)) (as := [gs_iv 1, gs_iv 9]) (rest := []) dd_X9_closeBracket_24 ok_X9_takeFigure ml_X9_203 rfl rfl (by decide) gs_s106 rfl rfl (Nat.le_of_ble_eq_true rfl) (by decide) (c_X9_takeFigure I44 (by omega) (by omega)) (fun r55 F56 A57 h58 => ?_)
  obtain ⟨z61, e60, I62, f63, x59⟩ := h58
  subst e60
  have v65 : F56 106 17 = F38 106 17 := f63.1 106 17 (by first | exact id | omega | (dsimp only; omega) | (dsimp only))
  have v67 : F56 106 24 = F38 106 24 := f63.1 106 24 (by first | exact id | omega | (dsimp only; omega) | (dsimp only))
  have v68 : F56 106 22 = F38 106 22 := f63.1 106 22 (by first | exact id | omega | (dsimp only; omega) | (dsimp only))
  have v69 : F56 106 0 = F38 106 0 := f63.1 106 0 (by first | exact id | omega | (dsimp only; omega) | (dsimp only))
  have v70 : A57 117 ((F 106 22 - 1).toNat) = A39 117 ((F 106 22 - 1).toNat) := congrFun (f63.2 117 (by first | exact id | omega | (dsimp only; omega) | (dsimp only))) _
  have f71 := gs_fr_tr f53 f63 (fun b j h => by first | exact False.elim h | omega | (dsimp only at h ⊢; omega)) (fun b h => by first | exact False.elim h | omega | (dsimp only at h ⊢; omega))
  show sA _ _ _ 27 _ [gs_iv z61] _ _
  refine sA_istore_n (lv' := [(3, gs_iv z61), (2, gs_iv (F38 106 18)), (1, gs_iv z43), (0, .ref 106)]) dd_X9_closeBracket_27 rfl (by decide) rfl ?_
  refine sA_aload_n dd_X9_closeBracket_28 rfl (.tail _ (.tail _ (.tail _ (.head _)))) ?_
  refine sA_geti (ci := 9) (j := 19) (q := (RX9, TX9, 28)) dd_X9_closeBracket_29 rfl (by decide) fl_X9_189 (by decide) gs_s106 rfl ?_
  have b72 : (0 : Int) ≤ F56 106 19 ∧ F56 106 19 ≤ 4 := I62.1 106 19
  refine sA_if_le (tgt := 36) dd_X9_closeBracket_32 (by decide) (by omega) (fun q73 => ?_) (fun q73 => ?_)
  · skip
    refine sA_aload_n dd_X9_closeBracket_36 rfl (.tail _ (.tail _ (.tail _ (.head _)))) ?_
    refine sA_dup dd_X9_closeBracket_37 rfl ?_
    refine sA_geti (ci := 9) (j := 22) (q := (RX9, TX9, 28)) dd_X9_closeBracket_38 rfl (by decide) fl_X9_209 (by decide) gs_s106 rfl ?_
    have b74 : (0 : Int) ≤ F56 106 22 ∧ F56 106 22 ≤ 4 := I62.1 106 22
    refine sA_iconst (z := 1) dd_X9_closeBracket_41 ?_
    refine sA_isub dd_X9_closeBracket_42 ?_
    refine sA_put (ci := 9) (j := 22) (q := (RX9, TX9, 28)) (ty := .int) dd_X9_closeBracket_43 rfl (by decide) fl_X9_209 rfl (tyX9_ok 22 (by decide)) rfl rfl (by decide) gs_s106 rfl ?_
    have I76 : gs_I (gs_up F56 106 22 ((F56 106 22) - 1)) A57 := gs_I_put I62 (show (0 : Int) ≤ (F56 106 22) - 1 ∧ (F56 106 22) - 1 ≤ 4 by omega)
    have f77 := gs_fr_put f71 (a := 106) (z := (F56 106 22) - 1) (j := 22) (by first | omega | (dsimp only; omega) | (dsimp only))
    have v78 : gs_up F56 106 22 ((F56 106 22) - 1) 106 22 = (F56 106 22) - 1 := gs_up_self _ _ _ _
    have v79 : (gs_up F56 106 22 ((F56 106 22) - 1)) 106 18 = F56 106 18 := gs_up_ne _ _ (by omega)
    have v80 : (gs_up F56 106 22 ((F56 106 22) - 1)) 106 17 = F56 106 17 := gs_up_ne _ _ (by omega)
    have v81 : (gs_up F56 106 22 ((F56 106 22) - 1)) 106 19 = F56 106 19 := gs_up_ne _ _ (by omega)
    have v82 : (gs_up F56 106 22 ((F56 106 22) - 1)) 106 24 = F56 106 24 := gs_up_ne _ _ (by omega)
    have v83 : (gs_up F56 106 22 ((F56 106 22) - 1)) 106 0 = F56 106 0 := gs_up_ne _ _ (by omega)
    generalize gs_up F56 106 22 ((F56 106 22) - 1) = F75 at I76 f77 v78 v79 v80 v81 v82 v83 ⊢
    refine sA_aload_n dd_X9_closeBracket_46 rfl (.tail _ (.tail _ (.tail _ (.head _)))) ?_
    refine sA_getr (ci := 9) (j := 21) (q := (RX9, TX9, 28)) dd_X9_closeBracket_47 rfl (by decide) fl_X9_44 (by decide) gs_s106 rfl ?_
    refine sA_aload_n dd_X9_closeBracket_50 rfl (.tail _ (.tail _ (.tail _ (.head _)))) ?_
    refine sA_geti (ci := 9) (j := 22) (q := (RX9, TX9, 28)) dd_X9_closeBracket_51 rfl (by decide) fl_X9_209 (by decide) gs_s106 rfl ?_
    have b84 : (0 : Int) ≤ F75 106 22 ∧ F75 106 22 ≤ 4 := I76.1 106 22
    refine sA_iald (n := 4) dd_X9_closeBracket_54 (by decide) gs_s117 (by omega) (by decide) ?_
    have b85 : (0 : Int) ≤ A57 117 (F75 106 22).toNat ∧ A57 117 (F75 106 22).toNat ≤ 60 := I76.2 117 (F75 106 22).toNat
    have hidx : A57 117 (F75 106 22).toNat = A57 117 (F 106 22 - 1).toNat := by rw [show F75 106 22 = F 106 22 - 1 by omega]
    refine sA_istore (lv' := [(4, gs_iv (A57 117 (F75 106 22).toNat)), (3, gs_iv z61), (2, gs_iv (F38 106 18)), (1, gs_iv z43), (0, .ref 106)]) dd_X9_closeBracket_55 (by decide) rfl ?_
    refine sA_aload_n dd_X9_closeBracket_57 rfl (.tail _ (.tail _ (.tail _ (.tail _ (.head _))))) ?_
    refine sA_geti (ci := 9) (j := 24) (q := (RX9, TX9, 28)) dd_X9_closeBracket_58 rfl (by decide) fl_X9_206 (by decide) gs_s106 rfl ?_
    have b86 : (0 : Int) ≤ F75 106 24 ∧ F75 106 24 ≤ 60 := I76.1 106 24
    refine sA_iload dd_X9_closeBracket_61 (.head _) ?_
    refine sA_isub dd_X9_closeBracket_63 ?_
    refine sA_istore (lv' := [(5, gs_iv ((F75 106 24) - (A57 117 (F75 106 22).toNat))), (4, gs_iv (A57 117 (F75 106 22).toNat)), (3, gs_iv z61), (2, gs_iv (F38 106 18)), (1, gs_iv z43), (0, .ref 106)]) dd_X9_closeBracket_64 (by decide) rfl ?_
    refine sA_aload_n dd_X9_closeBracket_66 rfl (.tail _ (.tail _ (.tail _ (.tail _ (.tail _ (.head _)))))) ?_
    refine sA_iload dd_X9_closeBracket_67 (.tail _ (.head _)) ?_
    refine sA_iload dd_X9_closeBracket_69 (.head _) ?_
    refine sA_iload_n dd_X9_closeBracket_71 rfl (.tail _ (.tail _ (.head _))) ?_
    have hmb := gs_mul_bd (x := (F75 106 24) - (A57 117 (F75 106 22).toNat)) (y := z61) (m := 60) (k := 9) (by omega) (by omega) (by omega)
    refine sA_imul dd_X9_closeBracket_72 ?_
    refine sA_iadd dd_X9_closeBracket_73 ?_
    refine sA_bipush (z := 60) dd_X9_closeBracket_74 (by decide) ?_
    refine sA_icmp_gt (tgt := 83) dd_X9_closeBracket_76 (by decide) (by omega) (by omega) (fun q87 => ?_) (fun q87 => ?_)
    · skip
      refine sA_iconst (z := 0) dd_X9_closeBracket_83 ?_
      refine sA_iconst (z := 3) dd_X9_closeBracket_84 ?_
      refine sA_iload_n dd_X9_closeBracket_85 rfl (.tail _ (.tail _ (.tail _ (.head _)))) ?_
      refine sA_callV (y2 := m_X9_want) (n2 := 3) (d2 := 1) (a := 106) (ci := 9) (q := (RX9, TX9, 28)) (as := [gs_iv 0, gs_iv 3, gs_iv (F38 106 18)]) (rest := []) dd_X9_closeBracket_86 ok_X9_want ml_X9_199 rfl rfl (by decide) gs_s106 rfl rfl (Nat.le_of_ble_eq_true rfl) (by decide) (c_X9_want I76 (by omega) (by omega) (by omega)) (fun r88 F89 A90 h91 => ?_)
      obtain ⟨z94, e93, I95, f96, x92⟩ := h91
      subst e93
      have v97 : F89 106 18 = F75 106 18 := f96.1 106 18 (by first | exact id | omega | (dsimp only; omega) | (dsimp only))
      have v98 : F89 106 17 = F75 106 17 := f96.1 106 17 (by first | exact id | omega | (dsimp only; omega) | (dsimp only))
      have v100 : F89 106 24 = F75 106 24 := f96.1 106 24 (by first | exact id | omega | (dsimp only; omega) | (dsimp only))
      have v101 : F89 106 22 = F75 106 22 := f96.1 106 22 (by first | exact id | omega | (dsimp only; omega) | (dsimp only))
      have v102 : F89 106 0 = F75 106 0 := f96.1 106 0 (by first | exact id | omega | (dsimp only; omega) | (dsimp only))
      have v103 : A90 117 ((F 106 22 - 1).toNat) = A57 117 ((F 106 22 - 1).toNat) := congrFun (f96.2 117 (by first | exact id | omega | (dsimp only; omega) | (dsimp only))) _
      have f104 := gs_fr_tr f77 f96 (fun b j h => by first | exact False.elim h | omega | (dsimp only at h ⊢; omega)) (fun b h => by first | exact False.elim h | omega | (dsimp only at h ⊢; omega))
      show sA _ _ _ 89 _ [gs_iv z94] _ _
      refine sA_if_eq (tgt := 145) dd_X9_closeBracket_89 (by decide) (by omega) (fun q105 => ?_) (fun q105 => ?_)
      · skip
        refine sA_vret dd_X9_closeBracket_145 rfl ?_
        exact ⟨rfl, I95, f104, by omega⟩
      · skip
        refine sA_iload dd_X9_closeBracket_92 (.tail _ (.head _)) ?_
        refine sA_iload dd_X9_closeBracket_94 (.head _) ?_
        refine sA_iadd dd_X9_closeBracket_96 ?_
        refine sA_istore (lv' := [(6, gs_iv ((A57 117 (F75 106 22).toNat) + ((F75 106 24) - (A57 117 (F75 106 22).toNat)))), (5, gs_iv ((F75 106 24) - (A57 117 (F75 106 22).toNat))), (4, gs_iv (A57 117 (F75 106 22).toNat)), (3, gs_iv z61), (2, gs_iv (F38 106 18)), (1, gs_iv z43), (0, .ref 106)]) dd_X9_closeBracket_97 (by decide) rfl ?_
        have b106 : (0 : Int) ≤ F89 106 18 ∧ F89 106 18 ≤ 120 := I95.1 106 18
        have b107 : (0 : Int) ≤ F89 106 17 ∧ F89 106 17 ≤ 120 := I95.1 106 17
        have b108 : (0 : Int) ≤ F89 106 19 ∧ F89 106 19 ≤ 4 := I95.1 106 19
        have b109 : (0 : Int) ≤ F89 106 24 ∧ F89 106 24 ≤ 60 := I95.1 106 24
        have b110 : (0 : Int) ≤ F89 106 22 ∧ F89 106 22 ≤ 4 := I95.1 106 22
        have b111 : (1 : Int) ≤ F89 106 0 ∧ F89 106 0 ≤ 3 := I95.1 106 0
        refine sA_sub (lv2 := [(6, gs_iv ((A57 117 (F75 106 22).toNat) + ((F75 106 24) - (A57 117 (F75 106 22).toNat)))), (5, gs_iv ((F75 106 24) - (A57 117 (F75 106 22).toNat))), (4, gs_iv (A57 117 (F75 106 22).toNat)), (3, gs_iv z61), (0, .ref 106)]) (List.forall_mem_cons.mpr ⟨(.head _), (List.forall_mem_cons.mpr ⟨(.tail _ (.head _)), (List.forall_mem_cons.mpr ⟨(.tail _ (.tail _ (.head _))), (List.forall_mem_cons.mpr ⟨(.tail _ (.tail _ (.tail _ (.head _)))), (List.forall_mem_cons.mpr ⟨(.tail _ (.tail _ (.tail _ (.tail _ (.tail _ (.tail _ (.head _))))))), (fun _ h => absurd h List.not_mem_nil)⟩)⟩)⟩)⟩)⟩) ?_
        exact (k_X9_closeBracket hI hd hh ho (70 - ((A57 117 (F75 106 22).toNat) + ((F75 106 24) - (A57 117 (F75 106 22).toNat))) : Int).toNat.succ) z61 (A57 117 (F75 106 22).toNat) ((F75 106 24) - (A57 117 (F75 106 22).toNat)) ((A57 117 (F75 106 22).toNat) + ((F75 106 24) - (A57 117 (F75 106 22).toNat))) F89 A90 I95 f104 (by omega) (by omega) (by omega) (by omega) (by omega) (by omega) (by omega)
    · skip
      refine sA_iconst (z := 1) dd_X9_closeBracket_79 ?_
      refine sA_goto (tgt := 84) dd_X9_closeBracket_80 (by decide) ?_
      refine sA_iconst (z := 3) dd_X9_closeBracket_84 ?_
      refine sA_iload_n dd_X9_closeBracket_85 rfl (.tail _ (.tail _ (.tail _ (.head _)))) ?_
      refine sA_callV (y2 := m_X9_want) (n2 := 3) (d2 := 1) (a := 106) (ci := 9) (q := (RX9, TX9, 28)) (as := [gs_iv 1, gs_iv 3, gs_iv (F38 106 18)]) (rest := []) dd_X9_closeBracket_86 ok_X9_want ml_X9_199 rfl rfl (by decide) gs_s106 rfl rfl (Nat.le_of_ble_eq_true rfl) (by decide) (c_X9_want I76 (by omega) (by omega) (by omega)) (fun r112 F113 A114 h115 => ?_)
      obtain ⟨z118, e117, I119, f120, x116⟩ := h115
      subst e117
      have v121 : F113 106 18 = F75 106 18 := f120.1 106 18 (by first | exact id | omega | (dsimp only; omega) | (dsimp only))
      have v122 : F113 106 17 = F75 106 17 := f120.1 106 17 (by first | exact id | omega | (dsimp only; omega) | (dsimp only))
      have v124 : F113 106 24 = F75 106 24 := f120.1 106 24 (by first | exact id | omega | (dsimp only; omega) | (dsimp only))
      have v125 : F113 106 22 = F75 106 22 := f120.1 106 22 (by first | exact id | omega | (dsimp only; omega) | (dsimp only))
      have v126 : F113 106 0 = F75 106 0 := f120.1 106 0 (by first | exact id | omega | (dsimp only; omega) | (dsimp only))
      have v127 : A114 117 ((F 106 22 - 1).toNat) = A57 117 ((F 106 22 - 1).toNat) := congrFun (f120.2 117 (by first | exact id | omega | (dsimp only; omega) | (dsimp only))) _
      have f128 := gs_fr_tr f77 f120 (fun b j h => by first | exact False.elim h | omega | (dsimp only at h ⊢; omega)) (fun b h => by first | exact False.elim h | omega | (dsimp only at h ⊢; omega))
      show sA _ _ _ 89 _ [gs_iv z118] _ _
      refine sA_if_eq (tgt := 145) dd_X9_closeBracket_89 (by decide) (by omega) (fun q129 => ?_) (fun q129 => ?_)
      · skip
        refine sA_vret dd_X9_closeBracket_145 rfl ?_
        exact ⟨rfl, I119, f128, by omega⟩
      · skip
        refine sA_iload dd_X9_closeBracket_92 (.tail _ (.head _)) ?_
        refine sA_iload dd_X9_closeBracket_94 (.head _) ?_
        refine sA_iadd dd_X9_closeBracket_96 ?_
        refine sA_istore (lv' := [(6, gs_iv ((A57 117 (F75 106 22).toNat) + ((F75 106 24) - (A57 117 (F75 106 22).toNat)))), (5, gs_iv ((F75 106 24) - (A57 117 (F75 106 22).toNat))), (4, gs_iv (A57 117 (F75 106 22).toNat)), (3, gs_iv z61), (2, gs_iv (F38 106 18)), (1, gs_iv z43), (0, .ref 106)]) dd_X9_closeBracket_97 (by decide) rfl ?_
        have b130 : (0 : Int) ≤ F113 106 18 ∧ F113 106 18 ≤ 120 := I119.1 106 18
        have b131 : (0 : Int) ≤ F113 106 17 ∧ F113 106 17 ≤ 120 := I119.1 106 17
        have b132 : (0 : Int) ≤ F113 106 19 ∧ F113 106 19 ≤ 4 := I119.1 106 19
        have b133 : (0 : Int) ≤ F113 106 24 ∧ F113 106 24 ≤ 60 := I119.1 106 24
        have b134 : (0 : Int) ≤ F113 106 22 ∧ F113 106 22 ≤ 4 := I119.1 106 22
        have b135 : (1 : Int) ≤ F113 106 0 ∧ F113 106 0 ≤ 3 := I119.1 106 0
        refine sA_sub (lv2 := [(6, gs_iv ((A57 117 (F75 106 22).toNat) + ((F75 106 24) - (A57 117 (F75 106 22).toNat)))), (5, gs_iv ((F75 106 24) - (A57 117 (F75 106 22).toNat))), (4, gs_iv (A57 117 (F75 106 22).toNat)), (3, gs_iv z61), (0, .ref 106)]) (List.forall_mem_cons.mpr ⟨(.head _), (List.forall_mem_cons.mpr ⟨(.tail _ (.head _)), (List.forall_mem_cons.mpr ⟨(.tail _ (.tail _ (.head _))), (List.forall_mem_cons.mpr ⟨(.tail _ (.tail _ (.tail _ (.head _)))), (List.forall_mem_cons.mpr ⟨(.tail _ (.tail _ (.tail _ (.tail _ (.tail _ (.tail _ (.head _))))))), (fun _ h => absurd h List.not_mem_nil)⟩)⟩)⟩)⟩)⟩) ?_
        exact (k_X9_closeBracket hI hd hh ho (70 - ((A57 117 (F75 106 22).toNat) + ((F75 106 24) - (A57 117 (F75 106 22).toNat))) : Int).toNat.succ) z61 (A57 117 (F75 106 22).toNat) ((F75 106 24) - (A57 117 (F75 106 22).toNat)) ((A57 117 (F75 106 22).toNat) + ((F75 106 24) - (A57 117 (F75 106 22).toNat))) F113 A114 I119 f128 (by omega) (by omega) (by omega) (by omega) (by omega) (by omega) (by omega)
  · skip
    refine sA_vret dd_X9_closeBracket_35 rfl ?_
    exact ⟨rfl, I62, f71, by omega⟩
end
