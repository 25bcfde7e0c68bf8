noncomputable section
theorem dd_X9_putRim_0 : decode cX9_putRim 0 = .ok (.iconst 0, 1) := by decide +kernel
theorem dd_X9_putRim_1 : decode cX9_putRim 1 = .ok (.istore_n 2, 1) := by decide +kernel
theorem dd_X9_putRim_2 : decode cX9_putRim 2 = .ok (.iload_n 2, 1) := by decide +kernel
theorem dd_X9_putRim_3 : decode cX9_putRim 3 = .ok (.aload_n 0, 1) := by decide +kernel
theorem dd_X9_putRim_4 : decode cX9_putRim 4 = .ok (.getfield 64, 3) := by decide +kernel
theorem dd_X9_putRim_7 : decode cX9_putRim 7 = .ok (.if_icmp .ge 114, 3) := by decide +kernel
theorem dd_X9_putRim_10 : decode cX9_putRim 10 = .ok (.iload_n 1, 1) := by decide +kernel
theorem dd_X9_putRim_11 : decode cX9_putRim 11 = .ok (.ifCond .eq 14, 3) := by decide +kernel
theorem dd_X9_putRim_14 : decode cX9_putRim 14 = .ok (.aload_n 0, 1) := by decide +kernel
theorem dd_X9_putRim_15 : decode cX9_putRim 15 = .ok (.getfield 64, 3) := by decide +kernel
theorem dd_X9_putRim_18 : decode cX9_putRim 18 = .ok (.iconst 1, 1) := by decide +kernel
theorem dd_X9_putRim_19 : decode cX9_putRim 19 = .ok (.isub, 1) := by decide +kernel
theorem dd_X9_putRim_20 : decode cX9_putRim 20 = .ok (.iload_n 2, 1) := by decide +kernel
theorem dd_X9_putRim_21 : decode cX9_putRim 21 = .ok (.isub, 1) := by decide +kernel
theorem dd_X9_putRim_22 : decode cX9_putRim 22 = .ok (.goto 4, 3) := by decide +kernel
theorem dd_X9_putRim_25 : decode cX9_putRim 25 = .ok (.iload_n 2, 1) := by decide +kernel
theorem dd_X9_putRim_26 : decode cX9_putRim 26 = .ok (.istore_n 3, 1) := by decide +kernel
theorem dd_X9_putRim_27 : decode cX9_putRim 27 = .ok (.aload_n 0, 1) := by decide +kernel
theorem dd_X9_putRim_28 : decode cX9_putRim 28 = .ok (.iload_n 1, 1) := by decide +kernel
theorem dd_X9_putRim_29 : decode cX9_putRim 29 = .ok (.ifCond .eq 11, 3) := by decide +kernel
theorem dd_X9_putRim_32 : decode cX9_putRim 32 = .ok (.iconst 2, 1) := by decide +kernel
theorem dd_X9_putRim_33 : decode cX9_putRim 33 = .ok (.iload_n 3, 1) := by decide +kernel
theorem dd_X9_putRim_34 : decode cX9_putRim 34 = .ok (.imul, 1) := by decide +kernel
theorem dd_X9_putRim_35 : decode cX9_putRim 35 = .ok (.iconst 2, 1) := by decide +kernel
theorem dd_X9_putRim_36 : decode cX9_putRim 36 = .ok (.iadd, 1) := by decide +kernel
theorem dd_X9_putRim_37 : decode cX9_putRim 37 = .ok (.goto 8, 3) := by decide +kernel
theorem dd_X9_putRim_40 : decode cX9_putRim 40 = .ok (.iconst 2, 1) := by decide +kernel
theorem dd_X9_putRim_41 : decode cX9_putRim 41 = .ok (.iload_n 3, 1) := by decide +kernel
theorem dd_X9_putRim_42 : decode cX9_putRim 42 = .ok (.imul, 1) := by decide +kernel
theorem dd_X9_putRim_43 : decode cX9_putRim 43 = .ok (.iconst 1, 1) := by decide +kernel
theorem dd_X9_putRim_44 : decode cX9_putRim 44 = .ok (.iadd, 1) := by decide +kernel
theorem dd_X9_putRim_45 : decode cX9_putRim 45 = .ok (.invokevirtual 160, 3) := by decide +kernel
theorem dd_X9_putRim_48 : decode cX9_putRim 48 = .ok (.aload_n 0, 1) := by decide +kernel
theorem dd_X9_putRim_49 : decode cX9_putRim 49 = .ok (.iload_n 1, 1) := by decide +kernel
theorem dd_X9_putRim_50 : decode cX9_putRim 50 = .ok (.ifCond .eq 11, 3) := by decide +kernel
theorem dd_X9_putRim_53 : decode cX9_putRim 53 = .ok (.iconst 2, 1) := by decide +kernel
theorem dd_X9_putRim_54 : decode cX9_putRim 54 = .ok (.iload_n 3, 1) := by decide +kernel
theorem dd_X9_putRim_55 : decode cX9_putRim 55 = .ok (.imul, 1) := by decide +kernel
theorem dd_X9_putRim_56 : decode cX9_putRim 56 = .ok (.iconst 1, 1) := by decide +kernel
theorem dd_X9_putRim_57 : decode cX9_putRim 57 = .ok (.iadd, 1) := by decide +kernel
theorem dd_X9_putRim_58 : decode cX9_putRim 58 = .ok (.goto 8, 3) := by decide +kernel
theorem dd_X9_putRim_61 : decode cX9_putRim 61 = .ok (.iconst 2, 1) := by decide +kernel
theorem dd_X9_putRim_62 : decode cX9_putRim 62 = .ok (.iload_n 3, 1) := by decide +kernel
theorem dd_X9_putRim_63 : decode cX9_putRim 63 = .ok (.imul, 1) := by decide +kernel
theorem dd_X9_putRim_64 : decode cX9_putRim 64 = .ok (.iconst 2, 1) := by decide +kernel
theorem dd_X9_putRim_65 : decode cX9_putRim 65 = .ok (.iadd, 1) := by decide +kernel
theorem dd_X9_putRim_66 : decode cX9_putRim 66 = .ok (.invokevirtual 160, 3) := by decide +kernel
theorem dd_X9_putRim_69 : decode cX9_putRim 69 = .ok (.aload_n 0, 1) := by decide +kernel
theorem dd_X9_putRim_70 : decode cX9_putRim 70 = .ok (.iload_n 1, 1) := by decide +kernel
theorem dd_X9_putRim_71 : decode cX9_putRim 71 = .ok (.ifCond .eq 12, 3) := by decide +kernel
theorem dd_X9_putRim_74 : decode cX9_putRim 74 = .ok (.bipush (-2), 2) := by decide +kernel
theorem dd_X9_putRim_76 : decode cX9_putRim 76 = .ok (.iload_n 3, 1) := by decide +kernel
theorem dd_X9_putRim_77 : decode cX9_putRim 77 = .ok (.imul, 1) := by decide +kernel
theorem dd_X9_putRim_78 : decode cX9_putRim 78 = .ok (.iconst 2, 1) := by decide +kernel
theorem dd_X9_putRim_79 : decode cX9_putRim 79 = .ok (.isub, 1) := by decide +kernel
theorem dd_X9_putRim_80 : decode cX9_putRim 80 = .ok (.goto 9, 3) := by decide +kernel
theorem dd_X9_putRim_83 : decode cX9_putRim 83 = .ok (.bipush (-2), 2) := by decide +kernel
theorem dd_X9_putRim_85 : decode cX9_putRim 85 = .ok (.iload_n 3, 1) := by decide +kernel
theorem dd_X9_putRim_86 : decode cX9_putRim 86 = .ok (.imul, 1) := by decide +kernel
theorem dd_X9_putRim_87 : decode cX9_putRim 87 = .ok (.iconst 1, 1) := by decide +kernel
theorem dd_X9_putRim_88 : decode cX9_putRim 88 = .ok (.isub, 1) := by decide +kernel
theorem dd_X9_putRim_89 : decode cX9_putRim 89 = .ok (.invokevirtual 160, 3) := by decide +kernel
theorem dd_X9_putRim_92 : decode cX9_putRim 92 = .ok (.aload_n 0, 1) := by decide +kernel
theorem dd_X9_putRim_93 : decode cX9_putRim 93 = .ok (.iload_n 1, 1) := by decide +kernel
theorem dd_X9_putRim_94 : decode cX9_putRim 94 = .ok (.ifCond .eq 12, 3) := by decide +kernel
theorem dd_X9_putRim_97 : decode cX9_putRim 97 = .ok (.bipush (-2), 2) := by decide +kernel
theorem dd_X9_putRim_99 : decode cX9_putRim 99 = .ok (.iload_n 3, 1) := by decide +kernel
theorem dd_X9_putRim_100 : decode cX9_putRim 100 = .ok (.imul, 1) := by decide +kernel
theorem dd_X9_putRim_101 : decode cX9_putRim 101 = .ok (.iconst 1, 1) := by decide +kernel
theorem dd_X9_putRim_102 : decode cX9_putRim 102 = .ok (.isub, 1) := by decide +kernel
theorem dd_X9_putRim_103 : decode cX9_putRim 103 = .ok (.goto 9, 3) := by decide +kernel
theorem dd_X9_putRim_106 : decode cX9_putRim 106 = .ok (.bipush (-2), 2) := by decide +kernel
theorem dd_X9_putRim_108 : decode cX9_putRim 108 = .ok (.iload_n 3, 1) := by decide +kernel
theorem dd_X9_putRim_109 : decode cX9_putRim 109 = .ok (.imul, 1) := by decide +kernel
theorem dd_X9_putRim_110 : decode cX9_putRim 110 = .ok (.iconst 2, 1) := by decide +kernel
theorem dd_X9_putRim_111 : decode cX9_putRim 111 = .ok (.isub, 1) := by decide +kernel
theorem dd_X9_putRim_112 : decode cX9_putRim 112 = .ok (.invokevirtual 160, 3) := by decide +kernel
theorem dd_X9_putRim_115 : decode cX9_putRim 115 = .ok (.iinc 2 1, 3) := by decide +kernel
theorem dd_X9_putRim_118 : decode cX9_putRim 118 = .ok (.goto (-116), 3) := by decide +kernel
theorem dd_X9_putRim_121 : decode cX9_putRim 121 = .ok (.return_, 1) := by decide +kernel
theorem ok_X9_putRim : am_okM m_X9_putRim 1 ∧ Cond.instanceMethod m_X9_putRim.1 ∈ am_tbl ∧ Cond.selects m_X9_putRim.1.cls m_X9_putRim.1 m_X9_putRim.1 ∈ am_tbl := ri_mk1 1123 93 1122 69 (by decide +kernel)
theorem k_X9_putRim {b : Int} {F A : gs_F} (hI : gs_I F A) (hb : b = 0 ∨ b = 1) (hs : F 106 15 ≤ 3600) : ∀ nN : Nat, (∀ (h : Int)  (F1 A1 : gs_F), gs_I F1 A1 → gs_fr (fun c j => c = 106 ∧ j = 15) (fun c => c = 115) F A F1 A1 → 0 ≤ h ∧ h ≤ 3 → F1 106 15 ≤ F 106 15 + 4 * h → 3 - h < (nN : Int) → sA m_X9_putRim 2 (fun rv F' A' => rv = none ∧ gs_I F' A' ∧ gs_fr (fun c j => c = 106 ∧ j = 15) (fun c => c = 115) F A F' A' ∧ (F' 106 15 ≤ F 106 15 + 12 ∧ 0 ≤ F' 106 15)) 2 [(2, gs_iv h), (0, .ref 106), (1, gs_iv b)] [] F1 A1) := by
  intro nN
  induction nN with
  | zero =>
    exact fun a0 a1 a2 a3 a4 i0 i1 hm => by exfalso; omega
  | succ nN ih =>
    intro h F1 A1 hI1 hf1 i0 i1 hm
    have b1 : (0 : Int) ≤ F1 106 15 ∧ F1 106 15 ≤ 3700 := hI1.1 106 15
    have hb15 : (0 : Int) ≤ F1 106 15 ∧ F1 106 15 ≤ 3700 := hI1.1 106 15
    refine sA_iload_n dd_X9_putRim_2 rfl (.head _) ?_
    refine sA_aload_n dd_X9_putRim_3 rfl (.tail _ (.head _)) ?_
    refine sA_geti (ci := 9) (j := 0) (q := (RX9, TX9, 28)) dd_X9_putRim_4 rfl (by decide) fl_X9_64 (by decide) gs_s106 rfl ?_
    have b2 : (1 : Int) ≤ F1 106 0 ∧ F1 106 0 ≤ 3 := hI1.1 106 0
    refine sA_icmp_ge (tgt := 121) dd_X9_putRim_7 (by decide) (by omega) (by omega) (fun q3 => ?_) (fun q3 => ?_)
    · skip
      refine sA_vret dd_X9_putRim_121 rfl ?_
      exact ⟨rfl, hI1, hf1, by omega⟩
    · skip
      refine sA_iload_n dd_X9_putRim_10 rfl (.tail _ (.tail _ (.head _))) ?_
      refine sA_if_eq (tgt := 25) dd_X9_putRim_11 (by decide) (by omega) (fun q4 => ?_) (fun q4 => ?_)
      · skip
        refine sA_iload_n dd_X9_putRim_25 rfl (.head _) ?_
        refine sA_istore_n (lv' := [(3, gs_iv h), (2, gs_iv h), (0, .ref 106), (1, gs_iv b)]) dd_X9_putRim_26 rfl (by decide) rfl ?_
        refine sA_aload_n dd_X9_putRim_27 rfl (.tail _ (.tail _ (.head _))) ?_
        refine sA_iload_n dd_X9_putRim_28 rfl (.tail _ (.tail _ (.tail _ (.head _)))) ?_
        refine sA_if_eq (tgt := 40) dd_X9_putRim_29 (by decide) (by omega) (fun q5 => ?_) (fun q5 => absurd q5 (by omega))
        refine sA_iconst (z := 2) dd_X9_putRim_40 ?_
        refine sA_iload_n dd_X9_putRim_41 rfl (.head _) ?_
        refine sA_imul dd_X9_putRim_42 ?_
        refine sA_iconst (z := 1) dd_X9_putRim_43 ?_
        refine sA_iadd dd_X9_putRim_44 ?_
        refine sA_callV (y2 := m_X9_put) (n2 := 1) (d2 := 1) (a := 106) (ci := 9) (q := (RX9, TX9, 28)) (as := [gs_iv ((2 * h) + 1)]) (rest := []) dd_X9_putRim_45 ok_X9_put ml_X9_160 rfl rfl (by decide) gs_s106 rfl rfl (Nat.le_of_ble_eq_true rfl) (by decide) (c_X9_put hI1 (by omega) (by omega)) (fun r6 F7 A8 h9 => ?_)
        obtain ⟨e11, I12, f13, x10⟩ := h9
        subst e11
        have f15 := gs_fr_tr hf1 f13 (fun b j h => by first | exact False.elim h | omega | (dsimp only at h ⊢; omega)) (fun b h => by first | exact False.elim h | omega | (dsimp only at h ⊢; omega))
        show sA _ _ _ 48 _ [] _ _
        refine sA_aload_n dd_X9_putRim_48 rfl (.tail _ (.tail _ (.head _))) ?_
        refine sA_iload_n dd_X9_putRim_49 rfl (.tail _ (.tail _ (.tail _ (.head _)))) ?_
        refine sA_if_eq (tgt := 61) dd_X9_putRim_50 (by decide) (by omega) (fun q16 => ?_) (fun q16 => absurd q16 (by omega))
        refine sA_iconst (z := 2) dd_X9_putRim_61 ?_
        refine sA_iload_n dd_X9_putRim_62 rfl (.head _) ?_
        refine sA_imul dd_X9_putRim_63 ?_
        refine sA_iconst (z := 2) dd_X9_putRim_64 ?_
        refine sA_iadd dd_X9_putRim_65 ?_
        refine sA_callV (y2 := m_X9_put) (n2 := 1) (d2 := 1) (a := 106) (ci := 9) (q := (RX9, TX9, 28)) (as := [gs_iv ((2 * h) + 2)]) (rest := []) dd_X9_putRim_66 ok_X9_put ml_X9_160 rfl rfl (by decide) gs_s106 rfl rfl (Nat.le_of_ble_eq_true rfl) (by decide) (c_X9_put I12 (by omega) (by omega)) (fun r17 F18 A19 h20 => ?_)
        obtain ⟨e22, I23, f24, x21⟩ := h20
        subst e22
        have f26 := gs_fr_tr f15 f24 (fun b j h => by first | exact False.elim h | omega | (dsimp only at h ⊢; omega)) (fun b h => by first | exact False.elim h | omega | (dsimp only at h ⊢; omega))
        show sA _ _ _ 69 _ [] _ _
        refine sA_aload_n dd_X9_putRim_69 rfl (.tail _ (.tail _ (.head _))) ?_
        refine sA_iload_n dd_X9_putRim_70 rfl (.tail _ (.tail _ (.tail _ (.head _)))) ?_
        refine sA_if_eq (tgt := 83) dd_X9_putRim_71 (by decide) (by omega) (fun q27 => ?_) (fun q27 => absurd q27 (by omega))
        refine sA_bipush (z := (-2)) dd_X9_putRim_83 (by decide) ?_
        refine sA_iload_n dd_X9_putRim_85 rfl (.head _) ?_
        refine sA_imul dd_X9_putRim_86 ?_
        refine sA_iconst (z := 1) dd_X9_putRim_87 ?_
        refine sA_isub dd_X9_putRim_88 ?_
        refine sA_callV (y2 := m_X9_put) (n2 := 1) (d2 := 1) (a := 106) (ci := 9) (q := (RX9, TX9, 28)) (as := [gs_iv (((-2) * h) - 1)]) (rest := []) dd_X9_putRim_89 ok_X9_put ml_X9_160 rfl rfl (by decide) gs_s106 rfl rfl (Nat.le_of_ble_eq_true rfl) (by decide) (c_X9_put I23 (by omega) (by omega)) (fun r28 F29 A30 h31 => ?_)
        obtain ⟨e33, I34, f35, x32⟩ := h31
        subst e33
        have f37 := gs_fr_tr f26 f35 (fun b j h => by first | exact False.elim h | omega | (dsimp only at h ⊢; omega)) (fun b h => by first | exact False.elim h | omega | (dsimp only at h ⊢; omega))
        show sA _ _ _ 92 _ [] _ _
        refine sA_aload_n dd_X9_putRim_92 rfl (.tail _ (.tail _ (.head _))) ?_
        refine sA_iload_n dd_X9_putRim_93 rfl (.tail _ (.tail _ (.tail _ (.head _)))) ?_
        refine sA_if_eq (tgt := 106) dd_X9_putRim_94 (by decide) (by omega) (fun q38 => ?_) (fun q38 => absurd q38 (by omega))
        refine sA_bipush (z := (-2)) dd_X9_putRim_106 (by decide) ?_
        refine sA_iload_n dd_X9_putRim_108 rfl (.head _) ?_
        refine sA_imul dd_X9_putRim_109 ?_
        refine sA_iconst (z := 2) dd_X9_putRim_110 ?_
        refine sA_isub dd_X9_putRim_111 ?_
        refine sA_callV (y2 := m_X9_put) (n2 := 1) (d2 := 1) (a := 106) (ci := 9) (q := (RX9, TX9, 28)) (as := [gs_iv (((-2) * h) - 2)]) (rest := []) dd_X9_putRim_112 ok_X9_put ml_X9_160 rfl rfl (by decide) gs_s106 rfl rfl (Nat.le_of_ble_eq_true rfl) (by decide) (c_X9_put I34 (by omega) (by omega)) (fun r39 F40 A41 h42 => ?_)
        obtain ⟨e44, I45, f46, x43⟩ := h42
        subst e44
        have f48 := gs_fr_tr f37 f46 (fun b j h => by first | exact False.elim h | omega | (dsimp only at h ⊢; omega)) (fun b h => by first | exact False.elim h | omega | (dsimp only at h ⊢; omega))
        show sA _ _ _ 115 _ [] _ _
        refine sA_iinc (lv' := [(2, gs_iv (h + 1)), (3, gs_iv h), (0, .ref 106), (1, gs_iv b)]) dd_X9_putRim_115 (.tail _ (.head _)) (by decide) rfl ?_
        refine sA_goto (tgt := 2) dd_X9_putRim_118 (by decide) ?_
        have b49 : (0 : Int) ≤ F40 106 15 ∧ F40 106 15 ≤ 3700 := I45.1 106 15
        refine sA_sub (lv2 := [(2, gs_iv (h + 1)), (0, .ref 106), (1, gs_iv b)]) (List.forall_mem_cons.mpr ⟨(.head _), (List.forall_mem_cons.mpr ⟨(.tail _ (.tail _ (.head _))), (List.forall_mem_cons.mpr ⟨(.tail _ (.tail _ (.tail _ (.head _)))), (fun _ h => absurd h List.not_mem_nil)⟩)⟩)⟩) ?_
        exact ih (h + 1) F40 A41 I45 f48 (by omega) (by omega) (by omega)
      · skip
        refine sA_aload_n dd_X9_putRim_14 rfl (.tail _ (.head _)) ?_
        refine sA_geti (ci := 9) (j := 0) (q := (RX9, TX9, 28)) dd_X9_putRim_15 rfl (by decide) fl_X9_64 (by decide) gs_s106 rfl ?_
        refine sA_iconst (z := 1) dd_X9_putRim_18 ?_
        refine sA_isub dd_X9_putRim_19 ?_
        refine sA_iload_n dd_X9_putRim_20 rfl (.head _) ?_
        refine sA_isub dd_X9_putRim_21 ?_
        refine sA_goto (tgt := 26) dd_X9_putRim_22 (by decide) ?_
        refine sA_istore_n (lv' := [(3, gs_iv (((F1 106 0) - 1) - h)), (2, gs_iv h), (0, .ref 106), (1, gs_iv b)]) dd_X9_putRim_26 rfl (by decide) rfl ?_
        refine sA_aload_n dd_X9_putRim_27 rfl (.tail _ (.tail _ (.head _))) ?_
        refine sA_iload_n dd_X9_putRim_28 rfl (.tail _ (.tail _ (.tail _ (.head _)))) ?_
        refine sA_if_eq (tgt := 40) dd_X9_putRim_29 (by decide) (by omega) (fun q50 => absurd q50 (by omega)) (fun q50 => ?_)
        refine sA_iconst (z := 2) dd_X9_putRim_32 ?_
        refine sA_iload_n dd_X9_putRim_33 rfl (.head _) ?_
        refine sA_imul dd_X9_putRim_34 ?_
        refine sA_iconst (z := 2) dd_X9_putRim_35 ?_
        refine sA_iadd dd_X9_putRim_36 ?_
        refine sA_goto (tgt := 45) dd_X9_putRim_37 (by decide) ?_
        refine sA_callV (y2 := m_X9_put) (n2 := 1) (d2 := 1) (a := 106) (ci := 9) (q := (RX9, TX9, 28)) (as := [gs_iv ((2 * (((F1 106 0) - 1) - h)) + 2)]) (rest := []) dd_X9_putRim_45 ok_X9_put ml_X9_160 rfl rfl (by decide) gs_s106 rfl rfl (Nat.le_of_ble_eq_true rfl) (by decide) (c_X9_put hI1 (by omega) (by omega)) (fun r51 F52 A53 h54 => ?_)
        obtain ⟨e56, I57, f58, x55⟩ := h54
        subst e56
        have f60 := gs_fr_tr hf1 f58 (fun b j h => by first | exact False.elim h | omega | (dsimp only at h ⊢; omega)) (fun b h => by first | exact False.elim h | omega | (dsimp only at h ⊢; omega))
        show sA _ _ _ 48 _ [] _ _
        refine sA_aload_n dd_X9_putRim_48 rfl (.tail _ (.tail _ (.head _))) ?_
        refine sA_iload_n dd_X9_putRim_49 rfl (.tail _ (.tail _ (.tail _ (.head _)))) ?_
        refine sA_if_eq (tgt := 61) dd_X9_putRim_50 (by decide) (by omega) (fun q61 => absurd q61 (by omega)) (fun q61 => ?_)
        refine sA_iconst (z := 2) dd_X9_putRim_53 ?_
        refine sA_iload_n dd_X9_putRim_54 rfl (.head _) ?_
        refine sA_imul dd_X9_putRim_55 ?_
        refine sA_iconst (z := 1) dd_X9_putRim_56 ?_
        refine sA_iadd dd_X9_putRim_57 ?_
        refine sA_goto (tgt := 66) dd_X9_putRim_58 (by decide) ?_
        refine sA_callV (y2 := m_X9_put) (n2 := 1) (d2 := 1) (a := 106) (ci := 9) (q := (RX9, TX9, 28)) (as := [gs_iv ((2 * (((F1 106 0) - 1) - h)) + 1)]) (rest := []) dd_X9_putRim_66 ok_X9_put ml_X9_160 rfl rfl (by decide) gs_s106 rfl rfl (Nat.le_of_ble_eq_true rfl) (by decide) (c_X9_put I57 (by omega) (by omega)) (fun r62 F63 A64 h65 => ?_)
        obtain ⟨e67, I68, f69, x66⟩ := h65
        subst e67
        have f71 := gs_fr_tr f60 f69 (fun b j h => by first | exact False.elim h | omega | (dsimp only at h ⊢; omega)) (fun b h => by first | exact False.elim h | omega | (dsimp only at h ⊢; omega))
        show sA _ _ _ 69 _ [] _ _
        refine sA_aload_n dd_X9_putRim_69 rfl (.tail _ (.tail _ (.head _))) ?_
        refine sA_iload_n dd_X9_putRim_70 rfl (.tail _ (.tail _ (.tail _ (.head _)))) ?_
        refine sA_if_eq (tgt := 83) dd_X9_putRim_71 (by decide) (by omega) (fun q72 => absurd q72 (by omega)) (fun q72 => ?_)
        refine sA_bipush (z := (-2)) dd_X9_putRim_74 (by decide) ?_
        refine sA_iload_n dd_X9_putRim_76 rfl (.head _) ?_
        refine sA_imul dd_X9_putRim_77 ?_
        refine sA_iconst (z := 2) dd_X9_putRim_78 ?_
        refine sA_isub dd_X9_putRim_79 ?_
        refine sA_goto (tgt := 89) dd_X9_putRim_80 (by decide) ?_
        refine sA_callV (y2 := m_X9_put) (n2 := 1) (d2 := 1) (a := 106) (ci := 9) (q := (RX9, TX9, 28)) (as := [gs_iv (((-2) * (((F1 106 0) - 1) - h)) - 2)]) (rest := []) dd_X9_putRim_89 ok_X9_put ml_X9_160 rfl rfl (by decide) gs_s106 rfl rfl (Nat.le_of_ble_eq_true rfl) (by decide) (c_X9_put I68 (by omega) (by omega)) (fun r73 F74 A75 h76 => ?_)
        obtain ⟨e78, I79, f80, x77⟩ := h76
        subst e78
        have f82 := gs_fr_tr f71 f80 (fun b j h => by first | exact False.elim h | omega | (dsimp only at h ⊢; omega)) (fun b h => by first | exact False.elim h | omega | (dsimp only at h ⊢; omega))
        show sA _ _ _ 92 _ [] _ _
        refine sA_aload_n dd_X9_putRim_92 rfl (.tail _ (.tail _ (.head _))) ?_
        refine sA_iload_n dd_X9_putRim_93 rfl (.tail _ (.tail _ (.tail _ (.head _)))) ?_
        refine sA_if_eq (tgt := 106) dd_X9_putRim_94 (by decide) (by omega) (fun q83 => absurd q83 (by omega)) (fun q83 => ?_)
        refine sA_bipush (z := (-2)) dd_X9_putRim_97 (by decide) ?_
        refine sA_iload_n dd_X9_putRim_99 rfl (.head _) ?_
        refine sA_imul dd_X9_putRim_100 ?_
        refine sA_iconst (z := 1) dd_X9_putRim_101 ?_
        refine sA_isub dd_X9_putRim_102 ?_
        refine sA_goto (tgt := 112) dd_X9_putRim_103 (by decide) ?_
        refine sA_callV (y2 := m_X9_put) (n2 := 1) (d2 := 1) (a := 106) (ci := 9) (q := (RX9, TX9, 28)) (as := [gs_iv (((-2) * (((F1 106 0) - 1) - h)) - 1)]) (rest := []) dd_X9_putRim_112 ok_X9_put ml_X9_160 rfl rfl (by decide) gs_s106 rfl rfl (Nat.le_of_ble_eq_true rfl) (by decide) (c_X9_put I79 (by omega) (by omega)) (fun r84 F85 A86 h87 => ?_)
        obtain ⟨e89, I90, f91, x88⟩ := h87
        subst e89
        have f93 := gs_fr_tr f82 f91 (fun b j h => by first | exact False.elim h | omega | (dsimp only at h ⊢; omega)) (fun b h => by first | exact False.elim h | omega | (dsimp only at h ⊢; omega))
        show sA _ _ _ 115 _ [] _ _
        refine sA_iinc (lv' := [(2, gs_iv (h + 1)), (3, gs_iv (((F1 106 0) - 1) - h)), (0, .ref 106), (1, gs_iv b)]) dd_X9_putRim_115 (.tail _ (.head _)) (by decide) rfl ?_
        refine sA_goto (tgt := 2) dd_X9_putRim_118 (by decide) ?_
        have b94 : (0 : Int) ≤ F85 106 15 ∧ F85 106 15 ≤ 3700 := I90.1 106 15
        refine sA_sub (lv2 := [(2, gs_iv (h + 1)), (0, .ref 106), (1, gs_iv b)]) (List.forall_mem_cons.mpr ⟨(.head _), (List.forall_mem_cons.mpr ⟨(.tail _ (.tail _ (.head _))), (List.forall_mem_cons.mpr ⟨(.tail _ (.tail _ (.tail _ (.head _)))), (fun _ h => absurd h List.not_mem_nil)⟩)⟩)⟩) ?_
        exact ih (h + 1) F85 A86 I90 f93 (by omega) (by omega) (by omega)
theorem c_X9_putRim {b : Int} {F A : gs_F} (hI : gs_I F A) (hb : b = 0 ∨ b = 1) (hs : F 106 15 ≤ 3600) : sC m_X9_putRim 2 [.ref 106, gs_iv b] F A (fun rv F' A' => rv = none ∧ gs_I F' A' ∧ gs_fr (fun c j => c = 106 ∧ j = 15) (fun c => c = 115) F A F' A' ∧ (F' 106 15 ≤ F 106 15 + 12 ∧ 0 ≤ F' 106 15)) := by
  refine sC_of ok_X9_putRim.1 (Nat.le_of_ble_eq_true rfl) ?_
  show sA _ _ _ 0 [(0, .ref 106), (1, gs_iv b)] [] F A
  have hf : gs_fr (fun c j => c = 106 ∧ j = 15) (fun c => c = 115) F A F A := gs_fr_refl _ _ _ _
  have b95 : (0 : Int) ≤ F 106 15 ∧ F 106 15 ≤ 3700 := hI.1 106 15
  have hb15 : (0 : Int) ≤ F 106 15 ∧ F 106 15 ≤ 3700 := hI.1 106 15
  refine sA_iconst (z := 0) dd_X9_putRim_0 ?_
  refine sA_istore_n (lv' := [(2, gs_iv 0), (0, .ref 106), (1, gs_iv b)]) dd_X9_putRim_1 rfl (by decide) rfl ?_
  refine sA_sub (lv2 := [(2, gs_iv 0), (0, .ref 106), (1, gs_iv b)]) (List.forall_mem_cons.mpr ⟨(.head _), (List.forall_mem_cons.mpr ⟨(.tail _ (.head _)), (List.forall_mem_cons.mpr ⟨(.tail _ (.tail _ (.head _))), (fun _ h => absurd h List.not_mem_nil)⟩)⟩)⟩) ?_
  exact (k_X9_putRim hI hb hs (3 - 0 : Int).toNat.succ) 0 F A hI hf (by omega) (by omega) (by omega)
theorem dd_X9_isTurns_0 : decode cX9_isTurns 0 = .ok (.iconst 1, 1) := by decide +kernel
theorem dd_X9_isTurns_1 : decode cX9_isTurns 1 = .ok (.istore_n 2, 1) := by decide +kernel
theorem dd_X9_isTurns_2 : decode cX9_isTurns 2 = .ok (.iconst 0, 1) := by decide +kernel
theorem dd_X9_isTurns_3 : decode cX9_isTurns 3 = .ok (.istore_n 3, 1) := by decide +kernel
theorem dd_X9_isTurns_4 : decode cX9_isTurns 4 = .ok (.iload_n 3, 1) := by decide +kernel
theorem dd_X9_isTurns_5 : decode cX9_isTurns 5 = .ok (.iconst 2, 1) := by decide +kernel
theorem dd_X9_isTurns_6 : decode cX9_isTurns 6 = .ok (.aload_n 0, 1) := by decide +kernel
theorem dd_X9_isTurns_7 : decode cX9_isTurns 7 = .ok (.getfield 64, 3) := by decide +kernel
theorem dd_X9_isTurns_10 : decode cX9_isTurns 10 = .ok (.imul, 1) := by decide +kernel
theorem dd_X9_isTurns_11 : decode cX9_isTurns 11 = .ok (.if_icmp .ge 142, 3) := by decide +kernel
theorem dd_X9_isTurns_14 : decode cX9_isTurns 14 = .ok (.iload_n 2, 1) := by decide +kernel
theorem dd_X9_isTurns_15 : decode cX9_isTurns 15 = .ok (.ifCond .eq 138, 3) := by decide +kernel
theorem dd_X9_isTurns_18 : decode cX9_isTurns 18 = .ok (.aload_n 0, 1) := by decide +kernel
theorem dd_X9_isTurns_19 : decode cX9_isTurns 19 = .ok (.iconst 0, 1) := by decide +kernel
theorem dd_X9_isTurns_20 : decode cX9_isTurns 20 = .ok (.putfield 157, 3) := by decide +kernel
theorem dd_X9_isTurns_23 : decode cX9_isTurns 23 = .ok (.iload_n 1, 1) := by decide +kernel
theorem dd_X9_isTurns_24 : decode cX9_isTurns 24 = .ok (.ifCond .ge 9, 3) := by decide +kernel
theorem dd_X9_isTurns_27 : decode cX9_isTurns 27 = .ok (.iconst 0, 1) := by decide +kernel
theorem dd_X9_isTurns_28 : decode cX9_isTurns 28 = .ok (.iload_n 1, 1) := by decide +kernel
theorem dd_X9_isTurns_29 : decode cX9_isTurns 29 = .ok (.isub, 1) := by decide +kernel
theorem dd_X9_isTurns_30 : decode cX9_isTurns 30 = .ok (.goto 4, 3) := by decide +kernel
theorem dd_X9_isTurns_33 : decode cX9_isTurns 33 = .ok (.iload_n 1, 1) := by decide +kernel
theorem dd_X9_isTurns_34 : decode cX9_isTurns 34 = .ok (.istore 4, 2) := by decide +kernel
theorem dd_X9_isTurns_36 : decode cX9_isTurns 36 = .ok (.iconst 0, 1) := by decide +kernel
theorem dd_X9_isTurns_37 : decode cX9_isTurns 37 = .ok (.istore 5, 2) := by decide +kernel
theorem dd_X9_isTurns_39 : decode cX9_isTurns 39 = .ok (.iload 5, 2) := by decide +kernel
theorem dd_X9_isTurns_41 : decode cX9_isTurns 41 = .ok (.iload 4, 2) := by decide +kernel
theorem dd_X9_isTurns_43 : decode cX9_isTurns 43 = .ok (.if_icmp .ge 22, 3) := by decide +kernel
theorem dd_X9_isTurns_46 : decode cX9_isTurns 46 = .ok (.aload_n 0, 1) := by decide +kernel
theorem dd_X9_isTurns_47 : decode cX9_isTurns 47 = .ok (.iload_n 1, 1) := by decide +kernel
theorem dd_X9_isTurns_48 : decode cX9_isTurns 48 = .ok (.ifCond .ge 7, 3) := by decide +kernel
theorem dd_X9_isTurns_51 : decode cX9_isTurns 51 = .ok (.iconst 1, 1) := by decide +kernel
theorem dd_X9_isTurns_52 : decode cX9_isTurns 52 = .ok (.goto 4, 3) := by decide +kernel
theorem dd_X9_isTurns_55 : decode cX9_isTurns 55 = .ok (.iconst 0, 1) := by decide +kernel
theorem dd_X9_isTurns_56 : decode cX9_isTurns 56 = .ok (.invokevirtual 248, 3) := by decide +kernel
theorem dd_X9_isTurns_59 : decode cX9_isTurns 59 = .ok (.iinc 5 1, 3) := by decide +kernel
theorem dd_X9_isTurns_62 : decode cX9_isTurns 62 = .ok (.goto (-23), 3) := by decide +kernel
theorem dd_X9_isTurns_65 : decode cX9_isTurns 65 = .ok (.aload_n 0, 1) := by decide +kernel
theorem dd_X9_isTurns_66 : decode cX9_isTurns 66 = .ok (.iload_n 3, 1) := by decide +kernel
theorem dd_X9_isTurns_67 : decode cX9_isTurns 67 = .ok (.iconst 1, 1) := by decide +kernel
theorem dd_X9_isTurns_68 : decode cX9_isTurns 68 = .ok (.iadd, 1) := by decide +kernel
theorem dd_X9_isTurns_69 : decode cX9_isTurns 69 = .ok (.invokevirtual 160, 3) := by decide +kernel
theorem dd_X9_isTurns_72 : decode cX9_isTurns 72 = .ok (.iconst 0, 1) := by decide +kernel
theorem dd_X9_isTurns_73 : decode cX9_isTurns 73 = .ok (.istore 5, 2) := by decide +kernel
theorem dd_X9_isTurns_75 : decode cX9_isTurns 75 = .ok (.iload 5, 2) := by decide +kernel
theorem dd_X9_isTurns_77 : decode cX9_isTurns 77 = .ok (.iload 4, 2) := by decide +kernel
theorem dd_X9_isTurns_79 : decode cX9_isTurns 79 = .ok (.if_icmp .ge 22, 3) := by decide +kernel
theorem dd_X9_isTurns_82 : decode cX9_isTurns 82 = .ok (.aload_n 0, 1) := by decide +kernel
theorem dd_X9_isTurns_83 : decode cX9_isTurns 83 = .ok (.iload_n 1, 1) := by decide +kernel
theorem dd_X9_isTurns_84 : decode cX9_isTurns 84 = .ok (.ifCond .le 7, 3) := by decide +kernel
theorem dd_X9_isTurns_87 : decode cX9_isTurns 87 = .ok (.iconst 1, 1) := by decide +kernel
theorem dd_X9_isTurns_88 : decode cX9_isTurns 88 = .ok (.goto 4, 3) := by decide +kernel
theorem dd_X9_isTurns_91 : decode cX9_isTurns 91 = .ok (.iconst 0, 1) := by decide +kernel
theorem dd_X9_isTurns_92 : decode cX9_isTurns 92 = .ok (.invokevirtual 248, 3) := by decide +kernel
theorem dd_X9_isTurns_95 : decode cX9_isTurns 95 = .ok (.iinc 5 1, 3) := by decide +kernel
theorem dd_X9_isTurns_98 : decode cX9_isTurns 98 = .ok (.goto (-23), 3) := by decide +kernel
theorem dd_X9_isTurns_101 : decode cX9_isTurns 101 = .ok (.aload_n 0, 1) := by decide +kernel
theorem dd_X9_isTurns_102 : decode cX9_isTurns 102 = .ok (.aload_n 0, 1) := by decide +kernel
theorem dd_X9_isTurns_103 : decode cX9_isTurns 103 = .ok (.getfield 157, 3) := by decide +kernel
theorem dd_X9_isTurns_106 : decode cX9_isTurns 106 = .ok (.putfield 167, 3) := by decide +kernel
theorem dd_X9_isTurns_109 : decode cX9_isTurns 109 = .ok (.iconst 0, 1) := by decide +kernel
theorem dd_X9_isTurns_110 : decode cX9_isTurns 110 = .ok (.istore 5, 2) := by decide +kernel
theorem dd_X9_isTurns_112 : decode cX9_isTurns 112 = .ok (.iload 5, 2) := by decide +kernel
theorem dd_X9_isTurns_114 : decode cX9_isTurns 114 = .ok (.aload_n 0, 1) := by decide +kernel
theorem dd_X9_isTurns_115 : decode cX9_isTurns 115 = .ok (.getfield 157, 3) := by decide +kernel
theorem dd_X9_isTurns_118 : decode cX9_isTurns 118 = .ok (.if_icmp .ge 23, 3) := by decide +kernel
theorem dd_X9_isTurns_121 : decode cX9_isTurns 121 = .ok (.aload_n 0, 1) := by decide +kernel
theorem dd_X9_isTurns_122 : decode cX9_isTurns 122 = .ok (.getfield 31, 3) := by decide +kernel
theorem dd_X9_isTurns_125 : decode cX9_isTurns 125 = .ok (.iload 5, 2) := by decide +kernel
theorem dd_X9_isTurns_127 : decode cX9_isTurns 127 = .ok (.aload_n 0, 1) := by decide +kernel
theorem dd_X9_isTurns_128 : decode cX9_isTurns 128 = .ok (.getfield 34, 3) := by decide +kernel
theorem dd_X9_isTurns_131 : decode cX9_isTurns 131 = .ok (.iload 5, 2) := by decide +kernel
theorem dd_X9_isTurns_133 : decode cX9_isTurns 133 = .ok (.iaload, 1) := by decide +kernel
theorem dd_X9_isTurns_134 : decode cX9_isTurns 134 = .ok (.iastore, 1) := by decide +kernel
theorem dd_X9_isTurns_135 : decode cX9_isTurns 135 = .ok (.iinc 5 1, 3) := by decide +kernel
theorem dd_X9_isTurns_138 : decode cX9_isTurns 138 = .ok (.goto (-26), 3) := by decide +kernel
theorem dd_X9_isTurns_141 : decode cX9_isTurns 141 = .ok (.aload_n 0, 1) := by decide +kernel
theorem dd_X9_isTurns_142 : decode cX9_isTurns 142 = .ok (.iload_n 3, 1) := by decide +kernel
theorem dd_X9_isTurns_143 : decode cX9_isTurns 143 = .ok (.invokevirtual 245, 3) := by decide +kernel
theorem dd_X9_isTurns_146 : decode cX9_isTurns 146 = .ok (.istore_n 2, 1) := by decide +kernel
theorem dd_X9_isTurns_147 : decode cX9_isTurns 147 = .ok (.iinc 3 1, 3) := by decide +kernel
theorem dd_X9_isTurns_150 : decode cX9_isTurns 150 = .ok (.goto (-146), 3) := by decide +kernel
theorem dd_X9_isTurns_153 : decode cX9_isTurns 153 = .ok (.iload_n 2, 1) := by decide +kernel
theorem dd_X9_isTurns_154 : decode cX9_isTurns 154 = .ok (.ireturn, 1) := by decide +kernel
theorem ml_X9_248 : Cond.methodLink RX9 248 m_X9_putRim.1 ∈ am_tbl := ri_lw_in (pl := 1120) (by decide +kernel)
theorem ok_X9_isTurns : am_okM m_X9_isTurns 1 ∧ Cond.instanceMethod m_X9_isTurns.1 ∈ am_tbl ∧ Cond.selects m_X9_isTurns.1.cls m_X9_isTurns.1 m_X9_isTurns.1 ∈ am_tbl := ri_mk1 1119 93 1118 68 (by decide +kernel)
theorem k_X9_isTurns {m : Int} {F A : gs_F} (hI : gs_I F A) (hm0 : -5 ≤ m ∧ m ≤ 5) : ∀ nN : Nat, (∀ (b : Int) (x : Int)  (F1 A1 : gs_F), gs_I F1 A1 → gs_fr (fun c j => c = 106 ∧ (j = 13 ∨ j = 15)) (fun c => c = 114 ∨ c = 115) F A F1 A1 → 0 ≤ x ∧ x ≤ 6 → b = 0 ∨ b = 1 → (6 - x) * 1000 + 1 < (nN : Int) → sA m_X9_isTurns 3 (fun rv F' A' => ∃ z : Int, rv = some (gs_iv z) ∧ gs_I F' A' ∧ gs_fr (fun c j => c = 106 ∧ (j = 13 ∨ j = 15)) (fun c => c = 114 ∨ c = 115) F A F' A' ∧ (z = 0 ∨ z = 1)) 4 [(3, gs_iv x), (2, gs_iv b), (0, .ref 106), (1, gs_iv m)] [] F1 A1) ∧ (∀ (x : Int) (n : Int) (k : Int)  (F1 A1 : gs_F), gs_I F1 A1 → gs_fr (fun c j => c = 106 ∧ (j = 13 ∨ j = 15)) (fun c => c = 114 ∨ c = 115) F A F1 A1 → 0 ≤ x ∧ x < 6 → 0 ≤ k ∧ k ≤ n ∧ n ≤ 5 → F1 106 15 ≤ 12 * k → (6 - x) * 1000 - k < (nN : Int) → sA m_X9_isTurns 3 (fun rv F' A' => ∃ z : Int, rv = some (gs_iv z) ∧ gs_I F' A' ∧ gs_fr (fun c j => c = 106 ∧ (j = 13 ∨ j = 15)) (fun c => c = 114 ∨ c = 115) F A F' A' ∧ (z = 0 ∨ z = 1)) 39 [(5, gs_iv k), (4, gs_iv n), (3, gs_iv x), (0, .ref 106), (1, gs_iv m)] [] F1 A1) ∧ (∀ (x : Int) (n : Int) (k : Int)  (F1 A1 : gs_F), gs_I F1 A1 → gs_fr (fun c j => c = 106 ∧ (j = 13 ∨ j = 15)) (fun c => c = 114 ∨ c = 115) F A F1 A1 → 0 ≤ x ∧ x < 6 → 0 ≤ k ∧ k ≤ n ∧ n ≤ 5 → F1 106 15 ≤ 61 + 12 * k → (6 - x) * 1000 - 10 - k < (nN : Int) → sA m_X9_isTurns 3 (fun rv F' A' => ∃ z : Int, rv = some (gs_iv z) ∧ gs_I F' A' ∧ gs_fr (fun c j => c = 106 ∧ (j = 13 ∨ j = 15)) (fun c => c = 114 ∨ c = 115) F A F' A' ∧ (z = 0 ∨ z = 1)) 75 [(5, gs_iv k), (4, gs_iv n), (3, gs_iv x), (0, .ref 106), (1, gs_iv m)] [] F1 A1) ∧ (∀ (x : Int) (k : Int)  (F1 A1 : gs_F), gs_I F1 A1 → gs_fr (fun c j => c = 106 ∧ (j = 13 ∨ j = 15)) (fun c => c = 114 ∨ c = 115) F A F1 A1 → 0 ≤ x ∧ x < 6 → 0 ≤ k ∧ k ≤ F1 106 15 → F1 106 15 ≤ 121 → (6 - x) * 1000 - 20 - k < (nN : Int) → sA m_X9_isTurns 3 (fun rv F' A' => ∃ z : Int, rv = some (gs_iv z) ∧ gs_I F' A' ∧ gs_fr (fun c j => c = 106 ∧ (j = 13 ∨ j = 15)) (fun c => c = 114 ∨ c = 115) F A F' A' ∧ (z = 0 ∨ z = 1)) 112 [(5, gs_iv k), (3, gs_iv x), (0, .ref 106), (1, gs_iv m)] [] F1 A1) := by
  intro nN
  induction nN with
  | zero =>
    exact ⟨fun a0 a1 a2 a3 a4 a5 i0 i1 hm => by exfalso; omega, fun a0 a1 a2 a3 a4 a5 a6 i0 i1 i2 hm => by exfalso; omega, fun a0 a1 a2 a3 a4 a5 a6 i0 i1 i2 hm => by exfalso; omega, fun a0 a1 a2 a3 a4 a5 i0 i1 i2 hm => by exfalso; omega⟩
  | succ nN ih =>
    refine ⟨?_, ?_, ?_, ?_⟩
    · skip
      intro b x F1 A1 hI1 hf1 i0 i1 hm
      have b1 : (0 : Int) ≤ F1 106 15 ∧ F1 106 15 ≤ 3700 := hI1.1 106 15
      refine sA_iload_n dd_X9_isTurns_4 rfl (.head _) ?_
      refine sA_iconst (z := 2) dd_X9_isTurns_5 ?_
      refine sA_aload_n dd_X9_isTurns_6 rfl (.tail _ (.tail _ (.head _))) ?_
      refine sA_geti (ci := 9) (j := 0) (q := (RX9, TX9, 28)) dd_X9_isTurns_7 rfl (by decide) fl_X9_64 (by decide) gs_s106 rfl ?_
      have b2 : (1 : Int) ≤ F1 106 0 ∧ F1 106 0 ≤ 3 := hI1.1 106 0
      refine sA_imul dd_X9_isTurns_10 ?_
      refine sA_icmp_ge (tgt := 153) dd_X9_isTurns_11 (by decide) (by omega) (by omega) (fun q3 => ?_) (fun q3 => ?_)
      · skip
        refine sA_iload_n dd_X9_isTurns_153 rfl (.tail _ (.head _)) ?_
        refine sA_bret (z := b) dd_X9_isTurns_154 rfl (by omega) ?_
        exact ⟨_, rfl, hI1, hf1, by omega⟩
      · skip
        refine sA_iload_n dd_X9_isTurns_14 rfl (.tail _ (.head _)) ?_
        refine sA_if_eq (tgt := 153) dd_X9_isTurns_15 (by decide) (by omega) (fun q4 => ?_) (fun q4 => ?_)
        · skip
          refine sA_iload_n dd_X9_isTurns_153 rfl (.tail _ (.head _)) ?_
          refine sA_bret (z := b) dd_X9_isTurns_154 rfl (by omega) ?_
          exact ⟨_, rfl, hI1, hf1, by omega⟩
        · skip
          refine sA_aload_n dd_X9_isTurns_18 rfl (.tail _ (.tail _ (.head _))) ?_
          refine sA_iconst (z := 0) dd_X9_isTurns_19 ?_
          refine sA_put (ci := 9) (j := 15) (q := (RX9, TX9, 28)) (ty := .int) dd_X9_isTurns_20 rfl (by decide) fl_X9_157 rfl (tyX9_ok 15 (by decide)) rfl rfl (by decide) gs_s106 rfl ?_
          have I6 : gs_I (gs_up F1 106 15 0) A1 := gs_I_put hI1 (show (0 : Int) ≤ 0 ∧ 0 ≤ 3700 by omega)
          have f7 := gs_fr_put hf1 (a := 106) (z := 0) (j := 15) (by first | omega | (dsimp only; omega) | (dsimp only))
          have v8 : gs_up F1 106 15 0 106 15 = 0 := gs_up_self _ _ _ _
          generalize gs_up F1 106 15 0 = F5 at I6 f7 v8 ⊢
          refine sA_iload_n dd_X9_isTurns_23 rfl (.tail _ (.tail _ (.tail _ (.head _)))) ?_
          refine sA_if_ge (tgt := 33) dd_X9_isTurns_24 (by decide) (by omega) (fun q9 => ?_) (fun q9 => ?_)
          · skip
            refine sA_iload_n dd_X9_isTurns_33 rfl (.tail _ (.tail _ (.tail _ (.head _)))) ?_
            refine sA_istore (lv' := [(4, gs_iv m), (3, gs_iv x), (2, gs_iv b), (0, .ref 106), (1, gs_iv m)]) dd_X9_isTurns_34 (by decide) rfl ?_
            refine sA_iconst (z := 0) dd_X9_isTurns_36 ?_
            refine sA_istore (lv' := [(5, gs_iv 0), (4, gs_iv m), (3, gs_iv x), (2, gs_iv b), (0, .ref 106), (1, gs_iv m)]) dd_X9_isTurns_37 (by decide) rfl ?_
            have b10 : (0 : Int) ≤ F5 106 15 ∧ F5 106 15 ≤ 3700 := I6.1 106 15
            refine sA_sub (lv2 := [(5, gs_iv 0), (4, gs_iv m), (3, gs_iv x), (0, .ref 106), (1, gs_iv m)]) (List.forall_mem_cons.mpr ⟨(.head _), (List.forall_mem_cons.mpr ⟨(.tail _ (.head _)), (List.forall_mem_cons.mpr ⟨(.tail _ (.tail _ (.head _))), (List.forall_mem_cons.mpr ⟨(.tail _ (.tail _ (.tail _ (.tail _ (.head _))))), (List.forall_mem_cons.mpr ⟨(.tail _ (.tail _ (.tail _ (.tail _ (.tail _ (.head _)))))), (fun _ h => absurd h List.not_mem_nil)⟩)⟩)⟩)⟩)⟩) ?_
            exact ih.2.1 x m 0 F5 A1 I6 f7 (by omega) (by omega) (by omega) (by omega)
          · skip
            refine sA_iconst (z := 0) dd_X9_isTurns_27 ?_
            refine sA_iload_n dd_X9_isTurns_28 rfl (.tail _ (.tail _ (.tail _ (.head _)))) ?_
            refine sA_isub dd_X9_isTurns_29 ?_
            refine sA_goto (tgt := 34) dd_X9_isTurns_30 (by decide) ?_
            refine sA_istore (lv' := [(4, gs_iv (0 - m)), (3, gs_iv x), (2, gs_iv b), (0, .ref 106), (1, gs_iv m)]) dd_X9_isTurns_34 (by decide) rfl ?_
            refine sA_iconst (z := 0) dd_X9_isTurns_36 ?_
            refine sA_istore (lv' := [(5, gs_iv 0), (4, gs_iv (0 - m)), (3, gs_iv x), (2, gs_iv b), (0, .ref 106), (1, gs_iv m)]) dd_X9_isTurns_37 (by decide) rfl ?_
            have b11 : (0 : Int) ≤ F5 106 15 ∧ F5 106 15 ≤ 3700 := I6.1 106 15
            refine sA_sub (lv2 := [(5, gs_iv 0), (4, gs_iv (0 - m)), (3, gs_iv x), (0, .ref 106), (1, gs_iv m)]) (List.forall_mem_cons.mpr ⟨(.head _), (List.forall_mem_cons.mpr ⟨(.tail _ (.head _)), (List.forall_mem_cons.mpr ⟨(.tail _ (.tail _ (.head _))), (List.forall_mem_cons.mpr ⟨(.tail _ (.tail _ (.tail _ (.tail _ (.head _))))), (List.forall_mem_cons.mpr ⟨(.tail _ (.tail _ (.tail _ (.tail _ (.tail _ (.head _)))))), (fun _ h => absurd h List.not_mem_nil)⟩)⟩)⟩)⟩)⟩) ?_
            exact ih.2.1 x (0 - m) 0 F5 A1 I6 f7 (by omega) (by omega) (by omega) (by omega)
    · skip
      intro x n k F1 A1 hI1 hf1 i0 i1 i2 hm
      have b12 : (0 : Int) ≤ F1 106 15 ∧ F1 106 15 ≤ 3700 := hI1.1 106 15
      refine sA_iload dd_X9_isTurns_39 (.head _) ?_
      refine sA_iload dd_X9_isTurns_41 (.tail _ (.head _)) ?_
      refine sA_icmp_ge (tgt := 65) dd_X9_isTurns_43 (by decide) (by omega) (by omega) (fun q13 => ?_) (fun q13 => ?_)
      · skip
        refine sA_aload_n dd_X9_isTurns_65 rfl (.tail _ (.tail _ (.tail _ (.head _)))) ?_
        refine sA_iload_n dd_X9_isTurns_66 rfl (.tail _ (.tail _ (.head _))) ?_
        refine sA_iconst (z := 1) dd_X9_isTurns_67 ?_
        refine sA_iadd dd_X9_isTurns_68 ?_
        refine sA_callV (y2 := m_X9_put) (n2 := 1) (d2 := 1) (a := 106) (ci := 9) (q := (RX9, TX9, 28)) (as := [gs_iv (x + 1)]) (rest := []) dd_X9_isTurns_69 ok_X9_put ml_X9_160 rfl rfl (by decide) gs_s106 rfl rfl (Nat.le_of_ble_eq_true rfl) (by decide) (c_X9_put hI1 (by omega) (by omega)) (fun r14 F15 A16 h17 => ?_)
        obtain ⟨e19, I20, f21, x18⟩ := h17
        subst e19
        have f23 := gs_fr_tr hf1 f21 (fun b j h => by first | exact False.elim h | omega | (dsimp only at h ⊢; omega)) (fun b h => by first | exact False.elim h | omega | (dsimp only at h ⊢; omega))
        show sA _ _ _ 72 _ [] _ _
        refine sA_iconst (z := 0) dd_X9_isTurns_72 ?_
        refine sA_istore (lv' := [(5, gs_iv 0), (4, gs_iv n), (3, gs_iv x), (0, .ref 106), (1, gs_iv m)]) dd_X9_isTurns_73 (by decide) rfl ?_
        have b24 : (0 : Int) ≤ F15 106 15 ∧ F15 106 15 ≤ 3700 := I20.1 106 15
        refine sA_sub (lv2 := [(5, gs_iv 0), (4, gs_iv n), (3, gs_iv x), (0, .ref 106), (1, gs_iv m)]) (List.forall_mem_cons.mpr ⟨(.head _), (List.forall_mem_cons.mpr ⟨(.tail _ (.head _)), (List.forall_mem_cons.mpr ⟨(.tail _ (.tail _ (.head _))), (List.forall_mem_cons.mpr ⟨(.tail _ (.tail _ (.tail _ (.head _)))), (List.forall_mem_cons.mpr ⟨(.tail _ (.tail _ (.tail _ (.tail _ (.head _))))), (fun _ h => absurd h List.not_mem_nil)⟩)⟩)⟩)⟩)⟩) ?_
        exact ih.2.2.1 x n 0 F15 A16 I20 f23 (by omega) (by omega) (by omega) (by omega)
      · skip
        refine sA_aload_n dd_X9_isTurns_46 rfl (.tail _ (.tail _ (.tail _ (.head _)))) ?_
        refine sA_iload_n dd_X9_isTurns_47 rfl (.tail _ (.tail _ (.tail _ (.tail _ (.head _))))) ?_
        refine sA_if_ge (tgt := 55) dd_X9_isTurns_48 (by decide) (by omega) (fun q25 => ?_) (fun q25 => ?_)
        · skip
          refine sA_iconst (z := 0) dd_X9_isTurns_55 ?_
          refine sA_callV (y2 := m_X9_putRim) (n2 := 1) (d2 := 2) (a := 106) (ci := 9) (q := (RX9, TX9, 28)) (as := [gs_iv 0]) (rest := []) dd_X9_isTurns_56 ok_X9_putRim ml_X9_248 rfl rfl (by decide) gs_s106 rfl rfl (Nat.le_of_ble_eq_true rfl) (by decide) (c_X9_putRim hI1 (by omega) (by omega)) (fun r26 F27 A28 h29 => ?_)
          obtain ⟨e31, I32, f33, x30⟩ := h29
          subst e31
          have f35 := gs_fr_tr hf1 f33 (fun b j h => by first | exact False.elim h | omega | (dsimp only at h ⊢; omega)) (fun b h => by first | exact False.elim h | omega | (dsimp only at h ⊢; omega))
          show sA _ _ _ 59 _ [] _ _
          refine sA_iinc (lv' := [(5, gs_iv (k + 1)), (4, gs_iv n), (3, gs_iv x), (0, .ref 106), (1, gs_iv m)]) dd_X9_isTurns_59 (.head _) (by decide) rfl ?_
          refine sA_goto (tgt := 39) dd_X9_isTurns_62 (by decide) ?_
          have b36 : (0 : Int) ≤ F27 106 15 ∧ F27 106 15 ≤ 3700 := I32.1 106 15
          refine sA_sub (lv2 := [(5, gs_iv (k + 1)), (4, gs_iv n), (3, gs_iv x), (0, .ref 106), (1, gs_iv m)]) (List.forall_mem_cons.mpr ⟨(.head _), (List.forall_mem_cons.mpr ⟨(.tail _ (.head _)), (List.forall_mem_cons.mpr ⟨(.tail _ (.tail _ (.head _))), (List.forall_mem_cons.mpr ⟨(.tail _ (.tail _ (.tail _ (.head _)))), (List.forall_mem_cons.mpr ⟨(.tail _ (.tail _ (.tail _ (.tail _ (.head _))))), (fun _ h => absurd h List.not_mem_nil)⟩)⟩)⟩)⟩)⟩) ?_
          exact ih.2.1 x n (k + 1) F27 A28 I32 f35 (by omega) (by omega) (by omega) (by omega)
        · skip
          refine sA_iconst (z := 1) dd_X9_isTurns_51 ?_
          refine sA_goto (tgt := 56) dd_X9_isTurns_52 (by decide) ?_
          refine sA_callV (y2 := m_X9_putRim) (n2 := 1) (d2 := 2) (a := 106) (ci := 9) (q := (RX9, TX9, 28)) (as := [gs_iv 1]) (rest := []) dd_X9_isTurns_56 ok_X9_putRim ml_X9_248 rfl rfl (by decide) gs_s106 rfl rfl (Nat.le_of_ble_eq_true rfl) (by decide) (c_X9_putRim hI1 (by omega) (by omega)) (fun r37 F38 A39 h40 => ?_)
          obtain ⟨e42, I43, f44, x41⟩ := h40
          subst e42
          have f46 := gs_fr_tr hf1 f44 (fun b j h => by first | exact False.elim h | omega | (dsimp only at h ⊢; omega)) (fun b h => by first | exact False.elim h | omega | (dsimp only at h ⊢; omega))
          show sA _ _ _ 59 _ [] _ _
          refine sA_iinc (lv' := [(5, gs_iv (k + 1)), (4, gs_iv n), (3, gs_iv x), (0, .ref 106), (1, gs_iv m)]) dd_X9_isTurns_59 (.head _) (by decide) rfl ?_
          refine sA_goto (tgt := 39) dd_X9_isTurns_62 (by decide) ?_
          have b47 : (0 : Int) ≤ F38 106 15 ∧ F38 106 15 ≤ 3700 := I43.1 106 15
          refine sA_sub (lv2 := [(5, gs_iv (k + 1)), (4, gs_iv n), (3, gs_iv x), (0, .ref 106), (1, gs_iv m)]) (List.forall_mem_cons.mpr ⟨(.head _), (List.forall_mem_cons.mpr ⟨(.tail _ (.head _)), (List.forall_mem_cons.mpr ⟨(.tail _ (.tail _ (.head _))), (List.forall_mem_cons.mpr ⟨(.tail _ (.tail _ (.tail _ (.head _)))), (List.forall_mem_cons.mpr ⟨(.tail _ (.tail _ (.tail _ (.tail _ (.head _))))), (fun _ h => absurd h List.not_mem_nil)⟩)⟩)⟩)⟩)⟩) ?_
          exact ih.2.1 x n (k + 1) F38 A39 I43 f46 (by omega) (by omega) (by omega) (by omega)
    · skip
      intro x n k F1 A1 hI1 hf1 i0 i1 i2 hm
      have b48 : (0 : Int) ≤ F1 106 15 ∧ F1 106 15 ≤ 3700 := hI1.1 106 15
      refine sA_iload dd_X9_isTurns_75 (.head _) ?_
      refine sA_iload dd_X9_isTurns_77 (.tail _ (.head _)) ?_
      refine sA_icmp_ge (tgt := 101) dd_X9_isTurns_79 (by decide) (by omega) (by omega) (fun q49 => ?_) (fun q49 => ?_)
      · skip
        refine sA_aload_n dd_X9_isTurns_101 rfl (.tail _ (.tail _ (.tail _ (.head _)))) ?_
        refine sA_aload_n dd_X9_isTurns_102 rfl (.tail _ (.tail _ (.tail _ (.head _)))) ?_
        refine sA_geti (ci := 9) (j := 15) (q := (RX9, TX9, 28)) dd_X9_isTurns_103 rfl (by decide) fl_X9_157 (by decide) gs_s106 rfl ?_
        refine sA_put (ci := 9) (j := 13) (q := (RX9, TX9, 28)) (ty := .int) dd_X9_isTurns_106 rfl (by decide) fl_X9_167 rfl (tyX9_ok 13 (by decide)) rfl rfl (by decide) gs_s106 rfl ?_
        have I51 : gs_I (gs_up F1 106 13 (F1 106 15)) A1 := gs_I_put hI1 (show (0 : Int) ≤ F1 106 15 ∧ F1 106 15 ≤ 400 by omega)
        have f52 := gs_fr_put hf1 (a := 106) (z := F1 106 15) (j := 13) (by first | omega | (dsimp only; omega) | (dsimp only))
        have v53 : gs_up F1 106 13 (F1 106 15) 106 13 = F1 106 15 := gs_up_self _ _ _ _
        have v54 : (gs_up F1 106 13 (F1 106 15)) 106 15 = F1 106 15 := gs_up_ne _ _ (by omega)
        generalize gs_up F1 106 13 (F1 106 15) = F50 at I51 f52 v53 v54 ⊢
        refine sA_iconst (z := 0) dd_X9_isTurns_109 ?_
        refine sA_istore (lv' := [(5, gs_iv 0), (4, gs_iv n), (3, gs_iv x), (0, .ref 106), (1, gs_iv m)]) dd_X9_isTurns_110 (by decide) rfl ?_
        have b55 : (0 : Int) ≤ F50 106 15 ∧ F50 106 15 ≤ 3700 := I51.1 106 15
        refine sA_sub (lv2 := [(5, gs_iv 0), (3, gs_iv x), (0, .ref 106), (1, gs_iv m)]) (List.forall_mem_cons.mpr ⟨(.head _), (List.forall_mem_cons.mpr ⟨(.tail _ (.tail _ (.head _))), (List.forall_mem_cons.mpr ⟨(.tail _ (.tail _ (.tail _ (.head _)))), (List.forall_mem_cons.mpr ⟨(.tail _ (.tail _ (.tail _ (.tail _ (.head _))))), (fun _ h => absurd h List.not_mem_nil)⟩)⟩)⟩)⟩) ?_
        exact ih.2.2.2 x 0 F50 A1 I51 f52 (by omega) (by omega) (by omega) (by omega)
      · skip
        refine sA_aload_n dd_X9_isTurns_82 rfl (.tail _ (.tail _ (.tail _ (.head _)))) ?_
        refine sA_iload_n dd_X9_isTurns_83 rfl (.tail _ (.tail _ (.tail _ (.tail _ (.head _))))) ?_
        refine sA_if_le (tgt := 91) dd_X9_isTurns_84 (by decide) (by omega) (fun q56 => ?_) (fun q56 => ?_)
        · skip
          refine sA_iconst (z := 0) dd_X9_isTurns_91 ?_
          refine sA_callV (y2 := m_X9_putRim) (n2 := 1) (d2 := 2) (a := 106) (ci := 9) (q := (RX9, TX9, 28)) (as := [gs_iv 0]) (rest := []) dd_X9_isTurns_92 ok_X9_putRim ml_X9_248 rfl rfl (by decide) gs_s106 rfl rfl (Nat.le_of_ble_eq_true rfl) (by decide) (c_X9_putRim hI1 (by omega) (by omega)) (fun r57 F58 A59 h60 => ?_)
          obtain ⟨e62, I63, f64, x61⟩ := h60
          subst e62
          have f66 := gs_fr_tr hf1 f64 (fun b j h => by first | exact False.elim h | omega | (dsimp only at h ⊢; omega)) (fun b h => by first | exact False.elim h | omega | (dsimp only at h ⊢; omega))
          show sA _ _ _ 95 _ [] _ _
          refine sA_iinc (lv' := [(5, gs_iv (k + 1)), (4, gs_iv n), (3, gs_iv x), (0, .ref 106), (1, gs_iv m)]) dd_X9_isTurns_95 (.head _) (by decide) rfl ?_
          refine sA_goto (tgt := 75) dd_X9_isTurns_98 (by decide) ?_
          have b67 : (0 : Int) ≤ F58 106 15 ∧ F58 106 15 ≤ 3700 := I63.1 106 15
          refine sA_sub (lv2 := [(5, gs_iv (k + 1)), (4, gs_iv n), (3, gs_iv x), (0, .ref 106), (1, gs_iv m)]) (List.forall_mem_cons.mpr ⟨(.head _), (List.forall_mem_cons.mpr ⟨(.tail _ (.head _)), (List.forall_mem_cons.mpr ⟨(.tail _ (.tail _ (.head _))), (List.forall_mem_cons.mpr ⟨(.tail _ (.tail _ (.tail _ (.head _)))), (List.forall_mem_cons.mpr ⟨(.tail _ (.tail _ (.tail _ (.tail _ (.head _))))), (fun _ h => absurd h List.not_mem_nil)⟩)⟩)⟩)⟩)⟩) ?_
          exact ih.2.2.1 x n (k + 1) F58 A59 I63 f66 (by omega) (by omega) (by omega) (by omega)
        · skip
          refine sA_iconst (z := 1) dd_X9_isTurns_87 ?_
          refine sA_goto (tgt := 92) dd_X9_isTurns_88 (by decide) ?_
          refine sA_callV (y2 := m_X9_putRim) (n2 := 1) (d2 := 2) (a := 106) (ci := 9) (q := (RX9, TX9, 28)) (as := [gs_iv 1]) (rest := []) dd_X9_isTurns_92 ok_X9_putRim ml_X9_248 rfl rfl (by decide) gs_s106 rfl rfl (Nat.le_of_ble_eq_true rfl) (by decide) (c_X9_putRim hI1 (by omega) (by omega)) (fun r68 F69 A70 h71 => ?_)
          obtain ⟨e73, I74, f75, x72⟩ := h71
          subst e73
          have f77 := gs_fr_tr hf1 f75 (fun b j h => by first | exact False.elim h | omega | (dsimp only at h ⊢; omega)) (fun b h => by first | exact False.elim h | omega | (dsimp only at h ⊢; omega))
          show sA _ _ _ 95 _ [] _ _
          refine sA_iinc (lv' := [(5, gs_iv (k + 1)), (4, gs_iv n), (3, gs_iv x), (0, .ref 106), (1, gs_iv m)]) dd_X9_isTurns_95 (.head _) (by decide) rfl ?_
          refine sA_goto (tgt := 75) dd_X9_isTurns_98 (by decide) ?_
          have b78 : (0 : Int) ≤ F69 106 15 ∧ F69 106 15 ≤ 3700 := I74.1 106 15
          refine sA_sub (lv2 := [(5, gs_iv (k + 1)), (4, gs_iv n), (3, gs_iv x), (0, .ref 106), (1, gs_iv m)]) (List.forall_mem_cons.mpr ⟨(.head _), (List.forall_mem_cons.mpr ⟨(.tail _ (.head _)), (List.forall_mem_cons.mpr ⟨(.tail _ (.tail _ (.head _))), (List.forall_mem_cons.mpr ⟨(.tail _ (.tail _ (.tail _ (.head _)))), (List.forall_mem_cons.mpr ⟨(.tail _ (.tail _ (.tail _ (.tail _ (.head _))))), (fun _ h => absurd h List.not_mem_nil)⟩)⟩)⟩)⟩)⟩) ?_
          exact ih.2.2.1 x n (k + 1) F69 A70 I74 f77 (by omega) (by omega) (by omega) (by omega)
    · skip
      intro x k F1 A1 hI1 hf1 i0 i1 i2 hm
      have b79 : (0 : Int) ≤ F1 106 15 ∧ F1 106 15 ≤ 3700 := hI1.1 106 15
      refine sA_iload dd_X9_isTurns_112 (.head _) ?_
      refine sA_aload_n dd_X9_isTurns_114 rfl (.tail _ (.tail _ (.head _))) ?_
      refine sA_geti (ci := 9) (j := 15) (q := (RX9, TX9, 28)) dd_X9_isTurns_115 rfl (by decide) fl_X9_157 (by decide) gs_s106 rfl ?_
      refine sA_icmp_ge (tgt := 141) dd_X9_isTurns_118 (by decide) (by omega) (by omega) (fun q80 => ?_) (fun q80 => ?_)
      · skip
        refine sA_aload_n dd_X9_isTurns_141 rfl (.tail _ (.tail _ (.head _))) ?_
        refine sA_iload_n dd_X9_isTurns_142 rfl (.tail _ (.head _)) ?_
        refine sA_callV (y2 := m_X9_isImage) (n2 := 1) (d2 := 1) (a := 106) (ci := 9) (q := (RX9, TX9, 28)) (as := [gs_iv x]) (rest := []) dd_X9_isTurns_143 ok_X9_isImage ml_X9_245 rfl rfl (by decide) gs_s106 rfl rfl (Nat.le_of_ble_eq_true rfl) (by decide) (c_X9_isImage hI1 (by omega)) (fun r81 F82 A83 h84 => ?_)
        obtain ⟨z87, e86, e88, e89, x85⟩ := h84
        subst e86 e88 e89
        show sA _ _ _ 146 _ [gs_iv z87] _ _
        refine sA_istore_n (lv' := [(2, gs_iv z87), (5, gs_iv k), (3, gs_iv x), (0, .ref 106), (1, gs_iv m)]) dd_X9_isTurns_146 rfl (by decide) rfl ?_
        refine sA_iinc (lv' := [(3, gs_iv (x + 1)), (2, gs_iv z87), (5, gs_iv k), (0, .ref 106), (1, gs_iv m)]) dd_X9_isTurns_147 (.tail _ (.tail _ (.head _))) (by decide) rfl ?_
        refine sA_goto (tgt := 4) dd_X9_isTurns_150 (by decide) ?_
        refine sA_sub (lv2 := [(3, gs_iv (x + 1)), (2, gs_iv z87), (0, .ref 106), (1, gs_iv m)]) (List.forall_mem_cons.mpr ⟨(.head _), (List.forall_mem_cons.mpr ⟨(.tail _ (.head _)), (List.forall_mem_cons.mpr ⟨(.tail _ (.tail _ (.tail _ (.head _)))), (List.forall_mem_cons.mpr ⟨(.tail _ (.tail _ (.tail _ (.tail _ (.head _))))), (fun _ h => absurd h List.not_mem_nil)⟩)⟩)⟩)⟩) ?_
        exact ih.1 z87 (x + 1) F1 A1 hI1 hf1 (by omega) (by omega) (by omega)
      · skip
        refine sA_aload_n dd_X9_isTurns_121 rfl (.tail _ (.tail _ (.head _))) ?_
        refine sA_getr (ci := 9) (j := 12) (q := (RX9, TX9, 28)) dd_X9_isTurns_122 rfl (by decide) fl_X9_31 (by decide) gs_s106 rfl ?_
        refine sA_iload dd_X9_isTurns_125 (.head _) ?_
        refine sA_aload_n dd_X9_isTurns_127 rfl (.tail _ (.tail _ (.head _))) ?_
        refine sA_getr (ci := 9) (j := 14) (q := (RX9, TX9, 28)) dd_X9_isTurns_128 rfl (by decide) fl_X9_34 (by decide) gs_s106 rfl ?_
        refine sA_iload dd_X9_isTurns_131 (.head _) ?_
        refine sA_iald (n := 3700) dd_X9_isTurns_133 (by decide) gs_s115 (by omega) (by decide) ?_
        have b90 : (-9 : Int) ≤ A1 115 k.toNat ∧ A1 115 k.toNat ≤ 9 := hI1.2 115 k.toNat
        refine sA_iast (n := 401) dd_X9_isTurns_134 (by decide) gs_s114 (by omega) (by decide) ?_
        have I92 : gs_I F1 (gs_up A1 114 k.toNat (A1 115 k.toNat)) := gs_I_ast hI1 (show (-9 : Int) ≤ A1 115 k.toNat ∧ A1 115 k.toNat ≤ 9 by omega)
        have f93 := gs_fr_ast hf1 (a := 114) (z := A1 115 k.toNat) (i := k.toNat) (by first | omega | (dsimp only; omega) | (dsimp only))
        generalize gs_up A1 114 k.toNat (A1 115 k.toNat) = A91 at I92 f93 ⊢
        refine sA_iinc (lv' := [(5, gs_iv (k + 1)), (3, gs_iv x), (0, .ref 106), (1, gs_iv m)]) dd_X9_isTurns_135 (.head _) (by decide) rfl ?_
        refine sA_goto (tgt := 112) dd_X9_isTurns_138 (by decide) ?_
        refine sA_sub (lv2 := [(5, gs_iv (k + 1)), (3, gs_iv x), (0, .ref 106), (1, gs_iv m)]) (List.forall_mem_cons.mpr ⟨(.head _), (List.forall_mem_cons.mpr ⟨(.tail _ (.head _)), (List.forall_mem_cons.mpr ⟨(.tail _ (.tail _ (.head _))), (List.forall_mem_cons.mpr ⟨(.tail _ (.tail _ (.tail _ (.head _)))), (fun _ h => absurd h List.not_mem_nil)⟩)⟩)⟩)⟩) ?_
        exact ih.2.2.2 x (k + 1) F1 A91 I92 f93 (by omega) (by omega) (by omega) (by omega)
theorem c_X9_isTurns {m : Int} {F A : gs_F} (hI : gs_I F A) (hm0 : -5 ≤ m ∧ m ≤ 5) : sC m_X9_isTurns 3 [.ref 106, gs_iv m] F A (fun rv F' A' => ∃ z : Int, rv = some (gs_iv z) ∧ gs_I F' A' ∧ gs_fr (fun c j => c = 106 ∧ (j = 13 ∨ j = 15)) (fun c => c = 114 ∨ c = 115) F A F' A' ∧ (z = 0 ∨ z = 1)) := by
  refine sC_of ok_X9_isTurns.1 (Nat.le_of_ble_eq_true rfl) ?_
  show sA _ _ _ 0 [(0, .ref 106), (1, gs_iv m)] [] F A
  have hf : gs_fr (fun c j => c = 106 ∧ (j = 13 ∨ j = 15)) (fun c => c = 114 ∨ c = 115) F A F A := gs_fr_refl _ _ _ _
  have b94 : (0 : Int) ≤ F 106 15 ∧ F 106 15 ≤ 3700 := hI.1 106 15
  refine sA_iconst (z := 1) dd_X9_isTurns_0 ?_
  refine sA_istore_n (lv' := [(2, gs_iv 1), (0, .ref 106), (1, gs_iv m)]) dd_X9_isTurns_1 rfl (by decide) rfl ?_
  refine sA_iconst (z := 0) dd_X9_isTurns_2 ?_
  refine sA_istore_n (lv' := [(3, gs_iv 0), (2, gs_iv 1), (0, .ref 106), (1, gs_iv m)]) dd_X9_isTurns_3 rfl (by decide) rfl ?_
  refine sA_sub (lv2 := [(3, gs_iv 0), (2, gs_iv 1), (0, .ref 106), (1, gs_iv m)]) (List.forall_mem_cons.mpr ⟨(.head _), (List.forall_mem_cons.mpr ⟨(.tail _ (.head _)), (List.forall_mem_cons.mpr ⟨(.tail _ (.tail _ (.head _))), (List.forall_mem_cons.mpr ⟨(.tail _ (.tail _ (.tail _ (.head _)))), (fun _ h => absurd h List.not_mem_nil)⟩)⟩)⟩)⟩) ?_
  exact (k_X9_isTurns hI hm0 ((6 - 0) * 1000 + 1 : Int).toNat.succ).1 1 0 F A hI hf (by omega) (by omega) (by omega)
theorem dd_X9_findTurns_0 : decode cX9_findTurns 0 = .ok (.iconst 0, 1) := by decide +kernel
theorem dd_X9_findTurns_1 : decode cX9_findTurns 1 = .ok (.istore_n 1, 1) := by decide +kernel
theorem dd_X9_findTurns_2 : decode cX9_findTurns 2 = .ok (.iload_n 1, 1) := by decide +kernel
theorem dd_X9_findTurns_3 : decode cX9_findTurns 3 = .ok (.bipush 6, 2) := by decide +kernel
theorem dd_X9_findTurns_5 : decode cX9_findTurns 5 = .ok (.if_icmp .ge 33, 3) := by decide +kernel
theorem dd_X9_findTurns_8 : decode cX9_findTurns 8 = .ok (.aload_n 0, 1) := by decide +kernel
theorem dd_X9_findTurns_9 : decode cX9_findTurns 9 = .ok (.iload_n 1, 1) := by decide +kernel
theorem dd_X9_findTurns_10 : decode cX9_findTurns 10 = .ok (.invokevirtual 252, 3) := by decide +kernel
theorem dd_X9_findTurns_13 : decode cX9_findTurns 13 = .ok (.ifCond .eq 5, 3) := by decide +kernel
theorem dd_X9_findTurns_16 : decode cX9_findTurns 16 = .ok (.iload_n 1, 1) := by decide +kernel
theorem dd_X9_findTurns_17 : decode cX9_findTurns 17 = .ok (.ireturn, 1) := by decide +kernel
theorem dd_X9_findTurns_18 : decode cX9_findTurns 18 = .ok (.aload_n 0, 1) := by decide +kernel
theorem dd_X9_findTurns_19 : decode cX9_findTurns 19 = .ok (.iconst 0, 1) := by decide +kernel
theorem dd_X9_findTurns_20 : decode cX9_findTurns 20 = .ok (.iload_n 1, 1) := by decide +kernel
theorem dd_X9_findTurns_21 : decode cX9_findTurns 21 = .ok (.isub, 1) := by decide +kernel
theorem dd_X9_findTurns_22 : decode cX9_findTurns 22 = .ok (.invokevirtual 252, 3) := by decide +kernel
theorem dd_X9_findTurns_25 : decode cX9_findTurns 25 = .ok (.ifCond .eq 7, 3) := by decide +kernel
theorem dd_X9_findTurns_28 : decode cX9_findTurns 28 = .ok (.iconst 0, 1) := by decide +kernel
theorem dd_X9_findTurns_29 : decode cX9_findTurns 29 = .ok (.iload_n 1, 1) := by decide +kernel
theorem dd_X9_findTurns_30 : decode cX9_findTurns 30 = .ok (.isub, 1) := by decide +kernel
theorem dd_X9_findTurns_31 : decode cX9_findTurns 31 = .ok (.ireturn, 1) := by decide +kernel
theorem dd_X9_findTurns_32 : decode cX9_findTurns 32 = .ok (.iinc 1 1, 3) := by decide +kernel
theorem dd_X9_findTurns_35 : decode cX9_findTurns 35 = .ok (.goto (-33), 3) := by decide +kernel
theorem dd_X9_findTurns_38 : decode cX9_findTurns 38 = .ok (.bipush 99, 2) := by decide +kernel
theorem dd_X9_findTurns_40 : decode cX9_findTurns 40 = .ok (.ireturn, 1) := by decide +kernel
theorem ml_X9_252 : Cond.methodLink RX9 252 m_X9_isTurns.1 ∈ am_tbl := ri_lw_in (pl := 1116) (by decide +kernel)
theorem ok_X9_findTurns : am_okM m_X9_findTurns 0 ∧ Cond.instanceMethod m_X9_findTurns.1 ∈ am_tbl ∧ Cond.selects m_X9_findTurns.1.cls m_X9_findTurns.1 m_X9_findTurns.1 ∈ am_tbl := ri_mk1 1115 93 1114 67 (by decide +kernel)
theorem k_X9_findTurns  {F A : gs_F} (hI : gs_I F A)  : ∀ nN : Nat, (∀ (m : Int)  (F1 A1 : gs_F), gs_I F1 A1 → gs_fr (fun c j => c = 106 ∧ (j = 13 ∨ j = 15)) (fun c => c = 114 ∨ c = 115) F A F1 A1 → 0 ≤ m ∧ m ≤ 6 → 6 - m < (nN : Int) → sA m_X9_findTurns 4 (fun rv F' A' => ∃ z : Int, rv = some (gs_iv z) ∧ gs_I F' A' ∧ gs_fr (fun c j => c = 106 ∧ (j = 13 ∨ j = 15)) (fun c => c = 114 ∨ c = 115) F A F' A' ∧ (-100 ≤ z ∧ z ≤ 100)) 2 [(1, gs_iv m), (0, .ref 106)] [] F1 A1) := by
  intro nN
  induction nN with
  | zero =>
    exact fun a0 a1 a2 a3 a4 i0 hm => by exfalso; omega
  | succ nN ih =>
    intro m F1 A1 hI1 hf1 i0 hm
    refine sA_iload_n dd_X9_findTurns_2 rfl (.head _) ?_
    refine sA_bipush (z := 6) dd_X9_findTurns_3 (by decide) ?_
    refine sA_icmp_ge (tgt := 38) dd_X9_findTurns_5 (by decide) (by omega) (by omega) (fun q1 => ?_) (fun q1 => ?_)
    · skip
      refine sA_bipush (z := 99) dd_X9_findTurns_38 (by decide) ?_
      refine sA_iret (z := 99) dd_X9_findTurns_40 rfl ?_
      exact ⟨_, rfl, hI1, hf1, by omega⟩
    · skip
      refine sA_aload_n dd_X9_findTurns_8 rfl (.tail _ (.head _)) ?_
      refine sA_iload_n dd_X9_findTurns_9 rfl (.head _) ?_
      refine sA_callV (y2 := m_X9_isTurns) (n2 := 1) (d2 := 3) (a := 106) (ci := 9) (q := (RX9, TX9, 28)) (as := [gs_iv m]) (rest := []) dd_X9_findTurns_10 ok_X9_isTurns ml_X9_252 rfl rfl (by decide) gs_s106 rfl rfl (Nat.le_of_ble_eq_true rfl) (by decide) (c_X9_isTurns hI1 (by omega)) (fun r2 F3 A4 h5 => ?_)
      obtain ⟨z8, e7, I9, f10, x6⟩ := h5
      subst e7
      have f11 := gs_fr_tr hf1 f10 (fun b j h => by first | exact False.elim h | omega | (dsimp only at h ⊢; omega)) (fun b h => by first | exact False.elim h | omega | (dsimp only at h ⊢; omega))
      show sA _ _ _ 13 _ [gs_iv z8] _ _
      refine sA_if_eq (tgt := 18) dd_X9_findTurns_13 (by decide) (by omega) (fun q12 => ?_) (fun q12 => ?_)
      · skip
        refine sA_aload_n dd_X9_findTurns_18 rfl (.tail _ (.head _)) ?_
        refine sA_iconst (z := 0) dd_X9_findTurns_19 ?_
        refine sA_iload_n dd_X9_findTurns_20 rfl (.head _) ?_
        refine sA_isub dd_X9_findTurns_21 ?_
        refine sA_callV (y2 := m_X9_isTurns) (n2 := 1) (d2 := 3) (a := 106) (ci := 9) (q := (RX9, TX9, 28)) (as := [gs_iv (0 - m)]) (rest := []) dd_X9_findTurns_22 ok_X9_isTurns ml_X9_252 rfl rfl (by decide) gs_s106 rfl rfl (Nat.le_of_ble_eq_true rfl) (by decide) (c_X9_isTurns I9 (by omega)) (fun r13 F14 A15 h16 => ?_)
        obtain ⟨z19, e18, I20, f21, x17⟩ := h16
        subst e18
        have f22 := gs_fr_tr f11 f21 (fun b j h => by first | exact False.elim h | omega | (dsimp only at h ⊢; omega)) (fun b h => by first | exact False.elim h | omega | (dsimp only at h ⊢; omega))
        show sA _ _ _ 25 _ [gs_iv z19] _ _
        refine sA_if_eq (tgt := 32) dd_X9_findTurns_25 (by decide) (by omega) (fun q23 => ?_) (fun q23 => ?_)
        · skip
          refine sA_iinc (lv' := [(1, gs_iv (m + 1)), (0, .ref 106)]) dd_X9_findTurns_32 (.head _) (by decide) rfl ?_
          refine sA_goto (tgt := 2) dd_X9_findTurns_35 (by decide) ?_
          refine sA_sub (lv2 := [(1, gs_iv (m + 1)), (0, .ref 106)]) (List.forall_mem_cons.mpr ⟨(.head _), (List.forall_mem_cons.mpr ⟨(.tail _ (.head _)), (fun _ h => absurd h List.not_mem_nil)⟩)⟩) ?_
          exact ih (m + 1) F14 A15 I20 f22 (by omega) (by omega)
        · skip
          refine sA_iconst (z := 0) dd_X9_findTurns_28 ?_
          refine sA_iload_n dd_X9_findTurns_29 rfl (.head _) ?_
          refine sA_isub dd_X9_findTurns_30 ?_
          refine sA_iret (z := 0 - m) dd_X9_findTurns_31 rfl ?_
          exact ⟨_, rfl, I20, f22, by omega⟩
      · skip
        refine sA_iload_n dd_X9_findTurns_16 rfl (.head _) ?_
        refine sA_iret (z := m) dd_X9_findTurns_17 rfl ?_
        exact ⟨_, rfl, I9, f11, by omega⟩
theorem c_X9_findTurns  {F A : gs_F} (hI : gs_I F A)  : sC m_X9_findTurns 4 [.ref 106] F A (fun rv F' A' => ∃ z : Int, rv = some (gs_iv z) ∧ gs_I F' A' ∧ gs_fr (fun c j => c = 106 ∧ (j = 13 ∨ j = 15)) (fun c => c = 114 ∨ c = 115) F A F' A' ∧ (-100 ≤ z ∧ z ≤ 100)) := by
  refine sC_of ok_X9_findTurns.1 (Nat.le_of_ble_eq_true rfl) ?_
  show sA _ _ _ 0 [(0, .ref 106)] [] F A
  have hf : gs_fr (fun c j => c = 106 ∧ (j = 13 ∨ j = 15)) (fun c => c = 114 ∨ c = 115) F A F A := gs_fr_refl _ _ _ _
  refine sA_iconst (z := 0) dd_X9_findTurns_0 ?_
  refine sA_istore_n (lv' := [(1, gs_iv 0), (0, .ref 106)]) dd_X9_findTurns_1 rfl (by decide) rfl ?_
  refine sA_sub (lv2 := [(1, gs_iv 0), (0, .ref 106)]) (List.forall_mem_cons.mpr ⟨(.head _), (List.forall_mem_cons.mpr ⟨(.tail _ (.head _)), (fun _ h => absurd h List.not_mem_nil)⟩)⟩) ?_
  exact (k_X9_findTurns hI (6 - 0 : Int).toNat.succ) 0 F A hI hf (by omega) (by omega)
theorem dd_X9_turns_0 : decode cX9_turns 0 = .ok (.aload_n 0, 1) := by decide +kernel
theorem dd_X9_turns_1 : decode cX9_turns 1 = .ok (.iload_n 1, 1) := by decide +kernel
theorem dd_X9_turns_2 : decode cX9_turns 2 = .ok (.invokevirtual 218, 3) := by decide +kernel
theorem dd_X9_turns_5 : decode cX9_turns 5 = .ok (.ifCond .eq 7, 3) := by decide +kernel
theorem dd_X9_turns_8 : decode cX9_turns 8 = .ok (.sipush (-1001), 3) := by decide +kernel
theorem dd_X9_turns_11 : decode cX9_turns 11 = .ok (.ireturn, 1) := by decide +kernel
theorem dd_X9_turns_12 : decode cX9_turns 12 = .ok (.aload_n 0, 1) := by decide +kernel
theorem dd_X9_turns_13 : decode cX9_turns 13 = .ok (.iload_n 1, 1) := by decide +kernel
theorem dd_X9_turns_14 : decode cX9_turns 14 = .ok (.invokevirtual 242, 3) := by decide +kernel
theorem dd_X9_turns_17 : decode cX9_turns 17 = .ok (.ifCond .eq 10, 3) := by decide +kernel
theorem dd_X9_turns_20 : decode cX9_turns 20 = .ok (.aload_n 0, 1) := by decide +kernel
theorem dd_X9_turns_21 : decode cX9_turns 21 = .ok (.invokevirtual 255, 3) := by decide +kernel
theorem dd_X9_turns_24 : decode cX9_turns 24 = .ok (.goto 6, 3) := by decide +kernel
theorem dd_X9_turns_27 : decode cX9_turns 27 = .ok (.sipush (-1005), 3) := by decide +kernel
theorem dd_X9_turns_30 : decode cX9_turns 30 = .ok (.ireturn, 1) := by decide +kernel
theorem ml_X9_255 : Cond.methodLink RX9 255 m_X9_findTurns.1 ∈ am_tbl := ri_lw_in (pl := 1112) (by decide +kernel)
theorem ok_X9_turns : am_okM m_X9_turns 1 ∧ Cond.instanceMethod m_X9_turns.1 ∈ am_tbl ∧ Cond.selects m_X9_turns.1.cls m_X9_turns.1 m_X9_turns.1 ∈ am_tbl := ri_mk1 1111 93 1109 1110 (by decide +kernel)
theorem c_X9_turns {p : Int} {F A : gs_F} (hI : gs_I F A) (hp : -2147483648 ≤ p ∧ p ≤ 2147483647) : sC m_X9_turns 8 [.ref 106, gs_iv p] F A (fun rv F' A' => ∃ z : Int, rv = some (gs_iv z) ∧ gs_I F' A' ∧ gs_fr (fun c j => c = 106 ∧ (j = 13 ∨ j = 15)) (fun c => c = 114 ∨ c = 115 ∨ c = 119 ∨ c = 120) F A F' A' ∧ (True)) := by
  refine sC_of ok_X9_turns.1 (Nat.le_of_ble_eq_true rfl) ?_
  show sA _ _ _ 0 [(0, .ref 106), (1, gs_iv p)] [] F A
  have hf : gs_fr (fun c j => c = 106 ∧ (j = 13 ∨ j = 15)) (fun c => c = 114 ∨ c = 115 ∨ c = 119 ∨ c = 120) F A F A := gs_fr_refl _ _ _ _
  refine sA_aload_n dd_X9_turns_0 rfl (.head _) ?_
  refine sA_iload_n dd_X9_turns_1 rfl (.tail _ (.head _)) ?_
  refine sA_callV (y2 := m_X9_noPlan) (n2 := 1) (d2 := 2) (a := 106) (ci := 9) (q := (RX9, TX9, 28)) (as := [gs_iv p]) (rest := []) dd_X9_turns_2 ok_X9_noPlan ml_X9_218 rfl rfl (by decide) gs_s106 rfl rfl (Nat.le_of_ble_eq_true rfl) (by decide) (c_X9_noPlan hI (by omega)) (fun r1 F2 A3 h4 => ?_)
  obtain ⟨z7, e6, e8, e9, x5⟩ := h4
  subst e6 e8 e9
  show sA _ _ _ 5 _ [gs_iv z7] _ _
  refine sA_if_eq (tgt := 12) dd_X9_turns_5 (by decide) (by omega) (fun q10 => ?_) (fun q10 => ?_)
  · skip
    refine sA_aload_n dd_X9_turns_12 rfl (.head _) ?_
    refine sA_iload_n dd_X9_turns_13 rfl (.tail _ (.head _)) ?_
    refine sA_callV (y2 := m_X9_findImages) (n2 := 1) (d2 := 7) (a := 106) (ci := 9) (q := (RX9, TX9, 28)) (as := [gs_iv p]) (rest := []) dd_X9_turns_14 ok_X9_findImages ml_X9_242 rfl rfl (by decide) gs_s106 rfl rfl (Nat.le_of_ble_eq_true rfl) (by decide) (c_X9_findImages hI (by omega)) (fun r11 F12 A13 h14 => ?_)
    obtain ⟨z17, e16, I18, f19, x15⟩ := h14
    subst e16
    have f20 := gs_fr_tr hf f19 (fun b j h => by first | exact False.elim h | omega | (dsimp only at h ⊢; omega)) (fun b h => by first | exact False.elim h | omega | (dsimp only at h ⊢; omega))
    show sA _ _ _ 17 _ [gs_iv z17] _ _
    refine sA_if_eq (tgt := 27) dd_X9_turns_17 (by decide) (by omega) (fun q21 => ?_) (fun q21 => ?_)
    · skip
      refine sA_sipush (z := (-1005)) dd_X9_turns_27 (by decide) ?_
      refine sA_iret (z := -1005) dd_X9_turns_30 rfl ?_
      exact ⟨_, rfl, I18, f20, trivial⟩
    · skip
      refine sA_aload_n dd_X9_turns_20 rfl (.head _) ?_
      refine sA_callV (y2 := m_X9_findTurns) (n2 := 0) (d2 := 4) (a := 106) (ci := 9) (q := (RX9, TX9, 28)) (as := []) (rest := []) dd_X9_turns_21 ok_X9_findTurns ml_X9_255 rfl rfl (by decide) gs_s106 rfl rfl (Nat.le_of_ble_eq_true rfl) (by decide) (c_X9_findTurns I18 ) (fun r22 F23 A24 h25 => ?_)
      obtain ⟨z28, e27, I29, f30, x26⟩ := h25
      subst e27
      have f31 := gs_fr_tr f20 f30 (fun b j h => by first | exact False.elim h | omega | (dsimp only at h ⊢; omega)) (fun b h => by first | exact False.elim h | omega | (dsimp only at h ⊢; omega))
      show sA _ _ _ 24 _ [gs_iv z28] _ _
      refine sA_goto (tgt := 30) dd_X9_turns_24 (by decide) ?_
      refine sA_iret (z := z28) dd_X9_turns_30 rfl ?_
      exact ⟨_, rfl, I29, f31, trivial⟩
  · skip
    refine sA_sipush (z := (-1001)) dd_X9_turns_8 (by decide) ?_
    refine sA_iret (z := -1001) dd_X9_turns_11 rfl ?_
    exact ⟨_, rfl, hI, hf, trivial⟩
theorem dd_X9_findOrder_0 : decode cX9_findOrder 0 = .ok (.aload_n 0, 1) := by decide +kernel
theorem dd_X9_findOrder_1 : decode cX9_findOrder 1 = .ok (.invokevirtual 236, 3) := by decide +kernel
theorem dd_X9_findOrder_4 : decode cX9_findOrder 4 = .ok (.iconst 1, 1) := by decide +kernel
theorem dd_X9_findOrder_5 : decode cX9_findOrder 5 = .ok (.istore_n 3, 1) := by decide +kernel
theorem dd_X9_findOrder_6 : decode cX9_findOrder 6 = .ok (.iload_n 3, 1) := by decide +kernel
theorem dd_X9_findOrder_7 : decode cX9_findOrder 7 = .ok (.iload_n 2, 1) := by decide +kernel
theorem dd_X9_findOrder_8 : decode cX9_findOrder 8 = .ok (.if_icmp .gt 32, 3) := by decide +kernel
theorem dd_X9_findOrder_11 : decode cX9_findOrder 11 = .ok (.aload_n 0, 1) := by decide +kernel
theorem dd_X9_findOrder_12 : decode cX9_findOrder 12 = .ok (.iload_n 1, 1) := by decide +kernel
theorem dd_X9_findOrder_13 : decode cX9_findOrder 13 = .ok (.invokevirtual 239, 3) := by decide +kernel
theorem dd_X9_findOrder_16 : decode cX9_findOrder 16 = .ok (.ifCond .ne 7, 3) := by decide +kernel
theorem dd_X9_findOrder_19 : decode cX9_findOrder 19 = .ok (.sipush (-1005), 3) := by decide +kernel
theorem dd_X9_findOrder_22 : decode cX9_findOrder 22 = .ok (.ireturn, 1) := by decide +kernel
theorem dd_X9_findOrder_23 : decode cX9_findOrder 23 = .ok (.aload_n 0, 1) := by decide +kernel
theorem dd_X9_findOrder_24 : decode cX9_findOrder 24 = .ok (.invokevirtual 255, 3) := by decide +kernel
theorem dd_X9_findOrder_27 : decode cX9_findOrder 27 = .ok (.bipush 99, 2) := by decide +kernel
theorem dd_X9_findOrder_29 : decode cX9_findOrder 29 = .ok (.if_icmp .eq 5, 3) := by decide +kernel
theorem dd_X9_findOrder_32 : decode cX9_findOrder 32 = .ok (.iload_n 3, 1) := by decide +kernel
theorem dd_X9_findOrder_33 : decode cX9_findOrder 33 = .ok (.ireturn, 1) := by decide +kernel
theorem dd_X9_findOrder_34 : decode cX9_findOrder 34 = .ok (.iinc 3 1, 3) := by decide +kernel
theorem dd_X9_findOrder_37 : decode cX9_findOrder 37 = .ok (.goto (-31), 3) := by decide +kernel
theorem dd_X9_findOrder_40 : decode cX9_findOrder 40 = .ok (.iconst (-1), 1) := by decide +kernel
theorem dd_X9_findOrder_41 : decode cX9_findOrder 41 = .ok (.ireturn, 1) := by decide +kernel
theorem ok_X9_findOrder : am_okM m_X9_findOrder 2 ∧ Cond.instanceMethod m_X9_findOrder.1 ∈ am_tbl ∧ Cond.selects m_X9_findOrder.1.cls m_X9_findOrder.1 m_X9_findOrder.1 ∈ am_tbl := ri_mk1 1132 93 1131 70 (by decide +kernel)
theorem k_X9_findOrder {p n : Int} {F A : gs_F} (hI : gs_I F A) (hp : 0 ≤ p ∧ p ≤ 7) (hn : 1 ≤ n ∧ n ≤ 24) : ∀ nN : Nat, (∀ (k : Int)  (F1 A1 : gs_F), gs_I F1 A1 → gs_fr (fun c j => c = 106 ∧ (j = 13 ∨ j = 15)) (fun c => c = 114 ∨ c = 115 ∨ c = 119 ∨ c = 120) F A F1 A1 → 1 ≤ k ∧ k ≤ n + 1 → n + 1 - k < (nN : Int) → sA m_X9_findOrder 7 (fun rv F' A' => ∃ z : Int, rv = some (gs_iv z) ∧ gs_I F' A' ∧ gs_fr (fun c j => c = 106 ∧ (j = 13 ∨ j = 15)) (fun c => c = 114 ∨ c = 115 ∨ c = 119 ∨ c = 120) F A F' A' ∧ (-1005 ≤ z ∧ z ≤ 24)) 6 [(3, gs_iv k), (0, .ref 106), (1, gs_iv p), (2, gs_iv n)] [] F1 A1) := by
  intro nN
  induction nN with
  | zero =>
    exact fun a0 a1 a2 a3 a4 i0 hm => by exfalso; omega
  | succ nN ih =>
    intro k F1 A1 hI1 hf1 i0 hm
    refine sA_iload_n dd_X9_findOrder_6 rfl (.head _) ?_
    refine sA_iload_n dd_X9_findOrder_7 rfl (.tail _ (.tail _ (.tail _ (.head _)))) ?_
    refine sA_icmp_gt (tgt := 40) dd_X9_findOrder_8 (by decide) (by omega) (by omega) (fun q1 => ?_) (fun q1 => ?_)
    · skip
      refine sA_iconst (z := (-1)) dd_X9_findOrder_40 ?_
      refine sA_iret (z := -1) dd_X9_findOrder_41 rfl ?_
      exact ⟨_, rfl, hI1, hf1, by omega⟩
    · skip
      refine sA_aload_n dd_X9_findOrder_11 rfl (.tail _ (.head _)) ?_
      refine sA_iload_n dd_X9_findOrder_12 rfl (.tail _ (.tail _ (.head _))) ?_
      refine sA_callV (y2 := m_X9_goOn) (n2 := 1) (d2 := 6) (a := 106) (ci := 9) (q := (RX9, TX9, 28)) (as := [gs_iv p]) (rest := []) dd_X9_findOrder_13 ok_X9_goOn ml_X9_239 rfl rfl (by decide) gs_s106 rfl rfl (Nat.le_of_ble_eq_true rfl) (by decide) (c_X9_goOn hI1 (by omega)) (fun r2 F3 A4 h5 => ?_)
      obtain ⟨z8, e7, I9, f10, x6⟩ := h5
      subst e7
      have f11 := gs_fr_tr hf1 f10 (fun b j h => by first | exact False.elim h | omega | (dsimp only at h ⊢; omega)) (fun b h => by first | exact False.elim h | omega | (dsimp only at h ⊢; omega))
      show sA _ _ _ 16 _ [gs_iv z8] _ _
      refine sA_if_ne (tgt := 23) dd_X9_findOrder_16 (by decide) (by omega) (fun q12 => ?_) (fun q12 => ?_)
      · skip
        refine sA_aload_n dd_X9_findOrder_23 rfl (.tail _ (.head _)) ?_
        refine sA_callV (y2 := m_X9_findTurns) (n2 := 0) (d2 := 4) (a := 106) (ci := 9) (q := (RX9, TX9, 28)) (as := []) (rest := []) dd_X9_findOrder_24 ok_X9_findTurns ml_X9_255 rfl rfl (by decide) gs_s106 rfl rfl (Nat.le_of_ble_eq_true rfl) (by decide) (c_X9_findTurns I9 ) (fun r13 F14 A15 h16 => ?_)
        obtain ⟨z19, e18, I20, f21, x17⟩ := h16
        subst e18
        have f22 := gs_fr_tr f11 f21 (fun b j h => by first | exact False.elim h | omega | (dsimp only at h ⊢; omega)) (fun b h => by first | exact False.elim h | omega | (dsimp only at h ⊢; omega))
        show sA _ _ _ 27 _ [gs_iv z19] _ _
        refine sA_bipush (z := 99) dd_X9_findOrder_27 (by decide) ?_
        refine sA_icmp_eq (tgt := 34) dd_X9_findOrder_29 (by decide) (by omega) (by omega) (fun q23 => ?_) (fun q23 => ?_)
        · skip
          refine sA_iinc (lv' := [(3, gs_iv (k + 1)), (0, .ref 106), (1, gs_iv p), (2, gs_iv n)]) dd_X9_findOrder_34 (.head _) (by decide) rfl ?_
          refine sA_goto (tgt := 6) dd_X9_findOrder_37 (by decide) ?_
          refine sA_sub (lv2 := [(3, gs_iv (k + 1)), (0, .ref 106), (1, gs_iv p), (2, gs_iv n)]) (List.forall_mem_cons.mpr ⟨(.head _), (List.forall_mem_cons.mpr ⟨(.tail _ (.head _)), (List.forall_mem_cons.mpr ⟨(.tail _ (.tail _ (.head _))), (List.forall_mem_cons.mpr ⟨(.tail _ (.tail _ (.tail _ (.head _)))), (fun _ h => absurd h List.not_mem_nil)⟩)⟩)⟩)⟩) ?_
          exact ih (k + 1) F14 A15 I20 f22 (by omega) (by omega)
        · skip
          refine sA_iload_n dd_X9_findOrder_32 rfl (.head _) ?_
          refine sA_iret (z := k) dd_X9_findOrder_33 rfl ?_
          exact ⟨_, rfl, I20, f22, by omega⟩
      · skip
        refine sA_sipush (z := (-1005)) dd_X9_findOrder_19 (by decide) ?_
        refine sA_iret (z := -1005) dd_X9_findOrder_22 rfl ?_
        exact ⟨_, rfl, I9, f11, by omega⟩
theorem c_X9_findOrder {p n : Int} {F A : gs_F} (hI : gs_I F A) (hp : 0 ≤ p ∧ p ≤ 7) (hn : 1 ≤ n ∧ n ≤ 24) : sC m_X9_findOrder 7 [.ref 106, gs_iv p, gs_iv n] F A (fun rv F' A' => ∃ z : Int, rv = some (gs_iv z) ∧ gs_I F' A' ∧ gs_fr (fun c j => c = 106 ∧ (j = 13 ∨ j = 15)) (fun c => c = 114 ∨ c = 115 ∨ c = 119 ∨ c = 120) F A F' A' ∧ (-1005 ≤ z ∧ z ≤ 24)) := by
  refine sC_of ok_X9_findOrder.1 (Nat.le_of_ble_eq_true rfl) ?_
  show sA _ _ _ 0 [(0, .ref 106), (1, gs_iv p), (2, gs_iv n)] [] F A
  have hf : gs_fr (fun c j => c = 106 ∧ (j = 13 ∨ j = 15)) (fun c => c = 114 ∨ c = 115 ∨ c = 119 ∨ c = 120) F A F A := gs_fr_refl _ _ _ _
  refine sA_aload_n dd_X9_findOrder_0 rfl (.head _) ?_
  refine sA_callV (y2 := m_X9_startImages) (n2 := 0) (d2 := 1) (a := 106) (ci := 9) (q := (RX9, TX9, 28)) (as := []) (rest := []) dd_X9_findOrder_1 ok_X9_startImages ml_X9_236 rfl rfl (by decide) gs_s106 rfl rfl (Nat.le_of_ble_eq_true rfl) (by decide) (c_X9_startImages hI ) (fun r24 F25 A26 h27 => ?_)
  obtain ⟨e29, I30, f31, x28⟩ := h27
  subst e29
  have f32 := gs_fr_tr hf f31 (fun b j h => by first | exact False.elim h | omega | (dsimp only at h ⊢; omega)) (fun b h => by first | exact False.elim h | omega | (dsimp only at h ⊢; omega))
  show sA _ _ _ 4 _ [] _ _
  refine sA_iconst (z := 1) dd_X9_findOrder_4 ?_
  refine sA_istore_n (lv' := [(3, gs_iv 1), (0, .ref 106), (1, gs_iv p), (2, gs_iv n)]) dd_X9_findOrder_5 rfl (by decide) rfl ?_
  refine sA_sub (lv2 := [(3, gs_iv 1), (0, .ref 106), (1, gs_iv p), (2, gs_iv n)]) (List.forall_mem_cons.mpr ⟨(.head _), (List.forall_mem_cons.mpr ⟨(.tail _ (.head _)), (List.forall_mem_cons.mpr ⟨(.tail _ (.tail _ (.head _))), (List.forall_mem_cons.mpr ⟨(.tail _ (.tail _ (.tail _ (.head _)))), (fun _ h => absurd h List.not_mem_nil)⟩)⟩)⟩)⟩) ?_
  exact (k_X9_findOrder hI hp hn (n + 1 - 1 : Int).toNat.succ) 1 F25 A26 I30 f32 (by omega) (by omega)
theorem dd_X9_order_0 : decode cX9_order 0 = .ok (.aload_n 0, 1) := by decide +kernel
theorem dd_X9_order_1 : decode cX9_order 1 = .ok (.iload_n 1, 1) := by decide +kernel
theorem dd_X9_order_2 : decode cX9_order 2 = .ok (.invokevirtual 218, 3) := by decide +kernel
theorem dd_X9_order_5 : decode cX9_order 5 = .ok (.ifCond .eq 7, 3) := by decide +kernel
theorem dd_X9_order_8 : decode cX9_order 8 = .ok (.sipush (-1001), 3) := by decide +kernel
theorem dd_X9_order_11 : decode cX9_order 11 = .ok (.ireturn, 1) := by decide +kernel
theorem dd_X9_order_12 : decode cX9_order 12 = .ok (.iload_n 2, 1) := by decide +kernel
theorem dd_X9_order_13 : decode cX9_order 13 = .ok (.i2l, 1) := by decide +kernel
theorem dd_X9_order_14 : decode cX9_order 14 = .ok (.lconst 1, 1) := by decide +kernel
theorem dd_X9_order_15 : decode cX9_order 15 = .ok (.ldc2_w 258, 3) := by decide +kernel
theorem dd_X9_order_18 : decode cX9_order 18 = .ok (.invokestatic 75, 3) := by decide +kernel
theorem dd_X9_order_21 : decode cX9_order 21 = .ok (.ifCond .eq 12, 3) := by decide +kernel
theorem dd_X9_order_24 : decode cX9_order 24 = .ok (.aload_n 0, 1) := by decide +kernel
theorem dd_X9_order_25 : decode cX9_order 25 = .ok (.iload_n 1, 1) := by decide +kernel
theorem dd_X9_order_26 : decode cX9_order 26 = .ok (.iload_n 2, 1) := by decide +kernel
theorem dd_X9_order_27 : decode cX9_order 27 = .ok (.invokevirtual 260, 3) := by decide +kernel
theorem dd_X9_order_30 : decode cX9_order 30 = .ok (.goto 6, 3) := by decide +kernel
theorem dd_X9_order_33 : decode cX9_order 33 = .ok (.sipush (-1002), 3) := by decide +kernel
theorem dd_X9_order_36 : decode cX9_order 36 = .ok (.ireturn, 1) := by decide +kernel
theorem ml_X9_260 : Cond.methodLink RX9 260 m_X9_findOrder.1 ∈ am_tbl := ri_lw_in (pl := 1129) (by decide +kernel)
theorem ok_X9_order : am_okM m_X9_order 2 ∧ Cond.instanceMethod m_X9_order.1 ∈ am_tbl ∧ Cond.selects m_X9_order.1.cls m_X9_order.1 m_X9_order.1 ∈ am_tbl := ri_mk1 1127 93 1125 1126 (by decide +kernel)
theorem c_X9_order {p n : Int} {F A : gs_F} (hI : gs_I F A) (hp : -2147483648 ≤ p ∧ p ≤ 2147483647) (hn : -2147483648 ≤ n ∧ n ≤ 2147483647) : sC m_X9_order 8 [.ref 106, gs_iv p, gs_iv n] F A (fun rv F' A' => ∃ z : Int, rv = some (gs_iv z) ∧ gs_I F' A' ∧ gs_fr (fun c j => c = 106 ∧ (j = 13 ∨ j = 15)) (fun c => c = 114 ∨ c = 115 ∨ c = 119 ∨ c = 120) F A F' A' ∧ (True)) := by
  refine sC_of ok_X9_order.1 (Nat.le_of_ble_eq_true rfl) ?_
  show sA _ _ _ 0 [(0, .ref 106), (1, gs_iv p), (2, gs_iv n)] [] F A
  have hf : gs_fr (fun c j => c = 106 ∧ (j = 13 ∨ j = 15)) (fun c => c = 114 ∨ c = 115 ∨ c = 119 ∨ c = 120) F A F A := gs_fr_refl _ _ _ _
  refine sA_aload_n dd_X9_order_0 rfl (.head _) ?_
  refine sA_iload_n dd_X9_order_1 rfl (.tail _ (.head _)) ?_
  refine sA_callV (y2 := m_X9_noPlan) (n2 := 1) (d2 := 2) (a := 106) (ci := 9) (q := (RX9, TX9, 28)) (as := [gs_iv p]) (rest := []) dd_X9_order_2 ok_X9_noPlan ml_X9_218 rfl rfl (by decide) gs_s106 rfl rfl (Nat.le_of_ble_eq_true rfl) (by decide) (c_X9_noPlan hI (by omega)) (fun r1 F2 A3 h4 => ?_)
  obtain ⟨z7, e6, e8, e9, x5⟩ := h4
  subst e6 e8 e9
  show sA _ _ _ 5 _ [gs_iv z7] _ _
  refine sA_if_eq (tgt := 12) dd_X9_order_5 (by decide) (by omega) (fun q10 => ?_) (fun q10 => ?_)
  · skip
    refine sA_iload_n dd_X9_order_12 rfl (.tail _ (.tail _ (.head _))) ?_
    refine sA_i2l dd_X9_order_13 (by omega) ?_
    refine sA_lconst (z := 1) dd_X9_order_14 (by decide) ?_
    refine sA_ldc2 (z := 24) dd_X9_order_15 (ri_lw_in (pl := 1128) (by decide +kernel)) ?_
    refine sA_callS (y2 := m_X9_in) (n2 := 3) (d2 := 1) (as := [gs_lv n, gs_lv 1, gs_lv 24]) (rest := []) dd_X9_order_18 ok_X9_in ml_X9_75 rfl rfl (Nat.le_of_ble_eq_true rfl) (by decide) (c_X9_in (by omega) (by omega) (by omega)) (fun r11 F12 A13 h14 => ?_)
    obtain ⟨z17, e16, e18, e19, x15⟩ := h14
    subst e16 e18 e19
    show sA _ _ _ 21 _ [gs_iv z17] _ _
    refine sA_if_eq (tgt := 33) dd_X9_order_21 (by decide) (by omega) (fun q20 => ?_) (fun q20 => ?_)
    · skip
      refine sA_sipush (z := (-1002)) dd_X9_order_33 (by decide) ?_
      refine sA_iret (z := -1002) dd_X9_order_36 rfl ?_
      exact ⟨_, rfl, hI, hf, trivial⟩
    · skip
      refine sA_aload_n dd_X9_order_24 rfl (.head _) ?_
      refine sA_iload_n dd_X9_order_25 rfl (.tail _ (.head _)) ?_
      refine sA_iload_n dd_X9_order_26 rfl (.tail _ (.tail _ (.head _))) ?_
      refine sA_callV (y2 := m_X9_findOrder) (n2 := 2) (d2 := 7) (a := 106) (ci := 9) (q := (RX9, TX9, 28)) (as := [gs_iv p, gs_iv n]) (rest := []) dd_X9_order_27 ok_X9_findOrder ml_X9_260 rfl rfl (by decide) gs_s106 rfl rfl (Nat.le_of_ble_eq_true rfl) (by decide) (c_X9_findOrder hI (by omega) (by omega)) (fun r21 F22 A23 h24 => ?_)
      obtain ⟨z27, e26, I28, f29, x25⟩ := h24
      subst e26
      have f30 := gs_fr_tr hf f29 (fun b j h => by first | exact False.elim h | omega | (dsimp only at h ⊢; omega)) (fun b h => by first | exact False.elim h | omega | (dsimp only at h ⊢; omega))
      show sA _ _ _ 30 _ [gs_iv z27] _ _
      refine sA_goto (tgt := 36) dd_X9_order_30 (by decide) ?_
      refine sA_iret (z := z27) dd_X9_order_36 rfl ?_
      exact ⟨_, rfl, I28, f30, trivial⟩
  · skip
    refine sA_sipush (z := (-1001)) dd_X9_order_8 (by decide) ?_
    refine sA_iret (z := -1001) dd_X9_order_11 rfl ?_
    exact ⟨_, rfl, hI, hf, trivial⟩
theorem dd_X9_tableOf_0 : decode cX9_tableOf 0 = .ok (.iconst 0, 1) := by decide +kernel
theorem dd_X9_tableOf_1 : decode cX9_tableOf 1 = .ok (.istore_n 3, 1) := by decide +kernel
theorem dd_X9_tableOf_2 : decode cX9_tableOf 2 = .ok (.iconst 0, 1) := by decide +kernel
theorem dd_X9_tableOf_3 : decode cX9_tableOf 3 = .ok (.istore 4, 2) := by decide +kernel
theorem dd_X9_tableOf_5 : decode cX9_tableOf 5 = .ok (.iload 4, 2) := by decide +kernel
theorem dd_X9_tableOf_7 : decode cX9_tableOf 7 = .ok (.aload_n 0, 1) := by decide +kernel
theorem dd_X9_tableOf_8 : decode cX9_tableOf 8 = .ok (.getfield 53, 3) := by decide +kernel
theorem dd_X9_tableOf_11 : decode cX9_tableOf 11 = .ok (.iload_n 1, 1) := by decide +kernel
theorem dd_X9_tableOf_12 : decode cX9_tableOf 12 = .ok (.iconst 1, 1) := by decide +kernel
theorem dd_X9_tableOf_13 : decode cX9_tableOf 13 = .ok (.isub, 1) := by decide +kernel
theorem dd_X9_tableOf_14 : decode cX9_tableOf 14 = .ok (.iaload, 1) := by decide +kernel
theorem dd_X9_tableOf_15 : decode cX9_tableOf 15 = .ok (.if_icmp .ge 60, 3) := by decide +kernel
theorem dd_X9_tableOf_18 : decode cX9_tableOf 18 = .ok (.aload_n 0, 1) := by decide +kernel
theorem dd_X9_tableOf_19 : decode cX9_tableOf 19 = .ok (.getfield 50, 3) := by decide +kernel
theorem dd_X9_tableOf_22 : decode cX9_tableOf 22 = .ok (.sipush 400, 3) := by decide +kernel
theorem dd_X9_tableOf_25 : decode cX9_tableOf 25 = .ok (.iload_n 1, 1) := by decide +kernel
theorem dd_X9_tableOf_26 : decode cX9_tableOf 26 = .ok (.iconst 1, 1) := by decide +kernel
theorem dd_X9_tableOf_27 : decode cX9_tableOf 27 = .ok (.isub, 1) := by decide +kernel
theorem dd_X9_tableOf_28 : decode cX9_tableOf 28 = .ok (.imul, 1) := by decide +kernel
theorem dd_X9_tableOf_29 : decode cX9_tableOf 29 = .ok (.iload 4, 2) := by decide +kernel
theorem dd_X9_tableOf_31 : decode cX9_tableOf 31 = .ok (.iadd, 1) := by decide +kernel
theorem dd_X9_tableOf_32 : decode cX9_tableOf 32 = .ok (.iaload, 1) := by decide +kernel
theorem dd_X9_tableOf_33 : decode cX9_tableOf 33 = .ok (.istore 5, 2) := by decide +kernel
theorem dd_X9_tableOf_35 : decode cX9_tableOf 35 = .ok (.iload_n 3, 1) := by decide +kernel
theorem dd_X9_tableOf_36 : decode cX9_tableOf 36 = .ok (.iload 5, 2) := by decide +kernel
theorem dd_X9_tableOf_38 : decode cX9_tableOf 38 = .ok (.iload_n 2, 1) := by decide +kernel
theorem dd_X9_tableOf_39 : decode cX9_tableOf 39 = .ok (.if_icmp .ne 7, 3) := by decide +kernel
theorem dd_X9_tableOf_42 : decode cX9_tableOf 42 = .ok (.iconst 1, 1) := by decide +kernel
theorem dd_X9_tableOf_43 : decode cX9_tableOf 43 = .ok (.goto 4, 3) := by decide +kernel
theorem dd_X9_tableOf_46 : decode cX9_tableOf 46 = .ok (.iconst 0, 1) := by decide +kernel
theorem dd_X9_tableOf_47 : decode cX9_tableOf 47 = .ok (.invokestatic 112, 3) := by decide +kernel
theorem dd_X9_tableOf_50 : decode cX9_tableOf 50 = .ok (.iload 5, 2) := by decide +kernel
theorem dd_X9_tableOf_52 : decode cX9_tableOf 52 = .ok (.iconst 0, 1) := by decide +kernel
theorem dd_X9_tableOf_53 : decode cX9_tableOf 53 = .ok (.iload_n 2, 1) := by decide +kernel
theorem dd_X9_tableOf_54 : decode cX9_tableOf 54 = .ok (.isub, 1) := by decide +kernel
theorem dd_X9_tableOf_55 : decode cX9_tableOf 55 = .ok (.if_icmp .ne 7, 3) := by decide +kernel
theorem dd_X9_tableOf_58 : decode cX9_tableOf 58 = .ok (.iconst 1, 1) := by decide +kernel
theorem dd_X9_tableOf_59 : decode cX9_tableOf 59 = .ok (.goto 4, 3) := by decide +kernel
theorem dd_X9_tableOf_62 : decode cX9_tableOf 62 = .ok (.iconst 0, 1) := by decide +kernel
theorem dd_X9_tableOf_63 : decode cX9_tableOf 63 = .ok (.invokestatic 112, 3) := by decide +kernel
theorem dd_X9_tableOf_66 : decode cX9_tableOf 66 = .ok (.isub, 1) := by decide +kernel
theorem dd_X9_tableOf_67 : decode cX9_tableOf 67 = .ok (.iadd, 1) := by decide +kernel
theorem dd_X9_tableOf_68 : decode cX9_tableOf 68 = .ok (.istore_n 3, 1) := by decide +kernel
theorem dd_X9_tableOf_69 : decode cX9_tableOf 69 = .ok (.iinc 4 1, 3) := by decide +kernel
theorem dd_X9_tableOf_72 : decode cX9_tableOf 72 = .ok (.goto (-67), 3) := by decide +kernel
theorem dd_X9_tableOf_75 : decode cX9_tableOf 75 = .ok (.iload_n 3, 1) := by decide +kernel
theorem dd_X9_tableOf_76 : decode cX9_tableOf 76 = .ok (.ireturn, 1) := by decide +kernel
theorem ok_X9_tableOf : am_okM m_X9_tableOf 2 ∧ Cond.instanceMethod m_X9_tableOf.1 ∈ am_tbl ∧ Cond.selects m_X9_tableOf.1.cls m_X9_tableOf.1 m_X9_tableOf.1 ∈ am_tbl := ri_mk1 1140 93 1139 71 (by decide +kernel)
theorem k_X9_tableOf {x u : Int} {F A : gs_F} (hI : gs_I F A) (hx : 1 ≤ x ∧ x ≤ 6) (hu : 1 ≤ u ∧ u ≤ 6) : ∀ nN : Nat, (∀ (n : Int) (k : Int),  0 ≤ k ∧ k ≤ 400 → -k ≤ n ∧ n ≤ k → 400 - k < (nN : Int) → sA m_X9_tableOf 2 (fun rv F' A' => ∃ z : Int, rv = some (gs_iv z) ∧ F = F' ∧ A = A' ∧ (-400 ≤ z ∧ z ≤ 400)) 5 [(4, gs_iv k), (3, gs_iv n), (0, .ref 106), (1, gs_iv x), (2, gs_iv u)] [] F A) := by
  intro nN
  induction nN with
  | zero =>
    exact fun a0 a1 i0 i1 hm => by exfalso; omega
  | succ nN ih =>
    intro n k i0 i1 hm
    refine sA_iload dd_X9_tableOf_5 (.head _) ?_
    refine sA_aload_n dd_X9_tableOf_7 rfl (.tail _ (.tail _ (.head _))) ?_
    refine sA_getr (ci := 9) (j := 26) (q := (RX9, TX9, 28)) dd_X9_tableOf_8 rfl (by decide) fl_X9_53 (by decide) gs_s106 rfl ?_
    refine sA_iload_n dd_X9_tableOf_11 rfl (.tail _ (.tail _ (.tail _ (.head _)))) ?_
    refine sA_iconst (z := 1) dd_X9_tableOf_12 ?_
    refine sA_isub dd_X9_tableOf_13 ?_
    refine sA_iald (n := 6) dd_X9_tableOf_14 (by decide) gs_s120 (by omega) (by decide) ?_
    have b1 : (0 : Int) ≤ A 120 (x - 1).toNat ∧ A 120 (x - 1).toNat ≤ 400 := hI.2 120 (x - 1).toNat
    refine sA_icmp_ge (tgt := 75) dd_X9_tableOf_15 (by decide) (by omega) (by omega) (fun q2 => ?_) (fun q2 => ?_)
    · skip
      refine sA_iload_n dd_X9_tableOf_75 rfl (.tail _ (.head _)) ?_
      refine sA_iret (z := n) dd_X9_tableOf_76 rfl ?_
      exact ⟨_, rfl, rfl, rfl, by omega⟩
    · skip
      refine sA_aload_n dd_X9_tableOf_18 rfl (.tail _ (.tail _ (.head _))) ?_
      refine sA_getr (ci := 9) (j := 25) (q := (RX9, TX9, 28)) dd_X9_tableOf_19 rfl (by decide) fl_X9_50 (by decide) gs_s106 rfl ?_
      refine sA_sipush (z := 400) dd_X9_tableOf_22 (by decide) ?_
      refine sA_iload_n dd_X9_tableOf_25 rfl (.tail _ (.tail _ (.tail _ (.head _)))) ?_
      refine sA_iconst (z := 1) dd_X9_tableOf_26 ?_
      refine sA_isub dd_X9_tableOf_27 ?_
      refine sA_imul dd_X9_tableOf_28 ?_
      refine sA_iload dd_X9_tableOf_29 (.head _) ?_
      refine sA_iadd dd_X9_tableOf_31 ?_
      refine sA_iald (n := 2400) dd_X9_tableOf_32 (by decide) gs_s119 (by omega) (by decide) ?_
      have b3 : (-9 : Int) ≤ A 119 ((400 * (x - 1)) + k).toNat ∧ A 119 ((400 * (x - 1)) + k).toNat ≤ 9 := hI.2 119 ((400 * (x - 1)) + k).toNat
      refine sA_istore (lv' := [(5, gs_iv (A 119 ((400 * (x - 1)) + k).toNat)), (4, gs_iv k), (3, gs_iv n), (0, .ref 106), (1, gs_iv x), (2, gs_iv u)]) dd_X9_tableOf_33 (by decide) rfl ?_
      refine sA_iload_n dd_X9_tableOf_35 rfl (.tail _ (.tail _ (.head _))) ?_
      refine sA_iload dd_X9_tableOf_36 (.head _) ?_
      refine sA_iload_n dd_X9_tableOf_38 rfl (.tail _ (.tail _ (.tail _ (.tail _ (.tail _ (.head _)))))) ?_
      refine sA_icmp_ne (tgt := 46) dd_X9_tableOf_39 (by decide) (by omega) (by omega) (fun q4 => ?_) (fun q4 => ?_)
      · skip
        refine sA_iconst (z := 0) dd_X9_tableOf_46 ?_
        refine sA_callS (y2 := m_X9_bit) (n2 := 1) (d2 := 1) (as := [gs_iv 0]) (rest := [gs_iv n]) dd_X9_tableOf_47 ok_X9_bit ml_X9_112 rfl rfl (Nat.le_of_ble_eq_true rfl) (by decide) (c_X9_bit (by omega)) (fun r5 F6 A7 h8 => ?_)
        obtain ⟨z11, e10, e12, e13, x9⟩ := h8
        subst e10 e12 e13
        show sA _ _ _ 50 _ [gs_iv z11, gs_iv n] _ _
        refine sA_iload dd_X9_tableOf_50 (.head _) ?_
        refine sA_iconst (z := 0) dd_X9_tableOf_52 ?_
        refine sA_iload_n dd_X9_tableOf_53 rfl (.tail _ (.tail _ (.tail _ (.tail _ (.tail _ (.head _)))))) ?_
        refine sA_isub dd_X9_tableOf_54 ?_
        refine sA_icmp_ne (tgt := 62) dd_X9_tableOf_55 (by decide) (by omega) (by omega) (fun q14 => ?_) (fun q14 => ?_)
        · skip
          refine sA_iconst (z := 0) dd_X9_tableOf_62 ?_
          refine sA_callS (y2 := m_X9_bit) (n2 := 1) (d2 := 1) (as := [gs_iv 0]) (rest := [gs_iv z11, gs_iv n]) dd_X9_tableOf_63 ok_X9_bit ml_X9_112 rfl rfl (Nat.le_of_ble_eq_true rfl) (by decide) (c_X9_bit (by omega)) (fun r15 F16 A17 h18 => ?_)
          obtain ⟨z21, e20, e22, e23, x19⟩ := h18
          subst e20 e22 e23
          show sA _ _ _ 66 _ [gs_iv z21, gs_iv z11, gs_iv n] _ _
          refine sA_isub dd_X9_tableOf_66 ?_
          refine sA_iadd dd_X9_tableOf_67 ?_
          refine sA_istore_n (lv' := [(3, gs_iv (n + (z11 - z21))), (5, gs_iv (A 119 ((400 * (x - 1)) + k).toNat)), (4, gs_iv k), (0, .ref 106), (1, gs_iv x), (2, gs_iv u)]) dd_X9_tableOf_68 rfl (by decide) rfl ?_
          refine sA_iinc (lv' := [(4, gs_iv (k + 1)), (3, gs_iv (n + (z11 - z21))), (5, gs_iv (A 119 ((400 * (x - 1)) + k).toNat)), (0, .ref 106), (1, gs_iv x), (2, gs_iv u)]) dd_X9_tableOf_69 (.tail _ (.tail _ (.head _))) (by decide) rfl ?_
          refine sA_goto (tgt := 5) dd_X9_tableOf_72 (by decide) ?_
          refine sA_sub (lv2 := [(4, gs_iv (k + 1)), (3, gs_iv (n + (z11 - z21))), (0, .ref 106), (1, gs_iv x), (2, gs_iv u)]) (List.forall_mem_cons.mpr ⟨(.head _), (List.forall_mem_cons.mpr ⟨(.tail _ (.head _)), (List.forall_mem_cons.mpr ⟨(.tail _ (.tail _ (.tail _ (.head _)))), (List.forall_mem_cons.mpr ⟨(.tail _ (.tail _ (.tail _ (.tail _ (.head _))))), (List.forall_mem_cons.mpr ⟨(.tail _ (.tail _ (.tail _ (.tail _ (.tail _ (.head _)))))), (fun _ h => absurd h List.not_mem_nil)⟩)⟩)⟩)⟩)⟩) ?_
          exact ih (n + (z11 - z21)) (k + 1)  (by omega) (by omega) (by omega)
        · skip
          refine sA_iconst (z := 1) dd_X9_tableOf_58 ?_
          refine sA_goto (tgt := 63) dd_X9_tableOf_59 (by decide) ?_
          refine sA_callS (y2 := m_X9_bit) (n2 := 1) (d2 := 1) (as := [gs_iv 1]) (rest := [gs_iv z11, gs_iv n]) dd_X9_tableOf_63 ok_X9_bit ml_X9_112 rfl rfl (Nat.le_of_ble_eq_true rfl) (by decide) (c_X9_bit (by omega)) (fun r24 F25 A26 h27 => ?_)
          obtain ⟨z30, e29, e31, e32, x28⟩ := h27
          subst e29 e31 e32
          show sA _ _ _ 66 _ [gs_iv z30, gs_iv z11, gs_iv n] _ _
          refine sA_isub dd_X9_tableOf_66 ?_
          refine sA_iadd dd_X9_tableOf_67 ?_
          refine sA_istore_n (lv' := [(3, gs_iv (n + (z11 - z30))), (5, gs_iv (A 119 ((400 * (x - 1)) + k).toNat)), (4, gs_iv k), (0, .ref 106), (1, gs_iv x), (2, gs_iv u)]) dd_X9_tableOf_68 rfl (by decide) rfl ?_
          refine sA_iinc (lv' := [(4, gs_iv (k + 1)), (3, gs_iv (n + (z11 - z30))), (5, gs_iv (A 119 ((400 * (x - 1)) + k).toNat)), (0, .ref 106), (1, gs_iv x), (2, gs_iv u)]) dd_X9_tableOf_69 (.tail _ (.tail _ (.head _))) (by decide) rfl ?_
          refine sA_goto (tgt := 5) dd_X9_tableOf_72 (by decide) ?_
          refine sA_sub (lv2 := [(4, gs_iv (k + 1)), (3, gs_iv (n + (z11 - z30))), (0, .ref 106), (1, gs_iv x), (2, gs_iv u)]) (List.forall_mem_cons.mpr ⟨(.head _), (List.forall_mem_cons.mpr ⟨(.tail _ (.head _)), (List.forall_mem_cons.mpr ⟨(.tail _ (.tail _ (.tail _ (.head _)))), (List.forall_mem_cons.mpr ⟨(.tail _ (.tail _ (.tail _ (.tail _ (.head _))))), (List.forall_mem_cons.mpr ⟨(.tail _ (.tail _ (.tail _ (.tail _ (.tail _ (.head _)))))), (fun _ h => absurd h List.not_mem_nil)⟩)⟩)⟩)⟩)⟩) ?_
          exact ih (n + (z11 - z30)) (k + 1)  (by omega) (by omega) (by omega)
      · skip
        refine sA_iconst (z := 1) dd_X9_tableOf_42 ?_
        refine sA_goto (tgt := 47) dd_X9_tableOf_43 (by decide) ?_
        refine sA_callS (y2 := m_X9_bit) (n2 := 1) (d2 := 1) (as := [gs_iv 1]) (rest := [gs_iv n]) dd_X9_tableOf_47 ok_X9_bit ml_X9_112 rfl rfl (Nat.le_of_ble_eq_true rfl) (by decide) (c_X9_bit (by omega)) (fun r33 F34 A35 h36 => ?_)
        obtain ⟨z39, e38, e40, e41, x37⟩ := h36
        subst e38 e40 e41
        show sA _ _ _ 50 _ [gs_iv z39, gs_iv n] _ _
        refine sA_iload dd_X9_tableOf_50 (.head _) ?_
        refine sA_iconst (z := 0) dd_X9_tableOf_52 ?_
        refine sA_iload_n dd_X9_tableOf_53 rfl (.tail _ (.tail _ (.tail _ (.tail _ (.tail _ (.head _)))))) ?_
        refine sA_isub dd_X9_tableOf_54 ?_
        refine sA_icmp_ne (tgt := 62) dd_X9_tableOf_55 (by decide) (by omega) (by omega) (fun q42 => ?_) (fun q42 => ?_)
        · skip
          refine sA_iconst (z := 0) dd_X9_tableOf_62 ?_
          refine sA_callS (y2 := m_X9_bit) (n2 := 1) (d2 := 1) (as := [gs_iv 0]) (rest := [gs_iv z39, gs_iv n]) dd_X9_tableOf_63 ok_X9_bit ml_X9_112 rfl rfl (Nat.le_of_ble_eq_true rfl) (by decide) (c_X9_bit (by omega)) (fun r43 F44 A45 h46 => ?_)
          obtain ⟨z49, e48, e50, e51, x47⟩ := h46
          subst e48 e50 e51
          show sA _ _ _ 66 _ [gs_iv z49, gs_iv z39, gs_iv n] _ _
          refine sA_isub dd_X9_tableOf_66 ?_
          refine sA_iadd dd_X9_tableOf_67 ?_
          refine sA_istore_n (lv' := [(3, gs_iv (n + (z39 - z49))), (5, gs_iv (A 119 ((400 * (x - 1)) + k).toNat)), (4, gs_iv k), (0, .ref 106), (1, gs_iv x), (2, gs_iv u)]) dd_X9_tableOf_68 rfl (by decide) rfl ?_
          refine sA_iinc (lv' := [(4, gs_iv (k + 1)), (3, gs_iv (n + (z39 - z49))), (5, gs_iv (A 119 ((400 * (x - 1)) + k).toNat)), (0, .ref 106), (1, gs_iv x), (2, gs_iv u)]) dd_X9_tableOf_69 (.tail _ (.tail _ (.head _))) (by decide) rfl ?_
          refine sA_goto (tgt := 5) dd_X9_tableOf_72 (by decide) ?_
          refine sA_sub (lv2 := [(4, gs_iv (k + 1)), (3, gs_iv (n + (z39 - z49))), (0, .ref 106), (1, gs_iv x), (2, gs_iv u)]) (List.forall_mem_cons.mpr ⟨(.head _), (List.forall_mem_cons.mpr ⟨(.tail _ (.head _)), (List.forall_mem_cons.mpr ⟨(.tail _ (.tail _ (.tail _ (.head _)))), (List.forall_mem_cons.mpr ⟨(.tail _ (.tail _ (.tail _ (.tail _ (.head _))))), (List.forall_mem_cons.mpr ⟨(.tail _ (.tail _ (.tail _ (.tail _ (.tail _ (.head _)))))), (fun _ h => absurd h List.not_mem_nil)⟩)⟩)⟩)⟩)⟩) ?_
          exact ih (n + (z39 - z49)) (k + 1)  (by omega) (by omega) (by omega)
        · skip
          refine sA_iconst (z := 1) dd_X9_tableOf_58 ?_
          refine sA_goto (tgt := 63) dd_X9_tableOf_59 (by decide) ?_
          refine sA_callS (y2 := m_X9_bit) (n2 := 1) (d2 := 1) (as := [gs_iv 1]) (rest := [gs_iv z39, gs_iv n]) dd_X9_tableOf_63 ok_X9_bit ml_X9_112 rfl rfl (Nat.le_of_ble_eq_true rfl) (by decide) (c_X9_bit (by omega)) (fun r52 F53 A54 h55 => ?_)
          obtain ⟨z58, e57, e59, e60, x56⟩ := h55
          subst e57 e59 e60
          show sA _ _ _ 66 _ [gs_iv z58, gs_iv z39, gs_iv n] _ _
          refine sA_isub dd_X9_tableOf_66 ?_
          refine sA_iadd dd_X9_tableOf_67 ?_
          refine sA_istore_n (lv' := [(3, gs_iv (n + (z39 - z58))), (5, gs_iv (A 119 ((400 * (x - 1)) + k).toNat)), (4, gs_iv k), (0, .ref 106), (1, gs_iv x), (2, gs_iv u)]) dd_X9_tableOf_68 rfl (by decide) rfl ?_
          refine sA_iinc (lv' := [(4, gs_iv (k + 1)), (3, gs_iv (n + (z39 - z58))), (5, gs_iv (A 119 ((400 * (x - 1)) + k).toNat)), (0, .ref 106), (1, gs_iv x), (2, gs_iv u)]) dd_X9_tableOf_69 (.tail _ (.tail _ (.head _))) (by decide) rfl ?_
          refine sA_goto (tgt := 5) dd_X9_tableOf_72 (by decide) ?_
          refine sA_sub (lv2 := [(4, gs_iv (k + 1)), (3, gs_iv (n + (z39 - z58))), (0, .ref 106), (1, gs_iv x), (2, gs_iv u)]) (List.forall_mem_cons.mpr ⟨(.head _), (List.forall_mem_cons.mpr ⟨(.tail _ (.head _)), (List.forall_mem_cons.mpr ⟨(.tail _ (.tail _ (.tail _ (.head _)))), (List.forall_mem_cons.mpr ⟨(.tail _ (.tail _ (.tail _ (.tail _ (.head _))))), (List.forall_mem_cons.mpr ⟨(.tail _ (.tail _ (.tail _ (.tail _ (.tail _ (.head _)))))), (fun _ h => absurd h List.not_mem_nil)⟩)⟩)⟩)⟩)⟩) ?_
          exact ih (n + (z39 - z58)) (k + 1)  (by omega) (by omega) (by omega)
theorem c_X9_tableOf {x u : Int} {F A : gs_F} (hI : gs_I F A) (hx : 1 ≤ x ∧ x ≤ 6) (hu : 1 ≤ u ∧ u ≤ 6) : sC m_X9_tableOf 2 [.ref 106, gs_iv x, gs_iv u] F A (fun rv F' A' => ∃ z : Int, rv = some (gs_iv z) ∧ F = F' ∧ A = A' ∧ (-400 ≤ z ∧ z ≤ 400)) := by
  refine sC_of ok_X9_tableOf.1 (Nat.le_of_ble_eq_true rfl) ?_
  show sA _ _ _ 0 [(0, .ref 106), (1, gs_iv x), (2, gs_iv u)] [] F A
  refine sA_iconst (z := 0) dd_X9_tableOf_0 ?_
  refine sA_istore_n (lv' := [(3, gs_iv 0), (0, .ref 106), (1, gs_iv x), (2, gs_iv u)]) dd_X9_tableOf_1 rfl (by decide) rfl ?_
  refine sA_iconst (z := 0) dd_X9_tableOf_2 ?_
  refine sA_istore (lv' := [(4, gs_iv 0), (3, gs_iv 0), (0, .ref 106), (1, gs_iv x), (2, gs_iv u)]) dd_X9_tableOf_3 (by decide) rfl ?_
  refine sA_sub (lv2 := [(4, gs_iv 0), (3, gs_iv 0), (0, .ref 106), (1, gs_iv x), (2, gs_iv u)]) (List.forall_mem_cons.mpr ⟨(.head _), (List.forall_mem_cons.mpr ⟨(.tail _ (.head _)), (List.forall_mem_cons.mpr ⟨(.tail _ (.tail _ (.head _))), (List.forall_mem_cons.mpr ⟨(.tail _ (.tail _ (.tail _ (.head _)))), (List.forall_mem_cons.mpr ⟨(.tail _ (.tail _ (.tail _ (.tail _ (.head _))))), (fun _ h => absurd h List.not_mem_nil)⟩)⟩)⟩)⟩)⟩) ?_
  exact (k_X9_tableOf hI hx hu (400 - 0 : Int).toNat.succ) 0 0  (by omega) (by omega) (by omega)
theorem dd_X9_table_0 : decode cX9_table 0 = .ok (.aload_n 0, 1) := by decide +kernel
theorem dd_X9_table_1 : decode cX9_table 1 = .ok (.iload_n 1, 1) := by decide +kernel
theorem dd_X9_table_2 : decode cX9_table 2 = .ok (.invokevirtual 218, 3) := by decide +kernel
theorem dd_X9_table_5 : decode cX9_table 5 = .ok (.ifCond .eq 7, 3) := by decide +kernel
theorem dd_X9_table_8 : decode cX9_table 8 = .ok (.sipush (-1001), 3) := by decide +kernel
theorem dd_X9_table_11 : decode cX9_table 11 = .ok (.ireturn, 1) := by decide +kernel
theorem dd_X9_table_12 : decode cX9_table 12 = .ok (.iload_n 2, 1) := by decide +kernel
theorem dd_X9_table_13 : decode cX9_table 13 = .ok (.i2l, 1) := by decide +kernel
theorem dd_X9_table_14 : decode cX9_table 14 = .ok (.lconst 1, 1) := by decide +kernel
theorem dd_X9_table_15 : decode cX9_table 15 = .ok (.iconst 2, 1) := by decide +kernel
theorem dd_X9_table_16 : decode cX9_table 16 = .ok (.aload_n 0, 1) := by decide +kernel
theorem dd_X9_table_17 : decode cX9_table 17 = .ok (.getfield 64, 3) := by decide +kernel
theorem dd_X9_table_20 : decode cX9_table 20 = .ok (.imul, 1) := by decide +kernel
theorem dd_X9_table_21 : decode cX9_table 21 = .ok (.i2l, 1) := by decide +kernel
theorem dd_X9_table_22 : decode cX9_table 22 = .ok (.invokestatic 75, 3) := by decide +kernel
theorem dd_X9_table_25 : decode cX9_table 25 = .ok (.ifCond .eq 19, 3) := by decide +kernel
theorem dd_X9_table_28 : decode cX9_table 28 = .ok (.iload_n 3, 1) := by decide +kernel
theorem dd_X9_table_29 : decode cX9_table 29 = .ok (.i2l, 1) := by decide +kernel
theorem dd_X9_table_30 : decode cX9_table 30 = .ok (.lconst 1, 1) := by decide +kernel
theorem dd_X9_table_31 : decode cX9_table 31 = .ok (.iconst 2, 1) := by decide +kernel
theorem dd_X9_table_32 : decode cX9_table 32 = .ok (.aload_n 0, 1) := by decide +kernel
theorem dd_X9_table_33 : decode cX9_table 33 = .ok (.getfield 64, 3) := by decide +kernel
theorem dd_X9_table_36 : decode cX9_table 36 = .ok (.imul, 1) := by decide +kernel
theorem dd_X9_table_37 : decode cX9_table 37 = .ok (.i2l, 1) := by decide +kernel
theorem dd_X9_table_38 : decode cX9_table 38 = .ok (.invokestatic 75, 3) := by decide +kernel
theorem dd_X9_table_41 : decode cX9_table 41 = .ok (.ifCond .ne 7, 3) := by decide +kernel
theorem dd_X9_table_44 : decode cX9_table 44 = .ok (.sipush (-1002), 3) := by decide +kernel
theorem dd_X9_table_47 : decode cX9_table 47 = .ok (.ireturn, 1) := by decide +kernel
theorem dd_X9_table_48 : decode cX9_table 48 = .ok (.aload_n 0, 1) := by decide +kernel
theorem dd_X9_table_49 : decode cX9_table 49 = .ok (.iload_n 1, 1) := by decide +kernel
theorem dd_X9_table_50 : decode cX9_table 50 = .ok (.invokevirtual 242, 3) := by decide +kernel
theorem dd_X9_table_53 : decode cX9_table 53 = .ok (.ifCond .eq 12, 3) := by decide +kernel
theorem dd_X9_table_56 : decode cX9_table 56 = .ok (.aload_n 0, 1) := by decide +kernel
theorem dd_X9_table_57 : decode cX9_table 57 = .ok (.iload_n 2, 1) := by decide +kernel
theorem dd_X9_table_58 : decode cX9_table 58 = .ok (.iload_n 3, 1) := by decide +kernel
theorem dd_X9_table_59 : decode cX9_table 59 = .ok (.invokevirtual 263, 3) := by decide +kernel
theorem dd_X9_table_62 : decode cX9_table 62 = .ok (.goto 6, 3) := by decide +kernel
theorem dd_X9_table_65 : decode cX9_table 65 = .ok (.sipush (-1005), 3) := by decide +kernel
theorem dd_X9_table_68 : decode cX9_table 68 = .ok (.ireturn, 1) := by decide +kernel
theorem ml_X9_263 : Cond.methodLink RX9 263 m_X9_tableOf.1 ∈ am_tbl := ri_lw_in (pl := 1137) (by decide +kernel)
theorem ok_X9_table : am_okM m_X9_table 3 ∧ Cond.instanceMethod m_X9_table.1 ∈ am_tbl ∧ Cond.selects m_X9_table.1.cls m_X9_table.1 m_X9_table.1 ∈ am_tbl := ri_mk1 1136 93 1134 1135 (by decide +kernel)
theorem c_X9_table {p x u : Int} {F A : gs_F} (hI : gs_I F A) (hp : -2147483648 ≤ p ∧ p ≤ 2147483647) (hx : -2147483648 ≤ x ∧ x ≤ 2147483647) (hu : -2147483648 ≤ u ∧ u ≤ 2147483647) : sC m_X9_table 8 [.ref 106, gs_iv p, gs_iv x, gs_iv u] F A (fun rv F' A' => ∃ z : Int, rv = some (gs_iv z) ∧ gs_I F' A' ∧ gs_fr (fun c j => c = 106 ∧ (j = 13 ∨ j = 15)) (fun c => c = 114 ∨ c = 115 ∨ c = 119 ∨ c = 120) F A F' A' ∧ (True)) := by
  refine sC_of ok_X9_table.1 (Nat.le_of_ble_eq_true rfl) ?_
  show sA _ _ _ 0 [(0, .ref 106), (1, gs_iv p), (2, gs_iv x), (3, gs_iv u)] [] F A
  have hf : gs_fr (fun c j => c = 106 ∧ (j = 13 ∨ j = 15)) (fun c => c = 114 ∨ c = 115 ∨ c = 119 ∨ c = 120) F A F A := gs_fr_refl _ _ _ _
  have hb0 : (1 : Int) ≤ F 106 0 ∧ F 106 0 ≤ 3 := hI.1 106 0
  refine sA_aload_n dd_X9_table_0 rfl (.head _) ?_
  refine sA_iload_n dd_X9_table_1 rfl (.tail _ (.head _)) ?_
  refine sA_callV (y2 := m_X9_noPlan) (n2 := 1) (d2 := 2) (a := 106) (ci := 9) (q := (RX9, TX9, 28)) (as := [gs_iv p]) (rest := []) dd_X9_table_2 ok_X9_noPlan ml_X9_218 rfl rfl (by decide) gs_s106 rfl rfl (Nat.le_of_ble_eq_true rfl) (by decide) (c_X9_noPlan hI (by omega)) (fun r1 F2 A3 h4 => ?_)
  obtain ⟨z7, e6, e8, e9, x5⟩ := h4
  subst e6 e8 e9
  show sA _ _ _ 5 _ [gs_iv z7] _ _
  refine sA_if_eq (tgt := 12) dd_X9_table_5 (by decide) (by omega) (fun q10 => ?_) (fun q10 => ?_)
  · skip
    refine sA_iload_n dd_X9_table_12 rfl (.tail _ (.tail _ (.head _))) ?_
    refine sA_i2l dd_X9_table_13 (by omega) ?_
    refine sA_lconst (z := 1) dd_X9_table_14 (by decide) ?_
    refine sA_iconst (z := 2) dd_X9_table_15 ?_
    refine sA_aload_n dd_X9_table_16 rfl (.head _) ?_
    refine sA_geti (ci := 9) (j := 0) (q := (RX9, TX9, 28)) dd_X9_table_17 rfl (by decide) fl_X9_64 (by decide) gs_s106 rfl ?_
    have b11 : (1 : Int) ≤ F 106 0 ∧ F 106 0 ≤ 3 := hI.1 106 0
    refine sA_imul dd_X9_table_20 ?_
    refine sA_i2l dd_X9_table_21 (by omega) ?_
    refine sA_callS (y2 := m_X9_in) (n2 := 3) (d2 := 1) (as := [gs_lv x, gs_lv 1, gs_lv (2 * (F 106 0))]) (rest := []) dd_X9_table_22 ok_X9_in ml_X9_75 rfl rfl (Nat.le_of_ble_eq_true rfl) (by decide) (c_X9_in (by omega) (by omega) (by omega)) (fun r12 F13 A14 h15 => ?_)
    obtain ⟨z18, e17, e19, e20, x16⟩ := h15
    subst e17 e19 e20
    show sA _ _ _ 25 _ [gs_iv z18] _ _
    refine sA_if_eq (tgt := 44) dd_X9_table_25 (by decide) (by omega) (fun q21 => ?_) (fun q21 => ?_)
    · skip
      refine sA_sipush (z := (-1002)) dd_X9_table_44 (by decide) ?_
      refine sA_iret (z := -1002) dd_X9_table_47 rfl ?_
      exact ⟨_, rfl, hI, hf, trivial⟩
    · skip
      refine sA_iload_n dd_X9_table_28 rfl (.tail _ (.tail _ (.tail _ (.head _)))) ?_
      refine sA_i2l dd_X9_table_29 (by omega) ?_
      refine sA_lconst (z := 1) dd_X9_table_30 (by decide) ?_
      refine sA_iconst (z := 2) dd_X9_table_31 ?_
      refine sA_aload_n dd_X9_table_32 rfl (.head _) ?_
      refine sA_geti (ci := 9) (j := 0) (q := (RX9, TX9, 28)) dd_X9_table_33 rfl (by decide) fl_X9_64 (by decide) gs_s106 rfl ?_
      refine sA_imul dd_X9_table_36 ?_
      refine sA_i2l dd_X9_table_37 (by omega) ?_
      refine sA_callS (y2 := m_X9_in) (n2 := 3) (d2 := 1) (as := [gs_lv u, gs_lv 1, gs_lv (2 * (F 106 0))]) (rest := []) dd_X9_table_38 ok_X9_in ml_X9_75 rfl rfl (Nat.le_of_ble_eq_true rfl) (by decide) (c_X9_in (by omega) (by omega) (by omega)) (fun r22 F23 A24 h25 => ?_)
      obtain ⟨z28, e27, e29, e30, x26⟩ := h25
      subst e27 e29 e30
      show sA _ _ _ 41 _ [gs_iv z28] _ _
      refine sA_if_ne (tgt := 48) dd_X9_table_41 (by decide) (by omega) (fun q31 => ?_) (fun q31 => ?_)
      · skip
        refine sA_aload_n dd_X9_table_48 rfl (.head _) ?_
        refine sA_iload_n dd_X9_table_49 rfl (.tail _ (.head _)) ?_
        refine sA_callV (y2 := m_X9_findImages) (n2 := 1) (d2 := 7) (a := 106) (ci := 9) (q := (RX9, TX9, 28)) (as := [gs_iv p]) (rest := []) dd_X9_table_50 ok_X9_findImages ml_X9_242 rfl rfl (by decide) gs_s106 rfl rfl (Nat.le_of_ble_eq_true rfl) (by decide) (c_X9_findImages hI (by omega)) (fun r32 F33 A34 h35 => ?_)
        obtain ⟨z38, e37, I39, f40, x36⟩ := h35
        subst e37
        have f41 := gs_fr_tr hf f40 (fun b j h => by first | exact False.elim h | omega | (dsimp only at h ⊢; omega)) (fun b h => by first | exact False.elim h | omega | (dsimp only at h ⊢; omega))
        show sA _ _ _ 53 _ [gs_iv z38] _ _
        refine sA_if_eq (tgt := 65) dd_X9_table_53 (by decide) (by omega) (fun q42 => ?_) (fun q42 => ?_)
        · skip
          refine sA_sipush (z := (-1005)) dd_X9_table_65 (by decide) ?_
          refine sA_iret (z := -1005) dd_X9_table_68 rfl ?_
          exact ⟨_, rfl, I39, f41, trivial⟩
        · skip
          refine sA_aload_n dd_X9_table_56 rfl (.head _) ?_
          refine sA_iload_n dd_X9_table_57 rfl (.tail _ (.tail _ (.head _))) ?_
          refine sA_iload_n dd_X9_table_58 rfl (.tail _ (.tail _ (.tail _ (.head _)))) ?_
          refine sA_callV (y2 := m_X9_tableOf) (n2 := 2) (d2 := 2) (a := 106) (ci := 9) (q := (RX9, TX9, 28)) (as := [gs_iv x, gs_iv u]) (rest := []) dd_X9_table_59 ok_X9_tableOf ml_X9_263 rfl rfl (by decide) gs_s106 rfl rfl (Nat.le_of_ble_eq_true rfl) (by decide) (c_X9_tableOf I39 (by omega) (by omega)) (fun r43 F44 A45 h46 => ?_)
          obtain ⟨z49, e48, e50, e51, x47⟩ := h46
          subst e48 e50 e51
          show sA _ _ _ 62 _ [gs_iv z49] _ _
          refine sA_goto (tgt := 68) dd_X9_table_62 (by decide) ?_
          refine sA_iret (z := z49) dd_X9_table_68 rfl ?_
          exact ⟨_, rfl, I39, f41, trivial⟩
      · skip
        refine sA_sipush (z := (-1002)) dd_X9_table_44 (by decide) ?_
        refine sA_iret (z := -1002) dd_X9_table_47 rfl ?_
        exact ⟨_, rfl, hI, hf, trivial⟩
  · skip
    refine sA_sipush (z := (-1001)) dd_X9_table_8 (by decide) ?_
    refine sA_iret (z := -1001) dd_X9_table_11 rfl ?_
    exact ⟨_, rfl, hI, hf, trivial⟩
theorem dd_X9_onesOf_0 : decode cX9_onesOf 0 = .ok (.iconst 0, 1) := by decide +kernel
theorem dd_X9_onesOf_1 : decode cX9_onesOf 1 = .ok (.istore_n 1, 1) := by decide +kernel
theorem dd_X9_onesOf_2 : decode cX9_onesOf 2 = .ok (.iconst 0, 1) := by decide +kernel
theorem dd_X9_onesOf_3 : decode cX9_onesOf 3 = .ok (.istore_n 2, 1) := by decide +kernel
theorem dd_X9_onesOf_4 : decode cX9_onesOf 4 = .ok (.iload_n 2, 1) := by decide +kernel
theorem dd_X9_onesOf_5 : decode cX9_onesOf 5 = .ok (.bipush 12, 2) := by decide +kernel
theorem dd_X9_onesOf_7 : decode cX9_onesOf 7 = .ok (.if_icmp .ge 17, 3) := by decide +kernel
theorem dd_X9_onesOf_10 : decode cX9_onesOf 10 = .ok (.iload_n 1, 1) := by decide +kernel
theorem dd_X9_onesOf_11 : decode cX9_onesOf 11 = .ok (.iload_n 0, 1) := by decide +kernel
theorem dd_X9_onesOf_12 : decode cX9_onesOf 12 = .ok (.iload_n 2, 1) := by decide +kernel
theorem dd_X9_onesOf_13 : decode cX9_onesOf 13 = .ok (.ishr, 1) := by decide +kernel
theorem dd_X9_onesOf_14 : decode cX9_onesOf 14 = .ok (.iconst 1, 1) := by decide +kernel
theorem dd_X9_onesOf_15 : decode cX9_onesOf 15 = .ok (.iand, 1) := by decide +kernel
theorem dd_X9_onesOf_16 : decode cX9_onesOf 16 = .ok (.iadd, 1) := by decide +kernel
theorem dd_X9_onesOf_17 : decode cX9_onesOf 17 = .ok (.istore_n 1, 1) := by decide +kernel
theorem dd_X9_onesOf_18 : decode cX9_onesOf 18 = .ok (.iinc 2 1, 3) := by decide +kernel
theorem dd_X9_onesOf_21 : decode cX9_onesOf 21 = .ok (.goto (-17), 3) := by decide +kernel
theorem dd_X9_onesOf_24 : decode cX9_onesOf 24 = .ok (.iload_n 1, 1) := by decide +kernel
theorem dd_X9_onesOf_25 : decode cX9_onesOf 25 = .ok (.ireturn, 1) := by decide +kernel
theorem ok_X9_onesOf : am_okM m_X9_onesOf 1 ∧ Cond.static m_X9_onesOf.1 ∈ am_tbl := ri_mk0 1150 93 1149 0 (by decide +kernel)
theorem k_X9_onesOf {x : Int} {F A : gs_F} (hx : -2147483648 ≤ x ∧ x ≤ 2147483647) : ∀ nN : Nat, (∀ (n : Int) (k : Int),  -2147483648 ≤ n ∧ n ≤ 2147483647 → 0 ≤ k ∧ k ≤ 12 → 12 - k < (nN : Int) → sA m_X9_onesOf 1 (fun rv F' A' => ∃ z : Int, rv = some (gs_iv z) ∧ F = F' ∧ A = A' ∧ (-2147483648 ≤ z ∧ z ≤ 2147483647)) 4 [(2, gs_iv k), (1, gs_iv n), (0, gs_iv x)] [] F A) := by
  intro nN
  induction nN with
  | zero =>
    exact fun a0 a1 i0 i1 hm => by exfalso; omega
  | succ nN ih =>
    intro n k i0 i1 hm
    refine sA_iload_n dd_X9_onesOf_4 rfl (.head _) ?_
    refine sA_bipush (z := 12) dd_X9_onesOf_5 (by decide) ?_
    refine sA_icmp_ge (tgt := 24) dd_X9_onesOf_7 (by decide) (by omega) (by omega) (fun q1 => ?_) (fun q1 => ?_)
    · skip
      refine sA_iload_n dd_X9_onesOf_24 rfl (.tail _ (.head _)) ?_
      refine sA_iret (z := n) dd_X9_onesOf_25 rfl ?_
      exact ⟨_, rfl, rfl, rfl, by omega⟩
    · skip
      refine sA_iload_n dd_X9_onesOf_10 rfl (.tail _ (.head _)) ?_
      refine sA_iload_n dd_X9_onesOf_11 rfl (.tail _ (.tail _ (.head _))) ?_
      refine sA_iload_n dd_X9_onesOf_12 rfl (.head _) ?_
      refine sA_ishr dd_X9_onesOf_13 ?_
      have b2 := gs_t_rng (Int32.ofInt x >>> (Int32.ofInt k &&& 31))
      generalize gs_t (Int32.ofInt x >>> (Int32.ofInt k &&& 31)) = w3 at b2 ⊢
      refine sA_iconst (z := 1) dd_X9_onesOf_14 ?_
      refine sA_iand dd_X9_onesOf_15 ?_
      have b4 := gs_t_rng (Int32.ofInt w3 &&& Int32.ofInt 1)
      generalize gs_t (Int32.ofInt w3 &&& Int32.ofInt 1) = w5 at b4 ⊢
      refine sA_iadd dd_X9_onesOf_16 ?_
      refine sA_wrap ?_
      have b7 := gs_w_rng (n + w5)
      generalize gs_w (n + w5) = w6 at b7 ⊢
      refine sA_istore_n (lv' := [(1, gs_iv w6), (2, gs_iv k), (0, gs_iv x)]) dd_X9_onesOf_17 rfl (by decide) rfl ?_
      refine sA_iinc (lv' := [(2, gs_iv (k + 1)), (1, gs_iv w6), (0, gs_iv x)]) dd_X9_onesOf_18 (.tail _ (.head _)) (by decide) rfl ?_
      refine sA_goto (tgt := 4) dd_X9_onesOf_21 (by decide) ?_
      refine sA_sub (lv2 := [(2, gs_iv (k + 1)), (1, gs_iv w6), (0, gs_iv x)]) (List.forall_mem_cons.mpr ⟨(.head _), (List.forall_mem_cons.mpr ⟨(.tail _ (.head _)), (List.forall_mem_cons.mpr ⟨(.tail _ (.tail _ (.head _))), (fun _ h => absurd h List.not_mem_nil)⟩)⟩)⟩) ?_
      exact ih w6 (k + 1)  (by omega) (by omega) (by omega)
theorem c_X9_onesOf {x : Int} {F A : gs_F} (hx : -2147483648 ≤ x ∧ x ≤ 2147483647) : sC m_X9_onesOf 1 [gs_iv x] F A (fun rv F' A' => ∃ z : Int, rv = some (gs_iv z) ∧ F = F' ∧ A = A' ∧ (-2147483648 ≤ z ∧ z ≤ 2147483647)) := by
  refine sC_of ok_X9_onesOf.1 (Nat.le_of_ble_eq_true rfl) ?_
  show sA _ _ _ 0 [(0, gs_iv x)] [] F A
  refine sA_iconst (z := 0) dd_X9_onesOf_0 ?_
  refine sA_istore_n (lv' := [(1, gs_iv 0), (0, gs_iv x)]) dd_X9_onesOf_1 rfl (by decide) rfl ?_
  refine sA_iconst (z := 0) dd_X9_onesOf_2 ?_
  refine sA_istore_n (lv' := [(2, gs_iv 0), (1, gs_iv 0), (0, gs_iv x)]) dd_X9_onesOf_3 rfl (by decide) rfl ?_
  refine sA_sub (lv2 := [(2, gs_iv 0), (1, gs_iv 0), (0, gs_iv x)]) (List.forall_mem_cons.mpr ⟨(.head _), (List.forall_mem_cons.mpr ⟨(.tail _ (.head _)), (List.forall_mem_cons.mpr ⟨(.tail _ (.tail _ (.head _))), (fun _ h => absurd h List.not_mem_nil)⟩)⟩)⟩) ?_
  exact (k_X9_onesOf hx (12 - 0 : Int).toNat.succ) 0 0  (by omega) (by omega) (by omega)
theorem dd_X9_determinant_0 : decode cX9_determinant 0 = .ok (.iconst 0, 1) := by decide +kernel
theorem dd_X9_determinant_1 : decode cX9_determinant 1 = .ok (.istore_n 2, 1) := by decide +kernel
theorem dd_X9_determinant_2 : decode cX9_determinant 2 = .ok (.iconst 0, 1) := by decide +kernel
theorem dd_X9_determinant_3 : decode cX9_determinant 3 = .ok (.istore_n 3, 1) := by decide +kernel
theorem dd_X9_determinant_4 : decode cX9_determinant 4 = .ok (.iload_n 3, 1) := by decide +kernel
theorem dd_X9_determinant_5 : decode cX9_determinant 5 = .ok (.bipush 64, 2) := by decide +kernel
theorem dd_X9_determinant_7 : decode cX9_determinant 7 = .ok (.if_icmp .ge 24, 3) := by decide +kernel
theorem dd_X9_determinant_10 : decode cX9_determinant 10 = .ok (.aload_n 0, 1) := by decide +kernel
theorem dd_X9_determinant_11 : decode cX9_determinant 11 = .ok (.getfield 56, 3) := by decide +kernel
theorem dd_X9_determinant_14 : decode cX9_determinant 14 = .ok (.iload_n 3, 1) := by decide +kernel
theorem dd_X9_determinant_15 : decode cX9_determinant 15 = .ok (.iload_n 3, 1) := by decide +kernel
theorem dd_X9_determinant_16 : decode cX9_determinant 16 = .ok (.ifCond .ne 7, 3) := by decide +kernel
theorem dd_X9_determinant_19 : decode cX9_determinant 19 = .ok (.lconst 1, 1) := by decide +kernel
theorem dd_X9_determinant_20 : decode cX9_determinant 20 = .ok (.goto 4, 3) := by decide +kernel
theorem dd_X9_determinant_23 : decode cX9_determinant 23 = .ok (.lconst 0, 1) := by decide +kernel
theorem dd_X9_determinant_24 : decode cX9_determinant 24 = .ok (.lastore, 1) := by decide +kernel
theorem dd_X9_determinant_25 : decode cX9_determinant 25 = .ok (.iinc 3 1, 3) := by decide +kernel
theorem dd_X9_determinant_28 : decode cX9_determinant 28 = .ok (.goto (-24), 3) := by decide +kernel
theorem dd_X9_determinant_31 : decode cX9_determinant 31 = .ok (.iconst 1, 1) := by decide +kernel
theorem dd_X9_determinant_32 : decode cX9_determinant 32 = .ok (.istore_n 3, 1) := by decide +kernel
theorem dd_X9_determinant_33 : decode cX9_determinant 33 = .ok (.iload_n 3, 1) := by decide +kernel
theorem dd_X9_determinant_34 : decode cX9_determinant 34 = .ok (.iconst 2, 1) := by decide +kernel
theorem dd_X9_determinant_35 : decode cX9_determinant 35 = .ok (.aload_n 0, 1) := by decide +kernel
theorem dd_X9_determinant_36 : decode cX9_determinant 36 = .ok (.getfield 64, 3) := by decide +kernel
theorem dd_X9_determinant_39 : decode cX9_determinant 39 = .ok (.imul, 1) := by decide +kernel
theorem dd_X9_determinant_40 : decode cX9_determinant 40 = .ok (.if_icmp .gt 156, 3) := by decide +kernel
theorem dd_X9_determinant_43 : decode cX9_determinant 43 = .ok (.iload_n 1, 1) := by decide +kernel
theorem dd_X9_determinant_44 : decode cX9_determinant 44 = .ok (.iload_n 3, 1) := by decide +kernel
theorem dd_X9_determinant_45 : decode cX9_determinant 45 = .ok (.iconst 1, 1) := by decide +kernel
theorem dd_X9_determinant_46 : decode cX9_determinant 46 = .ok (.isub, 1) := by decide +kernel
theorem dd_X9_determinant_47 : decode cX9_determinant 47 = .ok (.ishr, 1) := by decide +kernel
theorem dd_X9_determinant_48 : decode cX9_determinant 48 = .ok (.iconst 1, 1) := by decide +kernel
theorem dd_X9_determinant_49 : decode cX9_determinant 49 = .ok (.iand, 1) := by decide +kernel
theorem dd_X9_determinant_50 : decode cX9_determinant 50 = .ok (.iconst 1, 1) := by decide +kernel
theorem dd_X9_determinant_51 : decode cX9_determinant 51 = .ok (.if_icmp .ne 139, 3) := by decide +kernel
theorem dd_X9_determinant_54 : decode cX9_determinant 54 = .ok (.iinc 2 1, 3) := by decide +kernel
theorem dd_X9_determinant_57 : decode cX9_determinant 57 = .ok (.bipush 63, 2) := by decide +kernel
theorem dd_X9_determinant_59 : decode cX9_determinant 59 = .ok (.istore 4, 2) := by decide +kernel
theorem dd_X9_determinant_61 : decode cX9_determinant 61 = .ok (.iload 4, 2) := by decide +kernel
theorem dd_X9_determinant_63 : decode cX9_determinant 63 = .ok (.ifCond .le 127, 3) := by decide +kernel
theorem dd_X9_determinant_66 : decode cX9_determinant 66 = .ok (.iload 4, 2) := by decide +kernel
theorem dd_X9_determinant_68 : decode cX9_determinant 68 = .ok (.invokestatic 266, 3) := by decide +kernel
theorem dd_X9_determinant_71 : decode cX9_determinant 71 = .ok (.iload_n 2, 1) := by decide +kernel
theorem dd_X9_determinant_72 : decode cX9_determinant 72 = .ok (.if_icmp .ne 112, 3) := by decide +kernel
theorem dd_X9_determinant_75 : decode cX9_determinant 75 = .ok (.iload 4, 2) := by decide +kernel
theorem dd_X9_determinant_77 : decode cX9_determinant 77 = .ok (.iload_n 1, 1) := by decide +kernel
theorem dd_X9_determinant_78 : decode cX9_determinant 78 = .ok (.iconst (-1), 1) := by decide +kernel
theorem dd_X9_determinant_79 : decode cX9_determinant 79 = .ok (.ixor, 1) := by decide +kernel
theorem dd_X9_determinant_80 : decode cX9_determinant 80 = .ok (.iand, 1) := by decide +kernel
theorem dd_X9_determinant_81 : decode cX9_determinant 81 = .ok (.ifCond .ne 103, 3) := by decide +kernel
theorem dd_X9_determinant_84 : decode cX9_determinant 84 = .ok (.lconst 0, 1) := by decide +kernel
theorem dd_X9_determinant_85 : decode cX9_determinant 85 = .ok (.lstore 5, 2) := by decide +kernel
theorem dd_X9_determinant_87 : decode cX9_determinant 87 = .ok (.iconst 1, 1) := by decide +kernel
theorem dd_X9_determinant_88 : decode cX9_determinant 88 = .ok (.istore 7, 2) := by decide +kernel
theorem dd_X9_determinant_90 : decode cX9_determinant 90 = .ok (.iload 7, 2) := by decide +kernel
theorem dd_X9_determinant_92 : decode cX9_determinant 92 = .ok (.iconst 2, 1) := by decide +kernel
theorem dd_X9_determinant_93 : decode cX9_determinant 93 = .ok (.aload_n 0, 1) := by decide +kernel
theorem dd_X9_determinant_94 : decode cX9_determinant 94 = .ok (.getfield 64, 3) := by decide +kernel
theorem dd_X9_determinant_97 : decode cX9_determinant 97 = .ok (.imul, 1) := by decide +kernel
theorem dd_X9_determinant_98 : decode cX9_determinant 98 = .ok (.if_icmp .gt 77, 3) := by decide +kernel
theorem dd_X9_determinant_101 : decode cX9_determinant 101 = .ok (.iload 4, 2) := by decide +kernel
theorem dd_X9_determinant_103 : decode cX9_determinant 103 = .ok (.iload 7, 2) := by decide +kernel
theorem dd_X9_determinant_105 : decode cX9_determinant 105 = .ok (.iconst 1, 1) := by decide +kernel
theorem dd_X9_determinant_106 : decode cX9_determinant 106 = .ok (.isub, 1) := by decide +kernel
theorem dd_X9_determinant_107 : decode cX9_determinant 107 = .ok (.ishr, 1) := by decide +kernel
theorem dd_X9_determinant_108 : decode cX9_determinant 108 = .ok (.iconst 1, 1) := by decide +kernel
theorem dd_X9_determinant_109 : decode cX9_determinant 109 = .ok (.iand, 1) := by decide +kernel
theorem dd_X9_determinant_110 : decode cX9_determinant 110 = .ok (.iconst 1, 1) := by decide +kernel
theorem dd_X9_determinant_111 : decode cX9_determinant 111 = .ok (.if_icmp .ne 58, 3) := by decide +kernel
theorem dd_X9_determinant_114 : decode cX9_determinant 114 = .ok (.iload 4, 2) := by decide +kernel
theorem dd_X9_determinant_116 : decode cX9_determinant 116 = .ok (.iload 7, 2) := by decide +kernel
theorem dd_X9_determinant_118 : decode cX9_determinant 118 = .ok (.ishr, 1) := by decide +kernel
theorem dd_X9_determinant_119 : decode cX9_determinant 119 = .ok (.invokestatic 266, 3) := by decide +kernel
theorem dd_X9_determinant_122 : decode cX9_determinant 122 = .ok (.istore 8, 2) := by decide +kernel
theorem dd_X9_determinant_124 : decode cX9_determinant 124 = .ok (.lload 5, 2) := by decide +kernel
theorem dd_X9_determinant_126 : decode cX9_determinant 126 = .ok (.iload 8, 2) := by decide +kernel
theorem dd_X9_determinant_128 : decode cX9_determinant 128 = .ok (.iconst 2, 1) := by decide +kernel
theorem dd_X9_determinant_129 : decode cX9_determinant 129 = .ok (.irem, 1) := by decide +kernel
theorem dd_X9_determinant_130 : decode cX9_determinant 130 = .ok (.ifCond .ne 7, 3) := by decide +kernel
theorem dd_X9_determinant_133 : decode cX9_determinant 133 = .ok (.lconst 1, 1) := by decide +kernel
theorem dd_X9_determinant_134 : decode cX9_determinant 134 = .ok (.goto 6, 3) := by decide +kernel
theorem dd_X9_determinant_137 : decode cX9_determinant 137 = .ok (.ldc2_w 269, 3) := by decide +kernel
theorem dd_X9_determinant_140 : decode cX9_determinant 140 = .ok (.aload_n 0, 1) := by decide +kernel
theorem dd_X9_determinant_141 : decode cX9_determinant 141 = .ok (.iload_n 3, 1) := by decide +kernel
theorem dd_X9_determinant_142 : decode cX9_determinant 142 = .ok (.iload 7, 2) := by decide +kernel
theorem dd_X9_determinant_144 : decode cX9_determinant 144 = .ok (.invokevirtual 263, 3) := by decide +kernel
theorem dd_X9_determinant_147 : decode cX9_determinant 147 = .ok (.i2l, 1) := by decide +kernel
theorem dd_X9_determinant_148 : decode cX9_determinant 148 = .ok (.lmul, 1) := by decide +kernel
theorem dd_X9_determinant_149 : decode cX9_determinant 149 = .ok (.aload_n 0, 1) := by decide +kernel
theorem dd_X9_determinant_150 : decode cX9_determinant 150 = .ok (.getfield 56, 3) := by decide +kernel
theorem dd_X9_determinant_153 : decode cX9_determinant 153 = .ok (.iload 4, 2) := by decide +kernel
theorem dd_X9_determinant_155 : decode cX9_determinant 155 = .ok (.iconst 1, 1) := by decide +kernel
theorem dd_X9_determinant_156 : decode cX9_determinant 156 = .ok (.iload 7, 2) := by decide +kernel
theorem dd_X9_determinant_158 : decode cX9_determinant 158 = .ok (.iconst 1, 1) := by decide +kernel
theorem dd_X9_determinant_159 : decode cX9_determinant 159 = .ok (.isub, 1) := by decide +kernel
theorem dd_X9_determinant_160 : decode cX9_determinant 160 = .ok (.ishl, 1) := by decide +kernel
theorem dd_X9_determinant_161 : decode cX9_determinant 161 = .ok (.iconst (-1), 1) := by decide +kernel
theorem dd_X9_determinant_162 : decode cX9_determinant 162 = .ok (.ixor, 1) := by decide +kernel
theorem dd_X9_determinant_163 : decode cX9_determinant 163 = .ok (.iand, 1) := by decide +kernel
theorem dd_X9_determinant_164 : decode cX9_determinant 164 = .ok (.laload, 1) := by decide +kernel
theorem dd_X9_determinant_165 : decode cX9_determinant 165 = .ok (.lmul, 1) := by decide +kernel
theorem dd_X9_determinant_166 : decode cX9_determinant 166 = .ok (.ladd, 1) := by decide +kernel
theorem dd_X9_determinant_167 : decode cX9_determinant 167 = .ok (.lstore 5, 2) := by decide +kernel
theorem dd_X9_determinant_169 : decode cX9_determinant 169 = .ok (.iinc 7 1, 3) := by decide +kernel
theorem dd_X9_determinant_172 : decode cX9_determinant 172 = .ok (.goto (-82), 3) := by decide +kernel
theorem dd_X9_determinant_175 : decode cX9_determinant 175 = .ok (.aload_n 0, 1) := by decide +kernel
theorem dd_X9_determinant_176 : decode cX9_determinant 176 = .ok (.getfield 56, 3) := by decide +kernel
theorem dd_X9_determinant_179 : decode cX9_determinant 179 = .ok (.iload 4, 2) := by decide +kernel
theorem dd_X9_determinant_181 : decode cX9_determinant 181 = .ok (.lload 5, 2) := by decide +kernel
theorem dd_X9_determinant_183 : decode cX9_determinant 183 = .ok (.lastore, 1) := by decide +kernel
theorem dd_X9_determinant_184 : decode cX9_determinant 184 = .ok (.iinc 4 (-1), 3) := by decide +kernel
theorem dd_X9_determinant_187 : decode cX9_determinant 187 = .ok (.goto (-126), 3) := by decide +kernel
theorem dd_X9_determinant_190 : decode cX9_determinant 190 = .ok (.iinc 3 1, 3) := by decide +kernel
theorem dd_X9_determinant_193 : decode cX9_determinant 193 = .ok (.goto (-160), 3) := by decide +kernel
theorem dd_X9_determinant_196 : decode cX9_determinant 196 = .ok (.aload_n 0, 1) := by decide +kernel
theorem dd_X9_determinant_197 : decode cX9_determinant 197 = .ok (.getfield 56, 3) := by decide +kernel
theorem dd_X9_determinant_200 : decode cX9_determinant 200 = .ok (.iload_n 1, 1) := by decide +kernel
theorem dd_X9_determinant_201 : decode cX9_determinant 201 = .ok (.laload, 1) := by decide +kernel
theorem dd_X9_determinant_202 : decode cX9_determinant 202 = .ok (.lreturn, 1) := by decide +kernel
theorem gs_s121 : gs_sh 121 = .inr (.inl (1, 64)) := rfl
theorem fl_X9_56 : Cond.fieldLink RX9 56 (TX9 27).1 (TX9 27).2.1 (TX9 27).2.2.1 ∈ am_tbl := ri_lw_in (pl := 809) (by decide +kernel)
theorem ml_X9_266 : Cond.methodLink RX9 266 m_X9_onesOf.1 ∈ am_tbl := ri_lw_in (pl := 1148) (by decide +kernel)
theorem ok_X9_determinant : am_okM m_X9_determinant 1 ∧ Cond.instanceMethod m_X9_determinant.1 ∈ am_tbl ∧ Cond.selects m_X9_determinant.1.cls m_X9_determinant.1 m_X9_determinant.1 ∈ am_tbl := ri_mk1 1154 93 1153 72 (by decide +kernel)
theorem k_X9_determinant {e : Int} {F A : gs_F} (hI : gs_I F A) (he : 0 ≤ e ∧ e ≤ 63) : ∀ nN : Nat, (∀ (r : Int) (c : Int)  (F1 A1 : gs_F), gs_I F1 A1 → gs_fr (fun _ _ => False) (fun c => c = 121) F A F1 A1 → 0 ≤ c ∧ c ≤ 64 → r = 0 → 100000 + (64 - c) < (nN : Int) → sA m_X9_determinant 3 (fun rv F' A' => ∃ z : Int64, rv = some (.long z) ∧ gs_I F' A' ∧ gs_fr (fun _ _ => False) (fun c => c = 121) F A F' A' ∧ (True)) 4 [(3, gs_iv c), (2, gs_iv r), (0, .ref 106), (1, gs_iv e)] [] F1 A1) ∧ (∀ (r : Int) (x : Int)  (F1 A1 : gs_F), gs_I F1 A1 → gs_fr (fun _ _ => False) (fun c => c = 121) F A F1 A1 → 1 ≤ x ∧ x ≤ 7 → 0 ≤ r ∧ r < x → (8 - x) * 10000 + 1 < (nN : Int) → sA m_X9_determinant 3 (fun rv F' A' => ∃ z : Int64, rv = some (.long z) ∧ gs_I F' A' ∧ gs_fr (fun _ _ => False) (fun c => c = 121) F A F' A' ∧ (True)) 33 [(3, gs_iv x), (2, gs_iv r), (0, .ref 106), (1, gs_iv e)] [] F1 A1) ∧ (∀ (r : Int) (x : Int) (c : Int)  (F1 A1 : gs_F), gs_I F1 A1 → gs_fr (fun _ _ => False) (fun c => c = 121) F A F1 A1 → 1 ≤ x ∧ x ≤ 6 → 0 ≤ r ∧ r ≤ x → 0 ≤ c ∧ c ≤ 63 → (8 - x) * 10000 - 6400 + c * 100 < (nN : Int) → sA m_X9_determinant 3 (fun rv F' A' => ∃ z : Int64, rv = some (.long z) ∧ gs_I F' A' ∧ gs_fr (fun _ _ => False) (fun c => c = 121) F A F' A' ∧ (True)) 61 [(4, gs_iv c), (3, gs_iv x), (2, gs_iv r), (0, .ref 106), (1, gs_iv e)] [] F1 A1) ∧ (∀ (r : Int) (x : Int) (c : Int) (s : Int64) (u : Int)  (F1 A1 : gs_F), gs_I F1 A1 → gs_fr (fun _ _ => False) (fun c => c = 121) F A F1 A1 → 1 ≤ x ∧ x ≤ 6 → 0 ≤ r ∧ r ≤ x → 1 ≤ c ∧ c ≤ 63 → 1 ≤ u ∧ u ≤ 7 → (8 - x) * 10000 - 6400 + c * 100 - u < (nN : Int) → sA m_X9_determinant 3 (fun rv F' A' => ∃ z : Int64, rv = some (.long z) ∧ gs_I F' A' ∧ gs_fr (fun _ _ => False) (fun c => c = 121) F A F' A' ∧ (True)) 90 [(7, gs_iv u), (5, .long s), (4, gs_iv c), (3, gs_iv x), (2, gs_iv r), (0, .ref 106), (1, gs_iv e)] [] F1 A1) := by
  intro nN
  induction nN with
  | zero =>
    exact ⟨fun a0 a1 a2 a3 a4 a5 i0 i1 hm => by exfalso; omega, fun a0 a1 a2 a3 a4 a5 i0 i1 hm => by exfalso; omega, fun a0 a1 a2 a3 a4 a5 a6 i0 i1 i2 hm => by exfalso; omega, fun a0 a1 a2 a3 a4 a5 a6 a7 a8 i0 i1 i2 i3 hm => by exfalso; omega⟩
  | succ nN ih =>
    refine ⟨?_, ?_, ?_, ?_⟩
    · skip
      intro r c F1 A1 hI1 hf1 i0 i1 hm
      refine sA_iload_n dd_X9_determinant_4 rfl (.head _) ?_
      refine sA_bipush (z := 64) dd_X9_determinant_5 (by decide) ?_
      refine sA_icmp_ge (tgt := 31) dd_X9_determinant_7 (by decide) (by omega) (by omega) (fun q1 => ?_) (fun q1 => ?_)
      · skip
        refine sA_iconst (z := 1) dd_X9_determinant_31 ?_
        refine sA_istore_n (lv' := [(3, gs_iv 1), (2, gs_iv r), (0, .ref 106), (1, gs_iv e)]) dd_X9_determinant_32 rfl (by decide) rfl ?_
        refine sA_sub (lv2 := [(3, gs_iv 1), (2, gs_iv r), (0, .ref 106), (1, gs_iv e)]) (List.forall_mem_cons.mpr ⟨(.head _), (List.forall_mem_cons.mpr ⟨(.tail _ (.head _)), (List.forall_mem_cons.mpr ⟨(.tail _ (.tail _ (.head _))), (List.forall_mem_cons.mpr ⟨(.tail _ (.tail _ (.tail _ (.head _)))), (fun _ h => absurd h List.not_mem_nil)⟩)⟩)⟩)⟩) ?_
        exact ih.2.1 r 1 F1 A1 hI1 hf1 (by omega) (by omega) (by omega)
      · skip
        refine sA_aload_n dd_X9_determinant_10 rfl (.tail _ (.tail _ (.head _))) ?_
        refine sA_getr (ci := 9) (j := 27) (q := (RX9, TX9, 28)) dd_X9_determinant_11 rfl (by decide) fl_X9_56 (by decide) gs_s106 rfl ?_
        refine sA_iload_n dd_X9_determinant_14 rfl (.head _) ?_
        refine sA_iload_n dd_X9_determinant_15 rfl (.head _) ?_
        refine sA_if_ne (tgt := 23) dd_X9_determinant_16 (by decide) (by omega) (fun q2 => ?_) (fun q2 => ?_)
        · skip
          refine sA_lconst (z := 0) dd_X9_determinant_23 (by decide) ?_
          refine sA_last (n := 64) dd_X9_determinant_24 (by decide) gs_s121 (by omega) (by decide) ?_
          have I4 : gs_I F1 (gs_up A1 121 c.toNat 0) := gs_I_ast hI1 (show (-9223372036854775808 : Int) ≤ 0 ∧ 0 ≤ 9223372036854775807 by omega)
          have f5 := gs_fr_ast hf1 (a := 121) (z := 0) (i := c.toNat) (by first | omega | (dsimp only; omega) | (dsimp only))
          generalize gs_up A1 121 c.toNat 0 = A3 at I4 f5 ⊢
          refine sA_iinc (lv' := [(3, gs_iv (c + 1)), (2, gs_iv r), (0, .ref 106), (1, gs_iv e)]) dd_X9_determinant_25 (.head _) (by decide) rfl ?_
          refine sA_goto (tgt := 4) dd_X9_determinant_28 (by decide) ?_
          refine sA_sub (lv2 := [(3, gs_iv (c + 1)), (2, gs_iv r), (0, .ref 106), (1, gs_iv e)]) (List.forall_mem_cons.mpr ⟨(.head _), (List.forall_mem_cons.mpr ⟨(.tail _ (.head _)), (List.forall_mem_cons.mpr ⟨(.tail _ (.tail _ (.head _))), (List.forall_mem_cons.mpr ⟨(.tail _ (.tail _ (.tail _ (.head _)))), (fun _ h => absurd h List.not_mem_nil)⟩)⟩)⟩)⟩) ?_
          exact ih.1 r (c + 1) F1 A3 I4 f5 (by omega) (by omega) (by omega)
        · skip
          refine sA_lconst (z := 1) dd_X9_determinant_19 (by decide) ?_
          refine sA_goto (tgt := 24) dd_X9_determinant_20 (by decide) ?_
          refine sA_last (n := 64) dd_X9_determinant_24 (by decide) gs_s121 (by omega) (by decide) ?_
          have I7 : gs_I F1 (gs_up A1 121 c.toNat 1) := gs_I_ast hI1 (show (-9223372036854775808 : Int) ≤ 1 ∧ 1 ≤ 9223372036854775807 by omega)
          have f8 := gs_fr_ast hf1 (a := 121) (z := 1) (i := c.toNat) (by first | omega | (dsimp only; omega) | (dsimp only))
          generalize gs_up A1 121 c.toNat 1 = A6 at I7 f8 ⊢
          refine sA_iinc (lv' := [(3, gs_iv (c + 1)), (2, gs_iv r), (0, .ref 106), (1, gs_iv e)]) dd_X9_determinant_25 (.head _) (by decide) rfl ?_
          refine sA_goto (tgt := 4) dd_X9_determinant_28 (by decide) ?_
          refine sA_sub (lv2 := [(3, gs_iv (c + 1)), (2, gs_iv r), (0, .ref 106), (1, gs_iv e)]) (List.forall_mem_cons.mpr ⟨(.head _), (List.forall_mem_cons.mpr ⟨(.tail _ (.head _)), (List.forall_mem_cons.mpr ⟨(.tail _ (.tail _ (.head _))), (List.forall_mem_cons.mpr ⟨(.tail _ (.tail _ (.tail _ (.head _)))), (fun _ h => absurd h List.not_mem_nil)⟩)⟩)⟩)⟩) ?_
          exact ih.1 r (c + 1) F1 A6 I7 f8 (by omega) (by omega) (by omega)
    · skip
      intro r x F1 A1 hI1 hf1 i0 i1 hm
      refine sA_iload_n dd_X9_determinant_33 rfl (.head _) ?_
      refine sA_iconst (z := 2) dd_X9_determinant_34 ?_
      refine sA_aload_n dd_X9_determinant_35 rfl (.tail _ (.tail _ (.head _))) ?_
      refine sA_geti (ci := 9) (j := 0) (q := (RX9, TX9, 28)) dd_X9_determinant_36 rfl (by decide) fl_X9_64 (by decide) gs_s106 rfl ?_
      have b9 : (1 : Int) ≤ F1 106 0 ∧ F1 106 0 ≤ 3 := hI1.1 106 0
      refine sA_imul dd_X9_determinant_39 ?_
      refine sA_icmp_gt (tgt := 196) dd_X9_determinant_40 (by decide) (by omega) (by omega) (fun q10 => ?_) (fun q10 => ?_)
      · skip
        refine sA_aload_n dd_X9_determinant_196 rfl (.tail _ (.tail _ (.head _))) ?_
        refine sA_getr (ci := 9) (j := 27) (q := (RX9, TX9, 28)) dd_X9_determinant_197 rfl (by decide) fl_X9_56 (by decide) gs_s106 rfl ?_
        refine sA_iload_n dd_X9_determinant_200 rfl (.tail _ (.tail _ (.tail _ (.head _)))) ?_
        refine sA_lald (n := 64) dd_X9_determinant_201 (by decide) gs_s121 (by omega) (by decide) ?_
        have b11 : (-9223372036854775808 : Int) ≤ A1 121 e.toNat ∧ A1 121 e.toNat ≤ 9223372036854775807 := hI1.2 121 e.toNat
        refine sA_lret dd_X9_determinant_202 rfl ?_
        exact ⟨_, rfl, hI1, hf1, trivial⟩
      · skip
        refine sA_iload_n dd_X9_determinant_43 rfl (.tail _ (.tail _ (.tail _ (.head _)))) ?_
        refine sA_iload_n dd_X9_determinant_44 rfl (.head _) ?_
        refine sA_iconst (z := 1) dd_X9_determinant_45 ?_
        refine sA_isub dd_X9_determinant_46 ?_
        refine sA_ishr dd_X9_determinant_47 ?_
        have b12 := gs_t_rng (Int32.ofInt e >>> (Int32.ofInt (x - 1) &&& 31))
        generalize gs_t (Int32.ofInt e >>> (Int32.ofInt (x - 1) &&& 31)) = w13 at b12 ⊢
        refine sA_iconst (z := 1) dd_X9_determinant_48 ?_
        refine sA_iand dd_X9_determinant_49 ?_
        have b14 := gs_t_rng (Int32.ofInt w13 &&& Int32.ofInt 1)
        generalize gs_t (Int32.ofInt w13 &&& Int32.ofInt 1) = w15 at b14 ⊢
        refine sA_iconst (z := 1) dd_X9_determinant_50 ?_
        refine sA_icmp_ne (tgt := 190) dd_X9_determinant_51 (by decide) (by omega) (by omega) (fun q16 => ?_) (fun q16 => ?_)
        · skip
          refine sA_iinc (lv' := [(3, gs_iv (x + 1)), (2, gs_iv r), (0, .ref 106), (1, gs_iv e)]) dd_X9_determinant_190 (.head _) (by decide) rfl ?_
          refine sA_goto (tgt := 33) dd_X9_determinant_193 (by decide) ?_
          refine sA_sub (lv2 := [(3, gs_iv (x + 1)), (2, gs_iv r), (0, .ref 106), (1, gs_iv e)]) (List.forall_mem_cons.mpr ⟨(.head _), (List.forall_mem_cons.mpr ⟨(.tail _ (.head _)), (List.forall_mem_cons.mpr ⟨(.tail _ (.tail _ (.head _))), (List.forall_mem_cons.mpr ⟨(.tail _ (.tail _ (.tail _ (.head _)))), (fun _ h => absurd h List.not_mem_nil)⟩)⟩)⟩)⟩) ?_
          exact ih.2.1 r (x + 1) F1 A1 hI1 hf1 (by omega) (by omega) (by omega)
        · skip
          refine sA_iinc (lv' := [(2, gs_iv (r + 1)), (3, gs_iv x), (0, .ref 106), (1, gs_iv e)]) dd_X9_determinant_54 (.tail _ (.head _)) (by decide) rfl ?_
          refine sA_bipush (z := 63) dd_X9_determinant_57 (by decide) ?_
          refine sA_istore (lv' := [(4, gs_iv 63), (2, gs_iv (r + 1)), (3, gs_iv x), (0, .ref 106), (1, gs_iv e)]) dd_X9_determinant_59 (by decide) rfl ?_
          refine sA_sub (lv2 := [(4, gs_iv 63), (3, gs_iv x), (2, gs_iv (r + 1)), (0, .ref 106), (1, gs_iv e)]) (List.forall_mem_cons.mpr ⟨(.head _), (List.forall_mem_cons.mpr ⟨(.tail _ (.tail _ (.head _))), (List.forall_mem_cons.mpr ⟨(.tail _ (.head _)), (List.forall_mem_cons.mpr ⟨(.tail _ (.tail _ (.tail _ (.head _)))), (List.forall_mem_cons.mpr ⟨(.tail _ (.tail _ (.tail _ (.tail _ (.head _))))), (fun _ h => absurd h List.not_mem_nil)⟩)⟩)⟩)⟩)⟩) ?_
          exact ih.2.2.1 (r + 1) x 63 F1 A1 hI1 hf1 (by omega) (by omega) (by omega) (by omega)
    · skip
      intro r x c F1 A1 hI1 hf1 i0 i1 i2 hm
      refine sA_iload dd_X9_determinant_61 (.head _) ?_
      refine sA_if_le (tgt := 190) dd_X9_determinant_63 (by decide) (by omega) (fun q17 => ?_) (fun q17 => ?_)
      · skip
        refine sA_iinc (lv' := [(3, gs_iv (x + 1)), (4, gs_iv c), (2, gs_iv r), (0, .ref 106), (1, gs_iv e)]) dd_X9_determinant_190 (.tail _ (.head _)) (by decide) rfl ?_
        refine sA_goto (tgt := 33) dd_X9_determinant_193 (by decide) ?_
        refine sA_sub (lv2 := [(3, gs_iv (x + 1)), (2, gs_iv r), (0, .ref 106), (1, gs_iv e)]) (List.forall_mem_cons.mpr ⟨(.head _), (List.forall_mem_cons.mpr ⟨(.tail _ (.tail _ (.head _))), (List.forall_mem_cons.mpr ⟨(.tail _ (.tail _ (.tail _ (.head _)))), (List.forall_mem_cons.mpr ⟨(.tail _ (.tail _ (.tail _ (.tail _ (.head _))))), (fun _ h => absurd h List.not_mem_nil)⟩)⟩)⟩)⟩) ?_
        exact ih.2.1 r (x + 1) F1 A1 hI1 hf1 (by omega) (by omega) (by omega)
      · skip
        refine sA_iload dd_X9_determinant_66 (.head _) ?_
        refine sA_callS (y2 := m_X9_onesOf) (n2 := 1) (d2 := 1) (as := [gs_iv c]) (rest := []) dd_X9_determinant_68 ok_X9_onesOf ml_X9_266 rfl rfl (Nat.le_of_ble_eq_true rfl) (by decide) (c_X9_onesOf (by omega)) (fun r18 F19 A20 h21 => ?_)
        obtain ⟨z24, e23, e25, e26, x22⟩ := h21
        subst e23 e25 e26
        show sA _ _ _ 71 _ [gs_iv z24] _ _
        refine sA_iload_n dd_X9_determinant_71 rfl (.tail _ (.tail _ (.head _))) ?_
        refine sA_icmp_ne (tgt := 184) dd_X9_determinant_72 (by decide) (by omega) (by omega) (fun q27 => ?_) (fun q27 => ?_)
        · skip
          refine sA_iinc (lv' := [(4, gs_iv (c + (-1))), (3, gs_iv x), (2, gs_iv r), (0, .ref 106), (1, gs_iv e)]) dd_X9_determinant_184 (.head _) (by decide) rfl ?_
          refine sA_goto (tgt := 61) dd_X9_determinant_187 (by decide) ?_
          refine sA_sub (lv2 := [(4, gs_iv (c + (-1))), (3, gs_iv x), (2, gs_iv r), (0, .ref 106), (1, gs_iv e)]) (List.forall_mem_cons.mpr ⟨(.head _), (List.forall_mem_cons.mpr ⟨(.tail _ (.head _)), (List.forall_mem_cons.mpr ⟨(.tail _ (.tail _ (.head _))), (List.forall_mem_cons.mpr ⟨(.tail _ (.tail _ (.tail _ (.head _)))), (List.forall_mem_cons.mpr ⟨(.tail _ (.tail _ (.tail _ (.tail _ (.head _))))), (fun _ h => absurd h List.not_mem_nil)⟩)⟩)⟩)⟩)⟩) ?_
          exact ih.2.2.1 r x (c + (-1)) F1 A1 hI1 hf1 (by omega) (by omega) (by omega) (by omega)
        · skip
          refine sA_iload dd_X9_determinant_75 (.head _) ?_
          refine sA_iload_n dd_X9_determinant_77 rfl (.tail _ (.tail _ (.tail _ (.tail _ (.head _))))) ?_
          refine sA_iconst (z := (-1)) dd_X9_determinant_78 ?_
          refine sA_ixor dd_X9_determinant_79 ?_
          have b28 := gs_t_rng (Int32.ofInt e ^^^ Int32.ofInt (-1))
          generalize gs_t (Int32.ofInt e ^^^ Int32.ofInt (-1)) = w29 at b28 ⊢
          refine sA_iand dd_X9_determinant_80 ?_
          have b30 := gs_t_rng (Int32.ofInt c &&& Int32.ofInt w29)
          generalize gs_t (Int32.ofInt c &&& Int32.ofInt w29) = w31 at b30 ⊢
          refine sA_if_ne (tgt := 184) dd_X9_determinant_81 (by decide) (by omega) (fun q32 => ?_) (fun q32 => ?_)
          · skip
            refine sA_iinc (lv' := [(4, gs_iv (c + (-1))), (3, gs_iv x), (2, gs_iv r), (0, .ref 106), (1, gs_iv e)]) dd_X9_determinant_184 (.head _) (by decide) rfl ?_
            refine sA_goto (tgt := 61) dd_X9_determinant_187 (by decide) ?_
            refine sA_sub (lv2 := [(4, gs_iv (c + (-1))), (3, gs_iv x), (2, gs_iv r), (0, .ref 106), (1, gs_iv e)]) (List.forall_mem_cons.mpr ⟨(.head _), (List.forall_mem_cons.mpr ⟨(.tail _ (.head _)), (List.forall_mem_cons.mpr ⟨(.tail _ (.tail _ (.head _))), (List.forall_mem_cons.mpr ⟨(.tail _ (.tail _ (.tail _ (.head _)))), (List.forall_mem_cons.mpr ⟨(.tail _ (.tail _ (.tail _ (.tail _ (.head _))))), (fun _ h => absurd h List.not_mem_nil)⟩)⟩)⟩)⟩)⟩) ?_
            exact ih.2.2.1 r x (c + (-1)) F1 A1 hI1 hf1 (by omega) (by omega) (by omega) (by omega)
          · skip
            refine sA_lconst (z := 0) dd_X9_determinant_84 (by decide) ?_
            refine sA_lstore (lv' := [(5, gs_lv 0), (4, gs_iv c), (3, gs_iv x), (2, gs_iv r), (0, .ref 106), (1, gs_iv e)]) dd_X9_determinant_85 (by decide) rfl ?_
            refine sA_iconst (z := 1) dd_X9_determinant_87 ?_
            refine sA_istore (lv' := [(7, gs_iv 1), (5, gs_lv 0), (4, gs_iv c), (3, gs_iv x), (2, gs_iv r), (0, .ref 106), (1, gs_iv e)]) dd_X9_determinant_88 (by decide) rfl ?_
            refine sA_sub (lv2 := [(7, gs_iv 1), (5, gs_lv 0), (4, gs_iv c), (3, gs_iv x), (2, gs_iv r), (0, .ref 106), (1, gs_iv e)]) (List.forall_mem_cons.mpr ⟨(.head _), (List.forall_mem_cons.mpr ⟨(.tail _ (.head _)), (List.forall_mem_cons.mpr ⟨(.tail _ (.tail _ (.head _))), (List.forall_mem_cons.mpr ⟨(.tail _ (.tail _ (.tail _ (.head _)))), (List.forall_mem_cons.mpr ⟨(.tail _ (.tail _ (.tail _ (.tail _ (.head _))))), (List.forall_mem_cons.mpr ⟨(.tail _ (.tail _ (.tail _ (.tail _ (.tail _ (.head _)))))), (List.forall_mem_cons.mpr ⟨(.tail _ (.tail _ (.tail _ (.tail _ (.tail _ (.tail _ (.head _))))))), (fun _ h => absurd h List.not_mem_nil)⟩)⟩)⟩)⟩)⟩)⟩)⟩) ?_
            exact ih.2.2.2 r x c (Int64.ofInt 0) 1 F1 A1 hI1 hf1 (by omega) (by omega) (by omega) (by omega) (by omega)
    · skip
      intro r x c s u F1 A1 hI1 hf1 i0 i1 i2 i3 hm
      refine sA_iload dd_X9_determinant_90 (.head _) ?_
      refine sA_iconst (z := 2) dd_X9_determinant_92 ?_
      refine sA_aload_n dd_X9_determinant_93 rfl (.tail _ (.tail _ (.tail _ (.tail _ (.tail _ (.head _)))))) ?_
      refine sA_geti (ci := 9) (j := 0) (q := (RX9, TX9, 28)) dd_X9_determinant_94 rfl (by decide) fl_X9_64 (by decide) gs_s106 rfl ?_
      have b33 : (1 : Int) ≤ F1 106 0 ∧ F1 106 0 ≤ 3 := hI1.1 106 0
      refine sA_imul dd_X9_determinant_97 ?_
      refine sA_icmp_gt (tgt := 175) dd_X9_determinant_98 (by decide) (by omega) (by omega) (fun q34 => ?_) (fun q34 => ?_)
      · skip
        refine sA_aload_n dd_X9_determinant_175 rfl (.tail _ (.tail _ (.tail _ (.tail _ (.tail _ (.head _)))))) ?_
        refine sA_getr (ci := 9) (j := 27) (q := (RX9, TX9, 28)) dd_X9_determinant_176 rfl (by decide) fl_X9_56 (by decide) gs_s106 rfl ?_
        refine sA_iload dd_X9_determinant_179 (.tail _ (.tail _ (.head _))) ?_
        refine sA_lload dd_X9_determinant_181 (.tail _ (.head _)) ?_
        have b35 := gs_l_rng s
        refine sA_lastR (n := 64) dd_X9_determinant_183 (by decide) gs_s121 (by omega) (by decide) ?_
        have I37 : gs_I F1 (gs_up A1 121 c.toNat s.toInt) := gs_I_ast hI1 (show (-9223372036854775808 : Int) ≤ s.toInt ∧ s.toInt ≤ 9223372036854775807 by omega)
        have f38 := gs_fr_ast hf1 (a := 121) (z := s.toInt) (i := c.toNat) (by first | omega | (dsimp only; omega) | (dsimp only))
        generalize gs_up A1 121 c.toNat s.toInt = A36 at I37 f38 ⊢
        refine sA_iinc (lv' := [(4, gs_iv (c + (-1))), (7, gs_iv u), (5, .long s), (3, gs_iv x), (2, gs_iv r), (0, .ref 106), (1, gs_iv e)]) dd_X9_determinant_184 (.tail _ (.tail _ (.head _))) (by decide) rfl ?_
        refine sA_goto (tgt := 61) dd_X9_determinant_187 (by decide) ?_
        refine sA_sub (lv2 := [(4, gs_iv (c + (-1))), (3, gs_iv x), (2, gs_iv r), (0, .ref 106), (1, gs_iv e)]) (List.forall_mem_cons.mpr ⟨(.head _), (List.forall_mem_cons.mpr ⟨(.tail _ (.tail _ (.tail _ (.head _)))), (List.forall_mem_cons.mpr ⟨(.tail _ (.tail _ (.tail _ (.tail _ (.head _))))), (List.forall_mem_cons.mpr ⟨(.tail _ (.tail _ (.tail _ (.tail _ (.tail _ (.head _)))))), (List.forall_mem_cons.mpr ⟨(.tail _ (.tail _ (.tail _ (.tail _ (.tail _ (.tail _ (.head _))))))), (fun _ h => absurd h List.not_mem_nil)⟩)⟩)⟩)⟩)⟩) ?_
        exact ih.2.2.1 r x (c + (-1)) F1 A36 I37 f38 (by omega) (by omega) (by omega) (by omega)
      · skip
        refine sA_iload dd_X9_determinant_101 (.tail _ (.tail _ (.head _))) ?_
        refine sA_iload dd_X9_determinant_103 (.head _) ?_
        refine sA_iconst (z := 1) dd_X9_determinant_105 ?_
        refine sA_isub dd_X9_determinant_106 ?_
        refine sA_ishr dd_X9_determinant_107 ?_
        have b39 := gs_t_rng (Int32.ofInt c >>> (Int32.ofInt (u - 1) &&& 31))
        generalize gs_t (Int32.ofInt c >>> (Int32.ofInt (u - 1) &&& 31)) = w40 at b39 ⊢
        refine sA_iconst (z := 1) dd_X9_determinant_108 ?_
        refine sA_iand dd_X9_determinant_109 ?_
        have b41 := gs_t_rng (Int32.ofInt w40 &&& Int32.ofInt 1)
        generalize gs_t (Int32.ofInt w40 &&& Int32.ofInt 1) = w42 at b41 ⊢
        refine sA_iconst (z := 1) dd_X9_determinant_110 ?_
        refine sA_icmp_ne (tgt := 169) dd_X9_determinant_111 (by decide) (by omega) (by omega) (fun q43 => ?_) (fun q43 => ?_)
        · skip
          refine sA_iinc (lv' := [(7, gs_iv (u + 1)), (5, .long s), (4, gs_iv c), (3, gs_iv x), (2, gs_iv r), (0, .ref 106), (1, gs_iv e)]) dd_X9_determinant_169 (.head _) (by decide) rfl ?_
          refine sA_goto (tgt := 90) dd_X9_determinant_172 (by decide) ?_
          refine sA_sub (lv2 := [(7, gs_iv (u + 1)), (5, .long s), (4, gs_iv c), (3, gs_iv x), (2, gs_iv r), (0, .ref 106), (1, gs_iv e)]) (List.forall_mem_cons.mpr ⟨(.head _), (List.forall_mem_cons.mpr ⟨(.tail _ (.head _)), (List.forall_mem_cons.mpr ⟨(.tail _ (.tail _ (.head _))), (List.forall_mem_cons.mpr ⟨(.tail _ (.tail _ (.tail _ (.head _)))), (List.forall_mem_cons.mpr ⟨(.tail _ (.tail _ (.tail _ (.tail _ (.head _))))), (List.forall_mem_cons.mpr ⟨(.tail _ (.tail _ (.tail _ (.tail _ (.tail _ (.head _)))))), (List.forall_mem_cons.mpr ⟨(.tail _ (.tail _ (.tail _ (.tail _ (.tail _ (.tail _ (.head _))))))), (fun _ h => absurd h List.not_mem_nil)⟩)⟩)⟩)⟩)⟩)⟩)⟩) ?_
          exact ih.2.2.2 r x c s (u + 1) F1 A1 hI1 hf1 (by omega) (by omega) (by omega) (by omega) (by omega)
        · skip
          refine sA_iload dd_X9_determinant_114 (.tail _ (.tail _ (.head _))) ?_
          refine sA_iload dd_X9_determinant_116 (.head _) ?_
          refine sA_ishr dd_X9_determinant_118 ?_
          have b44 := gs_t_rng (Int32.ofInt c >>> (Int32.ofInt u &&& 31))
          generalize gs_t (Int32.ofInt c >>> (Int32.ofInt u &&& 31)) = w45 at b44 ⊢
          refine sA_callS (y2 := m_X9_onesOf) (n2 := 1) (d2 := 1) (as := [gs_iv w45]) (rest := []) dd_X9_determinant_119 ok_X9_onesOf ml_X9_266 rfl rfl (Nat.le_of_ble_eq_true rfl) (by decide) (c_X9_onesOf (by omega)) (fun r46 F47 A48 h49 => ?_)
          obtain ⟨z52, e51, e53, e54, x50⟩ := h49
          subst e51 e53 e54
          show sA _ _ _ 122 _ [gs_iv z52] _ _
          refine sA_istore (lv' := [(8, gs_iv z52), (7, gs_iv u), (5, .long s), (4, gs_iv c), (3, gs_iv x), (2, gs_iv r), (0, .ref 106), (1, gs_iv e)]) dd_X9_determinant_122 (by decide) rfl ?_
          refine sA_lload dd_X9_determinant_124 (.tail _ (.tail _ (.head _))) ?_
          refine sA_iload dd_X9_determinant_126 (.head _) ?_
          refine sA_iconst (z := 2) dd_X9_determinant_128 ?_
          refine sA_irem dd_X9_determinant_129 (by omega) (by omega) (by omega) ?_
          refine sA_wrap ?_
          have b56 := gs_w_rng (z52.tmod 2)
          generalize gs_w (z52.tmod 2) = w55 at b56 ⊢
          refine sA_if_ne (tgt := 137) dd_X9_determinant_130 (by decide) (by omega) (fun q57 => ?_) (fun q57 => ?_)
          · skip
            refine sA_ldc2 (z := -1) dd_X9_determinant_137 (ri_lw_in (pl := 1155) (by decide +kernel)) ?_
            refine sA_aload_n dd_X9_determinant_140 rfl (.tail _ (.tail _ (.tail _ (.tail _ (.tail _ (.tail _ (.head _))))))) ?_
            refine sA_iload_n dd_X9_determinant_141 rfl (.tail _ (.tail _ (.tail _ (.tail _ (.head _))))) ?_
            refine sA_iload dd_X9_determinant_142 (.tail _ (.head _)) ?_
            refine sA_callV (y2 := m_X9_tableOf) (n2 := 2) (d2 := 2) (a := 106) (ci := 9) (q := (RX9, TX9, 28)) (as := [gs_iv x, gs_iv u]) (rest := [gs_lv (-1), .long s]) dd_X9_determinant_144 ok_X9_tableOf ml_X9_263 rfl rfl (by decide) gs_s106 rfl rfl (Nat.le_of_ble_eq_true rfl) (by decide) (c_X9_tableOf hI1 (by omega) (by omega)) (fun r58 F59 A60 h61 => ?_)
            obtain ⟨z64, e63, e65, e66, x62⟩ := h61
            subst e63 e65 e66
            show sA _ _ _ 147 _ [gs_iv z64, gs_lv (-1), .long s] _ _
            refine sA_i2l dd_X9_determinant_147 (by omega) ?_
            refine sA_lmul dd_X9_determinant_148 ?_
            refine sA_aload_n dd_X9_determinant_149 rfl (.tail _ (.tail _ (.tail _ (.tail _ (.tail _ (.tail _ (.head _))))))) ?_
            refine sA_getr (ci := 9) (j := 27) (q := (RX9, TX9, 28)) dd_X9_determinant_150 rfl (by decide) fl_X9_56 (by decide) gs_s106 rfl ?_
            refine sA_iload dd_X9_determinant_153 (.tail _ (.tail _ (.tail _ (.head _)))) ?_
            refine sA_iconst (z := 1) dd_X9_determinant_155 ?_
            refine sA_iload dd_X9_determinant_156 (.tail _ (.head _)) ?_
            refine sA_iconst (z := 1) dd_X9_determinant_158 ?_
            refine sA_isub dd_X9_determinant_159 ?_
            refine sA_ishl dd_X9_determinant_160 ?_
            have b67 := gs_t_rng (Int32.ofInt 1 <<< (Int32.ofInt (u - 1) &&& 31))
            generalize gs_t (Int32.ofInt 1 <<< (Int32.ofInt (u - 1) &&& 31)) = w68 at b67 ⊢
            refine sA_iconst (z := (-1)) dd_X9_determinant_161 ?_
            refine sA_ixor dd_X9_determinant_162 ?_
            have b69 := gs_t_rng (Int32.ofInt w68 ^^^ Int32.ofInt (-1))
            generalize gs_t (Int32.ofInt w68 ^^^ Int32.ofInt (-1)) = w70 at b69 ⊢
            refine sA_iand dd_X9_determinant_163 ?_
            have b71 := gs_t_rng (Int32.ofInt c &&& Int32.ofInt w70)
            have b73 := gs_and_le (x := c) (z := w70) (by omega)
            generalize gs_t (Int32.ofInt c &&& Int32.ofInt w70) = w72 at b71 b73 ⊢
            refine sA_lald (n := 64) dd_X9_determinant_164 (by decide) gs_s121 (by omega) (by decide) ?_
            have b74 : (-9223372036854775808 : Int) ≤ A1 121 w72.toNat ∧ A1 121 w72.toNat ≤ 9223372036854775807 := hI1.2 121 w72.toNat
            refine sA_lmul dd_X9_determinant_165 ?_
            refine sA_laddR dd_X9_determinant_166 ?_
            refine sA_lstore (lv' := [(5, .long (s + (Int64.ofInt (((-1) * z64) * (A1 121 w72.toNat))))), (8, gs_iv z52), (7, gs_iv u), (4, gs_iv c), (3, gs_iv x), (2, gs_iv r), (0, .ref 106), (1, gs_iv e)]) dd_X9_determinant_167 (by decide) rfl ?_
            refine sA_iinc (lv' := [(7, gs_iv (u + 1)), (5, .long (s + (Int64.ofInt (((-1) * z64) * (A1 121 w72.toNat))))), (8, gs_iv z52), (4, gs_iv c), (3, gs_iv x), (2, gs_iv r), (0, .ref 106), (1, gs_iv e)]) dd_X9_determinant_169 (.tail _ (.tail _ (.head _))) (by decide) rfl ?_
            refine sA_goto (tgt := 90) dd_X9_determinant_172 (by decide) ?_
            refine sA_sub (lv2 := [(7, gs_iv (u + 1)), (5, .long (s + (Int64.ofInt (((-1) * z64) * (A1 121 w72.toNat))))), (4, gs_iv c), (3, gs_iv x), (2, gs_iv r), (0, .ref 106), (1, gs_iv e)]) (List.forall_mem_cons.mpr ⟨(.head _), (List.forall_mem_cons.mpr ⟨(.tail _ (.head _)), (List.forall_mem_cons.mpr ⟨(.tail _ (.tail _ (.tail _ (.head _)))), (List.forall_mem_cons.mpr ⟨(.tail _ (.tail _ (.tail _ (.tail _ (.head _))))), (List.forall_mem_cons.mpr ⟨(.tail _ (.tail _ (.tail _ (.tail _ (.tail _ (.head _)))))), (List.forall_mem_cons.mpr ⟨(.tail _ (.tail _ (.tail _ (.tail _ (.tail _ (.tail _ (.head _))))))), (List.forall_mem_cons.mpr ⟨(.tail _ (.tail _ (.tail _ (.tail _ (.tail _ (.tail _ (.tail _ (.head _)))))))), (fun _ h => absurd h List.not_mem_nil)⟩)⟩)⟩)⟩)⟩)⟩)⟩) ?_
            exact ih.2.2.2 r x c (s + (Int64.ofInt (((-1) * z64) * (A1 121 w72.toNat)))) (u + 1) F1 A1 hI1 hf1 (by omega) (by omega) (by omega) (by omega) (by omega)
          · skip
            refine sA_lconst (z := 1) dd_X9_determinant_133 (by decide) ?_
            refine sA_goto (tgt := 140) dd_X9_determinant_134 (by decide) ?_
            refine sA_aload_n dd_X9_determinant_140 rfl (.tail _ (.tail _ (.tail _ (.tail _ (.tail _ (.tail _ (.head _))))))) ?_
            refine sA_iload_n dd_X9_determinant_141 rfl (.tail _ (.tail _ (.tail _ (.tail _ (.head _))))) ?_
            refine sA_iload dd_X9_determinant_142 (.tail _ (.head _)) ?_
            refine sA_callV (y2 := m_X9_tableOf) (n2 := 2) (d2 := 2) (a := 106) (ci := 9) (q := (RX9, TX9, 28)) (as := [gs_iv x, gs_iv u]) (rest := [gs_lv 1, .long s]) dd_X9_determinant_144 ok_X9_tableOf ml_X9_263 rfl rfl (by decide) gs_s106 rfl rfl (Nat.le_of_ble_eq_true rfl) (by decide) (c_X9_tableOf hI1 (by omega) (by omega)) (fun r75 F76 A77 h78 => ?_)
            obtain ⟨z81, e80, e82, e83, x79⟩ := h78
            subst e80 e82 e83
            show sA _ _ _ 147 _ [gs_iv z81, gs_lv 1, .long s] _ _
            refine sA_i2l dd_X9_determinant_147 (by omega) ?_
            refine sA_lmul dd_X9_determinant_148 ?_
            refine sA_aload_n dd_X9_determinant_149 rfl (.tail _ (.tail _ (.tail _ (.tail _ (.tail _ (.tail _ (.head _))))))) ?_
            refine sA_getr (ci := 9) (j := 27) (q := (RX9, TX9, 28)) dd_X9_determinant_150 rfl (by decide) fl_X9_56 (by decide) gs_s106 rfl ?_
            refine sA_iload dd_X9_determinant_153 (.tail _ (.tail _ (.tail _ (.head _)))) ?_
            refine sA_iconst (z := 1) dd_X9_determinant_155 ?_
            refine sA_iload dd_X9_determinant_156 (.tail _ (.head _)) ?_
            refine sA_iconst (z := 1) dd_X9_determinant_158 ?_
            refine sA_isub dd_X9_determinant_159 ?_
            refine sA_ishl dd_X9_determinant_160 ?_
            have b84 := gs_t_rng (Int32.ofInt 1 <<< (Int32.ofInt (u - 1) &&& 31))
            generalize gs_t (Int32.ofInt 1 <<< (Int32.ofInt (u - 1) &&& 31)) = w85 at b84 ⊢
            refine sA_iconst (z := (-1)) dd_X9_determinant_161 ?_
            refine sA_ixor dd_X9_determinant_162 ?_
            have b86 := gs_t_rng (Int32.ofInt w85 ^^^ Int32.ofInt (-1))
            generalize gs_t (Int32.ofInt w85 ^^^ Int32.ofInt (-1)) = w87 at b86 ⊢
            refine sA_iand dd_X9_determinant_163 ?_
            have b88 := gs_t_rng (Int32.ofInt c &&& Int32.ofInt w87)
            have b90 := gs_and_le (x := c) (z := w87) (by omega)
            generalize gs_t (Int32.ofInt c &&& Int32.ofInt w87) = w89 at b88 b90 ⊢
            refine sA_lald (n := 64) dd_X9_determinant_164 (by decide) gs_s121 (by omega) (by decide) ?_
            have b91 : (-9223372036854775808 : Int) ≤ A1 121 w89.toNat ∧ A1 121 w89.toNat ≤ 9223372036854775807 := hI1.2 121 w89.toNat
            refine sA_lmul dd_X9_determinant_165 ?_
            refine sA_laddR dd_X9_determinant_166 ?_
            refine sA_lstore (lv' := [(5, .long (s + (Int64.ofInt ((1 * z81) * (A1 121 w89.toNat))))), (8, gs_iv z52), (7, gs_iv u), (4, gs_iv c), (3, gs_iv x), (2, gs_iv r), (0, .ref 106), (1, gs_iv e)]) dd_X9_determinant_167 (by decide) rfl ?_
            refine sA_iinc (lv' := [(7, gs_iv (u + 1)), (5, .long (s + (Int64.ofInt ((1 * z81) * (A1 121 w89.toNat))))), (8, gs_iv z52), (4, gs_iv c), (3, gs_iv x), (2, gs_iv r), (0, .ref 106), (1, gs_iv e)]) dd_X9_determinant_169 (.tail _ (.tail _ (.head _))) (by decide) rfl ?_
            refine sA_goto (tgt := 90) dd_X9_determinant_172 (by decide) ?_
            refine sA_sub (lv2 := [(7, gs_iv (u + 1)), (5, .long (s + (Int64.ofInt ((1 * z81) * (A1 121 w89.toNat))))), (4, gs_iv c), (3, gs_iv x), (2, gs_iv r), (0, .ref 106), (1, gs_iv e)]) (List.forall_mem_cons.mpr ⟨(.head _), (List.forall_mem_cons.mpr ⟨(.tail _ (.head _)), (List.forall_mem_cons.mpr ⟨(.tail _ (.tail _ (.tail _ (.head _)))), (List.forall_mem_cons.mpr ⟨(.tail _ (.tail _ (.tail _ (.tail _ (.head _))))), (List.forall_mem_cons.mpr ⟨(.tail _ (.tail _ (.tail _ (.tail _ (.tail _ (.head _)))))), (List.forall_mem_cons.mpr ⟨(.tail _ (.tail _ (.tail _ (.tail _ (.tail _ (.tail _ (.head _))))))), (List.forall_mem_cons.mpr ⟨(.tail _ (.tail _ (.tail _ (.tail _ (.tail _ (.tail _ (.tail _ (.head _)))))))), (fun _ h => absurd h List.not_mem_nil)⟩)⟩)⟩)⟩)⟩)⟩)⟩) ?_
            exact ih.2.2.2 r x c (s + (Int64.ofInt ((1 * z81) * (A1 121 w89.toNat)))) (u + 1) F1 A1 hI1 hf1 (by omega) (by omega) (by omega) (by omega) (by omega)
theorem c_X9_determinant {e : Int} {F A : gs_F} (hI : gs_I F A) (he : 0 ≤ e ∧ e ≤ 63) : sC m_X9_determinant 3 [.ref 106, gs_iv e] F A (fun rv F' A' => ∃ z : Int64, rv = some (.long z) ∧ gs_I F' A' ∧ gs_fr (fun _ _ => False) (fun c => c = 121) F A F' A' ∧ (True)) := by
  refine sC_of ok_X9_determinant.1 (Nat.le_of_ble_eq_true rfl) ?_
  show sA _ _ _ 0 [(0, .ref 106), (1, gs_iv e)] [] F A
  have hf : gs_fr (fun _ _ => False) (fun c => c = 121) F A F A := gs_fr_refl _ _ _ _
  refine sA_iconst (z := 0) dd_X9_determinant_0 ?_
  refine sA_istore_n (lv' := [(2, gs_iv 0), (0, .ref 106), (1, gs_iv e)]) dd_X9_determinant_1 rfl (by decide) rfl ?_
  refine sA_iconst (z := 0) dd_X9_determinant_2 ?_
  refine sA_istore_n (lv' := [(3, gs_iv 0), (2, gs_iv 0), (0, .ref 106), (1, gs_iv e)]) dd_X9_determinant_3 rfl (by decide) rfl ?_
  refine sA_sub (lv2 := [(3, gs_iv 0), (2, gs_iv 0), (0, .ref 106), (1, gs_iv e)]) (List.forall_mem_cons.mpr ⟨(.head _), (List.forall_mem_cons.mpr ⟨(.tail _ (.head _)), (List.forall_mem_cons.mpr ⟨(.tail _ (.tail _ (.head _))), (List.forall_mem_cons.mpr ⟨(.tail _ (.tail _ (.tail _ (.head _)))), (fun _ h => absurd h List.not_mem_nil)⟩)⟩)⟩)⟩) ?_
  exact (k_X9_determinant hI he (100000 + (64 - 0) : Int).toNat.succ).1 0 0 F A hI hf (by omega) (by omega) (by omega)
theorem dd_X9_character_0 : decode cX9_character 0 = .ok (.aload_n 0, 1) := by decide +kernel
theorem dd_X9_character_1 : decode cX9_character 1 = .ok (.iload_n 1, 1) := by decide +kernel
theorem dd_X9_character_2 : decode cX9_character 2 = .ok (.invokevirtual 218, 3) := by decide +kernel
theorem dd_X9_character_5 : decode cX9_character 5 = .ok (.ifCond .eq 7, 3) := by decide +kernel
theorem dd_X9_character_8 : decode cX9_character 8 = .ok (.ldc2_w 271, 3) := by decide +kernel
theorem dd_X9_character_11 : decode cX9_character 11 = .ok (.lreturn, 1) := by decide +kernel
theorem dd_X9_character_12 : decode cX9_character 12 = .ok (.iload_n 2, 1) := by decide +kernel
theorem dd_X9_character_13 : decode cX9_character 13 = .ok (.i2l, 1) := by decide +kernel
theorem dd_X9_character_14 : decode cX9_character 14 = .ok (.lconst 0, 1) := by decide +kernel
theorem dd_X9_character_15 : decode cX9_character 15 = .ok (.iconst 2, 1) := by decide +kernel
theorem dd_X9_character_16 : decode cX9_character 16 = .ok (.aload_n 0, 1) := by decide +kernel
theorem dd_X9_character_17 : decode cX9_character 17 = .ok (.getfield 64, 3) := by decide +kernel
theorem dd_X9_character_20 : decode cX9_character 20 = .ok (.imul, 1) := by decide +kernel
theorem dd_X9_character_21 : decode cX9_character 21 = .ok (.i2l, 1) := by decide +kernel
theorem dd_X9_character_22 : decode cX9_character 22 = .ok (.invokestatic 75, 3) := by decide +kernel
theorem dd_X9_character_25 : decode cX9_character 25 = .ok (.ifCond .ne 7, 3) := by decide +kernel
theorem dd_X9_character_28 : decode cX9_character 28 = .ok (.ldc2_w 273, 3) := by decide +kernel
theorem dd_X9_character_31 : decode cX9_character 31 = .ok (.lreturn, 1) := by decide +kernel
theorem dd_X9_character_32 : decode cX9_character 32 = .ok (.aload_n 0, 1) := by decide +kernel
theorem dd_X9_character_33 : decode cX9_character 33 = .ok (.iload_n 1, 1) := by decide +kernel
theorem dd_X9_character_34 : decode cX9_character 34 = .ok (.invokevirtual 242, 3) := by decide +kernel
theorem dd_X9_character_37 : decode cX9_character 37 = .ok (.ifCond .ne 7, 3) := by decide +kernel
theorem dd_X9_character_40 : decode cX9_character 40 = .ok (.ldc2_w 275, 3) := by decide +kernel
theorem dd_X9_character_43 : decode cX9_character 43 = .ok (.lreturn, 1) := by decide +kernel
theorem dd_X9_character_44 : decode cX9_character 44 = .ok (.lconst 0, 1) := by decide +kernel
theorem dd_X9_character_45 : decode cX9_character 45 = .ok (.lstore_n 3, 1) := by decide +kernel
theorem dd_X9_character_46 : decode cX9_character 46 = .ok (.iconst 0, 1) := by decide +kernel
theorem dd_X9_character_47 : decode cX9_character 47 = .ok (.istore 5, 2) := by decide +kernel
theorem dd_X9_character_49 : decode cX9_character 49 = .ok (.iload 5, 2) := by decide +kernel
theorem dd_X9_character_51 : decode cX9_character 51 = .ok (.iconst 1, 1) := by decide +kernel
theorem dd_X9_character_52 : decode cX9_character 52 = .ok (.iconst 2, 1) := by decide +kernel
theorem dd_X9_character_53 : decode cX9_character 53 = .ok (.aload_n 0, 1) := by decide +kernel
theorem dd_X9_character_54 : decode cX9_character 54 = .ok (.getfield 64, 3) := by decide +kernel
theorem dd_X9_character_57 : decode cX9_character 57 = .ok (.imul, 1) := by decide +kernel
theorem dd_X9_character_58 : decode cX9_character 58 = .ok (.ishl, 1) := by decide +kernel
theorem dd_X9_character_59 : decode cX9_character 59 = .ok (.if_icmp .ge 31, 3) := by decide +kernel
theorem dd_X9_character_62 : decode cX9_character 62 = .ok (.lload_n 3, 1) := by decide +kernel
theorem dd_X9_character_63 : decode cX9_character 63 = .ok (.iload 5, 2) := by decide +kernel
theorem dd_X9_character_65 : decode cX9_character 65 = .ok (.invokestatic 266, 3) := by decide +kernel
theorem dd_X9_character_68 : decode cX9_character 68 = .ok (.iload_n 2, 1) := by decide +kernel
theorem dd_X9_character_69 : decode cX9_character 69 = .ok (.if_icmp .ne 12, 3) := by decide +kernel
theorem dd_X9_character_72 : decode cX9_character 72 = .ok (.aload_n 0, 1) := by decide +kernel
theorem dd_X9_character_73 : decode cX9_character 73 = .ok (.iload 5, 2) := by decide +kernel
theorem dd_X9_character_75 : decode cX9_character 75 = .ok (.invokevirtual 277, 3) := by decide +kernel
theorem dd_X9_character_78 : decode cX9_character 78 = .ok (.goto 4, 3) := by decide +kernel
theorem dd_X9_character_81 : decode cX9_character 81 = .ok (.lconst 0, 1) := by decide +kernel
theorem dd_X9_character_82 : decode cX9_character 82 = .ok (.ladd, 1) := by decide +kernel
theorem dd_X9_character_83 : decode cX9_character 83 = .ok (.lstore_n 3, 1) := by decide +kernel
theorem dd_X9_character_84 : decode cX9_character 84 = .ok (.iinc 5 1, 3) := by decide +kernel
theorem dd_X9_character_87 : decode cX9_character 87 = .ok (.goto (-38), 3) := by decide +kernel
theorem dd_X9_character_90 : decode cX9_character 90 = .ok (.lload_n 3, 1) := by decide +kernel
theorem dd_X9_character_91 : decode cX9_character 91 = .ok (.lreturn, 1) := by decide +kernel
theorem ml_X9_277 : Cond.methodLink RX9 277 m_X9_determinant.1 ∈ am_tbl := ri_lw_in (pl := 1151) (by decide +kernel)
theorem ok_X9_character : am_okM m_X9_character 2 ∧ Cond.instanceMethod m_X9_character.1 ∈ am_tbl ∧ Cond.selects m_X9_character.1.cls m_X9_character.1 m_X9_character.1 ∈ am_tbl := ri_mk1 1144 93 1142 1143 (by decide +kernel)
theorem k_X9_character {p k : Int} {F A : gs_F} (hI : gs_I F A) (hp : -2147483648 ≤ p ∧ p ≤ 2147483647) (hk : -2147483648 ≤ k ∧ k ≤ 2147483647) : ∀ nN : Nat, (∀ (s : Int64) (e : Int)  (F1 A1 : gs_F), gs_I F1 A1 → gs_fr (fun c j => c = 106 ∧ (j = 13 ∨ j = 15)) (fun c => c = 114 ∨ c = 115 ∨ c = 119 ∨ c = 120 ∨ c = 121) F A F1 A1 → 0 ≤ e ∧ e ≤ 64 → 64 - e < (nN : Int) → sA m_X9_character 8 (fun rv F' A' => ∃ z : Int64, rv = some (.long z) ∧ gs_I F' A' ∧ gs_fr (fun c j => c = 106 ∧ (j = 13 ∨ j = 15)) (fun c => c = 114 ∨ c = 115 ∨ c = 119 ∨ c = 120 ∨ c = 121) F A F' A' ∧ (True)) 49 [(5, gs_iv e), (3, .long s), (0, .ref 106), (2, gs_iv k)] [] F1 A1) := by
  intro nN
  induction nN with
  | zero =>
    exact fun a0 a1 a2 a3 a4 a5 i0 hm => by exfalso; omega
  | succ nN ih =>
    intro s e F1 A1 hI1 hf1 i0 hm
    refine sA_iload dd_X9_character_49 (.head _) ?_
    refine sA_iconst (z := 1) dd_X9_character_51 ?_
    refine sA_iconst (z := 2) dd_X9_character_52 ?_
    refine sA_aload_n dd_X9_character_53 rfl (.tail _ (.tail _ (.head _))) ?_
    refine sA_geti (ci := 9) (j := 0) (q := (RX9, TX9, 28)) dd_X9_character_54 rfl (by decide) fl_X9_64 (by decide) gs_s106 rfl ?_
    have b1 : (1 : Int) ≤ F1 106 0 ∧ F1 106 0 ≤ 3 := hI1.1 106 0
    refine sA_imul dd_X9_character_57 ?_
    refine sA_ishl dd_X9_character_58 ?_
    have b2 := gs_t_rng (Int32.ofInt 1 <<< (Int32.ofInt (2 * (F1 106 0)) &&& 31))
    have b4 := gs_shl1 (x := (2 * (F1 106 0))) (by omega)
    generalize gs_t (Int32.ofInt 1 <<< (Int32.ofInt (2 * (F1 106 0)) &&& 31)) = w3 at b2 b4 ⊢
    refine sA_icmp_ge (tgt := 90) dd_X9_character_59 (by decide) (by omega) (by omega) (fun q5 => ?_) (fun q5 => ?_)
    · skip
      refine sA_lload_n dd_X9_character_90 rfl (.tail _ (.head _)) ?_
      refine sA_lret dd_X9_character_91 rfl ?_
      exact ⟨_, rfl, hI1, hf1, trivial⟩
    · skip
      refine sA_lload_n dd_X9_character_62 rfl (.tail _ (.head _)) ?_
      refine sA_iload dd_X9_character_63 (.head _) ?_
      refine sA_callS (y2 := m_X9_onesOf) (n2 := 1) (d2 := 1) (as := [gs_iv e]) (rest := [.long s]) dd_X9_character_65 ok_X9_onesOf ml_X9_266 rfl rfl (Nat.le_of_ble_eq_true rfl) (by decide) (c_X9_onesOf (by omega)) (fun r6 F7 A8 h9 => ?_)
      obtain ⟨z12, e11, e13, e14, x10⟩ := h9
      subst e11 e13 e14
      show sA _ _ _ 68 _ [gs_iv z12, .long s] _ _
      refine sA_iload_n dd_X9_character_68 rfl (.tail _ (.tail _ (.tail _ (.head _)))) ?_
      refine sA_icmp_ne (tgt := 81) dd_X9_character_69 (by decide) (by omega) (by omega) (fun q15 => ?_) (fun q15 => ?_)
      · skip
        refine sA_lconst (z := 0) dd_X9_character_81 (by decide) ?_
        refine sA_laddR dd_X9_character_82 ?_
        refine sA_lstore_n (lv' := [(3, .long (s + (Int64.ofInt 0))), (5, gs_iv e), (0, .ref 106), (2, gs_iv k)]) dd_X9_character_83 rfl (by decide) rfl ?_
        refine sA_iinc (lv' := [(5, gs_iv (e + 1)), (3, .long (s + (Int64.ofInt 0))), (0, .ref 106), (2, gs_iv k)]) dd_X9_character_84 (.tail _ (.head _)) (by decide) rfl ?_
        refine sA_goto (tgt := 49) dd_X9_character_87 (by decide) ?_
        refine sA_sub (lv2 := [(5, gs_iv (e + 1)), (3, .long (s + (Int64.ofInt 0))), (0, .ref 106), (2, gs_iv k)]) (List.forall_mem_cons.mpr ⟨(.head _), (List.forall_mem_cons.mpr ⟨(.tail _ (.head _)), (List.forall_mem_cons.mpr ⟨(.tail _ (.tail _ (.head _))), (List.forall_mem_cons.mpr ⟨(.tail _ (.tail _ (.tail _ (.head _)))), (fun _ h => absurd h List.not_mem_nil)⟩)⟩)⟩)⟩) ?_
        exact ih (s + (Int64.ofInt 0)) (e + 1) F1 A1 hI1 hf1 (by omega) (by omega)
      · skip
        refine sA_aload_n dd_X9_character_72 rfl (.tail _ (.tail _ (.head _))) ?_
        refine sA_iload dd_X9_character_73 (.head _) ?_
        refine sA_callV (y2 := m_X9_determinant) (n2 := 1) (d2 := 3) (a := 106) (ci := 9) (q := (RX9, TX9, 28)) (as := [gs_iv e]) (rest := [.long s]) dd_X9_character_75 ok_X9_determinant ml_X9_277 rfl rfl (by decide) gs_s106 rfl rfl (Nat.le_of_ble_eq_true rfl) (by decide) (c_X9_determinant hI1 (by omega)) (fun r16 F17 A18 h19 => ?_)
        obtain ⟨z22, e21, I23, f24, x20⟩ := h19
        subst e21
        have f25 := gs_fr_tr hf1 f24 (fun b j h => by first | exact False.elim h | omega | (dsimp only at h ⊢; omega)) (fun b h => by first | exact False.elim h | omega | (dsimp only at h ⊢; omega))
        show sA _ _ _ 78 _ [.long z22, .long s] _ _
        refine sA_goto (tgt := 82) dd_X9_character_78 (by decide) ?_
        refine sA_laddR dd_X9_character_82 ?_
        refine sA_lstore_n (lv' := [(3, .long (s + z22)), (5, gs_iv e), (0, .ref 106), (2, gs_iv k)]) dd_X9_character_83 rfl (by decide) rfl ?_
        refine sA_iinc (lv' := [(5, gs_iv (e + 1)), (3, .long (s + z22)), (0, .ref 106), (2, gs_iv k)]) dd_X9_character_84 (.tail _ (.head _)) (by decide) rfl ?_
        refine sA_goto (tgt := 49) dd_X9_character_87 (by decide) ?_
        refine sA_sub (lv2 := [(5, gs_iv (e + 1)), (3, .long (s + z22)), (0, .ref 106), (2, gs_iv k)]) (List.forall_mem_cons.mpr ⟨(.head _), (List.forall_mem_cons.mpr ⟨(.tail _ (.head _)), (List.forall_mem_cons.mpr ⟨(.tail _ (.tail _ (.head _))), (List.forall_mem_cons.mpr ⟨(.tail _ (.tail _ (.tail _ (.head _)))), (fun _ h => absurd h List.not_mem_nil)⟩)⟩)⟩)⟩) ?_
        exact ih (s + z22) (e + 1) F17 A18 I23 f25 (by omega) (by omega)
theorem c_X9_character {p k : Int} {F A : gs_F} (hI : gs_I F A) (hp : -2147483648 ≤ p ∧ p ≤ 2147483647) (hk : -2147483648 ≤ k ∧ k ≤ 2147483647) : sC m_X9_character 8 [.ref 106, gs_iv p, gs_iv k] F A (fun rv F' A' => ∃ z : Int64, rv = some (.long z) ∧ gs_I F' A' ∧ gs_fr (fun c j => c = 106 ∧ (j = 13 ∨ j = 15)) (fun c => c = 114 ∨ c = 115 ∨ c = 119 ∨ c = 120 ∨ c = 121) F A F' A' ∧ (True)) := by
  refine sC_of ok_X9_character.1 (Nat.le_of_ble_eq_true rfl) ?_
  show sA _ _ _ 0 [(0, .ref 106), (1, gs_iv p), (2, gs_iv k)] [] F A
  have hf : gs_fr (fun c j => c = 106 ∧ (j = 13 ∨ j = 15)) (fun c => c = 114 ∨ c = 115 ∨ c = 119 ∨ c = 120 ∨ c = 121) F A F A := gs_fr_refl _ _ _ _
  refine sA_aload_n dd_X9_character_0 rfl (.head _) ?_
  refine sA_iload_n dd_X9_character_1 rfl (.tail _ (.head _)) ?_
  refine sA_callV (y2 := m_X9_noPlan) (n2 := 1) (d2 := 2) (a := 106) (ci := 9) (q := (RX9, TX9, 28)) (as := [gs_iv p]) (rest := []) dd_X9_character_2 ok_X9_noPlan ml_X9_218 rfl rfl (by decide) gs_s106 rfl rfl (Nat.le_of_ble_eq_true rfl) (by decide) (c_X9_noPlan hI (by omega)) (fun r26 F27 A28 h29 => ?_)
  obtain ⟨z32, e31, e33, e34, x30⟩ := h29
  subst e31 e33 e34
  show sA _ _ _ 5 _ [gs_iv z32] _ _
  refine sA_if_eq (tgt := 12) dd_X9_character_5 (by decide) (by omega) (fun q35 => ?_) (fun q35 => ?_)
  · skip
    refine sA_iload_n dd_X9_character_12 rfl (.tail _ (.tail _ (.head _))) ?_
    refine sA_i2l dd_X9_character_13 (by omega) ?_
    refine sA_lconst (z := 0) dd_X9_character_14 (by decide) ?_
    refine sA_iconst (z := 2) dd_X9_character_15 ?_
    refine sA_aload_n dd_X9_character_16 rfl (.head _) ?_
    refine sA_geti (ci := 9) (j := 0) (q := (RX9, TX9, 28)) dd_X9_character_17 rfl (by decide) fl_X9_64 (by decide) gs_s106 rfl ?_
    have b36 : (1 : Int) ≤ F 106 0 ∧ F 106 0 ≤ 3 := hI.1 106 0
    refine sA_imul dd_X9_character_20 ?_
    refine sA_i2l dd_X9_character_21 (by omega) ?_
    refine sA_callS (y2 := m_X9_in) (n2 := 3) (d2 := 1) (as := [gs_lv k, gs_lv 0, gs_lv (2 * (F 106 0))]) (rest := []) dd_X9_character_22 ok_X9_in ml_X9_75 rfl rfl (Nat.le_of_ble_eq_true rfl) (by decide) (c_X9_in (by omega) (by omega) (by omega)) (fun r37 F38 A39 h40 => ?_)
    obtain ⟨z43, e42, e44, e45, x41⟩ := h40
    subst e42 e44 e45
    show sA _ _ _ 25 _ [gs_iv z43] _ _
    refine sA_if_ne (tgt := 32) dd_X9_character_25 (by decide) (by omega) (fun q46 => ?_) (fun q46 => ?_)
    · skip
      refine sA_aload_n dd_X9_character_32 rfl (.head _) ?_
      refine sA_iload_n dd_X9_character_33 rfl (.tail _ (.head _)) ?_
      refine sA_callV (y2 := m_X9_findImages) (n2 := 1) (d2 := 7) (a := 106) (ci := 9) (q := (RX9, TX9, 28)) (as := [gs_iv p]) (rest := []) dd_X9_character_34 ok_X9_findImages ml_X9_242 rfl rfl (by decide) gs_s106 rfl rfl (Nat.le_of_ble_eq_true rfl) (by decide) (c_X9_findImages hI (by omega)) (fun r47 F48 A49 h50 => ?_)
      obtain ⟨z53, e52, I54, f55, x51⟩ := h50
      subst e52
      have f56 := gs_fr_tr hf f55 (fun b j h => by first | exact False.elim h | omega | (dsimp only at h ⊢; omega)) (fun b h => by first | exact False.elim h | omega | (dsimp only at h ⊢; omega))
      show sA _ _ _ 37 _ [gs_iv z53] _ _
      refine sA_if_ne (tgt := 44) dd_X9_character_37 (by decide) (by omega) (fun q57 => ?_) (fun q57 => ?_)
      · skip
        refine sA_lconst (z := 0) dd_X9_character_44 (by decide) ?_
        refine sA_lstore_n (lv' := [(3, gs_lv 0), (0, .ref 106), (1, gs_iv p), (2, gs_iv k)]) dd_X9_character_45 rfl (by decide) rfl ?_
        refine sA_iconst (z := 0) dd_X9_character_46 ?_
        refine sA_istore (lv' := [(5, gs_iv 0), (3, gs_lv 0), (0, .ref 106), (1, gs_iv p), (2, gs_iv k)]) dd_X9_character_47 (by decide) rfl ?_
        refine sA_sub (lv2 := [(5, gs_iv 0), (3, gs_lv 0), (0, .ref 106), (2, gs_iv k)]) (List.forall_mem_cons.mpr ⟨(.head _), (List.forall_mem_cons.mpr ⟨(.tail _ (.head _)), (List.forall_mem_cons.mpr ⟨(.tail _ (.tail _ (.head _))), (List.forall_mem_cons.mpr ⟨(.tail _ (.tail _ (.tail _ (.tail _ (.head _))))), (fun _ h => absurd h List.not_mem_nil)⟩)⟩)⟩)⟩) ?_
        exact (k_X9_character hI hp hk (64 - 0 : Int).toNat.succ) (Int64.ofInt 0) 0 F48 A49 I54 f56 (by omega) (by omega)
      · skip
        refine sA_ldc2 (z := -1005) dd_X9_character_40 (ri_lw_in (pl := 1147) (by decide +kernel)) ?_
        refine sA_lret dd_X9_character_43 rfl ?_
        exact ⟨_, rfl, I54, f56, trivial⟩
    · skip
      refine sA_ldc2 (z := -1002) dd_X9_character_28 (ri_lw_in (pl := 1146) (by decide +kernel)) ?_
      refine sA_lret dd_X9_character_31 rfl ?_
      exact ⟨_, rfl, hI, hf, trivial⟩
  · skip
    refine sA_ldc2 (z := -1001) dd_X9_character_8 (ri_lw_in (pl := 1145) (by decide +kernel)) ?_
    refine sA_lret dd_X9_character_11 rfl ?_
    exact ⟨_, rfl, hI, hf, trivial⟩
theorem dd_X9_lengthNow_0 : decode cX9_lengthNow 0 = .ok (.iconst 0, 1) := by decide +kernel
theorem dd_X9_lengthNow_1 : decode cX9_lengthNow 1 = .ok (.istore_n 1, 1) := by decide +kernel
theorem dd_X9_lengthNow_2 : decode cX9_lengthNow 2 = .ok (.iconst 0, 1) := by decide +kernel
theorem dd_X9_lengthNow_3 : decode cX9_lengthNow 3 = .ok (.istore_n 2, 1) := by decide +kernel
theorem dd_X9_lengthNow_4 : decode cX9_lengthNow 4 = .ok (.iload_n 2, 1) := by decide +kernel
theorem dd_X9_lengthNow_5 : decode cX9_lengthNow 5 = .ok (.iconst 2, 1) := by decide +kernel
theorem dd_X9_lengthNow_6 : decode cX9_lengthNow 6 = .ok (.aload_n 0, 1) := by decide +kernel
theorem dd_X9_lengthNow_7 : decode cX9_lengthNow 7 = .ok (.getfield 64, 3) := by decide +kernel
theorem dd_X9_lengthNow_10 : decode cX9_lengthNow 10 = .ok (.imul, 1) := by decide +kernel
theorem dd_X9_lengthNow_11 : decode cX9_lengthNow 11 = .ok (.if_icmp .ge 18, 3) := by decide +kernel
theorem dd_X9_lengthNow_14 : decode cX9_lengthNow 14 = .ok (.iload_n 1, 1) := by decide +kernel
theorem dd_X9_lengthNow_15 : decode cX9_lengthNow 15 = .ok (.aload_n 0, 1) := by decide +kernel
theorem dd_X9_lengthNow_16 : decode cX9_lengthNow 16 = .ok (.getfield 53, 3) := by decide +kernel
theorem dd_X9_lengthNow_19 : decode cX9_lengthNow 19 = .ok (.iload_n 2, 1) := by decide +kernel
theorem dd_X9_lengthNow_20 : decode cX9_lengthNow 20 = .ok (.iaload, 1) := by decide +kernel
theorem dd_X9_lengthNow_21 : decode cX9_lengthNow 21 = .ok (.iadd, 1) := by decide +kernel
theorem dd_X9_lengthNow_22 : decode cX9_lengthNow 22 = .ok (.istore_n 1, 1) := by decide +kernel
theorem dd_X9_lengthNow_23 : decode cX9_lengthNow 23 = .ok (.iinc 2 1, 3) := by decide +kernel
theorem dd_X9_lengthNow_26 : decode cX9_lengthNow 26 = .ok (.goto (-22), 3) := by decide +kernel
theorem dd_X9_lengthNow_29 : decode cX9_lengthNow 29 = .ok (.iload_n 1, 1) := by decide +kernel
theorem dd_X9_lengthNow_30 : decode cX9_lengthNow 30 = .ok (.ireturn, 1) := by decide +kernel
theorem ok_X9_lengthNow : am_okM m_X9_lengthNow 0 ∧ Cond.instanceMethod m_X9_lengthNow.1 ∈ am_tbl ∧ Cond.selects m_X9_lengthNow.1.cls m_X9_lengthNow.1 m_X9_lengthNow.1 ∈ am_tbl := ri_mk1 1163 93 1162 73 (by decide +kernel)
theorem k_X9_lengthNow  {F A : gs_F} (hI : gs_I F A)  : ∀ nN : Nat, (∀ (s : Int) (x : Int),  0 ≤ x ∧ x ≤ 6 → 0 ≤ s ∧ s ≤ 400 * x → 6 - x < (nN : Int) → sA m_X9_lengthNow 1 (fun rv F' A' => ∃ z : Int, rv = some (gs_iv z) ∧ F = F' ∧ A = A' ∧ (0 ≤ z ∧ z ≤ 2400)) 4 [(2, gs_iv x), (1, gs_iv s), (0, .ref 106)] [] F A) := by
  intro nN
  induction nN with
  | zero =>
    exact fun a0 a1 i0 i1 hm => by exfalso; omega
  | succ nN ih =>
    intro s x i0 i1 hm
    refine sA_iload_n dd_X9_lengthNow_4 rfl (.head _) ?_
    refine sA_iconst (z := 2) dd_X9_lengthNow_5 ?_
    refine sA_aload_n dd_X9_lengthNow_6 rfl (.tail _ (.tail _ (.head _))) ?_
    refine sA_geti (ci := 9) (j := 0) (q := (RX9, TX9, 28)) dd_X9_lengthNow_7 rfl (by decide) fl_X9_64 (by decide) gs_s106 rfl ?_
    have b1 : (1 : Int) ≤ F 106 0 ∧ F 106 0 ≤ 3 := hI.1 106 0
    refine sA_imul dd_X9_lengthNow_10 ?_
    refine sA_icmp_ge (tgt := 29) dd_X9_lengthNow_11 (by decide) (by omega) (by omega) (fun q2 => ?_) (fun q2 => ?_)
    · skip
      refine sA_iload_n dd_X9_lengthNow_29 rfl (.tail _ (.head _)) ?_
      refine sA_iret (z := s) dd_X9_lengthNow_30 rfl ?_
      exact ⟨_, rfl, rfl, rfl, by omega⟩
    · skip
      refine sA_iload_n dd_X9_lengthNow_14 rfl (.tail _ (.head _)) ?_
      refine sA_aload_n dd_X9_lengthNow_15 rfl (.tail _ (.tail _ (.head _))) ?_
      refine sA_getr (ci := 9) (j := 26) (q := (RX9, TX9, 28)) dd_X9_lengthNow_16 rfl (by decide) fl_X9_53 (by decide) gs_s106 rfl ?_
      refine sA_iload_n dd_X9_lengthNow_19 rfl (.head _) ?_
      refine sA_iald (n := 6) dd_X9_lengthNow_20 (by decide) gs_s120 (by omega) (by decide) ?_
      have b3 : (0 : Int) ≤ A 120 x.toNat ∧ A 120 x.toNat ≤ 400 := hI.2 120 x.toNat
      refine sA_iadd dd_X9_lengthNow_21 ?_
      refine sA_istore_n (lv' := [(1, gs_iv (s + (A 120 x.toNat))), (2, gs_iv x), (0, .ref 106)]) dd_X9_lengthNow_22 rfl (by decide) rfl ?_
      refine sA_iinc (lv' := [(2, gs_iv (x + 1)), (1, gs_iv (s + (A 120 x.toNat))), (0, .ref 106)]) dd_X9_lengthNow_23 (.tail _ (.head _)) (by decide) rfl ?_
      refine sA_goto (tgt := 4) dd_X9_lengthNow_26 (by decide) ?_
      refine sA_sub (lv2 := [(2, gs_iv (x + 1)), (1, gs_iv (s + (A 120 x.toNat))), (0, .ref 106)]) (List.forall_mem_cons.mpr ⟨(.head _), (List.forall_mem_cons.mpr ⟨(.tail _ (.head _)), (List.forall_mem_cons.mpr ⟨(.tail _ (.tail _ (.head _))), (fun _ h => absurd h List.not_mem_nil)⟩)⟩)⟩) ?_
      exact ih (s + (A 120 x.toNat)) (x + 1)  (by omega) (by omega) (by omega)
theorem c_X9_lengthNow  {F A : gs_F} (hI : gs_I F A)  : sC m_X9_lengthNow 1 [.ref 106] F A (fun rv F' A' => ∃ z : Int, rv = some (gs_iv z) ∧ F = F' ∧ A = A' ∧ (0 ≤ z ∧ z ≤ 2400)) := by
  refine sC_of ok_X9_lengthNow.1 (Nat.le_of_ble_eq_true rfl) ?_
  show sA _ _ _ 0 [(0, .ref 106)] [] F A
  refine sA_iconst (z := 0) dd_X9_lengthNow_0 ?_
  refine sA_istore_n (lv' := [(1, gs_iv 0), (0, .ref 106)]) dd_X9_lengthNow_1 rfl (by decide) rfl ?_
  refine sA_iconst (z := 0) dd_X9_lengthNow_2 ?_
  refine sA_istore_n (lv' := [(2, gs_iv 0), (1, gs_iv 0), (0, .ref 106)]) dd_X9_lengthNow_3 rfl (by decide) rfl ?_
  refine sA_sub (lv2 := [(2, gs_iv 0), (1, gs_iv 0), (0, .ref 106)]) (List.forall_mem_cons.mpr ⟨(.head _), (List.forall_mem_cons.mpr ⟨(.tail _ (.head _)), (List.forall_mem_cons.mpr ⟨(.tail _ (.tail _ (.head _))), (fun _ h => absurd h List.not_mem_nil)⟩)⟩)⟩) ?_
  exact (k_X9_lengthNow hI (6 - 0 : Int).toNat.succ) 0 0  (by omega) (by omega) (by omega)
theorem dd_X9_length_0 : decode cX9_length 0 = .ok (.aload_n 0, 1) := by decide +kernel
theorem dd_X9_length_1 : decode cX9_length 1 = .ok (.iload_n 1, 1) := by decide +kernel
theorem dd_X9_length_2 : decode cX9_length 2 = .ok (.invokevirtual 218, 3) := by decide +kernel
theorem dd_X9_length_5 : decode cX9_length 5 = .ok (.ifCond .eq 7, 3) := by decide +kernel
theorem dd_X9_length_8 : decode cX9_length 8 = .ok (.sipush (-1001), 3) := by decide +kernel
theorem dd_X9_length_11 : decode cX9_length 11 = .ok (.ireturn, 1) := by decide +kernel
theorem dd_X9_length_12 : decode cX9_length 12 = .ok (.iload_n 2, 1) := by decide +kernel
theorem dd_X9_length_13 : decode cX9_length 13 = .ok (.i2l, 1) := by decide +kernel
theorem dd_X9_length_14 : decode cX9_length 14 = .ok (.lconst 0, 1) := by decide +kernel
theorem dd_X9_length_15 : decode cX9_length 15 = .ok (.ldc2_w 258, 3) := by decide +kernel
theorem dd_X9_length_18 : decode cX9_length 18 = .ok (.invokestatic 75, 3) := by decide +kernel
theorem dd_X9_length_21 : decode cX9_length 21 = .ok (.ifCond .ne 7, 3) := by decide +kernel
theorem dd_X9_length_24 : decode cX9_length 24 = .ok (.sipush (-1002), 3) := by decide +kernel
theorem dd_X9_length_27 : decode cX9_length 27 = .ok (.ireturn, 1) := by decide +kernel
theorem dd_X9_length_28 : decode cX9_length 28 = .ok (.aload_n 0, 1) := by decide +kernel
theorem dd_X9_length_29 : decode cX9_length 29 = .ok (.invokevirtual 236, 3) := by decide +kernel
theorem dd_X9_length_32 : decode cX9_length 32 = .ok (.iconst 0, 1) := by decide +kernel
theorem dd_X9_length_33 : decode cX9_length 33 = .ok (.istore_n 3, 1) := by decide +kernel
theorem dd_X9_length_34 : decode cX9_length 34 = .ok (.iload_n 3, 1) := by decide +kernel
theorem dd_X9_length_35 : decode cX9_length 35 = .ok (.iload_n 2, 1) := by decide +kernel
theorem dd_X9_length_36 : decode cX9_length 36 = .ok (.if_icmp .ge 21, 3) := by decide +kernel
theorem dd_X9_length_39 : decode cX9_length 39 = .ok (.aload_n 0, 1) := by decide +kernel
theorem dd_X9_length_40 : decode cX9_length 40 = .ok (.iload_n 1, 1) := by decide +kernel
theorem dd_X9_length_41 : decode cX9_length 41 = .ok (.invokevirtual 239, 3) := by decide +kernel
theorem dd_X9_length_44 : decode cX9_length 44 = .ok (.ifCond .ne 7, 3) := by decide +kernel
theorem dd_X9_length_47 : decode cX9_length 47 = .ok (.sipush (-1005), 3) := by decide +kernel
theorem dd_X9_length_50 : decode cX9_length 50 = .ok (.ireturn, 1) := by decide +kernel
theorem dd_X9_length_51 : decode cX9_length 51 = .ok (.iinc 3 1, 3) := by decide +kernel
theorem dd_X9_length_54 : decode cX9_length 54 = .ok (.goto (-20), 3) := by decide +kernel
theorem dd_X9_length_57 : decode cX9_length 57 = .ok (.aload_n 0, 1) := by decide +kernel
theorem dd_X9_length_58 : decode cX9_length 58 = .ok (.invokevirtual 281, 3) := by decide +kernel
theorem dd_X9_length_61 : decode cX9_length 61 = .ok (.ireturn, 1) := by decide +kernel
theorem ml_X9_281 : Cond.methodLink RX9 281 m_X9_lengthNow.1 ∈ am_tbl := ri_lw_in (pl := 1160) (by decide +kernel)
theorem ok_X9_length : am_okM m_X9_length 2 ∧ Cond.instanceMethod m_X9_length.1 ∈ am_tbl ∧ Cond.selects m_X9_length.1.cls m_X9_length.1 m_X9_length.1 ∈ am_tbl := ri_mk1 1159 93 1157 1158 (by decide +kernel)
theorem k_X9_length {p k : Int} {F A : gs_F} (hI : gs_I F A) (hp : -2147483648 ≤ p ∧ p ≤ 2147483647) (hk : -2147483648 ≤ k ∧ k ≤ 2147483647) : ∀ nN : Nat, (∀ (n : Int)  (F1 A1 : gs_F), gs_I F1 A1 → gs_fr (fun c j => c = 106 ∧ (j = 13 ∨ j = 15)) (fun c => c = 114 ∨ c = 115 ∨ c = 119 ∨ c = 120) F A F1 A1 → 0 ≤ p ∧ p ≤ 7 → 0 ≤ n ∧ n ≤ k → k ≤ 24 → k - n < (nN : Int) → sA m_X9_length 8 (fun rv F' A' => ∃ z : Int, rv = some (gs_iv z) ∧ gs_I F' A' ∧ gs_fr (fun c j => c = 106 ∧ (j = 13 ∨ j = 15)) (fun c => c = 114 ∨ c = 115 ∨ c = 119 ∨ c = 120) F A F' A' ∧ (True)) 34 [(3, gs_iv n), (0, .ref 106), (1, gs_iv p), (2, gs_iv k)] [] F1 A1) := by
  intro nN
  induction nN with
  | zero =>
    exact fun a0 a1 a2 a3 a4 i0 i1 i2 hm => by exfalso; omega
  | succ nN ih =>
    intro n F1 A1 hI1 hf1 i0 i1 i2 hm
    refine sA_iload_n dd_X9_length_34 rfl (.head _) ?_
    refine sA_iload_n dd_X9_length_35 rfl (.tail _ (.tail _ (.tail _ (.head _)))) ?_
    refine sA_icmp_ge (tgt := 57) dd_X9_length_36 (by decide) (by omega) (by omega) (fun q1 => ?_) (fun q1 => ?_)
    · skip
      refine sA_aload_n dd_X9_length_57 rfl (.tail _ (.head _)) ?_
      refine sA_callV (y2 := m_X9_lengthNow) (n2 := 0) (d2 := 1) (a := 106) (ci := 9) (q := (RX9, TX9, 28)) (as := []) (rest := []) dd_X9_length_58 ok_X9_lengthNow ml_X9_281 rfl rfl (by decide) gs_s106 rfl rfl (Nat.le_of_ble_eq_true rfl) (by decide) (c_X9_lengthNow hI1 ) (fun r2 F3 A4 h5 => ?_)
      obtain ⟨z8, e7, e9, e10, x6⟩ := h5
      subst e7 e9 e10
      show sA _ _ _ 61 _ [gs_iv z8] _ _
      refine sA_iret (z := z8) dd_X9_length_61 rfl ?_
      exact ⟨_, rfl, hI1, hf1, trivial⟩
    · skip
      refine sA_aload_n dd_X9_length_39 rfl (.tail _ (.head _)) ?_
      refine sA_iload_n dd_X9_length_40 rfl (.tail _ (.tail _ (.head _))) ?_
      refine sA_callV (y2 := m_X9_goOn) (n2 := 1) (d2 := 6) (a := 106) (ci := 9) (q := (RX9, TX9, 28)) (as := [gs_iv p]) (rest := []) dd_X9_length_41 ok_X9_goOn ml_X9_239 rfl rfl (by decide) gs_s106 rfl rfl (Nat.le_of_ble_eq_true rfl) (by decide) (c_X9_goOn hI1 (by omega)) (fun r11 F12 A13 h14 => ?_)
      obtain ⟨z17, e16, I18, f19, x15⟩ := h14
      subst e16
      have f20 := gs_fr_tr hf1 f19 (fun b j h => by first | exact False.elim h | omega | (dsimp only at h ⊢; omega)) (fun b h => by first | exact False.elim h | omega | (dsimp only at h ⊢; omega))
      show sA _ _ _ 44 _ [gs_iv z17] _ _
      refine sA_if_ne (tgt := 51) dd_X9_length_44 (by decide) (by omega) (fun q21 => ?_) (fun q21 => ?_)
      · skip
        refine sA_iinc (lv' := [(3, gs_iv (n + 1)), (0, .ref 106), (1, gs_iv p), (2, gs_iv k)]) dd_X9_length_51 (.head _) (by decide) rfl ?_
        refine sA_goto (tgt := 34) dd_X9_length_54 (by decide) ?_
        refine sA_sub (lv2 := [(3, gs_iv (n + 1)), (0, .ref 106), (1, gs_iv p), (2, gs_iv k)]) (List.forall_mem_cons.mpr ⟨(.head _), (List.forall_mem_cons.mpr ⟨(.tail _ (.head _)), (List.forall_mem_cons.mpr ⟨(.tail _ (.tail _ (.head _))), (List.forall_mem_cons.mpr ⟨(.tail _ (.tail _ (.tail _ (.head _)))), (fun _ h => absurd h List.not_mem_nil)⟩)⟩)⟩)⟩) ?_
        exact ih (n + 1) F12 A13 I18 f20 (by omega) (by omega) (by omega) (by omega)
      · skip
        refine sA_sipush (z := (-1005)) dd_X9_length_47 (by decide) ?_
        refine sA_iret (z := -1005) dd_X9_length_50 rfl ?_
        exact ⟨_, rfl, I18, f20, trivial⟩
theorem c_X9_length {p k : Int} {F A : gs_F} (hI : gs_I F A) (hp : -2147483648 ≤ p ∧ p ≤ 2147483647) (hk : -2147483648 ≤ k ∧ k ≤ 2147483647) : sC m_X9_length 8 [.ref 106, gs_iv p, gs_iv k] F A (fun rv F' A' => ∃ z : Int, rv = some (gs_iv z) ∧ gs_I F' A' ∧ gs_fr (fun c j => c = 106 ∧ (j = 13 ∨ j = 15)) (fun c => c = 114 ∨ c = 115 ∨ c = 119 ∨ c = 120) F A F' A' ∧ (True)) := by
  refine sC_of ok_X9_length.1 (Nat.le_of_ble_eq_true rfl) ?_
  show sA _ _ _ 0 [(0, .ref 106), (1, gs_iv p), (2, gs_iv k)] [] F A
  have hf : gs_fr (fun c j => c = 106 ∧ (j = 13 ∨ j = 15)) (fun c => c = 114 ∨ c = 115 ∨ c = 119 ∨ c = 120) F A F A := gs_fr_refl _ _ _ _
  refine sA_aload_n dd_X9_length_0 rfl (.head _) ?_
  refine sA_iload_n dd_X9_length_1 rfl (.tail _ (.head _)) ?_
  refine sA_callV (y2 := m_X9_noPlan) (n2 := 1) (d2 := 2) (a := 106) (ci := 9) (q := (RX9, TX9, 28)) (as := [gs_iv p]) (rest := []) dd_X9_length_2 ok_X9_noPlan ml_X9_218 rfl rfl (by decide) gs_s106 rfl rfl (Nat.le_of_ble_eq_true rfl) (by decide) (c_X9_noPlan hI (by omega)) (fun r22 F23 A24 h25 => ?_)
  obtain ⟨z28, e27, e29, e30, x26⟩ := h25
  subst e27 e29 e30
  show sA _ _ _ 5 _ [gs_iv z28] _ _
  refine sA_if_eq (tgt := 12) dd_X9_length_5 (by decide) (by omega) (fun q31 => ?_) (fun q31 => ?_)
  · skip
    refine sA_iload_n dd_X9_length_12 rfl (.tail _ (.tail _ (.head _))) ?_
    refine sA_i2l dd_X9_length_13 (by omega) ?_
    refine sA_lconst (z := 0) dd_X9_length_14 (by decide) ?_
    refine sA_ldc2 (z := 24) dd_X9_length_15 (ri_lw_in (pl := 1128) (by decide +kernel)) ?_
    refine sA_callS (y2 := m_X9_in) (n2 := 3) (d2 := 1) (as := [gs_lv k, gs_lv 0, gs_lv 24]) (rest := []) dd_X9_length_18 ok_X9_in ml_X9_75 rfl rfl (Nat.le_of_ble_eq_true rfl) (by decide) (c_X9_in (by omega) (by omega) (by omega)) (fun r32 F33 A34 h35 => ?_)
    obtain ⟨z38, e37, e39, e40, x36⟩ := h35
    subst e37 e39 e40
    show sA _ _ _ 21 _ [gs_iv z38] _ _
    refine sA_if_ne (tgt := 28) dd_X9_length_21 (by decide) (by omega) (fun q41 => ?_) (fun q41 => ?_)
    · skip
      refine sA_aload_n dd_X9_length_28 rfl (.head _) ?_
      refine sA_callV (y2 := m_X9_startImages) (n2 := 0) (d2 := 1) (a := 106) (ci := 9) (q := (RX9, TX9, 28)) (as := []) (rest := []) dd_X9_length_29 ok_X9_startImages ml_X9_236 rfl rfl (by decide) gs_s106 rfl rfl (Nat.le_of_ble_eq_true rfl) (by decide) (c_X9_startImages hI ) (fun r42 F43 A44 h45 => ?_)
      obtain ⟨e47, I48, f49, x46⟩ := h45
      subst e47
      have f50 := gs_fr_tr hf f49 (fun b j h => by first | exact False.elim h | omega | (dsimp only at h ⊢; omega)) (fun b h => by first | exact False.elim h | omega | (dsimp only at h ⊢; omega))
      show sA _ _ _ 32 _ [] _ _
      refine sA_iconst (z := 0) dd_X9_length_32 ?_
      refine sA_istore_n (lv' := [(3, gs_iv 0), (0, .ref 106), (1, gs_iv p), (2, gs_iv k)]) dd_X9_length_33 rfl (by decide) rfl ?_
      refine sA_sub (lv2 := [(3, gs_iv 0), (0, .ref 106), (1, gs_iv p), (2, gs_iv k)]) (List.forall_mem_cons.mpr ⟨(.head _), (List.forall_mem_cons.mpr ⟨(.tail _ (.head _)), (List.forall_mem_cons.mpr ⟨(.tail _ (.tail _ (.head _))), (List.forall_mem_cons.mpr ⟨(.tail _ (.tail _ (.tail _ (.head _)))), (fun _ h => absurd h List.not_mem_nil)⟩)⟩)⟩)⟩) ?_
      exact (k_X9_length hI hp hk (k - 0 : Int).toNat.succ) 0 F43 A44 I48 f50 (by omega) (by omega) (by omega) (by omega)
    · skip
      refine sA_sipush (z := (-1002)) dd_X9_length_24 (by decide) ?_
      refine sA_iret (z := -1002) dd_X9_length_27 rfl ?_
      exact ⟨_, rfl, hI, hf, trivial⟩
  · skip
    refine sA_sipush (z := (-1001)) dd_X9_length_8 (by decide) ?_
    refine sA_iret (z := -1001) dd_X9_length_11 rfl ?_
    exact ⟨_, rfl, hI, hf, trivial⟩
theorem dd_X9_comesBack_0 : decode cX9_comesBack 0 = .ok (.aload_n 0, 1) := by decide +kernel
theorem dd_X9_comesBack_1 : decode cX9_comesBack 1 = .ok (.iload_n 1, 1) := by decide +kernel
theorem dd_X9_comesBack_2 : decode cX9_comesBack 2 = .ok (.invokevirtual 230, 3) := by decide +kernel
theorem dd_X9_comesBack_5 : decode cX9_comesBack 5 = .ok (.iconst 1, 1) := by decide +kernel
theorem dd_X9_comesBack_6 : decode cX9_comesBack 6 = .ok (.istore 4, 2) := by decide +kernel
theorem dd_X9_comesBack_8 : decode cX9_comesBack 8 = .ok (.iload 4, 2) := by decide +kernel
theorem dd_X9_comesBack_10 : decode cX9_comesBack 10 = .ok (.iload_n 3, 1) := by decide +kernel
theorem dd_X9_comesBack_11 : decode cX9_comesBack 11 = .ok (.if_icmp .gt 37, 3) := by decide +kernel
theorem dd_X9_comesBack_14 : decode cX9_comesBack 14 = .ok (.aload_n 0, 1) := by decide +kernel
theorem dd_X9_comesBack_15 : decode cX9_comesBack 15 = .ok (.iload_n 2, 1) := by decide +kernel
theorem dd_X9_comesBack_16 : decode cX9_comesBack 16 = .ok (.invokevirtual 227, 3) := by decide +kernel
theorem dd_X9_comesBack_19 : decode cX9_comesBack 19 = .ok (.ifCond .ne 5, 3) := by decide +kernel
theorem dd_X9_comesBack_22 : decode cX9_comesBack 22 = .ok (.iconst 0, 1) := by decide +kernel
theorem dd_X9_comesBack_23 : decode cX9_comesBack 23 = .ok (.ireturn, 1) := by decide +kernel
theorem dd_X9_comesBack_24 : decode cX9_comesBack 24 = .ok (.aload_n 0, 1) := by decide +kernel
theorem dd_X9_comesBack_25 : decode cX9_comesBack 25 = .ok (.invokevirtual 233, 3) := by decide +kernel
theorem dd_X9_comesBack_28 : decode cX9_comesBack 28 = .ok (.aload_n 0, 1) := by decide +kernel
theorem dd_X9_comesBack_29 : decode cX9_comesBack 29 = .ok (.iload_n 1, 1) := by decide +kernel
theorem dd_X9_comesBack_30 : decode cX9_comesBack 30 = .ok (.invokevirtual 106, 3) := by decide +kernel
theorem dd_X9_comesBack_33 : decode cX9_comesBack 33 = .ok (.aload_n 0, 1) := by decide +kernel
theorem dd_X9_comesBack_34 : decode cX9_comesBack 34 = .ok (.invokevirtual 109, 3) := by decide +kernel
theorem dd_X9_comesBack_37 : decode cX9_comesBack 37 = .ok (.ifCond .eq 5, 3) := by decide +kernel
theorem dd_X9_comesBack_40 : decode cX9_comesBack 40 = .ok (.iconst 1, 1) := by decide +kernel
theorem dd_X9_comesBack_41 : decode cX9_comesBack 41 = .ok (.ireturn, 1) := by decide +kernel
theorem dd_X9_comesBack_42 : decode cX9_comesBack 42 = .ok (.iinc 4 1, 3) := by decide +kernel
theorem dd_X9_comesBack_45 : decode cX9_comesBack 45 = .ok (.goto (-37), 3) := by decide +kernel
theorem dd_X9_comesBack_48 : decode cX9_comesBack 48 = .ok (.iconst 0, 1) := by decide +kernel
theorem dd_X9_comesBack_49 : decode cX9_comesBack 49 = .ok (.ireturn, 1) := by decide +kernel
theorem ok_X9_comesBack : am_okM m_X9_comesBack 3 ∧ Cond.instanceMethod m_X9_comesBack.1 ∈ am_tbl ∧ Cond.selects m_X9_comesBack.1.cls m_X9_comesBack.1 m_X9_comesBack.1 ∈ am_tbl := ri_mk1 1172 93 1171 74 (by decide +kernel)
theorem k_X9_comesBack {r p n : Int} {F A : gs_F} (hI : gs_I F A) (hr : 0 ≤ r ∧ r < 12) (hp : 0 ≤ p ∧ p ≤ 7) (hn : 1 ≤ n ∧ n ≤ 24) (h1 : 1 ≤ A 108 r.toNat) : ∀ nN : Nat, (∀ (k : Int)  (F1 A1 : gs_F), gs_I F1 A1 → gs_fr (fun c j => c = 106 ∧ (j = 9 ∨ j = 11 ∨ j = 13 ∨ j = 15)) (fun c => c = 112 ∨ c = 113 ∨ c = 114 ∨ c = 115) F A F1 A1 → 1 ≤ k ∧ k ≤ n + 1 → 1 ≤ A1 108 r.toNat → n + 1 - k < (nN : Int) → sA m_X9_comesBack 6 (fun rv F' A' => ∃ z : Int, rv = some (gs_iv z) ∧ gs_I F' A' ∧ gs_fr (fun c j => c = 106 ∧ (j = 9 ∨ j = 11 ∨ j = 13 ∨ j = 15)) (fun c => c = 112 ∨ c = 113 ∨ c = 114 ∨ c = 115) F A F' A' ∧ (z = 0 ∨ z = 1)) 8 [(4, gs_iv k), (0, .ref 106), (1, gs_iv r), (2, gs_iv p), (3, gs_iv n)] [] F1 A1) := by
  intro nN
  induction nN with
  | zero =>
    exact fun a0 a1 a2 a3 a4 i0 i1 hm => by exfalso; omega
  | succ nN ih =>
    intro k F1 A1 hI1 hf1 i0 i1 hm
    refine sA_iload dd_X9_comesBack_8 (.head _) ?_
    refine sA_iload_n dd_X9_comesBack_10 rfl (.tail _ (.tail _ (.tail _ (.tail _ (.head _))))) ?_
    refine sA_icmp_gt (tgt := 48) dd_X9_comesBack_11 (by decide) (by omega) (by omega) (fun q1 => ?_) (fun q1 => ?_)
    · skip
      refine sA_iconst (z := 0) dd_X9_comesBack_48 ?_
      refine sA_bret (z := 0) dd_X9_comesBack_49 rfl (by omega) ?_
      exact ⟨_, rfl, hI1, hf1, by omega⟩
    · skip
      refine sA_aload_n dd_X9_comesBack_14 rfl (.tail _ (.head _)) ?_
      refine sA_iload_n dd_X9_comesBack_15 rfl (.tail _ (.tail _ (.tail _ (.head _)))) ?_
      refine sA_callV (y2 := m_X9_imageRow) (n2 := 1) (d2 := 5) (a := 106) (ci := 9) (q := (RX9, TX9, 28)) (as := [gs_iv p]) (rest := []) dd_X9_comesBack_16 ok_X9_imageRow ml_X9_227 rfl rfl (by decide) gs_s106 rfl rfl (Nat.le_of_ble_eq_true rfl) (by decide) (c_X9_imageRow hI1 (by omega)) (fun r2 F3 A4 h5 => ?_)
      obtain ⟨z8, e7, I9, f10, x6⟩ := h5
      subst e7
      have v11 : A4 108 r.toNat = A1 108 r.toNat := congrFun (f10.2 108 (by first | exact id | omega | (dsimp only; omega) | (dsimp only))) _
      have f12 := gs_fr_tr hf1 f10 (fun b j h => by first | exact False.elim h | omega | (dsimp only at h ⊢; omega)) (fun b h => by first | exact False.elim h | omega | (dsimp only at h ⊢; omega))
      show sA _ _ _ 19 _ [gs_iv z8] _ _
      refine sA_if_ne (tgt := 24) dd_X9_comesBack_19 (by decide) (by omega) (fun q13 => ?_) (fun q13 => ?_)
      · skip
        refine sA_aload_n dd_X9_comesBack_24 rfl (.tail _ (.head _)) ?_
        refine sA_callV (y2 := m_X9_closeToU) (n2 := 0) (d2 := 1) (a := 106) (ci := 9) (q := (RX9, TX9, 28)) (as := []) (rest := []) dd_X9_comesBack_25 ok_X9_closeToU ml_X9_233 rfl rfl (by decide) gs_s106 rfl rfl (Nat.le_of_ble_eq_true rfl) (by decide) (c_X9_closeToU I9 ) (fun r14 F15 A16 h17 => ?_)
        obtain ⟨e19, I20, f21, x18⟩ := h17
        subst e19
        have v22 : A16 108 r.toNat = A4 108 r.toNat := congrFun (f21.2 108 (by first | exact id | omega | (dsimp only; omega) | (dsimp only))) _
        have f23 := gs_fr_tr f12 f21 (fun b j h => by first | exact False.elim h | omega | (dsimp only at h ⊢; omega)) (fun b h => by first | exact False.elim h | omega | (dsimp only at h ⊢; omega))
        show sA _ _ _ 28 _ [] _ _
        refine sA_aload_n dd_X9_comesBack_28 rfl (.tail _ (.head _)) ?_
        refine sA_iload_n dd_X9_comesBack_29 rfl (.tail _ (.tail _ (.head _))) ?_
        refine sA_callV (y2 := m_X9_takeV) (n2 := 1) (d2 := 1) (a := 106) (ci := 9) (q := (RX9, TX9, 28)) (as := [gs_iv r]) (rest := []) dd_X9_comesBack_30 ok_X9_takeV ml_X9_106 rfl rfl (by decide) gs_s106 rfl rfl (Nat.le_of_ble_eq_true rfl) (by decide) (c_X9_takeV I20 (by omega)) (fun r24 F25 A26 h27 => ?_)
        obtain ⟨e29, I30, f31, x28⟩ := h27
        subst e29
        have v32 : A26 108 r.toNat = A16 108 r.toNat := congrFun (f31.2 108 (by first | exact id | omega | (dsimp only; omega) | (dsimp only))) _
        have f33 := gs_fr_tr f23 f31 (fun b j h => by first | exact False.elim h | omega | (dsimp only at h ⊢; omega)) (fun b h => by first | exact False.elim h | omega | (dsimp only at h ⊢; omega))
        show sA _ _ _ 33 _ [] _ _
        refine sA_aload_n dd_X9_comesBack_33 rfl (.tail _ (.head _)) ?_
        refine sA_callV (y2 := m_X9_areOne) (n2 := 0) (d2 := 3) (a := 106) (ci := 9) (q := (RX9, TX9, 28)) (as := []) (rest := []) dd_X9_comesBack_34 ok_X9_areOne ml_X9_109 rfl rfl (by decide) gs_s106 rfl rfl (Nat.le_of_ble_eq_true rfl) (by decide) (c_X9_areOne I30 (by omega)) (fun r34 F35 A36 h37 => ?_)
        obtain ⟨z40, e39, I41, f42, x38⟩ := h37
        subst e39
        have v43 : A36 108 r.toNat = A26 108 r.toNat := congrFun (f42.2 108 (by first | exact id | omega | (dsimp only; omega) | (dsimp only))) _
        have f44 := gs_fr_tr f33 f42 (fun b j h => by first | exact False.elim h | omega | (dsimp only at h ⊢; omega)) (fun b h => by first | exact False.elim h | omega | (dsimp only at h ⊢; omega))
        show sA _ _ _ 37 _ [gs_iv z40] _ _
        refine sA_if_eq (tgt := 42) dd_X9_comesBack_37 (by decide) (by omega) (fun q45 => ?_) (fun q45 => ?_)
        · skip
          refine sA_iinc (lv' := [(4, gs_iv (k + 1)), (0, .ref 106), (1, gs_iv r), (2, gs_iv p), (3, gs_iv n)]) dd_X9_comesBack_42 (.head _) (by decide) rfl ?_
          refine sA_goto (tgt := 8) dd_X9_comesBack_45 (by decide) ?_
          refine sA_sub (lv2 := [(4, gs_iv (k + 1)), (0, .ref 106), (1, gs_iv r), (2, gs_iv p), (3, gs_iv n)]) (List.forall_mem_cons.mpr ⟨(.head _), (List.forall_mem_cons.mpr ⟨(.tail _ (.head _)), (List.forall_mem_cons.mpr ⟨(.tail _ (.tail _ (.head _))), (List.forall_mem_cons.mpr ⟨(.tail _ (.tail _ (.tail _ (.head _)))), (List.forall_mem_cons.mpr ⟨(.tail _ (.tail _ (.tail _ (.tail _ (.head _))))), (fun _ h => absurd h List.not_mem_nil)⟩)⟩)⟩)⟩)⟩) ?_
          exact ih (k + 1) F35 A36 I41 f44 (by omega) (by omega) (by omega)
        · skip
          refine sA_iconst (z := 1) dd_X9_comesBack_40 ?_
          refine sA_bret (z := 1) dd_X9_comesBack_41 rfl (by omega) ?_
          exact ⟨_, rfl, I41, f44, by omega⟩
      · skip
        refine sA_iconst (z := 0) dd_X9_comesBack_22 ?_
        refine sA_bret (z := 0) dd_X9_comesBack_23 rfl (by omega) ?_
        exact ⟨_, rfl, I9, f12, by omega⟩
theorem c_X9_comesBack {r p n : Int} {F A : gs_F} (hI : gs_I F A) (hr : 0 ≤ r ∧ r < 12) (hp : 0 ≤ p ∧ p ≤ 7) (hn : 1 ≤ n ∧ n ≤ 24) (h1 : 1 ≤ A 108 r.toNat) : sC m_X9_comesBack 6 [.ref 106, gs_iv r, gs_iv p, gs_iv n] F A (fun rv F' A' => ∃ z : Int, rv = some (gs_iv z) ∧ gs_I F' A' ∧ gs_fr (fun c j => c = 106 ∧ (j = 9 ∨ j = 11 ∨ j = 13 ∨ j = 15)) (fun c => c = 112 ∨ c = 113 ∨ c = 114 ∨ c = 115) F A F' A' ∧ (z = 0 ∨ z = 1)) := by
  refine sC_of ok_X9_comesBack.1 (Nat.le_of_ble_eq_true rfl) ?_
  show sA _ _ _ 0 [(0, .ref 106), (1, gs_iv r), (2, gs_iv p), (3, gs_iv n)] [] F A
  have hf : gs_fr (fun c j => c = 106 ∧ (j = 9 ∨ j = 11 ∨ j = 13 ∨ j = 15)) (fun c => c = 112 ∨ c = 113 ∨ c = 114 ∨ c = 115) F A F A := gs_fr_refl _ _ _ _
  refine sA_aload_n dd_X9_comesBack_0 rfl (.head _) ?_
  refine sA_iload_n dd_X9_comesBack_1 rfl (.tail _ (.head _)) ?_
  refine sA_callV (y2 := m_X9_takeRing) (n2 := 1) (d2 := 1) (a := 106) (ci := 9) (q := (RX9, TX9, 28)) (as := [gs_iv r]) (rest := []) dd_X9_comesBack_2 ok_X9_takeRing ml_X9_230 rfl rfl (by decide) gs_s106 rfl rfl (Nat.le_of_ble_eq_true rfl) (by decide) (c_X9_takeRing hI (by omega)) (fun r46 F47 A48 h49 => ?_)
  obtain ⟨e51, I52, f53, x50⟩ := h49
  subst e51
  have v54 : A48 108 r.toNat = A 108 r.toNat := congrFun (f53.2 108 (by first | exact id | omega | (dsimp only; omega) | (dsimp only))) _
  have f55 := gs_fr_tr hf f53 (fun b j h => by first | exact False.elim h | omega | (dsimp only at h ⊢; omega)) (fun b h => by first | exact False.elim h | omega | (dsimp only at h ⊢; omega))
  show sA _ _ _ 5 _ [] _ _
  refine sA_iconst (z := 1) dd_X9_comesBack_5 ?_
  refine sA_istore (lv' := [(4, gs_iv 1), (0, .ref 106), (1, gs_iv r), (2, gs_iv p), (3, gs_iv n)]) dd_X9_comesBack_6 (by decide) rfl ?_
  refine sA_sub (lv2 := [(4, gs_iv 1), (0, .ref 106), (1, gs_iv r), (2, gs_iv p), (3, gs_iv n)]) (List.forall_mem_cons.mpr ⟨(.head _), (List.forall_mem_cons.mpr ⟨(.tail _ (.head _)), (List.forall_mem_cons.mpr ⟨(.tail _ (.tail _ (.head _))), (List.forall_mem_cons.mpr ⟨(.tail _ (.tail _ (.tail _ (.head _)))), (List.forall_mem_cons.mpr ⟨(.tail _ (.tail _ (.tail _ (.tail _ (.head _))))), (fun _ h => absurd h List.not_mem_nil)⟩)⟩)⟩)⟩)⟩) ?_
  exact (k_X9_comesBack hI hr hp hn h1 (n + 1 - 1 : Int).toNat.succ) 1 F47 A48 I52 f55 (by omega) (by omega) (by omega)
theorem dd_X9_sort_0 : decode cX9_sort 0 = .ok (.aload_n 0, 1) := by decide +kernel
theorem dd_X9_sort_1 : decode cX9_sort 1 = .ok (.iload_n 1, 1) := by decide +kernel
theorem dd_X9_sort_2 : decode cX9_sort 2 = .ok (.invokevirtual 218, 3) := by decide +kernel
theorem dd_X9_sort_5 : decode cX9_sort 5 = .ok (.ifCond .eq 7, 3) := by decide +kernel
theorem dd_X9_sort_8 : decode cX9_sort 8 = .ok (.sipush (-1001), 3) := by decide +kernel
theorem dd_X9_sort_11 : decode cX9_sort 11 = .ok (.ireturn, 1) := by decide +kernel
theorem dd_X9_sort_12 : decode cX9_sort 12 = .ok (.iload_n 2, 1) := by decide +kernel
theorem dd_X9_sort_13 : decode cX9_sort 13 = .ok (.i2l, 1) := by decide +kernel
theorem dd_X9_sort_14 : decode cX9_sort 14 = .ok (.lconst 1, 1) := by decide +kernel
theorem dd_X9_sort_15 : decode cX9_sort 15 = .ok (.ldc2_w 284, 3) := by decide +kernel
theorem dd_X9_sort_18 : decode cX9_sort 18 = .ok (.invokestatic 75, 3) := by decide +kernel
theorem dd_X9_sort_21 : decode cX9_sort 21 = .ok (.ifCond .ne 7, 3) := by decide +kernel
theorem dd_X9_sort_24 : decode cX9_sort 24 = .ok (.sipush (-1002), 3) := by decide +kernel
theorem dd_X9_sort_27 : decode cX9_sort 27 = .ok (.ireturn, 1) := by decide +kernel
theorem dd_X9_sort_28 : decode cX9_sort 28 = .ok (.aload_n 0, 1) := by decide +kernel
theorem dd_X9_sort_29 : decode cX9_sort 29 = .ok (.iload_n 1, 1) := by decide +kernel
theorem dd_X9_sort_30 : decode cX9_sort 30 = .ok (.iload_n 2, 1) := by decide +kernel
theorem dd_X9_sort_31 : decode cX9_sort 31 = .ok (.invokevirtual 260, 3) := by decide +kernel
theorem dd_X9_sort_34 : decode cX9_sort 34 = .ok (.istore_n 3, 1) := by decide +kernel
theorem dd_X9_sort_35 : decode cX9_sort 35 = .ok (.iload_n 3, 1) := by decide +kernel
theorem dd_X9_sort_36 : decode cX9_sort 36 = .ok (.iconst (-1), 1) := by decide +kernel
theorem dd_X9_sort_37 : decode cX9_sort 37 = .ok (.if_icmp .eq 18, 3) := by decide +kernel
theorem dd_X9_sort_40 : decode cX9_sort 40 = .ok (.iload_n 3, 1) := by decide +kernel
theorem dd_X9_sort_41 : decode cX9_sort 41 = .ok (.sipush (-1005), 3) := by decide +kernel
theorem dd_X9_sort_44 : decode cX9_sort 44 = .ok (.if_icmp .ne 9, 3) := by decide +kernel
theorem dd_X9_sort_47 : decode cX9_sort 47 = .ok (.sipush (-1005), 3) := by decide +kernel
theorem dd_X9_sort_50 : decode cX9_sort 50 = .ok (.goto 4, 3) := by decide +kernel
theorem dd_X9_sort_53 : decode cX9_sort 53 = .ok (.iconst 0, 1) := by decide +kernel
theorem dd_X9_sort_54 : decode cX9_sort 54 = .ok (.ireturn, 1) := by decide +kernel
theorem dd_X9_sort_55 : decode cX9_sort 55 = .ok (.aload_n 0, 1) := by decide +kernel
theorem dd_X9_sort_56 : decode cX9_sort 56 = .ok (.invokevirtual 236, 3) := by decide +kernel
theorem dd_X9_sort_59 : decode cX9_sort 59 = .ok (.iconst 1, 1) := by decide +kernel
theorem dd_X9_sort_60 : decode cX9_sort 60 = .ok (.istore 4, 2) := by decide +kernel
theorem dd_X9_sort_62 : decode cX9_sort 62 = .ok (.iconst 0, 1) := by decide +kernel
theorem dd_X9_sort_63 : decode cX9_sort 63 = .ok (.istore 5, 2) := by decide +kernel
theorem dd_X9_sort_65 : decode cX9_sort 65 = .ok (.iconst 1, 1) := by decide +kernel
theorem dd_X9_sort_66 : decode cX9_sort 66 = .ok (.istore 6, 2) := by decide +kernel
theorem dd_X9_sort_68 : decode cX9_sort 68 = .ok (.iload 6, 2) := by decide +kernel
theorem dd_X9_sort_70 : decode cX9_sort 70 = .ok (.iload_n 2, 1) := by decide +kernel
theorem dd_X9_sort_71 : decode cX9_sort 71 = .ok (.if_icmp .gt 49, 3) := by decide +kernel
theorem dd_X9_sort_74 : decode cX9_sort 74 = .ok (.aload_n 0, 1) := by decide +kernel
theorem dd_X9_sort_75 : decode cX9_sort 75 = .ok (.iload_n 1, 1) := by decide +kernel
theorem dd_X9_sort_76 : decode cX9_sort 76 = .ok (.invokevirtual 239, 3) := by decide +kernel
theorem dd_X9_sort_79 : decode cX9_sort 79 = .ok (.istore 7, 2) := by decide +kernel
theorem dd_X9_sort_81 : decode cX9_sort 81 = .ok (.iload 4, 2) := by decide +kernel
theorem dd_X9_sort_83 : decode cX9_sort 83 = .ok (.ifCond .eq 22, 3) := by decide +kernel
theorem dd_X9_sort_86 : decode cX9_sort 86 = .ok (.iload 6, 2) := by decide +kernel
theorem dd_X9_sort_88 : decode cX9_sort 88 = .ok (.iconst 1, 1) := by decide +kernel
theorem dd_X9_sort_89 : decode cX9_sort 89 = .ok (.if_icmp .eq 12, 3) := by decide +kernel
theorem dd_X9_sort_92 : decode cX9_sort 92 = .ok (.aload_n 0, 1) := by decide +kernel
theorem dd_X9_sort_93 : decode cX9_sort 93 = .ok (.invokevirtual 281, 3) := by decide +kernel
theorem dd_X9_sort_96 : decode cX9_sort 96 = .ok (.iload 5, 2) := by decide +kernel
theorem dd_X9_sort_98 : decode cX9_sort 98 = .ok (.if_icmp .le 7, 3) := by decide +kernel
theorem dd_X9_sort_101 : decode cX9_sort 101 = .ok (.iconst 1, 1) := by decide +kernel
theorem dd_X9_sort_102 : decode cX9_sort 102 = .ok (.goto 4, 3) := by decide +kernel
theorem dd_X9_sort_105 : decode cX9_sort 105 = .ok (.iconst 0, 1) := by decide +kernel
theorem dd_X9_sort_106 : decode cX9_sort 106 = .ok (.istore 4, 2) := by decide +kernel
theorem dd_X9_sort_108 : decode cX9_sort 108 = .ok (.aload_n 0, 1) := by decide +kernel
theorem dd_X9_sort_109 : decode cX9_sort 109 = .ok (.invokevirtual 281, 3) := by decide +kernel
theorem dd_X9_sort_112 : decode cX9_sort 112 = .ok (.istore 5, 2) := by decide +kernel
theorem dd_X9_sort_114 : decode cX9_sort 114 = .ok (.iinc 6 1, 3) := by decide +kernel
theorem dd_X9_sort_117 : decode cX9_sort 117 = .ok (.goto (-49), 3) := by decide +kernel
theorem dd_X9_sort_120 : decode cX9_sort 120 = .ok (.iconst 0, 1) := by decide +kernel
theorem dd_X9_sort_121 : decode cX9_sort 121 = .ok (.istore 6, 2) := by decide +kernel
theorem dd_X9_sort_123 : decode cX9_sort 123 = .ok (.iload 6, 2) := by decide +kernel
theorem dd_X9_sort_125 : decode cX9_sort 125 = .ok (.aload_n 0, 1) := by decide +kernel
theorem dd_X9_sort_126 : decode cX9_sort 126 = .ok (.getfield 70, 3) := by decide +kernel
theorem dd_X9_sort_129 : decode cX9_sort 129 = .ok (.if_icmp .ge 31, 3) := by decide +kernel
theorem dd_X9_sort_132 : decode cX9_sort 132 = .ok (.aload_n 0, 1) := by decide +kernel
theorem dd_X9_sort_133 : decode cX9_sort 133 = .ok (.iload 6, 2) := by decide +kernel
theorem dd_X9_sort_135 : decode cX9_sort 135 = .ok (.invokevirtual 151, 3) := by decide +kernel
theorem dd_X9_sort_138 : decode cX9_sort 138 = .ok (.ifCond .eq 16, 3) := by decide +kernel
theorem dd_X9_sort_141 : decode cX9_sort 141 = .ok (.aload_n 0, 1) := by decide +kernel
theorem dd_X9_sort_142 : decode cX9_sort 142 = .ok (.iload 6, 2) := by decide +kernel
theorem dd_X9_sort_144 : decode cX9_sort 144 = .ok (.iload_n 1, 1) := by decide +kernel
theorem dd_X9_sort_145 : decode cX9_sort 145 = .ok (.iload_n 2, 1) := by decide +kernel
theorem dd_X9_sort_146 : decode cX9_sort 146 = .ok (.invokevirtual 286, 3) := by decide +kernel
theorem dd_X9_sort_149 : decode cX9_sort 149 = .ok (.ifCond .eq 5, 3) := by decide +kernel
theorem dd_X9_sort_152 : decode cX9_sort 152 = .ok (.iconst 1, 1) := by decide +kernel
theorem dd_X9_sort_153 : decode cX9_sort 153 = .ok (.ireturn, 1) := by decide +kernel
theorem dd_X9_sort_154 : decode cX9_sort 154 = .ok (.iinc 6 1, 3) := by decide +kernel
theorem dd_X9_sort_157 : decode cX9_sort 157 = .ok (.goto (-34), 3) := by decide +kernel
theorem dd_X9_sort_160 : decode cX9_sort 160 = .ok (.iload 4, 2) := by decide +kernel
theorem dd_X9_sort_162 : decode cX9_sort 162 = .ok (.ifCond .eq 7, 3) := by decide +kernel
theorem dd_X9_sort_165 : decode cX9_sort 165 = .ok (.iconst 2, 1) := by decide +kernel
theorem dd_X9_sort_166 : decode cX9_sort 166 = .ok (.goto 4, 3) := by decide +kernel
theorem dd_X9_sort_169 : decode cX9_sort 169 = .ok (.iconst 3, 1) := by decide +kernel
theorem dd_X9_sort_170 : decode cX9_sort 170 = .ok (.ireturn, 1) := by decide +kernel
theorem ml_X9_286 : Cond.methodLink RX9 286 m_X9_comesBack.1 ∈ am_tbl := ri_lw_in (pl := 1169) (by decide +kernel)
theorem ok_X9_sort : am_okM m_X9_sort 2 ∧ Cond.instanceMethod m_X9_sort.1 ∈ am_tbl ∧ Cond.selects m_X9_sort.1.cls m_X9_sort.1 m_X9_sort.1 ∈ am_tbl := ri_mk1 1167 93 1165 1166 (by decide +kernel)
theorem k_X9_sort {p n : Int} {F A : gs_F} (hI : gs_I F A) (hp : -2147483648 ≤ p ∧ p ≤ 2147483647) (hn : -2147483648 ≤ n ∧ n ≤ 2147483647) (hX : ∀ r : Nat, (r : Int) < F 106 3 → 1 ≤ A 108 r) : ∀ nN : Nat, (∀ (ri : Int) (la : Int) (k : Int)  (F1 A1 : gs_F), gs_I F1 A1 → gs_fr (fun c j => c = 106 ∧ (j = 9 ∨ j = 11 ∨ j = 13 ∨ j = 15)) (fun c => c = 112 ∨ c = 113 ∨ c = 114 ∨ c = 115 ∨ c = 119 ∨ c = 120) F A F1 A1 → 0 ≤ p ∧ p ≤ 7 → 1 ≤ n ∧ n ≤ 12 → 1 ≤ k ∧ k ≤ n + 1 → ri = 0 ∨ ri = 1 → -2147483648 ≤ la ∧ la ≤ 2147483647 → n + 1 - k + 100 < (nN : Int) → sA m_X9_sort 9 (fun rv F' A' => ∃ z : Int, rv = some (gs_iv z) ∧ gs_I F' A' ∧ gs_fr (fun c j => c = 106 ∧ (j = 9 ∨ j = 11 ∨ j = 13 ∨ j = 15)) (fun c => c = 112 ∨ c = 113 ∨ c = 114 ∨ c = 115 ∨ c = 119 ∨ c = 120) F A F' A' ∧ (True)) 68 [(6, gs_iv k), (5, gs_iv la), (4, gs_iv ri), (0, .ref 106), (1, gs_iv p), (2, gs_iv n)] [] F1 A1) ∧ (∀ (ri : Int) (r : Int)  (F1 A1 : gs_F), gs_I F1 A1 → gs_fr (fun c j => c = 106 ∧ (j = 9 ∨ j = 11 ∨ j = 13 ∨ j = 15)) (fun c => c = 112 ∨ c = 113 ∨ c = 114 ∨ c = 115 ∨ c = 119 ∨ c = 120) F A F1 A1 → 0 ≤ p ∧ p ≤ 7 → 1 ≤ n ∧ n ≤ 12 → ri = 0 ∨ ri = 1 → 0 ≤ r ∧ r ≤ F1 106 3 ∧ F1 106 3 ≤ 12 → 13 - r < (nN : Int) → sA m_X9_sort 9 (fun rv F' A' => ∃ z : Int, rv = some (gs_iv z) ∧ gs_I F' A' ∧ gs_fr (fun c j => c = 106 ∧ (j = 9 ∨ j = 11 ∨ j = 13 ∨ j = 15)) (fun c => c = 112 ∨ c = 113 ∨ c = 114 ∨ c = 115 ∨ c = 119 ∨ c = 120) F A F' A' ∧ (True)) 123 [(6, gs_iv r), (4, gs_iv ri), (0, .ref 106), (1, gs_iv p), (2, gs_iv n)] [] F1 A1) := by
  intro nN
  induction nN with
  | zero =>
    exact ⟨fun a0 a1 a2 a3 a4 a5 a6 i0 i1 i2 i3 i4 hm => by exfalso; omega, fun a0 a1 a2 a3 a4 a5 i0 i1 i2 i3 hm => by exfalso; omega⟩
  | succ nN ih =>
    refine ⟨?_, ?_⟩
    · skip
      intro ri la k F1 A1 hI1 hf1 i0 i1 i2 i3 i4 hm
      have b1 : (0 : Int) ≤ F1 106 3 ∧ F1 106 3 ≤ 12 := hI1.1 106 3
      refine sA_iload dd_X9_sort_68 (.head _) ?_
      refine sA_iload_n dd_X9_sort_70 rfl (.tail _ (.tail _ (.tail _ (.tail _ (.tail _ (.head _)))))) ?_
      refine sA_icmp_gt (tgt := 120) dd_X9_sort_71 (by decide) (by omega) (by omega) (fun q2 => ?_) (fun q2 => ?_)
      · skip
        have hb3 : (0 : Int) ≤ F1 106 3 ∧ F1 106 3 ≤ 12 := hI1.1 106 3
        refine sA_iconst (z := 0) dd_X9_sort_120 ?_
        refine sA_istore (lv' := [(6, gs_iv 0), (5, gs_iv la), (4, gs_iv ri), (0, .ref 106), (1, gs_iv p), (2, gs_iv n)]) dd_X9_sort_121 (by decide) rfl ?_
        refine sA_sub (lv2 := [(6, gs_iv 0), (4, gs_iv ri), (0, .ref 106), (1, gs_iv p), (2, gs_iv n)]) (List.forall_mem_cons.mpr ⟨(.head _), (List.forall_mem_cons.mpr ⟨(.tail _ (.tail _ (.head _))), (List.forall_mem_cons.mpr ⟨(.tail _ (.tail _ (.tail _ (.head _)))), (List.forall_mem_cons.mpr ⟨(.tail _ (.tail _ (.tail _ (.tail _ (.head _))))), (List.forall_mem_cons.mpr ⟨(.tail _ (.tail _ (.tail _ (.tail _ (.tail _ (.head _)))))), (fun _ h => absurd h List.not_mem_nil)⟩)⟩)⟩)⟩)⟩) ?_
        exact ih.2 ri 0 F1 A1 hI1 hf1 (by omega) (by omega) (by omega) (by omega) (by omega)
      · skip
        refine sA_aload_n dd_X9_sort_74 rfl (.tail _ (.tail _ (.tail _ (.head _)))) ?_
        refine sA_iload_n dd_X9_sort_75 rfl (.tail _ (.tail _ (.tail _ (.tail _ (.head _))))) ?_
        refine sA_callV (y2 := m_X9_goOn) (n2 := 1) (d2 := 6) (a := 106) (ci := 9) (q := (RX9, TX9, 28)) (as := [gs_iv p]) (rest := []) dd_X9_sort_76 ok_X9_goOn ml_X9_239 rfl rfl (by decide) gs_s106 rfl rfl (Nat.le_of_ble_eq_true rfl) (by decide) (c_X9_goOn hI1 (by omega)) (fun r3 F4 A5 h6 => ?_)
        obtain ⟨z9, e8, I10, f11, x7⟩ := h6
        subst e8
        have v12 : F4 106 3 = F1 106 3 := f11.1 106 3 (by first | exact id | omega | (dsimp only; omega) | (dsimp only))
        have f13 := gs_fr_tr hf1 f11 (fun b j h => by first | exact False.elim h | omega | (dsimp only at h ⊢; omega)) (fun b h => by first | exact False.elim h | omega | (dsimp only at h ⊢; omega))
        show sA _ _ _ 79 _ [gs_iv z9] _ _
        refine sA_istore (lv' := [(7, gs_iv z9), (6, gs_iv k), (5, gs_iv la), (4, gs_iv ri), (0, .ref 106), (1, gs_iv p), (2, gs_iv n)]) dd_X9_sort_79 (by decide) rfl ?_
        refine sA_iload dd_X9_sort_81 (.tail _ (.tail _ (.tail _ (.head _)))) ?_
        refine sA_if_eq (tgt := 105) dd_X9_sort_83 (by decide) (by omega) (fun q14 => ?_) (fun q14 => ?_)
        · skip
          refine sA_iconst (z := 0) dd_X9_sort_105 ?_
          refine sA_istore (lv' := [(4, gs_iv 0), (7, gs_iv z9), (6, gs_iv k), (5, gs_iv la), (0, .ref 106), (1, gs_iv p), (2, gs_iv n)]) dd_X9_sort_106 (by decide) rfl ?_
          refine sA_aload_n dd_X9_sort_108 rfl (.tail _ (.tail _ (.tail _ (.tail _ (.head _))))) ?_
          refine sA_callV (y2 := m_X9_lengthNow) (n2 := 0) (d2 := 1) (a := 106) (ci := 9) (q := (RX9, TX9, 28)) (as := []) (rest := []) dd_X9_sort_109 ok_X9_lengthNow ml_X9_281 rfl rfl (by decide) gs_s106 rfl rfl (Nat.le_of_ble_eq_true rfl) (by decide) (c_X9_lengthNow I10 ) (fun r15 F16 A17 h18 => ?_)
          obtain ⟨z21, e20, e22, e23, x19⟩ := h18
          subst e20 e22 e23
          show sA _ _ _ 112 _ [gs_iv z21] _ _
          refine sA_istore (lv' := [(5, gs_iv z21), (4, gs_iv 0), (7, gs_iv z9), (6, gs_iv k), (0, .ref 106), (1, gs_iv p), (2, gs_iv n)]) dd_X9_sort_112 (by decide) rfl ?_
          refine sA_iinc (lv' := [(6, gs_iv (k + 1)), (5, gs_iv z21), (4, gs_iv 0), (7, gs_iv z9), (0, .ref 106), (1, gs_iv p), (2, gs_iv n)]) dd_X9_sort_114 (.tail _ (.tail _ (.tail _ (.head _)))) (by decide) rfl ?_
          refine sA_goto (tgt := 68) dd_X9_sort_117 (by decide) ?_
          have b24 : (0 : Int) ≤ F4 106 3 ∧ F4 106 3 ≤ 12 := I10.1 106 3
          refine sA_sub (lv2 := [(6, gs_iv (k + 1)), (5, gs_iv z21), (4, gs_iv 0), (0, .ref 106), (1, gs_iv p), (2, gs_iv n)]) (List.forall_mem_cons.mpr ⟨(.head _), (List.forall_mem_cons.mpr ⟨(.tail _ (.head _)), (List.forall_mem_cons.mpr ⟨(.tail _ (.tail _ (.head _))), (List.forall_mem_cons.mpr ⟨(.tail _ (.tail _ (.tail _ (.tail _ (.head _))))), (List.forall_mem_cons.mpr ⟨(.tail _ (.tail _ (.tail _ (.tail _ (.tail _ (.head _)))))), (List.forall_mem_cons.mpr ⟨(.tail _ (.tail _ (.tail _ (.tail _ (.tail _ (.tail _ (.head _))))))), (fun _ h => absurd h List.not_mem_nil)⟩)⟩)⟩)⟩)⟩)⟩) ?_
          exact ih.1 0 z21 (k + 1) F4 A5 I10 f13 (by omega) (by omega) (by omega) (by omega) (by omega) (by omega)
        · skip
          refine sA_iload dd_X9_sort_86 (.tail _ (.head _)) ?_
          refine sA_iconst (z := 1) dd_X9_sort_88 ?_
          refine sA_icmp_eq (tgt := 101) dd_X9_sort_89 (by decide) (by omega) (by omega) (fun q25 => ?_) (fun q25 => ?_)
          · skip
            refine sA_iconst (z := 1) dd_X9_sort_101 ?_
            refine sA_goto (tgt := 106) dd_X9_sort_102 (by decide) ?_
            refine sA_istore (lv' := [(4, gs_iv 1), (7, gs_iv z9), (6, gs_iv k), (5, gs_iv la), (0, .ref 106), (1, gs_iv p), (2, gs_iv n)]) dd_X9_sort_106 (by decide) rfl ?_
            refine sA_aload_n dd_X9_sort_108 rfl (.tail _ (.tail _ (.tail _ (.tail _ (.head _))))) ?_
            refine sA_callV (y2 := m_X9_lengthNow) (n2 := 0) (d2 := 1) (a := 106) (ci := 9) (q := (RX9, TX9, 28)) (as := []) (rest := []) dd_X9_sort_109 ok_X9_lengthNow ml_X9_281 rfl rfl (by decide) gs_s106 rfl rfl (Nat.le_of_ble_eq_true rfl) (by decide) (c_X9_lengthNow I10 ) (fun r26 F27 A28 h29 => ?_)
            obtain ⟨z32, e31, e33, e34, x30⟩ := h29
            subst e31 e33 e34
            show sA _ _ _ 112 _ [gs_iv z32] _ _
            refine sA_istore (lv' := [(5, gs_iv z32), (4, gs_iv 1), (7, gs_iv z9), (6, gs_iv k), (0, .ref 106), (1, gs_iv p), (2, gs_iv n)]) dd_X9_sort_112 (by decide) rfl ?_
            refine sA_iinc (lv' := [(6, gs_iv (k + 1)), (5, gs_iv z32), (4, gs_iv 1), (7, gs_iv z9), (0, .ref 106), (1, gs_iv p), (2, gs_iv n)]) dd_X9_sort_114 (.tail _ (.tail _ (.tail _ (.head _)))) (by decide) rfl ?_
            refine sA_goto (tgt := 68) dd_X9_sort_117 (by decide) ?_
            have b35 : (0 : Int) ≤ F4 106 3 ∧ F4 106 3 ≤ 12 := I10.1 106 3
            refine sA_sub (lv2 := [(6, gs_iv (k + 1)), (5, gs_iv z32), (4, gs_iv 1), (0, .ref 106), (1, gs_iv p), (2, gs_iv n)]) (List.forall_mem_cons.mpr ⟨(.head _), (List.forall_mem_cons.mpr ⟨(.tail _ (.head _)), (List.forall_mem_cons.mpr ⟨(.tail _ (.tail _ (.head _))), (List.forall_mem_cons.mpr ⟨(.tail _ (.tail _ (.tail _ (.tail _ (.head _))))), (List.forall_mem_cons.mpr ⟨(.tail _ (.tail _ (.tail _ (.tail _ (.tail _ (.head _)))))), (List.forall_mem_cons.mpr ⟨(.tail _ (.tail _ (.tail _ (.tail _ (.tail _ (.tail _ (.head _))))))), (fun _ h => absurd h List.not_mem_nil)⟩)⟩)⟩)⟩)⟩)⟩) ?_
            exact ih.1 1 z32 (k + 1) F4 A5 I10 f13 (by omega) (by omega) (by omega) (by omega) (by omega) (by omega)
          · skip
            refine sA_aload_n dd_X9_sort_92 rfl (.tail _ (.tail _ (.tail _ (.tail _ (.head _))))) ?_
            refine sA_callV (y2 := m_X9_lengthNow) (n2 := 0) (d2 := 1) (a := 106) (ci := 9) (q := (RX9, TX9, 28)) (as := []) (rest := []) dd_X9_sort_93 ok_X9_lengthNow ml_X9_281 rfl rfl (by decide) gs_s106 rfl rfl (Nat.le_of_ble_eq_true rfl) (by decide) (c_X9_lengthNow I10 ) (fun r36 F37 A38 h39 => ?_)
            obtain ⟨z42, e41, e43, e44, x40⟩ := h39
            subst e41 e43 e44
            show sA _ _ _ 96 _ [gs_iv z42] _ _
            refine sA_iload dd_X9_sort_96 (.tail _ (.tail _ (.head _))) ?_
            refine sA_icmp_le (tgt := 105) dd_X9_sort_98 (by decide) (by omega) (by omega) (fun q45 => ?_) (fun q45 => ?_)
            · skip
              refine sA_iconst (z := 0) dd_X9_sort_105 ?_
              refine sA_istore (lv' := [(4, gs_iv 0), (7, gs_iv z9), (6, gs_iv k), (5, gs_iv la), (0, .ref 106), (1, gs_iv p), (2, gs_iv n)]) dd_X9_sort_106 (by decide) rfl ?_
              refine sA_aload_n dd_X9_sort_108 rfl (.tail _ (.tail _ (.tail _ (.tail _ (.head _))))) ?_
              refine sA_callV (y2 := m_X9_lengthNow) (n2 := 0) (d2 := 1) (a := 106) (ci := 9) (q := (RX9, TX9, 28)) (as := []) (rest := []) dd_X9_sort_109 ok_X9_lengthNow ml_X9_281 rfl rfl (by decide) gs_s106 rfl rfl (Nat.le_of_ble_eq_true rfl) (by decide) (c_X9_lengthNow I10 ) (fun r46 F47 A48 h49 => ?_)
              obtain ⟨z52, e51, e53, e54, x50⟩ := h49
              subst e51 e53 e54
              show sA _ _ _ 112 _ [gs_iv z52] _ _
              refine sA_istore (lv' := [(5, gs_iv z52), (4, gs_iv 0), (7, gs_iv z9), (6, gs_iv k), (0, .ref 106), (1, gs_iv p), (2, gs_iv n)]) dd_X9_sort_112 (by decide) rfl ?_
              refine sA_iinc (lv' := [(6, gs_iv (k + 1)), (5, gs_iv z52), (4, gs_iv 0), (7, gs_iv z9), (0, .ref 106), (1, gs_iv p), (2, gs_iv n)]) dd_X9_sort_114 (.tail _ (.tail _ (.tail _ (.head _)))) (by decide) rfl ?_
              refine sA_goto (tgt := 68) dd_X9_sort_117 (by decide) ?_
              have b55 : (0 : Int) ≤ F4 106 3 ∧ F4 106 3 ≤ 12 := I10.1 106 3
              refine sA_sub (lv2 := [(6, gs_iv (k + 1)), (5, gs_iv z52), (4, gs_iv 0), (0, .ref 106), (1, gs_iv p), (2, gs_iv n)]) (List.forall_mem_cons.mpr ⟨(.head _), (List.forall_mem_cons.mpr ⟨(.tail _ (.head _)), (List.forall_mem_cons.mpr ⟨(.tail _ (.tail _ (.head _))), (List.forall_mem_cons.mpr ⟨(.tail _ (.tail _ (.tail _ (.tail _ (.head _))))), (List.forall_mem_cons.mpr ⟨(.tail _ (.tail _ (.tail _ (.tail _ (.tail _ (.head _)))))), (List.forall_mem_cons.mpr ⟨(.tail _ (.tail _ (.tail _ (.tail _ (.tail _ (.tail _ (.head _))))))), (fun _ h => absurd h List.not_mem_nil)⟩)⟩)⟩)⟩)⟩)⟩) ?_
              exact ih.1 0 z52 (k + 1) F4 A5 I10 f13 (by omega) (by omega) (by omega) (by omega) (by omega) (by omega)
            · skip
              refine sA_iconst (z := 1) dd_X9_sort_101 ?_
              refine sA_goto (tgt := 106) dd_X9_sort_102 (by decide) ?_
              refine sA_istore (lv' := [(4, gs_iv 1), (7, gs_iv z9), (6, gs_iv k), (5, gs_iv la), (0, .ref 106), (1, gs_iv p), (2, gs_iv n)]) dd_X9_sort_106 (by decide) rfl ?_
              refine sA_aload_n dd_X9_sort_108 rfl (.tail _ (.tail _ (.tail _ (.tail _ (.head _))))) ?_
              refine sA_callV (y2 := m_X9_lengthNow) (n2 := 0) (d2 := 1) (a := 106) (ci := 9) (q := (RX9, TX9, 28)) (as := []) (rest := []) dd_X9_sort_109 ok_X9_lengthNow ml_X9_281 rfl rfl (by decide) gs_s106 rfl rfl (Nat.le_of_ble_eq_true rfl) (by decide) (c_X9_lengthNow I10 ) (fun r56 F57 A58 h59 => ?_)
              obtain ⟨z62, e61, e63, e64, x60⟩ := h59
              subst e61 e63 e64
              show sA _ _ _ 112 _ [gs_iv z62] _ _
              refine sA_istore (lv' := [(5, gs_iv z62), (4, gs_iv 1), (7, gs_iv z9), (6, gs_iv k), (0, .ref 106), (1, gs_iv p), (2, gs_iv n)]) dd_X9_sort_112 (by decide) rfl ?_
              refine sA_iinc (lv' := [(6, gs_iv (k + 1)), (5, gs_iv z62), (4, gs_iv 1), (7, gs_iv z9), (0, .ref 106), (1, gs_iv p), (2, gs_iv n)]) dd_X9_sort_114 (.tail _ (.tail _ (.tail _ (.head _)))) (by decide) rfl ?_
              refine sA_goto (tgt := 68) dd_X9_sort_117 (by decide) ?_
              have b65 : (0 : Int) ≤ F4 106 3 ∧ F4 106 3 ≤ 12 := I10.1 106 3
              refine sA_sub (lv2 := [(6, gs_iv (k + 1)), (5, gs_iv z62), (4, gs_iv 1), (0, .ref 106), (1, gs_iv p), (2, gs_iv n)]) (List.forall_mem_cons.mpr ⟨(.head _), (List.forall_mem_cons.mpr ⟨(.tail _ (.head _)), (List.forall_mem_cons.mpr ⟨(.tail _ (.tail _ (.head _))), (List.forall_mem_cons.mpr ⟨(.tail _ (.tail _ (.tail _ (.tail _ (.head _))))), (List.forall_mem_cons.mpr ⟨(.tail _ (.tail _ (.tail _ (.tail _ (.tail _ (.head _)))))), (List.forall_mem_cons.mpr ⟨(.tail _ (.tail _ (.tail _ (.tail _ (.tail _ (.tail _ (.head _))))))), (fun _ h => absurd h List.not_mem_nil)⟩)⟩)⟩)⟩)⟩)⟩) ?_
              exact ih.1 1 z62 (k + 1) F4 A5 I10 f13 (by omega) (by omega) (by omega) (by omega) (by omega) (by omega)
    · skip
      intro ri r F1 A1 hI1 hf1 i0 i1 i2 i3 hm
      have b66 : (0 : Int) ≤ F1 106 3 ∧ F1 106 3 ≤ 12 := hI1.1 106 3
      have hF3 := hf1.1 106 3 (by dsimp only; omega)
      have hA8 := hf1.2 108 (by dsimp only; omega)
      have hX1 : ∀ r : Nat, (r : Int) < F1 106 3 → 1 ≤ A1 108 r := fun r h => by rw [hA8]; exact hX r (by omega)
      refine sA_iload dd_X9_sort_123 (.head _) ?_
      refine sA_aload_n dd_X9_sort_125 rfl (.tail _ (.tail _ (.head _))) ?_
      refine sA_geti (ci := 9) (j := 3) (q := (RX9, TX9, 28)) dd_X9_sort_126 rfl (by decide) fl_X9_70 (by decide) gs_s106 rfl ?_
      refine sA_icmp_ge (tgt := 160) dd_X9_sort_129 (by decide) (by omega) (by omega) (fun q67 => ?_) (fun q67 => ?_)
      · skip
        refine sA_iload dd_X9_sort_160 (.tail _ (.head _)) ?_
        refine sA_if_eq (tgt := 169) dd_X9_sort_162 (by decide) (by omega) (fun q68 => ?_) (fun q68 => ?_)
        · skip
          refine sA_iconst (z := 3) dd_X9_sort_169 ?_
          refine sA_iret (z := 3) dd_X9_sort_170 rfl ?_
          exact ⟨_, rfl, hI1, hf1, trivial⟩
        · skip
          refine sA_iconst (z := 2) dd_X9_sort_165 ?_
          refine sA_goto (tgt := 170) dd_X9_sort_166 (by decide) ?_
          refine sA_iret (z := 2) dd_X9_sort_170 rfl ?_
          exact ⟨_, rfl, hI1, hf1, trivial⟩
      · skip
        have hx_r := hX1 r.toNat (by omega)
        refine sA_aload_n dd_X9_sort_132 rfl (.tail _ (.tail _ (.head _))) ?_
        refine sA_iload dd_X9_sort_133 (.head _) ?_
        refine sA_callV (y2 := m_X9_isSimple) (n2 := 1) (d2 := 8) (a := 106) (ci := 9) (q := (RX9, TX9, 28)) (as := [gs_iv r]) (rest := []) dd_X9_sort_135 ok_X9_isSimple ml_X9_151 rfl rfl (by decide) gs_s106 rfl rfl (Nat.le_of_ble_eq_true rfl) (by decide) (c_X9_isSimple hI1 (by omega) (by omega)) (fun r69 F70 A71 h72 => ?_)
        obtain ⟨z75, e74, I76, f77, x73⟩ := h72
        subst e74
        have v78 : F70 106 3 = F1 106 3 := f77.1 106 3 (by first | exact id | omega | (dsimp only; omega) | (dsimp only))
        have v79 : A71 108 r.toNat = A1 108 r.toNat := congrFun (f77.2 108 (by first | exact id | omega | (dsimp only; omega) | (dsimp only))) _
        have f80 := gs_fr_tr hf1 f77 (fun b j h => by first | exact False.elim h | omega | (dsimp only at h ⊢; omega)) (fun b h => by first | exact False.elim h | omega | (dsimp only at h ⊢; omega))
        show sA _ _ _ 138 _ [gs_iv z75] _ _
        refine sA_if_eq (tgt := 154) dd_X9_sort_138 (by decide) (by omega) (fun q81 => ?_) (fun q81 => ?_)
        · skip
          refine sA_iinc (lv' := [(6, gs_iv (r + 1)), (4, gs_iv ri), (0, .ref 106), (1, gs_iv p), (2, gs_iv n)]) dd_X9_sort_154 (.head _) (by decide) rfl ?_
          refine sA_goto (tgt := 123) dd_X9_sort_157 (by decide) ?_
          have b82 : (0 : Int) ≤ F70 106 3 ∧ F70 106 3 ≤ 12 := I76.1 106 3
          refine sA_sub (lv2 := [(6, gs_iv (r + 1)), (4, gs_iv ri), (0, .ref 106), (1, gs_iv p), (2, gs_iv n)]) (List.forall_mem_cons.mpr ⟨(.head _), (List.forall_mem_cons.mpr ⟨(.tail _ (.head _)), (List.forall_mem_cons.mpr ⟨(.tail _ (.tail _ (.head _))), (List.forall_mem_cons.mpr ⟨(.tail _ (.tail _ (.tail _ (.head _)))), (List.forall_mem_cons.mpr ⟨(.tail _ (.tail _ (.tail _ (.tail _ (.head _))))), (fun _ h => absurd h List.not_mem_nil)⟩)⟩)⟩)⟩)⟩) ?_
          exact ih.2 ri (r + 1) F70 A71 I76 f80 (by omega) (by omega) (by omega) (by omega) (by omega)
        · skip
          refine sA_aload_n dd_X9_sort_141 rfl (.tail _ (.tail _ (.head _))) ?_
          refine sA_iload dd_X9_sort_142 (.head _) ?_
          refine sA_iload_n dd_X9_sort_144 rfl (.tail _ (.tail _ (.tail _ (.head _)))) ?_
          refine sA_iload_n dd_X9_sort_145 rfl (.tail _ (.tail _ (.tail _ (.tail _ (.head _))))) ?_
          refine sA_callV (y2 := m_X9_comesBack) (n2 := 3) (d2 := 6) (a := 106) (ci := 9) (q := (RX9, TX9, 28)) (as := [gs_iv r, gs_iv p, gs_iv n]) (rest := []) dd_X9_sort_146 ok_X9_comesBack ml_X9_286 rfl rfl (by decide) gs_s106 rfl rfl (Nat.le_of_ble_eq_true rfl) (by decide) (c_X9_comesBack I76 (by omega) (by omega) (by omega) (by omega)) (fun r83 F84 A85 h86 => ?_)
          obtain ⟨z89, e88, I90, f91, x87⟩ := h86
          subst e88
          have v92 : F84 106 3 = F70 106 3 := f91.1 106 3 (by first | exact id | omega | (dsimp only; omega) | (dsimp only))
          have v93 : A85 108 r.toNat = A71 108 r.toNat := congrFun (f91.2 108 (by first | exact id | omega | (dsimp only; omega) | (dsimp only))) _
          have f94 := gs_fr_tr f80 f91 (fun b j h => by first | exact False.elim h | omega | (dsimp only at h ⊢; omega)) (fun b h => by first | exact False.elim h | omega | (dsimp only at h ⊢; omega))
          show sA _ _ _ 149 _ [gs_iv z89] _ _
          refine sA_if_eq (tgt := 154) dd_X9_sort_149 (by decide) (by omega) (fun q95 => ?_) (fun q95 => ?_)
          · skip
            refine sA_iinc (lv' := [(6, gs_iv (r + 1)), (4, gs_iv ri), (0, .ref 106), (1, gs_iv p), (2, gs_iv n)]) dd_X9_sort_154 (.head _) (by decide) rfl ?_
            refine sA_goto (tgt := 123) dd_X9_sort_157 (by decide) ?_
            have b96 : (0 : Int) ≤ F84 106 3 ∧ F84 106 3 ≤ 12 := I90.1 106 3
            refine sA_sub (lv2 := [(6, gs_iv (r + 1)), (4, gs_iv ri), (0, .ref 106), (1, gs_iv p), (2, gs_iv n)]) (List.forall_mem_cons.mpr ⟨(.head _), (List.forall_mem_cons.mpr ⟨(.tail _ (.head _)), (List.forall_mem_cons.mpr ⟨(.tail _ (.tail _ (.head _))), (List.forall_mem_cons.mpr ⟨(.tail _ (.tail _ (.tail _ (.head _)))), (List.forall_mem_cons.mpr ⟨(.tail _ (.tail _ (.tail _ (.tail _ (.head _))))), (fun _ h => absurd h List.not_mem_nil)⟩)⟩)⟩)⟩)⟩) ?_
            exact ih.2 ri (r + 1) F84 A85 I90 f94 (by omega) (by omega) (by omega) (by omega) (by omega)
          · skip
            refine sA_iconst (z := 1) dd_X9_sort_152 ?_
            refine sA_iret (z := 1) dd_X9_sort_153 rfl ?_
            exact ⟨_, rfl, I90, f94, trivial⟩
theorem c_X9_sort {p n : Int} {F A : gs_F} (hI : gs_I F A) (hp : -2147483648 ≤ p ∧ p ≤ 2147483647) (hn : -2147483648 ≤ n ∧ n ≤ 2147483647) (hX : ∀ r : Nat, (r : Int) < F 106 3 → 1 ≤ A 108 r) : sC m_X9_sort 9 [.ref 106, gs_iv p, gs_iv n] F A (fun rv F' A' => ∃ z : Int, rv = some (gs_iv z) ∧ gs_I F' A' ∧ gs_fr (fun c j => c = 106 ∧ (j = 9 ∨ j = 11 ∨ j = 13 ∨ j = 15)) (fun c => c = 112 ∨ c = 113 ∨ c = 114 ∨ c = 115 ∨ c = 119 ∨ c = 120) F A F' A' ∧ (True)) := by
  refine sC_of ok_X9_sort.1 (Nat.le_of_ble_eq_true rfl) ?_
  show sA _ _ _ 0 [(0, .ref 106), (1, gs_iv p), (2, gs_iv n)] [] F A
  have hf : gs_fr (fun c j => c = 106 ∧ (j = 9 ∨ j = 11 ∨ j = 13 ∨ j = 15)) (fun c => c = 112 ∨ c = 113 ∨ c = 114 ∨ c = 115 ∨ c = 119 ∨ c = 120) F A F A := gs_fr_refl _ _ _ _
  have b97 : (0 : Int) ≤ F 106 3 ∧ F 106 3 ≤ 12 := hI.1 106 3
  refine sA_aload_n dd_X9_sort_0 rfl (.head _) ?_
  refine sA_iload_n dd_X9_sort_1 rfl (.tail _ (.head _)) ?_
  refine sA_callV (y2 := m_X9_noPlan) (n2 := 1) (d2 := 2) (a := 106) (ci := 9) (q := (RX9, TX9, 28)) (as := [gs_iv p]) (rest := []) dd_X9_sort_2 ok_X9_noPlan ml_X9_218 rfl rfl (by decide) gs_s106 rfl rfl (Nat.le_of_ble_eq_true rfl) (by decide) (c_X9_noPlan hI (by omega)) (fun r98 F99 A100 h101 => ?_)
  obtain ⟨z104, e103, e105, e106, x102⟩ := h101
  subst e103 e105 e106
  show sA _ _ _ 5 _ [gs_iv z104] _ _
  refine sA_if_eq (tgt := 12) dd_X9_sort_5 (by decide) (by omega) (fun q107 => ?_) (fun q107 => ?_)
  · skip
    refine sA_iload_n dd_X9_sort_12 rfl (.tail _ (.tail _ (.head _))) ?_
    refine sA_i2l dd_X9_sort_13 (by omega) ?_
    refine sA_lconst (z := 1) dd_X9_sort_14 (by decide) ?_
    refine sA_ldc2 (z := 12) dd_X9_sort_15 (ri_lw_in (pl := 1168) (by decide +kernel)) ?_
    refine sA_callS (y2 := m_X9_in) (n2 := 3) (d2 := 1) (as := [gs_lv n, gs_lv 1, gs_lv 12]) (rest := []) dd_X9_sort_18 ok_X9_in ml_X9_75 rfl rfl (Nat.le_of_ble_eq_true rfl) (by decide) (c_X9_in (by omega) (by omega) (by omega)) (fun r108 F109 A110 h111 => ?_)
    obtain ⟨z114, e113, e115, e116, x112⟩ := h111
    subst e113 e115 e116
    show sA _ _ _ 21 _ [gs_iv z114] _ _
    refine sA_if_ne (tgt := 28) dd_X9_sort_21 (by decide) (by omega) (fun q117 => ?_) (fun q117 => ?_)
    · skip
      refine sA_aload_n dd_X9_sort_28 rfl (.head _) ?_
      refine sA_iload_n dd_X9_sort_29 rfl (.tail _ (.head _)) ?_
      refine sA_iload_n dd_X9_sort_30 rfl (.tail _ (.tail _ (.head _))) ?_
      refine sA_callV (y2 := m_X9_findOrder) (n2 := 2) (d2 := 7) (a := 106) (ci := 9) (q := (RX9, TX9, 28)) (as := [gs_iv p, gs_iv n]) (rest := []) dd_X9_sort_31 ok_X9_findOrder ml_X9_260 rfl rfl (by decide) gs_s106 rfl rfl (Nat.le_of_ble_eq_true rfl) (by decide) (c_X9_findOrder hI (by omega) (by omega)) (fun r118 F119 A120 h121 => ?_)
      obtain ⟨z124, e123, I125, f126, x122⟩ := h121
      subst e123
      have v127 : F119 106 3 = F 106 3 := f126.1 106 3 (by first | exact id | omega | (dsimp only; omega) | (dsimp only))
      have f128 := gs_fr_tr hf f126 (fun b j h => by first | exact False.elim h | omega | (dsimp only at h ⊢; omega)) (fun b h => by first | exact False.elim h | omega | (dsimp only at h ⊢; omega))
      show sA _ _ _ 34 _ [gs_iv z124] _ _
      refine sA_istore_n (lv' := [(3, gs_iv z124), (0, .ref 106), (1, gs_iv p), (2, gs_iv n)]) dd_X9_sort_34 rfl (by decide) rfl ?_
      refine sA_iload_n dd_X9_sort_35 rfl (.head _) ?_
      refine sA_iconst (z := (-1)) dd_X9_sort_36 ?_
      refine sA_icmp_eq (tgt := 55) dd_X9_sort_37 (by decide) (by omega) (by omega) (fun q129 => ?_) (fun q129 => ?_)
      · skip
        refine sA_aload_n dd_X9_sort_55 rfl (.tail _ (.head _)) ?_
        refine sA_callV (y2 := m_X9_startImages) (n2 := 0) (d2 := 1) (a := 106) (ci := 9) (q := (RX9, TX9, 28)) (as := []) (rest := []) dd_X9_sort_56 ok_X9_startImages ml_X9_236 rfl rfl (by decide) gs_s106 rfl rfl (Nat.le_of_ble_eq_true rfl) (by decide) (c_X9_startImages I125 ) (fun r130 F131 A132 h133 => ?_)
        obtain ⟨e135, I136, f137, x134⟩ := h133
        subst e135
        have v138 : F131 106 3 = F119 106 3 := f137.1 106 3 (by first | exact id | omega | (dsimp only; omega) | (dsimp only))
        have f139 := gs_fr_tr f128 f137 (fun b j h => by first | exact False.elim h | omega | (dsimp only at h ⊢; omega)) (fun b h => by first | exact False.elim h | omega | (dsimp only at h ⊢; omega))
        show sA _ _ _ 59 _ [] _ _
        refine sA_iconst (z := 1) dd_X9_sort_59 ?_
        refine sA_istore (lv' := [(4, gs_iv 1), (3, gs_iv z124), (0, .ref 106), (1, gs_iv p), (2, gs_iv n)]) dd_X9_sort_60 (by decide) rfl ?_
        refine sA_iconst (z := 0) dd_X9_sort_62 ?_
        refine sA_istore (lv' := [(5, gs_iv 0), (4, gs_iv 1), (3, gs_iv z124), (0, .ref 106), (1, gs_iv p), (2, gs_iv n)]) dd_X9_sort_63 (by decide) rfl ?_
        refine sA_iconst (z := 1) dd_X9_sort_65 ?_
        refine sA_istore (lv' := [(6, gs_iv 1), (5, gs_iv 0), (4, gs_iv 1), (3, gs_iv z124), (0, .ref 106), (1, gs_iv p), (2, gs_iv n)]) dd_X9_sort_66 (by decide) rfl ?_
        have b140 : (0 : Int) ≤ F131 106 3 ∧ F131 106 3 ≤ 12 := I136.1 106 3
        refine sA_sub (lv2 := [(6, gs_iv 1), (5, gs_iv 0), (4, gs_iv 1), (0, .ref 106), (1, gs_iv p), (2, gs_iv n)]) (List.forall_mem_cons.mpr ⟨(.head _), (List.forall_mem_cons.mpr ⟨(.tail _ (.head _)), (List.forall_mem_cons.mpr ⟨(.tail _ (.tail _ (.head _))), (List.forall_mem_cons.mpr ⟨(.tail _ (.tail _ (.tail _ (.tail _ (.head _))))), (List.forall_mem_cons.mpr ⟨(.tail _ (.tail _ (.tail _ (.tail _ (.tail _ (.head _)))))), (List.forall_mem_cons.mpr ⟨(.tail _ (.tail _ (.tail _ (.tail _ (.tail _ (.tail _ (.head _))))))), (fun _ h => absurd h List.not_mem_nil)⟩)⟩)⟩)⟩)⟩)⟩) ?_
        exact (k_X9_sort hI hp hn hX (n + 1 - 1 + 100 : Int).toNat.succ).1 1 0 1 F131 A132 I136 f139 (by omega) (by omega) (by omega) (by omega) (by omega) (by omega)
      · skip
        refine sA_iload_n dd_X9_sort_40 rfl (.head _) ?_
        refine sA_sipush (z := (-1005)) dd_X9_sort_41 (by decide) ?_
        refine sA_icmp_ne (tgt := 53) dd_X9_sort_44 (by decide) (by omega) (by omega) (fun q141 => ?_) (fun q141 => ?_)
        · skip
          refine sA_iconst (z := 0) dd_X9_sort_53 ?_
          refine sA_iret (z := 0) dd_X9_sort_54 rfl ?_
          exact ⟨_, rfl, I125, f128, trivial⟩
        · skip
          refine sA_sipush (z := (-1005)) dd_X9_sort_47 (by decide) ?_
          refine sA_goto (tgt := 54) dd_X9_sort_50 (by decide) ?_
          refine sA_iret (z := -1005) dd_X9_sort_54 rfl ?_
          exact ⟨_, rfl, I125, f128, trivial⟩
    · skip
      refine sA_sipush (z := (-1002)) dd_X9_sort_24 (by decide) ?_
      refine sA_iret (z := -1002) dd_X9_sort_27 rfl ?_
      exact ⟨_, rfl, hI, hf, trivial⟩
  · skip
    refine sA_sipush (z := (-1001)) dd_X9_sort_8 (by decide) ?_
    refine sA_iret (z := -1001) dd_X9_sort_11 rfl ?_
    exact ⟨_, rfl, hI, hf, trivial⟩
theorem dd_X9_draftPlan_0 : decode cX9_draftPlan 0 = .ok (.aload_n 0, 1) := by decide +kernel
theorem dd_X9_draftPlan_1 : decode cX9_draftPlan 1 = .ok (.getfield 19, 3) := by decide +kernel
theorem dd_X9_draftPlan_4 : decode cX9_draftPlan 4 = .ok (.bipush 8, 2) := by decide +kernel
theorem dd_X9_draftPlan_6 : decode cX9_draftPlan 6 = .ok (.iload_n 3, 1) := by decide +kernel
theorem dd_X9_draftPlan_7 : decode cX9_draftPlan 7 = .ok (.ifCond .ge 7, 3) := by decide +kernel
theorem dd_X9_draftPlan_10 : decode cX9_draftPlan 10 = .ok (.iconst 2, 1) := by decide +kernel
theorem dd_X9_draftPlan_11 : decode cX9_draftPlan 11 = .ok (.goto 4, 3) := by decide +kernel
theorem dd_X9_draftPlan_14 : decode cX9_draftPlan 14 = .ok (.iconst 3, 1) := by decide +kernel
theorem dd_X9_draftPlan_15 : decode cX9_draftPlan 15 = .ok (.iastore, 1) := by decide +kernel
theorem dd_X9_draftPlan_16 : decode cX9_draftPlan 16 = .ok (.aload_n 0, 1) := by decide +kernel
theorem dd_X9_draftPlan_17 : decode cX9_draftPlan 17 = .ok (.getfield 22, 3) := by decide +kernel
theorem dd_X9_draftPlan_20 : decode cX9_draftPlan 20 = .ok (.sipush 480, 3) := by decide +kernel
theorem dd_X9_draftPlan_23 : decode cX9_draftPlan 23 = .ok (.iload_n 1, 1) := by decide +kernel
theorem dd_X9_draftPlan_24 : decode cX9_draftPlan 24 = .ok (.iastore, 1) := by decide +kernel
theorem dd_X9_draftPlan_25 : decode cX9_draftPlan 25 = .ok (.aload_n 0, 1) := by decide +kernel
theorem dd_X9_draftPlan_26 : decode cX9_draftPlan 26 = .ok (.getfield 22, 3) := by decide +kernel
theorem dd_X9_draftPlan_29 : decode cX9_draftPlan 29 = .ok (.sipush 481, 3) := by decide +kernel
theorem dd_X9_draftPlan_32 : decode cX9_draftPlan 32 = .ok (.iload_n 2, 1) := by decide +kernel
theorem dd_X9_draftPlan_33 : decode cX9_draftPlan 33 = .ok (.iastore, 1) := by decide +kernel
theorem dd_X9_draftPlan_34 : decode cX9_draftPlan 34 = .ok (.aload_n 0, 1) := by decide +kernel
theorem dd_X9_draftPlan_35 : decode cX9_draftPlan 35 = .ok (.getfield 22, 3) := by decide +kernel
theorem dd_X9_draftPlan_38 : decode cX9_draftPlan 38 = .ok (.sipush 482, 3) := by decide +kernel
theorem dd_X9_draftPlan_41 : decode cX9_draftPlan 41 = .ok (.iload_n 3, 1) := by decide +kernel
theorem dd_X9_draftPlan_42 : decode cX9_draftPlan 42 = .ok (.iastore, 1) := by decide +kernel
theorem dd_X9_draftPlan_43 : decode cX9_draftPlan 43 = .ok (.return_, 1) := by decide +kernel
theorem ok_X9_draftPlan : am_okM m_X9_draftPlan 3 ∧ Cond.instanceMethod m_X9_draftPlan.1 ∈ am_tbl ∧ Cond.selects m_X9_draftPlan.1.cls m_X9_draftPlan.1 m_X9_draftPlan.1 ∈ am_tbl := ri_mk1 1184 93 1183 76 (by decide +kernel)
theorem c_X9_draftPlan {a b e : Int} {F A : gs_F} (hI : gs_I F A) (ha : -2147483648 ≤ a ∧ a ≤ 2147483647) (hb : -2147483648 ≤ b ∧ b ≤ 2147483647) (he : -2147483648 ≤ e ∧ e ≤ 2147483647) : sC m_X9_draftPlan 1 [.ref 106, gs_iv a, gs_iv b, gs_iv e] F A (fun rv F' A' => rv = none ∧ gs_I F' A' ∧ gs_fr (fun _ _ => False) (fun c => c = 110 ∨ c = 111) F A F' A' ∧ (True)) := by
  refine sC_of ok_X9_draftPlan.1 (Nat.le_of_ble_eq_true rfl) ?_
  show sA _ _ _ 0 [(0, .ref 106), (1, gs_iv a), (2, gs_iv b), (3, gs_iv e)] [] F A
  have hf : gs_fr (fun _ _ => False) (fun c => c = 110 ∨ c = 111) F A F A := gs_fr_refl _ _ _ _
  refine sA_aload_n dd_X9_draftPlan_0 rfl (.head _) ?_
  refine sA_getr (ci := 9) (j := 6) (q := (RX9, TX9, 28)) dd_X9_draftPlan_1 rfl (by decide) fl_X9_19 (by decide) gs_s106 rfl ?_
  refine sA_bipush (z := 8) dd_X9_draftPlan_4 (by decide) ?_
  refine sA_iload_n dd_X9_draftPlan_6 rfl (.tail _ (.tail _ (.tail _ (.head _)))) ?_
  refine sA_if_ge (tgt := 14) dd_X9_draftPlan_7 (by decide) (by omega) (fun q1 => ?_) (fun q1 => ?_)
  · skip
    refine sA_iconst (z := 3) dd_X9_draftPlan_14 ?_
    refine sA_iast (n := 9) dd_X9_draftPlan_15 (by decide) gs_s110 (by omega) (by decide) ?_
    have I3 : gs_I F (gs_up A 110 ((8 : Int).toNat) 3) := gs_I_ast hI (show (0 : Int) ≤ 3 ∧ 3 ≤ 60 by omega)
    have f4 := gs_fr_ast hf (a := 110) (z := 3) (i := (8 : Int).toNat) (by first | omega | (dsimp only; omega) | (dsimp only))
    generalize gs_up A 110 ((8 : Int).toNat) 3 = A2 at I3 f4 ⊢
    refine sA_aload_n dd_X9_draftPlan_16 rfl (.head _) ?_
    refine sA_getr (ci := 9) (j := 7) (q := (RX9, TX9, 28)) dd_X9_draftPlan_17 rfl (by decide) fl_X9_22 (by decide) gs_s106 rfl ?_
    refine sA_sipush (z := 480) dd_X9_draftPlan_20 (by decide) ?_
    refine sA_iload_n dd_X9_draftPlan_23 rfl (.tail _ (.head _)) ?_
    refine sA_iast (n := 540) dd_X9_draftPlan_24 (by decide) gs_s111 (by omega) (by decide) ?_
    have I6 : gs_I F (gs_up A2 111 ((480 : Int).toNat) a) := gs_I_ast I3 (show (-2147483648 : Int) ≤ a ∧ a ≤ 2147483647 by omega)
    have f7 := gs_fr_ast f4 (a := 111) (z := a) (i := (480 : Int).toNat) (by first | omega | (dsimp only; omega) | (dsimp only))
    generalize gs_up A2 111 ((480 : Int).toNat) a = A5 at I6 f7 ⊢
    refine sA_aload_n dd_X9_draftPlan_25 rfl (.head _) ?_
    refine sA_getr (ci := 9) (j := 7) (q := (RX9, TX9, 28)) dd_X9_draftPlan_26 rfl (by decide) fl_X9_22 (by decide) gs_s106 rfl ?_
    refine sA_sipush (z := 481) dd_X9_draftPlan_29 (by decide) ?_
    refine sA_iload_n dd_X9_draftPlan_32 rfl (.tail _ (.tail _ (.head _))) ?_
    refine sA_iast (n := 540) dd_X9_draftPlan_33 (by decide) gs_s111 (by omega) (by decide) ?_
    have I9 : gs_I F (gs_up A5 111 ((481 : Int).toNat) b) := gs_I_ast I6 (show (-2147483648 : Int) ≤ b ∧ b ≤ 2147483647 by omega)
    have f10 := gs_fr_ast f7 (a := 111) (z := b) (i := (481 : Int).toNat) (by first | omega | (dsimp only; omega) | (dsimp only))
    generalize gs_up A5 111 ((481 : Int).toNat) b = A8 at I9 f10 ⊢
    refine sA_aload_n dd_X9_draftPlan_34 rfl (.head _) ?_
    refine sA_getr (ci := 9) (j := 7) (q := (RX9, TX9, 28)) dd_X9_draftPlan_35 rfl (by decide) fl_X9_22 (by decide) gs_s106 rfl ?_
    refine sA_sipush (z := 482) dd_X9_draftPlan_38 (by decide) ?_
    refine sA_iload_n dd_X9_draftPlan_41 rfl (.tail _ (.tail _ (.tail _ (.head _)))) ?_
    refine sA_iast (n := 540) dd_X9_draftPlan_42 (by decide) gs_s111 (by omega) (by decide) ?_
    have I12 : gs_I F (gs_up A8 111 ((482 : Int).toNat) e) := gs_I_ast I9 (show (-2147483648 : Int) ≤ e ∧ e ≤ 2147483647 by omega)
    have f13 := gs_fr_ast f10 (a := 111) (z := e) (i := (482 : Int).toNat) (by first | omega | (dsimp only; omega) | (dsimp only))
    generalize gs_up A8 111 ((482 : Int).toNat) e = A11 at I12 f13 ⊢
    refine sA_vret dd_X9_draftPlan_43 rfl ?_
    exact ⟨rfl, I12, f13, trivial⟩
  · skip
    refine sA_iconst (z := 2) dd_X9_draftPlan_10 ?_
    refine sA_goto (tgt := 15) dd_X9_draftPlan_11 (by decide) ?_
    refine sA_iast (n := 9) dd_X9_draftPlan_15 (by decide) gs_s110 (by omega) (by decide) ?_
    have I15 : gs_I F (gs_up A 110 ((8 : Int).toNat) 2) := gs_I_ast hI (show (0 : Int) ≤ 2 ∧ 2 ≤ 60 by omega)
    have f16 := gs_fr_ast hf (a := 110) (z := 2) (i := (8 : Int).toNat) (by first | omega | (dsimp only; omega) | (dsimp only))
    generalize gs_up A 110 ((8 : Int).toNat) 2 = A14 at I15 f16 ⊢
    refine sA_aload_n dd_X9_draftPlan_16 rfl (.head _) ?_
    refine sA_getr (ci := 9) (j := 7) (q := (RX9, TX9, 28)) dd_X9_draftPlan_17 rfl (by decide) fl_X9_22 (by decide) gs_s106 rfl ?_
    refine sA_sipush (z := 480) dd_X9_draftPlan_20 (by decide) ?_
    refine sA_iload_n dd_X9_draftPlan_23 rfl (.tail _ (.head _)) ?_
    refine sA_iast (n := 540) dd_X9_draftPlan_24 (by decide) gs_s111 (by omega) (by decide) ?_
    have I18 : gs_I F (gs_up A14 111 ((480 : Int).toNat) a) := gs_I_ast I15 (show (-2147483648 : Int) ≤ a ∧ a ≤ 2147483647 by omega)
    have f19 := gs_fr_ast f16 (a := 111) (z := a) (i := (480 : Int).toNat) (by first | omega | (dsimp only; omega) | (dsimp only))
    generalize gs_up A14 111 ((480 : Int).toNat) a = A17 at I18 f19 ⊢
    refine sA_aload_n dd_X9_draftPlan_25 rfl (.head _) ?_
    refine sA_getr (ci := 9) (j := 7) (q := (RX9, TX9, 28)) dd_X9_draftPlan_26 rfl (by decide) fl_X9_22 (by decide) gs_s106 rfl ?_
    refine sA_sipush (z := 481) dd_X9_draftPlan_29 (by decide) ?_
    refine sA_iload_n dd_X9_draftPlan_32 rfl (.tail _ (.tail _ (.head _))) ?_
    refine sA_iast (n := 540) dd_X9_draftPlan_33 (by decide) gs_s111 (by omega) (by decide) ?_
    have I21 : gs_I F (gs_up A17 111 ((481 : Int).toNat) b) := gs_I_ast I18 (show (-2147483648 : Int) ≤ b ∧ b ≤ 2147483647 by omega)
    have f22 := gs_fr_ast f19 (a := 111) (z := b) (i := (481 : Int).toNat) (by first | omega | (dsimp only; omega) | (dsimp only))
    generalize gs_up A17 111 ((481 : Int).toNat) b = A20 at I21 f22 ⊢
    refine sA_aload_n dd_X9_draftPlan_34 rfl (.head _) ?_
    refine sA_getr (ci := 9) (j := 7) (q := (RX9, TX9, 28)) dd_X9_draftPlan_35 rfl (by decide) fl_X9_22 (by decide) gs_s106 rfl ?_
    refine sA_sipush (z := 482) dd_X9_draftPlan_38 (by decide) ?_
    refine sA_iload_n dd_X9_draftPlan_41 rfl (.tail _ (.tail _ (.tail _ (.head _)))) ?_
    refine sA_iast (n := 540) dd_X9_draftPlan_42 (by decide) gs_s111 (by omega) (by decide) ?_
    have I24 : gs_I F (gs_up A20 111 ((482 : Int).toNat) e) := gs_I_ast I21 (show (-2147483648 : Int) ≤ e ∧ e ≤ 2147483647 by omega)
    have f25 := gs_fr_ast f22 (a := 111) (z := e) (i := (482 : Int).toNat) (by first | omega | (dsimp only; omega) | (dsimp only))
    generalize gs_up A20 111 ((482 : Int).toNat) e = A23 at I24 f25 ⊢
    refine sA_vret dd_X9_draftPlan_43 rfl ?_
    exact ⟨rfl, I24, f25, trivial⟩
theorem dd_X9_isDraftLike_0 : decode cX9_isDraftLike 0 = .ok (.iconst 1, 1) := by decide +kernel
theorem dd_X9_isDraftLike_1 : decode cX9_isDraftLike 1 = .ok (.istore_n 1, 1) := by decide +kernel
theorem dd_X9_isDraftLike_2 : decode cX9_isDraftLike 2 = .ok (.iconst 0, 1) := by decide +kernel
theorem dd_X9_isDraftLike_3 : decode cX9_isDraftLike 3 = .ok (.istore_n 2, 1) := by decide +kernel
theorem dd_X9_isDraftLike_4 : decode cX9_isDraftLike 4 = .ok (.iload_n 2, 1) := by decide +kernel
theorem dd_X9_isDraftLike_5 : decode cX9_isDraftLike 5 = .ok (.iconst 2, 1) := by decide +kernel
theorem dd_X9_isDraftLike_6 : decode cX9_isDraftLike 6 = .ok (.aload_n 0, 1) := by decide +kernel
theorem dd_X9_isDraftLike_7 : decode cX9_isDraftLike 7 = .ok (.getfield 64, 3) := by decide +kernel
theorem dd_X9_isDraftLike_10 : decode cX9_isDraftLike 10 = .ok (.imul, 1) := by decide +kernel
theorem dd_X9_isDraftLike_11 : decode cX9_isDraftLike 11 = .ok (.if_icmp .ge 43, 3) := by decide +kernel
theorem dd_X9_isDraftLike_14 : decode cX9_isDraftLike 14 = .ok (.iload_n 1, 1) := by decide +kernel
theorem dd_X9_isDraftLike_15 : decode cX9_isDraftLike 15 = .ok (.ifCond .eq 39, 3) := by decide +kernel
theorem dd_X9_isDraftLike_18 : decode cX9_isDraftLike 18 = .ok (.aload_n 0, 1) := by decide +kernel
theorem dd_X9_isDraftLike_19 : decode cX9_isDraftLike 19 = .ok (.iload_n 2, 1) := by decide +kernel
theorem dd_X9_isDraftLike_20 : decode cX9_isDraftLike 20 = .ok (.iconst 1, 1) := by decide +kernel
theorem dd_X9_isDraftLike_21 : decode cX9_isDraftLike 21 = .ok (.iadd, 1) := by decide +kernel
theorem dd_X9_isDraftLike_22 : decode cX9_isDraftLike 22 = .ok (.invokevirtual 224, 3) := by decide +kernel
theorem dd_X9_isDraftLike_25 : decode cX9_isDraftLike 25 = .ok (.aload_n 0, 1) := by decide +kernel
theorem dd_X9_isDraftLike_26 : decode cX9_isDraftLike 26 = .ok (.bipush 8, 2) := by decide +kernel
theorem dd_X9_isDraftLike_28 : decode cX9_isDraftLike 28 = .ok (.invokevirtual 227, 3) := by decide +kernel
theorem dd_X9_isDraftLike_31 : decode cX9_isDraftLike 31 = .ok (.ifCond .eq 15, 3) := by decide +kernel
theorem dd_X9_isDraftLike_34 : decode cX9_isDraftLike 34 = .ok (.aload_n 0, 1) := by decide +kernel
theorem dd_X9_isDraftLike_35 : decode cX9_isDraftLike 35 = .ok (.iload_n 2, 1) := by decide +kernel
theorem dd_X9_isDraftLike_36 : decode cX9_isDraftLike 36 = .ok (.invokevirtual 245, 3) := by decide +kernel
theorem dd_X9_isDraftLike_39 : decode cX9_isDraftLike 39 = .ok (.ifCond .eq 7, 3) := by decide +kernel
theorem dd_X9_isDraftLike_42 : decode cX9_isDraftLike 42 = .ok (.iconst 1, 1) := by decide +kernel
theorem dd_X9_isDraftLike_43 : decode cX9_isDraftLike 43 = .ok (.goto 4, 3) := by decide +kernel
theorem dd_X9_isDraftLike_46 : decode cX9_isDraftLike 46 = .ok (.iconst 0, 1) := by decide +kernel
theorem dd_X9_isDraftLike_47 : decode cX9_isDraftLike 47 = .ok (.istore_n 1, 1) := by decide +kernel
theorem dd_X9_isDraftLike_48 : decode cX9_isDraftLike 48 = .ok (.iinc 2 1, 3) := by decide +kernel
theorem dd_X9_isDraftLike_51 : decode cX9_isDraftLike 51 = .ok (.goto (-47), 3) := by decide +kernel
theorem dd_X9_isDraftLike_54 : decode cX9_isDraftLike 54 = .ok (.iload_n 1, 1) := by decide +kernel
theorem dd_X9_isDraftLike_55 : decode cX9_isDraftLike 55 = .ok (.ireturn, 1) := by decide +kernel
theorem ok_X9_isDraftLike : am_okM m_X9_isDraftLike 0 ∧ Cond.instanceMethod m_X9_isDraftLike.1 ∈ am_tbl ∧ Cond.selects m_X9_isDraftLike.1.cls m_X9_isDraftLike.1 m_X9_isDraftLike.1 ∈ am_tbl := ri_mk1 1188 93 1187 77 (by decide +kernel)
theorem k_X9_isDraftLike  {F A : gs_F} (hI : gs_I F A)  : ∀ nN : Nat, (∀ (b : Int) (x : Int)  (F1 A1 : gs_F), gs_I F1 A1 → gs_fr (fun c j => c = 106 ∧ (j = 13 ∨ j = 15)) (fun c => c = 114 ∨ c = 115) F A F1 A1 → b = 0 ∨ b = 1 → 0 ≤ x ∧ x ≤ 6 → 6 - x < (nN : Int) → sA m_X9_isDraftLike 6 (fun rv F' A' => ∃ z : Int, rv = some (gs_iv z) ∧ gs_I F' A' ∧ gs_fr (fun c j => c = 106 ∧ (j = 13 ∨ j = 15)) (fun c => c = 114 ∨ c = 115) F A F' A' ∧ (z = 0 ∨ z = 1)) 4 [(2, gs_iv x), (1, gs_iv b), (0, .ref 106)] [] F1 A1) := by
  intro nN
  induction nN with
  | zero =>
    exact fun a0 a1 a2 a3 a4 a5 i0 i1 hm => by exfalso; omega
  | succ nN ih =>
    intro b x F1 A1 hI1 hf1 i0 i1 hm
    refine sA_iload_n dd_X9_isDraftLike_4 rfl (.head _) ?_
    refine sA_iconst (z := 2) dd_X9_isDraftLike_5 ?_
    refine sA_aload_n dd_X9_isDraftLike_6 rfl (.tail _ (.tail _ (.head _))) ?_
    refine sA_geti (ci := 9) (j := 0) (q := (RX9, TX9, 28)) dd_X9_isDraftLike_7 rfl (by decide) fl_X9_64 (by decide) gs_s106 rfl ?_
    have b1 : (1 : Int) ≤ F1 106 0 ∧ F1 106 0 ≤ 3 := hI1.1 106 0
    refine sA_imul dd_X9_isDraftLike_10 ?_
    refine sA_icmp_ge (tgt := 54) dd_X9_isDraftLike_11 (by decide) (by omega) (by omega) (fun q2 => ?_) (fun q2 => ?_)
    · skip
      refine sA_iload_n dd_X9_isDraftLike_54 rfl (.tail _ (.head _)) ?_
      refine sA_bret (z := b) dd_X9_isDraftLike_55 rfl (by omega) ?_
      exact ⟨_, rfl, hI1, hf1, by omega⟩
    · skip
      refine sA_iload_n dd_X9_isDraftLike_14 rfl (.tail _ (.head _)) ?_
      refine sA_if_eq (tgt := 54) dd_X9_isDraftLike_15 (by decide) (by omega) (fun q3 => ?_) (fun q3 => ?_)
      · skip
        refine sA_iload_n dd_X9_isDraftLike_54 rfl (.tail _ (.head _)) ?_
        refine sA_bret (z := b) dd_X9_isDraftLike_55 rfl (by omega) ?_
        exact ⟨_, rfl, hI1, hf1, by omega⟩
      · skip
        refine sA_aload_n dd_X9_isDraftLike_18 rfl (.tail _ (.tail _ (.head _))) ?_
        refine sA_iload_n dd_X9_isDraftLike_19 rfl (.head _) ?_
        refine sA_iconst (z := 1) dd_X9_isDraftLike_20 ?_
        refine sA_iadd dd_X9_isDraftLike_21 ?_
        refine sA_callV (y2 := m_X9_takeLetter) (n2 := 1) (d2 := 1) (a := 106) (ci := 9) (q := (RX9, TX9, 28)) (as := [gs_iv (x + 1)]) (rest := []) dd_X9_isDraftLike_22 ok_X9_takeLetter ml_X9_224 rfl rfl (by decide) gs_s106 rfl rfl (Nat.le_of_ble_eq_true rfl) (by decide) (c_X9_takeLetter hI1 (by omega)) (fun r4 F5 A6 h7 => ?_)
        obtain ⟨e9, I10, f11, x8⟩ := h7
        subst e9
        have f12 := gs_fr_tr hf1 f11 (fun b j h => by first | exact False.elim h | omega | (dsimp only at h ⊢; omega)) (fun b h => by first | exact False.elim h | omega | (dsimp only at h ⊢; omega))
        show sA _ _ _ 25 _ [] _ _
        refine sA_aload_n dd_X9_isDraftLike_25 rfl (.tail _ (.tail _ (.head _))) ?_
        refine sA_bipush (z := 8) dd_X9_isDraftLike_26 (by decide) ?_
        refine sA_callV (y2 := m_X9_imageRow) (n2 := 1) (d2 := 5) (a := 106) (ci := 9) (q := (RX9, TX9, 28)) (as := [gs_iv 8]) (rest := []) dd_X9_isDraftLike_28 ok_X9_imageRow ml_X9_227 rfl rfl (by decide) gs_s106 rfl rfl (Nat.le_of_ble_eq_true rfl) (by decide) (c_X9_imageRow I10 (by omega)) (fun r13 F14 A15 h16 => ?_)
        obtain ⟨z19, e18, I20, f21, x17⟩ := h16
        subst e18
        have f22 := gs_fr_tr f12 f21 (fun b j h => by first | exact False.elim h | omega | (dsimp only at h ⊢; omega)) (fun b h => by first | exact False.elim h | omega | (dsimp only at h ⊢; omega))
        show sA _ _ _ 31 _ [gs_iv z19] _ _
        refine sA_if_eq (tgt := 46) dd_X9_isDraftLike_31 (by decide) (by omega) (fun q23 => ?_) (fun q23 => ?_)
        · skip
          refine sA_iconst (z := 0) dd_X9_isDraftLike_46 ?_
          refine sA_istore_n (lv' := [(1, gs_iv 0), (2, gs_iv x), (0, .ref 106)]) dd_X9_isDraftLike_47 rfl (by decide) rfl ?_
          refine sA_iinc (lv' := [(2, gs_iv (x + 1)), (1, gs_iv 0), (0, .ref 106)]) dd_X9_isDraftLike_48 (.tail _ (.head _)) (by decide) rfl ?_
          refine sA_goto (tgt := 4) dd_X9_isDraftLike_51 (by decide) ?_
          refine sA_sub (lv2 := [(2, gs_iv (x + 1)), (1, gs_iv 0), (0, .ref 106)]) (List.forall_mem_cons.mpr ⟨(.head _), (List.forall_mem_cons.mpr ⟨(.tail _ (.head _)), (List.forall_mem_cons.mpr ⟨(.tail _ (.tail _ (.head _))), (fun _ h => absurd h List.not_mem_nil)⟩)⟩)⟩) ?_
          exact ih 0 (x + 1) F14 A15 I20 f22 (by omega) (by omega) (by omega)
        · skip
          refine sA_aload_n dd_X9_isDraftLike_34 rfl (.tail _ (.tail _ (.head _))) ?_
          refine sA_iload_n dd_X9_isDraftLike_35 rfl (.head _) ?_
          refine sA_callV (y2 := m_X9_isImage) (n2 := 1) (d2 := 1) (a := 106) (ci := 9) (q := (RX9, TX9, 28)) (as := [gs_iv x]) (rest := []) dd_X9_isDraftLike_36 ok_X9_isImage ml_X9_245 rfl rfl (by decide) gs_s106 rfl rfl (Nat.le_of_ble_eq_true rfl) (by decide) (c_X9_isImage I20 (by omega)) (fun r24 F25 A26 h27 => ?_)
          obtain ⟨z30, e29, e31, e32, x28⟩ := h27
          subst e29 e31 e32
          show sA _ _ _ 39 _ [gs_iv z30] _ _
          refine sA_if_eq (tgt := 46) dd_X9_isDraftLike_39 (by decide) (by omega) (fun q33 => ?_) (fun q33 => ?_)
          · skip
            refine sA_iconst (z := 0) dd_X9_isDraftLike_46 ?_
            refine sA_istore_n (lv' := [(1, gs_iv 0), (2, gs_iv x), (0, .ref 106)]) dd_X9_isDraftLike_47 rfl (by decide) rfl ?_
            refine sA_iinc (lv' := [(2, gs_iv (x + 1)), (1, gs_iv 0), (0, .ref 106)]) dd_X9_isDraftLike_48 (.tail _ (.head _)) (by decide) rfl ?_
            refine sA_goto (tgt := 4) dd_X9_isDraftLike_51 (by decide) ?_
            refine sA_sub (lv2 := [(2, gs_iv (x + 1)), (1, gs_iv 0), (0, .ref 106)]) (List.forall_mem_cons.mpr ⟨(.head _), (List.forall_mem_cons.mpr ⟨(.tail _ (.head _)), (List.forall_mem_cons.mpr ⟨(.tail _ (.tail _ (.head _))), (fun _ h => absurd h List.not_mem_nil)⟩)⟩)⟩) ?_
            exact ih 0 (x + 1) F14 A15 I20 f22 (by omega) (by omega) (by omega)
          · skip
            refine sA_iconst (z := 1) dd_X9_isDraftLike_42 ?_
            refine sA_goto (tgt := 47) dd_X9_isDraftLike_43 (by decide) ?_
            refine sA_istore_n (lv' := [(1, gs_iv 1), (2, gs_iv x), (0, .ref 106)]) dd_X9_isDraftLike_47 rfl (by decide) rfl ?_
            refine sA_iinc (lv' := [(2, gs_iv (x + 1)), (1, gs_iv 1), (0, .ref 106)]) dd_X9_isDraftLike_48 (.tail _ (.head _)) (by decide) rfl ?_
            refine sA_goto (tgt := 4) dd_X9_isDraftLike_51 (by decide) ?_
            refine sA_sub (lv2 := [(2, gs_iv (x + 1)), (1, gs_iv 1), (0, .ref 106)]) (List.forall_mem_cons.mpr ⟨(.head _), (List.forall_mem_cons.mpr ⟨(.tail _ (.head _)), (List.forall_mem_cons.mpr ⟨(.tail _ (.tail _ (.head _))), (fun _ h => absurd h List.not_mem_nil)⟩)⟩)⟩) ?_
            exact ih 1 (x + 1) F14 A15 I20 f22 (by omega) (by omega) (by omega)
theorem c_X9_isDraftLike  {F A : gs_F} (hI : gs_I F A)  : sC m_X9_isDraftLike 6 [.ref 106] F A (fun rv F' A' => ∃ z : Int, rv = some (gs_iv z) ∧ gs_I F' A' ∧ gs_fr (fun c j => c = 106 ∧ (j = 13 ∨ j = 15)) (fun c => c = 114 ∨ c = 115) F A F' A' ∧ (z = 0 ∨ z = 1)) := by
  refine sC_of ok_X9_isDraftLike.1 (Nat.le_of_ble_eq_true rfl) ?_
  show sA _ _ _ 0 [(0, .ref 106)] [] F A
  have hf : gs_fr (fun c j => c = 106 ∧ (j = 13 ∨ j = 15)) (fun c => c = 114 ∨ c = 115) F A F A := gs_fr_refl _ _ _ _
  refine sA_iconst (z := 1) dd_X9_isDraftLike_0 ?_
  refine sA_istore_n (lv' := [(1, gs_iv 1), (0, .ref 106)]) dd_X9_isDraftLike_1 rfl (by decide) rfl ?_
  refine sA_iconst (z := 0) dd_X9_isDraftLike_2 ?_
  refine sA_istore_n (lv' := [(2, gs_iv 0), (1, gs_iv 1), (0, .ref 106)]) dd_X9_isDraftLike_3 rfl (by decide) rfl ?_
  refine sA_sub (lv2 := [(2, gs_iv 0), (1, gs_iv 1), (0, .ref 106)]) (List.forall_mem_cons.mpr ⟨(.head _), (List.forall_mem_cons.mpr ⟨(.tail _ (.head _)), (List.forall_mem_cons.mpr ⟨(.tail _ (.tail _ (.head _))), (fun _ h => absurd h List.not_mem_nil)⟩)⟩)⟩) ?_
  exact (k_X9_isDraftLike hI (6 - 0 : Int).toNat.succ) 1 0 F A hI hf (by omega) (by omega) (by omega)
theorem dd_X9_law_0 : decode cX9_law 0 = .ok (.iload_n 1, 1) := by decide +kernel
theorem dd_X9_law_1 : decode cX9_law 1 = .ok (.i2l, 1) := by decide +kernel
theorem dd_X9_law_2 : decode cX9_law 2 = .ok (.lconst 0, 1) := by decide +kernel
theorem dd_X9_law_3 : decode cX9_law 3 = .ok (.aload_n 0, 1) := by decide +kernel
theorem dd_X9_law_4 : decode cX9_law 4 = .ok (.invokevirtual 289, 3) := by decide +kernel
theorem dd_X9_law_7 : decode cX9_law 7 = .ok (.iconst 1, 1) := by decide +kernel
theorem dd_X9_law_8 : decode cX9_law 8 = .ok (.isub, 1) := by decide +kernel
theorem dd_X9_law_9 : decode cX9_law 9 = .ok (.i2l, 1) := by decide +kernel
theorem dd_X9_law_10 : decode cX9_law 10 = .ok (.invokestatic 75, 3) := by decide +kernel
theorem dd_X9_law_13 : decode cX9_law 13 = .ok (.ifCond .eq 19, 3) := by decide +kernel
theorem dd_X9_law_16 : decode cX9_law 16 = .ok (.iload_n 2, 1) := by decide +kernel
theorem dd_X9_law_17 : decode cX9_law 17 = .ok (.i2l, 1) := by decide +kernel
theorem dd_X9_law_18 : decode cX9_law 18 = .ok (.lconst 0, 1) := by decide +kernel
theorem dd_X9_law_19 : decode cX9_law 19 = .ok (.aload_n 0, 1) := by decide +kernel
theorem dd_X9_law_20 : decode cX9_law 20 = .ok (.invokevirtual 289, 3) := by decide +kernel
theorem dd_X9_law_23 : decode cX9_law 23 = .ok (.iconst 1, 1) := by decide +kernel
theorem dd_X9_law_24 : decode cX9_law 24 = .ok (.isub, 1) := by decide +kernel
theorem dd_X9_law_25 : decode cX9_law 25 = .ok (.i2l, 1) := by decide +kernel
theorem dd_X9_law_26 : decode cX9_law 26 = .ok (.invokestatic 75, 3) := by decide +kernel
theorem dd_X9_law_29 : decode cX9_law 29 = .ok (.ifCond .ne 7, 3) := by decide +kernel
theorem dd_X9_law_32 : decode cX9_law 32 = .ok (.sipush (-1001), 3) := by decide +kernel
theorem dd_X9_law_35 : decode cX9_law 35 = .ok (.ireturn, 1) := by decide +kernel
theorem dd_X9_law_36 : decode cX9_law 36 = .ok (.iconst 2, 1) := by decide +kernel
theorem dd_X9_law_37 : decode cX9_law 37 = .ok (.iload_n 1, 1) := by decide +kernel
theorem dd_X9_law_38 : decode cX9_law 38 = .ok (.imul, 1) := by decide +kernel
theorem dd_X9_law_39 : decode cX9_law 39 = .ok (.istore_n 3, 1) := by decide +kernel
theorem dd_X9_law_40 : decode cX9_law 40 = .ok (.iconst 2, 1) := by decide +kernel
theorem dd_X9_law_41 : decode cX9_law 41 = .ok (.iload_n 2, 1) := by decide +kernel
theorem dd_X9_law_42 : decode cX9_law 42 = .ok (.imul, 1) := by decide +kernel
theorem dd_X9_law_43 : decode cX9_law 43 = .ok (.istore 4, 2) := by decide +kernel
theorem dd_X9_law_45 : decode cX9_law 45 = .ok (.aload_n 0, 1) := by decide +kernel
theorem dd_X9_law_46 : decode cX9_law 46 = .ok (.iload_n 3, 1) := by decide +kernel
theorem dd_X9_law_47 : decode cX9_law 47 = .ok (.iload 4, 2) := by decide +kernel
theorem dd_X9_law_49 : decode cX9_law 49 = .ok (.iconst (-1), 1) := by decide +kernel
theorem dd_X9_law_50 : decode cX9_law 50 = .ok (.invokevirtual 292, 3) := by decide +kernel
theorem dd_X9_law_53 : decode cX9_law 53 = .ok (.aload_n 0, 1) := by decide +kernel
theorem dd_X9_law_54 : decode cX9_law 54 = .ok (.bipush 8, 2) := by decide +kernel
theorem dd_X9_law_56 : decode cX9_law 56 = .ok (.invokevirtual 242, 3) := by decide +kernel
theorem dd_X9_law_59 : decode cX9_law 59 = .ok (.istore 5, 2) := by decide +kernel
theorem dd_X9_law_61 : decode cX9_law 61 = .ok (.aload_n 0, 1) := by decide +kernel
theorem dd_X9_law_62 : decode cX9_law 62 = .ok (.iload 4, 2) := by decide +kernel
theorem dd_X9_law_64 : decode cX9_law 64 = .ok (.iload_n 3, 1) := by decide +kernel
theorem dd_X9_law_65 : decode cX9_law 65 = .ok (.iconst (-1), 1) := by decide +kernel
theorem dd_X9_law_66 : decode cX9_law 66 = .ok (.invokevirtual 292, 3) := by decide +kernel
theorem dd_X9_law_69 : decode cX9_law 69 = .ok (.aload_n 0, 1) := by decide +kernel
theorem dd_X9_law_70 : decode cX9_law 70 = .ok (.invokevirtual 296, 3) := by decide +kernel
theorem dd_X9_law_73 : decode cX9_law 73 = .ok (.ifCond .eq 5, 3) := by decide +kernel
theorem dd_X9_law_76 : decode cX9_law 76 = .ok (.iconst 0, 1) := by decide +kernel
theorem dd_X9_law_77 : decode cX9_law 77 = .ok (.ireturn, 1) := by decide +kernel
theorem dd_X9_law_78 : decode cX9_law 78 = .ok (.aload_n 0, 1) := by decide +kernel
theorem dd_X9_law_79 : decode cX9_law 79 = .ok (.iload_n 3, 1) := by decide +kernel
theorem dd_X9_law_80 : decode cX9_law 80 = .ok (.iload 4, 2) := by decide +kernel
theorem dd_X9_law_82 : decode cX9_law 82 = .ok (.iload_n 3, 1) := by decide +kernel
theorem dd_X9_law_83 : decode cX9_law 83 = .ok (.invokevirtual 292, 3) := by decide +kernel
theorem dd_X9_law_86 : decode cX9_law 86 = .ok (.aload_n 0, 1) := by decide +kernel
theorem dd_X9_law_87 : decode cX9_law 87 = .ok (.bipush 8, 2) := by decide +kernel
theorem dd_X9_law_89 : decode cX9_law 89 = .ok (.invokevirtual 242, 3) := by decide +kernel
theorem dd_X9_law_92 : decode cX9_law 92 = .ok (.istore 5, 2) := by decide +kernel
theorem dd_X9_law_94 : decode cX9_law 94 = .ok (.aload_n 0, 1) := by decide +kernel
theorem dd_X9_law_95 : decode cX9_law 95 = .ok (.iload 4, 2) := by decide +kernel
theorem dd_X9_law_97 : decode cX9_law 97 = .ok (.iload_n 3, 1) := by decide +kernel
theorem dd_X9_law_98 : decode cX9_law 98 = .ok (.iload 4, 2) := by decide +kernel
theorem dd_X9_law_100 : decode cX9_law 100 = .ok (.invokevirtual 292, 3) := by decide +kernel
theorem dd_X9_law_103 : decode cX9_law 103 = .ok (.aload_n 0, 1) := by decide +kernel
theorem dd_X9_law_104 : decode cX9_law 104 = .ok (.invokevirtual 296, 3) := by decide +kernel
theorem dd_X9_law_107 : decode cX9_law 107 = .ok (.ifCond .eq 7, 3) := by decide +kernel
theorem dd_X9_law_110 : decode cX9_law 110 = .ok (.iconst 1, 1) := by decide +kernel
theorem dd_X9_law_111 : decode cX9_law 111 = .ok (.goto 4, 3) := by decide +kernel
theorem dd_X9_law_114 : decode cX9_law 114 = .ok (.iconst 2, 1) := by decide +kernel
theorem dd_X9_law_115 : decode cX9_law 115 = .ok (.ireturn, 1) := by decide +kernel
theorem ml_X9_289 : Cond.methodLink RX9 289 m_X9_twists.1 ∈ am_tbl := ri_lw_in (pl := 1177) (by decide +kernel)
theorem ml_X9_292 : Cond.methodLink RX9 292 m_X9_draftPlan.1 ∈ am_tbl := ri_lw_in (pl := 1181) (by decide +kernel)
theorem ml_X9_296 : Cond.methodLink RX9 296 m_X9_isDraftLike.1 ∈ am_tbl := ri_lw_in (pl := 1185) (by decide +kernel)
theorem ok_X9_law : am_okM m_X9_law 2 ∧ Cond.instanceMethod m_X9_law.1 ∈ am_tbl ∧ Cond.selects m_X9_law.1.cls m_X9_law.1 m_X9_law.1 ∈ am_tbl := ri_mk1 1176 93 1174 1175 (by decide +kernel)
theorem c_X9_law {t s : Int} {F A : gs_F} (hI : gs_I F A) (ht : -2147483648 ≤ t ∧ t ≤ 2147483647) (hs : -2147483648 ≤ s ∧ s ≤ 2147483647) : sC m_X9_law 8 [.ref 106, gs_iv t, gs_iv s] F A (fun rv F' A' => ∃ z : Int, rv = some (gs_iv z) ∧ gs_I F' A' ∧ gs_fr (fun c j => c = 106 ∧ (j = 13 ∨ j = 15)) (fun c => c = 110 ∨ c = 111 ∨ c = 114 ∨ c = 115 ∨ c = 119 ∨ c = 120) F A F' A' ∧ (True)) := by
  refine sC_of ok_X9_law.1 (Nat.le_of_ble_eq_true rfl) ?_
  show sA _ _ _ 0 [(0, .ref 106), (1, gs_iv t), (2, gs_iv s)] [] F A
  have hf : gs_fr (fun c j => c = 106 ∧ (j = 13 ∨ j = 15)) (fun c => c = 110 ∨ c = 111 ∨ c = 114 ∨ c = 115 ∨ c = 119 ∨ c = 120) F A F A := gs_fr_refl _ _ _ _
  have hb0 : (1 : Int) ≤ F 106 0 ∧ F 106 0 ≤ 3 := hI.1 106 0
  refine sA_iload_n dd_X9_law_0 rfl (.tail _ (.head _)) ?_
  refine sA_i2l dd_X9_law_1 (by omega) ?_
  refine sA_lconst (z := 0) dd_X9_law_2 (by decide) ?_
  refine sA_aload_n dd_X9_law_3 rfl (.head _) ?_
  refine sA_callV (y2 := m_X9_twists) (n2 := 0) (d2 := 1) (a := 106) (ci := 9) (q := (RX9, TX9, 28)) (as := []) (rest := [gs_lv 0, gs_lv t]) dd_X9_law_4 ok_X9_twists ml_X9_289 rfl rfl (by decide) gs_s106 rfl rfl (Nat.le_of_ble_eq_true rfl) (by decide) (c_X9_twists hI ) (fun r1 F2 A3 h4 => ?_)
  obtain ⟨z7, e6, e8, e9, x5⟩ := h4
  subst e6 e8 e9
  show sA _ _ _ 7 _ [gs_iv z7, gs_lv 0, gs_lv t] _ _
  refine sA_iconst (z := 1) dd_X9_law_7 ?_
  refine sA_isub dd_X9_law_8 ?_
  refine sA_i2l dd_X9_law_9 (by omega) ?_
  refine sA_callS (y2 := m_X9_in) (n2 := 3) (d2 := 1) (as := [gs_lv t, gs_lv 0, gs_lv (z7 - 1)]) (rest := []) dd_X9_law_10 ok_X9_in ml_X9_75 rfl rfl (Nat.le_of_ble_eq_true rfl) (by decide) (c_X9_in (by omega) (by omega) (by omega)) (fun r10 F11 A12 h13 => ?_)
  obtain ⟨z16, e15, e17, e18, x14⟩ := h13
  subst e15 e17 e18
  show sA _ _ _ 13 _ [gs_iv z16] _ _
  refine sA_if_eq (tgt := 32) dd_X9_law_13 (by decide) (by omega) (fun q19 => ?_) (fun q19 => ?_)
  · skip
    refine sA_sipush (z := (-1001)) dd_X9_law_32 (by decide) ?_
    refine sA_iret (z := -1001) dd_X9_law_35 rfl ?_
    exact ⟨_, rfl, hI, hf, trivial⟩
  · skip
    refine sA_iload_n dd_X9_law_16 rfl (.tail _ (.tail _ (.head _))) ?_
    refine sA_i2l dd_X9_law_17 (by omega) ?_
    refine sA_lconst (z := 0) dd_X9_law_18 (by decide) ?_
    refine sA_aload_n dd_X9_law_19 rfl (.head _) ?_
    refine sA_callV (y2 := m_X9_twists) (n2 := 0) (d2 := 1) (a := 106) (ci := 9) (q := (RX9, TX9, 28)) (as := []) (rest := [gs_lv 0, gs_lv s]) dd_X9_law_20 ok_X9_twists ml_X9_289 rfl rfl (by decide) gs_s106 rfl rfl (Nat.le_of_ble_eq_true rfl) (by decide) (c_X9_twists hI ) (fun r20 F21 A22 h23 => ?_)
    obtain ⟨z26, e25, e27, e28, x24⟩ := h23
    subst e25 e27 e28
    show sA _ _ _ 23 _ [gs_iv z26, gs_lv 0, gs_lv s] _ _
    refine sA_iconst (z := 1) dd_X9_law_23 ?_
    refine sA_isub dd_X9_law_24 ?_
    refine sA_i2l dd_X9_law_25 (by omega) ?_
    refine sA_callS (y2 := m_X9_in) (n2 := 3) (d2 := 1) (as := [gs_lv s, gs_lv 0, gs_lv (z26 - 1)]) (rest := []) dd_X9_law_26 ok_X9_in ml_X9_75 rfl rfl (Nat.le_of_ble_eq_true rfl) (by decide) (c_X9_in (by omega) (by omega) (by omega)) (fun r29 F30 A31 h32 => ?_)
    obtain ⟨z35, e34, e36, e37, x33⟩ := h32
    subst e34 e36 e37
    show sA _ _ _ 29 _ [gs_iv z35] _ _
    refine sA_if_ne (tgt := 36) dd_X9_law_29 (by decide) (by omega) (fun q38 => ?_) (fun q38 => ?_)
    · skip
      refine sA_iconst (z := 2) dd_X9_law_36 ?_
      refine sA_iload_n dd_X9_law_37 rfl (.tail _ (.head _)) ?_
      refine sA_imul dd_X9_law_38 ?_
      refine sA_istore_n (lv' := [(3, gs_iv (2 * t)), (0, .ref 106), (1, gs_iv t), (2, gs_iv s)]) dd_X9_law_39 rfl (by decide) rfl ?_
      refine sA_iconst (z := 2) dd_X9_law_40 ?_
      refine sA_iload_n dd_X9_law_41 rfl (.tail _ (.tail _ (.tail _ (.head _)))) ?_
      refine sA_imul dd_X9_law_42 ?_
      refine sA_istore (lv' := [(4, gs_iv (2 * s)), (3, gs_iv (2 * t)), (0, .ref 106), (1, gs_iv t), (2, gs_iv s)]) dd_X9_law_43 (by decide) rfl ?_
      refine sA_aload_n dd_X9_law_45 rfl (.tail _ (.tail _ (.head _))) ?_
      refine sA_iload_n dd_X9_law_46 rfl (.tail _ (.head _)) ?_
      refine sA_iload dd_X9_law_47 (.head _) ?_
      refine sA_iconst (z := (-1)) dd_X9_law_49 ?_
      refine sA_callV (y2 := m_X9_draftPlan) (n2 := 3) (d2 := 1) (a := 106) (ci := 9) (q := (RX9, TX9, 28)) (as := [gs_iv (2 * t), gs_iv (2 * s), gs_iv (-1)]) (rest := []) dd_X9_law_50 ok_X9_draftPlan ml_X9_292 rfl rfl (by decide) gs_s106 rfl rfl (Nat.le_of_ble_eq_true rfl) (by decide) (c_X9_draftPlan hI (by omega) (by omega) (by omega)) (fun r39 F40 A41 h42 => ?_)
      obtain ⟨e44, I45, f46, x43⟩ := h42
      subst e44
      have f47 := gs_fr_tr hf f46 (fun b j h => by first | exact False.elim h | omega | (dsimp only at h ⊢; omega)) (fun b h => by first | exact False.elim h | omega | (dsimp only at h ⊢; omega))
      show sA _ _ _ 53 _ [] _ _
      refine sA_aload_n dd_X9_law_53 rfl (.tail _ (.tail _ (.head _))) ?_
      refine sA_bipush (z := 8) dd_X9_law_54 (by decide) ?_
      refine sA_callV (y2 := m_X9_findImages) (n2 := 1) (d2 := 7) (a := 106) (ci := 9) (q := (RX9, TX9, 28)) (as := [gs_iv 8]) (rest := []) dd_X9_law_56 ok_X9_findImages ml_X9_242 rfl rfl (by decide) gs_s106 rfl rfl (Nat.le_of_ble_eq_true rfl) (by decide) (c_X9_findImages I45 (by omega)) (fun r48 F49 A50 h51 => ?_)
      obtain ⟨z54, e53, I55, f56, x52⟩ := h51
      subst e53
      have f57 := gs_fr_tr f47 f56 (fun b j h => by first | exact False.elim h | omega | (dsimp only at h ⊢; omega)) (fun b h => by first | exact False.elim h | omega | (dsimp only at h ⊢; omega))
      show sA _ _ _ 59 _ [gs_iv z54] _ _
      refine sA_istore (lv' := [(5, gs_iv z54), (4, gs_iv (2 * s)), (3, gs_iv (2 * t)), (0, .ref 106), (1, gs_iv t), (2, gs_iv s)]) dd_X9_law_59 (by decide) rfl ?_
      refine sA_aload_n dd_X9_law_61 rfl (.tail _ (.tail _ (.tail _ (.head _)))) ?_
      refine sA_iload dd_X9_law_62 (.tail _ (.head _)) ?_
      refine sA_iload_n dd_X9_law_64 rfl (.tail _ (.tail _ (.head _))) ?_
      refine sA_iconst (z := (-1)) dd_X9_law_65 ?_
      refine sA_callV (y2 := m_X9_draftPlan) (n2 := 3) (d2 := 1) (a := 106) (ci := 9) (q := (RX9, TX9, 28)) (as := [gs_iv (2 * s), gs_iv (2 * t), gs_iv (-1)]) (rest := []) dd_X9_law_66 ok_X9_draftPlan ml_X9_292 rfl rfl (by decide) gs_s106 rfl rfl (Nat.le_of_ble_eq_true rfl) (by decide) (c_X9_draftPlan I55 (by omega) (by omega) (by omega)) (fun r58 F59 A60 h61 => ?_)
      obtain ⟨e63, I64, f65, x62⟩ := h61
      subst e63
      have f66 := gs_fr_tr f57 f65 (fun b j h => by first | exact False.elim h | omega | (dsimp only at h ⊢; omega)) (fun b h => by first | exact False.elim h | omega | (dsimp only at h ⊢; omega))
      show sA _ _ _ 69 _ [] _ _
      refine sA_aload_n dd_X9_law_69 rfl (.tail _ (.tail _ (.tail _ (.head _)))) ?_
      refine sA_callV (y2 := m_X9_isDraftLike) (n2 := 0) (d2 := 6) (a := 106) (ci := 9) (q := (RX9, TX9, 28)) (as := []) (rest := []) dd_X9_law_70 ok_X9_isDraftLike ml_X9_296 rfl rfl (by decide) gs_s106 rfl rfl (Nat.le_of_ble_eq_true rfl) (by decide) (c_X9_isDraftLike I64 ) (fun r67 F68 A69 h70 => ?_)
      obtain ⟨z73, e72, I74, f75, x71⟩ := h70
      subst e72
      have f76 := gs_fr_tr f66 f75 (fun b j h => by first | exact False.elim h | omega | (dsimp only at h ⊢; omega)) (fun b h => by first | exact False.elim h | omega | (dsimp only at h ⊢; omega))
      show sA _ _ _ 73 _ [gs_iv z73] _ _
      refine sA_if_eq (tgt := 78) dd_X9_law_73 (by decide) (by omega) (fun q77 => ?_) (fun q77 => ?_)
      · skip
        refine sA_aload_n dd_X9_law_78 rfl (.tail _ (.tail _ (.tail _ (.head _)))) ?_
        refine sA_iload_n dd_X9_law_79 rfl (.tail _ (.tail _ (.head _))) ?_
        refine sA_iload dd_X9_law_80 (.tail _ (.head _)) ?_
        refine sA_iload_n dd_X9_law_82 rfl (.tail _ (.tail _ (.head _))) ?_
        refine sA_callV (y2 := m_X9_draftPlan) (n2 := 3) (d2 := 1) (a := 106) (ci := 9) (q := (RX9, TX9, 28)) (as := [gs_iv (2 * t), gs_iv (2 * s), gs_iv (2 * t)]) (rest := []) dd_X9_law_83 ok_X9_draftPlan ml_X9_292 rfl rfl (by decide) gs_s106 rfl rfl (Nat.le_of_ble_eq_true rfl) (by decide) (c_X9_draftPlan I74 (by omega) (by omega) (by omega)) (fun r78 F79 A80 h81 => ?_)
        obtain ⟨e83, I84, f85, x82⟩ := h81
        subst e83
        have f86 := gs_fr_tr f76 f85 (fun b j h => by first | exact False.elim h | omega | (dsimp only at h ⊢; omega)) (fun b h => by first | exact False.elim h | omega | (dsimp only at h ⊢; omega))
        show sA _ _ _ 86 _ [] _ _
        refine sA_aload_n dd_X9_law_86 rfl (.tail _ (.tail _ (.tail _ (.head _)))) ?_
        refine sA_bipush (z := 8) dd_X9_law_87 (by decide) ?_
        refine sA_callV (y2 := m_X9_findImages) (n2 := 1) (d2 := 7) (a := 106) (ci := 9) (q := (RX9, TX9, 28)) (as := [gs_iv 8]) (rest := []) dd_X9_law_89 ok_X9_findImages ml_X9_242 rfl rfl (by decide) gs_s106 rfl rfl (Nat.le_of_ble_eq_true rfl) (by decide) (c_X9_findImages I84 (by omega)) (fun r87 F88 A89 h90 => ?_)
        obtain ⟨z93, e92, I94, f95, x91⟩ := h90
        subst e92
        have f96 := gs_fr_tr f86 f95 (fun b j h => by first | exact False.elim h | omega | (dsimp only at h ⊢; omega)) (fun b h => by first | exact False.elim h | omega | (dsimp only at h ⊢; omega))
        show sA _ _ _ 92 _ [gs_iv z93] _ _
        refine sA_istore (lv' := [(5, gs_iv z93), (4, gs_iv (2 * s)), (3, gs_iv (2 * t)), (0, .ref 106), (1, gs_iv t), (2, gs_iv s)]) dd_X9_law_92 (by decide) rfl ?_
        refine sA_aload_n dd_X9_law_94 rfl (.tail _ (.tail _ (.tail _ (.head _)))) ?_
        refine sA_iload dd_X9_law_95 (.tail _ (.head _)) ?_
        refine sA_iload_n dd_X9_law_97 rfl (.tail _ (.tail _ (.head _))) ?_
        refine sA_iload dd_X9_law_98 (.tail _ (.head _)) ?_
        refine sA_callV (y2 := m_X9_draftPlan) (n2 := 3) (d2 := 1) (a := 106) (ci := 9) (q := (RX9, TX9, 28)) (as := [gs_iv (2 * s), gs_iv (2 * t), gs_iv (2 * s)]) (rest := []) dd_X9_law_100 ok_X9_draftPlan ml_X9_292 rfl rfl (by decide) gs_s106 rfl rfl (Nat.le_of_ble_eq_true rfl) (by decide) (c_X9_draftPlan I94 (by omega) (by omega) (by omega)) (fun r97 F98 A99 h100 => ?_)
        obtain ⟨e102, I103, f104, x101⟩ := h100
        subst e102
        have f105 := gs_fr_tr f96 f104 (fun b j h => by first | exact False.elim h | omega | (dsimp only at h ⊢; omega)) (fun b h => by first | exact False.elim h | omega | (dsimp only at h ⊢; omega))
        show sA _ _ _ 103 _ [] _ _
        refine sA_aload_n dd_X9_law_103 rfl (.tail _ (.tail _ (.tail _ (.head _)))) ?_
        refine sA_callV (y2 := m_X9_isDraftLike) (n2 := 0) (d2 := 6) (a := 106) (ci := 9) (q := (RX9, TX9, 28)) (as := []) (rest := []) dd_X9_law_104 ok_X9_isDraftLike ml_X9_296 rfl rfl (by decide) gs_s106 rfl rfl (Nat.le_of_ble_eq_true rfl) (by decide) (c_X9_isDraftLike I103 ) (fun r106 F107 A108 h109 => ?_)
        obtain ⟨z112, e111, I113, f114, x110⟩ := h109
        subst e111
        have f115 := gs_fr_tr f105 f114 (fun b j h => by first | exact False.elim h | omega | (dsimp only at h ⊢; omega)) (fun b h => by first | exact False.elim h | omega | (dsimp only at h ⊢; omega))
        show sA _ _ _ 107 _ [gs_iv z112] _ _
        refine sA_if_eq (tgt := 114) dd_X9_law_107 (by decide) (by omega) (fun q116 => ?_) (fun q116 => ?_)
        · skip
          refine sA_iconst (z := 2) dd_X9_law_114 ?_
          refine sA_iret (z := 2) dd_X9_law_115 rfl ?_
          exact ⟨_, rfl, I113, f115, trivial⟩
        · skip
          refine sA_iconst (z := 1) dd_X9_law_110 ?_
          refine sA_goto (tgt := 115) dd_X9_law_111 (by decide) ?_
          refine sA_iret (z := 1) dd_X9_law_115 rfl ?_
          exact ⟨_, rfl, I113, f115, trivial⟩
      · skip
        refine sA_iconst (z := 0) dd_X9_law_76 ?_
        refine sA_iret (z := 0) dd_X9_law_77 rfl ?_
        exact ⟨_, rfl, I74, f76, trivial⟩
    · skip
      refine sA_sipush (z := (-1001)) dd_X9_law_32 (by decide) ?_
      refine sA_iret (z := -1001) dd_X9_law_35 rfl ?_
      exact ⟨_, rfl, hI, hf, trivial⟩
theorem dd_X9_power_0 : decode cX9_power 0 = .ok (.iconst 1, 1) := by decide +kernel
theorem dd_X9_power_1 : decode cX9_power 1 = .ok (.istore_n 2, 1) := by decide +kernel
theorem dd_X9_power_2 : decode cX9_power 2 = .ok (.iconst 0, 1) := by decide +kernel
theorem dd_X9_power_3 : decode cX9_power 3 = .ok (.istore_n 3, 1) := by decide +kernel
theorem dd_X9_power_4 : decode cX9_power 4 = .ok (.iload_n 3, 1) := by decide +kernel
theorem dd_X9_power_5 : decode cX9_power 5 = .ok (.iload_n 1, 1) := by decide +kernel
theorem dd_X9_power_6 : decode cX9_power 6 = .ok (.if_icmp .ge 18, 3) := by decide +kernel
theorem dd_X9_power_9 : decode cX9_power 9 = .ok (.iload_n 2, 1) := by decide +kernel
theorem dd_X9_power_10 : decode cX9_power 10 = .ok (.iconst 2, 1) := by decide +kernel
theorem dd_X9_power_11 : decode cX9_power 11 = .ok (.aload_n 0, 1) := by decide +kernel
theorem dd_X9_power_12 : decode cX9_power 12 = .ok (.invokevirtual 289, 3) := by decide +kernel
theorem dd_X9_power_15 : decode cX9_power 15 = .ok (.imul, 1) := by decide +kernel
theorem dd_X9_power_16 : decode cX9_power 16 = .ok (.imul, 1) := by decide +kernel
theorem dd_X9_power_17 : decode cX9_power 17 = .ok (.istore_n 2, 1) := by decide +kernel
theorem dd_X9_power_18 : decode cX9_power 18 = .ok (.iinc 3 1, 3) := by decide +kernel
theorem dd_X9_power_21 : decode cX9_power 21 = .ok (.goto (-17), 3) := by decide +kernel
theorem dd_X9_power_24 : decode cX9_power 24 = .ok (.iload_n 2, 1) := by decide +kernel
theorem dd_X9_power_25 : decode cX9_power 25 = .ok (.ireturn, 1) := by decide +kernel
theorem ok_X9_power : am_okM m_X9_power 1 ∧ Cond.instanceMethod m_X9_power.1 ∈ am_tbl ∧ Cond.selects m_X9_power.1.cls m_X9_power.1 m_X9_power.1 ∈ am_tbl := ri_mk1 1197 93 1196 78 (by decide +kernel)
theorem k_X9_power {n : Int} {F A : gs_F} (hI : gs_I F A) (hn : 0 ≤ n ∧ n ≤ 3) : ∀ nN : Nat, (∀ (v : Int) (k : Int),  -2147483648 ≤ v ∧ v ≤ 2147483647 → 0 ≤ k ∧ k ≤ 3 → 3 - k < (nN : Int) → sA m_X9_power 2 (fun rv F' A' => ∃ z : Int, rv = some (gs_iv z) ∧ F = F' ∧ A = A' ∧ (-2147483648 ≤ z ∧ z ≤ 2147483647)) 4 [(3, gs_iv k), (2, gs_iv v), (0, .ref 106), (1, gs_iv n)] [] F A) := by
  intro nN
  induction nN with
  | zero =>
    exact fun a0 a1 i0 i1 hm => by exfalso; omega
  | succ nN ih =>
    intro v k i0 i1 hm
    refine sA_iload_n dd_X9_power_4 rfl (.head _) ?_
    refine sA_iload_n dd_X9_power_5 rfl (.tail _ (.tail _ (.tail _ (.head _)))) ?_
    refine sA_icmp_ge (tgt := 24) dd_X9_power_6 (by decide) (by omega) (by omega) (fun q1 => ?_) (fun q1 => ?_)
    · skip
      refine sA_iload_n dd_X9_power_24 rfl (.tail _ (.head _)) ?_
      refine sA_iret (z := v) dd_X9_power_25 rfl ?_
      exact ⟨_, rfl, rfl, rfl, by omega⟩
    · skip
      refine sA_iload_n dd_X9_power_9 rfl (.tail _ (.head _)) ?_
      refine sA_iconst (z := 2) dd_X9_power_10 ?_
      refine sA_aload_n dd_X9_power_11 rfl (.tail _ (.tail _ (.head _))) ?_
      refine sA_callV (y2 := m_X9_twists) (n2 := 0) (d2 := 1) (a := 106) (ci := 9) (q := (RX9, TX9, 28)) (as := []) (rest := [gs_iv 2, gs_iv v]) dd_X9_power_12 ok_X9_twists ml_X9_289 rfl rfl (by decide) gs_s106 rfl rfl (Nat.le_of_ble_eq_true rfl) (by decide) (c_X9_twists hI ) (fun r2 F3 A4 h5 => ?_)
      obtain ⟨z8, e7, e9, e10, x6⟩ := h5
      subst e7 e9 e10
      show sA _ _ _ 15 _ [gs_iv z8, gs_iv 2, gs_iv v] _ _
      refine sA_imul dd_X9_power_15 ?_
      refine sA_imul dd_X9_power_16 ?_
      refine sA_wrap ?_
      have b12 := gs_w_rng (v * (2 * z8))
      generalize gs_w (v * (2 * z8)) = w11 at b12 ⊢
      refine sA_istore_n (lv' := [(2, gs_iv w11), (3, gs_iv k), (0, .ref 106), (1, gs_iv n)]) dd_X9_power_17 rfl (by decide) rfl ?_
      refine sA_iinc (lv' := [(3, gs_iv (k + 1)), (2, gs_iv w11), (0, .ref 106), (1, gs_iv n)]) dd_X9_power_18 (.tail _ (.head _)) (by decide) rfl ?_
      refine sA_goto (tgt := 4) dd_X9_power_21 (by decide) ?_
      refine sA_sub (lv2 := [(3, gs_iv (k + 1)), (2, gs_iv w11), (0, .ref 106), (1, gs_iv n)]) (List.forall_mem_cons.mpr ⟨(.head _), (List.forall_mem_cons.mpr ⟨(.tail _ (.head _)), (List.forall_mem_cons.mpr ⟨(.tail _ (.tail _ (.head _))), (List.forall_mem_cons.mpr ⟨(.tail _ (.tail _ (.tail _ (.head _)))), (fun _ h => absurd h List.not_mem_nil)⟩)⟩)⟩)⟩) ?_
      exact ih w11 (k + 1)  (by omega) (by omega) (by omega)
theorem c_X9_power {n : Int} {F A : gs_F} (hI : gs_I F A) (hn : 0 ≤ n ∧ n ≤ 3) : sC m_X9_power 2 [.ref 106, gs_iv n] F A (fun rv F' A' => ∃ z : Int, rv = some (gs_iv z) ∧ F = F' ∧ A = A' ∧ (-2147483648 ≤ z ∧ z ≤ 2147483647)) := by
  refine sC_of ok_X9_power.1 (Nat.le_of_ble_eq_true rfl) ?_
  show sA _ _ _ 0 [(0, .ref 106), (1, gs_iv n)] [] F A
  refine sA_iconst (z := 1) dd_X9_power_0 ?_
  refine sA_istore_n (lv' := [(2, gs_iv 1), (0, .ref 106), (1, gs_iv n)]) dd_X9_power_1 rfl (by decide) rfl ?_
  refine sA_iconst (z := 0) dd_X9_power_2 ?_
  refine sA_istore_n (lv' := [(3, gs_iv 0), (2, gs_iv 1), (0, .ref 106), (1, gs_iv n)]) dd_X9_power_3 rfl (by decide) rfl ?_
  refine sA_sub (lv2 := [(3, gs_iv 0), (2, gs_iv 1), (0, .ref 106), (1, gs_iv n)]) (List.forall_mem_cons.mpr ⟨(.head _), (List.forall_mem_cons.mpr ⟨(.tail _ (.head _)), (List.forall_mem_cons.mpr ⟨(.tail _ (.tail _ (.head _))), (List.forall_mem_cons.mpr ⟨(.tail _ (.tail _ (.tail _ (.head _)))), (fun _ h => absurd h List.not_mem_nil)⟩)⟩)⟩)⟩) ?_
  exact (k_X9_power hI hn (3 - 0 : Int).toNat.succ) 1 0  (by omega) (by omega) (by omega)
theorem dd_X9_numberPlan_0 : decode cX9_numberPlan 0 = .ok (.aload_n 0, 1) := by decide +kernel
theorem dd_X9_numberPlan_1 : decode cX9_numberPlan 1 = .ok (.getfield 19, 3) := by decide +kernel
theorem dd_X9_numberPlan_4 : decode cX9_numberPlan 4 = .ok (.bipush 8, 2) := by decide +kernel
theorem dd_X9_numberPlan_6 : decode cX9_numberPlan 6 = .ok (.iload_n 1, 1) := by decide +kernel
theorem dd_X9_numberPlan_7 : decode cX9_numberPlan 7 = .ok (.iastore, 1) := by decide +kernel
theorem dd_X9_numberPlan_8 : decode cX9_numberPlan 8 = .ok (.iload_n 2, 1) := by decide +kernel
theorem dd_X9_numberPlan_9 : decode cX9_numberPlan 9 = .ok (.istore_n 3, 1) := by decide +kernel
theorem dd_X9_numberPlan_10 : decode cX9_numberPlan 10 = .ok (.iload_n 1, 1) := by decide +kernel
theorem dd_X9_numberPlan_11 : decode cX9_numberPlan 11 = .ok (.iconst 1, 1) := by decide +kernel
theorem dd_X9_numberPlan_12 : decode cX9_numberPlan 12 = .ok (.isub, 1) := by decide +kernel
theorem dd_X9_numberPlan_13 : decode cX9_numberPlan 13 = .ok (.istore 4, 2) := by decide +kernel
theorem dd_X9_numberPlan_15 : decode cX9_numberPlan 15 = .ok (.iload 4, 2) := by decide +kernel
theorem dd_X9_numberPlan_17 : decode cX9_numberPlan 17 = .ok (.ifCond .lt 37, 3) := by decide +kernel
theorem dd_X9_numberPlan_20 : decode cX9_numberPlan 20 = .ok (.aload_n 0, 1) := by decide +kernel
theorem dd_X9_numberPlan_21 : decode cX9_numberPlan 21 = .ok (.getfield 22, 3) := by decide +kernel
theorem dd_X9_numberPlan_24 : decode cX9_numberPlan 24 = .ok (.sipush 480, 3) := by decide +kernel
theorem dd_X9_numberPlan_27 : decode cX9_numberPlan 27 = .ok (.iload 4, 2) := by decide +kernel
theorem dd_X9_numberPlan_29 : decode cX9_numberPlan 29 = .ok (.iadd, 1) := by decide +kernel
theorem dd_X9_numberPlan_30 : decode cX9_numberPlan 30 = .ok (.iload_n 3, 1) := by decide +kernel
theorem dd_X9_numberPlan_31 : decode cX9_numberPlan 31 = .ok (.iconst 2, 1) := by decide +kernel
theorem dd_X9_numberPlan_32 : decode cX9_numberPlan 32 = .ok (.aload_n 0, 1) := by decide +kernel
theorem dd_X9_numberPlan_33 : decode cX9_numberPlan 33 = .ok (.invokevirtual 289, 3) := by decide +kernel
theorem dd_X9_numberPlan_36 : decode cX9_numberPlan 36 = .ok (.imul, 1) := by decide +kernel
theorem dd_X9_numberPlan_37 : decode cX9_numberPlan 37 = .ok (.irem, 1) := by decide +kernel
theorem dd_X9_numberPlan_38 : decode cX9_numberPlan 38 = .ok (.iastore, 1) := by decide +kernel
theorem dd_X9_numberPlan_39 : decode cX9_numberPlan 39 = .ok (.iload_n 3, 1) := by decide +kernel
theorem dd_X9_numberPlan_40 : decode cX9_numberPlan 40 = .ok (.iconst 2, 1) := by decide +kernel
theorem dd_X9_numberPlan_41 : decode cX9_numberPlan 41 = .ok (.aload_n 0, 1) := by decide +kernel
theorem dd_X9_numberPlan_42 : decode cX9_numberPlan 42 = .ok (.invokevirtual 289, 3) := by decide +kernel
theorem dd_X9_numberPlan_45 : decode cX9_numberPlan 45 = .ok (.imul, 1) := by decide +kernel
theorem dd_X9_numberPlan_46 : decode cX9_numberPlan 46 = .ok (.idiv, 1) := by decide +kernel
theorem dd_X9_numberPlan_47 : decode cX9_numberPlan 47 = .ok (.istore_n 3, 1) := by decide +kernel
theorem dd_X9_numberPlan_48 : decode cX9_numberPlan 48 = .ok (.iinc 4 (-1), 3) := by decide +kernel
theorem dd_X9_numberPlan_51 : decode cX9_numberPlan 51 = .ok (.goto (-36), 3) := by decide +kernel
theorem dd_X9_numberPlan_54 : decode cX9_numberPlan 54 = .ok (.return_, 1) := by decide +kernel
theorem ok_X9_numberPlan : am_okM m_X9_numberPlan 2 ∧ Cond.instanceMethod m_X9_numberPlan.1 ∈ am_tbl ∧ Cond.selects m_X9_numberPlan.1.cls m_X9_numberPlan.1 m_X9_numberPlan.1 ∈ am_tbl := ri_mk1 1201 93 1200 79 (by decide +kernel)
theorem k_X9_numberPlan {n x : Int} {F A : gs_F} (hI : gs_I F A) (hn : 0 ≤ n ∧ n ≤ 3) (hx : -2147483648 ≤ x ∧ x ≤ 2147483647) : ∀ nN : Nat, (∀ (l : Int) (k : Int)  (F1 A1 : gs_F), gs_I F1 A1 → gs_fr (fun _ _ => False) (fun c => c = 110 ∨ c = 111) F A F1 A1 → -2147483648 ≤ l ∧ l ≤ 2147483647 → -1 ≤ k ∧ k ≤ 2 → k + 1 < (nN : Int) → sA m_X9_numberPlan 2 (fun rv F' A' => rv = none ∧ gs_I F' A' ∧ gs_fr (fun _ _ => False) (fun c => c = 110 ∨ c = 111) F A F' A' ∧ (True)) 15 [(4, gs_iv k), (3, gs_iv l), (0, .ref 106)] [] F1 A1) := by
  intro nN
  induction nN with
  | zero =>
    exact fun a0 a1 a2 a3 a4 a5 i0 i1 hm => by exfalso; omega
  | succ nN ih =>
    intro l k F1 A1 hI1 hf1 i0 i1 hm
    have hb0 : (1 : Int) ≤ F1 106 0 ∧ F1 106 0 ≤ 3 := hI1.1 106 0
    refine sA_iload dd_X9_numberPlan_15 (.head _) ?_
    refine sA_if_lt (tgt := 54) dd_X9_numberPlan_17 (by decide) (by omega) (fun q1 => ?_) (fun q1 => ?_)
    · skip
      refine sA_vret dd_X9_numberPlan_54 rfl ?_
      exact ⟨rfl, hI1, hf1, trivial⟩
    · skip
      refine sA_aload_n dd_X9_numberPlan_20 rfl (.tail _ (.tail _ (.head _))) ?_
      refine sA_getr (ci := 9) (j := 7) (q := (RX9, TX9, 28)) dd_X9_numberPlan_21 rfl (by decide) fl_X9_22 (by decide) gs_s106 rfl ?_
      refine sA_sipush (z := 480) dd_X9_numberPlan_24 (by decide) ?_
      refine sA_iload dd_X9_numberPlan_27 (.head _) ?_
      refine sA_iadd dd_X9_numberPlan_29 ?_
      refine sA_iload_n dd_X9_numberPlan_30 rfl (.tail _ (.head _)) ?_
      refine sA_iconst (z := 2) dd_X9_numberPlan_31 ?_
      refine sA_aload_n dd_X9_numberPlan_32 rfl (.tail _ (.tail _ (.head _))) ?_
      refine sA_callV (y2 := m_X9_twists) (n2 := 0) (d2 := 1) (a := 106) (ci := 9) (q := (RX9, TX9, 28)) (as := []) (rest := [gs_iv 2, gs_iv l, gs_iv (480 + k), .ref 111]) dd_X9_numberPlan_33 ok_X9_twists ml_X9_289 rfl rfl (by decide) gs_s106 rfl rfl (Nat.le_of_ble_eq_true rfl) (by decide) (c_X9_twists hI1 ) (fun r2 F3 A4 h5 => ?_)
      obtain ⟨z8, e7, e9, e10, x6⟩ := h5
      subst e7 e9 e10
      show sA _ _ _ 36 _ [gs_iv z8, gs_iv 2, gs_iv l, gs_iv (480 + k), .ref 111] _ _
      refine sA_imul dd_X9_numberPlan_36 ?_
      refine sA_irem dd_X9_numberPlan_37 (by omega) (by omega) (by omega) ?_
      refine sA_wrap ?_
      have b12 := gs_w_rng (l.tmod (2 * z8))
      generalize gs_w (l.tmod (2 * z8)) = w11 at b12 ⊢
      refine sA_iast (n := 540) dd_X9_numberPlan_38 (by decide) gs_s111 (by omega) (by decide) ?_
      have I14 : gs_I F1 (gs_up A1 111 ((480 + k).toNat) w11) := gs_I_ast hI1 (show (-2147483648 : Int) ≤ w11 ∧ w11 ≤ 2147483647 by omega)
      have f15 := gs_fr_ast hf1 (a := 111) (z := w11) (i := (480 + k).toNat) (by first | omega | (dsimp only; omega) | (dsimp only))
      generalize gs_up A1 111 ((480 + k).toNat) w11 = A13 at I14 f15 ⊢
      refine sA_iload_n dd_X9_numberPlan_39 rfl (.tail _ (.head _)) ?_
      refine sA_iconst (z := 2) dd_X9_numberPlan_40 ?_
      refine sA_aload_n dd_X9_numberPlan_41 rfl (.tail _ (.tail _ (.head _))) ?_
      refine sA_callV (y2 := m_X9_twists) (n2 := 0) (d2 := 1) (a := 106) (ci := 9) (q := (RX9, TX9, 28)) (as := []) (rest := [gs_iv 2, gs_iv l]) dd_X9_numberPlan_42 ok_X9_twists ml_X9_289 rfl rfl (by decide) gs_s106 rfl rfl (Nat.le_of_ble_eq_true rfl) (by decide) (c_X9_twists I14 ) (fun r16 F17 A18 h19 => ?_)
      obtain ⟨z22, e21, e23, e24, x20⟩ := h19
      subst e21 e23 e24
      show sA _ _ _ 45 _ [gs_iv z22, gs_iv 2, gs_iv l] _ _
      refine sA_imul dd_X9_numberPlan_45 ?_
      refine sA_idiv dd_X9_numberPlan_46 (by omega) (by omega) (by omega) ?_
      refine sA_wrap ?_
      have b26 := gs_w_rng (l.tdiv (2 * z22))
      generalize gs_w (l.tdiv (2 * z22)) = w25 at b26 ⊢
      refine sA_istore_n (lv' := [(3, gs_iv w25), (4, gs_iv k), (0, .ref 106)]) dd_X9_numberPlan_47 rfl (by decide) rfl ?_
      refine sA_iinc (lv' := [(4, gs_iv (k + (-1))), (3, gs_iv w25), (0, .ref 106)]) dd_X9_numberPlan_48 (.tail _ (.head _)) (by decide) rfl ?_
      refine sA_goto (tgt := 15) dd_X9_numberPlan_51 (by decide) ?_
      refine sA_sub (lv2 := [(4, gs_iv (k + (-1))), (3, gs_iv w25), (0, .ref 106)]) (List.forall_mem_cons.mpr ⟨(.head _), (List.forall_mem_cons.mpr ⟨(.tail _ (.head _)), (List.forall_mem_cons.mpr ⟨(.tail _ (.tail _ (.head _))), (fun _ h => absurd h List.not_mem_nil)⟩)⟩)⟩) ?_
      exact ih w25 (k + (-1)) F1 A13 I14 f15 (by omega) (by omega) (by omega)
theorem c_X9_numberPlan {n x : Int} {F A : gs_F} (hI : gs_I F A) (hn : 0 ≤ n ∧ n ≤ 3) (hx : -2147483648 ≤ x ∧ x ≤ 2147483647) : sC m_X9_numberPlan 2 [.ref 106, gs_iv n, gs_iv x] F A (fun rv F' A' => rv = none ∧ gs_I F' A' ∧ gs_fr (fun _ _ => False) (fun c => c = 110 ∨ c = 111) F A F' A' ∧ (True)) := by
  refine sC_of ok_X9_numberPlan.1 (Nat.le_of_ble_eq_true rfl) ?_
  show sA _ _ _ 0 [(0, .ref 106), (1, gs_iv n), (2, gs_iv x)] [] F A
  have hf : gs_fr (fun _ _ => False) (fun c => c = 110 ∨ c = 111) F A F A := gs_fr_refl _ _ _ _
  refine sA_aload_n dd_X9_numberPlan_0 rfl (.head _) ?_
  refine sA_getr (ci := 9) (j := 6) (q := (RX9, TX9, 28)) dd_X9_numberPlan_1 rfl (by decide) fl_X9_19 (by decide) gs_s106 rfl ?_
  refine sA_bipush (z := 8) dd_X9_numberPlan_4 (by decide) ?_
  refine sA_iload_n dd_X9_numberPlan_6 rfl (.tail _ (.head _)) ?_
  refine sA_iast (n := 9) dd_X9_numberPlan_7 (by decide) gs_s110 (by omega) (by decide) ?_
  have I28 : gs_I F (gs_up A 110 ((8 : Int).toNat) n) := gs_I_ast hI (show (0 : Int) ≤ n ∧ n ≤ 60 by omega)
  have f29 := gs_fr_ast hf (a := 110) (z := n) (i := (8 : Int).toNat) (by first | omega | (dsimp only; omega) | (dsimp only))
  generalize gs_up A 110 ((8 : Int).toNat) n = A27 at I28 f29 ⊢
  refine sA_iload_n dd_X9_numberPlan_8 rfl (.tail _ (.tail _ (.head _))) ?_
  refine sA_istore_n (lv' := [(3, gs_iv x), (0, .ref 106), (1, gs_iv n), (2, gs_iv x)]) dd_X9_numberPlan_9 rfl (by decide) rfl ?_
  refine sA_iload_n dd_X9_numberPlan_10 rfl (.tail _ (.tail _ (.head _))) ?_
  refine sA_iconst (z := 1) dd_X9_numberPlan_11 ?_
  refine sA_isub dd_X9_numberPlan_12 ?_
  refine sA_istore (lv' := [(4, gs_iv (n - 1)), (3, gs_iv x), (0, .ref 106), (1, gs_iv n), (2, gs_iv x)]) dd_X9_numberPlan_13 (by decide) rfl ?_
  refine sA_sub (lv2 := [(4, gs_iv (n - 1)), (3, gs_iv x), (0, .ref 106)]) (List.forall_mem_cons.mpr ⟨(.head _), (List.forall_mem_cons.mpr ⟨(.tail _ (.head _)), (List.forall_mem_cons.mpr ⟨(.tail _ (.tail _ (.head _))), (fun _ h => absurd h List.not_mem_nil)⟩)⟩)⟩) ?_
  exact (k_X9_numberPlan hI hn hx ((n - 1) + 1 : Int).toNat.succ) x (n - 1) F A27 I28 f29 (by omega) (by omega) (by omega)
theorem dd_X9_carries_0 : decode cX9_carries 0 = .ok (.aload_n 0, 1) := by decide +kernel
theorem dd_X9_carries_1 : decode cX9_carries 1 = .ok (.iload_n 1, 1) := by decide +kernel
theorem dd_X9_carries_2 : decode cX9_carries 2 = .ok (.invokevirtual 230, 3) := by decide +kernel
theorem dd_X9_carries_5 : decode cX9_carries 5 = .ok (.aload_n 0, 1) := by decide +kernel
theorem dd_X9_carries_6 : decode cX9_carries 6 = .ok (.bipush 8, 2) := by decide +kernel
theorem dd_X9_carries_8 : decode cX9_carries 8 = .ok (.invokevirtual 227, 3) := by decide +kernel
theorem dd_X9_carries_11 : decode cX9_carries 11 = .ok (.ifCond .ne 5, 3) := by decide +kernel
theorem dd_X9_carries_14 : decode cX9_carries 14 = .ok (.iconst 0, 1) := by decide +kernel
theorem dd_X9_carries_15 : decode cX9_carries 15 = .ok (.ireturn, 1) := by decide +kernel
theorem dd_X9_carries_16 : decode cX9_carries 16 = .ok (.aload_n 0, 1) := by decide +kernel
theorem dd_X9_carries_17 : decode cX9_carries 17 = .ok (.invokevirtual 233, 3) := by decide +kernel
theorem dd_X9_carries_20 : decode cX9_carries 20 = .ok (.aload_n 0, 1) := by decide +kernel
theorem dd_X9_carries_21 : decode cX9_carries 21 = .ok (.iload_n 2, 1) := by decide +kernel
theorem dd_X9_carries_22 : decode cX9_carries 22 = .ok (.invokevirtual 106, 3) := by decide +kernel
theorem dd_X9_carries_25 : decode cX9_carries 25 = .ok (.aload_n 0, 1) := by decide +kernel
theorem dd_X9_carries_26 : decode cX9_carries 26 = .ok (.invokevirtual 109, 3) := by decide +kernel
theorem dd_X9_carries_29 : decode cX9_carries 29 = .ok (.ireturn, 1) := by decide +kernel
theorem ok_X9_carries : am_okM m_X9_carries 2 ∧ Cond.instanceMethod m_X9_carries.1 ∈ am_tbl ∧ Cond.selects m_X9_carries.1.cls m_X9_carries.1 m_X9_carries.1 ∈ am_tbl := ri_mk1 1205 93 1204 80 (by decide +kernel)
theorem c_X9_carries {r s : Int} {F A : gs_F} (hI : gs_I F A) (hr : 0 ≤ r ∧ r < 12) (hs : 0 ≤ s ∧ s < 12) (h1 : 1 ≤ A 108 s.toNat) : sC m_X9_carries 6 [.ref 106, gs_iv r, gs_iv s] F A (fun rv F' A' => ∃ z : Int, rv = some (gs_iv z) ∧ gs_I F' A' ∧ gs_fr (fun c j => c = 106 ∧ (j = 9 ∨ j = 11 ∨ j = 13 ∨ j = 15)) (fun c => c = 112 ∨ c = 113 ∨ c = 114 ∨ c = 115) F A F' A' ∧ (z = 0 ∨ z = 1)) := by
  refine sC_of ok_X9_carries.1 (Nat.le_of_ble_eq_true rfl) ?_
  show sA _ _ _ 0 [(0, .ref 106), (1, gs_iv r), (2, gs_iv s)] [] F A
  have hf : gs_fr (fun c j => c = 106 ∧ (j = 9 ∨ j = 11 ∨ j = 13 ∨ j = 15)) (fun c => c = 112 ∨ c = 113 ∨ c = 114 ∨ c = 115) F A F A := gs_fr_refl _ _ _ _
  refine sA_aload_n dd_X9_carries_0 rfl (.head _) ?_
  refine sA_iload_n dd_X9_carries_1 rfl (.tail _ (.head _)) ?_
  refine sA_callV (y2 := m_X9_takeRing) (n2 := 1) (d2 := 1) (a := 106) (ci := 9) (q := (RX9, TX9, 28)) (as := [gs_iv r]) (rest := []) dd_X9_carries_2 ok_X9_takeRing ml_X9_230 rfl rfl (by decide) gs_s106 rfl rfl (Nat.le_of_ble_eq_true rfl) (by decide) (c_X9_takeRing hI (by omega)) (fun r1 F2 A3 h4 => ?_)
  obtain ⟨e6, I7, f8, x5⟩ := h4
  subst e6
  have v9 : A3 108 s.toNat = A 108 s.toNat := congrFun (f8.2 108 (by first | exact id | omega | (dsimp only; omega) | (dsimp only))) _
  have f10 := gs_fr_tr hf f8 (fun b j h => by first | exact False.elim h | omega | (dsimp only at h ⊢; omega)) (fun b h => by first | exact False.elim h | omega | (dsimp only at h ⊢; omega))
  show sA _ _ _ 5 _ [] _ _
  refine sA_aload_n dd_X9_carries_5 rfl (.head _) ?_
  refine sA_bipush (z := 8) dd_X9_carries_6 (by decide) ?_
  refine sA_callV (y2 := m_X9_imageRow) (n2 := 1) (d2 := 5) (a := 106) (ci := 9) (q := (RX9, TX9, 28)) (as := [gs_iv 8]) (rest := []) dd_X9_carries_8 ok_X9_imageRow ml_X9_227 rfl rfl (by decide) gs_s106 rfl rfl (Nat.le_of_ble_eq_true rfl) (by decide) (c_X9_imageRow I7 (by omega)) (fun r11 F12 A13 h14 => ?_)
  obtain ⟨z17, e16, I18, f19, x15⟩ := h14
  subst e16
  have v20 : A13 108 s.toNat = A3 108 s.toNat := congrFun (f19.2 108 (by first | exact id | omega | (dsimp only; omega) | (dsimp only))) _
  have f21 := gs_fr_tr f10 f19 (fun b j h => by first | exact False.elim h | omega | (dsimp only at h ⊢; omega)) (fun b h => by first | exact False.elim h | omega | (dsimp only at h ⊢; omega))
  show sA _ _ _ 11 _ [gs_iv z17] _ _
  refine sA_if_ne (tgt := 16) dd_X9_carries_11 (by decide) (by omega) (fun q22 => ?_) (fun q22 => ?_)
  · skip
    refine sA_aload_n dd_X9_carries_16 rfl (.head _) ?_
    refine sA_callV (y2 := m_X9_closeToU) (n2 := 0) (d2 := 1) (a := 106) (ci := 9) (q := (RX9, TX9, 28)) (as := []) (rest := []) dd_X9_carries_17 ok_X9_closeToU ml_X9_233 rfl rfl (by decide) gs_s106 rfl rfl (Nat.le_of_ble_eq_true rfl) (by decide) (c_X9_closeToU I18 ) (fun r23 F24 A25 h26 => ?_)
    obtain ⟨e28, I29, f30, x27⟩ := h26
    subst e28
    have v31 : A25 108 s.toNat = A13 108 s.toNat := congrFun (f30.2 108 (by first | exact id | omega | (dsimp only; omega) | (dsimp only))) _
    have f32 := gs_fr_tr f21 f30 (fun b j h => by first | exact False.elim h | omega | (dsimp only at h ⊢; omega)) (fun b h => by first | exact False.elim h | omega | (dsimp only at h ⊢; omega))
    show sA _ _ _ 20 _ [] _ _
    refine sA_aload_n dd_X9_carries_20 rfl (.head _) ?_
    refine sA_iload_n dd_X9_carries_21 rfl (.tail _ (.tail _ (.head _))) ?_
    refine sA_callV (y2 := m_X9_takeV) (n2 := 1) (d2 := 1) (a := 106) (ci := 9) (q := (RX9, TX9, 28)) (as := [gs_iv s]) (rest := []) dd_X9_carries_22 ok_X9_takeV ml_X9_106 rfl rfl (by decide) gs_s106 rfl rfl (Nat.le_of_ble_eq_true rfl) (by decide) (c_X9_takeV I29 (by omega)) (fun r33 F34 A35 h36 => ?_)
    obtain ⟨e38, I39, f40, x37⟩ := h36
    subst e38
    have v41 : A35 108 s.toNat = A25 108 s.toNat := congrFun (f40.2 108 (by first | exact id | omega | (dsimp only; omega) | (dsimp only))) _
    have f42 := gs_fr_tr f32 f40 (fun b j h => by first | exact False.elim h | omega | (dsimp only at h ⊢; omega)) (fun b h => by first | exact False.elim h | omega | (dsimp only at h ⊢; omega))
    show sA _ _ _ 25 _ [] _ _
    refine sA_aload_n dd_X9_carries_25 rfl (.head _) ?_
    refine sA_callV (y2 := m_X9_areOne) (n2 := 0) (d2 := 3) (a := 106) (ci := 9) (q := (RX9, TX9, 28)) (as := []) (rest := []) dd_X9_carries_26 ok_X9_areOne ml_X9_109 rfl rfl (by decide) gs_s106 rfl rfl (Nat.le_of_ble_eq_true rfl) (by decide) (c_X9_areOne I39 (by omega)) (fun r43 F44 A45 h46 => ?_)
    obtain ⟨z49, e48, I50, f51, x47⟩ := h46
    subst e48
    have v52 : A45 108 s.toNat = A35 108 s.toNat := congrFun (f51.2 108 (by first | exact id | omega | (dsimp only; omega) | (dsimp only))) _
    have f53 := gs_fr_tr f42 f51 (fun b j h => by first | exact False.elim h | omega | (dsimp only at h ⊢; omega)) (fun b h => by first | exact False.elim h | omega | (dsimp only at h ⊢; omega))
    show sA _ _ _ 29 _ [gs_iv z49] _ _
    refine sA_bret (z := z49) dd_X9_carries_29 rfl (by omega) ?_
    exact ⟨_, rfl, I50, f53, by omega⟩
  · skip
    refine sA_iconst (z := 0) dd_X9_carries_14 ?_
    refine sA_bret (z := 0) dd_X9_carries_15 rfl (by omega) ?_
    exact ⟨_, rfl, I18, f21, by omega⟩
theorem dd_X9_carry_0 : decode cX9_carry 0 = .ok (.aload_n 0, 1) := by decide +kernel
theorem dd_X9_carry_1 : decode cX9_carry 1 = .ok (.iload_n 1, 1) := by decide +kernel
theorem dd_X9_carry_2 : decode cX9_carry 2 = .ok (.invokevirtual 100, 3) := by decide +kernel
theorem dd_X9_carry_5 : decode cX9_carry 5 = .ok (.ifCond .ne 11, 3) := by decide +kernel
theorem dd_X9_carry_8 : decode cX9_carry 8 = .ok (.aload_n 0, 1) := by decide +kernel
theorem dd_X9_carry_9 : decode cX9_carry 9 = .ok (.iload_n 2, 1) := by decide +kernel
theorem dd_X9_carry_10 : decode cX9_carry 10 = .ok (.invokevirtual 100, 3) := by decide +kernel
theorem dd_X9_carry_13 : decode cX9_carry 13 = .ok (.ifCond .eq 7, 3) := by decide +kernel
theorem dd_X9_carry_16 : decode cX9_carry 16 = .ok (.sipush (-1001), 3) := by decide +kernel
theorem dd_X9_carry_19 : decode cX9_carry 19 = .ok (.ireturn, 1) := by decide +kernel
theorem dd_X9_carry_20 : decode cX9_carry 20 = .ok (.iload_n 3, 1) := by decide +kernel
theorem dd_X9_carry_21 : decode cX9_carry 21 = .ok (.i2l, 1) := by decide +kernel
theorem dd_X9_carry_22 : decode cX9_carry 22 = .ok (.lconst 0, 1) := by decide +kernel
theorem dd_X9_carry_23 : decode cX9_carry 23 = .ok (.ldc2_w 73, 3) := by decide +kernel
theorem dd_X9_carry_26 : decode cX9_carry 26 = .ok (.invokestatic 75, 3) := by decide +kernel
theorem dd_X9_carry_29 : decode cX9_carry 29 = .ok (.ifCond .eq 18, 3) := by decide +kernel
theorem dd_X9_carry_32 : decode cX9_carry 32 = .ok (.iload 4, 2) := by decide +kernel
theorem dd_X9_carry_34 : decode cX9_carry 34 = .ok (.i2l, 1) := by decide +kernel
theorem dd_X9_carry_35 : decode cX9_carry 35 = .ok (.ldc2_w 269, 3) := by decide +kernel
theorem dd_X9_carry_38 : decode cX9_carry 38 = .ok (.ldc2_w 299, 3) := by decide +kernel
theorem dd_X9_carry_41 : decode cX9_carry 41 = .ok (.invokestatic 75, 3) := by decide +kernel
theorem dd_X9_carry_44 : decode cX9_carry 44 = .ok (.ifCond .ne 7, 3) := by decide +kernel
theorem dd_X9_carry_47 : decode cX9_carry 47 = .ok (.sipush (-1002), 3) := by decide +kernel
theorem dd_X9_carry_50 : decode cX9_carry 50 = .ok (.ireturn, 1) := by decide +kernel
theorem dd_X9_carry_51 : decode cX9_carry 51 = .ok (.iconst 0, 1) := by decide +kernel
theorem dd_X9_carry_52 : decode cX9_carry 52 = .ok (.istore 5, 2) := by decide +kernel
theorem dd_X9_carry_54 : decode cX9_carry 54 = .ok (.iload 5, 2) := by decide +kernel
theorem dd_X9_carry_56 : decode cX9_carry 56 = .ok (.iload_n 3, 1) := by decide +kernel
theorem dd_X9_carry_57 : decode cX9_carry 57 = .ok (.if_icmp .gt 84, 3) := by decide +kernel
theorem dd_X9_carry_60 : decode cX9_carry 60 = .ok (.aload_n 0, 1) := by decide +kernel
theorem dd_X9_carry_61 : decode cX9_carry 61 = .ok (.iload 5, 2) := by decide +kernel
theorem dd_X9_carry_63 : decode cX9_carry 63 = .ok (.invokevirtual 301, 3) := by decide +kernel
theorem dd_X9_carry_66 : decode cX9_carry 66 = .ok (.istore 6, 2) := by decide +kernel
theorem dd_X9_carry_68 : decode cX9_carry 68 = .ok (.iconst 0, 1) := by decide +kernel
theorem dd_X9_carry_69 : decode cX9_carry 69 = .ok (.istore 7, 2) := by decide +kernel
theorem dd_X9_carry_71 : decode cX9_carry 71 = .ok (.iload 7, 2) := by decide +kernel
theorem dd_X9_carry_73 : decode cX9_carry 73 = .ok (.iload 6, 2) := by decide +kernel
theorem dd_X9_carry_75 : decode cX9_carry 75 = .ok (.if_icmp .ge 60, 3) := by decide +kernel
theorem dd_X9_carry_78 : decode cX9_carry 78 = .ok (.aload_n 0, 1) := by decide +kernel
theorem dd_X9_carry_79 : decode cX9_carry 79 = .ok (.iload 5, 2) := by decide +kernel
theorem dd_X9_carry_81 : decode cX9_carry 81 = .ok (.iload 7, 2) := by decide +kernel
theorem dd_X9_carry_83 : decode cX9_carry 83 = .ok (.invokevirtual 304, 3) := by decide +kernel
theorem dd_X9_carry_86 : decode cX9_carry 86 = .ok (.aload_n 0, 1) := by decide +kernel
theorem dd_X9_carry_87 : decode cX9_carry 87 = .ok (.iload_n 1, 1) := by decide +kernel
theorem dd_X9_carry_88 : decode cX9_carry 88 = .ok (.iload_n 2, 1) := by decide +kernel
theorem dd_X9_carry_89 : decode cX9_carry 89 = .ok (.invokevirtual 308, 3) := by decide +kernel
theorem dd_X9_carry_92 : decode cX9_carry 92 = .ok (.ifCond .eq 37, 3) := by decide +kernel
theorem dd_X9_carry_95 : decode cX9_carry 95 = .ok (.iload 4, 2) := by decide +kernel
theorem dd_X9_carry_97 : decode cX9_carry 97 = .ok (.iconst (-1), 1) := by decide +kernel
theorem dd_X9_carry_98 : decode cX9_carry 98 = .ok (.if_icmp .ne 8, 3) := by decide +kernel
theorem dd_X9_carry_101 : decode cX9_carry 101 = .ok (.iload 5, 2) := by decide +kernel
theorem dd_X9_carry_103 : decode cX9_carry 103 = .ok (.goto 25, 3) := by decide +kernel
theorem dd_X9_carry_106 : decode cX9_carry 106 = .ok (.iload 4, 2) := by decide +kernel
theorem dd_X9_carry_108 : decode cX9_carry 108 = .ok (.iload 5, 2) := by decide +kernel
theorem dd_X9_carry_110 : decode cX9_carry 110 = .ok (.if_icmp .ge 17, 3) := by decide +kernel
theorem dd_X9_carry_113 : decode cX9_carry 113 = .ok (.aload_n 0, 1) := by decide +kernel
theorem dd_X9_carry_114 : decode cX9_carry 114 = .ok (.getfield 22, 3) := by decide +kernel
theorem dd_X9_carry_117 : decode cX9_carry 117 = .ok (.sipush 480, 3) := by decide +kernel
theorem dd_X9_carry_120 : decode cX9_carry 120 = .ok (.iload 4, 2) := by decide +kernel
theorem dd_X9_carry_122 : decode cX9_carry 122 = .ok (.iadd, 1) := by decide +kernel
theorem dd_X9_carry_123 : decode cX9_carry 123 = .ok (.iaload, 1) := by decide +kernel
theorem dd_X9_carry_124 : decode cX9_carry 124 = .ok (.goto 4, 3) := by decide +kernel
theorem dd_X9_carry_127 : decode cX9_carry 127 = .ok (.iconst (-1), 1) := by decide +kernel
theorem dd_X9_carry_128 : decode cX9_carry 128 = .ok (.ireturn, 1) := by decide +kernel
theorem dd_X9_carry_129 : decode cX9_carry 129 = .ok (.iinc 7 1, 3) := by decide +kernel
theorem dd_X9_carry_132 : decode cX9_carry 132 = .ok (.goto (-61), 3) := by decide +kernel
theorem dd_X9_carry_135 : decode cX9_carry 135 = .ok (.iinc 5 1, 3) := by decide +kernel
theorem dd_X9_carry_138 : decode cX9_carry 138 = .ok (.goto (-84), 3) := by decide +kernel
theorem dd_X9_carry_141 : decode cX9_carry 141 = .ok (.iconst (-1), 1) := by decide +kernel
theorem dd_X9_carry_142 : decode cX9_carry 142 = .ok (.ireturn, 1) := by decide +kernel
theorem ml_X9_301 : Cond.methodLink RX9 301 m_X9_power.1 ∈ am_tbl := ri_lw_in (pl := 1194) (by decide +kernel)
theorem ml_X9_304 : Cond.methodLink RX9 304 m_X9_numberPlan.1 ∈ am_tbl := ri_lw_in (pl := 1198) (by decide +kernel)
theorem ml_X9_308 : Cond.methodLink RX9 308 m_X9_carries.1 ∈ am_tbl := ri_lw_in (pl := 1202) (by decide +kernel)
theorem ok_X9_carry : am_okM m_X9_carry 4 ∧ Cond.instanceMethod m_X9_carry.1 ∈ am_tbl ∧ Cond.selects m_X9_carry.1.cls m_X9_carry.1 m_X9_carry.1 ∈ am_tbl := ri_mk1 1192 93 1190 1191 (by decide +kernel)
theorem k_X9_carry {r s n i : Int} {F A : gs_F} (hI : gs_I F A) (hr : -2147483648 ≤ r ∧ r ≤ 2147483647) (hs : -2147483648 ≤ s ∧ s ≤ 2147483647) (hn : -2147483648 ≤ n ∧ n ≤ 2147483647) (hi : -2147483648 ≤ i ∧ i ≤ 2147483647) (hX : ∀ r : Nat, (r : Int) < F 106 3 → 1 ≤ A 108 r) : ∀ nN : Nat, (∀ (m : Int)  (F1 A1 : gs_F), gs_I F1 A1 → gs_fr (fun c j => c = 106 ∧ (j = 9 ∨ j = 11 ∨ j = 13 ∨ j = 15)) (fun c => c = 110 ∨ c = 111 ∨ c = 112 ∨ c = 113 ∨ c = 114 ∨ c = 115) F A F1 A1 → 0 ≤ r ∧ r < 12 → 0 ≤ s ∧ s < F 106 3 ∧ s < 12 → 0 ≤ n ∧ n ≤ 3 → -1 ≤ i ∧ i ≤ 2 → 0 ≤ m ∧ m ≤ n + 1 → (4 - m) * 4294967296 + 1 < (nN : Int) → sA m_X9_carry 7 (fun rv F' A' => ∃ z : Int, rv = some (gs_iv z) ∧ gs_I F' A' ∧ gs_fr (fun c j => c = 106 ∧ (j = 9 ∨ j = 11 ∨ j = 13 ∨ j = 15)) (fun c => c = 110 ∨ c = 111 ∨ c = 112 ∨ c = 113 ∨ c = 114 ∨ c = 115) F A F' A' ∧ (True)) 54 [(5, gs_iv m), (0, .ref 106), (1, gs_iv r), (2, gs_iv s), (3, gs_iv n), (4, gs_iv i)] [] F1 A1) ∧ (∀ (m : Int) (l : Int) (x : Int)  (F1 A1 : gs_F), gs_I F1 A1 → gs_fr (fun c j => c = 106 ∧ (j = 9 ∨ j = 11 ∨ j = 13 ∨ j = 15)) (fun c => c = 110 ∨ c = 111 ∨ c = 112 ∨ c = 113 ∨ c = 114 ∨ c = 115) F A F1 A1 → 0 ≤ r ∧ r < 12 → 0 ≤ s ∧ s < F 106 3 ∧ s < 12 → 0 ≤ n ∧ n ≤ 3 → -1 ≤ i ∧ i ≤ 2 → 0 ≤ m ∧ m ≤ n → -2147483648 ≤ l ∧ l ≤ 2147483647 → 0 ≤ x ∧ x ≤ 2147483647 → (4 - m) * 4294967296 - x < (nN : Int) → sA m_X9_carry 7 (fun rv F' A' => ∃ z : Int, rv = some (gs_iv z) ∧ gs_I F' A' ∧ gs_fr (fun c j => c = 106 ∧ (j = 9 ∨ j = 11 ∨ j = 13 ∨ j = 15)) (fun c => c = 110 ∨ c = 111 ∨ c = 112 ∨ c = 113 ∨ c = 114 ∨ c = 115) F A F' A' ∧ (True)) 71 [(7, gs_iv x), (6, gs_iv l), (5, gs_iv m), (0, .ref 106), (1, gs_iv r), (2, gs_iv s), (3, gs_iv n), (4, gs_iv i)] [] F1 A1) := by
  intro nN
  induction nN with
  | zero =>
    exact ⟨fun a0 a1 a2 a3 a4 i0 i1 i2 i3 i4 hm => by exfalso; omega, fun a0 a1 a2 a3 a4 a5 a6 i0 i1 i2 i3 i4 i5 i6 hm => by exfalso; omega⟩
  | succ nN ih =>
    refine ⟨?_, ?_⟩
    · skip
      intro m F1 A1 hI1 hf1 i0 i1 i2 i3 i4 hm
      have hA8 := hf1.2 108 (by dsimp only; omega)
      have hx_s : 1 ≤ A1 108 s.toNat := by rw [hA8]; exact hX _ (by omega)
      refine sA_iload dd_X9_carry_54 (.head _) ?_
      refine sA_iload_n dd_X9_carry_56 rfl (.tail _ (.tail _ (.tail _ (.tail _ (.head _))))) ?_
      refine sA_icmp_gt (tgt := 141) dd_X9_carry_57 (by decide) (by omega) (by omega) (fun q1 => ?_) (fun q1 => ?_)
      · skip
        refine sA_iconst (z := (-1)) dd_X9_carry_141 ?_
        refine sA_iret (z := -1) dd_X9_carry_142 rfl ?_
        exact ⟨_, rfl, hI1, hf1, trivial⟩
      · skip
        refine sA_aload_n dd_X9_carry_60 rfl (.tail _ (.head _)) ?_
        refine sA_iload dd_X9_carry_61 (.head _) ?_
        refine sA_callV (y2 := m_X9_power) (n2 := 1) (d2 := 2) (a := 106) (ci := 9) (q := (RX9, TX9, 28)) (as := [gs_iv m]) (rest := []) dd_X9_carry_63 ok_X9_power ml_X9_301 rfl rfl (by decide) gs_s106 rfl rfl (Nat.le_of_ble_eq_true rfl) (by decide) (c_X9_power hI1 (by omega)) (fun r2 F3 A4 h5 => ?_)
        obtain ⟨z8, e7, e9, e10, x6⟩ := h5
        subst e7 e9 e10
        show sA _ _ _ 66 _ [gs_iv z8] _ _
        refine sA_istore (lv' := [(6, gs_iv z8), (5, gs_iv m), (0, .ref 106), (1, gs_iv r), (2, gs_iv s), (3, gs_iv n), (4, gs_iv i)]) dd_X9_carry_66 (by decide) rfl ?_
        refine sA_iconst (z := 0) dd_X9_carry_68 ?_
        refine sA_istore (lv' := [(7, gs_iv 0), (6, gs_iv z8), (5, gs_iv m), (0, .ref 106), (1, gs_iv r), (2, gs_iv s), (3, gs_iv n), (4, gs_iv i)]) dd_X9_carry_69 (by decide) rfl ?_
        refine sA_sub (lv2 := [(7, gs_iv 0), (6, gs_iv z8), (5, gs_iv m), (0, .ref 106), (1, gs_iv r), (2, gs_iv s), (3, gs_iv n), (4, gs_iv i)]) (List.forall_mem_cons.mpr ⟨(.head _), (List.forall_mem_cons.mpr ⟨(.tail _ (.head _)), (List.forall_mem_cons.mpr ⟨(.tail _ (.tail _ (.head _))), (List.forall_mem_cons.mpr ⟨(.tail _ (.tail _ (.tail _ (.head _)))), (List.forall_mem_cons.mpr ⟨(.tail _ (.tail _ (.tail _ (.tail _ (.head _))))), (List.forall_mem_cons.mpr ⟨(.tail _ (.tail _ (.tail _ (.tail _ (.tail _ (.head _)))))), (List.forall_mem_cons.mpr ⟨(.tail _ (.tail _ (.tail _ (.tail _ (.tail _ (.tail _ (.head _))))))), (List.forall_mem_cons.mpr ⟨(.tail _ (.tail _ (.tail _ (.tail _ (.tail _ (.tail _ (.tail _ (.head _)))))))), (fun _ h => absurd h List.not_mem_nil)⟩)⟩)⟩)⟩)⟩)⟩)⟩)⟩) ?_
        exact ih.2 m z8 0 F1 A1 hI1 hf1 (by omega) (by omega) (by omega) (by omega) (by omega) (by omega) (by omega) (by omega)
    · skip
      intro m l x F1 A1 hI1 hf1 i0 i1 i2 i3 i4 i5 i6 hm
      have hA8 := hf1.2 108 (by dsimp only; omega)
      have hx_s : 1 ≤ A1 108 s.toNat := by rw [hA8]; exact hX _ (by omega)
      refine sA_iload dd_X9_carry_71 (.head _) ?_
      refine sA_iload dd_X9_carry_73 (.tail _ (.head _)) ?_
      refine sA_icmp_ge (tgt := 135) dd_X9_carry_75 (by decide) (by omega) (by omega) (fun q11 => ?_) (fun q11 => ?_)
      · skip
        refine sA_iinc (lv' := [(5, gs_iv (m + 1)), (7, gs_iv x), (6, gs_iv l), (0, .ref 106), (1, gs_iv r), (2, gs_iv s), (3, gs_iv n), (4, gs_iv i)]) dd_X9_carry_135 (.tail _ (.tail _ (.head _))) (by decide) rfl ?_
        refine sA_goto (tgt := 54) dd_X9_carry_138 (by decide) ?_
        refine sA_sub (lv2 := [(5, gs_iv (m + 1)), (0, .ref 106), (1, gs_iv r), (2, gs_iv s), (3, gs_iv n), (4, gs_iv i)]) (List.forall_mem_cons.mpr ⟨(.head _), (List.forall_mem_cons.mpr ⟨(.tail _ (.tail _ (.tail _ (.head _)))), (List.forall_mem_cons.mpr ⟨(.tail _ (.tail _ (.tail _ (.tail _ (.head _))))), (List.forall_mem_cons.mpr ⟨(.tail _ (.tail _ (.tail _ (.tail _ (.tail _ (.head _)))))), (List.forall_mem_cons.mpr ⟨(.tail _ (.tail _ (.tail _ (.tail _ (.tail _ (.tail _ (.head _))))))), (List.forall_mem_cons.mpr ⟨(.tail _ (.tail _ (.tail _ (.tail _ (.tail _ (.tail _ (.tail _ (.head _)))))))), (fun _ h => absurd h List.not_mem_nil)⟩)⟩)⟩)⟩)⟩)⟩) ?_
        exact ih.1 (m + 1) F1 A1 hI1 hf1 (by omega) (by omega) (by omega) (by omega) (by omega) (by omega)
      · skip
        refine sA_aload_n dd_X9_carry_78 rfl (.tail _ (.tail _ (.tail _ (.head _)))) ?_
        refine sA_iload dd_X9_carry_79 (.tail _ (.tail _ (.head _))) ?_
        refine sA_iload dd_X9_carry_81 (.head _) ?_
        refine sA_callV (y2 := m_X9_numberPlan) (n2 := 2) (d2 := 2) (a := 106) (ci := 9) (q := (RX9, TX9, 28)) (as := [gs_iv m, gs_iv x]) (rest := []) dd_X9_carry_83 ok_X9_numberPlan ml_X9_304 rfl rfl (by decide) gs_s106 rfl rfl (Nat.le_of_ble_eq_true rfl) (by decide) (c_X9_numberPlan hI1 (by omega) (by omega)) (fun r12 F13 A14 h15 => ?_)
        obtain ⟨e17, I18, f19, x16⟩ := h15
        subst e17
        have v20 : A14 108 s.toNat = A1 108 s.toNat := congrFun (f19.2 108 (by first | exact id | omega | (dsimp only; omega) | (dsimp only))) _
        have f21 := gs_fr_tr hf1 f19 (fun b j h => by first | exact False.elim h | omega | (dsimp only at h ⊢; omega)) (fun b h => by first | exact False.elim h | omega | (dsimp only at h ⊢; omega))
        show sA _ _ _ 86 _ [] _ _
        refine sA_aload_n dd_X9_carry_86 rfl (.tail _ (.tail _ (.tail _ (.head _)))) ?_
        refine sA_iload_n dd_X9_carry_87 rfl (.tail _ (.tail _ (.tail _ (.tail _ (.head _))))) ?_
        refine sA_iload_n dd_X9_carry_88 rfl (.tail _ (.tail _ (.tail _ (.tail _ (.tail _ (.head _)))))) ?_
        refine sA_callV (y2 := m_X9_carries) (n2 := 2) (d2 := 6) (a := 106) (ci := 9) (q := (RX9, TX9, 28)) (as := [gs_iv r, gs_iv s]) (rest := []) dd_X9_carry_89 ok_X9_carries ml_X9_308 rfl rfl (by decide) gs_s106 rfl rfl (Nat.le_of_ble_eq_true rfl) (by decide) (c_X9_carries I18 (by omega) (by omega) (by omega)) (fun r22 F23 A24 h25 => ?_)
        obtain ⟨z28, e27, I29, f30, x26⟩ := h25
        subst e27
        have v31 : A24 108 s.toNat = A14 108 s.toNat := congrFun (f30.2 108 (by first | exact id | omega | (dsimp only; omega) | (dsimp only))) _
        have f32 := gs_fr_tr f21 f30 (fun b j h => by first | exact False.elim h | omega | (dsimp only at h ⊢; omega)) (fun b h => by first | exact False.elim h | omega | (dsimp only at h ⊢; omega))
        show sA _ _ _ 92 _ [gs_iv z28] _ _
        refine sA_if_eq (tgt := 129) dd_X9_carry_92 (by decide) (by omega) (fun q33 => ?_) (fun q33 => ?_)
        · skip
          refine sA_iinc (lv' := [(7, gs_iv (x + 1)), (6, gs_iv l), (5, gs_iv m), (0, .ref 106), (1, gs_iv r), (2, gs_iv s), (3, gs_iv n), (4, gs_iv i)]) dd_X9_carry_129 (.head _) (by decide) rfl ?_
          refine sA_goto (tgt := 71) dd_X9_carry_132 (by decide) ?_
          refine sA_sub (lv2 := [(7, gs_iv (x + 1)), (6, gs_iv l), (5, gs_iv m), (0, .ref 106), (1, gs_iv r), (2, gs_iv s), (3, gs_iv n), (4, gs_iv i)]) (List.forall_mem_cons.mpr ⟨(.head _), (List.forall_mem_cons.mpr ⟨(.tail _ (.head _)), (List.forall_mem_cons.mpr ⟨(.tail _ (.tail _ (.head _))), (List.forall_mem_cons.mpr ⟨(.tail _ (.tail _ (.tail _ (.head _)))), (List.forall_mem_cons.mpr ⟨(.tail _ (.tail _ (.tail _ (.tail _ (.head _))))), (List.forall_mem_cons.mpr ⟨(.tail _ (.tail _ (.tail _ (.tail _ (.tail _ (.head _)))))), (List.forall_mem_cons.mpr ⟨(.tail _ (.tail _ (.tail _ (.tail _ (.tail _ (.tail _ (.head _))))))), (List.forall_mem_cons.mpr ⟨(.tail _ (.tail _ (.tail _ (.tail _ (.tail _ (.tail _ (.tail _ (.head _)))))))), (fun _ h => absurd h List.not_mem_nil)⟩)⟩)⟩)⟩)⟩)⟩)⟩)⟩) ?_
          exact ih.2 m l (x + 1) F23 A24 I29 f32 (by omega) (by omega) (by omega) (by omega) (by omega) (by omega) (by omega) (by omega)
        · skip
          refine sA_iload dd_X9_carry_95 (.tail _ (.tail _ (.tail _ (.tail _ (.tail _ (.tail _ (.tail _ (.head _)))))))) ?_
          refine sA_iconst (z := (-1)) dd_X9_carry_97 ?_
          refine sA_icmp_ne (tgt := 106) dd_X9_carry_98 (by decide) (by omega) (by omega) (fun q34 => ?_) (fun q34 => ?_)
          · skip
            refine sA_iload dd_X9_carry_106 (.tail _ (.tail _ (.tail _ (.tail _ (.tail _ (.tail _ (.tail _ (.head _)))))))) ?_
            refine sA_iload dd_X9_carry_108 (.tail _ (.tail _ (.head _))) ?_
            refine sA_icmp_ge (tgt := 127) dd_X9_carry_110 (by decide) (by omega) (by omega) (fun q35 => ?_) (fun q35 => ?_)
            · skip
              refine sA_iconst (z := (-1)) dd_X9_carry_127 ?_
              refine sA_iret (z := -1) dd_X9_carry_128 rfl ?_
              exact ⟨_, rfl, I29, f32, trivial⟩
            · skip
              refine sA_aload_n dd_X9_carry_113 rfl (.tail _ (.tail _ (.tail _ (.head _)))) ?_
              refine sA_getr (ci := 9) (j := 7) (q := (RX9, TX9, 28)) dd_X9_carry_114 rfl (by decide) fl_X9_22 (by decide) gs_s106 rfl ?_
              refine sA_sipush (z := 480) dd_X9_carry_117 (by decide) ?_
              refine sA_iload dd_X9_carry_120 (.tail _ (.tail _ (.tail _ (.tail _ (.tail _ (.tail _ (.tail _ (.head _)))))))) ?_
              refine sA_iadd dd_X9_carry_122 ?_
              refine sA_iald (n := 540) dd_X9_carry_123 (by decide) gs_s111 (by omega) (by decide) ?_
              have b36 : (-2147483648 : Int) ≤ A24 111 (480 + i).toNat ∧ A24 111 (480 + i).toNat ≤ 2147483647 := I29.2 111 (480 + i).toNat
              refine sA_goto (tgt := 128) dd_X9_carry_124 (by decide) ?_
              refine sA_iret (z := A24 111 (480 + i).toNat) dd_X9_carry_128 rfl ?_
              exact ⟨_, rfl, I29, f32, trivial⟩
          · skip
            refine sA_iload dd_X9_carry_101 (.tail _ (.tail _ (.head _))) ?_
            refine sA_goto (tgt := 128) dd_X9_carry_103 (by decide) ?_
            refine sA_iret (z := m) dd_X9_carry_128 rfl ?_
            exact ⟨_, rfl, I29, f32, trivial⟩
theorem c_X9_carry {r s n i : Int} {F A : gs_F} (hI : gs_I F A) (hr : -2147483648 ≤ r ∧ r ≤ 2147483647) (hs : -2147483648 ≤ s ∧ s ≤ 2147483647) (hn : -2147483648 ≤ n ∧ n ≤ 2147483647) (hi : -2147483648 ≤ i ∧ i ≤ 2147483647) (hX : ∀ r : Nat, (r : Int) < F 106 3 → 1 ≤ A 108 r) : sC m_X9_carry 7 [.ref 106, gs_iv r, gs_iv s, gs_iv n, gs_iv i] F A (fun rv F' A' => ∃ z : Int, rv = some (gs_iv z) ∧ gs_I F' A' ∧ gs_fr (fun c j => c = 106 ∧ (j = 9 ∨ j = 11 ∨ j = 13 ∨ j = 15)) (fun c => c = 110 ∨ c = 111 ∨ c = 112 ∨ c = 113 ∨ c = 114 ∨ c = 115) F A F' A' ∧ (True)) := by
  refine sC_of ok_X9_carry.1 (Nat.le_of_ble_eq_true rfl) ?_
  show sA _ _ _ 0 [(0, .ref 106), (1, gs_iv r), (2, gs_iv s), (3, gs_iv n), (4, gs_iv i)] [] F A
  have hf : gs_fr (fun c j => c = 106 ∧ (j = 9 ∨ j = 11 ∨ j = 13 ∨ j = 15)) (fun c => c = 110 ∨ c = 111 ∨ c = 112 ∨ c = 113 ∨ c = 114 ∨ c = 115) F A F A := gs_fr_refl _ _ _ _
  refine sA_aload_n dd_X9_carry_0 rfl (.head _) ?_
  refine sA_iload_n dd_X9_carry_1 rfl (.tail _ (.head _)) ?_
  refine sA_callV (y2 := m_X9_noRing) (n2 := 1) (d2 := 2) (a := 106) (ci := 9) (q := (RX9, TX9, 28)) (as := [gs_iv r]) (rest := []) dd_X9_carry_2 ok_X9_noRing ml_X9_100 rfl rfl (by decide) gs_s106 rfl rfl (Nat.le_of_ble_eq_true rfl) (by decide) (c_X9_noRing hI (by omega)) (fun r37 F38 A39 h40 => ?_)
  obtain ⟨z43, e42, e44, e45, x41⟩ := h40
  subst e42 e44 e45
  show sA _ _ _ 5 _ [gs_iv z43] _ _
  refine sA_if_ne (tgt := 16) dd_X9_carry_5 (by decide) (by omega) (fun q46 => ?_) (fun q46 => ?_)
  · skip
    refine sA_sipush (z := (-1001)) dd_X9_carry_16 (by decide) ?_
    refine sA_iret (z := -1001) dd_X9_carry_19 rfl ?_
    exact ⟨_, rfl, hI, hf, trivial⟩
  · skip
    refine sA_aload_n dd_X9_carry_8 rfl (.head _) ?_
    refine sA_iload_n dd_X9_carry_9 rfl (.tail _ (.tail _ (.head _))) ?_
    refine sA_callV (y2 := m_X9_noRing) (n2 := 1) (d2 := 2) (a := 106) (ci := 9) (q := (RX9, TX9, 28)) (as := [gs_iv s]) (rest := []) dd_X9_carry_10 ok_X9_noRing ml_X9_100 rfl rfl (by decide) gs_s106 rfl rfl (Nat.le_of_ble_eq_true rfl) (by decide) (c_X9_noRing hI (by omega)) (fun r47 F48 A49 h50 => ?_)
    obtain ⟨z53, e52, e54, e55, x51⟩ := h50
    subst e52 e54 e55
    show sA _ _ _ 13 _ [gs_iv z53] _ _
    refine sA_if_eq (tgt := 20) dd_X9_carry_13 (by decide) (by omega) (fun q56 => ?_) (fun q56 => ?_)
    · skip
      refine sA_iload_n dd_X9_carry_20 rfl (.tail _ (.tail _ (.tail _ (.head _)))) ?_
      refine sA_i2l dd_X9_carry_21 (by omega) ?_
      refine sA_lconst (z := 0) dd_X9_carry_22 (by decide) ?_
      refine sA_ldc2 (z := 3) dd_X9_carry_23 (ri_lw_in (pl := 872) (by decide +kernel)) ?_
      refine sA_callS (y2 := m_X9_in) (n2 := 3) (d2 := 1) (as := [gs_lv n, gs_lv 0, gs_lv 3]) (rest := []) dd_X9_carry_26 ok_X9_in ml_X9_75 rfl rfl (Nat.le_of_ble_eq_true rfl) (by decide) (c_X9_in (by omega) (by omega) (by omega)) (fun r57 F58 A59 h60 => ?_)
      obtain ⟨z63, e62, e64, e65, x61⟩ := h60
      subst e62 e64 e65
      show sA _ _ _ 29 _ [gs_iv z63] _ _
      refine sA_if_eq (tgt := 47) dd_X9_carry_29 (by decide) (by omega) (fun q66 => ?_) (fun q66 => ?_)
      · skip
        refine sA_sipush (z := (-1002)) dd_X9_carry_47 (by decide) ?_
        refine sA_iret (z := -1002) dd_X9_carry_50 rfl ?_
        exact ⟨_, rfl, hI, hf, trivial⟩
      · skip
        refine sA_iload dd_X9_carry_32 (.tail _ (.tail _ (.tail _ (.tail _ (.head _))))) ?_
        refine sA_i2l dd_X9_carry_34 (by omega) ?_
        refine sA_ldc2 (z := -1) dd_X9_carry_35 (ri_lw_in (pl := 1155) (by decide +kernel)) ?_
        refine sA_ldc2 (z := 2) dd_X9_carry_38 (ri_lw_in (pl := 1193) (by decide +kernel)) ?_
        refine sA_callS (y2 := m_X9_in) (n2 := 3) (d2 := 1) (as := [gs_lv i, gs_lv (-1), gs_lv 2]) (rest := []) dd_X9_carry_41 ok_X9_in ml_X9_75 rfl rfl (Nat.le_of_ble_eq_true rfl) (by decide) (c_X9_in (by omega) (by omega) (by omega)) (fun r67 F68 A69 h70 => ?_)
        obtain ⟨z73, e72, e74, e75, x71⟩ := h70
        subst e72 e74 e75
        show sA _ _ _ 44 _ [gs_iv z73] _ _
        refine sA_if_ne (tgt := 51) dd_X9_carry_44 (by decide) (by omega) (fun q76 => ?_) (fun q76 => ?_)
        · skip
          refine sA_iconst (z := 0) dd_X9_carry_51 ?_
          refine sA_istore (lv' := [(5, gs_iv 0), (0, .ref 106), (1, gs_iv r), (2, gs_iv s), (3, gs_iv n), (4, gs_iv i)]) dd_X9_carry_52 (by decide) rfl ?_
          refine sA_sub (lv2 := [(5, gs_iv 0), (0, .ref 106), (1, gs_iv r), (2, gs_iv s), (3, gs_iv n), (4, gs_iv i)]) (List.forall_mem_cons.mpr ⟨(.head _), (List.forall_mem_cons.mpr ⟨(.tail _ (.head _)), (List.forall_mem_cons.mpr ⟨(.tail _ (.tail _ (.head _))), (List.forall_mem_cons.mpr ⟨(.tail _ (.tail _ (.tail _ (.head _)))), (List.forall_mem_cons.mpr ⟨(.tail _ (.tail _ (.tail _ (.tail _ (.head _))))), (List.forall_mem_cons.mpr ⟨(.tail _ (.tail _ (.tail _ (.tail _ (.tail _ (.head _)))))), (fun _ h => absurd h List.not_mem_nil)⟩)⟩)⟩)⟩)⟩)⟩) ?_
          exact (k_X9_carry hI hr hs hn hi hX ((4 - 0) * 4294967296 + 1 : Int).toNat.succ).1 0 F A hI hf (by omega) (by omega) (by omega) (by omega) (by omega) (by omega)
        · skip
          refine sA_sipush (z := (-1002)) dd_X9_carry_47 (by decide) ?_
          refine sA_iret (z := -1002) dd_X9_carry_50 rfl ?_
          exact ⟨_, rfl, hI, hf, trivial⟩
    · skip
      refine sA_sipush (z := (-1001)) dd_X9_carry_16 (by decide) ?_
      refine sA_iret (z := -1001) dd_X9_carry_19 rfl ?_
      exact ⟨_, rfl, hI, hf, trivial⟩
theorem dd_X9_fewest_0 : decode cX9_fewest 0 = .ok (.aload_n 0, 1) := by decide +kernel
theorem dd_X9_fewest_1 : decode cX9_fewest 1 = .ok (.iload_n 1, 1) := by decide +kernel
theorem dd_X9_fewest_2 : decode cX9_fewest 2 = .ok (.invokevirtual 218, 3) := by decide +kernel
theorem dd_X9_fewest_5 : decode cX9_fewest 5 = .ok (.ifCond .eq 7, 3) := by decide +kernel
theorem dd_X9_fewest_8 : decode cX9_fewest 8 = .ok (.sipush (-1001), 3) := by decide +kernel
theorem dd_X9_fewest_11 : decode cX9_fewest 11 = .ok (.ireturn, 1) := by decide +kernel
theorem dd_X9_fewest_12 : decode cX9_fewest 12 = .ok (.iload_n 2, 1) := by decide +kernel
theorem dd_X9_fewest_13 : decode cX9_fewest 13 = .ok (.i2l, 1) := by decide +kernel
theorem dd_X9_fewest_14 : decode cX9_fewest 14 = .ok (.lconst 0, 1) := by decide +kernel
theorem dd_X9_fewest_15 : decode cX9_fewest 15 = .ok (.ldc2_w 73, 3) := by decide +kernel
theorem dd_X9_fewest_18 : decode cX9_fewest 18 = .ok (.invokestatic 75, 3) := by decide +kernel
theorem dd_X9_fewest_21 : decode cX9_fewest 21 = .ok (.ifCond .eq 17, 3) := by decide +kernel
theorem dd_X9_fewest_24 : decode cX9_fewest 24 = .ok (.iload_n 3, 1) := by decide +kernel
theorem dd_X9_fewest_25 : decode cX9_fewest 25 = .ok (.i2l, 1) := by decide +kernel
theorem dd_X9_fewest_26 : decode cX9_fewest 26 = .ok (.ldc2_w 269, 3) := by decide +kernel
theorem dd_X9_fewest_29 : decode cX9_fewest 29 = .ok (.ldc2_w 299, 3) := by decide +kernel
theorem dd_X9_fewest_32 : decode cX9_fewest 32 = .ok (.invokestatic 75, 3) := by decide +kernel
theorem dd_X9_fewest_35 : decode cX9_fewest 35 = .ok (.ifCond .ne 7, 3) := by decide +kernel
theorem dd_X9_fewest_38 : decode cX9_fewest 38 = .ok (.sipush (-1002), 3) := by decide +kernel
theorem dd_X9_fewest_41 : decode cX9_fewest 41 = .ok (.ireturn, 1) := by decide +kernel
theorem dd_X9_fewest_42 : decode cX9_fewest 42 = .ok (.aload_n 0, 1) := by decide +kernel
theorem dd_X9_fewest_43 : decode cX9_fewest 43 = .ok (.iload_n 1, 1) := by decide +kernel
theorem dd_X9_fewest_44 : decode cX9_fewest 44 = .ok (.invokevirtual 242, 3) := by decide +kernel
theorem dd_X9_fewest_47 : decode cX9_fewest 47 = .ok (.ifCond .ne 7, 3) := by decide +kernel
theorem dd_X9_fewest_50 : decode cX9_fewest 50 = .ok (.sipush (-1005), 3) := by decide +kernel
theorem dd_X9_fewest_53 : decode cX9_fewest 53 = .ok (.ireturn, 1) := by decide +kernel
theorem dd_X9_fewest_54 : decode cX9_fewest 54 = .ok (.iconst 0, 1) := by decide +kernel
theorem dd_X9_fewest_55 : decode cX9_fewest 55 = .ok (.istore 4, 2) := by decide +kernel
theorem dd_X9_fewest_57 : decode cX9_fewest 57 = .ok (.iload 4, 2) := by decide +kernel
theorem dd_X9_fewest_59 : decode cX9_fewest 59 = .ok (.iload_n 2, 1) := by decide +kernel
theorem dd_X9_fewest_60 : decode cX9_fewest 60 = .ok (.if_icmp .gt 79, 3) := by decide +kernel
theorem dd_X9_fewest_63 : decode cX9_fewest 63 = .ok (.aload_n 0, 1) := by decide +kernel
theorem dd_X9_fewest_64 : decode cX9_fewest 64 = .ok (.iload 4, 2) := by decide +kernel
theorem dd_X9_fewest_66 : decode cX9_fewest 66 = .ok (.invokevirtual 301, 3) := by decide +kernel
theorem dd_X9_fewest_69 : decode cX9_fewest 69 = .ok (.istore 5, 2) := by decide +kernel
theorem dd_X9_fewest_71 : decode cX9_fewest 71 = .ok (.iconst 0, 1) := by decide +kernel
theorem dd_X9_fewest_72 : decode cX9_fewest 72 = .ok (.istore 6, 2) := by decide +kernel
theorem dd_X9_fewest_74 : decode cX9_fewest 74 = .ok (.iload 6, 2) := by decide +kernel
theorem dd_X9_fewest_76 : decode cX9_fewest 76 = .ok (.iload 5, 2) := by decide +kernel
theorem dd_X9_fewest_78 : decode cX9_fewest 78 = .ok (.if_icmp .ge 55, 3) := by decide +kernel
theorem dd_X9_fewest_81 : decode cX9_fewest 81 = .ok (.aload_n 0, 1) := by decide +kernel
theorem dd_X9_fewest_82 : decode cX9_fewest 82 = .ok (.iload 4, 2) := by decide +kernel
theorem dd_X9_fewest_84 : decode cX9_fewest 84 = .ok (.iload 6, 2) := by decide +kernel
theorem dd_X9_fewest_86 : decode cX9_fewest 86 = .ok (.invokevirtual 304, 3) := by decide +kernel
theorem dd_X9_fewest_89 : decode cX9_fewest 89 = .ok (.aload_n 0, 1) := by decide +kernel
theorem dd_X9_fewest_90 : decode cX9_fewest 90 = .ok (.invokevirtual 296, 3) := by decide +kernel
theorem dd_X9_fewest_93 : decode cX9_fewest 93 = .ok (.ifCond .eq 34, 3) := by decide +kernel
theorem dd_X9_fewest_96 : decode cX9_fewest 96 = .ok (.iload_n 3, 1) := by decide +kernel
theorem dd_X9_fewest_97 : decode cX9_fewest 97 = .ok (.iconst (-1), 1) := by decide +kernel
theorem dd_X9_fewest_98 : decode cX9_fewest 98 = .ok (.if_icmp .ne 8, 3) := by decide +kernel
theorem dd_X9_fewest_101 : decode cX9_fewest 101 = .ok (.iload 4, 2) := by decide +kernel
theorem dd_X9_fewest_103 : decode cX9_fewest 103 = .ok (.goto 23, 3) := by decide +kernel
theorem dd_X9_fewest_106 : decode cX9_fewest 106 = .ok (.iload_n 3, 1) := by decide +kernel
theorem dd_X9_fewest_107 : decode cX9_fewest 107 = .ok (.iload 4, 2) := by decide +kernel
theorem dd_X9_fewest_109 : decode cX9_fewest 109 = .ok (.if_icmp .ge 16, 3) := by decide +kernel
theorem dd_X9_fewest_112 : decode cX9_fewest 112 = .ok (.aload_n 0, 1) := by decide +kernel
theorem dd_X9_fewest_113 : decode cX9_fewest 113 = .ok (.getfield 22, 3) := by decide +kernel
theorem dd_X9_fewest_116 : decode cX9_fewest 116 = .ok (.sipush 480, 3) := by decide +kernel
theorem dd_X9_fewest_119 : decode cX9_fewest 119 = .ok (.iload_n 3, 1) := by decide +kernel
theorem dd_X9_fewest_120 : decode cX9_fewest 120 = .ok (.iadd, 1) := by decide +kernel
theorem dd_X9_fewest_121 : decode cX9_fewest 121 = .ok (.iaload, 1) := by decide +kernel
theorem dd_X9_fewest_122 : decode cX9_fewest 122 = .ok (.goto 4, 3) := by decide +kernel
theorem dd_X9_fewest_125 : decode cX9_fewest 125 = .ok (.iconst (-1), 1) := by decide +kernel
theorem dd_X9_fewest_126 : decode cX9_fewest 126 = .ok (.ireturn, 1) := by decide +kernel
theorem dd_X9_fewest_127 : decode cX9_fewest 127 = .ok (.iinc 6 1, 3) := by decide +kernel
theorem dd_X9_fewest_130 : decode cX9_fewest 130 = .ok (.goto (-56), 3) := by decide +kernel
theorem dd_X9_fewest_133 : decode cX9_fewest 133 = .ok (.iinc 4 1, 3) := by decide +kernel
theorem dd_X9_fewest_136 : decode cX9_fewest 136 = .ok (.goto (-79), 3) := by decide +kernel
theorem dd_X9_fewest_139 : decode cX9_fewest 139 = .ok (.iconst (-1), 1) := by decide +kernel
theorem dd_X9_fewest_140 : decode cX9_fewest 140 = .ok (.ireturn, 1) := by decide +kernel
theorem ok_X9_fewest : am_okM m_X9_fewest 3 ∧ Cond.instanceMethod m_X9_fewest.1 ∈ am_tbl ∧ Cond.selects m_X9_fewest.1.cls m_X9_fewest.1 m_X9_fewest.1 ∈ am_tbl := ri_mk1 1209 93 1207 1208 (by decide +kernel)
theorem k_X9_fewest {p n i : Int} {F A : gs_F} (hI : gs_I F A) (hp : -2147483648 ≤ p ∧ p ≤ 2147483647) (hn : -2147483648 ≤ n ∧ n ≤ 2147483647) (hi : -2147483648 ≤ i ∧ i ≤ 2147483647) : ∀ nN : Nat, (∀ (m : Int)  (F1 A1 : gs_F), gs_I F1 A1 → gs_fr (fun c j => c = 106 ∧ (j = 13 ∨ j = 15)) (fun c => c = 110 ∨ c = 111 ∨ c = 114 ∨ c = 115 ∨ c = 119 ∨ c = 120) F A F1 A1 → 0 ≤ n ∧ n ≤ 3 → -1 ≤ i ∧ i ≤ 2 → 0 ≤ m ∧ m ≤ n + 1 → (4 - m) * 4294967296 + 1 < (nN : Int) → sA m_X9_fewest 8 (fun rv F' A' => ∃ z : Int, rv = some (gs_iv z) ∧ gs_I F' A' ∧ gs_fr (fun c j => c = 106 ∧ (j = 13 ∨ j = 15)) (fun c => c = 110 ∨ c = 111 ∨ c = 114 ∨ c = 115 ∨ c = 119 ∨ c = 120) F A F' A' ∧ (True)) 57 [(4, gs_iv m), (0, .ref 106), (2, gs_iv n), (3, gs_iv i)] [] F1 A1) ∧ (∀ (m : Int) (l : Int) (x : Int)  (F1 A1 : gs_F), gs_I F1 A1 → gs_fr (fun c j => c = 106 ∧ (j = 13 ∨ j = 15)) (fun c => c = 110 ∨ c = 111 ∨ c = 114 ∨ c = 115 ∨ c = 119 ∨ c = 120) F A F1 A1 → 0 ≤ n ∧ n ≤ 3 → -1 ≤ i ∧ i ≤ 2 → 0 ≤ m ∧ m ≤ n → -2147483648 ≤ l ∧ l ≤ 2147483647 → 0 ≤ x ∧ x ≤ 2147483647 → (4 - m) * 4294967296 - x < (nN : Int) → sA m_X9_fewest 8 (fun rv F' A' => ∃ z : Int, rv = some (gs_iv z) ∧ gs_I F' A' ∧ gs_fr (fun c j => c = 106 ∧ (j = 13 ∨ j = 15)) (fun c => c = 110 ∨ c = 111 ∨ c = 114 ∨ c = 115 ∨ c = 119 ∨ c = 120) F A F' A' ∧ (True)) 74 [(6, gs_iv x), (5, gs_iv l), (4, gs_iv m), (0, .ref 106), (2, gs_iv n), (3, gs_iv i)] [] F1 A1) := by
  intro nN
  induction nN with
  | zero =>
    exact ⟨fun a0 a1 a2 a3 a4 i0 i1 i2 hm => by exfalso; omega, fun a0 a1 a2 a3 a4 a5 a6 i0 i1 i2 i3 i4 hm => by exfalso; omega⟩
  | succ nN ih =>
    refine ⟨?_, ?_⟩
    · skip
      intro m F1 A1 hI1 hf1 i0 i1 i2 hm
      refine sA_iload dd_X9_fewest_57 (.head _) ?_
      refine sA_iload_n dd_X9_fewest_59 rfl (.tail _ (.tail _ (.head _))) ?_
      refine sA_icmp_gt (tgt := 139) dd_X9_fewest_60 (by decide) (by omega) (by omega) (fun q1 => ?_) (fun q1 => ?_)
      · skip
        refine sA_iconst (z := (-1)) dd_X9_fewest_139 ?_
        refine sA_iret (z := -1) dd_X9_fewest_140 rfl ?_
        exact ⟨_, rfl, hI1, hf1, trivial⟩
      · skip
        refine sA_aload_n dd_X9_fewest_63 rfl (.tail _ (.head _)) ?_
        refine sA_iload dd_X9_fewest_64 (.head _) ?_
        refine sA_callV (y2 := m_X9_power) (n2 := 1) (d2 := 2) (a := 106) (ci := 9) (q := (RX9, TX9, 28)) (as := [gs_iv m]) (rest := []) dd_X9_fewest_66 ok_X9_power ml_X9_301 rfl rfl (by decide) gs_s106 rfl rfl (Nat.le_of_ble_eq_true rfl) (by decide) (c_X9_power hI1 (by omega)) (fun r2 F3 A4 h5 => ?_)
        obtain ⟨z8, e7, e9, e10, x6⟩ := h5
        subst e7 e9 e10
        show sA _ _ _ 69 _ [gs_iv z8] _ _
        refine sA_istore (lv' := [(5, gs_iv z8), (4, gs_iv m), (0, .ref 106), (2, gs_iv n), (3, gs_iv i)]) dd_X9_fewest_69 (by decide) rfl ?_
        refine sA_iconst (z := 0) dd_X9_fewest_71 ?_
        refine sA_istore (lv' := [(6, gs_iv 0), (5, gs_iv z8), (4, gs_iv m), (0, .ref 106), (2, gs_iv n), (3, gs_iv i)]) dd_X9_fewest_72 (by decide) rfl ?_
        refine sA_sub (lv2 := [(6, gs_iv 0), (5, gs_iv z8), (4, gs_iv m), (0, .ref 106), (2, gs_iv n), (3, gs_iv i)]) (List.forall_mem_cons.mpr ⟨(.head _), (List.forall_mem_cons.mpr ⟨(.tail _ (.head _)), (List.forall_mem_cons.mpr ⟨(.tail _ (.tail _ (.head _))), (List.forall_mem_cons.mpr ⟨(.tail _ (.tail _ (.tail _ (.head _)))), (List.forall_mem_cons.mpr ⟨(.tail _ (.tail _ (.tail _ (.tail _ (.head _))))), (List.forall_mem_cons.mpr ⟨(.tail _ (.tail _ (.tail _ (.tail _ (.tail _ (.head _)))))), (fun _ h => absurd h List.not_mem_nil)⟩)⟩)⟩)⟩)⟩)⟩) ?_
        exact ih.2 m z8 0 F1 A1 hI1 hf1 (by omega) (by omega) (by omega) (by omega) (by omega) (by omega)
    · skip
      intro m l x F1 A1 hI1 hf1 i0 i1 i2 i3 i4 hm
      refine sA_iload dd_X9_fewest_74 (.head _) ?_
      refine sA_iload dd_X9_fewest_76 (.tail _ (.head _)) ?_
      refine sA_icmp_ge (tgt := 133) dd_X9_fewest_78 (by decide) (by omega) (by omega) (fun q11 => ?_) (fun q11 => ?_)
      · skip
        refine sA_iinc (lv' := [(4, gs_iv (m + 1)), (6, gs_iv x), (5, gs_iv l), (0, .ref 106), (2, gs_iv n), (3, gs_iv i)]) dd_X9_fewest_133 (.tail _ (.tail _ (.head _))) (by decide) rfl ?_
        refine sA_goto (tgt := 57) dd_X9_fewest_136 (by decide) ?_
        refine sA_sub (lv2 := [(4, gs_iv (m + 1)), (0, .ref 106), (2, gs_iv n), (3, gs_iv i)]) (List.forall_mem_cons.mpr ⟨(.head _), (List.forall_mem_cons.mpr ⟨(.tail _ (.tail _ (.tail _ (.head _)))), (List.forall_mem_cons.mpr ⟨(.tail _ (.tail _ (.tail _ (.tail _ (.head _))))), (List.forall_mem_cons.mpr ⟨(.tail _ (.tail _ (.tail _ (.tail _ (.tail _ (.head _)))))), (fun _ h => absurd h List.not_mem_nil)⟩)⟩)⟩)⟩) ?_
        exact ih.1 (m + 1) F1 A1 hI1 hf1 (by omega) (by omega) (by omega) (by omega)
      · skip
        refine sA_aload_n dd_X9_fewest_81 rfl (.tail _ (.tail _ (.tail _ (.head _)))) ?_
        refine sA_iload dd_X9_fewest_82 (.tail _ (.tail _ (.head _))) ?_
        refine sA_iload dd_X9_fewest_84 (.head _) ?_
        refine sA_callV (y2 := m_X9_numberPlan) (n2 := 2) (d2 := 2) (a := 106) (ci := 9) (q := (RX9, TX9, 28)) (as := [gs_iv m, gs_iv x]) (rest := []) dd_X9_fewest_86 ok_X9_numberPlan ml_X9_304 rfl rfl (by decide) gs_s106 rfl rfl (Nat.le_of_ble_eq_true rfl) (by decide) (c_X9_numberPlan hI1 (by omega) (by omega)) (fun r12 F13 A14 h15 => ?_)
        obtain ⟨e17, I18, f19, x16⟩ := h15
        subst e17
        have f20 := gs_fr_tr hf1 f19 (fun b j h => by first | exact False.elim h | omega | (dsimp only at h ⊢; omega)) (fun b h => by first | exact False.elim h | omega | (dsimp only at h ⊢; omega))
        show sA _ _ _ 89 _ [] _ _
        refine sA_aload_n dd_X9_fewest_89 rfl (.tail _ (.tail _ (.tail _ (.head _)))) ?_
        refine sA_callV (y2 := m_X9_isDraftLike) (n2 := 0) (d2 := 6) (a := 106) (ci := 9) (q := (RX9, TX9, 28)) (as := []) (rest := []) dd_X9_fewest_90 ok_X9_isDraftLike ml_X9_296 rfl rfl (by decide) gs_s106 rfl rfl (Nat.le_of_ble_eq_true rfl) (by decide) (c_X9_isDraftLike I18 ) (fun r21 F22 A23 h24 => ?_)
        obtain ⟨z27, e26, I28, f29, x25⟩ := h24
        subst e26
        have f30 := gs_fr_tr f20 f29 (fun b j h => by first | exact False.elim h | omega | (dsimp only at h ⊢; omega)) (fun b h => by first | exact False.elim h | omega | (dsimp only at h ⊢; omega))
        show sA _ _ _ 93 _ [gs_iv z27] _ _
        refine sA_if_eq (tgt := 127) dd_X9_fewest_93 (by decide) (by omega) (fun q31 => ?_) (fun q31 => ?_)
        · skip
          refine sA_iinc (lv' := [(6, gs_iv (x + 1)), (5, gs_iv l), (4, gs_iv m), (0, .ref 106), (2, gs_iv n), (3, gs_iv i)]) dd_X9_fewest_127 (.head _) (by decide) rfl ?_
          refine sA_goto (tgt := 74) dd_X9_fewest_130 (by decide) ?_
          refine sA_sub (lv2 := [(6, gs_iv (x + 1)), (5, gs_iv l), (4, gs_iv m), (0, .ref 106), (2, gs_iv n), (3, gs_iv i)]) (List.forall_mem_cons.mpr ⟨(.head _), (List.forall_mem_cons.mpr ⟨(.tail _ (.head _)), (List.forall_mem_cons.mpr ⟨(.tail _ (.tail _ (.head _))), (List.forall_mem_cons.mpr ⟨(.tail _ (.tail _ (.tail _ (.head _)))), (List.forall_mem_cons.mpr ⟨(.tail _ (.tail _ (.tail _ (.tail _ (.head _))))), (List.forall_mem_cons.mpr ⟨(.tail _ (.tail _ (.tail _ (.tail _ (.tail _ (.head _)))))), (fun _ h => absurd h List.not_mem_nil)⟩)⟩)⟩)⟩)⟩)⟩) ?_
          exact ih.2 m l (x + 1) F22 A23 I28 f30 (by omega) (by omega) (by omega) (by omega) (by omega) (by omega)
        · skip
          refine sA_iload_n dd_X9_fewest_96 rfl (.tail _ (.tail _ (.tail _ (.tail _ (.tail _ (.head _)))))) ?_
          refine sA_iconst (z := (-1)) dd_X9_fewest_97 ?_
          refine sA_icmp_ne (tgt := 106) dd_X9_fewest_98 (by decide) (by omega) (by omega) (fun q32 => ?_) (fun q32 => ?_)
          · skip
            refine sA_iload_n dd_X9_fewest_106 rfl (.tail _ (.tail _ (.tail _ (.tail _ (.tail _ (.head _)))))) ?_
            refine sA_iload dd_X9_fewest_107 (.tail _ (.tail _ (.head _))) ?_
            refine sA_icmp_ge (tgt := 125) dd_X9_fewest_109 (by decide) (by omega) (by omega) (fun q33 => ?_) (fun q33 => ?_)
            · skip
              refine sA_iconst (z := (-1)) dd_X9_fewest_125 ?_
              refine sA_iret (z := -1) dd_X9_fewest_126 rfl ?_
              exact ⟨_, rfl, I28, f30, trivial⟩
            · skip
              refine sA_aload_n dd_X9_fewest_112 rfl (.tail _ (.tail _ (.tail _ (.head _)))) ?_
              refine sA_getr (ci := 9) (j := 7) (q := (RX9, TX9, 28)) dd_X9_fewest_113 rfl (by decide) fl_X9_22 (by decide) gs_s106 rfl ?_
              refine sA_sipush (z := 480) dd_X9_fewest_116 (by decide) ?_
              refine sA_iload_n dd_X9_fewest_119 rfl (.tail _ (.tail _ (.tail _ (.tail _ (.tail _ (.head _)))))) ?_
              refine sA_iadd dd_X9_fewest_120 ?_
              refine sA_iald (n := 540) dd_X9_fewest_121 (by decide) gs_s111 (by omega) (by decide) ?_
              have b34 : (-2147483648 : Int) ≤ A23 111 (480 + i).toNat ∧ A23 111 (480 + i).toNat ≤ 2147483647 := I28.2 111 (480 + i).toNat
              refine sA_goto (tgt := 126) dd_X9_fewest_122 (by decide) ?_
              refine sA_iret (z := A23 111 (480 + i).toNat) dd_X9_fewest_126 rfl ?_
              exact ⟨_, rfl, I28, f30, trivial⟩
          · skip
            refine sA_iload dd_X9_fewest_101 (.tail _ (.tail _ (.head _))) ?_
            refine sA_goto (tgt := 126) dd_X9_fewest_103 (by decide) ?_
            refine sA_iret (z := m) dd_X9_fewest_126 rfl ?_
            exact ⟨_, rfl, I28, f30, trivial⟩
theorem c_X9_fewest {p n i : Int} {F A : gs_F} (hI : gs_I F A) (hp : -2147483648 ≤ p ∧ p ≤ 2147483647) (hn : -2147483648 ≤ n ∧ n ≤ 2147483647) (hi : -2147483648 ≤ i ∧ i ≤ 2147483647) : sC m_X9_fewest 8 [.ref 106, gs_iv p, gs_iv n, gs_iv i] F A (fun rv F' A' => ∃ z : Int, rv = some (gs_iv z) ∧ gs_I F' A' ∧ gs_fr (fun c j => c = 106 ∧ (j = 13 ∨ j = 15)) (fun c => c = 110 ∨ c = 111 ∨ c = 114 ∨ c = 115 ∨ c = 119 ∨ c = 120) F A F' A' ∧ (True)) := by
  refine sC_of ok_X9_fewest.1 (Nat.le_of_ble_eq_true rfl) ?_
  show sA _ _ _ 0 [(0, .ref 106), (1, gs_iv p), (2, gs_iv n), (3, gs_iv i)] [] F A
  have hf : gs_fr (fun c j => c = 106 ∧ (j = 13 ∨ j = 15)) (fun c => c = 110 ∨ c = 111 ∨ c = 114 ∨ c = 115 ∨ c = 119 ∨ c = 120) F A F A := gs_fr_refl _ _ _ _
  refine sA_aload_n dd_X9_fewest_0 rfl (.head _) ?_
  refine sA_iload_n dd_X9_fewest_1 rfl (.tail _ (.head _)) ?_
  refine sA_callV (y2 := m_X9_noPlan) (n2 := 1) (d2 := 2) (a := 106) (ci := 9) (q := (RX9, TX9, 28)) (as := [gs_iv p]) (rest := []) dd_X9_fewest_2 ok_X9_noPlan ml_X9_218 rfl rfl (by decide) gs_s106 rfl rfl (Nat.le_of_ble_eq_true rfl) (by decide) (c_X9_noPlan hI (by omega)) (fun r35 F36 A37 h38 => ?_)
  obtain ⟨z41, e40, e42, e43, x39⟩ := h38
  subst e40 e42 e43
  show sA _ _ _ 5 _ [gs_iv z41] _ _
  refine sA_if_eq (tgt := 12) dd_X9_fewest_5 (by decide) (by omega) (fun q44 => ?_) (fun q44 => ?_)
  · skip
    refine sA_iload_n dd_X9_fewest_12 rfl (.tail _ (.tail _ (.head _))) ?_
    refine sA_i2l dd_X9_fewest_13 (by omega) ?_
    refine sA_lconst (z := 0) dd_X9_fewest_14 (by decide) ?_
    refine sA_ldc2 (z := 3) dd_X9_fewest_15 (ri_lw_in (pl := 872) (by decide +kernel)) ?_
    refine sA_callS (y2 := m_X9_in) (n2 := 3) (d2 := 1) (as := [gs_lv n, gs_lv 0, gs_lv 3]) (rest := []) dd_X9_fewest_18 ok_X9_in ml_X9_75 rfl rfl (Nat.le_of_ble_eq_true rfl) (by decide) (c_X9_in (by omega) (by omega) (by omega)) (fun r45 F46 A47 h48 => ?_)
    obtain ⟨z51, e50, e52, e53, x49⟩ := h48
    subst e50 e52 e53
    show sA _ _ _ 21 _ [gs_iv z51] _ _
    refine sA_if_eq (tgt := 38) dd_X9_fewest_21 (by decide) (by omega) (fun q54 => ?_) (fun q54 => ?_)
    · skip
      refine sA_sipush (z := (-1002)) dd_X9_fewest_38 (by decide) ?_
      refine sA_iret (z := -1002) dd_X9_fewest_41 rfl ?_
      exact ⟨_, rfl, hI, hf, trivial⟩
    · skip
      refine sA_iload_n dd_X9_fewest_24 rfl (.tail _ (.tail _ (.tail _ (.head _)))) ?_
      refine sA_i2l dd_X9_fewest_25 (by omega) ?_
      refine sA_ldc2 (z := -1) dd_X9_fewest_26 (ri_lw_in (pl := 1155) (by decide +kernel)) ?_
      refine sA_ldc2 (z := 2) dd_X9_fewest_29 (ri_lw_in (pl := 1193) (by decide +kernel)) ?_
      refine sA_callS (y2 := m_X9_in) (n2 := 3) (d2 := 1) (as := [gs_lv i, gs_lv (-1), gs_lv 2]) (rest := []) dd_X9_fewest_32 ok_X9_in ml_X9_75 rfl rfl (Nat.le_of_ble_eq_true rfl) (by decide) (c_X9_in (by omega) (by omega) (by omega)) (fun r55 F56 A57 h58 => ?_)
      obtain ⟨z61, e60, e62, e63, x59⟩ := h58
      subst e60 e62 e63
      show sA _ _ _ 35 _ [gs_iv z61] _ _
      refine sA_if_ne (tgt := 42) dd_X9_fewest_35 (by decide) (by omega) (fun q64 => ?_) (fun q64 => ?_)
      · skip
        refine sA_aload_n dd_X9_fewest_42 rfl (.head _) ?_
        refine sA_iload_n dd_X9_fewest_43 rfl (.tail _ (.head _)) ?_
        refine sA_callV (y2 := m_X9_findImages) (n2 := 1) (d2 := 7) (a := 106) (ci := 9) (q := (RX9, TX9, 28)) (as := [gs_iv p]) (rest := []) dd_X9_fewest_44 ok_X9_findImages ml_X9_242 rfl rfl (by decide) gs_s106 rfl rfl (Nat.le_of_ble_eq_true rfl) (by decide) (c_X9_findImages hI (by omega)) (fun r65 F66 A67 h68 => ?_)
        obtain ⟨z71, e70, I72, f73, x69⟩ := h68
        subst e70
        have f74 := gs_fr_tr hf f73 (fun b j h => by first | exact False.elim h | omega | (dsimp only at h ⊢; omega)) (fun b h => by first | exact False.elim h | omega | (dsimp only at h ⊢; omega))
        show sA _ _ _ 47 _ [gs_iv z71] _ _
        refine sA_if_ne (tgt := 54) dd_X9_fewest_47 (by decide) (by omega) (fun q75 => ?_) (fun q75 => ?_)
        · skip
          refine sA_iconst (z := 0) dd_X9_fewest_54 ?_
          refine sA_istore (lv' := [(4, gs_iv 0), (0, .ref 106), (1, gs_iv p), (2, gs_iv n), (3, gs_iv i)]) dd_X9_fewest_55 (by decide) rfl ?_
          refine sA_sub (lv2 := [(4, gs_iv 0), (0, .ref 106), (2, gs_iv n), (3, gs_iv i)]) (List.forall_mem_cons.mpr ⟨(.head _), (List.forall_mem_cons.mpr ⟨(.tail _ (.head _)), (List.forall_mem_cons.mpr ⟨(.tail _ (.tail _ (.tail _ (.head _)))), (List.forall_mem_cons.mpr ⟨(.tail _ (.tail _ (.tail _ (.tail _ (.head _))))), (fun _ h => absurd h List.not_mem_nil)⟩)⟩)⟩)⟩) ?_
          exact (k_X9_fewest hI hp hn hi ((4 - 0) * 4294967296 + 1 : Int).toNat.succ).1 0 F66 A67 I72 f74 (by omega) (by omega) (by omega) (by omega)
        · skip
          refine sA_sipush (z := (-1005)) dd_X9_fewest_50 (by decide) ?_
          refine sA_iret (z := -1005) dd_X9_fewest_53 rfl ?_
          exact ⟨_, rfl, I72, f74, trivial⟩
      · skip
        refine sA_sipush (z := (-1002)) dd_X9_fewest_38 (by decide) ?_
        refine sA_iret (z := -1002) dd_X9_fewest_41 rfl ?_
        exact ⟨_, rfl, hI, hf, trivial⟩
  · skip
    refine sA_sipush (z := (-1001)) dd_X9_fewest_8 (by decide) ?_
    refine sA_iret (z := -1001) dd_X9_fewest_11 rfl ?_
    exact ⟨_, rfl, hI, hf, trivial⟩
theorem dd_X9_count_0 : decode cX9_count 0 = .ok (.iload_n 1, 1) := by decide +kernel
theorem dd_X9_count_1 : decode cX9_count 1 = .ok (.tableswitch 60 0 4 #[35, 40, 45, 50, 55], 35) := by decide +kernel
theorem dd_X9_count_36 : decode cX9_count 36 = .ok (.aload_n 0, 1) := by decide +kernel
theorem dd_X9_count_37 : decode cX9_count 37 = .ok (.getfield 64, 3) := by decide +kernel
theorem dd_X9_count_40 : decode cX9_count 40 = .ok (.ireturn, 1) := by decide +kernel
theorem dd_X9_count_41 : decode cX9_count 41 = .ok (.aload_n 0, 1) := by decide +kernel
theorem dd_X9_count_42 : decode cX9_count 42 = .ok (.getfield 70, 3) := by decide +kernel
theorem dd_X9_count_45 : decode cX9_count 45 = .ok (.ireturn, 1) := by decide +kernel
theorem dd_X9_count_46 : decode cX9_count 46 = .ok (.aload_n 0, 1) := by decide +kernel
theorem dd_X9_count_47 : decode cX9_count 47 = .ok (.getfield 67, 3) := by decide +kernel
theorem dd_X9_count_50 : decode cX9_count 50 = .ok (.ireturn, 1) := by decide +kernel
theorem dd_X9_count_51 : decode cX9_count 51 = .ok (.aload_n 0, 1) := by decide +kernel
theorem dd_X9_count_52 : decode cX9_count 52 = .ok (.invokevirtual 289, 3) := by decide +kernel
theorem dd_X9_count_55 : decode cX9_count 55 = .ok (.ireturn, 1) := by decide +kernel
theorem dd_X9_count_56 : decode cX9_count 56 = .ok (.aload_n 0, 1) := by decide +kernel
theorem dd_X9_count_57 : decode cX9_count 57 = .ok (.getfield 181, 3) := by decide +kernel
theorem dd_X9_count_60 : decode cX9_count 60 = .ok (.ireturn, 1) := by decide +kernel
theorem dd_X9_count_61 : decode cX9_count 61 = .ok (.sipush (-1002), 3) := by decide +kernel
theorem dd_X9_count_64 : decode cX9_count 64 = .ok (.ireturn, 1) := by decide +kernel
theorem ok_X9_count : am_okM m_X9_count 1 ∧ Cond.instanceMethod m_X9_count.1 ∈ am_tbl ∧ Cond.selects m_X9_count.1.cls m_X9_count.1 m_X9_count.1 ∈ am_tbl := ri_mk1 1213 93 1211 1212 (by decide +kernel)
theorem c_X9_count {w : Int} {F A : gs_F} (hI : gs_I F A) (hw : -2147483648 ≤ w ∧ w ≤ 2147483647) : sC m_X9_count 2 [.ref 106, gs_iv w] F A (fun rv F' A' => ∃ z : Int, rv = some (gs_iv z) ∧ F = F' ∧ A = A' ∧ ((w = 0 ∧ z = F 106 0) ∨ (w = 1 ∧ z = F 106 3) ∨ (w = 2 ∧ z = F 106 1) ∨ (w = 3 ∧ z = 3 * F 106 0 - 1) ∨ (w = 4 ∧ z = F 106 17) ∨ ((w < 0 ∨ 4 < w) ∧ z = -1002))) := by
  refine sC_of ok_X9_count.1 (Nat.le_of_ble_eq_true rfl) ?_
  show sA _ _ _ 0 [(0, .ref 106), (1, gs_iv w)] [] F A
  refine sA_iload_n dd_X9_count_0 rfl (.tail _ (.head _)) ?_
  by_cases q1 : w = 0
  · refine sA_tblIn (off := 35) (tgt := 36) dd_X9_count_1 (by omega) (by omega) (by rw [q1]; rfl) (by decide) ?_
    refine sA_aload_n dd_X9_count_36 rfl (.head _) ?_
    refine sA_geti (ci := 9) (j := 0) (q := (RX9, TX9, 28)) dd_X9_count_37 rfl (by decide) fl_X9_64 (by decide) gs_s106 rfl ?_
    have b2 : (1 : Int) ≤ F 106 0 ∧ F 106 0 ≤ 3 := hI.1 106 0
    refine sA_iret (z := F 106 0) dd_X9_count_40 rfl ?_
    exact ⟨_, rfl, rfl, rfl, by omega⟩
  · skip
    by_cases q3 : w = 1
    · refine sA_tblIn (off := 40) (tgt := 41) dd_X9_count_1 (by omega) (by omega) (by rw [q3]; rfl) (by decide) ?_
      refine sA_aload_n dd_X9_count_41 rfl (.head _) ?_
      refine sA_geti (ci := 9) (j := 3) (q := (RX9, TX9, 28)) dd_X9_count_42 rfl (by decide) fl_X9_70 (by decide) gs_s106 rfl ?_
      have b4 : (0 : Int) ≤ F 106 3 ∧ F 106 3 ≤ 12 := hI.1 106 3
      refine sA_iret (z := F 106 3) dd_X9_count_45 rfl ?_
      exact ⟨_, rfl, rfl, rfl, by omega⟩
    · skip
      by_cases q5 : w = 2
      · refine sA_tblIn (off := 45) (tgt := 46) dd_X9_count_1 (by omega) (by omega) (by rw [q5]; rfl) (by decide) ?_
        refine sA_aload_n dd_X9_count_46 rfl (.head _) ?_
        refine sA_geti (ci := 9) (j := 1) (q := (RX9, TX9, 28)) dd_X9_count_47 rfl (by decide) fl_X9_67 (by decide) gs_s106 rfl ?_
        have b6 : (0 : Int) ≤ F 106 1 ∧ F 106 1 ≤ 60 := hI.1 106 1
        refine sA_iret (z := F 106 1) dd_X9_count_50 rfl ?_
        exact ⟨_, rfl, rfl, rfl, by omega⟩
      · skip
        by_cases q7 : w = 3
        · refine sA_tblIn (off := 50) (tgt := 51) dd_X9_count_1 (by omega) (by omega) (by rw [q7]; rfl) (by decide) ?_
          refine sA_aload_n dd_X9_count_51 rfl (.head _) ?_
          refine sA_callV (y2 := m_X9_twists) (n2 := 0) (d2 := 1) (a := 106) (ci := 9) (q := (RX9, TX9, 28)) (as := []) (rest := []) dd_X9_count_52 ok_X9_twists ml_X9_289 rfl rfl (by decide) gs_s106 rfl rfl (Nat.le_of_ble_eq_true rfl) (by decide) (c_X9_twists hI ) (fun r8 F9 A10 h11 => ?_)
          obtain ⟨z14, e13, e15, e16, x12⟩ := h11
          subst e13 e15 e16
          show sA _ _ _ 55 _ [gs_iv z14] _ _
          refine sA_iret (z := z14) dd_X9_count_55 rfl ?_
          exact ⟨_, rfl, rfl, rfl, by omega⟩
        · skip
          by_cases q17 : w = 4
          · refine sA_tblIn (off := 55) (tgt := 56) dd_X9_count_1 (by omega) (by omega) (by rw [q17]; rfl) (by decide) ?_
            refine sA_aload_n dd_X9_count_56 rfl (.head _) ?_
            refine sA_geti (ci := 9) (j := 17) (q := (RX9, TX9, 28)) dd_X9_count_57 rfl (by decide) fl_X9_181 (by decide) gs_s106 rfl ?_
            have b18 : (0 : Int) ≤ F 106 17 ∧ F 106 17 ≤ 120 := hI.1 106 17
            refine sA_iret (z := F 106 17) dd_X9_count_60 rfl ?_
            exact ⟨_, rfl, rfl, rfl, by omega⟩
          · skip
            refine sA_tblOut (tgt := 61) dd_X9_count_1 (by omega) (by omega) (by decide) ?_
            refine sA_sipush (z := (-1002)) dd_X9_count_61 (by decide) ?_
            refine sA_iret (z := -1002) dd_X9_count_64 rfl ?_
            exact ⟨_, rfl, rfl, rfl, by omega⟩
end
