noncomputable section
/-! ===== full turns: the reference ===== -/
theorem k_X9_putRim_vf {b : Int} {F A : gs_F} (hI : gs_I F A) (hb : b = 0 ∨ b = 1) (hs : F 106 15 ≤ 3600) : ∀ nN : Nat, (∀ (h : Int)  (F1 A1 : gs_F), gs_I F1 A1 → gs_fr (fun c j => c = 106 ∧ j = 15) (fun c => c = 115) F A F1 A1 → 0 ≤ h ∧ h ≤ 3 → F1 106 15 ≤ F 106 15 + 4 * h → h ≤ F 106 0 ∧ F1 106 0 = F 106 0 ∧ 0 ≤ F1 106 15 → gs_stk (A1 115) (F1 106 15).toNat = sp_all (gs_stk (A 115) (F 106 15).toNat) (gs_sl (sp_rimf (F 106 0) (1 - 2 * b)) 0 (4 * h).toNat) → 3 - h < (nN : Int) → sA m_X9_putRim 2 (fun rv F' A' => rv = none ∧ gs_I F' A' ∧ gs_fr (fun c j => c = 106 ∧ j = 15) (fun c => c = 115) F A F' A' ∧ (F' 106 15 ≤ F 106 15 + 12 ∧ 0 ≤ F' 106 15 ∧ gs_stk (A' 115) (F' 106 15).toNat = sp_all (gs_stk (A 115) (F 106 15).toNat) (sp_rim (F 106 0) (1 - 2 * b)))) 2 [(2, gs_iv h), (0, .ref 106), (1, gs_iv b)] [] F1 A1) := by
  intro nN
  induction nN with
  | zero =>
    exact fun a0 a1 a2 a3 a4 i0 i1 i2 i3 hm => by exfalso; omega
  | succ nN ih =>
    intro h F1 A1 hI1 hf1 i0 i1 i2 i3 hm
    have b1 : (0 : Int) ≤ F1 106 15 ∧ F1 106 15 ≤ 3700 := hI1.1 106 15
    have b2 : (1 : Int) ≤ F1 106 0 ∧ F1 106 0 ≤ 3 := hI1.1 106 0
    have hb15 : (0 : Int) ≤ F1 106 15 ∧ F1 106 15 ≤ 3700 := hI1.1 106 15
    refine sA_iload_n dd_X9_putRim_2 rfl (.head _) ?_
    refine sA_aload_n dd_X9_putRim_3 rfl (.tail _ (.head _)) ?_
    refine sA_geti (ci := 9) (j := 0) (q := (RX9, TX9, 28)) dd_X9_putRim_4 rfl (by decide) fl_X9_64 (by decide) gs_s106 rfl ?_
    refine sA_icmp_ge (tgt := 121) dd_X9_putRim_7 (by decide) (by omega) (by omega) (fun q3 => ?_) (fun q3 => ?_)
    · skip
      refine sA_vret dd_X9_putRim_121 rfl ?_
      refine ⟨rfl, hI1, hf1, ?_⟩
      refine ⟨by omega, by omega, ?_⟩
      rw [i3, show h = F 106 0 by omega]
      rfl
    · skip
      refine sA_iload_n dd_X9_putRim_10 rfl (.tail _ (.tail _ (.head _))) ?_
      refine sA_if_eq (tgt := 25) dd_X9_putRim_11 (by decide) (by omega) (fun q4 => ?_) (fun q4 => ?_)
      · skip
        refine sA_iload_n dd_X9_putRim_25 rfl (.head _) ?_
        refine sA_istore_n (lv' := [(3, gs_iv h), (2, gs_iv h), (0, .ref 106), (1, gs_iv b)]) dd_X9_putRim_26 rfl (by decide) rfl ?_
        refine sA_aload_n dd_X9_putRim_27 rfl (.tail _ (.tail _ (.head _))) ?_
        refine sA_iload_n dd_X9_putRim_28 rfl (.tail _ (.tail _ (.tail _ (.head _)))) ?_
        refine sA_if_eq (tgt := 40) dd_X9_putRim_29 (by decide) (by omega) (fun q5 => ?_) (fun q5 => absurd q5 (by omega))
        refine sA_iconst (z := 2) dd_X9_putRim_40 ?_
        refine sA_iload_n dd_X9_putRim_41 rfl (.head _) ?_
        refine sA_imul dd_X9_putRim_42 ?_
        refine sA_iconst (z := 1) dd_X9_putRim_43 ?_
        refine sA_iadd dd_X9_putRim_44 ?_
        refine sA_callV (y2 := m_X9_put) (n2 := 1) (d2 := 1) (a := 106) (ci := 9) (q := (RX9, TX9, 28)) (as := [gs_iv ((2 * h) + 1)]) (rest := []) dd_X9_putRim_45 ok_X9_put ml_X9_160 rfl rfl (by decide) gs_s106 rfl rfl (Nat.le_of_ble_eq_true rfl) (by decide) (c_X9_put_vf hI1 (by omega) (by omega)) (fun r6 F7 A8 h9 => ?_)
        obtain ⟨e11, I12, f13, x10⟩ := h9
        subst e11
        have v15 : F7 106 0 = F1 106 0 := f13.1 106 0 (by first | exact id | omega | (dsimp only; omega) | (dsimp only) | fail)
        have f16 := gs_fr_tr hf1 f13 (fun b j h => by first | exact False.elim h | omega | (dsimp only at h ⊢; omega) | fail) (fun b h => by first | exact False.elim h | omega | (dsimp only at h ⊢; omega) | fail)
        have y17 : F7 106 15 ≤ F1 106 15 + 1 ∧ 0 ≤ F7 106 15 ∧ gs_stk (A8 115) (F7 106 15).toNat = sp_push (gs_stk (A1 115) (F1 106 15).toNat) ((2 * h) + 1) := x10
        clear x10
        show sA _ _ _ 48 _ [] _ _
        refine sA_aload_n dd_X9_putRim_48 rfl (.tail _ (.tail _ (.head _))) ?_
        refine sA_iload_n dd_X9_putRim_49 rfl (.tail _ (.tail _ (.tail _ (.head _)))) ?_
        refine sA_if_eq (tgt := 61) dd_X9_putRim_50 (by decide) (by omega) (fun q18 => ?_) (fun q18 => absurd q18 (by omega))
        refine sA_iconst (z := 2) dd_X9_putRim_61 ?_
        refine sA_iload_n dd_X9_putRim_62 rfl (.head _) ?_
        refine sA_imul dd_X9_putRim_63 ?_
        refine sA_iconst (z := 2) dd_X9_putRim_64 ?_
        refine sA_iadd dd_X9_putRim_65 ?_
        refine sA_callV (y2 := m_X9_put) (n2 := 1) (d2 := 1) (a := 106) (ci := 9) (q := (RX9, TX9, 28)) (as := [gs_iv ((2 * h) + 2)]) (rest := []) dd_X9_putRim_66 ok_X9_put ml_X9_160 rfl rfl (by decide) gs_s106 rfl rfl (Nat.le_of_ble_eq_true rfl) (by decide) (c_X9_put_vf I12 (by omega) (by omega)) (fun r19 F20 A21 h22 => ?_)
        obtain ⟨e24, I25, f26, x23⟩ := h22
        subst e24
        have v28 : F20 106 0 = F7 106 0 := f26.1 106 0 (by first | exact id | omega | (dsimp only; omega) | (dsimp only) | fail)
        have f29 := gs_fr_tr f16 f26 (fun b j h => by first | exact False.elim h | omega | (dsimp only at h ⊢; omega) | fail) (fun b h => by first | exact False.elim h | omega | (dsimp only at h ⊢; omega) | fail)
        have y30 : F20 106 15 ≤ F7 106 15 + 1 ∧ 0 ≤ F20 106 15 ∧ gs_stk (A21 115) (F20 106 15).toNat = sp_push (gs_stk (A8 115) (F7 106 15).toNat) ((2 * h) + 2) := x23
        clear x23
        show sA _ _ _ 69 _ [] _ _
        refine sA_aload_n dd_X9_putRim_69 rfl (.tail _ (.tail _ (.head _))) ?_
        refine sA_iload_n dd_X9_putRim_70 rfl (.tail _ (.tail _ (.tail _ (.head _)))) ?_
        refine sA_if_eq (tgt := 83) dd_X9_putRim_71 (by decide) (by omega) (fun q31 => ?_) (fun q31 => absurd q31 (by omega))
        refine sA_bipush (z := (-2)) dd_X9_putRim_83 (by decide) ?_
        refine sA_iload_n dd_X9_putRim_85 rfl (.head _) ?_
        refine sA_imul dd_X9_putRim_86 ?_
        refine sA_iconst (z := 1) dd_X9_putRim_87 ?_
        refine sA_isub dd_X9_putRim_88 ?_
        refine sA_callV (y2 := m_X9_put) (n2 := 1) (d2 := 1) (a := 106) (ci := 9) (q := (RX9, TX9, 28)) (as := [gs_iv (((-2) * h) - 1)]) (rest := []) dd_X9_putRim_89 ok_X9_put ml_X9_160 rfl rfl (by decide) gs_s106 rfl rfl (Nat.le_of_ble_eq_true rfl) (by decide) (c_X9_put_vf I25 (by omega) (by omega)) (fun r32 F33 A34 h35 => ?_)
        obtain ⟨e37, I38, f39, x36⟩ := h35
        subst e37
        have v41 : F33 106 0 = F20 106 0 := f39.1 106 0 (by first | exact id | omega | (dsimp only; omega) | (dsimp only) | fail)
        have f42 := gs_fr_tr f29 f39 (fun b j h => by first | exact False.elim h | omega | (dsimp only at h ⊢; omega) | fail) (fun b h => by first | exact False.elim h | omega | (dsimp only at h ⊢; omega) | fail)
        have y43 : F33 106 15 ≤ F20 106 15 + 1 ∧ 0 ≤ F33 106 15 ∧ gs_stk (A34 115) (F33 106 15).toNat = sp_push (gs_stk (A21 115) (F20 106 15).toNat) (((-2) * h) - 1) := x36
        clear x36
        show sA _ _ _ 92 _ [] _ _
        refine sA_aload_n dd_X9_putRim_92 rfl (.tail _ (.tail _ (.head _))) ?_
        refine sA_iload_n dd_X9_putRim_93 rfl (.tail _ (.tail _ (.tail _ (.head _)))) ?_
        refine sA_if_eq (tgt := 106) dd_X9_putRim_94 (by decide) (by omega) (fun q44 => ?_) (fun q44 => absurd q44 (by omega))
        refine sA_bipush (z := (-2)) dd_X9_putRim_106 (by decide) ?_
        refine sA_iload_n dd_X9_putRim_108 rfl (.head _) ?_
        refine sA_imul dd_X9_putRim_109 ?_
        refine sA_iconst (z := 2) dd_X9_putRim_110 ?_
        refine sA_isub dd_X9_putRim_111 ?_
        refine sA_callV (y2 := m_X9_put) (n2 := 1) (d2 := 1) (a := 106) (ci := 9) (q := (RX9, TX9, 28)) (as := [gs_iv (((-2) * h) - 2)]) (rest := []) dd_X9_putRim_112 ok_X9_put ml_X9_160 rfl rfl (by decide) gs_s106 rfl rfl (Nat.le_of_ble_eq_true rfl) (by decide) (c_X9_put_vf I38 (by omega) (by omega)) (fun r45 F46 A47 h48 => ?_)
        obtain ⟨e50, I51, f52, x49⟩ := h48
        subst e50
        have v54 : F46 106 0 = F33 106 0 := f52.1 106 0 (by first | exact id | omega | (dsimp only; omega) | (dsimp only) | fail)
        have f55 := gs_fr_tr f42 f52 (fun b j h => by first | exact False.elim h | omega | (dsimp only at h ⊢; omega) | fail) (fun b h => by first | exact False.elim h | omega | (dsimp only at h ⊢; omega) | fail)
        have y56 : F46 106 15 ≤ F33 106 15 + 1 ∧ 0 ≤ F46 106 15 ∧ gs_stk (A47 115) (F46 106 15).toNat = sp_push (gs_stk (A34 115) (F33 106 15).toNat) (((-2) * h) - 2) := x49
        clear x49
        show sA _ _ _ 115 _ [] _ _
        refine sA_iinc (lv' := [(2, gs_iv (h + 1)), (3, gs_iv h), (0, .ref 106), (1, gs_iv b)]) dd_X9_putRim_115 (.tail _ (.head _)) (by decide) rfl ?_
        refine sA_goto (tgt := 2) dd_X9_putRim_118 (by decide) ?_
        have b57 : (0 : Int) ≤ F46 106 15 ∧ F46 106 15 ≤ 3700 := I51.1 106 15
        have b58 : (1 : Int) ≤ F46 106 0 ∧ F46 106 0 ≤ 3 := I51.1 106 0
        refine sA_sub (lv2 := [(2, gs_iv (h + 1)), (0, .ref 106), (1, gs_iv b)]) (List.forall_mem_cons.mpr ⟨(.head _), (List.forall_mem_cons.mpr ⟨(.tail _ (.tail _ (.head _))), (List.forall_mem_cons.mpr ⟨(.tail _ (.tail _ (.tail _ (.head _)))), (fun _ h => absurd h List.not_mem_nil)⟩)⟩)⟩) ?_
        exact ih (h + 1) F46 A47 I51 f55 (by omega) (by omega) (by omega) (by have e4 := sp_rff (g := F 106 0) (s := 1 - 2 * b) (h := h) (by omega) (by omega); rw [show (4 * (h + 1)).toNat = (4 * h).toNat + 4 by omega, sp_all_sl4, ← i3]; exact (y56.2.2.trans (sp_push_cg (by omega) (y43.2.2.trans (sp_push_cg (by omega) (y30.2.2.trans (sp_push_cg (by omega) (y17.2.2.trans (sp_push_cg (by omega) rfl))))))))) (by omega)
      · skip
        refine sA_aload_n dd_X9_putRim_14 rfl (.tail _ (.head _)) ?_
        refine sA_geti (ci := 9) (j := 0) (q := (RX9, TX9, 28)) dd_X9_putRim_15 rfl (by decide) fl_X9_64 (by decide) gs_s106 rfl ?_
        refine sA_iconst (z := 1) dd_X9_putRim_18 ?_
        refine sA_isub dd_X9_putRim_19 ?_
        refine sA_iload_n dd_X9_putRim_20 rfl (.head _) ?_
        refine sA_isub dd_X9_putRim_21 ?_
        refine sA_goto (tgt := 26) dd_X9_putRim_22 (by decide) ?_
        refine sA_istore_n (lv' := [(3, gs_iv (((F1 106 0) - 1) - h)), (2, gs_iv h), (0, .ref 106), (1, gs_iv b)]) dd_X9_putRim_26 rfl (by decide) rfl ?_
        refine sA_aload_n dd_X9_putRim_27 rfl (.tail _ (.tail _ (.head _))) ?_
        refine sA_iload_n dd_X9_putRim_28 rfl (.tail _ (.tail _ (.tail _ (.head _)))) ?_
        refine sA_if_eq (tgt := 40) dd_X9_putRim_29 (by decide) (by omega) (fun q59 => absurd q59 (by omega)) (fun q59 => ?_)
        refine sA_iconst (z := 2) dd_X9_putRim_32 ?_
        refine sA_iload_n dd_X9_putRim_33 rfl (.head _) ?_
        refine sA_imul dd_X9_putRim_34 ?_
        refine sA_iconst (z := 2) dd_X9_putRim_35 ?_
        refine sA_iadd dd_X9_putRim_36 ?_
        refine sA_goto (tgt := 45) dd_X9_putRim_37 (by decide) ?_
        refine sA_callV (y2 := m_X9_put) (n2 := 1) (d2 := 1) (a := 106) (ci := 9) (q := (RX9, TX9, 28)) (as := [gs_iv ((2 * (((F1 106 0) - 1) - h)) + 2)]) (rest := []) dd_X9_putRim_45 ok_X9_put ml_X9_160 rfl rfl (by decide) gs_s106 rfl rfl (Nat.le_of_ble_eq_true rfl) (by decide) (c_X9_put_vf hI1 (by omega) (by omega)) (fun r60 F61 A62 h63 => ?_)
        obtain ⟨e65, I66, f67, x64⟩ := h63
        subst e65
        have v69 : F61 106 0 = F1 106 0 := f67.1 106 0 (by first | exact id | omega | (dsimp only; omega) | (dsimp only) | fail)
        have f70 := gs_fr_tr hf1 f67 (fun b j h => by first | exact False.elim h | omega | (dsimp only at h ⊢; omega) | fail) (fun b h => by first | exact False.elim h | omega | (dsimp only at h ⊢; omega) | fail)
        have y71 : F61 106 15 ≤ F1 106 15 + 1 ∧ 0 ≤ F61 106 15 ∧ gs_stk (A62 115) (F61 106 15).toNat = sp_push (gs_stk (A1 115) (F1 106 15).toNat) ((2 * (((F1 106 0) - 1) - h)) + 2) := x64
        clear x64
        show sA _ _ _ 48 _ [] _ _
        refine sA_aload_n dd_X9_putRim_48 rfl (.tail _ (.tail _ (.head _))) ?_
        refine sA_iload_n dd_X9_putRim_49 rfl (.tail _ (.tail _ (.tail _ (.head _)))) ?_
        refine sA_if_eq (tgt := 61) dd_X9_putRim_50 (by decide) (by omega) (fun q72 => absurd q72 (by omega)) (fun q72 => ?_)
        refine sA_iconst (z := 2) dd_X9_putRim_53 ?_
        refine sA_iload_n dd_X9_putRim_54 rfl (.head _) ?_
        refine sA_imul dd_X9_putRim_55 ?_
        refine sA_iconst (z := 1) dd_X9_putRim_56 ?_
        refine sA_iadd dd_X9_putRim_57 ?_
        refine sA_goto (tgt := 66) dd_X9_putRim_58 (by decide) ?_
        refine sA_callV (y2 := m_X9_put) (n2 := 1) (d2 := 1) (a := 106) (ci := 9) (q := (RX9, TX9, 28)) (as := [gs_iv ((2 * (((F1 106 0) - 1) - h)) + 1)]) (rest := []) dd_X9_putRim_66 ok_X9_put ml_X9_160 rfl rfl (by decide) gs_s106 rfl rfl (Nat.le_of_ble_eq_true rfl) (by decide) (c_X9_put_vf I66 (by omega) (by omega)) (fun r73 F74 A75 h76 => ?_)
        obtain ⟨e78, I79, f80, x77⟩ := h76
        subst e78
        have v82 : F74 106 0 = F61 106 0 := f80.1 106 0 (by first | exact id | omega | (dsimp only; omega) | (dsimp only) | fail)
        have f83 := gs_fr_tr f70 f80 (fun b j h => by first | exact False.elim h | omega | (dsimp only at h ⊢; omega) | fail) (fun b h => by first | exact False.elim h | omega | (dsimp only at h ⊢; omega) | fail)
        have y84 : F74 106 15 ≤ F61 106 15 + 1 ∧ 0 ≤ F74 106 15 ∧ gs_stk (A75 115) (F74 106 15).toNat = sp_push (gs_stk (A62 115) (F61 106 15).toNat) ((2 * (((F1 106 0) - 1) - h)) + 1) := x77
        clear x77
        show sA _ _ _ 69 _ [] _ _
        refine sA_aload_n dd_X9_putRim_69 rfl (.tail _ (.tail _ (.head _))) ?_
        refine sA_iload_n dd_X9_putRim_70 rfl (.tail _ (.tail _ (.tail _ (.head _)))) ?_
        refine sA_if_eq (tgt := 83) dd_X9_putRim_71 (by decide) (by omega) (fun q85 => absurd q85 (by omega)) (fun q85 => ?_)
        refine sA_bipush (z := (-2)) dd_X9_putRim_74 (by decide) ?_
        refine sA_iload_n dd_X9_putRim_76 rfl (.head _) ?_
        refine sA_imul dd_X9_putRim_77 ?_
        refine sA_iconst (z := 2) dd_X9_putRim_78 ?_
        refine sA_isub dd_X9_putRim_79 ?_
        refine sA_goto (tgt := 89) dd_X9_putRim_80 (by decide) ?_
        refine sA_callV (y2 := m_X9_put) (n2 := 1) (d2 := 1) (a := 106) (ci := 9) (q := (RX9, TX9, 28)) (as := [gs_iv (((-2) * (((F1 106 0) - 1) - h)) - 2)]) (rest := []) dd_X9_putRim_89 ok_X9_put ml_X9_160 rfl rfl (by decide) gs_s106 rfl rfl (Nat.le_of_ble_eq_true rfl) (by decide) (c_X9_put_vf I79 (by omega) (by omega)) (fun r86 F87 A88 h89 => ?_)
        obtain ⟨e91, I92, f93, x90⟩ := h89
        subst e91
        have v95 : F87 106 0 = F74 106 0 := f93.1 106 0 (by first | exact id | omega | (dsimp only; omega) | (dsimp only) | fail)
        have f96 := gs_fr_tr f83 f93 (fun b j h => by first | exact False.elim h | omega | (dsimp only at h ⊢; omega) | fail) (fun b h => by first | exact False.elim h | omega | (dsimp only at h ⊢; omega) | fail)
        have y97 : F87 106 15 ≤ F74 106 15 + 1 ∧ 0 ≤ F87 106 15 ∧ gs_stk (A88 115) (F87 106 15).toNat = sp_push (gs_stk (A75 115) (F74 106 15).toNat) (((-2) * (((F1 106 0) - 1) - h)) - 2) := x90
        clear x90
        show sA _ _ _ 92 _ [] _ _
        refine sA_aload_n dd_X9_putRim_92 rfl (.tail _ (.tail _ (.head _))) ?_
        refine sA_iload_n dd_X9_putRim_93 rfl (.tail _ (.tail _ (.tail _ (.head _)))) ?_
        refine sA_if_eq (tgt := 106) dd_X9_putRim_94 (by decide) (by omega) (fun q98 => absurd q98 (by omega)) (fun q98 => ?_)
        refine sA_bipush (z := (-2)) dd_X9_putRim_97 (by decide) ?_
        refine sA_iload_n dd_X9_putRim_99 rfl (.head _) ?_
        refine sA_imul dd_X9_putRim_100 ?_
        refine sA_iconst (z := 1) dd_X9_putRim_101 ?_
        refine sA_isub dd_X9_putRim_102 ?_
        refine sA_goto (tgt := 112) dd_X9_putRim_103 (by decide) ?_
        refine sA_callV (y2 := m_X9_put) (n2 := 1) (d2 := 1) (a := 106) (ci := 9) (q := (RX9, TX9, 28)) (as := [gs_iv (((-2) * (((F1 106 0) - 1) - h)) - 1)]) (rest := []) dd_X9_putRim_112 ok_X9_put ml_X9_160 rfl rfl (by decide) gs_s106 rfl rfl (Nat.le_of_ble_eq_true rfl) (by decide) (c_X9_put_vf I92 (by omega) (by omega)) (fun r99 F100 A101 h102 => ?_)
        obtain ⟨e104, I105, f106, x103⟩ := h102
        subst e104
        have v108 : F100 106 0 = F87 106 0 := f106.1 106 0 (by first | exact id | omega | (dsimp only; omega) | (dsimp only) | fail)
        have f109 := gs_fr_tr f96 f106 (fun b j h => by first | exact False.elim h | omega | (dsimp only at h ⊢; omega) | fail) (fun b h => by first | exact False.elim h | omega | (dsimp only at h ⊢; omega) | fail)
        have y110 : F100 106 15 ≤ F87 106 15 + 1 ∧ 0 ≤ F100 106 15 ∧ gs_stk (A101 115) (F100 106 15).toNat = sp_push (gs_stk (A88 115) (F87 106 15).toNat) (((-2) * (((F1 106 0) - 1) - h)) - 1) := x103
        clear x103
        show sA _ _ _ 115 _ [] _ _
        refine sA_iinc (lv' := [(2, gs_iv (h + 1)), (3, gs_iv (((F1 106 0) - 1) - h)), (0, .ref 106), (1, gs_iv b)]) dd_X9_putRim_115 (.tail _ (.head _)) (by decide) rfl ?_
        refine sA_goto (tgt := 2) dd_X9_putRim_118 (by decide) ?_
        have b111 : (0 : Int) ≤ F100 106 15 ∧ F100 106 15 ≤ 3700 := I105.1 106 15
        have b112 : (1 : Int) ≤ F100 106 0 ∧ F100 106 0 ≤ 3 := I105.1 106 0
        refine sA_sub (lv2 := [(2, gs_iv (h + 1)), (0, .ref 106), (1, gs_iv b)]) (List.forall_mem_cons.mpr ⟨(.head _), (List.forall_mem_cons.mpr ⟨(.tail _ (.tail _ (.head _))), (List.forall_mem_cons.mpr ⟨(.tail _ (.tail _ (.tail _ (.head _)))), (fun _ h => absurd h List.not_mem_nil)⟩)⟩)⟩) ?_
        exact ih (h + 1) F100 A101 I105 f109 (by omega) (by omega) (by omega) (by have e4 := sp_rfb (g := F 106 0) (s := 1 - 2 * b) (h := h) (n := F1 106 0 - 1 - h) (by omega) (by omega) (by omega) (by omega); rw [show (4 * (h + 1)).toNat = (4 * h).toNat + 4 by omega, sp_all_sl4, ← i3]; exact (y110.2.2.trans (sp_push_cg (by omega) (y97.2.2.trans (sp_push_cg (by omega) (y84.2.2.trans (sp_push_cg (by omega) (y71.2.2.trans (sp_push_cg (by omega) rfl))))))))) (by omega)
theorem c_X9_putRim_vf {b : Int} {F A : gs_F} (hI : gs_I F A) (hb : b = 0 ∨ b = 1) (hs : F 106 15 ≤ 3600) : sC m_X9_putRim 2 [.ref 106, gs_iv b] F A (fun rv F' A' => rv = none ∧ gs_I F' A' ∧ gs_fr (fun c j => c = 106 ∧ j = 15) (fun c => c = 115) F A F' A' ∧ (F' 106 15 ≤ F 106 15 + 12 ∧ 0 ≤ F' 106 15 ∧ gs_stk (A' 115) (F' 106 15).toNat = sp_all (gs_stk (A 115) (F 106 15).toNat) (sp_rim (F 106 0) (1 - 2 * b)))) := by
  refine sC_of ok_X9_putRim.1 (Nat.le_of_ble_eq_true rfl) ?_
  show sA _ _ _ 0 [(0, .ref 106), (1, gs_iv b)] [] F A
  have hf : gs_fr (fun c j => c = 106 ∧ j = 15) (fun c => c = 115) F A F A := gs_fr_refl _ _ _ _
  have b113 : (0 : Int) ≤ F 106 15 ∧ F 106 15 ≤ 3700 := hI.1 106 15
  have b114 : (1 : Int) ≤ F 106 0 ∧ F 106 0 ≤ 3 := hI.1 106 0
  have hb15 : (0 : Int) ≤ F 106 15 ∧ F 106 15 ≤ 3700 := hI.1 106 15
  have hb0 : (1 : Int) ≤ F 106 0 ∧ F 106 0 ≤ 3 := hI.1 106 0
  refine sA_iconst (z := 0) dd_X9_putRim_0 ?_
  refine sA_istore_n (lv' := [(2, gs_iv 0), (0, .ref 106), (1, gs_iv b)]) dd_X9_putRim_1 rfl (by decide) rfl ?_
  refine sA_sub (lv2 := [(2, gs_iv 0), (0, .ref 106), (1, gs_iv b)]) (List.forall_mem_cons.mpr ⟨(.head _), (List.forall_mem_cons.mpr ⟨(.tail _ (.head _)), (List.forall_mem_cons.mpr ⟨(.tail _ (.tail _ (.head _))), (fun _ h => absurd h List.not_mem_nil)⟩)⟩)⟩) ?_
  exact (k_X9_putRim_vf hI hb hs (3 - 0 : Int).toNat.succ) 0 F A hI hf (by omega) (by omega) (by omega) (by rfl) (by omega)
theorem k_X9_isTurns_vf {m : Int} {F A : gs_F} (hI : gs_I F A) (hm0 : -5 ≤ m ∧ m ≤ 5) : ∀ nN : Nat, (∀ (b : Int) (x : Int)  (F1 A1 : gs_F), gs_I F1 A1 → gs_fr (fun c j => c = 106 ∧ (j = 13 ∨ j = 15)) (fun c => c = 114 ∨ c = 115) F A F1 A1 → 0 ≤ x ∧ x ≤ 6 → b = 0 ∨ b = 1 → x ≤ 2 * F 106 0 ∧ F1 106 0 = F 106 0 → (b = 1 → ∀ ii : Nat, (ii : Int) < x → sp_rr (F 106 0) m ((ii : Int) + 1) = gs_im A ii) → (b = 0 → ¬ gs_tm F A m) → (6 - x) * 1000 + 1 < (nN : Int) → sA m_X9_isTurns 3 (fun rv F' A' => ∃ z : Int, rv = some (gs_iv z) ∧ gs_I F' A' ∧ gs_fr (fun c j => c = 106 ∧ (j = 13 ∨ j = 15)) (fun c => c = 114 ∨ c = 115) F A F' A' ∧ ((z = 1 ∧ gs_tm F A m) ∨ (z = 0 ∧ ¬ gs_tm F A m))) 4 [(3, gs_iv x), (2, gs_iv b), (0, .ref 106), (1, gs_iv m)] [] F1 A1) ∧ (∀ (x : Int) (n : Int) (k : Int)  (F1 A1 : gs_F), gs_I F1 A1 → gs_fr (fun c j => c = 106 ∧ (j = 13 ∨ j = 15)) (fun c => c = 114 ∨ c = 115) F A F1 A1 → 0 ≤ x ∧ x < 6 → 0 ≤ k ∧ k ≤ n ∧ n ≤ 5 → F1 106 15 ≤ 12 * k → x < 2 * F 106 0 ∧ F1 106 0 = F 106 0 ∧ 0 ≤ F1 106 15 → (n = m ∧ 0 ≤ m) ∨ (n = -m ∧ m < 0) → (∀ ii : Nat, (ii : Int) < x → sp_rr (F 106 0) m ((ii : Int) + 1) = gs_im A ii) → gs_stk (A1 115) (F1 106 15).toNat = sp_all [] (sp_rep (sp_rim (F 106 0) m) k.toNat) → (6 - x) * 1000 - k < (nN : Int) → sA m_X9_isTurns 3 (fun rv F' A' => ∃ z : Int, rv = some (gs_iv z) ∧ gs_I F' A' ∧ gs_fr (fun c j => c = 106 ∧ (j = 13 ∨ j = 15)) (fun c => c = 114 ∨ c = 115) F A F' A' ∧ ((z = 1 ∧ gs_tm F A m) ∨ (z = 0 ∧ ¬ gs_tm F A m))) 39 [(5, gs_iv k), (4, gs_iv n), (3, gs_iv x), (0, .ref 106), (1, gs_iv m)] [] F1 A1) ∧ (∀ (x : Int) (n : Int) (k : Int)  (F1 A1 : gs_F), gs_I F1 A1 → gs_fr (fun c j => c = 106 ∧ (j = 13 ∨ j = 15)) (fun c => c = 114 ∨ c = 115) F A F1 A1 → 0 ≤ x ∧ x < 6 → 0 ≤ k ∧ k ≤ n ∧ n ≤ 5 → F1 106 15 ≤ 61 + 12 * k → x < 2 * F 106 0 ∧ F1 106 0 = F 106 0 ∧ 0 ≤ F1 106 15 → (n = m ∧ 0 ≤ m) ∨ (n = -m ∧ m < 0) → (∀ ii : Nat, (ii : Int) < x → sp_rr (F 106 0) m ((ii : Int) + 1) = gs_im A ii) → gs_stk (A1 115) (F1 106 15).toNat = sp_all (sp_push (sp_all [] (sp_rep (sp_rim (F 106 0) m) n.toNat)) (x + 1)) (sp_rep (sp_rim (F 106 0) (-m)) k.toNat) → (6 - x) * 1000 - 10 - k < (nN : Int) → sA m_X9_isTurns 3 (fun rv F' A' => ∃ z : Int, rv = some (gs_iv z) ∧ gs_I F' A' ∧ gs_fr (fun c j => c = 106 ∧ (j = 13 ∨ j = 15)) (fun c => c = 114 ∨ c = 115) F A F' A' ∧ ((z = 1 ∧ gs_tm F A m) ∨ (z = 0 ∧ ¬ gs_tm F A m))) 75 [(5, gs_iv k), (4, gs_iv n), (3, gs_iv x), (0, .ref 106), (1, gs_iv m)] [] F1 A1) ∧ (∀ (x : Int) (k : Int)  (F1 A1 : gs_F), gs_I F1 A1 → gs_fr (fun c j => c = 106 ∧ (j = 13 ∨ j = 15)) (fun c => c = 114 ∨ c = 115) F A F1 A1 → 0 ≤ x ∧ x < 6 → 0 ≤ k ∧ k ≤ F1 106 15 → F1 106 15 ≤ 121 → x < 2 * F 106 0 ∧ F1 106 0 = F 106 0 ∧ 0 ≤ F1 106 15 → (∀ ii : Nat, (ii : Int) < x → sp_rr (F 106 0) m ((ii : Int) + 1) = gs_im A ii) → gs_stk (A1 115) (F1 106 15).toNat = sp_rr (F 106 0) m (x + 1) → F1 106 13 = F1 106 15 → (∀ j : Int, 0 ≤ j → j < k → A1 114 j.toNat = A1 115 j.toNat) → (6 - x) * 1000 - 20 - k < (nN : Int) → sA m_X9_isTurns 3 (fun rv F' A' => ∃ z : Int, rv = some (gs_iv z) ∧ gs_I F' A' ∧ gs_fr (fun c j => c = 106 ∧ (j = 13 ∨ j = 15)) (fun c => c = 114 ∨ c = 115) F A F' A' ∧ ((z = 1 ∧ gs_tm F A m) ∨ (z = 0 ∧ ¬ gs_tm F A m))) 112 [(5, gs_iv k), (3, gs_iv x), (0, .ref 106), (1, gs_iv m)] [] F1 A1) := by
  intro nN
  induction nN with
  | zero =>
    exact ⟨fun a0 a1 a2 a3 a4 a5 i0 i1 i2 i3 i4 hm => by exfalso; omega, fun a0 a1 a2 a3 a4 a5 a6 i0 i1 i2 i3 i4 i5 i6 hm => by exfalso; omega, fun a0 a1 a2 a3 a4 a5 a6 i0 i1 i2 i3 i4 i5 i6 hm => by exfalso; omega, fun a0 a1 a2 a3 a4 a5 i0 i1 i2 i3 i4 i5 i6 i7 hm => by exfalso; omega⟩
  | succ nN ih =>
    refine ⟨?_, ?_, ?_, ?_⟩
    · skip
      intro b x F1 A1 hI1 hf1 i0 i1 i2 i3 i4 hm
      have b1 : (0 : Int) ≤ F1 106 15 ∧ F1 106 15 ≤ 3700 := hI1.1 106 15
      have b2 : (1 : Int) ≤ F1 106 0 ∧ F1 106 0 ≤ 3 := hI1.1 106 0
      have b3 : (0 : Int) ≤ F1 106 13 ∧ F1 106 13 ≤ 400 := hI1.1 106 13
      have u4 : A1 114 = A1 114 := rfl
      have u5 : A1 115 = A1 115 := rfl
      refine sA_iload_n dd_X9_isTurns_4 rfl (.head _) ?_
      refine sA_iconst (z := 2) dd_X9_isTurns_5 ?_
      refine sA_aload_n dd_X9_isTurns_6 rfl (.tail _ (.tail _ (.head _))) ?_
      refine sA_geti (ci := 9) (j := 0) (q := (RX9, TX9, 28)) dd_X9_isTurns_7 rfl (by decide) fl_X9_64 (by decide) gs_s106 rfl ?_
      refine sA_imul dd_X9_isTurns_10 ?_
      refine sA_icmp_ge (tgt := 153) dd_X9_isTurns_11 (by decide) (by omega) (by omega) (fun q6 => ?_) (fun q6 => ?_)
      · skip
        refine sA_iload_n dd_X9_isTurns_153 rfl (.tail _ (.head _)) ?_
        refine sA_bret (z := b) dd_X9_isTurns_154 rfl (by omega) ?_
        refine ⟨_, rfl, hI1, hf1, ?_⟩
        rcases i1 with h | h
        · exact .inr ⟨h, i4 h⟩
        · exact .inl ⟨h, fun ii hi => i3 h ii (by omega)⟩
      · skip
        refine sA_iload_n dd_X9_isTurns_14 rfl (.tail _ (.head _)) ?_
        refine sA_if_eq (tgt := 153) dd_X9_isTurns_15 (by decide) (by omega) (fun q7 => ?_) (fun q7 => ?_)
        · skip
          refine sA_iload_n dd_X9_isTurns_153 rfl (.tail _ (.head _)) ?_
          refine sA_bret (z := b) dd_X9_isTurns_154 rfl (by omega) ?_
          refine ⟨_, rfl, hI1, hf1, ?_⟩
          rcases i1 with h | h
          · exact .inr ⟨h, i4 h⟩
          · exact .inl ⟨h, fun ii hi => i3 h ii (by omega)⟩
        · skip
          refine sA_aload_n dd_X9_isTurns_18 rfl (.tail _ (.tail _ (.head _))) ?_
          refine sA_iconst (z := 0) dd_X9_isTurns_19 ?_
          refine sA_put (ci := 9) (j := 15) (q := (RX9, TX9, 28)) (ty := .int) dd_X9_isTurns_20 rfl (by decide) fl_X9_157 rfl (tyX9_ok 15 (by decide)) rfl rfl (by decide) gs_s106 rfl ?_
          have I9 : gs_I (gs_up F1 106 15 0) A1 := gs_I_put hI1 (show (0 : Int) ≤ 0 ∧ 0 ≤ 3700 by omega)
          have f10 := gs_fr_put hf1 (a := 106) (z := 0) (j := 15) (by first | omega | (dsimp only; omega) | (dsimp only) | fail)
          have v11 : gs_up F1 106 15 0 106 15 = 0 := gs_up_self _ _ _ _
          have v12 : (gs_up F1 106 15 0) 106 0 = F1 106 0 := gs_up_ne _ _ (by omega)
          have v13 : (gs_up F1 106 15 0) 106 13 = F1 106 13 := gs_up_ne _ _ (by omega)
          generalize gs_up F1 106 15 0 = F8 at I9 f10 v11 v12 v13 ⊢
          refine sA_iload_n dd_X9_isTurns_23 rfl (.tail _ (.tail _ (.tail _ (.head _)))) ?_
          refine sA_if_ge (tgt := 33) dd_X9_isTurns_24 (by decide) (by omega) (fun q14 => ?_) (fun q14 => ?_)
          · skip
            refine sA_iload_n dd_X9_isTurns_33 rfl (.tail _ (.tail _ (.tail _ (.head _)))) ?_
            refine sA_istore (lv' := [(4, gs_iv m), (3, gs_iv x), (2, gs_iv b), (0, .ref 106), (1, gs_iv m)]) dd_X9_isTurns_34 (by decide) rfl ?_
            refine sA_iconst (z := 0) dd_X9_isTurns_36 ?_
            refine sA_istore (lv' := [(5, gs_iv 0), (4, gs_iv m), (3, gs_iv x), (2, gs_iv b), (0, .ref 106), (1, gs_iv m)]) dd_X9_isTurns_37 (by decide) rfl ?_
            have b15 : (0 : Int) ≤ F8 106 15 ∧ F8 106 15 ≤ 3700 := I9.1 106 15
            have b16 : (1 : Int) ≤ F8 106 0 ∧ F8 106 0 ≤ 3 := I9.1 106 0
            have b17 : (0 : Int) ≤ F8 106 13 ∧ F8 106 13 ≤ 400 := I9.1 106 13
            refine sA_sub (lv2 := [(5, gs_iv 0), (4, gs_iv m), (3, gs_iv x), (0, .ref 106), (1, gs_iv m)]) (List.forall_mem_cons.mpr ⟨(.head _), (List.forall_mem_cons.mpr ⟨(.tail _ (.head _)), (List.forall_mem_cons.mpr ⟨(.tail _ (.tail _ (.head _))), (List.forall_mem_cons.mpr ⟨(.tail _ (.tail _ (.tail _ (.tail _ (.head _))))), (List.forall_mem_cons.mpr ⟨(.tail _ (.tail _ (.tail _ (.tail _ (.tail _ (.head _)))))), (fun _ h => absurd h List.not_mem_nil)⟩)⟩)⟩)⟩)⟩) ?_
            exact ih.2.1 x m 0 F8 A1 I9 f10 (by omega) (by omega) (by omega) (by omega) (by omega) (i3 (by omega)) (by rw [show F8 106 15 = 0 by omega]; rfl) (by omega)
          · skip
            refine sA_iconst (z := 0) dd_X9_isTurns_27 ?_
            refine sA_iload_n dd_X9_isTurns_28 rfl (.tail _ (.tail _ (.tail _ (.head _)))) ?_
            refine sA_isub dd_X9_isTurns_29 ?_
            refine sA_goto (tgt := 34) dd_X9_isTurns_30 (by decide) ?_
            refine sA_istore (lv' := [(4, gs_iv (0 - m)), (3, gs_iv x), (2, gs_iv b), (0, .ref 106), (1, gs_iv m)]) dd_X9_isTurns_34 (by decide) rfl ?_
            refine sA_iconst (z := 0) dd_X9_isTurns_36 ?_
            refine sA_istore (lv' := [(5, gs_iv 0), (4, gs_iv (0 - m)), (3, gs_iv x), (2, gs_iv b), (0, .ref 106), (1, gs_iv m)]) dd_X9_isTurns_37 (by decide) rfl ?_
            have b18 : (0 : Int) ≤ F8 106 15 ∧ F8 106 15 ≤ 3700 := I9.1 106 15
            have b19 : (1 : Int) ≤ F8 106 0 ∧ F8 106 0 ≤ 3 := I9.1 106 0
            have b20 : (0 : Int) ≤ F8 106 13 ∧ F8 106 13 ≤ 400 := I9.1 106 13
            refine sA_sub (lv2 := [(5, gs_iv 0), (4, gs_iv (0 - m)), (3, gs_iv x), (0, .ref 106), (1, gs_iv m)]) (List.forall_mem_cons.mpr ⟨(.head _), (List.forall_mem_cons.mpr ⟨(.tail _ (.head _)), (List.forall_mem_cons.mpr ⟨(.tail _ (.tail _ (.head _))), (List.forall_mem_cons.mpr ⟨(.tail _ (.tail _ (.tail _ (.tail _ (.head _))))), (List.forall_mem_cons.mpr ⟨(.tail _ (.tail _ (.tail _ (.tail _ (.tail _ (.head _)))))), (fun _ h => absurd h List.not_mem_nil)⟩)⟩)⟩)⟩)⟩) ?_
            exact ih.2.1 x (0 - m) 0 F8 A1 I9 f10 (by omega) (by omega) (by omega) (by omega) (by omega) (i3 (by omega)) (by rw [show F8 106 15 = 0 by omega]; rfl) (by omega)
    · skip
      intro x n k F1 A1 hI1 hf1 i0 i1 i2 i3 i4 i5 i6 hm
      have b21 : (0 : Int) ≤ F1 106 15 ∧ F1 106 15 ≤ 3700 := hI1.1 106 15
      have b22 : (1 : Int) ≤ F1 106 0 ∧ F1 106 0 ≤ 3 := hI1.1 106 0
      have b23 : (0 : Int) ≤ F1 106 13 ∧ F1 106 13 ≤ 400 := hI1.1 106 13
      have u24 : A1 114 = A1 114 := rfl
      have u25 : A1 115 = A1 115 := rfl
      refine sA_iload dd_X9_isTurns_39 (.head _) ?_
      refine sA_iload dd_X9_isTurns_41 (.tail _ (.head _)) ?_
      refine sA_icmp_ge (tgt := 65) dd_X9_isTurns_43 (by decide) (by omega) (by omega) (fun q26 => ?_) (fun q26 => ?_)
      · skip
        refine sA_aload_n dd_X9_isTurns_65 rfl (.tail _ (.tail _ (.tail _ (.head _)))) ?_
        refine sA_iload_n dd_X9_isTurns_66 rfl (.tail _ (.tail _ (.head _))) ?_
        refine sA_iconst (z := 1) dd_X9_isTurns_67 ?_
        refine sA_iadd dd_X9_isTurns_68 ?_
        refine sA_callV (y2 := m_X9_put) (n2 := 1) (d2 := 1) (a := 106) (ci := 9) (q := (RX9, TX9, 28)) (as := [gs_iv (x + 1)]) (rest := []) dd_X9_isTurns_69 ok_X9_put ml_X9_160 rfl rfl (by decide) gs_s106 rfl rfl (Nat.le_of_ble_eq_true rfl) (by decide) (c_X9_put_vf hI1 (by omega) (by omega)) (fun r27 F28 A29 h30 => ?_)
        obtain ⟨e32, I33, f34, x31⟩ := h30
        subst e32
        have v36 : F28 106 0 = F1 106 0 := f34.1 106 0 (by first | exact id | omega | (dsimp only; omega) | (dsimp only) | fail)
        have v37 : F28 106 13 = F1 106 13 := f34.1 106 13 (by first | exact id | omega | (dsimp only; omega) | (dsimp only) | fail)
        have f38 := gs_fr_tr hf1 f34 (fun b j h => by first | exact False.elim h | omega | (dsimp only at h ⊢; omega) | fail) (fun b h => by first | exact False.elim h | omega | (dsimp only at h ⊢; omega) | fail)
        have u39 : A29 114 = A1 114 := (f34.2 114 (by first | exact id | omega | (dsimp only; omega) | (dsimp only) | fail)).trans u24
        have u40 : A29 115 = A29 115 := rfl
        have y41 : F28 106 15 ≤ F1 106 15 + 1 ∧ 0 ≤ F28 106 15 ∧ gs_stk (A29 115) (F28 106 15).toNat = sp_push (gs_stk (A1 115) (F1 106 15).toNat) (x + 1) := x31
        clear x31
        show sA _ _ _ 72 _ [] _ _
        refine sA_iconst (z := 0) dd_X9_isTurns_72 ?_
        refine sA_istore (lv' := [(5, gs_iv 0), (4, gs_iv n), (3, gs_iv x), (0, .ref 106), (1, gs_iv m)]) dd_X9_isTurns_73 (by decide) rfl ?_
        have b42 : (0 : Int) ≤ F28 106 15 ∧ F28 106 15 ≤ 3700 := I33.1 106 15
        have b43 : (1 : Int) ≤ F28 106 0 ∧ F28 106 0 ≤ 3 := I33.1 106 0
        have b44 : (0 : Int) ≤ F28 106 13 ∧ F28 106 13 ≤ 400 := I33.1 106 13
        refine sA_sub (lv2 := [(5, gs_iv 0), (4, gs_iv n), (3, gs_iv x), (0, .ref 106), (1, gs_iv m)]) (List.forall_mem_cons.mpr ⟨(.head _), (List.forall_mem_cons.mpr ⟨(.tail _ (.head _)), (List.forall_mem_cons.mpr ⟨(.tail _ (.tail _ (.head _))), (List.forall_mem_cons.mpr ⟨(.tail _ (.tail _ (.tail _ (.head _)))), (List.forall_mem_cons.mpr ⟨(.tail _ (.tail _ (.tail _ (.tail _ (.head _))))), (fun _ h => absurd h List.not_mem_nil)⟩)⟩)⟩)⟩)⟩) ?_
        exact ih.2.2.1 x n 0 F28 A29 I33 f38 (by omega) (by omega) (by omega) (by omega) (by omega) i5 (by rw [show n = k by omega, ← i6]; exact y41.2.2) (by omega)
      · skip
        refine sA_aload_n dd_X9_isTurns_46 rfl (.tail _ (.tail _ (.tail _ (.head _)))) ?_
        refine sA_iload_n dd_X9_isTurns_47 rfl (.tail _ (.tail _ (.tail _ (.tail _ (.head _))))) ?_
        refine sA_if_ge (tgt := 55) dd_X9_isTurns_48 (by decide) (by omega) (fun q45 => ?_) (fun q45 => ?_)
        · skip
          refine sA_iconst (z := 0) dd_X9_isTurns_55 ?_
          refine sA_callV (y2 := m_X9_putRim) (n2 := 1) (d2 := 2) (a := 106) (ci := 9) (q := (RX9, TX9, 28)) (as := [gs_iv 0]) (rest := []) dd_X9_isTurns_56 ok_X9_putRim ml_X9_248 rfl rfl (by decide) gs_s106 rfl rfl (Nat.le_of_ble_eq_true rfl) (by decide) (c_X9_putRim_vf hI1 (by omega) (by omega)) (fun r46 F47 A48 h49 => ?_)
          obtain ⟨e51, I52, f53, x50⟩ := h49
          subst e51
          have v55 : F47 106 0 = F1 106 0 := f53.1 106 0 (by first | exact id | omega | (dsimp only; omega) | (dsimp only) | fail)
          have v56 : F47 106 13 = F1 106 13 := f53.1 106 13 (by first | exact id | omega | (dsimp only; omega) | (dsimp only) | fail)
          have f57 := gs_fr_tr hf1 f53 (fun b j h => by first | exact False.elim h | omega | (dsimp only at h ⊢; omega) | fail) (fun b h => by first | exact False.elim h | omega | (dsimp only at h ⊢; omega) | fail)
          have u58 : A48 114 = A1 114 := (f53.2 114 (by first | exact id | omega | (dsimp only; omega) | (dsimp only) | fail)).trans u24
          have u59 : A48 115 = A48 115 := rfl
          have y60 : F47 106 15 ≤ F1 106 15 + 12 ∧ 0 ≤ F47 106 15 ∧ gs_stk (A48 115) (F47 106 15).toNat = sp_all (gs_stk (A1 115) (F1 106 15).toNat) (sp_rim (F1 106 0) (1 - 2 * (0 : Int))) := x50
          clear x50
          show sA _ _ _ 59 _ [] _ _
          refine sA_iinc (lv' := [(5, gs_iv (k + 1)), (4, gs_iv n), (3, gs_iv x), (0, .ref 106), (1, gs_iv m)]) dd_X9_isTurns_59 (.head _) (by decide) rfl ?_
          refine sA_goto (tgt := 39) dd_X9_isTurns_62 (by decide) ?_
          have b61 : (0 : Int) ≤ F47 106 15 ∧ F47 106 15 ≤ 3700 := I52.1 106 15
          have b62 : (1 : Int) ≤ F47 106 0 ∧ F47 106 0 ≤ 3 := I52.1 106 0
          have b63 : (0 : Int) ≤ F47 106 13 ∧ F47 106 13 ≤ 400 := I52.1 106 13
          refine sA_sub (lv2 := [(5, gs_iv (k + 1)), (4, gs_iv n), (3, gs_iv x), (0, .ref 106), (1, gs_iv m)]) (List.forall_mem_cons.mpr ⟨(.head _), (List.forall_mem_cons.mpr ⟨(.tail _ (.head _)), (List.forall_mem_cons.mpr ⟨(.tail _ (.tail _ (.head _))), (List.forall_mem_cons.mpr ⟨(.tail _ (.tail _ (.tail _ (.head _)))), (List.forall_mem_cons.mpr ⟨(.tail _ (.tail _ (.tail _ (.tail _ (.head _))))), (fun _ h => absurd h List.not_mem_nil)⟩)⟩)⟩)⟩)⟩) ?_
          exact ih.2.1 x n (k + 1) F47 A48 I52 f57 (by omega) (by omega) (by omega) (by omega) (by omega) i5 (by rw [show (k + 1).toNat = k.toNat + 1 by omega]; show _ = sp_all _ (sp_rep (sp_rim (F 106 0) m) k.toNat ++ sp_rim (F 106 0) m); rw [sp_all_app, ← i6]; refine y60.2.2.trans ?_; rw [show F1 106 0 = F 106 0 by omega, sp_rim_sg (m := m) (by omega)]) (by omega)
        · skip
          refine sA_iconst (z := 1) dd_X9_isTurns_51 ?_
          refine sA_goto (tgt := 56) dd_X9_isTurns_52 (by decide) ?_
          refine sA_callV (y2 := m_X9_putRim) (n2 := 1) (d2 := 2) (a := 106) (ci := 9) (q := (RX9, TX9, 28)) (as := [gs_iv 1]) (rest := []) dd_X9_isTurns_56 ok_X9_putRim ml_X9_248 rfl rfl (by decide) gs_s106 rfl rfl (Nat.le_of_ble_eq_true rfl) (by decide) (c_X9_putRim_vf hI1 (by omega) (by omega)) (fun r64 F65 A66 h67 => ?_)
          obtain ⟨e69, I70, f71, x68⟩ := h67
          subst e69
          have v73 : F65 106 0 = F1 106 0 := f71.1 106 0 (by first | exact id | omega | (dsimp only; omega) | (dsimp only) | fail)
          have v74 : F65 106 13 = F1 106 13 := f71.1 106 13 (by first | exact id | omega | (dsimp only; omega) | (dsimp only) | fail)
          have f75 := gs_fr_tr hf1 f71 (fun b j h => by first | exact False.elim h | omega | (dsimp only at h ⊢; omega) | fail) (fun b h => by first | exact False.elim h | omega | (dsimp only at h ⊢; omega) | fail)
          have u76 : A66 114 = A1 114 := (f71.2 114 (by first | exact id | omega | (dsimp only; omega) | (dsimp only) | fail)).trans u24
          have u77 : A66 115 = A66 115 := rfl
          have y78 : F65 106 15 ≤ F1 106 15 + 12 ∧ 0 ≤ F65 106 15 ∧ gs_stk (A66 115) (F65 106 15).toNat = sp_all (gs_stk (A1 115) (F1 106 15).toNat) (sp_rim (F1 106 0) (1 - 2 * (1 : Int))) := x68
          clear x68
          show sA _ _ _ 59 _ [] _ _
          refine sA_iinc (lv' := [(5, gs_iv (k + 1)), (4, gs_iv n), (3, gs_iv x), (0, .ref 106), (1, gs_iv m)]) dd_X9_isTurns_59 (.head _) (by decide) rfl ?_
          refine sA_goto (tgt := 39) dd_X9_isTurns_62 (by decide) ?_
          have b79 : (0 : Int) ≤ F65 106 15 ∧ F65 106 15 ≤ 3700 := I70.1 106 15
          have b80 : (1 : Int) ≤ F65 106 0 ∧ F65 106 0 ≤ 3 := I70.1 106 0
          have b81 : (0 : Int) ≤ F65 106 13 ∧ F65 106 13 ≤ 400 := I70.1 106 13
          refine sA_sub (lv2 := [(5, gs_iv (k + 1)), (4, gs_iv n), (3, gs_iv x), (0, .ref 106), (1, gs_iv m)]) (List.forall_mem_cons.mpr ⟨(.head _), (List.forall_mem_cons.mpr ⟨(.tail _ (.head _)), (List.forall_mem_cons.mpr ⟨(.tail _ (.tail _ (.head _))), (List.forall_mem_cons.mpr ⟨(.tail _ (.tail _ (.tail _ (.head _)))), (List.forall_mem_cons.mpr ⟨(.tail _ (.tail _ (.tail _ (.tail _ (.head _))))), (fun _ h => absurd h List.not_mem_nil)⟩)⟩)⟩)⟩)⟩) ?_
          exact ih.2.1 x n (k + 1) F65 A66 I70 f75 (by omega) (by omega) (by omega) (by omega) (by omega) i5 (by rw [show (k + 1).toNat = k.toNat + 1 by omega]; show _ = sp_all _ (sp_rep (sp_rim (F 106 0) m) k.toNat ++ sp_rim (F 106 0) m); rw [sp_all_app, ← i6]; refine y78.2.2.trans ?_; rw [show F1 106 0 = F 106 0 by omega, sp_rim_sg (m := m) (by omega)]) (by omega)
    · skip
      intro x n k F1 A1 hI1 hf1 i0 i1 i2 i3 i4 i5 i6 hm
      have b82 : (0 : Int) ≤ F1 106 15 ∧ F1 106 15 ≤ 3700 := hI1.1 106 15
      have b83 : (1 : Int) ≤ F1 106 0 ∧ F1 106 0 ≤ 3 := hI1.1 106 0
      have b84 : (0 : Int) ≤ F1 106 13 ∧ F1 106 13 ≤ 400 := hI1.1 106 13
      have u85 : A1 114 = A1 114 := rfl
      have u86 : A1 115 = A1 115 := rfl
      refine sA_iload dd_X9_isTurns_75 (.head _) ?_
      refine sA_iload dd_X9_isTurns_77 (.tail _ (.head _)) ?_
      refine sA_icmp_ge (tgt := 101) dd_X9_isTurns_79 (by decide) (by omega) (by omega) (fun q87 => ?_) (fun q87 => ?_)
      · skip
        refine sA_aload_n dd_X9_isTurns_101 rfl (.tail _ (.tail _ (.tail _ (.head _)))) ?_
        refine sA_aload_n dd_X9_isTurns_102 rfl (.tail _ (.tail _ (.tail _ (.head _)))) ?_
        refine sA_geti (ci := 9) (j := 15) (q := (RX9, TX9, 28)) dd_X9_isTurns_103 rfl (by decide) fl_X9_157 (by decide) gs_s106 rfl ?_
        refine sA_put (ci := 9) (j := 13) (q := (RX9, TX9, 28)) (ty := .int) dd_X9_isTurns_106 rfl (by decide) fl_X9_167 rfl (tyX9_ok 13 (by decide)) rfl rfl (by decide) gs_s106 rfl ?_
        have I89 : gs_I (gs_up F1 106 13 (F1 106 15)) A1 := gs_I_put hI1 (show (0 : Int) ≤ F1 106 15 ∧ F1 106 15 ≤ 400 by omega)
        have f90 := gs_fr_put hf1 (a := 106) (z := F1 106 15) (j := 13) (by first | omega | (dsimp only; omega) | (dsimp only) | fail)
        have v91 : gs_up F1 106 13 (F1 106 15) 106 13 = F1 106 15 := gs_up_self _ _ _ _
        have v92 : (gs_up F1 106 13 (F1 106 15)) 106 15 = F1 106 15 := gs_up_ne _ _ (by omega)
        have v93 : (gs_up F1 106 13 (F1 106 15)) 106 0 = F1 106 0 := gs_up_ne _ _ (by omega)
        generalize gs_up F1 106 13 (F1 106 15) = F88 at I89 f90 v91 v92 v93 ⊢
        refine sA_iconst (z := 0) dd_X9_isTurns_109 ?_
        refine sA_istore (lv' := [(5, gs_iv 0), (4, gs_iv n), (3, gs_iv x), (0, .ref 106), (1, gs_iv m)]) dd_X9_isTurns_110 (by decide) rfl ?_
        have b94 : (0 : Int) ≤ F88 106 15 ∧ F88 106 15 ≤ 3700 := I89.1 106 15
        have b95 : (1 : Int) ≤ F88 106 0 ∧ F88 106 0 ≤ 3 := I89.1 106 0
        have b96 : (0 : Int) ≤ F88 106 13 ∧ F88 106 13 ≤ 400 := I89.1 106 13
        refine sA_sub (lv2 := [(5, gs_iv 0), (3, gs_iv x), (0, .ref 106), (1, gs_iv m)]) (List.forall_mem_cons.mpr ⟨(.head _), (List.forall_mem_cons.mpr ⟨(.tail _ (.tail _ (.head _))), (List.forall_mem_cons.mpr ⟨(.tail _ (.tail _ (.tail _ (.head _)))), (List.forall_mem_cons.mpr ⟨(.tail _ (.tail _ (.tail _ (.tail _ (.head _))))), (fun _ h => absurd h List.not_mem_nil)⟩)⟩)⟩)⟩) ?_
        exact ih.2.2.2 x 0 F88 A1 I89 f90 (by omega) (by omega) (by omega) (by omega) i5 (by rw [show F88 106 15 = F1 106 15 by omega, i6]; unfold sp_rr; rw [show m.natAbs = n.toNat by omega, show k = n by omega]) (by omega) (fun j h1 h2 => by exfalso; omega) (by omega)
      · skip
        refine sA_aload_n dd_X9_isTurns_82 rfl (.tail _ (.tail _ (.tail _ (.head _)))) ?_
        refine sA_iload_n dd_X9_isTurns_83 rfl (.tail _ (.tail _ (.tail _ (.tail _ (.head _))))) ?_
        refine sA_if_le (tgt := 91) dd_X9_isTurns_84 (by decide) (by omega) (fun q97 => ?_) (fun q97 => ?_)
        · skip
          refine sA_iconst (z := 0) dd_X9_isTurns_91 ?_
          refine sA_callV (y2 := m_X9_putRim) (n2 := 1) (d2 := 2) (a := 106) (ci := 9) (q := (RX9, TX9, 28)) (as := [gs_iv 0]) (rest := []) dd_X9_isTurns_92 ok_X9_putRim ml_X9_248 rfl rfl (by decide) gs_s106 rfl rfl (Nat.le_of_ble_eq_true rfl) (by decide) (c_X9_putRim_vf hI1 (by omega) (by omega)) (fun r98 F99 A100 h101 => ?_)
          obtain ⟨e103, I104, f105, x102⟩ := h101
          subst e103
          have v107 : F99 106 0 = F1 106 0 := f105.1 106 0 (by first | exact id | omega | (dsimp only; omega) | (dsimp only) | fail)
          have v108 : F99 106 13 = F1 106 13 := f105.1 106 13 (by first | exact id | omega | (dsimp only; omega) | (dsimp only) | fail)
          have f109 := gs_fr_tr hf1 f105 (fun b j h => by first | exact False.elim h | omega | (dsimp only at h ⊢; omega) | fail) (fun b h => by first | exact False.elim h | omega | (dsimp only at h ⊢; omega) | fail)
          have u110 : A100 114 = A1 114 := (f105.2 114 (by first | exact id | omega | (dsimp only; omega) | (dsimp only) | fail)).trans u85
          have u111 : A100 115 = A100 115 := rfl
          have y112 : F99 106 15 ≤ F1 106 15 + 12 ∧ 0 ≤ F99 106 15 ∧ gs_stk (A100 115) (F99 106 15).toNat = sp_all (gs_stk (A1 115) (F1 106 15).toNat) (sp_rim (F1 106 0) (1 - 2 * (0 : Int))) := x102
          clear x102
          show sA _ _ _ 95 _ [] _ _
          refine sA_iinc (lv' := [(5, gs_iv (k + 1)), (4, gs_iv n), (3, gs_iv x), (0, .ref 106), (1, gs_iv m)]) dd_X9_isTurns_95 (.head _) (by decide) rfl ?_
          refine sA_goto (tgt := 75) dd_X9_isTurns_98 (by decide) ?_
          have b113 : (0 : Int) ≤ F99 106 15 ∧ F99 106 15 ≤ 3700 := I104.1 106 15
          have b114 : (1 : Int) ≤ F99 106 0 ∧ F99 106 0 ≤ 3 := I104.1 106 0
          have b115 : (0 : Int) ≤ F99 106 13 ∧ F99 106 13 ≤ 400 := I104.1 106 13
          refine sA_sub (lv2 := [(5, gs_iv (k + 1)), (4, gs_iv n), (3, gs_iv x), (0, .ref 106), (1, gs_iv m)]) (List.forall_mem_cons.mpr ⟨(.head _), (List.forall_mem_cons.mpr ⟨(.tail _ (.head _)), (List.forall_mem_cons.mpr ⟨(.tail _ (.tail _ (.head _))), (List.forall_mem_cons.mpr ⟨(.tail _ (.tail _ (.tail _ (.head _)))), (List.forall_mem_cons.mpr ⟨(.tail _ (.tail _ (.tail _ (.tail _ (.head _))))), (fun _ h => absurd h List.not_mem_nil)⟩)⟩)⟩)⟩)⟩) ?_
          exact ih.2.2.1 x n (k + 1) F99 A100 I104 f109 (by omega) (by omega) (by omega) (by omega) (by omega) i5 (by rw [show (k + 1).toNat = k.toNat + 1 by omega]; show _ = sp_all _ (sp_rep (sp_rim (F 106 0) (-m)) k.toNat ++ sp_rim (F 106 0) (-m)); rw [sp_all_app, ← i6]; refine y112.2.2.trans ?_; rw [show F1 106 0 = F 106 0 by omega, sp_rim_sg (m := (-m)) (by omega)]) (by omega)
        · skip
          refine sA_iconst (z := 1) dd_X9_isTurns_87 ?_
          refine sA_goto (tgt := 92) dd_X9_isTurns_88 (by decide) ?_
          refine sA_callV (y2 := m_X9_putRim) (n2 := 1) (d2 := 2) (a := 106) (ci := 9) (q := (RX9, TX9, 28)) (as := [gs_iv 1]) (rest := []) dd_X9_isTurns_92 ok_X9_putRim ml_X9_248 rfl rfl (by decide) gs_s106 rfl rfl (Nat.le_of_ble_eq_true rfl) (by decide) (c_X9_putRim_vf hI1 (by omega) (by omega)) (fun r116 F117 A118 h119 => ?_)
          obtain ⟨e121, I122, f123, x120⟩ := h119
          subst e121
          have v125 : F117 106 0 = F1 106 0 := f123.1 106 0 (by first | exact id | omega | (dsimp only; omega) | (dsimp only) | fail)
          have v126 : F117 106 13 = F1 106 13 := f123.1 106 13 (by first | exact id | omega | (dsimp only; omega) | (dsimp only) | fail)
          have f127 := gs_fr_tr hf1 f123 (fun b j h => by first | exact False.elim h | omega | (dsimp only at h ⊢; omega) | fail) (fun b h => by first | exact False.elim h | omega | (dsimp only at h ⊢; omega) | fail)
          have u128 : A118 114 = A1 114 := (f123.2 114 (by first | exact id | omega | (dsimp only; omega) | (dsimp only) | fail)).trans u85
          have u129 : A118 115 = A118 115 := rfl
          have y130 : F117 106 15 ≤ F1 106 15 + 12 ∧ 0 ≤ F117 106 15 ∧ gs_stk (A118 115) (F117 106 15).toNat = sp_all (gs_stk (A1 115) (F1 106 15).toNat) (sp_rim (F1 106 0) (1 - 2 * (1 : Int))) := x120
          clear x120
          show sA _ _ _ 95 _ [] _ _
          refine sA_iinc (lv' := [(5, gs_iv (k + 1)), (4, gs_iv n), (3, gs_iv x), (0, .ref 106), (1, gs_iv m)]) dd_X9_isTurns_95 (.head _) (by decide) rfl ?_
          refine sA_goto (tgt := 75) dd_X9_isTurns_98 (by decide) ?_
          have b131 : (0 : Int) ≤ F117 106 15 ∧ F117 106 15 ≤ 3700 := I122.1 106 15
          have b132 : (1 : Int) ≤ F117 106 0 ∧ F117 106 0 ≤ 3 := I122.1 106 0
          have b133 : (0 : Int) ≤ F117 106 13 ∧ F117 106 13 ≤ 400 := I122.1 106 13
          refine sA_sub (lv2 := [(5, gs_iv (k + 1)), (4, gs_iv n), (3, gs_iv x), (0, .ref 106), (1, gs_iv m)]) (List.forall_mem_cons.mpr ⟨(.head _), (List.forall_mem_cons.mpr ⟨(.tail _ (.head _)), (List.forall_mem_cons.mpr ⟨(.tail _ (.tail _ (.head _))), (List.forall_mem_cons.mpr ⟨(.tail _ (.tail _ (.tail _ (.head _)))), (List.forall_mem_cons.mpr ⟨(.tail _ (.tail _ (.tail _ (.tail _ (.head _))))), (fun _ h => absurd h List.not_mem_nil)⟩)⟩)⟩)⟩)⟩) ?_
          exact ih.2.2.1 x n (k + 1) F117 A118 I122 f127 (by omega) (by omega) (by omega) (by omega) (by omega) i5 (by rw [show (k + 1).toNat = k.toNat + 1 by omega]; show _ = sp_all _ (sp_rep (sp_rim (F 106 0) (-m)) k.toNat ++ sp_rim (F 106 0) (-m)); rw [sp_all_app, ← i6]; refine y130.2.2.trans ?_; rw [show F1 106 0 = F 106 0 by omega, sp_rim_sg (m := (-m)) (by omega)]) (by omega)
    · skip
      intro x k F1 A1 hI1 hf1 i0 i1 i2 i3 i4 i5 i6 i7 hm
      have b134 : (0 : Int) ≤ F1 106 15 ∧ F1 106 15 ≤ 3700 := hI1.1 106 15
      have b135 : (1 : Int) ≤ F1 106 0 ∧ F1 106 0 ≤ 3 := hI1.1 106 0
      have b136 : (0 : Int) ≤ F1 106 13 ∧ F1 106 13 ≤ 400 := hI1.1 106 13
      have u137 : A1 114 = A1 114 := rfl
      have u138 : A1 115 = A1 115 := rfl
      refine sA_iload dd_X9_isTurns_112 (.head _) ?_
      refine sA_aload_n dd_X9_isTurns_114 rfl (.tail _ (.tail _ (.head _))) ?_
      refine sA_geti (ci := 9) (j := 15) (q := (RX9, TX9, 28)) dd_X9_isTurns_115 rfl (by decide) fl_X9_157 (by decide) gs_s106 rfl ?_
      refine sA_icmp_ge (tgt := 141) dd_X9_isTurns_118 (by decide) (by omega) (by omega) (fun q139 => ?_) (fun q139 => ?_)
      · skip
        refine sA_aload_n dd_X9_isTurns_141 rfl (.tail _ (.tail _ (.head _))) ?_
        refine sA_iload_n dd_X9_isTurns_142 rfl (.tail _ (.head _)) ?_
        have him : ∀ ii : Nat, gs_im A1 ii = gs_im A ii := fun ii => gs_im_cg (hf1.2 119 (by dsimp only; omega)) (hf1.2 120 (by dsimp only; omega)) ii
        have hrr : gs_stk (A1 114) (F1 106 13).toNat = sp_rr (F 106 0) m (x + 1) := by
          rw [← i5, show F1 106 13 = F1 106 15 by omega]
          refine gs_stk_cg _ (fun i hi => ?_)
          have w := i7 i (by omega) (by omega)
          rw [Int.toNat_natCast] at w
          exact w
        have hw_at : gs_tm F A m → sp_rr (F 106 0) m (x + 1) = gs_im A x.toNat := fun w => by
          have w2 := w x.toNat (by omega)
          rw [show ((x.toNat : Nat) : Int) + 1 = x + 1 by omega] at w2
          exact w2
        refine sA_callV (y2 := m_X9_isImage) (n2 := 1) (d2 := 1) (a := 106) (ci := 9) (q := (RX9, TX9, 28)) (as := [gs_iv x]) (rest := []) dd_X9_isTurns_143 ok_X9_isImage ml_X9_245 rfl rfl (by decide) gs_s106 rfl rfl (Nat.le_of_ble_eq_true rfl) (by decide) (c_X9_isImage_vf hI1 (by omega)) (fun r140 F141 A142 h143 => ?_)
        obtain ⟨z146, e145, e147, e148, x144⟩ := h143
        subst e145 e147 e148
        have y149 : (z146 = 1 ∧ (gs_stk (A1 114) (F1 106 13).toNat = gs_im A1 x.toNat)) ∨ (z146 = 0 ∧ ¬ (gs_stk (A1 114) (F1 106 13).toNat = gs_im A1 x.toNat)) := x144
        clear x144
        show sA _ _ _ 146 _ [gs_iv z146] _ _
        refine sA_istore_n (lv' := [(2, gs_iv z146), (5, gs_iv k), (3, gs_iv x), (0, .ref 106), (1, gs_iv m)]) dd_X9_isTurns_146 rfl (by decide) rfl ?_
        refine sA_iinc (lv' := [(3, gs_iv (x + 1)), (2, gs_iv z146), (5, gs_iv k), (0, .ref 106), (1, gs_iv m)]) dd_X9_isTurns_147 (.tail _ (.tail _ (.head _))) (by decide) rfl ?_
        refine sA_goto (tgt := 4) dd_X9_isTurns_150 (by decide) ?_
        refine sA_sub (lv2 := [(3, gs_iv (x + 1)), (2, gs_iv z146), (0, .ref 106), (1, gs_iv m)]) (List.forall_mem_cons.mpr ⟨(.head _), (List.forall_mem_cons.mpr ⟨(.tail _ (.head _)), (List.forall_mem_cons.mpr ⟨(.tail _ (.tail _ (.tail _ (.head _)))), (List.forall_mem_cons.mpr ⟨(.tail _ (.tail _ (.tail _ (.tail _ (.head _))))), (fun _ h => absurd h List.not_mem_nil)⟩)⟩)⟩)⟩) ?_
        exact ih.1 z146 (x + 1) F1 A1 hI1 hf1 (by omega) (by omega) (by omega) (fun h0 ii hi => by by_cases h : (ii : Int) < x <;> first | exact i4 ii h | (rcases y149 with y | y <;> first | (exfalso; omega) | (rw [show (ii : Int) + 1 = x + 1 by omega, show ii = x.toNat by omega]; exact hrr.symm.trans (y.2.trans (him x.toNat))) | fail) | fail) (fun h0 w => by rcases y149 with y | y <;> first | (exfalso; omega) | exact y.2 (hrr.trans ((hw_at w).trans (him x.toNat).symm)) | fail) (by omega)
      · skip
        refine sA_aload_n dd_X9_isTurns_121 rfl (.tail _ (.tail _ (.head _))) ?_
        refine sA_getr (ci := 9) (j := 12) (q := (RX9, TX9, 28)) dd_X9_isTurns_122 rfl (by decide) fl_X9_31 (by decide) gs_s106 rfl ?_
        refine sA_iload dd_X9_isTurns_125 (.head _) ?_
        refine sA_aload_n dd_X9_isTurns_127 rfl (.tail _ (.tail _ (.head _))) ?_
        refine sA_getr (ci := 9) (j := 14) (q := (RX9, TX9, 28)) dd_X9_isTurns_128 rfl (by decide) fl_X9_34 (by decide) gs_s106 rfl ?_
        refine sA_iload dd_X9_isTurns_131 (.head _) ?_
        refine sA_iald (n := 3700) dd_X9_isTurns_133 (by decide) gs_s115 (by omega) (by decide) ?_
        have b150 : (-9 : Int) ≤ A1 115 k.toNat ∧ A1 115 k.toNat ≤ 9 := hI1.2 115 k.toNat
        refine sA_iast (n := 401) dd_X9_isTurns_134 (by decide) gs_s114 (by omega) (by decide) ?_
        have I152 : gs_I F1 (gs_up A1 114 k.toNat (A1 115 k.toNat)) := gs_I_ast hI1 (show (-9 : Int) ≤ A1 115 k.toNat ∧ A1 115 k.toNat ≤ 9 by omega)
        have f153 := gs_fr_ast hf1 (a := 114) (z := A1 115 k.toNat) (i := k.toNat) (by first | omega | (dsimp only; omega) | (dsimp only) | fail)
        have u154 : (gs_up A1 114 k.toNat (A1 115 k.toNat)) 114 = gs_u (A1 114) k.toNat (A1 115 k.toNat) := (gs_up_u A1 114 k.toNat (A1 115 k.toNat)).trans (congrArg (fun f => gs_u f k.toNat (A1 115 k.toNat)) u137)
        have u155 : (gs_up A1 114 k.toNat (A1 115 k.toNat)) 115 = A1 115 := (gs_up_row _ _ (by omega)).trans u138
        generalize gs_up A1 114 k.toNat (A1 115 k.toNat) = A151 at I152 f153 u154 u155 ⊢
        refine sA_iinc (lv' := [(5, gs_iv (k + 1)), (3, gs_iv x), (0, .ref 106), (1, gs_iv m)]) dd_X9_isTurns_135 (.head _) (by decide) rfl ?_
        refine sA_goto (tgt := 112) dd_X9_isTurns_138 (by decide) ?_
        refine sA_sub (lv2 := [(5, gs_iv (k + 1)), (3, gs_iv x), (0, .ref 106), (1, gs_iv m)]) (List.forall_mem_cons.mpr ⟨(.head _), (List.forall_mem_cons.mpr ⟨(.tail _ (.head _)), (List.forall_mem_cons.mpr ⟨(.tail _ (.tail _ (.head _))), (List.forall_mem_cons.mpr ⟨(.tail _ (.tail _ (.tail _ (.head _)))), (fun _ h => absurd h List.not_mem_nil)⟩)⟩)⟩)⟩) ?_
        exact ih.2.2.2 x (k + 1) F1 A151 I152 f153 (by omega) (by omega) (by omega) (by omega) i4 (by rw [u155]; exact i5) (by omega) (by rw [u155]; exact gs_u_ext (h := fun j => A1 115 j.toNat) (by omega) u154 rfl i7) (by omega)
theorem c_X9_isTurns_vf {m : Int} {F A : gs_F} (hI : gs_I F A) (hm0 : -5 ≤ m ∧ m ≤ 5) : sC m_X9_isTurns 3 [.ref 106, gs_iv m] F A (fun rv F' A' => ∃ z : Int, rv = some (gs_iv z) ∧ gs_I F' A' ∧ gs_fr (fun c j => c = 106 ∧ (j = 13 ∨ j = 15)) (fun c => c = 114 ∨ c = 115) F A F' A' ∧ ((z = 1 ∧ gs_tm F A m) ∨ (z = 0 ∧ ¬ gs_tm F A m))) := by
  refine sC_of ok_X9_isTurns.1 (Nat.le_of_ble_eq_true rfl) ?_
  show sA _ _ _ 0 [(0, .ref 106), (1, gs_iv m)] [] F A
  have hf : gs_fr (fun c j => c = 106 ∧ (j = 13 ∨ j = 15)) (fun c => c = 114 ∨ c = 115) F A F A := gs_fr_refl _ _ _ _
  have b156 : (0 : Int) ≤ F 106 15 ∧ F 106 15 ≤ 3700 := hI.1 106 15
  have b157 : (1 : Int) ≤ F 106 0 ∧ F 106 0 ≤ 3 := hI.1 106 0
  have b158 : (0 : Int) ≤ F 106 13 ∧ F 106 13 ≤ 400 := hI.1 106 13
  have u159 : A 114 = A 114 := rfl
  have u160 : A 115 = A 115 := rfl
  have hb0 : (1 : Int) ≤ F 106 0 ∧ F 106 0 ≤ 3 := hI.1 106 0
  refine sA_iconst (z := 1) dd_X9_isTurns_0 ?_
  refine sA_istore_n (lv' := [(2, gs_iv 1), (0, .ref 106), (1, gs_iv m)]) dd_X9_isTurns_1 rfl (by decide) rfl ?_
  refine sA_iconst (z := 0) dd_X9_isTurns_2 ?_
  refine sA_istore_n (lv' := [(3, gs_iv 0), (2, gs_iv 1), (0, .ref 106), (1, gs_iv m)]) dd_X9_isTurns_3 rfl (by decide) rfl ?_
  refine sA_sub (lv2 := [(3, gs_iv 0), (2, gs_iv 1), (0, .ref 106), (1, gs_iv m)]) (List.forall_mem_cons.mpr ⟨(.head _), (List.forall_mem_cons.mpr ⟨(.tail _ (.head _)), (List.forall_mem_cons.mpr ⟨(.tail _ (.tail _ (.head _))), (List.forall_mem_cons.mpr ⟨(.tail _ (.tail _ (.tail _ (.head _)))), (fun _ h => absurd h List.not_mem_nil)⟩)⟩)⟩)⟩) ?_
  exact (k_X9_isTurns_vf hI hm0 ((6 - 0) * 1000 + 1 : Int).toNat.succ).1 1 0 F A hI hf (by omega) (by omega) (by omega) (fun h0 ii hi => by exfalso; omega) (fun h0 => by exfalso; omega) (by omega)
theorem k_X9_findTurns_vf  {F A : gs_F} (hI : gs_I F A)  : ∀ nN : Nat, (∀ (m : Int)  (F1 A1 : gs_F), gs_I F1 A1 → gs_fr (fun c j => c = 106 ∧ (j = 13 ∨ j = 15)) (fun c => c = 114 ∨ c = 115) F A F1 A1 → 0 ≤ m ∧ m ≤ 6 → (∀ j : Int, 0 ≤ j → j < m → ¬ gs_tm F A j ∧ ¬ gs_tm F A (-j)) → 6 - m < (nN : Int) → sA m_X9_findTurns 4 (fun rv F' A' => ∃ z : Int, rv = some (gs_iv z) ∧ gs_I F' A' ∧ gs_fr (fun c j => c = 106 ∧ (j = 13 ∨ j = 15)) (fun c => c = 114 ∨ c = 115) F A F' A' ∧ ((-100 ≤ z ∧ z ≤ 100) ∧ gs_ft (fun j => gs_tm F A j) z)) 2 [(1, gs_iv m), (0, .ref 106)] [] F1 A1) := by
  intro nN
  induction nN with
  | zero =>
    exact fun a0 a1 a2 a3 a4 i0 i1 hm => by exfalso; omega
  | succ nN ih =>
    intro m F1 A1 hI1 hf1 i0 i1 hm
    refine sA_iload_n dd_X9_findTurns_2 rfl (.head _) ?_
    refine sA_bipush (z := 6) dd_X9_findTurns_3 (by decide) ?_
    refine sA_icmp_ge (tgt := 38) dd_X9_findTurns_5 (by decide) (by omega) (by omega) (fun q1 => ?_) (fun q1 => ?_)
    · skip
      refine sA_bipush (z := 99) dd_X9_findTurns_38 (by decide) ?_
      refine sA_iret (z := 99) dd_X9_findTurns_40 rfl ?_
      refine ⟨_, rfl, hI1, hf1, ?_⟩
      exact ⟨by omega, .inr ⟨fun j h1 h2 => i1 j h1 (by omega), rfl⟩⟩
    · skip
      refine sA_aload_n dd_X9_findTurns_8 rfl (.tail _ (.head _)) ?_
      refine sA_iload_n dd_X9_findTurns_9 rfl (.head _) ?_
      have him10 : ∀ ii : Nat, gs_im A1 ii = gs_im A ii := fun ii => gs_im_cg (hf1.2 119 (by dsimp only; omega)) (hf1.2 120 (by dsimp only; omega)) ii
      have ht10 : gs_tm F1 A1 m ↔ gs_tm F A m := gs_tm_fr (hf1.1 106 0 (by dsimp only; omega)) him10
      refine sA_callV (y2 := m_X9_isTurns) (n2 := 1) (d2 := 3) (a := 106) (ci := 9) (q := (RX9, TX9, 28)) (as := [gs_iv m]) (rest := []) dd_X9_findTurns_10 ok_X9_isTurns ml_X9_252 rfl rfl (by decide) gs_s106 rfl rfl (Nat.le_of_ble_eq_true rfl) (by decide) (c_X9_isTurns_vf hI1 (by omega)) (fun r2 F3 A4 h5 => ?_)
      obtain ⟨z8, e7, I9, f10, x6⟩ := h5
      subst e7
      have f11 := gs_fr_tr hf1 f10 (fun b j h => by first | exact False.elim h | omega | (dsimp only at h ⊢; omega) | fail) (fun b h => by first | exact False.elim h | omega | (dsimp only at h ⊢; omega) | fail)
      have y12 : (z8 = 1 ∧ gs_tm F1 A1 m) ∨ (z8 = 0 ∧ ¬ gs_tm F1 A1 m) := x6
      clear x6
      show sA _ _ _ 13 _ [gs_iv z8] _ _
      refine sA_if_eq (tgt := 18) dd_X9_findTurns_13 (by decide) (by omega) (fun q13 => ?_) (fun q13 => ?_)
      · skip
        have hno1 : ¬ gs_tm F A m := fun w => by
          rcases y12 with y | y
          · omega
          · exact y.2 (ht10.mpr w)
        refine sA_aload_n dd_X9_findTurns_18 rfl (.tail _ (.head _)) ?_
        refine sA_iconst (z := 0) dd_X9_findTurns_19 ?_
        refine sA_iload_n dd_X9_findTurns_20 rfl (.head _) ?_
        refine sA_isub dd_X9_findTurns_21 ?_
        have him22 : ∀ ii : Nat, gs_im A4 ii = gs_im A ii := fun ii => gs_im_cg (f11.2 119 (by dsimp only; omega)) (f11.2 120 (by dsimp only; omega)) ii
        have ht22 : gs_tm F3 A4 (0 - m) ↔ gs_tm F A (0 - m) := gs_tm_fr (f11.1 106 0 (by dsimp only; omega)) him22
        refine sA_callV (y2 := m_X9_isTurns) (n2 := 1) (d2 := 3) (a := 106) (ci := 9) (q := (RX9, TX9, 28)) (as := [gs_iv (0 - m)]) (rest := []) dd_X9_findTurns_22 ok_X9_isTurns ml_X9_252 rfl rfl (by decide) gs_s106 rfl rfl (Nat.le_of_ble_eq_true rfl) (by decide) (c_X9_isTurns_vf I9 (by omega)) (fun r14 F15 A16 h17 => ?_)
        obtain ⟨z20, e19, I21, f22, x18⟩ := h17
        subst e19
        have f23 := gs_fr_tr f11 f22 (fun b j h => by first | exact False.elim h | omega | (dsimp only at h ⊢; omega) | fail) (fun b h => by first | exact False.elim h | omega | (dsimp only at h ⊢; omega) | fail)
        have y24 : (z20 = 1 ∧ gs_tm F3 A4 (0 - m)) ∨ (z20 = 0 ∧ ¬ gs_tm F3 A4 (0 - m)) := x18
        clear x18
        show sA _ _ _ 25 _ [gs_iv z20] _ _
        refine sA_if_eq (tgt := 32) dd_X9_findTurns_25 (by decide) (by omega) (fun q25 => ?_) (fun q25 => ?_)
        · skip
          have hno2 : ¬ gs_tm F A (0 - m) := fun w => by
            rcases y24 with y | y
            · omega
            · exact y.2 (ht22.mpr w)
          refine sA_iinc (lv' := [(1, gs_iv (m + 1)), (0, .ref 106)]) dd_X9_findTurns_32 (.head _) (by decide) rfl ?_
          refine sA_goto (tgt := 2) dd_X9_findTurns_35 (by decide) ?_
          refine sA_sub (lv2 := [(1, gs_iv (m + 1)), (0, .ref 106)]) (List.forall_mem_cons.mpr ⟨(.head _), (List.forall_mem_cons.mpr ⟨(.tail _ (.head _)), (fun _ h => absurd h List.not_mem_nil)⟩)⟩) ?_
          exact ih (m + 1) F15 A16 I21 f23 (by omega) (gs_no_ext (T := fun j => gs_tm F A j) i1 hno1 (by rw [show -m = 0 - m by omega]; exact hno2)) (by omega)
        · skip
          refine sA_iconst (z := 0) dd_X9_findTurns_28 ?_
          refine sA_iload_n dd_X9_findTurns_29 rfl (.head _) ?_
          refine sA_isub dd_X9_findTurns_30 ?_
          refine sA_iret (z := 0 - m) dd_X9_findTurns_31 rfl ?_
          refine ⟨_, rfl, I21, f23, ?_⟩
          refine ⟨by omega, ?_⟩
          rcases y24 with y | y
          · refine .inl ⟨m, by omega, by omega, i1, .inr ⟨hno1, ?_, by omega⟩⟩
            have y2 := ht22.mp y.2
            rw [show 0 - m = -m by omega] at y2
            exact y2
          · exfalso
            omega
      · skip
        refine sA_iload_n dd_X9_findTurns_16 rfl (.head _) ?_
        refine sA_iret (z := m) dd_X9_findTurns_17 rfl ?_
        refine ⟨_, rfl, I9, f11, ?_⟩
        refine ⟨by omega, ?_⟩
        rcases y12 with y | y
        · exact .inl ⟨m, by omega, by omega, i1, .inl ⟨ht10.mp y.2, rfl⟩⟩
        · exfalso
          omega
theorem c_X9_findTurns_vf  {F A : gs_F} (hI : gs_I F A)  : sC m_X9_findTurns 4 [.ref 106] F A (fun rv F' A' => ∃ z : Int, rv = some (gs_iv z) ∧ gs_I F' A' ∧ gs_fr (fun c j => c = 106 ∧ (j = 13 ∨ j = 15)) (fun c => c = 114 ∨ c = 115) F A F' A' ∧ ((-100 ≤ z ∧ z ≤ 100) ∧ gs_ft (fun j => gs_tm F A j) z)) := by
  refine sC_of ok_X9_findTurns.1 (Nat.le_of_ble_eq_true rfl) ?_
  show sA _ _ _ 0 [(0, .ref 106)] [] F A
  have hf : gs_fr (fun c j => c = 106 ∧ (j = 13 ∨ j = 15)) (fun c => c = 114 ∨ c = 115) F A F A := gs_fr_refl _ _ _ _
  refine sA_iconst (z := 0) dd_X9_findTurns_0 ?_
  refine sA_istore_n (lv' := [(1, gs_iv 0), (0, .ref 106)]) dd_X9_findTurns_1 rfl (by decide) rfl ?_
  refine sA_sub (lv2 := [(1, gs_iv 0), (0, .ref 106)]) (List.forall_mem_cons.mpr ⟨(.head _), (List.forall_mem_cons.mpr ⟨(.tail _ (.head _)), (fun _ h => absurd h List.not_mem_nil)⟩)⟩) ?_
  exact (k_X9_findTurns_vf hI (6 - 0 : Int).toNat.succ) 0 F A hI hf (by omega) (fun j h1 h2 => by exfalso; omega) (by omega)
theorem c_X9_turns_vf {p : Int} {F A : gs_F} (hI : gs_I F A) (hp : -2147483648 ≤ p ∧ p ≤ 2147483647) (hcd : 0 ≤ p → p ≤ 7 → ∀ i : Int, 0 ≤ i → i < A 110 p.toNat → 0 ≤ A 111 (60 * p + i).toNat ∧ A 111 (60 * p + i).toNat ≤ 15) : sC m_X9_turns 8 [.ref 106, gs_iv p] F A (fun rv F' A' => ∃ z : Int, rv = some (gs_iv z) ∧ gs_I F' A' ∧ gs_fr (fun c j => c = 106 ∧ (j = 13 ∨ j = 15)) (fun c => c = 114 ∨ c = 115 ∨ c = 119 ∨ c = 120) F A F' A' ∧ (((p < 0 ∨ 7 < p) ∧ z = -1001) ∨ (0 ≤ p ∧ p ≤ 7 ∧ gs_tv (gs_plm F A p) (F 106 0) z))) := by
  refine sC_of ok_X9_turns.1 (Nat.le_of_ble_eq_true rfl) ?_
  show sA _ _ _ 0 [(0, .ref 106), (1, gs_iv p)] [] F A
  have hf : gs_fr (fun c j => c = 106 ∧ (j = 13 ∨ j = 15)) (fun c => c = 114 ∨ c = 115 ∨ c = 119 ∨ c = 120) F A F A := gs_fr_refl _ _ _ _
  refine sA_aload_n dd_X9_turns_0 rfl (.head _) ?_
  refine sA_iload_n dd_X9_turns_1 rfl (.tail _ (.head _)) ?_
  refine sA_callV (y2 := m_X9_noPlan) (n2 := 1) (d2 := 2) (a := 106) (ci := 9) (q := (RX9, TX9, 28)) (as := [gs_iv p]) (rest := []) dd_X9_turns_2 ok_X9_noPlan ml_X9_218 rfl rfl (by decide) gs_s106 rfl rfl (Nat.le_of_ble_eq_true rfl) (by decide) (c_X9_noPlan hI (by omega)) (fun r1 F2 A3 h4 => ?_)
  obtain ⟨z7, e6, e8, e9, x5⟩ := h4
  subst e6 e8 e9
  show sA _ _ _ 5 _ [gs_iv z7] _ _
  refine sA_if_eq (tgt := 12) dd_X9_turns_5 (by decide) (by omega) (fun q10 => ?_) (fun q10 => ?_)
  · skip
    refine sA_aload_n dd_X9_turns_12 rfl (.head _) ?_
    refine sA_iload_n dd_X9_turns_13 rfl (.tail _ (.head _)) ?_
    have hcd1 := hcd (by omega) (by omega)
    refine sA_callV (y2 := m_X9_findImages) (n2 := 1) (d2 := 7) (a := 106) (ci := 9) (q := (RX9, TX9, 28)) (as := [gs_iv p]) (rest := []) dd_X9_turns_14 ok_X9_findImages ml_X9_242 rfl rfl (by decide) gs_s106 rfl rfl (Nat.le_of_ble_eq_true rfl) (by decide) (c_X9_findImages_vf hI (by omega) hcd1) (fun r11 F12 A13 h14 => ?_)
    obtain ⟨z17, e16, I18, f19, x15⟩ := h14
    subst e16
    have f20 := gs_fr_tr hf f19 (fun b j h => by first | exact False.elim h | omega | (dsimp only at h ⊢; omega) | fail) (fun b h => by first | exact False.elim h | omega | (dsimp only at h ⊢; omega) | fail)
    have y21 : (z17 = 1 ∧ ∀ ii : Nat, (ii : Int) < 2 * F 106 0 → gs_plm F A p [(ii : Int) + 1] = some (gs_im A13 ii)) ∨ (z17 = 0 ∧ ∃ ii : Nat, (ii : Int) < 2 * F 106 0 ∧ gs_plm F A p [(ii : Int) + 1] = none) := x15
    clear x15
    show sA _ _ _ 17 _ [gs_iv z17] _ _
    refine sA_if_eq (tgt := 27) dd_X9_turns_17 (by decide) (by omega) (fun q22 => ?_) (fun q22 => ?_)
    · skip
      refine sA_sipush (z := (-1005)) dd_X9_turns_27 (by decide) ?_
      refine sA_iret (z := -1005) dd_X9_turns_30 rfl ?_
      refine ⟨_, rfl, I18, f20, ?_⟩
      rcases y21 with y | y
      · exfalso
        omega
      · obtain ⟨y1, ii, hi, y2⟩ := y
        exact .inr ⟨by omega, by omega, .inl ⟨⟨ii, by omega, y2⟩, rfl⟩⟩
    · skip
      refine sA_aload_n dd_X9_turns_20 rfl (.head _) ?_
      have hg0 : F12 106 0 = F 106 0 := f20.1 106 0 (by dsimp only; omega)
      refine sA_callV (y2 := m_X9_findTurns) (n2 := 0) (d2 := 4) (a := 106) (ci := 9) (q := (RX9, TX9, 28)) (as := []) (rest := []) dd_X9_turns_21 ok_X9_findTurns ml_X9_255 rfl rfl (by decide) gs_s106 rfl rfl (Nat.le_of_ble_eq_true rfl) (by decide) (c_X9_findTurns_vf I18 ) (fun r23 F24 A25 h26 => ?_)
      obtain ⟨z29, e28, I30, f31, x27⟩ := h26
      subst e28
      have f32 := gs_fr_tr f20 f31 (fun b j h => by first | exact False.elim h | omega | (dsimp only at h ⊢; omega) | fail) (fun b h => by first | exact False.elim h | omega | (dsimp only at h ⊢; omega) | fail)
      have y33 : (-100 ≤ z29 ∧ z29 ≤ 100) ∧ gs_ft (fun j => gs_tm F12 A13 j) z29 := x27
      clear x27
      show sA _ _ _ 24 _ [gs_iv z29] _ _
      refine sA_goto (tgt := 30) dd_X9_turns_24 (by decide) ?_
      refine sA_iret (z := z29) dd_X9_turns_30 rfl ?_
      refine ⟨_, rfl, I30, f32, ?_⟩
      rcases y21 with y | y
      · have t := gs_tk_mk9 (F := F12) (A := A13) (P := gs_plm F A p) (k := 1) (fun ii hi => y.2 ii (by omega)) y33.2
        rw [hg0] at t
        exact .inr ⟨by omega, by omega, .inr t⟩
      · exfalso
        omega
  · skip
    refine sA_sipush (z := (-1001)) dd_X9_turns_8 (by decide) ?_
    refine sA_iret (z := -1001) dd_X9_turns_11 rfl ?_
    refine ⟨_, rfl, hI, hf, ?_⟩
    exact .inl ⟨by omega, rfl⟩
theorem k_X9_findOrder_vf {p n : Int} {F A : gs_F} (hI : gs_I F A) (hp : 0 ≤ p ∧ p ≤ 7) (hn : 1 ≤ n ∧ n ≤ 24) (hcd : ∀ i : Int, 0 ≤ i → i < A 110 p.toNat → 0 ≤ A 111 (60 * p + i).toNat ∧ A 111 (60 * p + i).toNat ≤ 15) : ∀ nN : Nat, (∀ (k : Int)  (F1 A1 : gs_F), gs_I F1 A1 → gs_fr (fun c j => c = 106 ∧ (j = 13 ∨ j = 15)) (fun c => c = 114 ∨ c = 115 ∨ c = 119 ∨ c = 120) F A F1 A1 → 1 ≤ k ∧ k ≤ n + 1 → (∀ ii : Nat, (ii : Int) < 2 * F 106 0 → gs_it (gs_plm F A p) (k - 1).toNat [(ii : Int) + 1] = some (gs_im A1 ii)) → (∀ j : Int, 1 ≤ j → j < k → gs_tk (gs_plm F A p) (F 106 0) j.toNat 99) → n + 1 - k < (nN : Int) → sA m_X9_findOrder 7 (fun rv F' A' => ∃ z : Int, rv = some (gs_iv z) ∧ gs_I F' A' ∧ gs_fr (fun c j => c = 106 ∧ (j = 13 ∨ j = 15)) (fun c => c = 114 ∨ c = 115 ∨ c = 119 ∨ c = 120) F A F' A' ∧ ((-1005 ≤ z ∧ z ≤ 24) ∧ gs_or (gs_plm F A p) (F 106 0) n z)) 6 [(3, gs_iv k), (0, .ref 106), (1, gs_iv p), (2, gs_iv n)] [] F1 A1) := by
  intro nN
  induction nN with
  | zero =>
    exact fun a0 a1 a2 a3 a4 i0 i1 i2 hm => by exfalso; omega
  | succ nN ih =>
    intro k F1 A1 hI1 hf1 i0 i1 i2 hm
    refine sA_iload_n dd_X9_findOrder_6 rfl (.head _) ?_
    refine sA_iload_n dd_X9_findOrder_7 rfl (.tail _ (.tail _ (.tail _ (.head _)))) ?_
    refine sA_icmp_gt (tgt := 40) dd_X9_findOrder_8 (by decide) (by omega) (by omega) (fun q1 => ?_) (fun q1 => ?_)
    · skip
      refine sA_iconst (z := (-1)) dd_X9_findOrder_40 ?_
      refine sA_iret (z := -1) dd_X9_findOrder_41 rfl ?_
      refine ⟨_, rfl, hI1, hf1, ?_⟩
      exact ⟨by omega, .inr ⟨fun j h1 h2 => i2 j h1 (by omega), rfl⟩⟩
    · skip
      refine sA_aload_n dd_X9_findOrder_11 rfl (.tail _ (.head _)) ?_
      refine sA_iload_n dd_X9_findOrder_12 rfl (.tail _ (.tail _ (.head _))) ?_
      have h110 : A1 110 = A 110 := hf1.2 110 (by dsimp only; omega)
      have h111 : A1 111 = A 111 := hf1.2 111 (by dsimp only; omega)
      have hg0 : F1 106 0 = F 106 0 := hf1.1 106 0 (by dsimp only; omega)
      have hcd1 : ∀ i : Int, 0 ≤ i → i < A1 110 p.toNat → 0 ≤ A1 111 (60 * p + i).toNat ∧ A1 111 (60 * p + i).toNat ≤ 15 := by rw [h110, h111]; exact hcd
      have hPe : ∀ r, gs_plm F1 A1 p r = gs_plm F A p r := fun r => by
        unfold gs_plm
        rw [h110, h111, hg0]
      refine sA_callV (y2 := m_X9_goOn) (n2 := 1) (d2 := 6) (a := 106) (ci := 9) (q := (RX9, TX9, 28)) (as := [gs_iv p]) (rest := []) dd_X9_findOrder_13 ok_X9_goOn ml_X9_239 rfl rfl (by decide) gs_s106 rfl rfl (Nat.le_of_ble_eq_true rfl) (by decide) (c_X9_goOn_vf hI1 (by omega) hcd1) (fun r2 F3 A4 h5 => ?_)
      obtain ⟨z8, e7, I9, f10, x6⟩ := h5
      subst e7
      have f11 := gs_fr_tr hf1 f10 (fun b j h => by first | exact False.elim h | omega | (dsimp only at h ⊢; omega) | fail) (fun b h => by first | exact False.elim h | omega | (dsimp only at h ⊢; omega) | fail)
      have y12 : (z8 = 1 ∧ ∀ ii : Nat, (ii : Int) < 2 * F1 106 0 → gs_plm F1 A1 p (gs_im A1 ii) = some (gs_im A4 ii)) ∨ (z8 = 0 ∧ ∃ ii : Nat, (ii : Int) < 2 * F1 106 0 ∧ gs_plm F1 A1 p (gs_im A1 ii) = none) := x6
      clear x6
      show sA _ _ _ 16 _ [gs_iv z8] _ _
      refine sA_if_ne (tgt := 23) dd_X9_findOrder_16 (by decide) (by omega) (fun q13 => ?_) (fun q13 => ?_)
      · skip
        refine sA_aload_n dd_X9_findOrder_23 rfl (.tail _ (.head _)) ?_
        have hst0 : ∀ ii : Nat, (ii : Int) < 2 * F 106 0 → gs_plm F A p (gs_im A1 ii) = some (gs_im A4 ii) := by
          rcases y12 with y | y
          · intro ii hi
            have w := y.2 ii (by omega)
            rw [hPe] at w
            exact w
          · exfalso
            omega
        have hst : ∀ ii : Nat, (ii : Int) < 2 * F 106 0 → gs_it (gs_plm F A p) k.toNat [(ii : Int) + 1] = some (gs_im A4 ii) := by
          rw [show k.toNat = (k - 1).toNat + 1 by omega]
          exact gs_it_step i1 hst0
        have hg24 : F3 106 0 = F 106 0 := f11.1 106 0 (by dsimp only; omega)
        have htk : ∀ z, gs_ft (fun j => gs_tm F3 A4 j) z → gs_tk (gs_plm F A p) (F 106 0) k.toNat z := fun z q => by
          have t := gs_tk_mk9 (F := F3) (A := A4) (P := gs_plm F A p) (k := k.toNat) (fun ii hi => hst ii (by omega)) q
          rw [hg24] at t
          exact t
        refine sA_callV (y2 := m_X9_findTurns) (n2 := 0) (d2 := 4) (a := 106) (ci := 9) (q := (RX9, TX9, 28)) (as := []) (rest := []) dd_X9_findOrder_24 ok_X9_findTurns ml_X9_255 rfl rfl (by decide) gs_s106 rfl rfl (Nat.le_of_ble_eq_true rfl) (by decide) (c_X9_findTurns_vf I9 ) (fun r14 F15 A16 h17 => ?_)
        obtain ⟨z20, e19, I21, f22, x18⟩ := h17
        subst e19
        have f23 := gs_fr_tr f11 f22 (fun b j h => by first | exact False.elim h | omega | (dsimp only at h ⊢; omega) | fail) (fun b h => by first | exact False.elim h | omega | (dsimp only at h ⊢; omega) | fail)
        have y24 : (-100 ≤ z20 ∧ z20 ≤ 100) ∧ gs_ft (fun j => gs_tm F3 A4 j) z20 := x18
        clear x18
        show sA _ _ _ 27 _ [gs_iv z20] _ _
        refine sA_bipush (z := 99) dd_X9_findOrder_27 (by decide) ?_
        refine sA_icmp_eq (tgt := 34) dd_X9_findOrder_29 (by decide) (by omega) (by omega) (fun q25 => ?_) (fun q25 => ?_)
        · skip
          have him24 : ∀ ii : Nat, gs_im A16 ii = gs_im A4 ii := fun ii => gs_im_cg (f22.2 119 (by dsimp only; omega)) (f22.2 120 (by dsimp only; omega)) ii
          refine sA_iinc (lv' := [(3, gs_iv (k + 1)), (0, .ref 106), (1, gs_iv p), (2, gs_iv n)]) dd_X9_findOrder_34 (.head _) (by decide) rfl ?_
          refine sA_goto (tgt := 6) dd_X9_findOrder_37 (by decide) ?_
          refine sA_sub (lv2 := [(3, gs_iv (k + 1)), (0, .ref 106), (1, gs_iv p), (2, gs_iv n)]) (List.forall_mem_cons.mpr ⟨(.head _), (List.forall_mem_cons.mpr ⟨(.tail _ (.head _)), (List.forall_mem_cons.mpr ⟨(.tail _ (.tail _ (.head _))), (List.forall_mem_cons.mpr ⟨(.tail _ (.tail _ (.tail _ (.head _)))), (fun _ h => absurd h List.not_mem_nil)⟩)⟩)⟩)⟩) ?_
          exact ih (k + 1) F15 A16 I21 f23 (by omega) (fun ii hi => by rw [show (k + 1 - 1).toNat = k.toNat by omega, him24 ii]; exact hst ii hi) (gs_tk_ext i2 (by have y := y24.2; rw [show z20 = 99 by omega] at y; exact htk 99 y)) (by omega)
        · skip
          refine sA_iload_n dd_X9_findOrder_32 rfl (.head _) ?_
          refine sA_iret (z := k) dd_X9_findOrder_33 rfl ?_
          refine ⟨_, rfl, I21, f23, ?_⟩
          refine ⟨by omega, .inl ⟨k, by omega, by omega, i2, .inr ⟨z20, by omega, htk _ y24.2, rfl⟩⟩⟩
      · skip
        refine sA_sipush (z := (-1005)) dd_X9_findOrder_19 (by decide) ?_
        refine sA_iret (z := -1005) dd_X9_findOrder_22 rfl ?_
        refine ⟨_, rfl, I9, f11, ?_⟩
        refine ⟨by omega, ?_⟩
        rcases y12 with y | y
        · exfalso
          omega
        · obtain ⟨y1, ii, hi, y2⟩ := y
          rw [hPe] at y2
          refine .inl ⟨k, by omega, by omega, i2, .inl ⟨?_, rfl⟩⟩
          rw [show k.toNat = (k - 1).toNat + 1 by omega]
          exact gs_big_mk i1 ⟨ii, by omega, y2⟩
theorem c_X9_findOrder_vf {p n : Int} {F A : gs_F} (hI : gs_I F A) (hp : 0 ≤ p ∧ p ≤ 7) (hn : 1 ≤ n ∧ n ≤ 24) (hcd : ∀ i : Int, 0 ≤ i → i < A 110 p.toNat → 0 ≤ A 111 (60 * p + i).toNat ∧ A 111 (60 * p + i).toNat ≤ 15) : sC m_X9_findOrder 7 [.ref 106, gs_iv p, gs_iv n] F A (fun rv F' A' => ∃ z : Int, rv = some (gs_iv z) ∧ gs_I F' A' ∧ gs_fr (fun c j => c = 106 ∧ (j = 13 ∨ j = 15)) (fun c => c = 114 ∨ c = 115 ∨ c = 119 ∨ c = 120) F A F' A' ∧ ((-1005 ≤ z ∧ z ≤ 24) ∧ gs_or (gs_plm F A p) (F 106 0) n z)) := by
  refine sC_of ok_X9_findOrder.1 (Nat.le_of_ble_eq_true rfl) ?_
  show sA _ _ _ 0 [(0, .ref 106), (1, gs_iv p), (2, gs_iv n)] [] F A
  have hf : gs_fr (fun c j => c = 106 ∧ (j = 13 ∨ j = 15)) (fun c => c = 114 ∨ c = 115 ∨ c = 119 ∨ c = 120) F A F A := gs_fr_refl _ _ _ _
  refine sA_aload_n dd_X9_findOrder_0 rfl (.head _) ?_
  refine sA_callV (y2 := m_X9_startImages) (n2 := 0) (d2 := 1) (a := 106) (ci := 9) (q := (RX9, TX9, 28)) (as := []) (rest := []) dd_X9_findOrder_1 ok_X9_startImages ml_X9_236 rfl rfl (by decide) gs_s106 rfl rfl (Nat.le_of_ble_eq_true rfl) (by decide) (c_X9_startImages_vf hI ) (fun r26 F27 A28 h29 => ?_)
  obtain ⟨e31, I32, f33, x30⟩ := h29
  subst e31
  have f34 := gs_fr_tr hf f33 (fun b j h => by first | exact False.elim h | omega | (dsimp only at h ⊢; omega) | fail) (fun b h => by first | exact False.elim h | omega | (dsimp only at h ⊢; omega) | fail)
  have y35 : ∀ ii : Nat, (ii : Int) < 2 * F 106 0 → gs_im A28 ii = [(ii : Int) + 1] := x30
  clear x30
  show sA _ _ _ 4 _ [] _ _
  refine sA_iconst (z := 1) dd_X9_findOrder_4 ?_
  refine sA_istore_n (lv' := [(3, gs_iv 1), (0, .ref 106), (1, gs_iv p), (2, gs_iv n)]) dd_X9_findOrder_5 rfl (by decide) rfl ?_
  refine sA_sub (lv2 := [(3, gs_iv 1), (0, .ref 106), (1, gs_iv p), (2, gs_iv n)]) (List.forall_mem_cons.mpr ⟨(.head _), (List.forall_mem_cons.mpr ⟨(.tail _ (.head _)), (List.forall_mem_cons.mpr ⟨(.tail _ (.tail _ (.head _))), (List.forall_mem_cons.mpr ⟨(.tail _ (.tail _ (.tail _ (.head _)))), (fun _ h => absurd h List.not_mem_nil)⟩)⟩)⟩)⟩) ?_
  exact (k_X9_findOrder_vf hI hp hn hcd (n + 1 - 1 : Int).toNat.succ) 1 F27 A28 I32 f34 (by omega) (fun ii hi => by rw [y35 ii (by omega)]; rfl) (fun j h1 h2 => by exfalso; omega) (by omega)
theorem c_X9_order_vf {p n : Int} {F A : gs_F} (hI : gs_I F A) (hp : -2147483648 ≤ p ∧ p ≤ 2147483647) (hn : -2147483648 ≤ n ∧ n ≤ 2147483647) (hcd : 0 ≤ p → p ≤ 7 → ∀ i : Int, 0 ≤ i → i < A 110 p.toNat → 0 ≤ A 111 (60 * p + i).toNat ∧ A 111 (60 * p + i).toNat ≤ 15) : sC m_X9_order 8 [.ref 106, gs_iv p, gs_iv n] F A (fun rv F' A' => ∃ z : Int, rv = some (gs_iv z) ∧ gs_I F' A' ∧ gs_fr (fun c j => c = 106 ∧ (j = 13 ∨ j = 15)) (fun c => c = 114 ∨ c = 115 ∨ c = 119 ∨ c = 120) F A F' A' ∧ (((p < 0 ∨ 7 < p) ∧ z = -1001) ∨ (0 ≤ p ∧ p ≤ 7 ∧ (n < 1 ∨ 24 < n) ∧ z = -1002) ∨ (0 ≤ p ∧ p ≤ 7 ∧ 1 ≤ n ∧ n ≤ 24 ∧ gs_or (gs_plm F A p) (F 106 0) n z))) := by
  refine sC_of ok_X9_order.1 (Nat.le_of_ble_eq_true rfl) ?_
  show sA _ _ _ 0 [(0, .ref 106), (1, gs_iv p), (2, gs_iv n)] [] F A
  have hf : gs_fr (fun c j => c = 106 ∧ (j = 13 ∨ j = 15)) (fun c => c = 114 ∨ c = 115 ∨ c = 119 ∨ c = 120) F A F A := gs_fr_refl _ _ _ _
  refine sA_aload_n dd_X9_order_0 rfl (.head _) ?_
  refine sA_iload_n dd_X9_order_1 rfl (.tail _ (.head _)) ?_
  refine sA_callV (y2 := m_X9_noPlan) (n2 := 1) (d2 := 2) (a := 106) (ci := 9) (q := (RX9, TX9, 28)) (as := [gs_iv p]) (rest := []) dd_X9_order_2 ok_X9_noPlan ml_X9_218 rfl rfl (by decide) gs_s106 rfl rfl (Nat.le_of_ble_eq_true rfl) (by decide) (c_X9_noPlan hI (by omega)) (fun r1 F2 A3 h4 => ?_)
  obtain ⟨z7, e6, e8, e9, x5⟩ := h4
  subst e6 e8 e9
  show sA _ _ _ 5 _ [gs_iv z7] _ _
  refine sA_if_eq (tgt := 12) dd_X9_order_5 (by decide) (by omega) (fun q10 => ?_) (fun q10 => ?_)
  · skip
    refine sA_iload_n dd_X9_order_12 rfl (.tail _ (.tail _ (.head _))) ?_
    refine sA_i2l dd_X9_order_13 (by omega) ?_
    refine sA_lconst (z := 1) dd_X9_order_14 (by decide) ?_
    refine sA_ldc2 (z := 24) dd_X9_order_15 (ri_lw_in (pl := 1128) (by decide +kernel)) ?_
    refine sA_callS (y2 := m_X9_in) (n2 := 3) (d2 := 1) (as := [gs_lv n, gs_lv 1, gs_lv 24]) (rest := []) dd_X9_order_18 ok_X9_in ml_X9_75 rfl rfl (Nat.le_of_ble_eq_true rfl) (by decide) (c_X9_in (by omega) (by omega) (by omega)) (fun r11 F12 A13 h14 => ?_)
    obtain ⟨z17, e16, e18, e19, x15⟩ := h14
    subst e16 e18 e19
    show sA _ _ _ 21 _ [gs_iv z17] _ _
    refine sA_if_eq (tgt := 33) dd_X9_order_21 (by decide) (by omega) (fun q20 => ?_) (fun q20 => ?_)
    · skip
      refine sA_sipush (z := (-1002)) dd_X9_order_33 (by decide) ?_
      refine sA_iret (z := -1002) dd_X9_order_36 rfl ?_
      refine ⟨_, rfl, hI, hf, ?_⟩
      exact .inr (.inl ⟨by omega, by omega, by omega, rfl⟩)
    · skip
      refine sA_aload_n dd_X9_order_24 rfl (.head _) ?_
      refine sA_iload_n dd_X9_order_25 rfl (.tail _ (.head _)) ?_
      refine sA_iload_n dd_X9_order_26 rfl (.tail _ (.tail _ (.head _))) ?_
      have hcd1 := hcd (by omega) (by omega)
      refine sA_callV (y2 := m_X9_findOrder) (n2 := 2) (d2 := 7) (a := 106) (ci := 9) (q := (RX9, TX9, 28)) (as := [gs_iv p, gs_iv n]) (rest := []) dd_X9_order_27 ok_X9_findOrder ml_X9_260 rfl rfl (by decide) gs_s106 rfl rfl (Nat.le_of_ble_eq_true rfl) (by decide) (c_X9_findOrder_vf hI (by omega) (by omega) hcd1) (fun r21 F22 A23 h24 => ?_)
      obtain ⟨z27, e26, I28, f29, x25⟩ := h24
      subst e26
      have f30 := gs_fr_tr hf f29 (fun b j h => by first | exact False.elim h | omega | (dsimp only at h ⊢; omega) | fail) (fun b h => by first | exact False.elim h | omega | (dsimp only at h ⊢; omega) | fail)
      have y31 : (-1005 ≤ z27 ∧ z27 ≤ 24) ∧ gs_or (gs_plm F A p) (F 106 0) n z27 := x25
      clear x25
      show sA _ _ _ 30 _ [gs_iv z27] _ _
      refine sA_goto (tgt := 36) dd_X9_order_30 (by decide) ?_
      refine sA_iret (z := z27) dd_X9_order_36 rfl ?_
      refine ⟨_, rfl, I28, f30, ?_⟩
      exact .inr (.inr ⟨by omega, by omega, by omega, by omega, y31.2⟩)
  · skip
    refine sA_sipush (z := (-1001)) dd_X9_order_8 (by decide) ?_
    refine sA_iret (z := -1001) dd_X9_order_11 rfl ?_
    refine ⟨_, rfl, hI, hf, ?_⟩
    exact .inl ⟨by omega, rfl⟩
end
