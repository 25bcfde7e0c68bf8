noncomputable section
theorem dd_X9_readItem_0 : decode cX9_readItem 0 = .ok (.iload_n 1, 1) := by decide +kernel
theorem dd_X9_readItem_1 : decode cX9_readItem 1 = .ok (.bipush 97, 2) := by decide +kernel
theorem dd_X9_readItem_3 : decode cX9_readItem 3 = .ok (.if_icmp .eq 15, 3) := by decide +kernel
theorem dd_X9_readItem_6 : decode cX9_readItem 6 = .ok (.iload_n 1, 1) := by decide +kernel
theorem dd_X9_readItem_7 : decode cX9_readItem 7 = .ok (.bipush 98, 2) := by decide +kernel
theorem dd_X9_readItem_9 : decode cX9_readItem 9 = .ok (.if_icmp .eq 9, 3) := by decide +kernel
theorem dd_X9_readItem_12 : decode cX9_readItem 12 = .ok (.iload_n 1, 1) := by decide +kernel
theorem dd_X9_readItem_13 : decode cX9_readItem 13 = .ok (.bipush 99, 2) := by decide +kernel
theorem dd_X9_readItem_15 : decode cX9_readItem 15 = .ok (.if_icmp .ne 14, 3) := by decide +kernel
theorem dd_X9_readItem_18 : decode cX9_readItem 18 = .ok (.aload_n 0, 1) := by decide +kernel
theorem dd_X9_readItem_19 : decode cX9_readItem 19 = .ok (.iload_n 1, 1) := by decide +kernel
theorem dd_X9_readItem_20 : decode cX9_readItem 20 = .ok (.bipush 97, 2) := by decide +kernel
theorem dd_X9_readItem_22 : decode cX9_readItem 22 = .ok (.isub, 1) := by decide +kernel
theorem dd_X9_readItem_23 : decode cX9_readItem 23 = .ok (.invokevirtual 212, 3) := by decide +kernel
theorem dd_X9_readItem_26 : decode cX9_readItem 26 = .ok (.goto 104, 3) := by decide +kernel
theorem dd_X9_readItem_29 : decode cX9_readItem 29 = .ok (.iload_n 1, 1) := by decide +kernel
theorem dd_X9_readItem_30 : decode cX9_readItem 30 = .ok (.bipush 40, 2) := by decide +kernel
theorem dd_X9_readItem_32 : decode cX9_readItem 32 = .ok (.if_icmp .ne 64, 3) := by decide +kernel
theorem dd_X9_readItem_35 : decode cX9_readItem 35 = .ok (.aload_n 0, 1) := by decide +kernel
theorem dd_X9_readItem_36 : decode cX9_readItem 36 = .ok (.aload_n 0, 1) := by decide +kernel
theorem dd_X9_readItem_37 : decode cX9_readItem 37 = .ok (.getfield 209, 3) := by decide +kernel
theorem dd_X9_readItem_40 : decode cX9_readItem 40 = .ok (.iconst 4, 1) := by decide +kernel
theorem dd_X9_readItem_41 : decode cX9_readItem 41 = .ok (.if_icmp .ge 7, 3) := by decide +kernel
theorem dd_X9_readItem_44 : decode cX9_readItem 44 = .ok (.iconst 1, 1) := by decide +kernel
theorem dd_X9_readItem_45 : decode cX9_readItem 45 = .ok (.goto 4, 3) := by decide +kernel
theorem dd_X9_readItem_48 : decode cX9_readItem 48 = .ok (.iconst 0, 1) := by decide +kernel
theorem dd_X9_readItem_49 : decode cX9_readItem 49 = .ok (.iconst 4, 1) := by decide +kernel
theorem dd_X9_readItem_50 : decode cX9_readItem 50 = .ok (.aload_n 0, 1) := by decide +kernel
theorem dd_X9_readItem_51 : decode cX9_readItem 51 = .ok (.getfield 186, 3) := by decide +kernel
theorem dd_X9_readItem_54 : decode cX9_readItem 54 = .ok (.invokevirtual 199, 3) := by decide +kernel
theorem dd_X9_readItem_57 : decode cX9_readItem 57 = .ok (.ifCond .eq 73, 3) := by decide +kernel
theorem dd_X9_readItem_60 : decode cX9_readItem 60 = .ok (.aload_n 0, 1) := by decide +kernel
theorem dd_X9_readItem_61 : decode cX9_readItem 61 = .ok (.getfield 44, 3) := by decide +kernel
theorem dd_X9_readItem_64 : decode cX9_readItem 64 = .ok (.aload_n 0, 1) := by decide +kernel
theorem dd_X9_readItem_65 : decode cX9_readItem 65 = .ok (.getfield 209, 3) := by decide +kernel
theorem dd_X9_readItem_68 : decode cX9_readItem 68 = .ok (.aload_n 0, 1) := by decide +kernel
theorem dd_X9_readItem_69 : decode cX9_readItem 69 = .ok (.getfield 206, 3) := by decide +kernel
theorem dd_X9_readItem_72 : decode cX9_readItem 72 = .ok (.iastore, 1) := by decide +kernel
theorem dd_X9_readItem_73 : decode cX9_readItem 73 = .ok (.aload_n 0, 1) := by decide +kernel
theorem dd_X9_readItem_74 : decode cX9_readItem 74 = .ok (.dup, 1) := by decide +kernel
theorem dd_X9_readItem_75 : decode cX9_readItem 75 = .ok (.getfield 209, 3) := by decide +kernel
theorem dd_X9_readItem_78 : decode cX9_readItem 78 = .ok (.iconst 1, 1) := by decide +kernel
theorem dd_X9_readItem_79 : decode cX9_readItem 79 = .ok (.iadd, 1) := by decide +kernel
theorem dd_X9_readItem_80 : decode cX9_readItem 80 = .ok (.putfield 209, 3) := by decide +kernel
theorem dd_X9_readItem_83 : decode cX9_readItem 83 = .ok (.aload_n 0, 1) := by decide +kernel
theorem dd_X9_readItem_84 : decode cX9_readItem 84 = .ok (.dup, 1) := by decide +kernel
theorem dd_X9_readItem_85 : decode cX9_readItem 85 = .ok (.getfield 186, 3) := by decide +kernel
theorem dd_X9_readItem_88 : decode cX9_readItem 88 = .ok (.iconst 1, 1) := by decide +kernel
theorem dd_X9_readItem_89 : decode cX9_readItem 89 = .ok (.iadd, 1) := by decide +kernel
theorem dd_X9_readItem_90 : decode cX9_readItem 90 = .ok (.putfield 186, 3) := by decide +kernel
theorem dd_X9_readItem_93 : decode cX9_readItem 93 = .ok (.goto 37, 3) := by decide +kernel
theorem dd_X9_readItem_96 : decode cX9_readItem 96 = .ok (.aload_n 0, 1) := by decide +kernel
theorem dd_X9_readItem_97 : decode cX9_readItem 97 = .ok (.iload_n 1, 1) := by decide +kernel
theorem dd_X9_readItem_98 : decode cX9_readItem 98 = .ok (.bipush 41, 2) := by decide +kernel
theorem dd_X9_readItem_100 : decode cX9_readItem 100 = .ok (.if_icmp .ne 14, 3) := by decide +kernel
theorem dd_X9_readItem_103 : decode cX9_readItem 103 = .ok (.aload_n 0, 1) := by decide +kernel
theorem dd_X9_readItem_104 : decode cX9_readItem 104 = .ok (.getfield 209, 3) := by decide +kernel
theorem dd_X9_readItem_107 : decode cX9_readItem 107 = .ok (.ifCond .le 7, 3) := by decide +kernel
theorem dd_X9_readItem_110 : decode cX9_readItem 110 = .ok (.iconst 1, 1) := by decide +kernel
theorem dd_X9_readItem_111 : decode cX9_readItem 111 = .ok (.goto 4, 3) := by decide +kernel
theorem dd_X9_readItem_114 : decode cX9_readItem 114 = .ok (.iconst 0, 1) := by decide +kernel
theorem dd_X9_readItem_115 : decode cX9_readItem 115 = .ok (.iconst 1, 1) := by decide +kernel
theorem dd_X9_readItem_116 : decode cX9_readItem 116 = .ok (.aload_n 0, 1) := by decide +kernel
theorem dd_X9_readItem_117 : decode cX9_readItem 117 = .ok (.getfield 186, 3) := by decide +kernel
theorem dd_X9_readItem_120 : decode cX9_readItem 120 = .ok (.invokevirtual 199, 3) := by decide +kernel
theorem dd_X9_readItem_123 : decode cX9_readItem 123 = .ok (.ifCond .eq 7, 3) := by decide +kernel
theorem dd_X9_readItem_126 : decode cX9_readItem 126 = .ok (.aload_n 0, 1) := by decide +kernel
theorem dd_X9_readItem_127 : decode cX9_readItem 127 = .ok (.invokevirtual 215, 3) := by decide +kernel
theorem dd_X9_readItem_130 : decode cX9_readItem 130 = .ok (.return_, 1) := by decide +kernel
theorem ml_X9_212 : Cond.methodLink RX9 212 m_X9_readTwist.1 ∈ am_tbl := ri_lw_in (pl := 1010) (by decide +kernel)
theorem ml_X9_215 : Cond.methodLink RX9 215 m_X9_closeBracket.1 ∈ am_tbl := ri_lw_in (pl := 1024) (by decide +kernel)
theorem ok_X9_readItem : am_okM m_X9_readItem 1 ∧ Cond.instanceMethod m_X9_readItem.1 ∈ am_tbl ∧ Cond.selects m_X9_readItem.1.cls m_X9_readItem.1 m_X9_readItem.1 ∈ am_tbl := ri_mk1 1009 93 1008 50 (by decide +kernel)
theorem c_X9_readItem {c0 : Int} {F A : gs_F} (hI : gs_I F A) (hc : -2147483648 ≤ c0 ∧ c0 ≤ 2147483647) (hh : F 106 18 < F 106 17) (hO : (0 < F 106 22 → A 117 0 ≤ F 106 24) ∧ (1 < F 106 22 → A 117 1 ≤ F 106 24) ∧ (2 < F 106 22 → A 117 2 ≤ F 106 24) ∧ (3 < F 106 22 → A 117 3 ≤ F 106 24)) : sC m_X9_readItem 4 [.ref 106, gs_iv c0] F A (fun rv F' A' => rv = none ∧ gs_I F' A' ∧ gs_fr (fun c j => c = 106 ∧ (j = 18 ∨ j = 19 ∨ j = 20 ∨ j = 22 ∨ j = 24)) (fun c => c = 117 ∨ c = 118) F A F' A' ∧ ((F 106 18 + 1 ≤ F' 106 18 ∨ 1 ≤ F' 106 19) ∧ F 106 18 ≤ F' 106 18 ∧ (0 < F' 106 22 → A' 117 0 ≤ F' 106 24) ∧ (1 < F' 106 22 → A' 117 1 ≤ F' 106 24) ∧ (2 < F' 106 22 → A' 117 2 ≤ F' 106 24) ∧ (3 < F' 106 22 → A' 117 3 ≤ F' 106 24))) := by
  refine sC_of ok_X9_readItem.1 (Nat.le_of_ble_eq_true rfl) ?_
  show sA _ _ _ 0 [(0, .ref 106), (1, gs_iv c0)] [] F A
  have hf : gs_fr (fun c j => c = 106 ∧ (j = 18 ∨ j = 19 ∨ j = 20 ∨ j = 22 ∨ j = 24)) (fun c => c = 117 ∨ c = 118) F A F A := gs_fr_refl _ _ _ _
  have b1 : (0 : Int) ≤ F 106 18 ∧ F 106 18 ≤ 120 := hI.1 106 18
  have b2 : (0 : Int) ≤ F 106 17 ∧ F 106 17 ≤ 120 := hI.1 106 17
  have b3 : (0 : Int) ≤ F 106 19 ∧ F 106 19 ≤ 4 := hI.1 106 19
  have b4 : (0 : Int) ≤ F 106 24 ∧ F 106 24 ≤ 60 := hI.1 106 24
  have b5 : (0 : Int) ≤ F 106 22 ∧ F 106 22 ≤ 4 := hI.1 106 22
  have b6 : (1 : Int) ≤ F 106 0 ∧ F 106 0 ≤ 3 := hI.1 106 0
  have hb22 : (0 : Int) ≤ F 106 22 ∧ F 106 22 ≤ 4 := hI.1 106 22
  have hb17 : (0 : Int) ≤ F 106 17 ∧ F 106 17 ≤ 120 := hI.1 106 17
  refine sA_iload_n dd_X9_readItem_0 rfl (.tail _ (.head _)) ?_
  refine sA_bipush (z := 97) dd_X9_readItem_1 (by decide) ?_
  refine sA_icmp_eq (tgt := 18) dd_X9_readItem_3 (by decide) (by omega) (by omega) (fun q7 => ?_) (fun q7 => ?_)
  · skip
    refine sA_aload_n dd_X9_readItem_18 rfl (.head _) ?_
    refine sA_iload_n dd_X9_readItem_19 rfl (.tail _ (.head _)) ?_
    refine sA_bipush (z := 97) dd_X9_readItem_20 (by decide) ?_
    refine sA_isub dd_X9_readItem_22 ?_
    refine sA_callV (y2 := m_X9_readTwist) (n2 := 1) (d2 := 3) (a := 106) (ci := 9) (q := (RX9, TX9, 28)) (as := [gs_iv (c0 - 97)]) (rest := []) dd_X9_readItem_23 ok_X9_readTwist ml_X9_212 rfl rfl (by decide) gs_s106 rfl rfl (Nat.le_of_ble_eq_true rfl) (by decide) (c_X9_readTwist hI (by omega) (by omega)) (fun r8 F9 A10 h11 => ?_)
    obtain ⟨e13, I14, f15, x12⟩ := h11
    subst e13
    have v17 : F9 106 17 = F 106 17 := f15.1 106 17 (by first | exact id | omega | (dsimp only; omega) | (dsimp only))
    have v20 : F9 106 22 = F 106 22 := f15.1 106 22 (by first | exact id | omega | (dsimp only; omega) | (dsimp only))
    have v21 : F9 106 0 = F 106 0 := f15.1 106 0 (by first | exact id | omega | (dsimp only; omega) | (dsimp only))
    have v22 : A10 117 0 = A 117 0 := congrFun (f15.2 117 (by first | exact id | omega | (dsimp only; omega) | (dsimp only))) _
    have v23 : A10 117 1 = A 117 1 := congrFun (f15.2 117 (by first | exact id | omega | (dsimp only; omega) | (dsimp only))) _
    have v24 : A10 117 2 = A 117 2 := congrFun (f15.2 117 (by first | exact id | omega | (dsimp only; omega) | (dsimp only))) _
    have v25 : A10 117 3 = A 117 3 := congrFun (f15.2 117 (by first | exact id | omega | (dsimp only; omega) | (dsimp only))) _
    have f26 := gs_fr_tr hf f15 (fun b j h => by first | exact False.elim h | omega | (dsimp only at h ⊢; omega)) (fun b h => by first | exact False.elim h | omega | (dsimp only at h ⊢; omega))
    show sA _ _ _ 26 _ [] _ _
    refine sA_goto (tgt := 130) dd_X9_readItem_26 (by decide) ?_
    refine sA_vret dd_X9_readItem_130 rfl ?_
    exact ⟨rfl, I14, f26, by omega⟩
  · skip
    refine sA_iload_n dd_X9_readItem_6 rfl (.tail _ (.head _)) ?_
    refine sA_bipush (z := 98) dd_X9_readItem_7 (by decide) ?_
    refine sA_icmp_eq (tgt := 18) dd_X9_readItem_9 (by decide) (by omega) (by omega) (fun q27 => ?_) (fun q27 => ?_)
    · skip
      refine sA_aload_n dd_X9_readItem_18 rfl (.head _) ?_
      refine sA_iload_n dd_X9_readItem_19 rfl (.tail _ (.head _)) ?_
      refine sA_bipush (z := 97) dd_X9_readItem_20 (by decide) ?_
      refine sA_isub dd_X9_readItem_22 ?_
      refine sA_callV (y2 := m_X9_readTwist) (n2 := 1) (d2 := 3) (a := 106) (ci := 9) (q := (RX9, TX9, 28)) (as := [gs_iv (c0 - 97)]) (rest := []) dd_X9_readItem_23 ok_X9_readTwist ml_X9_212 rfl rfl (by decide) gs_s106 rfl rfl (Nat.le_of_ble_eq_true rfl) (by decide) (c_X9_readTwist hI (by omega) (by omega)) (fun r28 F29 A30 h31 => ?_)
      obtain ⟨e33, I34, f35, x32⟩ := h31
      subst e33
      have v37 : F29 106 17 = F 106 17 := f35.1 106 17 (by first | exact id | omega | (dsimp only; omega) | (dsimp only))
      have v40 : F29 106 22 = F 106 22 := f35.1 106 22 (by first | exact id | omega | (dsimp only; omega) | (dsimp only))
      have v41 : F29 106 0 = F 106 0 := f35.1 106 0 (by first | exact id | omega | (dsimp only; omega) | (dsimp only))
      have v42 : A30 117 0 = A 117 0 := congrFun (f35.2 117 (by first | exact id | omega | (dsimp only; omega) | (dsimp only))) _
      have v43 : A30 117 1 = A 117 1 := congrFun (f35.2 117 (by first | exact id | omega | (dsimp only; omega) | (dsimp only))) _
      have v44 : A30 117 2 = A 117 2 := congrFun (f35.2 117 (by first | exact id | omega | (dsimp only; omega) | (dsimp only))) _
      have v45 : A30 117 3 = A 117 3 := congrFun (f35.2 117 (by first | exact id | omega | (dsimp only; omega) | (dsimp only))) _
      have f46 := gs_fr_tr hf f35 (fun b j h => by first | exact False.elim h | omega | (dsimp only at h ⊢; omega)) (fun b h => by first | exact False.elim h | omega | (dsimp only at h ⊢; omega))
      show sA _ _ _ 26 _ [] _ _
      refine sA_goto (tgt := 130) dd_X9_readItem_26 (by decide) ?_
      refine sA_vret dd_X9_readItem_130 rfl ?_
      exact ⟨rfl, I34, f46, by omega⟩
    · skip
      refine sA_iload_n dd_X9_readItem_12 rfl (.tail _ (.head _)) ?_
      refine sA_bipush (z := 99) dd_X9_readItem_13 (by decide) ?_
      refine sA_icmp_ne (tgt := 29) dd_X9_readItem_15 (by decide) (by omega) (by omega) (fun q47 => ?_) (fun q47 => ?_)
      · skip
        refine sA_iload_n dd_X9_readItem_29 rfl (.tail _ (.head _)) ?_
        refine sA_bipush (z := 40) dd_X9_readItem_30 (by decide) ?_
        refine sA_icmp_ne (tgt := 96) dd_X9_readItem_32 (by decide) (by omega) (by omega) (fun q48 => ?_) (fun q48 => ?_)
        · skip
          refine sA_aload_n dd_X9_readItem_96 rfl (.head _) ?_
          refine sA_iload_n dd_X9_readItem_97 rfl (.tail _ (.head _)) ?_
          refine sA_bipush (z := 41) dd_X9_readItem_98 (by decide) ?_
          refine sA_icmp_ne (tgt := 114) dd_X9_readItem_100 (by decide) (by omega) (by omega) (fun q49 => ?_) (fun q49 => ?_)
          · skip
            refine sA_iconst (z := 0) dd_X9_readItem_114 ?_
            refine sA_iconst (z := 1) dd_X9_readItem_115 ?_
            refine sA_aload_n dd_X9_readItem_116 rfl (.head _) ?_
            refine sA_geti (ci := 9) (j := 18) (q := (RX9, TX9, 28)) dd_X9_readItem_117 rfl (by decide) fl_X9_186 (by decide) gs_s106 rfl ?_
            refine sA_callV (y2 := m_X9_want) (n2 := 3) (d2 := 1) (a := 106) (ci := 9) (q := (RX9, TX9, 28)) (as := [gs_iv 0, gs_iv 1, gs_iv (F 106 18)]) (rest := []) dd_X9_readItem_120 ok_X9_want ml_X9_199 rfl rfl (by decide) gs_s106 rfl rfl (Nat.le_of_ble_eq_true rfl) (by decide) (c_X9_want hI (by omega) (by omega) (by omega)) (fun r50 F51 A52 h53 => ?_)
            obtain ⟨z56, e55, I57, f58, x54⟩ := h53
            subst e55
            have v59 : F51 106 18 = F 106 18 := f58.1 106 18 (by first | exact id | omega | (dsimp only; omega) | (dsimp only))
            have v60 : F51 106 17 = F 106 17 := f58.1 106 17 (by first | exact id | omega | (dsimp only; omega) | (dsimp only))
            have v62 : F51 106 24 = F 106 24 := f58.1 106 24 (by first | exact id | omega | (dsimp only; omega) | (dsimp only))
            have v63 : F51 106 22 = F 106 22 := f58.1 106 22 (by first | exact id | omega | (dsimp only; omega) | (dsimp only))
            have v64 : F51 106 0 = F 106 0 := f58.1 106 0 (by first | exact id | omega | (dsimp only; omega) | (dsimp only))
            have v65 : A52 117 0 = A 117 0 := congrFun (f58.2 117 (by first | exact id | omega | (dsimp only; omega) | (dsimp only))) _
            have v66 : A52 117 1 = A 117 1 := congrFun (f58.2 117 (by first | exact id | omega | (dsimp only; omega) | (dsimp only))) _
            have v67 : A52 117 2 = A 117 2 := congrFun (f58.2 117 (by first | exact id | omega | (dsimp only; omega) | (dsimp only))) _
            have v68 : A52 117 3 = A 117 3 := congrFun (f58.2 117 (by first | exact id | omega | (dsimp only; omega) | (dsimp only))) _
            have f69 := gs_fr_tr hf f58 (fun b j h => by first | exact False.elim h | omega | (dsimp only at h ⊢; omega)) (fun b h => by first | exact False.elim h | omega | (dsimp only at h ⊢; omega))
            show sA _ _ _ 123 _ [gs_iv z56] _ _
            refine sA_if_eq (tgt := 130) dd_X9_readItem_123 (by decide) (by omega) (fun q70 => ?_) (fun q70 => ?_)
            · skip
              refine sA_vret dd_X9_readItem_130 rfl ?_
              exact ⟨rfl, I57, f69, by omega⟩
            · skip
              have hoo : A52 117 (F51 106 22 - 1).toNat ≤ F51 106 24 := by
                rcases (show F51 106 22 = 1 ∨ F51 106 22 = 2 ∨ F51 106 22 = 3 ∨ F51 106 22 = 4 by omega) with e | e | e | e
                · have e2 : (F51 106 22 - 1).toNat = 0 := by omega
                  rw [e2]; omega
                · have e2 : (F51 106 22 - 1).toNat = 1 := by omega
                  rw [e2]; omega
                · have e2 : (F51 106 22 - 1).toNat = 2 := by omega
                  rw [e2]; omega
                · have e2 : (F51 106 22 - 1).toNat = 3 := by omega
                  rw [e2]; omega
              refine sA_aload_n dd_X9_readItem_126 rfl (.head _) ?_
              refine sA_callV (y2 := m_X9_closeBracket) (n2 := 0) (d2 := 3) (a := 106) (ci := 9) (q := (RX9, TX9, 28)) (as := []) (rest := []) dd_X9_readItem_127 ok_X9_closeBracket ml_X9_215 rfl rfl (by decide) gs_s106 rfl rfl (Nat.le_of_ble_eq_true rfl) (by decide) (c_X9_closeBracket I57 (by omega) (by omega) (by omega)) (fun r71 F72 A73 h74 => ?_)
              obtain ⟨e76, I77, f78, x75⟩ := h74
              subst e76
              have v80 : F72 106 17 = F51 106 17 := f78.1 106 17 (by first | exact id | omega | (dsimp only; omega) | (dsimp only))
              have v84 : F72 106 0 = F51 106 0 := f78.1 106 0 (by first | exact id | omega | (dsimp only; omega) | (dsimp only))
              have v85 : A73 117 0 = A52 117 0 := congrFun (f78.2 117 (by first | exact id | omega | (dsimp only; omega) | (dsimp only))) _
              have v86 : A73 117 1 = A52 117 1 := congrFun (f78.2 117 (by first | exact id | omega | (dsimp only; omega) | (dsimp only))) _
              have v87 : A73 117 2 = A52 117 2 := congrFun (f78.2 117 (by first | exact id | omega | (dsimp only; omega) | (dsimp only))) _
              have v88 : A73 117 3 = A52 117 3 := congrFun (f78.2 117 (by first | exact id | omega | (dsimp only; omega) | (dsimp only))) _
              have f89 := gs_fr_tr f69 f78 (fun b j h => by first | exact False.elim h | omega | (dsimp only at h ⊢; omega)) (fun b h => by first | exact False.elim h | omega | (dsimp only at h ⊢; omega))
              show sA _ _ _ 130 _ [] _ _
              refine sA_vret dd_X9_readItem_130 rfl ?_
              exact ⟨rfl, I77, f89, by omega⟩
          · skip
            refine sA_aload_n dd_X9_readItem_103 rfl (.head _) ?_
            refine sA_geti (ci := 9) (j := 22) (q := (RX9, TX9, 28)) dd_X9_readItem_104 rfl (by decide) fl_X9_209 (by decide) gs_s106 rfl ?_
            refine sA_if_le (tgt := 114) dd_X9_readItem_107 (by decide) (by omega) (fun q90 => ?_) (fun q90 => ?_)
            · skip
              refine sA_iconst (z := 0) dd_X9_readItem_114 ?_
              refine sA_iconst (z := 1) dd_X9_readItem_115 ?_
              refine sA_aload_n dd_X9_readItem_116 rfl (.head _) ?_
              refine sA_geti (ci := 9) (j := 18) (q := (RX9, TX9, 28)) dd_X9_readItem_117 rfl (by decide) fl_X9_186 (by decide) gs_s106 rfl ?_
              refine sA_callV (y2 := m_X9_want) (n2 := 3) (d2 := 1) (a := 106) (ci := 9) (q := (RX9, TX9, 28)) (as := [gs_iv 0, gs_iv 1, gs_iv (F 106 18)]) (rest := []) dd_X9_readItem_120 ok_X9_want ml_X9_199 rfl rfl (by decide) gs_s106 rfl rfl (Nat.le_of_ble_eq_true rfl) (by decide) (c_X9_want hI (by omega) (by omega) (by omega)) (fun r91 F92 A93 h94 => ?_)
              obtain ⟨z97, e96, I98, f99, x95⟩ := h94
              subst e96
              have v100 : F92 106 18 = F 106 18 := f99.1 106 18 (by first | exact id | omega | (dsimp only; omega) | (dsimp only))
              have v101 : F92 106 17 = F 106 17 := f99.1 106 17 (by first | exact id | omega | (dsimp only; omega) | (dsimp only))
              have v103 : F92 106 24 = F 106 24 := f99.1 106 24 (by first | exact id | omega | (dsimp only; omega) | (dsimp only))
              have v104 : F92 106 22 = F 106 22 := f99.1 106 22 (by first | exact id | omega | (dsimp only; omega) | (dsimp only))
              have v105 : F92 106 0 = F 106 0 := f99.1 106 0 (by first | exact id | omega | (dsimp only; omega) | (dsimp only))
              have v106 : A93 117 0 = A 117 0 := congrFun (f99.2 117 (by first | exact id | omega | (dsimp only; omega) | (dsimp only))) _
              have v107 : A93 117 1 = A 117 1 := congrFun (f99.2 117 (by first | exact id | omega | (dsimp only; omega) | (dsimp only))) _
              have v108 : A93 117 2 = A 117 2 := congrFun (f99.2 117 (by first | exact id | omega | (dsimp only; omega) | (dsimp only))) _
              have v109 : A93 117 3 = A 117 3 := congrFun (f99.2 117 (by first | exact id | omega | (dsimp only; omega) | (dsimp only))) _
              have f110 := gs_fr_tr hf f99 (fun b j h => by first | exact False.elim h | omega | (dsimp only at h ⊢; omega)) (fun b h => by first | exact False.elim h | omega | (dsimp only at h ⊢; omega))
              show sA _ _ _ 123 _ [gs_iv z97] _ _
              refine sA_if_eq (tgt := 130) dd_X9_readItem_123 (by decide) (by omega) (fun q111 => ?_) (fun q111 => ?_)
              · skip
                refine sA_vret dd_X9_readItem_130 rfl ?_
                exact ⟨rfl, I98, f110, by omega⟩
              · skip
                have hoo : A93 117 (F92 106 22 - 1).toNat ≤ F92 106 24 := by
                  rcases (show F92 106 22 = 1 ∨ F92 106 22 = 2 ∨ F92 106 22 = 3 ∨ F92 106 22 = 4 by omega) with e | e | e | e
                  · have e2 : (F92 106 22 - 1).toNat = 0 := by omega
                    rw [e2]; omega
                  · have e2 : (F92 106 22 - 1).toNat = 1 := by omega
                    rw [e2]; omega
                  · have e2 : (F92 106 22 - 1).toNat = 2 := by omega
                    rw [e2]; omega
                  · have e2 : (F92 106 22 - 1).toNat = 3 := by omega
                    rw [e2]; omega
                refine sA_aload_n dd_X9_readItem_126 rfl (.head _) ?_
                refine sA_callV (y2 := m_X9_closeBracket) (n2 := 0) (d2 := 3) (a := 106) (ci := 9) (q := (RX9, TX9, 28)) (as := []) (rest := []) dd_X9_readItem_127 ok_X9_closeBracket ml_X9_215 rfl rfl (by decide) gs_s106 rfl rfl (Nat.le_of_ble_eq_true rfl) (by decide) (c_X9_closeBracket I98 (by omega) (by omega) (by omega)) (fun r112 F113 A114 h115 => ?_)
                obtain ⟨e117, I118, f119, x116⟩ := h115
                subst e117
                have v121 : F113 106 17 = F92 106 17 := f119.1 106 17 (by first | exact id | omega | (dsimp only; omega) | (dsimp only))
                have v125 : F113 106 0 = F92 106 0 := f119.1 106 0 (by first | exact id | omega | (dsimp only; omega) | (dsimp only))
                have v126 : A114 117 0 = A93 117 0 := congrFun (f119.2 117 (by first | exact id | omega | (dsimp only; omega) | (dsimp only))) _
                have v127 : A114 117 1 = A93 117 1 := congrFun (f119.2 117 (by first | exact id | omega | (dsimp only; omega) | (dsimp only))) _
                have v128 : A114 117 2 = A93 117 2 := congrFun (f119.2 117 (by first | exact id | omega | (dsimp only; omega) | (dsimp only))) _
                have v129 : A114 117 3 = A93 117 3 := congrFun (f119.2 117 (by first | exact id | omega | (dsimp only; omega) | (dsimp only))) _
                have f130 := gs_fr_tr f110 f119 (fun b j h => by first | exact False.elim h | omega | (dsimp only at h ⊢; omega)) (fun b h => by first | exact False.elim h | omega | (dsimp only at h ⊢; omega))
                show sA _ _ _ 130 _ [] _ _
                refine sA_vret dd_X9_readItem_130 rfl ?_
                exact ⟨rfl, I118, f130, by omega⟩
            · skip
              refine sA_iconst (z := 1) dd_X9_readItem_110 ?_
              refine sA_goto (tgt := 115) dd_X9_readItem_111 (by decide) ?_
              refine sA_iconst (z := 1) dd_X9_readItem_115 ?_
              refine sA_aload_n dd_X9_readItem_116 rfl (.head _) ?_
              refine sA_geti (ci := 9) (j := 18) (q := (RX9, TX9, 28)) dd_X9_readItem_117 rfl (by decide) fl_X9_186 (by decide) gs_s106 rfl ?_
              refine sA_callV (y2 := m_X9_want) (n2 := 3) (d2 := 1) (a := 106) (ci := 9) (q := (RX9, TX9, 28)) (as := [gs_iv 1, gs_iv 1, gs_iv (F 106 18)]) (rest := []) dd_X9_readItem_120 ok_X9_want ml_X9_199 rfl rfl (by decide) gs_s106 rfl rfl (Nat.le_of_ble_eq_true rfl) (by decide) (c_X9_want hI (by omega) (by omega) (by omega)) (fun r131 F132 A133 h134 => ?_)
              obtain ⟨z137, e136, I138, f139, x135⟩ := h134
              subst e136
              have v140 : F132 106 18 = F 106 18 := f139.1 106 18 (by first | exact id | omega | (dsimp only; omega) | (dsimp only))
              have v141 : F132 106 17 = F 106 17 := f139.1 106 17 (by first | exact id | omega | (dsimp only; omega) | (dsimp only))
              have v143 : F132 106 24 = F 106 24 := f139.1 106 24 (by first | exact id | omega | (dsimp only; omega) | (dsimp only))
              have v144 : F132 106 22 = F 106 22 := f139.1 106 22 (by first | exact id | omega | (dsimp only; omega) | (dsimp only))
              have v145 : F132 106 0 = F 106 0 := f139.1 106 0 (by first | exact id | omega | (dsimp only; omega) | (dsimp only))
              have v146 : A133 117 0 = A 117 0 := congrFun (f139.2 117 (by first | exact id | omega | (dsimp only; omega) | (dsimp only))) _
              have v147 : A133 117 1 = A 117 1 := congrFun (f139.2 117 (by first | exact id | omega | (dsimp only; omega) | (dsimp only))) _
              have v148 : A133 117 2 = A 117 2 := congrFun (f139.2 117 (by first | exact id | omega | (dsimp only; omega) | (dsimp only))) _
              have v149 : A133 117 3 = A 117 3 := congrFun (f139.2 117 (by first | exact id | omega | (dsimp only; omega) | (dsimp only))) _
              have f150 := gs_fr_tr hf f139 (fun b j h => by first | exact False.elim h | omega | (dsimp only at h ⊢; omega)) (fun b h => by first | exact False.elim h | omega | (dsimp only at h ⊢; omega))
              show sA _ _ _ 123 _ [gs_iv z137] _ _
              refine sA_if_eq (tgt := 130) dd_X9_readItem_123 (by decide) (by omega) (fun q151 => ?_) (fun q151 => ?_)
              · skip
                refine sA_vret dd_X9_readItem_130 rfl ?_
                exact ⟨rfl, I138, f150, by omega⟩
              · skip
                have hoo : A133 117 (F132 106 22 - 1).toNat ≤ F132 106 24 := by
                  rcases (show F132 106 22 = 1 ∨ F132 106 22 = 2 ∨ F132 106 22 = 3 ∨ F132 106 22 = 4 by omega) with e | e | e | e
                  · have e2 : (F132 106 22 - 1).toNat = 0 := by omega
                    rw [e2]; omega
                  · have e2 : (F132 106 22 - 1).toNat = 1 := by omega
                    rw [e2]; omega
                  · have e2 : (F132 106 22 - 1).toNat = 2 := by omega
                    rw [e2]; omega
                  · have e2 : (F132 106 22 - 1).toNat = 3 := by omega
                    rw [e2]; omega
                refine sA_aload_n dd_X9_readItem_126 rfl (.head _) ?_
                refine sA_callV (y2 := m_X9_closeBracket) (n2 := 0) (d2 := 3) (a := 106) (ci := 9) (q := (RX9, TX9, 28)) (as := []) (rest := []) dd_X9_readItem_127 ok_X9_closeBracket ml_X9_215 rfl rfl (by decide) gs_s106 rfl rfl (Nat.le_of_ble_eq_true rfl) (by decide) (c_X9_closeBracket I138 (by omega) (by omega) (by omega)) (fun r152 F153 A154 h155 => ?_)
                obtain ⟨e157, I158, f159, x156⟩ := h155
                subst e157
                have v161 : F153 106 17 = F132 106 17 := f159.1 106 17 (by first | exact id | omega | (dsimp only; omega) | (dsimp only))
                have v165 : F153 106 0 = F132 106 0 := f159.1 106 0 (by first | exact id | omega | (dsimp only; omega) | (dsimp only))
                have v166 : A154 117 0 = A133 117 0 := congrFun (f159.2 117 (by first | exact id | omega | (dsimp only; omega) | (dsimp only))) _
                have v167 : A154 117 1 = A133 117 1 := congrFun (f159.2 117 (by first | exact id | omega | (dsimp only; omega) | (dsimp only))) _
                have v168 : A154 117 2 = A133 117 2 := congrFun (f159.2 117 (by first | exact id | omega | (dsimp only; omega) | (dsimp only))) _
                have v169 : A154 117 3 = A133 117 3 := congrFun (f159.2 117 (by first | exact id | omega | (dsimp only; omega) | (dsimp only))) _
                have f170 := gs_fr_tr f150 f159 (fun b j h => by first | exact False.elim h | omega | (dsimp only at h ⊢; omega)) (fun b h => by first | exact False.elim h | omega | (dsimp only at h ⊢; omega))
                show sA _ _ _ 130 _ [] _ _
                refine sA_vret dd_X9_readItem_130 rfl ?_
                exact ⟨rfl, I158, f170, by omega⟩
        · skip
          refine sA_aload_n dd_X9_readItem_35 rfl (.head _) ?_
          refine sA_aload_n dd_X9_readItem_36 rfl (.head _) ?_
          refine sA_geti (ci := 9) (j := 22) (q := (RX9, TX9, 28)) dd_X9_readItem_37 rfl (by decide) fl_X9_209 (by decide) gs_s106 rfl ?_
          refine sA_iconst (z := 4) dd_X9_readItem_40 ?_
          refine sA_icmp_ge (tgt := 48) dd_X9_readItem_41 (by decide) (by omega) (by omega) (fun q171 => ?_) (fun q171 => ?_)
          · skip
            refine sA_iconst (z := 0) dd_X9_readItem_48 ?_
            refine sA_iconst (z := 4) dd_X9_readItem_49 ?_
            refine sA_aload_n dd_X9_readItem_50 rfl (.head _) ?_
            refine sA_geti (ci := 9) (j := 18) (q := (RX9, TX9, 28)) dd_X9_readItem_51 rfl (by decide) fl_X9_186 (by decide) gs_s106 rfl ?_
            refine sA_callV (y2 := m_X9_want) (n2 := 3) (d2 := 1) (a := 106) (ci := 9) (q := (RX9, TX9, 28)) (as := [gs_iv 0, gs_iv 4, gs_iv (F 106 18)]) (rest := []) dd_X9_readItem_54 ok_X9_want ml_X9_199 rfl rfl (by decide) gs_s106 rfl rfl (Nat.le_of_ble_eq_true rfl) (by decide) (c_X9_want hI (by omega) (by omega) (by omega)) (fun r172 F173 A174 h175 => ?_)
            obtain ⟨z178, e177, I179, f180, x176⟩ := h175
            subst e177
            have v181 : F173 106 18 = F 106 18 := f180.1 106 18 (by first | exact id | omega | (dsimp only; omega) | (dsimp only))
            have v182 : F173 106 17 = F 106 17 := f180.1 106 17 (by first | exact id | omega | (dsimp only; omega) | (dsimp only))
            have v184 : F173 106 24 = F 106 24 := f180.1 106 24 (by first | exact id | omega | (dsimp only; omega) | (dsimp only))
            have v185 : F173 106 22 = F 106 22 := f180.1 106 22 (by first | exact id | omega | (dsimp only; omega) | (dsimp only))
            have v186 : F173 106 0 = F 106 0 := f180.1 106 0 (by first | exact id | omega | (dsimp only; omega) | (dsimp only))
            have v187 : A174 117 0 = A 117 0 := congrFun (f180.2 117 (by first | exact id | omega | (dsimp only; omega) | (dsimp only))) _
            have v188 : A174 117 1 = A 117 1 := congrFun (f180.2 117 (by first | exact id | omega | (dsimp only; omega) | (dsimp only))) _
            have v189 : A174 117 2 = A 117 2 := congrFun (f180.2 117 (by first | exact id | omega | (dsimp only; omega) | (dsimp only))) _
            have v190 : A174 117 3 = A 117 3 := congrFun (f180.2 117 (by first | exact id | omega | (dsimp only; omega) | (dsimp only))) _
            have f191 := gs_fr_tr hf f180 (fun b j h => by first | exact False.elim h | omega | (dsimp only at h ⊢; omega)) (fun b h => by first | exact False.elim h | omega | (dsimp only at h ⊢; omega))
            show sA _ _ _ 57 _ [gs_iv z178] _ _
            refine sA_if_eq (tgt := 130) dd_X9_readItem_57 (by decide) (by omega) (fun q192 => ?_) (fun q192 => ?_)
            · skip
              refine sA_vret dd_X9_readItem_130 rfl ?_
              exact ⟨rfl, I179, f191, by omega⟩
            · skip
              refine sA_aload_n dd_X9_readItem_60 rfl (.head _) ?_
              refine sA_getr (ci := 9) (j := 21) (q := (RX9, TX9, 28)) dd_X9_readItem_61 rfl (by decide) fl_X9_44 (by decide) gs_s106 rfl ?_
              refine sA_aload_n dd_X9_readItem_64 rfl (.head _) ?_
              refine sA_geti (ci := 9) (j := 22) (q := (RX9, TX9, 28)) dd_X9_readItem_65 rfl (by decide) fl_X9_209 (by decide) gs_s106 rfl ?_
              have b193 : (0 : Int) ≤ F173 106 22 ∧ F173 106 22 ≤ 4 := I179.1 106 22
              refine sA_aload_n dd_X9_readItem_68 rfl (.head _) ?_
              refine sA_geti (ci := 9) (j := 24) (q := (RX9, TX9, 28)) dd_X9_readItem_69 rfl (by decide) fl_X9_206 (by decide) gs_s106 rfl ?_
              have b194 : (0 : Int) ≤ F173 106 24 ∧ F173 106 24 ≤ 60 := I179.1 106 24
              refine sA_iast (n := 4) dd_X9_readItem_72 (by decide) gs_s117 (by omega) (by decide) ?_
              have I196 : gs_I F173 (gs_up A174 117 ((F173 106 22).toNat) (F173 106 24)) := gs_I_ast I179 (show (0 : Int) ≤ F173 106 24 ∧ F173 106 24 ≤ 60 by omega)
              have f197 := gs_fr_ast f191 (a := 117) (z := F173 106 24) (i := (F173 106 22).toNat) (by first | omega | (dsimp only; omega) | (dsimp only))
              have v198 := gs_up_cs A174 117 ((F173 106 22).toNat) (F173 106 24) 0
              have v199 := gs_up_cs A174 117 ((F173 106 22).toNat) (F173 106 24) 1
              have v200 := gs_up_cs A174 117 ((F173 106 22).toNat) (F173 106 24) 2
              have v201 := gs_up_cs A174 117 ((F173 106 22).toNat) (F173 106 24) 3
              generalize gs_up A174 117 ((F173 106 22).toNat) (F173 106 24) = A195 at I196 f197 v198 v199 v200 v201 ⊢
              refine sA_aload_n dd_X9_readItem_73 rfl (.head _) ?_
              refine sA_dup dd_X9_readItem_74 rfl ?_
              refine sA_geti (ci := 9) (j := 22) (q := (RX9, TX9, 28)) dd_X9_readItem_75 rfl (by decide) fl_X9_209 (by decide) gs_s106 rfl ?_
              refine sA_iconst (z := 1) dd_X9_readItem_78 ?_
              refine sA_iadd dd_X9_readItem_79 ?_
              refine sA_put (ci := 9) (j := 22) (q := (RX9, TX9, 28)) (ty := .int) dd_X9_readItem_80 rfl (by decide) fl_X9_209 rfl (tyX9_ok 22 (by decide)) rfl rfl (by decide) gs_s106 rfl ?_
              have I203 : gs_I (gs_up F173 106 22 ((F173 106 22) + 1)) A195 := gs_I_put I196 (show (0 : Int) ≤ (F173 106 22) + 1 ∧ (F173 106 22) + 1 ≤ 4 by omega)
              have f204 := gs_fr_put f197 (a := 106) (z := (F173 106 22) + 1) (j := 22) (by first | omega | (dsimp only; omega) | (dsimp only))
              have v205 : gs_up F173 106 22 ((F173 106 22) + 1) 106 22 = (F173 106 22) + 1 := gs_up_self _ _ _ _
              have v206 : (gs_up F173 106 22 ((F173 106 22) + 1)) 106 18 = F173 106 18 := gs_up_ne _ _ (by omega)
              have v207 : (gs_up F173 106 22 ((F173 106 22) + 1)) 106 17 = F173 106 17 := gs_up_ne _ _ (by omega)
              have v208 : (gs_up F173 106 22 ((F173 106 22) + 1)) 106 19 = F173 106 19 := gs_up_ne _ _ (by omega)
              have v209 : (gs_up F173 106 22 ((F173 106 22) + 1)) 106 24 = F173 106 24 := gs_up_ne _ _ (by omega)
              have v210 : (gs_up F173 106 22 ((F173 106 22) + 1)) 106 0 = F173 106 0 := gs_up_ne _ _ (by omega)
              generalize gs_up F173 106 22 ((F173 106 22) + 1) = F202 at I203 f204 v205 v206 v207 v208 v209 v210 ⊢
              refine sA_aload_n dd_X9_readItem_83 rfl (.head _) ?_
              refine sA_dup dd_X9_readItem_84 rfl ?_
              refine sA_geti (ci := 9) (j := 18) (q := (RX9, TX9, 28)) dd_X9_readItem_85 rfl (by decide) fl_X9_186 (by decide) gs_s106 rfl ?_
              have b211 : (0 : Int) ≤ F202 106 18 ∧ F202 106 18 ≤ 120 := I203.1 106 18
              refine sA_iconst (z := 1) dd_X9_readItem_88 ?_
              refine sA_iadd dd_X9_readItem_89 ?_
              refine sA_put (ci := 9) (j := 18) (q := (RX9, TX9, 28)) (ty := .int) dd_X9_readItem_90 rfl (by decide) fl_X9_186 rfl (tyX9_ok 18 (by decide)) rfl rfl (by decide) gs_s106 rfl ?_
              have I213 : gs_I (gs_up F202 106 18 ((F202 106 18) + 1)) A195 := gs_I_put I203 (show (0 : Int) ≤ (F202 106 18) + 1 ∧ (F202 106 18) + 1 ≤ 120 by omega)
              have f214 := gs_fr_put f204 (a := 106) (z := (F202 106 18) + 1) (j := 18) (by first | omega | (dsimp only; omega) | (dsimp only))
              have v215 : gs_up F202 106 18 ((F202 106 18) + 1) 106 18 = (F202 106 18) + 1 := gs_up_self _ _ _ _
              have v216 : (gs_up F202 106 18 ((F202 106 18) + 1)) 106 17 = F202 106 17 := gs_up_ne _ _ (by omega)
              have v217 : (gs_up F202 106 18 ((F202 106 18) + 1)) 106 19 = F202 106 19 := gs_up_ne _ _ (by omega)
              have v218 : (gs_up F202 106 18 ((F202 106 18) + 1)) 106 24 = F202 106 24 := gs_up_ne _ _ (by omega)
              have v219 : (gs_up F202 106 18 ((F202 106 18) + 1)) 106 22 = F202 106 22 := gs_up_ne _ _ (by omega)
              have v220 : (gs_up F202 106 18 ((F202 106 18) + 1)) 106 0 = F202 106 0 := gs_up_ne _ _ (by omega)
              generalize gs_up F202 106 18 ((F202 106 18) + 1) = F212 at I213 f214 v215 v216 v217 v218 v219 v220 ⊢
              refine sA_goto (tgt := 130) dd_X9_readItem_93 (by decide) ?_
              refine sA_vret dd_X9_readItem_130 rfl ?_
              exact ⟨rfl, I213, f214, by omega⟩
          · skip
            refine sA_iconst (z := 1) dd_X9_readItem_44 ?_
            refine sA_goto (tgt := 49) dd_X9_readItem_45 (by decide) ?_
            refine sA_iconst (z := 4) dd_X9_readItem_49 ?_
            refine sA_aload_n dd_X9_readItem_50 rfl (.head _) ?_
            refine sA_geti (ci := 9) (j := 18) (q := (RX9, TX9, 28)) dd_X9_readItem_51 rfl (by decide) fl_X9_186 (by decide) gs_s106 rfl ?_
            refine sA_callV (y2 := m_X9_want) (n2 := 3) (d2 := 1) (a := 106) (ci := 9) (q := (RX9, TX9, 28)) (as := [gs_iv 1, gs_iv 4, gs_iv (F 106 18)]) (rest := []) dd_X9_readItem_54 ok_X9_want ml_X9_199 rfl rfl (by decide) gs_s106 rfl rfl (Nat.le_of_ble_eq_true rfl) (by decide) (c_X9_want hI (by omega) (by omega) (by omega)) (fun r221 F222 A223 h224 => ?_)
            obtain ⟨z227, e226, I228, f229, x225⟩ := h224
            subst e226
            have v230 : F222 106 18 = F 106 18 := f229.1 106 18 (by first | exact id | omega | (dsimp only; omega) | (dsimp only))
            have v231 : F222 106 17 = F 106 17 := f229.1 106 17 (by first | exact id | omega | (dsimp only; omega) | (dsimp only))
            have v233 : F222 106 24 = F 106 24 := f229.1 106 24 (by first | exact id | omega | (dsimp only; omega) | (dsimp only))
            have v234 : F222 106 22 = F 106 22 := f229.1 106 22 (by first | exact id | omega | (dsimp only; omega) | (dsimp only))
            have v235 : F222 106 0 = F 106 0 := f229.1 106 0 (by first | exact id | omega | (dsimp only; omega) | (dsimp only))
            have v236 : A223 117 0 = A 117 0 := congrFun (f229.2 117 (by first | exact id | omega | (dsimp only; omega) | (dsimp only))) _
            have v237 : A223 117 1 = A 117 1 := congrFun (f229.2 117 (by first | exact id | omega | (dsimp only; omega) | (dsimp only))) _
            have v238 : A223 117 2 = A 117 2 := congrFun (f229.2 117 (by first | exact id | omega | (dsimp only; omega) | (dsimp only))) _
            have v239 : A223 117 3 = A 117 3 := congrFun (f229.2 117 (by first | exact id | omega | (dsimp only; omega) | (dsimp only))) _
            have f240 := gs_fr_tr hf f229 (fun b j h => by first | exact False.elim h | omega | (dsimp only at h ⊢; omega)) (fun b h => by first | exact False.elim h | omega | (dsimp only at h ⊢; omega))
            show sA _ _ _ 57 _ [gs_iv z227] _ _
            refine sA_if_eq (tgt := 130) dd_X9_readItem_57 (by decide) (by omega) (fun q241 => ?_) (fun q241 => ?_)
            · skip
              refine sA_vret dd_X9_readItem_130 rfl ?_
              exact ⟨rfl, I228, f240, by omega⟩
            · skip
              refine sA_aload_n dd_X9_readItem_60 rfl (.head _) ?_
              refine sA_getr (ci := 9) (j := 21) (q := (RX9, TX9, 28)) dd_X9_readItem_61 rfl (by decide) fl_X9_44 (by decide) gs_s106 rfl ?_
              refine sA_aload_n dd_X9_readItem_64 rfl (.head _) ?_
              refine sA_geti (ci := 9) (j := 22) (q := (RX9, TX9, 28)) dd_X9_readItem_65 rfl (by decide) fl_X9_209 (by decide) gs_s106 rfl ?_
              have b242 : (0 : Int) ≤ F222 106 22 ∧ F222 106 22 ≤ 4 := I228.1 106 22
              refine sA_aload_n dd_X9_readItem_68 rfl (.head _) ?_
              refine sA_geti (ci := 9) (j := 24) (q := (RX9, TX9, 28)) dd_X9_readItem_69 rfl (by decide) fl_X9_206 (by decide) gs_s106 rfl ?_
              have b243 : (0 : Int) ≤ F222 106 24 ∧ F222 106 24 ≤ 60 := I228.1 106 24
              refine sA_iast (n := 4) dd_X9_readItem_72 (by decide) gs_s117 (by omega) (by decide) ?_
              have I245 : gs_I F222 (gs_up A223 117 ((F222 106 22).toNat) (F222 106 24)) := gs_I_ast I228 (show (0 : Int) ≤ F222 106 24 ∧ F222 106 24 ≤ 60 by omega)
              have f246 := gs_fr_ast f240 (a := 117) (z := F222 106 24) (i := (F222 106 22).toNat) (by first | omega | (dsimp only; omega) | (dsimp only))
              have v247 := gs_up_cs A223 117 ((F222 106 22).toNat) (F222 106 24) 0
              have v248 := gs_up_cs A223 117 ((F222 106 22).toNat) (F222 106 24) 1
              have v249 := gs_up_cs A223 117 ((F222 106 22).toNat) (F222 106 24) 2
              have v250 := gs_up_cs A223 117 ((F222 106 22).toNat) (F222 106 24) 3
              generalize gs_up A223 117 ((F222 106 22).toNat) (F222 106 24) = A244 at I245 f246 v247 v248 v249 v250 ⊢
              refine sA_aload_n dd_X9_readItem_73 rfl (.head _) ?_
              refine sA_dup dd_X9_readItem_74 rfl ?_
              refine sA_geti (ci := 9) (j := 22) (q := (RX9, TX9, 28)) dd_X9_readItem_75 rfl (by decide) fl_X9_209 (by decide) gs_s106 rfl ?_
              refine sA_iconst (z := 1) dd_X9_readItem_78 ?_
              refine sA_iadd dd_X9_readItem_79 ?_
              refine sA_put (ci := 9) (j := 22) (q := (RX9, TX9, 28)) (ty := .int) dd_X9_readItem_80 rfl (by decide) fl_X9_209 rfl (tyX9_ok 22 (by decide)) rfl rfl (by decide) gs_s106 rfl ?_
              have I252 : gs_I (gs_up F222 106 22 ((F222 106 22) + 1)) A244 := gs_I_put I245 (show (0 : Int) ≤ (F222 106 22) + 1 ∧ (F222 106 22) + 1 ≤ 4 by omega)
              have f253 := gs_fr_put f246 (a := 106) (z := (F222 106 22) + 1) (j := 22) (by first | omega | (dsimp only; omega) | (dsimp only))
              have v254 : gs_up F222 106 22 ((F222 106 22) + 1) 106 22 = (F222 106 22) + 1 := gs_up_self _ _ _ _
              have v255 : (gs_up F222 106 22 ((F222 106 22) + 1)) 106 18 = F222 106 18 := gs_up_ne _ _ (by omega)
              have v256 : (gs_up F222 106 22 ((F222 106 22) + 1)) 106 17 = F222 106 17 := gs_up_ne _ _ (by omega)
              have v257 : (gs_up F222 106 22 ((F222 106 22) + 1)) 106 19 = F222 106 19 := gs_up_ne _ _ (by omega)
              have v258 : (gs_up F222 106 22 ((F222 106 22) + 1)) 106 24 = F222 106 24 := gs_up_ne _ _ (by omega)
              have v259 : (gs_up F222 106 22 ((F222 106 22) + 1)) 106 0 = F222 106 0 := gs_up_ne _ _ (by omega)
              generalize gs_up F222 106 22 ((F222 106 22) + 1) = F251 at I252 f253 v254 v255 v256 v257 v258 v259 ⊢
              refine sA_aload_n dd_X9_readItem_83 rfl (.head _) ?_
              refine sA_dup dd_X9_readItem_84 rfl ?_
              refine sA_geti (ci := 9) (j := 18) (q := (RX9, TX9, 28)) dd_X9_readItem_85 rfl (by decide) fl_X9_186 (by decide) gs_s106 rfl ?_
              have b260 : (0 : Int) ≤ F251 106 18 ∧ F251 106 18 ≤ 120 := I252.1 106 18
              refine sA_iconst (z := 1) dd_X9_readItem_88 ?_
              refine sA_iadd dd_X9_readItem_89 ?_
              refine sA_put (ci := 9) (j := 18) (q := (RX9, TX9, 28)) (ty := .int) dd_X9_readItem_90 rfl (by decide) fl_X9_186 rfl (tyX9_ok 18 (by decide)) rfl rfl (by decide) gs_s106 rfl ?_
              have I262 : gs_I (gs_up F251 106 18 ((F251 106 18) + 1)) A244 := gs_I_put I252 (show (0 : Int) ≤ (F251 106 18) + 1 ∧ (F251 106 18) + 1 ≤ 120 by omega)
              have f263 := gs_fr_put f253 (a := 106) (z := (F251 106 18) + 1) (j := 18) (by first | omega | (dsimp only; omega) | (dsimp only))
              have v264 : gs_up F251 106 18 ((F251 106 18) + 1) 106 18 = (F251 106 18) + 1 := gs_up_self _ _ _ _
              have v265 : (gs_up F251 106 18 ((F251 106 18) + 1)) 106 17 = F251 106 17 := gs_up_ne _ _ (by omega)
              have v266 : (gs_up F251 106 18 ((F251 106 18) + 1)) 106 19 = F251 106 19 := gs_up_ne _ _ (by omega)
              have v267 : (gs_up F251 106 18 ((F251 106 18) + 1)) 106 24 = F251 106 24 := gs_up_ne _ _ (by omega)
              have v268 : (gs_up F251 106 18 ((F251 106 18) + 1)) 106 22 = F251 106 22 := gs_up_ne _ _ (by omega)
              have v269 : (gs_up F251 106 18 ((F251 106 18) + 1)) 106 0 = F251 106 0 := gs_up_ne _ _ (by omega)
              generalize gs_up F251 106 18 ((F251 106 18) + 1) = F261 at I262 f263 v264 v265 v266 v267 v268 v269 ⊢
              refine sA_goto (tgt := 130) dd_X9_readItem_93 (by decide) ?_
              refine sA_vret dd_X9_readItem_130 rfl ?_
              exact ⟨rfl, I262, f263, by omega⟩
      · skip
        refine sA_aload_n dd_X9_readItem_18 rfl (.head _) ?_
        refine sA_iload_n dd_X9_readItem_19 rfl (.tail _ (.head _)) ?_
        refine sA_bipush (z := 97) dd_X9_readItem_20 (by decide) ?_
        refine sA_isub dd_X9_readItem_22 ?_
        refine sA_callV (y2 := m_X9_readTwist) (n2 := 1) (d2 := 3) (a := 106) (ci := 9) (q := (RX9, TX9, 28)) (as := [gs_iv (c0 - 97)]) (rest := []) dd_X9_readItem_23 ok_X9_readTwist ml_X9_212 rfl rfl (by decide) gs_s106 rfl rfl (Nat.le_of_ble_eq_true rfl) (by decide) (c_X9_readTwist hI (by omega) (by omega)) (fun r270 F271 A272 h273 => ?_)
        obtain ⟨e275, I276, f277, x274⟩ := h273
        subst e275
        have v279 : F271 106 17 = F 106 17 := f277.1 106 17 (by first | exact id | omega | (dsimp only; omega) | (dsimp only))
        have v282 : F271 106 22 = F 106 22 := f277.1 106 22 (by first | exact id | omega | (dsimp only; omega) | (dsimp only))
        have v283 : F271 106 0 = F 106 0 := f277.1 106 0 (by first | exact id | omega | (dsimp only; omega) | (dsimp only))
        have v284 : A272 117 0 = A 117 0 := congrFun (f277.2 117 (by first | exact id | omega | (dsimp only; omega) | (dsimp only))) _
        have v285 : A272 117 1 = A 117 1 := congrFun (f277.2 117 (by first | exact id | omega | (dsimp only; omega) | (dsimp only))) _
        have v286 : A272 117 2 = A 117 2 := congrFun (f277.2 117 (by first | exact id | omega | (dsimp only; omega) | (dsimp only))) _
        have v287 : A272 117 3 = A 117 3 := congrFun (f277.2 117 (by first | exact id | omega | (dsimp only; omega) | (dsimp only))) _
        have f288 := gs_fr_tr hf f277 (fun b j h => by first | exact False.elim h | omega | (dsimp only at h ⊢; omega)) (fun b h => by first | exact False.elim h | omega | (dsimp only at h ⊢; omega))
        show sA _ _ _ 26 _ [] _ _
        refine sA_goto (tgt := 130) dd_X9_readItem_26 (by decide) ?_
        refine sA_vret dd_X9_readItem_130 rfl ?_
        exact ⟨rfl, I276, f288, by omega⟩
theorem dd_X9_read_0 : decode cX9_read 0 = .ok (.aload_n 0, 1) := by decide +kernel
theorem dd_X9_read_1 : decode cX9_read 1 = .ok (.iload_n 1, 1) := by decide +kernel
theorem dd_X9_read_2 : decode cX9_read 2 = .ok (.invokevirtual 218, 3) := by decide +kernel
theorem dd_X9_read_5 : decode cX9_read 5 = .ok (.ifCond .eq 7, 3) := by decide +kernel
theorem dd_X9_read_8 : decode cX9_read 8 = .ok (.sipush (-1001), 3) := by decide +kernel
theorem dd_X9_read_11 : decode cX9_read 11 = .ok (.ireturn, 1) := by decide +kernel
theorem dd_X9_read_12 : decode cX9_read 12 = .ok (.aload_n 0, 1) := by decide +kernel
theorem dd_X9_read_13 : decode cX9_read 13 = .ok (.iconst 0, 1) := by decide +kernel
theorem dd_X9_read_14 : decode cX9_read 14 = .ok (.putfield 186, 3) := by decide +kernel
theorem dd_X9_read_17 : decode cX9_read 17 = .ok (.aload_n 0, 1) := by decide +kernel
theorem dd_X9_read_18 : decode cX9_read 18 = .ok (.iconst 0, 1) := by decide +kernel
theorem dd_X9_read_19 : decode cX9_read 19 = .ok (.putfield 189, 3) := by decide +kernel
theorem dd_X9_read_22 : decode cX9_read 22 = .ok (.aload_n 0, 1) := by decide +kernel
theorem dd_X9_read_23 : decode cX9_read 23 = .ok (.iconst (-1), 1) := by decide +kernel
theorem dd_X9_read_24 : decode cX9_read 24 = .ok (.putfield 40, 3) := by decide +kernel
theorem dd_X9_read_27 : decode cX9_read 27 = .ok (.aload_n 0, 1) := by decide +kernel
theorem dd_X9_read_28 : decode cX9_read 28 = .ok (.iconst 0, 1) := by decide +kernel
theorem dd_X9_read_29 : decode cX9_read 29 = .ok (.putfield 209, 3) := by decide +kernel
theorem dd_X9_read_32 : decode cX9_read 32 = .ok (.aload_n 0, 1) := by decide +kernel
theorem dd_X9_read_33 : decode cX9_read 33 = .ok (.iconst 0, 1) := by decide +kernel
theorem dd_X9_read_34 : decode cX9_read 34 = .ok (.putfield 206, 3) := by decide +kernel
theorem dd_X9_read_37 : decode cX9_read 37 = .ok (.aload_n 0, 1) := by decide +kernel
theorem dd_X9_read_38 : decode cX9_read 38 = .ok (.invokevirtual 192, 3) := by decide +kernel
theorem dd_X9_read_41 : decode cX9_read 41 = .ok (.istore_n 2, 1) := by decide +kernel
theorem dd_X9_read_42 : decode cX9_read 42 = .ok (.aload_n 0, 1) := by decide +kernel
theorem dd_X9_read_43 : decode cX9_read 43 = .ok (.getfield 189, 3) := by decide +kernel
theorem dd_X9_read_46 : decode cX9_read 46 = .ok (.ifCond .ne 20, 3) := by decide +kernel
theorem dd_X9_read_49 : decode cX9_read 49 = .ok (.iload_n 2, 1) := by decide +kernel
theorem dd_X9_read_50 : decode cX9_read 50 = .ok (.ifCond .lt 16, 3) := by decide +kernel
theorem dd_X9_read_53 : decode cX9_read 53 = .ok (.aload_n 0, 1) := by decide +kernel
theorem dd_X9_read_54 : decode cX9_read 54 = .ok (.iload_n 2, 1) := by decide +kernel
theorem dd_X9_read_55 : decode cX9_read 55 = .ok (.invokevirtual 221, 3) := by decide +kernel
theorem dd_X9_read_58 : decode cX9_read 58 = .ok (.aload_n 0, 1) := by decide +kernel
theorem dd_X9_read_59 : decode cX9_read 59 = .ok (.invokevirtual 192, 3) := by decide +kernel
theorem dd_X9_read_62 : decode cX9_read 62 = .ok (.istore_n 2, 1) := by decide +kernel
theorem dd_X9_read_63 : decode cX9_read 63 = .ok (.goto (-21), 3) := by decide +kernel
theorem dd_X9_read_66 : decode cX9_read 66 = .ok (.aload_n 0, 1) := by decide +kernel
theorem dd_X9_read_67 : decode cX9_read 67 = .ok (.aload_n 0, 1) := by decide +kernel
theorem dd_X9_read_68 : decode cX9_read 68 = .ok (.getfield 209, 3) := by decide +kernel
theorem dd_X9_read_71 : decode cX9_read 71 = .ok (.ifCond .ne 7, 3) := by decide +kernel
theorem dd_X9_read_74 : decode cX9_read 74 = .ok (.iconst 1, 1) := by decide +kernel
theorem dd_X9_read_75 : decode cX9_read 75 = .ok (.goto 4, 3) := by decide +kernel
theorem dd_X9_read_78 : decode cX9_read 78 = .ok (.iconst 0, 1) := by decide +kernel
theorem dd_X9_read_79 : decode cX9_read 79 = .ok (.iconst 1, 1) := by decide +kernel
theorem dd_X9_read_80 : decode cX9_read 80 = .ok (.aload_n 0, 1) := by decide +kernel
theorem dd_X9_read_81 : decode cX9_read 81 = .ok (.getfield 181, 3) := by decide +kernel
theorem dd_X9_read_84 : decode cX9_read 84 = .ok (.invokevirtual 199, 3) := by decide +kernel
theorem dd_X9_read_87 : decode cX9_read 87 = .ok (.istore_n 3, 1) := by decide +kernel
theorem dd_X9_read_88 : decode cX9_read 88 = .ok (.aload_n 0, 1) := by decide +kernel
theorem dd_X9_read_89 : decode cX9_read 89 = .ok (.iconst 0, 1) := by decide +kernel
theorem dd_X9_read_90 : decode cX9_read 90 = .ok (.putfield 181, 3) := by decide +kernel
theorem dd_X9_read_93 : decode cX9_read 93 = .ok (.aload_n 0, 1) := by decide +kernel
theorem dd_X9_read_94 : decode cX9_read 94 = .ok (.getfield 189, 3) := by decide +kernel
theorem dd_X9_read_97 : decode cX9_read 97 = .ok (.ifCond .le 11, 3) := by decide +kernel
theorem dd_X9_read_100 : decode cX9_read 100 = .ok (.bipush (-10), 2) := by decide +kernel
theorem dd_X9_read_102 : decode cX9_read 102 = .ok (.aload_n 0, 1) := by decide +kernel
theorem dd_X9_read_103 : decode cX9_read 103 = .ok (.getfield 189, 3) := by decide +kernel
theorem dd_X9_read_106 : decode cX9_read 106 = .ok (.isub, 1) := by decide +kernel
theorem dd_X9_read_107 : decode cX9_read 107 = .ok (.ireturn, 1) := by decide +kernel
theorem dd_X9_read_108 : decode cX9_read 108 = .ok (.aload_n 0, 1) := by decide +kernel
theorem dd_X9_read_109 : decode cX9_read 109 = .ok (.getfield 19, 3) := by decide +kernel
theorem dd_X9_read_112 : decode cX9_read 112 = .ok (.iload_n 1, 1) := by decide +kernel
theorem dd_X9_read_113 : decode cX9_read 113 = .ok (.aload_n 0, 1) := by decide +kernel
theorem dd_X9_read_114 : decode cX9_read 114 = .ok (.getfield 206, 3) := by decide +kernel
theorem dd_X9_read_117 : decode cX9_read 117 = .ok (.iastore, 1) := by decide +kernel
theorem dd_X9_read_118 : decode cX9_read 118 = .ok (.iconst 0, 1) := by decide +kernel
theorem dd_X9_read_119 : decode cX9_read 119 = .ok (.istore 4, 2) := by decide +kernel
theorem dd_X9_read_121 : decode cX9_read 121 = .ok (.iload 4, 2) := by decide +kernel
theorem dd_X9_read_123 : decode cX9_read 123 = .ok (.aload_n 0, 1) := by decide +kernel
theorem dd_X9_read_124 : decode cX9_read 124 = .ok (.getfield 206, 3) := by decide +kernel
theorem dd_X9_read_127 : decode cX9_read 127 = .ok (.if_icmp .ge 28, 3) := by decide +kernel
theorem dd_X9_read_130 : decode cX9_read 130 = .ok (.aload_n 0, 1) := by decide +kernel
theorem dd_X9_read_131 : decode cX9_read 131 = .ok (.getfield 22, 3) := by decide +kernel
theorem dd_X9_read_134 : decode cX9_read 134 = .ok (.bipush 60, 2) := by decide +kernel
theorem dd_X9_read_136 : decode cX9_read 136 = .ok (.iload_n 1, 1) := by decide +kernel
theorem dd_X9_read_137 : decode cX9_read 137 = .ok (.imul, 1) := by decide +kernel
theorem dd_X9_read_138 : decode cX9_read 138 = .ok (.iload 4, 2) := by decide +kernel
theorem dd_X9_read_140 : decode cX9_read 140 = .ok (.iadd, 1) := by decide +kernel
theorem dd_X9_read_141 : decode cX9_read 141 = .ok (.aload_n 0, 1) := by decide +kernel
theorem dd_X9_read_142 : decode cX9_read 142 = .ok (.getfield 47, 3) := by decide +kernel
theorem dd_X9_read_145 : decode cX9_read 145 = .ok (.iload 4, 2) := by decide +kernel
theorem dd_X9_read_147 : decode cX9_read 147 = .ok (.iaload, 1) := by decide +kernel
theorem dd_X9_read_148 : decode cX9_read 148 = .ok (.iastore, 1) := by decide +kernel
theorem dd_X9_read_149 : decode cX9_read 149 = .ok (.iinc 4 1, 3) := by decide +kernel
theorem dd_X9_read_152 : decode cX9_read 152 = .ok (.goto (-31), 3) := by decide +kernel
theorem dd_X9_read_155 : decode cX9_read 155 = .ok (.aload_n 0, 1) := by decide +kernel
theorem dd_X9_read_156 : decode cX9_read 156 = .ok (.getfield 206, 3) := by decide +kernel
theorem dd_X9_read_159 : decode cX9_read 159 = .ok (.ireturn, 1) := by decide +kernel
theorem ml_X9_218 : Cond.methodLink RX9 218 m_X9_noPlan.1 ∈ am_tbl := ri_lw_in (pl := 997) (by decide +kernel)
theorem ml_X9_221 : Cond.methodLink RX9 221 m_X9_readItem.1 ∈ am_tbl := ri_lw_in (pl := 1006) (by decide +kernel)
theorem ok_X9_read : am_okM m_X9_read 1 ∧ Cond.instanceMethod m_X9_read.1 ∈ am_tbl ∧ Cond.selects m_X9_read.1.cls m_X9_read.1 m_X9_read.1 ∈ am_tbl := ri_mk1 996 93 994 995 (by decide +kernel)
theorem k_X9_read {p : Int} {F A : gs_F} (hI : gs_I F A) (hp : -2147483648 ≤ p ∧ p ≤ 2147483647) : ∀ nN : Nat, (∀ (c0 : Int)  (F1 A1 : gs_F), gs_I F1 A1 → gs_fr (fun c j => c = 106 ∧ (17 ≤ j ∧ j ≤ 24)) (fun c => c = 110 ∨ c = 111 ∨ c = 117 ∨ c = 118) F A F1 A1 → 0 ≤ p ∧ p ≤ 7 → -2147483648 ≤ c0 ∧ c0 ≤ 2147483647 → (0 ≤ c0 → F1 106 18 < F1 106 17) → ((0 < F1 106 22 → A1 117 0 ≤ F1 106 24) ∧ (1 < F1 106 22 → A1 117 1 ≤ F1 106 24) ∧ (2 < F1 106 22 → A1 117 2 ≤ F1 106 24) ∧ (3 < F1 106 22 → A1 117 3 ≤ F1 106 24)) → F1 106 18 ≤ 120 ∧ F1 106 19 ≤ 4 → (121 - F1 106 18) + (5 - F1 106 19) + 100 < (nN : Int) → sA m_X9_read 5 (fun rv F' A' => ∃ z : Int, rv = some (gs_iv z) ∧ gs_I F' A' ∧ gs_fr (fun c j => c = 106 ∧ (17 ≤ j ∧ j ≤ 24)) (fun c => c = 110 ∨ c = 111 ∨ c = 117 ∨ c = 118) F A F' A' ∧ (((p < 0 ∨ 7 < p) ∧ F' 106 17 = F 106 17) ∨ (0 ≤ p ∧ p ≤ 7 ∧ F' 106 17 = 0))) 42 [(2, gs_iv c0), (0, .ref 106), (1, gs_iv p)] [] F1 A1) ∧ (∀ (k : Int)  (F1 A1 : gs_F), gs_I F1 A1 → gs_fr (fun c j => c = 106 ∧ (17 ≤ j ∧ j ≤ 24)) (fun c => c = 110 ∨ c = 111 ∨ c = 117 ∨ c = 118) F A F1 A1 → 0 ≤ p ∧ p ≤ 7 → 0 ≤ k ∧ k ≤ F1 106 24 → F1 106 17 = 0 → F1 106 24 - k < (nN : Int) → sA m_X9_read 5 (fun rv F' A' => ∃ z : Int, rv = some (gs_iv z) ∧ gs_I F' A' ∧ gs_fr (fun c j => c = 106 ∧ (17 ≤ j ∧ j ≤ 24)) (fun c => c = 110 ∨ c = 111 ∨ c = 117 ∨ c = 118) F A F' A' ∧ (((p < 0 ∨ 7 < p) ∧ F' 106 17 = F 106 17) ∨ (0 ≤ p ∧ p ≤ 7 ∧ F' 106 17 = 0))) 121 [(4, gs_iv k), (0, .ref 106), (1, gs_iv p)] [] F1 A1) := by
  intro nN
  induction nN with
  | zero =>
    exact ⟨fun a0 a1 a2 a3 a4 i0 i1 i2 i3 i4 hm => by exfalso; omega, fun a0 a1 a2 a3 a4 i0 i1 i2 hm => by exfalso; omega⟩
  | succ nN ih =>
    refine ⟨?_, ?_⟩
    · skip
      intro c0 F1 A1 hI1 hf1 i0 i1 i2 i3 i4 hm
      have b1 : (0 : Int) ≤ F1 106 18 ∧ F1 106 18 ≤ 120 := hI1.1 106 18
      have b2 : (0 : Int) ≤ F1 106 17 ∧ F1 106 17 ≤ 120 := hI1.1 106 17
      have b3 : (0 : Int) ≤ F1 106 19 ∧ F1 106 19 ≤ 4 := hI1.1 106 19
      have b4 : (0 : Int) ≤ F1 106 24 ∧ F1 106 24 ≤ 60 := hI1.1 106 24
      have b5 : (0 : Int) ≤ F1 106 22 ∧ F1 106 22 ≤ 4 := hI1.1 106 22
      have b6 : (1 : Int) ≤ F1 106 0 ∧ F1 106 0 ≤ 3 := hI1.1 106 0
      have hb22 : (0 : Int) ≤ F1 106 22 ∧ F1 106 22 ≤ 4 := hI1.1 106 22
      have hb17 : (0 : Int) ≤ F1 106 17 ∧ F1 106 17 ≤ 120 := hI1.1 106 17
      have hb18 : (0 : Int) ≤ F1 106 18 ∧ F1 106 18 ≤ 120 := hI1.1 106 18
      have hb19 : (0 : Int) ≤ F1 106 19 ∧ F1 106 19 ≤ 4 := hI1.1 106 19
      refine sA_aload_n dd_X9_read_42 rfl (.tail _ (.head _)) ?_
      refine sA_geti (ci := 9) (j := 19) (q := (RX9, TX9, 28)) dd_X9_read_43 rfl (by decide) fl_X9_189 (by decide) gs_s106 rfl ?_
      refine sA_if_ne (tgt := 66) dd_X9_read_46 (by decide) (by omega) (fun q7 => ?_) (fun q7 => ?_)
      · skip
        refine sA_aload_n dd_X9_read_66 rfl (.tail _ (.head _)) ?_
        refine sA_aload_n dd_X9_read_67 rfl (.tail _ (.head _)) ?_
        refine sA_geti (ci := 9) (j := 22) (q := (RX9, TX9, 28)) dd_X9_read_68 rfl (by decide) fl_X9_209 (by decide) gs_s106 rfl ?_
        refine sA_if_ne (tgt := 78) dd_X9_read_71 (by decide) (by omega) (fun q8 => ?_) (fun q8 => ?_)
        · skip
          refine sA_iconst (z := 0) dd_X9_read_78 ?_
          refine sA_iconst (z := 1) dd_X9_read_79 ?_
          refine sA_aload_n dd_X9_read_80 rfl (.tail _ (.head _)) ?_
          refine sA_geti (ci := 9) (j := 17) (q := (RX9, TX9, 28)) dd_X9_read_81 rfl (by decide) fl_X9_181 (by decide) gs_s106 rfl ?_
          refine sA_callV (y2 := m_X9_want) (n2 := 3) (d2 := 1) (a := 106) (ci := 9) (q := (RX9, TX9, 28)) (as := [gs_iv 0, gs_iv 1, gs_iv (F1 106 17)]) (rest := []) dd_X9_read_84 ok_X9_want ml_X9_199 rfl rfl (by decide) gs_s106 rfl rfl (Nat.le_of_ble_eq_true rfl) (by decide) (c_X9_want hI1 (by omega) (by omega) (by omega)) (fun r9 F10 A11 h12 => ?_)
          obtain ⟨z15, e14, I16, f17, x13⟩ := h12
          subst e14
          have v18 : F10 106 18 = F1 106 18 := f17.1 106 18 (by first | exact id | omega | (dsimp only; omega) | (dsimp only))
          have v19 : F10 106 17 = F1 106 17 := f17.1 106 17 (by first | exact id | omega | (dsimp only; omega) | (dsimp only))
          have v21 : F10 106 24 = F1 106 24 := f17.1 106 24 (by first | exact id | omega | (dsimp only; omega) | (dsimp only))
          have v22 : F10 106 22 = F1 106 22 := f17.1 106 22 (by first | exact id | omega | (dsimp only; omega) | (dsimp only))
          have v23 : F10 106 0 = F1 106 0 := f17.1 106 0 (by first | exact id | omega | (dsimp only; omega) | (dsimp only))
          have v24 : A11 117 0 = A1 117 0 := congrFun (f17.2 117 (by first | exact id | omega | (dsimp only; omega) | (dsimp only))) _
          have v25 : A11 117 1 = A1 117 1 := congrFun (f17.2 117 (by first | exact id | omega | (dsimp only; omega) | (dsimp only))) _
          have v26 : A11 117 2 = A1 117 2 := congrFun (f17.2 117 (by first | exact id | omega | (dsimp only; omega) | (dsimp only))) _
          have v27 : A11 117 3 = A1 117 3 := congrFun (f17.2 117 (by first | exact id | omega | (dsimp only; omega) | (dsimp only))) _
          have f28 := gs_fr_tr hf1 f17 (fun b j h => by first | exact False.elim h | omega | (dsimp only at h ⊢; omega)) (fun b h => by first | exact False.elim h | omega | (dsimp only at h ⊢; omega))
          show sA _ _ _ 87 _ [gs_iv z15] _ _
          refine sA_istore_n (lv' := [(3, gs_iv z15), (2, gs_iv c0), (0, .ref 106), (1, gs_iv p)]) dd_X9_read_87 rfl (by decide) rfl ?_
          refine sA_aload_n dd_X9_read_88 rfl (.tail _ (.tail _ (.head _))) ?_
          refine sA_iconst (z := 0) dd_X9_read_89 ?_
          refine sA_put (ci := 9) (j := 17) (q := (RX9, TX9, 28)) (ty := .int) dd_X9_read_90 rfl (by decide) fl_X9_181 rfl (tyX9_ok 17 (by decide)) rfl rfl (by decide) gs_s106 rfl ?_
          have I30 : gs_I (gs_up F10 106 17 0) A11 := gs_I_put I16 (show (0 : Int) ≤ 0 ∧ 0 ≤ 120 by omega)
          have f31 := gs_fr_put f28 (a := 106) (z := 0) (j := 17) (by first | omega | (dsimp only; omega) | (dsimp only))
          have v32 : gs_up F10 106 17 0 106 17 = 0 := gs_up_self _ _ _ _
          have v33 : (gs_up F10 106 17 0) 106 18 = F10 106 18 := gs_up_ne _ _ (by omega)
          have v34 : (gs_up F10 106 17 0) 106 19 = F10 106 19 := gs_up_ne _ _ (by omega)
          have v35 : (gs_up F10 106 17 0) 106 24 = F10 106 24 := gs_up_ne _ _ (by omega)
          have v36 : (gs_up F10 106 17 0) 106 22 = F10 106 22 := gs_up_ne _ _ (by omega)
          have v37 : (gs_up F10 106 17 0) 106 0 = F10 106 0 := gs_up_ne _ _ (by omega)
          generalize gs_up F10 106 17 0 = F29 at I30 f31 v32 v33 v34 v35 v36 v37 ⊢
          refine sA_aload_n dd_X9_read_93 rfl (.tail _ (.tail _ (.head _))) ?_
          refine sA_geti (ci := 9) (j := 19) (q := (RX9, TX9, 28)) dd_X9_read_94 rfl (by decide) fl_X9_189 (by decide) gs_s106 rfl ?_
          have b38 : (0 : Int) ≤ F29 106 19 ∧ F29 106 19 ≤ 4 := I30.1 106 19
          refine sA_if_le (tgt := 108) dd_X9_read_97 (by decide) (by omega) (fun q39 => ?_) (fun q39 => ?_)
          · skip
            refine sA_aload_n dd_X9_read_108 rfl (.tail _ (.tail _ (.head _))) ?_
            refine sA_getr (ci := 9) (j := 6) (q := (RX9, TX9, 28)) dd_X9_read_109 rfl (by decide) fl_X9_19 (by decide) gs_s106 rfl ?_
            refine sA_iload_n dd_X9_read_112 rfl (.tail _ (.tail _ (.tail _ (.head _)))) ?_
            refine sA_aload_n dd_X9_read_113 rfl (.tail _ (.tail _ (.head _))) ?_
            refine sA_geti (ci := 9) (j := 24) (q := (RX9, TX9, 28)) dd_X9_read_114 rfl (by decide) fl_X9_206 (by decide) gs_s106 rfl ?_
            have b40 : (0 : Int) ≤ F29 106 24 ∧ F29 106 24 ≤ 60 := I30.1 106 24
            refine sA_iast (n := 9) dd_X9_read_117 (by decide) gs_s110 (by omega) (by decide) ?_
            have I42 : gs_I F29 (gs_up A11 110 p.toNat (F29 106 24)) := gs_I_ast I30 (show (0 : Int) ≤ F29 106 24 ∧ F29 106 24 ≤ 60 by omega)
            have f43 := gs_fr_ast f31 (a := 110) (z := F29 106 24) (i := p.toNat) (by first | omega | (dsimp only; omega) | (dsimp only))
            have v44 : (gs_up A11 110 p.toNat (F29 106 24)) 117 0 = A11 117 0 := gs_up_ne _ _ (by omega)
            have v45 : (gs_up A11 110 p.toNat (F29 106 24)) 117 1 = A11 117 1 := gs_up_ne _ _ (by omega)
            have v46 : (gs_up A11 110 p.toNat (F29 106 24)) 117 2 = A11 117 2 := gs_up_ne _ _ (by omega)
            have v47 : (gs_up A11 110 p.toNat (F29 106 24)) 117 3 = A11 117 3 := gs_up_ne _ _ (by omega)
            generalize gs_up A11 110 p.toNat (F29 106 24) = A41 at I42 f43 v44 v45 v46 v47 ⊢
            refine sA_iconst (z := 0) dd_X9_read_118 ?_
            refine sA_istore (lv' := [(4, gs_iv 0), (3, gs_iv z15), (2, gs_iv c0), (0, .ref 106), (1, gs_iv p)]) dd_X9_read_119 (by decide) rfl ?_
            have b48 : (0 : Int) ≤ F29 106 18 ∧ F29 106 18 ≤ 120 := I42.1 106 18
            have b49 : (0 : Int) ≤ F29 106 17 ∧ F29 106 17 ≤ 120 := I42.1 106 17
            have b50 : (0 : Int) ≤ F29 106 22 ∧ F29 106 22 ≤ 4 := I42.1 106 22
            have b51 : (1 : Int) ≤ F29 106 0 ∧ F29 106 0 ≤ 3 := I42.1 106 0
            refine sA_sub (lv2 := [(4, gs_iv 0), (0, .ref 106), (1, gs_iv p)]) (List.forall_mem_cons.mpr ⟨(.head _), (List.forall_mem_cons.mpr ⟨(.tail _ (.tail _ (.tail _ (.head _)))), (List.forall_mem_cons.mpr ⟨(.tail _ (.tail _ (.tail _ (.tail _ (.head _))))), (fun _ h => absurd h List.not_mem_nil)⟩)⟩)⟩) ?_
            exact ih.2 0 F29 A41 I42 f43 (by omega) (by omega) (by omega) (by omega)
          · skip
            refine sA_bipush (z := (-10)) dd_X9_read_100 (by decide) ?_
            refine sA_aload_n dd_X9_read_102 rfl (.tail _ (.tail _ (.head _))) ?_
            refine sA_geti (ci := 9) (j := 19) (q := (RX9, TX9, 28)) dd_X9_read_103 rfl (by decide) fl_X9_189 (by decide) gs_s106 rfl ?_
            refine sA_isub dd_X9_read_106 ?_
            refine sA_iret (z := (-10) - (F29 106 19)) dd_X9_read_107 rfl ?_
            exact ⟨_, rfl, I30, f31, by omega⟩
        · skip
          refine sA_iconst (z := 1) dd_X9_read_74 ?_
          refine sA_goto (tgt := 79) dd_X9_read_75 (by decide) ?_
          refine sA_iconst (z := 1) dd_X9_read_79 ?_
          refine sA_aload_n dd_X9_read_80 rfl (.tail _ (.head _)) ?_
          refine sA_geti (ci := 9) (j := 17) (q := (RX9, TX9, 28)) dd_X9_read_81 rfl (by decide) fl_X9_181 (by decide) gs_s106 rfl ?_
          refine sA_callV (y2 := m_X9_want) (n2 := 3) (d2 := 1) (a := 106) (ci := 9) (q := (RX9, TX9, 28)) (as := [gs_iv 1, gs_iv 1, gs_iv (F1 106 17)]) (rest := []) dd_X9_read_84 ok_X9_want ml_X9_199 rfl rfl (by decide) gs_s106 rfl rfl (Nat.le_of_ble_eq_true rfl) (by decide) (c_X9_want hI1 (by omega) (by omega) (by omega)) (fun r52 F53 A54 h55 => ?_)
          obtain ⟨z58, e57, I59, f60, x56⟩ := h55
          subst e57
          have v61 : F53 106 18 = F1 106 18 := f60.1 106 18 (by first | exact id | omega | (dsimp only; omega) | (dsimp only))
          have v62 : F53 106 17 = F1 106 17 := f60.1 106 17 (by first | exact id | omega | (dsimp only; omega) | (dsimp only))
          have v64 : F53 106 24 = F1 106 24 := f60.1 106 24 (by first | exact id | omega | (dsimp only; omega) | (dsimp only))
          have v65 : F53 106 22 = F1 106 22 := f60.1 106 22 (by first | exact id | omega | (dsimp only; omega) | (dsimp only))
          have v66 : F53 106 0 = F1 106 0 := f60.1 106 0 (by first | exact id | omega | (dsimp only; omega) | (dsimp only))
          have v67 : A54 117 0 = A1 117 0 := congrFun (f60.2 117 (by first | exact id | omega | (dsimp only; omega) | (dsimp only))) _
          have v68 : A54 117 1 = A1 117 1 := congrFun (f60.2 117 (by first | exact id | omega | (dsimp only; omega) | (dsimp only))) _
          have v69 : A54 117 2 = A1 117 2 := congrFun (f60.2 117 (by first | exact id | omega | (dsimp only; omega) | (dsimp only))) _
          have v70 : A54 117 3 = A1 117 3 := congrFun (f60.2 117 (by first | exact id | omega | (dsimp only; omega) | (dsimp only))) _
          have f71 := gs_fr_tr hf1 f60 (fun b j h => by first | exact False.elim h | omega | (dsimp only at h ⊢; omega)) (fun b h => by first | exact False.elim h | omega | (dsimp only at h ⊢; omega))
          show sA _ _ _ 87 _ [gs_iv z58] _ _
          refine sA_istore_n (lv' := [(3, gs_iv z58), (2, gs_iv c0), (0, .ref 106), (1, gs_iv p)]) dd_X9_read_87 rfl (by decide) rfl ?_
          refine sA_aload_n dd_X9_read_88 rfl (.tail _ (.tail _ (.head _))) ?_
          refine sA_iconst (z := 0) dd_X9_read_89 ?_
          refine sA_put (ci := 9) (j := 17) (q := (RX9, TX9, 28)) (ty := .int) dd_X9_read_90 rfl (by decide) fl_X9_181 rfl (tyX9_ok 17 (by decide)) rfl rfl (by decide) gs_s106 rfl ?_
          have I73 : gs_I (gs_up F53 106 17 0) A54 := gs_I_put I59 (show (0 : Int) ≤ 0 ∧ 0 ≤ 120 by omega)
          have f74 := gs_fr_put f71 (a := 106) (z := 0) (j := 17) (by first | omega | (dsimp only; omega) | (dsimp only))
          have v75 : gs_up F53 106 17 0 106 17 = 0 := gs_up_self _ _ _ _
          have v76 : (gs_up F53 106 17 0) 106 18 = F53 106 18 := gs_up_ne _ _ (by omega)
          have v77 : (gs_up F53 106 17 0) 106 19 = F53 106 19 := gs_up_ne _ _ (by omega)
          have v78 : (gs_up F53 106 17 0) 106 24 = F53 106 24 := gs_up_ne _ _ (by omega)
          have v79 : (gs_up F53 106 17 0) 106 22 = F53 106 22 := gs_up_ne _ _ (by omega)
          have v80 : (gs_up F53 106 17 0) 106 0 = F53 106 0 := gs_up_ne _ _ (by omega)
          generalize gs_up F53 106 17 0 = F72 at I73 f74 v75 v76 v77 v78 v79 v80 ⊢
          refine sA_aload_n dd_X9_read_93 rfl (.tail _ (.tail _ (.head _))) ?_
          refine sA_geti (ci := 9) (j := 19) (q := (RX9, TX9, 28)) dd_X9_read_94 rfl (by decide) fl_X9_189 (by decide) gs_s106 rfl ?_
          have b81 : (0 : Int) ≤ F72 106 19 ∧ F72 106 19 ≤ 4 := I73.1 106 19
          refine sA_if_le (tgt := 108) dd_X9_read_97 (by decide) (by omega) (fun q82 => ?_) (fun q82 => ?_)
          · skip
            refine sA_aload_n dd_X9_read_108 rfl (.tail _ (.tail _ (.head _))) ?_
            refine sA_getr (ci := 9) (j := 6) (q := (RX9, TX9, 28)) dd_X9_read_109 rfl (by decide) fl_X9_19 (by decide) gs_s106 rfl ?_
            refine sA_iload_n dd_X9_read_112 rfl (.tail _ (.tail _ (.tail _ (.head _)))) ?_
            refine sA_aload_n dd_X9_read_113 rfl (.tail _ (.tail _ (.head _))) ?_
            refine sA_geti (ci := 9) (j := 24) (q := (RX9, TX9, 28)) dd_X9_read_114 rfl (by decide) fl_X9_206 (by decide) gs_s106 rfl ?_
            have b83 : (0 : Int) ≤ F72 106 24 ∧ F72 106 24 ≤ 60 := I73.1 106 24
            refine sA_iast (n := 9) dd_X9_read_117 (by decide) gs_s110 (by omega) (by decide) ?_
            have I85 : gs_I F72 (gs_up A54 110 p.toNat (F72 106 24)) := gs_I_ast I73 (show (0 : Int) ≤ F72 106 24 ∧ F72 106 24 ≤ 60 by omega)
            have f86 := gs_fr_ast f74 (a := 110) (z := F72 106 24) (i := p.toNat) (by first | omega | (dsimp only; omega) | (dsimp only))
            have v87 : (gs_up A54 110 p.toNat (F72 106 24)) 117 0 = A54 117 0 := gs_up_ne _ _ (by omega)
            have v88 : (gs_up A54 110 p.toNat (F72 106 24)) 117 1 = A54 117 1 := gs_up_ne _ _ (by omega)
            have v89 : (gs_up A54 110 p.toNat (F72 106 24)) 117 2 = A54 117 2 := gs_up_ne _ _ (by omega)
            have v90 : (gs_up A54 110 p.toNat (F72 106 24)) 117 3 = A54 117 3 := gs_up_ne _ _ (by omega)
            generalize gs_up A54 110 p.toNat (F72 106 24) = A84 at I85 f86 v87 v88 v89 v90 ⊢
            refine sA_iconst (z := 0) dd_X9_read_118 ?_
            refine sA_istore (lv' := [(4, gs_iv 0), (3, gs_iv z58), (2, gs_iv c0), (0, .ref 106), (1, gs_iv p)]) dd_X9_read_119 (by decide) rfl ?_
            have b91 : (0 : Int) ≤ F72 106 18 ∧ F72 106 18 ≤ 120 := I85.1 106 18
            have b92 : (0 : Int) ≤ F72 106 17 ∧ F72 106 17 ≤ 120 := I85.1 106 17
            have b93 : (0 : Int) ≤ F72 106 22 ∧ F72 106 22 ≤ 4 := I85.1 106 22
            have b94 : (1 : Int) ≤ F72 106 0 ∧ F72 106 0 ≤ 3 := I85.1 106 0
            refine sA_sub (lv2 := [(4, gs_iv 0), (0, .ref 106), (1, gs_iv p)]) (List.forall_mem_cons.mpr ⟨(.head _), (List.forall_mem_cons.mpr ⟨(.tail _ (.tail _ (.tail _ (.head _)))), (List.forall_mem_cons.mpr ⟨(.tail _ (.tail _ (.tail _ (.tail _ (.head _))))), (fun _ h => absurd h List.not_mem_nil)⟩)⟩)⟩) ?_
            exact ih.2 0 F72 A84 I85 f86 (by omega) (by omega) (by omega) (by omega)
          · skip
            refine sA_bipush (z := (-10)) dd_X9_read_100 (by decide) ?_
            refine sA_aload_n dd_X9_read_102 rfl (.tail _ (.tail _ (.head _))) ?_
            refine sA_geti (ci := 9) (j := 19) (q := (RX9, TX9, 28)) dd_X9_read_103 rfl (by decide) fl_X9_189 (by decide) gs_s106 rfl ?_
            refine sA_isub dd_X9_read_106 ?_
            refine sA_iret (z := (-10) - (F72 106 19)) dd_X9_read_107 rfl ?_
            exact ⟨_, rfl, I73, f74, by omega⟩
      · skip
        refine sA_iload_n dd_X9_read_49 rfl (.head _) ?_
        refine sA_if_lt (tgt := 66) dd_X9_read_50 (by decide) (by omega) (fun q95 => ?_) (fun q95 => ?_)
        · skip
          refine sA_aload_n dd_X9_read_66 rfl (.tail _ (.head _)) ?_
          refine sA_aload_n dd_X9_read_67 rfl (.tail _ (.head _)) ?_
          refine sA_geti (ci := 9) (j := 22) (q := (RX9, TX9, 28)) dd_X9_read_68 rfl (by decide) fl_X9_209 (by decide) gs_s106 rfl ?_
          refine sA_if_ne (tgt := 78) dd_X9_read_71 (by decide) (by omega) (fun q96 => ?_) (fun q96 => ?_)
          · skip
            refine sA_iconst (z := 0) dd_X9_read_78 ?_
            refine sA_iconst (z := 1) dd_X9_read_79 ?_
            refine sA_aload_n dd_X9_read_80 rfl (.tail _ (.head _)) ?_
            refine sA_geti (ci := 9) (j := 17) (q := (RX9, TX9, 28)) dd_X9_read_81 rfl (by decide) fl_X9_181 (by decide) gs_s106 rfl ?_
            refine sA_callV (y2 := m_X9_want) (n2 := 3) (d2 := 1) (a := 106) (ci := 9) (q := (RX9, TX9, 28)) (as := [gs_iv 0, gs_iv 1, gs_iv (F1 106 17)]) (rest := []) dd_X9_read_84 ok_X9_want ml_X9_199 rfl rfl (by decide) gs_s106 rfl rfl (Nat.le_of_ble_eq_true rfl) (by decide) (c_X9_want hI1 (by omega) (by omega) (by omega)) (fun r97 F98 A99 h100 => ?_)
            obtain ⟨z103, e102, I104, f105, x101⟩ := h100
            subst e102
            have v106 : F98 106 18 = F1 106 18 := f105.1 106 18 (by first | exact id | omega | (dsimp only; omega) | (dsimp only))
            have v107 : F98 106 17 = F1 106 17 := f105.1 106 17 (by first | exact id | omega | (dsimp only; omega) | (dsimp only))
            have v109 : F98 106 24 = F1 106 24 := f105.1 106 24 (by first | exact id | omega | (dsimp only; omega) | (dsimp only))
            have v110 : F98 106 22 = F1 106 22 := f105.1 106 22 (by first | exact id | omega | (dsimp only; omega) | (dsimp only))
            have v111 : F98 106 0 = F1 106 0 := f105.1 106 0 (by first | exact id | omega | (dsimp only; omega) | (dsimp only))
            have v112 : A99 117 0 = A1 117 0 := congrFun (f105.2 117 (by first | exact id | omega | (dsimp only; omega) | (dsimp only))) _
            have v113 : A99 117 1 = A1 117 1 := congrFun (f105.2 117 (by first | exact id | omega | (dsimp only; omega) | (dsimp only))) _
            have v114 : A99 117 2 = A1 117 2 := congrFun (f105.2 117 (by first | exact id | omega | (dsimp only; omega) | (dsimp only))) _
            have v115 : A99 117 3 = A1 117 3 := congrFun (f105.2 117 (by first | exact id | omega | (dsimp only; omega) | (dsimp only))) _
            have f116 := gs_fr_tr hf1 f105 (fun b j h => by first | exact False.elim h | omega | (dsimp only at h ⊢; omega)) (fun b h => by first | exact False.elim h | omega | (dsimp only at h ⊢; omega))
            show sA _ _ _ 87 _ [gs_iv z103] _ _
            refine sA_istore_n (lv' := [(3, gs_iv z103), (2, gs_iv c0), (0, .ref 106), (1, gs_iv p)]) dd_X9_read_87 rfl (by decide) rfl ?_
            refine sA_aload_n dd_X9_read_88 rfl (.tail _ (.tail _ (.head _))) ?_
            refine sA_iconst (z := 0) dd_X9_read_89 ?_
            refine sA_put (ci := 9) (j := 17) (q := (RX9, TX9, 28)) (ty := .int) dd_X9_read_90 rfl (by decide) fl_X9_181 rfl (tyX9_ok 17 (by decide)) rfl rfl (by decide) gs_s106 rfl ?_
            have I118 : gs_I (gs_up F98 106 17 0) A99 := gs_I_put I104 (show (0 : Int) ≤ 0 ∧ 0 ≤ 120 by omega)
            have f119 := gs_fr_put f116 (a := 106) (z := 0) (j := 17) (by first | omega | (dsimp only; omega) | (dsimp only))
            have v120 : gs_up F98 106 17 0 106 17 = 0 := gs_up_self _ _ _ _
            have v121 : (gs_up F98 106 17 0) 106 18 = F98 106 18 := gs_up_ne _ _ (by omega)
            have v122 : (gs_up F98 106 17 0) 106 19 = F98 106 19 := gs_up_ne _ _ (by omega)
            have v123 : (gs_up F98 106 17 0) 106 24 = F98 106 24 := gs_up_ne _ _ (by omega)
            have v124 : (gs_up F98 106 17 0) 106 22 = F98 106 22 := gs_up_ne _ _ (by omega)
            have v125 : (gs_up F98 106 17 0) 106 0 = F98 106 0 := gs_up_ne _ _ (by omega)
            generalize gs_up F98 106 17 0 = F117 at I118 f119 v120 v121 v122 v123 v124 v125 ⊢
            refine sA_aload_n dd_X9_read_93 rfl (.tail _ (.tail _ (.head _))) ?_
            refine sA_geti (ci := 9) (j := 19) (q := (RX9, TX9, 28)) dd_X9_read_94 rfl (by decide) fl_X9_189 (by decide) gs_s106 rfl ?_
            have b126 : (0 : Int) ≤ F117 106 19 ∧ F117 106 19 ≤ 4 := I118.1 106 19
            refine sA_if_le (tgt := 108) dd_X9_read_97 (by decide) (by omega) (fun q127 => ?_) (fun q127 => ?_)
            · skip
              refine sA_aload_n dd_X9_read_108 rfl (.tail _ (.tail _ (.head _))) ?_
              refine sA_getr (ci := 9) (j := 6) (q := (RX9, TX9, 28)) dd_X9_read_109 rfl (by decide) fl_X9_19 (by decide) gs_s106 rfl ?_
              refine sA_iload_n dd_X9_read_112 rfl (.tail _ (.tail _ (.tail _ (.head _)))) ?_
              refine sA_aload_n dd_X9_read_113 rfl (.tail _ (.tail _ (.head _))) ?_
              refine sA_geti (ci := 9) (j := 24) (q := (RX9, TX9, 28)) dd_X9_read_114 rfl (by decide) fl_X9_206 (by decide) gs_s106 rfl ?_
              have b128 : (0 : Int) ≤ F117 106 24 ∧ F117 106 24 ≤ 60 := I118.1 106 24
              refine sA_iast (n := 9) dd_X9_read_117 (by decide) gs_s110 (by omega) (by decide) ?_
              have I130 : gs_I F117 (gs_up A99 110 p.toNat (F117 106 24)) := gs_I_ast I118 (show (0 : Int) ≤ F117 106 24 ∧ F117 106 24 ≤ 60 by omega)
              have f131 := gs_fr_ast f119 (a := 110) (z := F117 106 24) (i := p.toNat) (by first | omega | (dsimp only; omega) | (dsimp only))
              have v132 : (gs_up A99 110 p.toNat (F117 106 24)) 117 0 = A99 117 0 := gs_up_ne _ _ (by omega)
              have v133 : (gs_up A99 110 p.toNat (F117 106 24)) 117 1 = A99 117 1 := gs_up_ne _ _ (by omega)
              have v134 : (gs_up A99 110 p.toNat (F117 106 24)) 117 2 = A99 117 2 := gs_up_ne _ _ (by omega)
              have v135 : (gs_up A99 110 p.toNat (F117 106 24)) 117 3 = A99 117 3 := gs_up_ne _ _ (by omega)
              generalize gs_up A99 110 p.toNat (F117 106 24) = A129 at I130 f131 v132 v133 v134 v135 ⊢
              refine sA_iconst (z := 0) dd_X9_read_118 ?_
              refine sA_istore (lv' := [(4, gs_iv 0), (3, gs_iv z103), (2, gs_iv c0), (0, .ref 106), (1, gs_iv p)]) dd_X9_read_119 (by decide) rfl ?_
              have b136 : (0 : Int) ≤ F117 106 18 ∧ F117 106 18 ≤ 120 := I130.1 106 18
              have b137 : (0 : Int) ≤ F117 106 17 ∧ F117 106 17 ≤ 120 := I130.1 106 17
              have b138 : (0 : Int) ≤ F117 106 22 ∧ F117 106 22 ≤ 4 := I130.1 106 22
              have b139 : (1 : Int) ≤ F117 106 0 ∧ F117 106 0 ≤ 3 := I130.1 106 0
              refine sA_sub (lv2 := [(4, gs_iv 0), (0, .ref 106), (1, gs_iv p)]) (List.forall_mem_cons.mpr ⟨(.head _), (List.forall_mem_cons.mpr ⟨(.tail _ (.tail _ (.tail _ (.head _)))), (List.forall_mem_cons.mpr ⟨(.tail _ (.tail _ (.tail _ (.tail _ (.head _))))), (fun _ h => absurd h List.not_mem_nil)⟩)⟩)⟩) ?_
              exact ih.2 0 F117 A129 I130 f131 (by omega) (by omega) (by omega) (by omega)
            · skip
              refine sA_bipush (z := (-10)) dd_X9_read_100 (by decide) ?_
              refine sA_aload_n dd_X9_read_102 rfl (.tail _ (.tail _ (.head _))) ?_
              refine sA_geti (ci := 9) (j := 19) (q := (RX9, TX9, 28)) dd_X9_read_103 rfl (by decide) fl_X9_189 (by decide) gs_s106 rfl ?_
              refine sA_isub dd_X9_read_106 ?_
              refine sA_iret (z := (-10) - (F117 106 19)) dd_X9_read_107 rfl ?_
              exact ⟨_, rfl, I118, f119, by omega⟩
          · skip
            refine sA_iconst (z := 1) dd_X9_read_74 ?_
            refine sA_goto (tgt := 79) dd_X9_read_75 (by decide) ?_
            refine sA_iconst (z := 1) dd_X9_read_79 ?_
            refine sA_aload_n dd_X9_read_80 rfl (.tail _ (.head _)) ?_
            refine sA_geti (ci := 9) (j := 17) (q := (RX9, TX9, 28)) dd_X9_read_81 rfl (by decide) fl_X9_181 (by decide) gs_s106 rfl ?_
            refine sA_callV (y2 := m_X9_want) (n2 := 3) (d2 := 1) (a := 106) (ci := 9) (q := (RX9, TX9, 28)) (as := [gs_iv 1, gs_iv 1, gs_iv (F1 106 17)]) (rest := []) dd_X9_read_84 ok_X9_want ml_X9_199 rfl rfl (by decide) gs_s106 rfl rfl (Nat.le_of_ble_eq_true rfl) (by decide) (c_X9_want hI1 (by omega) (by omega) (by omega)) (fun r140 F141 A142 h143 => ?_)
            obtain ⟨z146, e145, I147, f148, x144⟩ := h143
            subst e145
            have v149 : F141 106 18 = F1 106 18 := f148.1 106 18 (by first | exact id | omega | (dsimp only; omega) | (dsimp only))
            have v150 : F141 106 17 = F1 106 17 := f148.1 106 17 (by first | exact id | omega | (dsimp only; omega) | (dsimp only))
            have v152 : F141 106 24 = F1 106 24 := f148.1 106 24 (by first | exact id | omega | (dsimp only; omega) | (dsimp only))
            have v153 : F141 106 22 = F1 106 22 := f148.1 106 22 (by first | exact id | omega | (dsimp only; omega) | (dsimp only))
            have v154 : F141 106 0 = F1 106 0 := f148.1 106 0 (by first | exact id | omega | (dsimp only; omega) | (dsimp only))
            have v155 : A142 117 0 = A1 117 0 := congrFun (f148.2 117 (by first | exact id | omega | (dsimp only; omega) | (dsimp only))) _
            have v156 : A142 117 1 = A1 117 1 := congrFun (f148.2 117 (by first | exact id | omega | (dsimp only; omega) | (dsimp only))) _
            have v157 : A142 117 2 = A1 117 2 := congrFun (f148.2 117 (by first | exact id | omega | (dsimp only; omega) | (dsimp only))) _
            have v158 : A142 117 3 = A1 117 3 := congrFun (f148.2 117 (by first | exact id | omega | (dsimp only; omega) | (dsimp only))) _
            have f159 := gs_fr_tr hf1 f148 (fun b j h => by first | exact False.elim h | omega | (dsimp only at h ⊢; omega)) (fun b h => by first | exact False.elim h | omega | (dsimp only at h ⊢; omega))
            show sA _ _ _ 87 _ [gs_iv z146] _ _
            refine sA_istore_n (lv' := [(3, gs_iv z146), (2, gs_iv c0), (0, .ref 106), (1, gs_iv p)]) dd_X9_read_87 rfl (by decide) rfl ?_
            refine sA_aload_n dd_X9_read_88 rfl (.tail _ (.tail _ (.head _))) ?_
            refine sA_iconst (z := 0) dd_X9_read_89 ?_
            refine sA_put (ci := 9) (j := 17) (q := (RX9, TX9, 28)) (ty := .int) dd_X9_read_90 rfl (by decide) fl_X9_181 rfl (tyX9_ok 17 (by decide)) rfl rfl (by decide) gs_s106 rfl ?_
            have I161 : gs_I (gs_up F141 106 17 0) A142 := gs_I_put I147 (show (0 : Int) ≤ 0 ∧ 0 ≤ 120 by omega)
            have f162 := gs_fr_put f159 (a := 106) (z := 0) (j := 17) (by first | omega | (dsimp only; omega) | (dsimp only))
            have v163 : gs_up F141 106 17 0 106 17 = 0 := gs_up_self _ _ _ _
            have v164 : (gs_up F141 106 17 0) 106 18 = F141 106 18 := gs_up_ne _ _ (by omega)
            have v165 : (gs_up F141 106 17 0) 106 19 = F141 106 19 := gs_up_ne _ _ (by omega)
            have v166 : (gs_up F141 106 17 0) 106 24 = F141 106 24 := gs_up_ne _ _ (by omega)
            have v167 : (gs_up F141 106 17 0) 106 22 = F141 106 22 := gs_up_ne _ _ (by omega)
            have v168 : (gs_up F141 106 17 0) 106 0 = F141 106 0 := gs_up_ne _ _ (by omega)
            generalize gs_up F141 106 17 0 = F160 at I161 f162 v163 v164 v165 v166 v167 v168 ⊢
            refine sA_aload_n dd_X9_read_93 rfl (.tail _ (.tail _ (.head _))) ?_
            refine sA_geti (ci := 9) (j := 19) (q := (RX9, TX9, 28)) dd_X9_read_94 rfl (by decide) fl_X9_189 (by decide) gs_s106 rfl ?_
            have b169 : (0 : Int) ≤ F160 106 19 ∧ F160 106 19 ≤ 4 := I161.1 106 19
            refine sA_if_le (tgt := 108) dd_X9_read_97 (by decide) (by omega) (fun q170 => ?_) (fun q170 => ?_)
            · skip
              refine sA_aload_n dd_X9_read_108 rfl (.tail _ (.tail _ (.head _))) ?_
              refine sA_getr (ci := 9) (j := 6) (q := (RX9, TX9, 28)) dd_X9_read_109 rfl (by decide) fl_X9_19 (by decide) gs_s106 rfl ?_
              refine sA_iload_n dd_X9_read_112 rfl (.tail _ (.tail _ (.tail _ (.head _)))) ?_
              refine sA_aload_n dd_X9_read_113 rfl (.tail _ (.tail _ (.head _))) ?_
              refine sA_geti (ci := 9) (j := 24) (q := (RX9, TX9, 28)) dd_X9_read_114 rfl (by decide) fl_X9_206 (by decide) gs_s106 rfl ?_
              have b171 : (0 : Int) ≤ F160 106 24 ∧ F160 106 24 ≤ 60 := I161.1 106 24
              refine sA_iast (n := 9) dd_X9_read_117 (by decide) gs_s110 (by omega) (by decide) ?_
              have I173 : gs_I F160 (gs_up A142 110 p.toNat (F160 106 24)) := gs_I_ast I161 (show (0 : Int) ≤ F160 106 24 ∧ F160 106 24 ≤ 60 by omega)
              have f174 := gs_fr_ast f162 (a := 110) (z := F160 106 24) (i := p.toNat) (by first | omega | (dsimp only; omega) | (dsimp only))
              have v175 : (gs_up A142 110 p.toNat (F160 106 24)) 117 0 = A142 117 0 := gs_up_ne _ _ (by omega)
              have v176 : (gs_up A142 110 p.toNat (F160 106 24)) 117 1 = A142 117 1 := gs_up_ne _ _ (by omega)
              have v177 : (gs_up A142 110 p.toNat (F160 106 24)) 117 2 = A142 117 2 := gs_up_ne _ _ (by omega)
              have v178 : (gs_up A142 110 p.toNat (F160 106 24)) 117 3 = A142 117 3 := gs_up_ne _ _ (by omega)
              generalize gs_up A142 110 p.toNat (F160 106 24) = A172 at I173 f174 v175 v176 v177 v178 ⊢
              refine sA_iconst (z := 0) dd_X9_read_118 ?_
              refine sA_istore (lv' := [(4, gs_iv 0), (3, gs_iv z146), (2, gs_iv c0), (0, .ref 106), (1, gs_iv p)]) dd_X9_read_119 (by decide) rfl ?_
              have b179 : (0 : Int) ≤ F160 106 18 ∧ F160 106 18 ≤ 120 := I173.1 106 18
              have b180 : (0 : Int) ≤ F160 106 17 ∧ F160 106 17 ≤ 120 := I173.1 106 17
              have b181 : (0 : Int) ≤ F160 106 22 ∧ F160 106 22 ≤ 4 := I173.1 106 22
              have b182 : (1 : Int) ≤ F160 106 0 ∧ F160 106 0 ≤ 3 := I173.1 106 0
              refine sA_sub (lv2 := [(4, gs_iv 0), (0, .ref 106), (1, gs_iv p)]) (List.forall_mem_cons.mpr ⟨(.head _), (List.forall_mem_cons.mpr ⟨(.tail _ (.tail _ (.tail _ (.head _)))), (List.forall_mem_cons.mpr ⟨(.tail _ (.tail _ (.tail _ (.tail _ (.head _))))), (fun _ h => absurd h List.not_mem_nil)⟩)⟩)⟩) ?_
              exact ih.2 0 F160 A172 I173 f174 (by omega) (by omega) (by omega) (by omega)
            · skip
              refine sA_bipush (z := (-10)) dd_X9_read_100 (by decide) ?_
              refine sA_aload_n dd_X9_read_102 rfl (.tail _ (.tail _ (.head _))) ?_
              refine sA_geti (ci := 9) (j := 19) (q := (RX9, TX9, 28)) dd_X9_read_103 rfl (by decide) fl_X9_189 (by decide) gs_s106 rfl ?_
              refine sA_isub dd_X9_read_106 ?_
              refine sA_iret (z := (-10) - (F160 106 19)) dd_X9_read_107 rfl ?_
              exact ⟨_, rfl, I161, f162, by omega⟩
        · skip
          refine sA_aload_n dd_X9_read_53 rfl (.tail _ (.head _)) ?_
          refine sA_iload_n dd_X9_read_54 rfl (.head _) ?_
          refine sA_callV (y2 := m_X9_readItem) (n2 := 1) (d2 := 4) (a := 106) (ci := 9) (q := (RX9, TX9, 28)) (as := [gs_iv c0]) (rest := []) dd_X9_read_55 ok_X9_readItem ml_X9_221 rfl rfl (by decide) gs_s106 rfl rfl (Nat.le_of_ble_eq_true rfl) (by decide) (c_X9_readItem hI1 (by omega) (by omega) (by omega)) (fun r183 F184 A185 h186 => ?_)
          obtain ⟨e188, I189, f190, x187⟩ := h186
          subst e188
          have v192 : F184 106 17 = F1 106 17 := f190.1 106 17 (by first | exact id | omega | (dsimp only; omega) | (dsimp only))
          have v196 : F184 106 0 = F1 106 0 := f190.1 106 0 (by first | exact id | omega | (dsimp only; omega) | (dsimp only))
          have f197 := gs_fr_tr hf1 f190 (fun b j h => by first | exact False.elim h | omega | (dsimp only at h ⊢; omega)) (fun b h => by first | exact False.elim h | omega | (dsimp only at h ⊢; omega))
          show sA _ _ _ 58 _ [] _ _
          refine sA_aload_n dd_X9_read_58 rfl (.tail _ (.head _)) ?_
          refine sA_callV (y2 := m_X9_look) (n2 := 0) (d2 := 1) (a := 106) (ci := 9) (q := (RX9, TX9, 28)) (as := []) (rest := []) dd_X9_read_59 ok_X9_look ml_X9_192 rfl rfl (by decide) gs_s106 rfl rfl (Nat.le_of_ble_eq_true rfl) (by decide) (c_X9_look I189 ) (fun r198 F199 A200 h201 => ?_)
          obtain ⟨z204, e203, I205, f206, x202⟩ := h201
          subst e203
          have v208 : F199 106 17 = F184 106 17 := f206.1 106 17 (by first | exact id | omega | (dsimp only; omega) | (dsimp only))
          have v209 : F199 106 19 = F184 106 19 := f206.1 106 19 (by first | exact id | omega | (dsimp only; omega) | (dsimp only))
          have v210 : F199 106 24 = F184 106 24 := f206.1 106 24 (by first | exact id | omega | (dsimp only; omega) | (dsimp only))
          have v211 : F199 106 22 = F184 106 22 := f206.1 106 22 (by first | exact id | omega | (dsimp only; omega) | (dsimp only))
          have v212 : F199 106 0 = F184 106 0 := f206.1 106 0 (by first | exact id | omega | (dsimp only; omega) | (dsimp only))
          have v213 : A200 117 0 = A185 117 0 := congrFun (f206.2 117 (by first | exact id | omega | (dsimp only; omega) | (dsimp only))) _
          have v214 : A200 117 1 = A185 117 1 := congrFun (f206.2 117 (by first | exact id | omega | (dsimp only; omega) | (dsimp only))) _
          have v215 : A200 117 2 = A185 117 2 := congrFun (f206.2 117 (by first | exact id | omega | (dsimp only; omega) | (dsimp only))) _
          have v216 : A200 117 3 = A185 117 3 := congrFun (f206.2 117 (by first | exact id | omega | (dsimp only; omega) | (dsimp only))) _
          have f217 := gs_fr_tr f197 f206 (fun b j h => by first | exact False.elim h | omega | (dsimp only at h ⊢; omega)) (fun b h => by first | exact False.elim h | omega | (dsimp only at h ⊢; omega))
          show sA _ _ _ 62 _ [gs_iv z204] _ _
          have hb18 : (0 : Int) ≤ F199 106 18 ∧ F199 106 18 ≤ 120 := I205.1 106 18
          have hb19 : (0 : Int) ≤ F199 106 19 ∧ F199 106 19 ≤ 4 := I205.1 106 19
          refine sA_istore_n (lv' := [(2, gs_iv z204), (0, .ref 106), (1, gs_iv p)]) dd_X9_read_62 rfl (by decide) rfl ?_
          refine sA_goto (tgt := 42) dd_X9_read_63 (by decide) ?_
          have b218 : (0 : Int) ≤ F199 106 18 ∧ F199 106 18 ≤ 120 := I205.1 106 18
          have b219 : (0 : Int) ≤ F199 106 17 ∧ F199 106 17 ≤ 120 := I205.1 106 17
          have b220 : (0 : Int) ≤ F199 106 19 ∧ F199 106 19 ≤ 4 := I205.1 106 19
          have b221 : (0 : Int) ≤ F199 106 24 ∧ F199 106 24 ≤ 60 := I205.1 106 24
          have b222 : (0 : Int) ≤ F199 106 22 ∧ F199 106 22 ≤ 4 := I205.1 106 22
          have b223 : (1 : Int) ≤ F199 106 0 ∧ F199 106 0 ≤ 3 := I205.1 106 0
          refine sA_sub (lv2 := [(2, gs_iv z204), (0, .ref 106), (1, gs_iv p)]) (List.forall_mem_cons.mpr ⟨(.head _), (List.forall_mem_cons.mpr ⟨(.tail _ (.head _)), (List.forall_mem_cons.mpr ⟨(.tail _ (.tail _ (.head _))), (fun _ h => absurd h List.not_mem_nil)⟩)⟩)⟩) ?_
          exact ih.1 z204 F199 A200 I205 f217 (by omega) (by omega) (by omega) (by omega) (by omega) (by omega)
    · skip
      intro k F1 A1 hI1 hf1 i0 i1 i2 hm
      have b224 : (0 : Int) ≤ F1 106 18 ∧ F1 106 18 ≤ 120 := hI1.1 106 18
      have b225 : (0 : Int) ≤ F1 106 17 ∧ F1 106 17 ≤ 120 := hI1.1 106 17
      have b226 : (0 : Int) ≤ F1 106 19 ∧ F1 106 19 ≤ 4 := hI1.1 106 19
      have b227 : (0 : Int) ≤ F1 106 24 ∧ F1 106 24 ≤ 60 := hI1.1 106 24
      have b228 : (0 : Int) ≤ F1 106 22 ∧ F1 106 22 ≤ 4 := hI1.1 106 22
      have b229 : (1 : Int) ≤ F1 106 0 ∧ F1 106 0 ≤ 3 := hI1.1 106 0
      refine sA_iload dd_X9_read_121 (.head _) ?_
      refine sA_aload_n dd_X9_read_123 rfl (.tail _ (.head _)) ?_
      refine sA_geti (ci := 9) (j := 24) (q := (RX9, TX9, 28)) dd_X9_read_124 rfl (by decide) fl_X9_206 (by decide) gs_s106 rfl ?_
      refine sA_icmp_ge (tgt := 155) dd_X9_read_127 (by decide) (by omega) (by omega) (fun q230 => ?_) (fun q230 => ?_)
      · skip
        refine sA_aload_n dd_X9_read_155 rfl (.tail _ (.head _)) ?_
        refine sA_geti (ci := 9) (j := 24) (q := (RX9, TX9, 28)) dd_X9_read_156 rfl (by decide) fl_X9_206 (by decide) gs_s106 rfl ?_
        refine sA_iret (z := F1 106 24) dd_X9_read_159 rfl ?_
        exact ⟨_, rfl, hI1, hf1, by omega⟩
      · skip
        refine sA_aload_n dd_X9_read_130 rfl (.tail _ (.head _)) ?_
        refine sA_getr (ci := 9) (j := 7) (q := (RX9, TX9, 28)) dd_X9_read_131 rfl (by decide) fl_X9_22 (by decide) gs_s106 rfl ?_
        refine sA_bipush (z := 60) dd_X9_read_134 (by decide) ?_
        refine sA_iload_n dd_X9_read_136 rfl (.tail _ (.tail _ (.head _))) ?_
        refine sA_imul dd_X9_read_137 ?_
        refine sA_iload dd_X9_read_138 (.head _) ?_
        refine sA_iadd dd_X9_read_140 ?_
        refine sA_aload_n dd_X9_read_141 rfl (.tail _ (.head _)) ?_
        refine sA_getr (ci := 9) (j := 23) (q := (RX9, TX9, 28)) dd_X9_read_142 rfl (by decide) fl_X9_47 (by decide) gs_s106 rfl ?_
        refine sA_iload dd_X9_read_145 (.head _) ?_
        refine sA_iald (n := 600) dd_X9_read_147 (by decide) gs_s118 (by omega) (by decide) ?_
        have b231 : (-2147483648 : Int) ≤ A1 118 k.toNat ∧ A1 118 k.toNat ≤ 2147483647 := hI1.2 118 k.toNat
        refine sA_iast (n := 540) dd_X9_read_148 (by decide) gs_s111 (by omega) (by decide) ?_
        have I233 : gs_I F1 (gs_up A1 111 (((60 * p) + k).toNat) (A1 118 k.toNat)) := gs_I_ast hI1 (show (-2147483648 : Int) ≤ A1 118 k.toNat ∧ A1 118 k.toNat ≤ 2147483647 by omega)
        have f234 := gs_fr_ast hf1 (a := 111) (z := A1 118 k.toNat) (i := ((60 * p) + k).toNat) (by first | omega | (dsimp only; omega) | (dsimp only))
        have v235 : (gs_up A1 111 (((60 * p) + k).toNat) (A1 118 k.toNat)) 117 0 = A1 117 0 := gs_up_ne _ _ (by omega)
        have v236 : (gs_up A1 111 (((60 * p) + k).toNat) (A1 118 k.toNat)) 117 1 = A1 117 1 := gs_up_ne _ _ (by omega)
        have v237 : (gs_up A1 111 (((60 * p) + k).toNat) (A1 118 k.toNat)) 117 2 = A1 117 2 := gs_up_ne _ _ (by omega)
        have v238 : (gs_up A1 111 (((60 * p) + k).toNat) (A1 118 k.toNat)) 117 3 = A1 117 3 := gs_up_ne _ _ (by omega)
        generalize gs_up A1 111 (((60 * p) + k).toNat) (A1 118 k.toNat) = A232 at I233 f234 v235 v236 v237 v238 ⊢
        refine sA_iinc (lv' := [(4, gs_iv (k + 1)), (0, .ref 106), (1, gs_iv p)]) dd_X9_read_149 (.head _) (by decide) rfl ?_
        refine sA_goto (tgt := 121) dd_X9_read_152 (by decide) ?_
        refine sA_sub (lv2 := [(4, gs_iv (k + 1)), (0, .ref 106), (1, gs_iv p)]) (List.forall_mem_cons.mpr ⟨(.head _), (List.forall_mem_cons.mpr ⟨(.tail _ (.head _)), (List.forall_mem_cons.mpr ⟨(.tail _ (.tail _ (.head _))), (fun _ h => absurd h List.not_mem_nil)⟩)⟩)⟩) ?_
        exact ih.2 (k + 1) F1 A232 I233 f234 (by omega) (by omega) (by omega) (by omega)
theorem c_X9_read {p : Int} {F A : gs_F} (hI : gs_I F A) (hp : -2147483648 ≤ p ∧ p ≤ 2147483647) : sC m_X9_read 5 [.ref 106, gs_iv p] F A (fun rv F' A' => ∃ z : Int, rv = some (gs_iv z) ∧ gs_I F' A' ∧ gs_fr (fun c j => c = 106 ∧ (17 ≤ j ∧ j ≤ 24)) (fun c => c = 110 ∨ c = 111 ∨ c = 117 ∨ c = 118) F A F' A' ∧ (((p < 0 ∨ 7 < p) ∧ F' 106 17 = F 106 17) ∨ (0 ≤ p ∧ p ≤ 7 ∧ F' 106 17 = 0))) := by
  refine sC_of ok_X9_read.1 (Nat.le_of_ble_eq_true rfl) ?_
  show sA _ _ _ 0 [(0, .ref 106), (1, gs_iv p)] [] F A
  have hf : gs_fr (fun c j => c = 106 ∧ (17 ≤ j ∧ j ≤ 24)) (fun c => c = 110 ∨ c = 111 ∨ c = 117 ∨ c = 118) F A F A := gs_fr_refl _ _ _ _
  have b239 : (0 : Int) ≤ F 106 18 ∧ F 106 18 ≤ 120 := hI.1 106 18
  have b240 : (0 : Int) ≤ F 106 17 ∧ F 106 17 ≤ 120 := hI.1 106 17
  have b241 : (0 : Int) ≤ F 106 19 ∧ F 106 19 ≤ 4 := hI.1 106 19
  have b242 : (0 : Int) ≤ F 106 24 ∧ F 106 24 ≤ 60 := hI.1 106 24
  have b243 : (0 : Int) ≤ F 106 22 ∧ F 106 22 ≤ 4 := hI.1 106 22
  have b244 : (1 : Int) ≤ F 106 0 ∧ F 106 0 ≤ 3 := hI.1 106 0
  refine sA_aload_n dd_X9_read_0 rfl (.head _) ?_
  refine sA_iload_n dd_X9_read_1 rfl (.tail _ (.head _)) ?_
  refine sA_callV (y2 := m_X9_noPlan) (n2 := 1) (d2 := 2) (a := 106) (ci := 9) (q := (RX9, TX9, 28)) (as := [gs_iv p]) (rest := []) dd_X9_read_2 ok_X9_noPlan ml_X9_218 rfl rfl (by decide) gs_s106 rfl rfl (Nat.le_of_ble_eq_true rfl) (by decide) (c_X9_noPlan hI (by omega)) (fun r245 F246 A247 h248 => ?_)
  obtain ⟨z251, e250, e252, e253, x249⟩ := h248
  subst e250 e252 e253
  show sA _ _ _ 5 _ [gs_iv z251] _ _
  refine sA_if_eq (tgt := 12) dd_X9_read_5 (by decide) (by omega) (fun q254 => ?_) (fun q254 => ?_)
  · skip
    refine sA_aload_n dd_X9_read_12 rfl (.head _) ?_
    refine sA_iconst (z := 0) dd_X9_read_13 ?_
    refine sA_put (ci := 9) (j := 18) (q := (RX9, TX9, 28)) (ty := .int) dd_X9_read_14 rfl (by decide) fl_X9_186 rfl (tyX9_ok 18 (by decide)) rfl rfl (by decide) gs_s106 rfl ?_
    have I256 : gs_I (gs_up F 106 18 0) A := gs_I_put hI (show (0 : Int) ≤ 0 ∧ 0 ≤ 120 by omega)
    have f257 := gs_fr_put hf (a := 106) (z := 0) (j := 18) (by first | omega | (dsimp only; omega) | (dsimp only))
    have v258 : gs_up F 106 18 0 106 18 = 0 := gs_up_self _ _ _ _
    have v259 : (gs_up F 106 18 0) 106 17 = F 106 17 := gs_up_ne _ _ (by omega)
    have v260 : (gs_up F 106 18 0) 106 19 = F 106 19 := gs_up_ne _ _ (by omega)
    have v261 : (gs_up F 106 18 0) 106 24 = F 106 24 := gs_up_ne _ _ (by omega)
    have v262 : (gs_up F 106 18 0) 106 22 = F 106 22 := gs_up_ne _ _ (by omega)
    have v263 : (gs_up F 106 18 0) 106 0 = F 106 0 := gs_up_ne _ _ (by omega)
    generalize gs_up F 106 18 0 = F255 at I256 f257 v258 v259 v260 v261 v262 v263 ⊢
    refine sA_aload_n dd_X9_read_17 rfl (.head _) ?_
    refine sA_iconst (z := 0) dd_X9_read_18 ?_
    refine sA_put (ci := 9) (j := 19) (q := (RX9, TX9, 28)) (ty := .int) dd_X9_read_19 rfl (by decide) fl_X9_189 rfl (tyX9_ok 19 (by decide)) rfl rfl (by decide) gs_s106 rfl ?_
    have I265 : gs_I (gs_up F255 106 19 0) A := gs_I_put I256 (show (0 : Int) ≤ 0 ∧ 0 ≤ 4 by omega)
    have f266 := gs_fr_put f257 (a := 106) (z := 0) (j := 19) (by first | omega | (dsimp only; omega) | (dsimp only))
    have v267 : gs_up F255 106 19 0 106 19 = 0 := gs_up_self _ _ _ _
    have v268 : (gs_up F255 106 19 0) 106 18 = F255 106 18 := gs_up_ne _ _ (by omega)
    have v269 : (gs_up F255 106 19 0) 106 17 = F255 106 17 := gs_up_ne _ _ (by omega)
    have v270 : (gs_up F255 106 19 0) 106 24 = F255 106 24 := gs_up_ne _ _ (by omega)
    have v271 : (gs_up F255 106 19 0) 106 22 = F255 106 22 := gs_up_ne _ _ (by omega)
    have v272 : (gs_up F255 106 19 0) 106 0 = F255 106 0 := gs_up_ne _ _ (by omega)
    generalize gs_up F255 106 19 0 = F264 at I265 f266 v267 v268 v269 v270 v271 v272 ⊢
    refine sA_aload_n dd_X9_read_22 rfl (.head _) ?_
    refine sA_iconst (z := (-1)) dd_X9_read_23 ?_
    refine sA_put (ci := 9) (j := 20) (q := (RX9, TX9, 28)) (ty := .int) dd_X9_read_24 rfl (by decide) fl_X9_40 rfl (tyX9_ok 20 (by decide)) rfl rfl (by decide) gs_s106 rfl ?_
    have I274 : gs_I (gs_up F264 106 20 (-1)) A := gs_I_put I265 (show (-2147483648 : Int) ≤ -1 ∧ -1 ≤ 2147483647 by omega)
    have f275 := gs_fr_put f266 (a := 106) (z := -1) (j := 20) (by first | omega | (dsimp only; omega) | (dsimp only))
    have v276 : gs_up F264 106 20 (-1) 106 20 = -1 := gs_up_self _ _ _ _
    have v277 : (gs_up F264 106 20 (-1)) 106 18 = F264 106 18 := gs_up_ne _ _ (by omega)
    have v278 : (gs_up F264 106 20 (-1)) 106 17 = F264 106 17 := gs_up_ne _ _ (by omega)
    have v279 : (gs_up F264 106 20 (-1)) 106 19 = F264 106 19 := gs_up_ne _ _ (by omega)
    have v280 : (gs_up F264 106 20 (-1)) 106 24 = F264 106 24 := gs_up_ne _ _ (by omega)
    have v281 : (gs_up F264 106 20 (-1)) 106 22 = F264 106 22 := gs_up_ne _ _ (by omega)
    have v282 : (gs_up F264 106 20 (-1)) 106 0 = F264 106 0 := gs_up_ne _ _ (by omega)
    generalize gs_up F264 106 20 (-1) = F273 at I274 f275 v276 v277 v278 v279 v280 v281 v282 ⊢
    refine sA_aload_n dd_X9_read_27 rfl (.head _) ?_
    refine sA_iconst (z := 0) dd_X9_read_28 ?_
    refine sA_put (ci := 9) (j := 22) (q := (RX9, TX9, 28)) (ty := .int) dd_X9_read_29 rfl (by decide) fl_X9_209 rfl (tyX9_ok 22 (by decide)) rfl rfl (by decide) gs_s106 rfl ?_
    have I284 : gs_I (gs_up F273 106 22 0) A := gs_I_put I274 (show (0 : Int) ≤ 0 ∧ 0 ≤ 4 by omega)
    have f285 := gs_fr_put f275 (a := 106) (z := 0) (j := 22) (by first | omega | (dsimp only; omega) | (dsimp only))
    have v286 : gs_up F273 106 22 0 106 22 = 0 := gs_up_self _ _ _ _
    have v287 : (gs_up F273 106 22 0) 106 18 = F273 106 18 := gs_up_ne _ _ (by omega)
    have v288 : (gs_up F273 106 22 0) 106 17 = F273 106 17 := gs_up_ne _ _ (by omega)
    have v289 : (gs_up F273 106 22 0) 106 19 = F273 106 19 := gs_up_ne _ _ (by omega)
    have v290 : (gs_up F273 106 22 0) 106 24 = F273 106 24 := gs_up_ne _ _ (by omega)
    have v291 : (gs_up F273 106 22 0) 106 0 = F273 106 0 := gs_up_ne _ _ (by omega)
    generalize gs_up F273 106 22 0 = F283 at I284 f285 v286 v287 v288 v289 v290 v291 ⊢
    refine sA_aload_n dd_X9_read_32 rfl (.head _) ?_
    refine sA_iconst (z := 0) dd_X9_read_33 ?_
    refine sA_put (ci := 9) (j := 24) (q := (RX9, TX9, 28)) (ty := .int) dd_X9_read_34 rfl (by decide) fl_X9_206 rfl (tyX9_ok 24 (by decide)) rfl rfl (by decide) gs_s106 rfl ?_
    have I293 : gs_I (gs_up F283 106 24 0) A := gs_I_put I284 (show (0 : Int) ≤ 0 ∧ 0 ≤ 60 by omega)
    have f294 := gs_fr_put f285 (a := 106) (z := 0) (j := 24) (by first | omega | (dsimp only; omega) | (dsimp only))
    have v295 : gs_up F283 106 24 0 106 24 = 0 := gs_up_self _ _ _ _
    have v296 : (gs_up F283 106 24 0) 106 18 = F283 106 18 := gs_up_ne _ _ (by omega)
    have v297 : (gs_up F283 106 24 0) 106 17 = F283 106 17 := gs_up_ne _ _ (by omega)
    have v298 : (gs_up F283 106 24 0) 106 19 = F283 106 19 := gs_up_ne _ _ (by omega)
    have v299 : (gs_up F283 106 24 0) 106 22 = F283 106 22 := gs_up_ne _ _ (by omega)
    have v300 : (gs_up F283 106 24 0) 106 0 = F283 106 0 := gs_up_ne _ _ (by omega)
    generalize gs_up F283 106 24 0 = F292 at I293 f294 v295 v296 v297 v298 v299 v300 ⊢
    refine sA_aload_n dd_X9_read_37 rfl (.head _) ?_
    refine sA_callV (y2 := m_X9_look) (n2 := 0) (d2 := 1) (a := 106) (ci := 9) (q := (RX9, TX9, 28)) (as := []) (rest := []) dd_X9_read_38 ok_X9_look ml_X9_192 rfl rfl (by decide) gs_s106 rfl rfl (Nat.le_of_ble_eq_true rfl) (by decide) (c_X9_look I293 ) (fun r301 F302 A303 h304 => ?_)
    obtain ⟨z307, e306, I308, f309, x305⟩ := h304
    subst e306
    have v311 : F302 106 17 = F292 106 17 := f309.1 106 17 (by first | exact id | omega | (dsimp only; omega) | (dsimp only))
    have v312 : F302 106 19 = F292 106 19 := f309.1 106 19 (by first | exact id | omega | (dsimp only; omega) | (dsimp only))
    have v313 : F302 106 24 = F292 106 24 := f309.1 106 24 (by first | exact id | omega | (dsimp only; omega) | (dsimp only))
    have v314 : F302 106 22 = F292 106 22 := f309.1 106 22 (by first | exact id | omega | (dsimp only; omega) | (dsimp only))
    have v315 : F302 106 0 = F292 106 0 := f309.1 106 0 (by first | exact id | omega | (dsimp only; omega) | (dsimp only))
    have v316 : A303 117 0 = A 117 0 := congrFun (f309.2 117 (by first | exact id | omega | (dsimp only; omega) | (dsimp only))) _
    have v317 : A303 117 1 = A 117 1 := congrFun (f309.2 117 (by first | exact id | omega | (dsimp only; omega) | (dsimp only))) _
    have v318 : A303 117 2 = A 117 2 := congrFun (f309.2 117 (by first | exact id | omega | (dsimp only; omega) | (dsimp only))) _
    have v319 : A303 117 3 = A 117 3 := congrFun (f309.2 117 (by first | exact id | omega | (dsimp only; omega) | (dsimp only))) _
    have f320 := gs_fr_tr f294 f309 (fun b j h => by first | exact False.elim h | omega | (dsimp only at h ⊢; omega)) (fun b h => by first | exact False.elim h | omega | (dsimp only at h ⊢; omega))
    show sA _ _ _ 41 _ [gs_iv z307] _ _
    have hb18 : (0 : Int) ≤ F302 106 18 ∧ F302 106 18 ≤ 120 := I308.1 106 18
    have hb19 : (0 : Int) ≤ F302 106 19 ∧ F302 106 19 ≤ 4 := I308.1 106 19
    refine sA_istore_n (lv' := [(2, gs_iv z307), (0, .ref 106), (1, gs_iv p)]) dd_X9_read_41 rfl (by decide) rfl ?_
    have b321 : (0 : Int) ≤ F302 106 18 ∧ F302 106 18 ≤ 120 := I308.1 106 18
    have b322 : (0 : Int) ≤ F302 106 17 ∧ F302 106 17 ≤ 120 := I308.1 106 17
    have b323 : (0 : Int) ≤ F302 106 19 ∧ F302 106 19 ≤ 4 := I308.1 106 19
    have b324 : (0 : Int) ≤ F302 106 24 ∧ F302 106 24 ≤ 60 := I308.1 106 24
    have b325 : (0 : Int) ≤ F302 106 22 ∧ F302 106 22 ≤ 4 := I308.1 106 22
    have b326 : (1 : Int) ≤ F302 106 0 ∧ F302 106 0 ≤ 3 := I308.1 106 0
    refine sA_sub (lv2 := [(2, gs_iv z307), (0, .ref 106), (1, gs_iv p)]) (List.forall_mem_cons.mpr ⟨(.head _), (List.forall_mem_cons.mpr ⟨(.tail _ (.head _)), (List.forall_mem_cons.mpr ⟨(.tail _ (.tail _ (.head _))), (fun _ h => absurd h List.not_mem_nil)⟩)⟩)⟩) ?_
    exact (k_X9_read hI hp ((121 - F302 106 18) + (5 - F302 106 19) + 100 : Int).toNat.succ).1 z307 F302 A303 I308 f320 (by omega) (by omega) (by omega) (by omega) (by omega) (by omega)
  · skip
    refine sA_sipush (z := (-1001)) dd_X9_read_8 (by decide) ?_
    refine sA_iret (z := -1001) dd_X9_read_11 rfl ?_
    exact ⟨_, rfl, hI, hf, by omega⟩
theorem dd_X9_ring_0 : decode cX9_ring 0 = .ok (.iconst 0, 1) := by decide +kernel
theorem dd_X9_ring_1 : decode cX9_ring 1 = .ok (.istore_n 1, 1) := by decide +kernel
theorem dd_X9_ring_2 : decode cX9_ring 2 = .ok (.aload_n 0, 1) := by decide +kernel
theorem dd_X9_ring_3 : decode cX9_ring 3 = .ok (.getfield 67, 3) := by decide +kernel
theorem dd_X9_ring_6 : decode cX9_ring 6 = .ok (.istore_n 2, 1) := by decide +kernel
theorem dd_X9_ring_7 : decode cX9_ring 7 = .ok (.iload_n 2, 1) := by decide +kernel
theorem dd_X9_ring_8 : decode cX9_ring 8 = .ok (.iload_n 1, 1) := by decide +kernel
theorem dd_X9_ring_9 : decode cX9_ring 9 = .ok (.isub, 1) := by decide +kernel
theorem dd_X9_ring_10 : decode cX9_ring 10 = .ok (.iconst 1, 1) := by decide +kernel
theorem dd_X9_ring_11 : decode cX9_ring 11 = .ok (.if_icmp .le 31, 3) := by decide +kernel
theorem dd_X9_ring_14 : decode cX9_ring 14 = .ok (.aload_n 0, 1) := by decide +kernel
theorem dd_X9_ring_15 : decode cX9_ring 15 = .ok (.getfield 7, 3) := by decide +kernel
theorem dd_X9_ring_18 : decode cX9_ring 18 = .ok (.iload_n 1, 1) := by decide +kernel
theorem dd_X9_ring_19 : decode cX9_ring 19 = .ok (.iaload, 1) := by decide +kernel
theorem dd_X9_ring_20 : decode cX9_ring 20 = .ok (.iconst 0, 1) := by decide +kernel
theorem dd_X9_ring_21 : decode cX9_ring 21 = .ok (.aload_n 0, 1) := by decide +kernel
theorem dd_X9_ring_22 : decode cX9_ring 22 = .ok (.getfield 7, 3) := by decide +kernel
theorem dd_X9_ring_25 : decode cX9_ring 25 = .ok (.iload_n 2, 1) := by decide +kernel
theorem dd_X9_ring_26 : decode cX9_ring 26 = .ok (.iconst 1, 1) := by decide +kernel
theorem dd_X9_ring_27 : decode cX9_ring 27 = .ok (.isub, 1) := by decide +kernel
theorem dd_X9_ring_28 : decode cX9_ring 28 = .ok (.iaload, 1) := by decide +kernel
theorem dd_X9_ring_29 : decode cX9_ring 29 = .ok (.isub, 1) := by decide +kernel
theorem dd_X9_ring_30 : decode cX9_ring 30 = .ok (.if_icmp .ne 12, 3) := by decide +kernel
theorem dd_X9_ring_33 : decode cX9_ring 33 = .ok (.iinc 1 1, 3) := by decide +kernel
theorem dd_X9_ring_36 : decode cX9_ring 36 = .ok (.iinc 2 (-1), 3) := by decide +kernel
theorem dd_X9_ring_39 : decode cX9_ring 39 = .ok (.goto (-32), 3) := by decide +kernel
theorem dd_X9_ring_42 : decode cX9_ring 42 = .ok (.iload_n 2, 1) := by decide +kernel
theorem dd_X9_ring_43 : decode cX9_ring 43 = .ok (.iload_n 1, 1) := by decide +kernel
theorem dd_X9_ring_44 : decode cX9_ring 44 = .ok (.isub, 1) := by decide +kernel
theorem dd_X9_ring_45 : decode cX9_ring 45 = .ok (.iconst 1, 1) := by decide +kernel
theorem dd_X9_ring_46 : decode cX9_ring 46 = .ok (.if_icmp .ge 7, 3) := by decide +kernel
theorem dd_X9_ring_49 : decode cX9_ring 49 = .ok (.sipush (-1003), 3) := by decide +kernel
theorem dd_X9_ring_52 : decode cX9_ring 52 = .ok (.ireturn, 1) := by decide +kernel
theorem dd_X9_ring_53 : decode cX9_ring 53 = .ok (.aload_n 0, 1) := by decide +kernel
theorem dd_X9_ring_54 : decode cX9_ring 54 = .ok (.getfield 70, 3) := by decide +kernel
theorem dd_X9_ring_57 : decode cX9_ring 57 = .ok (.bipush 12, 2) := by decide +kernel
theorem dd_X9_ring_59 : decode cX9_ring 59 = .ok (.if_icmp .ne 7, 3) := by decide +kernel
theorem dd_X9_ring_62 : decode cX9_ring 62 = .ok (.sipush (-1004), 3) := by decide +kernel
theorem dd_X9_ring_65 : decode cX9_ring 65 = .ok (.ireturn, 1) := by decide +kernel
theorem dd_X9_ring_66 : decode cX9_ring 66 = .ok (.aload_n 0, 1) := by decide +kernel
theorem dd_X9_ring_67 : decode cX9_ring 67 = .ok (.getfield 13, 3) := by decide +kernel
theorem dd_X9_ring_70 : decode cX9_ring 70 = .ok (.aload_n 0, 1) := by decide +kernel
theorem dd_X9_ring_71 : decode cX9_ring 71 = .ok (.getfield 70, 3) := by decide +kernel
theorem dd_X9_ring_74 : decode cX9_ring 74 = .ok (.iload_n 2, 1) := by decide +kernel
theorem dd_X9_ring_75 : decode cX9_ring 75 = .ok (.iload_n 1, 1) := by decide +kernel
theorem dd_X9_ring_76 : decode cX9_ring 76 = .ok (.isub, 1) := by decide +kernel
theorem dd_X9_ring_77 : decode cX9_ring 77 = .ok (.iastore, 1) := by decide +kernel
theorem dd_X9_ring_78 : decode cX9_ring 78 = .ok (.iload_n 1, 1) := by decide +kernel
theorem dd_X9_ring_79 : decode cX9_ring 79 = .ok (.istore_n 3, 1) := by decide +kernel
theorem dd_X9_ring_80 : decode cX9_ring 80 = .ok (.iload_n 3, 1) := by decide +kernel
theorem dd_X9_ring_81 : decode cX9_ring 81 = .ok (.iload_n 2, 1) := by decide +kernel
theorem dd_X9_ring_82 : decode cX9_ring 82 = .ok (.if_icmp .ge 31, 3) := by decide +kernel
theorem dd_X9_ring_85 : decode cX9_ring 85 = .ok (.aload_n 0, 1) := by decide +kernel
theorem dd_X9_ring_86 : decode cX9_ring 86 = .ok (.getfield 16, 3) := by decide +kernel
theorem dd_X9_ring_89 : decode cX9_ring 89 = .ok (.bipush 60, 2) := by decide +kernel
theorem dd_X9_ring_91 : decode cX9_ring 91 = .ok (.aload_n 0, 1) := by decide +kernel
theorem dd_X9_ring_92 : decode cX9_ring 92 = .ok (.getfield 70, 3) := by decide +kernel
theorem dd_X9_ring_95 : decode cX9_ring 95 = .ok (.imul, 1) := by decide +kernel
theorem dd_X9_ring_96 : decode cX9_ring 96 = .ok (.iload_n 3, 1) := by decide +kernel
theorem dd_X9_ring_97 : decode cX9_ring 97 = .ok (.iadd, 1) := by decide +kernel
theorem dd_X9_ring_98 : decode cX9_ring 98 = .ok (.iload_n 1, 1) := by decide +kernel
theorem dd_X9_ring_99 : decode cX9_ring 99 = .ok (.isub, 1) := by decide +kernel
theorem dd_X9_ring_100 : decode cX9_ring 100 = .ok (.aload_n 0, 1) := by decide +kernel
theorem dd_X9_ring_101 : decode cX9_ring 101 = .ok (.getfield 7, 3) := by decide +kernel
theorem dd_X9_ring_104 : decode cX9_ring 104 = .ok (.iload_n 3, 1) := by decide +kernel
theorem dd_X9_ring_105 : decode cX9_ring 105 = .ok (.iaload, 1) := by decide +kernel
theorem dd_X9_ring_106 : decode cX9_ring 106 = .ok (.iastore, 1) := by decide +kernel
theorem dd_X9_ring_107 : decode cX9_ring 107 = .ok (.iinc 3 1, 3) := by decide +kernel
theorem dd_X9_ring_110 : decode cX9_ring 110 = .ok (.goto (-30), 3) := by decide +kernel
theorem dd_X9_ring_113 : decode cX9_ring 113 = .ok (.aload_n 0, 1) := by decide +kernel
theorem dd_X9_ring_114 : decode cX9_ring 114 = .ok (.iconst 0, 1) := by decide +kernel
theorem dd_X9_ring_115 : decode cX9_ring 115 = .ok (.putfield 67, 3) := by decide +kernel
theorem dd_X9_ring_118 : decode cX9_ring 118 = .ok (.aload_n 0, 1) := by decide +kernel
theorem dd_X9_ring_119 : decode cX9_ring 119 = .ok (.dup, 1) := by decide +kernel
theorem dd_X9_ring_120 : decode cX9_ring 120 = .ok (.getfield 70, 3) := by decide +kernel
theorem dd_X9_ring_123 : decode cX9_ring 123 = .ok (.iconst 1, 1) := by decide +kernel
theorem dd_X9_ring_124 : decode cX9_ring 124 = .ok (.iadd, 1) := by decide +kernel
theorem dd_X9_ring_125 : decode cX9_ring 125 = .ok (.putfield 70, 3) := by decide +kernel
theorem dd_X9_ring_128 : decode cX9_ring 128 = .ok (.aload_n 0, 1) := by decide +kernel
theorem dd_X9_ring_129 : decode cX9_ring 129 = .ok (.getfield 70, 3) := by decide +kernel
theorem dd_X9_ring_132 : decode cX9_ring 132 = .ok (.iconst 1, 1) := by decide +kernel
theorem dd_X9_ring_133 : decode cX9_ring 133 = .ok (.isub, 1) := by decide +kernel
theorem dd_X9_ring_134 : decode cX9_ring 134 = .ok (.ireturn, 1) := by decide +kernel
theorem ok_X9_ring : am_okM m_X9_ring 0 ∧ Cond.instanceMethod m_X9_ring.1 ∈ am_tbl ∧ Cond.selects m_X9_ring.1.cls m_X9_ring.1 m_X9_ring.1 ∈ am_tbl := ri_mk1 887 93 885 886 (by decide +kernel)
theorem k_X9_ring  {F A : gs_F} (hI : gs_I F A) (hX : ∀ r : Nat, (r : Int) < F 106 3 → 1 ≤ A 108 r) : ∀ nN : Nat, (∀ (fm : Int) (t : Int)  (F1 A1 : gs_F), gs_I F1 A1 → gs_fr (fun c j => c = 106 ∧ (j = 1 ∨ j = 3)) (fun c => c = 108 ∨ c = 109) F A F1 A1 → 0 ≤ fm ∧ fm ≤ t → t ≤ 60 → F1 106 3 = F 106 3 ∧ F1 106 1 = F 106 1 → (∀ r : Nat, (r : Int) < F1 106 3 → 1 ≤ A1 108 r) → t - fm + 1000 < (nN : Int) → sA m_X9_ring 1 (fun rv F' A' => ∃ z : Int, rv = some (gs_iv z) ∧ gs_I F' A' ∧ gs_fr (fun c j => c = 106 ∧ (j = 1 ∨ j = 3)) (fun c => c = 108 ∨ c = 109) F A F' A' ∧ (((F' 106 3 = F 106 3 ∧ F' 106 1 = F 106 1 ∧ (z = -1003 ∨ (z = -1004 ∧ F 106 3 = 12))) ∨ (F 106 3 < 12 ∧ F' 106 3 = F 106 3 + 1 ∧ F' 106 1 = 0 ∧ z = F 106 3)) ∧ (∀ r : Nat, (r : Int) < F' 106 3 → 1 ≤ A' 108 r))) 7 [(1, gs_iv fm), (2, gs_iv t), (0, .ref 106)] [] F1 A1) ∧ (∀ (fm : Int) (t : Int) (k : Int)  (F1 A1 : gs_F), gs_I F1 A1 → gs_fr (fun c j => c = 106 ∧ (j = 1 ∨ j = 3)) (fun c => c = 108 ∨ c = 109) F A F1 A1 → 0 ≤ fm ∧ fm ≤ k → k ≤ t ∧ t ≤ 60 → F1 106 3 = F 106 3 ∧ F 106 3 < 12 → (∀ r : Nat, (r : Int) ≤ F1 106 3 → 1 ≤ A1 108 r) → t - k < (nN : Int) → sA m_X9_ring 1 (fun rv F' A' => ∃ z : Int, rv = some (gs_iv z) ∧ gs_I F' A' ∧ gs_fr (fun c j => c = 106 ∧ (j = 1 ∨ j = 3)) (fun c => c = 108 ∨ c = 109) F A F' A' ∧ (((F' 106 3 = F 106 3 ∧ F' 106 1 = F 106 1 ∧ (z = -1003 ∨ (z = -1004 ∧ F 106 3 = 12))) ∨ (F 106 3 < 12 ∧ F' 106 3 = F 106 3 + 1 ∧ F' 106 1 = 0 ∧ z = F 106 3)) ∧ (∀ r : Nat, (r : Int) < F' 106 3 → 1 ≤ A' 108 r))) 80 [(3, gs_iv k), (1, gs_iv fm), (2, gs_iv t), (0, .ref 106)] [] F1 A1) := by
  intro nN
  induction nN with
  | zero =>
    exact ⟨fun a0 a1 a2 a3 a4 a5 i0 i1 i2 i3 hm => by exfalso; omega, fun a0 a1 a2 a3 a4 a5 a6 i0 i1 i2 i3 hm => by exfalso; omega⟩
  | succ nN ih =>
    refine ⟨?_, ?_⟩
    · skip
      intro fm t F1 A1 hI1 hf1 i0 i1 i2 i3 hm
      have b1 : (0 : Int) ≤ F1 106 1 ∧ F1 106 1 ≤ 60 := hI1.1 106 1
      have b2 : (0 : Int) ≤ F1 106 3 ∧ F1 106 3 ≤ 12 := hI1.1 106 3
      refine sA_iload_n dd_X9_ring_7 rfl (.tail _ (.head _)) ?_
      refine sA_iload_n dd_X9_ring_8 rfl (.head _) ?_
      refine sA_isub dd_X9_ring_9 ?_
      refine sA_iconst (z := 1) dd_X9_ring_10 ?_
      refine sA_icmp_le (tgt := 42) dd_X9_ring_11 (by decide) (by omega) (by omega) (fun q3 => ?_) (fun q3 => ?_)
      · skip
        refine sA_iload_n dd_X9_ring_42 rfl (.tail _ (.head _)) ?_
        refine sA_iload_n dd_X9_ring_43 rfl (.head _) ?_
        refine sA_isub dd_X9_ring_44 ?_
        refine sA_iconst (z := 1) dd_X9_ring_45 ?_
        refine sA_icmp_ge (tgt := 53) dd_X9_ring_46 (by decide) (by omega) (by omega) (fun q4 => ?_) (fun q4 => ?_)
        · skip
          refine sA_aload_n dd_X9_ring_53 rfl (.tail _ (.tail _ (.head _))) ?_
          refine sA_geti (ci := 9) (j := 3) (q := (RX9, TX9, 28)) dd_X9_ring_54 rfl (by decide) fl_X9_70 (by decide) gs_s106 rfl ?_
          refine sA_bipush (z := 12) dd_X9_ring_57 (by decide) ?_
          refine sA_icmp_ne (tgt := 66) dd_X9_ring_59 (by decide) (by omega) (by omega) (fun q5 => ?_) (fun q5 => ?_)
          · skip
            refine sA_aload_n dd_X9_ring_66 rfl (.tail _ (.tail _ (.head _))) ?_
            refine sA_getr (ci := 9) (j := 4) (q := (RX9, TX9, 28)) dd_X9_ring_67 rfl (by decide) fl_X9_13 (by decide) gs_s106 rfl ?_
            refine sA_aload_n dd_X9_ring_70 rfl (.tail _ (.tail _ (.head _))) ?_
            refine sA_geti (ci := 9) (j := 3) (q := (RX9, TX9, 28)) dd_X9_ring_71 rfl (by decide) fl_X9_70 (by decide) gs_s106 rfl ?_
            refine sA_iload_n dd_X9_ring_74 rfl (.tail _ (.head _)) ?_
            refine sA_iload_n dd_X9_ring_75 rfl (.head _) ?_
            refine sA_isub dd_X9_ring_76 ?_
            refine sA_iast (n := 12) dd_X9_ring_77 (by decide) gs_s108 (by omega) (by decide) ?_
            have I7 : gs_I F1 (gs_up A1 108 ((F1 106 3).toNat) (t - fm)) := gs_I_ast hI1 (show (0 : Int) ≤ t - fm ∧ t - fm ≤ 60 by omega)
            have f8 := gs_fr_ast hf1 (a := 108) (z := t - fm) (i := (F1 106 3).toNat) (by first | omega | (dsimp only; omega) | (dsimp only))
            have v9 := gs_up_cs A1 108 ((F1 106 3).toNat) (t - fm)
            generalize gs_up A1 108 ((F1 106 3).toNat) (t - fm) = A6 at I7 f8 v9 ⊢
            refine sA_iload_n dd_X9_ring_78 rfl (.head _) ?_
            refine sA_istore_n (lv' := [(3, gs_iv fm), (1, gs_iv fm), (2, gs_iv t), (0, .ref 106)]) dd_X9_ring_79 rfl (by decide) rfl ?_
            refine sA_sub (lv2 := [(3, gs_iv fm), (1, gs_iv fm), (2, gs_iv t), (0, .ref 106)]) (List.forall_mem_cons.mpr ⟨(.head _), (List.forall_mem_cons.mpr ⟨(.tail _ (.head _)), (List.forall_mem_cons.mpr ⟨(.tail _ (.tail _ (.head _))), (List.forall_mem_cons.mpr ⟨(.tail _ (.tail _ (.tail _ (.head _)))), (fun _ h => absurd h List.not_mem_nil)⟩)⟩)⟩)⟩) ?_
            exact ih.2 fm t fm F1 A6 I7 f8 (by omega) (by omega) (by omega) (by intro r h; first | (rw [v9]; exact i3 r h) | (have q := v9 r; have q2 := i3 r; omega)) (by omega)
          · skip
            refine sA_sipush (z := (-1004)) dd_X9_ring_62 (by decide) ?_
            refine sA_iret (z := -1004) dd_X9_ring_65 rfl ?_
            refine ⟨_, rfl, hI1, hf1, ?_⟩
            exact ⟨by omega, i3⟩
        · skip
          refine sA_sipush (z := (-1003)) dd_X9_ring_49 (by decide) ?_
          refine sA_iret (z := -1003) dd_X9_ring_52 rfl ?_
          refine ⟨_, rfl, hI1, hf1, ?_⟩
          exact ⟨by omega, i3⟩
      · skip
        refine sA_aload_n dd_X9_ring_14 rfl (.tail _ (.tail _ (.head _))) ?_
        refine sA_getr (ci := 9) (j := 2) (q := (RX9, TX9, 28)) dd_X9_ring_15 rfl (by decide) fl_X9_7 (by decide) gs_s106 rfl ?_
        refine sA_iload_n dd_X9_ring_18 rfl (.head _) ?_
        refine sA_iald (n := 60) dd_X9_ring_19 (by decide) gs_s107 (by omega) (by decide) ?_
        have b10 : (-9 : Int) ≤ A1 107 fm.toNat ∧ A1 107 fm.toNat ≤ 9 := hI1.2 107 fm.toNat
        refine sA_iconst (z := 0) dd_X9_ring_20 ?_
        refine sA_aload_n dd_X9_ring_21 rfl (.tail _ (.tail _ (.head _))) ?_
        refine sA_getr (ci := 9) (j := 2) (q := (RX9, TX9, 28)) dd_X9_ring_22 rfl (by decide) fl_X9_7 (by decide) gs_s106 rfl ?_
        refine sA_iload_n dd_X9_ring_25 rfl (.tail _ (.head _)) ?_
        refine sA_iconst (z := 1) dd_X9_ring_26 ?_
        refine sA_isub dd_X9_ring_27 ?_
        refine sA_iald (n := 60) dd_X9_ring_28 (by decide) gs_s107 (by omega) (by decide) ?_
        have b11 : (-9 : Int) ≤ A1 107 (t - 1).toNat ∧ A1 107 (t - 1).toNat ≤ 9 := hI1.2 107 (t - 1).toNat
        refine sA_isub dd_X9_ring_29 ?_
        refine sA_icmp_ne (tgt := 42) dd_X9_ring_30 (by decide) (by omega) (by omega) (fun q12 => ?_) (fun q12 => ?_)
        · skip
          refine sA_iload_n dd_X9_ring_42 rfl (.tail _ (.head _)) ?_
          refine sA_iload_n dd_X9_ring_43 rfl (.head _) ?_
          refine sA_isub dd_X9_ring_44 ?_
          refine sA_iconst (z := 1) dd_X9_ring_45 ?_
          refine sA_icmp_ge (tgt := 53) dd_X9_ring_46 (by decide) (by omega) (by omega) (fun q13 => ?_) (fun q13 => ?_)
          · skip
            refine sA_aload_n dd_X9_ring_53 rfl (.tail _ (.tail _ (.head _))) ?_
            refine sA_geti (ci := 9) (j := 3) (q := (RX9, TX9, 28)) dd_X9_ring_54 rfl (by decide) fl_X9_70 (by decide) gs_s106 rfl ?_
            refine sA_bipush (z := 12) dd_X9_ring_57 (by decide) ?_
            refine sA_icmp_ne (tgt := 66) dd_X9_ring_59 (by decide) (by omega) (by omega) (fun q14 => ?_) (fun q14 => ?_)
            · skip
              refine sA_aload_n dd_X9_ring_66 rfl (.tail _ (.tail _ (.head _))) ?_
              refine sA_getr (ci := 9) (j := 4) (q := (RX9, TX9, 28)) dd_X9_ring_67 rfl (by decide) fl_X9_13 (by decide) gs_s106 rfl ?_
              refine sA_aload_n dd_X9_ring_70 rfl (.tail _ (.tail _ (.head _))) ?_
              refine sA_geti (ci := 9) (j := 3) (q := (RX9, TX9, 28)) dd_X9_ring_71 rfl (by decide) fl_X9_70 (by decide) gs_s106 rfl ?_
              refine sA_iload_n dd_X9_ring_74 rfl (.tail _ (.head _)) ?_
              refine sA_iload_n dd_X9_ring_75 rfl (.head _) ?_
              refine sA_isub dd_X9_ring_76 ?_
              refine sA_iast (n := 12) dd_X9_ring_77 (by decide) gs_s108 (by omega) (by decide) ?_
              have I16 : gs_I F1 (gs_up A1 108 ((F1 106 3).toNat) (t - fm)) := gs_I_ast hI1 (show (0 : Int) ≤ t - fm ∧ t - fm ≤ 60 by omega)
              have f17 := gs_fr_ast hf1 (a := 108) (z := t - fm) (i := (F1 106 3).toNat) (by first | omega | (dsimp only; omega) | (dsimp only))
              have v18 := gs_up_cs A1 108 ((F1 106 3).toNat) (t - fm)
              generalize gs_up A1 108 ((F1 106 3).toNat) (t - fm) = A15 at I16 f17 v18 ⊢
              refine sA_iload_n dd_X9_ring_78 rfl (.head _) ?_
              refine sA_istore_n (lv' := [(3, gs_iv fm), (1, gs_iv fm), (2, gs_iv t), (0, .ref 106)]) dd_X9_ring_79 rfl (by decide) rfl ?_
              refine sA_sub (lv2 := [(3, gs_iv fm), (1, gs_iv fm), (2, gs_iv t), (0, .ref 106)]) (List.forall_mem_cons.mpr ⟨(.head _), (List.forall_mem_cons.mpr ⟨(.tail _ (.head _)), (List.forall_mem_cons.mpr ⟨(.tail _ (.tail _ (.head _))), (List.forall_mem_cons.mpr ⟨(.tail _ (.tail _ (.tail _ (.head _)))), (fun _ h => absurd h List.not_mem_nil)⟩)⟩)⟩)⟩) ?_
              exact ih.2 fm t fm F1 A15 I16 f17 (by omega) (by omega) (by omega) (by intro r h; first | (rw [v18]; exact i3 r h) | (have q := v18 r; have q2 := i3 r; omega)) (by omega)
            · skip
              refine sA_sipush (z := (-1004)) dd_X9_ring_62 (by decide) ?_
              refine sA_iret (z := -1004) dd_X9_ring_65 rfl ?_
              refine ⟨_, rfl, hI1, hf1, ?_⟩
              exact ⟨by omega, i3⟩
          · skip
            refine sA_sipush (z := (-1003)) dd_X9_ring_49 (by decide) ?_
            refine sA_iret (z := -1003) dd_X9_ring_52 rfl ?_
            refine ⟨_, rfl, hI1, hf1, ?_⟩
            exact ⟨by omega, i3⟩
        · skip
          refine sA_iinc (lv' := [(1, gs_iv (fm + 1)), (2, gs_iv t), (0, .ref 106)]) dd_X9_ring_33 (.head _) (by decide) rfl ?_
          refine sA_iinc (lv' := [(2, gs_iv (t + (-1))), (1, gs_iv (fm + 1)), (0, .ref 106)]) dd_X9_ring_36 (.tail _ (.head _)) (by decide) rfl ?_
          refine sA_goto (tgt := 7) dd_X9_ring_39 (by decide) ?_
          refine sA_sub (lv2 := [(1, gs_iv (fm + 1)), (2, gs_iv (t + (-1))), (0, .ref 106)]) (List.forall_mem_cons.mpr ⟨(.tail _ (.head _)), (List.forall_mem_cons.mpr ⟨(.head _), (List.forall_mem_cons.mpr ⟨(.tail _ (.tail _ (.head _))), (fun _ h => absurd h List.not_mem_nil)⟩)⟩)⟩) ?_
          exact ih.1 (fm + 1) (t + (-1)) F1 A1 hI1 hf1 (by omega) (by omega) (by omega) (by first | exact hX | exact i3) (by omega)
    · skip
      intro fm t k F1 A1 hI1 hf1 i0 i1 i2 i3 hm
      have b19 : (0 : Int) ≤ F1 106 1 ∧ F1 106 1 ≤ 60 := hI1.1 106 1
      have b20 : (0 : Int) ≤ F1 106 3 ∧ F1 106 3 ≤ 12 := hI1.1 106 3
      refine sA_iload_n dd_X9_ring_80 rfl (.head _) ?_
      refine sA_iload_n dd_X9_ring_81 rfl (.tail _ (.tail _ (.head _))) ?_
      refine sA_icmp_ge (tgt := 113) dd_X9_ring_82 (by decide) (by omega) (by omega) (fun q21 => ?_) (fun q21 => ?_)
      · skip
        refine sA_aload_n dd_X9_ring_113 rfl (.tail _ (.tail _ (.tail _ (.head _)))) ?_
        refine sA_iconst (z := 0) dd_X9_ring_114 ?_
        refine sA_put (ci := 9) (j := 1) (q := (RX9, TX9, 28)) (ty := .int) dd_X9_ring_115 rfl (by decide) fl_X9_67 rfl (tyX9_ok 1 (by decide)) rfl rfl (by decide) gs_s106 rfl ?_
        have I23 : gs_I (gs_up F1 106 1 0) A1 := gs_I_put hI1 (show (0 : Int) ≤ 0 ∧ 0 ≤ 60 by omega)
        have f24 := gs_fr_put hf1 (a := 106) (z := 0) (j := 1) (by first | omega | (dsimp only; omega) | (dsimp only))
        have v25 : gs_up F1 106 1 0 106 1 = 0 := gs_up_self _ _ _ _
        have v26 : (gs_up F1 106 1 0) 106 3 = F1 106 3 := gs_up_ne _ _ (by omega)
        generalize gs_up F1 106 1 0 = F22 at I23 f24 v25 v26 ⊢
        refine sA_aload_n dd_X9_ring_118 rfl (.tail _ (.tail _ (.tail _ (.head _)))) ?_
        refine sA_dup dd_X9_ring_119 rfl ?_
        refine sA_geti (ci := 9) (j := 3) (q := (RX9, TX9, 28)) dd_X9_ring_120 rfl (by decide) fl_X9_70 (by decide) gs_s106 rfl ?_
        have b27 : (0 : Int) ≤ F22 106 3 ∧ F22 106 3 ≤ 12 := I23.1 106 3
        refine sA_iconst (z := 1) dd_X9_ring_123 ?_
        refine sA_iadd dd_X9_ring_124 ?_
        refine sA_put (ci := 9) (j := 3) (q := (RX9, TX9, 28)) (ty := .int) dd_X9_ring_125 rfl (by decide) fl_X9_70 rfl (tyX9_ok 3 (by decide)) rfl rfl (by decide) gs_s106 rfl ?_
        have I29 : gs_I (gs_up F22 106 3 ((F22 106 3) + 1)) A1 := gs_I_put I23 (show (0 : Int) ≤ (F22 106 3) + 1 ∧ (F22 106 3) + 1 ≤ 12 by omega)
        have f30 := gs_fr_put f24 (a := 106) (z := (F22 106 3) + 1) (j := 3) (by first | omega | (dsimp only; omega) | (dsimp only))
        have v31 : gs_up F22 106 3 ((F22 106 3) + 1) 106 3 = (F22 106 3) + 1 := gs_up_self _ _ _ _
        have v32 : (gs_up F22 106 3 ((F22 106 3) + 1)) 106 1 = F22 106 1 := gs_up_ne _ _ (by omega)
        generalize gs_up F22 106 3 ((F22 106 3) + 1) = F28 at I29 f30 v31 v32 ⊢
        refine sA_aload_n dd_X9_ring_128 rfl (.tail _ (.tail _ (.tail _ (.head _)))) ?_
        refine sA_geti (ci := 9) (j := 3) (q := (RX9, TX9, 28)) dd_X9_ring_129 rfl (by decide) fl_X9_70 (by decide) gs_s106 rfl ?_
        have b33 : (0 : Int) ≤ F28 106 3 ∧ F28 106 3 ≤ 12 := I29.1 106 3
        refine sA_iconst (z := 1) dd_X9_ring_132 ?_
        refine sA_isub dd_X9_ring_133 ?_
        refine sA_iret (z := (F28 106 3) - 1) dd_X9_ring_134 rfl ?_
        refine ⟨_, rfl, I29, f30, ?_⟩
        exact ⟨by omega, fun r h => i3 r (by omega)⟩
      · skip
        refine sA_aload_n dd_X9_ring_85 rfl (.tail _ (.tail _ (.tail _ (.head _)))) ?_
        refine sA_getr (ci := 9) (j := 5) (q := (RX9, TX9, 28)) dd_X9_ring_86 rfl (by decide) fl_X9_16 (by decide) gs_s106 rfl ?_
        refine sA_bipush (z := 60) dd_X9_ring_89 (by decide) ?_
        refine sA_aload_n dd_X9_ring_91 rfl (.tail _ (.tail _ (.tail _ (.head _)))) ?_
        refine sA_geti (ci := 9) (j := 3) (q := (RX9, TX9, 28)) dd_X9_ring_92 rfl (by decide) fl_X9_70 (by decide) gs_s106 rfl ?_
        refine sA_imul dd_X9_ring_95 ?_
        refine sA_iload_n dd_X9_ring_96 rfl (.head _) ?_
        refine sA_iadd dd_X9_ring_97 ?_
        refine sA_iload_n dd_X9_ring_98 rfl (.tail _ (.head _)) ?_
        refine sA_isub dd_X9_ring_99 ?_
        refine sA_aload_n dd_X9_ring_100 rfl (.tail _ (.tail _ (.tail _ (.head _)))) ?_
        refine sA_getr (ci := 9) (j := 2) (q := (RX9, TX9, 28)) dd_X9_ring_101 rfl (by decide) fl_X9_7 (by decide) gs_s106 rfl ?_
        refine sA_iload_n dd_X9_ring_104 rfl (.head _) ?_
        refine sA_iald (n := 60) dd_X9_ring_105 (by decide) gs_s107 (by omega) (by decide) ?_
        have b34 : (-9 : Int) ≤ A1 107 k.toNat ∧ A1 107 k.toNat ≤ 9 := hI1.2 107 k.toNat
        refine sA_iast (n := 720) dd_X9_ring_106 (by decide) gs_s109 (by omega) (by decide) ?_
        have I36 : gs_I F1 (gs_up A1 109 ((((60 * (F1 106 3)) + k) - fm).toNat) (A1 107 k.toNat)) := gs_I_ast hI1 (show (-9 : Int) ≤ A1 107 k.toNat ∧ A1 107 k.toNat ≤ 9 by omega)
        have f37 := gs_fr_ast hf1 (a := 109) (z := A1 107 k.toNat) (i := (((60 * (F1 106 3)) + k) - fm).toNat) (by first | omega | (dsimp only; omega) | (dsimp only))
        have v38 : (gs_up A1 109 ((((60 * (F1 106 3)) + k) - fm).toNat) (A1 107 k.toNat)) 108 = A1 108 := gs_up_row _ _ (by decide)
        generalize gs_up A1 109 ((((60 * (F1 106 3)) + k) - fm).toNat) (A1 107 k.toNat) = A35 at I36 f37 v38 ⊢
        refine sA_iinc (lv' := [(3, gs_iv (k + 1)), (1, gs_iv fm), (2, gs_iv t), (0, .ref 106)]) dd_X9_ring_107 (.head _) (by decide) rfl ?_
        refine sA_goto (tgt := 80) dd_X9_ring_110 (by decide) ?_
        refine sA_sub (lv2 := [(3, gs_iv (k + 1)), (1, gs_iv fm), (2, gs_iv t), (0, .ref 106)]) (List.forall_mem_cons.mpr ⟨(.head _), (List.forall_mem_cons.mpr ⟨(.tail _ (.head _)), (List.forall_mem_cons.mpr ⟨(.tail _ (.tail _ (.head _))), (List.forall_mem_cons.mpr ⟨(.tail _ (.tail _ (.tail _ (.head _)))), (fun _ h => absurd h List.not_mem_nil)⟩)⟩)⟩)⟩) ?_
        exact ih.2 fm t (k + 1) F1 A35 I36 f37 (by omega) (by omega) (by omega) (by intro r h; first | (rw [v38]; exact i3 r h) | (have q := v38 r; have q2 := i3 r; omega)) (by omega)
theorem c_X9_ring  {F A : gs_F} (hI : gs_I F A) (hX : ∀ r : Nat, (r : Int) < F 106 3 → 1 ≤ A 108 r) : sC m_X9_ring 1 [.ref 106] F A (fun rv F' A' => ∃ z : Int, rv = some (gs_iv z) ∧ gs_I F' A' ∧ gs_fr (fun c j => c = 106 ∧ (j = 1 ∨ j = 3)) (fun c => c = 108 ∨ c = 109) F A F' A' ∧ (((F' 106 3 = F 106 3 ∧ F' 106 1 = F 106 1 ∧ (z = -1003 ∨ (z = -1004 ∧ F 106 3 = 12))) ∨ (F 106 3 < 12 ∧ F' 106 3 = F 106 3 + 1 ∧ F' 106 1 = 0 ∧ z = F 106 3)) ∧ (∀ r : Nat, (r : Int) < F' 106 3 → 1 ≤ A' 108 r))) := by
  refine sC_of ok_X9_ring.1 (Nat.le_of_ble_eq_true rfl) ?_
  show sA _ _ _ 0 [(0, .ref 106)] [] F A
  have hf : gs_fr (fun c j => c = 106 ∧ (j = 1 ∨ j = 3)) (fun c => c = 108 ∨ c = 109) F A F A := gs_fr_refl _ _ _ _
  have b39 : (0 : Int) ≤ F 106 1 ∧ F 106 1 ≤ 60 := hI.1 106 1
  have b40 : (0 : Int) ≤ F 106 3 ∧ F 106 3 ≤ 12 := hI.1 106 3
  refine sA_iconst (z := 0) dd_X9_ring_0 ?_
  refine sA_istore_n (lv' := [(1, gs_iv 0), (0, .ref 106)]) dd_X9_ring_1 rfl (by decide) rfl ?_
  refine sA_aload_n dd_X9_ring_2 rfl (.tail _ (.head _)) ?_
  refine sA_geti (ci := 9) (j := 1) (q := (RX9, TX9, 28)) dd_X9_ring_3 rfl (by decide) fl_X9_67 (by decide) gs_s106 rfl ?_
  refine sA_istore_n (lv' := [(2, gs_iv (F 106 1)), (1, gs_iv 0), (0, .ref 106)]) dd_X9_ring_6 rfl (by decide) rfl ?_
  refine sA_sub (lv2 := [(1, gs_iv 0), (2, gs_iv (F 106 1)), (0, .ref 106)]) (List.forall_mem_cons.mpr ⟨(.tail _ (.head _)), (List.forall_mem_cons.mpr ⟨(.head _), (List.forall_mem_cons.mpr ⟨(.tail _ (.tail _ (.head _))), (fun _ h => absurd h List.not_mem_nil)⟩)⟩)⟩) ?_
  exact (k_X9_ring hI hX ((F 106 1) - 0 + 1000 : Int).toNat.succ).1 0 (F 106 1) F A hI hf (by omega) (by omega) (by omega) (by first | exact hX | exact i3) (by omega)
theorem dd_X9_heap_0 : decode cX9_heap 0 = .ok (.iload_n 1, 1) := by decide +kernel
theorem dd_X9_heap_1 : decode cX9_heap 1 = .ok (.ifCond .lt 12, 3) := by decide +kernel
theorem dd_X9_heap_4 : decode cX9_heap 4 = .ok (.iload_n 1, 1) := by decide +kernel
theorem dd_X9_heap_5 : decode cX9_heap 5 = .ok (.aload_n 0, 1) := by decide +kernel
theorem dd_X9_heap_6 : decode cX9_heap 6 = .ok (.getfield 70, 3) := by decide +kernel
theorem dd_X9_heap_9 : decode cX9_heap 9 = .ok (.ishr, 1) := by decide +kernel
theorem dd_X9_heap_10 : decode cX9_heap 10 = .ok (.ifCond .eq 7, 3) := by decide +kernel
theorem dd_X9_heap_13 : decode cX9_heap 13 = .ok (.sipush (-1001), 3) := by decide +kernel
theorem dd_X9_heap_16 : decode cX9_heap 16 = .ok (.ireturn, 1) := by decide +kernel
theorem dd_X9_heap_17 : decode cX9_heap 17 = .ok (.iconst 0, 1) := by decide +kernel
theorem dd_X9_heap_18 : decode cX9_heap 18 = .ok (.istore_n 2, 1) := by decide +kernel
theorem dd_X9_heap_19 : decode cX9_heap 19 = .ok (.iload_n 2, 1) := by decide +kernel
theorem dd_X9_heap_20 : decode cX9_heap 20 = .ok (.aload_n 0, 1) := by decide +kernel
theorem dd_X9_heap_21 : decode cX9_heap 21 = .ok (.getfield 70, 3) := by decide +kernel
theorem dd_X9_heap_24 : decode cX9_heap 24 = .ok (.if_icmp .ge 92, 3) := by decide +kernel
theorem dd_X9_heap_27 : decode cX9_heap 27 = .ok (.iload_n 1, 1) := by decide +kernel
theorem dd_X9_heap_28 : decode cX9_heap 28 = .ok (.iload_n 2, 1) := by decide +kernel
theorem dd_X9_heap_29 : decode cX9_heap 29 = .ok (.ishr, 1) := by decide +kernel
theorem dd_X9_heap_30 : decode cX9_heap 30 = .ok (.iconst 1, 1) := by decide +kernel
theorem dd_X9_heap_31 : decode cX9_heap 31 = .ok (.iand, 1) := by decide +kernel
theorem dd_X9_heap_32 : decode cX9_heap 32 = .ok (.iconst 1, 1) := by decide +kernel
theorem dd_X9_heap_33 : decode cX9_heap 33 = .ok (.if_icmp .ne 77, 3) := by decide +kernel
theorem dd_X9_heap_36 : decode cX9_heap 36 = .ok (.aload_n 0, 1) := by decide +kernel
theorem dd_X9_heap_37 : decode cX9_heap 37 = .ok (.iload_n 2, 1) := by decide +kernel
theorem dd_X9_heap_38 : decode cX9_heap 38 = .ok (.invokevirtual 151, 3) := by decide +kernel
theorem dd_X9_heap_41 : decode cX9_heap 41 = .ok (.ifCond .ne 8, 3) := by decide +kernel
theorem dd_X9_heap_44 : decode cX9_heap 44 = .ok (.bipush 14, 2) := by decide +kernel
theorem dd_X9_heap_46 : decode cX9_heap 46 = .ok (.iload_n 2, 1) := by decide +kernel
theorem dd_X9_heap_47 : decode cX9_heap 47 = .ok (.imul, 1) := by decide +kernel
theorem dd_X9_heap_48 : decode cX9_heap 48 = .ok (.ireturn, 1) := by decide +kernel
theorem dd_X9_heap_49 : decode cX9_heap 49 = .ok (.iload_n 2, 1) := by decide +kernel
theorem dd_X9_heap_50 : decode cX9_heap 50 = .ok (.iconst 1, 1) := by decide +kernel
theorem dd_X9_heap_51 : decode cX9_heap 51 = .ok (.iadd, 1) := by decide +kernel
theorem dd_X9_heap_52 : decode cX9_heap 52 = .ok (.istore_n 3, 1) := by decide +kernel
theorem dd_X9_heap_53 : decode cX9_heap 53 = .ok (.iload_n 3, 1) := by decide +kernel
theorem dd_X9_heap_54 : decode cX9_heap 54 = .ok (.aload_n 0, 1) := by decide +kernel
theorem dd_X9_heap_55 : decode cX9_heap 55 = .ok (.getfield 70, 3) := by decide +kernel
theorem dd_X9_heap_58 : decode cX9_heap 58 = .ok (.if_icmp .ge 52, 3) := by decide +kernel
theorem dd_X9_heap_61 : decode cX9_heap 61 = .ok (.iload_n 1, 1) := by decide +kernel
theorem dd_X9_heap_62 : decode cX9_heap 62 = .ok (.iload_n 3, 1) := by decide +kernel
theorem dd_X9_heap_63 : decode cX9_heap 63 = .ok (.ishr, 1) := by decide +kernel
theorem dd_X9_heap_64 : decode cX9_heap 64 = .ok (.iconst 1, 1) := by decide +kernel
theorem dd_X9_heap_65 : decode cX9_heap 65 = .ok (.iand, 1) := by decide +kernel
theorem dd_X9_heap_66 : decode cX9_heap 66 = .ok (.iconst 1, 1) := by decide +kernel
theorem dd_X9_heap_67 : decode cX9_heap 67 = .ok (.if_icmp .ne 37, 3) := by decide +kernel
theorem dd_X9_heap_70 : decode cX9_heap 70 = .ok (.aload_n 0, 1) := by decide +kernel
theorem dd_X9_heap_71 : decode cX9_heap 71 = .ok (.iload_n 3, 1) := by decide +kernel
theorem dd_X9_heap_72 : decode cX9_heap 72 = .ok (.invokevirtual 151, 3) := by decide +kernel
theorem dd_X9_heap_75 : decode cX9_heap 75 = .ok (.ifCond .eq 29, 3) := by decide +kernel
theorem dd_X9_heap_78 : decode cX9_heap 78 = .ok (.aload_n 0, 1) := by decide +kernel
theorem dd_X9_heap_79 : decode cX9_heap 79 = .ok (.iload_n 2, 1) := by decide +kernel
theorem dd_X9_heap_80 : decode cX9_heap 80 = .ok (.iload_n 3, 1) := by decide +kernel
theorem dd_X9_heap_81 : decode cX9_heap 81 = .ok (.invokevirtual 154, 3) := by decide +kernel
theorem dd_X9_heap_84 : decode cX9_heap 84 = .ok (.iconst 1, 1) := by decide +kernel
theorem dd_X9_heap_85 : decode cX9_heap 85 = .ok (.if_icmp .eq 12, 3) := by decide +kernel
theorem dd_X9_heap_88 : decode cX9_heap 88 = .ok (.aload_n 0, 1) := by decide +kernel
theorem dd_X9_heap_89 : decode cX9_heap 89 = .ok (.iload_n 2, 1) := by decide +kernel
theorem dd_X9_heap_90 : decode cX9_heap 90 = .ok (.iload_n 3, 1) := by decide +kernel
theorem dd_X9_heap_91 : decode cX9_heap 91 = .ok (.invokevirtual 148, 3) := by decide +kernel
theorem dd_X9_heap_94 : decode cX9_heap 94 = .ok (.ifCond .le 10, 3) := by decide +kernel
theorem dd_X9_heap_97 : decode cX9_heap 97 = .ok (.bipush 13, 2) := by decide +kernel
theorem dd_X9_heap_99 : decode cX9_heap 99 = .ok (.iload_n 2, 1) := by decide +kernel
theorem dd_X9_heap_100 : decode cX9_heap 100 = .ok (.imul, 1) := by decide +kernel
theorem dd_X9_heap_101 : decode cX9_heap 101 = .ok (.iload_n 3, 1) := by decide +kernel
theorem dd_X9_heap_102 : decode cX9_heap 102 = .ok (.iadd, 1) := by decide +kernel
theorem dd_X9_heap_103 : decode cX9_heap 103 = .ok (.ireturn, 1) := by decide +kernel
theorem dd_X9_heap_104 : decode cX9_heap 104 = .ok (.iinc 3 1, 3) := by decide +kernel
theorem dd_X9_heap_107 : decode cX9_heap 107 = .ok (.goto (-54), 3) := by decide +kernel
theorem dd_X9_heap_110 : decode cX9_heap 110 = .ok (.iinc 2 1, 3) := by decide +kernel
theorem dd_X9_heap_113 : decode cX9_heap 113 = .ok (.goto (-94), 3) := by decide +kernel
theorem dd_X9_heap_116 : decode cX9_heap 116 = .ok (.iconst (-1), 1) := by decide +kernel
theorem dd_X9_heap_117 : decode cX9_heap 117 = .ok (.ireturn, 1) := by decide +kernel
theorem ml_X9_151 : Cond.methodLink RX9 151 m_X9_isSimple.1 ∈ am_tbl := ri_lw_in (pl := 982) (by decide +kernel)
theorem ml_X9_154 : Cond.methodLink RX9 154 m_X9_one.1 ∈ am_tbl := ri_lw_in (pl := 986) (by decide +kernel)
theorem ok_X9_heap : am_okM m_X9_heap 1 ∧ Cond.instanceMethod m_X9_heap.1 ∈ am_tbl ∧ Cond.selects m_X9_heap.1.cls m_X9_heap.1 m_X9_heap.1 ∈ am_tbl := ri_mk1 981 93 979 980 (by decide +kernel)
theorem k_X9_heap {e : Int} {F A : gs_F} (hI : gs_I F A) (he : -2147483648 ≤ e ∧ e ≤ 2147483647) (hX : ∀ r : Nat, (r : Int) < F 106 3 → 1 ≤ A 108 r) : ∀ nN : Nat, (∀ (r : Int)  (F1 A1 : gs_F), gs_I F1 A1 → gs_fr (fun c j => c = 106 ∧ (j = 9 ∨ j = 11)) (fun c => c = 112 ∨ c = 113) F A F1 A1 → 0 ≤ r ∧ r ≤ F1 106 3 → F1 106 3 ≤ 12 → (13 - r) * 20 + 1 < (nN : Int) → sA m_X9_heap 9 (fun rv F' A' => ∃ z : Int, rv = some (gs_iv z) ∧ gs_I F' A' ∧ gs_fr (fun c j => c = 106 ∧ (j = 9 ∨ j = 11)) (fun c => c = 112 ∨ c = 113) F A F' A' ∧ (True)) 19 [(2, gs_iv r), (0, .ref 106), (1, gs_iv e)] [] F1 A1) ∧ (∀ (r : Int) (s : Int)  (F1 A1 : gs_F), gs_I F1 A1 → gs_fr (fun c j => c = 106 ∧ (j = 9 ∨ j = 11)) (fun c => c = 112 ∨ c = 113) F A F1 A1 → 0 ≤ r ∧ r < F1 106 3 → r < s ∧ s ≤ F1 106 3 → F1 106 3 ≤ 12 → (13 - r) * 20 - s < (nN : Int) → sA m_X9_heap 9 (fun rv F' A' => ∃ z : Int, rv = some (gs_iv z) ∧ gs_I F' A' ∧ gs_fr (fun c j => c = 106 ∧ (j = 9 ∨ j = 11)) (fun c => c = 112 ∨ c = 113) F A F' A' ∧ (True)) 53 [(3, gs_iv s), (2, gs_iv r), (0, .ref 106), (1, gs_iv e)] [] F1 A1) := by
  intro nN
  induction nN with
  | zero =>
    exact ⟨fun a0 a1 a2 a3 a4 i0 i1 hm => by exfalso; omega, fun a0 a1 a2 a3 a4 a5 i0 i1 i2 hm => by exfalso; omega⟩
  | succ nN ih =>
    refine ⟨?_, ?_⟩
    · skip
      intro r F1 A1 hI1 hf1 i0 i1 hm
      have b1 : (0 : Int) ≤ F1 106 3 ∧ F1 106 3 ≤ 12 := hI1.1 106 3
      have hF3 := hf1.1 106 3 (by dsimp only; omega)
      have hA8 := hf1.2 108 (by dsimp only; omega)
      have hX1 : ∀ r : Nat, (r : Int) < F1 106 3 → 1 ≤ A1 108 r := fun r h => by rw [hA8]; exact hX r (by omega)
      refine sA_iload_n dd_X9_heap_19 rfl (.head _) ?_
      refine sA_aload_n dd_X9_heap_20 rfl (.tail _ (.head _)) ?_
      refine sA_geti (ci := 9) (j := 3) (q := (RX9, TX9, 28)) dd_X9_heap_21 rfl (by decide) fl_X9_70 (by decide) gs_s106 rfl ?_
      refine sA_icmp_ge (tgt := 116) dd_X9_heap_24 (by decide) (by omega) (by omega) (fun q2 => ?_) (fun q2 => ?_)
      · skip
        refine sA_iconst (z := (-1)) dd_X9_heap_116 ?_
        refine sA_iret (z := -1) dd_X9_heap_117 rfl ?_
        exact ⟨_, rfl, hI1, hf1, trivial⟩
      · skip
        refine sA_iload_n dd_X9_heap_27 rfl (.tail _ (.tail _ (.head _))) ?_
        refine sA_iload_n dd_X9_heap_28 rfl (.head _) ?_
        refine sA_ishr dd_X9_heap_29 ?_
        have b3 := gs_t_rng (Int32.ofInt e >>> (Int32.ofInt r &&& 31))
        generalize gs_t (Int32.ofInt e >>> (Int32.ofInt r &&& 31)) = w4 at b3 ⊢
        refine sA_iconst (z := 1) dd_X9_heap_30 ?_
        refine sA_iand dd_X9_heap_31 ?_
        have b5 := gs_t_rng (Int32.ofInt w4 &&& Int32.ofInt 1)
        generalize gs_t (Int32.ofInt w4 &&& Int32.ofInt 1) = w6 at b5 ⊢
        refine sA_iconst (z := 1) dd_X9_heap_32 ?_
        refine sA_icmp_ne (tgt := 110) dd_X9_heap_33 (by decide) (by omega) (by omega) (fun q7 => ?_) (fun q7 => ?_)
        · skip
          refine sA_iinc (lv' := [(2, gs_iv (r + 1)), (0, .ref 106), (1, gs_iv e)]) dd_X9_heap_110 (.head _) (by decide) rfl ?_
          refine sA_goto (tgt := 19) dd_X9_heap_113 (by decide) ?_
          refine sA_sub (lv2 := [(2, gs_iv (r + 1)), (0, .ref 106), (1, gs_iv e)]) (List.forall_mem_cons.mpr ⟨(.head _), (List.forall_mem_cons.mpr ⟨(.tail _ (.head _)), (List.forall_mem_cons.mpr ⟨(.tail _ (.tail _ (.head _))), (fun _ h => absurd h List.not_mem_nil)⟩)⟩)⟩) ?_
          exact ih.1 (r + 1) F1 A1 hI1 hf1 (by omega) (by omega) (by omega)
        · skip
          have hx_r := hX1 r.toNat (by omega)
          refine sA_aload_n dd_X9_heap_36 rfl (.tail _ (.head _)) ?_
          refine sA_iload_n dd_X9_heap_37 rfl (.head _) ?_
          refine sA_callV (y2 := m_X9_isSimple) (n2 := 1) (d2 := 8) (a := 106) (ci := 9) (q := (RX9, TX9, 28)) (as := [gs_iv r]) (rest := []) dd_X9_heap_38 ok_X9_isSimple ml_X9_151 rfl rfl (by decide) gs_s106 rfl rfl (Nat.le_of_ble_eq_true rfl) (by decide) (c_X9_isSimple hI1 (by omega) (by omega)) (fun r8 F9 A10 h11 => ?_)
          obtain ⟨z14, e13, I15, f16, x12⟩ := h11
          subst e13
          have v17 : F9 106 3 = F1 106 3 := f16.1 106 3 (by first | exact id | omega | (dsimp only; omega) | (dsimp only))
          have v18 : A10 108 r.toNat = A1 108 r.toNat := congrFun (f16.2 108 (by first | exact id | omega | (dsimp only; omega) | (dsimp only))) _
          have f19 := gs_fr_tr hf1 f16 (fun b j h => by first | exact False.elim h | omega | (dsimp only at h ⊢; omega)) (fun b h => by first | exact False.elim h | omega | (dsimp only at h ⊢; omega))
          show sA _ _ _ 41 _ [gs_iv z14] _ _
          refine sA_if_ne (tgt := 49) dd_X9_heap_41 (by decide) (by omega) (fun q20 => ?_) (fun q20 => ?_)
          · skip
            refine sA_iload_n dd_X9_heap_49 rfl (.head _) ?_
            refine sA_iconst (z := 1) dd_X9_heap_50 ?_
            refine sA_iadd dd_X9_heap_51 ?_
            refine sA_istore_n (lv' := [(3, gs_iv (r + 1)), (2, gs_iv r), (0, .ref 106), (1, gs_iv e)]) dd_X9_heap_52 rfl (by decide) rfl ?_
            have b21 : (0 : Int) ≤ F9 106 3 ∧ F9 106 3 ≤ 12 := I15.1 106 3
            refine sA_sub (lv2 := [(3, gs_iv (r + 1)), (2, gs_iv r), (0, .ref 106), (1, gs_iv e)]) (List.forall_mem_cons.mpr ⟨(.head _), (List.forall_mem_cons.mpr ⟨(.tail _ (.head _)), (List.forall_mem_cons.mpr ⟨(.tail _ (.tail _ (.head _))), (List.forall_mem_cons.mpr ⟨(.tail _ (.tail _ (.tail _ (.head _)))), (fun _ h => absurd h List.not_mem_nil)⟩)⟩)⟩)⟩) ?_
            exact ih.2 r (r + 1) F9 A10 I15 f19 (by omega) (by omega) (by omega) (by omega)
          · skip
            refine sA_bipush (z := 14) dd_X9_heap_44 (by decide) ?_
            refine sA_iload_n dd_X9_heap_46 rfl (.head _) ?_
            refine sA_imul dd_X9_heap_47 ?_
            refine sA_iret (z := 14 * r) dd_X9_heap_48 rfl ?_
            exact ⟨_, rfl, I15, f19, trivial⟩
    · skip
      intro r s F1 A1 hI1 hf1 i0 i1 i2 hm
      have b22 : (0 : Int) ≤ F1 106 3 ∧ F1 106 3 ≤ 12 := hI1.1 106 3
      have hF3 := hf1.1 106 3 (by dsimp only; omega)
      have hA8 := hf1.2 108 (by dsimp only; omega)
      have hX1 : ∀ r : Nat, (r : Int) < F1 106 3 → 1 ≤ A1 108 r := fun r h => by rw [hA8]; exact hX r (by omega)
      refine sA_iload_n dd_X9_heap_53 rfl (.head _) ?_
      refine sA_aload_n dd_X9_heap_54 rfl (.tail _ (.tail _ (.head _))) ?_
      refine sA_geti (ci := 9) (j := 3) (q := (RX9, TX9, 28)) dd_X9_heap_55 rfl (by decide) fl_X9_70 (by decide) gs_s106 rfl ?_
      refine sA_icmp_ge (tgt := 110) dd_X9_heap_58 (by decide) (by omega) (by omega) (fun q23 => ?_) (fun q23 => ?_)
      · skip
        refine sA_iinc (lv' := [(2, gs_iv (r + 1)), (3, gs_iv s), (0, .ref 106), (1, gs_iv e)]) dd_X9_heap_110 (.tail _ (.head _)) (by decide) rfl ?_
        refine sA_goto (tgt := 19) dd_X9_heap_113 (by decide) ?_
        refine sA_sub (lv2 := [(2, gs_iv (r + 1)), (0, .ref 106), (1, gs_iv e)]) (List.forall_mem_cons.mpr ⟨(.head _), (List.forall_mem_cons.mpr ⟨(.tail _ (.tail _ (.head _))), (List.forall_mem_cons.mpr ⟨(.tail _ (.tail _ (.tail _ (.head _)))), (fun _ h => absurd h List.not_mem_nil)⟩)⟩)⟩) ?_
        exact ih.1 (r + 1) F1 A1 hI1 hf1 (by omega) (by omega) (by omega)
      · skip
        refine sA_iload_n dd_X9_heap_61 rfl (.tail _ (.tail _ (.tail _ (.head _)))) ?_
        refine sA_iload_n dd_X9_heap_62 rfl (.head _) ?_
        refine sA_ishr dd_X9_heap_63 ?_
        have b24 := gs_t_rng (Int32.ofInt e >>> (Int32.ofInt s &&& 31))
        generalize gs_t (Int32.ofInt e >>> (Int32.ofInt s &&& 31)) = w25 at b24 ⊢
        refine sA_iconst (z := 1) dd_X9_heap_64 ?_
        refine sA_iand dd_X9_heap_65 ?_
        have b26 := gs_t_rng (Int32.ofInt w25 &&& Int32.ofInt 1)
        generalize gs_t (Int32.ofInt w25 &&& Int32.ofInt 1) = w27 at b26 ⊢
        refine sA_iconst (z := 1) dd_X9_heap_66 ?_
        refine sA_icmp_ne (tgt := 104) dd_X9_heap_67 (by decide) (by omega) (by omega) (fun q28 => ?_) (fun q28 => ?_)
        · skip
          refine sA_iinc (lv' := [(3, gs_iv (s + 1)), (2, gs_iv r), (0, .ref 106), (1, gs_iv e)]) dd_X9_heap_104 (.head _) (by decide) rfl ?_
          refine sA_goto (tgt := 53) dd_X9_heap_107 (by decide) ?_
          refine sA_sub (lv2 := [(3, gs_iv (s + 1)), (2, gs_iv r), (0, .ref 106), (1, gs_iv e)]) (List.forall_mem_cons.mpr ⟨(.head _), (List.forall_mem_cons.mpr ⟨(.tail _ (.head _)), (List.forall_mem_cons.mpr ⟨(.tail _ (.tail _ (.head _))), (List.forall_mem_cons.mpr ⟨(.tail _ (.tail _ (.tail _ (.head _)))), (fun _ h => absurd h List.not_mem_nil)⟩)⟩)⟩)⟩) ?_
          exact ih.2 r (s + 1) F1 A1 hI1 hf1 (by omega) (by omega) (by omega) (by omega)
        · skip
          have hx_s := hX1 s.toNat (by omega)
          refine sA_aload_n dd_X9_heap_70 rfl (.tail _ (.tail _ (.head _))) ?_
          refine sA_iload_n dd_X9_heap_71 rfl (.head _) ?_
          refine sA_callV (y2 := m_X9_isSimple) (n2 := 1) (d2 := 8) (a := 106) (ci := 9) (q := (RX9, TX9, 28)) (as := [gs_iv s]) (rest := []) dd_X9_heap_72 ok_X9_isSimple ml_X9_151 rfl rfl (by decide) gs_s106 rfl rfl (Nat.le_of_ble_eq_true rfl) (by decide) (c_X9_isSimple hI1 (by omega) (by omega)) (fun r29 F30 A31 h32 => ?_)
          obtain ⟨z35, e34, I36, f37, x33⟩ := h32
          subst e34
          have v38 : F30 106 3 = F1 106 3 := f37.1 106 3 (by first | exact id | omega | (dsimp only; omega) | (dsimp only))
          have v39 : A31 108 r.toNat = A1 108 r.toNat := congrFun (f37.2 108 (by first | exact id | omega | (dsimp only; omega) | (dsimp only))) _
          have v40 : A31 108 s.toNat = A1 108 s.toNat := congrFun (f37.2 108 (by first | exact id | omega | (dsimp only; omega) | (dsimp only))) _
          have f41 := gs_fr_tr hf1 f37 (fun b j h => by first | exact False.elim h | omega | (dsimp only at h ⊢; omega)) (fun b h => by first | exact False.elim h | omega | (dsimp only at h ⊢; omega))
          show sA _ _ _ 75 _ [gs_iv z35] _ _
          refine sA_if_eq (tgt := 104) dd_X9_heap_75 (by decide) (by omega) (fun q42 => ?_) (fun q42 => ?_)
          · skip
            refine sA_iinc (lv' := [(3, gs_iv (s + 1)), (2, gs_iv r), (0, .ref 106), (1, gs_iv e)]) dd_X9_heap_104 (.head _) (by decide) rfl ?_
            refine sA_goto (tgt := 53) dd_X9_heap_107 (by decide) ?_
            have b43 : (0 : Int) ≤ F30 106 3 ∧ F30 106 3 ≤ 12 := I36.1 106 3
            refine sA_sub (lv2 := [(3, gs_iv (s + 1)), (2, gs_iv r), (0, .ref 106), (1, gs_iv e)]) (List.forall_mem_cons.mpr ⟨(.head _), (List.forall_mem_cons.mpr ⟨(.tail _ (.head _)), (List.forall_mem_cons.mpr ⟨(.tail _ (.tail _ (.head _))), (List.forall_mem_cons.mpr ⟨(.tail _ (.tail _ (.tail _ (.head _)))), (fun _ h => absurd h List.not_mem_nil)⟩)⟩)⟩)⟩) ?_
            exact ih.2 r (s + 1) F30 A31 I36 f41 (by omega) (by omega) (by omega) (by omega)
          · skip
            refine sA_aload_n dd_X9_heap_78 rfl (.tail _ (.tail _ (.head _))) ?_
            refine sA_iload_n dd_X9_heap_79 rfl (.tail _ (.head _)) ?_
            refine sA_iload_n dd_X9_heap_80 rfl (.head _) ?_
            refine sA_callV (y2 := m_X9_one) (n2 := 2) (d2 := 4) (a := 106) (ci := 9) (q := (RX9, TX9, 28)) (as := [gs_iv r, gs_iv s]) (rest := []) dd_X9_heap_81 ok_X9_one ml_X9_154 rfl rfl (by decide) gs_s106 rfl rfl (Nat.le_of_ble_eq_true rfl) (by decide) (c_X9_one I36 (by omega) (by omega) (gs_X_fr hX (f41.1 106 3 (by dsimp only; omega)) (f41.2 108 (by dsimp only; omega)))) (fun r44 F45 A46 h47 => ?_)
            obtain ⟨z50, e49, I51, f52, x48⟩ := h47
            subst e49
            have v53 : F45 106 3 = F30 106 3 := f52.1 106 3 (by first | exact id | omega | (dsimp only; omega) | (dsimp only))
            have v54 : A46 108 r.toNat = A31 108 r.toNat := congrFun (f52.2 108 (by first | exact id | omega | (dsimp only; omega) | (dsimp only))) _
            have v55 : A46 108 s.toNat = A31 108 s.toNat := congrFun (f52.2 108 (by first | exact id | omega | (dsimp only; omega) | (dsimp only))) _
            have f56 := gs_fr_tr f41 f52 (fun b j h => by first | exact False.elim h | omega | (dsimp only at h ⊢; omega)) (fun b h => by first | exact False.elim h | omega | (dsimp only at h ⊢; omega))
            show sA _ _ _ 84 _ [gs_iv z50] _ _
            refine sA_iconst (z := 1) dd_X9_heap_84 ?_
            refine sA_icmp_eq (tgt := 97) dd_X9_heap_85 (by decide) (by omega) (by omega) (fun q57 => ?_) (fun q57 => ?_)
            · skip
              refine sA_bipush (z := 13) dd_X9_heap_97 (by decide) ?_
              refine sA_iload_n dd_X9_heap_99 rfl (.tail _ (.head _)) ?_
              refine sA_imul dd_X9_heap_100 ?_
              refine sA_iload_n dd_X9_heap_101 rfl (.head _) ?_
              refine sA_iadd dd_X9_heap_102 ?_
              refine sA_iret (z := (13 * r) + s) dd_X9_heap_103 rfl ?_
              exact ⟨_, rfl, I51, f56, trivial⟩
            · skip
              refine sA_aload_n dd_X9_heap_88 rfl (.tail _ (.tail _ (.head _))) ?_
              refine sA_iload_n dd_X9_heap_89 rfl (.tail _ (.head _)) ?_
              refine sA_iload_n dd_X9_heap_90 rfl (.head _) ?_
              refine sA_callV (y2 := m_X9_meetingsOf) (n2 := 2) (d2 := 7) (a := 106) (ci := 9) (q := (RX9, TX9, 28)) (as := [gs_iv r, gs_iv s]) (rest := []) dd_X9_heap_91 ok_X9_meetingsOf ml_X9_148 rfl rfl (by decide) gs_s106 rfl rfl (Nat.le_of_ble_eq_true rfl) (by decide) (c_X9_meetingsOf I51 (by omega) (by omega) (by omega)) (fun r58 F59 A60 h61 => ?_)
              obtain ⟨z64, e63, I65, f66, x62⟩ := h61
              subst e63
              have v67 : F59 106 3 = F45 106 3 := f66.1 106 3 (by first | exact id | omega | (dsimp only; omega) | (dsimp only))
              have v68 : A60 108 r.toNat = A46 108 r.toNat := congrFun (f66.2 108 (by first | exact id | omega | (dsimp only; omega) | (dsimp only))) _
              have v69 : A60 108 s.toNat = A46 108 s.toNat := congrFun (f66.2 108 (by first | exact id | omega | (dsimp only; omega) | (dsimp only))) _
              have f70 := gs_fr_tr f56 f66 (fun b j h => by first | exact False.elim h | omega | (dsimp only at h ⊢; omega)) (fun b h => by first | exact False.elim h | omega | (dsimp only at h ⊢; omega))
              show sA _ _ _ 94 _ [gs_iv z64] _ _
              refine sA_if_le (tgt := 104) dd_X9_heap_94 (by decide) (by omega) (fun q71 => ?_) (fun q71 => ?_)
              · skip
                refine sA_iinc (lv' := [(3, gs_iv (s + 1)), (2, gs_iv r), (0, .ref 106), (1, gs_iv e)]) dd_X9_heap_104 (.head _) (by decide) rfl ?_
                refine sA_goto (tgt := 53) dd_X9_heap_107 (by decide) ?_
                have b72 : (0 : Int) ≤ F59 106 3 ∧ F59 106 3 ≤ 12 := I65.1 106 3
                refine sA_sub (lv2 := [(3, gs_iv (s + 1)), (2, gs_iv r), (0, .ref 106), (1, gs_iv e)]) (List.forall_mem_cons.mpr ⟨(.head _), (List.forall_mem_cons.mpr ⟨(.tail _ (.head _)), (List.forall_mem_cons.mpr ⟨(.tail _ (.tail _ (.head _))), (List.forall_mem_cons.mpr ⟨(.tail _ (.tail _ (.tail _ (.head _)))), (fun _ h => absurd h List.not_mem_nil)⟩)⟩)⟩)⟩) ?_
                exact ih.2 r (s + 1) F59 A60 I65 f70 (by omega) (by omega) (by omega) (by omega)
              · skip
                refine sA_bipush (z := 13) dd_X9_heap_97 (by decide) ?_
                refine sA_iload_n dd_X9_heap_99 rfl (.tail _ (.head _)) ?_
                refine sA_imul dd_X9_heap_100 ?_
                refine sA_iload_n dd_X9_heap_101 rfl (.head _) ?_
                refine sA_iadd dd_X9_heap_102 ?_
                refine sA_iret (z := (13 * r) + s) dd_X9_heap_103 rfl ?_
                exact ⟨_, rfl, I65, f70, trivial⟩
theorem c_X9_heap {e : Int} {F A : gs_F} (hI : gs_I F A) (he : -2147483648 ≤ e ∧ e ≤ 2147483647) (hX : ∀ r : Nat, (r : Int) < F 106 3 → 1 ≤ A 108 r) : sC m_X9_heap 9 [.ref 106, gs_iv e] F A (fun rv F' A' => ∃ z : Int, rv = some (gs_iv z) ∧ gs_I F' A' ∧ gs_fr (fun c j => c = 106 ∧ (j = 9 ∨ j = 11)) (fun c => c = 112 ∨ c = 113) F A F' A' ∧ (True)) := by
  refine sC_of ok_X9_heap.1 (Nat.le_of_ble_eq_true rfl) ?_
  show sA _ _ _ 0 [(0, .ref 106), (1, gs_iv e)] [] F A
  have hf : gs_fr (fun c j => c = 106 ∧ (j = 9 ∨ j = 11)) (fun c => c = 112 ∨ c = 113) F A F A := gs_fr_refl _ _ _ _
  have b73 : (0 : Int) ≤ F 106 3 ∧ F 106 3 ≤ 12 := hI.1 106 3
  refine sA_iload_n dd_X9_heap_0 rfl (.tail _ (.head _)) ?_
  refine sA_if_lt (tgt := 13) dd_X9_heap_1 (by decide) (by omega) (fun q74 => ?_) (fun q74 => ?_)
  · skip
    refine sA_sipush (z := (-1001)) dd_X9_heap_13 (by decide) ?_
    refine sA_iret (z := -1001) dd_X9_heap_16 rfl ?_
    exact ⟨_, rfl, hI, hf, trivial⟩
  · skip
    refine sA_iload_n dd_X9_heap_4 rfl (.tail _ (.head _)) ?_
    refine sA_aload_n dd_X9_heap_5 rfl (.head _) ?_
    refine sA_geti (ci := 9) (j := 3) (q := (RX9, TX9, 28)) dd_X9_heap_6 rfl (by decide) fl_X9_70 (by decide) gs_s106 rfl ?_
    refine sA_ishr dd_X9_heap_9 ?_
    have b75 := gs_t_rng (Int32.ofInt e >>> (Int32.ofInt (F 106 3) &&& 31))
    generalize gs_t (Int32.ofInt e >>> (Int32.ofInt (F 106 3) &&& 31)) = w76 at b75 ⊢
    refine sA_if_eq (tgt := 17) dd_X9_heap_10 (by decide) (by omega) (fun q77 => ?_) (fun q77 => ?_)
    · skip
      have hb3 : (0 : Int) ≤ F 106 3 ∧ F 106 3 ≤ 12 := hI.1 106 3
      refine sA_iconst (z := 0) dd_X9_heap_17 ?_
      refine sA_istore_n (lv' := [(2, gs_iv 0), (0, .ref 106), (1, gs_iv e)]) dd_X9_heap_18 rfl (by decide) rfl ?_
      refine sA_sub (lv2 := [(2, gs_iv 0), (0, .ref 106), (1, gs_iv e)]) (List.forall_mem_cons.mpr ⟨(.head _), (List.forall_mem_cons.mpr ⟨(.tail _ (.head _)), (List.forall_mem_cons.mpr ⟨(.tail _ (.tail _ (.head _))), (fun _ h => absurd h List.not_mem_nil)⟩)⟩)⟩) ?_
      exact (k_X9_heap hI he hX ((13 - 0) * 20 + 1 : Int).toNat.succ).1 0 F A hI hf (by omega) (by omega) (by omega)
    · skip
      refine sA_sipush (z := (-1001)) dd_X9_heap_13 (by decide) ?_
      refine sA_iret (z := -1001) dd_X9_heap_16 rfl ?_
      exact ⟨_, rfl, hI, hf, trivial⟩
theorem dd_X9_fault_0 : decode cX9_fault 0 = .ok (.aload_n 0, 1) := by decide +kernel
theorem dd_X9_fault_1 : decode cX9_fault 1 = .ok (.getfield 40, 3) := by decide +kernel
theorem dd_X9_fault_4 : decode cX9_fault 4 = .ok (.ireturn, 1) := by decide +kernel
theorem ok_X9_fault : am_okM m_X9_fault 0 ∧ Cond.instanceMethod m_X9_fault.1 ∈ am_tbl ∧ Cond.selects m_X9_fault.1.cls m_X9_fault.1 m_X9_fault.1 ∈ am_tbl := ri_mk1 1031 93 1029 1030 (by decide +kernel)
theorem c_X9_fault  {F A : gs_F} (hI : gs_I F A)  : sC m_X9_fault 1 [.ref 106] F A (fun rv F' A' => ∃ z : Int, rv = some (gs_iv z) ∧ F = F' ∧ A = A' ∧ (True)) := by
  refine sC_of ok_X9_fault.1 (Nat.le_of_ble_eq_true rfl) ?_
  show sA _ _ _ 0 [(0, .ref 106)] [] F A
  refine sA_aload_n dd_X9_fault_0 rfl (.head _) ?_
  refine sA_geti (ci := 9) (j := 20) (q := (RX9, TX9, 28)) dd_X9_fault_1 rfl (by decide) fl_X9_40 (by decide) gs_s106 rfl ?_
  have b1 : (-2147483648 : Int) ≤ F 106 20 ∧ F 106 20 ≤ 2147483647 := hI.1 106 20
  refine sA_iret (z := F 106 20) dd_X9_fault_4 rfl ?_
  exact ⟨_, rfl, rfl, rfl, trivial⟩
theorem dd_X9_twist_0 : decode cX9_twist 0 = .ok (.aload_n 0, 1) := by decide +kernel
theorem dd_X9_twist_1 : decode cX9_twist 1 = .ok (.iload_n 1, 1) := by decide +kernel
theorem dd_X9_twist_2 : decode cX9_twist 2 = .ok (.invokevirtual 218, 3) := by decide +kernel
theorem dd_X9_twist_5 : decode cX9_twist 5 = .ok (.ifCond .eq 7, 3) := by decide +kernel
theorem dd_X9_twist_8 : decode cX9_twist 8 = .ok (.sipush (-1001), 3) := by decide +kernel
theorem dd_X9_twist_11 : decode cX9_twist 11 = .ok (.ireturn, 1) := by decide +kernel
theorem dd_X9_twist_12 : decode cX9_twist 12 = .ok (.iload_n 2, 1) := by decide +kernel
theorem dd_X9_twist_13 : decode cX9_twist 13 = .ok (.iconst (-1), 1) := by decide +kernel
theorem dd_X9_twist_14 : decode cX9_twist 14 = .ok (.if_icmp .ne 12, 3) := by decide +kernel
theorem dd_X9_twist_17 : decode cX9_twist 17 = .ok (.aload_n 0, 1) := by decide +kernel
theorem dd_X9_twist_18 : decode cX9_twist 18 = .ok (.getfield 19, 3) := by decide +kernel
theorem dd_X9_twist_21 : decode cX9_twist 21 = .ok (.iload_n 1, 1) := by decide +kernel
theorem dd_X9_twist_22 : decode cX9_twist 22 = .ok (.iaload, 1) := by decide +kernel
theorem dd_X9_twist_23 : decode cX9_twist 23 = .ok (.goto 36, 3) := by decide +kernel
theorem dd_X9_twist_26 : decode cX9_twist 26 = .ok (.iload_n 2, 1) := by decide +kernel
theorem dd_X9_twist_27 : decode cX9_twist 27 = .ok (.i2l, 1) := by decide +kernel
theorem dd_X9_twist_28 : decode cX9_twist 28 = .ok (.lconst 0, 1) := by decide +kernel
theorem dd_X9_twist_29 : decode cX9_twist 29 = .ok (.aload_n 0, 1) := by decide +kernel
theorem dd_X9_twist_30 : decode cX9_twist 30 = .ok (.getfield 19, 3) := by decide +kernel
theorem dd_X9_twist_33 : decode cX9_twist 33 = .ok (.iload_n 1, 1) := by decide +kernel
theorem dd_X9_twist_34 : decode cX9_twist 34 = .ok (.iaload, 1) := by decide +kernel
theorem dd_X9_twist_35 : decode cX9_twist 35 = .ok (.iconst 1, 1) := by decide +kernel
theorem dd_X9_twist_36 : decode cX9_twist 36 = .ok (.isub, 1) := by decide +kernel
theorem dd_X9_twist_37 : decode cX9_twist 37 = .ok (.i2l, 1) := by decide +kernel
theorem dd_X9_twist_38 : decode cX9_twist 38 = .ok (.invokestatic 75, 3) := by decide +kernel
theorem dd_X9_twist_41 : decode cX9_twist 41 = .ok (.ifCond .eq 17, 3) := by decide +kernel
theorem dd_X9_twist_44 : decode cX9_twist 44 = .ok (.aload_n 0, 1) := by decide +kernel
theorem dd_X9_twist_45 : decode cX9_twist 45 = .ok (.getfield 22, 3) := by decide +kernel
theorem dd_X9_twist_48 : decode cX9_twist 48 = .ok (.bipush 60, 2) := by decide +kernel
theorem dd_X9_twist_50 : decode cX9_twist 50 = .ok (.iload_n 1, 1) := by decide +kernel
theorem dd_X9_twist_51 : decode cX9_twist 51 = .ok (.imul, 1) := by decide +kernel
theorem dd_X9_twist_52 : decode cX9_twist 52 = .ok (.iload_n 2, 1) := by decide +kernel
theorem dd_X9_twist_53 : decode cX9_twist 53 = .ok (.iadd, 1) := by decide +kernel
theorem dd_X9_twist_54 : decode cX9_twist 54 = .ok (.iaload, 1) := by decide +kernel
theorem dd_X9_twist_55 : decode cX9_twist 55 = .ok (.goto 4, 3) := by decide +kernel
theorem dd_X9_twist_58 : decode cX9_twist 58 = .ok (.iconst (-1), 1) := by decide +kernel
theorem dd_X9_twist_59 : decode cX9_twist 59 = .ok (.ireturn, 1) := by decide +kernel
theorem ok_X9_twist : am_okM m_X9_twist 2 ∧ Cond.instanceMethod m_X9_twist.1 ∈ am_tbl ∧ Cond.selects m_X9_twist.1.cls m_X9_twist.1 m_X9_twist.1 ∈ am_tbl := ri_mk1 1035 93 1033 1034 (by decide +kernel)
theorem c_X9_twist {p i : Int} {F A : gs_F} (hI : gs_I F A) (hp : -2147483648 ≤ p ∧ p ≤ 2147483647) (hi : -2147483648 ≤ i ∧ i ≤ 2147483647) : sC m_X9_twist 3 [.ref 106, gs_iv p, gs_iv i] F A (fun rv F' A' => ∃ z : Int, rv = some (gs_iv z) ∧ F = F' ∧ A = A' ∧ (True)) := by
  refine sC_of ok_X9_twist.1 (Nat.le_of_ble_eq_true rfl) ?_
  show sA _ _ _ 0 [(0, .ref 106), (1, gs_iv p), (2, gs_iv i)] [] F A
  refine sA_aload_n dd_X9_twist_0 rfl (.head _) ?_
  refine sA_iload_n dd_X9_twist_1 rfl (.tail _ (.head _)) ?_
  refine sA_callV (y2 := m_X9_noPlan) (n2 := 1) (d2 := 2) (a := 106) (ci := 9) (q := (RX9, TX9, 28)) (as := [gs_iv p]) (rest := []) dd_X9_twist_2 ok_X9_noPlan ml_X9_218 rfl rfl (by decide) gs_s106 rfl rfl (Nat.le_of_ble_eq_true rfl) (by decide) (c_X9_noPlan hI (by omega)) (fun r1 F2 A3 h4 => ?_)
  obtain ⟨z7, e6, e8, e9, x5⟩ := h4
  subst e6 e8 e9
  show sA _ _ _ 5 _ [gs_iv z7] _ _
  refine sA_if_eq (tgt := 12) dd_X9_twist_5 (by decide) (by omega) (fun q10 => ?_) (fun q10 => ?_)
  · skip
    refine sA_iload_n dd_X9_twist_12 rfl (.tail _ (.tail _ (.head _))) ?_
    refine sA_iconst (z := (-1)) dd_X9_twist_13 ?_
    refine sA_icmp_ne (tgt := 26) dd_X9_twist_14 (by decide) (by omega) (by omega) (fun q11 => ?_) (fun q11 => ?_)
    · skip
      refine sA_iload_n dd_X9_twist_26 rfl (.tail _ (.tail _ (.head _))) ?_
      refine sA_i2l dd_X9_twist_27 (by omega) ?_
      refine sA_lconst (z := 0) dd_X9_twist_28 (by decide) ?_
      refine sA_aload_n dd_X9_twist_29 rfl (.head _) ?_
      refine sA_getr (ci := 9) (j := 6) (q := (RX9, TX9, 28)) dd_X9_twist_30 rfl (by decide) fl_X9_19 (by decide) gs_s106 rfl ?_
      refine sA_iload_n dd_X9_twist_33 rfl (.tail _ (.head _)) ?_
      refine sA_iald (n := 9) dd_X9_twist_34 (by decide) gs_s110 (by omega) (by decide) ?_
      have b12 : (0 : Int) ≤ A 110 p.toNat ∧ A 110 p.toNat ≤ 60 := hI.2 110 p.toNat
      refine sA_iconst (z := 1) dd_X9_twist_35 ?_
      refine sA_isub dd_X9_twist_36 ?_
      refine sA_i2l dd_X9_twist_37 (by omega) ?_
      refine sA_callS (y2 := m_X9_in) (n2 := 3) (d2 := 1) (as := [gs_lv i, gs_lv 0, gs_lv ((A 110 p.toNat) - 1)]) (rest := []) dd_X9_twist_38 ok_X9_in ml_X9_75 rfl rfl (Nat.le_of_ble_eq_true rfl) (by decide) (c_X9_in (by omega) (by omega) (by omega)) (fun r13 F14 A15 h16 => ?_)
      obtain ⟨z19, e18, e20, e21, x17⟩ := h16
      subst e18 e20 e21
      show sA _ _ _ 41 _ [gs_iv z19] _ _
      refine sA_if_eq (tgt := 58) dd_X9_twist_41 (by decide) (by omega) (fun q22 => ?_) (fun q22 => ?_)
      · skip
        refine sA_iconst (z := (-1)) dd_X9_twist_58 ?_
        refine sA_iret (z := -1) dd_X9_twist_59 rfl ?_
        exact ⟨_, rfl, rfl, rfl, trivial⟩
      · skip
        refine sA_aload_n dd_X9_twist_44 rfl (.head _) ?_
        refine sA_getr (ci := 9) (j := 7) (q := (RX9, TX9, 28)) dd_X9_twist_45 rfl (by decide) fl_X9_22 (by decide) gs_s106 rfl ?_
        refine sA_bipush (z := 60) dd_X9_twist_48 (by decide) ?_
        refine sA_iload_n dd_X9_twist_50 rfl (.tail _ (.head _)) ?_
        refine sA_imul dd_X9_twist_51 ?_
        refine sA_iload_n dd_X9_twist_52 rfl (.tail _ (.tail _ (.head _))) ?_
        refine sA_iadd dd_X9_twist_53 ?_
        refine sA_iald (n := 540) dd_X9_twist_54 (by decide) gs_s111 (by omega) (by decide) ?_
        have b23 : (-2147483648 : Int) ≤ A 111 ((60 * p) + i).toNat ∧ A 111 ((60 * p) + i).toNat ≤ 2147483647 := hI.2 111 ((60 * p) + i).toNat
        refine sA_goto (tgt := 59) dd_X9_twist_55 (by decide) ?_
        refine sA_iret (z := A 111 ((60 * p) + i).toNat) dd_X9_twist_59 rfl ?_
        exact ⟨_, rfl, rfl, rfl, trivial⟩
    · skip
      refine sA_aload_n dd_X9_twist_17 rfl (.head _) ?_
      refine sA_getr (ci := 9) (j := 6) (q := (RX9, TX9, 28)) dd_X9_twist_18 rfl (by decide) fl_X9_19 (by decide) gs_s106 rfl ?_
      refine sA_iload_n dd_X9_twist_21 rfl (.tail _ (.head _)) ?_
      refine sA_iald (n := 9) dd_X9_twist_22 (by decide) gs_s110 (by omega) (by decide) ?_
      have b24 : (0 : Int) ≤ A 110 p.toNat ∧ A 110 p.toNat ≤ 60 := hI.2 110 p.toNat
      refine sA_goto (tgt := 59) dd_X9_twist_23 (by decide) ?_
      refine sA_iret (z := A 110 p.toNat) dd_X9_twist_59 rfl ?_
      exact ⟨_, rfl, rfl, rfl, trivial⟩
  · skip
    refine sA_sipush (z := (-1001)) dd_X9_twist_8 (by decide) ?_
    refine sA_iret (z := -1001) dd_X9_twist_11 rfl ?_
    exact ⟨_, rfl, rfl, rfl, trivial⟩
theorem dd_X9_chain_0 : decode cX9_chain 0 = .ok (.aload_n 0, 1) := by decide +kernel
theorem dd_X9_chain_1 : decode cX9_chain 1 = .ok (.iload_n 1, 1) := by decide +kernel
theorem dd_X9_chain_2 : decode cX9_chain 2 = .ok (.invokevirtual 218, 3) := by decide +kernel
theorem dd_X9_chain_5 : decode cX9_chain 5 = .ok (.ifCond .ne 19, 3) := by decide +kernel
theorem dd_X9_chain_8 : decode cX9_chain 8 = .ok (.aload_n 0, 1) := by decide +kernel
theorem dd_X9_chain_9 : decode cX9_chain 9 = .ok (.iload_n 2, 1) := by decide +kernel
theorem dd_X9_chain_10 : decode cX9_chain 10 = .ok (.invokevirtual 218, 3) := by decide +kernel
theorem dd_X9_chain_13 : decode cX9_chain 13 = .ok (.ifCond .ne 11, 3) := by decide +kernel
theorem dd_X9_chain_16 : decode cX9_chain 16 = .ok (.aload_n 0, 1) := by decide +kernel
theorem dd_X9_chain_17 : decode cX9_chain 17 = .ok (.iload_n 3, 1) := by decide +kernel
theorem dd_X9_chain_18 : decode cX9_chain 18 = .ok (.invokevirtual 218, 3) := by decide +kernel
theorem dd_X9_chain_21 : decode cX9_chain 21 = .ok (.ifCond .eq 7, 3) := by decide +kernel
theorem dd_X9_chain_24 : decode cX9_chain 24 = .ok (.sipush (-1001), 3) := by decide +kernel
theorem dd_X9_chain_27 : decode cX9_chain 27 = .ok (.ireturn, 1) := by decide +kernel
theorem dd_X9_chain_28 : decode cX9_chain 28 = .ok (.aload_n 0, 1) := by decide +kernel
theorem dd_X9_chain_29 : decode cX9_chain 29 = .ok (.getfield 19, 3) := by decide +kernel
theorem dd_X9_chain_32 : decode cX9_chain 32 = .ok (.iload_n 2, 1) := by decide +kernel
theorem dd_X9_chain_33 : decode cX9_chain 33 = .ok (.iaload, 1) := by decide +kernel
theorem dd_X9_chain_34 : decode cX9_chain 34 = .ok (.aload_n 0, 1) := by decide +kernel
theorem dd_X9_chain_35 : decode cX9_chain 35 = .ok (.getfield 19, 3) := by decide +kernel
theorem dd_X9_chain_38 : decode cX9_chain 38 = .ok (.iload_n 3, 1) := by decide +kernel
theorem dd_X9_chain_39 : decode cX9_chain 39 = .ok (.iaload, 1) := by decide +kernel
theorem dd_X9_chain_40 : decode cX9_chain 40 = .ok (.iadd, 1) := by decide +kernel
theorem dd_X9_chain_41 : decode cX9_chain 41 = .ok (.istore 4, 2) := by decide +kernel
theorem dd_X9_chain_43 : decode cX9_chain 43 = .ok (.iload 4, 2) := by decide +kernel
theorem dd_X9_chain_45 : decode cX9_chain 45 = .ok (.bipush 60, 2) := by decide +kernel
theorem dd_X9_chain_47 : decode cX9_chain 47 = .ok (.if_icmp .le 7, 3) := by decide +kernel
theorem dd_X9_chain_50 : decode cX9_chain 50 = .ok (.sipush (-1004), 3) := by decide +kernel
theorem dd_X9_chain_53 : decode cX9_chain 53 = .ok (.ireturn, 1) := by decide +kernel
theorem dd_X9_chain_54 : decode cX9_chain 54 = .ok (.iconst 0, 1) := by decide +kernel
theorem dd_X9_chain_55 : decode cX9_chain 55 = .ok (.istore 5, 2) := by decide +kernel
theorem dd_X9_chain_57 : decode cX9_chain 57 = .ok (.iload 5, 2) := by decide +kernel
theorem dd_X9_chain_59 : decode cX9_chain 59 = .ok (.iload 4, 2) := by decide +kernel
theorem dd_X9_chain_61 : decode cX9_chain 61 = .ok (.if_icmp .ge 61, 3) := by decide +kernel
theorem dd_X9_chain_64 : decode cX9_chain 64 = .ok (.aload_n 0, 1) := by decide +kernel
theorem dd_X9_chain_65 : decode cX9_chain 65 = .ok (.getfield 47, 3) := by decide +kernel
theorem dd_X9_chain_68 : decode cX9_chain 68 = .ok (.iload 5, 2) := by decide +kernel
theorem dd_X9_chain_70 : decode cX9_chain 70 = .ok (.iload 5, 2) := by decide +kernel
theorem dd_X9_chain_72 : decode cX9_chain 72 = .ok (.aload_n 0, 1) := by decide +kernel
theorem dd_X9_chain_73 : decode cX9_chain 73 = .ok (.getfield 19, 3) := by decide +kernel
theorem dd_X9_chain_76 : decode cX9_chain 76 = .ok (.iload_n 2, 1) := by decide +kernel
theorem dd_X9_chain_77 : decode cX9_chain 77 = .ok (.iaload, 1) := by decide +kernel
theorem dd_X9_chain_78 : decode cX9_chain 78 = .ok (.if_icmp .ge 18, 3) := by decide +kernel
theorem dd_X9_chain_81 : decode cX9_chain 81 = .ok (.aload_n 0, 1) := by decide +kernel
theorem dd_X9_chain_82 : decode cX9_chain 82 = .ok (.getfield 22, 3) := by decide +kernel
theorem dd_X9_chain_85 : decode cX9_chain 85 = .ok (.bipush 60, 2) := by decide +kernel
theorem dd_X9_chain_87 : decode cX9_chain 87 = .ok (.iload_n 2, 1) := by decide +kernel
theorem dd_X9_chain_88 : decode cX9_chain 88 = .ok (.imul, 1) := by decide +kernel
theorem dd_X9_chain_89 : decode cX9_chain 89 = .ok (.iload 5, 2) := by decide +kernel
theorem dd_X9_chain_91 : decode cX9_chain 91 = .ok (.iadd, 1) := by decide +kernel
theorem dd_X9_chain_92 : decode cX9_chain 92 = .ok (.iaload, 1) := by decide +kernel
theorem dd_X9_chain_93 : decode cX9_chain 93 = .ok (.goto 22, 3) := by decide +kernel
theorem dd_X9_chain_96 : decode cX9_chain 96 = .ok (.aload_n 0, 1) := by decide +kernel
theorem dd_X9_chain_97 : decode cX9_chain 97 = .ok (.getfield 22, 3) := by decide +kernel
theorem dd_X9_chain_100 : decode cX9_chain 100 = .ok (.bipush 60, 2) := by decide +kernel
theorem dd_X9_chain_102 : decode cX9_chain 102 = .ok (.iload_n 3, 1) := by decide +kernel
theorem dd_X9_chain_103 : decode cX9_chain 103 = .ok (.imul, 1) := by decide +kernel
theorem dd_X9_chain_104 : decode cX9_chain 104 = .ok (.iload 5, 2) := by decide +kernel
theorem dd_X9_chain_106 : decode cX9_chain 106 = .ok (.iadd, 1) := by decide +kernel
theorem dd_X9_chain_107 : decode cX9_chain 107 = .ok (.aload_n 0, 1) := by decide +kernel
theorem dd_X9_chain_108 : decode cX9_chain 108 = .ok (.getfield 19, 3) := by decide +kernel
theorem dd_X9_chain_111 : decode cX9_chain 111 = .ok (.iload_n 2, 1) := by decide +kernel
theorem dd_X9_chain_112 : decode cX9_chain 112 = .ok (.iaload, 1) := by decide +kernel
theorem dd_X9_chain_113 : decode cX9_chain 113 = .ok (.isub, 1) := by decide +kernel
theorem dd_X9_chain_114 : decode cX9_chain 114 = .ok (.iaload, 1) := by decide +kernel
theorem dd_X9_chain_115 : decode cX9_chain 115 = .ok (.iastore, 1) := by decide +kernel
theorem dd_X9_chain_116 : decode cX9_chain 116 = .ok (.iinc 5 1, 3) := by decide +kernel
theorem dd_X9_chain_119 : decode cX9_chain 119 = .ok (.goto (-62), 3) := by decide +kernel
theorem dd_X9_chain_122 : decode cX9_chain 122 = .ok (.aload_n 0, 1) := by decide +kernel
theorem dd_X9_chain_123 : decode cX9_chain 123 = .ok (.getfield 19, 3) := by decide +kernel
theorem dd_X9_chain_126 : decode cX9_chain 126 = .ok (.iload_n 1, 1) := by decide +kernel
theorem dd_X9_chain_127 : decode cX9_chain 127 = .ok (.iload 4, 2) := by decide +kernel
theorem dd_X9_chain_129 : decode cX9_chain 129 = .ok (.iastore, 1) := by decide +kernel
theorem dd_X9_chain_130 : decode cX9_chain 130 = .ok (.iconst 0, 1) := by decide +kernel
theorem dd_X9_chain_131 : decode cX9_chain 131 = .ok (.istore 5, 2) := by decide +kernel
theorem dd_X9_chain_133 : decode cX9_chain 133 = .ok (.iload 5, 2) := by decide +kernel
theorem dd_X9_chain_135 : decode cX9_chain 135 = .ok (.iload 4, 2) := by decide +kernel
theorem dd_X9_chain_137 : decode cX9_chain 137 = .ok (.if_icmp .ge 28, 3) := by decide +kernel
theorem dd_X9_chain_140 : decode cX9_chain 140 = .ok (.aload_n 0, 1) := by decide +kernel
theorem dd_X9_chain_141 : decode cX9_chain 141 = .ok (.getfield 22, 3) := by decide +kernel
theorem dd_X9_chain_144 : decode cX9_chain 144 = .ok (.bipush 60, 2) := by decide +kernel
theorem dd_X9_chain_146 : decode cX9_chain 146 = .ok (.iload_n 1, 1) := by decide +kernel
theorem dd_X9_chain_147 : decode cX9_chain 147 = .ok (.imul, 1) := by decide +kernel
theorem dd_X9_chain_148 : decode cX9_chain 148 = .ok (.iload 5, 2) := by decide +kernel
theorem dd_X9_chain_150 : decode cX9_chain 150 = .ok (.iadd, 1) := by decide +kernel
theorem dd_X9_chain_151 : decode cX9_chain 151 = .ok (.aload_n 0, 1) := by decide +kernel
theorem dd_X9_chain_152 : decode cX9_chain 152 = .ok (.getfield 47, 3) := by decide +kernel
theorem dd_X9_chain_155 : decode cX9_chain 155 = .ok (.iload 5, 2) := by decide +kernel
theorem dd_X9_chain_157 : decode cX9_chain 157 = .ok (.iaload, 1) := by decide +kernel
theorem dd_X9_chain_158 : decode cX9_chain 158 = .ok (.iastore, 1) := by decide +kernel
theorem dd_X9_chain_159 : decode cX9_chain 159 = .ok (.iinc 5 1, 3) := by decide +kernel
theorem dd_X9_chain_162 : decode cX9_chain 162 = .ok (.goto (-29), 3) := by decide +kernel
theorem dd_X9_chain_165 : decode cX9_chain 165 = .ok (.iload 4, 2) := by decide +kernel
theorem dd_X9_chain_167 : decode cX9_chain 167 = .ok (.ireturn, 1) := by decide +kernel
theorem ok_X9_chain : am_okM m_X9_chain 3 ∧ Cond.instanceMethod m_X9_chain.1 ∈ am_tbl ∧ Cond.selects m_X9_chain.1.cls m_X9_chain.1 m_X9_chain.1 ∈ am_tbl := ri_mk1 1039 93 1037 1038 (by decide +kernel)
theorem k_X9_chain {r p q : Int} {F A : gs_F} (hI : gs_I F A) (hr : -2147483648 ≤ r ∧ r ≤ 2147483647) (hp : -2147483648 ≤ p ∧ p ≤ 2147483647) (hq : -2147483648 ≤ q ∧ q ≤ 2147483647) : ∀ nN : Nat, (∀ (n : Int) (k : Int)  (F1 A1 : gs_F), gs_I F1 A1 → gs_fr (fun _ _ => False) (fun c => c = 110 ∨ c = 111 ∨ c = 118) F A F1 A1 → 0 ≤ r ∧ r ≤ 7 → 0 ≤ p ∧ p ≤ 7 → 0 ≤ q ∧ q ≤ 7 → 0 ≤ k ∧ k ≤ n → n ≤ 60 ∧ n = A1 110 p.toNat + A1 110 q.toNat → n - k + 100 < (nN : Int) → sA m_X9_chain 3 (fun rv F' A' => ∃ z : Int, rv = some (gs_iv z) ∧ gs_I F' A' ∧ gs_fr (fun _ _ => False) (fun c => c = 110 ∨ c = 111 ∨ c = 118) F A F' A' ∧ (True)) 57 [(5, gs_iv k), (4, gs_iv n), (0, .ref 106), (1, gs_iv r), (2, gs_iv p), (3, gs_iv q)] [] F1 A1) ∧ (∀ (n : Int) (k : Int)  (F1 A1 : gs_F), gs_I F1 A1 → gs_fr (fun _ _ => False) (fun c => c = 110 ∨ c = 111 ∨ c = 118) F A F1 A1 → 0 ≤ r ∧ r ≤ 7 → 0 ≤ k ∧ k ≤ n → n ≤ 60 → n - k < (nN : Int) → sA m_X9_chain 3 (fun rv F' A' => ∃ z : Int, rv = some (gs_iv z) ∧ gs_I F' A' ∧ gs_fr (fun _ _ => False) (fun c => c = 110 ∨ c = 111 ∨ c = 118) F A F' A' ∧ (True)) 133 [(5, gs_iv k), (4, gs_iv n), (0, .ref 106), (1, gs_iv r)] [] F1 A1) := by
  intro nN
  induction nN with
  | zero =>
    exact ⟨fun a0 a1 a2 a3 a4 a5 i0 i1 i2 i3 i4 hm => by exfalso; omega, fun a0 a1 a2 a3 a4 a5 i0 i1 i2 hm => by exfalso; omega⟩
  | succ nN ih =>
    refine ⟨?_, ?_⟩
    · skip
      intro n k F1 A1 hI1 hf1 i0 i1 i2 i3 i4 hm
      refine sA_iload dd_X9_chain_57 (.head _) ?_
      refine sA_iload dd_X9_chain_59 (.tail _ (.head _)) ?_
      refine sA_icmp_ge (tgt := 122) dd_X9_chain_61 (by decide) (by omega) (by omega) (fun q1 => ?_) (fun q1 => ?_)
      · skip
        refine sA_aload_n dd_X9_chain_122 rfl (.tail _ (.tail _ (.head _))) ?_
        refine sA_getr (ci := 9) (j := 6) (q := (RX9, TX9, 28)) dd_X9_chain_123 rfl (by decide) fl_X9_19 (by decide) gs_s106 rfl ?_
        refine sA_iload_n dd_X9_chain_126 rfl (.tail _ (.tail _ (.tail _ (.head _)))) ?_
        refine sA_iload dd_X9_chain_127 (.tail _ (.head _)) ?_
        refine sA_iast (n := 9) dd_X9_chain_129 (by decide) gs_s110 (by omega) (by decide) ?_
        have I3 : gs_I F1 (gs_up A1 110 r.toNat n) := gs_I_ast hI1 (show (0 : Int) ≤ n ∧ n ≤ 60 by omega)
        have f4 := gs_fr_ast hf1 (a := 110) (z := n) (i := r.toNat) (by first | omega | (dsimp only; omega) | (dsimp only))
        have v5 := gs_up_cs A1 110 r.toNat n p.toNat
        have v6 := gs_up_cs A1 110 r.toNat n q.toNat
        generalize gs_up A1 110 r.toNat n = A2 at I3 f4 v5 v6 ⊢
        refine sA_iconst (z := 0) dd_X9_chain_130 ?_
        refine sA_istore (lv' := [(5, gs_iv 0), (4, gs_iv n), (0, .ref 106), (1, gs_iv r), (2, gs_iv p), (3, gs_iv q)]) dd_X9_chain_131 (by decide) rfl ?_
        refine sA_sub (lv2 := [(5, gs_iv 0), (4, gs_iv n), (0, .ref 106), (1, gs_iv r)]) (List.forall_mem_cons.mpr ⟨(.head _), (List.forall_mem_cons.mpr ⟨(.tail _ (.head _)), (List.forall_mem_cons.mpr ⟨(.tail _ (.tail _ (.head _))), (List.forall_mem_cons.mpr ⟨(.tail _ (.tail _ (.tail _ (.head _)))), (fun _ h => absurd h List.not_mem_nil)⟩)⟩)⟩)⟩) ?_
        exact ih.2 n 0 F1 A2 I3 f4 (by omega) (by omega) (by omega) (by omega)
      · skip
        refine sA_aload_n dd_X9_chain_64 rfl (.tail _ (.tail _ (.head _))) ?_
        refine sA_getr (ci := 9) (j := 23) (q := (RX9, TX9, 28)) dd_X9_chain_65 rfl (by decide) fl_X9_47 (by decide) gs_s106 rfl ?_
        refine sA_iload dd_X9_chain_68 (.head _) ?_
        refine sA_iload dd_X9_chain_70 (.head _) ?_
        refine sA_aload_n dd_X9_chain_72 rfl (.tail _ (.tail _ (.head _))) ?_
        refine sA_getr (ci := 9) (j := 6) (q := (RX9, TX9, 28)) dd_X9_chain_73 rfl (by decide) fl_X9_19 (by decide) gs_s106 rfl ?_
        refine sA_iload_n dd_X9_chain_76 rfl (.tail _ (.tail _ (.tail _ (.tail _ (.head _))))) ?_
        refine sA_iald (n := 9) dd_X9_chain_77 (by decide) gs_s110 (by omega) (by decide) ?_
        have b7 : (0 : Int) ≤ A1 110 p.toNat ∧ A1 110 p.toNat ≤ 60 := hI1.2 110 p.toNat
        refine sA_icmp_ge (tgt := 96) dd_X9_chain_78 (by decide) (by omega) (by omega) (fun q8 => ?_) (fun q8 => ?_)
        · skip
          refine sA_aload_n dd_X9_chain_96 rfl (.tail _ (.tail _ (.head _))) ?_
          refine sA_getr (ci := 9) (j := 7) (q := (RX9, TX9, 28)) dd_X9_chain_97 rfl (by decide) fl_X9_22 (by decide) gs_s106 rfl ?_
          refine sA_bipush (z := 60) dd_X9_chain_100 (by decide) ?_
          refine sA_iload_n dd_X9_chain_102 rfl (.tail _ (.tail _ (.tail _ (.tail _ (.tail _ (.head _)))))) ?_
          refine sA_imul dd_X9_chain_103 ?_
          refine sA_iload dd_X9_chain_104 (.head _) ?_
          refine sA_iadd dd_X9_chain_106 ?_
          refine sA_aload_n dd_X9_chain_107 rfl (.tail _ (.tail _ (.head _))) ?_
          refine sA_getr (ci := 9) (j := 6) (q := (RX9, TX9, 28)) dd_X9_chain_108 rfl (by decide) fl_X9_19 (by decide) gs_s106 rfl ?_
          refine sA_iload_n dd_X9_chain_111 rfl (.tail _ (.tail _ (.tail _ (.tail _ (.head _))))) ?_
          refine sA_iald (n := 9) dd_X9_chain_112 (by decide) gs_s110 (by omega) (by decide) ?_
          refine sA_isub dd_X9_chain_113 ?_
          refine sA_iald (n := 540) dd_X9_chain_114 (by decide) gs_s111 (by omega) (by decide) ?_
          have b9 : (-2147483648 : Int) ≤ A1 111 (((60 * q) + k) - (A1 110 p.toNat)).toNat ∧ A1 111 (((60 * q) + k) - (A1 110 p.toNat)).toNat ≤ 2147483647 := hI1.2 111 (((60 * q) + k) - (A1 110 p.toNat)).toNat
          refine sA_iast (n := 600) dd_X9_chain_115 (by decide) gs_s118 (by omega) (by decide) ?_
          have I11 : gs_I F1 (gs_up A1 118 k.toNat (A1 111 (((60 * q) + k) - (A1 110 p.toNat)).toNat)) := gs_I_ast hI1 (show (-2147483648 : Int) ≤ A1 111 (((60 * q) + k) - (A1 110 p.toNat)).toNat ∧ A1 111 (((60 * q) + k) - (A1 110 p.toNat)).toNat ≤ 2147483647 by omega)
          have f12 := gs_fr_ast hf1 (a := 118) (z := A1 111 (((60 * q) + k) - (A1 110 p.toNat)).toNat) (i := k.toNat) (by first | omega | (dsimp only; omega) | (dsimp only))
          have v13 : (gs_up A1 118 k.toNat (A1 111 (((60 * q) + k) - (A1 110 p.toNat)).toNat)) 110 p.toNat = A1 110 p.toNat := gs_up_ne _ _ (by omega)
          have v14 : (gs_up A1 118 k.toNat (A1 111 (((60 * q) + k) - (A1 110 p.toNat)).toNat)) 110 q.toNat = A1 110 q.toNat := gs_up_ne _ _ (by omega)
          generalize gs_up A1 118 k.toNat (A1 111 (((60 * q) + k) - (A1 110 p.toNat)).toNat) = A10 at I11 f12 v13 v14 ⊢
          refine sA_iinc (lv' := [(5, gs_iv (k + 1)), (4, gs_iv n), (0, .ref 106), (1, gs_iv r), (2, gs_iv p), (3, gs_iv q)]) dd_X9_chain_116 (.head _) (by decide) rfl ?_
          refine sA_goto (tgt := 57) dd_X9_chain_119 (by decide) ?_
          refine sA_sub (lv2 := [(5, gs_iv (k + 1)), (4, gs_iv n), (0, .ref 106), (1, gs_iv r), (2, gs_iv p), (3, gs_iv q)]) (List.forall_mem_cons.mpr ⟨(.head _), (List.forall_mem_cons.mpr ⟨(.tail _ (.head _)), (List.forall_mem_cons.mpr ⟨(.tail _ (.tail _ (.head _))), (List.forall_mem_cons.mpr ⟨(.tail _ (.tail _ (.tail _ (.head _)))), (List.forall_mem_cons.mpr ⟨(.tail _ (.tail _ (.tail _ (.tail _ (.head _))))), (List.forall_mem_cons.mpr ⟨(.tail _ (.tail _ (.tail _ (.tail _ (.tail _ (.head _)))))), (fun _ h => absurd h List.not_mem_nil)⟩)⟩)⟩)⟩)⟩)⟩) ?_
          exact ih.1 n (k + 1) F1 A10 I11 f12 (by omega) (by omega) (by omega) (by omega) (by omega) (by omega)
        · skip
          refine sA_aload_n dd_X9_chain_81 rfl (.tail _ (.tail _ (.head _))) ?_
          refine sA_getr (ci := 9) (j := 7) (q := (RX9, TX9, 28)) dd_X9_chain_82 rfl (by decide) fl_X9_22 (by decide) gs_s106 rfl ?_
          refine sA_bipush (z := 60) dd_X9_chain_85 (by decide) ?_
          refine sA_iload_n dd_X9_chain_87 rfl (.tail _ (.tail _ (.tail _ (.tail _ (.head _))))) ?_
          refine sA_imul dd_X9_chain_88 ?_
          refine sA_iload dd_X9_chain_89 (.head _) ?_
          refine sA_iadd dd_X9_chain_91 ?_
          refine sA_iald (n := 540) dd_X9_chain_92 (by decide) gs_s111 (by omega) (by decide) ?_
          have b15 : (-2147483648 : Int) ≤ A1 111 ((60 * p) + k).toNat ∧ A1 111 ((60 * p) + k).toNat ≤ 2147483647 := hI1.2 111 ((60 * p) + k).toNat
          refine sA_goto (tgt := 115) dd_X9_chain_93 (by decide) ?_
          refine sA_iast (n := 600) dd_X9_chain_115 (by decide) gs_s118 (by omega) (by decide) ?_
          have I17 : gs_I F1 (gs_up A1 118 k.toNat (A1 111 ((60 * p) + k).toNat)) := gs_I_ast hI1 (show (-2147483648 : Int) ≤ A1 111 ((60 * p) + k).toNat ∧ A1 111 ((60 * p) + k).toNat ≤ 2147483647 by omega)
          have f18 := gs_fr_ast hf1 (a := 118) (z := A1 111 ((60 * p) + k).toNat) (i := k.toNat) (by first | omega | (dsimp only; omega) | (dsimp only))
          have v19 : (gs_up A1 118 k.toNat (A1 111 ((60 * p) + k).toNat)) 110 p.toNat = A1 110 p.toNat := gs_up_ne _ _ (by omega)
          have v20 : (gs_up A1 118 k.toNat (A1 111 ((60 * p) + k).toNat)) 110 q.toNat = A1 110 q.toNat := gs_up_ne _ _ (by omega)
          generalize gs_up A1 118 k.toNat (A1 111 ((60 * p) + k).toNat) = A16 at I17 f18 v19 v20 ⊢
          refine sA_iinc (lv' := [(5, gs_iv (k + 1)), (4, gs_iv n), (0, .ref 106), (1, gs_iv r), (2, gs_iv p), (3, gs_iv q)]) dd_X9_chain_116 (.head _) (by decide) rfl ?_
          refine sA_goto (tgt := 57) dd_X9_chain_119 (by decide) ?_
          refine sA_sub (lv2 := [(5, gs_iv (k + 1)), (4, gs_iv n), (0, .ref 106), (1, gs_iv r), (2, gs_iv p), (3, gs_iv q)]) (List.forall_mem_cons.mpr ⟨(.head _), (List.forall_mem_cons.mpr ⟨(.tail _ (.head _)), (List.forall_mem_cons.mpr ⟨(.tail _ (.tail _ (.head _))), (List.forall_mem_cons.mpr ⟨(.tail _ (.tail _ (.tail _ (.head _)))), (List.forall_mem_cons.mpr ⟨(.tail _ (.tail _ (.tail _ (.tail _ (.head _))))), (List.forall_mem_cons.mpr ⟨(.tail _ (.tail _ (.tail _ (.tail _ (.tail _ (.head _)))))), (fun _ h => absurd h List.not_mem_nil)⟩)⟩)⟩)⟩)⟩)⟩) ?_
          exact ih.1 n (k + 1) F1 A16 I17 f18 (by omega) (by omega) (by omega) (by omega) (by omega) (by omega)
    · skip
      intro n k F1 A1 hI1 hf1 i0 i1 i2 hm
      refine sA_iload dd_X9_chain_133 (.head _) ?_
      refine sA_iload dd_X9_chain_135 (.tail _ (.head _)) ?_
      refine sA_icmp_ge (tgt := 165) dd_X9_chain_137 (by decide) (by omega) (by omega) (fun q21 => ?_) (fun q21 => ?_)
      · skip
        refine sA_iload dd_X9_chain_165 (.tail _ (.head _)) ?_
        refine sA_iret (z := n) dd_X9_chain_167 rfl ?_
        exact ⟨_, rfl, hI1, hf1, trivial⟩
      · skip
        refine sA_aload_n dd_X9_chain_140 rfl (.tail _ (.tail _ (.head _))) ?_
        refine sA_getr (ci := 9) (j := 7) (q := (RX9, TX9, 28)) dd_X9_chain_141 rfl (by decide) fl_X9_22 (by decide) gs_s106 rfl ?_
        refine sA_bipush (z := 60) dd_X9_chain_144 (by decide) ?_
        refine sA_iload_n dd_X9_chain_146 rfl (.tail _ (.tail _ (.tail _ (.head _)))) ?_
        refine sA_imul dd_X9_chain_147 ?_
        refine sA_iload dd_X9_chain_148 (.head _) ?_
        refine sA_iadd dd_X9_chain_150 ?_
        refine sA_aload_n dd_X9_chain_151 rfl (.tail _ (.tail _ (.head _))) ?_
        refine sA_getr (ci := 9) (j := 23) (q := (RX9, TX9, 28)) dd_X9_chain_152 rfl (by decide) fl_X9_47 (by decide) gs_s106 rfl ?_
        refine sA_iload dd_X9_chain_155 (.head _) ?_
        refine sA_iald (n := 600) dd_X9_chain_157 (by decide) gs_s118 (by omega) (by decide) ?_
        have b22 : (-2147483648 : Int) ≤ A1 118 k.toNat ∧ A1 118 k.toNat ≤ 2147483647 := hI1.2 118 k.toNat
        refine sA_iast (n := 540) dd_X9_chain_158 (by decide) gs_s111 (by omega) (by decide) ?_
        have I24 : gs_I F1 (gs_up A1 111 (((60 * r) + k).toNat) (A1 118 k.toNat)) := gs_I_ast hI1 (show (-2147483648 : Int) ≤ A1 118 k.toNat ∧ A1 118 k.toNat ≤ 2147483647 by omega)
        have f25 := gs_fr_ast hf1 (a := 111) (z := A1 118 k.toNat) (i := ((60 * r) + k).toNat) (by first | omega | (dsimp only; omega) | (dsimp only))
        have v26 : (gs_up A1 111 (((60 * r) + k).toNat) (A1 118 k.toNat)) 110 p.toNat = A1 110 p.toNat := gs_up_ne _ _ (by omega)
        have v27 : (gs_up A1 111 (((60 * r) + k).toNat) (A1 118 k.toNat)) 110 q.toNat = A1 110 q.toNat := gs_up_ne _ _ (by omega)
        generalize gs_up A1 111 (((60 * r) + k).toNat) (A1 118 k.toNat) = A23 at I24 f25 v26 v27 ⊢
        refine sA_iinc (lv' := [(5, gs_iv (k + 1)), (4, gs_iv n), (0, .ref 106), (1, gs_iv r)]) dd_X9_chain_159 (.head _) (by decide) rfl ?_
        refine sA_goto (tgt := 133) dd_X9_chain_162 (by decide) ?_
        refine sA_sub (lv2 := [(5, gs_iv (k + 1)), (4, gs_iv n), (0, .ref 106), (1, gs_iv r)]) (List.forall_mem_cons.mpr ⟨(.head _), (List.forall_mem_cons.mpr ⟨(.tail _ (.head _)), (List.forall_mem_cons.mpr ⟨(.tail _ (.tail _ (.head _))), (List.forall_mem_cons.mpr ⟨(.tail _ (.tail _ (.tail _ (.head _)))), (fun _ h => absurd h List.not_mem_nil)⟩)⟩)⟩)⟩) ?_
        exact ih.2 n (k + 1) F1 A23 I24 f25 (by omega) (by omega) (by omega) (by omega)
theorem c_X9_chain {r p q : Int} {F A : gs_F} (hI : gs_I F A) (hr : -2147483648 ≤ r ∧ r ≤ 2147483647) (hp : -2147483648 ≤ p ∧ p ≤ 2147483647) (hq : -2147483648 ≤ q ∧ q ≤ 2147483647) : sC m_X9_chain 3 [.ref 106, gs_iv r, gs_iv p, gs_iv q] F A (fun rv F' A' => ∃ z : Int, rv = some (gs_iv z) ∧ gs_I F' A' ∧ gs_fr (fun _ _ => False) (fun c => c = 110 ∨ c = 111 ∨ c = 118) F A F' A' ∧ (True)) := by
  refine sC_of ok_X9_chain.1 (Nat.le_of_ble_eq_true rfl) ?_
  show sA _ _ _ 0 [(0, .ref 106), (1, gs_iv r), (2, gs_iv p), (3, gs_iv q)] [] F A
  have hf : gs_fr (fun _ _ => False) (fun c => c = 110 ∨ c = 111 ∨ c = 118) F A F A := gs_fr_refl _ _ _ _
  refine sA_aload_n dd_X9_chain_0 rfl (.head _) ?_
  refine sA_iload_n dd_X9_chain_1 rfl (.tail _ (.head _)) ?_
  refine sA_callV (y2 := m_X9_noPlan) (n2 := 1) (d2 := 2) (a := 106) (ci := 9) (q := (RX9, TX9, 28)) (as := [gs_iv r]) (rest := []) dd_X9_chain_2 ok_X9_noPlan ml_X9_218 rfl rfl (by decide) gs_s106 rfl rfl (Nat.le_of_ble_eq_true rfl) (by decide) (c_X9_noPlan hI (by omega)) (fun r28 F29 A30 h31 => ?_)
  obtain ⟨z34, e33, e35, e36, x32⟩ := h31
  subst e33 e35 e36
  show sA _ _ _ 5 _ [gs_iv z34] _ _
  refine sA_if_ne (tgt := 24) dd_X9_chain_5 (by decide) (by omega) (fun q37 => ?_) (fun q37 => ?_)
  · skip
    refine sA_sipush (z := (-1001)) dd_X9_chain_24 (by decide) ?_
    refine sA_iret (z := -1001) dd_X9_chain_27 rfl ?_
    exact ⟨_, rfl, hI, hf, trivial⟩
  · skip
    refine sA_aload_n dd_X9_chain_8 rfl (.head _) ?_
    refine sA_iload_n dd_X9_chain_9 rfl (.tail _ (.tail _ (.head _))) ?_
    refine sA_callV (y2 := m_X9_noPlan) (n2 := 1) (d2 := 2) (a := 106) (ci := 9) (q := (RX9, TX9, 28)) (as := [gs_iv p]) (rest := []) dd_X9_chain_10 ok_X9_noPlan ml_X9_218 rfl rfl (by decide) gs_s106 rfl rfl (Nat.le_of_ble_eq_true rfl) (by decide) (c_X9_noPlan hI (by omega)) (fun r38 F39 A40 h41 => ?_)
    obtain ⟨z44, e43, e45, e46, x42⟩ := h41
    subst e43 e45 e46
    show sA _ _ _ 13 _ [gs_iv z44] _ _
    refine sA_if_ne (tgt := 24) dd_X9_chain_13 (by decide) (by omega) (fun q47 => ?_) (fun q47 => ?_)
    · skip
      refine sA_sipush (z := (-1001)) dd_X9_chain_24 (by decide) ?_
      refine sA_iret (z := -1001) dd_X9_chain_27 rfl ?_
      exact ⟨_, rfl, hI, hf, trivial⟩
    · skip
      refine sA_aload_n dd_X9_chain_16 rfl (.head _) ?_
      refine sA_iload_n dd_X9_chain_17 rfl (.tail _ (.tail _ (.tail _ (.head _)))) ?_
      refine sA_callV (y2 := m_X9_noPlan) (n2 := 1) (d2 := 2) (a := 106) (ci := 9) (q := (RX9, TX9, 28)) (as := [gs_iv q]) (rest := []) dd_X9_chain_18 ok_X9_noPlan ml_X9_218 rfl rfl (by decide) gs_s106 rfl rfl (Nat.le_of_ble_eq_true rfl) (by decide) (c_X9_noPlan hI (by omega)) (fun r48 F49 A50 h51 => ?_)
      obtain ⟨z54, e53, e55, e56, x52⟩ := h51
      subst e53 e55 e56
      show sA _ _ _ 21 _ [gs_iv z54] _ _
      refine sA_if_eq (tgt := 28) dd_X9_chain_21 (by decide) (by omega) (fun q57 => ?_) (fun q57 => ?_)
      · skip
        refine sA_aload_n dd_X9_chain_28 rfl (.head _) ?_
        refine sA_getr (ci := 9) (j := 6) (q := (RX9, TX9, 28)) dd_X9_chain_29 rfl (by decide) fl_X9_19 (by decide) gs_s106 rfl ?_
        refine sA_iload_n dd_X9_chain_32 rfl (.tail _ (.tail _ (.head _))) ?_
        refine sA_iald (n := 9) dd_X9_chain_33 (by decide) gs_s110 (by omega) (by decide) ?_
        have b58 : (0 : Int) ≤ A 110 p.toNat ∧ A 110 p.toNat ≤ 60 := hI.2 110 p.toNat
        refine sA_aload_n dd_X9_chain_34 rfl (.head _) ?_
        refine sA_getr (ci := 9) (j := 6) (q := (RX9, TX9, 28)) dd_X9_chain_35 rfl (by decide) fl_X9_19 (by decide) gs_s106 rfl ?_
        refine sA_iload_n dd_X9_chain_38 rfl (.tail _ (.tail _ (.tail _ (.head _)))) ?_
        refine sA_iald (n := 9) dd_X9_chain_39 (by decide) gs_s110 (by omega) (by decide) ?_
        have b59 : (0 : Int) ≤ A 110 q.toNat ∧ A 110 q.toNat ≤ 60 := hI.2 110 q.toNat
        refine sA_iadd dd_X9_chain_40 ?_
        refine sA_istore (lv' := [(4, gs_iv ((A 110 p.toNat) + (A 110 q.toNat))), (0, .ref 106), (1, gs_iv r), (2, gs_iv p), (3, gs_iv q)]) dd_X9_chain_41 (by decide) rfl ?_
        refine sA_iload dd_X9_chain_43 (.head _) ?_
        refine sA_bipush (z := 60) dd_X9_chain_45 (by decide) ?_
        refine sA_icmp_le (tgt := 54) dd_X9_chain_47 (by decide) (by omega) (by omega) (fun q60 => ?_) (fun q60 => ?_)
        · skip
          refine sA_iconst (z := 0) dd_X9_chain_54 ?_
          refine sA_istore (lv' := [(5, gs_iv 0), (4, gs_iv ((A 110 p.toNat) + (A 110 q.toNat))), (0, .ref 106), (1, gs_iv r), (2, gs_iv p), (3, gs_iv q)]) dd_X9_chain_55 (by decide) rfl ?_
          refine sA_sub (lv2 := [(5, gs_iv 0), (4, gs_iv ((A 110 p.toNat) + (A 110 q.toNat))), (0, .ref 106), (1, gs_iv r), (2, gs_iv p), (3, gs_iv q)]) (List.forall_mem_cons.mpr ⟨(.head _), (List.forall_mem_cons.mpr ⟨(.tail _ (.head _)), (List.forall_mem_cons.mpr ⟨(.tail _ (.tail _ (.head _))), (List.forall_mem_cons.mpr ⟨(.tail _ (.tail _ (.tail _ (.head _)))), (List.forall_mem_cons.mpr ⟨(.tail _ (.tail _ (.tail _ (.tail _ (.head _))))), (List.forall_mem_cons.mpr ⟨(.tail _ (.tail _ (.tail _ (.tail _ (.tail _ (.head _)))))), (fun _ h => absurd h List.not_mem_nil)⟩)⟩)⟩)⟩)⟩)⟩) ?_
          exact (k_X9_chain hI hr hp hq (((A 110 p.toNat) + (A 110 q.toNat)) - 0 + 100 : Int).toNat.succ).1 ((A 110 p.toNat) + (A 110 q.toNat)) 0 F A hI hf (by omega) (by omega) (by omega) (by omega) (by omega) (by omega)
        · skip
          refine sA_sipush (z := (-1004)) dd_X9_chain_50 (by decide) ?_
          refine sA_iret (z := -1004) dd_X9_chain_53 rfl ?_
          exact ⟨_, rfl, hI, hf, trivial⟩
      · skip
        refine sA_sipush (z := (-1001)) dd_X9_chain_24 (by decide) ?_
        refine sA_iret (z := -1001) dd_X9_chain_27 rfl ?_
        exact ⟨_, rfl, hI, hf, trivial⟩
theorem dd_X9_turn_0 : decode cX9_turn 0 = .ok (.aload_n 0, 1) := by decide +kernel
theorem dd_X9_turn_1 : decode cX9_turn 1 = .ok (.iload_n 1, 1) := by decide +kernel
theorem dd_X9_turn_2 : decode cX9_turn 2 = .ok (.invokevirtual 218, 3) := by decide +kernel
theorem dd_X9_turn_5 : decode cX9_turn 5 = .ok (.ifCond .ne 11, 3) := by decide +kernel
theorem dd_X9_turn_8 : decode cX9_turn 8 = .ok (.aload_n 0, 1) := by decide +kernel
theorem dd_X9_turn_9 : decode cX9_turn 9 = .ok (.iload_n 2, 1) := by decide +kernel
theorem dd_X9_turn_10 : decode cX9_turn 10 = .ok (.invokevirtual 218, 3) := by decide +kernel
theorem dd_X9_turn_13 : decode cX9_turn 13 = .ok (.ifCond .eq 7, 3) := by decide +kernel
theorem dd_X9_turn_16 : decode cX9_turn 16 = .ok (.sipush (-1001), 3) := by decide +kernel
theorem dd_X9_turn_19 : decode cX9_turn 19 = .ok (.ireturn, 1) := by decide +kernel
theorem dd_X9_turn_20 : decode cX9_turn 20 = .ok (.aload_n 0, 1) := by decide +kernel
theorem dd_X9_turn_21 : decode cX9_turn 21 = .ok (.getfield 19, 3) := by decide +kernel
theorem dd_X9_turn_24 : decode cX9_turn 24 = .ok (.iload_n 2, 1) := by decide +kernel
theorem dd_X9_turn_25 : decode cX9_turn 25 = .ok (.iaload, 1) := by decide +kernel
theorem dd_X9_turn_26 : decode cX9_turn 26 = .ok (.istore_n 3, 1) := by decide +kernel
theorem dd_X9_turn_27 : decode cX9_turn 27 = .ok (.iconst 0, 1) := by decide +kernel
theorem dd_X9_turn_28 : decode cX9_turn 28 = .ok (.istore 4, 2) := by decide +kernel
theorem dd_X9_turn_30 : decode cX9_turn 30 = .ok (.iload 4, 2) := by decide +kernel
theorem dd_X9_turn_32 : decode cX9_turn 32 = .ok (.iload_n 3, 1) := by decide +kernel
theorem dd_X9_turn_33 : decode cX9_turn 33 = .ok (.if_icmp .ge 32, 3) := by decide +kernel
theorem dd_X9_turn_36 : decode cX9_turn 36 = .ok (.aload_n 0, 1) := by decide +kernel
theorem dd_X9_turn_37 : decode cX9_turn 37 = .ok (.getfield 47, 3) := by decide +kernel
theorem dd_X9_turn_40 : decode cX9_turn 40 = .ok (.iload 4, 2) := by decide +kernel
theorem dd_X9_turn_42 : decode cX9_turn 42 = .ok (.aload_n 0, 1) := by decide +kernel
theorem dd_X9_turn_43 : decode cX9_turn 43 = .ok (.getfield 22, 3) := by decide +kernel
theorem dd_X9_turn_46 : decode cX9_turn 46 = .ok (.bipush 60, 2) := by decide +kernel
theorem dd_X9_turn_48 : decode cX9_turn 48 = .ok (.iload_n 2, 1) := by decide +kernel
theorem dd_X9_turn_49 : decode cX9_turn 49 = .ok (.imul, 1) := by decide +kernel
theorem dd_X9_turn_50 : decode cX9_turn 50 = .ok (.iload_n 3, 1) := by decide +kernel
theorem dd_X9_turn_51 : decode cX9_turn 51 = .ok (.iadd, 1) := by decide +kernel
theorem dd_X9_turn_52 : decode cX9_turn 52 = .ok (.iconst 1, 1) := by decide +kernel
theorem dd_X9_turn_53 : decode cX9_turn 53 = .ok (.isub, 1) := by decide +kernel
theorem dd_X9_turn_54 : decode cX9_turn 54 = .ok (.iload 4, 2) := by decide +kernel
theorem dd_X9_turn_56 : decode cX9_turn 56 = .ok (.isub, 1) := by decide +kernel
theorem dd_X9_turn_57 : decode cX9_turn 57 = .ok (.iaload, 1) := by decide +kernel
theorem dd_X9_turn_58 : decode cX9_turn 58 = .ok (.iastore, 1) := by decide +kernel
theorem dd_X9_turn_59 : decode cX9_turn 59 = .ok (.iinc 4 1, 3) := by decide +kernel
theorem dd_X9_turn_62 : decode cX9_turn 62 = .ok (.goto (-32), 3) := by decide +kernel
theorem dd_X9_turn_65 : decode cX9_turn 65 = .ok (.aload_n 0, 1) := by decide +kernel
theorem dd_X9_turn_66 : decode cX9_turn 66 = .ok (.getfield 19, 3) := by decide +kernel
theorem dd_X9_turn_69 : decode cX9_turn 69 = .ok (.iload_n 1, 1) := by decide +kernel
theorem dd_X9_turn_70 : decode cX9_turn 70 = .ok (.iload_n 3, 1) := by decide +kernel
theorem dd_X9_turn_71 : decode cX9_turn 71 = .ok (.iastore, 1) := by decide +kernel
theorem dd_X9_turn_72 : decode cX9_turn 72 = .ok (.iconst 0, 1) := by decide +kernel
theorem dd_X9_turn_73 : decode cX9_turn 73 = .ok (.istore 4, 2) := by decide +kernel
theorem dd_X9_turn_75 : decode cX9_turn 75 = .ok (.iload 4, 2) := by decide +kernel
theorem dd_X9_turn_77 : decode cX9_turn 77 = .ok (.iload_n 3, 1) := by decide +kernel
theorem dd_X9_turn_78 : decode cX9_turn 78 = .ok (.if_icmp .ge 54, 3) := by decide +kernel
theorem dd_X9_turn_81 : decode cX9_turn 81 = .ok (.aload_n 0, 1) := by decide +kernel
theorem dd_X9_turn_82 : decode cX9_turn 82 = .ok (.getfield 22, 3) := by decide +kernel
theorem dd_X9_turn_85 : decode cX9_turn 85 = .ok (.bipush 60, 2) := by decide +kernel
theorem dd_X9_turn_87 : decode cX9_turn 87 = .ok (.iload_n 1, 1) := by decide +kernel
theorem dd_X9_turn_88 : decode cX9_turn 88 = .ok (.imul, 1) := by decide +kernel
theorem dd_X9_turn_89 : decode cX9_turn 89 = .ok (.iload 4, 2) := by decide +kernel
theorem dd_X9_turn_91 : decode cX9_turn 91 = .ok (.iadd, 1) := by decide +kernel
theorem dd_X9_turn_92 : decode cX9_turn 92 = .ok (.aload_n 0, 1) := by decide +kernel
theorem dd_X9_turn_93 : decode cX9_turn 93 = .ok (.getfield 47, 3) := by decide +kernel
theorem dd_X9_turn_96 : decode cX9_turn 96 = .ok (.iload 4, 2) := by decide +kernel
theorem dd_X9_turn_98 : decode cX9_turn 98 = .ok (.iaload, 1) := by decide +kernel
theorem dd_X9_turn_99 : decode cX9_turn 99 = .ok (.iconst 2, 1) := by decide +kernel
theorem dd_X9_turn_100 : decode cX9_turn 100 = .ok (.irem, 1) := by decide +kernel
theorem dd_X9_turn_101 : decode cX9_turn 101 = .ok (.ifCond .ne 15, 3) := by decide +kernel
theorem dd_X9_turn_104 : decode cX9_turn 104 = .ok (.aload_n 0, 1) := by decide +kernel
theorem dd_X9_turn_105 : decode cX9_turn 105 = .ok (.getfield 47, 3) := by decide +kernel
theorem dd_X9_turn_108 : decode cX9_turn 108 = .ok (.iload 4, 2) := by decide +kernel
theorem dd_X9_turn_110 : decode cX9_turn 110 = .ok (.iaload, 1) := by decide +kernel
theorem dd_X9_turn_111 : decode cX9_turn 111 = .ok (.iconst 1, 1) := by decide +kernel
theorem dd_X9_turn_112 : decode cX9_turn 112 = .ok (.iadd, 1) := by decide +kernel
theorem dd_X9_turn_113 : decode cX9_turn 113 = .ok (.goto 12, 3) := by decide +kernel
theorem dd_X9_turn_116 : decode cX9_turn 116 = .ok (.aload_n 0, 1) := by decide +kernel
theorem dd_X9_turn_117 : decode cX9_turn 117 = .ok (.getfield 47, 3) := by decide +kernel
theorem dd_X9_turn_120 : decode cX9_turn 120 = .ok (.iload 4, 2) := by decide +kernel
theorem dd_X9_turn_122 : decode cX9_turn 122 = .ok (.iaload, 1) := by decide +kernel
theorem dd_X9_turn_123 : decode cX9_turn 123 = .ok (.iconst 1, 1) := by decide +kernel
theorem dd_X9_turn_124 : decode cX9_turn 124 = .ok (.isub, 1) := by decide +kernel
theorem dd_X9_turn_125 : decode cX9_turn 125 = .ok (.iastore, 1) := by decide +kernel
theorem dd_X9_turn_126 : decode cX9_turn 126 = .ok (.iinc 4 1, 3) := by decide +kernel
theorem dd_X9_turn_129 : decode cX9_turn 129 = .ok (.goto (-54), 3) := by decide +kernel
theorem dd_X9_turn_132 : decode cX9_turn 132 = .ok (.iload_n 3, 1) := by decide +kernel
theorem dd_X9_turn_133 : decode cX9_turn 133 = .ok (.ireturn, 1) := by decide +kernel
theorem ok_X9_turn : am_okM m_X9_turn 2 ∧ Cond.instanceMethod m_X9_turn.1 ∈ am_tbl ∧ Cond.selects m_X9_turn.1.cls m_X9_turn.1 m_X9_turn.1 ∈ am_tbl := ri_mk1 1043 93 1041 1042 (by decide +kernel)
theorem k_X9_turn {r p : Int} {F A : gs_F} (hI : gs_I F A) (hr : -2147483648 ≤ r ∧ r ≤ 2147483647) (hp : -2147483648 ≤ p ∧ p ≤ 2147483647) : ∀ nN : Nat, (∀ (n : Int) (k : Int)  (F1 A1 : gs_F), gs_I F1 A1 → gs_fr (fun _ _ => False) (fun c => c = 110 ∨ c = 111 ∨ c = 118) F A F1 A1 → 0 ≤ r ∧ r ≤ 7 → 0 ≤ p ∧ p ≤ 7 → 0 ≤ k ∧ k ≤ n → n ≤ 60 → n - k + 100 < (nN : Int) → sA m_X9_turn 3 (fun rv F' A' => ∃ z : Int, rv = some (gs_iv z) ∧ gs_I F' A' ∧ gs_fr (fun _ _ => False) (fun c => c = 110 ∨ c = 111 ∨ c = 118) F A F' A' ∧ (True)) 30 [(4, gs_iv k), (3, gs_iv n), (0, .ref 106), (1, gs_iv r), (2, gs_iv p)] [] F1 A1) ∧ (∀ (n : Int) (k : Int)  (F1 A1 : gs_F), gs_I F1 A1 → gs_fr (fun _ _ => False) (fun c => c = 110 ∨ c = 111 ∨ c = 118) F A F1 A1 → 0 ≤ r ∧ r ≤ 7 → 0 ≤ k ∧ k ≤ n → n ≤ 60 → n - k < (nN : Int) → sA m_X9_turn 3 (fun rv F' A' => ∃ z : Int, rv = some (gs_iv z) ∧ gs_I F' A' ∧ gs_fr (fun _ _ => False) (fun c => c = 110 ∨ c = 111 ∨ c = 118) F A F' A' ∧ (True)) 75 [(4, gs_iv k), (3, gs_iv n), (0, .ref 106), (1, gs_iv r)] [] F1 A1) := by
  intro nN
  induction nN with
  | zero =>
    exact ⟨fun a0 a1 a2 a3 a4 a5 i0 i1 i2 i3 hm => by exfalso; omega, fun a0 a1 a2 a3 a4 a5 i0 i1 i2 hm => by exfalso; omega⟩
  | succ nN ih =>
    refine ⟨?_, ?_⟩
    · skip
      intro n k F1 A1 hI1 hf1 i0 i1 i2 i3 hm
      refine sA_iload dd_X9_turn_30 (.head _) ?_
      refine sA_iload_n dd_X9_turn_32 rfl (.tail _ (.head _)) ?_
      refine sA_icmp_ge (tgt := 65) dd_X9_turn_33 (by decide) (by omega) (by omega) (fun q1 => ?_) (fun q1 => ?_)
      · skip
        refine sA_aload_n dd_X9_turn_65 rfl (.tail _ (.tail _ (.head _))) ?_
        refine sA_getr (ci := 9) (j := 6) (q := (RX9, TX9, 28)) dd_X9_turn_66 rfl (by decide) fl_X9_19 (by decide) gs_s106 rfl ?_
        refine sA_iload_n dd_X9_turn_69 rfl (.tail _ (.tail _ (.tail _ (.head _)))) ?_
        refine sA_iload_n dd_X9_turn_70 rfl (.tail _ (.head _)) ?_
        refine sA_iast (n := 9) dd_X9_turn_71 (by decide) gs_s110 (by omega) (by decide) ?_
        have I3 : gs_I F1 (gs_up A1 110 r.toNat n) := gs_I_ast hI1 (show (0 : Int) ≤ n ∧ n ≤ 60 by omega)
        have f4 := gs_fr_ast hf1 (a := 110) (z := n) (i := r.toNat) (by first | omega | (dsimp only; omega) | (dsimp only))
        generalize gs_up A1 110 r.toNat n = A2 at I3 f4 ⊢
        refine sA_iconst (z := 0) dd_X9_turn_72 ?_
        refine sA_istore (lv' := [(4, gs_iv 0), (3, gs_iv n), (0, .ref 106), (1, gs_iv r), (2, gs_iv p)]) dd_X9_turn_73 (by decide) rfl ?_
        refine sA_sub (lv2 := [(4, gs_iv 0), (3, gs_iv n), (0, .ref 106), (1, gs_iv r)]) (List.forall_mem_cons.mpr ⟨(.head _), (List.forall_mem_cons.mpr ⟨(.tail _ (.head _)), (List.forall_mem_cons.mpr ⟨(.tail _ (.tail _ (.head _))), (List.forall_mem_cons.mpr ⟨(.tail _ (.tail _ (.tail _ (.head _)))), (fun _ h => absurd h List.not_mem_nil)⟩)⟩)⟩)⟩) ?_
        exact ih.2 n 0 F1 A2 I3 f4 (by omega) (by omega) (by omega) (by omega)
      · skip
        refine sA_aload_n dd_X9_turn_36 rfl (.tail _ (.tail _ (.head _))) ?_
        refine sA_getr (ci := 9) (j := 23) (q := (RX9, TX9, 28)) dd_X9_turn_37 rfl (by decide) fl_X9_47 (by decide) gs_s106 rfl ?_
        refine sA_iload dd_X9_turn_40 (.head _) ?_
        refine sA_aload_n dd_X9_turn_42 rfl (.tail _ (.tail _ (.head _))) ?_
        refine sA_getr (ci := 9) (j := 7) (q := (RX9, TX9, 28)) dd_X9_turn_43 rfl (by decide) fl_X9_22 (by decide) gs_s106 rfl ?_
        refine sA_bipush (z := 60) dd_X9_turn_46 (by decide) ?_
        refine sA_iload_n dd_X9_turn_48 rfl (.tail _ (.tail _ (.tail _ (.tail _ (.head _))))) ?_
        refine sA_imul dd_X9_turn_49 ?_
        refine sA_iload_n dd_X9_turn_50 rfl (.tail _ (.head _)) ?_
        refine sA_iadd dd_X9_turn_51 ?_
        refine sA_iconst (z := 1) dd_X9_turn_52 ?_
        refine sA_isub dd_X9_turn_53 ?_
        refine sA_iload dd_X9_turn_54 (.head _) ?_
        refine sA_isub dd_X9_turn_56 ?_
        refine sA_iald (n := 540) dd_X9_turn_57 (by decide) gs_s111 (by omega) (by decide) ?_
        have b5 : (-2147483648 : Int) ≤ A1 111 ((((60 * p) + n) - 1) - k).toNat ∧ A1 111 ((((60 * p) + n) - 1) - k).toNat ≤ 2147483647 := hI1.2 111 ((((60 * p) + n) - 1) - k).toNat
        refine sA_iast (n := 600) dd_X9_turn_58 (by decide) gs_s118 (by omega) (by decide) ?_
        have I7 : gs_I F1 (gs_up A1 118 k.toNat (A1 111 ((((60 * p) + n) - 1) - k).toNat)) := gs_I_ast hI1 (show (-2147483648 : Int) ≤ A1 111 ((((60 * p) + n) - 1) - k).toNat ∧ A1 111 ((((60 * p) + n) - 1) - k).toNat ≤ 2147483647 by omega)
        have f8 := gs_fr_ast hf1 (a := 118) (z := A1 111 ((((60 * p) + n) - 1) - k).toNat) (i := k.toNat) (by first | omega | (dsimp only; omega) | (dsimp only))
        generalize gs_up A1 118 k.toNat (A1 111 ((((60 * p) + n) - 1) - k).toNat) = A6 at I7 f8 ⊢
        refine sA_iinc (lv' := [(4, gs_iv (k + 1)), (3, gs_iv n), (0, .ref 106), (1, gs_iv r), (2, gs_iv p)]) dd_X9_turn_59 (.head _) (by decide) rfl ?_
        refine sA_goto (tgt := 30) dd_X9_turn_62 (by decide) ?_
        refine sA_sub (lv2 := [(4, gs_iv (k + 1)), (3, gs_iv n), (0, .ref 106), (1, gs_iv r), (2, gs_iv p)]) (List.forall_mem_cons.mpr ⟨(.head _), (List.forall_mem_cons.mpr ⟨(.tail _ (.head _)), (List.forall_mem_cons.mpr ⟨(.tail _ (.tail _ (.head _))), (List.forall_mem_cons.mpr ⟨(.tail _ (.tail _ (.tail _ (.head _)))), (List.forall_mem_cons.mpr ⟨(.tail _ (.tail _ (.tail _ (.tail _ (.head _))))), (fun _ h => absurd h List.not_mem_nil)⟩)⟩)⟩)⟩)⟩) ?_
        exact ih.1 n (k + 1) F1 A6 I7 f8 (by omega) (by omega) (by omega) (by omega) (by omega)
    · skip
      intro n k F1 A1 hI1 hf1 i0 i1 i2 hm
      refine sA_iload dd_X9_turn_75 (.head _) ?_
      refine sA_iload_n dd_X9_turn_77 rfl (.tail _ (.head _)) ?_
      refine sA_icmp_ge (tgt := 132) dd_X9_turn_78 (by decide) (by omega) (by omega) (fun q9 => ?_) (fun q9 => ?_)
      · skip
        refine sA_iload_n dd_X9_turn_132 rfl (.tail _ (.head _)) ?_
        refine sA_iret (z := n) dd_X9_turn_133 rfl ?_
        exact ⟨_, rfl, hI1, hf1, trivial⟩
      · skip
        refine sA_aload_n dd_X9_turn_81 rfl (.tail _ (.tail _ (.head _))) ?_
        refine sA_getr (ci := 9) (j := 7) (q := (RX9, TX9, 28)) dd_X9_turn_82 rfl (by decide) fl_X9_22 (by decide) gs_s106 rfl ?_
        refine sA_bipush (z := 60) dd_X9_turn_85 (by decide) ?_
        refine sA_iload_n dd_X9_turn_87 rfl (.tail _ (.tail _ (.tail _ (.head _)))) ?_
        refine sA_imul dd_X9_turn_88 ?_
        refine sA_iload dd_X9_turn_89 (.head _) ?_
        refine sA_iadd dd_X9_turn_91 ?_
        refine sA_aload_n dd_X9_turn_92 rfl (.tail _ (.tail _ (.head _))) ?_
        refine sA_getr (ci := 9) (j := 23) (q := (RX9, TX9, 28)) dd_X9_turn_93 rfl (by decide) fl_X9_47 (by decide) gs_s106 rfl ?_
        refine sA_iload dd_X9_turn_96 (.head _) ?_
        refine sA_iald (n := 600) dd_X9_turn_98 (by decide) gs_s118 (by omega) (by decide) ?_
        have b10 : (-2147483648 : Int) ≤ A1 118 k.toNat ∧ A1 118 k.toNat ≤ 2147483647 := hI1.2 118 k.toNat
        refine sA_iconst (z := 2) dd_X9_turn_99 ?_
        refine sA_irem dd_X9_turn_100 (by omega) (by omega) (by omega) ?_
        refine sA_wrap ?_
        have b12 := gs_w_rng ((A1 118 k.toNat).tmod 2)
        generalize gs_w ((A1 118 k.toNat).tmod 2) = w11 at b12 ⊢
        refine sA_if_ne (tgt := 116) dd_X9_turn_101 (by decide) (by omega) (fun q13 => ?_) (fun q13 => ?_)
        · skip
          refine sA_aload_n dd_X9_turn_116 rfl (.tail _ (.tail _ (.head _))) ?_
          refine sA_getr (ci := 9) (j := 23) (q := (RX9, TX9, 28)) dd_X9_turn_117 rfl (by decide) fl_X9_47 (by decide) gs_s106 rfl ?_
          refine sA_iload dd_X9_turn_120 (.head _) ?_
          refine sA_iald (n := 600) dd_X9_turn_122 (by decide) gs_s118 (by omega) (by decide) ?_
          refine sA_iconst (z := 1) dd_X9_turn_123 ?_
          refine sA_isub dd_X9_turn_124 ?_
          refine sA_wrap ?_
          have b15 := gs_w_rng ((A1 118 k.toNat) - 1)
          generalize gs_w ((A1 118 k.toNat) - 1) = w14 at b15 ⊢
          refine sA_iast (n := 540) dd_X9_turn_125 (by decide) gs_s111 (by omega) (by decide) ?_
          have I17 : gs_I F1 (gs_up A1 111 (((60 * r) + k).toNat) w14) := gs_I_ast hI1 (show (-2147483648 : Int) ≤ w14 ∧ w14 ≤ 2147483647 by omega)
          have f18 := gs_fr_ast hf1 (a := 111) (z := w14) (i := ((60 * r) + k).toNat) (by first | omega | (dsimp only; omega) | (dsimp only))
          generalize gs_up A1 111 (((60 * r) + k).toNat) w14 = A16 at I17 f18 ⊢
          refine sA_iinc (lv' := [(4, gs_iv (k + 1)), (3, gs_iv n), (0, .ref 106), (1, gs_iv r)]) dd_X9_turn_126 (.head _) (by decide) rfl ?_
          refine sA_goto (tgt := 75) dd_X9_turn_129 (by decide) ?_
          refine sA_sub (lv2 := [(4, gs_iv (k + 1)), (3, gs_iv n), (0, .ref 106), (1, gs_iv r)]) (List.forall_mem_cons.mpr ⟨(.head _), (List.forall_mem_cons.mpr ⟨(.tail _ (.head _)), (List.forall_mem_cons.mpr ⟨(.tail _ (.tail _ (.head _))), (List.forall_mem_cons.mpr ⟨(.tail _ (.tail _ (.tail _ (.head _)))), (fun _ h => absurd h List.not_mem_nil)⟩)⟩)⟩)⟩) ?_
          exact ih.2 n (k + 1) F1 A16 I17 f18 (by omega) (by omega) (by omega) (by omega)
        · skip
          refine sA_aload_n dd_X9_turn_104 rfl (.tail _ (.tail _ (.head _))) ?_
          refine sA_getr (ci := 9) (j := 23) (q := (RX9, TX9, 28)) dd_X9_turn_105 rfl (by decide) fl_X9_47 (by decide) gs_s106 rfl ?_
          refine sA_iload dd_X9_turn_108 (.head _) ?_
          refine sA_iald (n := 600) dd_X9_turn_110 (by decide) gs_s118 (by omega) (by decide) ?_
          refine sA_iconst (z := 1) dd_X9_turn_111 ?_
          refine sA_iadd dd_X9_turn_112 ?_
          refine sA_wrap ?_
          have b20 := gs_w_rng ((A1 118 k.toNat) + 1)
          generalize gs_w ((A1 118 k.toNat) + 1) = w19 at b20 ⊢
          refine sA_goto (tgt := 125) dd_X9_turn_113 (by decide) ?_
          refine sA_iast (n := 540) dd_X9_turn_125 (by decide) gs_s111 (by omega) (by decide) ?_
          have I22 : gs_I F1 (gs_up A1 111 (((60 * r) + k).toNat) w19) := gs_I_ast hI1 (show (-2147483648 : Int) ≤ w19 ∧ w19 ≤ 2147483647 by omega)
          have f23 := gs_fr_ast hf1 (a := 111) (z := w19) (i := ((60 * r) + k).toNat) (by first | omega | (dsimp only; omega) | (dsimp only))
          generalize gs_up A1 111 (((60 * r) + k).toNat) w19 = A21 at I22 f23 ⊢
          refine sA_iinc (lv' := [(4, gs_iv (k + 1)), (3, gs_iv n), (0, .ref 106), (1, gs_iv r)]) dd_X9_turn_126 (.head _) (by decide) rfl ?_
          refine sA_goto (tgt := 75) dd_X9_turn_129 (by decide) ?_
          refine sA_sub (lv2 := [(4, gs_iv (k + 1)), (3, gs_iv n), (0, .ref 106), (1, gs_iv r)]) (List.forall_mem_cons.mpr ⟨(.head _), (List.forall_mem_cons.mpr ⟨(.tail _ (.head _)), (List.forall_mem_cons.mpr ⟨(.tail _ (.tail _ (.head _))), (List.forall_mem_cons.mpr ⟨(.tail _ (.tail _ (.tail _ (.head _)))), (fun _ h => absurd h List.not_mem_nil)⟩)⟩)⟩)⟩) ?_
          exact ih.2 n (k + 1) F1 A21 I22 f23 (by omega) (by omega) (by omega) (by omega)
theorem c_X9_turn {r p : Int} {F A : gs_F} (hI : gs_I F A) (hr : -2147483648 ≤ r ∧ r ≤ 2147483647) (hp : -2147483648 ≤ p ∧ p ≤ 2147483647) : sC m_X9_turn 3 [.ref 106, gs_iv r, gs_iv p] F A (fun rv F' A' => ∃ z : Int, rv = some (gs_iv z) ∧ gs_I F' A' ∧ gs_fr (fun _ _ => False) (fun c => c = 110 ∨ c = 111 ∨ c = 118) F A F' A' ∧ (True)) := by
  refine sC_of ok_X9_turn.1 (Nat.le_of_ble_eq_true rfl) ?_
  show sA _ _ _ 0 [(0, .ref 106), (1, gs_iv r), (2, gs_iv p)] [] F A
  have hf : gs_fr (fun _ _ => False) (fun c => c = 110 ∨ c = 111 ∨ c = 118) F A F A := gs_fr_refl _ _ _ _
  refine sA_aload_n dd_X9_turn_0 rfl (.head _) ?_
  refine sA_iload_n dd_X9_turn_1 rfl (.tail _ (.head _)) ?_
  refine sA_callV (y2 := m_X9_noPlan) (n2 := 1) (d2 := 2) (a := 106) (ci := 9) (q := (RX9, TX9, 28)) (as := [gs_iv r]) (rest := []) dd_X9_turn_2 ok_X9_noPlan ml_X9_218 rfl rfl (by decide) gs_s106 rfl rfl (Nat.le_of_ble_eq_true rfl) (by decide) (c_X9_noPlan hI (by omega)) (fun r24 F25 A26 h27 => ?_)
  obtain ⟨z30, e29, e31, e32, x28⟩ := h27
  subst e29 e31 e32
  show sA _ _ _ 5 _ [gs_iv z30] _ _
  refine sA_if_ne (tgt := 16) dd_X9_turn_5 (by decide) (by omega) (fun q33 => ?_) (fun q33 => ?_)
  · skip
    refine sA_sipush (z := (-1001)) dd_X9_turn_16 (by decide) ?_
    refine sA_iret (z := -1001) dd_X9_turn_19 rfl ?_
    exact ⟨_, rfl, hI, hf, trivial⟩
  · skip
    refine sA_aload_n dd_X9_turn_8 rfl (.head _) ?_
    refine sA_iload_n dd_X9_turn_9 rfl (.tail _ (.tail _ (.head _))) ?_
    refine sA_callV (y2 := m_X9_noPlan) (n2 := 1) (d2 := 2) (a := 106) (ci := 9) (q := (RX9, TX9, 28)) (as := [gs_iv p]) (rest := []) dd_X9_turn_10 ok_X9_noPlan ml_X9_218 rfl rfl (by decide) gs_s106 rfl rfl (Nat.le_of_ble_eq_true rfl) (by decide) (c_X9_noPlan hI (by omega)) (fun r34 F35 A36 h37 => ?_)
    obtain ⟨z40, e39, e41, e42, x38⟩ := h37
    subst e39 e41 e42
    show sA _ _ _ 13 _ [gs_iv z40] _ _
    refine sA_if_eq (tgt := 20) dd_X9_turn_13 (by decide) (by omega) (fun q43 => ?_) (fun q43 => ?_)
    · skip
      refine sA_aload_n dd_X9_turn_20 rfl (.head _) ?_
      refine sA_getr (ci := 9) (j := 6) (q := (RX9, TX9, 28)) dd_X9_turn_21 rfl (by decide) fl_X9_19 (by decide) gs_s106 rfl ?_
      refine sA_iload_n dd_X9_turn_24 rfl (.tail _ (.tail _ (.head _))) ?_
      refine sA_iald (n := 9) dd_X9_turn_25 (by decide) gs_s110 (by omega) (by decide) ?_
      have b44 : (0 : Int) ≤ A 110 p.toNat ∧ A 110 p.toNat ≤ 60 := hI.2 110 p.toNat
      refine sA_istore_n (lv' := [(3, gs_iv (A 110 p.toNat)), (0, .ref 106), (1, gs_iv r), (2, gs_iv p)]) dd_X9_turn_26 rfl (by decide) rfl ?_
      refine sA_iconst (z := 0) dd_X9_turn_27 ?_
      refine sA_istore (lv' := [(4, gs_iv 0), (3, gs_iv (A 110 p.toNat)), (0, .ref 106), (1, gs_iv r), (2, gs_iv p)]) dd_X9_turn_28 (by decide) rfl ?_
      refine sA_sub (lv2 := [(4, gs_iv 0), (3, gs_iv (A 110 p.toNat)), (0, .ref 106), (1, gs_iv r), (2, gs_iv p)]) (List.forall_mem_cons.mpr ⟨(.head _), (List.forall_mem_cons.mpr ⟨(.tail _ (.head _)), (List.forall_mem_cons.mpr ⟨(.tail _ (.tail _ (.head _))), (List.forall_mem_cons.mpr ⟨(.tail _ (.tail _ (.tail _ (.head _)))), (List.forall_mem_cons.mpr ⟨(.tail _ (.tail _ (.tail _ (.tail _ (.head _))))), (fun _ h => absurd h List.not_mem_nil)⟩)⟩)⟩)⟩)⟩) ?_
      exact (k_X9_turn hI hr hp ((A 110 p.toNat) - 0 + 100 : Int).toNat.succ).1 (A 110 p.toNat) 0 F A hI hf (by omega) (by omega) (by omega) (by omega) (by omega)
    · skip
      refine sA_sipush (z := (-1001)) dd_X9_turn_16 (by decide) ?_
      refine sA_iret (z := -1001) dd_X9_turn_19 rfl ?_
      exact ⟨_, rfl, hI, hf, trivial⟩
theorem dd_X9_image_0 : decode cX9_image 0 = .ok (.aload_n 0, 1) := by decide +kernel
theorem dd_X9_image_1 : decode cX9_image 1 = .ok (.iload_n 1, 1) := by decide +kernel
theorem dd_X9_image_2 : decode cX9_image 2 = .ok (.invokevirtual 218, 3) := by decide +kernel
theorem dd_X9_image_5 : decode cX9_image 5 = .ok (.ifCond .eq 7, 3) := by decide +kernel
theorem dd_X9_image_8 : decode cX9_image 8 = .ok (.sipush (-1001), 3) := by decide +kernel
theorem dd_X9_image_11 : decode cX9_image 11 = .ok (.ireturn, 1) := by decide +kernel
theorem dd_X9_image_12 : decode cX9_image 12 = .ok (.iload_n 2, 1) := by decide +kernel
theorem dd_X9_image_13 : decode cX9_image 13 = .ok (.i2l, 1) := by decide +kernel
theorem dd_X9_image_14 : decode cX9_image 14 = .ok (.lconst 1, 1) := by decide +kernel
theorem dd_X9_image_15 : decode cX9_image 15 = .ok (.iconst 2, 1) := by decide +kernel
theorem dd_X9_image_16 : decode cX9_image 16 = .ok (.aload_n 0, 1) := by decide +kernel
theorem dd_X9_image_17 : decode cX9_image 17 = .ok (.getfield 64, 3) := by decide +kernel
theorem dd_X9_image_20 : decode cX9_image 20 = .ok (.imul, 1) := by decide +kernel
theorem dd_X9_image_21 : decode cX9_image 21 = .ok (.i2l, 1) := by decide +kernel
theorem dd_X9_image_22 : decode cX9_image 22 = .ok (.invokestatic 75, 3) := by decide +kernel
theorem dd_X9_image_25 : decode cX9_image 25 = .ok (.ifCond .ne 7, 3) := by decide +kernel
theorem dd_X9_image_28 : decode cX9_image 28 = .ok (.sipush (-1002), 3) := by decide +kernel
theorem dd_X9_image_31 : decode cX9_image 31 = .ok (.ireturn, 1) := by decide +kernel
theorem dd_X9_image_32 : decode cX9_image 32 = .ok (.aload_n 0, 1) := by decide +kernel
theorem dd_X9_image_33 : decode cX9_image 33 = .ok (.iload_n 2, 1) := by decide +kernel
theorem dd_X9_image_34 : decode cX9_image 34 = .ok (.invokevirtual 224, 3) := by decide +kernel
theorem dd_X9_image_37 : decode cX9_image 37 = .ok (.aload_n 0, 1) := by decide +kernel
theorem dd_X9_image_38 : decode cX9_image 38 = .ok (.iload_n 1, 1) := by decide +kernel
theorem dd_X9_image_39 : decode cX9_image 39 = .ok (.invokevirtual 227, 3) := by decide +kernel
theorem dd_X9_image_42 : decode cX9_image 42 = .ok (.ifCond .ne 7, 3) := by decide +kernel
theorem dd_X9_image_45 : decode cX9_image 45 = .ok (.sipush (-1005), 3) := by decide +kernel
theorem dd_X9_image_48 : decode cX9_image 48 = .ok (.ireturn, 1) := by decide +kernel
theorem dd_X9_image_49 : decode cX9_image 49 = .ok (.iload_n 3, 1) := by decide +kernel
theorem dd_X9_image_50 : decode cX9_image 50 = .ok (.iconst (-1), 1) := by decide +kernel
theorem dd_X9_image_51 : decode cX9_image 51 = .ok (.if_icmp .ne 10, 3) := by decide +kernel
theorem dd_X9_image_54 : decode cX9_image 54 = .ok (.aload_n 0, 1) := by decide +kernel
theorem dd_X9_image_55 : decode cX9_image 55 = .ok (.getfield 167, 3) := by decide +kernel
theorem dd_X9_image_58 : decode cX9_image 58 = .ok (.goto 29, 3) := by decide +kernel
theorem dd_X9_image_61 : decode cX9_image 61 = .ok (.iload_n 3, 1) := by decide +kernel
theorem dd_X9_image_62 : decode cX9_image 62 = .ok (.i2l, 1) := by decide +kernel
theorem dd_X9_image_63 : decode cX9_image 63 = .ok (.lconst 0, 1) := by decide +kernel
theorem dd_X9_image_64 : decode cX9_image 64 = .ok (.aload_n 0, 1) := by decide +kernel
theorem dd_X9_image_65 : decode cX9_image 65 = .ok (.getfield 167, 3) := by decide +kernel
theorem dd_X9_image_68 : decode cX9_image 68 = .ok (.iconst 1, 1) := by decide +kernel
theorem dd_X9_image_69 : decode cX9_image 69 = .ok (.isub, 1) := by decide +kernel
theorem dd_X9_image_70 : decode cX9_image 70 = .ok (.i2l, 1) := by decide +kernel
theorem dd_X9_image_71 : decode cX9_image 71 = .ok (.invokestatic 75, 3) := by decide +kernel
theorem dd_X9_image_74 : decode cX9_image 74 = .ok (.ifCond .eq 12, 3) := by decide +kernel
theorem dd_X9_image_77 : decode cX9_image 77 = .ok (.aload_n 0, 1) := by decide +kernel
theorem dd_X9_image_78 : decode cX9_image 78 = .ok (.getfield 31, 3) := by decide +kernel
theorem dd_X9_image_81 : decode cX9_image 81 = .ok (.iload_n 3, 1) := by decide +kernel
theorem dd_X9_image_82 : decode cX9_image 82 = .ok (.iaload, 1) := by decide +kernel
theorem dd_X9_image_83 : decode cX9_image 83 = .ok (.goto 4, 3) := by decide +kernel
theorem dd_X9_image_86 : decode cX9_image 86 = .ok (.iconst 0, 1) := by decide +kernel
theorem dd_X9_image_87 : decode cX9_image 87 = .ok (.ireturn, 1) := by decide +kernel
theorem ml_X9_224 : Cond.methodLink RX9 224 m_X9_takeLetter.1 ∈ am_tbl := ri_lw_in (pl := 1048) (by decide +kernel)
theorem ml_X9_227 : Cond.methodLink RX9 227 m_X9_imageRow.1 ∈ am_tbl := ri_lw_in (pl := 1052) (by decide +kernel)
theorem ok_X9_image : am_okM m_X9_image 3 ∧ Cond.instanceMethod m_X9_image.1 ∈ am_tbl ∧ Cond.selects m_X9_image.1.cls m_X9_image.1 m_X9_image.1 ∈ am_tbl := ri_mk1 1047 93 1045 1046 (by decide +kernel)
theorem c_X9_image {p x i : Int} {F A : gs_F} (hI : gs_I F A) (hp : -2147483648 ≤ p ∧ p ≤ 2147483647) (hx : -2147483648 ≤ x ∧ x ≤ 2147483647) (hi : -2147483648 ≤ i ∧ i ≤ 2147483647) : sC m_X9_image 6 [.ref 106, gs_iv p, gs_iv x, gs_iv i] F A (fun rv F' A' => ∃ z : Int, rv = some (gs_iv z) ∧ gs_I F' A' ∧ gs_fr (fun c j => c = 106 ∧ (j = 13 ∨ j = 15)) (fun c => c = 114 ∨ c = 115) F A F' A' ∧ (True)) := by
  refine sC_of ok_X9_image.1 (Nat.le_of_ble_eq_true rfl) ?_
  show sA _ _ _ 0 [(0, .ref 106), (1, gs_iv p), (2, gs_iv x), (3, gs_iv i)] [] F A
  have hf : gs_fr (fun c j => c = 106 ∧ (j = 13 ∨ j = 15)) (fun c => c = 114 ∨ c = 115) F A F A := gs_fr_refl _ _ _ _
  refine sA_aload_n dd_X9_image_0 rfl (.head _) ?_
  refine sA_iload_n dd_X9_image_1 rfl (.tail _ (.head _)) ?_
  refine sA_callV (y2 := m_X9_noPlan) (n2 := 1) (d2 := 2) (a := 106) (ci := 9) (q := (RX9, TX9, 28)) (as := [gs_iv p]) (rest := []) dd_X9_image_2 ok_X9_noPlan ml_X9_218 rfl rfl (by decide) gs_s106 rfl rfl (Nat.le_of_ble_eq_true rfl) (by decide) (c_X9_noPlan hI (by omega)) (fun r1 F2 A3 h4 => ?_)
  obtain ⟨z7, e6, e8, e9, x5⟩ := h4
  subst e6 e8 e9
  show sA _ _ _ 5 _ [gs_iv z7] _ _
  refine sA_if_eq (tgt := 12) dd_X9_image_5 (by decide) (by omega) (fun q10 => ?_) (fun q10 => ?_)
  · skip
    refine sA_iload_n dd_X9_image_12 rfl (.tail _ (.tail _ (.head _))) ?_
    refine sA_i2l dd_X9_image_13 (by omega) ?_
    refine sA_lconst (z := 1) dd_X9_image_14 (by decide) ?_
    refine sA_iconst (z := 2) dd_X9_image_15 ?_
    refine sA_aload_n dd_X9_image_16 rfl (.head _) ?_
    refine sA_geti (ci := 9) (j := 0) (q := (RX9, TX9, 28)) dd_X9_image_17 rfl (by decide) fl_X9_64 (by decide) gs_s106 rfl ?_
    have b11 : (1 : Int) ≤ F 106 0 ∧ F 106 0 ≤ 3 := hI.1 106 0
    refine sA_imul dd_X9_image_20 ?_
    refine sA_i2l dd_X9_image_21 (by omega) ?_
    refine sA_callS (y2 := m_X9_in) (n2 := 3) (d2 := 1) (as := [gs_lv x, gs_lv 1, gs_lv (2 * (F 106 0))]) (rest := []) dd_X9_image_22 ok_X9_in ml_X9_75 rfl rfl (Nat.le_of_ble_eq_true rfl) (by decide) (c_X9_in (by omega) (by omega) (by omega)) (fun r12 F13 A14 h15 => ?_)
    obtain ⟨z18, e17, e19, e20, x16⟩ := h15
    subst e17 e19 e20
    show sA _ _ _ 25 _ [gs_iv z18] _ _
    refine sA_if_ne (tgt := 32) dd_X9_image_25 (by decide) (by omega) (fun q21 => ?_) (fun q21 => ?_)
    · skip
      refine sA_aload_n dd_X9_image_32 rfl (.head _) ?_
      refine sA_iload_n dd_X9_image_33 rfl (.tail _ (.tail _ (.head _))) ?_
      refine sA_callV (y2 := m_X9_takeLetter) (n2 := 1) (d2 := 1) (a := 106) (ci := 9) (q := (RX9, TX9, 28)) (as := [gs_iv x]) (rest := []) dd_X9_image_34 ok_X9_takeLetter ml_X9_224 rfl rfl (by decide) gs_s106 rfl rfl (Nat.le_of_ble_eq_true rfl) (by decide) (c_X9_takeLetter hI (by omega)) (fun r22 F23 A24 h25 => ?_)
      obtain ⟨e27, I28, f29, x26⟩ := h25
      subst e27
      have f30 := gs_fr_tr hf f29 (fun b j h => by first | exact False.elim h | omega | (dsimp only at h ⊢; omega)) (fun b h => by first | exact False.elim h | omega | (dsimp only at h ⊢; omega))
      show sA _ _ _ 37 _ [] _ _
      refine sA_aload_n dd_X9_image_37 rfl (.head _) ?_
      refine sA_iload_n dd_X9_image_38 rfl (.tail _ (.head _)) ?_
      refine sA_callV (y2 := m_X9_imageRow) (n2 := 1) (d2 := 5) (a := 106) (ci := 9) (q := (RX9, TX9, 28)) (as := [gs_iv p]) (rest := []) dd_X9_image_39 ok_X9_imageRow ml_X9_227 rfl rfl (by decide) gs_s106 rfl rfl (Nat.le_of_ble_eq_true rfl) (by decide) (c_X9_imageRow I28 (by omega)) (fun r31 F32 A33 h34 => ?_)
      obtain ⟨z37, e36, I38, f39, x35⟩ := h34
      subst e36
      have f40 := gs_fr_tr f30 f39 (fun b j h => by first | exact False.elim h | omega | (dsimp only at h ⊢; omega)) (fun b h => by first | exact False.elim h | omega | (dsimp only at h ⊢; omega))
      show sA _ _ _ 42 _ [gs_iv z37] _ _
      refine sA_if_ne (tgt := 49) dd_X9_image_42 (by decide) (by omega) (fun q41 => ?_) (fun q41 => ?_)
      · skip
        refine sA_iload_n dd_X9_image_49 rfl (.tail _ (.tail _ (.tail _ (.head _)))) ?_
        refine sA_iconst (z := (-1)) dd_X9_image_50 ?_
        refine sA_icmp_ne (tgt := 61) dd_X9_image_51 (by decide) (by omega) (by omega) (fun q42 => ?_) (fun q42 => ?_)
        · skip
          refine sA_iload_n dd_X9_image_61 rfl (.tail _ (.tail _ (.tail _ (.head _)))) ?_
          refine sA_i2l dd_X9_image_62 (by omega) ?_
          refine sA_lconst (z := 0) dd_X9_image_63 (by decide) ?_
          refine sA_aload_n dd_X9_image_64 rfl (.head _) ?_
          refine sA_geti (ci := 9) (j := 13) (q := (RX9, TX9, 28)) dd_X9_image_65 rfl (by decide) fl_X9_167 (by decide) gs_s106 rfl ?_
          have b43 : (0 : Int) ≤ F32 106 13 ∧ F32 106 13 ≤ 400 := I38.1 106 13
          refine sA_iconst (z := 1) dd_X9_image_68 ?_
          refine sA_isub dd_X9_image_69 ?_
          refine sA_i2l dd_X9_image_70 (by omega) ?_
          refine sA_callS (y2 := m_X9_in) (n2 := 3) (d2 := 1) (as := [gs_lv i, gs_lv 0, gs_lv ((F32 106 13) - 1)]) (rest := []) dd_X9_image_71 ok_X9_in ml_X9_75 rfl rfl (Nat.le_of_ble_eq_true rfl) (by decide) (c_X9_in (by omega) (by omega) (by omega)) (fun r44 F45 A46 h47 => ?_)
          obtain ⟨z50, e49, e51, e52, x48⟩ := h47
          subst e49 e51 e52
          show sA _ _ _ 74 _ [gs_iv z50] _ _
          refine sA_if_eq (tgt := 86) dd_X9_image_74 (by decide) (by omega) (fun q53 => ?_) (fun q53 => ?_)
          · skip
            refine sA_iconst (z := 0) dd_X9_image_86 ?_
            refine sA_iret (z := 0) dd_X9_image_87 rfl ?_
            exact ⟨_, rfl, I38, f40, trivial⟩
          · skip
            refine sA_aload_n dd_X9_image_77 rfl (.head _) ?_
            refine sA_getr (ci := 9) (j := 12) (q := (RX9, TX9, 28)) dd_X9_image_78 rfl (by decide) fl_X9_31 (by decide) gs_s106 rfl ?_
            refine sA_iload_n dd_X9_image_81 rfl (.tail _ (.tail _ (.tail _ (.head _)))) ?_
            refine sA_iald (n := 401) dd_X9_image_82 (by decide) gs_s114 (by omega) (by decide) ?_
            have b54 : (-9 : Int) ≤ A33 114 i.toNat ∧ A33 114 i.toNat ≤ 9 := I38.2 114 i.toNat
            refine sA_goto (tgt := 87) dd_X9_image_83 (by decide) ?_
            refine sA_iret (z := A33 114 i.toNat) dd_X9_image_87 rfl ?_
            exact ⟨_, rfl, I38, f40, trivial⟩
        · skip
          refine sA_aload_n dd_X9_image_54 rfl (.head _) ?_
          refine sA_geti (ci := 9) (j := 13) (q := (RX9, TX9, 28)) dd_X9_image_55 rfl (by decide) fl_X9_167 (by decide) gs_s106 rfl ?_
          have b55 : (0 : Int) ≤ F32 106 13 ∧ F32 106 13 ≤ 400 := I38.1 106 13
          refine sA_goto (tgt := 87) dd_X9_image_58 (by decide) ?_
          refine sA_iret (z := F32 106 13) dd_X9_image_87 rfl ?_
          exact ⟨_, rfl, I38, f40, trivial⟩
      · skip
        refine sA_sipush (z := (-1005)) dd_X9_image_45 (by decide) ?_
        refine sA_iret (z := -1005) dd_X9_image_48 rfl ?_
        exact ⟨_, rfl, I38, f40, trivial⟩
    · skip
      refine sA_sipush (z := (-1002)) dd_X9_image_28 (by decide) ?_
      refine sA_iret (z := -1002) dd_X9_image_31 rfl ?_
      exact ⟨_, rfl, hI, hf, trivial⟩
  · skip
    refine sA_sipush (z := (-1001)) dd_X9_image_8 (by decide) ?_
    refine sA_iret (z := -1001) dd_X9_image_11 rfl ?_
    exact ⟨_, rfl, hI, hf, trivial⟩
theorem dd_X9_carried_0 : decode cX9_carried 0 = .ok (.aload_n 0, 1) := by decide +kernel
theorem dd_X9_carried_1 : decode cX9_carried 1 = .ok (.iload_n 1, 1) := by decide +kernel
theorem dd_X9_carried_2 : decode cX9_carried 2 = .ok (.invokevirtual 218, 3) := by decide +kernel
theorem dd_X9_carried_5 : decode cX9_carried 5 = .ok (.ifCond .ne 24, 3) := by decide +kernel
theorem dd_X9_carried_8 : decode cX9_carried 8 = .ok (.aload_n 0, 1) := by decide +kernel
theorem dd_X9_carried_9 : decode cX9_carried 9 = .ok (.iload_n 2, 1) := by decide +kernel
theorem dd_X9_carried_10 : decode cX9_carried 10 = .ok (.invokevirtual 100, 3) := by decide +kernel
theorem dd_X9_carried_13 : decode cX9_carried 13 = .ok (.ifCond .ne 16, 3) := by decide +kernel
theorem dd_X9_carried_16 : decode cX9_carried 16 = .ok (.iload_n 3, 1) := by decide +kernel
theorem dd_X9_carried_17 : decode cX9_carried 17 = .ok (.iconst (-1), 1) := by decide +kernel
theorem dd_X9_carried_18 : decode cX9_carried 18 = .ok (.if_icmp .eq 15, 3) := by decide +kernel
theorem dd_X9_carried_21 : decode cX9_carried 21 = .ok (.aload_n 0, 1) := by decide +kernel
theorem dd_X9_carried_22 : decode cX9_carried 22 = .ok (.iload_n 3, 1) := by decide +kernel
theorem dd_X9_carried_23 : decode cX9_carried 23 = .ok (.invokevirtual 100, 3) := by decide +kernel
theorem dd_X9_carried_26 : decode cX9_carried 26 = .ok (.ifCond .eq 7, 3) := by decide +kernel
theorem dd_X9_carried_29 : decode cX9_carried 29 = .ok (.sipush (-1001), 3) := by decide +kernel
theorem dd_X9_carried_32 : decode cX9_carried 32 = .ok (.ireturn, 1) := by decide +kernel
theorem dd_X9_carried_33 : decode cX9_carried 33 = .ok (.aload_n 0, 1) := by decide +kernel
theorem dd_X9_carried_34 : decode cX9_carried 34 = .ok (.iload_n 2, 1) := by decide +kernel
theorem dd_X9_carried_35 : decode cX9_carried 35 = .ok (.invokevirtual 230, 3) := by decide +kernel
theorem dd_X9_carried_38 : decode cX9_carried 38 = .ok (.aload_n 0, 1) := by decide +kernel
theorem dd_X9_carried_39 : decode cX9_carried 39 = .ok (.iload_n 1, 1) := by decide +kernel
theorem dd_X9_carried_40 : decode cX9_carried 40 = .ok (.invokevirtual 227, 3) := by decide +kernel
theorem dd_X9_carried_43 : decode cX9_carried 43 = .ok (.ifCond .ne 7, 3) := by decide +kernel
theorem dd_X9_carried_46 : decode cX9_carried 46 = .ok (.sipush (-1005), 3) := by decide +kernel
theorem dd_X9_carried_49 : decode cX9_carried 49 = .ok (.ireturn, 1) := by decide +kernel
theorem dd_X9_carried_50 : decode cX9_carried 50 = .ok (.aload_n 0, 1) := by decide +kernel
theorem dd_X9_carried_51 : decode cX9_carried 51 = .ok (.invokevirtual 233, 3) := by decide +kernel
theorem dd_X9_carried_54 : decode cX9_carried 54 = .ok (.iload_n 3, 1) := by decide +kernel
theorem dd_X9_carried_55 : decode cX9_carried 55 = .ok (.iconst (-1), 1) := by decide +kernel
theorem dd_X9_carried_56 : decode cX9_carried 56 = .ok (.if_icmp .ne 8, 3) := by decide +kernel
theorem dd_X9_carried_59 : decode cX9_carried 59 = .ok (.aload_n 0, 1) := by decide +kernel
theorem dd_X9_carried_60 : decode cX9_carried 60 = .ok (.getfield 83, 3) := by decide +kernel
theorem dd_X9_carried_63 : decode cX9_carried 63 = .ok (.ireturn, 1) := by decide +kernel
theorem dd_X9_carried_64 : decode cX9_carried 64 = .ok (.aload_n 0, 1) := by decide +kernel
theorem dd_X9_carried_65 : decode cX9_carried 65 = .ok (.iload_n 3, 1) := by decide +kernel
theorem dd_X9_carried_66 : decode cX9_carried 66 = .ok (.invokevirtual 106, 3) := by decide +kernel
theorem dd_X9_carried_69 : decode cX9_carried 69 = .ok (.aload_n 0, 1) := by decide +kernel
theorem dd_X9_carried_70 : decode cX9_carried 70 = .ok (.invokevirtual 109, 3) := by decide +kernel
theorem dd_X9_carried_73 : decode cX9_carried 73 = .ok (.invokestatic 112, 3) := by decide +kernel
theorem dd_X9_carried_76 : decode cX9_carried 76 = .ok (.ireturn, 1) := by decide +kernel
theorem ml_X9_230 : Cond.methodLink RX9 230 m_X9_takeRing.1 ∈ am_tbl := ri_lw_in (pl := 1076) (by decide +kernel)
theorem ml_X9_233 : Cond.methodLink RX9 233 m_X9_closeToU.1 ∈ am_tbl := ri_lw_in (pl := 1080) (by decide +kernel)
theorem ok_X9_carried : am_okM m_X9_carried 3 ∧ Cond.instanceMethod m_X9_carried.1 ∈ am_tbl ∧ Cond.selects m_X9_carried.1.cls m_X9_carried.1 m_X9_carried.1 ∈ am_tbl := ri_mk1 1075 93 1073 1074 (by decide +kernel)
theorem c_X9_carried {p r w : Int} {F A : gs_F} (hI : gs_I F A) (hp : -2147483648 ≤ p ∧ p ≤ 2147483647) (hr : -2147483648 ≤ r ∧ r ≤ 2147483647) (hw : -2147483648 ≤ w ∧ w ≤ 2147483647) (hX : ∀ r : Nat, (r : Int) < F 106 3 → 1 ≤ A 108 r) : sC m_X9_carried 7 [.ref 106, gs_iv p, gs_iv r, gs_iv w] F A (fun rv F' A' => ∃ z : Int, rv = some (gs_iv z) ∧ gs_I F' A' ∧ gs_fr (fun c j => c = 106 ∧ (j = 9 ∨ j = 11 ∨ j = 13 ∨ j = 15)) (fun c => c = 112 ∨ c = 113 ∨ c = 114 ∨ c = 115) F A F' A' ∧ (True)) := by
  refine sC_of ok_X9_carried.1 (Nat.le_of_ble_eq_true rfl) ?_
  show sA _ _ _ 0 [(0, .ref 106), (1, gs_iv p), (2, gs_iv r), (3, gs_iv w)] [] F A
  have hf : gs_fr (fun c j => c = 106 ∧ (j = 9 ∨ j = 11 ∨ j = 13 ∨ j = 15)) (fun c => c = 112 ∨ c = 113 ∨ c = 114 ∨ c = 115) F A F A := gs_fr_refl _ _ _ _
  refine sA_aload_n dd_X9_carried_0 rfl (.head _) ?_
  refine sA_iload_n dd_X9_carried_1 rfl (.tail _ (.head _)) ?_
  refine sA_callV (y2 := m_X9_noPlan) (n2 := 1) (d2 := 2) (a := 106) (ci := 9) (q := (RX9, TX9, 28)) (as := [gs_iv p]) (rest := []) dd_X9_carried_2 ok_X9_noPlan ml_X9_218 rfl rfl (by decide) gs_s106 rfl rfl (Nat.le_of_ble_eq_true rfl) (by decide) (c_X9_noPlan hI (by omega)) (fun r1 F2 A3 h4 => ?_)
  obtain ⟨z7, e6, e8, e9, x5⟩ := h4
  subst e6 e8 e9
  show sA _ _ _ 5 _ [gs_iv z7] _ _
  refine sA_if_ne (tgt := 29) dd_X9_carried_5 (by decide) (by omega) (fun q10 => ?_) (fun q10 => ?_)
  · skip
    refine sA_sipush (z := (-1001)) dd_X9_carried_29 (by decide) ?_
    refine sA_iret (z := -1001) dd_X9_carried_32 rfl ?_
    exact ⟨_, rfl, hI, hf, trivial⟩
  · skip
    refine sA_aload_n dd_X9_carried_8 rfl (.head _) ?_
    refine sA_iload_n dd_X9_carried_9 rfl (.tail _ (.tail _ (.head _))) ?_
    refine sA_callV (y2 := m_X9_noRing) (n2 := 1) (d2 := 2) (a := 106) (ci := 9) (q := (RX9, TX9, 28)) (as := [gs_iv r]) (rest := []) dd_X9_carried_10 ok_X9_noRing ml_X9_100 rfl rfl (by decide) gs_s106 rfl rfl (Nat.le_of_ble_eq_true rfl) (by decide) (c_X9_noRing hI (by omega)) (fun r11 F12 A13 h14 => ?_)
    obtain ⟨z17, e16, e18, e19, x15⟩ := h14
    subst e16 e18 e19
    show sA _ _ _ 13 _ [gs_iv z17] _ _
    refine sA_if_ne (tgt := 29) dd_X9_carried_13 (by decide) (by omega) (fun q20 => ?_) (fun q20 => ?_)
    · skip
      refine sA_sipush (z := (-1001)) dd_X9_carried_29 (by decide) ?_
      refine sA_iret (z := -1001) dd_X9_carried_32 rfl ?_
      exact ⟨_, rfl, hI, hf, trivial⟩
    · skip
      refine sA_iload_n dd_X9_carried_16 rfl (.tail _ (.tail _ (.tail _ (.head _)))) ?_
      refine sA_iconst (z := (-1)) dd_X9_carried_17 ?_
      refine sA_icmp_eq (tgt := 33) dd_X9_carried_18 (by decide) (by omega) (by omega) (fun q21 => ?_) (fun q21 => ?_)
      · skip
        refine sA_aload_n dd_X9_carried_33 rfl (.head _) ?_
        refine sA_iload_n dd_X9_carried_34 rfl (.tail _ (.tail _ (.head _))) ?_
        refine sA_callV (y2 := m_X9_takeRing) (n2 := 1) (d2 := 1) (a := 106) (ci := 9) (q := (RX9, TX9, 28)) (as := [gs_iv r]) (rest := []) dd_X9_carried_35 ok_X9_takeRing ml_X9_230 rfl rfl (by decide) gs_s106 rfl rfl (Nat.le_of_ble_eq_true rfl) (by decide) (c_X9_takeRing hI (by omega)) (fun r22 F23 A24 h25 => ?_)
        obtain ⟨e27, I28, f29, x26⟩ := h25
        subst e27
        have v30 : A24 108 w.toNat = A 108 w.toNat := congrFun (f29.2 108 (by first | exact id | omega | (dsimp only; omega) | (dsimp only))) _
        have f31 := gs_fr_tr hf f29 (fun b j h => by first | exact False.elim h | omega | (dsimp only at h ⊢; omega)) (fun b h => by first | exact False.elim h | omega | (dsimp only at h ⊢; omega))
        show sA _ _ _ 38 _ [] _ _
        refine sA_aload_n dd_X9_carried_38 rfl (.head _) ?_
        refine sA_iload_n dd_X9_carried_39 rfl (.tail _ (.head _)) ?_
        refine sA_callV (y2 := m_X9_imageRow) (n2 := 1) (d2 := 5) (a := 106) (ci := 9) (q := (RX9, TX9, 28)) (as := [gs_iv p]) (rest := []) dd_X9_carried_40 ok_X9_imageRow ml_X9_227 rfl rfl (by decide) gs_s106 rfl rfl (Nat.le_of_ble_eq_true rfl) (by decide) (c_X9_imageRow I28 (by omega)) (fun r32 F33 A34 h35 => ?_)
        obtain ⟨z38, e37, I39, f40, x36⟩ := h35
        subst e37
        have v41 : A34 108 w.toNat = A24 108 w.toNat := congrFun (f40.2 108 (by first | exact id | omega | (dsimp only; omega) | (dsimp only))) _
        have f42 := gs_fr_tr f31 f40 (fun b j h => by first | exact False.elim h | omega | (dsimp only at h ⊢; omega)) (fun b h => by first | exact False.elim h | omega | (dsimp only at h ⊢; omega))
        show sA _ _ _ 43 _ [gs_iv z38] _ _
        refine sA_if_ne (tgt := 50) dd_X9_carried_43 (by decide) (by omega) (fun q43 => ?_) (fun q43 => ?_)
        · skip
          refine sA_aload_n dd_X9_carried_50 rfl (.head _) ?_
          refine sA_callV (y2 := m_X9_closeToU) (n2 := 0) (d2 := 1) (a := 106) (ci := 9) (q := (RX9, TX9, 28)) (as := []) (rest := []) dd_X9_carried_51 ok_X9_closeToU ml_X9_233 rfl rfl (by decide) gs_s106 rfl rfl (Nat.le_of_ble_eq_true rfl) (by decide) (c_X9_closeToU I39 ) (fun r44 F45 A46 h47 => ?_)
          obtain ⟨e49, I50, f51, x48⟩ := h47
          subst e49
          have v52 : A46 108 w.toNat = A34 108 w.toNat := congrFun (f51.2 108 (by first | exact id | omega | (dsimp only; omega) | (dsimp only))) _
          have f53 := gs_fr_tr f42 f51 (fun b j h => by first | exact False.elim h | omega | (dsimp only at h ⊢; omega)) (fun b h => by first | exact False.elim h | omega | (dsimp only at h ⊢; omega))
          show sA _ _ _ 54 _ [] _ _
          refine sA_iload_n dd_X9_carried_54 rfl (.tail _ (.tail _ (.tail _ (.head _)))) ?_
          refine sA_iconst (z := (-1)) dd_X9_carried_55 ?_
          refine sA_icmp_ne (tgt := 64) dd_X9_carried_56 (by decide) (by omega) (by omega) (fun q54 => absurd q54 (by omega)) (fun q54 => ?_)
          refine sA_aload_n dd_X9_carried_59 rfl (.head _) ?_
          refine sA_geti (ci := 9) (j := 9) (q := (RX9, TX9, 28)) dd_X9_carried_60 rfl (by decide) fl_X9_83 (by decide) gs_s106 rfl ?_
          have b55 : (0 : Int) ≤ F45 106 9 ∧ F45 106 9 ≤ 400 := I50.1 106 9
          refine sA_iret (z := F45 106 9) dd_X9_carried_63 rfl ?_
          exact ⟨_, rfl, I50, f53, trivial⟩
        · skip
          refine sA_sipush (z := (-1005)) dd_X9_carried_46 (by decide) ?_
          refine sA_iret (z := -1005) dd_X9_carried_49 rfl ?_
          exact ⟨_, rfl, I39, f42, trivial⟩
      · skip
        refine sA_aload_n dd_X9_carried_21 rfl (.head _) ?_
        refine sA_iload_n dd_X9_carried_22 rfl (.tail _ (.tail _ (.tail _ (.head _)))) ?_
        refine sA_callV (y2 := m_X9_noRing) (n2 := 1) (d2 := 2) (a := 106) (ci := 9) (q := (RX9, TX9, 28)) (as := [gs_iv w]) (rest := []) dd_X9_carried_23 ok_X9_noRing ml_X9_100 rfl rfl (by decide) gs_s106 rfl rfl (Nat.le_of_ble_eq_true rfl) (by decide) (c_X9_noRing hI (by omega)) (fun r56 F57 A58 h59 => ?_)
        obtain ⟨z62, e61, e63, e64, x60⟩ := h59
        subst e61 e63 e64
        show sA _ _ _ 26 _ [gs_iv z62] _ _
        refine sA_if_eq (tgt := 33) dd_X9_carried_26 (by decide) (by omega) (fun q65 => ?_) (fun q65 => ?_)
        · skip
          refine sA_aload_n dd_X9_carried_33 rfl (.head _) ?_
          refine sA_iload_n dd_X9_carried_34 rfl (.tail _ (.tail _ (.head _))) ?_
          refine sA_callV (y2 := m_X9_takeRing) (n2 := 1) (d2 := 1) (a := 106) (ci := 9) (q := (RX9, TX9, 28)) (as := [gs_iv r]) (rest := []) dd_X9_carried_35 ok_X9_takeRing ml_X9_230 rfl rfl (by decide) gs_s106 rfl rfl (Nat.le_of_ble_eq_true rfl) (by decide) (c_X9_takeRing hI (by omega)) (fun r66 F67 A68 h69 => ?_)
          obtain ⟨e71, I72, f73, x70⟩ := h69
          subst e71
          have v74 : A68 108 w.toNat = A 108 w.toNat := congrFun (f73.2 108 (by first | exact id | omega | (dsimp only; omega) | (dsimp only))) _
          have f75 := gs_fr_tr hf f73 (fun b j h => by first | exact False.elim h | omega | (dsimp only at h ⊢; omega)) (fun b h => by first | exact False.elim h | omega | (dsimp only at h ⊢; omega))
          show sA _ _ _ 38 _ [] _ _
          refine sA_aload_n dd_X9_carried_38 rfl (.head _) ?_
          refine sA_iload_n dd_X9_carried_39 rfl (.tail _ (.head _)) ?_
          refine sA_callV (y2 := m_X9_imageRow) (n2 := 1) (d2 := 5) (a := 106) (ci := 9) (q := (RX9, TX9, 28)) (as := [gs_iv p]) (rest := []) dd_X9_carried_40 ok_X9_imageRow ml_X9_227 rfl rfl (by decide) gs_s106 rfl rfl (Nat.le_of_ble_eq_true rfl) (by decide) (c_X9_imageRow I72 (by omega)) (fun r76 F77 A78 h79 => ?_)
          obtain ⟨z82, e81, I83, f84, x80⟩ := h79
          subst e81
          have v85 : A78 108 w.toNat = A68 108 w.toNat := congrFun (f84.2 108 (by first | exact id | omega | (dsimp only; omega) | (dsimp only))) _
          have f86 := gs_fr_tr f75 f84 (fun b j h => by first | exact False.elim h | omega | (dsimp only at h ⊢; omega)) (fun b h => by first | exact False.elim h | omega | (dsimp only at h ⊢; omega))
          show sA _ _ _ 43 _ [gs_iv z82] _ _
          refine sA_if_ne (tgt := 50) dd_X9_carried_43 (by decide) (by omega) (fun q87 => ?_) (fun q87 => ?_)
          · skip
            refine sA_aload_n dd_X9_carried_50 rfl (.head _) ?_
            refine sA_callV (y2 := m_X9_closeToU) (n2 := 0) (d2 := 1) (a := 106) (ci := 9) (q := (RX9, TX9, 28)) (as := []) (rest := []) dd_X9_carried_51 ok_X9_closeToU ml_X9_233 rfl rfl (by decide) gs_s106 rfl rfl (Nat.le_of_ble_eq_true rfl) (by decide) (c_X9_closeToU I83 ) (fun r88 F89 A90 h91 => ?_)
            obtain ⟨e93, I94, f95, x92⟩ := h91
            subst e93
            have v96 : A90 108 w.toNat = A78 108 w.toNat := congrFun (f95.2 108 (by first | exact id | omega | (dsimp only; omega) | (dsimp only))) _
            have f97 := gs_fr_tr f86 f95 (fun b j h => by first | exact False.elim h | omega | (dsimp only at h ⊢; omega)) (fun b h => by first | exact False.elim h | omega | (dsimp only at h ⊢; omega))
            show sA _ _ _ 54 _ [] _ _
            refine sA_iload_n dd_X9_carried_54 rfl (.tail _ (.tail _ (.tail _ (.head _)))) ?_
            refine sA_iconst (z := (-1)) dd_X9_carried_55 ?_
            refine sA_icmp_ne (tgt := 64) dd_X9_carried_56 (by decide) (by omega) (by omega) (fun q98 => ?_) (fun q98 => absurd q98 (by omega))
            have hx_w := hX w.toNat (by omega)
            refine sA_aload_n dd_X9_carried_64 rfl (.head _) ?_
            refine sA_iload_n dd_X9_carried_65 rfl (.tail _ (.tail _ (.tail _ (.head _)))) ?_
            refine sA_callV (y2 := m_X9_takeV) (n2 := 1) (d2 := 1) (a := 106) (ci := 9) (q := (RX9, TX9, 28)) (as := [gs_iv w]) (rest := []) dd_X9_carried_66 ok_X9_takeV ml_X9_106 rfl rfl (by decide) gs_s106 rfl rfl (Nat.le_of_ble_eq_true rfl) (by decide) (c_X9_takeV I94 (by omega)) (fun r99 F100 A101 h102 => ?_)
            obtain ⟨e104, I105, f106, x103⟩ := h102
            subst e104
            have v107 : A101 108 w.toNat = A90 108 w.toNat := congrFun (f106.2 108 (by first | exact id | omega | (dsimp only; omega) | (dsimp only))) _
            have f108 := gs_fr_tr f97 f106 (fun b j h => by first | exact False.elim h | omega | (dsimp only at h ⊢; omega)) (fun b h => by first | exact False.elim h | omega | (dsimp only at h ⊢; omega))
            show sA _ _ _ 69 _ [] _ _
            refine sA_aload_n dd_X9_carried_69 rfl (.head _) ?_
            refine sA_callV (y2 := m_X9_areOne) (n2 := 0) (d2 := 3) (a := 106) (ci := 9) (q := (RX9, TX9, 28)) (as := []) (rest := []) dd_X9_carried_70 ok_X9_areOne ml_X9_109 rfl rfl (by decide) gs_s106 rfl rfl (Nat.le_of_ble_eq_true rfl) (by decide) (c_X9_areOne I105 (by omega)) (fun r109 F110 A111 h112 => ?_)
            obtain ⟨z115, e114, I116, f117, x113⟩ := h112
            subst e114
            have v118 : A111 108 w.toNat = A101 108 w.toNat := congrFun (f117.2 108 (by first | exact id | omega | (dsimp only; omega) | (dsimp only))) _
            have f119 := gs_fr_tr f108 f117 (fun b j h => by first | exact False.elim h | omega | (dsimp only at h ⊢; omega)) (fun b h => by first | exact False.elim h | omega | (dsimp only at h ⊢; omega))
            show sA _ _ _ 73 _ [gs_iv z115] _ _
            refine sA_callS (y2 := m_X9_bit) (n2 := 1) (d2 := 1) (as := [gs_iv z115]) (rest := []) dd_X9_carried_73 ok_X9_bit ml_X9_112 rfl rfl (Nat.le_of_ble_eq_true rfl) (by decide) (c_X9_bit (by omega)) (fun r120 F121 A122 h123 => ?_)
            obtain ⟨z126, e125, e127, e128, x124⟩ := h123
            subst e125 e127 e128
            show sA _ _ _ 76 _ [gs_iv z126] _ _
            refine sA_iret (z := z126) dd_X9_carried_76 rfl ?_
            exact ⟨_, rfl, I116, f119, trivial⟩
          · skip
            refine sA_sipush (z := (-1005)) dd_X9_carried_46 (by decide) ?_
            refine sA_iret (z := -1005) dd_X9_carried_49 rfl ?_
            exact ⟨_, rfl, I83, f86, trivial⟩
        · skip
          refine sA_sipush (z := (-1001)) dd_X9_carried_29 (by decide) ?_
          refine sA_iret (z := -1001) dd_X9_carried_32 rfl ?_
          exact ⟨_, rfl, hI, hf, trivial⟩
theorem dd_X9_meetsThen_0 : decode cX9_meetsThen 0 = .ok (.aload_n 0, 1) := by decide +kernel
theorem dd_X9_meetsThen_1 : decode cX9_meetsThen 1 = .ok (.iload_n 1, 1) := by decide +kernel
theorem dd_X9_meetsThen_2 : decode cX9_meetsThen 2 = .ok (.invokevirtual 218, 3) := by decide +kernel
theorem dd_X9_meetsThen_5 : decode cX9_meetsThen 5 = .ok (.ifCond .ne 19, 3) := by decide +kernel
theorem dd_X9_meetsThen_8 : decode cX9_meetsThen 8 = .ok (.aload_n 0, 1) := by decide +kernel
theorem dd_X9_meetsThen_9 : decode cX9_meetsThen 9 = .ok (.iload_n 2, 1) := by decide +kernel
theorem dd_X9_meetsThen_10 : decode cX9_meetsThen 10 = .ok (.invokevirtual 100, 3) := by decide +kernel
theorem dd_X9_meetsThen_13 : decode cX9_meetsThen 13 = .ok (.ifCond .ne 11, 3) := by decide +kernel
theorem dd_X9_meetsThen_16 : decode cX9_meetsThen 16 = .ok (.aload_n 0, 1) := by decide +kernel
theorem dd_X9_meetsThen_17 : decode cX9_meetsThen 17 = .ok (.iload_n 3, 1) := by decide +kernel
theorem dd_X9_meetsThen_18 : decode cX9_meetsThen 18 = .ok (.invokevirtual 100, 3) := by decide +kernel
theorem dd_X9_meetsThen_21 : decode cX9_meetsThen 21 = .ok (.ifCond .eq 7, 3) := by decide +kernel
theorem dd_X9_meetsThen_24 : decode cX9_meetsThen 24 = .ok (.sipush (-1001), 3) := by decide +kernel
theorem dd_X9_meetsThen_27 : decode cX9_meetsThen 27 = .ok (.ireturn, 1) := by decide +kernel
theorem dd_X9_meetsThen_28 : decode cX9_meetsThen 28 = .ok (.aload_n 0, 1) := by decide +kernel
theorem dd_X9_meetsThen_29 : decode cX9_meetsThen 29 = .ok (.iload_n 2, 1) := by decide +kernel
theorem dd_X9_meetsThen_30 : decode cX9_meetsThen 30 = .ok (.invokevirtual 145, 3) := by decide +kernel
theorem dd_X9_meetsThen_33 : decode cX9_meetsThen 33 = .ok (.ifCond .ne 11, 3) := by decide +kernel
theorem dd_X9_meetsThen_36 : decode cX9_meetsThen 36 = .ok (.aload_n 0, 1) := by decide +kernel
theorem dd_X9_meetsThen_37 : decode cX9_meetsThen 37 = .ok (.iload_n 3, 1) := by decide +kernel
theorem dd_X9_meetsThen_38 : decode cX9_meetsThen 38 = .ok (.invokevirtual 145, 3) := by decide +kernel
theorem dd_X9_meetsThen_41 : decode cX9_meetsThen 41 = .ok (.ifCond .eq 7, 3) := by decide +kernel
theorem dd_X9_meetsThen_44 : decode cX9_meetsThen 44 = .ok (.sipush (-1003), 3) := by decide +kernel
theorem dd_X9_meetsThen_47 : decode cX9_meetsThen 47 = .ok (.ireturn, 1) := by decide +kernel
theorem dd_X9_meetsThen_48 : decode cX9_meetsThen 48 = .ok (.aload_n 0, 1) := by decide +kernel
theorem dd_X9_meetsThen_49 : decode cX9_meetsThen 49 = .ok (.iload_n 2, 1) := by decide +kernel
theorem dd_X9_meetsThen_50 : decode cX9_meetsThen 50 = .ok (.invokevirtual 230, 3) := by decide +kernel
theorem dd_X9_meetsThen_53 : decode cX9_meetsThen 53 = .ok (.aload_n 0, 1) := by decide +kernel
theorem dd_X9_meetsThen_54 : decode cX9_meetsThen 54 = .ok (.iload_n 1, 1) := by decide +kernel
theorem dd_X9_meetsThen_55 : decode cX9_meetsThen 55 = .ok (.invokevirtual 227, 3) := by decide +kernel
theorem dd_X9_meetsThen_58 : decode cX9_meetsThen 58 = .ok (.ifCond .ne 7, 3) := by decide +kernel
theorem dd_X9_meetsThen_61 : decode cX9_meetsThen 61 = .ok (.sipush (-1005), 3) := by decide +kernel
theorem dd_X9_meetsThen_64 : decode cX9_meetsThen 64 = .ok (.ireturn, 1) := by decide +kernel
theorem dd_X9_meetsThen_65 : decode cX9_meetsThen 65 = .ok (.aload_n 0, 1) := by decide +kernel
theorem dd_X9_meetsThen_66 : decode cX9_meetsThen 66 = .ok (.invokevirtual 233, 3) := by decide +kernel
theorem dd_X9_meetsThen_69 : decode cX9_meetsThen 69 = .ok (.aload_n 0, 1) := by decide +kernel
theorem dd_X9_meetsThen_70 : decode cX9_meetsThen 70 = .ok (.iload_n 3, 1) := by decide +kernel
theorem dd_X9_meetsThen_71 : decode cX9_meetsThen 71 = .ok (.invokevirtual 106, 3) := by decide +kernel
theorem dd_X9_meetsThen_74 : decode cX9_meetsThen 74 = .ok (.aload_n 0, 1) := by decide +kernel
theorem dd_X9_meetsThen_75 : decode cX9_meetsThen 75 = .ok (.invokevirtual 141, 3) := by decide +kernel
theorem dd_X9_meetsThen_78 : decode cX9_meetsThen 78 = .ok (.ireturn, 1) := by decide +kernel
theorem ok_X9_meetsThen : am_okM m_X9_meetsThen 3 ∧ Cond.instanceMethod m_X9_meetsThen.1 ∈ am_tbl ∧ Cond.selects m_X9_meetsThen.1.cls m_X9_meetsThen.1 m_X9_meetsThen.1 ∈ am_tbl := ri_mk1 1087 93 1085 1086 (by decide +kernel)
theorem c_X9_meetsThen {p r s : Int} {F A : gs_F} (hI : gs_I F A) (hp : -2147483648 ≤ p ∧ p ≤ 2147483647) (hr : -2147483648 ≤ r ∧ r ≤ 2147483647) (hs : -2147483648 ≤ s ∧ s ≤ 2147483647) (hX : ∀ r : Nat, (r : Int) < F 106 3 → 1 ≤ A 108 r) : sC m_X9_meetsThen 7 [.ref 106, gs_iv p, gs_iv r, gs_iv s] F A (fun rv F' A' => ∃ z : Int, rv = some (gs_iv z) ∧ gs_I F' A' ∧ gs_fr (fun c j => c = 106 ∧ (j = 9 ∨ j = 11 ∨ j = 13 ∨ j = 15)) (fun c => c = 112 ∨ c = 113 ∨ c = 114 ∨ c = 115) F A F' A' ∧ (True)) := by
  refine sC_of ok_X9_meetsThen.1 (Nat.le_of_ble_eq_true rfl) ?_
  show sA _ _ _ 0 [(0, .ref 106), (1, gs_iv p), (2, gs_iv r), (3, gs_iv s)] [] F A
  have hf : gs_fr (fun c j => c = 106 ∧ (j = 9 ∨ j = 11 ∨ j = 13 ∨ j = 15)) (fun c => c = 112 ∨ c = 113 ∨ c = 114 ∨ c = 115) F A F A := gs_fr_refl _ _ _ _
  refine sA_aload_n dd_X9_meetsThen_0 rfl (.head _) ?_
  refine sA_iload_n dd_X9_meetsThen_1 rfl (.tail _ (.head _)) ?_
  refine sA_callV (y2 := m_X9_noPlan) (n2 := 1) (d2 := 2) (a := 106) (ci := 9) (q := (RX9, TX9, 28)) (as := [gs_iv p]) (rest := []) dd_X9_meetsThen_2 ok_X9_noPlan ml_X9_218 rfl rfl (by decide) gs_s106 rfl rfl (Nat.le_of_ble_eq_true rfl) (by decide) (c_X9_noPlan hI (by omega)) (fun r1 F2 A3 h4 => ?_)
  obtain ⟨z7, e6, e8, e9, x5⟩ := h4
  subst e6 e8 e9
  show sA _ _ _ 5 _ [gs_iv z7] _ _
  refine sA_if_ne (tgt := 24) dd_X9_meetsThen_5 (by decide) (by omega) (fun q10 => ?_) (fun q10 => ?_)
  · skip
    refine sA_sipush (z := (-1001)) dd_X9_meetsThen_24 (by decide) ?_
    refine sA_iret (z := -1001) dd_X9_meetsThen_27 rfl ?_
    exact ⟨_, rfl, hI, hf, trivial⟩
  · skip
    refine sA_aload_n dd_X9_meetsThen_8 rfl (.head _) ?_
    refine sA_iload_n dd_X9_meetsThen_9 rfl (.tail _ (.tail _ (.head _))) ?_
    refine sA_callV (y2 := m_X9_noRing) (n2 := 1) (d2 := 2) (a := 106) (ci := 9) (q := (RX9, TX9, 28)) (as := [gs_iv r]) (rest := []) dd_X9_meetsThen_10 ok_X9_noRing ml_X9_100 rfl rfl (by decide) gs_s106 rfl rfl (Nat.le_of_ble_eq_true rfl) (by decide) (c_X9_noRing hI (by omega)) (fun r11 F12 A13 h14 => ?_)
    obtain ⟨z17, e16, e18, e19, x15⟩ := h14
    subst e16 e18 e19
    show sA _ _ _ 13 _ [gs_iv z17] _ _
    refine sA_if_ne (tgt := 24) dd_X9_meetsThen_13 (by decide) (by omega) (fun q20 => ?_) (fun q20 => ?_)
    · skip
      refine sA_sipush (z := (-1001)) dd_X9_meetsThen_24 (by decide) ?_
      refine sA_iret (z := -1001) dd_X9_meetsThen_27 rfl ?_
      exact ⟨_, rfl, hI, hf, trivial⟩
    · skip
      refine sA_aload_n dd_X9_meetsThen_16 rfl (.head _) ?_
      refine sA_iload_n dd_X9_meetsThen_17 rfl (.tail _ (.tail _ (.tail _ (.head _)))) ?_
      refine sA_callV (y2 := m_X9_noRing) (n2 := 1) (d2 := 2) (a := 106) (ci := 9) (q := (RX9, TX9, 28)) (as := [gs_iv s]) (rest := []) dd_X9_meetsThen_18 ok_X9_noRing ml_X9_100 rfl rfl (by decide) gs_s106 rfl rfl (Nat.le_of_ble_eq_true rfl) (by decide) (c_X9_noRing hI (by omega)) (fun r21 F22 A23 h24 => ?_)
      obtain ⟨z27, e26, e28, e29, x25⟩ := h24
      subst e26 e28 e29
      show sA _ _ _ 21 _ [gs_iv z27] _ _
      refine sA_if_eq (tgt := 28) dd_X9_meetsThen_21 (by decide) (by omega) (fun q30 => ?_) (fun q30 => ?_)
      · skip
        refine sA_aload_n dd_X9_meetsThen_28 rfl (.head _) ?_
        refine sA_iload_n dd_X9_meetsThen_29 rfl (.tail _ (.tail _ (.head _))) ?_
        refine sA_callV (y2 := m_X9_isPower) (n2 := 1) (d2 := 1) (a := 106) (ci := 9) (q := (RX9, TX9, 28)) (as := [gs_iv r]) (rest := []) dd_X9_meetsThen_30 ok_X9_isPower ml_X9_145 rfl rfl (by decide) gs_s106 rfl rfl (Nat.le_of_ble_eq_true rfl) (by decide) (c_X9_isPower hI (by omega)) (fun r31 F32 A33 h34 => ?_)
        obtain ⟨z37, e36, e38, e39, x35⟩ := h34
        subst e36 e38 e39
        show sA _ _ _ 33 _ [gs_iv z37] _ _
        refine sA_if_ne (tgt := 44) dd_X9_meetsThen_33 (by decide) (by omega) (fun q40 => ?_) (fun q40 => ?_)
        · skip
          refine sA_sipush (z := (-1003)) dd_X9_meetsThen_44 (by decide) ?_
          refine sA_iret (z := -1003) dd_X9_meetsThen_47 rfl ?_
          exact ⟨_, rfl, hI, hf, trivial⟩
        · skip
          refine sA_aload_n dd_X9_meetsThen_36 rfl (.head _) ?_
          refine sA_iload_n dd_X9_meetsThen_37 rfl (.tail _ (.tail _ (.tail _ (.head _)))) ?_
          refine sA_callV (y2 := m_X9_isPower) (n2 := 1) (d2 := 1) (a := 106) (ci := 9) (q := (RX9, TX9, 28)) (as := [gs_iv s]) (rest := []) dd_X9_meetsThen_38 ok_X9_isPower ml_X9_145 rfl rfl (by decide) gs_s106 rfl rfl (Nat.le_of_ble_eq_true rfl) (by decide) (c_X9_isPower hI (by omega)) (fun r41 F42 A43 h44 => ?_)
          obtain ⟨z47, e46, e48, e49, x45⟩ := h44
          subst e46 e48 e49
          show sA _ _ _ 41 _ [gs_iv z47] _ _
          refine sA_if_eq (tgt := 48) dd_X9_meetsThen_41 (by decide) (by omega) (fun q50 => ?_) (fun q50 => ?_)
          · skip
            refine sA_aload_n dd_X9_meetsThen_48 rfl (.head _) ?_
            refine sA_iload_n dd_X9_meetsThen_49 rfl (.tail _ (.tail _ (.head _))) ?_
            refine sA_callV (y2 := m_X9_takeRing) (n2 := 1) (d2 := 1) (a := 106) (ci := 9) (q := (RX9, TX9, 28)) (as := [gs_iv r]) (rest := []) dd_X9_meetsThen_50 ok_X9_takeRing ml_X9_230 rfl rfl (by decide) gs_s106 rfl rfl (Nat.le_of_ble_eq_true rfl) (by decide) (c_X9_takeRing hI (by omega)) (fun r51 F52 A53 h54 => ?_)
            obtain ⟨e56, I57, f58, x55⟩ := h54
            subst e56
            have v59 : A53 108 s.toNat = A 108 s.toNat := congrFun (f58.2 108 (by first | exact id | omega | (dsimp only; omega) | (dsimp only))) _
            have f60 := gs_fr_tr hf f58 (fun b j h => by first | exact False.elim h | omega | (dsimp only at h ⊢; omega)) (fun b h => by first | exact False.elim h | omega | (dsimp only at h ⊢; omega))
            show sA _ _ _ 53 _ [] _ _
            refine sA_aload_n dd_X9_meetsThen_53 rfl (.head _) ?_
            refine sA_iload_n dd_X9_meetsThen_54 rfl (.tail _ (.head _)) ?_
            refine sA_callV (y2 := m_X9_imageRow) (n2 := 1) (d2 := 5) (a := 106) (ci := 9) (q := (RX9, TX9, 28)) (as := [gs_iv p]) (rest := []) dd_X9_meetsThen_55 ok_X9_imageRow ml_X9_227 rfl rfl (by decide) gs_s106 rfl rfl (Nat.le_of_ble_eq_true rfl) (by decide) (c_X9_imageRow I57 (by omega)) (fun r61 F62 A63 h64 => ?_)
            obtain ⟨z67, e66, I68, f69, x65⟩ := h64
            subst e66
            have v70 : A63 108 s.toNat = A53 108 s.toNat := congrFun (f69.2 108 (by first | exact id | omega | (dsimp only; omega) | (dsimp only))) _
            have f71 := gs_fr_tr f60 f69 (fun b j h => by first | exact False.elim h | omega | (dsimp only at h ⊢; omega)) (fun b h => by first | exact False.elim h | omega | (dsimp only at h ⊢; omega))
            show sA _ _ _ 58 _ [gs_iv z67] _ _
            refine sA_if_ne (tgt := 65) dd_X9_meetsThen_58 (by decide) (by omega) (fun q72 => ?_) (fun q72 => ?_)
            · skip
              refine sA_aload_n dd_X9_meetsThen_65 rfl (.head _) ?_
              refine sA_callV (y2 := m_X9_closeToU) (n2 := 0) (d2 := 1) (a := 106) (ci := 9) (q := (RX9, TX9, 28)) (as := []) (rest := []) dd_X9_meetsThen_66 ok_X9_closeToU ml_X9_233 rfl rfl (by decide) gs_s106 rfl rfl (Nat.le_of_ble_eq_true rfl) (by decide) (c_X9_closeToU I68 ) (fun r73 F74 A75 h76 => ?_)
              obtain ⟨e78, I79, f80, x77⟩ := h76
              subst e78
              have v81 : A75 108 s.toNat = A63 108 s.toNat := congrFun (f80.2 108 (by first | exact id | omega | (dsimp only; omega) | (dsimp only))) _
              have f82 := gs_fr_tr f71 f80 (fun b j h => by first | exact False.elim h | omega | (dsimp only at h ⊢; omega)) (fun b h => by first | exact False.elim h | omega | (dsimp only at h ⊢; omega))
              show sA _ _ _ 69 _ [] _ _
              have hx_s := hX s.toNat (by omega)
              refine sA_aload_n dd_X9_meetsThen_69 rfl (.head _) ?_
              refine sA_iload_n dd_X9_meetsThen_70 rfl (.tail _ (.tail _ (.tail _ (.head _)))) ?_
              refine sA_callV (y2 := m_X9_takeV) (n2 := 1) (d2 := 1) (a := 106) (ci := 9) (q := (RX9, TX9, 28)) (as := [gs_iv s]) (rest := []) dd_X9_meetsThen_71 ok_X9_takeV ml_X9_106 rfl rfl (by decide) gs_s106 rfl rfl (Nat.le_of_ble_eq_true rfl) (by decide) (c_X9_takeV I79 (by omega)) (fun r83 F84 A85 h86 => ?_)
              obtain ⟨e88, I89, f90, x87⟩ := h86
              subst e88
              have v91 : A85 108 s.toNat = A75 108 s.toNat := congrFun (f90.2 108 (by first | exact id | omega | (dsimp only; omega) | (dsimp only))) _
              have f92 := gs_fr_tr f82 f90 (fun b j h => by first | exact False.elim h | omega | (dsimp only at h ⊢; omega)) (fun b h => by first | exact False.elim h | omega | (dsimp only at h ⊢; omega))
              show sA _ _ _ 74 _ [] _ _
              refine sA_aload_n dd_X9_meetsThen_74 rfl (.head _) ?_
              refine sA_callV (y2 := m_X9_meetings) (n2 := 0) (d2 := 6) (a := 106) (ci := 9) (q := (RX9, TX9, 28)) (as := []) (rest := []) dd_X9_meetsThen_75 ok_X9_meetings ml_X9_141 rfl rfl (by decide) gs_s106 rfl rfl (Nat.le_of_ble_eq_true rfl) (by decide) (c_X9_meetings I89 (by omega)) (fun r93 F94 A95 h96 => ?_)
              obtain ⟨z99, e98, I100, f101, x97⟩ := h96
              subst e98
              have v102 : A95 108 s.toNat = A85 108 s.toNat := congrFun (f101.2 108 (by first | exact id | omega | (dsimp only; omega) | (dsimp only))) _
              have f103 := gs_fr_tr f92 f101 (fun b j h => by first | exact False.elim h | omega | (dsimp only at h ⊢; omega)) (fun b h => by first | exact False.elim h | omega | (dsimp only at h ⊢; omega))
              show sA _ _ _ 78 _ [gs_iv z99] _ _
              refine sA_iret (z := z99) dd_X9_meetsThen_78 rfl ?_
              exact ⟨_, rfl, I100, f103, trivial⟩
            · skip
              refine sA_sipush (z := (-1005)) dd_X9_meetsThen_61 (by decide) ?_
              refine sA_iret (z := -1005) dd_X9_meetsThen_64 rfl ?_
              exact ⟨_, rfl, I68, f71, trivial⟩
          · skip
            refine sA_sipush (z := (-1003)) dd_X9_meetsThen_44 (by decide) ?_
            refine sA_iret (z := -1003) dd_X9_meetsThen_47 rfl ?_
            exact ⟨_, rfl, hI, hf, trivial⟩
      · skip
        refine sA_sipush (z := (-1001)) dd_X9_meetsThen_24 (by decide) ?_
        refine sA_iret (z := -1001) dd_X9_meetsThen_27 rfl ?_
        exact ⟨_, rfl, hI, hf, trivial⟩
theorem dd_X9_startImages_0 : decode cX9_startImages 0 = .ok (.iconst 0, 1) := by decide +kernel
theorem dd_X9_startImages_1 : decode cX9_startImages 1 = .ok (.istore_n 1, 1) := by decide +kernel
theorem dd_X9_startImages_2 : decode cX9_startImages 2 = .ok (.iload_n 1, 1) := by decide +kernel
theorem dd_X9_startImages_3 : decode cX9_startImages 3 = .ok (.iconst 2, 1) := by decide +kernel
theorem dd_X9_startImages_4 : decode cX9_startImages 4 = .ok (.aload_n 0, 1) := by decide +kernel
theorem dd_X9_startImages_5 : decode cX9_startImages 5 = .ok (.getfield 64, 3) := by decide +kernel
theorem dd_X9_startImages_8 : decode cX9_startImages 8 = .ok (.imul, 1) := by decide +kernel
theorem dd_X9_startImages_9 : decode cX9_startImages 9 = .ok (.if_icmp .ge 29, 3) := by decide +kernel
theorem dd_X9_startImages_12 : decode cX9_startImages 12 = .ok (.aload_n 0, 1) := by decide +kernel
theorem dd_X9_startImages_13 : decode cX9_startImages 13 = .ok (.getfield 53, 3) := by decide +kernel
theorem dd_X9_startImages_16 : decode cX9_startImages 16 = .ok (.iload_n 1, 1) := by decide +kernel
theorem dd_X9_startImages_17 : decode cX9_startImages 17 = .ok (.iconst 1, 1) := by decide +kernel
theorem dd_X9_startImages_18 : decode cX9_startImages 18 = .ok (.iastore, 1) := by decide +kernel
theorem dd_X9_startImages_19 : decode cX9_startImages 19 = .ok (.aload_n 0, 1) := by decide +kernel
theorem dd_X9_startImages_20 : decode cX9_startImages 20 = .ok (.getfield 50, 3) := by decide +kernel
theorem dd_X9_startImages_23 : decode cX9_startImages 23 = .ok (.sipush 400, 3) := by decide +kernel
theorem dd_X9_startImages_26 : decode cX9_startImages 26 = .ok (.iload_n 1, 1) := by decide +kernel
theorem dd_X9_startImages_27 : decode cX9_startImages 27 = .ok (.imul, 1) := by decide +kernel
theorem dd_X9_startImages_28 : decode cX9_startImages 28 = .ok (.iload_n 1, 1) := by decide +kernel
theorem dd_X9_startImages_29 : decode cX9_startImages 29 = .ok (.iconst 1, 1) := by decide +kernel
theorem dd_X9_startImages_30 : decode cX9_startImages 30 = .ok (.iadd, 1) := by decide +kernel
theorem dd_X9_startImages_31 : decode cX9_startImages 31 = .ok (.iastore, 1) := by decide +kernel
theorem dd_X9_startImages_32 : decode cX9_startImages 32 = .ok (.iinc 1 1, 3) := by decide +kernel
theorem dd_X9_startImages_35 : decode cX9_startImages 35 = .ok (.goto (-33), 3) := by decide +kernel
theorem dd_X9_startImages_38 : decode cX9_startImages 38 = .ok (.return_, 1) := by decide +kernel
theorem gs_s119 : gs_sh 119 = .inr (.inl (0, 2400)) := rfl
theorem gs_s120 : gs_sh 120 = .inr (.inl (0, 6)) := rfl
theorem fl_X9_50 : Cond.fieldLink RX9 50 (TX9 25).1 (TX9 25).2.1 (TX9 25).2.2.1 ∈ am_tbl := ri_lw_in (pl := 807) (by decide +kernel)
theorem fl_X9_53 : Cond.fieldLink RX9 53 (TX9 26).1 (TX9 26).2.1 (TX9 26).2.2.1 ∈ am_tbl := ri_lw_in (pl := 808) (by decide +kernel)
theorem ok_X9_startImages : am_okM m_X9_startImages 0 ∧ Cond.instanceMethod m_X9_startImages.1 ∈ am_tbl ∧ Cond.selects m_X9_startImages.1.cls m_X9_startImages.1 m_X9_startImages.1 ∈ am_tbl := ri_mk1 1099 93 1098 64 (by decide +kernel)
theorem k_X9_startImages  {F A : gs_F} (hI : gs_I F A)  : ∀ nN : Nat, (∀ (x : Int)  (F1 A1 : gs_F), gs_I F1 A1 → gs_fr (fun _ _ => False) (fun c => c = 119 ∨ c = 120) F A F1 A1 → 0 ≤ x ∧ x ≤ 6 → 6 - x < (nN : Int) → sA m_X9_startImages 1 (fun rv F' A' => rv = none ∧ gs_I F' A' ∧ gs_fr (fun _ _ => False) (fun c => c = 119 ∨ c = 120) F A F' A' ∧ (True)) 2 [(1, gs_iv x), (0, .ref 106)] [] F1 A1) := by
  intro nN
  induction nN with
  | zero =>
    exact fun a0 a1 a2 a3 a4 i0 hm => by exfalso; omega
  | succ nN ih =>
    intro x F1 A1 hI1 hf1 i0 hm
    refine sA_iload_n dd_X9_startImages_2 rfl (.head _) ?_
    refine sA_iconst (z := 2) dd_X9_startImages_3 ?_
    refine sA_aload_n dd_X9_startImages_4 rfl (.tail _ (.head _)) ?_
    refine sA_geti (ci := 9) (j := 0) (q := (RX9, TX9, 28)) dd_X9_startImages_5 rfl (by decide) fl_X9_64 (by decide) gs_s106 rfl ?_
    have b1 : (1 : Int) ≤ F1 106 0 ∧ F1 106 0 ≤ 3 := hI1.1 106 0
    refine sA_imul dd_X9_startImages_8 ?_
    refine sA_icmp_ge (tgt := 38) dd_X9_startImages_9 (by decide) (by omega) (by omega) (fun q2 => ?_) (fun q2 => ?_)
    · skip
      refine sA_vret dd_X9_startImages_38 rfl ?_
      exact ⟨rfl, hI1, hf1, trivial⟩
    · skip
      refine sA_aload_n dd_X9_startImages_12 rfl (.tail _ (.head _)) ?_
      refine sA_getr (ci := 9) (j := 26) (q := (RX9, TX9, 28)) dd_X9_startImages_13 rfl (by decide) fl_X9_53 (by decide) gs_s106 rfl ?_
      refine sA_iload_n dd_X9_startImages_16 rfl (.head _) ?_
      refine sA_iconst (z := 1) dd_X9_startImages_17 ?_
      refine sA_iast (n := 6) dd_X9_startImages_18 (by decide) gs_s120 (by omega) (by decide) ?_
      have I4 : gs_I F1 (gs_up A1 120 x.toNat 1) := gs_I_ast hI1 (show (0 : Int) ≤ 1 ∧ 1 ≤ 400 by omega)
      have f5 := gs_fr_ast hf1 (a := 120) (z := 1) (i := x.toNat) (by first | omega | (dsimp only; omega) | (dsimp only))
      generalize gs_up A1 120 x.toNat 1 = A3 at I4 f5 ⊢
      refine sA_aload_n dd_X9_startImages_19 rfl (.tail _ (.head _)) ?_
      refine sA_getr (ci := 9) (j := 25) (q := (RX9, TX9, 28)) dd_X9_startImages_20 rfl (by decide) fl_X9_50 (by decide) gs_s106 rfl ?_
      refine sA_sipush (z := 400) dd_X9_startImages_23 (by decide) ?_
      refine sA_iload_n dd_X9_startImages_26 rfl (.head _) ?_
      refine sA_imul dd_X9_startImages_27 ?_
      refine sA_iload_n dd_X9_startImages_28 rfl (.head _) ?_
      refine sA_iconst (z := 1) dd_X9_startImages_29 ?_
      refine sA_iadd dd_X9_startImages_30 ?_
      refine sA_iast (n := 2400) dd_X9_startImages_31 (by decide) gs_s119 (by omega) (by decide) ?_
      have I7 : gs_I F1 (gs_up A3 119 ((400 * x).toNat) (x + 1)) := gs_I_ast I4 (show (-9 : Int) ≤ x + 1 ∧ x + 1 ≤ 9 by omega)
      have f8 := gs_fr_ast f5 (a := 119) (z := x + 1) (i := (400 * x).toNat) (by first | omega | (dsimp only; omega) | (dsimp only))
      generalize gs_up A3 119 ((400 * x).toNat) (x + 1) = A6 at I7 f8 ⊢
      refine sA_iinc (lv' := [(1, gs_iv (x + 1)), (0, .ref 106)]) dd_X9_startImages_32 (.head _) (by decide) rfl ?_
      refine sA_goto (tgt := 2) dd_X9_startImages_35 (by decide) ?_
      refine sA_sub (lv2 := [(1, gs_iv (x + 1)), (0, .ref 106)]) (List.forall_mem_cons.mpr ⟨(.head _), (List.forall_mem_cons.mpr ⟨(.tail _ (.head _)), (fun _ h => absurd h List.not_mem_nil)⟩)⟩) ?_
      exact ih (x + 1) F1 A6 I7 f8 (by omega) (by omega)
theorem c_X9_startImages  {F A : gs_F} (hI : gs_I F A)  : sC m_X9_startImages 1 [.ref 106] F A (fun rv F' A' => rv = none ∧ gs_I F' A' ∧ gs_fr (fun _ _ => False) (fun c => c = 119 ∨ c = 120) F A F' A' ∧ (True)) := by
  refine sC_of ok_X9_startImages.1 (Nat.le_of_ble_eq_true rfl) ?_
  show sA _ _ _ 0 [(0, .ref 106)] [] F A
  have hf : gs_fr (fun _ _ => False) (fun c => c = 119 ∨ c = 120) F A F A := gs_fr_refl _ _ _ _
  refine sA_iconst (z := 0) dd_X9_startImages_0 ?_
  refine sA_istore_n (lv' := [(1, gs_iv 0), (0, .ref 106)]) dd_X9_startImages_1 rfl (by decide) rfl ?_
  refine sA_sub (lv2 := [(1, gs_iv 0), (0, .ref 106)]) (List.forall_mem_cons.mpr ⟨(.head _), (List.forall_mem_cons.mpr ⟨(.tail _ (.head _)), (fun _ h => absurd h List.not_mem_nil)⟩)⟩) ?_
  exact (k_X9_startImages hI (6 - 0 : Int).toNat.succ) 0 F A hI hf (by omega) (by omega)
theorem dd_X9_goOn_0 : decode cX9_goOn 0 = .ok (.iconst 0, 1) := by decide +kernel
theorem dd_X9_goOn_1 : decode cX9_goOn 1 = .ok (.istore_n 2, 1) := by decide +kernel
theorem dd_X9_goOn_2 : decode cX9_goOn 2 = .ok (.iload_n 2, 1) := by decide +kernel
theorem dd_X9_goOn_3 : decode cX9_goOn 3 = .ok (.iconst 2, 1) := by decide +kernel
theorem dd_X9_goOn_4 : decode cX9_goOn 4 = .ok (.aload_n 0, 1) := by decide +kernel
theorem dd_X9_goOn_5 : decode cX9_goOn 5 = .ok (.getfield 64, 3) := by decide +kernel
theorem dd_X9_goOn_8 : decode cX9_goOn 8 = .ok (.imul, 1) := by decide +kernel
theorem dd_X9_goOn_9 : decode cX9_goOn 9 = .ok (.if_icmp .ge 107, 3) := by decide +kernel
theorem dd_X9_goOn_12 : decode cX9_goOn 12 = .ok (.aload_n 0, 1) := by decide +kernel
theorem dd_X9_goOn_13 : decode cX9_goOn 13 = .ok (.aload_n 0, 1) := by decide +kernel
theorem dd_X9_goOn_14 : decode cX9_goOn 14 = .ok (.getfield 53, 3) := by decide +kernel
theorem dd_X9_goOn_17 : decode cX9_goOn 17 = .ok (.iload_n 2, 1) := by decide +kernel
theorem dd_X9_goOn_18 : decode cX9_goOn 18 = .ok (.iaload, 1) := by decide +kernel
theorem dd_X9_goOn_19 : decode cX9_goOn 19 = .ok (.putfield 167, 3) := by decide +kernel
theorem dd_X9_goOn_22 : decode cX9_goOn 22 = .ok (.iconst 0, 1) := by decide +kernel
theorem dd_X9_goOn_23 : decode cX9_goOn 23 = .ok (.istore_n 3, 1) := by decide +kernel
theorem dd_X9_goOn_24 : decode cX9_goOn 24 = .ok (.iload_n 3, 1) := by decide +kernel
theorem dd_X9_goOn_25 : decode cX9_goOn 25 = .ok (.aload_n 0, 1) := by decide +kernel
theorem dd_X9_goOn_26 : decode cX9_goOn 26 = .ok (.getfield 167, 3) := by decide +kernel
theorem dd_X9_goOn_29 : decode cX9_goOn 29 = .ok (.if_icmp .ge 27, 3) := by decide +kernel
theorem dd_X9_goOn_32 : decode cX9_goOn 32 = .ok (.aload_n 0, 1) := by decide +kernel
theorem dd_X9_goOn_33 : decode cX9_goOn 33 = .ok (.getfield 31, 3) := by decide +kernel
theorem dd_X9_goOn_36 : decode cX9_goOn 36 = .ok (.iload_n 3, 1) := by decide +kernel
theorem dd_X9_goOn_37 : decode cX9_goOn 37 = .ok (.aload_n 0, 1) := by decide +kernel
theorem dd_X9_goOn_38 : decode cX9_goOn 38 = .ok (.getfield 50, 3) := by decide +kernel
theorem dd_X9_goOn_41 : decode cX9_goOn 41 = .ok (.sipush 400, 3) := by decide +kernel
theorem dd_X9_goOn_44 : decode cX9_goOn 44 = .ok (.iload_n 2, 1) := by decide +kernel
theorem dd_X9_goOn_45 : decode cX9_goOn 45 = .ok (.imul, 1) := by decide +kernel
theorem dd_X9_goOn_46 : decode cX9_goOn 46 = .ok (.iload_n 3, 1) := by decide +kernel
theorem dd_X9_goOn_47 : decode cX9_goOn 47 = .ok (.iadd, 1) := by decide +kernel
theorem dd_X9_goOn_48 : decode cX9_goOn 48 = .ok (.iaload, 1) := by decide +kernel
theorem dd_X9_goOn_49 : decode cX9_goOn 49 = .ok (.iastore, 1) := by decide +kernel
theorem dd_X9_goOn_50 : decode cX9_goOn 50 = .ok (.iinc 3 1, 3) := by decide +kernel
theorem dd_X9_goOn_53 : decode cX9_goOn 53 = .ok (.goto (-29), 3) := by decide +kernel
theorem dd_X9_goOn_56 : decode cX9_goOn 56 = .ok (.aload_n 0, 1) := by decide +kernel
theorem dd_X9_goOn_57 : decode cX9_goOn 57 = .ok (.iload_n 1, 1) := by decide +kernel
theorem dd_X9_goOn_58 : decode cX9_goOn 58 = .ok (.invokevirtual 227, 3) := by decide +kernel
theorem dd_X9_goOn_61 : decode cX9_goOn 61 = .ok (.ifCond .ne 5, 3) := by decide +kernel
theorem dd_X9_goOn_64 : decode cX9_goOn 64 = .ok (.iconst 0, 1) := by decide +kernel
theorem dd_X9_goOn_65 : decode cX9_goOn 65 = .ok (.ireturn, 1) := by decide +kernel
theorem dd_X9_goOn_66 : decode cX9_goOn 66 = .ok (.aload_n 0, 1) := by decide +kernel
theorem dd_X9_goOn_67 : decode cX9_goOn 67 = .ok (.getfield 53, 3) := by decide +kernel
theorem dd_X9_goOn_70 : decode cX9_goOn 70 = .ok (.iload_n 2, 1) := by decide +kernel
theorem dd_X9_goOn_71 : decode cX9_goOn 71 = .ok (.aload_n 0, 1) := by decide +kernel
theorem dd_X9_goOn_72 : decode cX9_goOn 72 = .ok (.getfield 167, 3) := by decide +kernel
theorem dd_X9_goOn_75 : decode cX9_goOn 75 = .ok (.iastore, 1) := by decide +kernel
theorem dd_X9_goOn_76 : decode cX9_goOn 76 = .ok (.iconst 0, 1) := by decide +kernel
theorem dd_X9_goOn_77 : decode cX9_goOn 77 = .ok (.istore_n 3, 1) := by decide +kernel
theorem dd_X9_goOn_78 : decode cX9_goOn 78 = .ok (.iload_n 3, 1) := by decide +kernel
theorem dd_X9_goOn_79 : decode cX9_goOn 79 = .ok (.aload_n 0, 1) := by decide +kernel
theorem dd_X9_goOn_80 : decode cX9_goOn 80 = .ok (.getfield 167, 3) := by decide +kernel
theorem dd_X9_goOn_83 : decode cX9_goOn 83 = .ok (.if_icmp .ge 27, 3) := by decide +kernel
theorem dd_X9_goOn_86 : decode cX9_goOn 86 = .ok (.aload_n 0, 1) := by decide +kernel
theorem dd_X9_goOn_87 : decode cX9_goOn 87 = .ok (.getfield 50, 3) := by decide +kernel
theorem dd_X9_goOn_90 : decode cX9_goOn 90 = .ok (.sipush 400, 3) := by decide +kernel
theorem dd_X9_goOn_93 : decode cX9_goOn 93 = .ok (.iload_n 2, 1) := by decide +kernel
theorem dd_X9_goOn_94 : decode cX9_goOn 94 = .ok (.imul, 1) := by decide +kernel
theorem dd_X9_goOn_95 : decode cX9_goOn 95 = .ok (.iload_n 3, 1) := by decide +kernel
theorem dd_X9_goOn_96 : decode cX9_goOn 96 = .ok (.iadd, 1) := by decide +kernel
theorem dd_X9_goOn_97 : decode cX9_goOn 97 = .ok (.aload_n 0, 1) := by decide +kernel
theorem dd_X9_goOn_98 : decode cX9_goOn 98 = .ok (.getfield 31, 3) := by decide +kernel
theorem dd_X9_goOn_101 : decode cX9_goOn 101 = .ok (.iload_n 3, 1) := by decide +kernel
theorem dd_X9_goOn_102 : decode cX9_goOn 102 = .ok (.iaload, 1) := by decide +kernel
theorem dd_X9_goOn_103 : decode cX9_goOn 103 = .ok (.iastore, 1) := by decide +kernel
theorem dd_X9_goOn_104 : decode cX9_goOn 104 = .ok (.iinc 3 1, 3) := by decide +kernel
theorem dd_X9_goOn_107 : decode cX9_goOn 107 = .ok (.goto (-29), 3) := by decide +kernel
theorem dd_X9_goOn_110 : decode cX9_goOn 110 = .ok (.iinc 2 1, 3) := by decide +kernel
theorem dd_X9_goOn_113 : decode cX9_goOn 113 = .ok (.goto (-111), 3) := by decide +kernel
theorem dd_X9_goOn_116 : decode cX9_goOn 116 = .ok (.iconst 1, 1) := by decide +kernel
theorem dd_X9_goOn_117 : decode cX9_goOn 117 = .ok (.ireturn, 1) := by decide +kernel
theorem ok_X9_goOn : am_okM m_X9_goOn 1 ∧ Cond.instanceMethod m_X9_goOn.1 ∈ am_tbl ∧ Cond.selects m_X9_goOn.1.cls m_X9_goOn.1 m_X9_goOn.1 ∈ am_tbl := ri_mk1 1103 93 1102 65 (by decide +kernel)
theorem k_X9_goOn {p : Int} {F A : gs_F} (hI : gs_I F A) (hp : 0 ≤ p ∧ p ≤ 8) : ∀ nN : Nat, (∀ (x : Int)  (F1 A1 : gs_F), gs_I F1 A1 → gs_fr (fun c j => c = 106 ∧ (j = 13 ∨ j = 15)) (fun c => c = 114 ∨ c = 115 ∨ c = 119 ∨ c = 120) F A F1 A1 → 0 ≤ x ∧ x ≤ 6 → (6 - x) * 2000 + 1 < (nN : Int) → sA m_X9_goOn 6 (fun rv F' A' => ∃ z : Int, rv = some (gs_iv z) ∧ gs_I F' A' ∧ gs_fr (fun c j => c = 106 ∧ (j = 13 ∨ j = 15)) (fun c => c = 114 ∨ c = 115 ∨ c = 119 ∨ c = 120) F A F' A' ∧ (z = 0 ∨ z = 1)) 2 [(2, gs_iv x), (0, .ref 106), (1, gs_iv p)] [] F1 A1) ∧ (∀ (x : Int) (k : Int)  (F1 A1 : gs_F), gs_I F1 A1 → gs_fr (fun c j => c = 106 ∧ (j = 13 ∨ j = 15)) (fun c => c = 114 ∨ c = 115 ∨ c = 119 ∨ c = 120) F A F1 A1 → 0 ≤ x ∧ x < 6 → 0 ≤ k ∧ k ≤ F1 106 13 → F1 106 13 ≤ 400 → (6 - x) * 2000 - k < (nN : Int) → sA m_X9_goOn 6 (fun rv F' A' => ∃ z : Int, rv = some (gs_iv z) ∧ gs_I F' A' ∧ gs_fr (fun c j => c = 106 ∧ (j = 13 ∨ j = 15)) (fun c => c = 114 ∨ c = 115 ∨ c = 119 ∨ c = 120) F A F' A' ∧ (z = 0 ∨ z = 1)) 24 [(3, gs_iv k), (2, gs_iv x), (0, .ref 106), (1, gs_iv p)] [] F1 A1) ∧ (∀ (x : Int) (k : Int)  (F1 A1 : gs_F), gs_I F1 A1 → gs_fr (fun c j => c = 106 ∧ (j = 13 ∨ j = 15)) (fun c => c = 114 ∨ c = 115 ∨ c = 119 ∨ c = 120) F A F1 A1 → 0 ≤ x ∧ x < 6 → 0 ≤ k ∧ k ≤ F1 106 13 → F1 106 13 ≤ 400 → (6 - x) * 2000 - 500 - k < (nN : Int) → sA m_X9_goOn 6 (fun rv F' A' => ∃ z : Int, rv = some (gs_iv z) ∧ gs_I F' A' ∧ gs_fr (fun c j => c = 106 ∧ (j = 13 ∨ j = 15)) (fun c => c = 114 ∨ c = 115 ∨ c = 119 ∨ c = 120) F A F' A' ∧ (z = 0 ∨ z = 1)) 78 [(3, gs_iv k), (2, gs_iv x), (0, .ref 106), (1, gs_iv p)] [] F1 A1) := by
  intro nN
  induction nN with
  | zero =>
    exact ⟨fun a0 a1 a2 a3 a4 i0 hm => by exfalso; omega, fun a0 a1 a2 a3 a4 a5 i0 i1 i2 hm => by exfalso; omega, fun a0 a1 a2 a3 a4 a5 i0 i1 i2 hm => by exfalso; omega⟩
  | succ nN ih =>
    refine ⟨?_, ?_, ?_⟩
    · skip
      intro x F1 A1 hI1 hf1 i0 hm
      have b1 : (0 : Int) ≤ F1 106 13 ∧ F1 106 13 ≤ 400 := hI1.1 106 13
      refine sA_iload_n dd_X9_goOn_2 rfl (.head _) ?_
      refine sA_iconst (z := 2) dd_X9_goOn_3 ?_
      refine sA_aload_n dd_X9_goOn_4 rfl (.tail _ (.head _)) ?_
      refine sA_geti (ci := 9) (j := 0) (q := (RX9, TX9, 28)) dd_X9_goOn_5 rfl (by decide) fl_X9_64 (by decide) gs_s106 rfl ?_
      have b2 : (1 : Int) ≤ F1 106 0 ∧ F1 106 0 ≤ 3 := hI1.1 106 0
      refine sA_imul dd_X9_goOn_8 ?_
      refine sA_icmp_ge (tgt := 116) dd_X9_goOn_9 (by decide) (by omega) (by omega) (fun q3 => ?_) (fun q3 => ?_)
      · skip
        refine sA_iconst (z := 1) dd_X9_goOn_116 ?_
        refine sA_bret (z := 1) dd_X9_goOn_117 rfl (by omega) ?_
        exact ⟨_, rfl, hI1, hf1, by omega⟩
      · skip
        refine sA_aload_n dd_X9_goOn_12 rfl (.tail _ (.head _)) ?_
        refine sA_aload_n dd_X9_goOn_13 rfl (.tail _ (.head _)) ?_
        refine sA_getr (ci := 9) (j := 26) (q := (RX9, TX9, 28)) dd_X9_goOn_14 rfl (by decide) fl_X9_53 (by decide) gs_s106 rfl ?_
        refine sA_iload_n dd_X9_goOn_17 rfl (.head _) ?_
        refine sA_iald (n := 6) dd_X9_goOn_18 (by decide) gs_s120 (by omega) (by decide) ?_
        have b4 : (0 : Int) ≤ A1 120 x.toNat ∧ A1 120 x.toNat ≤ 400 := hI1.2 120 x.toNat
        refine sA_put (ci := 9) (j := 13) (q := (RX9, TX9, 28)) (ty := .int) dd_X9_goOn_19 rfl (by decide) fl_X9_167 rfl (tyX9_ok 13 (by decide)) rfl rfl (by decide) gs_s106 rfl ?_
        have I6 : gs_I (gs_up F1 106 13 (A1 120 x.toNat)) A1 := gs_I_put hI1 (show (0 : Int) ≤ A1 120 x.toNat ∧ A1 120 x.toNat ≤ 400 by omega)
        have f7 := gs_fr_put hf1 (a := 106) (z := A1 120 x.toNat) (j := 13) (by first | omega | (dsimp only; omega) | (dsimp only))
        have v8 : gs_up F1 106 13 (A1 120 x.toNat) 106 13 = A1 120 x.toNat := gs_up_self _ _ _ _
        generalize gs_up F1 106 13 (A1 120 x.toNat) = F5 at I6 f7 v8 ⊢
        refine sA_iconst (z := 0) dd_X9_goOn_22 ?_
        refine sA_istore_n (lv' := [(3, gs_iv 0), (2, gs_iv x), (0, .ref 106), (1, gs_iv p)]) dd_X9_goOn_23 rfl (by decide) rfl ?_
        have b9 : (0 : Int) ≤ F5 106 13 ∧ F5 106 13 ≤ 400 := I6.1 106 13
        refine sA_sub (lv2 := [(3, gs_iv 0), (2, gs_iv x), (0, .ref 106), (1, gs_iv p)]) (List.forall_mem_cons.mpr ⟨(.head _), (List.forall_mem_cons.mpr ⟨(.tail _ (.head _)), (List.forall_mem_cons.mpr ⟨(.tail _ (.tail _ (.head _))), (List.forall_mem_cons.mpr ⟨(.tail _ (.tail _ (.tail _ (.head _)))), (fun _ h => absurd h List.not_mem_nil)⟩)⟩)⟩)⟩) ?_
        exact ih.2.1 x 0 F5 A1 I6 f7 (by omega) (by omega) (by omega) (by omega)
    · skip
      intro x k F1 A1 hI1 hf1 i0 i1 i2 hm
      have b10 : (0 : Int) ≤ F1 106 13 ∧ F1 106 13 ≤ 400 := hI1.1 106 13
      have hb13 : (0 : Int) ≤ F1 106 13 ∧ F1 106 13 ≤ 400 := hI1.1 106 13
      refine sA_iload_n dd_X9_goOn_24 rfl (.head _) ?_
      refine sA_aload_n dd_X9_goOn_25 rfl (.tail _ (.tail _ (.head _))) ?_
      refine sA_geti (ci := 9) (j := 13) (q := (RX9, TX9, 28)) dd_X9_goOn_26 rfl (by decide) fl_X9_167 (by decide) gs_s106 rfl ?_
      refine sA_icmp_ge (tgt := 56) dd_X9_goOn_29 (by decide) (by omega) (by omega) (fun q11 => ?_) (fun q11 => ?_)
      · skip
        refine sA_aload_n dd_X9_goOn_56 rfl (.tail _ (.tail _ (.head _))) ?_
        refine sA_iload_n dd_X9_goOn_57 rfl (.tail _ (.tail _ (.tail _ (.head _)))) ?_
        refine sA_callV (y2 := m_X9_imageRow) (n2 := 1) (d2 := 5) (a := 106) (ci := 9) (q := (RX9, TX9, 28)) (as := [gs_iv p]) (rest := []) dd_X9_goOn_58 ok_X9_imageRow ml_X9_227 rfl rfl (by decide) gs_s106 rfl rfl (Nat.le_of_ble_eq_true rfl) (by decide) (c_X9_imageRow hI1 (by omega)) (fun r12 F13 A14 h15 => ?_)
        obtain ⟨z18, e17, I19, f20, x16⟩ := h15
        subst e17
        have f22 := gs_fr_tr hf1 f20 (fun b j h => by first | exact False.elim h | omega | (dsimp only at h ⊢; omega)) (fun b h => by first | exact False.elim h | omega | (dsimp only at h ⊢; omega))
        show sA _ _ _ 61 _ [gs_iv z18] _ _
        refine sA_if_ne (tgt := 66) dd_X9_goOn_61 (by decide) (by omega) (fun q23 => ?_) (fun q23 => ?_)
        · skip
          refine sA_aload_n dd_X9_goOn_66 rfl (.tail _ (.tail _ (.head _))) ?_
          refine sA_getr (ci := 9) (j := 26) (q := (RX9, TX9, 28)) dd_X9_goOn_67 rfl (by decide) fl_X9_53 (by decide) gs_s106 rfl ?_
          refine sA_iload_n dd_X9_goOn_70 rfl (.tail _ (.head _)) ?_
          refine sA_aload_n dd_X9_goOn_71 rfl (.tail _ (.tail _ (.head _))) ?_
          refine sA_geti (ci := 9) (j := 13) (q := (RX9, TX9, 28)) dd_X9_goOn_72 rfl (by decide) fl_X9_167 (by decide) gs_s106 rfl ?_
          have b24 : (0 : Int) ≤ F13 106 13 ∧ F13 106 13 ≤ 400 := I19.1 106 13
          refine sA_iast (n := 6) dd_X9_goOn_75 (by decide) gs_s120 (by omega) (by decide) ?_
          have I26 : gs_I F13 (gs_up A14 120 x.toNat (F13 106 13)) := gs_I_ast I19 (show (0 : Int) ≤ F13 106 13 ∧ F13 106 13 ≤ 400 by omega)
          have f27 := gs_fr_ast f22 (a := 120) (z := F13 106 13) (i := x.toNat) (by first | omega | (dsimp only; omega) | (dsimp only))
          generalize gs_up A14 120 x.toNat (F13 106 13) = A25 at I26 f27 ⊢
          refine sA_iconst (z := 0) dd_X9_goOn_76 ?_
          refine sA_istore_n (lv' := [(3, gs_iv 0), (2, gs_iv x), (0, .ref 106), (1, gs_iv p)]) dd_X9_goOn_77 rfl (by decide) rfl ?_
          refine sA_sub (lv2 := [(3, gs_iv 0), (2, gs_iv x), (0, .ref 106), (1, gs_iv p)]) (List.forall_mem_cons.mpr ⟨(.head _), (List.forall_mem_cons.mpr ⟨(.tail _ (.head _)), (List.forall_mem_cons.mpr ⟨(.tail _ (.tail _ (.head _))), (List.forall_mem_cons.mpr ⟨(.tail _ (.tail _ (.tail _ (.head _)))), (fun _ h => absurd h List.not_mem_nil)⟩)⟩)⟩)⟩) ?_
          exact ih.2.2 x 0 F13 A25 I26 f27 (by omega) (by omega) (by omega) (by omega)
        · skip
          refine sA_iconst (z := 0) dd_X9_goOn_64 ?_
          refine sA_bret (z := 0) dd_X9_goOn_65 rfl (by omega) ?_
          exact ⟨_, rfl, I19, f22, by omega⟩
      · skip
        refine sA_aload_n dd_X9_goOn_32 rfl (.tail _ (.tail _ (.head _))) ?_
        refine sA_getr (ci := 9) (j := 12) (q := (RX9, TX9, 28)) dd_X9_goOn_33 rfl (by decide) fl_X9_31 (by decide) gs_s106 rfl ?_
        refine sA_iload_n dd_X9_goOn_36 rfl (.head _) ?_
        refine sA_aload_n dd_X9_goOn_37 rfl (.tail _ (.tail _ (.head _))) ?_
        refine sA_getr (ci := 9) (j := 25) (q := (RX9, TX9, 28)) dd_X9_goOn_38 rfl (by decide) fl_X9_50 (by decide) gs_s106 rfl ?_
        refine sA_sipush (z := 400) dd_X9_goOn_41 (by decide) ?_
        refine sA_iload_n dd_X9_goOn_44 rfl (.tail _ (.head _)) ?_
        refine sA_imul dd_X9_goOn_45 ?_
        refine sA_iload_n dd_X9_goOn_46 rfl (.head _) ?_
        refine sA_iadd dd_X9_goOn_47 ?_
        refine sA_iald (n := 2400) dd_X9_goOn_48 (by decide) gs_s119 (by omega) (by decide) ?_
        have b28 : (-9 : Int) ≤ A1 119 ((400 * x) + k).toNat ∧ A1 119 ((400 * x) + k).toNat ≤ 9 := hI1.2 119 ((400 * x) + k).toNat
        refine sA_iast (n := 401) dd_X9_goOn_49 (by decide) gs_s114 (by omega) (by decide) ?_
        have I30 : gs_I F1 (gs_up A1 114 k.toNat (A1 119 ((400 * x) + k).toNat)) := gs_I_ast hI1 (show (-9 : Int) ≤ A1 119 ((400 * x) + k).toNat ∧ A1 119 ((400 * x) + k).toNat ≤ 9 by omega)
        have f31 := gs_fr_ast hf1 (a := 114) (z := A1 119 ((400 * x) + k).toNat) (i := k.toNat) (by first | omega | (dsimp only; omega) | (dsimp only))
        generalize gs_up A1 114 k.toNat (A1 119 ((400 * x) + k).toNat) = A29 at I30 f31 ⊢
        refine sA_iinc (lv' := [(3, gs_iv (k + 1)), (2, gs_iv x), (0, .ref 106), (1, gs_iv p)]) dd_X9_goOn_50 (.head _) (by decide) rfl ?_
        refine sA_goto (tgt := 24) dd_X9_goOn_53 (by decide) ?_
        refine sA_sub (lv2 := [(3, gs_iv (k + 1)), (2, gs_iv x), (0, .ref 106), (1, gs_iv p)]) (List.forall_mem_cons.mpr ⟨(.head _), (List.forall_mem_cons.mpr ⟨(.tail _ (.head _)), (List.forall_mem_cons.mpr ⟨(.tail _ (.tail _ (.head _))), (List.forall_mem_cons.mpr ⟨(.tail _ (.tail _ (.tail _ (.head _)))), (fun _ h => absurd h List.not_mem_nil)⟩)⟩)⟩)⟩) ?_
        exact ih.2.1 x (k + 1) F1 A29 I30 f31 (by omega) (by omega) (by omega) (by omega)
    · skip
      intro x k F1 A1 hI1 hf1 i0 i1 i2 hm
      have b32 : (0 : Int) ≤ F1 106 13 ∧ F1 106 13 ≤ 400 := hI1.1 106 13
      have hb13 : (0 : Int) ≤ F1 106 13 ∧ F1 106 13 ≤ 400 := hI1.1 106 13
      refine sA_iload_n dd_X9_goOn_78 rfl (.head _) ?_
      refine sA_aload_n dd_X9_goOn_79 rfl (.tail _ (.tail _ (.head _))) ?_
      refine sA_geti (ci := 9) (j := 13) (q := (RX9, TX9, 28)) dd_X9_goOn_80 rfl (by decide) fl_X9_167 (by decide) gs_s106 rfl ?_
      refine sA_icmp_ge (tgt := 110) dd_X9_goOn_83 (by decide) (by omega) (by omega) (fun q33 => ?_) (fun q33 => ?_)
      · skip
        refine sA_iinc (lv' := [(2, gs_iv (x + 1)), (3, gs_iv k), (0, .ref 106), (1, gs_iv p)]) dd_X9_goOn_110 (.tail _ (.head _)) (by decide) rfl ?_
        refine sA_goto (tgt := 2) dd_X9_goOn_113 (by decide) ?_
        refine sA_sub (lv2 := [(2, gs_iv (x + 1)), (0, .ref 106), (1, gs_iv p)]) (List.forall_mem_cons.mpr ⟨(.head _), (List.forall_mem_cons.mpr ⟨(.tail _ (.tail _ (.head _))), (List.forall_mem_cons.mpr ⟨(.tail _ (.tail _ (.tail _ (.head _)))), (fun _ h => absurd h List.not_mem_nil)⟩)⟩)⟩) ?_
        exact ih.1 (x + 1) F1 A1 hI1 hf1 (by omega) (by omega)
      · skip
        refine sA_aload_n dd_X9_goOn_86 rfl (.tail _ (.tail _ (.head _))) ?_
        refine sA_getr (ci := 9) (j := 25) (q := (RX9, TX9, 28)) dd_X9_goOn_87 rfl (by decide) fl_X9_50 (by decide) gs_s106 rfl ?_
        refine sA_sipush (z := 400) dd_X9_goOn_90 (by decide) ?_
        refine sA_iload_n dd_X9_goOn_93 rfl (.tail _ (.head _)) ?_
        refine sA_imul dd_X9_goOn_94 ?_
        refine sA_iload_n dd_X9_goOn_95 rfl (.head _) ?_
        refine sA_iadd dd_X9_goOn_96 ?_
        refine sA_aload_n dd_X9_goOn_97 rfl (.tail _ (.tail _ (.head _))) ?_
        refine sA_getr (ci := 9) (j := 12) (q := (RX9, TX9, 28)) dd_X9_goOn_98 rfl (by decide) fl_X9_31 (by decide) gs_s106 rfl ?_
        refine sA_iload_n dd_X9_goOn_101 rfl (.head _) ?_
        refine sA_iald (n := 401) dd_X9_goOn_102 (by decide) gs_s114 (by omega) (by decide) ?_
        have b34 : (-9 : Int) ≤ A1 114 k.toNat ∧ A1 114 k.toNat ≤ 9 := hI1.2 114 k.toNat
        refine sA_iast (n := 2400) dd_X9_goOn_103 (by decide) gs_s119 (by omega) (by decide) ?_
        have I36 : gs_I F1 (gs_up A1 119 (((400 * x) + k).toNat) (A1 114 k.toNat)) := gs_I_ast hI1 (show (-9 : Int) ≤ A1 114 k.toNat ∧ A1 114 k.toNat ≤ 9 by omega)
        have f37 := gs_fr_ast hf1 (a := 119) (z := A1 114 k.toNat) (i := ((400 * x) + k).toNat) (by first | omega | (dsimp only; omega) | (dsimp only))
        generalize gs_up A1 119 (((400 * x) + k).toNat) (A1 114 k.toNat) = A35 at I36 f37 ⊢
        refine sA_iinc (lv' := [(3, gs_iv (k + 1)), (2, gs_iv x), (0, .ref 106), (1, gs_iv p)]) dd_X9_goOn_104 (.head _) (by decide) rfl ?_
        refine sA_goto (tgt := 78) dd_X9_goOn_107 (by decide) ?_
        refine sA_sub (lv2 := [(3, gs_iv (k + 1)), (2, gs_iv x), (0, .ref 106), (1, gs_iv p)]) (List.forall_mem_cons.mpr ⟨(.head _), (List.forall_mem_cons.mpr ⟨(.tail _ (.head _)), (List.forall_mem_cons.mpr ⟨(.tail _ (.tail _ (.head _))), (List.forall_mem_cons.mpr ⟨(.tail _ (.tail _ (.tail _ (.head _)))), (fun _ h => absurd h List.not_mem_nil)⟩)⟩)⟩)⟩) ?_
        exact ih.2.2 x (k + 1) F1 A35 I36 f37 (by omega) (by omega) (by omega) (by omega)
theorem c_X9_goOn {p : Int} {F A : gs_F} (hI : gs_I F A) (hp : 0 ≤ p ∧ p ≤ 8) : sC m_X9_goOn 6 [.ref 106, gs_iv p] F A (fun rv F' A' => ∃ z : Int, rv = some (gs_iv z) ∧ gs_I F' A' ∧ gs_fr (fun c j => c = 106 ∧ (j = 13 ∨ j = 15)) (fun c => c = 114 ∨ c = 115 ∨ c = 119 ∨ c = 120) F A F' A' ∧ (z = 0 ∨ z = 1)) := by
  refine sC_of ok_X9_goOn.1 (Nat.le_of_ble_eq_true rfl) ?_
  show sA _ _ _ 0 [(0, .ref 106), (1, gs_iv p)] [] F A
  have hf : gs_fr (fun c j => c = 106 ∧ (j = 13 ∨ j = 15)) (fun c => c = 114 ∨ c = 115 ∨ c = 119 ∨ c = 120) F A F A := gs_fr_refl _ _ _ _
  have b38 : (0 : Int) ≤ F 106 13 ∧ F 106 13 ≤ 400 := hI.1 106 13
  refine sA_iconst (z := 0) dd_X9_goOn_0 ?_
  refine sA_istore_n (lv' := [(2, gs_iv 0), (0, .ref 106), (1, gs_iv p)]) dd_X9_goOn_1 rfl (by decide) rfl ?_
  refine sA_sub (lv2 := [(2, gs_iv 0), (0, .ref 106), (1, gs_iv p)]) (List.forall_mem_cons.mpr ⟨(.head _), (List.forall_mem_cons.mpr ⟨(.tail _ (.head _)), (List.forall_mem_cons.mpr ⟨(.tail _ (.tail _ (.head _))), (fun _ h => absurd h List.not_mem_nil)⟩)⟩)⟩) ?_
  exact (k_X9_goOn hI hp ((6 - 0) * 2000 + 1 : Int).toNat.succ).1 0 F A hI hf (by omega) (by omega)
theorem dd_X9_findImages_0 : decode cX9_findImages 0 = .ok (.aload_n 0, 1) := by decide +kernel
theorem dd_X9_findImages_1 : decode cX9_findImages 1 = .ok (.invokevirtual 236, 3) := by decide +kernel
theorem dd_X9_findImages_4 : decode cX9_findImages 4 = .ok (.aload_n 0, 1) := by decide +kernel
theorem dd_X9_findImages_5 : decode cX9_findImages 5 = .ok (.iload_n 1, 1) := by decide +kernel
theorem dd_X9_findImages_6 : decode cX9_findImages 6 = .ok (.invokevirtual 239, 3) := by decide +kernel
theorem dd_X9_findImages_9 : decode cX9_findImages 9 = .ok (.ireturn, 1) := by decide +kernel
theorem ml_X9_236 : Cond.methodLink RX9 236 m_X9_startImages.1 ∈ am_tbl := ri_lw_in (pl := 1096) (by decide +kernel)
theorem ml_X9_239 : Cond.methodLink RX9 239 m_X9_goOn.1 ∈ am_tbl := ri_lw_in (pl := 1100) (by decide +kernel)
theorem ok_X9_findImages : am_okM m_X9_findImages 1 ∧ Cond.instanceMethod m_X9_findImages.1 ∈ am_tbl ∧ Cond.selects m_X9_findImages.1.cls m_X9_findImages.1 m_X9_findImages.1 ∈ am_tbl := ri_mk1 1095 93 1094 63 (by decide +kernel)
theorem c_X9_findImages {p : Int} {F A : gs_F} (hI : gs_I F A) (hp : 0 ≤ p ∧ p ≤ 8) : sC m_X9_findImages 7 [.ref 106, gs_iv p] F A (fun rv F' A' => ∃ z : Int, rv = some (gs_iv z) ∧ gs_I F' A' ∧ gs_fr (fun c j => c = 106 ∧ (j = 13 ∨ j = 15)) (fun c => c = 114 ∨ c = 115 ∨ c = 119 ∨ c = 120) F A F' A' ∧ (z = 0 ∨ z = 1)) := by
  refine sC_of ok_X9_findImages.1 (Nat.le_of_ble_eq_true rfl) ?_
  show sA _ _ _ 0 [(0, .ref 106), (1, gs_iv p)] [] F A
  have hf : gs_fr (fun c j => c = 106 ∧ (j = 13 ∨ j = 15)) (fun c => c = 114 ∨ c = 115 ∨ c = 119 ∨ c = 120) F A F A := gs_fr_refl _ _ _ _
  refine sA_aload_n dd_X9_findImages_0 rfl (.head _) ?_
  refine sA_callV (y2 := m_X9_startImages) (n2 := 0) (d2 := 1) (a := 106) (ci := 9) (q := (RX9, TX9, 28)) (as := []) (rest := []) dd_X9_findImages_1 ok_X9_startImages ml_X9_236 rfl rfl (by decide) gs_s106 rfl rfl (Nat.le_of_ble_eq_true rfl) (by decide) (c_X9_startImages hI ) (fun r1 F2 A3 h4 => ?_)
  obtain ⟨e6, I7, f8, x5⟩ := h4
  subst e6
  have f9 := gs_fr_tr hf f8 (fun b j h => by first | exact False.elim h | omega | (dsimp only at h ⊢; omega)) (fun b h => by first | exact False.elim h | omega | (dsimp only at h ⊢; omega))
  show sA _ _ _ 4 _ [] _ _
  refine sA_aload_n dd_X9_findImages_4 rfl (.head _) ?_
  refine sA_iload_n dd_X9_findImages_5 rfl (.tail _ (.head _)) ?_
  refine sA_callV (y2 := m_X9_goOn) (n2 := 1) (d2 := 6) (a := 106) (ci := 9) (q := (RX9, TX9, 28)) (as := [gs_iv p]) (rest := []) dd_X9_findImages_6 ok_X9_goOn ml_X9_239 rfl rfl (by decide) gs_s106 rfl rfl (Nat.le_of_ble_eq_true rfl) (by decide) (c_X9_goOn I7 (by omega)) (fun r10 F11 A12 h13 => ?_)
  obtain ⟨z16, e15, I17, f18, x14⟩ := h13
  subst e15
  have f19 := gs_fr_tr f9 f18 (fun b j h => by first | exact False.elim h | omega | (dsimp only at h ⊢; omega)) (fun b h => by first | exact False.elim h | omega | (dsimp only at h ⊢; omega))
  show sA _ _ _ 9 _ [gs_iv z16] _ _
  refine sA_bret (z := z16) dd_X9_findImages_9 rfl (by omega) ?_
  exact ⟨_, rfl, I17, f19, by omega⟩
theorem dd_X9_isImage_0 : decode cX9_isImage 0 = .ok (.aload_n 0, 1) := by decide +kernel
theorem dd_X9_isImage_1 : decode cX9_isImage 1 = .ok (.getfield 167, 3) := by decide +kernel
theorem dd_X9_isImage_4 : decode cX9_isImage 4 = .ok (.aload_n 0, 1) := by decide +kernel
theorem dd_X9_isImage_5 : decode cX9_isImage 5 = .ok (.getfield 53, 3) := by decide +kernel
theorem dd_X9_isImage_8 : decode cX9_isImage 8 = .ok (.iload_n 1, 1) := by decide +kernel
theorem dd_X9_isImage_9 : decode cX9_isImage 9 = .ok (.iaload, 1) := by decide +kernel
theorem dd_X9_isImage_10 : decode cX9_isImage 10 = .ok (.if_icmp .ne 7, 3) := by decide +kernel
theorem dd_X9_isImage_13 : decode cX9_isImage 13 = .ok (.iconst 1, 1) := by decide +kernel
theorem dd_X9_isImage_14 : decode cX9_isImage 14 = .ok (.goto 4, 3) := by decide +kernel
theorem dd_X9_isImage_17 : decode cX9_isImage 17 = .ok (.iconst 0, 1) := by decide +kernel
theorem dd_X9_isImage_18 : decode cX9_isImage 18 = .ok (.istore_n 2, 1) := by decide +kernel
theorem dd_X9_isImage_19 : decode cX9_isImage 19 = .ok (.iconst 0, 1) := by decide +kernel
theorem dd_X9_isImage_20 : decode cX9_isImage 20 = .ok (.istore_n 3, 1) := by decide +kernel
theorem dd_X9_isImage_21 : decode cX9_isImage 21 = .ok (.iload_n 3, 1) := by decide +kernel
theorem dd_X9_isImage_22 : decode cX9_isImage 22 = .ok (.aload_n 0, 1) := by decide +kernel
theorem dd_X9_isImage_23 : decode cX9_isImage 23 = .ok (.getfield 167, 3) := by decide +kernel
theorem dd_X9_isImage_26 : decode cX9_isImage 26 = .ok (.if_icmp .ge 40, 3) := by decide +kernel
theorem dd_X9_isImage_29 : decode cX9_isImage 29 = .ok (.iload_n 2, 1) := by decide +kernel
theorem dd_X9_isImage_30 : decode cX9_isImage 30 = .ok (.ifCond .eq 36, 3) := by decide +kernel
theorem dd_X9_isImage_33 : decode cX9_isImage 33 = .ok (.aload_n 0, 1) := by decide +kernel
theorem dd_X9_isImage_34 : decode cX9_isImage 34 = .ok (.getfield 31, 3) := by decide +kernel
theorem dd_X9_isImage_37 : decode cX9_isImage 37 = .ok (.iload_n 3, 1) := by decide +kernel
theorem dd_X9_isImage_38 : decode cX9_isImage 38 = .ok (.iaload, 1) := by decide +kernel
theorem dd_X9_isImage_39 : decode cX9_isImage 39 = .ok (.aload_n 0, 1) := by decide +kernel
theorem dd_X9_isImage_40 : decode cX9_isImage 40 = .ok (.getfield 50, 3) := by decide +kernel
theorem dd_X9_isImage_43 : decode cX9_isImage 43 = .ok (.sipush 400, 3) := by decide +kernel
theorem dd_X9_isImage_46 : decode cX9_isImage 46 = .ok (.iload_n 1, 1) := by decide +kernel
theorem dd_X9_isImage_47 : decode cX9_isImage 47 = .ok (.imul, 1) := by decide +kernel
theorem dd_X9_isImage_48 : decode cX9_isImage 48 = .ok (.iload_n 3, 1) := by decide +kernel
theorem dd_X9_isImage_49 : decode cX9_isImage 49 = .ok (.iadd, 1) := by decide +kernel
theorem dd_X9_isImage_50 : decode cX9_isImage 50 = .ok (.iaload, 1) := by decide +kernel
theorem dd_X9_isImage_51 : decode cX9_isImage 51 = .ok (.if_icmp .ne 7, 3) := by decide +kernel
theorem dd_X9_isImage_54 : decode cX9_isImage 54 = .ok (.iconst 1, 1) := by decide +kernel
theorem dd_X9_isImage_55 : decode cX9_isImage 55 = .ok (.goto 4, 3) := by decide +kernel
theorem dd_X9_isImage_58 : decode cX9_isImage 58 = .ok (.iconst 0, 1) := by decide +kernel
theorem dd_X9_isImage_59 : decode cX9_isImage 59 = .ok (.istore_n 2, 1) := by decide +kernel
theorem dd_X9_isImage_60 : decode cX9_isImage 60 = .ok (.iinc 3 1, 3) := by decide +kernel
theorem dd_X9_isImage_63 : decode cX9_isImage 63 = .ok (.goto (-42), 3) := by decide +kernel
theorem dd_X9_isImage_66 : decode cX9_isImage 66 = .ok (.iload_n 2, 1) := by decide +kernel
theorem dd_X9_isImage_67 : decode cX9_isImage 67 = .ok (.ireturn, 1) := by decide +kernel
theorem ok_X9_isImage : am_okM m_X9_isImage 1 ∧ Cond.instanceMethod m_X9_isImage.1 ∈ am_tbl ∧ Cond.selects m_X9_isImage.1.cls m_X9_isImage.1 m_X9_isImage.1 ∈ am_tbl := ri_mk1 1107 93 1106 66 (by decide +kernel)
theorem k_X9_isImage {x : Int} {F A : gs_F} (hI : gs_I F A) (hx : 0 ≤ x ∧ x < 6) : ∀ nN : Nat, (∀ (b : Int) (k : Int),  b = 0 ∨ b = 1 → 0 ≤ k ∧ k ≤ F 106 13 → F 106 13 - k < (nN : Int) → sA m_X9_isImage 1 (fun rv F' A' => ∃ z : Int, rv = some (gs_iv z) ∧ F = F' ∧ A = A' ∧ (z = 0 ∨ z = 1)) 21 [(3, gs_iv k), (2, gs_iv b), (0, .ref 106), (1, gs_iv x)] [] F A) := by
  intro nN
  induction nN with
  | zero =>
    exact fun a0 a1 i0 i1 hm => by exfalso; omega
  | succ nN ih =>
    intro b k i0 i1 hm
    refine sA_iload_n dd_X9_isImage_21 rfl (.head _) ?_
    refine sA_aload_n dd_X9_isImage_22 rfl (.tail _ (.tail _ (.head _))) ?_
    refine sA_geti (ci := 9) (j := 13) (q := (RX9, TX9, 28)) dd_X9_isImage_23 rfl (by decide) fl_X9_167 (by decide) gs_s106 rfl ?_
    have b1 : (0 : Int) ≤ F 106 13 ∧ F 106 13 ≤ 400 := hI.1 106 13
    refine sA_icmp_ge (tgt := 66) dd_X9_isImage_26 (by decide) (by omega) (by omega) (fun q2 => ?_) (fun q2 => ?_)
    · skip
      refine sA_iload_n dd_X9_isImage_66 rfl (.tail _ (.head _)) ?_
      refine sA_bret (z := b) dd_X9_isImage_67 rfl (by omega) ?_
      exact ⟨_, rfl, rfl, rfl, by omega⟩
    · skip
      refine sA_iload_n dd_X9_isImage_29 rfl (.tail _ (.head _)) ?_
      refine sA_if_eq (tgt := 66) dd_X9_isImage_30 (by decide) (by omega) (fun q3 => ?_) (fun q3 => ?_)
      · skip
        refine sA_iload_n dd_X9_isImage_66 rfl (.tail _ (.head _)) ?_
        refine sA_bret (z := b) dd_X9_isImage_67 rfl (by omega) ?_
        exact ⟨_, rfl, rfl, rfl, by omega⟩
      · skip
        refine sA_aload_n dd_X9_isImage_33 rfl (.tail _ (.tail _ (.head _))) ?_
        refine sA_getr (ci := 9) (j := 12) (q := (RX9, TX9, 28)) dd_X9_isImage_34 rfl (by decide) fl_X9_31 (by decide) gs_s106 rfl ?_
        refine sA_iload_n dd_X9_isImage_37 rfl (.head _) ?_
        refine sA_iald (n := 401) dd_X9_isImage_38 (by decide) gs_s114 (by omega) (by decide) ?_
        have b4 : (-9 : Int) ≤ A 114 k.toNat ∧ A 114 k.toNat ≤ 9 := hI.2 114 k.toNat
        refine sA_aload_n dd_X9_isImage_39 rfl (.tail _ (.tail _ (.head _))) ?_
        refine sA_getr (ci := 9) (j := 25) (q := (RX9, TX9, 28)) dd_X9_isImage_40 rfl (by decide) fl_X9_50 (by decide) gs_s106 rfl ?_
        refine sA_sipush (z := 400) dd_X9_isImage_43 (by decide) ?_
        refine sA_iload_n dd_X9_isImage_46 rfl (.tail _ (.tail _ (.tail _ (.head _)))) ?_
        refine sA_imul dd_X9_isImage_47 ?_
        refine sA_iload_n dd_X9_isImage_48 rfl (.head _) ?_
        refine sA_iadd dd_X9_isImage_49 ?_
        refine sA_iald (n := 2400) dd_X9_isImage_50 (by decide) gs_s119 (by omega) (by decide) ?_
        have b5 : (-9 : Int) ≤ A 119 ((400 * x) + k).toNat ∧ A 119 ((400 * x) + k).toNat ≤ 9 := hI.2 119 ((400 * x) + k).toNat
        refine sA_icmp_ne (tgt := 58) dd_X9_isImage_51 (by decide) (by omega) (by omega) (fun q6 => ?_) (fun q6 => ?_)
        · skip
          refine sA_iconst (z := 0) dd_X9_isImage_58 ?_
          refine sA_istore_n (lv' := [(2, gs_iv 0), (3, gs_iv k), (0, .ref 106), (1, gs_iv x)]) dd_X9_isImage_59 rfl (by decide) rfl ?_
          refine sA_iinc (lv' := [(3, gs_iv (k + 1)), (2, gs_iv 0), (0, .ref 106), (1, gs_iv x)]) dd_X9_isImage_60 (.tail _ (.head _)) (by decide) rfl ?_
          refine sA_goto (tgt := 21) dd_X9_isImage_63 (by decide) ?_
          refine sA_sub (lv2 := [(3, gs_iv (k + 1)), (2, gs_iv 0), (0, .ref 106), (1, gs_iv x)]) (List.forall_mem_cons.mpr ⟨(.head _), (List.forall_mem_cons.mpr ⟨(.tail _ (.head _)), (List.forall_mem_cons.mpr ⟨(.tail _ (.tail _ (.head _))), (List.forall_mem_cons.mpr ⟨(.tail _ (.tail _ (.tail _ (.head _)))), (fun _ h => absurd h List.not_mem_nil)⟩)⟩)⟩)⟩) ?_
          exact ih 0 (k + 1)  (by omega) (by omega) (by omega)
        · skip
          refine sA_iconst (z := 1) dd_X9_isImage_54 ?_
          refine sA_goto (tgt := 59) dd_X9_isImage_55 (by decide) ?_
          refine sA_istore_n (lv' := [(2, gs_iv 1), (3, gs_iv k), (0, .ref 106), (1, gs_iv x)]) dd_X9_isImage_59 rfl (by decide) rfl ?_
          refine sA_iinc (lv' := [(3, gs_iv (k + 1)), (2, gs_iv 1), (0, .ref 106), (1, gs_iv x)]) dd_X9_isImage_60 (.tail _ (.head _)) (by decide) rfl ?_
          refine sA_goto (tgt := 21) dd_X9_isImage_63 (by decide) ?_
          refine sA_sub (lv2 := [(3, gs_iv (k + 1)), (2, gs_iv 1), (0, .ref 106), (1, gs_iv x)]) (List.forall_mem_cons.mpr ⟨(.head _), (List.forall_mem_cons.mpr ⟨(.tail _ (.head _)), (List.forall_mem_cons.mpr ⟨(.tail _ (.tail _ (.head _))), (List.forall_mem_cons.mpr ⟨(.tail _ (.tail _ (.tail _ (.head _)))), (fun _ h => absurd h List.not_mem_nil)⟩)⟩)⟩)⟩) ?_
          exact ih 1 (k + 1)  (by omega) (by omega) (by omega)
theorem c_X9_isImage {x : Int} {F A : gs_F} (hI : gs_I F A) (hx : 0 ≤ x ∧ x < 6) : sC m_X9_isImage 1 [.ref 106, gs_iv x] F A (fun rv F' A' => ∃ z : Int, rv = some (gs_iv z) ∧ F = F' ∧ A = A' ∧ (z = 0 ∨ z = 1)) := by
  refine sC_of ok_X9_isImage.1 (Nat.le_of_ble_eq_true rfl) ?_
  show sA _ _ _ 0 [(0, .ref 106), (1, gs_iv x)] [] F A
  refine sA_aload_n dd_X9_isImage_0 rfl (.head _) ?_
  refine sA_geti (ci := 9) (j := 13) (q := (RX9, TX9, 28)) dd_X9_isImage_1 rfl (by decide) fl_X9_167 (by decide) gs_s106 rfl ?_
  have b7 : (0 : Int) ≤ F 106 13 ∧ F 106 13 ≤ 400 := hI.1 106 13
  refine sA_aload_n dd_X9_isImage_4 rfl (.head _) ?_
  refine sA_getr (ci := 9) (j := 26) (q := (RX9, TX9, 28)) dd_X9_isImage_5 rfl (by decide) fl_X9_53 (by decide) gs_s106 rfl ?_
  refine sA_iload_n dd_X9_isImage_8 rfl (.tail _ (.head _)) ?_
  refine sA_iald (n := 6) dd_X9_isImage_9 (by decide) gs_s120 (by omega) (by decide) ?_
  have b8 : (0 : Int) ≤ A 120 x.toNat ∧ A 120 x.toNat ≤ 400 := hI.2 120 x.toNat
  refine sA_icmp_ne (tgt := 17) dd_X9_isImage_10 (by decide) (by omega) (by omega) (fun q9 => ?_) (fun q9 => ?_)
  · skip
    refine sA_iconst (z := 0) dd_X9_isImage_17 ?_
    refine sA_istore_n (lv' := [(2, gs_iv 0), (0, .ref 106), (1, gs_iv x)]) dd_X9_isImage_18 rfl (by decide) rfl ?_
    refine sA_iconst (z := 0) dd_X9_isImage_19 ?_
    refine sA_istore_n (lv' := [(3, gs_iv 0), (2, gs_iv 0), (0, .ref 106), (1, gs_iv x)]) dd_X9_isImage_20 rfl (by decide) rfl ?_
    refine sA_sub (lv2 := [(3, gs_iv 0), (2, gs_iv 0), (0, .ref 106), (1, gs_iv x)]) (List.forall_mem_cons.mpr ⟨(.head _), (List.forall_mem_cons.mpr ⟨(.tail _ (.head _)), (List.forall_mem_cons.mpr ⟨(.tail _ (.tail _ (.head _))), (List.forall_mem_cons.mpr ⟨(.tail _ (.tail _ (.tail _ (.head _)))), (fun _ h => absurd h List.not_mem_nil)⟩)⟩)⟩)⟩) ?_
    exact (k_X9_isImage hI hx (F 106 13 - 0 : Int).toNat.succ) 0 0  (by omega) (by omega) (by omega)
  · skip
    refine sA_iconst (z := 1) dd_X9_isImage_13 ?_
    refine sA_goto (tgt := 18) dd_X9_isImage_14 (by decide) ?_
    refine sA_istore_n (lv' := [(2, gs_iv 1), (0, .ref 106), (1, gs_iv x)]) dd_X9_isImage_18 rfl (by decide) rfl ?_
    refine sA_iconst (z := 0) dd_X9_isImage_19 ?_
    refine sA_istore_n (lv' := [(3, gs_iv 0), (2, gs_iv 1), (0, .ref 106), (1, gs_iv x)]) dd_X9_isImage_20 rfl (by decide) rfl ?_
    refine sA_sub (lv2 := [(3, gs_iv 0), (2, gs_iv 1), (0, .ref 106), (1, gs_iv x)]) (List.forall_mem_cons.mpr ⟨(.head _), (List.forall_mem_cons.mpr ⟨(.tail _ (.head _)), (List.forall_mem_cons.mpr ⟨(.tail _ (.tail _ (.head _))), (List.forall_mem_cons.mpr ⟨(.tail _ (.tail _ (.tail _ (.head _)))), (fun _ h => absurd h List.not_mem_nil)⟩)⟩)⟩)⟩) ?_
    exact (k_X9_isImage hI hx (F 106 13 - 0 : Int).toNat.succ) 1 0  (by omega) (by omega) (by omega)
theorem dd_X9_same_0 : decode cX9_same 0 = .ok (.aload_n 0, 1) := by decide +kernel
theorem dd_X9_same_1 : decode cX9_same 1 = .ok (.iload_n 1, 1) := by decide +kernel
theorem dd_X9_same_2 : decode cX9_same 2 = .ok (.invokevirtual 218, 3) := by decide +kernel
theorem dd_X9_same_5 : decode cX9_same 5 = .ok (.ifCond .ne 11, 3) := by decide +kernel
theorem dd_X9_same_8 : decode cX9_same 8 = .ok (.aload_n 0, 1) := by decide +kernel
theorem dd_X9_same_9 : decode cX9_same 9 = .ok (.iload_n 2, 1) := by decide +kernel
theorem dd_X9_same_10 : decode cX9_same 10 = .ok (.invokevirtual 218, 3) := by decide +kernel
theorem dd_X9_same_13 : decode cX9_same 13 = .ok (.ifCond .eq 7, 3) := by decide +kernel
theorem dd_X9_same_16 : decode cX9_same 16 = .ok (.sipush (-1001), 3) := by decide +kernel
theorem dd_X9_same_19 : decode cX9_same 19 = .ok (.ireturn, 1) := by decide +kernel
theorem dd_X9_same_20 : decode cX9_same 20 = .ok (.aload_n 0, 1) := by decide +kernel
theorem dd_X9_same_21 : decode cX9_same 21 = .ok (.iload_n 1, 1) := by decide +kernel
theorem dd_X9_same_22 : decode cX9_same 22 = .ok (.invokevirtual 242, 3) := by decide +kernel
theorem dd_X9_same_25 : decode cX9_same 25 = .ok (.ifCond .ne 7, 3) := by decide +kernel
theorem dd_X9_same_28 : decode cX9_same 28 = .ok (.sipush (-1005), 3) := by decide +kernel
theorem dd_X9_same_31 : decode cX9_same 31 = .ok (.ireturn, 1) := by decide +kernel
theorem dd_X9_same_32 : decode cX9_same 32 = .ok (.iconst (-1), 1) := by decide +kernel
theorem dd_X9_same_33 : decode cX9_same 33 = .ok (.istore_n 3, 1) := by decide +kernel
theorem dd_X9_same_34 : decode cX9_same 34 = .ok (.iconst 2, 1) := by decide +kernel
theorem dd_X9_same_35 : decode cX9_same 35 = .ok (.aload_n 0, 1) := by decide +kernel
theorem dd_X9_same_36 : decode cX9_same 36 = .ok (.getfield 64, 3) := by decide +kernel
theorem dd_X9_same_39 : decode cX9_same 39 = .ok (.imul, 1) := by decide +kernel
theorem dd_X9_same_40 : decode cX9_same 40 = .ok (.iconst 1, 1) := by decide +kernel
theorem dd_X9_same_41 : decode cX9_same 41 = .ok (.isub, 1) := by decide +kernel
theorem dd_X9_same_42 : decode cX9_same 42 = .ok (.istore 4, 2) := by decide +kernel
theorem dd_X9_same_44 : decode cX9_same 44 = .ok (.iload 4, 2) := by decide +kernel
theorem dd_X9_same_46 : decode cX9_same 46 = .ok (.ifCond .lt 47, 3) := by decide +kernel
theorem dd_X9_same_49 : decode cX9_same 49 = .ok (.aload_n 0, 1) := by decide +kernel
theorem dd_X9_same_50 : decode cX9_same 50 = .ok (.iload 4, 2) := by decide +kernel
theorem dd_X9_same_52 : decode cX9_same 52 = .ok (.iconst 1, 1) := by decide +kernel
theorem dd_X9_same_53 : decode cX9_same 53 = .ok (.iadd, 1) := by decide +kernel
theorem dd_X9_same_54 : decode cX9_same 54 = .ok (.invokevirtual 224, 3) := by decide +kernel
theorem dd_X9_same_57 : decode cX9_same 57 = .ok (.aload_n 0, 1) := by decide +kernel
theorem dd_X9_same_58 : decode cX9_same 58 = .ok (.iload_n 2, 1) := by decide +kernel
theorem dd_X9_same_59 : decode cX9_same 59 = .ok (.invokevirtual 227, 3) := by decide +kernel
theorem dd_X9_same_62 : decode cX9_same 62 = .ok (.ifCond .ne 7, 3) := by decide +kernel
theorem dd_X9_same_65 : decode cX9_same 65 = .ok (.sipush (-1005), 3) := by decide +kernel
theorem dd_X9_same_68 : decode cX9_same 68 = .ok (.ireturn, 1) := by decide +kernel
theorem dd_X9_same_69 : decode cX9_same 69 = .ok (.aload_n 0, 1) := by decide +kernel
theorem dd_X9_same_70 : decode cX9_same 70 = .ok (.iload 4, 2) := by decide +kernel
theorem dd_X9_same_72 : decode cX9_same 72 = .ok (.invokevirtual 245, 3) := by decide +kernel
theorem dd_X9_same_75 : decode cX9_same 75 = .ok (.ifCond .eq 7, 3) := by decide +kernel
theorem dd_X9_same_78 : decode cX9_same 78 = .ok (.iload_n 3, 1) := by decide +kernel
theorem dd_X9_same_79 : decode cX9_same 79 = .ok (.goto 7, 3) := by decide +kernel
theorem dd_X9_same_82 : decode cX9_same 82 = .ok (.iload 4, 2) := by decide +kernel
theorem dd_X9_same_84 : decode cX9_same 84 = .ok (.iconst 1, 1) := by decide +kernel
theorem dd_X9_same_85 : decode cX9_same 85 = .ok (.iadd, 1) := by decide +kernel
theorem dd_X9_same_86 : decode cX9_same 86 = .ok (.istore_n 3, 1) := by decide +kernel
theorem dd_X9_same_87 : decode cX9_same 87 = .ok (.iinc 4 (-1), 3) := by decide +kernel
theorem dd_X9_same_90 : decode cX9_same 90 = .ok (.goto (-46), 3) := by decide +kernel
theorem dd_X9_same_93 : decode cX9_same 93 = .ok (.iload_n 3, 1) := by decide +kernel
theorem dd_X9_same_94 : decode cX9_same 94 = .ok (.ireturn, 1) := by decide +kernel
theorem ml_X9_242 : Cond.methodLink RX9 242 m_X9_findImages.1 ∈ am_tbl := ri_lw_in (pl := 1092) (by decide +kernel)
theorem ml_X9_245 : Cond.methodLink RX9 245 m_X9_isImage.1 ∈ am_tbl := ri_lw_in (pl := 1104) (by decide +kernel)
theorem ok_X9_same : am_okM m_X9_same 2 ∧ Cond.instanceMethod m_X9_same.1 ∈ am_tbl ∧ Cond.selects m_X9_same.1.cls m_X9_same.1 m_X9_same.1 ∈ am_tbl := ri_mk1 1091 93 1089 1090 (by decide +kernel)
theorem k_X9_same {p q : Int} {F A : gs_F} (hI : gs_I F A) (hp : -2147483648 ≤ p ∧ p ≤ 2147483647) (hq : -2147483648 ≤ q ∧ q ≤ 2147483647) : ∀ nN : Nat, (∀ (f : Int) (x : Int)  (F1 A1 : gs_F), gs_I F1 A1 → gs_fr (fun c j => c = 106 ∧ (j = 13 ∨ j = 15)) (fun c => c = 114 ∨ c = 115 ∨ c = 119 ∨ c = 120) F A F1 A1 → 0 ≤ q ∧ q ≤ 7 → -1 ≤ x ∧ x ≤ 5 → -1 ≤ f ∧ f ≤ 6 → x + 1 < (nN : Int) → sA m_X9_same 8 (fun rv F' A' => ∃ z : Int, rv = some (gs_iv z) ∧ gs_I F' A' ∧ gs_fr (fun c j => c = 106 ∧ (j = 13 ∨ j = 15)) (fun c => c = 114 ∨ c = 115 ∨ c = 119 ∨ c = 120) F A F' A' ∧ (True)) 44 [(4, gs_iv x), (3, gs_iv f), (0, .ref 106), (2, gs_iv q)] [] F1 A1) := by
  intro nN
  induction nN with
  | zero =>
    exact fun a0 a1 a2 a3 a4 a5 i0 i1 i2 hm => by exfalso; omega
  | succ nN ih =>
    intro f x F1 A1 hI1 hf1 i0 i1 i2 hm
    refine sA_iload dd_X9_same_44 (.head _) ?_
    refine sA_if_lt (tgt := 93) dd_X9_same_46 (by decide) (by omega) (fun q1 => ?_) (fun q1 => ?_)
    · skip
      refine sA_iload_n dd_X9_same_93 rfl (.tail _ (.head _)) ?_
      refine sA_iret (z := f) dd_X9_same_94 rfl ?_
      exact ⟨_, rfl, hI1, hf1, trivial⟩
    · skip
      refine sA_aload_n dd_X9_same_49 rfl (.tail _ (.tail _ (.head _))) ?_
      refine sA_iload dd_X9_same_50 (.head _) ?_
      refine sA_iconst (z := 1) dd_X9_same_52 ?_
      refine sA_iadd dd_X9_same_53 ?_
      refine sA_callV (y2 := m_X9_takeLetter) (n2 := 1) (d2 := 1) (a := 106) (ci := 9) (q := (RX9, TX9, 28)) (as := [gs_iv (x + 1)]) (rest := []) dd_X9_same_54 ok_X9_takeLetter ml_X9_224 rfl rfl (by decide) gs_s106 rfl rfl (Nat.le_of_ble_eq_true rfl) (by decide) (c_X9_takeLetter hI1 (by omega)) (fun r2 F3 A4 h5 => ?_)
      obtain ⟨e7, I8, f9, x6⟩ := h5
      subst e7
      have f10 := gs_fr_tr hf1 f9 (fun b j h => by first | exact False.elim h | omega | (dsimp only at h ⊢; omega)) (fun b h => by first | exact False.elim h | omega | (dsimp only at h ⊢; omega))
      show sA _ _ _ 57 _ [] _ _
      refine sA_aload_n dd_X9_same_57 rfl (.tail _ (.tail _ (.head _))) ?_
      refine sA_iload_n dd_X9_same_58 rfl (.tail _ (.tail _ (.tail _ (.head _)))) ?_
      refine sA_callV (y2 := m_X9_imageRow) (n2 := 1) (d2 := 5) (a := 106) (ci := 9) (q := (RX9, TX9, 28)) (as := [gs_iv q]) (rest := []) dd_X9_same_59 ok_X9_imageRow ml_X9_227 rfl rfl (by decide) gs_s106 rfl rfl (Nat.le_of_ble_eq_true rfl) (by decide) (c_X9_imageRow I8 (by omega)) (fun r11 F12 A13 h14 => ?_)
      obtain ⟨z17, e16, I18, f19, x15⟩ := h14
      subst e16
      have f20 := gs_fr_tr f10 f19 (fun b j h => by first | exact False.elim h | omega | (dsimp only at h ⊢; omega)) (fun b h => by first | exact False.elim h | omega | (dsimp only at h ⊢; omega))
      show sA _ _ _ 62 _ [gs_iv z17] _ _
      refine sA_if_ne (tgt := 69) dd_X9_same_62 (by decide) (by omega) (fun q21 => ?_) (fun q21 => ?_)
      · skip
        refine sA_aload_n dd_X9_same_69 rfl (.tail _ (.tail _ (.head _))) ?_
        refine sA_iload dd_X9_same_70 (.head _) ?_
        refine sA_callV (y2 := m_X9_isImage) (n2 := 1) (d2 := 1) (a := 106) (ci := 9) (q := (RX9, TX9, 28)) (as := [gs_iv x]) (rest := []) dd_X9_same_72 ok_X9_isImage ml_X9_245 rfl rfl (by decide) gs_s106 rfl rfl (Nat.le_of_ble_eq_true rfl) (by decide) (c_X9_isImage I18 (by omega)) (fun r22 F23 A24 h25 => ?_)
        obtain ⟨z28, e27, e29, e30, x26⟩ := h25
        subst e27 e29 e30
        show sA _ _ _ 75 _ [gs_iv z28] _ _
        refine sA_if_eq (tgt := 82) dd_X9_same_75 (by decide) (by omega) (fun q31 => ?_) (fun q31 => ?_)
        · skip
          refine sA_iload dd_X9_same_82 (.head _) ?_
          refine sA_iconst (z := 1) dd_X9_same_84 ?_
          refine sA_iadd dd_X9_same_85 ?_
          refine sA_istore_n (lv' := [(3, gs_iv (x + 1)), (4, gs_iv x), (0, .ref 106), (2, gs_iv q)]) dd_X9_same_86 rfl (by decide) rfl ?_
          refine sA_iinc (lv' := [(4, gs_iv (x + (-1))), (3, gs_iv (x + 1)), (0, .ref 106), (2, gs_iv q)]) dd_X9_same_87 (.tail _ (.head _)) (by decide) rfl ?_
          refine sA_goto (tgt := 44) dd_X9_same_90 (by decide) ?_
          refine sA_sub (lv2 := [(4, gs_iv (x + (-1))), (3, gs_iv (x + 1)), (0, .ref 106), (2, gs_iv q)]) (List.forall_mem_cons.mpr ⟨(.head _), (List.forall_mem_cons.mpr ⟨(.tail _ (.head _)), (List.forall_mem_cons.mpr ⟨(.tail _ (.tail _ (.head _))), (List.forall_mem_cons.mpr ⟨(.tail _ (.tail _ (.tail _ (.head _)))), (fun _ h => absurd h List.not_mem_nil)⟩)⟩)⟩)⟩) ?_
          exact ih (x + 1) (x + (-1)) F12 A13 I18 f20 (by omega) (by omega) (by omega) (by omega)
        · skip
          refine sA_iload_n dd_X9_same_78 rfl (.tail _ (.head _)) ?_
          refine sA_goto (tgt := 86) dd_X9_same_79 (by decide) ?_
          refine sA_istore_n (lv' := [(3, gs_iv f), (4, gs_iv x), (0, .ref 106), (2, gs_iv q)]) dd_X9_same_86 rfl (by decide) rfl ?_
          refine sA_iinc (lv' := [(4, gs_iv (x + (-1))), (3, gs_iv f), (0, .ref 106), (2, gs_iv q)]) dd_X9_same_87 (.tail _ (.head _)) (by decide) rfl ?_
          refine sA_goto (tgt := 44) dd_X9_same_90 (by decide) ?_
          refine sA_sub (lv2 := [(4, gs_iv (x + (-1))), (3, gs_iv f), (0, .ref 106), (2, gs_iv q)]) (List.forall_mem_cons.mpr ⟨(.head _), (List.forall_mem_cons.mpr ⟨(.tail _ (.head _)), (List.forall_mem_cons.mpr ⟨(.tail _ (.tail _ (.head _))), (List.forall_mem_cons.mpr ⟨(.tail _ (.tail _ (.tail _ (.head _)))), (fun _ h => absurd h List.not_mem_nil)⟩)⟩)⟩)⟩) ?_
          exact ih f (x + (-1)) F12 A13 I18 f20 (by omega) (by omega) (by omega) (by omega)
      · skip
        refine sA_sipush (z := (-1005)) dd_X9_same_65 (by decide) ?_
        refine sA_iret (z := -1005) dd_X9_same_68 rfl ?_
        exact ⟨_, rfl, I18, f20, trivial⟩
theorem c_X9_same {p q : Int} {F A : gs_F} (hI : gs_I F A) (hp : -2147483648 ≤ p ∧ p ≤ 2147483647) (hq : -2147483648 ≤ q ∧ q ≤ 2147483647) : sC m_X9_same 8 [.ref 106, gs_iv p, gs_iv q] F A (fun rv F' A' => ∃ z : Int, rv = some (gs_iv z) ∧ gs_I F' A' ∧ gs_fr (fun c j => c = 106 ∧ (j = 13 ∨ j = 15)) (fun c => c = 114 ∨ c = 115 ∨ c = 119 ∨ c = 120) F A F' A' ∧ (True)) := by
  refine sC_of ok_X9_same.1 (Nat.le_of_ble_eq_true rfl) ?_
  show sA _ _ _ 0 [(0, .ref 106), (1, gs_iv p), (2, gs_iv q)] [] F A
  have hf : gs_fr (fun c j => c = 106 ∧ (j = 13 ∨ j = 15)) (fun c => c = 114 ∨ c = 115 ∨ c = 119 ∨ c = 120) F A F A := gs_fr_refl _ _ _ _
  refine sA_aload_n dd_X9_same_0 rfl (.head _) ?_
  refine sA_iload_n dd_X9_same_1 rfl (.tail _ (.head _)) ?_
  refine sA_callV (y2 := m_X9_noPlan) (n2 := 1) (d2 := 2) (a := 106) (ci := 9) (q := (RX9, TX9, 28)) (as := [gs_iv p]) (rest := []) dd_X9_same_2 ok_X9_noPlan ml_X9_218 rfl rfl (by decide) gs_s106 rfl rfl (Nat.le_of_ble_eq_true rfl) (by decide) (c_X9_noPlan hI (by omega)) (fun r32 F33 A34 h35 => ?_)
  obtain ⟨z38, e37, e39, e40, x36⟩ := h35
  subst e37 e39 e40
  show sA _ _ _ 5 _ [gs_iv z38] _ _
  refine sA_if_ne (tgt := 16) dd_X9_same_5 (by decide) (by omega) (fun q41 => ?_) (fun q41 => ?_)
  · skip
    refine sA_sipush (z := (-1001)) dd_X9_same_16 (by decide) ?_
    refine sA_iret (z := -1001) dd_X9_same_19 rfl ?_
    exact ⟨_, rfl, hI, hf, trivial⟩
  · skip
    refine sA_aload_n dd_X9_same_8 rfl (.head _) ?_
    refine sA_iload_n dd_X9_same_9 rfl (.tail _ (.tail _ (.head _))) ?_
    refine sA_callV (y2 := m_X9_noPlan) (n2 := 1) (d2 := 2) (a := 106) (ci := 9) (q := (RX9, TX9, 28)) (as := [gs_iv q]) (rest := []) dd_X9_same_10 ok_X9_noPlan ml_X9_218 rfl rfl (by decide) gs_s106 rfl rfl (Nat.le_of_ble_eq_true rfl) (by decide) (c_X9_noPlan hI (by omega)) (fun r42 F43 A44 h45 => ?_)
    obtain ⟨z48, e47, e49, e50, x46⟩ := h45
    subst e47 e49 e50
    show sA _ _ _ 13 _ [gs_iv z48] _ _
    refine sA_if_eq (tgt := 20) dd_X9_same_13 (by decide) (by omega) (fun q51 => ?_) (fun q51 => ?_)
    · skip
      refine sA_aload_n dd_X9_same_20 rfl (.head _) ?_
      refine sA_iload_n dd_X9_same_21 rfl (.tail _ (.head _)) ?_
      refine sA_callV (y2 := m_X9_findImages) (n2 := 1) (d2 := 7) (a := 106) (ci := 9) (q := (RX9, TX9, 28)) (as := [gs_iv p]) (rest := []) dd_X9_same_22 ok_X9_findImages ml_X9_242 rfl rfl (by decide) gs_s106 rfl rfl (Nat.le_of_ble_eq_true rfl) (by decide) (c_X9_findImages hI (by omega)) (fun r52 F53 A54 h55 => ?_)
      obtain ⟨z58, e57, I59, f60, x56⟩ := h55
      subst e57
      have f61 := gs_fr_tr hf f60 (fun b j h => by first | exact False.elim h | omega | (dsimp only at h ⊢; omega)) (fun b h => by first | exact False.elim h | omega | (dsimp only at h ⊢; omega))
      show sA _ _ _ 25 _ [gs_iv z58] _ _
      refine sA_if_ne (tgt := 32) dd_X9_same_25 (by decide) (by omega) (fun q62 => ?_) (fun q62 => ?_)
      · skip
        refine sA_iconst (z := (-1)) dd_X9_same_32 ?_
        refine sA_istore_n (lv' := [(3, gs_iv (-1)), (0, .ref 106), (1, gs_iv p), (2, gs_iv q)]) dd_X9_same_33 rfl (by decide) rfl ?_
        refine sA_iconst (z := 2) dd_X9_same_34 ?_
        refine sA_aload_n dd_X9_same_35 rfl (.tail _ (.head _)) ?_
        refine sA_geti (ci := 9) (j := 0) (q := (RX9, TX9, 28)) dd_X9_same_36 rfl (by decide) fl_X9_64 (by decide) gs_s106 rfl ?_
        have b63 : (1 : Int) ≤ F53 106 0 ∧ F53 106 0 ≤ 3 := I59.1 106 0
        refine sA_imul dd_X9_same_39 ?_
        refine sA_iconst (z := 1) dd_X9_same_40 ?_
        refine sA_isub dd_X9_same_41 ?_
        refine sA_istore (lv' := [(4, gs_iv ((2 * (F53 106 0)) - 1)), (3, gs_iv (-1)), (0, .ref 106), (1, gs_iv p), (2, gs_iv q)]) dd_X9_same_42 (by decide) rfl ?_
        refine sA_sub (lv2 := [(4, gs_iv ((2 * (F53 106 0)) - 1)), (3, gs_iv (-1)), (0, .ref 106), (2, gs_iv q)]) (List.forall_mem_cons.mpr ⟨(.head _), (List.forall_mem_cons.mpr ⟨(.tail _ (.head _)), (List.forall_mem_cons.mpr ⟨(.tail _ (.tail _ (.head _))), (List.forall_mem_cons.mpr ⟨(.tail _ (.tail _ (.tail _ (.tail _ (.head _))))), (fun _ h => absurd h List.not_mem_nil)⟩)⟩)⟩)⟩) ?_
        exact (k_X9_same hI hp hq (((2 * (F53 106 0)) - 1) + 1 : Int).toNat.succ) (-1) ((2 * (F53 106 0)) - 1) F53 A54 I59 f61 (by omega) (by omega) (by omega) (by omega)
      · skip
        refine sA_sipush (z := (-1005)) dd_X9_same_28 (by decide) ?_
        refine sA_iret (z := -1005) dd_X9_same_31 rfl ?_
        exact ⟨_, rfl, I59, f61, trivial⟩
    · skip
      refine sA_sipush (z := (-1001)) dd_X9_same_16 (by decide) ?_
      refine sA_iret (z := -1001) dd_X9_same_19 rfl ?_
      exact ⟨_, rfl, hI, hf, trivial⟩
end
