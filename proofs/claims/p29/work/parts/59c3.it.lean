noncomputable section
theorem c_X9_readItem_vf {c0 : Int} {s0 : rd_S} {st kd kb : Int} {F A : gs_F} (hI : gs_I F A) (hc : -2147483648 ≤ c0 ∧ c0 ≤ 2147483647) (hh : F 106 18 < F 106 17) (hO : (0 < F 106 22 → A 117 0 ≤ F 106 24) ∧ (1 < F 106 22 → A 117 1 ≤ F 106 24) ∧ (2 < F 106 22 → A 117 2 ≤ F 106 24) ∧ (3 < F 106 22 → A 117 3 ≤ F 106 24)) (h19 : F 106 19 = 0) (h20 : F 106 20 = -1) (h0 : rd_good (F 106 0) s0) (hc1 : A 116 (F 106 18).toNat = c0) (h32 : c0 ≠ 32) (hst : st = 0 ∨ (st = 2 ∧ c0 ≠ 45)) (hrd : rd (F 106 0) (A 116) s0 (F 106 18).toNat = (0, 0, st, kd, kb, F 106 22, F 106 24, A 118, A 117)) : sC m_X9_readItem 4 [.ref 106, gs_iv c0] F A (fun rv F' A' => rv = none ∧ gs_I F' A' ∧ gs_fr (fun c j => c = 106 ∧ (j = 18 ∨ j = 19 ∨ j = 20 ∨ j = 22 ∨ j = 24)) (fun c => c = 117 ∨ c = 118) F A F' A' ∧ ((F 106 18 + 1 ≤ F' 106 18 ∨ 1 ≤ F' 106 19) ∧ F 106 18 ≤ F' 106 18 ∧ (0 < F' 106 22 → A' 117 0 ≤ F' 106 24) ∧ (1 < F' 106 22 → A' 117 1 ≤ F' 106 24) ∧ (2 < F' 106 22 → A' 117 2 ≤ F' 106 24) ∧ (3 < F' 106 22 → A' 117 3 ≤ F' 106 24) ∧ rd_md (F 106 0) (A 116) s0 F' A' ∧ F' 106 17 = F 106 17)) := by
  refine sC_of ok_X9_readItem.1 (Nat.le_of_ble_eq_true rfl) ?_
  show sA _ _ _ 0 [(0, .ref 106), (1, gs_iv c0)] [] F A
  have hf : gs_fr (fun c j => c = 106 ∧ (j = 18 ∨ j = 19 ∨ j = 20 ∨ j = 22 ∨ j = 24)) (fun c => c = 117 ∨ c = 118) F A F A := gs_fr_refl _ _ _ _
  have b1 : (0 : Int) ≤ F 106 18 ∧ F 106 18 ≤ 120 := hI.1 106 18
  have b2 : (0 : Int) ≤ F 106 17 ∧ F 106 17 ≤ 120 := hI.1 106 17
  have b3 : (0 : Int) ≤ F 106 19 ∧ F 106 19 ≤ 4 := hI.1 106 19
  have b4 : (-2147483648 : Int) ≤ F 106 20 ∧ F 106 20 ≤ 2147483647 := hI.1 106 20
  have b5 : (0 : Int) ≤ F 106 24 ∧ F 106 24 ≤ 60 := hI.1 106 24
  have b6 : (0 : Int) ≤ F 106 22 ∧ F 106 22 ≤ 4 := hI.1 106 22
  have b7 : (1 : Int) ≤ F 106 0 ∧ F 106 0 ≤ 3 := hI.1 106 0
  have u8 : A 118 = A 118 := rfl
  have u9 : A 116 = A 116 := rfl
  have u10 : A 117 = A 117 := rfl
  have hb22 : (0 : Int) ≤ F 106 22 ∧ F 106 22 ≤ 4 := hI.1 106 22
  have hb17 : (0 : Int) ≤ F 106 17 ∧ F 106 17 ≤ 120 := hI.1 106 17
  have hb18 : (0 : Int) ≤ F 106 18 ∧ F 106 18 ≤ 120 := hI.1 106 18
  refine sA_iload_n dd_X9_readItem_0 rfl (.tail _ (.head _)) ?_
  refine sA_bipush (z := 97) dd_X9_readItem_1 (by decide) ?_
  refine sA_icmp_eq (tgt := 18) dd_X9_readItem_3 (by decide) (by omega) (by omega) (fun q11 => ?_) (fun q11 => ?_)
  · skip
    refine sA_aload_n dd_X9_readItem_18 rfl (.head _) ?_
    refine sA_iload_n dd_X9_readItem_19 rfl (.tail _ (.head _)) ?_
    refine sA_bipush (z := 97) dd_X9_readItem_20 (by decide) ?_
    have hrd2 : rd (F 106 0) (A 116) s0 (F 106 18).toNat = (0, 0, st, kd, kb, F 106 22, F 106 24, A 118, A 117) := by
      rw [show F 106 0 = F 106 0 by omega, show F 106 18 = F 106 18 by omega, show F 106 22 = F 106 22 by omega, show F 106 24 = F 106 24 by omega, u9, u10, u8]
      exact hrd
    have hc2 : A 116 (F 106 18).toNat = A 116 (F 106 18).toNat := by rw [show F 106 18 = F 106 18 by omega, u9]
    have h02 : rd_good (F 106 0) s0 := by rw [show F 106 0 = F 106 0 by omega]; exact h0
    refine sA_isub dd_X9_readItem_22 ?_
    refine sA_callV (y2 := m_X9_readTwist) (n2 := 1) (d2 := 3) (a := 106) (ci := 9) (q := (RX9, TX9, 28)) (as := [gs_iv (c0 - 97)]) (rest := []) dd_X9_readItem_23 ok_X9_readTwist ml_X9_212 rfl rfl (by decide) gs_s106 rfl rfl (Nat.le_of_ble_eq_true rfl) (by decide) (c_X9_readTwist_vf hI (by omega) (by omega) (by omega) (by omega) h02 (by omega) (by omega) hrd2) (fun r12 F13 A14 h15 => ?_)
    obtain ⟨e17, I18, f19, x16⟩ := h15
    subst e17
    have v21 : F13 106 17 = F 106 17 := f19.1 106 17 (by first | exact id | omega | (dsimp only; omega) | (dsimp only) | fail)
    have v25 : F13 106 22 = F 106 22 := f19.1 106 22 (by first | exact id | omega | (dsimp only; omega) | (dsimp only) | fail)
    have v26 : F13 106 0 = F 106 0 := f19.1 106 0 (by first | exact id | omega | (dsimp only; omega) | (dsimp only) | fail)
    have v27 : A14 117 0 = A 117 0 := congrFun (f19.2 117 (by first | exact id | omega | (dsimp only; omega) | (dsimp only) | fail)) _
    have v28 : A14 117 1 = A 117 1 := congrFun (f19.2 117 (by first | exact id | omega | (dsimp only; omega) | (dsimp only) | fail)) _
    have v29 : A14 117 2 = A 117 2 := congrFun (f19.2 117 (by first | exact id | omega | (dsimp only; omega) | (dsimp only) | fail)) _
    have v30 : A14 117 3 = A 117 3 := congrFun (f19.2 117 (by first | exact id | omega | (dsimp only; omega) | (dsimp only) | fail)) _
    have f31 := gs_fr_tr hf f19 (fun b j h => by first | exact False.elim h | omega | (dsimp only at h ⊢; omega) | fail) (fun b h => by first | exact False.elim h | omega | (dsimp only at h ⊢; omega) | fail)
    have u32 : A14 118 = A14 118 := rfl
    have u33 : A14 116 = A 116 := (f19.2 116 (by first | exact id | omega | (dsimp only; omega) | (dsimp only) | fail)).trans u9
    have u34 : A14 117 = A 117 := (f19.2 117 (by first | exact id | omega | (dsimp only; omega) | (dsimp only) | fail)).trans u10
    have y35 : (F 106 18 + 1 ≤ F13 106 18 ∨ 1 ≤ F13 106 19) ∧ F 106 18 ≤ F13 106 18 ∧ F 106 24 ≤ F13 106 24 ∧ rd_md (F 106 0) (A 116) s0 F13 A14 ∧ F13 106 17 = F 106 17 := x16
    clear x16
    show sA _ _ _ 26 _ [] _ _
    refine sA_goto (tgt := 130) dd_X9_readItem_26 (by decide) ?_
    refine sA_vret dd_X9_readItem_130 rfl ?_
    refine ⟨rfl, I18, f31, ?_⟩
    refine ⟨by omega, by omega, by omega, by omega, by omega, by omega, ?_, by omega⟩
    have y := y35.2.2.2.1
    rw [show F 106 0 = F 106 0 by omega] at y
    exact y
  · skip
    refine sA_iload_n dd_X9_readItem_6 rfl (.tail _ (.head _)) ?_
    refine sA_bipush (z := 98) dd_X9_readItem_7 (by decide) ?_
    refine sA_icmp_eq (tgt := 18) dd_X9_readItem_9 (by decide) (by omega) (by omega) (fun q36 => ?_) (fun q36 => ?_)
    · skip
      refine sA_aload_n dd_X9_readItem_18 rfl (.head _) ?_
      refine sA_iload_n dd_X9_readItem_19 rfl (.tail _ (.head _)) ?_
      refine sA_bipush (z := 97) dd_X9_readItem_20 (by decide) ?_
      have hrd2 : rd (F 106 0) (A 116) s0 (F 106 18).toNat = (0, 0, st, kd, kb, F 106 22, F 106 24, A 118, A 117) := by
        rw [show F 106 0 = F 106 0 by omega, show F 106 18 = F 106 18 by omega, show F 106 22 = F 106 22 by omega, show F 106 24 = F 106 24 by omega, u9, u10, u8]
        exact hrd
      have hc2 : A 116 (F 106 18).toNat = A 116 (F 106 18).toNat := by rw [show F 106 18 = F 106 18 by omega, u9]
      have h02 : rd_good (F 106 0) s0 := by rw [show F 106 0 = F 106 0 by omega]; exact h0
      refine sA_isub dd_X9_readItem_22 ?_
      refine sA_callV (y2 := m_X9_readTwist) (n2 := 1) (d2 := 3) (a := 106) (ci := 9) (q := (RX9, TX9, 28)) (as := [gs_iv (c0 - 97)]) (rest := []) dd_X9_readItem_23 ok_X9_readTwist ml_X9_212 rfl rfl (by decide) gs_s106 rfl rfl (Nat.le_of_ble_eq_true rfl) (by decide) (c_X9_readTwist_vf hI (by omega) (by omega) (by omega) (by omega) h02 (by omega) (by omega) hrd2) (fun r37 F38 A39 h40 => ?_)
      obtain ⟨e42, I43, f44, x41⟩ := h40
      subst e42
      have v46 : F38 106 17 = F 106 17 := f44.1 106 17 (by first | exact id | omega | (dsimp only; omega) | (dsimp only) | fail)
      have v50 : F38 106 22 = F 106 22 := f44.1 106 22 (by first | exact id | omega | (dsimp only; omega) | (dsimp only) | fail)
      have v51 : F38 106 0 = F 106 0 := f44.1 106 0 (by first | exact id | omega | (dsimp only; omega) | (dsimp only) | fail)
      have v52 : A39 117 0 = A 117 0 := congrFun (f44.2 117 (by first | exact id | omega | (dsimp only; omega) | (dsimp only) | fail)) _
      have v53 : A39 117 1 = A 117 1 := congrFun (f44.2 117 (by first | exact id | omega | (dsimp only; omega) | (dsimp only) | fail)) _
      have v54 : A39 117 2 = A 117 2 := congrFun (f44.2 117 (by first | exact id | omega | (dsimp only; omega) | (dsimp only) | fail)) _
      have v55 : A39 117 3 = A 117 3 := congrFun (f44.2 117 (by first | exact id | omega | (dsimp only; omega) | (dsimp only) | fail)) _
      have f56 := gs_fr_tr hf f44 (fun b j h => by first | exact False.elim h | omega | (dsimp only at h ⊢; omega) | fail) (fun b h => by first | exact False.elim h | omega | (dsimp only at h ⊢; omega) | fail)
      have u57 : A39 118 = A39 118 := rfl
      have u58 : A39 116 = A 116 := (f44.2 116 (by first | exact id | omega | (dsimp only; omega) | (dsimp only) | fail)).trans u9
      have u59 : A39 117 = A 117 := (f44.2 117 (by first | exact id | omega | (dsimp only; omega) | (dsimp only) | fail)).trans u10
      have y60 : (F 106 18 + 1 ≤ F38 106 18 ∨ 1 ≤ F38 106 19) ∧ F 106 18 ≤ F38 106 18 ∧ F 106 24 ≤ F38 106 24 ∧ rd_md (F 106 0) (A 116) s0 F38 A39 ∧ F38 106 17 = F 106 17 := x41
      clear x41
      show sA _ _ _ 26 _ [] _ _
      refine sA_goto (tgt := 130) dd_X9_readItem_26 (by decide) ?_
      refine sA_vret dd_X9_readItem_130 rfl ?_
      refine ⟨rfl, I43, f56, ?_⟩
      refine ⟨by omega, by omega, by omega, by omega, by omega, by omega, ?_, by omega⟩
      have y := y60.2.2.2.1
      rw [show F 106 0 = F 106 0 by omega] at y
      exact y
    · skip
      refine sA_iload_n dd_X9_readItem_12 rfl (.tail _ (.head _)) ?_
      refine sA_bipush (z := 99) dd_X9_readItem_13 (by decide) ?_
      refine sA_icmp_ne (tgt := 29) dd_X9_readItem_15 (by decide) (by omega) (by omega) (fun q61 => ?_) (fun q61 => ?_)
      · skip
        refine sA_iload_n dd_X9_readItem_29 rfl (.tail _ (.head _)) ?_
        refine sA_bipush (z := 40) dd_X9_readItem_30 (by decide) ?_
        refine sA_icmp_ne (tgt := 96) dd_X9_readItem_32 (by decide) (by omega) (by omega) (fun q62 => ?_) (fun q62 => ?_)
        · skip
          refine sA_aload_n dd_X9_readItem_96 rfl (.head _) ?_
          refine sA_iload_n dd_X9_readItem_97 rfl (.tail _ (.head _)) ?_
          refine sA_bipush (z := 41) dd_X9_readItem_98 (by decide) ?_
          refine sA_icmp_ne (tgt := 114) dd_X9_readItem_100 (by decide) (by omega) (by omega) (fun q63 => ?_) (fun q63 => ?_)
          · skip
            refine sA_iconst (z := 0) dd_X9_readItem_114 ?_
            refine sA_iconst (z := 1) dd_X9_readItem_115 ?_
            refine sA_aload_n dd_X9_readItem_116 rfl (.head _) ?_
            refine sA_geti (ci := 9) (j := 18) (q := (RX9, TX9, 28)) dd_X9_readItem_117 rfl (by decide) fl_X9_186 (by decide) gs_s106 rfl ?_
            refine sA_callV (y2 := m_X9_want) (n2 := 3) (d2 := 1) (a := 106) (ci := 9) (q := (RX9, TX9, 28)) (as := [gs_iv 0, gs_iv 1, gs_iv (F 106 18)]) (rest := []) dd_X9_readItem_120 ok_X9_want ml_X9_199 rfl rfl (by decide) gs_s106 rfl rfl (Nat.le_of_ble_eq_true rfl) (by decide) (c_X9_want_vf hI (by omega) (by omega) (by omega)) (fun r64 F65 A66 h67 => ?_)
            obtain ⟨z70, e69, I71, f72, x68⟩ := h67
            subst e69
            have v73 : F65 106 18 = F 106 18 := f72.1 106 18 (by first | exact id | omega | (dsimp only; omega) | (dsimp only) | fail)
            have v74 : F65 106 17 = F 106 17 := f72.1 106 17 (by first | exact id | omega | (dsimp only; omega) | (dsimp only) | fail)
            have v77 : F65 106 24 = F 106 24 := f72.1 106 24 (by first | exact id | omega | (dsimp only; omega) | (dsimp only) | fail)
            have v78 : F65 106 22 = F 106 22 := f72.1 106 22 (by first | exact id | omega | (dsimp only; omega) | (dsimp only) | fail)
            have v79 : F65 106 0 = F 106 0 := f72.1 106 0 (by first | exact id | omega | (dsimp only; omega) | (dsimp only) | fail)
            have v80 : A66 117 0 = A 117 0 := congrFun (f72.2 117 (by first | exact id | omega | (dsimp only; omega) | (dsimp only) | fail)) _
            have v81 : A66 117 1 = A 117 1 := congrFun (f72.2 117 (by first | exact id | omega | (dsimp only; omega) | (dsimp only) | fail)) _
            have v82 : A66 117 2 = A 117 2 := congrFun (f72.2 117 (by first | exact id | omega | (dsimp only; omega) | (dsimp only) | fail)) _
            have v83 : A66 117 3 = A 117 3 := congrFun (f72.2 117 (by first | exact id | omega | (dsimp only; omega) | (dsimp only) | fail)) _
            have f84 := gs_fr_tr hf f72 (fun b j h => by first | exact False.elim h | omega | (dsimp only at h ⊢; omega) | fail) (fun b h => by first | exact False.elim h | omega | (dsimp only at h ⊢; omega) | fail)
            have u85 : A66 118 = A 118 := (f72.2 118 (by first | exact id | omega | (dsimp only; omega) | (dsimp only) | fail)).trans u8
            have u86 : A66 116 = A 116 := (f72.2 116 (by first | exact id | omega | (dsimp only; omega) | (dsimp only) | fail)).trans u9
            have u87 : A66 117 = A 117 := (f72.2 117 (by first | exact id | omega | (dsimp only; omega) | (dsimp only) | fail)).trans u10
            have y88 : (F 106 19 = 0 ∧ (0 : Int) = 0 ∧ z70 = 0 ∧ F65 106 19 = (1 : Int) ∧ F65 106 20 = (F 106 18)) ∨ (F 106 19 = 0 ∧ (0 : Int) = 1 ∧ z70 = 1 ∧ F65 106 19 = 0 ∧ F65 106 20 = F 106 20) ∨ (F 106 19 ≠ 0 ∧ z70 = 0 ∧ F65 106 19 = F 106 19 ∧ F65 106 20 = F 106 20) := x68
            clear x68
            show sA _ _ _ 123 _ [gs_iv z70] _ _
            refine sA_if_eq (tgt := 130) dd_X9_readItem_123 (by decide) (by omega) (fun q89 => ?_) (fun q89 => ?_)
            · skip
              refine sA_vret dd_X9_readItem_130 rfl ?_
              refine ⟨rfl, I71, f84, ?_⟩
              refine ⟨by omega, by omega, by omega, by omega, by omega, by omega, ?_, by omega⟩
              refine .inr ⟨by omega, ?_⟩
              rw [show F65 106 17 = F 106 17 by omega, show F65 106 19 = 1 by omega, show F65 106 20 = F 106 18 by omega]
              exact rd_else_bad (by omega) hh hrd (by omega) (by omega) (by omega) (by omega) (by omega)
            · skip
              have hoo : A66 117 (F65 106 22 - 1).toNat ≤ F65 106 24 := by
                rcases (show F65 106 22 = 1 ∨ F65 106 22 = 2 ∨ F65 106 22 = 3 ∨ F65 106 22 = 4 by omega) with e | e | e | e
                · have e2 : (F65 106 22 - 1).toNat = 0 := by omega
                  rw [e2]; omega
                · have e2 : (F65 106 22 - 1).toNat = 1 := by omega
                  rw [e2]; omega
                · have e2 : (F65 106 22 - 1).toNat = 2 := by omega
                  rw [e2]; omega
                · have e2 : (F65 106 22 - 1).toNat = 3 := by omega
                  rw [e2]; omega
              have hrd2 : rd (F65 106 0) (A66 116) s0 (F65 106 18).toNat = (0, 0, st, kd, kb, F65 106 22, F65 106 24, A66 118, A66 117) := by
                rw [show F65 106 0 = F 106 0 by omega, show F65 106 18 = F 106 18 by omega, show F65 106 22 = F 106 22 by omega, show F65 106 24 = F 106 24 by omega, u86, u87, u85]
                exact hrd
              have hc2 : A66 116 (F65 106 18).toNat = A 116 (F 106 18).toNat := by rw [show F65 106 18 = F 106 18 by omega, u86]
              have h02 : rd_good (F65 106 0) s0 := by rw [show F65 106 0 = F 106 0 by omega]; exact h0
              refine sA_aload_n dd_X9_readItem_126 rfl (.head _) ?_
              refine sA_callV (y2 := m_X9_closeBracket) (n2 := 0) (d2 := 3) (a := 106) (ci := 9) (q := (RX9, TX9, 28)) (as := []) (rest := []) dd_X9_readItem_127 ok_X9_closeBracket ml_X9_215 rfl rfl (by decide) gs_s106 rfl rfl (Nat.le_of_ble_eq_true rfl) (by decide) (c_X9_closeBracket_vf I71 (by omega) (by omega) (by omega) (by omega) (by omega) h02 (by omega) (by omega) hrd2) (fun r90 F91 A92 h93 => ?_)
              obtain ⟨e95, I96, f97, x94⟩ := h93
              subst e95
              have v99 : F91 106 17 = F65 106 17 := f97.1 106 17 (by first | exact id | omega | (dsimp only; omega) | (dsimp only) | fail)
              have v104 : F91 106 0 = F65 106 0 := f97.1 106 0 (by first | exact id | omega | (dsimp only; omega) | (dsimp only) | fail)
              have v105 : A92 117 0 = A66 117 0 := congrFun (f97.2 117 (by first | exact id | omega | (dsimp only; omega) | (dsimp only) | fail)) _
              have v106 : A92 117 1 = A66 117 1 := congrFun (f97.2 117 (by first | exact id | omega | (dsimp only; omega) | (dsimp only) | fail)) _
              have v107 : A92 117 2 = A66 117 2 := congrFun (f97.2 117 (by first | exact id | omega | (dsimp only; omega) | (dsimp only) | fail)) _
              have v108 : A92 117 3 = A66 117 3 := congrFun (f97.2 117 (by first | exact id | omega | (dsimp only; omega) | (dsimp only) | fail)) _
              have f109 := gs_fr_tr f84 f97 (fun b j h => by first | exact False.elim h | omega | (dsimp only at h ⊢; omega) | fail) (fun b h => by first | exact False.elim h | omega | (dsimp only at h ⊢; omega) | fail)
              have u110 : A92 118 = A92 118 := rfl
              have u111 : A92 116 = A 116 := (f97.2 116 (by first | exact id | omega | (dsimp only; omega) | (dsimp only) | fail)).trans u86
              have u112 : A92 117 = A 117 := (f97.2 117 (by first | exact id | omega | (dsimp only; omega) | (dsimp only) | fail)).trans u87
              have y113 : (F65 106 18 + 1 ≤ F91 106 18 ∨ 1 ≤ F91 106 19) ∧ F65 106 18 ≤ F91 106 18 ∧ F65 106 24 ≤ F91 106 24 ∧ F91 106 22 ≤ F65 106 22 ∧ rd_md (F65 106 0) (A66 116) s0 F91 A92 ∧ F91 106 17 = F65 106 17 := x94
              clear x94
              show sA _ _ _ 130 _ [] _ _
              refine sA_vret dd_X9_readItem_130 rfl ?_
              refine ⟨rfl, I96, f109, ?_⟩
              refine ⟨by omega, by omega, by omega, by omega, by omega, by omega, ?_, by omega⟩
              have y := y113.2.2.2.2.1
              rw [show F65 106 0 = F 106 0 by omega, u86] at y
              exact y
          · skip
            refine sA_aload_n dd_X9_readItem_103 rfl (.head _) ?_
            refine sA_geti (ci := 9) (j := 22) (q := (RX9, TX9, 28)) dd_X9_readItem_104 rfl (by decide) fl_X9_209 (by decide) gs_s106 rfl ?_
            refine sA_if_le (tgt := 114) dd_X9_readItem_107 (by decide) (by omega) (fun q114 => ?_) (fun q114 => ?_)
            · skip
              refine sA_iconst (z := 0) dd_X9_readItem_114 ?_
              refine sA_iconst (z := 1) dd_X9_readItem_115 ?_
              refine sA_aload_n dd_X9_readItem_116 rfl (.head _) ?_
              refine sA_geti (ci := 9) (j := 18) (q := (RX9, TX9, 28)) dd_X9_readItem_117 rfl (by decide) fl_X9_186 (by decide) gs_s106 rfl ?_
              refine sA_callV (y2 := m_X9_want) (n2 := 3) (d2 := 1) (a := 106) (ci := 9) (q := (RX9, TX9, 28)) (as := [gs_iv 0, gs_iv 1, gs_iv (F 106 18)]) (rest := []) dd_X9_readItem_120 ok_X9_want ml_X9_199 rfl rfl (by decide) gs_s106 rfl rfl (Nat.le_of_ble_eq_true rfl) (by decide) (c_X9_want_vf hI (by omega) (by omega) (by omega)) (fun r115 F116 A117 h118 => ?_)
              obtain ⟨z121, e120, I122, f123, x119⟩ := h118
              subst e120
              have v124 : F116 106 18 = F 106 18 := f123.1 106 18 (by first | exact id | omega | (dsimp only; omega) | (dsimp only) | fail)
              have v125 : F116 106 17 = F 106 17 := f123.1 106 17 (by first | exact id | omega | (dsimp only; omega) | (dsimp only) | fail)
              have v128 : F116 106 24 = F 106 24 := f123.1 106 24 (by first | exact id | omega | (dsimp only; omega) | (dsimp only) | fail)
              have v129 : F116 106 22 = F 106 22 := f123.1 106 22 (by first | exact id | omega | (dsimp only; omega) | (dsimp only) | fail)
              have v130 : F116 106 0 = F 106 0 := f123.1 106 0 (by first | exact id | omega | (dsimp only; omega) | (dsimp only) | fail)
              have v131 : A117 117 0 = A 117 0 := congrFun (f123.2 117 (by first | exact id | omega | (dsimp only; omega) | (dsimp only) | fail)) _
              have v132 : A117 117 1 = A 117 1 := congrFun (f123.2 117 (by first | exact id | omega | (dsimp only; omega) | (dsimp only) | fail)) _
              have v133 : A117 117 2 = A 117 2 := congrFun (f123.2 117 (by first | exact id | omega | (dsimp only; omega) | (dsimp only) | fail)) _
              have v134 : A117 117 3 = A 117 3 := congrFun (f123.2 117 (by first | exact id | omega | (dsimp only; omega) | (dsimp only) | fail)) _
              have f135 := gs_fr_tr hf f123 (fun b j h => by first | exact False.elim h | omega | (dsimp only at h ⊢; omega) | fail) (fun b h => by first | exact False.elim h | omega | (dsimp only at h ⊢; omega) | fail)
              have u136 : A117 118 = A 118 := (f123.2 118 (by first | exact id | omega | (dsimp only; omega) | (dsimp only) | fail)).trans u8
              have u137 : A117 116 = A 116 := (f123.2 116 (by first | exact id | omega | (dsimp only; omega) | (dsimp only) | fail)).trans u9
              have u138 : A117 117 = A 117 := (f123.2 117 (by first | exact id | omega | (dsimp only; omega) | (dsimp only) | fail)).trans u10
              have y139 : (F 106 19 = 0 ∧ (0 : Int) = 0 ∧ z121 = 0 ∧ F116 106 19 = (1 : Int) ∧ F116 106 20 = (F 106 18)) ∨ (F 106 19 = 0 ∧ (0 : Int) = 1 ∧ z121 = 1 ∧ F116 106 19 = 0 ∧ F116 106 20 = F 106 20) ∨ (F 106 19 ≠ 0 ∧ z121 = 0 ∧ F116 106 19 = F 106 19 ∧ F116 106 20 = F 106 20) := x119
              clear x119
              show sA _ _ _ 123 _ [gs_iv z121] _ _
              refine sA_if_eq (tgt := 130) dd_X9_readItem_123 (by decide) (by omega) (fun q140 => ?_) (fun q140 => ?_)
              · skip
                refine sA_vret dd_X9_readItem_130 rfl ?_
                refine ⟨rfl, I122, f135, ?_⟩
                refine ⟨by omega, by omega, by omega, by omega, by omega, by omega, ?_, by omega⟩
                refine .inr ⟨by omega, ?_⟩
                rw [show F116 106 17 = F 106 17 by omega, show F116 106 19 = 1 by omega, show F116 106 20 = F 106 18 by omega]
                exact rd_else_bad (by omega) hh hrd (by omega) (by omega) (by omega) (by omega) (by omega)
              · skip
                have hoo : A117 117 (F116 106 22 - 1).toNat ≤ F116 106 24 := by
                  rcases (show F116 106 22 = 1 ∨ F116 106 22 = 2 ∨ F116 106 22 = 3 ∨ F116 106 22 = 4 by omega) with e | e | e | e
                  · have e2 : (F116 106 22 - 1).toNat = 0 := by omega
                    rw [e2]; omega
                  · have e2 : (F116 106 22 - 1).toNat = 1 := by omega
                    rw [e2]; omega
                  · have e2 : (F116 106 22 - 1).toNat = 2 := by omega
                    rw [e2]; omega
                  · have e2 : (F116 106 22 - 1).toNat = 3 := by omega
                    rw [e2]; omega
                have hrd2 : rd (F116 106 0) (A117 116) s0 (F116 106 18).toNat = (0, 0, st, kd, kb, F116 106 22, F116 106 24, A117 118, A117 117) := by
                  rw [show F116 106 0 = F 106 0 by omega, show F116 106 18 = F 106 18 by omega, show F116 106 22 = F 106 22 by omega, show F116 106 24 = F 106 24 by omega, u137, u138, u136]
                  exact hrd
                have hc2 : A117 116 (F116 106 18).toNat = A 116 (F 106 18).toNat := by rw [show F116 106 18 = F 106 18 by omega, u137]
                have h02 : rd_good (F116 106 0) s0 := by rw [show F116 106 0 = F 106 0 by omega]; exact h0
                refine sA_aload_n dd_X9_readItem_126 rfl (.head _) ?_
                refine sA_callV (y2 := m_X9_closeBracket) (n2 := 0) (d2 := 3) (a := 106) (ci := 9) (q := (RX9, TX9, 28)) (as := []) (rest := []) dd_X9_readItem_127 ok_X9_closeBracket ml_X9_215 rfl rfl (by decide) gs_s106 rfl rfl (Nat.le_of_ble_eq_true rfl) (by decide) (c_X9_closeBracket_vf I122 (by omega) (by omega) (by omega) (by omega) (by omega) h02 (by omega) (by omega) hrd2) (fun r141 F142 A143 h144 => ?_)
                obtain ⟨e146, I147, f148, x145⟩ := h144
                subst e146
                have v150 : F142 106 17 = F116 106 17 := f148.1 106 17 (by first | exact id | omega | (dsimp only; omega) | (dsimp only) | fail)
                have v155 : F142 106 0 = F116 106 0 := f148.1 106 0 (by first | exact id | omega | (dsimp only; omega) | (dsimp only) | fail)
                have v156 : A143 117 0 = A117 117 0 := congrFun (f148.2 117 (by first | exact id | omega | (dsimp only; omega) | (dsimp only) | fail)) _
                have v157 : A143 117 1 = A117 117 1 := congrFun (f148.2 117 (by first | exact id | omega | (dsimp only; omega) | (dsimp only) | fail)) _
                have v158 : A143 117 2 = A117 117 2 := congrFun (f148.2 117 (by first | exact id | omega | (dsimp only; omega) | (dsimp only) | fail)) _
                have v159 : A143 117 3 = A117 117 3 := congrFun (f148.2 117 (by first | exact id | omega | (dsimp only; omega) | (dsimp only) | fail)) _
                have f160 := gs_fr_tr f135 f148 (fun b j h => by first | exact False.elim h | omega | (dsimp only at h ⊢; omega) | fail) (fun b h => by first | exact False.elim h | omega | (dsimp only at h ⊢; omega) | fail)
                have u161 : A143 118 = A143 118 := rfl
                have u162 : A143 116 = A 116 := (f148.2 116 (by first | exact id | omega | (dsimp only; omega) | (dsimp only) | fail)).trans u137
                have u163 : A143 117 = A 117 := (f148.2 117 (by first | exact id | omega | (dsimp only; omega) | (dsimp only) | fail)).trans u138
                have y164 : (F116 106 18 + 1 ≤ F142 106 18 ∨ 1 ≤ F142 106 19) ∧ F116 106 18 ≤ F142 106 18 ∧ F116 106 24 ≤ F142 106 24 ∧ F142 106 22 ≤ F116 106 22 ∧ rd_md (F116 106 0) (A117 116) s0 F142 A143 ∧ F142 106 17 = F116 106 17 := x145
                clear x145
                show sA _ _ _ 130 _ [] _ _
                refine sA_vret dd_X9_readItem_130 rfl ?_
                refine ⟨rfl, I147, f160, ?_⟩
                refine ⟨by omega, by omega, by omega, by omega, by omega, by omega, ?_, by omega⟩
                have y := y164.2.2.2.2.1
                rw [show F116 106 0 = F 106 0 by omega, u137] at y
                exact y
            · skip
              refine sA_iconst (z := 1) dd_X9_readItem_110 ?_
              refine sA_goto (tgt := 115) dd_X9_readItem_111 (by decide) ?_
              refine sA_iconst (z := 1) dd_X9_readItem_115 ?_
              refine sA_aload_n dd_X9_readItem_116 rfl (.head _) ?_
              refine sA_geti (ci := 9) (j := 18) (q := (RX9, TX9, 28)) dd_X9_readItem_117 rfl (by decide) fl_X9_186 (by decide) gs_s106 rfl ?_
              refine sA_callV (y2 := m_X9_want) (n2 := 3) (d2 := 1) (a := 106) (ci := 9) (q := (RX9, TX9, 28)) (as := [gs_iv 1, gs_iv 1, gs_iv (F 106 18)]) (rest := []) dd_X9_readItem_120 ok_X9_want ml_X9_199 rfl rfl (by decide) gs_s106 rfl rfl (Nat.le_of_ble_eq_true rfl) (by decide) (c_X9_want_vf hI (by omega) (by omega) (by omega)) (fun r165 F166 A167 h168 => ?_)
              obtain ⟨z171, e170, I172, f173, x169⟩ := h168
              subst e170
              have v174 : F166 106 18 = F 106 18 := f173.1 106 18 (by first | exact id | omega | (dsimp only; omega) | (dsimp only) | fail)
              have v175 : F166 106 17 = F 106 17 := f173.1 106 17 (by first | exact id | omega | (dsimp only; omega) | (dsimp only) | fail)
              have v178 : F166 106 24 = F 106 24 := f173.1 106 24 (by first | exact id | omega | (dsimp only; omega) | (dsimp only) | fail)
              have v179 : F166 106 22 = F 106 22 := f173.1 106 22 (by first | exact id | omega | (dsimp only; omega) | (dsimp only) | fail)
              have v180 : F166 106 0 = F 106 0 := f173.1 106 0 (by first | exact id | omega | (dsimp only; omega) | (dsimp only) | fail)
              have v181 : A167 117 0 = A 117 0 := congrFun (f173.2 117 (by first | exact id | omega | (dsimp only; omega) | (dsimp only) | fail)) _
              have v182 : A167 117 1 = A 117 1 := congrFun (f173.2 117 (by first | exact id | omega | (dsimp only; omega) | (dsimp only) | fail)) _
              have v183 : A167 117 2 = A 117 2 := congrFun (f173.2 117 (by first | exact id | omega | (dsimp only; omega) | (dsimp only) | fail)) _
              have v184 : A167 117 3 = A 117 3 := congrFun (f173.2 117 (by first | exact id | omega | (dsimp only; omega) | (dsimp only) | fail)) _
              have f185 := gs_fr_tr hf f173 (fun b j h => by first | exact False.elim h | omega | (dsimp only at h ⊢; omega) | fail) (fun b h => by first | exact False.elim h | omega | (dsimp only at h ⊢; omega) | fail)
              have u186 : A167 118 = A 118 := (f173.2 118 (by first | exact id | omega | (dsimp only; omega) | (dsimp only) | fail)).trans u8
              have u187 : A167 116 = A 116 := (f173.2 116 (by first | exact id | omega | (dsimp only; omega) | (dsimp only) | fail)).trans u9
              have u188 : A167 117 = A 117 := (f173.2 117 (by first | exact id | omega | (dsimp only; omega) | (dsimp only) | fail)).trans u10
              have y189 : (F 106 19 = 0 ∧ (1 : Int) = 0 ∧ z171 = 0 ∧ F166 106 19 = (1 : Int) ∧ F166 106 20 = (F 106 18)) ∨ (F 106 19 = 0 ∧ (1 : Int) = 1 ∧ z171 = 1 ∧ F166 106 19 = 0 ∧ F166 106 20 = F 106 20) ∨ (F 106 19 ≠ 0 ∧ z171 = 0 ∧ F166 106 19 = F 106 19 ∧ F166 106 20 = F 106 20) := x169
              clear x169
              show sA _ _ _ 123 _ [gs_iv z171] _ _
              refine sA_if_eq (tgt := 130) dd_X9_readItem_123 (by decide) (by omega) (fun q190 => ?_) (fun q190 => ?_)
              · skip
                refine sA_vret dd_X9_readItem_130 rfl ?_
                refine ⟨rfl, I172, f185, ?_⟩
                refine ⟨by omega, by omega, by omega, by omega, by omega, by omega, ?_, by omega⟩
                refine .inr ⟨by omega, ?_⟩
                rw [show F166 106 17 = F 106 17 by omega, show F166 106 19 = 1 by omega, show F166 106 20 = F 106 18 by omega]
                exact rd_else_bad (by omega) hh hrd (by omega) (by omega) (by omega) (by omega) (by omega)
              · skip
                have hoo : A167 117 (F166 106 22 - 1).toNat ≤ F166 106 24 := by
                  rcases (show F166 106 22 = 1 ∨ F166 106 22 = 2 ∨ F166 106 22 = 3 ∨ F166 106 22 = 4 by omega) with e | e | e | e
                  · have e2 : (F166 106 22 - 1).toNat = 0 := by omega
                    rw [e2]; omega
                  · have e2 : (F166 106 22 - 1).toNat = 1 := by omega
                    rw [e2]; omega
                  · have e2 : (F166 106 22 - 1).toNat = 2 := by omega
                    rw [e2]; omega
                  · have e2 : (F166 106 22 - 1).toNat = 3 := by omega
                    rw [e2]; omega
                have hrd2 : rd (F166 106 0) (A167 116) s0 (F166 106 18).toNat = (0, 0, st, kd, kb, F166 106 22, F166 106 24, A167 118, A167 117) := by
                  rw [show F166 106 0 = F 106 0 by omega, show F166 106 18 = F 106 18 by omega, show F166 106 22 = F 106 22 by omega, show F166 106 24 = F 106 24 by omega, u187, u188, u186]
                  exact hrd
                have hc2 : A167 116 (F166 106 18).toNat = A 116 (F 106 18).toNat := by rw [show F166 106 18 = F 106 18 by omega, u187]
                have h02 : rd_good (F166 106 0) s0 := by rw [show F166 106 0 = F 106 0 by omega]; exact h0
                refine sA_aload_n dd_X9_readItem_126 rfl (.head _) ?_
                refine sA_callV (y2 := m_X9_closeBracket) (n2 := 0) (d2 := 3) (a := 106) (ci := 9) (q := (RX9, TX9, 28)) (as := []) (rest := []) dd_X9_readItem_127 ok_X9_closeBracket ml_X9_215 rfl rfl (by decide) gs_s106 rfl rfl (Nat.le_of_ble_eq_true rfl) (by decide) (c_X9_closeBracket_vf I172 (by omega) (by omega) (by omega) (by omega) (by omega) h02 (by omega) (by omega) hrd2) (fun r191 F192 A193 h194 => ?_)
                obtain ⟨e196, I197, f198, x195⟩ := h194
                subst e196
                have v200 : F192 106 17 = F166 106 17 := f198.1 106 17 (by first | exact id | omega | (dsimp only; omega) | (dsimp only) | fail)
                have v205 : F192 106 0 = F166 106 0 := f198.1 106 0 (by first | exact id | omega | (dsimp only; omega) | (dsimp only) | fail)
                have v206 : A193 117 0 = A167 117 0 := congrFun (f198.2 117 (by first | exact id | omega | (dsimp only; omega) | (dsimp only) | fail)) _
                have v207 : A193 117 1 = A167 117 1 := congrFun (f198.2 117 (by first | exact id | omega | (dsimp only; omega) | (dsimp only) | fail)) _
                have v208 : A193 117 2 = A167 117 2 := congrFun (f198.2 117 (by first | exact id | omega | (dsimp only; omega) | (dsimp only) | fail)) _
                have v209 : A193 117 3 = A167 117 3 := congrFun (f198.2 117 (by first | exact id | omega | (dsimp only; omega) | (dsimp only) | fail)) _
                have f210 := gs_fr_tr f185 f198 (fun b j h => by first | exact False.elim h | omega | (dsimp only at h ⊢; omega) | fail) (fun b h => by first | exact False.elim h | omega | (dsimp only at h ⊢; omega) | fail)
                have u211 : A193 118 = A193 118 := rfl
                have u212 : A193 116 = A 116 := (f198.2 116 (by first | exact id | omega | (dsimp only; omega) | (dsimp only) | fail)).trans u187
                have u213 : A193 117 = A 117 := (f198.2 117 (by first | exact id | omega | (dsimp only; omega) | (dsimp only) | fail)).trans u188
                have y214 : (F166 106 18 + 1 ≤ F192 106 18 ∨ 1 ≤ F192 106 19) ∧ F166 106 18 ≤ F192 106 18 ∧ F166 106 24 ≤ F192 106 24 ∧ F192 106 22 ≤ F166 106 22 ∧ rd_md (F166 106 0) (A167 116) s0 F192 A193 ∧ F192 106 17 = F166 106 17 := x195
                clear x195
                show sA _ _ _ 130 _ [] _ _
                refine sA_vret dd_X9_readItem_130 rfl ?_
                refine ⟨rfl, I197, f210, ?_⟩
                refine ⟨by omega, by omega, by omega, by omega, by omega, by omega, ?_, by omega⟩
                have y := y214.2.2.2.2.1
                rw [show F166 106 0 = F 106 0 by omega, u187] at y
                exact y
        · skip
          refine sA_aload_n dd_X9_readItem_35 rfl (.head _) ?_
          refine sA_aload_n dd_X9_readItem_36 rfl (.head _) ?_
          refine sA_geti (ci := 9) (j := 22) (q := (RX9, TX9, 28)) dd_X9_readItem_37 rfl (by decide) fl_X9_209 (by decide) gs_s106 rfl ?_
          refine sA_iconst (z := 4) dd_X9_readItem_40 ?_
          refine sA_icmp_ge (tgt := 48) dd_X9_readItem_41 (by decide) (by omega) (by omega) (fun q215 => ?_) (fun q215 => ?_)
          · skip
            refine sA_iconst (z := 0) dd_X9_readItem_48 ?_
            refine sA_iconst (z := 4) dd_X9_readItem_49 ?_
            refine sA_aload_n dd_X9_readItem_50 rfl (.head _) ?_
            refine sA_geti (ci := 9) (j := 18) (q := (RX9, TX9, 28)) dd_X9_readItem_51 rfl (by decide) fl_X9_186 (by decide) gs_s106 rfl ?_
            refine sA_callV (y2 := m_X9_want) (n2 := 3) (d2 := 1) (a := 106) (ci := 9) (q := (RX9, TX9, 28)) (as := [gs_iv 0, gs_iv 4, gs_iv (F 106 18)]) (rest := []) dd_X9_readItem_54 ok_X9_want ml_X9_199 rfl rfl (by decide) gs_s106 rfl rfl (Nat.le_of_ble_eq_true rfl) (by decide) (c_X9_want_vf hI (by omega) (by omega) (by omega)) (fun r216 F217 A218 h219 => ?_)
            obtain ⟨z222, e221, I223, f224, x220⟩ := h219
            subst e221
            have v225 : F217 106 18 = F 106 18 := f224.1 106 18 (by first | exact id | omega | (dsimp only; omega) | (dsimp only) | fail)
            have v226 : F217 106 17 = F 106 17 := f224.1 106 17 (by first | exact id | omega | (dsimp only; omega) | (dsimp only) | fail)
            have v229 : F217 106 24 = F 106 24 := f224.1 106 24 (by first | exact id | omega | (dsimp only; omega) | (dsimp only) | fail)
            have v230 : F217 106 22 = F 106 22 := f224.1 106 22 (by first | exact id | omega | (dsimp only; omega) | (dsimp only) | fail)
            have v231 : F217 106 0 = F 106 0 := f224.1 106 0 (by first | exact id | omega | (dsimp only; omega) | (dsimp only) | fail)
            have v232 : A218 117 0 = A 117 0 := congrFun (f224.2 117 (by first | exact id | omega | (dsimp only; omega) | (dsimp only) | fail)) _
            have v233 : A218 117 1 = A 117 1 := congrFun (f224.2 117 (by first | exact id | omega | (dsimp only; omega) | (dsimp only) | fail)) _
            have v234 : A218 117 2 = A 117 2 := congrFun (f224.2 117 (by first | exact id | omega | (dsimp only; omega) | (dsimp only) | fail)) _
            have v235 : A218 117 3 = A 117 3 := congrFun (f224.2 117 (by first | exact id | omega | (dsimp only; omega) | (dsimp only) | fail)) _
            have f236 := gs_fr_tr hf f224 (fun b j h => by first | exact False.elim h | omega | (dsimp only at h ⊢; omega) | fail) (fun b h => by first | exact False.elim h | omega | (dsimp only at h ⊢; omega) | fail)
            have u237 : A218 118 = A 118 := (f224.2 118 (by first | exact id | omega | (dsimp only; omega) | (dsimp only) | fail)).trans u8
            have u238 : A218 116 = A 116 := (f224.2 116 (by first | exact id | omega | (dsimp only; omega) | (dsimp only) | fail)).trans u9
            have u239 : A218 117 = A 117 := (f224.2 117 (by first | exact id | omega | (dsimp only; omega) | (dsimp only) | fail)).trans u10
            have y240 : (F 106 19 = 0 ∧ (0 : Int) = 0 ∧ z222 = 0 ∧ F217 106 19 = (4 : Int) ∧ F217 106 20 = (F 106 18)) ∨ (F 106 19 = 0 ∧ (0 : Int) = 1 ∧ z222 = 1 ∧ F217 106 19 = 0 ∧ F217 106 20 = F 106 20) ∨ (F 106 19 ≠ 0 ∧ z222 = 0 ∧ F217 106 19 = F 106 19 ∧ F217 106 20 = F 106 20) := x220
            clear x220
            show sA _ _ _ 57 _ [gs_iv z222] _ _
            refine sA_if_eq (tgt := 130) dd_X9_readItem_57 (by decide) (by omega) (fun q241 => ?_) (fun q241 => ?_)
            · skip
              refine sA_vret dd_X9_readItem_130 rfl ?_
              refine ⟨rfl, I223, f236, ?_⟩
              refine ⟨by omega, by omega, by omega, by omega, by omega, by omega, ?_, by omega⟩
              refine .inr ⟨by omega, ?_⟩
              rw [show F217 106 17 = F 106 17 by omega, show F217 106 19 = 4 by omega, show F217 106 20 = F 106 18 by omega]
              exact rd_open_bad (by omega) hh hrd (by omega) (by omega) (by omega)
            · skip
              refine sA_aload_n dd_X9_readItem_60 rfl (.head _) ?_
              refine sA_getr (ci := 9) (j := 21) (q := (RX9, TX9, 28)) dd_X9_readItem_61 rfl (by decide) fl_X9_44 (by decide) gs_s106 rfl ?_
              refine sA_aload_n dd_X9_readItem_64 rfl (.head _) ?_
              refine sA_geti (ci := 9) (j := 22) (q := (RX9, TX9, 28)) dd_X9_readItem_65 rfl (by decide) fl_X9_209 (by decide) gs_s106 rfl ?_
              have b242 : (0 : Int) ≤ F217 106 22 ∧ F217 106 22 ≤ 4 := I223.1 106 22
              refine sA_aload_n dd_X9_readItem_68 rfl (.head _) ?_
              refine sA_geti (ci := 9) (j := 24) (q := (RX9, TX9, 28)) dd_X9_readItem_69 rfl (by decide) fl_X9_206 (by decide) gs_s106 rfl ?_
              have b243 : (0 : Int) ≤ F217 106 24 ∧ F217 106 24 ≤ 60 := I223.1 106 24
              refine sA_iast (n := 4) dd_X9_readItem_72 (by decide) gs_s117 (by omega) (by decide) ?_
              have I245 : gs_I F217 (gs_up A218 117 ((F217 106 22).toNat) (F217 106 24)) := gs_I_ast I223 (show (0 : Int) ≤ F217 106 24 ∧ F217 106 24 ≤ 60 by omega)
              have f246 := gs_fr_ast f236 (a := 117) (z := F217 106 24) (i := (F217 106 22).toNat) (by first | omega | (dsimp only; omega) | (dsimp only) | fail)
              have v247 := gs_up_cs A218 117 ((F217 106 22).toNat) (F217 106 24) 0
              have v248 := gs_up_cs A218 117 ((F217 106 22).toNat) (F217 106 24) 1
              have v249 := gs_up_cs A218 117 ((F217 106 22).toNat) (F217 106 24) 2
              have v250 := gs_up_cs A218 117 ((F217 106 22).toNat) (F217 106 24) 3
              have u251 : (gs_up A218 117 ((F217 106 22).toNat) (F217 106 24)) 118 = A 118 := (gs_up_row _ _ (by omega)).trans u237
              have u252 : (gs_up A218 117 ((F217 106 22).toNat) (F217 106 24)) 116 = A 116 := (gs_up_row _ _ (by omega)).trans u238
              have u253 : (gs_up A218 117 ((F217 106 22).toNat) (F217 106 24)) 117 = gs_u (A 117) ((F217 106 22).toNat) (F217 106 24) := (gs_up_u A218 117 ((F217 106 22).toNat) (F217 106 24)).trans (congrArg (fun f => gs_u f ((F217 106 22).toNat) (F217 106 24)) u239)
              generalize gs_up A218 117 ((F217 106 22).toNat) (F217 106 24) = A244 at I245 f246 v247 v248 v249 v250 u251 u252 u253 ⊢
              refine sA_aload_n dd_X9_readItem_73 rfl (.head _) ?_
              refine sA_dup dd_X9_readItem_74 rfl ?_
              refine sA_geti (ci := 9) (j := 22) (q := (RX9, TX9, 28)) dd_X9_readItem_75 rfl (by decide) fl_X9_209 (by decide) gs_s106 rfl ?_
              refine sA_iconst (z := 1) dd_X9_readItem_78 ?_
              refine sA_iadd dd_X9_readItem_79 ?_
              refine sA_put (ci := 9) (j := 22) (q := (RX9, TX9, 28)) (ty := .int) dd_X9_readItem_80 rfl (by decide) fl_X9_209 rfl (tyX9_ok 22 (by decide)) rfl rfl (by decide) gs_s106 rfl ?_
              have I255 : gs_I (gs_up F217 106 22 ((F217 106 22) + 1)) A244 := gs_I_put I245 (show (0 : Int) ≤ (F217 106 22) + 1 ∧ (F217 106 22) + 1 ≤ 4 by omega)
              have f256 := gs_fr_put f246 (a := 106) (z := (F217 106 22) + 1) (j := 22) (by first | omega | (dsimp only; omega) | (dsimp only) | fail)
              have v257 : gs_up F217 106 22 ((F217 106 22) + 1) 106 22 = (F217 106 22) + 1 := gs_up_self _ _ _ _
              have v258 : (gs_up F217 106 22 ((F217 106 22) + 1)) 106 18 = F217 106 18 := gs_up_ne _ _ (by omega)
              have v259 : (gs_up F217 106 22 ((F217 106 22) + 1)) 106 17 = F217 106 17 := gs_up_ne _ _ (by omega)
              have v260 : (gs_up F217 106 22 ((F217 106 22) + 1)) 106 19 = F217 106 19 := gs_up_ne _ _ (by omega)
              have v261 : (gs_up F217 106 22 ((F217 106 22) + 1)) 106 20 = F217 106 20 := gs_up_ne _ _ (by omega)
              have v262 : (gs_up F217 106 22 ((F217 106 22) + 1)) 106 24 = F217 106 24 := gs_up_ne _ _ (by omega)
              have v263 : (gs_up F217 106 22 ((F217 106 22) + 1)) 106 0 = F217 106 0 := gs_up_ne _ _ (by omega)
              generalize gs_up F217 106 22 ((F217 106 22) + 1) = F254 at I255 f256 v257 v258 v259 v260 v261 v262 v263 ⊢
              refine sA_aload_n dd_X9_readItem_83 rfl (.head _) ?_
              refine sA_dup dd_X9_readItem_84 rfl ?_
              refine sA_geti (ci := 9) (j := 18) (q := (RX9, TX9, 28)) dd_X9_readItem_85 rfl (by decide) fl_X9_186 (by decide) gs_s106 rfl ?_
              have b264 : (0 : Int) ≤ F254 106 18 ∧ F254 106 18 ≤ 120 := I255.1 106 18
              refine sA_iconst (z := 1) dd_X9_readItem_88 ?_
              refine sA_iadd dd_X9_readItem_89 ?_
              refine sA_put (ci := 9) (j := 18) (q := (RX9, TX9, 28)) (ty := .int) dd_X9_readItem_90 rfl (by decide) fl_X9_186 rfl (tyX9_ok 18 (by decide)) rfl rfl (by decide) gs_s106 rfl ?_
              have I266 : gs_I (gs_up F254 106 18 ((F254 106 18) + 1)) A244 := gs_I_put I255 (show (0 : Int) ≤ (F254 106 18) + 1 ∧ (F254 106 18) + 1 ≤ 120 by omega)
              have f267 := gs_fr_put f256 (a := 106) (z := (F254 106 18) + 1) (j := 18) (by first | omega | (dsimp only; omega) | (dsimp only) | fail)
              have v268 : gs_up F254 106 18 ((F254 106 18) + 1) 106 18 = (F254 106 18) + 1 := gs_up_self _ _ _ _
              have v269 : (gs_up F254 106 18 ((F254 106 18) + 1)) 106 17 = F254 106 17 := gs_up_ne _ _ (by omega)
              have v270 : (gs_up F254 106 18 ((F254 106 18) + 1)) 106 19 = F254 106 19 := gs_up_ne _ _ (by omega)
              have v271 : (gs_up F254 106 18 ((F254 106 18) + 1)) 106 20 = F254 106 20 := gs_up_ne _ _ (by omega)
              have v272 : (gs_up F254 106 18 ((F254 106 18) + 1)) 106 24 = F254 106 24 := gs_up_ne _ _ (by omega)
              have v273 : (gs_up F254 106 18 ((F254 106 18) + 1)) 106 22 = F254 106 22 := gs_up_ne _ _ (by omega)
              have v274 : (gs_up F254 106 18 ((F254 106 18) + 1)) 106 0 = F254 106 0 := gs_up_ne _ _ (by omega)
              generalize gs_up F254 106 18 ((F254 106 18) + 1) = F265 at I266 f267 v268 v269 v270 v271 v272 v273 v274 ⊢
              refine sA_goto (tgt := 130) dd_X9_readItem_93 (by decide) ?_
              refine sA_vret dd_X9_readItem_130 rfl ?_
              refine ⟨rfl, I266, f267, ?_⟩
              refine ⟨by omega, by omega, by omega, by omega, by omega, by omega, ?_, by omega⟩
              have hop := rd_open (by omega) hrd (by omega) (by omega) (show F 106 22 < 4 by omega)
              refine .inl ⟨by omega, by omega, by omega, 0, kd, kb, ?_, .inl rfl⟩
              rw [show F265 106 18 = F 106 18 + 1 by omega, hop, show F265 106 22 = F 106 22 + 1 by omega, show F265 106 24 = F 106 24 by omega, u251, u253, show F217 106 22 = F 106 22 by omega, show F217 106 24 = F 106 24 by omega]
          · skip
            refine sA_iconst (z := 1) dd_X9_readItem_44 ?_
            refine sA_goto (tgt := 49) dd_X9_readItem_45 (by decide) ?_
            refine sA_iconst (z := 4) dd_X9_readItem_49 ?_
            refine sA_aload_n dd_X9_readItem_50 rfl (.head _) ?_
            refine sA_geti (ci := 9) (j := 18) (q := (RX9, TX9, 28)) dd_X9_readItem_51 rfl (by decide) fl_X9_186 (by decide) gs_s106 rfl ?_
            refine sA_callV (y2 := m_X9_want) (n2 := 3) (d2 := 1) (a := 106) (ci := 9) (q := (RX9, TX9, 28)) (as := [gs_iv 1, gs_iv 4, gs_iv (F 106 18)]) (rest := []) dd_X9_readItem_54 ok_X9_want ml_X9_199 rfl rfl (by decide) gs_s106 rfl rfl (Nat.le_of_ble_eq_true rfl) (by decide) (c_X9_want_vf hI (by omega) (by omega) (by omega)) (fun r275 F276 A277 h278 => ?_)
            obtain ⟨z281, e280, I282, f283, x279⟩ := h278
            subst e280
            have v284 : F276 106 18 = F 106 18 := f283.1 106 18 (by first | exact id | omega | (dsimp only; omega) | (dsimp only) | fail)
            have v285 : F276 106 17 = F 106 17 := f283.1 106 17 (by first | exact id | omega | (dsimp only; omega) | (dsimp only) | fail)
            have v288 : F276 106 24 = F 106 24 := f283.1 106 24 (by first | exact id | omega | (dsimp only; omega) | (dsimp only) | fail)
            have v289 : F276 106 22 = F 106 22 := f283.1 106 22 (by first | exact id | omega | (dsimp only; omega) | (dsimp only) | fail)
            have v290 : F276 106 0 = F 106 0 := f283.1 106 0 (by first | exact id | omega | (dsimp only; omega) | (dsimp only) | fail)
            have v291 : A277 117 0 = A 117 0 := congrFun (f283.2 117 (by first | exact id | omega | (dsimp only; omega) | (dsimp only) | fail)) _
            have v292 : A277 117 1 = A 117 1 := congrFun (f283.2 117 (by first | exact id | omega | (dsimp only; omega) | (dsimp only) | fail)) _
            have v293 : A277 117 2 = A 117 2 := congrFun (f283.2 117 (by first | exact id | omega | (dsimp only; omega) | (dsimp only) | fail)) _
            have v294 : A277 117 3 = A 117 3 := congrFun (f283.2 117 (by first | exact id | omega | (dsimp only; omega) | (dsimp only) | fail)) _
            have f295 := gs_fr_tr hf f283 (fun b j h => by first | exact False.elim h | omega | (dsimp only at h ⊢; omega) | fail) (fun b h => by first | exact False.elim h | omega | (dsimp only at h ⊢; omega) | fail)
            have u296 : A277 118 = A 118 := (f283.2 118 (by first | exact id | omega | (dsimp only; omega) | (dsimp only) | fail)).trans u8
            have u297 : A277 116 = A 116 := (f283.2 116 (by first | exact id | omega | (dsimp only; omega) | (dsimp only) | fail)).trans u9
            have u298 : A277 117 = A 117 := (f283.2 117 (by first | exact id | omega | (dsimp only; omega) | (dsimp only) | fail)).trans u10
            have y299 : (F 106 19 = 0 ∧ (1 : Int) = 0 ∧ z281 = 0 ∧ F276 106 19 = (4 : Int) ∧ F276 106 20 = (F 106 18)) ∨ (F 106 19 = 0 ∧ (1 : Int) = 1 ∧ z281 = 1 ∧ F276 106 19 = 0 ∧ F276 106 20 = F 106 20) ∨ (F 106 19 ≠ 0 ∧ z281 = 0 ∧ F276 106 19 = F 106 19 ∧ F276 106 20 = F 106 20) := x279
            clear x279
            show sA _ _ _ 57 _ [gs_iv z281] _ _
            refine sA_if_eq (tgt := 130) dd_X9_readItem_57 (by decide) (by omega) (fun q300 => ?_) (fun q300 => ?_)
            · skip
              refine sA_vret dd_X9_readItem_130 rfl ?_
              refine ⟨rfl, I282, f295, ?_⟩
              refine ⟨by omega, by omega, by omega, by omega, by omega, by omega, ?_, by omega⟩
              refine .inr ⟨by omega, ?_⟩
              rw [show F276 106 17 = F 106 17 by omega, show F276 106 19 = 4 by omega, show F276 106 20 = F 106 18 by omega]
              exact rd_open_bad (by omega) hh hrd (by omega) (by omega) (by omega)
            · skip
              refine sA_aload_n dd_X9_readItem_60 rfl (.head _) ?_
              refine sA_getr (ci := 9) (j := 21) (q := (RX9, TX9, 28)) dd_X9_readItem_61 rfl (by decide) fl_X9_44 (by decide) gs_s106 rfl ?_
              refine sA_aload_n dd_X9_readItem_64 rfl (.head _) ?_
              refine sA_geti (ci := 9) (j := 22) (q := (RX9, TX9, 28)) dd_X9_readItem_65 rfl (by decide) fl_X9_209 (by decide) gs_s106 rfl ?_
              have b301 : (0 : Int) ≤ F276 106 22 ∧ F276 106 22 ≤ 4 := I282.1 106 22
              refine sA_aload_n dd_X9_readItem_68 rfl (.head _) ?_
              refine sA_geti (ci := 9) (j := 24) (q := (RX9, TX9, 28)) dd_X9_readItem_69 rfl (by decide) fl_X9_206 (by decide) gs_s106 rfl ?_
              have b302 : (0 : Int) ≤ F276 106 24 ∧ F276 106 24 ≤ 60 := I282.1 106 24
              refine sA_iast (n := 4) dd_X9_readItem_72 (by decide) gs_s117 (by omega) (by decide) ?_
              have I304 : gs_I F276 (gs_up A277 117 ((F276 106 22).toNat) (F276 106 24)) := gs_I_ast I282 (show (0 : Int) ≤ F276 106 24 ∧ F276 106 24 ≤ 60 by omega)
              have f305 := gs_fr_ast f295 (a := 117) (z := F276 106 24) (i := (F276 106 22).toNat) (by first | omega | (dsimp only; omega) | (dsimp only) | fail)
              have v306 := gs_up_cs A277 117 ((F276 106 22).toNat) (F276 106 24) 0
              have v307 := gs_up_cs A277 117 ((F276 106 22).toNat) (F276 106 24) 1
              have v308 := gs_up_cs A277 117 ((F276 106 22).toNat) (F276 106 24) 2
              have v309 := gs_up_cs A277 117 ((F276 106 22).toNat) (F276 106 24) 3
              have u310 : (gs_up A277 117 ((F276 106 22).toNat) (F276 106 24)) 118 = A 118 := (gs_up_row _ _ (by omega)).trans u296
              have u311 : (gs_up A277 117 ((F276 106 22).toNat) (F276 106 24)) 116 = A 116 := (gs_up_row _ _ (by omega)).trans u297
              have u312 : (gs_up A277 117 ((F276 106 22).toNat) (F276 106 24)) 117 = gs_u (A 117) ((F276 106 22).toNat) (F276 106 24) := (gs_up_u A277 117 ((F276 106 22).toNat) (F276 106 24)).trans (congrArg (fun f => gs_u f ((F276 106 22).toNat) (F276 106 24)) u298)
              generalize gs_up A277 117 ((F276 106 22).toNat) (F276 106 24) = A303 at I304 f305 v306 v307 v308 v309 u310 u311 u312 ⊢
              refine sA_aload_n dd_X9_readItem_73 rfl (.head _) ?_
              refine sA_dup dd_X9_readItem_74 rfl ?_
              refine sA_geti (ci := 9) (j := 22) (q := (RX9, TX9, 28)) dd_X9_readItem_75 rfl (by decide) fl_X9_209 (by decide) gs_s106 rfl ?_
              refine sA_iconst (z := 1) dd_X9_readItem_78 ?_
              refine sA_iadd dd_X9_readItem_79 ?_
              refine sA_put (ci := 9) (j := 22) (q := (RX9, TX9, 28)) (ty := .int) dd_X9_readItem_80 rfl (by decide) fl_X9_209 rfl (tyX9_ok 22 (by decide)) rfl rfl (by decide) gs_s106 rfl ?_
              have I314 : gs_I (gs_up F276 106 22 ((F276 106 22) + 1)) A303 := gs_I_put I304 (show (0 : Int) ≤ (F276 106 22) + 1 ∧ (F276 106 22) + 1 ≤ 4 by omega)
              have f315 := gs_fr_put f305 (a := 106) (z := (F276 106 22) + 1) (j := 22) (by first | omega | (dsimp only; omega) | (dsimp only) | fail)
              have v316 : gs_up F276 106 22 ((F276 106 22) + 1) 106 22 = (F276 106 22) + 1 := gs_up_self _ _ _ _
              have v317 : (gs_up F276 106 22 ((F276 106 22) + 1)) 106 18 = F276 106 18 := gs_up_ne _ _ (by omega)
              have v318 : (gs_up F276 106 22 ((F276 106 22) + 1)) 106 17 = F276 106 17 := gs_up_ne _ _ (by omega)
              have v319 : (gs_up F276 106 22 ((F276 106 22) + 1)) 106 19 = F276 106 19 := gs_up_ne _ _ (by omega)
              have v320 : (gs_up F276 106 22 ((F276 106 22) + 1)) 106 20 = F276 106 20 := gs_up_ne _ _ (by omega)
              have v321 : (gs_up F276 106 22 ((F276 106 22) + 1)) 106 24 = F276 106 24 := gs_up_ne _ _ (by omega)
              have v322 : (gs_up F276 106 22 ((F276 106 22) + 1)) 106 0 = F276 106 0 := gs_up_ne _ _ (by omega)
              generalize gs_up F276 106 22 ((F276 106 22) + 1) = F313 at I314 f315 v316 v317 v318 v319 v320 v321 v322 ⊢
              refine sA_aload_n dd_X9_readItem_83 rfl (.head _) ?_
              refine sA_dup dd_X9_readItem_84 rfl ?_
              refine sA_geti (ci := 9) (j := 18) (q := (RX9, TX9, 28)) dd_X9_readItem_85 rfl (by decide) fl_X9_186 (by decide) gs_s106 rfl ?_
              have b323 : (0 : Int) ≤ F313 106 18 ∧ F313 106 18 ≤ 120 := I314.1 106 18
              refine sA_iconst (z := 1) dd_X9_readItem_88 ?_
              refine sA_iadd dd_X9_readItem_89 ?_
              refine sA_put (ci := 9) (j := 18) (q := (RX9, TX9, 28)) (ty := .int) dd_X9_readItem_90 rfl (by decide) fl_X9_186 rfl (tyX9_ok 18 (by decide)) rfl rfl (by decide) gs_s106 rfl ?_
              have I325 : gs_I (gs_up F313 106 18 ((F313 106 18) + 1)) A303 := gs_I_put I314 (show (0 : Int) ≤ (F313 106 18) + 1 ∧ (F313 106 18) + 1 ≤ 120 by omega)
              have f326 := gs_fr_put f315 (a := 106) (z := (F313 106 18) + 1) (j := 18) (by first | omega | (dsimp only; omega) | (dsimp only) | fail)
              have v327 : gs_up F313 106 18 ((F313 106 18) + 1) 106 18 = (F313 106 18) + 1 := gs_up_self _ _ _ _
              have v328 : (gs_up F313 106 18 ((F313 106 18) + 1)) 106 17 = F313 106 17 := gs_up_ne _ _ (by omega)
              have v329 : (gs_up F313 106 18 ((F313 106 18) + 1)) 106 19 = F313 106 19 := gs_up_ne _ _ (by omega)
              have v330 : (gs_up F313 106 18 ((F313 106 18) + 1)) 106 20 = F313 106 20 := gs_up_ne _ _ (by omega)
              have v331 : (gs_up F313 106 18 ((F313 106 18) + 1)) 106 24 = F313 106 24 := gs_up_ne _ _ (by omega)
              have v332 : (gs_up F313 106 18 ((F313 106 18) + 1)) 106 22 = F313 106 22 := gs_up_ne _ _ (by omega)
              have v333 : (gs_up F313 106 18 ((F313 106 18) + 1)) 106 0 = F313 106 0 := gs_up_ne _ _ (by omega)
              generalize gs_up F313 106 18 ((F313 106 18) + 1) = F324 at I325 f326 v327 v328 v329 v330 v331 v332 v333 ⊢
              refine sA_goto (tgt := 130) dd_X9_readItem_93 (by decide) ?_
              refine sA_vret dd_X9_readItem_130 rfl ?_
              refine ⟨rfl, I325, f326, ?_⟩
              refine ⟨by omega, by omega, by omega, by omega, by omega, by omega, ?_, by omega⟩
              have hop := rd_open (by omega) hrd (by omega) (by omega) (show F 106 22 < 4 by omega)
              refine .inl ⟨by omega, by omega, by omega, 0, kd, kb, ?_, .inl rfl⟩
              rw [show F324 106 18 = F 106 18 + 1 by omega, hop, show F324 106 22 = F 106 22 + 1 by omega, show F324 106 24 = F 106 24 by omega, u310, u312, show F276 106 22 = F 106 22 by omega, show F276 106 24 = F 106 24 by omega]
      · skip
        refine sA_aload_n dd_X9_readItem_18 rfl (.head _) ?_
        refine sA_iload_n dd_X9_readItem_19 rfl (.tail _ (.head _)) ?_
        refine sA_bipush (z := 97) dd_X9_readItem_20 (by decide) ?_
        have hrd2 : rd (F 106 0) (A 116) s0 (F 106 18).toNat = (0, 0, st, kd, kb, F 106 22, F 106 24, A 118, A 117) := by
          rw [show F 106 0 = F 106 0 by omega, show F 106 18 = F 106 18 by omega, show F 106 22 = F 106 22 by omega, show F 106 24 = F 106 24 by omega, u9, u10, u8]
          exact hrd
        have hc2 : A 116 (F 106 18).toNat = A 116 (F 106 18).toNat := by rw [show F 106 18 = F 106 18 by omega, u9]
        have h02 : rd_good (F 106 0) s0 := by rw [show F 106 0 = F 106 0 by omega]; exact h0
        refine sA_isub dd_X9_readItem_22 ?_
        refine sA_callV (y2 := m_X9_readTwist) (n2 := 1) (d2 := 3) (a := 106) (ci := 9) (q := (RX9, TX9, 28)) (as := [gs_iv (c0 - 97)]) (rest := []) dd_X9_readItem_23 ok_X9_readTwist ml_X9_212 rfl rfl (by decide) gs_s106 rfl rfl (Nat.le_of_ble_eq_true rfl) (by decide) (c_X9_readTwist_vf hI (by omega) (by omega) (by omega) (by omega) h02 (by omega) (by omega) hrd2) (fun r334 F335 A336 h337 => ?_)
        obtain ⟨e339, I340, f341, x338⟩ := h337
        subst e339
        have v343 : F335 106 17 = F 106 17 := f341.1 106 17 (by first | exact id | omega | (dsimp only; omega) | (dsimp only) | fail)
        have v347 : F335 106 22 = F 106 22 := f341.1 106 22 (by first | exact id | omega | (dsimp only; omega) | (dsimp only) | fail)
        have v348 : F335 106 0 = F 106 0 := f341.1 106 0 (by first | exact id | omega | (dsimp only; omega) | (dsimp only) | fail)
        have v349 : A336 117 0 = A 117 0 := congrFun (f341.2 117 (by first | exact id | omega | (dsimp only; omega) | (dsimp only) | fail)) _
        have v350 : A336 117 1 = A 117 1 := congrFun (f341.2 117 (by first | exact id | omega | (dsimp only; omega) | (dsimp only) | fail)) _
        have v351 : A336 117 2 = A 117 2 := congrFun (f341.2 117 (by first | exact id | omega | (dsimp only; omega) | (dsimp only) | fail)) _
        have v352 : A336 117 3 = A 117 3 := congrFun (f341.2 117 (by first | exact id | omega | (dsimp only; omega) | (dsimp only) | fail)) _
        have f353 := gs_fr_tr hf f341 (fun b j h => by first | exact False.elim h | omega | (dsimp only at h ⊢; omega) | fail) (fun b h => by first | exact False.elim h | omega | (dsimp only at h ⊢; omega) | fail)
        have u354 : A336 118 = A336 118 := rfl
        have u355 : A336 116 = A 116 := (f341.2 116 (by first | exact id | omega | (dsimp only; omega) | (dsimp only) | fail)).trans u9
        have u356 : A336 117 = A 117 := (f341.2 117 (by first | exact id | omega | (dsimp only; omega) | (dsimp only) | fail)).trans u10
        have y357 : (F 106 18 + 1 ≤ F335 106 18 ∨ 1 ≤ F335 106 19) ∧ F 106 18 ≤ F335 106 18 ∧ F 106 24 ≤ F335 106 24 ∧ rd_md (F 106 0) (A 116) s0 F335 A336 ∧ F335 106 17 = F 106 17 := x338
        clear x338
        show sA _ _ _ 26 _ [] _ _
        refine sA_goto (tgt := 130) dd_X9_readItem_26 (by decide) ?_
        refine sA_vret dd_X9_readItem_130 rfl ?_
        refine ⟨rfl, I340, f353, ?_⟩
        refine ⟨by omega, by omega, by omega, by omega, by omega, by omega, ?_, by omega⟩
        have y := y357.2.2.2.1
        rw [show F 106 0 = F 106 0 by omega] at y
        exact y
end
