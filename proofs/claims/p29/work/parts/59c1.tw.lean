noncomputable section
theorem c_X9_readTwist_vf {k : Int} {s0 : rd_S} {st kd kb : Int} {F A : gs_F} (hI : gs_I F A) (hk : 0 ≤ k ∧ k ≤ 2) (hh : F 106 18 < F 106 17) (h19 : F 106 19 = 0) (h20 : F 106 20 = -1) (h0 : rd_good (F 106 0) s0) (hc : A 116 (F 106 18).toNat = 97 + k) (hst : st = 0 ∨ st = 2) (hrd : rd (F 106 0) (A 116) s0 (F 106 18).toNat = (0, 0, st, kd, kb, F 106 22, F 106 24, A 118, A 117)) : sC m_X9_readTwist 3 [.ref 106, gs_iv k] F A (fun rv F' A' => rv = none ∧ gs_I F' A' ∧ gs_fr (fun c j => c = 106 ∧ (j = 18 ∨ j = 19 ∨ j = 20 ∨ j = 24)) (fun c => c = 118) F A F' A' ∧ ((F 106 18 + 1 ≤ F' 106 18 ∨ 1 ≤ F' 106 19) ∧ F 106 18 ≤ F' 106 18 ∧ F 106 24 ≤ F' 106 24 ∧ rd_md (F 106 0) (A 116) s0 F' A' ∧ F' 106 17 = F 106 17)) := by
  refine sC_of ok_X9_readTwist.1 (Nat.le_of_ble_eq_true rfl) ?_
  show sA _ _ _ 0 [(0, .ref 106), (1, gs_iv k)] [] F A
  have hf : gs_fr (fun c j => c = 106 ∧ (j = 18 ∨ j = 19 ∨ j = 20 ∨ j = 24)) (fun c => c = 118) F A F A := gs_fr_refl _ _ _ _
  have b1 : (0 : Int) ≤ F 106 18 ∧ F 106 18 ≤ 120 := hI.1 106 18
  have b2 : (0 : Int) ≤ F 106 17 ∧ F 106 17 ≤ 120 := hI.1 106 17
  have b3 : (0 : Int) ≤ F 106 19 ∧ F 106 19 ≤ 4 := hI.1 106 19
  have b4 : (-2147483648 : Int) ≤ F 106 20 ∧ F 106 20 ≤ 2147483647 := hI.1 106 20
  have b5 : (0 : Int) ≤ F 106 24 ∧ F 106 24 ≤ 60 := hI.1 106 24
  have b6 : (0 : Int) ≤ F 106 22 ∧ F 106 22 ≤ 4 := hI.1 106 22
  have b7 : (1 : Int) ≤ F 106 0 ∧ F 106 0 ≤ 3 := hI.1 106 0
  have u8 : A 118 = A 118 := rfl
  have u9 : A 116 = A 116 := rfl
  have u10 : A 117 = A 117 := rfl
  have hb17 : (0 : Int) ≤ F 106 17 ∧ F 106 17 ≤ 120 := hI.1 106 17
  have hg0 : (1 : Int) ≤ F 106 0 ∧ F 106 0 ≤ 3 := hI.1 106 0
  have hmb := gs_mul_bd (x := k) (y := F 106 0) (m := 2) (k := 3) (by omega) (by omega) (by omega)
  have hb22 : (0 : Int) ≤ F 106 22 ∧ F 106 22 ≤ 4 := hI.1 106 22
  have hb24 : (0 : Int) ≤ F 106 24 ∧ F 106 24 ≤ 60 := hI.1 106 24
  have hb18 : (0 : Int) ≤ F 106 18 ∧ F 106 18 ≤ 120 := hI.1 106 18
  refine sA_aload_n dd_X9_readTwist_0 rfl (.head _) ?_
  refine sA_geti (ci := 9) (j := 18) (q := (RX9, TX9, 28)) dd_X9_readTwist_1 rfl (by decide) fl_X9_186 (by decide) gs_s106 rfl ?_
  refine sA_istore_n (lv' := [(2, gs_iv (F 106 18)), (0, .ref 106), (1, gs_iv k)]) dd_X9_readTwist_4 rfl (by decide) rfl ?_
  refine sA_aload_n dd_X9_readTwist_5 rfl (.tail _ (.head _)) ?_
  refine sA_dup dd_X9_readTwist_6 rfl ?_
  refine sA_geti (ci := 9) (j := 18) (q := (RX9, TX9, 28)) dd_X9_readTwist_7 rfl (by decide) fl_X9_186 (by decide) gs_s106 rfl ?_
  refine sA_iconst (z := 1) dd_X9_readTwist_10 ?_
  refine sA_iadd dd_X9_readTwist_11 ?_
  refine sA_put (ci := 9) (j := 18) (q := (RX9, TX9, 28)) (ty := .int) dd_X9_readTwist_12 rfl (by decide) fl_X9_186 rfl (tyX9_ok 18 (by decide)) rfl rfl (by decide) gs_s106 rfl ?_
  have I12 : gs_I (gs_up F 106 18 ((F 106 18) + 1)) A := gs_I_put hI (show (0 : Int) ≤ (F 106 18) + 1 ∧ (F 106 18) + 1 ≤ 120 by omega)
  have f13 := gs_fr_put hf (a := 106) (z := (F 106 18) + 1) (j := 18) (by first | omega | (dsimp only; omega) | (dsimp only) | fail)
  have v14 : gs_up F 106 18 ((F 106 18) + 1) 106 18 = (F 106 18) + 1 := gs_up_self _ _ _ _
  have v15 : (gs_up F 106 18 ((F 106 18) + 1)) 106 17 = F 106 17 := gs_up_ne _ _ (by omega)
  have v16 : (gs_up F 106 18 ((F 106 18) + 1)) 106 19 = F 106 19 := gs_up_ne _ _ (by omega)
  have v17 : (gs_up F 106 18 ((F 106 18) + 1)) 106 20 = F 106 20 := gs_up_ne _ _ (by omega)
  have v18 : (gs_up F 106 18 ((F 106 18) + 1)) 106 24 = F 106 24 := gs_up_ne _ _ (by omega)
  have v19 : (gs_up F 106 18 ((F 106 18) + 1)) 106 22 = F 106 22 := gs_up_ne _ _ (by omega)
  have v20 : (gs_up F 106 18 ((F 106 18) + 1)) 106 0 = F 106 0 := gs_up_ne _ _ (by omega)
  generalize gs_up F 106 18 ((F 106 18) + 1) = F11 at I12 f13 v14 v15 v16 v17 v18 v19 v20 ⊢
  refine sA_aload_n dd_X9_readTwist_15 rfl (.tail _ (.head _)) ?_
  refine sA_iconst (z := 1) dd_X9_readTwist_16 ?_
  refine sA_iload_n dd_X9_readTwist_17 rfl (.tail _ (.tail _ (.head _))) ?_
  refine sA_iconst (z := 2) dd_X9_readTwist_18 ?_
  refine sA_icmp_ne (tgt := 31) dd_X9_readTwist_19 (by decide) (by omega) (by omega) (fun q21 => ?_) (fun q21 => ?_)
  · skip
    refine sA_aload_n dd_X9_readTwist_31 rfl (.tail _ (.head _)) ?_
    refine sA_geti (ci := 9) (j := 0) (q := (RX9, TX9, 28)) dd_X9_readTwist_32 rfl (by decide) fl_X9_64 (by decide) gs_s106 rfl ?_
    have b22 : (1 : Int) ≤ F11 106 0 ∧ F11 106 0 ≤ 3 := I12.1 106 0
    refine sA_callV (y2 := m_X9_takeFigure) (n2 := 2) (d2 := 2) (a := 106) (ci := 9) (q := (RX9, TX9, 28)) (as := [gs_iv 1, gs_iv (F11 106 0)]) (rest := []) dd_X9_readTwist_35 ok_X9_takeFigure ml_X9_203 rfl rfl (by decide) gs_s106 rfl rfl (Nat.le_of_ble_eq_true rfl) (by decide) (c_X9_takeFigure_vf I12 (by omega) (by omega) (by omega) (by omega)) (fun r23 F24 A25 h26 => ?_)
    obtain ⟨z29, e28, I30, f31, x27⟩ := h26
    subst e28
    have v33 : F24 106 17 = F11 106 17 := f31.1 106 17 (by first | exact id | omega | (dsimp only; omega) | (dsimp only) | fail)
    have v36 : F24 106 24 = F11 106 24 := f31.1 106 24 (by first | exact id | omega | (dsimp only; omega) | (dsimp only) | fail)
    have v37 : F24 106 22 = F11 106 22 := f31.1 106 22 (by first | exact id | omega | (dsimp only; omega) | (dsimp only) | fail)
    have v38 : F24 106 0 = F11 106 0 := f31.1 106 0 (by first | exact id | omega | (dsimp only; omega) | (dsimp only) | fail)
    have f39 := gs_fr_tr f13 f31 (fun b j h => by first | exact False.elim h | omega | (dsimp only at h ⊢; omega) | fail) (fun b h => by first | exact False.elim h | omega | (dsimp only at h ⊢; omega) | fail)
    have u40 : A25 118 = A 118 := (f31.2 118 (by first | exact id | omega | (dsimp only; omega) | (dsimp only) | fail)).trans u8
    have u41 : A25 116 = A 116 := (f31.2 116 (by first | exact id | omega | (dsimp only; omega) | (dsimp only) | fail)).trans u9
    have u42 : A25 117 = A 117 := (f31.2 117 (by first | exact id | omega | (dsimp only; omega) | (dsimp only) | fail)).trans u10
    have y43 : (F11 106 18 ≤ F24 106 18 ∧ F24 106 17 = F11 106 17 ∧ ((F24 106 19 = 0 ∧ F11 106 19 = 0 ∧ (1 : Int) ≤ z29 ∧ z29 ≤ (F11 106 0) ∧ F11 106 18 + 1 ≤ F24 106 18) ∨ 1 ≤ F24 106 19)) ∧ gs_tf (F11 106 17) (F11 106 18) (A 116) (1 : Int) (F11 106 0) z29 (F24 106 19) (F24 106 20) (F24 106 18) (F11 106 20) := x27
    clear x27
    show sA _ _ _ 38 _ [gs_iv z29] _ _
    refine sA_istore_n (lv' := [(3, gs_iv z29), (2, gs_iv (F 106 18)), (0, .ref 106), (1, gs_iv k)]) dd_X9_readTwist_38 rfl (by decide) rfl ?_
    refine sA_aload_n dd_X9_readTwist_39 rfl (.tail _ (.tail _ (.head _))) ?_
    refine sA_geti (ci := 9) (j := 19) (q := (RX9, TX9, 28)) dd_X9_readTwist_40 rfl (by decide) fl_X9_189 (by decide) gs_s106 rfl ?_
    have b44 : (0 : Int) ≤ F24 106 19 ∧ F24 106 19 ≤ 4 := I30.1 106 19
    refine sA_if_le (tgt := 47) dd_X9_readTwist_43 (by decide) (by omega) (fun q45 => ?_) (fun q45 => ?_)
    · skip
      refine sA_aload_n dd_X9_readTwist_47 rfl (.tail _ (.tail _ (.head _))) ?_
      refine sA_callV (y2 := m_X9_look) (n2 := 0) (d2 := 1) (a := 106) (ci := 9) (q := (RX9, TX9, 28)) (as := []) (rest := []) dd_X9_readTwist_48 ok_X9_look ml_X9_192 rfl rfl (by decide) gs_s106 rfl rfl (Nat.le_of_ble_eq_true rfl) (by decide) (c_X9_look_vf I30 ) (fun r46 F47 A48 h49 => ?_)
      obtain ⟨z52, e51, I53, f54, x50⟩ := h49
      subst e51
      have v56 : F47 106 17 = F24 106 17 := f54.1 106 17 (by first | exact id | omega | (dsimp only; omega) | (dsimp only) | fail)
      have v57 : F47 106 19 = F24 106 19 := f54.1 106 19 (by first | exact id | omega | (dsimp only; omega) | (dsimp only) | fail)
      have v58 : F47 106 20 = F24 106 20 := f54.1 106 20 (by first | exact id | omega | (dsimp only; omega) | (dsimp only) | fail)
      have v59 : F47 106 24 = F24 106 24 := f54.1 106 24 (by first | exact id | omega | (dsimp only; omega) | (dsimp only) | fail)
      have v60 : F47 106 22 = F24 106 22 := f54.1 106 22 (by first | exact id | omega | (dsimp only; omega) | (dsimp only) | fail)
      have v61 : F47 106 0 = F24 106 0 := f54.1 106 0 (by first | exact id | omega | (dsimp only; omega) | (dsimp only) | fail)
      have f62 := gs_fr_tr f39 f54 (fun b j h => by first | exact False.elim h | omega | (dsimp only at h ⊢; omega) | fail) (fun b h => by first | exact False.elim h | omega | (dsimp only at h ⊢; omega) | fail)
      have u63 : A48 118 = A 118 := (f54.2 118 (by first | exact id | omega | (dsimp only; omega) | (dsimp only) | fail)).trans u40
      have u64 : A48 116 = A 116 := (f54.2 116 (by first | exact id | omega | (dsimp only; omega) | (dsimp only) | fail)).trans u41
      have u65 : A48 117 = A 117 := (f54.2 117 (by first | exact id | omega | (dsimp only; omega) | (dsimp only) | fail)).trans u42
      have y66 : F24 106 18 ≤ F47 106 18 ∧ F47 106 17 = F24 106 17 ∧ (∀ i : Int, F24 106 18 ≤ i → i < F47 106 18 → A25 116 i.toNat = 32) ∧ ((F47 106 18 < F24 106 17 ∧ A25 116 (F47 106 18).toNat ≠ 32 ∧ z52 = A25 116 (F47 106 18).toNat) ∨ (F24 106 17 ≤ F47 106 18 ∧ z52 = -1)) ∧ (F24 106 18 ≤ F24 106 17 → F47 106 18 ≤ F24 106 17) ∧ -2147483648 ≤ z52 ∧ z52 ≤ 2147483647 := x50
      clear x50
      show sA _ _ _ 51 _ [gs_iv z52] _ _
      refine sA_bipush (z := 45) dd_X9_readTwist_51 (by decide) ?_
      refine sA_icmp_ne (tgt := 60) dd_X9_readTwist_53 (by decide) (by omega) (by omega) (fun q67 => ?_) (fun q67 => ?_)
      · skip
        refine sA_iconst (z := 0) dd_X9_readTwist_60 ?_
        refine sA_istore (lv' := [(4, gs_iv 0), (3, gs_iv z29), (2, gs_iv (F 106 18)), (0, .ref 106), (1, gs_iv k)]) dd_X9_readTwist_61 (by decide) rfl ?_
        refine sA_aload_n dd_X9_readTwist_63 rfl (.tail _ (.tail _ (.tail _ (.head _)))) ?_
        refine sA_dup dd_X9_readTwist_64 rfl ?_
        refine sA_geti (ci := 9) (j := 18) (q := (RX9, TX9, 28)) dd_X9_readTwist_65 rfl (by decide) fl_X9_186 (by decide) gs_s106 rfl ?_
        have b68 : (0 : Int) ≤ F47 106 18 ∧ F47 106 18 ≤ 120 := I53.1 106 18
        refine sA_iload dd_X9_readTwist_68 (.head _) ?_
        refine sA_callS (y2 := m_X9_bit) (n2 := 1) (d2 := 1) (as := [gs_iv 0]) (rest := [gs_iv (F47 106 18), .ref 106]) dd_X9_readTwist_70 ok_X9_bit ml_X9_112 rfl rfl (Nat.le_of_ble_eq_true rfl) (by decide) (c_X9_bit (by omega)) (fun r69 F70 A71 h72 => ?_)
        obtain ⟨z75, e74, e76, e77, x73⟩ := h72
        subst e74 e76 e77
        show sA _ _ _ 73 _ [gs_iv z75, gs_iv (F47 106 18), .ref 106] _ _
        refine sA_iadd dd_X9_readTwist_73 ?_
        refine sA_put (ci := 9) (j := 18) (q := (RX9, TX9, 28)) (ty := .int) dd_X9_readTwist_74 rfl (by decide) fl_X9_186 rfl (tyX9_ok 18 (by decide)) rfl rfl (by decide) gs_s106 rfl ?_
        have I79 : gs_I (gs_up F47 106 18 ((F47 106 18) + z75)) A48 := gs_I_put I53 (show (0 : Int) ≤ (F47 106 18) + z75 ∧ (F47 106 18) + z75 ≤ 120 by omega)
        have f80 := gs_fr_put f62 (a := 106) (z := (F47 106 18) + z75) (j := 18) (by first | omega | (dsimp only; omega) | (dsimp only) | fail)
        have v81 : gs_up F47 106 18 ((F47 106 18) + z75) 106 18 = (F47 106 18) + z75 := gs_up_self _ _ _ _
        have v82 : (gs_up F47 106 18 ((F47 106 18) + z75)) 106 17 = F47 106 17 := gs_up_ne _ _ (by omega)
        have v83 : (gs_up F47 106 18 ((F47 106 18) + z75)) 106 19 = F47 106 19 := gs_up_ne _ _ (by omega)
        have v84 : (gs_up F47 106 18 ((F47 106 18) + z75)) 106 20 = F47 106 20 := gs_up_ne _ _ (by omega)
        have v85 : (gs_up F47 106 18 ((F47 106 18) + z75)) 106 24 = F47 106 24 := gs_up_ne _ _ (by omega)
        have v86 : (gs_up F47 106 18 ((F47 106 18) + z75)) 106 22 = F47 106 22 := gs_up_ne _ _ (by omega)
        have v87 : (gs_up F47 106 18 ((F47 106 18) + z75)) 106 0 = F47 106 0 := gs_up_ne _ _ (by omega)
        generalize gs_up F47 106 18 ((F47 106 18) + z75) = F78 at I79 f80 v81 v82 v83 v84 v85 v86 v87 ⊢
        refine sA_aload_n dd_X9_readTwist_77 rfl (.tail _ (.tail _ (.tail _ (.head _)))) ?_
        refine sA_aload_n dd_X9_readTwist_78 rfl (.tail _ (.tail _ (.tail _ (.head _)))) ?_
        refine sA_geti (ci := 9) (j := 24) (q := (RX9, TX9, 28)) dd_X9_readTwist_79 rfl (by decide) fl_X9_206 (by decide) gs_s106 rfl ?_
        have b88 : (0 : Int) ≤ F78 106 24 ∧ F78 106 24 ≤ 60 := I79.1 106 24
        refine sA_bipush (z := 60) dd_X9_readTwist_82 (by decide) ?_
        refine sA_icmp_ge (tgt := 91) dd_X9_readTwist_84 (by decide) (by omega) (by omega) (fun q89 => ?_) (fun q89 => ?_)
        · skip
          refine sA_iconst (z := 0) dd_X9_readTwist_91 ?_
          refine sA_iconst (z := 3) dd_X9_readTwist_92 ?_
          refine sA_iload_n dd_X9_readTwist_93 rfl (.tail _ (.tail _ (.head _))) ?_
          refine sA_callV (y2 := m_X9_want) (n2 := 3) (d2 := 1) (a := 106) (ci := 9) (q := (RX9, TX9, 28)) (as := [gs_iv 0, gs_iv 3, gs_iv (F 106 18)]) (rest := []) dd_X9_readTwist_94 ok_X9_want ml_X9_199 rfl rfl (by decide) gs_s106 rfl rfl (Nat.le_of_ble_eq_true rfl) (by decide) (c_X9_want_vf I79 (by omega) (by omega) (by omega)) (fun r90 F91 A92 h93 => ?_)
          obtain ⟨z96, e95, I97, f98, x94⟩ := h93
          subst e95
          have v99 : F91 106 18 = F78 106 18 := f98.1 106 18 (by first | exact id | omega | (dsimp only; omega) | (dsimp only) | fail)
          have v100 : F91 106 17 = F78 106 17 := f98.1 106 17 (by first | exact id | omega | (dsimp only; omega) | (dsimp only) | fail)
          have v103 : F91 106 24 = F78 106 24 := f98.1 106 24 (by first | exact id | omega | (dsimp only; omega) | (dsimp only) | fail)
          have v104 : F91 106 22 = F78 106 22 := f98.1 106 22 (by first | exact id | omega | (dsimp only; omega) | (dsimp only) | fail)
          have v105 : F91 106 0 = F78 106 0 := f98.1 106 0 (by first | exact id | omega | (dsimp only; omega) | (dsimp only) | fail)
          have f106 := gs_fr_tr f80 f98 (fun b j h => by first | exact False.elim h | omega | (dsimp only at h ⊢; omega) | fail) (fun b h => by first | exact False.elim h | omega | (dsimp only at h ⊢; omega) | fail)
          have u107 : A92 118 = A 118 := (f98.2 118 (by first | exact id | omega | (dsimp only; omega) | (dsimp only) | fail)).trans u63
          have u108 : A92 116 = A 116 := (f98.2 116 (by first | exact id | omega | (dsimp only; omega) | (dsimp only) | fail)).trans u64
          have u109 : A92 117 = A 117 := (f98.2 117 (by first | exact id | omega | (dsimp only; omega) | (dsimp only) | fail)).trans u65
          have y110 : (F78 106 19 = 0 ∧ (0 : Int) = 0 ∧ z96 = 0 ∧ F91 106 19 = (3 : Int) ∧ F91 106 20 = (F 106 18)) ∨ (F78 106 19 = 0 ∧ (0 : Int) = 1 ∧ z96 = 1 ∧ F91 106 19 = 0 ∧ F91 106 20 = F78 106 20) ∨ (F78 106 19 ≠ 0 ∧ z96 = 0 ∧ F91 106 19 = F78 106 19 ∧ F91 106 20 = F78 106 20) := x94
          clear x94
          show sA _ _ _ 97 _ [gs_iv z96] _ _
          refine sA_if_eq (tgt := 137) dd_X9_readTwist_97 (by decide) (by omega) (fun q111 => ?_) (fun q111 => ?_)
          · skip
            refine sA_vret dd_X9_readTwist_137 rfl ?_
            refine ⟨rfl, I97, f106, ?_⟩
            have hA116 : A 116 = A 116 := rfl
            have tf := y43.2
            rw [show F11 106 17 = F 106 17 by omega, show F11 106 18 = F 106 18 + 1 by omega] at tf
            rw [show F24 106 19 = 0 by omega] at tf
            obtain ⟨m1, m2, m3, m4, m5, m6, m7⟩ := rd_tw_good (by omega) hrd hst hc hk tf (by omega)
            refine ⟨by omega, by omega, by omega, ?_, by omega⟩
            refine .inr ⟨by omega, ?_⟩
            rw [show F91 106 17 = F 106 17 by omega, show F91 106 19 = 3 by omega, show F91 106 20 = F 106 18 by omega]
            exact m1 (by omega)
          · skip
            refine sA_aload_n dd_X9_readTwist_100 rfl (.tail _ (.tail _ (.tail _ (.head _)))) ?_
            refine sA_getr (ci := 9) (j := 23) (q := (RX9, TX9, 28)) dd_X9_readTwist_101 rfl (by decide) fl_X9_47 (by decide) gs_s106 rfl ?_
            refine sA_aload_n dd_X9_readTwist_104 rfl (.tail _ (.tail _ (.tail _ (.head _)))) ?_
            refine sA_geti (ci := 9) (j := 24) (q := (RX9, TX9, 28)) dd_X9_readTwist_105 rfl (by decide) fl_X9_206 (by decide) gs_s106 rfl ?_
            have b112 : (0 : Int) ≤ F91 106 24 ∧ F91 106 24 ≤ 60 := I97.1 106 24
            refine sA_iconst (z := 2) dd_X9_readTwist_108 ?_
            refine sA_iload_n dd_X9_readTwist_109 rfl (.tail _ (.tail _ (.tail _ (.tail _ (.head _))))) ?_
            refine sA_aload_n dd_X9_readTwist_110 rfl (.tail _ (.tail _ (.tail _ (.head _)))) ?_
            refine sA_geti (ci := 9) (j := 0) (q := (RX9, TX9, 28)) dd_X9_readTwist_111 rfl (by decide) fl_X9_64 (by decide) gs_s106 rfl ?_
            have b113 : (1 : Int) ≤ F91 106 0 ∧ F91 106 0 ≤ 3 := I97.1 106 0
            have hg114 : F91 106 0 = F 106 0 := by omega
            have hmb2 := gs_mul_bd (x := k) (y := F91 106 0) (m := 2) (k := 3) (by omega) (by omega) (by omega)
            refine sA_imul dd_X9_readTwist_114 ?_
            refine sA_iload_n dd_X9_readTwist_115 rfl (.tail _ (.head _)) ?_
            refine sA_iadd dd_X9_readTwist_116 ?_
            refine sA_iconst (z := 1) dd_X9_readTwist_117 ?_
            refine sA_isub dd_X9_readTwist_118 ?_
            refine sA_imul dd_X9_readTwist_119 ?_
            refine sA_iload dd_X9_readTwist_120 (.head _) ?_
            refine sA_callS (y2 := m_X9_bit) (n2 := 1) (d2 := 1) (as := [gs_iv 0]) (rest := [gs_iv (2 * (((k * (F91 106 0)) + z29) - 1)), gs_iv (F91 106 24), .ref 118]) dd_X9_readTwist_122 ok_X9_bit ml_X9_112 rfl rfl (Nat.le_of_ble_eq_true rfl) (by decide) (c_X9_bit (by omega)) (fun r114 F115 A116 h117 => ?_)
            obtain ⟨z120, e119, e121, e122, x118⟩ := h117
            subst e119 e121 e122
            show sA _ _ _ 125 _ [gs_iv z120, gs_iv (2 * (((k * (F91 106 0)) + z29) - 1)), gs_iv (F91 106 24), .ref 118] _ _
            refine sA_iadd dd_X9_readTwist_125 ?_
            refine sA_iast (n := 600) dd_X9_readTwist_126 (by decide) gs_s118 (by omega) (by decide) ?_
            have I124 : gs_I F91 (gs_up A92 118 ((F91 106 24).toNat) ((2 * (((k * (F91 106 0)) + z29) - 1)) + z120)) := gs_I_ast I97 (show (-2147483648 : Int) ≤ (2 * (((k * (F91 106 0)) + z29) - 1)) + z120 ∧ (2 * (((k * (F91 106 0)) + z29) - 1)) + z120 ≤ 2147483647 by omega)
            have f125 := gs_fr_ast f106 (a := 118) (z := (2 * (((k * (F91 106 0)) + z29) - 1)) + z120) (i := (F91 106 24).toNat) (by first | omega | (dsimp only; omega) | (dsimp only) | fail)
            have u126 : (gs_up A92 118 ((F91 106 24).toNat) ((2 * (((k * (F91 106 0)) + z29) - 1)) + z120)) 118 = gs_u (A 118) ((F91 106 24).toNat) ((2 * (((k * (F91 106 0)) + z29) - 1)) + z120) := (gs_up_u A92 118 ((F91 106 24).toNat) ((2 * (((k * (F91 106 0)) + z29) - 1)) + z120)).trans (congrArg (fun f => gs_u f ((F91 106 24).toNat) ((2 * (((k * (F91 106 0)) + z29) - 1)) + z120)) u107)
            have u127 : (gs_up A92 118 ((F91 106 24).toNat) ((2 * (((k * (F91 106 0)) + z29) - 1)) + z120)) 116 = A 116 := (gs_up_row _ _ (by omega)).trans u108
            have u128 : (gs_up A92 118 ((F91 106 24).toNat) ((2 * (((k * (F91 106 0)) + z29) - 1)) + z120)) 117 = A 117 := (gs_up_row _ _ (by omega)).trans u109
            generalize gs_up A92 118 ((F91 106 24).toNat) ((2 * (((k * (F91 106 0)) + z29) - 1)) + z120) = A123 at I124 f125 u126 u127 u128 ⊢
            refine sA_aload_n dd_X9_readTwist_127 rfl (.tail _ (.tail _ (.tail _ (.head _)))) ?_
            refine sA_dup dd_X9_readTwist_128 rfl ?_
            refine sA_geti (ci := 9) (j := 24) (q := (RX9, TX9, 28)) dd_X9_readTwist_129 rfl (by decide) fl_X9_206 (by decide) gs_s106 rfl ?_
            refine sA_iconst (z := 1) dd_X9_readTwist_132 ?_
            refine sA_iadd dd_X9_readTwist_133 ?_
            refine sA_put (ci := 9) (j := 24) (q := (RX9, TX9, 28)) (ty := .int) dd_X9_readTwist_134 rfl (by decide) fl_X9_206 rfl (tyX9_ok 24 (by decide)) rfl rfl (by decide) gs_s106 rfl ?_
            have I130 : gs_I (gs_up F91 106 24 ((F91 106 24) + 1)) A123 := gs_I_put I124 (show (0 : Int) ≤ (F91 106 24) + 1 ∧ (F91 106 24) + 1 ≤ 60 by omega)
            have f131 := gs_fr_put f125 (a := 106) (z := (F91 106 24) + 1) (j := 24) (by first | omega | (dsimp only; omega) | (dsimp only) | fail)
            have v132 : gs_up F91 106 24 ((F91 106 24) + 1) 106 24 = (F91 106 24) + 1 := gs_up_self _ _ _ _
            have v133 : (gs_up F91 106 24 ((F91 106 24) + 1)) 106 18 = F91 106 18 := gs_up_ne _ _ (by omega)
            have v134 : (gs_up F91 106 24 ((F91 106 24) + 1)) 106 17 = F91 106 17 := gs_up_ne _ _ (by omega)
            have v135 : (gs_up F91 106 24 ((F91 106 24) + 1)) 106 19 = F91 106 19 := gs_up_ne _ _ (by omega)
            have v136 : (gs_up F91 106 24 ((F91 106 24) + 1)) 106 20 = F91 106 20 := gs_up_ne _ _ (by omega)
            have v137 : (gs_up F91 106 24 ((F91 106 24) + 1)) 106 22 = F91 106 22 := gs_up_ne _ _ (by omega)
            have v138 : (gs_up F91 106 24 ((F91 106 24) + 1)) 106 0 = F91 106 0 := gs_up_ne _ _ (by omega)
            generalize gs_up F91 106 24 ((F91 106 24) + 1) = F129 at I130 f131 v132 v133 v134 v135 v136 v137 v138 ⊢
            refine sA_vret dd_X9_readTwist_137 rfl ?_
            refine ⟨rfl, I130, f131, ?_⟩
            have hA116 : A 116 = A 116 := rfl
            have tf := y43.2
            rw [show F11 106 17 = F 106 17 by omega, show F11 106 18 = F 106 18 + 1 by omega] at tf
            rw [show F24 106 19 = 0 by omega] at tf
            obtain ⟨m1, m2, m3, m4, m5, m6, m7⟩ := rd_tw_good (by omega) hrd hst hc hk tf (by omega)
            refine ⟨by omega, by omega, by omega, ?_, by omega⟩
            have lk := y66
            have hA48 : A25 116 = A 116 := f31.2 116 (by first | exact id | (dsimp only; omega) | fail)
            rw [hA48] at lk
            obtain ⟨lk1, lk2, lk3, lk4, lk5, lk6⟩ := lk
            have m8 := m2 (by omega)
            have m9 := (rd_mv (g := F 106 0) (s0 := s0) (by omega) (show F24 106 18 ≤ F47 106 18 by omega) lk3).trans m8
            have hev := rd_flip_e (x := 2 * (k * F 106 0 + z29 - 1)) (by rcases (show k = 0 ∨ k = 1 ∨ k = 2 by omega) with e | e | e <;> subst e <;> omega)
            have hv118 : A123 118 = gs_u (A 118) (F 106 24).toNat (2 * (k * F 106 0 + z29 - 1) + z120) := by rw [u126, show F91 106 24 = F 106 24 by omega, show F91 106 0 = F 106 0 by omega]
            by_cases hz : z120 = 1
            · have hd := rd_dash (by omega) m9 (by omega) (by omega)
              rw [show F 106 24 + 1 - 1 = F 106 24 by omega, gs_u_self, gs_u_u, show rd_flip (2 * (k * F 106 0 + z29 - 1)) = 2 * (k * F 106 0 + z29 - 1) + z120 by omega] at hd
              refine .inl ⟨by omega, by omega, by omega, 0, k, F 106 18, ?_, .inl rfl⟩
              rw [show F129 106 18 = F47 106 18 + 1 by omega, hd, show F129 106 22 = F 106 22 by omega, show F129 106 24 = F 106 24 + 1 by omega, hv118, u128]
            · refine .inl ⟨by omega, by omega, by omega, 2, k, F 106 18, ?_, .inr ⟨rfl, by rw [show F129 106 18 = F47 106 18 by omega]; omega⟩⟩
              rw [show F129 106 18 = F47 106 18 by omega, m9, show F129 106 22 = F 106 22 by omega, show F129 106 24 = F 106 24 + 1 by omega, hv118, u128, show z120 = 0 by omega, Int.add_zero]
        · skip
          refine sA_iconst (z := 1) dd_X9_readTwist_87 ?_
          refine sA_goto (tgt := 92) dd_X9_readTwist_88 (by decide) ?_
          refine sA_iconst (z := 3) dd_X9_readTwist_92 ?_
          refine sA_iload_n dd_X9_readTwist_93 rfl (.tail _ (.tail _ (.head _))) ?_
          refine sA_callV (y2 := m_X9_want) (n2 := 3) (d2 := 1) (a := 106) (ci := 9) (q := (RX9, TX9, 28)) (as := [gs_iv 1, gs_iv 3, gs_iv (F 106 18)]) (rest := []) dd_X9_readTwist_94 ok_X9_want ml_X9_199 rfl rfl (by decide) gs_s106 rfl rfl (Nat.le_of_ble_eq_true rfl) (by decide) (c_X9_want_vf I79 (by omega) (by omega) (by omega)) (fun r139 F140 A141 h142 => ?_)
          obtain ⟨z145, e144, I146, f147, x143⟩ := h142
          subst e144
          have v148 : F140 106 18 = F78 106 18 := f147.1 106 18 (by first | exact id | omega | (dsimp only; omega) | (dsimp only) | fail)
          have v149 : F140 106 17 = F78 106 17 := f147.1 106 17 (by first | exact id | omega | (dsimp only; omega) | (dsimp only) | fail)
          have v152 : F140 106 24 = F78 106 24 := f147.1 106 24 (by first | exact id | omega | (dsimp only; omega) | (dsimp only) | fail)
          have v153 : F140 106 22 = F78 106 22 := f147.1 106 22 (by first | exact id | omega | (dsimp only; omega) | (dsimp only) | fail)
          have v154 : F140 106 0 = F78 106 0 := f147.1 106 0 (by first | exact id | omega | (dsimp only; omega) | (dsimp only) | fail)
          have f155 := gs_fr_tr f80 f147 (fun b j h => by first | exact False.elim h | omega | (dsimp only at h ⊢; omega) | fail) (fun b h => by first | exact False.elim h | omega | (dsimp only at h ⊢; omega) | fail)
          have u156 : A141 118 = A 118 := (f147.2 118 (by first | exact id | omega | (dsimp only; omega) | (dsimp only) | fail)).trans u63
          have u157 : A141 116 = A 116 := (f147.2 116 (by first | exact id | omega | (dsimp only; omega) | (dsimp only) | fail)).trans u64
          have u158 : A141 117 = A 117 := (f147.2 117 (by first | exact id | omega | (dsimp only; omega) | (dsimp only) | fail)).trans u65
          have y159 : (F78 106 19 = 0 ∧ (1 : Int) = 0 ∧ z145 = 0 ∧ F140 106 19 = (3 : Int) ∧ F140 106 20 = (F 106 18)) ∨ (F78 106 19 = 0 ∧ (1 : Int) = 1 ∧ z145 = 1 ∧ F140 106 19 = 0 ∧ F140 106 20 = F78 106 20) ∨ (F78 106 19 ≠ 0 ∧ z145 = 0 ∧ F140 106 19 = F78 106 19 ∧ F140 106 20 = F78 106 20) := x143
          clear x143
          show sA _ _ _ 97 _ [gs_iv z145] _ _
          refine sA_if_eq (tgt := 137) dd_X9_readTwist_97 (by decide) (by omega) (fun q160 => ?_) (fun q160 => ?_)
          · skip
            refine sA_vret dd_X9_readTwist_137 rfl ?_
            refine ⟨rfl, I146, f155, ?_⟩
            have hA116 : A 116 = A 116 := rfl
            have tf := y43.2
            rw [show F11 106 17 = F 106 17 by omega, show F11 106 18 = F 106 18 + 1 by omega] at tf
            rw [show F24 106 19 = 0 by omega] at tf
            obtain ⟨m1, m2, m3, m4, m5, m6, m7⟩ := rd_tw_good (by omega) hrd hst hc hk tf (by omega)
            refine ⟨by omega, by omega, by omega, ?_, by omega⟩
            refine .inr ⟨by omega, ?_⟩
            rw [show F140 106 17 = F 106 17 by omega, show F140 106 19 = 3 by omega, show F140 106 20 = F 106 18 by omega]
            exact m1 (by omega)
          · skip
            refine sA_aload_n dd_X9_readTwist_100 rfl (.tail _ (.tail _ (.tail _ (.head _)))) ?_
            refine sA_getr (ci := 9) (j := 23) (q := (RX9, TX9, 28)) dd_X9_readTwist_101 rfl (by decide) fl_X9_47 (by decide) gs_s106 rfl ?_
            refine sA_aload_n dd_X9_readTwist_104 rfl (.tail _ (.tail _ (.tail _ (.head _)))) ?_
            refine sA_geti (ci := 9) (j := 24) (q := (RX9, TX9, 28)) dd_X9_readTwist_105 rfl (by decide) fl_X9_206 (by decide) gs_s106 rfl ?_
            have b161 : (0 : Int) ≤ F140 106 24 ∧ F140 106 24 ≤ 60 := I146.1 106 24
            refine sA_iconst (z := 2) dd_X9_readTwist_108 ?_
            refine sA_iload_n dd_X9_readTwist_109 rfl (.tail _ (.tail _ (.tail _ (.tail _ (.head _))))) ?_
            refine sA_aload_n dd_X9_readTwist_110 rfl (.tail _ (.tail _ (.tail _ (.head _)))) ?_
            refine sA_geti (ci := 9) (j := 0) (q := (RX9, TX9, 28)) dd_X9_readTwist_111 rfl (by decide) fl_X9_64 (by decide) gs_s106 rfl ?_
            have b162 : (1 : Int) ≤ F140 106 0 ∧ F140 106 0 ≤ 3 := I146.1 106 0
            have hg114 : F140 106 0 = F 106 0 := by omega
            have hmb2 := gs_mul_bd (x := k) (y := F140 106 0) (m := 2) (k := 3) (by omega) (by omega) (by omega)
            refine sA_imul dd_X9_readTwist_114 ?_
            refine sA_iload_n dd_X9_readTwist_115 rfl (.tail _ (.head _)) ?_
            refine sA_iadd dd_X9_readTwist_116 ?_
            refine sA_iconst (z := 1) dd_X9_readTwist_117 ?_
            refine sA_isub dd_X9_readTwist_118 ?_
            refine sA_imul dd_X9_readTwist_119 ?_
            refine sA_iload dd_X9_readTwist_120 (.head _) ?_
            refine sA_callS (y2 := m_X9_bit) (n2 := 1) (d2 := 1) (as := [gs_iv 0]) (rest := [gs_iv (2 * (((k * (F140 106 0)) + z29) - 1)), gs_iv (F140 106 24), .ref 118]) dd_X9_readTwist_122 ok_X9_bit ml_X9_112 rfl rfl (Nat.le_of_ble_eq_true rfl) (by decide) (c_X9_bit (by omega)) (fun r163 F164 A165 h166 => ?_)
            obtain ⟨z169, e168, e170, e171, x167⟩ := h166
            subst e168 e170 e171
            show sA _ _ _ 125 _ [gs_iv z169, gs_iv (2 * (((k * (F140 106 0)) + z29) - 1)), gs_iv (F140 106 24), .ref 118] _ _
            refine sA_iadd dd_X9_readTwist_125 ?_
            refine sA_iast (n := 600) dd_X9_readTwist_126 (by decide) gs_s118 (by omega) (by decide) ?_
            have I173 : gs_I F140 (gs_up A141 118 ((F140 106 24).toNat) ((2 * (((k * (F140 106 0)) + z29) - 1)) + z169)) := gs_I_ast I146 (show (-2147483648 : Int) ≤ (2 * (((k * (F140 106 0)) + z29) - 1)) + z169 ∧ (2 * (((k * (F140 106 0)) + z29) - 1)) + z169 ≤ 2147483647 by omega)
            have f174 := gs_fr_ast f155 (a := 118) (z := (2 * (((k * (F140 106 0)) + z29) - 1)) + z169) (i := (F140 106 24).toNat) (by first | omega | (dsimp only; omega) | (dsimp only) | fail)
            have u175 : (gs_up A141 118 ((F140 106 24).toNat) ((2 * (((k * (F140 106 0)) + z29) - 1)) + z169)) 118 = gs_u (A 118) ((F140 106 24).toNat) ((2 * (((k * (F140 106 0)) + z29) - 1)) + z169) := (gs_up_u A141 118 ((F140 106 24).toNat) ((2 * (((k * (F140 106 0)) + z29) - 1)) + z169)).trans (congrArg (fun f => gs_u f ((F140 106 24).toNat) ((2 * (((k * (F140 106 0)) + z29) - 1)) + z169)) u156)
            have u176 : (gs_up A141 118 ((F140 106 24).toNat) ((2 * (((k * (F140 106 0)) + z29) - 1)) + z169)) 116 = A 116 := (gs_up_row _ _ (by omega)).trans u157
            have u177 : (gs_up A141 118 ((F140 106 24).toNat) ((2 * (((k * (F140 106 0)) + z29) - 1)) + z169)) 117 = A 117 := (gs_up_row _ _ (by omega)).trans u158
            generalize gs_up A141 118 ((F140 106 24).toNat) ((2 * (((k * (F140 106 0)) + z29) - 1)) + z169) = A172 at I173 f174 u175 u176 u177 ⊢
            refine sA_aload_n dd_X9_readTwist_127 rfl (.tail _ (.tail _ (.tail _ (.head _)))) ?_
            refine sA_dup dd_X9_readTwist_128 rfl ?_
            refine sA_geti (ci := 9) (j := 24) (q := (RX9, TX9, 28)) dd_X9_readTwist_129 rfl (by decide) fl_X9_206 (by decide) gs_s106 rfl ?_
            refine sA_iconst (z := 1) dd_X9_readTwist_132 ?_
            refine sA_iadd dd_X9_readTwist_133 ?_
            refine sA_put (ci := 9) (j := 24) (q := (RX9, TX9, 28)) (ty := .int) dd_X9_readTwist_134 rfl (by decide) fl_X9_206 rfl (tyX9_ok 24 (by decide)) rfl rfl (by decide) gs_s106 rfl ?_
            have I179 : gs_I (gs_up F140 106 24 ((F140 106 24) + 1)) A172 := gs_I_put I173 (show (0 : Int) ≤ (F140 106 24) + 1 ∧ (F140 106 24) + 1 ≤ 60 by omega)
            have f180 := gs_fr_put f174 (a := 106) (z := (F140 106 24) + 1) (j := 24) (by first | omega | (dsimp only; omega) | (dsimp only) | fail)
            have v181 : gs_up F140 106 24 ((F140 106 24) + 1) 106 24 = (F140 106 24) + 1 := gs_up_self _ _ _ _
            have v182 : (gs_up F140 106 24 ((F140 106 24) + 1)) 106 18 = F140 106 18 := gs_up_ne _ _ (by omega)
            have v183 : (gs_up F140 106 24 ((F140 106 24) + 1)) 106 17 = F140 106 17 := gs_up_ne _ _ (by omega)
            have v184 : (gs_up F140 106 24 ((F140 106 24) + 1)) 106 19 = F140 106 19 := gs_up_ne _ _ (by omega)
            have v185 : (gs_up F140 106 24 ((F140 106 24) + 1)) 106 20 = F140 106 20 := gs_up_ne _ _ (by omega)
            have v186 : (gs_up F140 106 24 ((F140 106 24) + 1)) 106 22 = F140 106 22 := gs_up_ne _ _ (by omega)
            have v187 : (gs_up F140 106 24 ((F140 106 24) + 1)) 106 0 = F140 106 0 := gs_up_ne _ _ (by omega)
            generalize gs_up F140 106 24 ((F140 106 24) + 1) = F178 at I179 f180 v181 v182 v183 v184 v185 v186 v187 ⊢
            refine sA_vret dd_X9_readTwist_137 rfl ?_
            refine ⟨rfl, I179, f180, ?_⟩
            have hA116 : A 116 = A 116 := rfl
            have tf := y43.2
            rw [show F11 106 17 = F 106 17 by omega, show F11 106 18 = F 106 18 + 1 by omega] at tf
            rw [show F24 106 19 = 0 by omega] at tf
            obtain ⟨m1, m2, m3, m4, m5, m6, m7⟩ := rd_tw_good (by omega) hrd hst hc hk tf (by omega)
            refine ⟨by omega, by omega, by omega, ?_, by omega⟩
            have lk := y66
            have hA48 : A25 116 = A 116 := f31.2 116 (by first | exact id | (dsimp only; omega) | fail)
            rw [hA48] at lk
            obtain ⟨lk1, lk2, lk3, lk4, lk5, lk6⟩ := lk
            have m8 := m2 (by omega)
            have m9 := (rd_mv (g := F 106 0) (s0 := s0) (by omega) (show F24 106 18 ≤ F47 106 18 by omega) lk3).trans m8
            have hev := rd_flip_e (x := 2 * (k * F 106 0 + z29 - 1)) (by rcases (show k = 0 ∨ k = 1 ∨ k = 2 by omega) with e | e | e <;> subst e <;> omega)
            have hv118 : A172 118 = gs_u (A 118) (F 106 24).toNat (2 * (k * F 106 0 + z29 - 1) + z169) := by rw [u175, show F140 106 24 = F 106 24 by omega, show F140 106 0 = F 106 0 by omega]
            by_cases hz : z169 = 1
            · have hd := rd_dash (by omega) m9 (by omega) (by omega)
              rw [show F 106 24 + 1 - 1 = F 106 24 by omega, gs_u_self, gs_u_u, show rd_flip (2 * (k * F 106 0 + z29 - 1)) = 2 * (k * F 106 0 + z29 - 1) + z169 by omega] at hd
              refine .inl ⟨by omega, by omega, by omega, 0, k, F 106 18, ?_, .inl rfl⟩
              rw [show F178 106 18 = F47 106 18 + 1 by omega, hd, show F178 106 22 = F 106 22 by omega, show F178 106 24 = F 106 24 + 1 by omega, hv118, u177]
            · refine .inl ⟨by omega, by omega, by omega, 2, k, F 106 18, ?_, .inr ⟨rfl, by rw [show F178 106 18 = F47 106 18 by omega]; omega⟩⟩
              rw [show F178 106 18 = F47 106 18 by omega, m9, show F178 106 22 = F 106 22 by omega, show F178 106 24 = F 106 24 + 1 by omega, hv118, u177, show z169 = 0 by omega, Int.add_zero]
      · skip
        refine sA_iconst (z := 1) dd_X9_readTwist_56 ?_
        refine sA_goto (tgt := 61) dd_X9_readTwist_57 (by decide) ?_
        refine sA_istore (lv' := [(4, gs_iv 1), (3, gs_iv z29), (2, gs_iv (F 106 18)), (0, .ref 106), (1, gs_iv k)]) dd_X9_readTwist_61 (by decide) rfl ?_
        refine sA_aload_n dd_X9_readTwist_63 rfl (.tail _ (.tail _ (.tail _ (.head _)))) ?_
        refine sA_dup dd_X9_readTwist_64 rfl ?_
        refine sA_geti (ci := 9) (j := 18) (q := (RX9, TX9, 28)) dd_X9_readTwist_65 rfl (by decide) fl_X9_186 (by decide) gs_s106 rfl ?_
        have b188 : (0 : Int) ≤ F47 106 18 ∧ F47 106 18 ≤ 120 := I53.1 106 18
        refine sA_iload dd_X9_readTwist_68 (.head _) ?_
        refine sA_callS (y2 := m_X9_bit) (n2 := 1) (d2 := 1) (as := [gs_iv 1]) (rest := [gs_iv (F47 106 18), .ref 106]) dd_X9_readTwist_70 ok_X9_bit ml_X9_112 rfl rfl (Nat.le_of_ble_eq_true rfl) (by decide) (c_X9_bit (by omega)) (fun r189 F190 A191 h192 => ?_)
        obtain ⟨z195, e194, e196, e197, x193⟩ := h192
        subst e194 e196 e197
        show sA _ _ _ 73 _ [gs_iv z195, gs_iv (F47 106 18), .ref 106] _ _
        refine sA_iadd dd_X9_readTwist_73 ?_
        refine sA_put (ci := 9) (j := 18) (q := (RX9, TX9, 28)) (ty := .int) dd_X9_readTwist_74 rfl (by decide) fl_X9_186 rfl (tyX9_ok 18 (by decide)) rfl rfl (by decide) gs_s106 rfl ?_
        have I199 : gs_I (gs_up F47 106 18 ((F47 106 18) + z195)) A48 := gs_I_put I53 (show (0 : Int) ≤ (F47 106 18) + z195 ∧ (F47 106 18) + z195 ≤ 120 by omega)
        have f200 := gs_fr_put f62 (a := 106) (z := (F47 106 18) + z195) (j := 18) (by first | omega | (dsimp only; omega) | (dsimp only) | fail)
        have v201 : gs_up F47 106 18 ((F47 106 18) + z195) 106 18 = (F47 106 18) + z195 := gs_up_self _ _ _ _
        have v202 : (gs_up F47 106 18 ((F47 106 18) + z195)) 106 17 = F47 106 17 := gs_up_ne _ _ (by omega)
        have v203 : (gs_up F47 106 18 ((F47 106 18) + z195)) 106 19 = F47 106 19 := gs_up_ne _ _ (by omega)
        have v204 : (gs_up F47 106 18 ((F47 106 18) + z195)) 106 20 = F47 106 20 := gs_up_ne _ _ (by omega)
        have v205 : (gs_up F47 106 18 ((F47 106 18) + z195)) 106 24 = F47 106 24 := gs_up_ne _ _ (by omega)
        have v206 : (gs_up F47 106 18 ((F47 106 18) + z195)) 106 22 = F47 106 22 := gs_up_ne _ _ (by omega)
        have v207 : (gs_up F47 106 18 ((F47 106 18) + z195)) 106 0 = F47 106 0 := gs_up_ne _ _ (by omega)
        generalize gs_up F47 106 18 ((F47 106 18) + z195) = F198 at I199 f200 v201 v202 v203 v204 v205 v206 v207 ⊢
        refine sA_aload_n dd_X9_readTwist_77 rfl (.tail _ (.tail _ (.tail _ (.head _)))) ?_
        refine sA_aload_n dd_X9_readTwist_78 rfl (.tail _ (.tail _ (.tail _ (.head _)))) ?_
        refine sA_geti (ci := 9) (j := 24) (q := (RX9, TX9, 28)) dd_X9_readTwist_79 rfl (by decide) fl_X9_206 (by decide) gs_s106 rfl ?_
        have b208 : (0 : Int) ≤ F198 106 24 ∧ F198 106 24 ≤ 60 := I199.1 106 24
        refine sA_bipush (z := 60) dd_X9_readTwist_82 (by decide) ?_
        refine sA_icmp_ge (tgt := 91) dd_X9_readTwist_84 (by decide) (by omega) (by omega) (fun q209 => ?_) (fun q209 => ?_)
        · skip
          refine sA_iconst (z := 0) dd_X9_readTwist_91 ?_
          refine sA_iconst (z := 3) dd_X9_readTwist_92 ?_
          refine sA_iload_n dd_X9_readTwist_93 rfl (.tail _ (.tail _ (.head _))) ?_
          refine sA_callV (y2 := m_X9_want) (n2 := 3) (d2 := 1) (a := 106) (ci := 9) (q := (RX9, TX9, 28)) (as := [gs_iv 0, gs_iv 3, gs_iv (F 106 18)]) (rest := []) dd_X9_readTwist_94 ok_X9_want ml_X9_199 rfl rfl (by decide) gs_s106 rfl rfl (Nat.le_of_ble_eq_true rfl) (by decide) (c_X9_want_vf I199 (by omega) (by omega) (by omega)) (fun r210 F211 A212 h213 => ?_)
          obtain ⟨z216, e215, I217, f218, x214⟩ := h213
          subst e215
          have v219 : F211 106 18 = F198 106 18 := f218.1 106 18 (by first | exact id | omega | (dsimp only; omega) | (dsimp only) | fail)
          have v220 : F211 106 17 = F198 106 17 := f218.1 106 17 (by first | exact id | omega | (dsimp only; omega) | (dsimp only) | fail)
          have v223 : F211 106 24 = F198 106 24 := f218.1 106 24 (by first | exact id | omega | (dsimp only; omega) | (dsimp only) | fail)
          have v224 : F211 106 22 = F198 106 22 := f218.1 106 22 (by first | exact id | omega | (dsimp only; omega) | (dsimp only) | fail)
          have v225 : F211 106 0 = F198 106 0 := f218.1 106 0 (by first | exact id | omega | (dsimp only; omega) | (dsimp only) | fail)
          have f226 := gs_fr_tr f200 f218 (fun b j h => by first | exact False.elim h | omega | (dsimp only at h ⊢; omega) | fail) (fun b h => by first | exact False.elim h | omega | (dsimp only at h ⊢; omega) | fail)
          have u227 : A212 118 = A 118 := (f218.2 118 (by first | exact id | omega | (dsimp only; omega) | (dsimp only) | fail)).trans u63
          have u228 : A212 116 = A 116 := (f218.2 116 (by first | exact id | omega | (dsimp only; omega) | (dsimp only) | fail)).trans u64
          have u229 : A212 117 = A 117 := (f218.2 117 (by first | exact id | omega | (dsimp only; omega) | (dsimp only) | fail)).trans u65
          have y230 : (F198 106 19 = 0 ∧ (0 : Int) = 0 ∧ z216 = 0 ∧ F211 106 19 = (3 : Int) ∧ F211 106 20 = (F 106 18)) ∨ (F198 106 19 = 0 ∧ (0 : Int) = 1 ∧ z216 = 1 ∧ F211 106 19 = 0 ∧ F211 106 20 = F198 106 20) ∨ (F198 106 19 ≠ 0 ∧ z216 = 0 ∧ F211 106 19 = F198 106 19 ∧ F211 106 20 = F198 106 20) := x214
          clear x214
          show sA _ _ _ 97 _ [gs_iv z216] _ _
          refine sA_if_eq (tgt := 137) dd_X9_readTwist_97 (by decide) (by omega) (fun q231 => ?_) (fun q231 => ?_)
          · skip
            refine sA_vret dd_X9_readTwist_137 rfl ?_
            refine ⟨rfl, I217, f226, ?_⟩
            have hA116 : A 116 = A 116 := rfl
            have tf := y43.2
            rw [show F11 106 17 = F 106 17 by omega, show F11 106 18 = F 106 18 + 1 by omega] at tf
            rw [show F24 106 19 = 0 by omega] at tf
            obtain ⟨m1, m2, m3, m4, m5, m6, m7⟩ := rd_tw_good (by omega) hrd hst hc hk tf (by omega)
            refine ⟨by omega, by omega, by omega, ?_, by omega⟩
            refine .inr ⟨by omega, ?_⟩
            rw [show F211 106 17 = F 106 17 by omega, show F211 106 19 = 3 by omega, show F211 106 20 = F 106 18 by omega]
            exact m1 (by omega)
          · skip
            refine sA_aload_n dd_X9_readTwist_100 rfl (.tail _ (.tail _ (.tail _ (.head _)))) ?_
            refine sA_getr (ci := 9) (j := 23) (q := (RX9, TX9, 28)) dd_X9_readTwist_101 rfl (by decide) fl_X9_47 (by decide) gs_s106 rfl ?_
            refine sA_aload_n dd_X9_readTwist_104 rfl (.tail _ (.tail _ (.tail _ (.head _)))) ?_
            refine sA_geti (ci := 9) (j := 24) (q := (RX9, TX9, 28)) dd_X9_readTwist_105 rfl (by decide) fl_X9_206 (by decide) gs_s106 rfl ?_
            have b232 : (0 : Int) ≤ F211 106 24 ∧ F211 106 24 ≤ 60 := I217.1 106 24
            refine sA_iconst (z := 2) dd_X9_readTwist_108 ?_
            refine sA_iload_n dd_X9_readTwist_109 rfl (.tail _ (.tail _ (.tail _ (.tail _ (.head _))))) ?_
            refine sA_aload_n dd_X9_readTwist_110 rfl (.tail _ (.tail _ (.tail _ (.head _)))) ?_
            refine sA_geti (ci := 9) (j := 0) (q := (RX9, TX9, 28)) dd_X9_readTwist_111 rfl (by decide) fl_X9_64 (by decide) gs_s106 rfl ?_
            have b233 : (1 : Int) ≤ F211 106 0 ∧ F211 106 0 ≤ 3 := I217.1 106 0
            have hg114 : F211 106 0 = F 106 0 := by omega
            have hmb2 := gs_mul_bd (x := k) (y := F211 106 0) (m := 2) (k := 3) (by omega) (by omega) (by omega)
            refine sA_imul dd_X9_readTwist_114 ?_
            refine sA_iload_n dd_X9_readTwist_115 rfl (.tail _ (.head _)) ?_
            refine sA_iadd dd_X9_readTwist_116 ?_
            refine sA_iconst (z := 1) dd_X9_readTwist_117 ?_
            refine sA_isub dd_X9_readTwist_118 ?_
            refine sA_imul dd_X9_readTwist_119 ?_
            refine sA_iload dd_X9_readTwist_120 (.head _) ?_
            refine sA_callS (y2 := m_X9_bit) (n2 := 1) (d2 := 1) (as := [gs_iv 1]) (rest := [gs_iv (2 * (((k * (F211 106 0)) + z29) - 1)), gs_iv (F211 106 24), .ref 118]) dd_X9_readTwist_122 ok_X9_bit ml_X9_112 rfl rfl (Nat.le_of_ble_eq_true rfl) (by decide) (c_X9_bit (by omega)) (fun r234 F235 A236 h237 => ?_)
            obtain ⟨z240, e239, e241, e242, x238⟩ := h237
            subst e239 e241 e242
            show sA _ _ _ 125 _ [gs_iv z240, gs_iv (2 * (((k * (F211 106 0)) + z29) - 1)), gs_iv (F211 106 24), .ref 118] _ _
            refine sA_iadd dd_X9_readTwist_125 ?_
            refine sA_iast (n := 600) dd_X9_readTwist_126 (by decide) gs_s118 (by omega) (by decide) ?_
            have I244 : gs_I F211 (gs_up A212 118 ((F211 106 24).toNat) ((2 * (((k * (F211 106 0)) + z29) - 1)) + z240)) := gs_I_ast I217 (show (-2147483648 : Int) ≤ (2 * (((k * (F211 106 0)) + z29) - 1)) + z240 ∧ (2 * (((k * (F211 106 0)) + z29) - 1)) + z240 ≤ 2147483647 by omega)
            have f245 := gs_fr_ast f226 (a := 118) (z := (2 * (((k * (F211 106 0)) + z29) - 1)) + z240) (i := (F211 106 24).toNat) (by first | omega | (dsimp only; omega) | (dsimp only) | fail)
            have u246 : (gs_up A212 118 ((F211 106 24).toNat) ((2 * (((k * (F211 106 0)) + z29) - 1)) + z240)) 118 = gs_u (A 118) ((F211 106 24).toNat) ((2 * (((k * (F211 106 0)) + z29) - 1)) + z240) := (gs_up_u A212 118 ((F211 106 24).toNat) ((2 * (((k * (F211 106 0)) + z29) - 1)) + z240)).trans (congrArg (fun f => gs_u f ((F211 106 24).toNat) ((2 * (((k * (F211 106 0)) + z29) - 1)) + z240)) u227)
            have u247 : (gs_up A212 118 ((F211 106 24).toNat) ((2 * (((k * (F211 106 0)) + z29) - 1)) + z240)) 116 = A 116 := (gs_up_row _ _ (by omega)).trans u228
            have u248 : (gs_up A212 118 ((F211 106 24).toNat) ((2 * (((k * (F211 106 0)) + z29) - 1)) + z240)) 117 = A 117 := (gs_up_row _ _ (by omega)).trans u229
            generalize gs_up A212 118 ((F211 106 24).toNat) ((2 * (((k * (F211 106 0)) + z29) - 1)) + z240) = A243 at I244 f245 u246 u247 u248 ⊢
            refine sA_aload_n dd_X9_readTwist_127 rfl (.tail _ (.tail _ (.tail _ (.head _)))) ?_
            refine sA_dup dd_X9_readTwist_128 rfl ?_
            refine sA_geti (ci := 9) (j := 24) (q := (RX9, TX9, 28)) dd_X9_readTwist_129 rfl (by decide) fl_X9_206 (by decide) gs_s106 rfl ?_
            refine sA_iconst (z := 1) dd_X9_readTwist_132 ?_
            refine sA_iadd dd_X9_readTwist_133 ?_
            refine sA_put (ci := 9) (j := 24) (q := (RX9, TX9, 28)) (ty := .int) dd_X9_readTwist_134 rfl (by decide) fl_X9_206 rfl (tyX9_ok 24 (by decide)) rfl rfl (by decide) gs_s106 rfl ?_
            have I250 : gs_I (gs_up F211 106 24 ((F211 106 24) + 1)) A243 := gs_I_put I244 (show (0 : Int) ≤ (F211 106 24) + 1 ∧ (F211 106 24) + 1 ≤ 60 by omega)
            have f251 := gs_fr_put f245 (a := 106) (z := (F211 106 24) + 1) (j := 24) (by first | omega | (dsimp only; omega) | (dsimp only) | fail)
            have v252 : gs_up F211 106 24 ((F211 106 24) + 1) 106 24 = (F211 106 24) + 1 := gs_up_self _ _ _ _
            have v253 : (gs_up F211 106 24 ((F211 106 24) + 1)) 106 18 = F211 106 18 := gs_up_ne _ _ (by omega)
            have v254 : (gs_up F211 106 24 ((F211 106 24) + 1)) 106 17 = F211 106 17 := gs_up_ne _ _ (by omega)
            have v255 : (gs_up F211 106 24 ((F211 106 24) + 1)) 106 19 = F211 106 19 := gs_up_ne _ _ (by omega)
            have v256 : (gs_up F211 106 24 ((F211 106 24) + 1)) 106 20 = F211 106 20 := gs_up_ne _ _ (by omega)
            have v257 : (gs_up F211 106 24 ((F211 106 24) + 1)) 106 22 = F211 106 22 := gs_up_ne _ _ (by omega)
            have v258 : (gs_up F211 106 24 ((F211 106 24) + 1)) 106 0 = F211 106 0 := gs_up_ne _ _ (by omega)
            generalize gs_up F211 106 24 ((F211 106 24) + 1) = F249 at I250 f251 v252 v253 v254 v255 v256 v257 v258 ⊢
            refine sA_vret dd_X9_readTwist_137 rfl ?_
            refine ⟨rfl, I250, f251, ?_⟩
            have hA116 : A 116 = A 116 := rfl
            have tf := y43.2
            rw [show F11 106 17 = F 106 17 by omega, show F11 106 18 = F 106 18 + 1 by omega] at tf
            rw [show F24 106 19 = 0 by omega] at tf
            obtain ⟨m1, m2, m3, m4, m5, m6, m7⟩ := rd_tw_good (by omega) hrd hst hc hk tf (by omega)
            refine ⟨by omega, by omega, by omega, ?_, by omega⟩
            have lk := y66
            have hA48 : A25 116 = A 116 := f31.2 116 (by first | exact id | (dsimp only; omega) | fail)
            rw [hA48] at lk
            obtain ⟨lk1, lk2, lk3, lk4, lk5, lk6⟩ := lk
            have m8 := m2 (by omega)
            have m9 := (rd_mv (g := F 106 0) (s0 := s0) (by omega) (show F24 106 18 ≤ F47 106 18 by omega) lk3).trans m8
            have hev := rd_flip_e (x := 2 * (k * F 106 0 + z29 - 1)) (by rcases (show k = 0 ∨ k = 1 ∨ k = 2 by omega) with e | e | e <;> subst e <;> omega)
            have hv118 : A243 118 = gs_u (A 118) (F 106 24).toNat (2 * (k * F 106 0 + z29 - 1) + z240) := by rw [u246, show F211 106 24 = F 106 24 by omega, show F211 106 0 = F 106 0 by omega]
            by_cases hz : z240 = 1
            · have hd := rd_dash (by omega) m9 (by omega) (by omega)
              rw [show F 106 24 + 1 - 1 = F 106 24 by omega, gs_u_self, gs_u_u, show rd_flip (2 * (k * F 106 0 + z29 - 1)) = 2 * (k * F 106 0 + z29 - 1) + z240 by omega] at hd
              refine .inl ⟨by omega, by omega, by omega, 0, k, F 106 18, ?_, .inl rfl⟩
              rw [show F249 106 18 = F47 106 18 + 1 by omega, hd, show F249 106 22 = F 106 22 by omega, show F249 106 24 = F 106 24 + 1 by omega, hv118, u248]
            · refine .inl ⟨by omega, by omega, by omega, 2, k, F 106 18, ?_, .inr ⟨rfl, by rw [show F249 106 18 = F47 106 18 by omega]; omega⟩⟩
              rw [show F249 106 18 = F47 106 18 by omega, m9, show F249 106 22 = F 106 22 by omega, show F249 106 24 = F 106 24 + 1 by omega, hv118, u248, show z240 = 0 by omega, Int.add_zero]
        · skip
          refine sA_iconst (z := 1) dd_X9_readTwist_87 ?_
          refine sA_goto (tgt := 92) dd_X9_readTwist_88 (by decide) ?_
          refine sA_iconst (z := 3) dd_X9_readTwist_92 ?_
          refine sA_iload_n dd_X9_readTwist_93 rfl (.tail _ (.tail _ (.head _))) ?_
          refine sA_callV (y2 := m_X9_want) (n2 := 3) (d2 := 1) (a := 106) (ci := 9) (q := (RX9, TX9, 28)) (as := [gs_iv 1, gs_iv 3, gs_iv (F 106 18)]) (rest := []) dd_X9_readTwist_94 ok_X9_want ml_X9_199 rfl rfl (by decide) gs_s106 rfl rfl (Nat.le_of_ble_eq_true rfl) (by decide) (c_X9_want_vf I199 (by omega) (by omega) (by omega)) (fun r259 F260 A261 h262 => ?_)
          obtain ⟨z265, e264, I266, f267, x263⟩ := h262
          subst e264
          have v268 : F260 106 18 = F198 106 18 := f267.1 106 18 (by first | exact id | omega | (dsimp only; omega) | (dsimp only) | fail)
          have v269 : F260 106 17 = F198 106 17 := f267.1 106 17 (by first | exact id | omega | (dsimp only; omega) | (dsimp only) | fail)
          have v272 : F260 106 24 = F198 106 24 := f267.1 106 24 (by first | exact id | omega | (dsimp only; omega) | (dsimp only) | fail)
          have v273 : F260 106 22 = F198 106 22 := f267.1 106 22 (by first | exact id | omega | (dsimp only; omega) | (dsimp only) | fail)
          have v274 : F260 106 0 = F198 106 0 := f267.1 106 0 (by first | exact id | omega | (dsimp only; omega) | (dsimp only) | fail)
          have f275 := gs_fr_tr f200 f267 (fun b j h => by first | exact False.elim h | omega | (dsimp only at h ⊢; omega) | fail) (fun b h => by first | exact False.elim h | omega | (dsimp only at h ⊢; omega) | fail)
          have u276 : A261 118 = A 118 := (f267.2 118 (by first | exact id | omega | (dsimp only; omega) | (dsimp only) | fail)).trans u63
          have u277 : A261 116 = A 116 := (f267.2 116 (by first | exact id | omega | (dsimp only; omega) | (dsimp only) | fail)).trans u64
          have u278 : A261 117 = A 117 := (f267.2 117 (by first | exact id | omega | (dsimp only; omega) | (dsimp only) | fail)).trans u65
          have y279 : (F198 106 19 = 0 ∧ (1 : Int) = 0 ∧ z265 = 0 ∧ F260 106 19 = (3 : Int) ∧ F260 106 20 = (F 106 18)) ∨ (F198 106 19 = 0 ∧ (1 : Int) = 1 ∧ z265 = 1 ∧ F260 106 19 = 0 ∧ F260 106 20 = F198 106 20) ∨ (F198 106 19 ≠ 0 ∧ z265 = 0 ∧ F260 106 19 = F198 106 19 ∧ F260 106 20 = F198 106 20) := x263
          clear x263
          show sA _ _ _ 97 _ [gs_iv z265] _ _
          refine sA_if_eq (tgt := 137) dd_X9_readTwist_97 (by decide) (by omega) (fun q280 => ?_) (fun q280 => ?_)
          · skip
            refine sA_vret dd_X9_readTwist_137 rfl ?_
            refine ⟨rfl, I266, f275, ?_⟩
            have hA116 : A 116 = A 116 := rfl
            have tf := y43.2
            rw [show F11 106 17 = F 106 17 by omega, show F11 106 18 = F 106 18 + 1 by omega] at tf
            rw [show F24 106 19 = 0 by omega] at tf
            obtain ⟨m1, m2, m3, m4, m5, m6, m7⟩ := rd_tw_good (by omega) hrd hst hc hk tf (by omega)
            refine ⟨by omega, by omega, by omega, ?_, by omega⟩
            refine .inr ⟨by omega, ?_⟩
            rw [show F260 106 17 = F 106 17 by omega, show F260 106 19 = 3 by omega, show F260 106 20 = F 106 18 by omega]
            exact m1 (by omega)
          · skip
            refine sA_aload_n dd_X9_readTwist_100 rfl (.tail _ (.tail _ (.tail _ (.head _)))) ?_
            refine sA_getr (ci := 9) (j := 23) (q := (RX9, TX9, 28)) dd_X9_readTwist_101 rfl (by decide) fl_X9_47 (by decide) gs_s106 rfl ?_
            refine sA_aload_n dd_X9_readTwist_104 rfl (.tail _ (.tail _ (.tail _ (.head _)))) ?_
            refine sA_geti (ci := 9) (j := 24) (q := (RX9, TX9, 28)) dd_X9_readTwist_105 rfl (by decide) fl_X9_206 (by decide) gs_s106 rfl ?_
            have b281 : (0 : Int) ≤ F260 106 24 ∧ F260 106 24 ≤ 60 := I266.1 106 24
            refine sA_iconst (z := 2) dd_X9_readTwist_108 ?_
            refine sA_iload_n dd_X9_readTwist_109 rfl (.tail _ (.tail _ (.tail _ (.tail _ (.head _))))) ?_
            refine sA_aload_n dd_X9_readTwist_110 rfl (.tail _ (.tail _ (.tail _ (.head _)))) ?_
            refine sA_geti (ci := 9) (j := 0) (q := (RX9, TX9, 28)) dd_X9_readTwist_111 rfl (by decide) fl_X9_64 (by decide) gs_s106 rfl ?_
            have b282 : (1 : Int) ≤ F260 106 0 ∧ F260 106 0 ≤ 3 := I266.1 106 0
            have hg114 : F260 106 0 = F 106 0 := by omega
            have hmb2 := gs_mul_bd (x := k) (y := F260 106 0) (m := 2) (k := 3) (by omega) (by omega) (by omega)
            refine sA_imul dd_X9_readTwist_114 ?_
            refine sA_iload_n dd_X9_readTwist_115 rfl (.tail _ (.head _)) ?_
            refine sA_iadd dd_X9_readTwist_116 ?_
            refine sA_iconst (z := 1) dd_X9_readTwist_117 ?_
            refine sA_isub dd_X9_readTwist_118 ?_
            refine sA_imul dd_X9_readTwist_119 ?_
            refine sA_iload dd_X9_readTwist_120 (.head _) ?_
            refine sA_callS (y2 := m_X9_bit) (n2 := 1) (d2 := 1) (as := [gs_iv 1]) (rest := [gs_iv (2 * (((k * (F260 106 0)) + z29) - 1)), gs_iv (F260 106 24), .ref 118]) dd_X9_readTwist_122 ok_X9_bit ml_X9_112 rfl rfl (Nat.le_of_ble_eq_true rfl) (by decide) (c_X9_bit (by omega)) (fun r283 F284 A285 h286 => ?_)
            obtain ⟨z289, e288, e290, e291, x287⟩ := h286
            subst e288 e290 e291
            show sA _ _ _ 125 _ [gs_iv z289, gs_iv (2 * (((k * (F260 106 0)) + z29) - 1)), gs_iv (F260 106 24), .ref 118] _ _
            refine sA_iadd dd_X9_readTwist_125 ?_
            refine sA_iast (n := 600) dd_X9_readTwist_126 (by decide) gs_s118 (by omega) (by decide) ?_
            have I293 : gs_I F260 (gs_up A261 118 ((F260 106 24).toNat) ((2 * (((k * (F260 106 0)) + z29) - 1)) + z289)) := gs_I_ast I266 (show (-2147483648 : Int) ≤ (2 * (((k * (F260 106 0)) + z29) - 1)) + z289 ∧ (2 * (((k * (F260 106 0)) + z29) - 1)) + z289 ≤ 2147483647 by omega)
            have f294 := gs_fr_ast f275 (a := 118) (z := (2 * (((k * (F260 106 0)) + z29) - 1)) + z289) (i := (F260 106 24).toNat) (by first | omega | (dsimp only; omega) | (dsimp only) | fail)
            have u295 : (gs_up A261 118 ((F260 106 24).toNat) ((2 * (((k * (F260 106 0)) + z29) - 1)) + z289)) 118 = gs_u (A 118) ((F260 106 24).toNat) ((2 * (((k * (F260 106 0)) + z29) - 1)) + z289) := (gs_up_u A261 118 ((F260 106 24).toNat) ((2 * (((k * (F260 106 0)) + z29) - 1)) + z289)).trans (congrArg (fun f => gs_u f ((F260 106 24).toNat) ((2 * (((k * (F260 106 0)) + z29) - 1)) + z289)) u276)
            have u296 : (gs_up A261 118 ((F260 106 24).toNat) ((2 * (((k * (F260 106 0)) + z29) - 1)) + z289)) 116 = A 116 := (gs_up_row _ _ (by omega)).trans u277
            have u297 : (gs_up A261 118 ((F260 106 24).toNat) ((2 * (((k * (F260 106 0)) + z29) - 1)) + z289)) 117 = A 117 := (gs_up_row _ _ (by omega)).trans u278
            generalize gs_up A261 118 ((F260 106 24).toNat) ((2 * (((k * (F260 106 0)) + z29) - 1)) + z289) = A292 at I293 f294 u295 u296 u297 ⊢
            refine sA_aload_n dd_X9_readTwist_127 rfl (.tail _ (.tail _ (.tail _ (.head _)))) ?_
            refine sA_dup dd_X9_readTwist_128 rfl ?_
            refine sA_geti (ci := 9) (j := 24) (q := (RX9, TX9, 28)) dd_X9_readTwist_129 rfl (by decide) fl_X9_206 (by decide) gs_s106 rfl ?_
            refine sA_iconst (z := 1) dd_X9_readTwist_132 ?_
            refine sA_iadd dd_X9_readTwist_133 ?_
            refine sA_put (ci := 9) (j := 24) (q := (RX9, TX9, 28)) (ty := .int) dd_X9_readTwist_134 rfl (by decide) fl_X9_206 rfl (tyX9_ok 24 (by decide)) rfl rfl (by decide) gs_s106 rfl ?_
            have I299 : gs_I (gs_up F260 106 24 ((F260 106 24) + 1)) A292 := gs_I_put I293 (show (0 : Int) ≤ (F260 106 24) + 1 ∧ (F260 106 24) + 1 ≤ 60 by omega)
            have f300 := gs_fr_put f294 (a := 106) (z := (F260 106 24) + 1) (j := 24) (by first | omega | (dsimp only; omega) | (dsimp only) | fail)
            have v301 : gs_up F260 106 24 ((F260 106 24) + 1) 106 24 = (F260 106 24) + 1 := gs_up_self _ _ _ _
            have v302 : (gs_up F260 106 24 ((F260 106 24) + 1)) 106 18 = F260 106 18 := gs_up_ne _ _ (by omega)
            have v303 : (gs_up F260 106 24 ((F260 106 24) + 1)) 106 17 = F260 106 17 := gs_up_ne _ _ (by omega)
            have v304 : (gs_up F260 106 24 ((F260 106 24) + 1)) 106 19 = F260 106 19 := gs_up_ne _ _ (by omega)
            have v305 : (gs_up F260 106 24 ((F260 106 24) + 1)) 106 20 = F260 106 20 := gs_up_ne _ _ (by omega)
            have v306 : (gs_up F260 106 24 ((F260 106 24) + 1)) 106 22 = F260 106 22 := gs_up_ne _ _ (by omega)
            have v307 : (gs_up F260 106 24 ((F260 106 24) + 1)) 106 0 = F260 106 0 := gs_up_ne _ _ (by omega)
            generalize gs_up F260 106 24 ((F260 106 24) + 1) = F298 at I299 f300 v301 v302 v303 v304 v305 v306 v307 ⊢
            refine sA_vret dd_X9_readTwist_137 rfl ?_
            refine ⟨rfl, I299, f300, ?_⟩
            have hA116 : A 116 = A 116 := rfl
            have tf := y43.2
            rw [show F11 106 17 = F 106 17 by omega, show F11 106 18 = F 106 18 + 1 by omega] at tf
            rw [show F24 106 19 = 0 by omega] at tf
            obtain ⟨m1, m2, m3, m4, m5, m6, m7⟩ := rd_tw_good (by omega) hrd hst hc hk tf (by omega)
            refine ⟨by omega, by omega, by omega, ?_, by omega⟩
            have lk := y66
            have hA48 : A25 116 = A 116 := f31.2 116 (by first | exact id | (dsimp only; omega) | fail)
            rw [hA48] at lk
            obtain ⟨lk1, lk2, lk3, lk4, lk5, lk6⟩ := lk
            have m8 := m2 (by omega)
            have m9 := (rd_mv (g := F 106 0) (s0 := s0) (by omega) (show F24 106 18 ≤ F47 106 18 by omega) lk3).trans m8
            have hev := rd_flip_e (x := 2 * (k * F 106 0 + z29 - 1)) (by rcases (show k = 0 ∨ k = 1 ∨ k = 2 by omega) with e | e | e <;> subst e <;> omega)
            have hv118 : A292 118 = gs_u (A 118) (F 106 24).toNat (2 * (k * F 106 0 + z29 - 1) + z289) := by rw [u295, show F260 106 24 = F 106 24 by omega, show F260 106 0 = F 106 0 by omega]
            by_cases hz : z289 = 1
            · have hd := rd_dash (by omega) m9 (by omega) (by omega)
              rw [show F 106 24 + 1 - 1 = F 106 24 by omega, gs_u_self, gs_u_u, show rd_flip (2 * (k * F 106 0 + z29 - 1)) = 2 * (k * F 106 0 + z29 - 1) + z289 by omega] at hd
              refine .inl ⟨by omega, by omega, by omega, 0, k, F 106 18, ?_, .inl rfl⟩
              rw [show F298 106 18 = F47 106 18 + 1 by omega, hd, show F298 106 22 = F 106 22 by omega, show F298 106 24 = F 106 24 + 1 by omega, hv118, u297]
            · refine .inl ⟨by omega, by omega, by omega, 2, k, F 106 18, ?_, .inr ⟨rfl, by rw [show F298 106 18 = F47 106 18 by omega]; omega⟩⟩
              rw [show F298 106 18 = F47 106 18 by omega, m9, show F298 106 22 = F 106 22 by omega, show F298 106 24 = F 106 24 + 1 by omega, hv118, u297, show z289 = 0 by omega, Int.add_zero]
    · skip
      refine sA_vret dd_X9_readTwist_46 rfl ?_
      refine ⟨rfl, I30, f39, ?_⟩
      refine ⟨by omega, by omega, by omega, .inr ⟨by omega, ?_⟩, by omega⟩
      have hA116 : A 116 = A 116 := rfl
      have tf := y43.2
      rw [show F11 106 17 = F 106 17 by omega, show F11 106 18 = F 106 18 + 1 by omega] at tf
      rw [show F24 106 17 = F 106 17 by omega]
      exact rd_tw_bad (by omega) (rd_t1 (by omega) hrd hst hc hk) tf (by omega) (by omega)
  · skip
    refine sA_aload_n dd_X9_readTwist_22 rfl (.tail _ (.head _)) ?_
    refine sA_geti (ci := 9) (j := 0) (q := (RX9, TX9, 28)) dd_X9_readTwist_23 rfl (by decide) fl_X9_64 (by decide) gs_s106 rfl ?_
    have b308 : (1 : Int) ≤ F11 106 0 ∧ F11 106 0 ≤ 3 := I12.1 106 0
    refine sA_iconst (z := 1) dd_X9_readTwist_26 ?_
    refine sA_isub dd_X9_readTwist_27 ?_
    refine sA_goto (tgt := 35) dd_X9_readTwist_28 (by decide) ?_
    refine sA_callV (y2 := m_X9_takeFigure) (n2 := 2) (d2 := 2) (a := 106) (ci := 9) (q := (RX9, TX9, 28)) (as := [gs_iv 1, gs_iv ((F11 106 0) - 1)]) (rest := []) dd_X9_readTwist_35 ok_X9_takeFigure ml_X9_203 rfl rfl (by decide) gs_s106 rfl rfl (Nat.le_of_ble_eq_true rfl) (by decide) (c_X9_takeFigure_vf I12 (by omega) (by omega) (by omega) (by omega)) (fun r309 F310 A311 h312 => ?_)
    obtain ⟨z315, e314, I316, f317, x313⟩ := h312
    subst e314
    have v319 : F310 106 17 = F11 106 17 := f317.1 106 17 (by first | exact id | omega | (dsimp only; omega) | (dsimp only) | fail)
    have v322 : F310 106 24 = F11 106 24 := f317.1 106 24 (by first | exact id | omega | (dsimp only; omega) | (dsimp only) | fail)
    have v323 : F310 106 22 = F11 106 22 := f317.1 106 22 (by first | exact id | omega | (dsimp only; omega) | (dsimp only) | fail)
    have v324 : F310 106 0 = F11 106 0 := f317.1 106 0 (by first | exact id | omega | (dsimp only; omega) | (dsimp only) | fail)
    have f325 := gs_fr_tr f13 f317 (fun b j h => by first | exact False.elim h | omega | (dsimp only at h ⊢; omega) | fail) (fun b h => by first | exact False.elim h | omega | (dsimp only at h ⊢; omega) | fail)
    have u326 : A311 118 = A 118 := (f317.2 118 (by first | exact id | omega | (dsimp only; omega) | (dsimp only) | fail)).trans u8
    have u327 : A311 116 = A 116 := (f317.2 116 (by first | exact id | omega | (dsimp only; omega) | (dsimp only) | fail)).trans u9
    have u328 : A311 117 = A 117 := (f317.2 117 (by first | exact id | omega | (dsimp only; omega) | (dsimp only) | fail)).trans u10
    have y329 : (F11 106 18 ≤ F310 106 18 ∧ F310 106 17 = F11 106 17 ∧ ((F310 106 19 = 0 ∧ F11 106 19 = 0 ∧ (1 : Int) ≤ z315 ∧ z315 ≤ ((F11 106 0) - 1) ∧ F11 106 18 + 1 ≤ F310 106 18) ∨ 1 ≤ F310 106 19)) ∧ gs_tf (F11 106 17) (F11 106 18) (A 116) (1 : Int) ((F11 106 0) - 1) z315 (F310 106 19) (F310 106 20) (F310 106 18) (F11 106 20) := x313
    clear x313
    show sA _ _ _ 38 _ [gs_iv z315] _ _
    refine sA_istore_n (lv' := [(3, gs_iv z315), (2, gs_iv (F 106 18)), (0, .ref 106), (1, gs_iv k)]) dd_X9_readTwist_38 rfl (by decide) rfl ?_
    refine sA_aload_n dd_X9_readTwist_39 rfl (.tail _ (.tail _ (.head _))) ?_
    refine sA_geti (ci := 9) (j := 19) (q := (RX9, TX9, 28)) dd_X9_readTwist_40 rfl (by decide) fl_X9_189 (by decide) gs_s106 rfl ?_
    have b330 : (0 : Int) ≤ F310 106 19 ∧ F310 106 19 ≤ 4 := I316.1 106 19
    refine sA_if_le (tgt := 47) dd_X9_readTwist_43 (by decide) (by omega) (fun q331 => ?_) (fun q331 => ?_)
    · skip
      refine sA_aload_n dd_X9_readTwist_47 rfl (.tail _ (.tail _ (.head _))) ?_
      refine sA_callV (y2 := m_X9_look) (n2 := 0) (d2 := 1) (a := 106) (ci := 9) (q := (RX9, TX9, 28)) (as := []) (rest := []) dd_X9_readTwist_48 ok_X9_look ml_X9_192 rfl rfl (by decide) gs_s106 rfl rfl (Nat.le_of_ble_eq_true rfl) (by decide) (c_X9_look_vf I316 ) (fun r332 F333 A334 h335 => ?_)
      obtain ⟨z338, e337, I339, f340, x336⟩ := h335
      subst e337
      have v342 : F333 106 17 = F310 106 17 := f340.1 106 17 (by first | exact id | omega | (dsimp only; omega) | (dsimp only) | fail)
      have v343 : F333 106 19 = F310 106 19 := f340.1 106 19 (by first | exact id | omega | (dsimp only; omega) | (dsimp only) | fail)
      have v344 : F333 106 20 = F310 106 20 := f340.1 106 20 (by first | exact id | omega | (dsimp only; omega) | (dsimp only) | fail)
      have v345 : F333 106 24 = F310 106 24 := f340.1 106 24 (by first | exact id | omega | (dsimp only; omega) | (dsimp only) | fail)
      have v346 : F333 106 22 = F310 106 22 := f340.1 106 22 (by first | exact id | omega | (dsimp only; omega) | (dsimp only) | fail)
      have v347 : F333 106 0 = F310 106 0 := f340.1 106 0 (by first | exact id | omega | (dsimp only; omega) | (dsimp only) | fail)
      have f348 := gs_fr_tr f325 f340 (fun b j h => by first | exact False.elim h | omega | (dsimp only at h ⊢; omega) | fail) (fun b h => by first | exact False.elim h | omega | (dsimp only at h ⊢; omega) | fail)
      have u349 : A334 118 = A 118 := (f340.2 118 (by first | exact id | omega | (dsimp only; omega) | (dsimp only) | fail)).trans u326
      have u350 : A334 116 = A 116 := (f340.2 116 (by first | exact id | omega | (dsimp only; omega) | (dsimp only) | fail)).trans u327
      have u351 : A334 117 = A 117 := (f340.2 117 (by first | exact id | omega | (dsimp only; omega) | (dsimp only) | fail)).trans u328
      have y352 : F310 106 18 ≤ F333 106 18 ∧ F333 106 17 = F310 106 17 ∧ (∀ i : Int, F310 106 18 ≤ i → i < F333 106 18 → A311 116 i.toNat = 32) ∧ ((F333 106 18 < F310 106 17 ∧ A311 116 (F333 106 18).toNat ≠ 32 ∧ z338 = A311 116 (F333 106 18).toNat) ∨ (F310 106 17 ≤ F333 106 18 ∧ z338 = -1)) ∧ (F310 106 18 ≤ F310 106 17 → F333 106 18 ≤ F310 106 17) ∧ -2147483648 ≤ z338 ∧ z338 ≤ 2147483647 := x336
      clear x336
      show sA _ _ _ 51 _ [gs_iv z338] _ _
      refine sA_bipush (z := 45) dd_X9_readTwist_51 (by decide) ?_
      refine sA_icmp_ne (tgt := 60) dd_X9_readTwist_53 (by decide) (by omega) (by omega) (fun q353 => ?_) (fun q353 => ?_)
      · skip
        refine sA_iconst (z := 0) dd_X9_readTwist_60 ?_
        refine sA_istore (lv' := [(4, gs_iv 0), (3, gs_iv z315), (2, gs_iv (F 106 18)), (0, .ref 106), (1, gs_iv k)]) dd_X9_readTwist_61 (by decide) rfl ?_
        refine sA_aload_n dd_X9_readTwist_63 rfl (.tail _ (.tail _ (.tail _ (.head _)))) ?_
        refine sA_dup dd_X9_readTwist_64 rfl ?_
        refine sA_geti (ci := 9) (j := 18) (q := (RX9, TX9, 28)) dd_X9_readTwist_65 rfl (by decide) fl_X9_186 (by decide) gs_s106 rfl ?_
        have b354 : (0 : Int) ≤ F333 106 18 ∧ F333 106 18 ≤ 120 := I339.1 106 18
        refine sA_iload dd_X9_readTwist_68 (.head _) ?_
        refine sA_callS (y2 := m_X9_bit) (n2 := 1) (d2 := 1) (as := [gs_iv 0]) (rest := [gs_iv (F333 106 18), .ref 106]) dd_X9_readTwist_70 ok_X9_bit ml_X9_112 rfl rfl (Nat.le_of_ble_eq_true rfl) (by decide) (c_X9_bit (by omega)) (fun r355 F356 A357 h358 => ?_)
        obtain ⟨z361, e360, e362, e363, x359⟩ := h358
        subst e360 e362 e363
        show sA _ _ _ 73 _ [gs_iv z361, gs_iv (F333 106 18), .ref 106] _ _
        refine sA_iadd dd_X9_readTwist_73 ?_
        refine sA_put (ci := 9) (j := 18) (q := (RX9, TX9, 28)) (ty := .int) dd_X9_readTwist_74 rfl (by decide) fl_X9_186 rfl (tyX9_ok 18 (by decide)) rfl rfl (by decide) gs_s106 rfl ?_
        have I365 : gs_I (gs_up F333 106 18 ((F333 106 18) + z361)) A334 := gs_I_put I339 (show (0 : Int) ≤ (F333 106 18) + z361 ∧ (F333 106 18) + z361 ≤ 120 by omega)
        have f366 := gs_fr_put f348 (a := 106) (z := (F333 106 18) + z361) (j := 18) (by first | omega | (dsimp only; omega) | (dsimp only) | fail)
        have v367 : gs_up F333 106 18 ((F333 106 18) + z361) 106 18 = (F333 106 18) + z361 := gs_up_self _ _ _ _
        have v368 : (gs_up F333 106 18 ((F333 106 18) + z361)) 106 17 = F333 106 17 := gs_up_ne _ _ (by omega)
        have v369 : (gs_up F333 106 18 ((F333 106 18) + z361)) 106 19 = F333 106 19 := gs_up_ne _ _ (by omega)
        have v370 : (gs_up F333 106 18 ((F333 106 18) + z361)) 106 20 = F333 106 20 := gs_up_ne _ _ (by omega)
        have v371 : (gs_up F333 106 18 ((F333 106 18) + z361)) 106 24 = F333 106 24 := gs_up_ne _ _ (by omega)
        have v372 : (gs_up F333 106 18 ((F333 106 18) + z361)) 106 22 = F333 106 22 := gs_up_ne _ _ (by omega)
        have v373 : (gs_up F333 106 18 ((F333 106 18) + z361)) 106 0 = F333 106 0 := gs_up_ne _ _ (by omega)
        generalize gs_up F333 106 18 ((F333 106 18) + z361) = F364 at I365 f366 v367 v368 v369 v370 v371 v372 v373 ⊢
        refine sA_aload_n dd_X9_readTwist_77 rfl (.tail _ (.tail _ (.tail _ (.head _)))) ?_
        refine sA_aload_n dd_X9_readTwist_78 rfl (.tail _ (.tail _ (.tail _ (.head _)))) ?_
        refine sA_geti (ci := 9) (j := 24) (q := (RX9, TX9, 28)) dd_X9_readTwist_79 rfl (by decide) fl_X9_206 (by decide) gs_s106 rfl ?_
        have b374 : (0 : Int) ≤ F364 106 24 ∧ F364 106 24 ≤ 60 := I365.1 106 24
        refine sA_bipush (z := 60) dd_X9_readTwist_82 (by decide) ?_
        refine sA_icmp_ge (tgt := 91) dd_X9_readTwist_84 (by decide) (by omega) (by omega) (fun q375 => ?_) (fun q375 => ?_)
        · skip
          refine sA_iconst (z := 0) dd_X9_readTwist_91 ?_
          refine sA_iconst (z := 3) dd_X9_readTwist_92 ?_
          refine sA_iload_n dd_X9_readTwist_93 rfl (.tail _ (.tail _ (.head _))) ?_
          refine sA_callV (y2 := m_X9_want) (n2 := 3) (d2 := 1) (a := 106) (ci := 9) (q := (RX9, TX9, 28)) (as := [gs_iv 0, gs_iv 3, gs_iv (F 106 18)]) (rest := []) dd_X9_readTwist_94 ok_X9_want ml_X9_199 rfl rfl (by decide) gs_s106 rfl rfl (Nat.le_of_ble_eq_true rfl) (by decide) (c_X9_want_vf I365 (by omega) (by omega) (by omega)) (fun r376 F377 A378 h379 => ?_)
          obtain ⟨z382, e381, I383, f384, x380⟩ := h379
          subst e381
          have v385 : F377 106 18 = F364 106 18 := f384.1 106 18 (by first | exact id | omega | (dsimp only; omega) | (dsimp only) | fail)
          have v386 : F377 106 17 = F364 106 17 := f384.1 106 17 (by first | exact id | omega | (dsimp only; omega) | (dsimp only) | fail)
          have v389 : F377 106 24 = F364 106 24 := f384.1 106 24 (by first | exact id | omega | (dsimp only; omega) | (dsimp only) | fail)
          have v390 : F377 106 22 = F364 106 22 := f384.1 106 22 (by first | exact id | omega | (dsimp only; omega) | (dsimp only) | fail)
          have v391 : F377 106 0 = F364 106 0 := f384.1 106 0 (by first | exact id | omega | (dsimp only; omega) | (dsimp only) | fail)
          have f392 := gs_fr_tr f366 f384 (fun b j h => by first | exact False.elim h | omega | (dsimp only at h ⊢; omega) | fail) (fun b h => by first | exact False.elim h | omega | (dsimp only at h ⊢; omega) | fail)
          have u393 : A378 118 = A 118 := (f384.2 118 (by first | exact id | omega | (dsimp only; omega) | (dsimp only) | fail)).trans u349
          have u394 : A378 116 = A 116 := (f384.2 116 (by first | exact id | omega | (dsimp only; omega) | (dsimp only) | fail)).trans u350
          have u395 : A378 117 = A 117 := (f384.2 117 (by first | exact id | omega | (dsimp only; omega) | (dsimp only) | fail)).trans u351
          have y396 : (F364 106 19 = 0 ∧ (0 : Int) = 0 ∧ z382 = 0 ∧ F377 106 19 = (3 : Int) ∧ F377 106 20 = (F 106 18)) ∨ (F364 106 19 = 0 ∧ (0 : Int) = 1 ∧ z382 = 1 ∧ F377 106 19 = 0 ∧ F377 106 20 = F364 106 20) ∨ (F364 106 19 ≠ 0 ∧ z382 = 0 ∧ F377 106 19 = F364 106 19 ∧ F377 106 20 = F364 106 20) := x380
          clear x380
          show sA _ _ _ 97 _ [gs_iv z382] _ _
          refine sA_if_eq (tgt := 137) dd_X9_readTwist_97 (by decide) (by omega) (fun q397 => ?_) (fun q397 => ?_)
          · skip
            refine sA_vret dd_X9_readTwist_137 rfl ?_
            refine ⟨rfl, I383, f392, ?_⟩
            have hA116 : A 116 = A 116 := rfl
            have tf := y329.2
            rw [show F11 106 17 = F 106 17 by omega, show F11 106 18 = F 106 18 + 1 by omega] at tf
            rw [show F310 106 19 = 0 by omega] at tf
            obtain ⟨m1, m2, m3, m4, m5, m6, m7⟩ := rd_tw_good (by omega) hrd hst hc hk tf (by omega)
            refine ⟨by omega, by omega, by omega, ?_, by omega⟩
            refine .inr ⟨by omega, ?_⟩
            rw [show F377 106 17 = F 106 17 by omega, show F377 106 19 = 3 by omega, show F377 106 20 = F 106 18 by omega]
            exact m1 (by omega)
          · skip
            refine sA_aload_n dd_X9_readTwist_100 rfl (.tail _ (.tail _ (.tail _ (.head _)))) ?_
            refine sA_getr (ci := 9) (j := 23) (q := (RX9, TX9, 28)) dd_X9_readTwist_101 rfl (by decide) fl_X9_47 (by decide) gs_s106 rfl ?_
            refine sA_aload_n dd_X9_readTwist_104 rfl (.tail _ (.tail _ (.tail _ (.head _)))) ?_
            refine sA_geti (ci := 9) (j := 24) (q := (RX9, TX9, 28)) dd_X9_readTwist_105 rfl (by decide) fl_X9_206 (by decide) gs_s106 rfl ?_
            have b398 : (0 : Int) ≤ F377 106 24 ∧ F377 106 24 ≤ 60 := I383.1 106 24
            refine sA_iconst (z := 2) dd_X9_readTwist_108 ?_
            refine sA_iload_n dd_X9_readTwist_109 rfl (.tail _ (.tail _ (.tail _ (.tail _ (.head _))))) ?_
            refine sA_aload_n dd_X9_readTwist_110 rfl (.tail _ (.tail _ (.tail _ (.head _)))) ?_
            refine sA_geti (ci := 9) (j := 0) (q := (RX9, TX9, 28)) dd_X9_readTwist_111 rfl (by decide) fl_X9_64 (by decide) gs_s106 rfl ?_
            have b399 : (1 : Int) ≤ F377 106 0 ∧ F377 106 0 ≤ 3 := I383.1 106 0
            have hg114 : F377 106 0 = F 106 0 := by omega
            have hmb2 := gs_mul_bd (x := k) (y := F377 106 0) (m := 2) (k := 3) (by omega) (by omega) (by omega)
            refine sA_imul dd_X9_readTwist_114 ?_
            refine sA_iload_n dd_X9_readTwist_115 rfl (.tail _ (.head _)) ?_
            refine sA_iadd dd_X9_readTwist_116 ?_
            refine sA_iconst (z := 1) dd_X9_readTwist_117 ?_
            refine sA_isub dd_X9_readTwist_118 ?_
            refine sA_imul dd_X9_readTwist_119 ?_
            refine sA_iload dd_X9_readTwist_120 (.head _) ?_
            refine sA_callS (y2 := m_X9_bit) (n2 := 1) (d2 := 1) (as := [gs_iv 0]) (rest := [gs_iv (2 * (((k * (F377 106 0)) + z315) - 1)), gs_iv (F377 106 24), .ref 118]) dd_X9_readTwist_122 ok_X9_bit ml_X9_112 rfl rfl (Nat.le_of_ble_eq_true rfl) (by decide) (c_X9_bit (by omega)) (fun r400 F401 A402 h403 => ?_)
            obtain ⟨z406, e405, e407, e408, x404⟩ := h403
            subst e405 e407 e408
            show sA _ _ _ 125 _ [gs_iv z406, gs_iv (2 * (((k * (F377 106 0)) + z315) - 1)), gs_iv (F377 106 24), .ref 118] _ _
            refine sA_iadd dd_X9_readTwist_125 ?_
            refine sA_iast (n := 600) dd_X9_readTwist_126 (by decide) gs_s118 (by omega) (by decide) ?_
            have I410 : gs_I F377 (gs_up A378 118 ((F377 106 24).toNat) ((2 * (((k * (F377 106 0)) + z315) - 1)) + z406)) := gs_I_ast I383 (show (-2147483648 : Int) ≤ (2 * (((k * (F377 106 0)) + z315) - 1)) + z406 ∧ (2 * (((k * (F377 106 0)) + z315) - 1)) + z406 ≤ 2147483647 by omega)
            have f411 := gs_fr_ast f392 (a := 118) (z := (2 * (((k * (F377 106 0)) + z315) - 1)) + z406) (i := (F377 106 24).toNat) (by first | omega | (dsimp only; omega) | (dsimp only) | fail)
            have u412 : (gs_up A378 118 ((F377 106 24).toNat) ((2 * (((k * (F377 106 0)) + z315) - 1)) + z406)) 118 = gs_u (A 118) ((F377 106 24).toNat) ((2 * (((k * (F377 106 0)) + z315) - 1)) + z406) := (gs_up_u A378 118 ((F377 106 24).toNat) ((2 * (((k * (F377 106 0)) + z315) - 1)) + z406)).trans (congrArg (fun f => gs_u f ((F377 106 24).toNat) ((2 * (((k * (F377 106 0)) + z315) - 1)) + z406)) u393)
            have u413 : (gs_up A378 118 ((F377 106 24).toNat) ((2 * (((k * (F377 106 0)) + z315) - 1)) + z406)) 116 = A 116 := (gs_up_row _ _ (by omega)).trans u394
            have u414 : (gs_up A378 118 ((F377 106 24).toNat) ((2 * (((k * (F377 106 0)) + z315) - 1)) + z406)) 117 = A 117 := (gs_up_row _ _ (by omega)).trans u395
            generalize gs_up A378 118 ((F377 106 24).toNat) ((2 * (((k * (F377 106 0)) + z315) - 1)) + z406) = A409 at I410 f411 u412 u413 u414 ⊢
            refine sA_aload_n dd_X9_readTwist_127 rfl (.tail _ (.tail _ (.tail _ (.head _)))) ?_
            refine sA_dup dd_X9_readTwist_128 rfl ?_
            refine sA_geti (ci := 9) (j := 24) (q := (RX9, TX9, 28)) dd_X9_readTwist_129 rfl (by decide) fl_X9_206 (by decide) gs_s106 rfl ?_
            refine sA_iconst (z := 1) dd_X9_readTwist_132 ?_
            refine sA_iadd dd_X9_readTwist_133 ?_
            refine sA_put (ci := 9) (j := 24) (q := (RX9, TX9, 28)) (ty := .int) dd_X9_readTwist_134 rfl (by decide) fl_X9_206 rfl (tyX9_ok 24 (by decide)) rfl rfl (by decide) gs_s106 rfl ?_
            have I416 : gs_I (gs_up F377 106 24 ((F377 106 24) + 1)) A409 := gs_I_put I410 (show (0 : Int) ≤ (F377 106 24) + 1 ∧ (F377 106 24) + 1 ≤ 60 by omega)
            have f417 := gs_fr_put f411 (a := 106) (z := (F377 106 24) + 1) (j := 24) (by first | omega | (dsimp only; omega) | (dsimp only) | fail)
            have v418 : gs_up F377 106 24 ((F377 106 24) + 1) 106 24 = (F377 106 24) + 1 := gs_up_self _ _ _ _
            have v419 : (gs_up F377 106 24 ((F377 106 24) + 1)) 106 18 = F377 106 18 := gs_up_ne _ _ (by omega)
            have v420 : (gs_up F377 106 24 ((F377 106 24) + 1)) 106 17 = F377 106 17 := gs_up_ne _ _ (by omega)
            have v421 : (gs_up F377 106 24 ((F377 106 24) + 1)) 106 19 = F377 106 19 := gs_up_ne _ _ (by omega)
            have v422 : (gs_up F377 106 24 ((F377 106 24) + 1)) 106 20 = F377 106 20 := gs_up_ne _ _ (by omega)
            have v423 : (gs_up F377 106 24 ((F377 106 24) + 1)) 106 22 = F377 106 22 := gs_up_ne _ _ (by omega)
            have v424 : (gs_up F377 106 24 ((F377 106 24) + 1)) 106 0 = F377 106 0 := gs_up_ne _ _ (by omega)
            generalize gs_up F377 106 24 ((F377 106 24) + 1) = F415 at I416 f417 v418 v419 v420 v421 v422 v423 v424 ⊢
            refine sA_vret dd_X9_readTwist_137 rfl ?_
            refine ⟨rfl, I416, f417, ?_⟩
            have hA116 : A 116 = A 116 := rfl
            have tf := y329.2
            rw [show F11 106 17 = F 106 17 by omega, show F11 106 18 = F 106 18 + 1 by omega] at tf
            rw [show F310 106 19 = 0 by omega] at tf
            obtain ⟨m1, m2, m3, m4, m5, m6, m7⟩ := rd_tw_good (by omega) hrd hst hc hk tf (by omega)
            refine ⟨by omega, by omega, by omega, ?_, by omega⟩
            have lk := y352
            have hA48 : A311 116 = A 116 := f317.2 116 (by first | exact id | (dsimp only; omega) | fail)
            rw [hA48] at lk
            obtain ⟨lk1, lk2, lk3, lk4, lk5, lk6⟩ := lk
            have m8 := m2 (by omega)
            have m9 := (rd_mv (g := F 106 0) (s0 := s0) (by omega) (show F310 106 18 ≤ F333 106 18 by omega) lk3).trans m8
            have hev := rd_flip_e (x := 2 * (k * F 106 0 + z315 - 1)) (by rcases (show k = 0 ∨ k = 1 ∨ k = 2 by omega) with e | e | e <;> subst e <;> omega)
            have hv118 : A409 118 = gs_u (A 118) (F 106 24).toNat (2 * (k * F 106 0 + z315 - 1) + z406) := by rw [u412, show F377 106 24 = F 106 24 by omega, show F377 106 0 = F 106 0 by omega]
            by_cases hz : z406 = 1
            · have hd := rd_dash (by omega) m9 (by omega) (by omega)
              rw [show F 106 24 + 1 - 1 = F 106 24 by omega, gs_u_self, gs_u_u, show rd_flip (2 * (k * F 106 0 + z315 - 1)) = 2 * (k * F 106 0 + z315 - 1) + z406 by omega] at hd
              refine .inl ⟨by omega, by omega, by omega, 0, k, F 106 18, ?_, .inl rfl⟩
              rw [show F415 106 18 = F333 106 18 + 1 by omega, hd, show F415 106 22 = F 106 22 by omega, show F415 106 24 = F 106 24 + 1 by omega, hv118, u414]
            · refine .inl ⟨by omega, by omega, by omega, 2, k, F 106 18, ?_, .inr ⟨rfl, by rw [show F415 106 18 = F333 106 18 by omega]; omega⟩⟩
              rw [show F415 106 18 = F333 106 18 by omega, m9, show F415 106 22 = F 106 22 by omega, show F415 106 24 = F 106 24 + 1 by omega, hv118, u414, show z406 = 0 by omega, Int.add_zero]
        · skip
          refine sA_iconst (z := 1) dd_X9_readTwist_87 ?_
          refine sA_goto (tgt := 92) dd_X9_readTwist_88 (by decide) ?_
          refine sA_iconst (z := 3) dd_X9_readTwist_92 ?_
          refine sA_iload_n dd_X9_readTwist_93 rfl (.tail _ (.tail _ (.head _))) ?_
          refine sA_callV (y2 := m_X9_want) (n2 := 3) (d2 := 1) (a := 106) (ci := 9) (q := (RX9, TX9, 28)) (as := [gs_iv 1, gs_iv 3, gs_iv (F 106 18)]) (rest := []) dd_X9_readTwist_94 ok_X9_want ml_X9_199 rfl rfl (by decide) gs_s106 rfl rfl (Nat.le_of_ble_eq_true rfl) (by decide) (c_X9_want_vf I365 (by omega) (by omega) (by omega)) (fun r425 F426 A427 h428 => ?_)
          obtain ⟨z431, e430, I432, f433, x429⟩ := h428
          subst e430
          have v434 : F426 106 18 = F364 106 18 := f433.1 106 18 (by first | exact id | omega | (dsimp only; omega) | (dsimp only) | fail)
          have v435 : F426 106 17 = F364 106 17 := f433.1 106 17 (by first | exact id | omega | (dsimp only; omega) | (dsimp only) | fail)
          have v438 : F426 106 24 = F364 106 24 := f433.1 106 24 (by first | exact id | omega | (dsimp only; omega) | (dsimp only) | fail)
          have v439 : F426 106 22 = F364 106 22 := f433.1 106 22 (by first | exact id | omega | (dsimp only; omega) | (dsimp only) | fail)
          have v440 : F426 106 0 = F364 106 0 := f433.1 106 0 (by first | exact id | omega | (dsimp only; omega) | (dsimp only) | fail)
          have f441 := gs_fr_tr f366 f433 (fun b j h => by first | exact False.elim h | omega | (dsimp only at h ⊢; omega) | fail) (fun b h => by first | exact False.elim h | omega | (dsimp only at h ⊢; omega) | fail)
          have u442 : A427 118 = A 118 := (f433.2 118 (by first | exact id | omega | (dsimp only; omega) | (dsimp only) | fail)).trans u349
          have u443 : A427 116 = A 116 := (f433.2 116 (by first | exact id | omega | (dsimp only; omega) | (dsimp only) | fail)).trans u350
          have u444 : A427 117 = A 117 := (f433.2 117 (by first | exact id | omega | (dsimp only; omega) | (dsimp only) | fail)).trans u351
          have y445 : (F364 106 19 = 0 ∧ (1 : Int) = 0 ∧ z431 = 0 ∧ F426 106 19 = (3 : Int) ∧ F426 106 20 = (F 106 18)) ∨ (F364 106 19 = 0 ∧ (1 : Int) = 1 ∧ z431 = 1 ∧ F426 106 19 = 0 ∧ F426 106 20 = F364 106 20) ∨ (F364 106 19 ≠ 0 ∧ z431 = 0 ∧ F426 106 19 = F364 106 19 ∧ F426 106 20 = F364 106 20) := x429
          clear x429
          show sA _ _ _ 97 _ [gs_iv z431] _ _
          refine sA_if_eq (tgt := 137) dd_X9_readTwist_97 (by decide) (by omega) (fun q446 => ?_) (fun q446 => ?_)
          · skip
            refine sA_vret dd_X9_readTwist_137 rfl ?_
            refine ⟨rfl, I432, f441, ?_⟩
            have hA116 : A 116 = A 116 := rfl
            have tf := y329.2
            rw [show F11 106 17 = F 106 17 by omega, show F11 106 18 = F 106 18 + 1 by omega] at tf
            rw [show F310 106 19 = 0 by omega] at tf
            obtain ⟨m1, m2, m3, m4, m5, m6, m7⟩ := rd_tw_good (by omega) hrd hst hc hk tf (by omega)
            refine ⟨by omega, by omega, by omega, ?_, by omega⟩
            refine .inr ⟨by omega, ?_⟩
            rw [show F426 106 17 = F 106 17 by omega, show F426 106 19 = 3 by omega, show F426 106 20 = F 106 18 by omega]
            exact m1 (by omega)
          · skip
            refine sA_aload_n dd_X9_readTwist_100 rfl (.tail _ (.tail _ (.tail _ (.head _)))) ?_
            refine sA_getr (ci := 9) (j := 23) (q := (RX9, TX9, 28)) dd_X9_readTwist_101 rfl (by decide) fl_X9_47 (by decide) gs_s106 rfl ?_
            refine sA_aload_n dd_X9_readTwist_104 rfl (.tail _ (.tail _ (.tail _ (.head _)))) ?_
            refine sA_geti (ci := 9) (j := 24) (q := (RX9, TX9, 28)) dd_X9_readTwist_105 rfl (by decide) fl_X9_206 (by decide) gs_s106 rfl ?_
            have b447 : (0 : Int) ≤ F426 106 24 ∧ F426 106 24 ≤ 60 := I432.1 106 24
            refine sA_iconst (z := 2) dd_X9_readTwist_108 ?_
            refine sA_iload_n dd_X9_readTwist_109 rfl (.tail _ (.tail _ (.tail _ (.tail _ (.head _))))) ?_
            refine sA_aload_n dd_X9_readTwist_110 rfl (.tail _ (.tail _ (.tail _ (.head _)))) ?_
            refine sA_geti (ci := 9) (j := 0) (q := (RX9, TX9, 28)) dd_X9_readTwist_111 rfl (by decide) fl_X9_64 (by decide) gs_s106 rfl ?_
            have b448 : (1 : Int) ≤ F426 106 0 ∧ F426 106 0 ≤ 3 := I432.1 106 0
            have hg114 : F426 106 0 = F 106 0 := by omega
            have hmb2 := gs_mul_bd (x := k) (y := F426 106 0) (m := 2) (k := 3) (by omega) (by omega) (by omega)
            refine sA_imul dd_X9_readTwist_114 ?_
            refine sA_iload_n dd_X9_readTwist_115 rfl (.tail _ (.head _)) ?_
            refine sA_iadd dd_X9_readTwist_116 ?_
            refine sA_iconst (z := 1) dd_X9_readTwist_117 ?_
            refine sA_isub dd_X9_readTwist_118 ?_
            refine sA_imul dd_X9_readTwist_119 ?_
            refine sA_iload dd_X9_readTwist_120 (.head _) ?_
            refine sA_callS (y2 := m_X9_bit) (n2 := 1) (d2 := 1) (as := [gs_iv 0]) (rest := [gs_iv (2 * (((k * (F426 106 0)) + z315) - 1)), gs_iv (F426 106 24), .ref 118]) dd_X9_readTwist_122 ok_X9_bit ml_X9_112 rfl rfl (Nat.le_of_ble_eq_true rfl) (by decide) (c_X9_bit (by omega)) (fun r449 F450 A451 h452 => ?_)
            obtain ⟨z455, e454, e456, e457, x453⟩ := h452
            subst e454 e456 e457
            show sA _ _ _ 125 _ [gs_iv z455, gs_iv (2 * (((k * (F426 106 0)) + z315) - 1)), gs_iv (F426 106 24), .ref 118] _ _
            refine sA_iadd dd_X9_readTwist_125 ?_
            refine sA_iast (n := 600) dd_X9_readTwist_126 (by decide) gs_s118 (by omega) (by decide) ?_
            have I459 : gs_I F426 (gs_up A427 118 ((F426 106 24).toNat) ((2 * (((k * (F426 106 0)) + z315) - 1)) + z455)) := gs_I_ast I432 (show (-2147483648 : Int) ≤ (2 * (((k * (F426 106 0)) + z315) - 1)) + z455 ∧ (2 * (((k * (F426 106 0)) + z315) - 1)) + z455 ≤ 2147483647 by omega)
            have f460 := gs_fr_ast f441 (a := 118) (z := (2 * (((k * (F426 106 0)) + z315) - 1)) + z455) (i := (F426 106 24).toNat) (by first | omega | (dsimp only; omega) | (dsimp only) | fail)
            have u461 : (gs_up A427 118 ((F426 106 24).toNat) ((2 * (((k * (F426 106 0)) + z315) - 1)) + z455)) 118 = gs_u (A 118) ((F426 106 24).toNat) ((2 * (((k * (F426 106 0)) + z315) - 1)) + z455) := (gs_up_u A427 118 ((F426 106 24).toNat) ((2 * (((k * (F426 106 0)) + z315) - 1)) + z455)).trans (congrArg (fun f => gs_u f ((F426 106 24).toNat) ((2 * (((k * (F426 106 0)) + z315) - 1)) + z455)) u442)
            have u462 : (gs_up A427 118 ((F426 106 24).toNat) ((2 * (((k * (F426 106 0)) + z315) - 1)) + z455)) 116 = A 116 := (gs_up_row _ _ (by omega)).trans u443
            have u463 : (gs_up A427 118 ((F426 106 24).toNat) ((2 * (((k * (F426 106 0)) + z315) - 1)) + z455)) 117 = A 117 := (gs_up_row _ _ (by omega)).trans u444
            generalize gs_up A427 118 ((F426 106 24).toNat) ((2 * (((k * (F426 106 0)) + z315) - 1)) + z455) = A458 at I459 f460 u461 u462 u463 ⊢
            refine sA_aload_n dd_X9_readTwist_127 rfl (.tail _ (.tail _ (.tail _ (.head _)))) ?_
            refine sA_dup dd_X9_readTwist_128 rfl ?_
            refine sA_geti (ci := 9) (j := 24) (q := (RX9, TX9, 28)) dd_X9_readTwist_129 rfl (by decide) fl_X9_206 (by decide) gs_s106 rfl ?_
            refine sA_iconst (z := 1) dd_X9_readTwist_132 ?_
            refine sA_iadd dd_X9_readTwist_133 ?_
            refine sA_put (ci := 9) (j := 24) (q := (RX9, TX9, 28)) (ty := .int) dd_X9_readTwist_134 rfl (by decide) fl_X9_206 rfl (tyX9_ok 24 (by decide)) rfl rfl (by decide) gs_s106 rfl ?_
            have I465 : gs_I (gs_up F426 106 24 ((F426 106 24) + 1)) A458 := gs_I_put I459 (show (0 : Int) ≤ (F426 106 24) + 1 ∧ (F426 106 24) + 1 ≤ 60 by omega)
            have f466 := gs_fr_put f460 (a := 106) (z := (F426 106 24) + 1) (j := 24) (by first | omega | (dsimp only; omega) | (dsimp only) | fail)
            have v467 : gs_up F426 106 24 ((F426 106 24) + 1) 106 24 = (F426 106 24) + 1 := gs_up_self _ _ _ _
            have v468 : (gs_up F426 106 24 ((F426 106 24) + 1)) 106 18 = F426 106 18 := gs_up_ne _ _ (by omega)
            have v469 : (gs_up F426 106 24 ((F426 106 24) + 1)) 106 17 = F426 106 17 := gs_up_ne _ _ (by omega)
            have v470 : (gs_up F426 106 24 ((F426 106 24) + 1)) 106 19 = F426 106 19 := gs_up_ne _ _ (by omega)
            have v471 : (gs_up F426 106 24 ((F426 106 24) + 1)) 106 20 = F426 106 20 := gs_up_ne _ _ (by omega)
            have v472 : (gs_up F426 106 24 ((F426 106 24) + 1)) 106 22 = F426 106 22 := gs_up_ne _ _ (by omega)
            have v473 : (gs_up F426 106 24 ((F426 106 24) + 1)) 106 0 = F426 106 0 := gs_up_ne _ _ (by omega)
            generalize gs_up F426 106 24 ((F426 106 24) + 1) = F464 at I465 f466 v467 v468 v469 v470 v471 v472 v473 ⊢
            refine sA_vret dd_X9_readTwist_137 rfl ?_
            refine ⟨rfl, I465, f466, ?_⟩
            have hA116 : A 116 = A 116 := rfl
            have tf := y329.2
            rw [show F11 106 17 = F 106 17 by omega, show F11 106 18 = F 106 18 + 1 by omega] at tf
            rw [show F310 106 19 = 0 by omega] at tf
            obtain ⟨m1, m2, m3, m4, m5, m6, m7⟩ := rd_tw_good (by omega) hrd hst hc hk tf (by omega)
            refine ⟨by omega, by omega, by omega, ?_, by omega⟩
            have lk := y352
            have hA48 : A311 116 = A 116 := f317.2 116 (by first | exact id | (dsimp only; omega) | fail)
            rw [hA48] at lk
            obtain ⟨lk1, lk2, lk3, lk4, lk5, lk6⟩ := lk
            have m8 := m2 (by omega)
            have m9 := (rd_mv (g := F 106 0) (s0 := s0) (by omega) (show F310 106 18 ≤ F333 106 18 by omega) lk3).trans m8
            have hev := rd_flip_e (x := 2 * (k * F 106 0 + z315 - 1)) (by rcases (show k = 0 ∨ k = 1 ∨ k = 2 by omega) with e | e | e <;> subst e <;> omega)
            have hv118 : A458 118 = gs_u (A 118) (F 106 24).toNat (2 * (k * F 106 0 + z315 - 1) + z455) := by rw [u461, show F426 106 24 = F 106 24 by omega, show F426 106 0 = F 106 0 by omega]
            by_cases hz : z455 = 1
            · have hd := rd_dash (by omega) m9 (by omega) (by omega)
              rw [show F 106 24 + 1 - 1 = F 106 24 by omega, gs_u_self, gs_u_u, show rd_flip (2 * (k * F 106 0 + z315 - 1)) = 2 * (k * F 106 0 + z315 - 1) + z455 by omega] at hd
              refine .inl ⟨by omega, by omega, by omega, 0, k, F 106 18, ?_, .inl rfl⟩
              rw [show F464 106 18 = F333 106 18 + 1 by omega, hd, show F464 106 22 = F 106 22 by omega, show F464 106 24 = F 106 24 + 1 by omega, hv118, u463]
            · refine .inl ⟨by omega, by omega, by omega, 2, k, F 106 18, ?_, .inr ⟨rfl, by rw [show F464 106 18 = F333 106 18 by omega]; omega⟩⟩
              rw [show F464 106 18 = F333 106 18 by omega, m9, show F464 106 22 = F 106 22 by omega, show F464 106 24 = F 106 24 + 1 by omega, hv118, u463, show z455 = 0 by omega, Int.add_zero]
      · skip
        refine sA_iconst (z := 1) dd_X9_readTwist_56 ?_
        refine sA_goto (tgt := 61) dd_X9_readTwist_57 (by decide) ?_
        refine sA_istore (lv' := [(4, gs_iv 1), (3, gs_iv z315), (2, gs_iv (F 106 18)), (0, .ref 106), (1, gs_iv k)]) dd_X9_readTwist_61 (by decide) rfl ?_
        refine sA_aload_n dd_X9_readTwist_63 rfl (.tail _ (.tail _ (.tail _ (.head _)))) ?_
        refine sA_dup dd_X9_readTwist_64 rfl ?_
        refine sA_geti (ci := 9) (j := 18) (q := (RX9, TX9, 28)) dd_X9_readTwist_65 rfl (by decide) fl_X9_186 (by decide) gs_s106 rfl ?_
        have b474 : (0 : Int) ≤ F333 106 18 ∧ F333 106 18 ≤ 120 := I339.1 106 18
        refine sA_iload dd_X9_readTwist_68 (.head _) ?_
        refine sA_callS (y2 := m_X9_bit) (n2 := 1) (d2 := 1) (as := [gs_iv 1]) (rest := [gs_iv (F333 106 18), .ref 106]) dd_X9_readTwist_70 ok_X9_bit ml_X9_112 rfl rfl (Nat.le_of_ble_eq_true rfl) (by decide) (c_X9_bit (by omega)) (fun r475 F476 A477 h478 => ?_)
        obtain ⟨z481, e480, e482, e483, x479⟩ := h478
        subst e480 e482 e483
        show sA _ _ _ 73 _ [gs_iv z481, gs_iv (F333 106 18), .ref 106] _ _
        refine sA_iadd dd_X9_readTwist_73 ?_
        refine sA_put (ci := 9) (j := 18) (q := (RX9, TX9, 28)) (ty := .int) dd_X9_readTwist_74 rfl (by decide) fl_X9_186 rfl (tyX9_ok 18 (by decide)) rfl rfl (by decide) gs_s106 rfl ?_
        have I485 : gs_I (gs_up F333 106 18 ((F333 106 18) + z481)) A334 := gs_I_put I339 (show (0 : Int) ≤ (F333 106 18) + z481 ∧ (F333 106 18) + z481 ≤ 120 by omega)
        have f486 := gs_fr_put f348 (a := 106) (z := (F333 106 18) + z481) (j := 18) (by first | omega | (dsimp only; omega) | (dsimp only) | fail)
        have v487 : gs_up F333 106 18 ((F333 106 18) + z481) 106 18 = (F333 106 18) + z481 := gs_up_self _ _ _ _
        have v488 : (gs_up F333 106 18 ((F333 106 18) + z481)) 106 17 = F333 106 17 := gs_up_ne _ _ (by omega)
        have v489 : (gs_up F333 106 18 ((F333 106 18) + z481)) 106 19 = F333 106 19 := gs_up_ne _ _ (by omega)
        have v490 : (gs_up F333 106 18 ((F333 106 18) + z481)) 106 20 = F333 106 20 := gs_up_ne _ _ (by omega)
        have v491 : (gs_up F333 106 18 ((F333 106 18) + z481)) 106 24 = F333 106 24 := gs_up_ne _ _ (by omega)
        have v492 : (gs_up F333 106 18 ((F333 106 18) + z481)) 106 22 = F333 106 22 := gs_up_ne _ _ (by omega)
        have v493 : (gs_up F333 106 18 ((F333 106 18) + z481)) 106 0 = F333 106 0 := gs_up_ne _ _ (by omega)
        generalize gs_up F333 106 18 ((F333 106 18) + z481) = F484 at I485 f486 v487 v488 v489 v490 v491 v492 v493 ⊢
        refine sA_aload_n dd_X9_readTwist_77 rfl (.tail _ (.tail _ (.tail _ (.head _)))) ?_
        refine sA_aload_n dd_X9_readTwist_78 rfl (.tail _ (.tail _ (.tail _ (.head _)))) ?_
        refine sA_geti (ci := 9) (j := 24) (q := (RX9, TX9, 28)) dd_X9_readTwist_79 rfl (by decide) fl_X9_206 (by decide) gs_s106 rfl ?_
        have b494 : (0 : Int) ≤ F484 106 24 ∧ F484 106 24 ≤ 60 := I485.1 106 24
        refine sA_bipush (z := 60) dd_X9_readTwist_82 (by decide) ?_
        refine sA_icmp_ge (tgt := 91) dd_X9_readTwist_84 (by decide) (by omega) (by omega) (fun q495 => ?_) (fun q495 => ?_)
        · skip
          refine sA_iconst (z := 0) dd_X9_readTwist_91 ?_
          refine sA_iconst (z := 3) dd_X9_readTwist_92 ?_
          refine sA_iload_n dd_X9_readTwist_93 rfl (.tail _ (.tail _ (.head _))) ?_
          refine sA_callV (y2 := m_X9_want) (n2 := 3) (d2 := 1) (a := 106) (ci := 9) (q := (RX9, TX9, 28)) (as := [gs_iv 0, gs_iv 3, gs_iv (F 106 18)]) (rest := []) dd_X9_readTwist_94 ok_X9_want ml_X9_199 rfl rfl (by decide) gs_s106 rfl rfl (Nat.le_of_ble_eq_true rfl) (by decide) (c_X9_want_vf I485 (by omega) (by omega) (by omega)) (fun r496 F497 A498 h499 => ?_)
          obtain ⟨z502, e501, I503, f504, x500⟩ := h499
          subst e501
          have v505 : F497 106 18 = F484 106 18 := f504.1 106 18 (by first | exact id | omega | (dsimp only; omega) | (dsimp only) | fail)
          have v506 : F497 106 17 = F484 106 17 := f504.1 106 17 (by first | exact id | omega | (dsimp only; omega) | (dsimp only) | fail)
          have v509 : F497 106 24 = F484 106 24 := f504.1 106 24 (by first | exact id | omega | (dsimp only; omega) | (dsimp only) | fail)
          have v510 : F497 106 22 = F484 106 22 := f504.1 106 22 (by first | exact id | omega | (dsimp only; omega) | (dsimp only) | fail)
          have v511 : F497 106 0 = F484 106 0 := f504.1 106 0 (by first | exact id | omega | (dsimp only; omega) | (dsimp only) | fail)
          have f512 := gs_fr_tr f486 f504 (fun b j h => by first | exact False.elim h | omega | (dsimp only at h ⊢; omega) | fail) (fun b h => by first | exact False.elim h | omega | (dsimp only at h ⊢; omega) | fail)
          have u513 : A498 118 = A 118 := (f504.2 118 (by first | exact id | omega | (dsimp only; omega) | (dsimp only) | fail)).trans u349
          have u514 : A498 116 = A 116 := (f504.2 116 (by first | exact id | omega | (dsimp only; omega) | (dsimp only) | fail)).trans u350
          have u515 : A498 117 = A 117 := (f504.2 117 (by first | exact id | omega | (dsimp only; omega) | (dsimp only) | fail)).trans u351
          have y516 : (F484 106 19 = 0 ∧ (0 : Int) = 0 ∧ z502 = 0 ∧ F497 106 19 = (3 : Int) ∧ F497 106 20 = (F 106 18)) ∨ (F484 106 19 = 0 ∧ (0 : Int) = 1 ∧ z502 = 1 ∧ F497 106 19 = 0 ∧ F497 106 20 = F484 106 20) ∨ (F484 106 19 ≠ 0 ∧ z502 = 0 ∧ F497 106 19 = F484 106 19 ∧ F497 106 20 = F484 106 20) := x500
          clear x500
          show sA _ _ _ 97 _ [gs_iv z502] _ _
          refine sA_if_eq (tgt := 137) dd_X9_readTwist_97 (by decide) (by omega) (fun q517 => ?_) (fun q517 => ?_)
          · skip
            refine sA_vret dd_X9_readTwist_137 rfl ?_
            refine ⟨rfl, I503, f512, ?_⟩
            have hA116 : A 116 = A 116 := rfl
            have tf := y329.2
            rw [show F11 106 17 = F 106 17 by omega, show F11 106 18 = F 106 18 + 1 by omega] at tf
            rw [show F310 106 19 = 0 by omega] at tf
            obtain ⟨m1, m2, m3, m4, m5, m6, m7⟩ := rd_tw_good (by omega) hrd hst hc hk tf (by omega)
            refine ⟨by omega, by omega, by omega, ?_, by omega⟩
            refine .inr ⟨by omega, ?_⟩
            rw [show F497 106 17 = F 106 17 by omega, show F497 106 19 = 3 by omega, show F497 106 20 = F 106 18 by omega]
            exact m1 (by omega)
          · skip
            refine sA_aload_n dd_X9_readTwist_100 rfl (.tail _ (.tail _ (.tail _ (.head _)))) ?_
            refine sA_getr (ci := 9) (j := 23) (q := (RX9, TX9, 28)) dd_X9_readTwist_101 rfl (by decide) fl_X9_47 (by decide) gs_s106 rfl ?_
            refine sA_aload_n dd_X9_readTwist_104 rfl (.tail _ (.tail _ (.tail _ (.head _)))) ?_
            refine sA_geti (ci := 9) (j := 24) (q := (RX9, TX9, 28)) dd_X9_readTwist_105 rfl (by decide) fl_X9_206 (by decide) gs_s106 rfl ?_
            have b518 : (0 : Int) ≤ F497 106 24 ∧ F497 106 24 ≤ 60 := I503.1 106 24
            refine sA_iconst (z := 2) dd_X9_readTwist_108 ?_
            refine sA_iload_n dd_X9_readTwist_109 rfl (.tail _ (.tail _ (.tail _ (.tail _ (.head _))))) ?_
            refine sA_aload_n dd_X9_readTwist_110 rfl (.tail _ (.tail _ (.tail _ (.head _)))) ?_
            refine sA_geti (ci := 9) (j := 0) (q := (RX9, TX9, 28)) dd_X9_readTwist_111 rfl (by decide) fl_X9_64 (by decide) gs_s106 rfl ?_
            have b519 : (1 : Int) ≤ F497 106 0 ∧ F497 106 0 ≤ 3 := I503.1 106 0
            have hg114 : F497 106 0 = F 106 0 := by omega
            have hmb2 := gs_mul_bd (x := k) (y := F497 106 0) (m := 2) (k := 3) (by omega) (by omega) (by omega)
            refine sA_imul dd_X9_readTwist_114 ?_
            refine sA_iload_n dd_X9_readTwist_115 rfl (.tail _ (.head _)) ?_
            refine sA_iadd dd_X9_readTwist_116 ?_
            refine sA_iconst (z := 1) dd_X9_readTwist_117 ?_
            refine sA_isub dd_X9_readTwist_118 ?_
            refine sA_imul dd_X9_readTwist_119 ?_
            refine sA_iload dd_X9_readTwist_120 (.head _) ?_
            refine sA_callS (y2 := m_X9_bit) (n2 := 1) (d2 := 1) (as := [gs_iv 1]) (rest := [gs_iv (2 * (((k * (F497 106 0)) + z315) - 1)), gs_iv (F497 106 24), .ref 118]) dd_X9_readTwist_122 ok_X9_bit ml_X9_112 rfl rfl (Nat.le_of_ble_eq_true rfl) (by decide) (c_X9_bit (by omega)) (fun r520 F521 A522 h523 => ?_)
            obtain ⟨z526, e525, e527, e528, x524⟩ := h523
            subst e525 e527 e528
            show sA _ _ _ 125 _ [gs_iv z526, gs_iv (2 * (((k * (F497 106 0)) + z315) - 1)), gs_iv (F497 106 24), .ref 118] _ _
            refine sA_iadd dd_X9_readTwist_125 ?_
            refine sA_iast (n := 600) dd_X9_readTwist_126 (by decide) gs_s118 (by omega) (by decide) ?_
            have I530 : gs_I F497 (gs_up A498 118 ((F497 106 24).toNat) ((2 * (((k * (F497 106 0)) + z315) - 1)) + z526)) := gs_I_ast I503 (show (-2147483648 : Int) ≤ (2 * (((k * (F497 106 0)) + z315) - 1)) + z526 ∧ (2 * (((k * (F497 106 0)) + z315) - 1)) + z526 ≤ 2147483647 by omega)
            have f531 := gs_fr_ast f512 (a := 118) (z := (2 * (((k * (F497 106 0)) + z315) - 1)) + z526) (i := (F497 106 24).toNat) (by first | omega | (dsimp only; omega) | (dsimp only) | fail)
            have u532 : (gs_up A498 118 ((F497 106 24).toNat) ((2 * (((k * (F497 106 0)) + z315) - 1)) + z526)) 118 = gs_u (A 118) ((F497 106 24).toNat) ((2 * (((k * (F497 106 0)) + z315) - 1)) + z526) := (gs_up_u A498 118 ((F497 106 24).toNat) ((2 * (((k * (F497 106 0)) + z315) - 1)) + z526)).trans (congrArg (fun f => gs_u f ((F497 106 24).toNat) ((2 * (((k * (F497 106 0)) + z315) - 1)) + z526)) u513)
            have u533 : (gs_up A498 118 ((F497 106 24).toNat) ((2 * (((k * (F497 106 0)) + z315) - 1)) + z526)) 116 = A 116 := (gs_up_row _ _ (by omega)).trans u514
            have u534 : (gs_up A498 118 ((F497 106 24).toNat) ((2 * (((k * (F497 106 0)) + z315) - 1)) + z526)) 117 = A 117 := (gs_up_row _ _ (by omega)).trans u515
            generalize gs_up A498 118 ((F497 106 24).toNat) ((2 * (((k * (F497 106 0)) + z315) - 1)) + z526) = A529 at I530 f531 u532 u533 u534 ⊢
            refine sA_aload_n dd_X9_readTwist_127 rfl (.tail _ (.tail _ (.tail _ (.head _)))) ?_
            refine sA_dup dd_X9_readTwist_128 rfl ?_
            refine sA_geti (ci := 9) (j := 24) (q := (RX9, TX9, 28)) dd_X9_readTwist_129 rfl (by decide) fl_X9_206 (by decide) gs_s106 rfl ?_
            refine sA_iconst (z := 1) dd_X9_readTwist_132 ?_
            refine sA_iadd dd_X9_readTwist_133 ?_
            refine sA_put (ci := 9) (j := 24) (q := (RX9, TX9, 28)) (ty := .int) dd_X9_readTwist_134 rfl (by decide) fl_X9_206 rfl (tyX9_ok 24 (by decide)) rfl rfl (by decide) gs_s106 rfl ?_
            have I536 : gs_I (gs_up F497 106 24 ((F497 106 24) + 1)) A529 := gs_I_put I530 (show (0 : Int) ≤ (F497 106 24) + 1 ∧ (F497 106 24) + 1 ≤ 60 by omega)
            have f537 := gs_fr_put f531 (a := 106) (z := (F497 106 24) + 1) (j := 24) (by first | omega | (dsimp only; omega) | (dsimp only) | fail)
            have v538 : gs_up F497 106 24 ((F497 106 24) + 1) 106 24 = (F497 106 24) + 1 := gs_up_self _ _ _ _
            have v539 : (gs_up F497 106 24 ((F497 106 24) + 1)) 106 18 = F497 106 18 := gs_up_ne _ _ (by omega)
            have v540 : (gs_up F497 106 24 ((F497 106 24) + 1)) 106 17 = F497 106 17 := gs_up_ne _ _ (by omega)
            have v541 : (gs_up F497 106 24 ((F497 106 24) + 1)) 106 19 = F497 106 19 := gs_up_ne _ _ (by omega)
            have v542 : (gs_up F497 106 24 ((F497 106 24) + 1)) 106 20 = F497 106 20 := gs_up_ne _ _ (by omega)
            have v543 : (gs_up F497 106 24 ((F497 106 24) + 1)) 106 22 = F497 106 22 := gs_up_ne _ _ (by omega)
            have v544 : (gs_up F497 106 24 ((F497 106 24) + 1)) 106 0 = F497 106 0 := gs_up_ne _ _ (by omega)
            generalize gs_up F497 106 24 ((F497 106 24) + 1) = F535 at I536 f537 v538 v539 v540 v541 v542 v543 v544 ⊢
            refine sA_vret dd_X9_readTwist_137 rfl ?_
            refine ⟨rfl, I536, f537, ?_⟩
            have hA116 : A 116 = A 116 := rfl
            have tf := y329.2
            rw [show F11 106 17 = F 106 17 by omega, show F11 106 18 = F 106 18 + 1 by omega] at tf
            rw [show F310 106 19 = 0 by omega] at tf
            obtain ⟨m1, m2, m3, m4, m5, m6, m7⟩ := rd_tw_good (by omega) hrd hst hc hk tf (by omega)
            refine ⟨by omega, by omega, by omega, ?_, by omega⟩
            have lk := y352
            have hA48 : A311 116 = A 116 := f317.2 116 (by first | exact id | (dsimp only; omega) | fail)
            rw [hA48] at lk
            obtain ⟨lk1, lk2, lk3, lk4, lk5, lk6⟩ := lk
            have m8 := m2 (by omega)
            have m9 := (rd_mv (g := F 106 0) (s0 := s0) (by omega) (show F310 106 18 ≤ F333 106 18 by omega) lk3).trans m8
            have hev := rd_flip_e (x := 2 * (k * F 106 0 + z315 - 1)) (by rcases (show k = 0 ∨ k = 1 ∨ k = 2 by omega) with e | e | e <;> subst e <;> omega)
            have hv118 : A529 118 = gs_u (A 118) (F 106 24).toNat (2 * (k * F 106 0 + z315 - 1) + z526) := by rw [u532, show F497 106 24 = F 106 24 by omega, show F497 106 0 = F 106 0 by omega]
            by_cases hz : z526 = 1
            · have hd := rd_dash (by omega) m9 (by omega) (by omega)
              rw [show F 106 24 + 1 - 1 = F 106 24 by omega, gs_u_self, gs_u_u, show rd_flip (2 * (k * F 106 0 + z315 - 1)) = 2 * (k * F 106 0 + z315 - 1) + z526 by omega] at hd
              refine .inl ⟨by omega, by omega, by omega, 0, k, F 106 18, ?_, .inl rfl⟩
              rw [show F535 106 18 = F333 106 18 + 1 by omega, hd, show F535 106 22 = F 106 22 by omega, show F535 106 24 = F 106 24 + 1 by omega, hv118, u534]
            · refine .inl ⟨by omega, by omega, by omega, 2, k, F 106 18, ?_, .inr ⟨rfl, by rw [show F535 106 18 = F333 106 18 by omega]; omega⟩⟩
              rw [show F535 106 18 = F333 106 18 by omega, m9, show F535 106 22 = F 106 22 by omega, show F535 106 24 = F 106 24 + 1 by omega, hv118, u534, show z526 = 0 by omega, Int.add_zero]
        · skip
          refine sA_iconst (z := 1) dd_X9_readTwist_87 ?_
          refine sA_goto (tgt := 92) dd_X9_readTwist_88 (by decide) ?_
          refine sA_iconst (z := 3) dd_X9_readTwist_92 ?_
          refine sA_iload_n dd_X9_readTwist_93 rfl (.tail _ (.tail _ (.head _))) ?_
          refine sA_callV (y2 := m_X9_want) (n2 := 3) (d2 := 1) (a := 106) (ci := 9) (q := (RX9, TX9, 28)) (as := [gs_iv 1, gs_iv 3, gs_iv (F 106 18)]) (rest := []) dd_X9_readTwist_94 ok_X9_want ml_X9_199 rfl rfl (by decide) gs_s106 rfl rfl (Nat.le_of_ble_eq_true rfl) (by decide) (c_X9_want_vf I485 (by omega) (by omega) (by omega)) (fun r545 F546 A547 h548 => ?_)
          obtain ⟨z551, e550, I552, f553, x549⟩ := h548
          subst e550
          have v554 : F546 106 18 = F484 106 18 := f553.1 106 18 (by first | exact id | omega | (dsimp only; omega) | (dsimp only) | fail)
          have v555 : F546 106 17 = F484 106 17 := f553.1 106 17 (by first | exact id | omega | (dsimp only; omega) | (dsimp only) | fail)
          have v558 : F546 106 24 = F484 106 24 := f553.1 106 24 (by first | exact id | omega | (dsimp only; omega) | (dsimp only) | fail)
          have v559 : F546 106 22 = F484 106 22 := f553.1 106 22 (by first | exact id | omega | (dsimp only; omega) | (dsimp only) | fail)
          have v560 : F546 106 0 = F484 106 0 := f553.1 106 0 (by first | exact id | omega | (dsimp only; omega) | (dsimp only) | fail)
          have f561 := gs_fr_tr f486 f553 (fun b j h => by first | exact False.elim h | omega | (dsimp only at h ⊢; omega) | fail) (fun b h => by first | exact False.elim h | omega | (dsimp only at h ⊢; omega) | fail)
          have u562 : A547 118 = A 118 := (f553.2 118 (by first | exact id | omega | (dsimp only; omega) | (dsimp only) | fail)).trans u349
          have u563 : A547 116 = A 116 := (f553.2 116 (by first | exact id | omega | (dsimp only; omega) | (dsimp only) | fail)).trans u350
          have u564 : A547 117 = A 117 := (f553.2 117 (by first | exact id | omega | (dsimp only; omega) | (dsimp only) | fail)).trans u351
          have y565 : (F484 106 19 = 0 ∧ (1 : Int) = 0 ∧ z551 = 0 ∧ F546 106 19 = (3 : Int) ∧ F546 106 20 = (F 106 18)) ∨ (F484 106 19 = 0 ∧ (1 : Int) = 1 ∧ z551 = 1 ∧ F546 106 19 = 0 ∧ F546 106 20 = F484 106 20) ∨ (F484 106 19 ≠ 0 ∧ z551 = 0 ∧ F546 106 19 = F484 106 19 ∧ F546 106 20 = F484 106 20) := x549
          clear x549
          show sA _ _ _ 97 _ [gs_iv z551] _ _
          refine sA_if_eq (tgt := 137) dd_X9_readTwist_97 (by decide) (by omega) (fun q566 => ?_) (fun q566 => ?_)
          · skip
            refine sA_vret dd_X9_readTwist_137 rfl ?_
            refine ⟨rfl, I552, f561, ?_⟩
            have hA116 : A 116 = A 116 := rfl
            have tf := y329.2
            rw [show F11 106 17 = F 106 17 by omega, show F11 106 18 = F 106 18 + 1 by omega] at tf
            rw [show F310 106 19 = 0 by omega] at tf
            obtain ⟨m1, m2, m3, m4, m5, m6, m7⟩ := rd_tw_good (by omega) hrd hst hc hk tf (by omega)
            refine ⟨by omega, by omega, by omega, ?_, by omega⟩
            refine .inr ⟨by omega, ?_⟩
            rw [show F546 106 17 = F 106 17 by omega, show F546 106 19 = 3 by omega, show F546 106 20 = F 106 18 by omega]
            exact m1 (by omega)
          · skip
            refine sA_aload_n dd_X9_readTwist_100 rfl (.tail _ (.tail _ (.tail _ (.head _)))) ?_
            refine sA_getr (ci := 9) (j := 23) (q := (RX9, TX9, 28)) dd_X9_readTwist_101 rfl (by decide) fl_X9_47 (by decide) gs_s106 rfl ?_
            refine sA_aload_n dd_X9_readTwist_104 rfl (.tail _ (.tail _ (.tail _ (.head _)))) ?_
            refine sA_geti (ci := 9) (j := 24) (q := (RX9, TX9, 28)) dd_X9_readTwist_105 rfl (by decide) fl_X9_206 (by decide) gs_s106 rfl ?_
            have b567 : (0 : Int) ≤ F546 106 24 ∧ F546 106 24 ≤ 60 := I552.1 106 24
            refine sA_iconst (z := 2) dd_X9_readTwist_108 ?_
            refine sA_iload_n dd_X9_readTwist_109 rfl (.tail _ (.tail _ (.tail _ (.tail _ (.head _))))) ?_
            refine sA_aload_n dd_X9_readTwist_110 rfl (.tail _ (.tail _ (.tail _ (.head _)))) ?_
            refine sA_geti (ci := 9) (j := 0) (q := (RX9, TX9, 28)) dd_X9_readTwist_111 rfl (by decide) fl_X9_64 (by decide) gs_s106 rfl ?_
            have b568 : (1 : Int) ≤ F546 106 0 ∧ F546 106 0 ≤ 3 := I552.1 106 0
            have hg114 : F546 106 0 = F 106 0 := by omega
            have hmb2 := gs_mul_bd (x := k) (y := F546 106 0) (m := 2) (k := 3) (by omega) (by omega) (by omega)
            refine sA_imul dd_X9_readTwist_114 ?_
            refine sA_iload_n dd_X9_readTwist_115 rfl (.tail _ (.head _)) ?_
            refine sA_iadd dd_X9_readTwist_116 ?_
            refine sA_iconst (z := 1) dd_X9_readTwist_117 ?_
            refine sA_isub dd_X9_readTwist_118 ?_
            refine sA_imul dd_X9_readTwist_119 ?_
            refine sA_iload dd_X9_readTwist_120 (.head _) ?_
            refine sA_callS (y2 := m_X9_bit) (n2 := 1) (d2 := 1) (as := [gs_iv 1]) (rest := [gs_iv (2 * (((k * (F546 106 0)) + z315) - 1)), gs_iv (F546 106 24), .ref 118]) dd_X9_readTwist_122 ok_X9_bit ml_X9_112 rfl rfl (Nat.le_of_ble_eq_true rfl) (by decide) (c_X9_bit (by omega)) (fun r569 F570 A571 h572 => ?_)
            obtain ⟨z575, e574, e576, e577, x573⟩ := h572
            subst e574 e576 e577
            show sA _ _ _ 125 _ [gs_iv z575, gs_iv (2 * (((k * (F546 106 0)) + z315) - 1)), gs_iv (F546 106 24), .ref 118] _ _
            refine sA_iadd dd_X9_readTwist_125 ?_
            refine sA_iast (n := 600) dd_X9_readTwist_126 (by decide) gs_s118 (by omega) (by decide) ?_
            have I579 : gs_I F546 (gs_up A547 118 ((F546 106 24).toNat) ((2 * (((k * (F546 106 0)) + z315) - 1)) + z575)) := gs_I_ast I552 (show (-2147483648 : Int) ≤ (2 * (((k * (F546 106 0)) + z315) - 1)) + z575 ∧ (2 * (((k * (F546 106 0)) + z315) - 1)) + z575 ≤ 2147483647 by omega)
            have f580 := gs_fr_ast f561 (a := 118) (z := (2 * (((k * (F546 106 0)) + z315) - 1)) + z575) (i := (F546 106 24).toNat) (by first | omega | (dsimp only; omega) | (dsimp only) | fail)
            have u581 : (gs_up A547 118 ((F546 106 24).toNat) ((2 * (((k * (F546 106 0)) + z315) - 1)) + z575)) 118 = gs_u (A 118) ((F546 106 24).toNat) ((2 * (((k * (F546 106 0)) + z315) - 1)) + z575) := (gs_up_u A547 118 ((F546 106 24).toNat) ((2 * (((k * (F546 106 0)) + z315) - 1)) + z575)).trans (congrArg (fun f => gs_u f ((F546 106 24).toNat) ((2 * (((k * (F546 106 0)) + z315) - 1)) + z575)) u562)
            have u582 : (gs_up A547 118 ((F546 106 24).toNat) ((2 * (((k * (F546 106 0)) + z315) - 1)) + z575)) 116 = A 116 := (gs_up_row _ _ (by omega)).trans u563
            have u583 : (gs_up A547 118 ((F546 106 24).toNat) ((2 * (((k * (F546 106 0)) + z315) - 1)) + z575)) 117 = A 117 := (gs_up_row _ _ (by omega)).trans u564
            generalize gs_up A547 118 ((F546 106 24).toNat) ((2 * (((k * (F546 106 0)) + z315) - 1)) + z575) = A578 at I579 f580 u581 u582 u583 ⊢
            refine sA_aload_n dd_X9_readTwist_127 rfl (.tail _ (.tail _ (.tail _ (.head _)))) ?_
            refine sA_dup dd_X9_readTwist_128 rfl ?_
            refine sA_geti (ci := 9) (j := 24) (q := (RX9, TX9, 28)) dd_X9_readTwist_129 rfl (by decide) fl_X9_206 (by decide) gs_s106 rfl ?_
            refine sA_iconst (z := 1) dd_X9_readTwist_132 ?_
            refine sA_iadd dd_X9_readTwist_133 ?_
            refine sA_put (ci := 9) (j := 24) (q := (RX9, TX9, 28)) (ty := .int) dd_X9_readTwist_134 rfl (by decide) fl_X9_206 rfl (tyX9_ok 24 (by decide)) rfl rfl (by decide) gs_s106 rfl ?_
            have I585 : gs_I (gs_up F546 106 24 ((F546 106 24) + 1)) A578 := gs_I_put I579 (show (0 : Int) ≤ (F546 106 24) + 1 ∧ (F546 106 24) + 1 ≤ 60 by omega)
            have f586 := gs_fr_put f580 (a := 106) (z := (F546 106 24) + 1) (j := 24) (by first | omega | (dsimp only; omega) | (dsimp only) | fail)
            have v587 : gs_up F546 106 24 ((F546 106 24) + 1) 106 24 = (F546 106 24) + 1 := gs_up_self _ _ _ _
            have v588 : (gs_up F546 106 24 ((F546 106 24) + 1)) 106 18 = F546 106 18 := gs_up_ne _ _ (by omega)
            have v589 : (gs_up F546 106 24 ((F546 106 24) + 1)) 106 17 = F546 106 17 := gs_up_ne _ _ (by omega)
            have v590 : (gs_up F546 106 24 ((F546 106 24) + 1)) 106 19 = F546 106 19 := gs_up_ne _ _ (by omega)
            have v591 : (gs_up F546 106 24 ((F546 106 24) + 1)) 106 20 = F546 106 20 := gs_up_ne _ _ (by omega)
            have v592 : (gs_up F546 106 24 ((F546 106 24) + 1)) 106 22 = F546 106 22 := gs_up_ne _ _ (by omega)
            have v593 : (gs_up F546 106 24 ((F546 106 24) + 1)) 106 0 = F546 106 0 := gs_up_ne _ _ (by omega)
            generalize gs_up F546 106 24 ((F546 106 24) + 1) = F584 at I585 f586 v587 v588 v589 v590 v591 v592 v593 ⊢
            refine sA_vret dd_X9_readTwist_137 rfl ?_
            refine ⟨rfl, I585, f586, ?_⟩
            have hA116 : A 116 = A 116 := rfl
            have tf := y329.2
            rw [show F11 106 17 = F 106 17 by omega, show F11 106 18 = F 106 18 + 1 by omega] at tf
            rw [show F310 106 19 = 0 by omega] at tf
            obtain ⟨m1, m2, m3, m4, m5, m6, m7⟩ := rd_tw_good (by omega) hrd hst hc hk tf (by omega)
            refine ⟨by omega, by omega, by omega, ?_, by omega⟩
            have lk := y352
            have hA48 : A311 116 = A 116 := f317.2 116 (by first | exact id | (dsimp only; omega) | fail)
            rw [hA48] at lk
            obtain ⟨lk1, lk2, lk3, lk4, lk5, lk6⟩ := lk
            have m8 := m2 (by omega)
            have m9 := (rd_mv (g := F 106 0) (s0 := s0) (by omega) (show F310 106 18 ≤ F333 106 18 by omega) lk3).trans m8
            have hev := rd_flip_e (x := 2 * (k * F 106 0 + z315 - 1)) (by rcases (show k = 0 ∨ k = 1 ∨ k = 2 by omega) with e | e | e <;> subst e <;> omega)
            have hv118 : A578 118 = gs_u (A 118) (F 106 24).toNat (2 * (k * F 106 0 + z315 - 1) + z575) := by rw [u581, show F546 106 24 = F 106 24 by omega, show F546 106 0 = F 106 0 by omega]
            by_cases hz : z575 = 1
            · have hd := rd_dash (by omega) m9 (by omega) (by omega)
              rw [show F 106 24 + 1 - 1 = F 106 24 by omega, gs_u_self, gs_u_u, show rd_flip (2 * (k * F 106 0 + z315 - 1)) = 2 * (k * F 106 0 + z315 - 1) + z575 by omega] at hd
              refine .inl ⟨by omega, by omega, by omega, 0, k, F 106 18, ?_, .inl rfl⟩
              rw [show F584 106 18 = F333 106 18 + 1 by omega, hd, show F584 106 22 = F 106 22 by omega, show F584 106 24 = F 106 24 + 1 by omega, hv118, u583]
            · refine .inl ⟨by omega, by omega, by omega, 2, k, F 106 18, ?_, .inr ⟨rfl, by rw [show F584 106 18 = F333 106 18 by omega]; omega⟩⟩
              rw [show F584 106 18 = F333 106 18 by omega, m9, show F584 106 22 = F 106 22 by omega, show F584 106 24 = F 106 24 + 1 by omega, hv118, u583, show z575 = 0 by omega, Int.add_zero]
    · skip
      refine sA_vret dd_X9_readTwist_46 rfl ?_
      refine ⟨rfl, I316, f325, ?_⟩
      refine ⟨by omega, by omega, by omega, .inr ⟨by omega, ?_⟩, by omega⟩
      have hA116 : A 116 = A 116 := rfl
      have tf := y329.2
      rw [show F11 106 17 = F 106 17 by omega, show F11 106 18 = F 106 18 + 1 by omega] at tf
      rw [show F310 106 17 = F 106 17 by omega]
      exact rd_tw_bad (by omega) (rd_t1 (by omega) hrd hst hc hk) tf (by omega) (by omega)
end
