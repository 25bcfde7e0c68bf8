noncomputable section
theorem k_X9_read_vf {p : Int} {F A : gs_F} (hI : gs_I F A) (hp : -2147483648 ≤ p ∧ p ≤ 2147483647) (hT : ∀ i : Int, 0 ≤ i → i < F 106 17 → 0 ≤ A 116 i.toNat) : ∀ nN : Nat, (∀ (c0 : Int)  (F1 A1 : gs_F), gs_I F1 A1 → gs_fr (fun c j => c = 106 ∧ (17 ≤ j ∧ j ≤ 24)) (fun c => c = 110 ∨ c = 111 ∨ c = 117 ∨ c = 118) F A F1 A1 → 0 ≤ p ∧ p ≤ 7 → -2147483648 ≤ c0 ∧ c0 ≤ 2147483647 → (0 ≤ c0 → F1 106 18 < F1 106 17) → ((0 < F1 106 22 → A1 117 0 ≤ F1 106 24) ∧ (1 < F1 106 22 → A1 117 1 ≤ F1 106 24) ∧ (2 < F1 106 22 → A1 117 2 ≤ F1 106 24) ∧ (3 < F1 106 22 → A1 117 3 ≤ F1 106 24)) → F1 106 18 ≤ 120 ∧ F1 106 19 ≤ 4 → rd_md (F 106 0) (A 116) (0, 0, 0, 0, 0, 0, 0, A 118, A 117) F1 A1 → (0 ≤ c0 → (c0 = A 116 (F1 106 18).toNat ∧ c0 ≠ 32)) → (c0 < 0 → F1 106 17 ≤ F1 106 18) → F1 106 17 = F 106 17 ∧ F1 106 0 = F 106 0 → A1 110 = A 110 → A1 111 = A 111 → A1 116 = A 116 → (121 - F1 106 18) + (5 - F1 106 19) + 100 < (nN : Int) → sA m_X9_read 5 (fun rv F' A' => ∃ z : Int, rv = some (gs_iv z) ∧ gs_I F' A' ∧ gs_fr (fun c j => c = 106 ∧ (17 ≤ j ∧ j ≤ 24)) (fun c => c = 110 ∨ c = 111 ∨ c = 117 ∨ c = 118) F A F' A' ∧ (((p < 0 ∨ 7 < p) ∧ z = -1001 ∧ F' 106 17 = F 106 17 ∧ F' 106 20 = F 106 20 ∧ A' 110 = A 110 ∧ A' 111 = A 111) ∨ (0 ≤ p ∧ p ≤ 7 ∧ F' 106 17 = 0 ∧ ((z ≤ -11 ∧ rd_fin (rd (F 106 0) (A 116) (0, 0, 0, 0, 0, 0, 0, A 118, A 117) (F 106 17).toNat) (F 106 17) = (-10 - z, F' 106 20) ∧ A' 110 = A 110 ∧ A' 111 = A 111) ∨ (0 ≤ z ∧ F' 106 20 = -1 ∧ z = F' 106 24 ∧ (∃ st kd kb : Int, rd (F 106 0) (A 116) (0, 0, 0, 0, 0, 0, 0, A 118, A 117) (F 106 17).toNat = (0, 0, st, kd, kb, F' 106 22, F' 106 24, A' 118, A' 117) ∧ rd_fin (rd (F 106 0) (A 116) (0, 0, 0, 0, 0, 0, 0, A 118, A 117) (F 106 17).toNat) (F 106 17) = (0, -1)) ∧ A' 110 = gs_u (A 110) p.toNat z ∧ (∀ i : Int, 0 ≤ i → i < z → A' 111 (60 * p + i).toNat = A' 118 i.toNat) ∧ (∀ i : Int, 0 ≤ i → (i < 60 * p ∨ 60 * p + 60 ≤ i) → A' 111 i.toNat = A 111 i.toNat)))))) 42 [(2, gs_iv c0), (0, .ref 106), (1, gs_iv p)] [] F1 A1) ∧ (∀ (k : Int)  (F1 A1 : gs_F), gs_I F1 A1 → gs_fr (fun c j => c = 106 ∧ (17 ≤ j ∧ j ≤ 24)) (fun c => c = 110 ∨ c = 111 ∨ c = 117 ∨ c = 118) F A F1 A1 → 0 ≤ p ∧ p ≤ 7 → 0 ≤ k ∧ k ≤ F1 106 24 → F1 106 17 = 0 → (∃ st kd kb : Int, rd (F 106 0) (A 116) (0, 0, 0, 0, 0, 0, 0, A 118, A 117) (F 106 17).toNat = (0, 0, st, kd, kb, F1 106 22, F1 106 24, A1 118, A1 117) ∧ rd_fin (rd (F 106 0) (A 116) (0, 0, 0, 0, 0, 0, 0, A 118, A 117) (F 106 17).toNat) (F 106 17) = (0, -1)) → A1 110 = gs_u (A 110) p.toNat (F1 106 24) → (∀ i : Int, 0 ≤ i → i < k → A1 111 (60 * p + i).toNat = A1 118 i.toNat) → (∀ i : Int, 0 ≤ i → (i < 60 * p ∨ 60 * p + 60 ≤ i) → A1 111 i.toNat = A 111 i.toNat) → F1 106 20 = -1 → F1 106 24 - k < (nN : Int) → sA m_X9_read 5 (fun rv F' A' => ∃ z : Int, rv = some (gs_iv z) ∧ gs_I F' A' ∧ gs_fr (fun c j => c = 106 ∧ (17 ≤ j ∧ j ≤ 24)) (fun c => c = 110 ∨ c = 111 ∨ c = 117 ∨ c = 118) F A F' A' ∧ (((p < 0 ∨ 7 < p) ∧ z = -1001 ∧ F' 106 17 = F 106 17 ∧ F' 106 20 = F 106 20 ∧ A' 110 = A 110 ∧ A' 111 = A 111) ∨ (0 ≤ p ∧ p ≤ 7 ∧ F' 106 17 = 0 ∧ ((z ≤ -11 ∧ rd_fin (rd (F 106 0) (A 116) (0, 0, 0, 0, 0, 0, 0, A 118, A 117) (F 106 17).toNat) (F 106 17) = (-10 - z, F' 106 20) ∧ A' 110 = A 110 ∧ A' 111 = A 111) ∨ (0 ≤ z ∧ F' 106 20 = -1 ∧ z = F' 106 24 ∧ (∃ st kd kb : Int, rd (F 106 0) (A 116) (0, 0, 0, 0, 0, 0, 0, A 118, A 117) (F 106 17).toNat = (0, 0, st, kd, kb, F' 106 22, F' 106 24, A' 118, A' 117) ∧ rd_fin (rd (F 106 0) (A 116) (0, 0, 0, 0, 0, 0, 0, A 118, A 117) (F 106 17).toNat) (F 106 17) = (0, -1)) ∧ A' 110 = gs_u (A 110) p.toNat z ∧ (∀ i : Int, 0 ≤ i → i < z → A' 111 (60 * p + i).toNat = A' 118 i.toNat) ∧ (∀ i : Int, 0 ≤ i → (i < 60 * p ∨ 60 * p + 60 ≤ i) → A' 111 i.toNat = A 111 i.toNat)))))) 121 [(4, gs_iv k), (0, .ref 106), (1, gs_iv p)] [] F1 A1) := by
  intro nN
  induction nN with
  | zero =>
    exact ⟨fun a0 a1 a2 a3 a4 i0 i1 i2 i3 i4 i5 i6 i7 i8 i9 i10 i11 hm => by exfalso; omega, fun a0 a1 a2 a3 a4 i0 i1 i2 i3 i4 i5 i6 i7 hm => by exfalso; omega⟩
  | succ nN ih =>
    refine ⟨?_, ?_⟩
    · skip
      intro c0 F1 A1 hI1 hf1 i0 i1 i2 i3 i4 i5 i6 i7 i8 i9 i10 i11 hm
      have b1 : (0 : Int) ≤ F1 106 18 ∧ F1 106 18 ≤ 120 := hI1.1 106 18
      have b2 : (0 : Int) ≤ F1 106 17 ∧ F1 106 17 ≤ 120 := hI1.1 106 17
      have b3 : (0 : Int) ≤ F1 106 19 ∧ F1 106 19 ≤ 4 := hI1.1 106 19
      have b4 : (-2147483648 : Int) ≤ F1 106 20 ∧ F1 106 20 ≤ 2147483647 := hI1.1 106 20
      have b5 : (0 : Int) ≤ F1 106 24 ∧ F1 106 24 ≤ 60 := hI1.1 106 24
      have b6 : (0 : Int) ≤ F1 106 22 ∧ F1 106 22 ≤ 4 := hI1.1 106 22
      have b7 : (1 : Int) ≤ F1 106 0 ∧ F1 106 0 ≤ 3 := hI1.1 106 0
      have u8 : A1 110 = A1 110 := rfl
      have u9 : A1 111 = A1 111 := rfl
      have u10 : A1 116 = A1 116 := rfl
      have u11 : A1 117 = A1 117 := rfl
      have u12 : A1 118 = A1 118 := rfl
      have hb22 : (0 : Int) ≤ F1 106 22 ∧ F1 106 22 ≤ 4 := hI1.1 106 22
      have hb17 : (0 : Int) ≤ F1 106 17 ∧ F1 106 17 ≤ 120 := hI1.1 106 17
      have hb18 : (0 : Int) ≤ F1 106 18 ∧ F1 106 18 ≤ 120 := hI1.1 106 18
      have hb19 : (0 : Int) ≤ F1 106 19 ∧ F1 106 19 ≤ 4 := hI1.1 106 19
      refine sA_aload_n dd_X9_read_42 rfl (.tail _ (.head _)) ?_
      refine sA_geti (ci := 9) (j := 19) (q := (RX9, TX9, 28)) dd_X9_read_43 rfl (by decide) fl_X9_189 (by decide) gs_s106 rfl ?_
      refine sA_if_ne (tgt := 66) dd_X9_read_46 (by decide) (by omega) (fun q13 => ?_) (fun q13 => ?_)
      · skip
        refine sA_aload_n dd_X9_read_66 rfl (.tail _ (.head _)) ?_
        refine sA_aload_n dd_X9_read_67 rfl (.tail _ (.head _)) ?_
        refine sA_geti (ci := 9) (j := 22) (q := (RX9, TX9, 28)) dd_X9_read_68 rfl (by decide) fl_X9_209 (by decide) gs_s106 rfl ?_
        refine sA_if_ne (tgt := 78) dd_X9_read_71 (by decide) (by omega) (fun q14 => ?_) (fun q14 => ?_)
        · skip
          refine sA_iconst (z := 0) dd_X9_read_78 ?_
          refine sA_iconst (z := 1) dd_X9_read_79 ?_
          refine sA_aload_n dd_X9_read_80 rfl (.tail _ (.head _)) ?_
          refine sA_geti (ci := 9) (j := 17) (q := (RX9, TX9, 28)) dd_X9_read_81 rfl (by decide) fl_X9_181 (by decide) gs_s106 rfl ?_
          refine sA_callV (y2 := m_X9_want) (n2 := 3) (d2 := 1) (a := 106) (ci := 9) (q := (RX9, TX9, 28)) (as := [gs_iv 0, gs_iv 1, gs_iv (F1 106 17)]) (rest := []) dd_X9_read_84 ok_X9_want ml_X9_199 rfl rfl (by decide) gs_s106 rfl rfl (Nat.le_of_ble_eq_true rfl) (by decide) (c_X9_want_vf hI1 (by omega) (by omega) (by omega)) (fun r15 F16 A17 h18 => ?_)
          obtain ⟨z21, e20, I22, f23, x19⟩ := h18
          subst e20
          have v24 : F16 106 18 = F1 106 18 := f23.1 106 18 (by first | exact id | omega | (dsimp only; omega) | (dsimp only) | fail)
          have v25 : F16 106 17 = F1 106 17 := f23.1 106 17 (by first | exact id | omega | (dsimp only; omega) | (dsimp only) | fail)
          have v28 : F16 106 24 = F1 106 24 := f23.1 106 24 (by first | exact id | omega | (dsimp only; omega) | (dsimp only) | fail)
          have v29 : F16 106 22 = F1 106 22 := f23.1 106 22 (by first | exact id | omega | (dsimp only; omega) | (dsimp only) | fail)
          have v30 : F16 106 0 = F1 106 0 := f23.1 106 0 (by first | exact id | omega | (dsimp only; omega) | (dsimp only) | fail)
          have v31 : A17 117 0 = A1 117 0 := congrFun (f23.2 117 (by first | exact id | omega | (dsimp only; omega) | (dsimp only) | fail)) _
          have v32 : A17 117 1 = A1 117 1 := congrFun (f23.2 117 (by first | exact id | omega | (dsimp only; omega) | (dsimp only) | fail)) _
          have v33 : A17 117 2 = A1 117 2 := congrFun (f23.2 117 (by first | exact id | omega | (dsimp only; omega) | (dsimp only) | fail)) _
          have v34 : A17 117 3 = A1 117 3 := congrFun (f23.2 117 (by first | exact id | omega | (dsimp only; omega) | (dsimp only) | fail)) _
          have f35 := gs_fr_tr hf1 f23 (fun b j h => by first | exact False.elim h | omega | (dsimp only at h ⊢; omega) | fail) (fun b h => by first | exact False.elim h | omega | (dsimp only at h ⊢; omega) | fail)
          have u36 : A17 110 = A1 110 := (f23.2 110 (by first | exact id | omega | (dsimp only; omega) | (dsimp only) | fail)).trans u8
          have u37 : A17 111 = A1 111 := (f23.2 111 (by first | exact id | omega | (dsimp only; omega) | (dsimp only) | fail)).trans u9
          have u38 : A17 116 = A1 116 := (f23.2 116 (by first | exact id | omega | (dsimp only; omega) | (dsimp only) | fail)).trans u10
          have u39 : A17 117 = A1 117 := (f23.2 117 (by first | exact id | omega | (dsimp only; omega) | (dsimp only) | fail)).trans u11
          have u40 : A17 118 = A1 118 := (f23.2 118 (by first | exact id | omega | (dsimp only; omega) | (dsimp only) | fail)).trans u12
          have y41 : (F1 106 19 = 0 ∧ (0 : Int) = 0 ∧ z21 = 0 ∧ F16 106 19 = (1 : Int) ∧ F16 106 20 = (F1 106 17)) ∨ (F1 106 19 = 0 ∧ (0 : Int) = 1 ∧ z21 = 1 ∧ F16 106 19 = 0 ∧ F16 106 20 = F1 106 20) ∨ (F1 106 19 ≠ 0 ∧ z21 = 0 ∧ F16 106 19 = F1 106 19 ∧ F16 106 20 = F1 106 20) := x19
          clear x19
          show sA _ _ _ 87 _ [gs_iv z21] _ _
          refine sA_istore_n (lv' := [(3, gs_iv z21), (2, gs_iv c0), (0, .ref 106), (1, gs_iv p)]) dd_X9_read_87 rfl (by decide) rfl ?_
          refine sA_aload_n dd_X9_read_88 rfl (.tail _ (.tail _ (.head _))) ?_
          refine sA_iconst (z := 0) dd_X9_read_89 ?_
          refine sA_put (ci := 9) (j := 17) (q := (RX9, TX9, 28)) (ty := .int) dd_X9_read_90 rfl (by decide) fl_X9_181 rfl (tyX9_ok 17 (by decide)) rfl rfl (by decide) gs_s106 rfl ?_
          have I43 : gs_I (gs_up F16 106 17 0) A17 := gs_I_put I22 (show (0 : Int) ≤ 0 ∧ 0 ≤ 120 by omega)
          have f44 := gs_fr_put f35 (a := 106) (z := 0) (j := 17) (by first | omega | (dsimp only; omega) | (dsimp only) | fail)
          have v45 : gs_up F16 106 17 0 106 17 = 0 := gs_up_self _ _ _ _
          have v46 : (gs_up F16 106 17 0) 106 18 = F16 106 18 := gs_up_ne _ _ (by omega)
          have v47 : (gs_up F16 106 17 0) 106 19 = F16 106 19 := gs_up_ne _ _ (by omega)
          have v48 : (gs_up F16 106 17 0) 106 20 = F16 106 20 := gs_up_ne _ _ (by omega)
          have v49 : (gs_up F16 106 17 0) 106 24 = F16 106 24 := gs_up_ne _ _ (by omega)
          have v50 : (gs_up F16 106 17 0) 106 22 = F16 106 22 := gs_up_ne _ _ (by omega)
          have v51 : (gs_up F16 106 17 0) 106 0 = F16 106 0 := gs_up_ne _ _ (by omega)
          generalize gs_up F16 106 17 0 = F42 at I43 f44 v45 v46 v47 v48 v49 v50 v51 ⊢
          refine sA_aload_n dd_X9_read_93 rfl (.tail _ (.tail _ (.head _))) ?_
          refine sA_geti (ci := 9) (j := 19) (q := (RX9, TX9, 28)) dd_X9_read_94 rfl (by decide) fl_X9_189 (by decide) gs_s106 rfl ?_
          have b52 : (0 : Int) ≤ F42 106 19 ∧ F42 106 19 ≤ 4 := I43.1 106 19
          refine sA_if_le (tgt := 108) dd_X9_read_97 (by decide) (by omega) (fun q53 => ?_) (fun q53 => ?_)
          · skip
            obtain ⟨hm20, hm18, st, kd, kb, hrd, hst0⟩ := rd_md_ok i5 (by omega)
            have e1718 : F1 106 18 = F 106 17 := by omega
            have hfin := rd_end0 (N := F 106 17) hrd (by omega) e1718
            rw [e1718] at hrd
            have hex : ∃ st kd kb : Int, rd (F 106 0) (A 116) (0, 0, 0, 0, 0, 0, 0, A 118, A 117) (F 106 17).toNat = (0, 0, st, kd, kb, F42 106 22, F42 106 24, A1 118, A1 117) ∧ rd_fin (rd (F 106 0) (A 116) (0, 0, 0, 0, 0, 0, 0, A 118, A 117) (F 106 17).toNat) (F 106 17) = (0, -1) := ⟨st, kd, kb, by rw [show F42 106 22 = F1 106 22 by omega, show F42 106 24 = F1 106 24 by omega]; exact hrd, hfin⟩
            refine sA_aload_n dd_X9_read_108 rfl (.tail _ (.tail _ (.head _))) ?_
            refine sA_getr (ci := 9) (j := 6) (q := (RX9, TX9, 28)) dd_X9_read_109 rfl (by decide) fl_X9_19 (by decide) gs_s106 rfl ?_
            refine sA_iload_n dd_X9_read_112 rfl (.tail _ (.tail _ (.tail _ (.head _)))) ?_
            refine sA_aload_n dd_X9_read_113 rfl (.tail _ (.tail _ (.head _))) ?_
            refine sA_geti (ci := 9) (j := 24) (q := (RX9, TX9, 28)) dd_X9_read_114 rfl (by decide) fl_X9_206 (by decide) gs_s106 rfl ?_
            have b54 : (0 : Int) ≤ F42 106 24 ∧ F42 106 24 ≤ 60 := I43.1 106 24
            refine sA_iast (n := 9) dd_X9_read_117 (by decide) gs_s110 (by omega) (by decide) ?_
            have I56 : gs_I F42 (gs_up A17 110 p.toNat (F42 106 24)) := gs_I_ast I43 (show (0 : Int) ≤ F42 106 24 ∧ F42 106 24 ≤ 60 by omega)
            have f57 := gs_fr_ast f44 (a := 110) (z := F42 106 24) (i := p.toNat) (by first | omega | (dsimp only; omega) | (dsimp only) | fail)
            have v58 : (gs_up A17 110 p.toNat (F42 106 24)) 117 0 = A17 117 0 := gs_up_ne _ _ (by omega)
            have v59 : (gs_up A17 110 p.toNat (F42 106 24)) 117 1 = A17 117 1 := gs_up_ne _ _ (by omega)
            have v60 : (gs_up A17 110 p.toNat (F42 106 24)) 117 2 = A17 117 2 := gs_up_ne _ _ (by omega)
            have v61 : (gs_up A17 110 p.toNat (F42 106 24)) 117 3 = A17 117 3 := gs_up_ne _ _ (by omega)
            have u62 : (gs_up A17 110 p.toNat (F42 106 24)) 110 = gs_u (A1 110) p.toNat (F42 106 24) := (gs_up_u A17 110 p.toNat (F42 106 24)).trans (congrArg (fun f => gs_u f p.toNat (F42 106 24)) u36)
            have u63 : (gs_up A17 110 p.toNat (F42 106 24)) 111 = A1 111 := (gs_up_row _ _ (by omega)).trans u37
            have u64 : (gs_up A17 110 p.toNat (F42 106 24)) 116 = A1 116 := (gs_up_row _ _ (by omega)).trans u38
            have u65 : (gs_up A17 110 p.toNat (F42 106 24)) 117 = A1 117 := (gs_up_row _ _ (by omega)).trans u39
            have u66 : (gs_up A17 110 p.toNat (F42 106 24)) 118 = A1 118 := (gs_up_row _ _ (by omega)).trans u40
            generalize gs_up A17 110 p.toNat (F42 106 24) = A55 at I56 f57 v58 v59 v60 v61 u62 u63 u64 u65 u66 ⊢
            refine sA_iconst (z := 0) dd_X9_read_118 ?_
            refine sA_istore (lv' := [(4, gs_iv 0), (3, gs_iv z21), (2, gs_iv c0), (0, .ref 106), (1, gs_iv p)]) dd_X9_read_119 (by decide) rfl ?_
            have b67 : (0 : Int) ≤ F42 106 18 ∧ F42 106 18 ≤ 120 := I56.1 106 18
            have b68 : (0 : Int) ≤ F42 106 17 ∧ F42 106 17 ≤ 120 := I56.1 106 17
            have b69 : (-2147483648 : Int) ≤ F42 106 20 ∧ F42 106 20 ≤ 2147483647 := I56.1 106 20
            have b70 : (0 : Int) ≤ F42 106 22 ∧ F42 106 22 ≤ 4 := I56.1 106 22
            have b71 : (1 : Int) ≤ F42 106 0 ∧ F42 106 0 ≤ 3 := I56.1 106 0
            refine sA_sub (lv2 := [(4, gs_iv 0), (0, .ref 106), (1, gs_iv p)]) (List.forall_mem_cons.mpr ⟨(.head _), (List.forall_mem_cons.mpr ⟨(.tail _ (.tail _ (.tail _ (.head _)))), (List.forall_mem_cons.mpr ⟨(.tail _ (.tail _ (.tail _ (.tail _ (.head _))))), (fun _ h => absurd h List.not_mem_nil)⟩)⟩)⟩) ?_
            exact ih.2 0 F42 A55 I56 f57 (by omega) (by omega) (by omega) (by first | (rw [u66, u65]; exact hex) | (rw [u66, u65]; exact i3) | fail) (by first | exact u62.trans i4 | (rw [u62, i9]) | fail) (by first | (intro i h1 h2; exfalso; omega) | (rw [u66]; exact gs_plan_ext (by omega) (by omega) u63 i5) | fail) (by first | (intro i h1 h2; rw [u63, gs_u_ne _ _ (by omega)]; exact i6 i h1 h2) | (intro i h1 h2; rw [u63, i10]) | fail) (by omega) (by omega)
          · skip
            refine sA_bipush (z := (-10)) dd_X9_read_100 (by decide) ?_
            refine sA_aload_n dd_X9_read_102 rfl (.tail _ (.tail _ (.head _))) ?_
            refine sA_geti (ci := 9) (j := 19) (q := (RX9, TX9, 28)) dd_X9_read_103 rfl (by decide) fl_X9_189 (by decide) gs_s106 rfl ?_
            refine sA_isub dd_X9_read_106 ?_
            refine sA_iret (z := (-10) - (F42 106 19)) dd_X9_read_107 rfl ?_
            refine ⟨_, rfl, I43, f44, ?_⟩
            refine .inr ⟨by omega, by omega, by omega, .inl ⟨by omega, ?_, u36.trans i9, u37.trans i10⟩⟩
            by_cases h19 : F1 106 19 = 0
            · obtain ⟨hm20, hm18, st, kd, kb, hrd, hst0⟩ := rd_md_ok i5 h19
              have hfin := rd_end (N := F 106 17) hrd (by omega) (by omega)
              rw [hfin, show -10 - (-10 - F42 106 19) = 1 by omega, show F42 106 20 = F 106 17 by omega]
            · have hfin := rd_md_bad i5 h19
              rw [show F1 106 17 = F 106 17 by omega] at hfin
              rw [hfin, show -10 - (-10 - F42 106 19) = F1 106 19 by omega, show F42 106 20 = F1 106 20 by omega]
        · skip
          refine sA_iconst (z := 1) dd_X9_read_74 ?_
          refine sA_goto (tgt := 79) dd_X9_read_75 (by decide) ?_
          refine sA_iconst (z := 1) dd_X9_read_79 ?_
          refine sA_aload_n dd_X9_read_80 rfl (.tail _ (.head _)) ?_
          refine sA_geti (ci := 9) (j := 17) (q := (RX9, TX9, 28)) dd_X9_read_81 rfl (by decide) fl_X9_181 (by decide) gs_s106 rfl ?_
          refine sA_callV (y2 := m_X9_want) (n2 := 3) (d2 := 1) (a := 106) (ci := 9) (q := (RX9, TX9, 28)) (as := [gs_iv 1, gs_iv 1, gs_iv (F1 106 17)]) (rest := []) dd_X9_read_84 ok_X9_want ml_X9_199 rfl rfl (by decide) gs_s106 rfl rfl (Nat.le_of_ble_eq_true rfl) (by decide) (c_X9_want_vf hI1 (by omega) (by omega) (by omega)) (fun r72 F73 A74 h75 => ?_)
          obtain ⟨z78, e77, I79, f80, x76⟩ := h75
          subst e77
          have v81 : F73 106 18 = F1 106 18 := f80.1 106 18 (by first | exact id | omega | (dsimp only; omega) | (dsimp only) | fail)
          have v82 : F73 106 17 = F1 106 17 := f80.1 106 17 (by first | exact id | omega | (dsimp only; omega) | (dsimp only) | fail)
          have v85 : F73 106 24 = F1 106 24 := f80.1 106 24 (by first | exact id | omega | (dsimp only; omega) | (dsimp only) | fail)
          have v86 : F73 106 22 = F1 106 22 := f80.1 106 22 (by first | exact id | omega | (dsimp only; omega) | (dsimp only) | fail)
          have v87 : F73 106 0 = F1 106 0 := f80.1 106 0 (by first | exact id | omega | (dsimp only; omega) | (dsimp only) | fail)
          have v88 : A74 117 0 = A1 117 0 := congrFun (f80.2 117 (by first | exact id | omega | (dsimp only; omega) | (dsimp only) | fail)) _
          have v89 : A74 117 1 = A1 117 1 := congrFun (f80.2 117 (by first | exact id | omega | (dsimp only; omega) | (dsimp only) | fail)) _
          have v90 : A74 117 2 = A1 117 2 := congrFun (f80.2 117 (by first | exact id | omega | (dsimp only; omega) | (dsimp only) | fail)) _
          have v91 : A74 117 3 = A1 117 3 := congrFun (f80.2 117 (by first | exact id | omega | (dsimp only; omega) | (dsimp only) | fail)) _
          have f92 := gs_fr_tr hf1 f80 (fun b j h => by first | exact False.elim h | omega | (dsimp only at h ⊢; omega) | fail) (fun b h => by first | exact False.elim h | omega | (dsimp only at h ⊢; omega) | fail)
          have u93 : A74 110 = A1 110 := (f80.2 110 (by first | exact id | omega | (dsimp only; omega) | (dsimp only) | fail)).trans u8
          have u94 : A74 111 = A1 111 := (f80.2 111 (by first | exact id | omega | (dsimp only; omega) | (dsimp only) | fail)).trans u9
          have u95 : A74 116 = A1 116 := (f80.2 116 (by first | exact id | omega | (dsimp only; omega) | (dsimp only) | fail)).trans u10
          have u96 : A74 117 = A1 117 := (f80.2 117 (by first | exact id | omega | (dsimp only; omega) | (dsimp only) | fail)).trans u11
          have u97 : A74 118 = A1 118 := (f80.2 118 (by first | exact id | omega | (dsimp only; omega) | (dsimp only) | fail)).trans u12
          have y98 : (F1 106 19 = 0 ∧ (1 : Int) = 0 ∧ z78 = 0 ∧ F73 106 19 = (1 : Int) ∧ F73 106 20 = (F1 106 17)) ∨ (F1 106 19 = 0 ∧ (1 : Int) = 1 ∧ z78 = 1 ∧ F73 106 19 = 0 ∧ F73 106 20 = F1 106 20) ∨ (F1 106 19 ≠ 0 ∧ z78 = 0 ∧ F73 106 19 = F1 106 19 ∧ F73 106 20 = F1 106 20) := x76
          clear x76
          show sA _ _ _ 87 _ [gs_iv z78] _ _
          refine sA_istore_n (lv' := [(3, gs_iv z78), (2, gs_iv c0), (0, .ref 106), (1, gs_iv p)]) dd_X9_read_87 rfl (by decide) rfl ?_
          refine sA_aload_n dd_X9_read_88 rfl (.tail _ (.tail _ (.head _))) ?_
          refine sA_iconst (z := 0) dd_X9_read_89 ?_
          refine sA_put (ci := 9) (j := 17) (q := (RX9, TX9, 28)) (ty := .int) dd_X9_read_90 rfl (by decide) fl_X9_181 rfl (tyX9_ok 17 (by decide)) rfl rfl (by decide) gs_s106 rfl ?_
          have I100 : gs_I (gs_up F73 106 17 0) A74 := gs_I_put I79 (show (0 : Int) ≤ 0 ∧ 0 ≤ 120 by omega)
          have f101 := gs_fr_put f92 (a := 106) (z := 0) (j := 17) (by first | omega | (dsimp only; omega) | (dsimp only) | fail)
          have v102 : gs_up F73 106 17 0 106 17 = 0 := gs_up_self _ _ _ _
          have v103 : (gs_up F73 106 17 0) 106 18 = F73 106 18 := gs_up_ne _ _ (by omega)
          have v104 : (gs_up F73 106 17 0) 106 19 = F73 106 19 := gs_up_ne _ _ (by omega)
          have v105 : (gs_up F73 106 17 0) 106 20 = F73 106 20 := gs_up_ne _ _ (by omega)
          have v106 : (gs_up F73 106 17 0) 106 24 = F73 106 24 := gs_up_ne _ _ (by omega)
          have v107 : (gs_up F73 106 17 0) 106 22 = F73 106 22 := gs_up_ne _ _ (by omega)
          have v108 : (gs_up F73 106 17 0) 106 0 = F73 106 0 := gs_up_ne _ _ (by omega)
          generalize gs_up F73 106 17 0 = F99 at I100 f101 v102 v103 v104 v105 v106 v107 v108 ⊢
          refine sA_aload_n dd_X9_read_93 rfl (.tail _ (.tail _ (.head _))) ?_
          refine sA_geti (ci := 9) (j := 19) (q := (RX9, TX9, 28)) dd_X9_read_94 rfl (by decide) fl_X9_189 (by decide) gs_s106 rfl ?_
          have b109 : (0 : Int) ≤ F99 106 19 ∧ F99 106 19 ≤ 4 := I100.1 106 19
          refine sA_if_le (tgt := 108) dd_X9_read_97 (by decide) (by omega) (fun q110 => ?_) (fun q110 => ?_)
          · skip
            obtain ⟨hm20, hm18, st, kd, kb, hrd, hst0⟩ := rd_md_ok i5 (by omega)
            have e1718 : F1 106 18 = F 106 17 := by omega
            have hfin := rd_end0 (N := F 106 17) hrd (by omega) e1718
            rw [e1718] at hrd
            have hex : ∃ st kd kb : Int, rd (F 106 0) (A 116) (0, 0, 0, 0, 0, 0, 0, A 118, A 117) (F 106 17).toNat = (0, 0, st, kd, kb, F99 106 22, F99 106 24, A1 118, A1 117) ∧ rd_fin (rd (F 106 0) (A 116) (0, 0, 0, 0, 0, 0, 0, A 118, A 117) (F 106 17).toNat) (F 106 17) = (0, -1) := ⟨st, kd, kb, by rw [show F99 106 22 = F1 106 22 by omega, show F99 106 24 = F1 106 24 by omega]; exact hrd, hfin⟩
            refine sA_aload_n dd_X9_read_108 rfl (.tail _ (.tail _ (.head _))) ?_
            refine sA_getr (ci := 9) (j := 6) (q := (RX9, TX9, 28)) dd_X9_read_109 rfl (by decide) fl_X9_19 (by decide) gs_s106 rfl ?_
            refine sA_iload_n dd_X9_read_112 rfl (.tail _ (.tail _ (.tail _ (.head _)))) ?_
            refine sA_aload_n dd_X9_read_113 rfl (.tail _ (.tail _ (.head _))) ?_
            refine sA_geti (ci := 9) (j := 24) (q := (RX9, TX9, 28)) dd_X9_read_114 rfl (by decide) fl_X9_206 (by decide) gs_s106 rfl ?_
            have b111 : (0 : Int) ≤ F99 106 24 ∧ F99 106 24 ≤ 60 := I100.1 106 24
            refine sA_iast (n := 9) dd_X9_read_117 (by decide) gs_s110 (by omega) (by decide) ?_
            have I113 : gs_I F99 (gs_up A74 110 p.toNat (F99 106 24)) := gs_I_ast I100 (show (0 : Int) ≤ F99 106 24 ∧ F99 106 24 ≤ 60 by omega)
            have f114 := gs_fr_ast f101 (a := 110) (z := F99 106 24) (i := p.toNat) (by first | omega | (dsimp only; omega) | (dsimp only) | fail)
            have v115 : (gs_up A74 110 p.toNat (F99 106 24)) 117 0 = A74 117 0 := gs_up_ne _ _ (by omega)
            have v116 : (gs_up A74 110 p.toNat (F99 106 24)) 117 1 = A74 117 1 := gs_up_ne _ _ (by omega)
            have v117 : (gs_up A74 110 p.toNat (F99 106 24)) 117 2 = A74 117 2 := gs_up_ne _ _ (by omega)
            have v118 : (gs_up A74 110 p.toNat (F99 106 24)) 117 3 = A74 117 3 := gs_up_ne _ _ (by omega)
            have u119 : (gs_up A74 110 p.toNat (F99 106 24)) 110 = gs_u (A1 110) p.toNat (F99 106 24) := (gs_up_u A74 110 p.toNat (F99 106 24)).trans (congrArg (fun f => gs_u f p.toNat (F99 106 24)) u93)
            have u120 : (gs_up A74 110 p.toNat (F99 106 24)) 111 = A1 111 := (gs_up_row _ _ (by omega)).trans u94
            have u121 : (gs_up A74 110 p.toNat (F99 106 24)) 116 = A1 116 := (gs_up_row _ _ (by omega)).trans u95
            have u122 : (gs_up A74 110 p.toNat (F99 106 24)) 117 = A1 117 := (gs_up_row _ _ (by omega)).trans u96
            have u123 : (gs_up A74 110 p.toNat (F99 106 24)) 118 = A1 118 := (gs_up_row _ _ (by omega)).trans u97
            generalize gs_up A74 110 p.toNat (F99 106 24) = A112 at I113 f114 v115 v116 v117 v118 u119 u120 u121 u122 u123 ⊢
            refine sA_iconst (z := 0) dd_X9_read_118 ?_
            refine sA_istore (lv' := [(4, gs_iv 0), (3, gs_iv z78), (2, gs_iv c0), (0, .ref 106), (1, gs_iv p)]) dd_X9_read_119 (by decide) rfl ?_
            have b124 : (0 : Int) ≤ F99 106 18 ∧ F99 106 18 ≤ 120 := I113.1 106 18
            have b125 : (0 : Int) ≤ F99 106 17 ∧ F99 106 17 ≤ 120 := I113.1 106 17
            have b126 : (-2147483648 : Int) ≤ F99 106 20 ∧ F99 106 20 ≤ 2147483647 := I113.1 106 20
            have b127 : (0 : Int) ≤ F99 106 22 ∧ F99 106 22 ≤ 4 := I113.1 106 22
            have b128 : (1 : Int) ≤ F99 106 0 ∧ F99 106 0 ≤ 3 := I113.1 106 0
            refine sA_sub (lv2 := [(4, gs_iv 0), (0, .ref 106), (1, gs_iv p)]) (List.forall_mem_cons.mpr ⟨(.head _), (List.forall_mem_cons.mpr ⟨(.tail _ (.tail _ (.tail _ (.head _)))), (List.forall_mem_cons.mpr ⟨(.tail _ (.tail _ (.tail _ (.tail _ (.head _))))), (fun _ h => absurd h List.not_mem_nil)⟩)⟩)⟩) ?_
            exact ih.2 0 F99 A112 I113 f114 (by omega) (by omega) (by omega) (by first | (rw [u123, u122]; exact hex) | (rw [u123, u122]; exact i3) | fail) (by first | exact u119.trans i4 | (rw [u119, i9]) | fail) (by first | (intro i h1 h2; exfalso; omega) | (rw [u123]; exact gs_plan_ext (by omega) (by omega) u120 i5) | fail) (by first | (intro i h1 h2; rw [u120, gs_u_ne _ _ (by omega)]; exact i6 i h1 h2) | (intro i h1 h2; rw [u120, i10]) | fail) (by omega) (by omega)
          · skip
            refine sA_bipush (z := (-10)) dd_X9_read_100 (by decide) ?_
            refine sA_aload_n dd_X9_read_102 rfl (.tail _ (.tail _ (.head _))) ?_
            refine sA_geti (ci := 9) (j := 19) (q := (RX9, TX9, 28)) dd_X9_read_103 rfl (by decide) fl_X9_189 (by decide) gs_s106 rfl ?_
            refine sA_isub dd_X9_read_106 ?_
            refine sA_iret (z := (-10) - (F99 106 19)) dd_X9_read_107 rfl ?_
            refine ⟨_, rfl, I100, f101, ?_⟩
            refine .inr ⟨by omega, by omega, by omega, .inl ⟨by omega, ?_, u93.trans i9, u94.trans i10⟩⟩
            by_cases h19 : F1 106 19 = 0
            · obtain ⟨hm20, hm18, st, kd, kb, hrd, hst0⟩ := rd_md_ok i5 h19
              have hfin := rd_end (N := F 106 17) hrd (by omega) (by omega)
              rw [hfin, show -10 - (-10 - F99 106 19) = 1 by omega, show F99 106 20 = F 106 17 by omega]
            · have hfin := rd_md_bad i5 h19
              rw [show F1 106 17 = F 106 17 by omega] at hfin
              rw [hfin, show -10 - (-10 - F99 106 19) = F1 106 19 by omega, show F99 106 20 = F1 106 20 by omega]
      · skip
        refine sA_iload_n dd_X9_read_49 rfl (.head _) ?_
        refine sA_if_lt (tgt := 66) dd_X9_read_50 (by decide) (by omega) (fun q129 => ?_) (fun q129 => ?_)
        · skip
          refine sA_aload_n dd_X9_read_66 rfl (.tail _ (.head _)) ?_
          refine sA_aload_n dd_X9_read_67 rfl (.tail _ (.head _)) ?_
          refine sA_geti (ci := 9) (j := 22) (q := (RX9, TX9, 28)) dd_X9_read_68 rfl (by decide) fl_X9_209 (by decide) gs_s106 rfl ?_
          refine sA_if_ne (tgt := 78) dd_X9_read_71 (by decide) (by omega) (fun q130 => ?_) (fun q130 => ?_)
          · skip
            refine sA_iconst (z := 0) dd_X9_read_78 ?_
            refine sA_iconst (z := 1) dd_X9_read_79 ?_
            refine sA_aload_n dd_X9_read_80 rfl (.tail _ (.head _)) ?_
            refine sA_geti (ci := 9) (j := 17) (q := (RX9, TX9, 28)) dd_X9_read_81 rfl (by decide) fl_X9_181 (by decide) gs_s106 rfl ?_
            refine sA_callV (y2 := m_X9_want) (n2 := 3) (d2 := 1) (a := 106) (ci := 9) (q := (RX9, TX9, 28)) (as := [gs_iv 0, gs_iv 1, gs_iv (F1 106 17)]) (rest := []) dd_X9_read_84 ok_X9_want ml_X9_199 rfl rfl (by decide) gs_s106 rfl rfl (Nat.le_of_ble_eq_true rfl) (by decide) (c_X9_want_vf hI1 (by omega) (by omega) (by omega)) (fun r131 F132 A133 h134 => ?_)
            obtain ⟨z137, e136, I138, f139, x135⟩ := h134
            subst e136
            have v140 : F132 106 18 = F1 106 18 := f139.1 106 18 (by first | exact id | omega | (dsimp only; omega) | (dsimp only) | fail)
            have v141 : F132 106 17 = F1 106 17 := f139.1 106 17 (by first | exact id | omega | (dsimp only; omega) | (dsimp only) | fail)
            have v144 : F132 106 24 = F1 106 24 := f139.1 106 24 (by first | exact id | omega | (dsimp only; omega) | (dsimp only) | fail)
            have v145 : F132 106 22 = F1 106 22 := f139.1 106 22 (by first | exact id | omega | (dsimp only; omega) | (dsimp only) | fail)
            have v146 : F132 106 0 = F1 106 0 := f139.1 106 0 (by first | exact id | omega | (dsimp only; omega) | (dsimp only) | fail)
            have v147 : A133 117 0 = A1 117 0 := congrFun (f139.2 117 (by first | exact id | omega | (dsimp only; omega) | (dsimp only) | fail)) _
            have v148 : A133 117 1 = A1 117 1 := congrFun (f139.2 117 (by first | exact id | omega | (dsimp only; omega) | (dsimp only) | fail)) _
            have v149 : A133 117 2 = A1 117 2 := congrFun (f139.2 117 (by first | exact id | omega | (dsimp only; omega) | (dsimp only) | fail)) _
            have v150 : A133 117 3 = A1 117 3 := congrFun (f139.2 117 (by first | exact id | omega | (dsimp only; omega) | (dsimp only) | fail)) _
            have f151 := gs_fr_tr hf1 f139 (fun b j h => by first | exact False.elim h | omega | (dsimp only at h ⊢; omega) | fail) (fun b h => by first | exact False.elim h | omega | (dsimp only at h ⊢; omega) | fail)
            have u152 : A133 110 = A1 110 := (f139.2 110 (by first | exact id | omega | (dsimp only; omega) | (dsimp only) | fail)).trans u8
            have u153 : A133 111 = A1 111 := (f139.2 111 (by first | exact id | omega | (dsimp only; omega) | (dsimp only) | fail)).trans u9
            have u154 : A133 116 = A1 116 := (f139.2 116 (by first | exact id | omega | (dsimp only; omega) | (dsimp only) | fail)).trans u10
            have u155 : A133 117 = A1 117 := (f139.2 117 (by first | exact id | omega | (dsimp only; omega) | (dsimp only) | fail)).trans u11
            have u156 : A133 118 = A1 118 := (f139.2 118 (by first | exact id | omega | (dsimp only; omega) | (dsimp only) | fail)).trans u12
            have y157 : (F1 106 19 = 0 ∧ (0 : Int) = 0 ∧ z137 = 0 ∧ F132 106 19 = (1 : Int) ∧ F132 106 20 = (F1 106 17)) ∨ (F1 106 19 = 0 ∧ (0 : Int) = 1 ∧ z137 = 1 ∧ F132 106 19 = 0 ∧ F132 106 20 = F1 106 20) ∨ (F1 106 19 ≠ 0 ∧ z137 = 0 ∧ F132 106 19 = F1 106 19 ∧ F132 106 20 = F1 106 20) := x135
            clear x135
            show sA _ _ _ 87 _ [gs_iv z137] _ _
            refine sA_istore_n (lv' := [(3, gs_iv z137), (2, gs_iv c0), (0, .ref 106), (1, gs_iv p)]) dd_X9_read_87 rfl (by decide) rfl ?_
            refine sA_aload_n dd_X9_read_88 rfl (.tail _ (.tail _ (.head _))) ?_
            refine sA_iconst (z := 0) dd_X9_read_89 ?_
            refine sA_put (ci := 9) (j := 17) (q := (RX9, TX9, 28)) (ty := .int) dd_X9_read_90 rfl (by decide) fl_X9_181 rfl (tyX9_ok 17 (by decide)) rfl rfl (by decide) gs_s106 rfl ?_
            have I159 : gs_I (gs_up F132 106 17 0) A133 := gs_I_put I138 (show (0 : Int) ≤ 0 ∧ 0 ≤ 120 by omega)
            have f160 := gs_fr_put f151 (a := 106) (z := 0) (j := 17) (by first | omega | (dsimp only; omega) | (dsimp only) | fail)
            have v161 : gs_up F132 106 17 0 106 17 = 0 := gs_up_self _ _ _ _
            have v162 : (gs_up F132 106 17 0) 106 18 = F132 106 18 := gs_up_ne _ _ (by omega)
            have v163 : (gs_up F132 106 17 0) 106 19 = F132 106 19 := gs_up_ne _ _ (by omega)
            have v164 : (gs_up F132 106 17 0) 106 20 = F132 106 20 := gs_up_ne _ _ (by omega)
            have v165 : (gs_up F132 106 17 0) 106 24 = F132 106 24 := gs_up_ne _ _ (by omega)
            have v166 : (gs_up F132 106 17 0) 106 22 = F132 106 22 := gs_up_ne _ _ (by omega)
            have v167 : (gs_up F132 106 17 0) 106 0 = F132 106 0 := gs_up_ne _ _ (by omega)
            generalize gs_up F132 106 17 0 = F158 at I159 f160 v161 v162 v163 v164 v165 v166 v167 ⊢
            refine sA_aload_n dd_X9_read_93 rfl (.tail _ (.tail _ (.head _))) ?_
            refine sA_geti (ci := 9) (j := 19) (q := (RX9, TX9, 28)) dd_X9_read_94 rfl (by decide) fl_X9_189 (by decide) gs_s106 rfl ?_
            have b168 : (0 : Int) ≤ F158 106 19 ∧ F158 106 19 ≤ 4 := I159.1 106 19
            refine sA_if_le (tgt := 108) dd_X9_read_97 (by decide) (by omega) (fun q169 => ?_) (fun q169 => ?_)
            · skip
              obtain ⟨hm20, hm18, st, kd, kb, hrd, hst0⟩ := rd_md_ok i5 (by omega)
              have e1718 : F1 106 18 = F 106 17 := by omega
              have hfin := rd_end0 (N := F 106 17) hrd (by omega) e1718
              rw [e1718] at hrd
              have hex : ∃ st kd kb : Int, rd (F 106 0) (A 116) (0, 0, 0, 0, 0, 0, 0, A 118, A 117) (F 106 17).toNat = (0, 0, st, kd, kb, F158 106 22, F158 106 24, A1 118, A1 117) ∧ rd_fin (rd (F 106 0) (A 116) (0, 0, 0, 0, 0, 0, 0, A 118, A 117) (F 106 17).toNat) (F 106 17) = (0, -1) := ⟨st, kd, kb, by rw [show F158 106 22 = F1 106 22 by omega, show F158 106 24 = F1 106 24 by omega]; exact hrd, hfin⟩
              refine sA_aload_n dd_X9_read_108 rfl (.tail _ (.tail _ (.head _))) ?_
              refine sA_getr (ci := 9) (j := 6) (q := (RX9, TX9, 28)) dd_X9_read_109 rfl (by decide) fl_X9_19 (by decide) gs_s106 rfl ?_
              refine sA_iload_n dd_X9_read_112 rfl (.tail _ (.tail _ (.tail _ (.head _)))) ?_
              refine sA_aload_n dd_X9_read_113 rfl (.tail _ (.tail _ (.head _))) ?_
              refine sA_geti (ci := 9) (j := 24) (q := (RX9, TX9, 28)) dd_X9_read_114 rfl (by decide) fl_X9_206 (by decide) gs_s106 rfl ?_
              have b170 : (0 : Int) ≤ F158 106 24 ∧ F158 106 24 ≤ 60 := I159.1 106 24
              refine sA_iast (n := 9) dd_X9_read_117 (by decide) gs_s110 (by omega) (by decide) ?_
              have I172 : gs_I F158 (gs_up A133 110 p.toNat (F158 106 24)) := gs_I_ast I159 (show (0 : Int) ≤ F158 106 24 ∧ F158 106 24 ≤ 60 by omega)
              have f173 := gs_fr_ast f160 (a := 110) (z := F158 106 24) (i := p.toNat) (by first | omega | (dsimp only; omega) | (dsimp only) | fail)
              have v174 : (gs_up A133 110 p.toNat (F158 106 24)) 117 0 = A133 117 0 := gs_up_ne _ _ (by omega)
              have v175 : (gs_up A133 110 p.toNat (F158 106 24)) 117 1 = A133 117 1 := gs_up_ne _ _ (by omega)
              have v176 : (gs_up A133 110 p.toNat (F158 106 24)) 117 2 = A133 117 2 := gs_up_ne _ _ (by omega)
              have v177 : (gs_up A133 110 p.toNat (F158 106 24)) 117 3 = A133 117 3 := gs_up_ne _ _ (by omega)
              have u178 : (gs_up A133 110 p.toNat (F158 106 24)) 110 = gs_u (A1 110) p.toNat (F158 106 24) := (gs_up_u A133 110 p.toNat (F158 106 24)).trans (congrArg (fun f => gs_u f p.toNat (F158 106 24)) u152)
              have u179 : (gs_up A133 110 p.toNat (F158 106 24)) 111 = A1 111 := (gs_up_row _ _ (by omega)).trans u153
              have u180 : (gs_up A133 110 p.toNat (F158 106 24)) 116 = A1 116 := (gs_up_row _ _ (by omega)).trans u154
              have u181 : (gs_up A133 110 p.toNat (F158 106 24)) 117 = A1 117 := (gs_up_row _ _ (by omega)).trans u155
              have u182 : (gs_up A133 110 p.toNat (F158 106 24)) 118 = A1 118 := (gs_up_row _ _ (by omega)).trans u156
              generalize gs_up A133 110 p.toNat (F158 106 24) = A171 at I172 f173 v174 v175 v176 v177 u178 u179 u180 u181 u182 ⊢
              refine sA_iconst (z := 0) dd_X9_read_118 ?_
              refine sA_istore (lv' := [(4, gs_iv 0), (3, gs_iv z137), (2, gs_iv c0), (0, .ref 106), (1, gs_iv p)]) dd_X9_read_119 (by decide) rfl ?_
              have b183 : (0 : Int) ≤ F158 106 18 ∧ F158 106 18 ≤ 120 := I172.1 106 18
              have b184 : (0 : Int) ≤ F158 106 17 ∧ F158 106 17 ≤ 120 := I172.1 106 17
              have b185 : (-2147483648 : Int) ≤ F158 106 20 ∧ F158 106 20 ≤ 2147483647 := I172.1 106 20
              have b186 : (0 : Int) ≤ F158 106 22 ∧ F158 106 22 ≤ 4 := I172.1 106 22
              have b187 : (1 : Int) ≤ F158 106 0 ∧ F158 106 0 ≤ 3 := I172.1 106 0
              refine sA_sub (lv2 := [(4, gs_iv 0), (0, .ref 106), (1, gs_iv p)]) (List.forall_mem_cons.mpr ⟨(.head _), (List.forall_mem_cons.mpr ⟨(.tail _ (.tail _ (.tail _ (.head _)))), (List.forall_mem_cons.mpr ⟨(.tail _ (.tail _ (.tail _ (.tail _ (.head _))))), (fun _ h => absurd h List.not_mem_nil)⟩)⟩)⟩) ?_
              exact ih.2 0 F158 A171 I172 f173 (by omega) (by omega) (by omega) (by first | (rw [u182, u181]; exact hex) | (rw [u182, u181]; exact i3) | fail) (by first | exact u178.trans i4 | (rw [u178, i9]) | fail) (by first | (intro i h1 h2; exfalso; omega) | (rw [u182]; exact gs_plan_ext (by omega) (by omega) u179 i5) | fail) (by first | (intro i h1 h2; rw [u179, gs_u_ne _ _ (by omega)]; exact i6 i h1 h2) | (intro i h1 h2; rw [u179, i10]) | fail) (by omega) (by omega)
            · skip
              refine sA_bipush (z := (-10)) dd_X9_read_100 (by decide) ?_
              refine sA_aload_n dd_X9_read_102 rfl (.tail _ (.tail _ (.head _))) ?_
              refine sA_geti (ci := 9) (j := 19) (q := (RX9, TX9, 28)) dd_X9_read_103 rfl (by decide) fl_X9_189 (by decide) gs_s106 rfl ?_
              refine sA_isub dd_X9_read_106 ?_
              refine sA_iret (z := (-10) - (F158 106 19)) dd_X9_read_107 rfl ?_
              refine ⟨_, rfl, I159, f160, ?_⟩
              refine .inr ⟨by omega, by omega, by omega, .inl ⟨by omega, ?_, u152.trans i9, u153.trans i10⟩⟩
              by_cases h19 : F1 106 19 = 0
              · obtain ⟨hm20, hm18, st, kd, kb, hrd, hst0⟩ := rd_md_ok i5 h19
                have hfin := rd_end (N := F 106 17) hrd (by omega) (by omega)
                rw [hfin, show -10 - (-10 - F158 106 19) = 1 by omega, show F158 106 20 = F 106 17 by omega]
              · have hfin := rd_md_bad i5 h19
                rw [show F1 106 17 = F 106 17 by omega] at hfin
                rw [hfin, show -10 - (-10 - F158 106 19) = F1 106 19 by omega, show F158 106 20 = F1 106 20 by omega]
          · skip
            refine sA_iconst (z := 1) dd_X9_read_74 ?_
            refine sA_goto (tgt := 79) dd_X9_read_75 (by decide) ?_
            refine sA_iconst (z := 1) dd_X9_read_79 ?_
            refine sA_aload_n dd_X9_read_80 rfl (.tail _ (.head _)) ?_
            refine sA_geti (ci := 9) (j := 17) (q := (RX9, TX9, 28)) dd_X9_read_81 rfl (by decide) fl_X9_181 (by decide) gs_s106 rfl ?_
            refine sA_callV (y2 := m_X9_want) (n2 := 3) (d2 := 1) (a := 106) (ci := 9) (q := (RX9, TX9, 28)) (as := [gs_iv 1, gs_iv 1, gs_iv (F1 106 17)]) (rest := []) dd_X9_read_84 ok_X9_want ml_X9_199 rfl rfl (by decide) gs_s106 rfl rfl (Nat.le_of_ble_eq_true rfl) (by decide) (c_X9_want_vf hI1 (by omega) (by omega) (by omega)) (fun r188 F189 A190 h191 => ?_)
            obtain ⟨z194, e193, I195, f196, x192⟩ := h191
            subst e193
            have v197 : F189 106 18 = F1 106 18 := f196.1 106 18 (by first | exact id | omega | (dsimp only; omega) | (dsimp only) | fail)
            have v198 : F189 106 17 = F1 106 17 := f196.1 106 17 (by first | exact id | omega | (dsimp only; omega) | (dsimp only) | fail)
            have v201 : F189 106 24 = F1 106 24 := f196.1 106 24 (by first | exact id | omega | (dsimp only; omega) | (dsimp only) | fail)
            have v202 : F189 106 22 = F1 106 22 := f196.1 106 22 (by first | exact id | omega | (dsimp only; omega) | (dsimp only) | fail)
            have v203 : F189 106 0 = F1 106 0 := f196.1 106 0 (by first | exact id | omega | (dsimp only; omega) | (dsimp only) | fail)
            have v204 : A190 117 0 = A1 117 0 := congrFun (f196.2 117 (by first | exact id | omega | (dsimp only; omega) | (dsimp only) | fail)) _
            have v205 : A190 117 1 = A1 117 1 := congrFun (f196.2 117 (by first | exact id | omega | (dsimp only; omega) | (dsimp only) | fail)) _
            have v206 : A190 117 2 = A1 117 2 := congrFun (f196.2 117 (by first | exact id | omega | (dsimp only; omega) | (dsimp only) | fail)) _
            have v207 : A190 117 3 = A1 117 3 := congrFun (f196.2 117 (by first | exact id | omega | (dsimp only; omega) | (dsimp only) | fail)) _
            have f208 := gs_fr_tr hf1 f196 (fun b j h => by first | exact False.elim h | omega | (dsimp only at h ⊢; omega) | fail) (fun b h => by first | exact False.elim h | omega | (dsimp only at h ⊢; omega) | fail)
            have u209 : A190 110 = A1 110 := (f196.2 110 (by first | exact id | omega | (dsimp only; omega) | (dsimp only) | fail)).trans u8
            have u210 : A190 111 = A1 111 := (f196.2 111 (by first | exact id | omega | (dsimp only; omega) | (dsimp only) | fail)).trans u9
            have u211 : A190 116 = A1 116 := (f196.2 116 (by first | exact id | omega | (dsimp only; omega) | (dsimp only) | fail)).trans u10
            have u212 : A190 117 = A1 117 := (f196.2 117 (by first | exact id | omega | (dsimp only; omega) | (dsimp only) | fail)).trans u11
            have u213 : A190 118 = A1 118 := (f196.2 118 (by first | exact id | omega | (dsimp only; omega) | (dsimp only) | fail)).trans u12
            have y214 : (F1 106 19 = 0 ∧ (1 : Int) = 0 ∧ z194 = 0 ∧ F189 106 19 = (1 : Int) ∧ F189 106 20 = (F1 106 17)) ∨ (F1 106 19 = 0 ∧ (1 : Int) = 1 ∧ z194 = 1 ∧ F189 106 19 = 0 ∧ F189 106 20 = F1 106 20) ∨ (F1 106 19 ≠ 0 ∧ z194 = 0 ∧ F189 106 19 = F1 106 19 ∧ F189 106 20 = F1 106 20) := x192
            clear x192
            show sA _ _ _ 87 _ [gs_iv z194] _ _
            refine sA_istore_n (lv' := [(3, gs_iv z194), (2, gs_iv c0), (0, .ref 106), (1, gs_iv p)]) dd_X9_read_87 rfl (by decide) rfl ?_
            refine sA_aload_n dd_X9_read_88 rfl (.tail _ (.tail _ (.head _))) ?_
            refine sA_iconst (z := 0) dd_X9_read_89 ?_
            refine sA_put (ci := 9) (j := 17) (q := (RX9, TX9, 28)) (ty := .int) dd_X9_read_90 rfl (by decide) fl_X9_181 rfl (tyX9_ok 17 (by decide)) rfl rfl (by decide) gs_s106 rfl ?_
            have I216 : gs_I (gs_up F189 106 17 0) A190 := gs_I_put I195 (show (0 : Int) ≤ 0 ∧ 0 ≤ 120 by omega)
            have f217 := gs_fr_put f208 (a := 106) (z := 0) (j := 17) (by first | omega | (dsimp only; omega) | (dsimp only) | fail)
            have v218 : gs_up F189 106 17 0 106 17 = 0 := gs_up_self _ _ _ _
            have v219 : (gs_up F189 106 17 0) 106 18 = F189 106 18 := gs_up_ne _ _ (by omega)
            have v220 : (gs_up F189 106 17 0) 106 19 = F189 106 19 := gs_up_ne _ _ (by omega)
            have v221 : (gs_up F189 106 17 0) 106 20 = F189 106 20 := gs_up_ne _ _ (by omega)
            have v222 : (gs_up F189 106 17 0) 106 24 = F189 106 24 := gs_up_ne _ _ (by omega)
            have v223 : (gs_up F189 106 17 0) 106 22 = F189 106 22 := gs_up_ne _ _ (by omega)
            have v224 : (gs_up F189 106 17 0) 106 0 = F189 106 0 := gs_up_ne _ _ (by omega)
            generalize gs_up F189 106 17 0 = F215 at I216 f217 v218 v219 v220 v221 v222 v223 v224 ⊢
            refine sA_aload_n dd_X9_read_93 rfl (.tail _ (.tail _ (.head _))) ?_
            refine sA_geti (ci := 9) (j := 19) (q := (RX9, TX9, 28)) dd_X9_read_94 rfl (by decide) fl_X9_189 (by decide) gs_s106 rfl ?_
            have b225 : (0 : Int) ≤ F215 106 19 ∧ F215 106 19 ≤ 4 := I216.1 106 19
            refine sA_if_le (tgt := 108) dd_X9_read_97 (by decide) (by omega) (fun q226 => ?_) (fun q226 => ?_)
            · skip
              obtain ⟨hm20, hm18, st, kd, kb, hrd, hst0⟩ := rd_md_ok i5 (by omega)
              have e1718 : F1 106 18 = F 106 17 := by omega
              have hfin := rd_end0 (N := F 106 17) hrd (by omega) e1718
              rw [e1718] at hrd
              have hex : ∃ st kd kb : Int, rd (F 106 0) (A 116) (0, 0, 0, 0, 0, 0, 0, A 118, A 117) (F 106 17).toNat = (0, 0, st, kd, kb, F215 106 22, F215 106 24, A1 118, A1 117) ∧ rd_fin (rd (F 106 0) (A 116) (0, 0, 0, 0, 0, 0, 0, A 118, A 117) (F 106 17).toNat) (F 106 17) = (0, -1) := ⟨st, kd, kb, by rw [show F215 106 22 = F1 106 22 by omega, show F215 106 24 = F1 106 24 by omega]; exact hrd, hfin⟩
              refine sA_aload_n dd_X9_read_108 rfl (.tail _ (.tail _ (.head _))) ?_
              refine sA_getr (ci := 9) (j := 6) (q := (RX9, TX9, 28)) dd_X9_read_109 rfl (by decide) fl_X9_19 (by decide) gs_s106 rfl ?_
              refine sA_iload_n dd_X9_read_112 rfl (.tail _ (.tail _ (.tail _ (.head _)))) ?_
              refine sA_aload_n dd_X9_read_113 rfl (.tail _ (.tail _ (.head _))) ?_
              refine sA_geti (ci := 9) (j := 24) (q := (RX9, TX9, 28)) dd_X9_read_114 rfl (by decide) fl_X9_206 (by decide) gs_s106 rfl ?_
              have b227 : (0 : Int) ≤ F215 106 24 ∧ F215 106 24 ≤ 60 := I216.1 106 24
              refine sA_iast (n := 9) dd_X9_read_117 (by decide) gs_s110 (by omega) (by decide) ?_
              have I229 : gs_I F215 (gs_up A190 110 p.toNat (F215 106 24)) := gs_I_ast I216 (show (0 : Int) ≤ F215 106 24 ∧ F215 106 24 ≤ 60 by omega)
              have f230 := gs_fr_ast f217 (a := 110) (z := F215 106 24) (i := p.toNat) (by first | omega | (dsimp only; omega) | (dsimp only) | fail)
              have v231 : (gs_up A190 110 p.toNat (F215 106 24)) 117 0 = A190 117 0 := gs_up_ne _ _ (by omega)
              have v232 : (gs_up A190 110 p.toNat (F215 106 24)) 117 1 = A190 117 1 := gs_up_ne _ _ (by omega)
              have v233 : (gs_up A190 110 p.toNat (F215 106 24)) 117 2 = A190 117 2 := gs_up_ne _ _ (by omega)
              have v234 : (gs_up A190 110 p.toNat (F215 106 24)) 117 3 = A190 117 3 := gs_up_ne _ _ (by omega)
              have u235 : (gs_up A190 110 p.toNat (F215 106 24)) 110 = gs_u (A1 110) p.toNat (F215 106 24) := (gs_up_u A190 110 p.toNat (F215 106 24)).trans (congrArg (fun f => gs_u f p.toNat (F215 106 24)) u209)
              have u236 : (gs_up A190 110 p.toNat (F215 106 24)) 111 = A1 111 := (gs_up_row _ _ (by omega)).trans u210
              have u237 : (gs_up A190 110 p.toNat (F215 106 24)) 116 = A1 116 := (gs_up_row _ _ (by omega)).trans u211
              have u238 : (gs_up A190 110 p.toNat (F215 106 24)) 117 = A1 117 := (gs_up_row _ _ (by omega)).trans u212
              have u239 : (gs_up A190 110 p.toNat (F215 106 24)) 118 = A1 118 := (gs_up_row _ _ (by omega)).trans u213
              generalize gs_up A190 110 p.toNat (F215 106 24) = A228 at I229 f230 v231 v232 v233 v234 u235 u236 u237 u238 u239 ⊢
              refine sA_iconst (z := 0) dd_X9_read_118 ?_
              refine sA_istore (lv' := [(4, gs_iv 0), (3, gs_iv z194), (2, gs_iv c0), (0, .ref 106), (1, gs_iv p)]) dd_X9_read_119 (by decide) rfl ?_
              have b240 : (0 : Int) ≤ F215 106 18 ∧ F215 106 18 ≤ 120 := I229.1 106 18
              have b241 : (0 : Int) ≤ F215 106 17 ∧ F215 106 17 ≤ 120 := I229.1 106 17
              have b242 : (-2147483648 : Int) ≤ F215 106 20 ∧ F215 106 20 ≤ 2147483647 := I229.1 106 20
              have b243 : (0 : Int) ≤ F215 106 22 ∧ F215 106 22 ≤ 4 := I229.1 106 22
              have b244 : (1 : Int) ≤ F215 106 0 ∧ F215 106 0 ≤ 3 := I229.1 106 0
              refine sA_sub (lv2 := [(4, gs_iv 0), (0, .ref 106), (1, gs_iv p)]) (List.forall_mem_cons.mpr ⟨(.head _), (List.forall_mem_cons.mpr ⟨(.tail _ (.tail _ (.tail _ (.head _)))), (List.forall_mem_cons.mpr ⟨(.tail _ (.tail _ (.tail _ (.tail _ (.head _))))), (fun _ h => absurd h List.not_mem_nil)⟩)⟩)⟩) ?_
              exact ih.2 0 F215 A228 I229 f230 (by omega) (by omega) (by omega) (by first | (rw [u239, u238]; exact hex) | (rw [u239, u238]; exact i3) | fail) (by first | exact u235.trans i4 | (rw [u235, i9]) | fail) (by first | (intro i h1 h2; exfalso; omega) | (rw [u239]; exact gs_plan_ext (by omega) (by omega) u236 i5) | fail) (by first | (intro i h1 h2; rw [u236, gs_u_ne _ _ (by omega)]; exact i6 i h1 h2) | (intro i h1 h2; rw [u236, i10]) | fail) (by omega) (by omega)
            · skip
              refine sA_bipush (z := (-10)) dd_X9_read_100 (by decide) ?_
              refine sA_aload_n dd_X9_read_102 rfl (.tail _ (.tail _ (.head _))) ?_
              refine sA_geti (ci := 9) (j := 19) (q := (RX9, TX9, 28)) dd_X9_read_103 rfl (by decide) fl_X9_189 (by decide) gs_s106 rfl ?_
              refine sA_isub dd_X9_read_106 ?_
              refine sA_iret (z := (-10) - (F215 106 19)) dd_X9_read_107 rfl ?_
              refine ⟨_, rfl, I216, f217, ?_⟩
              refine .inr ⟨by omega, by omega, by omega, .inl ⟨by omega, ?_, u209.trans i9, u210.trans i10⟩⟩
              by_cases h19 : F1 106 19 = 0
              · obtain ⟨hm20, hm18, st, kd, kb, hrd, hst0⟩ := rd_md_ok i5 h19
                have hfin := rd_end (N := F 106 17) hrd (by omega) (by omega)
                rw [hfin, show -10 - (-10 - F215 106 19) = 1 by omega, show F215 106 20 = F 106 17 by omega]
              · have hfin := rd_md_bad i5 h19
                rw [show F1 106 17 = F 106 17 by omega] at hfin
                rw [hfin, show -10 - (-10 - F215 106 19) = F1 106 19 by omega, show F215 106 20 = F1 106 20 by omega]
        · skip
          obtain ⟨hm20, hm18, st, kd, kb, hrd, hst0⟩ := rd_md_ok i5 (by omega)
          have h02 : rd_good (F1 106 0) (0, 0, 0, 0, 0, 0, 0, A 118, A 117) := rd_0_good
          have hrd2 : rd (F1 106 0) (A1 116) (0, 0, 0, 0, 0, 0, 0, A 118, A 117) (F1 106 18).toNat = (0, 0, st, kd, kb, F1 106 22, F1 106 24, A1 118, A1 117) := by
            rw [show F1 106 0 = F 106 0 by omega, i11]
            exact hrd
          have hc11 : A1 116 (F1 106 18).toNat = c0 := by
            rw [i11]
            omega
          refine sA_aload_n dd_X9_read_53 rfl (.tail _ (.head _)) ?_
          refine sA_iload_n dd_X9_read_54 rfl (.head _) ?_
          refine sA_callV (y2 := m_X9_readItem) (n2 := 1) (d2 := 4) (a := 106) (ci := 9) (q := (RX9, TX9, 28)) (as := [gs_iv c0]) (rest := []) dd_X9_read_55 ok_X9_readItem ml_X9_221 rfl rfl (by decide) gs_s106 rfl rfl (Nat.le_of_ble_eq_true rfl) (by decide) (c_X9_readItem_vf hI1 (by omega) (by omega) (by omega) (by omega) (by omega) h02 (by omega) (by omega) (by omega) hrd2) (fun r245 F246 A247 h248 => ?_)
          obtain ⟨e250, I251, f252, x249⟩ := h248
          subst e250
          have v254 : F246 106 17 = F1 106 17 := f252.1 106 17 (by first | exact id | omega | (dsimp only; omega) | (dsimp only) | fail)
          have v259 : F246 106 0 = F1 106 0 := f252.1 106 0 (by first | exact id | omega | (dsimp only; omega) | (dsimp only) | fail)
          have f260 := gs_fr_tr hf1 f252 (fun b j h => by first | exact False.elim h | omega | (dsimp only at h ⊢; omega) | fail) (fun b h => by first | exact False.elim h | omega | (dsimp only at h ⊢; omega) | fail)
          have u261 : A247 110 = A1 110 := (f252.2 110 (by first | exact id | omega | (dsimp only; omega) | (dsimp only) | fail)).trans u8
          have u262 : A247 111 = A1 111 := (f252.2 111 (by first | exact id | omega | (dsimp only; omega) | (dsimp only) | fail)).trans u9
          have u263 : A247 116 = A1 116 := (f252.2 116 (by first | exact id | omega | (dsimp only; omega) | (dsimp only) | fail)).trans u10
          have u264 : A247 117 = A247 117 := rfl
          have u265 : A247 118 = A247 118 := rfl
          have y266 : (F1 106 18 + 1 ≤ F246 106 18 ∨ 1 ≤ F246 106 19) ∧ F1 106 18 ≤ F246 106 18 ∧ (0 < F246 106 22 → A247 117 0 ≤ F246 106 24) ∧ (1 < F246 106 22 → A247 117 1 ≤ F246 106 24) ∧ (2 < F246 106 22 → A247 117 2 ≤ F246 106 24) ∧ (3 < F246 106 22 → A247 117 3 ≤ F246 106 24) ∧ rd_md (F1 106 0) (A1 116) (0, 0, 0, 0, 0, 0, 0, A 118, A 117) F246 A247 ∧ F246 106 17 = F1 106 17 := x249
          clear x249
          show sA _ _ _ 58 _ [] _ _
          refine sA_aload_n dd_X9_read_58 rfl (.tail _ (.head _)) ?_
          refine sA_callV (y2 := m_X9_look) (n2 := 0) (d2 := 1) (a := 106) (ci := 9) (q := (RX9, TX9, 28)) (as := []) (rest := []) dd_X9_read_59 ok_X9_look ml_X9_192 rfl rfl (by decide) gs_s106 rfl rfl (Nat.le_of_ble_eq_true rfl) (by decide) (c_X9_look_vf I251 ) (fun r267 F268 A269 h270 => ?_)
          obtain ⟨z273, e272, I274, f275, x271⟩ := h270
          subst e272
          have v277 : F268 106 17 = F246 106 17 := f275.1 106 17 (by first | exact id | omega | (dsimp only; omega) | (dsimp only) | fail)
          have v278 : F268 106 19 = F246 106 19 := f275.1 106 19 (by first | exact id | omega | (dsimp only; omega) | (dsimp only) | fail)
          have v279 : F268 106 20 = F246 106 20 := f275.1 106 20 (by first | exact id | omega | (dsimp only; omega) | (dsimp only) | fail)
          have v280 : F268 106 24 = F246 106 24 := f275.1 106 24 (by first | exact id | omega | (dsimp only; omega) | (dsimp only) | fail)
          have v281 : F268 106 22 = F246 106 22 := f275.1 106 22 (by first | exact id | omega | (dsimp only; omega) | (dsimp only) | fail)
          have v282 : F268 106 0 = F246 106 0 := f275.1 106 0 (by first | exact id | omega | (dsimp only; omega) | (dsimp only) | fail)
          have v283 : A269 117 0 = A247 117 0 := congrFun (f275.2 117 (by first | exact id | omega | (dsimp only; omega) | (dsimp only) | fail)) _
          have v284 : A269 117 1 = A247 117 1 := congrFun (f275.2 117 (by first | exact id | omega | (dsimp only; omega) | (dsimp only) | fail)) _
          have v285 : A269 117 2 = A247 117 2 := congrFun (f275.2 117 (by first | exact id | omega | (dsimp only; omega) | (dsimp only) | fail)) _
          have v286 : A269 117 3 = A247 117 3 := congrFun (f275.2 117 (by first | exact id | omega | (dsimp only; omega) | (dsimp only) | fail)) _
          have f287 := gs_fr_tr f260 f275 (fun b j h => by first | exact False.elim h | omega | (dsimp only at h ⊢; omega) | fail) (fun b h => by first | exact False.elim h | omega | (dsimp only at h ⊢; omega) | fail)
          have u288 : A269 110 = A1 110 := (f275.2 110 (by first | exact id | omega | (dsimp only; omega) | (dsimp only) | fail)).trans u261
          have u289 : A269 111 = A1 111 := (f275.2 111 (by first | exact id | omega | (dsimp only; omega) | (dsimp only) | fail)).trans u262
          have u290 : A269 116 = A1 116 := (f275.2 116 (by first | exact id | omega | (dsimp only; omega) | (dsimp only) | fail)).trans u263
          have u291 : A269 117 = A247 117 := (f275.2 117 (by first | exact id | omega | (dsimp only; omega) | (dsimp only) | fail)).trans u264
          have u292 : A269 118 = A247 118 := (f275.2 118 (by first | exact id | omega | (dsimp only; omega) | (dsimp only) | fail)).trans u265
          have y293 : F246 106 18 ≤ F268 106 18 ∧ F268 106 17 = F246 106 17 ∧ (∀ i : Int, F246 106 18 ≤ i → i < F268 106 18 → A247 116 i.toNat = 32) ∧ ((F268 106 18 < F246 106 17 ∧ A247 116 (F268 106 18).toNat ≠ 32 ∧ z273 = A247 116 (F268 106 18).toNat) ∨ (F246 106 17 ≤ F268 106 18 ∧ z273 = -1)) ∧ (F246 106 18 ≤ F246 106 17 → F268 106 18 ≤ F246 106 17) ∧ -2147483648 ≤ z273 ∧ z273 ≤ 2147483647 := x271
          clear x271
          show sA _ _ _ 62 _ [gs_iv z273] _ _
          have hb18 : (0 : Int) ≤ F268 106 18 ∧ F268 106 18 ≤ 120 := I274.1 106 18
          have hb19 : (0 : Int) ≤ F268 106 19 ∧ F268 106 19 ≤ 4 := I274.1 106 19
          have y := y266.2.2.2.2.2.2.1
          rw [show F1 106 0 = F 106 0 by omega, i11] at y
          have lk := y293
          rw [u263, i11] at lk
          have hmd := rd_md_look y (show (0 : Int) ≤ F246 106 18 by have := (I251.1 106 18).1; exact this) (by omega) (by omega) (by omega) (by omega) (by omega) (f275.2 118 (by exact id)) (f275.2 117 (by exact id)) lk.1 lk.2.2.1 lk.2.2.2.2.1
          have lk4 := lk.2.2.2.1
          have lk5 := lk.2.2.2.2.1
          have hnn : F268 106 18 < F 106 17 → 0 ≤ A 116 (F268 106 18).toNat := fun h => hT _ (by have := (I274.1 106 18).1; exact this) h
          refine sA_istore_n (lv' := [(2, gs_iv z273), (0, .ref 106), (1, gs_iv p)]) dd_X9_read_62 rfl (by decide) rfl ?_
          refine sA_goto (tgt := 42) dd_X9_read_63 (by decide) ?_
          have b294 : (0 : Int) ≤ F268 106 18 ∧ F268 106 18 ≤ 120 := I274.1 106 18
          have b295 : (0 : Int) ≤ F268 106 17 ∧ F268 106 17 ≤ 120 := I274.1 106 17
          have b296 : (0 : Int) ≤ F268 106 19 ∧ F268 106 19 ≤ 4 := I274.1 106 19
          have b297 : (-2147483648 : Int) ≤ F268 106 20 ∧ F268 106 20 ≤ 2147483647 := I274.1 106 20
          have b298 : (0 : Int) ≤ F268 106 24 ∧ F268 106 24 ≤ 60 := I274.1 106 24
          have b299 : (0 : Int) ≤ F268 106 22 ∧ F268 106 22 ≤ 4 := I274.1 106 22
          have b300 : (1 : Int) ≤ F268 106 0 ∧ F268 106 0 ≤ 3 := I274.1 106 0
          refine sA_sub (lv2 := [(2, gs_iv z273), (0, .ref 106), (1, gs_iv p)]) (List.forall_mem_cons.mpr ⟨(.head _), (List.forall_mem_cons.mpr ⟨(.tail _ (.head _)), (List.forall_mem_cons.mpr ⟨(.tail _ (.tail _ (.head _))), (fun _ h => absurd h List.not_mem_nil)⟩)⟩)⟩) ?_
          exact ih.1 z273 F268 A269 I274 f287 (by omega) (by omega) (by omega) (by omega) (by omega) hmd (by omega) (by omega) (by omega) (by first | exact u288.trans i9 | exact u288 | fail) (by first | exact u289.trans i10 | exact u289 | fail) (by first | exact u290.trans i11 | exact u290 | fail) (by omega)
    · skip
      intro k F1 A1 hI1 hf1 i0 i1 i2 i3 i4 i5 i6 i7 hm
      have b301 : (0 : Int) ≤ F1 106 18 ∧ F1 106 18 ≤ 120 := hI1.1 106 18
      have b302 : (0 : Int) ≤ F1 106 17 ∧ F1 106 17 ≤ 120 := hI1.1 106 17
      have b303 : (0 : Int) ≤ F1 106 19 ∧ F1 106 19 ≤ 4 := hI1.1 106 19
      have b304 : (-2147483648 : Int) ≤ F1 106 20 ∧ F1 106 20 ≤ 2147483647 := hI1.1 106 20
      have b305 : (0 : Int) ≤ F1 106 24 ∧ F1 106 24 ≤ 60 := hI1.1 106 24
      have b306 : (0 : Int) ≤ F1 106 22 ∧ F1 106 22 ≤ 4 := hI1.1 106 22
      have b307 : (1 : Int) ≤ F1 106 0 ∧ F1 106 0 ≤ 3 := hI1.1 106 0
      have u308 : A1 110 = A1 110 := rfl
      have u309 : A1 111 = A1 111 := rfl
      have u310 : A1 116 = A1 116 := rfl
      have u311 : A1 117 = A1 117 := rfl
      have u312 : A1 118 = A1 118 := rfl
      refine sA_iload dd_X9_read_121 (.head _) ?_
      refine sA_aload_n dd_X9_read_123 rfl (.tail _ (.head _)) ?_
      refine sA_geti (ci := 9) (j := 24) (q := (RX9, TX9, 28)) dd_X9_read_124 rfl (by decide) fl_X9_206 (by decide) gs_s106 rfl ?_
      refine sA_icmp_ge (tgt := 155) dd_X9_read_127 (by decide) (by omega) (by omega) (fun q313 => ?_) (fun q313 => ?_)
      · skip
        refine sA_aload_n dd_X9_read_155 rfl (.tail _ (.head _)) ?_
        refine sA_geti (ci := 9) (j := 24) (q := (RX9, TX9, 28)) dd_X9_read_156 rfl (by decide) fl_X9_206 (by decide) gs_s106 rfl ?_
        refine sA_iret (z := F1 106 24) dd_X9_read_159 rfl ?_
        refine ⟨_, rfl, hI1, hf1, ?_⟩
        exact .inr ⟨by omega, by omega, by omega, .inr ⟨by omega, by omega, rfl, i3, i4, fun i h1 h2 => i5 i h1 (by omega), i6⟩⟩
      · skip
        refine sA_aload_n dd_X9_read_130 rfl (.tail _ (.head _)) ?_
        refine sA_getr (ci := 9) (j := 7) (q := (RX9, TX9, 28)) dd_X9_read_131 rfl (by decide) fl_X9_22 (by decide) gs_s106 rfl ?_
        refine sA_bipush (z := 60) dd_X9_read_134 (by decide) ?_
        refine sA_iload_n dd_X9_read_136 rfl (.tail _ (.tail _ (.head _))) ?_
        refine sA_imul dd_X9_read_137 ?_
        refine sA_iload dd_X9_read_138 (.head _) ?_
        refine sA_iadd dd_X9_read_140 ?_
        refine sA_aload_n dd_X9_read_141 rfl (.tail _ (.head _)) ?_
        refine sA_getr (ci := 9) (j := 23) (q := (RX9, TX9, 28)) dd_X9_read_142 rfl (by decide) fl_X9_47 (by decide) gs_s106 rfl ?_
        refine sA_iload dd_X9_read_145 (.head _) ?_
        refine sA_iald (n := 600) dd_X9_read_147 (by decide) gs_s118 (by omega) (by decide) ?_
        have b314 : (-2147483648 : Int) ≤ A1 118 k.toNat ∧ A1 118 k.toNat ≤ 2147483647 := hI1.2 118 k.toNat
        refine sA_iast (n := 540) dd_X9_read_148 (by decide) gs_s111 (by omega) (by decide) ?_
        have I316 : gs_I F1 (gs_up A1 111 (((60 * p) + k).toNat) (A1 118 k.toNat)) := gs_I_ast hI1 (show (-2147483648 : Int) ≤ A1 118 k.toNat ∧ A1 118 k.toNat ≤ 2147483647 by omega)
        have f317 := gs_fr_ast hf1 (a := 111) (z := A1 118 k.toNat) (i := ((60 * p) + k).toNat) (by first | omega | (dsimp only; omega) | (dsimp only) | fail)
        have v318 : (gs_up A1 111 (((60 * p) + k).toNat) (A1 118 k.toNat)) 117 0 = A1 117 0 := gs_up_ne _ _ (by omega)
        have v319 : (gs_up A1 111 (((60 * p) + k).toNat) (A1 118 k.toNat)) 117 1 = A1 117 1 := gs_up_ne _ _ (by omega)
        have v320 : (gs_up A1 111 (((60 * p) + k).toNat) (A1 118 k.toNat)) 117 2 = A1 117 2 := gs_up_ne _ _ (by omega)
        have v321 : (gs_up A1 111 (((60 * p) + k).toNat) (A1 118 k.toNat)) 117 3 = A1 117 3 := gs_up_ne _ _ (by omega)
        have u322 : (gs_up A1 111 (((60 * p) + k).toNat) (A1 118 k.toNat)) 110 = A1 110 := (gs_up_row _ _ (by omega)).trans u308
        have u323 : (gs_up A1 111 (((60 * p) + k).toNat) (A1 118 k.toNat)) 111 = gs_u (A1 111) (((60 * p) + k).toNat) (A1 118 k.toNat) := (gs_up_u A1 111 (((60 * p) + k).toNat) (A1 118 k.toNat)).trans (congrArg (fun f => gs_u f (((60 * p) + k).toNat) (A1 118 k.toNat)) u309)
        have u324 : (gs_up A1 111 (((60 * p) + k).toNat) (A1 118 k.toNat)) 116 = A1 116 := (gs_up_row _ _ (by omega)).trans u310
        have u325 : (gs_up A1 111 (((60 * p) + k).toNat) (A1 118 k.toNat)) 117 = A1 117 := (gs_up_row _ _ (by omega)).trans u311
        have u326 : (gs_up A1 111 (((60 * p) + k).toNat) (A1 118 k.toNat)) 118 = A1 118 := (gs_up_row _ _ (by omega)).trans u312
        generalize gs_up A1 111 (((60 * p) + k).toNat) (A1 118 k.toNat) = A315 at I316 f317 v318 v319 v320 v321 u322 u323 u324 u325 u326 ⊢
        refine sA_iinc (lv' := [(4, gs_iv (k + 1)), (0, .ref 106), (1, gs_iv p)]) dd_X9_read_149 (.head _) (by decide) rfl ?_
        refine sA_goto (tgt := 121) dd_X9_read_152 (by decide) ?_
        refine sA_sub (lv2 := [(4, gs_iv (k + 1)), (0, .ref 106), (1, gs_iv p)]) (List.forall_mem_cons.mpr ⟨(.head _), (List.forall_mem_cons.mpr ⟨(.tail _ (.head _)), (List.forall_mem_cons.mpr ⟨(.tail _ (.tail _ (.head _))), (fun _ h => absurd h List.not_mem_nil)⟩)⟩)⟩) ?_
        exact ih.2 (k + 1) F1 A315 I316 f317 (by omega) (by omega) (by omega) (by first | (rw [u326, u325]; exact hex) | (rw [u326, u325]; exact i3) | fail) (by first | exact u322.trans i4 | (rw [u322, i9]) | fail) (by first | (intro i h1 h2; exfalso; omega) | (rw [u326]; exact gs_plan_ext (by omega) (by omega) u323 i5) | fail) (by first | (intro i h1 h2; rw [u323, gs_u_ne _ _ (by omega)]; exact i6 i h1 h2) | (intro i h1 h2; rw [u323, i10]) | fail) (by omega) (by omega)
theorem c_X9_read_vf {p : Int} {F A : gs_F} (hI : gs_I F A) (hp : -2147483648 ≤ p ∧ p ≤ 2147483647) (hT : ∀ i : Int, 0 ≤ i → i < F 106 17 → 0 ≤ A 116 i.toNat) : sC m_X9_read 5 [.ref 106, gs_iv p] F A (fun rv F' A' => ∃ z : Int, rv = some (gs_iv z) ∧ gs_I F' A' ∧ gs_fr (fun c j => c = 106 ∧ (17 ≤ j ∧ j ≤ 24)) (fun c => c = 110 ∨ c = 111 ∨ c = 117 ∨ c = 118) F A F' A' ∧ (((p < 0 ∨ 7 < p) ∧ z = -1001 ∧ F' 106 17 = F 106 17 ∧ F' 106 20 = F 106 20 ∧ A' 110 = A 110 ∧ A' 111 = A 111) ∨ (0 ≤ p ∧ p ≤ 7 ∧ F' 106 17 = 0 ∧ ((z ≤ -11 ∧ rd_fin (rd (F 106 0) (A 116) (0, 0, 0, 0, 0, 0, 0, A 118, A 117) (F 106 17).toNat) (F 106 17) = (-10 - z, F' 106 20) ∧ A' 110 = A 110 ∧ A' 111 = A 111) ∨ (0 ≤ z ∧ F' 106 20 = -1 ∧ z = F' 106 24 ∧ (∃ st kd kb : Int, rd (F 106 0) (A 116) (0, 0, 0, 0, 0, 0, 0, A 118, A 117) (F 106 17).toNat = (0, 0, st, kd, kb, F' 106 22, F' 106 24, A' 118, A' 117) ∧ rd_fin (rd (F 106 0) (A 116) (0, 0, 0, 0, 0, 0, 0, A 118, A 117) (F 106 17).toNat) (F 106 17) = (0, -1)) ∧ A' 110 = gs_u (A 110) p.toNat z ∧ (∀ i : Int, 0 ≤ i → i < z → A' 111 (60 * p + i).toNat = A' 118 i.toNat) ∧ (∀ i : Int, 0 ≤ i → (i < 60 * p ∨ 60 * p + 60 ≤ i) → A' 111 i.toNat = A 111 i.toNat)))))) := by
  refine sC_of ok_X9_read.1 (Nat.le_of_ble_eq_true rfl) ?_
  show sA _ _ _ 0 [(0, .ref 106), (1, gs_iv p)] [] F A
  have hf : gs_fr (fun c j => c = 106 ∧ (17 ≤ j ∧ j ≤ 24)) (fun c => c = 110 ∨ c = 111 ∨ c = 117 ∨ c = 118) F A F A := gs_fr_refl _ _ _ _
  have b327 : (0 : Int) ≤ F 106 18 ∧ F 106 18 ≤ 120 := hI.1 106 18
  have b328 : (0 : Int) ≤ F 106 17 ∧ F 106 17 ≤ 120 := hI.1 106 17
  have b329 : (0 : Int) ≤ F 106 19 ∧ F 106 19 ≤ 4 := hI.1 106 19
  have b330 : (-2147483648 : Int) ≤ F 106 20 ∧ F 106 20 ≤ 2147483647 := hI.1 106 20
  have b331 : (0 : Int) ≤ F 106 24 ∧ F 106 24 ≤ 60 := hI.1 106 24
  have b332 : (0 : Int) ≤ F 106 22 ∧ F 106 22 ≤ 4 := hI.1 106 22
  have b333 : (1 : Int) ≤ F 106 0 ∧ F 106 0 ≤ 3 := hI.1 106 0
  have u334 : A 110 = A 110 := rfl
  have u335 : A 111 = A 111 := rfl
  have u336 : A 116 = A 116 := rfl
  have u337 : A 117 = A 117 := rfl
  have u338 : A 118 = A 118 := rfl
  refine sA_aload_n dd_X9_read_0 rfl (.head _) ?_
  refine sA_iload_n dd_X9_read_1 rfl (.tail _ (.head _)) ?_
  refine sA_callV (y2 := m_X9_noPlan) (n2 := 1) (d2 := 2) (a := 106) (ci := 9) (q := (RX9, TX9, 28)) (as := [gs_iv p]) (rest := []) dd_X9_read_2 ok_X9_noPlan ml_X9_218 rfl rfl (by decide) gs_s106 rfl rfl (Nat.le_of_ble_eq_true rfl) (by decide) (c_X9_noPlan hI (by omega)) (fun r339 F340 A341 h342 => ?_)
  obtain ⟨z345, e344, e346, e347, x343⟩ := h342
  subst e344 e346 e347
  show sA _ _ _ 5 _ [gs_iv z345] _ _
  refine sA_if_eq (tgt := 12) dd_X9_read_5 (by decide) (by omega) (fun q348 => ?_) (fun q348 => ?_)
  · skip
    refine sA_aload_n dd_X9_read_12 rfl (.head _) ?_
    refine sA_iconst (z := 0) dd_X9_read_13 ?_
    refine sA_put (ci := 9) (j := 18) (q := (RX9, TX9, 28)) (ty := .int) dd_X9_read_14 rfl (by decide) fl_X9_186 rfl (tyX9_ok 18 (by decide)) rfl rfl (by decide) gs_s106 rfl ?_
    have I350 : gs_I (gs_up F 106 18 0) A := gs_I_put hI (show (0 : Int) ≤ 0 ∧ 0 ≤ 120 by omega)
    have f351 := gs_fr_put hf (a := 106) (z := 0) (j := 18) (by first | omega | (dsimp only; omega) | (dsimp only) | fail)
    have v352 : gs_up F 106 18 0 106 18 = 0 := gs_up_self _ _ _ _
    have v353 : (gs_up F 106 18 0) 106 17 = F 106 17 := gs_up_ne _ _ (by omega)
    have v354 : (gs_up F 106 18 0) 106 19 = F 106 19 := gs_up_ne _ _ (by omega)
    have v355 : (gs_up F 106 18 0) 106 20 = F 106 20 := gs_up_ne _ _ (by omega)
    have v356 : (gs_up F 106 18 0) 106 24 = F 106 24 := gs_up_ne _ _ (by omega)
    have v357 : (gs_up F 106 18 0) 106 22 = F 106 22 := gs_up_ne _ _ (by omega)
    have v358 : (gs_up F 106 18 0) 106 0 = F 106 0 := gs_up_ne _ _ (by omega)
    generalize gs_up F 106 18 0 = F349 at I350 f351 v352 v353 v354 v355 v356 v357 v358 ⊢
    refine sA_aload_n dd_X9_read_17 rfl (.head _) ?_
    refine sA_iconst (z := 0) dd_X9_read_18 ?_
    refine sA_put (ci := 9) (j := 19) (q := (RX9, TX9, 28)) (ty := .int) dd_X9_read_19 rfl (by decide) fl_X9_189 rfl (tyX9_ok 19 (by decide)) rfl rfl (by decide) gs_s106 rfl ?_
    have I360 : gs_I (gs_up F349 106 19 0) A := gs_I_put I350 (show (0 : Int) ≤ 0 ∧ 0 ≤ 4 by omega)
    have f361 := gs_fr_put f351 (a := 106) (z := 0) (j := 19) (by first | omega | (dsimp only; omega) | (dsimp only) | fail)
    have v362 : gs_up F349 106 19 0 106 19 = 0 := gs_up_self _ _ _ _
    have v363 : (gs_up F349 106 19 0) 106 18 = F349 106 18 := gs_up_ne _ _ (by omega)
    have v364 : (gs_up F349 106 19 0) 106 17 = F349 106 17 := gs_up_ne _ _ (by omega)
    have v365 : (gs_up F349 106 19 0) 106 20 = F349 106 20 := gs_up_ne _ _ (by omega)
    have v366 : (gs_up F349 106 19 0) 106 24 = F349 106 24 := gs_up_ne _ _ (by omega)
    have v367 : (gs_up F349 106 19 0) 106 22 = F349 106 22 := gs_up_ne _ _ (by omega)
    have v368 : (gs_up F349 106 19 0) 106 0 = F349 106 0 := gs_up_ne _ _ (by omega)
    generalize gs_up F349 106 19 0 = F359 at I360 f361 v362 v363 v364 v365 v366 v367 v368 ⊢
    refine sA_aload_n dd_X9_read_22 rfl (.head _) ?_
    refine sA_iconst (z := (-1)) dd_X9_read_23 ?_
    refine sA_put (ci := 9) (j := 20) (q := (RX9, TX9, 28)) (ty := .int) dd_X9_read_24 rfl (by decide) fl_X9_40 rfl (tyX9_ok 20 (by decide)) rfl rfl (by decide) gs_s106 rfl ?_
    have I370 : gs_I (gs_up F359 106 20 (-1)) A := gs_I_put I360 (show (-2147483648 : Int) ≤ -1 ∧ -1 ≤ 2147483647 by omega)
    have f371 := gs_fr_put f361 (a := 106) (z := -1) (j := 20) (by first | omega | (dsimp only; omega) | (dsimp only) | fail)
    have v372 : gs_up F359 106 20 (-1) 106 20 = -1 := gs_up_self _ _ _ _
    have v373 : (gs_up F359 106 20 (-1)) 106 18 = F359 106 18 := gs_up_ne _ _ (by omega)
    have v374 : (gs_up F359 106 20 (-1)) 106 17 = F359 106 17 := gs_up_ne _ _ (by omega)
    have v375 : (gs_up F359 106 20 (-1)) 106 19 = F359 106 19 := gs_up_ne _ _ (by omega)
    have v376 : (gs_up F359 106 20 (-1)) 106 24 = F359 106 24 := gs_up_ne _ _ (by omega)
    have v377 : (gs_up F359 106 20 (-1)) 106 22 = F359 106 22 := gs_up_ne _ _ (by omega)
    have v378 : (gs_up F359 106 20 (-1)) 106 0 = F359 106 0 := gs_up_ne _ _ (by omega)
    generalize gs_up F359 106 20 (-1) = F369 at I370 f371 v372 v373 v374 v375 v376 v377 v378 ⊢
    refine sA_aload_n dd_X9_read_27 rfl (.head _) ?_
    refine sA_iconst (z := 0) dd_X9_read_28 ?_
    refine sA_put (ci := 9) (j := 22) (q := (RX9, TX9, 28)) (ty := .int) dd_X9_read_29 rfl (by decide) fl_X9_209 rfl (tyX9_ok 22 (by decide)) rfl rfl (by decide) gs_s106 rfl ?_
    have I380 : gs_I (gs_up F369 106 22 0) A := gs_I_put I370 (show (0 : Int) ≤ 0 ∧ 0 ≤ 4 by omega)
    have f381 := gs_fr_put f371 (a := 106) (z := 0) (j := 22) (by first | omega | (dsimp only; omega) | (dsimp only) | fail)
    have v382 : gs_up F369 106 22 0 106 22 = 0 := gs_up_self _ _ _ _
    have v383 : (gs_up F369 106 22 0) 106 18 = F369 106 18 := gs_up_ne _ _ (by omega)
    have v384 : (gs_up F369 106 22 0) 106 17 = F369 106 17 := gs_up_ne _ _ (by omega)
    have v385 : (gs_up F369 106 22 0) 106 19 = F369 106 19 := gs_up_ne _ _ (by omega)
    have v386 : (gs_up F369 106 22 0) 106 20 = F369 106 20 := gs_up_ne _ _ (by omega)
    have v387 : (gs_up F369 106 22 0) 106 24 = F369 106 24 := gs_up_ne _ _ (by omega)
    have v388 : (gs_up F369 106 22 0) 106 0 = F369 106 0 := gs_up_ne _ _ (by omega)
    generalize gs_up F369 106 22 0 = F379 at I380 f381 v382 v383 v384 v385 v386 v387 v388 ⊢
    refine sA_aload_n dd_X9_read_32 rfl (.head _) ?_
    refine sA_iconst (z := 0) dd_X9_read_33 ?_
    refine sA_put (ci := 9) (j := 24) (q := (RX9, TX9, 28)) (ty := .int) dd_X9_read_34 rfl (by decide) fl_X9_206 rfl (tyX9_ok 24 (by decide)) rfl rfl (by decide) gs_s106 rfl ?_
    have I390 : gs_I (gs_up F379 106 24 0) A := gs_I_put I380 (show (0 : Int) ≤ 0 ∧ 0 ≤ 60 by omega)
    have f391 := gs_fr_put f381 (a := 106) (z := 0) (j := 24) (by first | omega | (dsimp only; omega) | (dsimp only) | fail)
    have v392 : gs_up F379 106 24 0 106 24 = 0 := gs_up_self _ _ _ _
    have v393 : (gs_up F379 106 24 0) 106 18 = F379 106 18 := gs_up_ne _ _ (by omega)
    have v394 : (gs_up F379 106 24 0) 106 17 = F379 106 17 := gs_up_ne _ _ (by omega)
    have v395 : (gs_up F379 106 24 0) 106 19 = F379 106 19 := gs_up_ne _ _ (by omega)
    have v396 : (gs_up F379 106 24 0) 106 20 = F379 106 20 := gs_up_ne _ _ (by omega)
    have v397 : (gs_up F379 106 24 0) 106 22 = F379 106 22 := gs_up_ne _ _ (by omega)
    have v398 : (gs_up F379 106 24 0) 106 0 = F379 106 0 := gs_up_ne _ _ (by omega)
    generalize gs_up F379 106 24 0 = F389 at I390 f391 v392 v393 v394 v395 v396 v397 v398 ⊢
    refine sA_aload_n dd_X9_read_37 rfl (.head _) ?_
    refine sA_callV (y2 := m_X9_look) (n2 := 0) (d2 := 1) (a := 106) (ci := 9) (q := (RX9, TX9, 28)) (as := []) (rest := []) dd_X9_read_38 ok_X9_look ml_X9_192 rfl rfl (by decide) gs_s106 rfl rfl (Nat.le_of_ble_eq_true rfl) (by decide) (c_X9_look_vf I390 ) (fun r399 F400 A401 h402 => ?_)
    obtain ⟨z405, e404, I406, f407, x403⟩ := h402
    subst e404
    have v409 : F400 106 17 = F389 106 17 := f407.1 106 17 (by first | exact id | omega | (dsimp only; omega) | (dsimp only) | fail)
    have v410 : F400 106 19 = F389 106 19 := f407.1 106 19 (by first | exact id | omega | (dsimp only; omega) | (dsimp only) | fail)
    have v411 : F400 106 20 = F389 106 20 := f407.1 106 20 (by first | exact id | omega | (dsimp only; omega) | (dsimp only) | fail)
    have v412 : F400 106 24 = F389 106 24 := f407.1 106 24 (by first | exact id | omega | (dsimp only; omega) | (dsimp only) | fail)
    have v413 : F400 106 22 = F389 106 22 := f407.1 106 22 (by first | exact id | omega | (dsimp only; omega) | (dsimp only) | fail)
    have v414 : F400 106 0 = F389 106 0 := f407.1 106 0 (by first | exact id | omega | (dsimp only; omega) | (dsimp only) | fail)
    have v415 : A401 117 0 = A 117 0 := congrFun (f407.2 117 (by first | exact id | omega | (dsimp only; omega) | (dsimp only) | fail)) _
    have v416 : A401 117 1 = A 117 1 := congrFun (f407.2 117 (by first | exact id | omega | (dsimp only; omega) | (dsimp only) | fail)) _
    have v417 : A401 117 2 = A 117 2 := congrFun (f407.2 117 (by first | exact id | omega | (dsimp only; omega) | (dsimp only) | fail)) _
    have v418 : A401 117 3 = A 117 3 := congrFun (f407.2 117 (by first | exact id | omega | (dsimp only; omega) | (dsimp only) | fail)) _
    have f419 := gs_fr_tr f391 f407 (fun b j h => by first | exact False.elim h | omega | (dsimp only at h ⊢; omega) | fail) (fun b h => by first | exact False.elim h | omega | (dsimp only at h ⊢; omega) | fail)
    have u420 : A401 110 = A 110 := (f407.2 110 (by first | exact id | omega | (dsimp only; omega) | (dsimp only) | fail)).trans u334
    have u421 : A401 111 = A 111 := (f407.2 111 (by first | exact id | omega | (dsimp only; omega) | (dsimp only) | fail)).trans u335
    have u422 : A401 116 = A 116 := (f407.2 116 (by first | exact id | omega | (dsimp only; omega) | (dsimp only) | fail)).trans u336
    have u423 : A401 117 = A 117 := (f407.2 117 (by first | exact id | omega | (dsimp only; omega) | (dsimp only) | fail)).trans u337
    have u424 : A401 118 = A 118 := (f407.2 118 (by first | exact id | omega | (dsimp only; omega) | (dsimp only) | fail)).trans u338
    have y425 : F389 106 18 ≤ F400 106 18 ∧ F400 106 17 = F389 106 17 ∧ (∀ i : Int, F389 106 18 ≤ i → i < F400 106 18 → A 116 i.toNat = 32) ∧ ((F400 106 18 < F389 106 17 ∧ A 116 (F400 106 18).toNat ≠ 32 ∧ z405 = A 116 (F400 106 18).toNat) ∨ (F389 106 17 ≤ F400 106 18 ∧ z405 = -1)) ∧ (F389 106 18 ≤ F389 106 17 → F400 106 18 ≤ F389 106 17) ∧ -2147483648 ≤ z405 ∧ z405 ≤ 2147483647 := x403
    clear x403
    show sA _ _ _ 41 _ [gs_iv z405] _ _
    have hb18 : (0 : Int) ≤ F400 106 18 ∧ F400 106 18 ≤ 120 := I406.1 106 18
    have hb19 : (0 : Int) ≤ F400 106 19 ∧ F400 106 19 ≤ 4 := I406.1 106 19
    have hmd0 : rd_md (F 106 0) (A 116) (0, 0, 0, 0, 0, 0, 0, A 118, A 117) F389 A := .inl ⟨by omega, by omega, by omega, 0, 0, 0, by rw [show F389 106 18 = 0 by omega, show F389 106 22 = 0 by omega, show F389 106 24 = 0 by omega]; rfl, .inl rfl⟩
    have lk := y425
    have hmd := rd_md_look hmd0 (show (0 : Int) ≤ F389 106 18 by have := (I390.1 106 18).1; exact this) (by omega) (by omega) (by omega) (by omega) (by omega) (f407.2 118 (by exact id)) (f407.2 117 (by exact id)) lk.1 lk.2.2.1 lk.2.2.2.2.1
    have lk4 := lk.2.2.2.1
    have lk5 := lk.2.2.2.2.1
    have hnn : F400 106 18 < F 106 17 → 0 ≤ A 116 (F400 106 18).toNat := fun h => hT _ (by have := (I406.1 106 18).1; exact this) h
    refine sA_istore_n (lv' := [(2, gs_iv z405), (0, .ref 106), (1, gs_iv p)]) dd_X9_read_41 rfl (by decide) rfl ?_
    have b426 : (0 : Int) ≤ F400 106 18 ∧ F400 106 18 ≤ 120 := I406.1 106 18
    have b427 : (0 : Int) ≤ F400 106 17 ∧ F400 106 17 ≤ 120 := I406.1 106 17
    have b428 : (0 : Int) ≤ F400 106 19 ∧ F400 106 19 ≤ 4 := I406.1 106 19
    have b429 : (-2147483648 : Int) ≤ F400 106 20 ∧ F400 106 20 ≤ 2147483647 := I406.1 106 20
    have b430 : (0 : Int) ≤ F400 106 24 ∧ F400 106 24 ≤ 60 := I406.1 106 24
    have b431 : (0 : Int) ≤ F400 106 22 ∧ F400 106 22 ≤ 4 := I406.1 106 22
    have b432 : (1 : Int) ≤ F400 106 0 ∧ F400 106 0 ≤ 3 := I406.1 106 0
    refine sA_sub (lv2 := [(2, gs_iv z405), (0, .ref 106), (1, gs_iv p)]) (List.forall_mem_cons.mpr ⟨(.head _), (List.forall_mem_cons.mpr ⟨(.tail _ (.head _)), (List.forall_mem_cons.mpr ⟨(.tail _ (.tail _ (.head _))), (fun _ h => absurd h List.not_mem_nil)⟩)⟩)⟩) ?_
    exact (k_X9_read_vf hI hp hT ((121 - F400 106 18) + (5 - F400 106 19) + 100 : Int).toNat.succ).1 z405 F400 A401 I406 f419 (by omega) (by omega) (by omega) (by omega) (by omega) hmd (by omega) (by omega) (by omega) (by first | exact u420.trans i9 | exact u420 | fail) (by first | exact u421.trans i10 | exact u421 | fail) (by first | exact u422.trans i11 | exact u422 | fail) (by omega)
  · skip
    refine sA_sipush (z := (-1001)) dd_X9_read_8 (by decide) ?_
    refine sA_iret (z := -1001) dd_X9_read_11 rfl ?_
    refine ⟨_, rfl, hI, hf, ?_⟩
    exact .inl ⟨by omega, by omega, by omega, by omega, u334, u335⟩
end
