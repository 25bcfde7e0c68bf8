noncomputable section
/-! ===== images: the reference ===== -/
theorem sp_all_cg2 {r s w v : List Int} (e : r = s) (e2 : w = v) : sp_all r w = sp_all s v := by rw [e, e2]
theorem sp_tw_put {g g1 u x o y b : Int} {f : Nat → Int} {k : Nat} {S S2 : List Int} (e : S2 = sp_all S (sp_mi g1 (u / 2) o y b)) (hS : S = sp_tw (sp_m g u) (gs_stk f k)) (hg : g1 = g) (hx : f k = x) (ho : (u % 2 = 1 ∧ o = 1) ∨ (u % 2 ≠ 1 ∧ o = 0)) (hy : (x < 0 ∧ y = -x ∧ b = 1) ∨ (¬ x < 0 ∧ y = x ∧ b = 0)) : S2 = sp_tw (sp_m g u) (gs_stk f (k + 1)) := by
  show S2 = sp_all (sp_tw (sp_m g u) (gs_stk f k)) (sp_m g u (f k))
  rw [e, hS, hg, hx]
  congr 1
  unfold sp_m
  rcases ho with ⟨o1, o2⟩ | ⟨o1, o2⟩ <;> rcases hy with ⟨y1, y2, y3⟩ | ⟨y1, y2, y3⟩
  · rw [if_pos o1, if_pos y1, if_pos y1, o2, y2, y3]
  · rw [if_pos o1, if_neg y1, if_neg y1, o2, y2, y3]
  · rw [if_neg o1, if_pos y1, if_pos y1, o2, y2, y3]
  · rw [if_neg o1, if_neg y1, if_neg y1, o2, y2, y3]
theorem sp_pl_step2 {tw : Int → List Int → List Int} {c : Nat → Int} {k code : Int} {S S2 : List Int} (hk : 0 ≤ k) (_h : 0 ≤ k) (hc : code = c k.toNat) (hl : (tw code S).length ≤ 400) (e : S2 = tw code S) : sp_pl tw c (k + 1).toNat S = sp_pl tw c (k + -1 + 1).toNat S2 := by
  rw [show (k + 1).toNat = k.toNat + 1 by omega, show (k + -1 + 1).toNat = k.toNat by omega, e, hc]
  rw [hc] at hl
  show (if 400 < (tw (c k.toNat) S).length then none else sp_pl tw c k.toNat (tw (c k.toNat) S)) = _
  rw [if_neg (by omega)]
theorem sp_pl_none2 {tw : Int → List Int → List Int} {c : Nat → Int} {k code : Int} {S : List Int} (hk : 0 ≤ k) (hc : code = c k.toNat) (hl : 400 < (tw code S).length) : sp_pl tw c (k + 1).toNat S = none := by
  rw [show (k + 1).toNat = k.toNat + 1 by omega]
  rw [hc] at hl
  show (if 400 < (tw (c k.toNat) S).length then none else sp_pl tw c k.toNat (tw (c k.toNat) S)) = _
  rw [if_pos hl]
theorem c_X9_put_vf {x : Int} {F A : gs_F} (hI : gs_I F A) (hx : -9 ≤ x ∧ x ≤ 9) (hs : F 106 15 < 3700) : sC m_X9_put 1 [.ref 106, gs_iv x] F A (fun rv F' A' => rv = none ∧ gs_I F' A' ∧ gs_fr (fun c j => c = 106 ∧ j = 15) (fun c => c = 115) F A F' A' ∧ (F' 106 15 ≤ F 106 15 + 1 ∧ 0 ≤ F' 106 15 ∧ gs_stk (A' 115) (F' 106 15).toNat = sp_push (gs_stk (A 115) (F 106 15).toNat) x)) := by
  refine sC_of ok_X9_put.1 (Nat.le_of_ble_eq_true rfl) ?_
  show sA _ _ _ 0 [(0, .ref 106), (1, gs_iv x)] [] F A
  have hf : gs_fr (fun c j => c = 106 ∧ j = 15) (fun c => c = 115) F A F A := gs_fr_refl _ _ _ _
  have b1 : (0 : Int) ≤ F 106 15 ∧ F 106 15 ≤ 3700 := hI.1 106 15
  have u2 : A 115 = A 115 := rfl
  have hb15 : (0 : Int) ≤ F 106 15 ∧ F 106 15 ≤ 3700 := hI.1 106 15
  refine sA_aload_n dd_X9_put_0 rfl (.head _) ?_
  refine sA_geti (ci := 9) (j := 15) (q := (RX9, TX9, 28)) dd_X9_put_1 rfl (by decide) fl_X9_157 (by decide) gs_s106 rfl ?_
  refine sA_if_le (tgt := 37) dd_X9_put_4 (by decide) (by omega) (fun q3 => ?_) (fun q3 => ?_)
  · skip
    refine sA_aload_n dd_X9_put_37 rfl (.head _) ?_
    refine sA_getr (ci := 9) (j := 14) (q := (RX9, TX9, 28)) dd_X9_put_38 rfl (by decide) fl_X9_34 (by decide) gs_s106 rfl ?_
    refine sA_aload_n dd_X9_put_41 rfl (.head _) ?_
    refine sA_geti (ci := 9) (j := 15) (q := (RX9, TX9, 28)) dd_X9_put_42 rfl (by decide) fl_X9_157 (by decide) gs_s106 rfl ?_
    refine sA_iload_n dd_X9_put_45 rfl (.tail _ (.head _)) ?_
    refine sA_iast (n := 3700) dd_X9_put_46 (by decide) gs_s115 (by omega) (by decide) ?_
    have I5 : gs_I F (gs_up A 115 ((F 106 15).toNat) x) := gs_I_ast hI (show (-9 : Int) ≤ x ∧ x ≤ 9 by omega)
    have f6 := gs_fr_ast hf (a := 115) (z := x) (i := (F 106 15).toNat) (by first | omega | (dsimp only; omega) | (dsimp only) | fail)
    have u7 : (gs_up A 115 ((F 106 15).toNat) x) 115 = gs_u (A 115) ((F 106 15).toNat) x := (gs_up_u A 115 ((F 106 15).toNat) x).trans (congrArg (fun f => gs_u f ((F 106 15).toNat) x) u2)
    generalize gs_up A 115 ((F 106 15).toNat) x = A4 at I5 f6 u7 ⊢
    refine sA_aload_n dd_X9_put_47 rfl (.head _) ?_
    refine sA_dup dd_X9_put_48 rfl ?_
    refine sA_geti (ci := 9) (j := 15) (q := (RX9, TX9, 28)) dd_X9_put_49 rfl (by decide) fl_X9_157 (by decide) gs_s106 rfl ?_
    refine sA_iconst (z := 1) dd_X9_put_52 ?_
    refine sA_iadd dd_X9_put_53 ?_
    refine sA_put (ci := 9) (j := 15) (q := (RX9, TX9, 28)) (ty := .int) dd_X9_put_54 rfl (by decide) fl_X9_157 rfl (tyX9_ok 15 (by decide)) rfl rfl (by decide) gs_s106 rfl ?_
    have I9 : gs_I (gs_up F 106 15 ((F 106 15) + 1)) A4 := gs_I_put I5 (show (0 : Int) ≤ (F 106 15) + 1 ∧ (F 106 15) + 1 ≤ 3700 by omega)
    have f10 := gs_fr_put f6 (a := 106) (z := (F 106 15) + 1) (j := 15) (by first | omega | (dsimp only; omega) | (dsimp only) | fail)
    have v11 : gs_up F 106 15 ((F 106 15) + 1) 106 15 = (F 106 15) + 1 := gs_up_self _ _ _ _
    generalize gs_up F 106 15 ((F 106 15) + 1) = F8 at I9 f10 v11 ⊢
    refine sA_vret dd_X9_put_57 rfl ?_
    refine ⟨rfl, I9, f10, ?_⟩
    have hp : gs_psh (F 106 15) (A 115) x 3700 (F8 106 15) (A4 115) := by
      first | (exact .inl ⟨by omega, by omega, by omega, u7⟩) | (exact .inr (.inl ⟨by omega, by omega, by omega, u7⟩)) | (exact .inr (.inr ⟨by omega, by omega, by omega, u7⟩)) | fail
    exact ⟨by omega, by omega, gs_psh_stk (by omega) (by omega) hp⟩
  · skip
    refine sA_aload_n dd_X9_put_7 rfl (.head _) ?_
    refine sA_getr (ci := 9) (j := 14) (q := (RX9, TX9, 28)) dd_X9_put_8 rfl (by decide) fl_X9_34 (by decide) gs_s106 rfl ?_
    refine sA_aload_n dd_X9_put_11 rfl (.head _) ?_
    refine sA_geti (ci := 9) (j := 15) (q := (RX9, TX9, 28)) dd_X9_put_12 rfl (by decide) fl_X9_157 (by decide) gs_s106 rfl ?_
    refine sA_iconst (z := 1) dd_X9_put_15 ?_
    refine sA_isub dd_X9_put_16 ?_
    refine sA_iald (n := 3700) dd_X9_put_17 (by decide) gs_s115 (by omega) (by decide) ?_
    have b12 : (-9 : Int) ≤ A 115 ((F 106 15) - 1).toNat ∧ A 115 ((F 106 15) - 1).toNat ≤ 9 := hI.2 115 ((F 106 15) - 1).toNat
    refine sA_iconst (z := 0) dd_X9_put_18 ?_
    refine sA_iload_n dd_X9_put_19 rfl (.tail _ (.head _)) ?_
    refine sA_isub dd_X9_put_20 ?_
    refine sA_icmp_ne (tgt := 37) dd_X9_put_21 (by decide) (by omega) (by omega) (fun q13 => ?_) (fun q13 => ?_)
    · skip
      refine sA_aload_n dd_X9_put_37 rfl (.head _) ?_
      refine sA_getr (ci := 9) (j := 14) (q := (RX9, TX9, 28)) dd_X9_put_38 rfl (by decide) fl_X9_34 (by decide) gs_s106 rfl ?_
      refine sA_aload_n dd_X9_put_41 rfl (.head _) ?_
      refine sA_geti (ci := 9) (j := 15) (q := (RX9, TX9, 28)) dd_X9_put_42 rfl (by decide) fl_X9_157 (by decide) gs_s106 rfl ?_
      refine sA_iload_n dd_X9_put_45 rfl (.tail _ (.head _)) ?_
      refine sA_iast (n := 3700) dd_X9_put_46 (by decide) gs_s115 (by omega) (by decide) ?_
      have I15 : gs_I F (gs_up A 115 ((F 106 15).toNat) x) := gs_I_ast hI (show (-9 : Int) ≤ x ∧ x ≤ 9 by omega)
      have f16 := gs_fr_ast hf (a := 115) (z := x) (i := (F 106 15).toNat) (by first | omega | (dsimp only; omega) | (dsimp only) | fail)
      have u17 : (gs_up A 115 ((F 106 15).toNat) x) 115 = gs_u (A 115) ((F 106 15).toNat) x := (gs_up_u A 115 ((F 106 15).toNat) x).trans (congrArg (fun f => gs_u f ((F 106 15).toNat) x) u2)
      generalize gs_up A 115 ((F 106 15).toNat) x = A14 at I15 f16 u17 ⊢
      refine sA_aload_n dd_X9_put_47 rfl (.head _) ?_
      refine sA_dup dd_X9_put_48 rfl ?_
      refine sA_geti (ci := 9) (j := 15) (q := (RX9, TX9, 28)) dd_X9_put_49 rfl (by decide) fl_X9_157 (by decide) gs_s106 rfl ?_
      refine sA_iconst (z := 1) dd_X9_put_52 ?_
      refine sA_iadd dd_X9_put_53 ?_
      refine sA_put (ci := 9) (j := 15) (q := (RX9, TX9, 28)) (ty := .int) dd_X9_put_54 rfl (by decide) fl_X9_157 rfl (tyX9_ok 15 (by decide)) rfl rfl (by decide) gs_s106 rfl ?_
      have I19 : gs_I (gs_up F 106 15 ((F 106 15) + 1)) A14 := gs_I_put I15 (show (0 : Int) ≤ (F 106 15) + 1 ∧ (F 106 15) + 1 ≤ 3700 by omega)
      have f20 := gs_fr_put f16 (a := 106) (z := (F 106 15) + 1) (j := 15) (by first | omega | (dsimp only; omega) | (dsimp only) | fail)
      have v21 : gs_up F 106 15 ((F 106 15) + 1) 106 15 = (F 106 15) + 1 := gs_up_self _ _ _ _
      generalize gs_up F 106 15 ((F 106 15) + 1) = F18 at I19 f20 v21 ⊢
      refine sA_vret dd_X9_put_57 rfl ?_
      refine ⟨rfl, I19, f20, ?_⟩
      have hp : gs_psh (F 106 15) (A 115) x 3700 (F18 106 15) (A14 115) := by
        first | (exact .inl ⟨by omega, by omega, by omega, u17⟩) | (exact .inr (.inl ⟨by omega, by omega, by omega, u17⟩)) | (exact .inr (.inr ⟨by omega, by omega, by omega, u17⟩)) | fail
      exact ⟨by omega, by omega, gs_psh_stk (by omega) (by omega) hp⟩
    · skip
      refine sA_aload_n dd_X9_put_24 rfl (.head _) ?_
      refine sA_dup dd_X9_put_25 rfl ?_
      refine sA_geti (ci := 9) (j := 15) (q := (RX9, TX9, 28)) dd_X9_put_26 rfl (by decide) fl_X9_157 (by decide) gs_s106 rfl ?_
      refine sA_iconst (z := 1) dd_X9_put_29 ?_
      refine sA_isub dd_X9_put_30 ?_
      refine sA_put (ci := 9) (j := 15) (q := (RX9, TX9, 28)) (ty := .int) dd_X9_put_31 rfl (by decide) fl_X9_157 rfl (tyX9_ok 15 (by decide)) rfl rfl (by decide) gs_s106 rfl ?_
      have I23 : gs_I (gs_up F 106 15 ((F 106 15) - 1)) A := gs_I_put hI (show (0 : Int) ≤ (F 106 15) - 1 ∧ (F 106 15) - 1 ≤ 3700 by omega)
      have f24 := gs_fr_put hf (a := 106) (z := (F 106 15) - 1) (j := 15) (by first | omega | (dsimp only; omega) | (dsimp only) | fail)
      have v25 : gs_up F 106 15 ((F 106 15) - 1) 106 15 = (F 106 15) - 1 := gs_up_self _ _ _ _
      generalize gs_up F 106 15 ((F 106 15) - 1) = F22 at I23 f24 v25 ⊢
      refine sA_goto (tgt := 57) dd_X9_put_34 (by decide) ?_
      refine sA_vret dd_X9_put_57 rfl ?_
      refine ⟨rfl, I23, f24, ?_⟩
      have hp : gs_psh (F 106 15) (A 115) x 3700 (F22 106 15) (A 115) := by
        first | (exact .inl ⟨by omega, by omega, by omega, u2⟩) | (exact .inr (.inl ⟨by omega, by omega, by omega, u2⟩)) | (exact .inr (.inr ⟨by omega, by omega, by omega, u2⟩)) | fail
      exact ⟨by omega, by omega, gs_psh_stk (by omega) (by omega) hp⟩
theorem c_X9_putC_vf {h b : Int} {F A : gs_F} (hI : gs_I F A) (hh : -1 ≤ h ∧ h ≤ 3) (hb : b = 0 ∨ b = 1) (hs : F 106 15 ≤ 3690) : sC m_X9_putC 2 [.ref 106, gs_iv h, gs_iv b] F A (fun rv F' A' => rv = none ∧ gs_I F' A' ∧ gs_fr (fun c j => c = 106 ∧ j = 15) (fun c => c = 115) F A F' A' ∧ (F' 106 15 ≤ F 106 15 + 4 ∧ 0 ≤ F' 106 15 ∧ gs_stk (A' 115) (F' 106 15).toNat = sp_all (gs_stk (A 115) (F 106 15).toNat) (sp_C h b))) := by
  refine sC_of ok_X9_putC.1 (Nat.le_of_ble_eq_true rfl) ?_
  show sA _ _ _ 0 [(0, .ref 106), (1, gs_iv h), (2, gs_iv b)] [] F A
  have hf : gs_fr (fun c j => c = 106 ∧ j = 15) (fun c => c = 115) F A F A := gs_fr_refl _ _ _ _
  have hb15 : (0 : Int) ≤ F 106 15 ∧ F 106 15 ≤ 3700 := hI.1 106 15
  refine sA_iconst (z := 2) dd_X9_putC_0 ?_
  refine sA_iload_n dd_X9_putC_1 rfl (.tail _ (.head _)) ?_
  refine sA_imul dd_X9_putC_2 ?_
  refine sA_iconst (z := 1) dd_X9_putC_3 ?_
  refine sA_iadd dd_X9_putC_4 ?_
  refine sA_istore_n (lv' := [(3, gs_iv ((2 * h) + 1)), (0, .ref 106), (1, gs_iv h), (2, gs_iv b)]) dd_X9_putC_5 rfl (by decide) rfl ?_
  refine sA_iconst (z := 2) dd_X9_putC_6 ?_
  refine sA_iload_n dd_X9_putC_7 rfl (.tail _ (.tail _ (.head _))) ?_
  refine sA_imul dd_X9_putC_8 ?_
  refine sA_iconst (z := 2) dd_X9_putC_9 ?_
  refine sA_iadd dd_X9_putC_10 ?_
  refine sA_istore (lv' := [(4, gs_iv ((2 * h) + 2)), (3, gs_iv ((2 * h) + 1)), (0, .ref 106), (1, gs_iv h), (2, gs_iv b)]) dd_X9_putC_11 (by decide) rfl ?_
  refine sA_iconst (z := 2) dd_X9_putC_13 ?_
  refine sA_iload_n dd_X9_putC_14 rfl (.tail _ (.tail _ (.tail _ (.head _)))) ?_
  refine sA_imul dd_X9_putC_15 ?_
  refine sA_iconst (z := 3) dd_X9_putC_16 ?_
  refine sA_iadd dd_X9_putC_17 ?_
  refine sA_istore (lv' := [(5, gs_iv ((2 * h) + 3)), (4, gs_iv ((2 * h) + 2)), (3, gs_iv ((2 * h) + 1)), (0, .ref 106), (1, gs_iv h), (2, gs_iv b)]) dd_X9_putC_18 (by decide) rfl ?_
  refine sA_iload_n dd_X9_putC_20 rfl (.tail _ (.tail _ (.tail _ (.tail _ (.tail _ (.head _)))))) ?_
  refine sA_if_eq (tgt := 54) dd_X9_putC_21 (by decide) (by omega) (fun q1 => ?_) (fun q1 => ?_)
  · skip
    refine sA_aload_n dd_X9_putC_54 rfl (.tail _ (.tail _ (.tail _ (.head _)))) ?_
    refine sA_iload dd_X9_putC_55 (.tail _ (.head _)) ?_
    refine sA_callV (y2 := m_X9_put) (n2 := 1) (d2 := 1) (a := 106) (ci := 9) (q := (RX9, TX9, 28)) (as := [gs_iv ((2 * h) + 2)]) (rest := []) dd_X9_putC_57 ok_X9_put ml_X9_160 rfl rfl (by decide) gs_s106 rfl rfl (Nat.le_of_ble_eq_true rfl) (by decide) (c_X9_put_vf hI (by omega) (by omega)) (fun r2 F3 A4 h5 => ?_)
    obtain ⟨e7, I8, f9, x6⟩ := h5
    subst e7
    have f10 := gs_fr_tr hf f9 (fun b j h => by first | exact False.elim h | omega | (dsimp only at h ⊢; omega) | fail) (fun b h => by first | exact False.elim h | omega | (dsimp only at h ⊢; omega) | fail)
    have y11 : F3 106 15 ≤ F 106 15 + 1 ∧ 0 ≤ F3 106 15 ∧ gs_stk (A4 115) (F3 106 15).toNat = sp_push (gs_stk (A 115) (F 106 15).toNat) ((2 * h) + 2) := x6
    clear x6
    show sA _ _ _ 60 _ [] _ _
    refine sA_aload_n dd_X9_putC_60 rfl (.tail _ (.tail _ (.tail _ (.head _)))) ?_
    refine sA_iconst (z := 0) dd_X9_putC_61 ?_
    refine sA_iload_n dd_X9_putC_62 rfl (.tail _ (.tail _ (.head _))) ?_
    refine sA_isub dd_X9_putC_63 ?_
    refine sA_callV (y2 := m_X9_put) (n2 := 1) (d2 := 1) (a := 106) (ci := 9) (q := (RX9, TX9, 28)) (as := [gs_iv (0 - ((2 * h) + 1))]) (rest := []) dd_X9_putC_64 ok_X9_put ml_X9_160 rfl rfl (by decide) gs_s106 rfl rfl (Nat.le_of_ble_eq_true rfl) (by decide) (c_X9_put_vf I8 (by omega) (by omega)) (fun r12 F13 A14 h15 => ?_)
    obtain ⟨e17, I18, f19, x16⟩ := h15
    subst e17
    have f20 := gs_fr_tr f10 f19 (fun b j h => by first | exact False.elim h | omega | (dsimp only at h ⊢; omega) | fail) (fun b h => by first | exact False.elim h | omega | (dsimp only at h ⊢; omega) | fail)
    have y21 : F13 106 15 ≤ F3 106 15 + 1 ∧ 0 ≤ F13 106 15 ∧ gs_stk (A14 115) (F13 106 15).toNat = sp_push (gs_stk (A4 115) (F3 106 15).toNat) (0 - ((2 * h) + 1)) := x16
    clear x16
    show sA _ _ _ 67 _ [] _ _
    refine sA_aload_n dd_X9_putC_67 rfl (.tail _ (.tail _ (.tail _ (.head _)))) ?_
    refine sA_iconst (z := 0) dd_X9_putC_68 ?_
    refine sA_iload dd_X9_putC_69 (.tail _ (.head _)) ?_
    refine sA_isub dd_X9_putC_71 ?_
    refine sA_callV (y2 := m_X9_put) (n2 := 1) (d2 := 1) (a := 106) (ci := 9) (q := (RX9, TX9, 28)) (as := [gs_iv (0 - ((2 * h) + 2))]) (rest := []) dd_X9_putC_72 ok_X9_put ml_X9_160 rfl rfl (by decide) gs_s106 rfl rfl (Nat.le_of_ble_eq_true rfl) (by decide) (c_X9_put_vf I18 (by omega) (by omega)) (fun r22 F23 A24 h25 => ?_)
    obtain ⟨e27, I28, f29, x26⟩ := h25
    subst e27
    have f30 := gs_fr_tr f20 f29 (fun b j h => by first | exact False.elim h | omega | (dsimp only at h ⊢; omega) | fail) (fun b h => by first | exact False.elim h | omega | (dsimp only at h ⊢; omega) | fail)
    have y31 : F23 106 15 ≤ F13 106 15 + 1 ∧ 0 ≤ F23 106 15 ∧ gs_stk (A24 115) (F23 106 15).toNat = sp_push (gs_stk (A14 115) (F13 106 15).toNat) (0 - ((2 * h) + 2)) := x26
    clear x26
    show sA _ _ _ 75 _ [] _ _
    refine sA_aload_n dd_X9_putC_75 rfl (.tail _ (.tail _ (.tail _ (.head _)))) ?_
    refine sA_iload dd_X9_putC_76 (.head _) ?_
    refine sA_callV (y2 := m_X9_put) (n2 := 1) (d2 := 1) (a := 106) (ci := 9) (q := (RX9, TX9, 28)) (as := [gs_iv ((2 * h) + 3)]) (rest := []) dd_X9_putC_78 ok_X9_put ml_X9_160 rfl rfl (by decide) gs_s106 rfl rfl (Nat.le_of_ble_eq_true rfl) (by decide) (c_X9_put_vf I28 (by omega) (by omega)) (fun r32 F33 A34 h35 => ?_)
    obtain ⟨e37, I38, f39, x36⟩ := h35
    subst e37
    have f40 := gs_fr_tr f30 f39 (fun b j h => by first | exact False.elim h | omega | (dsimp only at h ⊢; omega) | fail) (fun b h => by first | exact False.elim h | omega | (dsimp only at h ⊢; omega) | fail)
    have y41 : F33 106 15 ≤ F23 106 15 + 1 ∧ 0 ≤ F33 106 15 ∧ gs_stk (A34 115) (F33 106 15).toNat = sp_push (gs_stk (A24 115) (F23 106 15).toNat) ((2 * h) + 3) := x36
    clear x36
    show sA _ _ _ 81 _ [] _ _
    refine sA_vret dd_X9_putC_81 rfl ?_
    refine ⟨rfl, I38, f40, ?_⟩
    refine ⟨by omega, by omega, ?_⟩
    unfold sp_C
    rw [if_neg (by omega)]
    show _ = sp_push (sp_push (sp_push (sp_push _ _) _) _) _
    exact (y41.2.2.trans (sp_push_cg (by omega) (y31.2.2.trans (sp_push_cg (by omega) (y21.2.2.trans (sp_push_cg (by omega) (y11.2.2.trans (sp_push_cg (by omega) rfl))))))))
  · skip
    refine sA_aload_n dd_X9_putC_24 rfl (.tail _ (.tail _ (.tail _ (.head _)))) ?_
    refine sA_iconst (z := 0) dd_X9_putC_25 ?_
    refine sA_iload dd_X9_putC_26 (.head _) ?_
    refine sA_isub dd_X9_putC_28 ?_
    refine sA_callV (y2 := m_X9_put) (n2 := 1) (d2 := 1) (a := 106) (ci := 9) (q := (RX9, TX9, 28)) (as := [gs_iv (0 - ((2 * h) + 3))]) (rest := []) dd_X9_putC_29 ok_X9_put ml_X9_160 rfl rfl (by decide) gs_s106 rfl rfl (Nat.le_of_ble_eq_true rfl) (by decide) (c_X9_put_vf hI (by omega) (by omega)) (fun r42 F43 A44 h45 => ?_)
    obtain ⟨e47, I48, f49, x46⟩ := h45
    subst e47
    have f50 := gs_fr_tr hf f49 (fun b j h => by first | exact False.elim h | omega | (dsimp only at h ⊢; omega) | fail) (fun b h => by first | exact False.elim h | omega | (dsimp only at h ⊢; omega) | fail)
    have y51 : F43 106 15 ≤ F 106 15 + 1 ∧ 0 ≤ F43 106 15 ∧ gs_stk (A44 115) (F43 106 15).toNat = sp_push (gs_stk (A 115) (F 106 15).toNat) (0 - ((2 * h) + 3)) := x46
    clear x46
    show sA _ _ _ 32 _ [] _ _
    refine sA_aload_n dd_X9_putC_32 rfl (.tail _ (.tail _ (.tail _ (.head _)))) ?_
    refine sA_iload dd_X9_putC_33 (.tail _ (.head _)) ?_
    refine sA_callV (y2 := m_X9_put) (n2 := 1) (d2 := 1) (a := 106) (ci := 9) (q := (RX9, TX9, 28)) (as := [gs_iv ((2 * h) + 2)]) (rest := []) dd_X9_putC_35 ok_X9_put ml_X9_160 rfl rfl (by decide) gs_s106 rfl rfl (Nat.le_of_ble_eq_true rfl) (by decide) (c_X9_put_vf I48 (by omega) (by omega)) (fun r52 F53 A54 h55 => ?_)
    obtain ⟨e57, I58, f59, x56⟩ := h55
    subst e57
    have f60 := gs_fr_tr f50 f59 (fun b j h => by first | exact False.elim h | omega | (dsimp only at h ⊢; omega) | fail) (fun b h => by first | exact False.elim h | omega | (dsimp only at h ⊢; omega) | fail)
    have y61 : F53 106 15 ≤ F43 106 15 + 1 ∧ 0 ≤ F53 106 15 ∧ gs_stk (A54 115) (F53 106 15).toNat = sp_push (gs_stk (A44 115) (F43 106 15).toNat) ((2 * h) + 2) := x56
    clear x56
    show sA _ _ _ 38 _ [] _ _
    refine sA_aload_n dd_X9_putC_38 rfl (.tail _ (.tail _ (.tail _ (.head _)))) ?_
    refine sA_iload_n dd_X9_putC_39 rfl (.tail _ (.tail _ (.head _))) ?_
    refine sA_callV (y2 := m_X9_put) (n2 := 1) (d2 := 1) (a := 106) (ci := 9) (q := (RX9, TX9, 28)) (as := [gs_iv ((2 * h) + 1)]) (rest := []) dd_X9_putC_40 ok_X9_put ml_X9_160 rfl rfl (by decide) gs_s106 rfl rfl (Nat.le_of_ble_eq_true rfl) (by decide) (c_X9_put_vf I58 (by omega) (by omega)) (fun r62 F63 A64 h65 => ?_)
    obtain ⟨e67, I68, f69, x66⟩ := h65
    subst e67
    have f70 := gs_fr_tr f60 f69 (fun b j h => by first | exact False.elim h | omega | (dsimp only at h ⊢; omega) | fail) (fun b h => by first | exact False.elim h | omega | (dsimp only at h ⊢; omega) | fail)
    have y71 : F63 106 15 ≤ F53 106 15 + 1 ∧ 0 ≤ F63 106 15 ∧ gs_stk (A64 115) (F63 106 15).toNat = sp_push (gs_stk (A54 115) (F53 106 15).toNat) ((2 * h) + 1) := x66
    clear x66
    show sA _ _ _ 43 _ [] _ _
    refine sA_aload_n dd_X9_putC_43 rfl (.tail _ (.tail _ (.tail _ (.head _)))) ?_
    refine sA_iconst (z := 0) dd_X9_putC_44 ?_
    refine sA_iload dd_X9_putC_45 (.tail _ (.head _)) ?_
    refine sA_isub dd_X9_putC_47 ?_
    refine sA_callV (y2 := m_X9_put) (n2 := 1) (d2 := 1) (a := 106) (ci := 9) (q := (RX9, TX9, 28)) (as := [gs_iv (0 - ((2 * h) + 2))]) (rest := []) dd_X9_putC_48 ok_X9_put ml_X9_160 rfl rfl (by decide) gs_s106 rfl rfl (Nat.le_of_ble_eq_true rfl) (by decide) (c_X9_put_vf I68 (by omega) (by omega)) (fun r72 F73 A74 h75 => ?_)
    obtain ⟨e77, I78, f79, x76⟩ := h75
    subst e77
    have f80 := gs_fr_tr f70 f79 (fun b j h => by first | exact False.elim h | omega | (dsimp only at h ⊢; omega) | fail) (fun b h => by first | exact False.elim h | omega | (dsimp only at h ⊢; omega) | fail)
    have y81 : F73 106 15 ≤ F63 106 15 + 1 ∧ 0 ≤ F73 106 15 ∧ gs_stk (A74 115) (F73 106 15).toNat = sp_push (gs_stk (A64 115) (F63 106 15).toNat) (0 - ((2 * h) + 2)) := x76
    clear x76
    show sA _ _ _ 51 _ [] _ _
    refine sA_goto (tgt := 81) dd_X9_putC_51 (by decide) ?_
    refine sA_vret dd_X9_putC_81 rfl ?_
    refine ⟨rfl, I78, f80, ?_⟩
    refine ⟨by omega, by omega, ?_⟩
    unfold sp_C
    rw [if_pos (by omega)]
    show _ = sp_push (sp_push (sp_push (sp_push _ _) _) _) _
    exact (y81.2.2.trans (sp_push_cg (by omega) (y71.2.2.trans (sp_push_cg (by omega) (y61.2.2.trans (sp_push_cg (by omega) (y51.2.2.trans (sp_push_cg (by omega) rfl))))))))
theorem c_X9_putImage_vf {t o x b : Int} {F A : gs_F} (hI : gs_I F A) (ht : -1073741824 ≤ t ∧ t ≤ 1073741823) (ho : o = 0 ∨ o = 1) (hx : 0 ≤ x ∧ x ≤ 9) (hb : b = 0 ∨ b = 1) (hs : F 106 15 ≤ 3680) : sC m_X9_putImage 3 [.ref 106, gs_iv t, gs_iv o, gs_iv x, gs_iv b] F A (fun rv F' A' => rv = none ∧ gs_I F' A' ∧ gs_fr (fun c j => c = 106 ∧ j = 15) (fun c => c = 115) F A F' A' ∧ (F' 106 15 ≤ F 106 15 + 9 ∧ 0 ≤ F' 106 15 ∧ gs_stk (A' 115) (F' 106 15).toNat = sp_all (gs_stk (A 115) (F 106 15).toNat) (sp_mi (F 106 0) t o x b))) := by
  refine sC_of ok_X9_putImage.1 (Nat.le_of_ble_eq_true rfl) ?_
  show sA _ _ _ 0 [(0, .ref 106), (1, gs_iv t), (2, gs_iv o), (3, gs_iv x), (4, gs_iv b)] [] F A
  have hf : gs_fr (fun c j => c = 106 ∧ j = 15) (fun c => c = 115) F A F A := gs_fr_refl _ _ _ _
  have b1 : (1 : Int) ≤ F 106 0 ∧ F 106 0 ≤ 3 := hI.1 106 0
  have hb15 : (0 : Int) ≤ F 106 15 ∧ F 106 15 ≤ 3700 := hI.1 106 15
  refine sA_iload_n dd_X9_putImage_0 rfl (.tail _ (.head _)) ?_
  refine sA_aload_n dd_X9_putImage_1 rfl (.head _) ?_
  refine sA_geti (ci := 9) (j := 0) (q := (RX9, TX9, 28)) dd_X9_putImage_2 rfl (by decide) fl_X9_64 (by decide) gs_s106 rfl ?_
  refine sA_icmp_ge (tgt := 12) dd_X9_putImage_5 (by decide) (by omega) (by omega) (fun q2 => ?_) (fun q2 => ?_)
  · skip
    refine sA_iload_n dd_X9_putImage_12 rfl (.tail _ (.head _)) ?_
    refine sA_iconst (z := 2) dd_X9_putImage_13 ?_
    refine sA_aload_n dd_X9_putImage_14 rfl (.head _) ?_
    refine sA_geti (ci := 9) (j := 0) (q := (RX9, TX9, 28)) dd_X9_putImage_15 rfl (by decide) fl_X9_64 (by decide) gs_s106 rfl ?_
    refine sA_imul dd_X9_putImage_18 ?_
    refine sA_icmp_ge (tgt := 26) dd_X9_putImage_19 (by decide) (by omega) (by omega) (fun q3 => ?_) (fun q3 => ?_)
    · skip
      refine sA_iconst (z := 2) dd_X9_putImage_26 ?_
      refine sA_istore (lv' := [(5, gs_iv 2), (0, .ref 106), (1, gs_iv t), (2, gs_iv o), (3, gs_iv x), (4, gs_iv b)]) dd_X9_putImage_27 (by decide) rfl ?_
      refine sA_iload_n dd_X9_putImage_29 rfl (.tail _ (.tail _ (.head _))) ?_
      refine sA_iload dd_X9_putImage_30 (.head _) ?_
      refine sA_aload_n dd_X9_putImage_32 rfl (.tail _ (.head _)) ?_
      refine sA_geti (ci := 9) (j := 0) (q := (RX9, TX9, 28)) dd_X9_putImage_33 rfl (by decide) fl_X9_64 (by decide) gs_s106 rfl ?_
      refine sA_imul dd_X9_putImage_36 ?_
      refine sA_isub dd_X9_putImage_37 ?_
      refine sA_istore (lv' := [(6, gs_iv (t - (2 * (F 106 0)))), (5, gs_iv 2), (0, .ref 106), (1, gs_iv t), (2, gs_iv o), (3, gs_iv x), (4, gs_iv b)]) dd_X9_putImage_38 (by decide) rfl ?_
      refine sA_iconst (z := 2) dd_X9_putImage_40 ?_
      refine sA_iload dd_X9_putImage_41 (.head _) ?_
      refine sA_imul dd_X9_putImage_43 ?_
      refine sA_iconst (z := 1) dd_X9_putImage_44 ?_
      refine sA_iadd dd_X9_putImage_45 ?_
      refine sA_istore (lv' := [(7, gs_iv ((2 * (t - (2 * (F 106 0)))) + 1)), (6, gs_iv (t - (2 * (F 106 0)))), (5, gs_iv 2), (0, .ref 106), (1, gs_iv t), (2, gs_iv o), (3, gs_iv x), (4, gs_iv b)]) dd_X9_putImage_46 (by decide) rfl ?_
      refine sA_iconst (z := 2) dd_X9_putImage_48 ?_
      refine sA_iload dd_X9_putImage_49 (.tail _ (.head _)) ?_
      refine sA_imul dd_X9_putImage_51 ?_
      refine sA_iconst (z := 2) dd_X9_putImage_52 ?_
      refine sA_iadd dd_X9_putImage_53 ?_
      refine sA_istore (lv' := [(8, gs_iv ((2 * (t - (2 * (F 106 0)))) + 2)), (7, gs_iv ((2 * (t - (2 * (F 106 0)))) + 1)), (6, gs_iv (t - (2 * (F 106 0)))), (5, gs_iv 2), (0, .ref 106), (1, gs_iv t), (2, gs_iv o), (3, gs_iv x), (4, gs_iv b)]) dd_X9_putImage_54 (by decide) rfl ?_
      refine sA_iload dd_X9_putImage_56 (.tail _ (.tail _ (.tail _ (.head _)))) ?_
      refine sA_if_ne (tgt := 121) dd_X9_putImage_58 (by decide) (by omega) (fun q4 => ?_) (fun q4 => absurd q4 (by omega))
      refine sA_iload dd_X9_putImage_121 (.tail _ (.tail _ (.tail _ (.head _)))) ?_
      refine sA_iconst (z := 1) dd_X9_putImage_123 ?_
      refine sA_icmp_ne (tgt := 187) dd_X9_putImage_124 (by decide) (by omega) (by omega) (fun q5 => ?_) (fun q5 => absurd q5 (by omega))
      refine sA_iload dd_X9_putImage_187 (.tail _ (.tail _ (.tail _ (.head _)))) ?_
      refine sA_iconst (z := 2) dd_X9_putImage_189 ?_
      refine sA_icmp_ne (tgt := 246) dd_X9_putImage_190 (by decide) (by omega) (by omega) (fun q6 => absurd q6 (by omega)) (fun q6 => ?_)
      refine sA_iload_n dd_X9_putImage_193 rfl (.tail _ (.tail _ (.tail _ (.tail _ (.tail _ (.tail _ (.tail _ (.head _)))))))) ?_
      refine sA_iload dd_X9_putImage_194 (.head _) ?_
      refine sA_icmp_ne (tgt := 246) dd_X9_putImage_196 (by decide) (by omega) (by omega) (fun q7 => ?_) (fun q7 => ?_)
      · skip
        refine sA_iload dd_X9_putImage_246 (.tail _ (.tail _ (.tail _ (.head _)))) ?_
        refine sA_iconst (z := 2) dd_X9_putImage_248 ?_
        refine sA_icmp_ne (tgt := 301) dd_X9_putImage_249 (by decide) (by omega) (by omega) (fun q8 => absurd q8 (by omega)) (fun q8 => ?_)
        refine sA_iload_n dd_X9_putImage_252 rfl (.tail _ (.tail _ (.tail _ (.tail _ (.tail _ (.tail _ (.tail _ (.head _)))))))) ?_
        refine sA_iload dd_X9_putImage_253 (.head _) ?_
        refine sA_iconst (z := 1) dd_X9_putImage_255 ?_
        refine sA_iadd dd_X9_putImage_256 ?_
        refine sA_icmp_ne (tgt := 301) dd_X9_putImage_257 (by decide) (by omega) (by omega) (fun q9 => ?_) (fun q9 => ?_)
        · skip
          refine sA_iload dd_X9_putImage_301 (.tail _ (.tail _ (.tail _ (.head _)))) ?_
          refine sA_iconst (z := 2) dd_X9_putImage_303 ?_
          refine sA_icmp_ne (tgt := 360) dd_X9_putImage_304 (by decide) (by omega) (by omega) (fun q10 => absurd q10 (by omega)) (fun q10 => ?_)
          refine sA_iload_n dd_X9_putImage_307 rfl (.tail _ (.tail _ (.tail _ (.tail _ (.tail _ (.tail _ (.tail _ (.head _)))))))) ?_
          refine sA_iload dd_X9_putImage_308 (.head _) ?_
          refine sA_iconst (z := 2) dd_X9_putImage_310 ?_
          refine sA_iadd dd_X9_putImage_311 ?_
          refine sA_icmp_ne (tgt := 360) dd_X9_putImage_312 (by decide) (by omega) (by omega) (fun q11 => ?_) (fun q11 => ?_)
          · skip
            refine sA_aload_n dd_X9_putImage_360 rfl (.tail _ (.tail _ (.tail _ (.tail _ (.head _))))) ?_
            refine sA_iload dd_X9_putImage_361 (.tail _ (.tail _ (.tail _ (.tail _ (.tail _ (.tail _ (.tail _ (.tail _ (.head _))))))))) ?_
            refine sA_if_eq (tgt := 372) dd_X9_putImage_363 (by decide) (by omega) (fun q12 => ?_) (fun q12 => ?_)
            · skip
              refine sA_iload_n dd_X9_putImage_372 rfl (.tail _ (.tail _ (.tail _ (.tail _ (.tail _ (.tail _ (.tail _ (.head _)))))))) ?_
              refine sA_callV (y2 := m_X9_put) (n2 := 1) (d2 := 1) (a := 106) (ci := 9) (q := (RX9, TX9, 28)) (as := [gs_iv x]) (rest := []) dd_X9_putImage_373 ok_X9_put ml_X9_160 rfl rfl (by decide) gs_s106 rfl rfl (Nat.le_of_ble_eq_true rfl) (by decide) (c_X9_put_vf hI (by omega) (by omega)) (fun r13 F14 A15 h16 => ?_)
              obtain ⟨e18, I19, f20, x17⟩ := h16
              subst e18
              have v21 : F14 106 0 = F 106 0 := f20.1 106 0 (by first | exact id | omega | (dsimp only; omega) | (dsimp only) | fail)
              have f22 := gs_fr_tr hf f20 (fun b j h => by first | exact False.elim h | omega | (dsimp only at h ⊢; omega) | fail) (fun b h => by first | exact False.elim h | omega | (dsimp only at h ⊢; omega) | fail)
              have y23 : F14 106 15 ≤ F 106 15 + 1 ∧ 0 ≤ F14 106 15 ∧ gs_stk (A15 115) (F14 106 15).toNat = sp_push (gs_stk (A 115) (F 106 15).toNat) x := x17
              clear x17
              show sA _ _ _ 376 _ [] _ _
              refine sA_vret dd_X9_putImage_376 rfl ?_
              refine ⟨rfl, I19, f22, ?_⟩
              refine ⟨by omega, by omega, ?_⟩
              unfold sp_mi
              repeat (first | rw [if_pos (by omega)] | rw [if_neg (by omega)] | fail)
              show _ = sp_push _ _
              exact (y23.2.2.trans (sp_push_cg (by omega) rfl))
            · skip
              refine sA_iconst (z := 0) dd_X9_putImage_366 ?_
              refine sA_iload_n dd_X9_putImage_367 rfl (.tail _ (.tail _ (.tail _ (.tail _ (.tail _ (.tail _ (.tail _ (.head _)))))))) ?_
              refine sA_isub dd_X9_putImage_368 ?_
              refine sA_goto (tgt := 373) dd_X9_putImage_369 (by decide) ?_
              refine sA_callV (y2 := m_X9_put) (n2 := 1) (d2 := 1) (a := 106) (ci := 9) (q := (RX9, TX9, 28)) (as := [gs_iv (0 - x)]) (rest := []) dd_X9_putImage_373 ok_X9_put ml_X9_160 rfl rfl (by decide) gs_s106 rfl rfl (Nat.le_of_ble_eq_true rfl) (by decide) (c_X9_put_vf hI (by omega) (by omega)) (fun r24 F25 A26 h27 => ?_)
              obtain ⟨e29, I30, f31, x28⟩ := h27
              subst e29
              have v32 : F25 106 0 = F 106 0 := f31.1 106 0 (by first | exact id | omega | (dsimp only; omega) | (dsimp only) | fail)
              have f33 := gs_fr_tr hf f31 (fun b j h => by first | exact False.elim h | omega | (dsimp only at h ⊢; omega) | fail) (fun b h => by first | exact False.elim h | omega | (dsimp only at h ⊢; omega) | fail)
              have y34 : F25 106 15 ≤ F 106 15 + 1 ∧ 0 ≤ F25 106 15 ∧ gs_stk (A26 115) (F25 106 15).toNat = sp_push (gs_stk (A 115) (F 106 15).toNat) (0 - x) := x28
              clear x28
              show sA _ _ _ 376 _ [] _ _
              refine sA_vret dd_X9_putImage_376 rfl ?_
              refine ⟨rfl, I30, f33, ?_⟩
              refine ⟨by omega, by omega, ?_⟩
              unfold sp_mi
              repeat (first | rw [if_pos (by omega)] | rw [if_neg (by omega)] | fail)
              show _ = sp_push _ _
              exact (y34.2.2.trans (sp_push_cg (by omega) rfl))
          · skip
            refine sA_iload dd_X9_putImage_315 (.tail _ (.tail _ (.tail _ (.tail _ (.tail _ (.tail _ (.tail _ (.tail _ (.head _))))))))) ?_
            refine sA_if_eq (tgt := 345) dd_X9_putImage_317 (by decide) (by omega) (fun q35 => ?_) (fun q35 => ?_)
            · skip
              refine sA_aload_n dd_X9_putImage_345 rfl (.tail _ (.tail _ (.tail _ (.tail _ (.head _))))) ?_
              refine sA_iload_n dd_X9_putImage_346 rfl (.tail _ (.tail _ (.tail _ (.tail _ (.tail _ (.tail _ (.tail _ (.head _)))))))) ?_
              refine sA_callV (y2 := m_X9_put) (n2 := 1) (d2 := 1) (a := 106) (ci := 9) (q := (RX9, TX9, 28)) (as := [gs_iv x]) (rest := []) dd_X9_putImage_347 ok_X9_put ml_X9_160 rfl rfl (by decide) gs_s106 rfl rfl (Nat.le_of_ble_eq_true rfl) (by decide) (c_X9_put_vf hI (by omega) (by omega)) (fun r36 F37 A38 h39 => ?_)
              obtain ⟨e41, I42, f43, x40⟩ := h39
              subst e41
              have v44 : F37 106 0 = F 106 0 := f43.1 106 0 (by first | exact id | omega | (dsimp only; omega) | (dsimp only) | fail)
              have f45 := gs_fr_tr hf f43 (fun b j h => by first | exact False.elim h | omega | (dsimp only at h ⊢; omega) | fail) (fun b h => by first | exact False.elim h | omega | (dsimp only at h ⊢; omega) | fail)
              have y46 : F37 106 15 ≤ F 106 15 + 1 ∧ 0 ≤ F37 106 15 ∧ gs_stk (A38 115) (F37 106 15).toNat = sp_push (gs_stk (A 115) (F 106 15).toNat) x := x40
              clear x40
              show sA _ _ _ 350 _ [] _ _
              refine sA_aload_n dd_X9_putImage_350 rfl (.tail _ (.tail _ (.tail _ (.tail _ (.head _))))) ?_
              refine sA_iload dd_X9_putImage_351 (.tail _ (.tail _ (.head _))) ?_
              refine sA_iload_n dd_X9_putImage_353 rfl (.tail _ (.tail _ (.tail _ (.tail _ (.tail _ (.tail _ (.head _))))))) ?_
              refine sA_callV (y2 := m_X9_putC) (n2 := 2) (d2 := 2) (a := 106) (ci := 9) (q := (RX9, TX9, 28)) (as := [gs_iv (t - (2 * (F 106 0))), gs_iv o]) (rest := []) dd_X9_putImage_354 ok_X9_putC ml_X9_163 rfl rfl (by decide) gs_s106 rfl rfl (Nat.le_of_ble_eq_true rfl) (by decide) (c_X9_putC_vf I42 (by omega) (by omega) (by omega)) (fun r47 F48 A49 h50 => ?_)
              obtain ⟨e52, I53, f54, x51⟩ := h50
              subst e52
              have v55 : F48 106 0 = F37 106 0 := f54.1 106 0 (by first | exact id | omega | (dsimp only; omega) | (dsimp only) | fail)
              have f56 := gs_fr_tr f45 f54 (fun b j h => by first | exact False.elim h | omega | (dsimp only at h ⊢; omega) | fail) (fun b h => by first | exact False.elim h | omega | (dsimp only at h ⊢; omega) | fail)
              have y57 : F48 106 15 ≤ F37 106 15 + 4 ∧ 0 ≤ F48 106 15 ∧ gs_stk (A49 115) (F48 106 15).toNat = sp_all (gs_stk (A38 115) (F37 106 15).toNat) (sp_C (t - (2 * (F 106 0))) o) := x51
              clear x51
              show sA _ _ _ 357 _ [] _ _
              refine sA_goto (tgt := 376) dd_X9_putImage_357 (by decide) ?_
              refine sA_vret dd_X9_putImage_376 rfl ?_
              refine ⟨rfl, I53, f56, ?_⟩
              refine ⟨by omega, by omega, ?_⟩
              unfold sp_mi
              repeat (first | rw [if_pos (by omega)] | rw [if_neg (by omega)] | fail)
              rw [sp_all_app]
              show _ = sp_all (sp_push _ _) _
              exact (y57.2.2.trans (sp_all_cg2 (y46.2.2.trans (sp_push_cg (by omega) rfl)) (sp_C_cg (by omega) (by omega))))
            · skip
              refine sA_aload_n dd_X9_putImage_320 rfl (.tail _ (.tail _ (.tail _ (.tail _ (.head _))))) ?_
              refine sA_iload dd_X9_putImage_321 (.tail _ (.tail _ (.head _))) ?_
              refine sA_iload_n dd_X9_putImage_323 rfl (.tail _ (.tail _ (.tail _ (.tail _ (.tail _ (.tail _ (.head _))))))) ?_
              refine sA_if_ne (tgt := 331) dd_X9_putImage_324 (by decide) (by omega) (fun q58 => ?_) (fun q58 => ?_)
              · skip
                refine sA_iconst (z := 0) dd_X9_putImage_331 ?_
                refine sA_callV (y2 := m_X9_putC) (n2 := 2) (d2 := 2) (a := 106) (ci := 9) (q := (RX9, TX9, 28)) (as := [gs_iv (t - (2 * (F 106 0))), gs_iv 0]) (rest := []) dd_X9_putImage_332 ok_X9_putC ml_X9_163 rfl rfl (by decide) gs_s106 rfl rfl (Nat.le_of_ble_eq_true rfl) (by decide) (c_X9_putC_vf hI (by omega) (by omega) (by omega)) (fun r59 F60 A61 h62 => ?_)
                obtain ⟨e64, I65, f66, x63⟩ := h62
                subst e64
                have v67 : F60 106 0 = F 106 0 := f66.1 106 0 (by first | exact id | omega | (dsimp only; omega) | (dsimp only) | fail)
                have f68 := gs_fr_tr hf f66 (fun b j h => by first | exact False.elim h | omega | (dsimp only at h ⊢; omega) | fail) (fun b h => by first | exact False.elim h | omega | (dsimp only at h ⊢; omega) | fail)
                have y69 : F60 106 15 ≤ F 106 15 + 4 ∧ 0 ≤ F60 106 15 ∧ gs_stk (A61 115) (F60 106 15).toNat = sp_all (gs_stk (A 115) (F 106 15).toNat) (sp_C (t - (2 * (F 106 0))) (0 : Int)) := x63
                clear x63
                show sA _ _ _ 335 _ [] _ _
                refine sA_aload_n dd_X9_putImage_335 rfl (.tail _ (.tail _ (.tail _ (.tail _ (.head _))))) ?_
                refine sA_iconst (z := 0) dd_X9_putImage_336 ?_
                refine sA_iload_n dd_X9_putImage_337 rfl (.tail _ (.tail _ (.tail _ (.tail _ (.tail _ (.tail _ (.tail _ (.head _)))))))) ?_
                refine sA_isub dd_X9_putImage_338 ?_
                refine sA_callV (y2 := m_X9_put) (n2 := 1) (d2 := 1) (a := 106) (ci := 9) (q := (RX9, TX9, 28)) (as := [gs_iv (0 - x)]) (rest := []) dd_X9_putImage_339 ok_X9_put ml_X9_160 rfl rfl (by decide) gs_s106 rfl rfl (Nat.le_of_ble_eq_true rfl) (by decide) (c_X9_put_vf I65 (by omega) (by omega)) (fun r70 F71 A72 h73 => ?_)
                obtain ⟨e75, I76, f77, x74⟩ := h73
                subst e75
                have v78 : F71 106 0 = F60 106 0 := f77.1 106 0 (by first | exact id | omega | (dsimp only; omega) | (dsimp only) | fail)
                have f79 := gs_fr_tr f68 f77 (fun b j h => by first | exact False.elim h | omega | (dsimp only at h ⊢; omega) | fail) (fun b h => by first | exact False.elim h | omega | (dsimp only at h ⊢; omega) | fail)
                have y80 : F71 106 15 ≤ F60 106 15 + 1 ∧ 0 ≤ F71 106 15 ∧ gs_stk (A72 115) (F71 106 15).toNat = sp_push (gs_stk (A61 115) (F60 106 15).toNat) (0 - x) := x74
                clear x74
                show sA _ _ _ 342 _ [] _ _
                refine sA_goto (tgt := 376) dd_X9_putImage_342 (by decide) ?_
                refine sA_vret dd_X9_putImage_376 rfl ?_
                refine ⟨rfl, I76, f79, ?_⟩
                refine ⟨by omega, by omega, ?_⟩
                unfold sp_mi
                repeat (first | rw [if_pos (by omega)] | rw [if_neg (by omega)] | fail)
                rw [sp_all_app]
                show _ = sp_push (sp_all _ _) _
                exact (y80.2.2.trans (sp_push_cg (by omega) (y69.2.2.trans (sp_all_cg2 rfl (sp_C_cg (by omega) (by omega))))))
              · skip
                refine sA_iconst (z := 1) dd_X9_putImage_327 ?_
                refine sA_goto (tgt := 332) dd_X9_putImage_328 (by decide) ?_
                refine sA_callV (y2 := m_X9_putC) (n2 := 2) (d2 := 2) (a := 106) (ci := 9) (q := (RX9, TX9, 28)) (as := [gs_iv (t - (2 * (F 106 0))), gs_iv 1]) (rest := []) dd_X9_putImage_332 ok_X9_putC ml_X9_163 rfl rfl (by decide) gs_s106 rfl rfl (Nat.le_of_ble_eq_true rfl) (by decide) (c_X9_putC_vf hI (by omega) (by omega) (by omega)) (fun r81 F82 A83 h84 => ?_)
                obtain ⟨e86, I87, f88, x85⟩ := h84
                subst e86
                have v89 : F82 106 0 = F 106 0 := f88.1 106 0 (by first | exact id | omega | (dsimp only; omega) | (dsimp only) | fail)
                have f90 := gs_fr_tr hf f88 (fun b j h => by first | exact False.elim h | omega | (dsimp only at h ⊢; omega) | fail) (fun b h => by first | exact False.elim h | omega | (dsimp only at h ⊢; omega) | fail)
                have y91 : F82 106 15 ≤ F 106 15 + 4 ∧ 0 ≤ F82 106 15 ∧ gs_stk (A83 115) (F82 106 15).toNat = sp_all (gs_stk (A 115) (F 106 15).toNat) (sp_C (t - (2 * (F 106 0))) (1 : Int)) := x85
                clear x85
                show sA _ _ _ 335 _ [] _ _
                refine sA_aload_n dd_X9_putImage_335 rfl (.tail _ (.tail _ (.tail _ (.tail _ (.head _))))) ?_
                refine sA_iconst (z := 0) dd_X9_putImage_336 ?_
                refine sA_iload_n dd_X9_putImage_337 rfl (.tail _ (.tail _ (.tail _ (.tail _ (.tail _ (.tail _ (.tail _ (.head _)))))))) ?_
                refine sA_isub dd_X9_putImage_338 ?_
                refine sA_callV (y2 := m_X9_put) (n2 := 1) (d2 := 1) (a := 106) (ci := 9) (q := (RX9, TX9, 28)) (as := [gs_iv (0 - x)]) (rest := []) dd_X9_putImage_339 ok_X9_put ml_X9_160 rfl rfl (by decide) gs_s106 rfl rfl (Nat.le_of_ble_eq_true rfl) (by decide) (c_X9_put_vf I87 (by omega) (by omega)) (fun r92 F93 A94 h95 => ?_)
                obtain ⟨e97, I98, f99, x96⟩ := h95
                subst e97
                have v100 : F93 106 0 = F82 106 0 := f99.1 106 0 (by first | exact id | omega | (dsimp only; omega) | (dsimp only) | fail)
                have f101 := gs_fr_tr f90 f99 (fun b j h => by first | exact False.elim h | omega | (dsimp only at h ⊢; omega) | fail) (fun b h => by first | exact False.elim h | omega | (dsimp only at h ⊢; omega) | fail)
                have y102 : F93 106 15 ≤ F82 106 15 + 1 ∧ 0 ≤ F93 106 15 ∧ gs_stk (A94 115) (F93 106 15).toNat = sp_push (gs_stk (A83 115) (F82 106 15).toNat) (0 - x) := x96
                clear x96
                show sA _ _ _ 342 _ [] _ _
                refine sA_goto (tgt := 376) dd_X9_putImage_342 (by decide) ?_
                refine sA_vret dd_X9_putImage_376 rfl ?_
                refine ⟨rfl, I98, f101, ?_⟩
                refine ⟨by omega, by omega, ?_⟩
                unfold sp_mi
                repeat (first | rw [if_pos (by omega)] | rw [if_neg (by omega)] | fail)
                rw [sp_all_app]
                show _ = sp_push (sp_all _ _) _
                exact (y102.2.2.trans (sp_push_cg (by omega) (y91.2.2.trans (sp_all_cg2 rfl (sp_C_cg (by omega) (by omega))))))
        · skip
          refine sA_aload_n dd_X9_putImage_260 rfl (.tail _ (.tail _ (.tail _ (.tail _ (.head _))))) ?_
          refine sA_iload dd_X9_putImage_261 (.tail _ (.tail _ (.head _))) ?_
          refine sA_iload_n dd_X9_putImage_263 rfl (.tail _ (.tail _ (.tail _ (.tail _ (.tail _ (.tail _ (.head _))))))) ?_
          refine sA_if_ne (tgt := 271) dd_X9_putImage_264 (by decide) (by omega) (fun q103 => ?_) (fun q103 => ?_)
          · skip
            refine sA_iconst (z := 0) dd_X9_putImage_271 ?_
            refine sA_callV (y2 := m_X9_putC) (n2 := 2) (d2 := 2) (a := 106) (ci := 9) (q := (RX9, TX9, 28)) (as := [gs_iv (t - (2 * (F 106 0))), gs_iv 0]) (rest := []) dd_X9_putImage_272 ok_X9_putC ml_X9_163 rfl rfl (by decide) gs_s106 rfl rfl (Nat.le_of_ble_eq_true rfl) (by decide) (c_X9_putC_vf hI (by omega) (by omega) (by omega)) (fun r104 F105 A106 h107 => ?_)
            obtain ⟨e109, I110, f111, x108⟩ := h107
            subst e109
            have v112 : F105 106 0 = F 106 0 := f111.1 106 0 (by first | exact id | omega | (dsimp only; omega) | (dsimp only) | fail)
            have f113 := gs_fr_tr hf f111 (fun b j h => by first | exact False.elim h | omega | (dsimp only at h ⊢; omega) | fail) (fun b h => by first | exact False.elim h | omega | (dsimp only at h ⊢; omega) | fail)
            have y114 : F105 106 15 ≤ F 106 15 + 4 ∧ 0 ≤ F105 106 15 ∧ gs_stk (A106 115) (F105 106 15).toNat = sp_all (gs_stk (A 115) (F 106 15).toNat) (sp_C (t - (2 * (F 106 0))) (0 : Int)) := x108
            clear x108
            show sA _ _ _ 275 _ [] _ _
            refine sA_aload_n dd_X9_putImage_275 rfl (.tail _ (.tail _ (.tail _ (.tail _ (.head _))))) ?_
            refine sA_iload dd_X9_putImage_276 (.tail _ (.tail _ (.tail _ (.tail _ (.tail _ (.tail _ (.tail _ (.tail _ (.head _))))))))) ?_
            refine sA_if_eq (tgt := 287) dd_X9_putImage_278 (by decide) (by omega) (fun q115 => ?_) (fun q115 => ?_)
            · skip
              refine sA_iload_n dd_X9_putImage_287 rfl (.tail _ (.tail _ (.tail _ (.tail _ (.tail _ (.tail _ (.tail _ (.head _)))))))) ?_
              refine sA_callV (y2 := m_X9_put) (n2 := 1) (d2 := 1) (a := 106) (ci := 9) (q := (RX9, TX9, 28)) (as := [gs_iv x]) (rest := []) dd_X9_putImage_288 ok_X9_put ml_X9_160 rfl rfl (by decide) gs_s106 rfl rfl (Nat.le_of_ble_eq_true rfl) (by decide) (c_X9_put_vf I110 (by omega) (by omega)) (fun r116 F117 A118 h119 => ?_)
              obtain ⟨e121, I122, f123, x120⟩ := h119
              subst e121
              have v124 : F117 106 0 = F105 106 0 := f123.1 106 0 (by first | exact id | omega | (dsimp only; omega) | (dsimp only) | fail)
              have f125 := gs_fr_tr f113 f123 (fun b j h => by first | exact False.elim h | omega | (dsimp only at h ⊢; omega) | fail) (fun b h => by first | exact False.elim h | omega | (dsimp only at h ⊢; omega) | fail)
              have y126 : F117 106 15 ≤ F105 106 15 + 1 ∧ 0 ≤ F117 106 15 ∧ gs_stk (A118 115) (F117 106 15).toNat = sp_push (gs_stk (A106 115) (F105 106 15).toNat) x := x120
              clear x120
              show sA _ _ _ 291 _ [] _ _
              refine sA_aload_n dd_X9_putImage_291 rfl (.tail _ (.tail _ (.tail _ (.tail _ (.head _))))) ?_
              refine sA_iload dd_X9_putImage_292 (.tail _ (.tail _ (.head _))) ?_
              refine sA_iload_n dd_X9_putImage_294 rfl (.tail _ (.tail _ (.tail _ (.tail _ (.tail _ (.tail _ (.head _))))))) ?_
              refine sA_callV (y2 := m_X9_putC) (n2 := 2) (d2 := 2) (a := 106) (ci := 9) (q := (RX9, TX9, 28)) (as := [gs_iv (t - (2 * (F 106 0))), gs_iv o]) (rest := []) dd_X9_putImage_295 ok_X9_putC ml_X9_163 rfl rfl (by decide) gs_s106 rfl rfl (Nat.le_of_ble_eq_true rfl) (by decide) (c_X9_putC_vf I122 (by omega) (by omega) (by omega)) (fun r127 F128 A129 h130 => ?_)
              obtain ⟨e132, I133, f134, x131⟩ := h130
              subst e132
              have v135 : F128 106 0 = F117 106 0 := f134.1 106 0 (by first | exact id | omega | (dsimp only; omega) | (dsimp only) | fail)
              have f136 := gs_fr_tr f125 f134 (fun b j h => by first | exact False.elim h | omega | (dsimp only at h ⊢; omega) | fail) (fun b h => by first | exact False.elim h | omega | (dsimp only at h ⊢; omega) | fail)
              have y137 : F128 106 15 ≤ F117 106 15 + 4 ∧ 0 ≤ F128 106 15 ∧ gs_stk (A129 115) (F128 106 15).toNat = sp_all (gs_stk (A118 115) (F117 106 15).toNat) (sp_C (t - (2 * (F 106 0))) o) := x131
              clear x131
              show sA _ _ _ 298 _ [] _ _
              refine sA_goto (tgt := 376) dd_X9_putImage_298 (by decide) ?_
              refine sA_vret dd_X9_putImage_376 rfl ?_
              refine ⟨rfl, I133, f136, ?_⟩
              refine ⟨by omega, by omega, ?_⟩
              unfold sp_mi
              repeat (first | rw [if_pos (by omega)] | rw [if_neg (by omega)] | fail)
              rw [sp_all_app, sp_all_app]
              show _ = sp_all (sp_push (sp_all _ _) _) _
              exact (y137.2.2.trans (sp_all_cg2 (y126.2.2.trans (sp_push_cg (by omega) (y114.2.2.trans (sp_all_cg2 rfl (sp_C_cg (by omega) (by omega)))))) (sp_C_cg (by omega) (by omega))))
            · skip
              refine sA_iconst (z := 0) dd_X9_putImage_281 ?_
              refine sA_iload_n dd_X9_putImage_282 rfl (.tail _ (.tail _ (.tail _ (.tail _ (.tail _ (.tail _ (.tail _ (.head _)))))))) ?_
              refine sA_isub dd_X9_putImage_283 ?_
              refine sA_goto (tgt := 288) dd_X9_putImage_284 (by decide) ?_
              refine sA_callV (y2 := m_X9_put) (n2 := 1) (d2 := 1) (a := 106) (ci := 9) (q := (RX9, TX9, 28)) (as := [gs_iv (0 - x)]) (rest := []) dd_X9_putImage_288 ok_X9_put ml_X9_160 rfl rfl (by decide) gs_s106 rfl rfl (Nat.le_of_ble_eq_true rfl) (by decide) (c_X9_put_vf I110 (by omega) (by omega)) (fun r138 F139 A140 h141 => ?_)
              obtain ⟨e143, I144, f145, x142⟩ := h141
              subst e143
              have v146 : F139 106 0 = F105 106 0 := f145.1 106 0 (by first | exact id | omega | (dsimp only; omega) | (dsimp only) | fail)
              have f147 := gs_fr_tr f113 f145 (fun b j h => by first | exact False.elim h | omega | (dsimp only at h ⊢; omega) | fail) (fun b h => by first | exact False.elim h | omega | (dsimp only at h ⊢; omega) | fail)
              have y148 : F139 106 15 ≤ F105 106 15 + 1 ∧ 0 ≤ F139 106 15 ∧ gs_stk (A140 115) (F139 106 15).toNat = sp_push (gs_stk (A106 115) (F105 106 15).toNat) (0 - x) := x142
              clear x142
              show sA _ _ _ 291 _ [] _ _
              refine sA_aload_n dd_X9_putImage_291 rfl (.tail _ (.tail _ (.tail _ (.tail _ (.head _))))) ?_
              refine sA_iload dd_X9_putImage_292 (.tail _ (.tail _ (.head _))) ?_
              refine sA_iload_n dd_X9_putImage_294 rfl (.tail _ (.tail _ (.tail _ (.tail _ (.tail _ (.tail _ (.head _))))))) ?_
              refine sA_callV (y2 := m_X9_putC) (n2 := 2) (d2 := 2) (a := 106) (ci := 9) (q := (RX9, TX9, 28)) (as := [gs_iv (t - (2 * (F 106 0))), gs_iv o]) (rest := []) dd_X9_putImage_295 ok_X9_putC ml_X9_163 rfl rfl (by decide) gs_s106 rfl rfl (Nat.le_of_ble_eq_true rfl) (by decide) (c_X9_putC_vf I144 (by omega) (by omega) (by omega)) (fun r149 F150 A151 h152 => ?_)
              obtain ⟨e154, I155, f156, x153⟩ := h152
              subst e154
              have v157 : F150 106 0 = F139 106 0 := f156.1 106 0 (by first | exact id | omega | (dsimp only; omega) | (dsimp only) | fail)
              have f158 := gs_fr_tr f147 f156 (fun b j h => by first | exact False.elim h | omega | (dsimp only at h ⊢; omega) | fail) (fun b h => by first | exact False.elim h | omega | (dsimp only at h ⊢; omega) | fail)
              have y159 : F150 106 15 ≤ F139 106 15 + 4 ∧ 0 ≤ F150 106 15 ∧ gs_stk (A151 115) (F150 106 15).toNat = sp_all (gs_stk (A140 115) (F139 106 15).toNat) (sp_C (t - (2 * (F 106 0))) o) := x153
              clear x153
              show sA _ _ _ 298 _ [] _ _
              refine sA_goto (tgt := 376) dd_X9_putImage_298 (by decide) ?_
              refine sA_vret dd_X9_putImage_376 rfl ?_
              refine ⟨rfl, I155, f158, ?_⟩
              refine ⟨by omega, by omega, ?_⟩
              unfold sp_mi
              repeat (first | rw [if_pos (by omega)] | rw [if_neg (by omega)] | fail)
              rw [sp_all_app, sp_all_app]
              show _ = sp_all (sp_push (sp_all _ _) _) _
              exact (y159.2.2.trans (sp_all_cg2 (y148.2.2.trans (sp_push_cg (by omega) (y114.2.2.trans (sp_all_cg2 rfl (sp_C_cg (by omega) (by omega)))))) (sp_C_cg (by omega) (by omega))))
          · skip
            refine sA_iconst (z := 1) dd_X9_putImage_267 ?_
            refine sA_goto (tgt := 272) dd_X9_putImage_268 (by decide) ?_
            refine sA_callV (y2 := m_X9_putC) (n2 := 2) (d2 := 2) (a := 106) (ci := 9) (q := (RX9, TX9, 28)) (as := [gs_iv (t - (2 * (F 106 0))), gs_iv 1]) (rest := []) dd_X9_putImage_272 ok_X9_putC ml_X9_163 rfl rfl (by decide) gs_s106 rfl rfl (Nat.le_of_ble_eq_true rfl) (by decide) (c_X9_putC_vf hI (by omega) (by omega) (by omega)) (fun r160 F161 A162 h163 => ?_)
            obtain ⟨e165, I166, f167, x164⟩ := h163
            subst e165
            have v168 : F161 106 0 = F 106 0 := f167.1 106 0 (by first | exact id | omega | (dsimp only; omega) | (dsimp only) | fail)
            have f169 := gs_fr_tr hf f167 (fun b j h => by first | exact False.elim h | omega | (dsimp only at h ⊢; omega) | fail) (fun b h => by first | exact False.elim h | omega | (dsimp only at h ⊢; omega) | fail)
            have y170 : F161 106 15 ≤ F 106 15 + 4 ∧ 0 ≤ F161 106 15 ∧ gs_stk (A162 115) (F161 106 15).toNat = sp_all (gs_stk (A 115) (F 106 15).toNat) (sp_C (t - (2 * (F 106 0))) (1 : Int)) := x164
            clear x164
            show sA _ _ _ 275 _ [] _ _
            refine sA_aload_n dd_X9_putImage_275 rfl (.tail _ (.tail _ (.tail _ (.tail _ (.head _))))) ?_
            refine sA_iload dd_X9_putImage_276 (.tail _ (.tail _ (.tail _ (.tail _ (.tail _ (.tail _ (.tail _ (.tail _ (.head _))))))))) ?_
            refine sA_if_eq (tgt := 287) dd_X9_putImage_278 (by decide) (by omega) (fun q171 => ?_) (fun q171 => ?_)
            · skip
              refine sA_iload_n dd_X9_putImage_287 rfl (.tail _ (.tail _ (.tail _ (.tail _ (.tail _ (.tail _ (.tail _ (.head _)))))))) ?_
              refine sA_callV (y2 := m_X9_put) (n2 := 1) (d2 := 1) (a := 106) (ci := 9) (q := (RX9, TX9, 28)) (as := [gs_iv x]) (rest := []) dd_X9_putImage_288 ok_X9_put ml_X9_160 rfl rfl (by decide) gs_s106 rfl rfl (Nat.le_of_ble_eq_true rfl) (by decide) (c_X9_put_vf I166 (by omega) (by omega)) (fun r172 F173 A174 h175 => ?_)
              obtain ⟨e177, I178, f179, x176⟩ := h175
              subst e177
              have v180 : F173 106 0 = F161 106 0 := f179.1 106 0 (by first | exact id | omega | (dsimp only; omega) | (dsimp only) | fail)
              have f181 := gs_fr_tr f169 f179 (fun b j h => by first | exact False.elim h | omega | (dsimp only at h ⊢; omega) | fail) (fun b h => by first | exact False.elim h | omega | (dsimp only at h ⊢; omega) | fail)
              have y182 : F173 106 15 ≤ F161 106 15 + 1 ∧ 0 ≤ F173 106 15 ∧ gs_stk (A174 115) (F173 106 15).toNat = sp_push (gs_stk (A162 115) (F161 106 15).toNat) x := x176
              clear x176
              show sA _ _ _ 291 _ [] _ _
              refine sA_aload_n dd_X9_putImage_291 rfl (.tail _ (.tail _ (.tail _ (.tail _ (.head _))))) ?_
              refine sA_iload dd_X9_putImage_292 (.tail _ (.tail _ (.head _))) ?_
              refine sA_iload_n dd_X9_putImage_294 rfl (.tail _ (.tail _ (.tail _ (.tail _ (.tail _ (.tail _ (.head _))))))) ?_
              refine sA_callV (y2 := m_X9_putC) (n2 := 2) (d2 := 2) (a := 106) (ci := 9) (q := (RX9, TX9, 28)) (as := [gs_iv (t - (2 * (F 106 0))), gs_iv o]) (rest := []) dd_X9_putImage_295 ok_X9_putC ml_X9_163 rfl rfl (by decide) gs_s106 rfl rfl (Nat.le_of_ble_eq_true rfl) (by decide) (c_X9_putC_vf I178 (by omega) (by omega) (by omega)) (fun r183 F184 A185 h186 => ?_)
              obtain ⟨e188, I189, f190, x187⟩ := h186
              subst e188
              have v191 : F184 106 0 = F173 106 0 := f190.1 106 0 (by first | exact id | omega | (dsimp only; omega) | (dsimp only) | fail)
              have f192 := gs_fr_tr f181 f190 (fun b j h => by first | exact False.elim h | omega | (dsimp only at h ⊢; omega) | fail) (fun b h => by first | exact False.elim h | omega | (dsimp only at h ⊢; omega) | fail)
              have y193 : F184 106 15 ≤ F173 106 15 + 4 ∧ 0 ≤ F184 106 15 ∧ gs_stk (A185 115) (F184 106 15).toNat = sp_all (gs_stk (A174 115) (F173 106 15).toNat) (sp_C (t - (2 * (F 106 0))) o) := x187
              clear x187
              show sA _ _ _ 298 _ [] _ _
              refine sA_goto (tgt := 376) dd_X9_putImage_298 (by decide) ?_
              refine sA_vret dd_X9_putImage_376 rfl ?_
              refine ⟨rfl, I189, f192, ?_⟩
              refine ⟨by omega, by omega, ?_⟩
              unfold sp_mi
              repeat (first | rw [if_pos (by omega)] | rw [if_neg (by omega)] | fail)
              rw [sp_all_app, sp_all_app]
              show _ = sp_all (sp_push (sp_all _ _) _) _
              exact (y193.2.2.trans (sp_all_cg2 (y182.2.2.trans (sp_push_cg (by omega) (y170.2.2.trans (sp_all_cg2 rfl (sp_C_cg (by omega) (by omega)))))) (sp_C_cg (by omega) (by omega))))
            · skip
              refine sA_iconst (z := 0) dd_X9_putImage_281 ?_
              refine sA_iload_n dd_X9_putImage_282 rfl (.tail _ (.tail _ (.tail _ (.tail _ (.tail _ (.tail _ (.tail _ (.head _)))))))) ?_
              refine sA_isub dd_X9_putImage_283 ?_
              refine sA_goto (tgt := 288) dd_X9_putImage_284 (by decide) ?_
              refine sA_callV (y2 := m_X9_put) (n2 := 1) (d2 := 1) (a := 106) (ci := 9) (q := (RX9, TX9, 28)) (as := [gs_iv (0 - x)]) (rest := []) dd_X9_putImage_288 ok_X9_put ml_X9_160 rfl rfl (by decide) gs_s106 rfl rfl (Nat.le_of_ble_eq_true rfl) (by decide) (c_X9_put_vf I166 (by omega) (by omega)) (fun r194 F195 A196 h197 => ?_)
              obtain ⟨e199, I200, f201, x198⟩ := h197
              subst e199
              have v202 : F195 106 0 = F161 106 0 := f201.1 106 0 (by first | exact id | omega | (dsimp only; omega) | (dsimp only) | fail)
              have f203 := gs_fr_tr f169 f201 (fun b j h => by first | exact False.elim h | omega | (dsimp only at h ⊢; omega) | fail) (fun b h => by first | exact False.elim h | omega | (dsimp only at h ⊢; omega) | fail)
              have y204 : F195 106 15 ≤ F161 106 15 + 1 ∧ 0 ≤ F195 106 15 ∧ gs_stk (A196 115) (F195 106 15).toNat = sp_push (gs_stk (A162 115) (F161 106 15).toNat) (0 - x) := x198
              clear x198
              show sA _ _ _ 291 _ [] _ _
              refine sA_aload_n dd_X9_putImage_291 rfl (.tail _ (.tail _ (.tail _ (.tail _ (.head _))))) ?_
              refine sA_iload dd_X9_putImage_292 (.tail _ (.tail _ (.head _))) ?_
              refine sA_iload_n dd_X9_putImage_294 rfl (.tail _ (.tail _ (.tail _ (.tail _ (.tail _ (.tail _ (.head _))))))) ?_
              refine sA_callV (y2 := m_X9_putC) (n2 := 2) (d2 := 2) (a := 106) (ci := 9) (q := (RX9, TX9, 28)) (as := [gs_iv (t - (2 * (F 106 0))), gs_iv o]) (rest := []) dd_X9_putImage_295 ok_X9_putC ml_X9_163 rfl rfl (by decide) gs_s106 rfl rfl (Nat.le_of_ble_eq_true rfl) (by decide) (c_X9_putC_vf I200 (by omega) (by omega) (by omega)) (fun r205 F206 A207 h208 => ?_)
              obtain ⟨e210, I211, f212, x209⟩ := h208
              subst e210
              have v213 : F206 106 0 = F195 106 0 := f212.1 106 0 (by first | exact id | omega | (dsimp only; omega) | (dsimp only) | fail)
              have f214 := gs_fr_tr f203 f212 (fun b j h => by first | exact False.elim h | omega | (dsimp only at h ⊢; omega) | fail) (fun b h => by first | exact False.elim h | omega | (dsimp only at h ⊢; omega) | fail)
              have y215 : F206 106 15 ≤ F195 106 15 + 4 ∧ 0 ≤ F206 106 15 ∧ gs_stk (A207 115) (F206 106 15).toNat = sp_all (gs_stk (A196 115) (F195 106 15).toNat) (sp_C (t - (2 * (F 106 0))) o) := x209
              clear x209
              show sA _ _ _ 298 _ [] _ _
              refine sA_goto (tgt := 376) dd_X9_putImage_298 (by decide) ?_
              refine sA_vret dd_X9_putImage_376 rfl ?_
              refine ⟨rfl, I211, f214, ?_⟩
              refine ⟨by omega, by omega, ?_⟩
              unfold sp_mi
              repeat (first | rw [if_pos (by omega)] | rw [if_neg (by omega)] | fail)
              rw [sp_all_app, sp_all_app]
              show _ = sp_all (sp_push (sp_all _ _) _) _
              exact (y215.2.2.trans (sp_all_cg2 (y204.2.2.trans (sp_push_cg (by omega) (y170.2.2.trans (sp_all_cg2 rfl (sp_C_cg (by omega) (by omega)))))) (sp_C_cg (by omega) (by omega))))
      · skip
        refine sA_iload dd_X9_putImage_199 (.tail _ (.tail _ (.tail _ (.tail _ (.tail _ (.tail _ (.tail _ (.tail _ (.head _))))))))) ?_
        refine sA_if_eq (tgt := 222) dd_X9_putImage_201 (by decide) (by omega) (fun q216 => ?_) (fun q216 => ?_)
        · skip
          refine sA_aload_n dd_X9_putImage_222 rfl (.tail _ (.tail _ (.tail _ (.tail _ (.head _))))) ?_
          refine sA_iload dd_X9_putImage_223 (.tail _ (.tail _ (.head _))) ?_
          refine sA_iload_n dd_X9_putImage_225 rfl (.tail _ (.tail _ (.tail _ (.tail _ (.tail _ (.tail _ (.head _))))))) ?_
          refine sA_if_ne (tgt := 233) dd_X9_putImage_226 (by decide) (by omega) (fun q217 => ?_) (fun q217 => ?_)
          · skip
            refine sA_iconst (z := 0) dd_X9_putImage_233 ?_
            refine sA_callV (y2 := m_X9_putC) (n2 := 2) (d2 := 2) (a := 106) (ci := 9) (q := (RX9, TX9, 28)) (as := [gs_iv (t - (2 * (F 106 0))), gs_iv 0]) (rest := []) dd_X9_putImage_234 ok_X9_putC ml_X9_163 rfl rfl (by decide) gs_s106 rfl rfl (Nat.le_of_ble_eq_true rfl) (by decide) (c_X9_putC_vf hI (by omega) (by omega) (by omega)) (fun r218 F219 A220 h221 => ?_)
            obtain ⟨e223, I224, f225, x222⟩ := h221
            subst e223
            have v226 : F219 106 0 = F 106 0 := f225.1 106 0 (by first | exact id | omega | (dsimp only; omega) | (dsimp only) | fail)
            have f227 := gs_fr_tr hf f225 (fun b j h => by first | exact False.elim h | omega | (dsimp only at h ⊢; omega) | fail) (fun b h => by first | exact False.elim h | omega | (dsimp only at h ⊢; omega) | fail)
            have y228 : F219 106 15 ≤ F 106 15 + 4 ∧ 0 ≤ F219 106 15 ∧ gs_stk (A220 115) (F219 106 15).toNat = sp_all (gs_stk (A 115) (F 106 15).toNat) (sp_C (t - (2 * (F 106 0))) (0 : Int)) := x222
            clear x222
            show sA _ _ _ 237 _ [] _ _
            refine sA_aload_n dd_X9_putImage_237 rfl (.tail _ (.tail _ (.tail _ (.tail _ (.head _))))) ?_
            refine sA_iload dd_X9_putImage_238 (.head _) ?_
            refine sA_callV (y2 := m_X9_put) (n2 := 1) (d2 := 1) (a := 106) (ci := 9) (q := (RX9, TX9, 28)) (as := [gs_iv ((2 * (t - (2 * (F 106 0)))) + 2)]) (rest := []) dd_X9_putImage_240 ok_X9_put ml_X9_160 rfl rfl (by decide) gs_s106 rfl rfl (Nat.le_of_ble_eq_true rfl) (by decide) (c_X9_put_vf I224 (by omega) (by omega)) (fun r229 F230 A231 h232 => ?_)
            obtain ⟨e234, I235, f236, x233⟩ := h232
            subst e234
            have v237 : F230 106 0 = F219 106 0 := f236.1 106 0 (by first | exact id | omega | (dsimp only; omega) | (dsimp only) | fail)
            have f238 := gs_fr_tr f227 f236 (fun b j h => by first | exact False.elim h | omega | (dsimp only at h ⊢; omega) | fail) (fun b h => by first | exact False.elim h | omega | (dsimp only at h ⊢; omega) | fail)
            have y239 : F230 106 15 ≤ F219 106 15 + 1 ∧ 0 ≤ F230 106 15 ∧ gs_stk (A231 115) (F230 106 15).toNat = sp_push (gs_stk (A220 115) (F219 106 15).toNat) ((2 * (t - (2 * (F 106 0)))) + 2) := x233
            clear x233
            show sA _ _ _ 243 _ [] _ _
            refine sA_goto (tgt := 376) dd_X9_putImage_243 (by decide) ?_
            refine sA_vret dd_X9_putImage_376 rfl ?_
            refine ⟨rfl, I235, f238, ?_⟩
            refine ⟨by omega, by omega, ?_⟩
            unfold sp_mi
            repeat (first | rw [if_pos (by omega)] | rw [if_neg (by omega)] | fail)
            rw [sp_all_app]
            show _ = sp_push (sp_all _ _) _
            exact (y239.2.2.trans (sp_push_cg (by omega) (y228.2.2.trans (sp_all_cg2 rfl (sp_C_cg (by omega) (by omega))))))
          · skip
            refine sA_iconst (z := 1) dd_X9_putImage_229 ?_
            refine sA_goto (tgt := 234) dd_X9_putImage_230 (by decide) ?_
            refine sA_callV (y2 := m_X9_putC) (n2 := 2) (d2 := 2) (a := 106) (ci := 9) (q := (RX9, TX9, 28)) (as := [gs_iv (t - (2 * (F 106 0))), gs_iv 1]) (rest := []) dd_X9_putImage_234 ok_X9_putC ml_X9_163 rfl rfl (by decide) gs_s106 rfl rfl (Nat.le_of_ble_eq_true rfl) (by decide) (c_X9_putC_vf hI (by omega) (by omega) (by omega)) (fun r240 F241 A242 h243 => ?_)
            obtain ⟨e245, I246, f247, x244⟩ := h243
            subst e245
            have v248 : F241 106 0 = F 106 0 := f247.1 106 0 (by first | exact id | omega | (dsimp only; omega) | (dsimp only) | fail)
            have f249 := gs_fr_tr hf f247 (fun b j h => by first | exact False.elim h | omega | (dsimp only at h ⊢; omega) | fail) (fun b h => by first | exact False.elim h | omega | (dsimp only at h ⊢; omega) | fail)
            have y250 : F241 106 15 ≤ F 106 15 + 4 ∧ 0 ≤ F241 106 15 ∧ gs_stk (A242 115) (F241 106 15).toNat = sp_all (gs_stk (A 115) (F 106 15).toNat) (sp_C (t - (2 * (F 106 0))) (1 : Int)) := x244
            clear x244
            show sA _ _ _ 237 _ [] _ _
            refine sA_aload_n dd_X9_putImage_237 rfl (.tail _ (.tail _ (.tail _ (.tail _ (.head _))))) ?_
            refine sA_iload dd_X9_putImage_238 (.head _) ?_
            refine sA_callV (y2 := m_X9_put) (n2 := 1) (d2 := 1) (a := 106) (ci := 9) (q := (RX9, TX9, 28)) (as := [gs_iv ((2 * (t - (2 * (F 106 0)))) + 2)]) (rest := []) dd_X9_putImage_240 ok_X9_put ml_X9_160 rfl rfl (by decide) gs_s106 rfl rfl (Nat.le_of_ble_eq_true rfl) (by decide) (c_X9_put_vf I246 (by omega) (by omega)) (fun r251 F252 A253 h254 => ?_)
            obtain ⟨e256, I257, f258, x255⟩ := h254
            subst e256
            have v259 : F252 106 0 = F241 106 0 := f258.1 106 0 (by first | exact id | omega | (dsimp only; omega) | (dsimp only) | fail)
            have f260 := gs_fr_tr f249 f258 (fun b j h => by first | exact False.elim h | omega | (dsimp only at h ⊢; omega) | fail) (fun b h => by first | exact False.elim h | omega | (dsimp only at h ⊢; omega) | fail)
            have y261 : F252 106 15 ≤ F241 106 15 + 1 ∧ 0 ≤ F252 106 15 ∧ gs_stk (A253 115) (F252 106 15).toNat = sp_push (gs_stk (A242 115) (F241 106 15).toNat) ((2 * (t - (2 * (F 106 0)))) + 2) := x255
            clear x255
            show sA _ _ _ 243 _ [] _ _
            refine sA_goto (tgt := 376) dd_X9_putImage_243 (by decide) ?_
            refine sA_vret dd_X9_putImage_376 rfl ?_
            refine ⟨rfl, I257, f260, ?_⟩
            refine ⟨by omega, by omega, ?_⟩
            unfold sp_mi
            repeat (first | rw [if_pos (by omega)] | rw [if_neg (by omega)] | fail)
            rw [sp_all_app]
            show _ = sp_push (sp_all _ _) _
            exact (y261.2.2.trans (sp_push_cg (by omega) (y250.2.2.trans (sp_all_cg2 rfl (sp_C_cg (by omega) (by omega))))))
        · skip
          refine sA_aload_n dd_X9_putImage_204 rfl (.tail _ (.tail _ (.tail _ (.tail _ (.head _))))) ?_
          refine sA_iconst (z := 0) dd_X9_putImage_205 ?_
          refine sA_iload dd_X9_putImage_206 (.head _) ?_
          refine sA_isub dd_X9_putImage_208 ?_
          refine sA_callV (y2 := m_X9_put) (n2 := 1) (d2 := 1) (a := 106) (ci := 9) (q := (RX9, TX9, 28)) (as := [gs_iv (0 - ((2 * (t - (2 * (F 106 0)))) + 2))]) (rest := []) dd_X9_putImage_209 ok_X9_put ml_X9_160 rfl rfl (by decide) gs_s106 rfl rfl (Nat.le_of_ble_eq_true rfl) (by decide) (c_X9_put_vf hI (by omega) (by omega)) (fun r262 F263 A264 h265 => ?_)
          obtain ⟨e267, I268, f269, x266⟩ := h265
          subst e267
          have v270 : F263 106 0 = F 106 0 := f269.1 106 0 (by first | exact id | omega | (dsimp only; omega) | (dsimp only) | fail)
          have f271 := gs_fr_tr hf f269 (fun b j h => by first | exact False.elim h | omega | (dsimp only at h ⊢; omega) | fail) (fun b h => by first | exact False.elim h | omega | (dsimp only at h ⊢; omega) | fail)
          have y272 : F263 106 15 ≤ F 106 15 + 1 ∧ 0 ≤ F263 106 15 ∧ gs_stk (A264 115) (F263 106 15).toNat = sp_push (gs_stk (A 115) (F 106 15).toNat) (0 - ((2 * (t - (2 * (F 106 0)))) + 2)) := x266
          clear x266
          show sA _ _ _ 212 _ [] _ _
          refine sA_aload_n dd_X9_putImage_212 rfl (.tail _ (.tail _ (.tail _ (.tail _ (.head _))))) ?_
          refine sA_iload dd_X9_putImage_213 (.tail _ (.tail _ (.head _))) ?_
          refine sA_iload_n dd_X9_putImage_215 rfl (.tail _ (.tail _ (.tail _ (.tail _ (.tail _ (.tail _ (.head _))))))) ?_
          refine sA_callV (y2 := m_X9_putC) (n2 := 2) (d2 := 2) (a := 106) (ci := 9) (q := (RX9, TX9, 28)) (as := [gs_iv (t - (2 * (F 106 0))), gs_iv o]) (rest := []) dd_X9_putImage_216 ok_X9_putC ml_X9_163 rfl rfl (by decide) gs_s106 rfl rfl (Nat.le_of_ble_eq_true rfl) (by decide) (c_X9_putC_vf I268 (by omega) (by omega) (by omega)) (fun r273 F274 A275 h276 => ?_)
          obtain ⟨e278, I279, f280, x277⟩ := h276
          subst e278
          have v281 : F274 106 0 = F263 106 0 := f280.1 106 0 (by first | exact id | omega | (dsimp only; omega) | (dsimp only) | fail)
          have f282 := gs_fr_tr f271 f280 (fun b j h => by first | exact False.elim h | omega | (dsimp only at h ⊢; omega) | fail) (fun b h => by first | exact False.elim h | omega | (dsimp only at h ⊢; omega) | fail)
          have y283 : F274 106 15 ≤ F263 106 15 + 4 ∧ 0 ≤ F274 106 15 ∧ gs_stk (A275 115) (F274 106 15).toNat = sp_all (gs_stk (A264 115) (F263 106 15).toNat) (sp_C (t - (2 * (F 106 0))) o) := x277
          clear x277
          show sA _ _ _ 219 _ [] _ _
          refine sA_goto (tgt := 376) dd_X9_putImage_219 (by decide) ?_
          refine sA_vret dd_X9_putImage_376 rfl ?_
          refine ⟨rfl, I279, f282, ?_⟩
          refine ⟨by omega, by omega, ?_⟩
          unfold sp_mi
          repeat (first | rw [if_pos (by omega)] | rw [if_neg (by omega)] | fail)
          rw [sp_all_app]
          show _ = sp_all (sp_push _ _) _
          exact (y283.2.2.trans (sp_all_cg2 (y272.2.2.trans (sp_push_cg (by omega) rfl)) (sp_C_cg (by omega) (by omega))))
    · skip
      refine sA_iconst (z := 1) dd_X9_putImage_22 ?_
      refine sA_goto (tgt := 27) dd_X9_putImage_23 (by decide) ?_
      refine sA_istore (lv' := [(5, gs_iv 1), (0, .ref 106), (1, gs_iv t), (2, gs_iv o), (3, gs_iv x), (4, gs_iv b)]) dd_X9_putImage_27 (by decide) rfl ?_
      refine sA_iload_n dd_X9_putImage_29 rfl (.tail _ (.tail _ (.head _))) ?_
      refine sA_iload dd_X9_putImage_30 (.head _) ?_
      refine sA_aload_n dd_X9_putImage_32 rfl (.tail _ (.head _)) ?_
      refine sA_geti (ci := 9) (j := 0) (q := (RX9, TX9, 28)) dd_X9_putImage_33 rfl (by decide) fl_X9_64 (by decide) gs_s106 rfl ?_
      refine sA_imul dd_X9_putImage_36 ?_
      refine sA_isub dd_X9_putImage_37 ?_
      refine sA_istore (lv' := [(6, gs_iv (t - (1 * (F 106 0)))), (5, gs_iv 1), (0, .ref 106), (1, gs_iv t), (2, gs_iv o), (3, gs_iv x), (4, gs_iv b)]) dd_X9_putImage_38 (by decide) rfl ?_
      refine sA_iconst (z := 2) dd_X9_putImage_40 ?_
      refine sA_iload dd_X9_putImage_41 (.head _) ?_
      refine sA_imul dd_X9_putImage_43 ?_
      refine sA_iconst (z := 1) dd_X9_putImage_44 ?_
      refine sA_iadd dd_X9_putImage_45 ?_
      refine sA_istore (lv' := [(7, gs_iv ((2 * (t - (1 * (F 106 0)))) + 1)), (6, gs_iv (t - (1 * (F 106 0)))), (5, gs_iv 1), (0, .ref 106), (1, gs_iv t), (2, gs_iv o), (3, gs_iv x), (4, gs_iv b)]) dd_X9_putImage_46 (by decide) rfl ?_
      refine sA_iconst (z := 2) dd_X9_putImage_48 ?_
      refine sA_iload dd_X9_putImage_49 (.tail _ (.head _)) ?_
      refine sA_imul dd_X9_putImage_51 ?_
      refine sA_iconst (z := 2) dd_X9_putImage_52 ?_
      refine sA_iadd dd_X9_putImage_53 ?_
      refine sA_istore (lv' := [(8, gs_iv ((2 * (t - (1 * (F 106 0)))) + 2)), (7, gs_iv ((2 * (t - (1 * (F 106 0)))) + 1)), (6, gs_iv (t - (1 * (F 106 0)))), (5, gs_iv 1), (0, .ref 106), (1, gs_iv t), (2, gs_iv o), (3, gs_iv x), (4, gs_iv b)]) dd_X9_putImage_54 (by decide) rfl ?_
      refine sA_iload dd_X9_putImage_56 (.tail _ (.tail _ (.tail _ (.head _)))) ?_
      refine sA_if_ne (tgt := 121) dd_X9_putImage_58 (by decide) (by omega) (fun q284 => ?_) (fun q284 => absurd q284 (by omega))
      refine sA_iload dd_X9_putImage_121 (.tail _ (.tail _ (.tail _ (.head _)))) ?_
      refine sA_iconst (z := 1) dd_X9_putImage_123 ?_
      refine sA_icmp_ne (tgt := 187) dd_X9_putImage_124 (by decide) (by omega) (by omega) (fun q285 => absurd q285 (by omega)) (fun q285 => ?_)
      refine sA_iload_n dd_X9_putImage_127 rfl (.tail _ (.tail _ (.tail _ (.tail _ (.tail _ (.tail _ (.tail _ (.head _)))))))) ?_
      refine sA_iload dd_X9_putImage_128 (.tail _ (.head _)) ?_
      refine sA_icmp_ne (tgt := 187) dd_X9_putImage_130 (by decide) (by omega) (by omega) (fun q286 => ?_) (fun q286 => ?_)
      · skip
        refine sA_iload dd_X9_putImage_187 (.tail _ (.tail _ (.tail _ (.head _)))) ?_
        refine sA_iconst (z := 2) dd_X9_putImage_189 ?_
        refine sA_icmp_ne (tgt := 246) dd_X9_putImage_190 (by decide) (by omega) (by omega) (fun q287 => ?_) (fun q287 => absurd q287 (by omega))
        refine sA_iload dd_X9_putImage_246 (.tail _ (.tail _ (.tail _ (.head _)))) ?_
        refine sA_iconst (z := 2) dd_X9_putImage_248 ?_
        refine sA_icmp_ne (tgt := 301) dd_X9_putImage_249 (by decide) (by omega) (by omega) (fun q288 => ?_) (fun q288 => absurd q288 (by omega))
        refine sA_iload dd_X9_putImage_301 (.tail _ (.tail _ (.tail _ (.head _)))) ?_
        refine sA_iconst (z := 2) dd_X9_putImage_303 ?_
        refine sA_icmp_ne (tgt := 360) dd_X9_putImage_304 (by decide) (by omega) (by omega) (fun q289 => ?_) (fun q289 => absurd q289 (by omega))
        refine sA_aload_n dd_X9_putImage_360 rfl (.tail _ (.tail _ (.tail _ (.tail _ (.head _))))) ?_
        refine sA_iload dd_X9_putImage_361 (.tail _ (.tail _ (.tail _ (.tail _ (.tail _ (.tail _ (.tail _ (.tail _ (.head _))))))))) ?_
        refine sA_if_eq (tgt := 372) dd_X9_putImage_363 (by decide) (by omega) (fun q290 => ?_) (fun q290 => ?_)
        · skip
          refine sA_iload_n dd_X9_putImage_372 rfl (.tail _ (.tail _ (.tail _ (.tail _ (.tail _ (.tail _ (.tail _ (.head _)))))))) ?_
          refine sA_callV (y2 := m_X9_put) (n2 := 1) (d2 := 1) (a := 106) (ci := 9) (q := (RX9, TX9, 28)) (as := [gs_iv x]) (rest := []) dd_X9_putImage_373 ok_X9_put ml_X9_160 rfl rfl (by decide) gs_s106 rfl rfl (Nat.le_of_ble_eq_true rfl) (by decide) (c_X9_put_vf hI (by omega) (by omega)) (fun r291 F292 A293 h294 => ?_)
          obtain ⟨e296, I297, f298, x295⟩ := h294
          subst e296
          have v299 : F292 106 0 = F 106 0 := f298.1 106 0 (by first | exact id | omega | (dsimp only; omega) | (dsimp only) | fail)
          have f300 := gs_fr_tr hf f298 (fun b j h => by first | exact False.elim h | omega | (dsimp only at h ⊢; omega) | fail) (fun b h => by first | exact False.elim h | omega | (dsimp only at h ⊢; omega) | fail)
          have y301 : F292 106 15 ≤ F 106 15 + 1 ∧ 0 ≤ F292 106 15 ∧ gs_stk (A293 115) (F292 106 15).toNat = sp_push (gs_stk (A 115) (F 106 15).toNat) x := x295
          clear x295
          show sA _ _ _ 376 _ [] _ _
          refine sA_vret dd_X9_putImage_376 rfl ?_
          refine ⟨rfl, I297, f300, ?_⟩
          refine ⟨by omega, by omega, ?_⟩
          unfold sp_mi
          repeat (first | rw [if_pos (by omega)] | rw [if_neg (by omega)] | fail)
          show _ = sp_push _ _
          exact (y301.2.2.trans (sp_push_cg (by omega) rfl))
        · skip
          refine sA_iconst (z := 0) dd_X9_putImage_366 ?_
          refine sA_iload_n dd_X9_putImage_367 rfl (.tail _ (.tail _ (.tail _ (.tail _ (.tail _ (.tail _ (.tail _ (.head _)))))))) ?_
          refine sA_isub dd_X9_putImage_368 ?_
          refine sA_goto (tgt := 373) dd_X9_putImage_369 (by decide) ?_
          refine sA_callV (y2 := m_X9_put) (n2 := 1) (d2 := 1) (a := 106) (ci := 9) (q := (RX9, TX9, 28)) (as := [gs_iv (0 - x)]) (rest := []) dd_X9_putImage_373 ok_X9_put ml_X9_160 rfl rfl (by decide) gs_s106 rfl rfl (Nat.le_of_ble_eq_true rfl) (by decide) (c_X9_put_vf hI (by omega) (by omega)) (fun r302 F303 A304 h305 => ?_)
          obtain ⟨e307, I308, f309, x306⟩ := h305
          subst e307
          have v310 : F303 106 0 = F 106 0 := f309.1 106 0 (by first | exact id | omega | (dsimp only; omega) | (dsimp only) | fail)
          have f311 := gs_fr_tr hf f309 (fun b j h => by first | exact False.elim h | omega | (dsimp only at h ⊢; omega) | fail) (fun b h => by first | exact False.elim h | omega | (dsimp only at h ⊢; omega) | fail)
          have y312 : F303 106 15 ≤ F 106 15 + 1 ∧ 0 ≤ F303 106 15 ∧ gs_stk (A304 115) (F303 106 15).toNat = sp_push (gs_stk (A 115) (F 106 15).toNat) (0 - x) := x306
          clear x306
          show sA _ _ _ 376 _ [] _ _
          refine sA_vret dd_X9_putImage_376 rfl ?_
          refine ⟨rfl, I308, f311, ?_⟩
          refine ⟨by omega, by omega, ?_⟩
          unfold sp_mi
          repeat (first | rw [if_pos (by omega)] | rw [if_neg (by omega)] | fail)
          show _ = sp_push _ _
          exact (y312.2.2.trans (sp_push_cg (by omega) rfl))
      · skip
        refine sA_iload_n dd_X9_putImage_133 rfl (.tail _ (.tail _ (.tail _ (.tail _ (.tail _ (.tail _ (.head _))))))) ?_
        refine sA_if_eq (tgt := 142) dd_X9_putImage_134 (by decide) (by omega) (fun q313 => ?_) (fun q313 => ?_)
        · skip
          refine sA_iconst (z := 0) dd_X9_putImage_142 ?_
          refine sA_iload dd_X9_putImage_143 (.head _) ?_
          refine sA_isub dd_X9_putImage_145 ?_
          refine sA_istore (lv' := [(9, gs_iv (0 - ((2 * (t - (1 * (F 106 0)))) + 2))), (8, gs_iv ((2 * (t - (1 * (F 106 0)))) + 2)), (7, gs_iv ((2 * (t - (1 * (F 106 0)))) + 1)), (6, gs_iv (t - (1 * (F 106 0)))), (5, gs_iv 1), (0, .ref 106), (1, gs_iv t), (2, gs_iv o), (3, gs_iv x), (4, gs_iv b)]) dd_X9_putImage_146 (by decide) rfl ?_
          refine sA_aload_n dd_X9_putImage_148 rfl (.tail _ (.tail _ (.tail _ (.tail _ (.tail _ (.head _)))))) ?_
          refine sA_iload dd_X9_putImage_149 (.tail _ (.tail _ (.tail _ (.tail _ (.tail _ (.tail _ (.tail _ (.tail _ (.tail _ (.head _)))))))))) ?_
          refine sA_if_eq (tgt := 161) dd_X9_putImage_151 (by decide) (by omega) (fun q314 => ?_) (fun q314 => ?_)
          · skip
            refine sA_iload dd_X9_putImage_161 (.tail _ (.tail _ (.head _))) ?_
            refine sA_callV (y2 := m_X9_put) (n2 := 1) (d2 := 1) (a := 106) (ci := 9) (q := (RX9, TX9, 28)) (as := [gs_iv ((2 * (t - (1 * (F 106 0)))) + 1)]) (rest := []) dd_X9_putImage_163 ok_X9_put ml_X9_160 rfl rfl (by decide) gs_s106 rfl rfl (Nat.le_of_ble_eq_true rfl) (by decide) (c_X9_put_vf hI (by omega) (by omega)) (fun r315 F316 A317 h318 => ?_)
            obtain ⟨e320, I321, f322, x319⟩ := h318
            subst e320
            have v323 : F316 106 0 = F 106 0 := f322.1 106 0 (by first | exact id | omega | (dsimp only; omega) | (dsimp only) | fail)
            have f324 := gs_fr_tr hf f322 (fun b j h => by first | exact False.elim h | omega | (dsimp only at h ⊢; omega) | fail) (fun b h => by first | exact False.elim h | omega | (dsimp only at h ⊢; omega) | fail)
            have y325 : F316 106 15 ≤ F 106 15 + 1 ∧ 0 ≤ F316 106 15 ∧ gs_stk (A317 115) (F316 106 15).toNat = sp_push (gs_stk (A 115) (F 106 15).toNat) ((2 * (t - (1 * (F 106 0)))) + 1) := x319
            clear x319
            show sA _ _ _ 166 _ [] _ _
            refine sA_aload_n dd_X9_putImage_166 rfl (.tail _ (.tail _ (.tail _ (.tail _ (.tail _ (.head _)))))) ?_
            refine sA_iload dd_X9_putImage_167 (.tail _ (.tail _ (.tail _ (.tail _ (.tail _ (.tail _ (.tail _ (.tail _ (.tail _ (.head _)))))))))) ?_
            refine sA_if_eq (tgt := 179) dd_X9_putImage_169 (by decide) (by omega) (fun q326 => ?_) (fun q326 => absurd q326 (by omega))
            refine sA_iload dd_X9_putImage_179 (.head _) ?_
            refine sA_callV (y2 := m_X9_put) (n2 := 1) (d2 := 1) (a := 106) (ci := 9) (q := (RX9, TX9, 28)) (as := [gs_iv (0 - ((2 * (t - (1 * (F 106 0)))) + 2))]) (rest := []) dd_X9_putImage_181 ok_X9_put ml_X9_160 rfl rfl (by decide) gs_s106 rfl rfl (Nat.le_of_ble_eq_true rfl) (by decide) (c_X9_put_vf I321 (by omega) (by omega)) (fun r327 F328 A329 h330 => ?_)
            obtain ⟨e332, I333, f334, x331⟩ := h330
            subst e332
            have v335 : F328 106 0 = F316 106 0 := f334.1 106 0 (by first | exact id | omega | (dsimp only; omega) | (dsimp only) | fail)
            have f336 := gs_fr_tr f324 f334 (fun b j h => by first | exact False.elim h | omega | (dsimp only at h ⊢; omega) | fail) (fun b h => by first | exact False.elim h | omega | (dsimp only at h ⊢; omega) | fail)
            have y337 : F328 106 15 ≤ F316 106 15 + 1 ∧ 0 ≤ F328 106 15 ∧ gs_stk (A329 115) (F328 106 15).toNat = sp_push (gs_stk (A317 115) (F316 106 15).toNat) (0 - ((2 * (t - (1 * (F 106 0)))) + 2)) := x331
            clear x331
            show sA _ _ _ 184 _ [] _ _
            refine sA_goto (tgt := 376) dd_X9_putImage_184 (by decide) ?_
            refine sA_vret dd_X9_putImage_376 rfl ?_
            refine ⟨rfl, I333, f336, ?_⟩
            refine ⟨by omega, by omega, ?_⟩
            unfold sp_mi
            repeat (first | rw [if_pos (by omega)] | rw [if_neg (by omega)] | fail)
            show _ = sp_push (sp_push _ _) _
            exact (y337.2.2.trans (sp_push_cg (by omega) (y325.2.2.trans (sp_push_cg (by omega) rfl))))
          · skip
            refine sA_iconst (z := 0) dd_X9_putImage_154 ?_
            refine sA_iload dd_X9_putImage_155 (.head _) ?_
            refine sA_isub dd_X9_putImage_157 ?_
            refine sA_goto (tgt := 163) dd_X9_putImage_158 (by decide) ?_
            refine sA_callV (y2 := m_X9_put) (n2 := 1) (d2 := 1) (a := 106) (ci := 9) (q := (RX9, TX9, 28)) (as := [gs_iv (0 - (0 - ((2 * (t - (1 * (F 106 0)))) + 2)))]) (rest := []) dd_X9_putImage_163 ok_X9_put ml_X9_160 rfl rfl (by decide) gs_s106 rfl rfl (Nat.le_of_ble_eq_true rfl) (by decide) (c_X9_put_vf hI (by omega) (by omega)) (fun r338 F339 A340 h341 => ?_)
            obtain ⟨e343, I344, f345, x342⟩ := h341
            subst e343
            have v346 : F339 106 0 = F 106 0 := f345.1 106 0 (by first | exact id | omega | (dsimp only; omega) | (dsimp only) | fail)
            have f347 := gs_fr_tr hf f345 (fun b j h => by first | exact False.elim h | omega | (dsimp only at h ⊢; omega) | fail) (fun b h => by first | exact False.elim h | omega | (dsimp only at h ⊢; omega) | fail)
            have y348 : F339 106 15 ≤ F 106 15 + 1 ∧ 0 ≤ F339 106 15 ∧ gs_stk (A340 115) (F339 106 15).toNat = sp_push (gs_stk (A 115) (F 106 15).toNat) (0 - (0 - ((2 * (t - (1 * (F 106 0)))) + 2))) := x342
            clear x342
            show sA _ _ _ 166 _ [] _ _
            refine sA_aload_n dd_X9_putImage_166 rfl (.tail _ (.tail _ (.tail _ (.tail _ (.tail _ (.head _)))))) ?_
            refine sA_iload dd_X9_putImage_167 (.tail _ (.tail _ (.tail _ (.tail _ (.tail _ (.tail _ (.tail _ (.tail _ (.tail _ (.head _)))))))))) ?_
            refine sA_if_eq (tgt := 179) dd_X9_putImage_169 (by decide) (by omega) (fun q349 => absurd q349 (by omega)) (fun q349 => ?_)
            refine sA_iconst (z := 0) dd_X9_putImage_172 ?_
            refine sA_iload dd_X9_putImage_173 (.tail _ (.tail _ (.head _))) ?_
            refine sA_isub dd_X9_putImage_175 ?_
            refine sA_goto (tgt := 181) dd_X9_putImage_176 (by decide) ?_
            refine sA_callV (y2 := m_X9_put) (n2 := 1) (d2 := 1) (a := 106) (ci := 9) (q := (RX9, TX9, 28)) (as := [gs_iv (0 - ((2 * (t - (1 * (F 106 0)))) + 1))]) (rest := []) dd_X9_putImage_181 ok_X9_put ml_X9_160 rfl rfl (by decide) gs_s106 rfl rfl (Nat.le_of_ble_eq_true rfl) (by decide) (c_X9_put_vf I344 (by omega) (by omega)) (fun r350 F351 A352 h353 => ?_)
            obtain ⟨e355, I356, f357, x354⟩ := h353
            subst e355
            have v358 : F351 106 0 = F339 106 0 := f357.1 106 0 (by first | exact id | omega | (dsimp only; omega) | (dsimp only) | fail)
            have f359 := gs_fr_tr f347 f357 (fun b j h => by first | exact False.elim h | omega | (dsimp only at h ⊢; omega) | fail) (fun b h => by first | exact False.elim h | omega | (dsimp only at h ⊢; omega) | fail)
            have y360 : F351 106 15 ≤ F339 106 15 + 1 ∧ 0 ≤ F351 106 15 ∧ gs_stk (A352 115) (F351 106 15).toNat = sp_push (gs_stk (A340 115) (F339 106 15).toNat) (0 - ((2 * (t - (1 * (F 106 0)))) + 1)) := x354
            clear x354
            show sA _ _ _ 184 _ [] _ _
            refine sA_goto (tgt := 376) dd_X9_putImage_184 (by decide) ?_
            refine sA_vret dd_X9_putImage_376 rfl ?_
            refine ⟨rfl, I356, f359, ?_⟩
            refine ⟨by omega, by omega, ?_⟩
            unfold sp_mi
            repeat (first | rw [if_pos (by omega)] | rw [if_neg (by omega)] | fail)
            show _ = sp_push (sp_push _ _) _
            exact (y360.2.2.trans (sp_push_cg (by omega) (y348.2.2.trans (sp_push_cg (by omega) rfl))))
        · skip
          refine sA_iload dd_X9_putImage_137 (.head _) ?_
          refine sA_goto (tgt := 146) dd_X9_putImage_139 (by decide) ?_
          refine sA_istore (lv' := [(9, gs_iv ((2 * (t - (1 * (F 106 0)))) + 2)), (8, gs_iv ((2 * (t - (1 * (F 106 0)))) + 2)), (7, gs_iv ((2 * (t - (1 * (F 106 0)))) + 1)), (6, gs_iv (t - (1 * (F 106 0)))), (5, gs_iv 1), (0, .ref 106), (1, gs_iv t), (2, gs_iv o), (3, gs_iv x), (4, gs_iv b)]) dd_X9_putImage_146 (by decide) rfl ?_
          refine sA_aload_n dd_X9_putImage_148 rfl (.tail _ (.tail _ (.tail _ (.tail _ (.tail _ (.head _)))))) ?_
          refine sA_iload dd_X9_putImage_149 (.tail _ (.tail _ (.tail _ (.tail _ (.tail _ (.tail _ (.tail _ (.tail _ (.tail _ (.head _)))))))))) ?_
          refine sA_if_eq (tgt := 161) dd_X9_putImage_151 (by decide) (by omega) (fun q361 => ?_) (fun q361 => ?_)
          · skip
            refine sA_iload dd_X9_putImage_161 (.tail _ (.tail _ (.head _))) ?_
            refine sA_callV (y2 := m_X9_put) (n2 := 1) (d2 := 1) (a := 106) (ci := 9) (q := (RX9, TX9, 28)) (as := [gs_iv ((2 * (t - (1 * (F 106 0)))) + 1)]) (rest := []) dd_X9_putImage_163 ok_X9_put ml_X9_160 rfl rfl (by decide) gs_s106 rfl rfl (Nat.le_of_ble_eq_true rfl) (by decide) (c_X9_put_vf hI (by omega) (by omega)) (fun r362 F363 A364 h365 => ?_)
            obtain ⟨e367, I368, f369, x366⟩ := h365
            subst e367
            have v370 : F363 106 0 = F 106 0 := f369.1 106 0 (by first | exact id | omega | (dsimp only; omega) | (dsimp only) | fail)
            have f371 := gs_fr_tr hf f369 (fun b j h => by first | exact False.elim h | omega | (dsimp only at h ⊢; omega) | fail) (fun b h => by first | exact False.elim h | omega | (dsimp only at h ⊢; omega) | fail)
            have y372 : F363 106 15 ≤ F 106 15 + 1 ∧ 0 ≤ F363 106 15 ∧ gs_stk (A364 115) (F363 106 15).toNat = sp_push (gs_stk (A 115) (F 106 15).toNat) ((2 * (t - (1 * (F 106 0)))) + 1) := x366
            clear x366
            show sA _ _ _ 166 _ [] _ _
            refine sA_aload_n dd_X9_putImage_166 rfl (.tail _ (.tail _ (.tail _ (.tail _ (.tail _ (.head _)))))) ?_
            refine sA_iload dd_X9_putImage_167 (.tail _ (.tail _ (.tail _ (.tail _ (.tail _ (.tail _ (.tail _ (.tail _ (.tail _ (.head _)))))))))) ?_
            refine sA_if_eq (tgt := 179) dd_X9_putImage_169 (by decide) (by omega) (fun q373 => ?_) (fun q373 => absurd q373 (by omega))
            refine sA_iload dd_X9_putImage_179 (.head _) ?_
            refine sA_callV (y2 := m_X9_put) (n2 := 1) (d2 := 1) (a := 106) (ci := 9) (q := (RX9, TX9, 28)) (as := [gs_iv ((2 * (t - (1 * (F 106 0)))) + 2)]) (rest := []) dd_X9_putImage_181 ok_X9_put ml_X9_160 rfl rfl (by decide) gs_s106 rfl rfl (Nat.le_of_ble_eq_true rfl) (by decide) (c_X9_put_vf I368 (by omega) (by omega)) (fun r374 F375 A376 h377 => ?_)
            obtain ⟨e379, I380, f381, x378⟩ := h377
            subst e379
            have v382 : F375 106 0 = F363 106 0 := f381.1 106 0 (by first | exact id | omega | (dsimp only; omega) | (dsimp only) | fail)
            have f383 := gs_fr_tr f371 f381 (fun b j h => by first | exact False.elim h | omega | (dsimp only at h ⊢; omega) | fail) (fun b h => by first | exact False.elim h | omega | (dsimp only at h ⊢; omega) | fail)
            have y384 : F375 106 15 ≤ F363 106 15 + 1 ∧ 0 ≤ F375 106 15 ∧ gs_stk (A376 115) (F375 106 15).toNat = sp_push (gs_stk (A364 115) (F363 106 15).toNat) ((2 * (t - (1 * (F 106 0)))) + 2) := x378
            clear x378
            show sA _ _ _ 184 _ [] _ _
            refine sA_goto (tgt := 376) dd_X9_putImage_184 (by decide) ?_
            refine sA_vret dd_X9_putImage_376 rfl ?_
            refine ⟨rfl, I380, f383, ?_⟩
            refine ⟨by omega, by omega, ?_⟩
            unfold sp_mi
            repeat (first | rw [if_pos (by omega)] | rw [if_neg (by omega)] | fail)
            show _ = sp_push (sp_push _ _) _
            exact (y384.2.2.trans (sp_push_cg (by omega) (y372.2.2.trans (sp_push_cg (by omega) rfl))))
          · skip
            refine sA_iconst (z := 0) dd_X9_putImage_154 ?_
            refine sA_iload dd_X9_putImage_155 (.head _) ?_
            refine sA_isub dd_X9_putImage_157 ?_
            refine sA_goto (tgt := 163) dd_X9_putImage_158 (by decide) ?_
            refine sA_callV (y2 := m_X9_put) (n2 := 1) (d2 := 1) (a := 106) (ci := 9) (q := (RX9, TX9, 28)) (as := [gs_iv (0 - ((2 * (t - (1 * (F 106 0)))) + 2))]) (rest := []) dd_X9_putImage_163 ok_X9_put ml_X9_160 rfl rfl (by decide) gs_s106 rfl rfl (Nat.le_of_ble_eq_true rfl) (by decide) (c_X9_put_vf hI (by omega) (by omega)) (fun r385 F386 A387 h388 => ?_)
            obtain ⟨e390, I391, f392, x389⟩ := h388
            subst e390
            have v393 : F386 106 0 = F 106 0 := f392.1 106 0 (by first | exact id | omega | (dsimp only; omega) | (dsimp only) | fail)
            have f394 := gs_fr_tr hf f392 (fun b j h => by first | exact False.elim h | omega | (dsimp only at h ⊢; omega) | fail) (fun b h => by first | exact False.elim h | omega | (dsimp only at h ⊢; omega) | fail)
            have y395 : F386 106 15 ≤ F 106 15 + 1 ∧ 0 ≤ F386 106 15 ∧ gs_stk (A387 115) (F386 106 15).toNat = sp_push (gs_stk (A 115) (F 106 15).toNat) (0 - ((2 * (t - (1 * (F 106 0)))) + 2)) := x389
            clear x389
            show sA _ _ _ 166 _ [] _ _
            refine sA_aload_n dd_X9_putImage_166 rfl (.tail _ (.tail _ (.tail _ (.tail _ (.tail _ (.head _)))))) ?_
            refine sA_iload dd_X9_putImage_167 (.tail _ (.tail _ (.tail _ (.tail _ (.tail _ (.tail _ (.tail _ (.tail _ (.tail _ (.head _)))))))))) ?_
            refine sA_if_eq (tgt := 179) dd_X9_putImage_169 (by decide) (by omega) (fun q396 => absurd q396 (by omega)) (fun q396 => ?_)
            refine sA_iconst (z := 0) dd_X9_putImage_172 ?_
            refine sA_iload dd_X9_putImage_173 (.tail _ (.tail _ (.head _))) ?_
            refine sA_isub dd_X9_putImage_175 ?_
            refine sA_goto (tgt := 181) dd_X9_putImage_176 (by decide) ?_
            refine sA_callV (y2 := m_X9_put) (n2 := 1) (d2 := 1) (a := 106) (ci := 9) (q := (RX9, TX9, 28)) (as := [gs_iv (0 - ((2 * (t - (1 * (F 106 0)))) + 1))]) (rest := []) dd_X9_putImage_181 ok_X9_put ml_X9_160 rfl rfl (by decide) gs_s106 rfl rfl (Nat.le_of_ble_eq_true rfl) (by decide) (c_X9_put_vf I391 (by omega) (by omega)) (fun r397 F398 A399 h400 => ?_)
            obtain ⟨e402, I403, f404, x401⟩ := h400
            subst e402
            have v405 : F398 106 0 = F386 106 0 := f404.1 106 0 (by first | exact id | omega | (dsimp only; omega) | (dsimp only) | fail)
            have f406 := gs_fr_tr f394 f404 (fun b j h => by first | exact False.elim h | omega | (dsimp only at h ⊢; omega) | fail) (fun b h => by first | exact False.elim h | omega | (dsimp only at h ⊢; omega) | fail)
            have y407 : F398 106 15 ≤ F386 106 15 + 1 ∧ 0 ≤ F398 106 15 ∧ gs_stk (A399 115) (F398 106 15).toNat = sp_push (gs_stk (A387 115) (F386 106 15).toNat) (0 - ((2 * (t - (1 * (F 106 0)))) + 1)) := x401
            clear x401
            show sA _ _ _ 184 _ [] _ _
            refine sA_goto (tgt := 376) dd_X9_putImage_184 (by decide) ?_
            refine sA_vret dd_X9_putImage_376 rfl ?_
            refine ⟨rfl, I403, f406, ?_⟩
            refine ⟨by omega, by omega, ?_⟩
            unfold sp_mi
            repeat (first | rw [if_pos (by omega)] | rw [if_neg (by omega)] | fail)
            show _ = sp_push (sp_push _ _) _
            exact (y407.2.2.trans (sp_push_cg (by omega) (y395.2.2.trans (sp_push_cg (by omega) rfl))))
  · skip
    refine sA_iconst (z := 0) dd_X9_putImage_8 ?_
    refine sA_goto (tgt := 27) dd_X9_putImage_9 (by decide) ?_
    refine sA_istore (lv' := [(5, gs_iv 0), (0, .ref 106), (1, gs_iv t), (2, gs_iv o), (3, gs_iv x), (4, gs_iv b)]) dd_X9_putImage_27 (by decide) rfl ?_
    refine sA_iload_n dd_X9_putImage_29 rfl (.tail _ (.tail _ (.head _))) ?_
    refine sA_iload dd_X9_putImage_30 (.head _) ?_
    refine sA_aload_n dd_X9_putImage_32 rfl (.tail _ (.head _)) ?_
    refine sA_geti (ci := 9) (j := 0) (q := (RX9, TX9, 28)) dd_X9_putImage_33 rfl (by decide) fl_X9_64 (by decide) gs_s106 rfl ?_
    refine sA_imul dd_X9_putImage_36 ?_
    refine sA_isub dd_X9_putImage_37 ?_
    refine sA_istore (lv' := [(6, gs_iv (t - (0 * (F 106 0)))), (5, gs_iv 0), (0, .ref 106), (1, gs_iv t), (2, gs_iv o), (3, gs_iv x), (4, gs_iv b)]) dd_X9_putImage_38 (by decide) rfl ?_
    refine sA_iconst (z := 2) dd_X9_putImage_40 ?_
    refine sA_iload dd_X9_putImage_41 (.head _) ?_
    refine sA_imul dd_X9_putImage_43 ?_
    refine sA_iconst (z := 1) dd_X9_putImage_44 ?_
    refine sA_iadd dd_X9_putImage_45 ?_
    refine sA_istore (lv' := [(7, gs_iv ((2 * (t - (0 * (F 106 0)))) + 1)), (6, gs_iv (t - (0 * (F 106 0)))), (5, gs_iv 0), (0, .ref 106), (1, gs_iv t), (2, gs_iv o), (3, gs_iv x), (4, gs_iv b)]) dd_X9_putImage_46 (by decide) rfl ?_
    refine sA_iconst (z := 2) dd_X9_putImage_48 ?_
    refine sA_iload dd_X9_putImage_49 (.tail _ (.head _)) ?_
    refine sA_imul dd_X9_putImage_51 ?_
    refine sA_iconst (z := 2) dd_X9_putImage_52 ?_
    refine sA_iadd dd_X9_putImage_53 ?_
    refine sA_istore (lv' := [(8, gs_iv ((2 * (t - (0 * (F 106 0)))) + 2)), (7, gs_iv ((2 * (t - (0 * (F 106 0)))) + 1)), (6, gs_iv (t - (0 * (F 106 0)))), (5, gs_iv 0), (0, .ref 106), (1, gs_iv t), (2, gs_iv o), (3, gs_iv x), (4, gs_iv b)]) dd_X9_putImage_54 (by decide) rfl ?_
    refine sA_iload dd_X9_putImage_56 (.tail _ (.tail _ (.tail _ (.head _)))) ?_
    refine sA_if_ne (tgt := 121) dd_X9_putImage_58 (by decide) (by omega) (fun q408 => absurd q408 (by omega)) (fun q408 => ?_)
    refine sA_iload_n dd_X9_putImage_61 rfl (.tail _ (.tail _ (.tail _ (.tail _ (.tail _ (.tail _ (.tail _ (.head _)))))))) ?_
    refine sA_iload dd_X9_putImage_62 (.head _) ?_
    refine sA_icmp_ne (tgt := 121) dd_X9_putImage_64 (by decide) (by omega) (by omega) (fun q409 => ?_) (fun q409 => ?_)
    · skip
      refine sA_iload dd_X9_putImage_121 (.tail _ (.tail _ (.tail _ (.head _)))) ?_
      refine sA_iconst (z := 1) dd_X9_putImage_123 ?_
      refine sA_icmp_ne (tgt := 187) dd_X9_putImage_124 (by decide) (by omega) (by omega) (fun q410 => ?_) (fun q410 => absurd q410 (by omega))
      refine sA_iload dd_X9_putImage_187 (.tail _ (.tail _ (.tail _ (.head _)))) ?_
      refine sA_iconst (z := 2) dd_X9_putImage_189 ?_
      refine sA_icmp_ne (tgt := 246) dd_X9_putImage_190 (by decide) (by omega) (by omega) (fun q411 => ?_) (fun q411 => absurd q411 (by omega))
      refine sA_iload dd_X9_putImage_246 (.tail _ (.tail _ (.tail _ (.head _)))) ?_
      refine sA_iconst (z := 2) dd_X9_putImage_248 ?_
      refine sA_icmp_ne (tgt := 301) dd_X9_putImage_249 (by decide) (by omega) (by omega) (fun q412 => ?_) (fun q412 => absurd q412 (by omega))
      refine sA_iload dd_X9_putImage_301 (.tail _ (.tail _ (.tail _ (.head _)))) ?_
      refine sA_iconst (z := 2) dd_X9_putImage_303 ?_
      refine sA_icmp_ne (tgt := 360) dd_X9_putImage_304 (by decide) (by omega) (by omega) (fun q413 => ?_) (fun q413 => absurd q413 (by omega))
      refine sA_aload_n dd_X9_putImage_360 rfl (.tail _ (.tail _ (.tail _ (.tail _ (.head _))))) ?_
      refine sA_iload dd_X9_putImage_361 (.tail _ (.tail _ (.tail _ (.tail _ (.tail _ (.tail _ (.tail _ (.tail _ (.head _))))))))) ?_
      refine sA_if_eq (tgt := 372) dd_X9_putImage_363 (by decide) (by omega) (fun q414 => ?_) (fun q414 => ?_)
      · skip
        refine sA_iload_n dd_X9_putImage_372 rfl (.tail _ (.tail _ (.tail _ (.tail _ (.tail _ (.tail _ (.tail _ (.head _)))))))) ?_
        refine sA_callV (y2 := m_X9_put) (n2 := 1) (d2 := 1) (a := 106) (ci := 9) (q := (RX9, TX9, 28)) (as := [gs_iv x]) (rest := []) dd_X9_putImage_373 ok_X9_put ml_X9_160 rfl rfl (by decide) gs_s106 rfl rfl (Nat.le_of_ble_eq_true rfl) (by decide) (c_X9_put_vf hI (by omega) (by omega)) (fun r415 F416 A417 h418 => ?_)
        obtain ⟨e420, I421, f422, x419⟩ := h418
        subst e420
        have v423 : F416 106 0 = F 106 0 := f422.1 106 0 (by first | exact id | omega | (dsimp only; omega) | (dsimp only) | fail)
        have f424 := gs_fr_tr hf f422 (fun b j h => by first | exact False.elim h | omega | (dsimp only at h ⊢; omega) | fail) (fun b h => by first | exact False.elim h | omega | (dsimp only at h ⊢; omega) | fail)
        have y425 : F416 106 15 ≤ F 106 15 + 1 ∧ 0 ≤ F416 106 15 ∧ gs_stk (A417 115) (F416 106 15).toNat = sp_push (gs_stk (A 115) (F 106 15).toNat) x := x419
        clear x419
        show sA _ _ _ 376 _ [] _ _
        refine sA_vret dd_X9_putImage_376 rfl ?_
        refine ⟨rfl, I421, f424, ?_⟩
        refine ⟨by omega, by omega, ?_⟩
        unfold sp_mi
        repeat (first | rw [if_pos (by omega)] | rw [if_neg (by omega)] | fail)
        show _ = sp_push _ _
        exact (y425.2.2.trans (sp_push_cg (by omega) rfl))
      · skip
        refine sA_iconst (z := 0) dd_X9_putImage_366 ?_
        refine sA_iload_n dd_X9_putImage_367 rfl (.tail _ (.tail _ (.tail _ (.tail _ (.tail _ (.tail _ (.tail _ (.head _)))))))) ?_
        refine sA_isub dd_X9_putImage_368 ?_
        refine sA_goto (tgt := 373) dd_X9_putImage_369 (by decide) ?_
        refine sA_callV (y2 := m_X9_put) (n2 := 1) (d2 := 1) (a := 106) (ci := 9) (q := (RX9, TX9, 28)) (as := [gs_iv (0 - x)]) (rest := []) dd_X9_putImage_373 ok_X9_put ml_X9_160 rfl rfl (by decide) gs_s106 rfl rfl (Nat.le_of_ble_eq_true rfl) (by decide) (c_X9_put_vf hI (by omega) (by omega)) (fun r426 F427 A428 h429 => ?_)
        obtain ⟨e431, I432, f433, x430⟩ := h429
        subst e431
        have v434 : F427 106 0 = F 106 0 := f433.1 106 0 (by first | exact id | omega | (dsimp only; omega) | (dsimp only) | fail)
        have f435 := gs_fr_tr hf f433 (fun b j h => by first | exact False.elim h | omega | (dsimp only at h ⊢; omega) | fail) (fun b h => by first | exact False.elim h | omega | (dsimp only at h ⊢; omega) | fail)
        have y436 : F427 106 15 ≤ F 106 15 + 1 ∧ 0 ≤ F427 106 15 ∧ gs_stk (A428 115) (F427 106 15).toNat = sp_push (gs_stk (A 115) (F 106 15).toNat) (0 - x) := x430
        clear x430
        show sA _ _ _ 376 _ [] _ _
        refine sA_vret dd_X9_putImage_376 rfl ?_
        refine ⟨rfl, I432, f435, ?_⟩
        refine ⟨by omega, by omega, ?_⟩
        unfold sp_mi
        repeat (first | rw [if_pos (by omega)] | rw [if_neg (by omega)] | fail)
        show _ = sp_push _ _
        exact (y436.2.2.trans (sp_push_cg (by omega) rfl))
    · skip
      refine sA_iload_n dd_X9_putImage_67 rfl (.tail _ (.tail _ (.tail _ (.tail _ (.tail _ (.tail _ (.head _))))))) ?_
      refine sA_if_eq (tgt := 78) dd_X9_putImage_68 (by decide) (by omega) (fun q437 => ?_) (fun q437 => ?_)
      · skip
        refine sA_iload dd_X9_putImage_78 (.tail _ (.head _)) ?_
        refine sA_istore (lv' := [(9, gs_iv ((2 * (t - (0 * (F 106 0)))) + 1)), (8, gs_iv ((2 * (t - (0 * (F 106 0)))) + 2)), (7, gs_iv ((2 * (t - (0 * (F 106 0)))) + 1)), (6, gs_iv (t - (0 * (F 106 0)))), (5, gs_iv 0), (0, .ref 106), (1, gs_iv t), (2, gs_iv o), (3, gs_iv x), (4, gs_iv b)]) dd_X9_putImage_80 (by decide) rfl ?_
        refine sA_aload_n dd_X9_putImage_82 rfl (.tail _ (.tail _ (.tail _ (.tail _ (.tail _ (.head _)))))) ?_
        refine sA_iload dd_X9_putImage_83 (.tail _ (.tail _ (.tail _ (.tail _ (.tail _ (.tail _ (.tail _ (.tail _ (.tail _ (.head _)))))))))) ?_
        refine sA_if_eq (tgt := 95) dd_X9_putImage_85 (by decide) (by omega) (fun q438 => ?_) (fun q438 => ?_)
        · skip
          refine sA_iload dd_X9_putImage_95 (.tail _ (.head _)) ?_
          refine sA_callV (y2 := m_X9_put) (n2 := 1) (d2 := 1) (a := 106) (ci := 9) (q := (RX9, TX9, 28)) (as := [gs_iv ((2 * (t - (0 * (F 106 0)))) + 2)]) (rest := []) dd_X9_putImage_97 ok_X9_put ml_X9_160 rfl rfl (by decide) gs_s106 rfl rfl (Nat.le_of_ble_eq_true rfl) (by decide) (c_X9_put_vf hI (by omega) (by omega)) (fun r439 F440 A441 h442 => ?_)
          obtain ⟨e444, I445, f446, x443⟩ := h442
          subst e444
          have v447 : F440 106 0 = F 106 0 := f446.1 106 0 (by first | exact id | omega | (dsimp only; omega) | (dsimp only) | fail)
          have f448 := gs_fr_tr hf f446 (fun b j h => by first | exact False.elim h | omega | (dsimp only at h ⊢; omega) | fail) (fun b h => by first | exact False.elim h | omega | (dsimp only at h ⊢; omega) | fail)
          have y449 : F440 106 15 ≤ F 106 15 + 1 ∧ 0 ≤ F440 106 15 ∧ gs_stk (A441 115) (F440 106 15).toNat = sp_push (gs_stk (A 115) (F 106 15).toNat) ((2 * (t - (0 * (F 106 0)))) + 2) := x443
          clear x443
          show sA _ _ _ 100 _ [] _ _
          refine sA_aload_n dd_X9_putImage_100 rfl (.tail _ (.tail _ (.tail _ (.tail _ (.tail _ (.head _)))))) ?_
          refine sA_iload dd_X9_putImage_101 (.tail _ (.tail _ (.tail _ (.tail _ (.tail _ (.tail _ (.tail _ (.tail _ (.tail _ (.head _)))))))))) ?_
          refine sA_if_eq (tgt := 113) dd_X9_putImage_103 (by decide) (by omega) (fun q450 => ?_) (fun q450 => absurd q450 (by omega))
          refine sA_iload dd_X9_putImage_113 (.head _) ?_
          refine sA_callV (y2 := m_X9_put) (n2 := 1) (d2 := 1) (a := 106) (ci := 9) (q := (RX9, TX9, 28)) (as := [gs_iv ((2 * (t - (0 * (F 106 0)))) + 1)]) (rest := []) dd_X9_putImage_115 ok_X9_put ml_X9_160 rfl rfl (by decide) gs_s106 rfl rfl (Nat.le_of_ble_eq_true rfl) (by decide) (c_X9_put_vf I445 (by omega) (by omega)) (fun r451 F452 A453 h454 => ?_)
          obtain ⟨e456, I457, f458, x455⟩ := h454
          subst e456
          have v459 : F452 106 0 = F440 106 0 := f458.1 106 0 (by first | exact id | omega | (dsimp only; omega) | (dsimp only) | fail)
          have f460 := gs_fr_tr f448 f458 (fun b j h => by first | exact False.elim h | omega | (dsimp only at h ⊢; omega) | fail) (fun b h => by first | exact False.elim h | omega | (dsimp only at h ⊢; omega) | fail)
          have y461 : F452 106 15 ≤ F440 106 15 + 1 ∧ 0 ≤ F452 106 15 ∧ gs_stk (A453 115) (F452 106 15).toNat = sp_push (gs_stk (A441 115) (F440 106 15).toNat) ((2 * (t - (0 * (F 106 0)))) + 1) := x455
          clear x455
          show sA _ _ _ 118 _ [] _ _
          refine sA_goto (tgt := 376) dd_X9_putImage_118 (by decide) ?_
          refine sA_vret dd_X9_putImage_376 rfl ?_
          refine ⟨rfl, I457, f460, ?_⟩
          refine ⟨by omega, by omega, ?_⟩
          unfold sp_mi
          repeat (first | rw [if_pos (by omega)] | rw [if_neg (by omega)] | fail)
          show _ = sp_push (sp_push _ _) _
          exact (y461.2.2.trans (sp_push_cg (by omega) (y449.2.2.trans (sp_push_cg (by omega) rfl))))
        · skip
          refine sA_iconst (z := 0) dd_X9_putImage_88 ?_
          refine sA_iload dd_X9_putImage_89 (.head _) ?_
          refine sA_isub dd_X9_putImage_91 ?_
          refine sA_goto (tgt := 97) dd_X9_putImage_92 (by decide) ?_
          refine sA_callV (y2 := m_X9_put) (n2 := 1) (d2 := 1) (a := 106) (ci := 9) (q := (RX9, TX9, 28)) (as := [gs_iv (0 - ((2 * (t - (0 * (F 106 0)))) + 1))]) (rest := []) dd_X9_putImage_97 ok_X9_put ml_X9_160 rfl rfl (by decide) gs_s106 rfl rfl (Nat.le_of_ble_eq_true rfl) (by decide) (c_X9_put_vf hI (by omega) (by omega)) (fun r462 F463 A464 h465 => ?_)
          obtain ⟨e467, I468, f469, x466⟩ := h465
          subst e467
          have v470 : F463 106 0 = F 106 0 := f469.1 106 0 (by first | exact id | omega | (dsimp only; omega) | (dsimp only) | fail)
          have f471 := gs_fr_tr hf f469 (fun b j h => by first | exact False.elim h | omega | (dsimp only at h ⊢; omega) | fail) (fun b h => by first | exact False.elim h | omega | (dsimp only at h ⊢; omega) | fail)
          have y472 : F463 106 15 ≤ F 106 15 + 1 ∧ 0 ≤ F463 106 15 ∧ gs_stk (A464 115) (F463 106 15).toNat = sp_push (gs_stk (A 115) (F 106 15).toNat) (0 - ((2 * (t - (0 * (F 106 0)))) + 1)) := x466
          clear x466
          show sA _ _ _ 100 _ [] _ _
          refine sA_aload_n dd_X9_putImage_100 rfl (.tail _ (.tail _ (.tail _ (.tail _ (.tail _ (.head _)))))) ?_
          refine sA_iload dd_X9_putImage_101 (.tail _ (.tail _ (.tail _ (.tail _ (.tail _ (.tail _ (.tail _ (.tail _ (.tail _ (.head _)))))))))) ?_
          refine sA_if_eq (tgt := 113) dd_X9_putImage_103 (by decide) (by omega) (fun q473 => absurd q473 (by omega)) (fun q473 => ?_)
          refine sA_iconst (z := 0) dd_X9_putImage_106 ?_
          refine sA_iload dd_X9_putImage_107 (.tail _ (.head _)) ?_
          refine sA_isub dd_X9_putImage_109 ?_
          refine sA_goto (tgt := 115) dd_X9_putImage_110 (by decide) ?_
          refine sA_callV (y2 := m_X9_put) (n2 := 1) (d2 := 1) (a := 106) (ci := 9) (q := (RX9, TX9, 28)) (as := [gs_iv (0 - ((2 * (t - (0 * (F 106 0)))) + 2))]) (rest := []) dd_X9_putImage_115 ok_X9_put ml_X9_160 rfl rfl (by decide) gs_s106 rfl rfl (Nat.le_of_ble_eq_true rfl) (by decide) (c_X9_put_vf I468 (by omega) (by omega)) (fun r474 F475 A476 h477 => ?_)
          obtain ⟨e479, I480, f481, x478⟩ := h477
          subst e479
          have v482 : F475 106 0 = F463 106 0 := f481.1 106 0 (by first | exact id | omega | (dsimp only; omega) | (dsimp only) | fail)
          have f483 := gs_fr_tr f471 f481 (fun b j h => by first | exact False.elim h | omega | (dsimp only at h ⊢; omega) | fail) (fun b h => by first | exact False.elim h | omega | (dsimp only at h ⊢; omega) | fail)
          have y484 : F475 106 15 ≤ F463 106 15 + 1 ∧ 0 ≤ F475 106 15 ∧ gs_stk (A476 115) (F475 106 15).toNat = sp_push (gs_stk (A464 115) (F463 106 15).toNat) (0 - ((2 * (t - (0 * (F 106 0)))) + 2)) := x478
          clear x478
          show sA _ _ _ 118 _ [] _ _
          refine sA_goto (tgt := 376) dd_X9_putImage_118 (by decide) ?_
          refine sA_vret dd_X9_putImage_376 rfl ?_
          refine ⟨rfl, I480, f483, ?_⟩
          refine ⟨by omega, by omega, ?_⟩
          unfold sp_mi
          repeat (first | rw [if_pos (by omega)] | rw [if_neg (by omega)] | fail)
          show _ = sp_push (sp_push _ _) _
          exact (y484.2.2.trans (sp_push_cg (by omega) (y472.2.2.trans (sp_push_cg (by omega) rfl))))
      · skip
        refine sA_iconst (z := 0) dd_X9_putImage_71 ?_
        refine sA_iload dd_X9_putImage_72 (.tail _ (.head _)) ?_
        refine sA_isub dd_X9_putImage_74 ?_
        refine sA_goto (tgt := 80) dd_X9_putImage_75 (by decide) ?_
        refine sA_istore (lv' := [(9, gs_iv (0 - ((2 * (t - (0 * (F 106 0)))) + 1))), (8, gs_iv ((2 * (t - (0 * (F 106 0)))) + 2)), (7, gs_iv ((2 * (t - (0 * (F 106 0)))) + 1)), (6, gs_iv (t - (0 * (F 106 0)))), (5, gs_iv 0), (0, .ref 106), (1, gs_iv t), (2, gs_iv o), (3, gs_iv x), (4, gs_iv b)]) dd_X9_putImage_80 (by decide) rfl ?_
        refine sA_aload_n dd_X9_putImage_82 rfl (.tail _ (.tail _ (.tail _ (.tail _ (.tail _ (.head _)))))) ?_
        refine sA_iload dd_X9_putImage_83 (.tail _ (.tail _ (.tail _ (.tail _ (.tail _ (.tail _ (.tail _ (.tail _ (.tail _ (.head _)))))))))) ?_
        refine sA_if_eq (tgt := 95) dd_X9_putImage_85 (by decide) (by omega) (fun q485 => ?_) (fun q485 => ?_)
        · skip
          refine sA_iload dd_X9_putImage_95 (.tail _ (.head _)) ?_
          refine sA_callV (y2 := m_X9_put) (n2 := 1) (d2 := 1) (a := 106) (ci := 9) (q := (RX9, TX9, 28)) (as := [gs_iv ((2 * (t - (0 * (F 106 0)))) + 2)]) (rest := []) dd_X9_putImage_97 ok_X9_put ml_X9_160 rfl rfl (by decide) gs_s106 rfl rfl (Nat.le_of_ble_eq_true rfl) (by decide) (c_X9_put_vf hI (by omega) (by omega)) (fun r486 F487 A488 h489 => ?_)
          obtain ⟨e491, I492, f493, x490⟩ := h489
          subst e491
          have v494 : F487 106 0 = F 106 0 := f493.1 106 0 (by first | exact id | omega | (dsimp only; omega) | (dsimp only) | fail)
          have f495 := gs_fr_tr hf f493 (fun b j h => by first | exact False.elim h | omega | (dsimp only at h ⊢; omega) | fail) (fun b h => by first | exact False.elim h | omega | (dsimp only at h ⊢; omega) | fail)
          have y496 : F487 106 15 ≤ F 106 15 + 1 ∧ 0 ≤ F487 106 15 ∧ gs_stk (A488 115) (F487 106 15).toNat = sp_push (gs_stk (A 115) (F 106 15).toNat) ((2 * (t - (0 * (F 106 0)))) + 2) := x490
          clear x490
          show sA _ _ _ 100 _ [] _ _
          refine sA_aload_n dd_X9_putImage_100 rfl (.tail _ (.tail _ (.tail _ (.tail _ (.tail _ (.head _)))))) ?_
          refine sA_iload dd_X9_putImage_101 (.tail _ (.tail _ (.tail _ (.tail _ (.tail _ (.tail _ (.tail _ (.tail _ (.tail _ (.head _)))))))))) ?_
          refine sA_if_eq (tgt := 113) dd_X9_putImage_103 (by decide) (by omega) (fun q497 => ?_) (fun q497 => absurd q497 (by omega))
          refine sA_iload dd_X9_putImage_113 (.head _) ?_
          refine sA_callV (y2 := m_X9_put) (n2 := 1) (d2 := 1) (a := 106) (ci := 9) (q := (RX9, TX9, 28)) (as := [gs_iv (0 - ((2 * (t - (0 * (F 106 0)))) + 1))]) (rest := []) dd_X9_putImage_115 ok_X9_put ml_X9_160 rfl rfl (by decide) gs_s106 rfl rfl (Nat.le_of_ble_eq_true rfl) (by decide) (c_X9_put_vf I492 (by omega) (by omega)) (fun r498 F499 A500 h501 => ?_)
          obtain ⟨e503, I504, f505, x502⟩ := h501
          subst e503
          have v506 : F499 106 0 = F487 106 0 := f505.1 106 0 (by first | exact id | omega | (dsimp only; omega) | (dsimp only) | fail)
          have f507 := gs_fr_tr f495 f505 (fun b j h => by first | exact False.elim h | omega | (dsimp only at h ⊢; omega) | fail) (fun b h => by first | exact False.elim h | omega | (dsimp only at h ⊢; omega) | fail)
          have y508 : F499 106 15 ≤ F487 106 15 + 1 ∧ 0 ≤ F499 106 15 ∧ gs_stk (A500 115) (F499 106 15).toNat = sp_push (gs_stk (A488 115) (F487 106 15).toNat) (0 - ((2 * (t - (0 * (F 106 0)))) + 1)) := x502
          clear x502
          show sA _ _ _ 118 _ [] _ _
          refine sA_goto (tgt := 376) dd_X9_putImage_118 (by decide) ?_
          refine sA_vret dd_X9_putImage_376 rfl ?_
          refine ⟨rfl, I504, f507, ?_⟩
          refine ⟨by omega, by omega, ?_⟩
          unfold sp_mi
          repeat (first | rw [if_pos (by omega)] | rw [if_neg (by omega)] | fail)
          show _ = sp_push (sp_push _ _) _
          exact (y508.2.2.trans (sp_push_cg (by omega) (y496.2.2.trans (sp_push_cg (by omega) rfl))))
        · skip
          refine sA_iconst (z := 0) dd_X9_putImage_88 ?_
          refine sA_iload dd_X9_putImage_89 (.head _) ?_
          refine sA_isub dd_X9_putImage_91 ?_
          refine sA_goto (tgt := 97) dd_X9_putImage_92 (by decide) ?_
          refine sA_callV (y2 := m_X9_put) (n2 := 1) (d2 := 1) (a := 106) (ci := 9) (q := (RX9, TX9, 28)) (as := [gs_iv (0 - (0 - ((2 * (t - (0 * (F 106 0)))) + 1)))]) (rest := []) dd_X9_putImage_97 ok_X9_put ml_X9_160 rfl rfl (by decide) gs_s106 rfl rfl (Nat.le_of_ble_eq_true rfl) (by decide) (c_X9_put_vf hI (by omega) (by omega)) (fun r509 F510 A511 h512 => ?_)
          obtain ⟨e514, I515, f516, x513⟩ := h512
          subst e514
          have v517 : F510 106 0 = F 106 0 := f516.1 106 0 (by first | exact id | omega | (dsimp only; omega) | (dsimp only) | fail)
          have f518 := gs_fr_tr hf f516 (fun b j h => by first | exact False.elim h | omega | (dsimp only at h ⊢; omega) | fail) (fun b h => by first | exact False.elim h | omega | (dsimp only at h ⊢; omega) | fail)
          have y519 : F510 106 15 ≤ F 106 15 + 1 ∧ 0 ≤ F510 106 15 ∧ gs_stk (A511 115) (F510 106 15).toNat = sp_push (gs_stk (A 115) (F 106 15).toNat) (0 - (0 - ((2 * (t - (0 * (F 106 0)))) + 1))) := x513
          clear x513
          show sA _ _ _ 100 _ [] _ _
          refine sA_aload_n dd_X9_putImage_100 rfl (.tail _ (.tail _ (.tail _ (.tail _ (.tail _ (.head _)))))) ?_
          refine sA_iload dd_X9_putImage_101 (.tail _ (.tail _ (.tail _ (.tail _ (.tail _ (.tail _ (.tail _ (.tail _ (.tail _ (.head _)))))))))) ?_
          refine sA_if_eq (tgt := 113) dd_X9_putImage_103 (by decide) (by omega) (fun q520 => absurd q520 (by omega)) (fun q520 => ?_)
          refine sA_iconst (z := 0) dd_X9_putImage_106 ?_
          refine sA_iload dd_X9_putImage_107 (.tail _ (.head _)) ?_
          refine sA_isub dd_X9_putImage_109 ?_
          refine sA_goto (tgt := 115) dd_X9_putImage_110 (by decide) ?_
          refine sA_callV (y2 := m_X9_put) (n2 := 1) (d2 := 1) (a := 106) (ci := 9) (q := (RX9, TX9, 28)) (as := [gs_iv (0 - ((2 * (t - (0 * (F 106 0)))) + 2))]) (rest := []) dd_X9_putImage_115 ok_X9_put ml_X9_160 rfl rfl (by decide) gs_s106 rfl rfl (Nat.le_of_ble_eq_true rfl) (by decide) (c_X9_put_vf I515 (by omega) (by omega)) (fun r521 F522 A523 h524 => ?_)
          obtain ⟨e526, I527, f528, x525⟩ := h524
          subst e526
          have v529 : F522 106 0 = F510 106 0 := f528.1 106 0 (by first | exact id | omega | (dsimp only; omega) | (dsimp only) | fail)
          have f530 := gs_fr_tr f518 f528 (fun b j h => by first | exact False.elim h | omega | (dsimp only at h ⊢; omega) | fail) (fun b h => by first | exact False.elim h | omega | (dsimp only at h ⊢; omega) | fail)
          have y531 : F522 106 15 ≤ F510 106 15 + 1 ∧ 0 ≤ F522 106 15 ∧ gs_stk (A523 115) (F522 106 15).toNat = sp_push (gs_stk (A511 115) (F510 106 15).toNat) (0 - ((2 * (t - (0 * (F 106 0)))) + 2)) := x525
          clear x525
          show sA _ _ _ 118 _ [] _ _
          refine sA_goto (tgt := 376) dd_X9_putImage_118 (by decide) ?_
          refine sA_vret dd_X9_putImage_376 rfl ?_
          refine ⟨rfl, I527, f530, ?_⟩
          refine ⟨by omega, by omega, ?_⟩
          unfold sp_mi
          repeat (first | rw [if_pos (by omega)] | rw [if_neg (by omega)] | fail)
          show _ = sp_push (sp_push _ _) _
          exact (y531.2.2.trans (sp_push_cg (by omega) (y519.2.2.trans (sp_push_cg (by omega) rfl))))
theorem k_X9_twistRow_vf {u : Int} {F A : gs_F} (hI : gs_I F A) (hu : 0 ≤ u ∧ u ≤ 15) : ∀ nN : Nat, (∀ (k : Int)  (F1 A1 : gs_F), gs_I F1 A1 → gs_fr (fun c j => c = 106 ∧ (j = 13 ∨ j = 15)) (fun c => c = 114 ∨ c = 115) F A F1 A1 → 0 ≤ k ∧ k ≤ F1 106 13 → 0 ≤ F1 106 15 ∧ F1 106 15 ≤ 9 * k → gs_stk (A1 115) (F1 106 15).toNat = sp_tw (sp_m (F 106 0) u) (gs_stk (A 114) k.toNat) → F1 106 13 = F 106 13 ∧ F1 106 0 = F 106 0 → A1 114 = A 114 → F1 106 13 - k + 1000 < (nN : Int) → sA m_X9_twistRow 4 (fun rv F' A' => ∃ z : Int, rv = some (gs_iv z) ∧ gs_I F' A' ∧ gs_fr (fun c j => c = 106 ∧ (j = 13 ∨ j = 15)) (fun c => c = 114 ∨ c = 115) F A F' A' ∧ ((z = 1 ∧ (sp_tw (sp_m (F 106 0) u) (gs_stk (A 114) (F 106 13).toNat)).length ≤ 400 ∧ gs_stk (A' 114) (F' 106 13).toNat = sp_tw (sp_m (F 106 0) u) (gs_stk (A 114) (F 106 13).toNat)) ∨ (z = 0 ∧ 400 < (sp_tw (sp_m (F 106 0) u) (gs_stk (A 114) (F 106 13).toNat)).length))) 7 [(2, gs_iv k), (0, .ref 106), (1, gs_iv u)] [] F1 A1) ∧ (∀ (k : Int)  (F1 A1 : gs_F), gs_I F1 A1 → gs_fr (fun c j => c = 106 ∧ (j = 13 ∨ j = 15)) (fun c => c = 114 ∨ c = 115) F A F1 A1 → 0 ≤ k ∧ k ≤ F1 106 15 → F1 106 15 ≤ 400 → (∀ j : Int, 0 ≤ j → j < k → A1 114 j.toNat = A1 115 j.toNat) → F1 106 13 = F1 106 15 → gs_stk (A1 115) (F1 106 15).toNat = sp_tw (sp_m (F 106 0) u) (gs_stk (A 114) (F 106 13).toNat) → F1 106 15 - k < (nN : Int) → sA m_X9_twistRow 4 (fun rv F' A' => ∃ z : Int, rv = some (gs_iv z) ∧ gs_I F' A' ∧ gs_fr (fun c j => c = 106 ∧ (j = 13 ∨ j = 15)) (fun c => c = 114 ∨ c = 115) F A F' A' ∧ ((z = 1 ∧ (sp_tw (sp_m (F 106 0) u) (gs_stk (A 114) (F 106 13).toNat)).length ≤ 400 ∧ gs_stk (A' 114) (F' 106 13).toNat = sp_tw (sp_m (F 106 0) u) (gs_stk (A 114) (F 106 13).toNat)) ∨ (z = 0 ∧ 400 < (sp_tw (sp_m (F 106 0) u) (gs_stk (A 114) (F 106 13).toNat)).length))) 89 [(2, gs_iv k), (0, .ref 106)] [] F1 A1) := by
  intro nN
  induction nN with
  | zero =>
    exact ⟨fun a0 a1 a2 a3 a4 i0 i1 i2 i3 i4 hm => by exfalso; omega, fun a0 a1 a2 a3 a4 i0 i1 i2 i3 i4 hm => by exfalso; omega⟩
  | succ nN ih =>
    refine ⟨?_, ?_⟩
    · skip
      intro k F1 A1 hI1 hf1 i0 i1 i2 i3 i4 hm
      have b1 : (0 : Int) ≤ F1 106 13 ∧ F1 106 13 ≤ 400 := hI1.1 106 13
      have b2 : (0 : Int) ≤ F1 106 15 ∧ F1 106 15 ≤ 3700 := hI1.1 106 15
      have b3 : (1 : Int) ≤ F1 106 0 ∧ F1 106 0 ≤ 3 := hI1.1 106 0
      have u4 : A1 114 = A1 114 := rfl
      have u5 : A1 115 = A1 115 := rfl
      refine sA_iload_n dd_X9_twistRow_7 rfl (.head _) ?_
      refine sA_aload_n dd_X9_twistRow_8 rfl (.tail _ (.head _)) ?_
      refine sA_geti (ci := 9) (j := 13) (q := (RX9, TX9, 28)) dd_X9_twistRow_9 rfl (by decide) fl_X9_167 (by decide) gs_s106 rfl ?_
      refine sA_icmp_ge (tgt := 67) dd_X9_twistRow_12 (by decide) (by omega) (by omega) (fun q6 => ?_) (fun q6 => ?_)
      · skip
        refine sA_aload_n dd_X9_twistRow_67 rfl (.tail _ (.head _)) ?_
        refine sA_geti (ci := 9) (j := 15) (q := (RX9, TX9, 28)) dd_X9_twistRow_68 rfl (by decide) fl_X9_157 (by decide) gs_s106 rfl ?_
        refine sA_sipush (z := 400) dd_X9_twistRow_71 (by decide) ?_
        refine sA_icmp_le (tgt := 79) dd_X9_twistRow_74 (by decide) (by omega) (by omega) (fun q7 => ?_) (fun q7 => ?_)
        · skip
          refine sA_aload_n dd_X9_twistRow_79 rfl (.tail _ (.head _)) ?_
          refine sA_aload_n dd_X9_twistRow_80 rfl (.tail _ (.head _)) ?_
          refine sA_geti (ci := 9) (j := 15) (q := (RX9, TX9, 28)) dd_X9_twistRow_81 rfl (by decide) fl_X9_157 (by decide) gs_s106 rfl ?_
          refine sA_put (ci := 9) (j := 13) (q := (RX9, TX9, 28)) (ty := .int) dd_X9_twistRow_84 rfl (by decide) fl_X9_167 rfl (tyX9_ok 13 (by decide)) rfl rfl (by decide) gs_s106 rfl ?_
          have I9 : gs_I (gs_up F1 106 13 (F1 106 15)) A1 := gs_I_put hI1 (show (0 : Int) ≤ F1 106 15 ∧ F1 106 15 ≤ 400 by omega)
          have f10 := gs_fr_put hf1 (a := 106) (z := F1 106 15) (j := 13) (by first | omega | (dsimp only; omega) | (dsimp only) | fail)
          have v11 : gs_up F1 106 13 (F1 106 15) 106 13 = F1 106 15 := gs_up_self _ _ _ _
          have v12 : (gs_up F1 106 13 (F1 106 15)) 106 15 = F1 106 15 := gs_up_ne _ _ (by omega)
          have v13 : (gs_up F1 106 13 (F1 106 15)) 106 0 = F1 106 0 := gs_up_ne _ _ (by omega)
          generalize gs_up F1 106 13 (F1 106 15) = F8 at I9 f10 v11 v12 v13 ⊢
          refine sA_iconst (z := 0) dd_X9_twistRow_87 ?_
          refine sA_istore_n (lv' := [(2, gs_iv 0), (0, .ref 106), (1, gs_iv u)]) dd_X9_twistRow_88 rfl (by decide) rfl ?_
          have b14 : (0 : Int) ≤ F8 106 13 ∧ F8 106 13 ≤ 400 := I9.1 106 13
          have b15 : (0 : Int) ≤ F8 106 15 ∧ F8 106 15 ≤ 3700 := I9.1 106 15
          have b16 : (1 : Int) ≤ F8 106 0 ∧ F8 106 0 ≤ 3 := I9.1 106 0
          refine sA_sub (lv2 := [(2, gs_iv 0), (0, .ref 106)]) (List.forall_mem_cons.mpr ⟨(.head _), (List.forall_mem_cons.mpr ⟨(.tail _ (.head _)), (fun _ h => absurd h List.not_mem_nil)⟩)⟩) ?_
          exact ih.2 0 F8 A1 I9 f10 (by omega) (by omega) (by first | (intro j h1 h2; exfalso; omega) | (rw [u5]; exact gs_u_ext (h := fun j => A1 115 j.toNat) (by omega) u4 rfl i2) | fail) (by omega) (by rw [show F8 106 15 = F1 106 15 by omega, i2, show k = F 106 13 by omega]) (by omega)
        · skip
          refine sA_iconst (z := 0) dd_X9_twistRow_77 ?_
          refine sA_bret (z := 0) dd_X9_twistRow_78 rfl (by omega) ?_
          refine ⟨_, rfl, hI1, hf1, ?_⟩
          refine .inr ⟨rfl, ?_⟩
          rw [show F 106 13 = k by omega, ← i2, gs_stk_len]
          omega
      · skip
        refine sA_aload_n dd_X9_twistRow_15 rfl (.tail _ (.head _)) ?_
        refine sA_getr (ci := 9) (j := 12) (q := (RX9, TX9, 28)) dd_X9_twistRow_16 rfl (by decide) fl_X9_31 (by decide) gs_s106 rfl ?_
        refine sA_iload_n dd_X9_twistRow_19 rfl (.head _) ?_
        refine sA_iald (n := 401) dd_X9_twistRow_20 (by decide) gs_s114 (by omega) (by decide) ?_
        have b17 : (-9 : Int) ≤ A1 114 k.toNat ∧ A1 114 k.toNat ≤ 9 := hI1.2 114 k.toNat
        refine sA_istore_n (lv' := [(3, gs_iv (A1 114 k.toNat)), (2, gs_iv k), (0, .ref 106), (1, gs_iv u)]) dd_X9_twistRow_21 rfl (by decide) rfl ?_
        refine sA_aload_n dd_X9_twistRow_22 rfl (.tail _ (.tail _ (.head _))) ?_
        refine sA_iload_n dd_X9_twistRow_23 rfl (.tail _ (.tail _ (.tail _ (.head _)))) ?_
        refine sA_iconst (z := 2) dd_X9_twistRow_24 ?_
        refine sA_idivN dd_X9_twistRow_25 (by omega) (by omega) (by omega) ?_
        refine sA_iload_n dd_X9_twistRow_26 rfl (.tail _ (.tail _ (.tail _ (.head _)))) ?_
        refine sA_iconst (z := 2) dd_X9_twistRow_27 ?_
        refine sA_iremN dd_X9_twistRow_28 (by omega) (by omega) (by omega) ?_
        refine sA_iconst (z := 1) dd_X9_twistRow_29 ?_
        refine sA_icmp_ne (tgt := 37) dd_X9_twistRow_30 (by decide) (by omega) (by omega) (fun q18 => ?_) (fun q18 => ?_)
        · skip
          refine sA_iconst (z := 0) dd_X9_twistRow_37 ?_
          refine sA_iload_n dd_X9_twistRow_38 rfl (.head _) ?_
          refine sA_if_ge (tgt := 48) dd_X9_twistRow_39 (by decide) (by omega) (fun q19 => ?_) (fun q19 => ?_)
          · skip
            refine sA_iload_n dd_X9_twistRow_48 rfl (.head _) ?_
            refine sA_iload_n dd_X9_twistRow_49 rfl (.head _) ?_
            refine sA_if_ge (tgt := 57) dd_X9_twistRow_50 (by decide) (by omega) (fun q20 => ?_) (fun q20 => absurd q20 (by omega))
            refine sA_iconst (z := 0) dd_X9_twistRow_57 ?_
            refine sA_callV (y2 := m_X9_putImage) (n2 := 4) (d2 := 3) (a := 106) (ci := 9) (q := (RX9, TX9, 28)) (as := [gs_iv (u / 2), gs_iv 0, gs_iv (A1 114 k.toNat), gs_iv 0]) (rest := []) dd_X9_twistRow_58 ok_X9_putImage ml_X9_170 rfl rfl (by decide) gs_s106 rfl rfl (Nat.le_of_ble_eq_true rfl) (by decide) (c_X9_putImage_vf hI1 (by omega) (by omega) (by omega) (by omega) (by omega)) (fun r21 F22 A23 h24 => ?_)
            obtain ⟨e26, I27, f28, x25⟩ := h24
            subst e26
            have v29 : F22 106 13 = F1 106 13 := f28.1 106 13 (by first | exact id | omega | (dsimp only; omega) | (dsimp only) | fail)
            have v31 : F22 106 0 = F1 106 0 := f28.1 106 0 (by first | exact id | omega | (dsimp only; omega) | (dsimp only) | fail)
            have f32 := gs_fr_tr hf1 f28 (fun b j h => by first | exact False.elim h | omega | (dsimp only at h ⊢; omega) | fail) (fun b h => by first | exact False.elim h | omega | (dsimp only at h ⊢; omega) | fail)
            have u33 : A23 114 = A1 114 := (f28.2 114 (by first | exact id | omega | (dsimp only; omega) | (dsimp only) | fail)).trans u4
            have u34 : A23 115 = A23 115 := rfl
            have y35 : F22 106 15 ≤ F1 106 15 + 9 ∧ 0 ≤ F22 106 15 ∧ gs_stk (A23 115) (F22 106 15).toNat = sp_all (gs_stk (A1 115) (F1 106 15).toNat) (sp_mi (F1 106 0) (u / 2) (0 : Int) (A1 114 k.toNat) (0 : Int)) := x25
            clear x25
            show sA _ _ _ 61 _ [] _ _
            refine sA_iinc (lv' := [(2, gs_iv (k + 1)), (3, gs_iv (A1 114 k.toNat)), (0, .ref 106), (1, gs_iv u)]) dd_X9_twistRow_61 (.tail _ (.head _)) (by decide) rfl ?_
            refine sA_goto (tgt := 7) dd_X9_twistRow_64 (by decide) ?_
            have b36 : (0 : Int) ≤ F22 106 13 ∧ F22 106 13 ≤ 400 := I27.1 106 13
            have b37 : (0 : Int) ≤ F22 106 15 ∧ F22 106 15 ≤ 3700 := I27.1 106 15
            have b38 : (1 : Int) ≤ F22 106 0 ∧ F22 106 0 ≤ 3 := I27.1 106 0
            refine sA_sub (lv2 := [(2, gs_iv (k + 1)), (0, .ref 106), (1, gs_iv u)]) (List.forall_mem_cons.mpr ⟨(.head _), (List.forall_mem_cons.mpr ⟨(.tail _ (.tail _ (.head _))), (List.forall_mem_cons.mpr ⟨(.tail _ (.tail _ (.tail _ (.head _)))), (fun _ h => absurd h List.not_mem_nil)⟩)⟩)⟩) ?_
            exact ih.1 (k + 1) F22 A23 I27 f32 (by omega) (by omega) (by rw [show (k + 1).toNat = k.toNat + 1 by omega]; exact sp_tw_put y35.2.2 i2 (by omega) (show A 114 k.toNat = A1 114 k.toNat by rw [i4]) (by omega) (by omega)) (by omega) (by first | exact u33.trans i4 | exact u33 | fail) (by omega)
          · skip
            refine sA_iconst (z := 0) dd_X9_twistRow_42 ?_
            refine sA_iload_n dd_X9_twistRow_43 rfl (.head _) ?_
            refine sA_isub dd_X9_twistRow_44 ?_
            refine sA_goto (tgt := 49) dd_X9_twistRow_45 (by decide) ?_
            refine sA_iload_n dd_X9_twistRow_49 rfl (.head _) ?_
            refine sA_if_ge (tgt := 57) dd_X9_twistRow_50 (by decide) (by omega) (fun q39 => absurd q39 (by omega)) (fun q39 => ?_)
            refine sA_iconst (z := 1) dd_X9_twistRow_53 ?_
            refine sA_goto (tgt := 58) dd_X9_twistRow_54 (by decide) ?_
            refine sA_callV (y2 := m_X9_putImage) (n2 := 4) (d2 := 3) (a := 106) (ci := 9) (q := (RX9, TX9, 28)) (as := [gs_iv (u / 2), gs_iv 0, gs_iv (0 - (A1 114 k.toNat)), gs_iv 1]) (rest := []) dd_X9_twistRow_58 ok_X9_putImage ml_X9_170 rfl rfl (by decide) gs_s106 rfl rfl (Nat.le_of_ble_eq_true rfl) (by decide) (c_X9_putImage_vf hI1 (by omega) (by omega) (by omega) (by omega) (by omega)) (fun r40 F41 A42 h43 => ?_)
            obtain ⟨e45, I46, f47, x44⟩ := h43
            subst e45
            have v48 : F41 106 13 = F1 106 13 := f47.1 106 13 (by first | exact id | omega | (dsimp only; omega) | (dsimp only) | fail)
            have v50 : F41 106 0 = F1 106 0 := f47.1 106 0 (by first | exact id | omega | (dsimp only; omega) | (dsimp only) | fail)
            have f51 := gs_fr_tr hf1 f47 (fun b j h => by first | exact False.elim h | omega | (dsimp only at h ⊢; omega) | fail) (fun b h => by first | exact False.elim h | omega | (dsimp only at h ⊢; omega) | fail)
            have u52 : A42 114 = A1 114 := (f47.2 114 (by first | exact id | omega | (dsimp only; omega) | (dsimp only) | fail)).trans u4
            have u53 : A42 115 = A42 115 := rfl
            have y54 : F41 106 15 ≤ F1 106 15 + 9 ∧ 0 ≤ F41 106 15 ∧ gs_stk (A42 115) (F41 106 15).toNat = sp_all (gs_stk (A1 115) (F1 106 15).toNat) (sp_mi (F1 106 0) (u / 2) (0 : Int) (0 - (A1 114 k.toNat)) (1 : Int)) := x44
            clear x44
            show sA _ _ _ 61 _ [] _ _
            refine sA_iinc (lv' := [(2, gs_iv (k + 1)), (3, gs_iv (A1 114 k.toNat)), (0, .ref 106), (1, gs_iv u)]) dd_X9_twistRow_61 (.tail _ (.head _)) (by decide) rfl ?_
            refine sA_goto (tgt := 7) dd_X9_twistRow_64 (by decide) ?_
            have b55 : (0 : Int) ≤ F41 106 13 ∧ F41 106 13 ≤ 400 := I46.1 106 13
            have b56 : (0 : Int) ≤ F41 106 15 ∧ F41 106 15 ≤ 3700 := I46.1 106 15
            have b57 : (1 : Int) ≤ F41 106 0 ∧ F41 106 0 ≤ 3 := I46.1 106 0
            refine sA_sub (lv2 := [(2, gs_iv (k + 1)), (0, .ref 106), (1, gs_iv u)]) (List.forall_mem_cons.mpr ⟨(.head _), (List.forall_mem_cons.mpr ⟨(.tail _ (.tail _ (.head _))), (List.forall_mem_cons.mpr ⟨(.tail _ (.tail _ (.tail _ (.head _)))), (fun _ h => absurd h List.not_mem_nil)⟩)⟩)⟩) ?_
            exact ih.1 (k + 1) F41 A42 I46 f51 (by omega) (by omega) (by rw [show (k + 1).toNat = k.toNat + 1 by omega]; exact sp_tw_put y54.2.2 i2 (by omega) (show A 114 k.toNat = A1 114 k.toNat by rw [i4]) (by omega) (by omega)) (by omega) (by first | exact u52.trans i4 | exact u52 | fail) (by omega)
        · skip
          refine sA_iconst (z := 1) dd_X9_twistRow_33 ?_
          refine sA_goto (tgt := 38) dd_X9_twistRow_34 (by decide) ?_
          refine sA_iload_n dd_X9_twistRow_38 rfl (.head _) ?_
          refine sA_if_ge (tgt := 48) dd_X9_twistRow_39 (by decide) (by omega) (fun q58 => ?_) (fun q58 => ?_)
          · skip
            refine sA_iload_n dd_X9_twistRow_48 rfl (.head _) ?_
            refine sA_iload_n dd_X9_twistRow_49 rfl (.head _) ?_
            refine sA_if_ge (tgt := 57) dd_X9_twistRow_50 (by decide) (by omega) (fun q59 => ?_) (fun q59 => absurd q59 (by omega))
            refine sA_iconst (z := 0) dd_X9_twistRow_57 ?_
            refine sA_callV (y2 := m_X9_putImage) (n2 := 4) (d2 := 3) (a := 106) (ci := 9) (q := (RX9, TX9, 28)) (as := [gs_iv (u / 2), gs_iv 1, gs_iv (A1 114 k.toNat), gs_iv 0]) (rest := []) dd_X9_twistRow_58 ok_X9_putImage ml_X9_170 rfl rfl (by decide) gs_s106 rfl rfl (Nat.le_of_ble_eq_true rfl) (by decide) (c_X9_putImage_vf hI1 (by omega) (by omega) (by omega) (by omega) (by omega)) (fun r60 F61 A62 h63 => ?_)
            obtain ⟨e65, I66, f67, x64⟩ := h63
            subst e65
            have v68 : F61 106 13 = F1 106 13 := f67.1 106 13 (by first | exact id | omega | (dsimp only; omega) | (dsimp only) | fail)
            have v70 : F61 106 0 = F1 106 0 := f67.1 106 0 (by first | exact id | omega | (dsimp only; omega) | (dsimp only) | fail)
            have f71 := gs_fr_tr hf1 f67 (fun b j h => by first | exact False.elim h | omega | (dsimp only at h ⊢; omega) | fail) (fun b h => by first | exact False.elim h | omega | (dsimp only at h ⊢; omega) | fail)
            have u72 : A62 114 = A1 114 := (f67.2 114 (by first | exact id | omega | (dsimp only; omega) | (dsimp only) | fail)).trans u4
            have u73 : A62 115 = A62 115 := rfl
            have y74 : F61 106 15 ≤ F1 106 15 + 9 ∧ 0 ≤ F61 106 15 ∧ gs_stk (A62 115) (F61 106 15).toNat = sp_all (gs_stk (A1 115) (F1 106 15).toNat) (sp_mi (F1 106 0) (u / 2) (1 : Int) (A1 114 k.toNat) (0 : Int)) := x64
            clear x64
            show sA _ _ _ 61 _ [] _ _
            refine sA_iinc (lv' := [(2, gs_iv (k + 1)), (3, gs_iv (A1 114 k.toNat)), (0, .ref 106), (1, gs_iv u)]) dd_X9_twistRow_61 (.tail _ (.head _)) (by decide) rfl ?_
            refine sA_goto (tgt := 7) dd_X9_twistRow_64 (by decide) ?_
            have b75 : (0 : Int) ≤ F61 106 13 ∧ F61 106 13 ≤ 400 := I66.1 106 13
            have b76 : (0 : Int) ≤ F61 106 15 ∧ F61 106 15 ≤ 3700 := I66.1 106 15
            have b77 : (1 : Int) ≤ F61 106 0 ∧ F61 106 0 ≤ 3 := I66.1 106 0
            refine sA_sub (lv2 := [(2, gs_iv (k + 1)), (0, .ref 106), (1, gs_iv u)]) (List.forall_mem_cons.mpr ⟨(.head _), (List.forall_mem_cons.mpr ⟨(.tail _ (.tail _ (.head _))), (List.forall_mem_cons.mpr ⟨(.tail _ (.tail _ (.tail _ (.head _)))), (fun _ h => absurd h List.not_mem_nil)⟩)⟩)⟩) ?_
            exact ih.1 (k + 1) F61 A62 I66 f71 (by omega) (by omega) (by rw [show (k + 1).toNat = k.toNat + 1 by omega]; exact sp_tw_put y74.2.2 i2 (by omega) (show A 114 k.toNat = A1 114 k.toNat by rw [i4]) (by omega) (by omega)) (by omega) (by first | exact u72.trans i4 | exact u72 | fail) (by omega)
          · skip
            refine sA_iconst (z := 0) dd_X9_twistRow_42 ?_
            refine sA_iload_n dd_X9_twistRow_43 rfl (.head _) ?_
            refine sA_isub dd_X9_twistRow_44 ?_
            refine sA_goto (tgt := 49) dd_X9_twistRow_45 (by decide) ?_
            refine sA_iload_n dd_X9_twistRow_49 rfl (.head _) ?_
            refine sA_if_ge (tgt := 57) dd_X9_twistRow_50 (by decide) (by omega) (fun q78 => absurd q78 (by omega)) (fun q78 => ?_)
            refine sA_iconst (z := 1) dd_X9_twistRow_53 ?_
            refine sA_goto (tgt := 58) dd_X9_twistRow_54 (by decide) ?_
            refine sA_callV (y2 := m_X9_putImage) (n2 := 4) (d2 := 3) (a := 106) (ci := 9) (q := (RX9, TX9, 28)) (as := [gs_iv (u / 2), gs_iv 1, gs_iv (0 - (A1 114 k.toNat)), gs_iv 1]) (rest := []) dd_X9_twistRow_58 ok_X9_putImage ml_X9_170 rfl rfl (by decide) gs_s106 rfl rfl (Nat.le_of_ble_eq_true rfl) (by decide) (c_X9_putImage_vf hI1 (by omega) (by omega) (by omega) (by omega) (by omega)) (fun r79 F80 A81 h82 => ?_)
            obtain ⟨e84, I85, f86, x83⟩ := h82
            subst e84
            have v87 : F80 106 13 = F1 106 13 := f86.1 106 13 (by first | exact id | omega | (dsimp only; omega) | (dsimp only) | fail)
            have v89 : F80 106 0 = F1 106 0 := f86.1 106 0 (by first | exact id | omega | (dsimp only; omega) | (dsimp only) | fail)
            have f90 := gs_fr_tr hf1 f86 (fun b j h => by first | exact False.elim h | omega | (dsimp only at h ⊢; omega) | fail) (fun b h => by first | exact False.elim h | omega | (dsimp only at h ⊢; omega) | fail)
            have u91 : A81 114 = A1 114 := (f86.2 114 (by first | exact id | omega | (dsimp only; omega) | (dsimp only) | fail)).trans u4
            have u92 : A81 115 = A81 115 := rfl
            have y93 : F80 106 15 ≤ F1 106 15 + 9 ∧ 0 ≤ F80 106 15 ∧ gs_stk (A81 115) (F80 106 15).toNat = sp_all (gs_stk (A1 115) (F1 106 15).toNat) (sp_mi (F1 106 0) (u / 2) (1 : Int) (0 - (A1 114 k.toNat)) (1 : Int)) := x83
            clear x83
            show sA _ _ _ 61 _ [] _ _
            refine sA_iinc (lv' := [(2, gs_iv (k + 1)), (3, gs_iv (A1 114 k.toNat)), (0, .ref 106), (1, gs_iv u)]) dd_X9_twistRow_61 (.tail _ (.head _)) (by decide) rfl ?_
            refine sA_goto (tgt := 7) dd_X9_twistRow_64 (by decide) ?_
            have b94 : (0 : Int) ≤ F80 106 13 ∧ F80 106 13 ≤ 400 := I85.1 106 13
            have b95 : (0 : Int) ≤ F80 106 15 ∧ F80 106 15 ≤ 3700 := I85.1 106 15
            have b96 : (1 : Int) ≤ F80 106 0 ∧ F80 106 0 ≤ 3 := I85.1 106 0
            refine sA_sub (lv2 := [(2, gs_iv (k + 1)), (0, .ref 106), (1, gs_iv u)]) (List.forall_mem_cons.mpr ⟨(.head _), (List.forall_mem_cons.mpr ⟨(.tail _ (.tail _ (.head _))), (List.forall_mem_cons.mpr ⟨(.tail _ (.tail _ (.tail _ (.head _)))), (fun _ h => absurd h List.not_mem_nil)⟩)⟩)⟩) ?_
            exact ih.1 (k + 1) F80 A81 I85 f90 (by omega) (by omega) (by rw [show (k + 1).toNat = k.toNat + 1 by omega]; exact sp_tw_put y93.2.2 i2 (by omega) (show A 114 k.toNat = A1 114 k.toNat by rw [i4]) (by omega) (by omega)) (by omega) (by first | exact u91.trans i4 | exact u91 | fail) (by omega)
    · skip
      intro k F1 A1 hI1 hf1 i0 i1 i2 i3 i4 hm
      have b97 : (0 : Int) ≤ F1 106 13 ∧ F1 106 13 ≤ 400 := hI1.1 106 13
      have b98 : (0 : Int) ≤ F1 106 15 ∧ F1 106 15 ≤ 3700 := hI1.1 106 15
      have b99 : (1 : Int) ≤ F1 106 0 ∧ F1 106 0 ≤ 3 := hI1.1 106 0
      have u100 : A1 114 = A1 114 := rfl
      have u101 : A1 115 = A1 115 := rfl
      refine sA_iload_n dd_X9_twistRow_89 rfl (.head _) ?_
      refine sA_aload_n dd_X9_twistRow_90 rfl (.tail _ (.head _)) ?_
      refine sA_geti (ci := 9) (j := 15) (q := (RX9, TX9, 28)) dd_X9_twistRow_91 rfl (by decide) fl_X9_157 (by decide) gs_s106 rfl ?_
      refine sA_icmp_ge (tgt := 115) dd_X9_twistRow_94 (by decide) (by omega) (by omega) (fun q102 => ?_) (fun q102 => ?_)
      · skip
        refine sA_iconst (z := 1) dd_X9_twistRow_115 ?_
        refine sA_bret (z := 1) dd_X9_twistRow_116 rfl (by omega) ?_
        refine ⟨_, rfl, hI1, hf1, ?_⟩
        refine .inl ⟨rfl, ?_, ?_⟩
        · rw [← i4, gs_stk_len]
          omega
        · rw [show F1 106 13 = F1 106 15 by omega, ← i4]
          exact gs_stk_cg _ (fun i hi => i2 i (by omega) (by omega))
      · skip
        refine sA_aload_n dd_X9_twistRow_97 rfl (.tail _ (.head _)) ?_
        refine sA_getr (ci := 9) (j := 12) (q := (RX9, TX9, 28)) dd_X9_twistRow_98 rfl (by decide) fl_X9_31 (by decide) gs_s106 rfl ?_
        refine sA_iload_n dd_X9_twistRow_101 rfl (.head _) ?_
        refine sA_aload_n dd_X9_twistRow_102 rfl (.tail _ (.head _)) ?_
        refine sA_getr (ci := 9) (j := 14) (q := (RX9, TX9, 28)) dd_X9_twistRow_103 rfl (by decide) fl_X9_34 (by decide) gs_s106 rfl ?_
        refine sA_iload_n dd_X9_twistRow_106 rfl (.head _) ?_
        refine sA_iald (n := 3700) dd_X9_twistRow_107 (by decide) gs_s115 (by omega) (by decide) ?_
        have b103 : (-9 : Int) ≤ A1 115 k.toNat ∧ A1 115 k.toNat ≤ 9 := hI1.2 115 k.toNat
        refine sA_iast (n := 401) dd_X9_twistRow_108 (by decide) gs_s114 (by omega) (by decide) ?_
        have I105 : gs_I F1 (gs_up A1 114 k.toNat (A1 115 k.toNat)) := gs_I_ast hI1 (show (-9 : Int) ≤ A1 115 k.toNat ∧ A1 115 k.toNat ≤ 9 by omega)
        have f106 := gs_fr_ast hf1 (a := 114) (z := A1 115 k.toNat) (i := k.toNat) (by first | omega | (dsimp only; omega) | (dsimp only) | fail)
        have u107 : (gs_up A1 114 k.toNat (A1 115 k.toNat)) 114 = gs_u (A1 114) k.toNat (A1 115 k.toNat) := (gs_up_u A1 114 k.toNat (A1 115 k.toNat)).trans (congrArg (fun f => gs_u f k.toNat (A1 115 k.toNat)) u100)
        have u108 : (gs_up A1 114 k.toNat (A1 115 k.toNat)) 115 = A1 115 := (gs_up_row _ _ (by omega)).trans u101
        generalize gs_up A1 114 k.toNat (A1 115 k.toNat) = A104 at I105 f106 u107 u108 ⊢
        refine sA_iinc (lv' := [(2, gs_iv (k + 1)), (0, .ref 106)]) dd_X9_twistRow_109 (.head _) (by decide) rfl ?_
        refine sA_goto (tgt := 89) dd_X9_twistRow_112 (by decide) ?_
        refine sA_sub (lv2 := [(2, gs_iv (k + 1)), (0, .ref 106)]) (List.forall_mem_cons.mpr ⟨(.head _), (List.forall_mem_cons.mpr ⟨(.tail _ (.head _)), (fun _ h => absurd h List.not_mem_nil)⟩)⟩) ?_
        exact ih.2 (k + 1) F1 A104 I105 f106 (by omega) (by omega) (by first | (intro j h1 h2; exfalso; omega) | (rw [u108]; exact gs_u_ext (h := fun j => A1 115 j.toNat) (by omega) u107 rfl i2) | fail) (by omega) (by rw [u108]; exact i4) (by omega)
theorem c_X9_twistRow_vf {u : Int} {F A : gs_F} (hI : gs_I F A) (hu : 0 ≤ u ∧ u ≤ 15) : sC m_X9_twistRow 4 [.ref 106, gs_iv u] F A (fun rv F' A' => ∃ z : Int, rv = some (gs_iv z) ∧ gs_I F' A' ∧ gs_fr (fun c j => c = 106 ∧ (j = 13 ∨ j = 15)) (fun c => c = 114 ∨ c = 115) F A F' A' ∧ ((z = 1 ∧ (sp_tw (sp_m (F 106 0) u) (gs_stk (A 114) (F 106 13).toNat)).length ≤ 400 ∧ gs_stk (A' 114) (F' 106 13).toNat = sp_tw (sp_m (F 106 0) u) (gs_stk (A 114) (F 106 13).toNat)) ∨ (z = 0 ∧ 400 < (sp_tw (sp_m (F 106 0) u) (gs_stk (A 114) (F 106 13).toNat)).length))) := by
  refine sC_of ok_X9_twistRow.1 (Nat.le_of_ble_eq_true rfl) ?_
  show sA _ _ _ 0 [(0, .ref 106), (1, gs_iv u)] [] F A
  have hf : gs_fr (fun c j => c = 106 ∧ (j = 13 ∨ j = 15)) (fun c => c = 114 ∨ c = 115) F A F A := gs_fr_refl _ _ _ _
  have b109 : (0 : Int) ≤ F 106 13 ∧ F 106 13 ≤ 400 := hI.1 106 13
  have b110 : (0 : Int) ≤ F 106 15 ∧ F 106 15 ≤ 3700 := hI.1 106 15
  have b111 : (1 : Int) ≤ F 106 0 ∧ F 106 0 ≤ 3 := hI.1 106 0
  have u112 : A 114 = A 114 := rfl
  have u113 : A 115 = A 115 := rfl
  refine sA_aload_n dd_X9_twistRow_0 rfl (.head _) ?_
  refine sA_iconst (z := 0) dd_X9_twistRow_1 ?_
  refine sA_put (ci := 9) (j := 15) (q := (RX9, TX9, 28)) (ty := .int) dd_X9_twistRow_2 rfl (by decide) fl_X9_157 rfl (tyX9_ok 15 (by decide)) rfl rfl (by decide) gs_s106 rfl ?_
  have I115 : gs_I (gs_up F 106 15 0) A := gs_I_put hI (show (0 : Int) ≤ 0 ∧ 0 ≤ 3700 by omega)
  have f116 := gs_fr_put hf (a := 106) (z := 0) (j := 15) (by first | omega | (dsimp only; omega) | (dsimp only) | fail)
  have v117 : gs_up F 106 15 0 106 15 = 0 := gs_up_self _ _ _ _
  have v118 : (gs_up F 106 15 0) 106 13 = F 106 13 := gs_up_ne _ _ (by omega)
  have v119 : (gs_up F 106 15 0) 106 0 = F 106 0 := gs_up_ne _ _ (by omega)
  generalize gs_up F 106 15 0 = F114 at I115 f116 v117 v118 v119 ⊢
  refine sA_iconst (z := 0) dd_X9_twistRow_5 ?_
  refine sA_istore_n (lv' := [(2, gs_iv 0), (0, .ref 106), (1, gs_iv u)]) dd_X9_twistRow_6 rfl (by decide) rfl ?_
  have b120 : (0 : Int) ≤ F114 106 13 ∧ F114 106 13 ≤ 400 := I115.1 106 13
  have b121 : (0 : Int) ≤ F114 106 15 ∧ F114 106 15 ≤ 3700 := I115.1 106 15
  have b122 : (1 : Int) ≤ F114 106 0 ∧ F114 106 0 ≤ 3 := I115.1 106 0
  refine sA_sub (lv2 := [(2, gs_iv 0), (0, .ref 106), (1, gs_iv u)]) (List.forall_mem_cons.mpr ⟨(.head _), (List.forall_mem_cons.mpr ⟨(.tail _ (.head _)), (List.forall_mem_cons.mpr ⟨(.tail _ (.tail _ (.head _))), (fun _ h => absurd h List.not_mem_nil)⟩)⟩)⟩) ?_
  exact (k_X9_twistRow_vf hI hu (F114 106 13 - 0 + 1000 : Int).toNat.succ).1 0 F114 A I115 f116 (by omega) (by omega) (by rw [show F114 106 15 = 0 by omega]; rfl) (by omega) (by first | exact u112.trans i4 | exact u112 | fail) (by omega)
theorem k_X9_imageRow_vf {p : Int} {F A : gs_F} (hI : gs_I F A) (hp : 0 ≤ p ∧ p ≤ 8) (hcd : ∀ i : Int, 0 ≤ i → i < A 110 p.toNat → 0 ≤ A 111 (60 * p + i).toNat ∧ A 111 (60 * p + i).toNat ≤ 15) : ∀ nN : Nat, (∀ (k : Int)  (F1 A1 : gs_F), gs_I F1 A1 → gs_fr (fun c j => c = 106 ∧ (j = 13 ∨ j = 15)) (fun c => c = 114 ∨ c = 115) F A F1 A1 → -1 ≤ k ∧ k ≤ 59 → sp_pl (fun u => sp_tw (sp_m (F 106 0) u)) (fun i => A 111 (60 * p.toNat + i)) (A 110 p.toNat).toNat (gs_stk (A 114) (F 106 13).toNat) = sp_pl (fun u => sp_tw (sp_m (F 106 0) u)) (fun i => A 111 (60 * p.toNat + i)) (k + 1).toNat (gs_stk (A1 114) (F1 106 13).toNat) → F1 106 0 = F 106 0 → k < A 110 p.toNat → k + 1 < (nN : Int) → sA m_X9_imageRow 5 (fun rv F' A' => ∃ z : Int, rv = some (gs_iv z) ∧ gs_I F' A' ∧ gs_fr (fun c j => c = 106 ∧ (j = 13 ∨ j = 15)) (fun c => c = 114 ∨ c = 115) F A F' A' ∧ ((z = 1 ∧ sp_pl (fun u => sp_tw (sp_m (F 106 0) u)) (fun i => A 111 (60 * p.toNat + i)) (A 110 p.toNat).toNat (gs_stk (A 114) (F 106 13).toNat) = some (gs_stk (A' 114) (F' 106 13).toNat)) ∨ (z = 0 ∧ sp_pl (fun u => sp_tw (sp_m (F 106 0) u)) (fun i => A 111 (60 * p.toNat + i)) (A 110 p.toNat).toNat (gs_stk (A 114) (F 106 13).toNat) = none))) 9 [(2, gs_iv k), (0, .ref 106), (1, gs_iv p)] [] F1 A1) := by
  intro nN
  induction nN with
  | zero =>
    exact fun a0 a1 a2 a3 a4 i0 i1 i2 i3 hm => by exfalso; omega
  | succ nN ih =>
    intro k F1 A1 hI1 hf1 i0 i1 i2 i3 hm
    have b1 : (1 : Int) ≤ F1 106 0 ∧ F1 106 0 ≤ 3 := hI1.1 106 0
    refine sA_iload_n dd_X9_imageRow_9 rfl (.head _) ?_
    refine sA_if_lt (tgt := 39) dd_X9_imageRow_10 (by decide) (by omega) (fun q2 => ?_) (fun q2 => ?_)
    · skip
      refine sA_iconst (z := 1) dd_X9_imageRow_39 ?_
      refine sA_bret (z := 1) dd_X9_imageRow_40 rfl (by omega) ?_
      refine ⟨_, rfl, hI1, hf1, ?_⟩
      refine .inl ⟨rfl, i1.trans ?_⟩
      rw [show (k + 1).toNat = 0 by omega]
      rfl
    · skip
      refine sA_aload_n dd_X9_imageRow_13 rfl (.tail _ (.head _)) ?_
      refine sA_aload_n dd_X9_imageRow_14 rfl (.tail _ (.head _)) ?_
      refine sA_getr (ci := 9) (j := 7) (q := (RX9, TX9, 28)) dd_X9_imageRow_15 rfl (by decide) fl_X9_22 (by decide) gs_s106 rfl ?_
      refine sA_bipush (z := 60) dd_X9_imageRow_18 (by decide) ?_
      refine sA_iload_n dd_X9_imageRow_20 rfl (.tail _ (.tail _ (.head _))) ?_
      refine sA_imul dd_X9_imageRow_21 ?_
      refine sA_iload_n dd_X9_imageRow_22 rfl (.head _) ?_
      refine sA_iadd dd_X9_imageRow_23 ?_
      refine sA_iald (n := 540) dd_X9_imageRow_24 (by decide) gs_s111 (by omega) (by decide) ?_
      have b3 : (-2147483648 : Int) ≤ A1 111 ((60 * p) + k).toNat ∧ A1 111 ((60 * p) + k).toNat ≤ 2147483647 := hI1.2 111 ((60 * p) + k).toNat
      have h111 : A1 111 = A 111 := hf1.2 111 (by dsimp only; omega)
      have hck := hcd k (by omega) (by omega)
      have hcode : A1 111 (60 * p + k).toNat = A 111 (60 * p.toNat + k.toNat) := by
        rw [h111, show (60 * p + k).toNat = 60 * p.toNat + k.toNat by omega]
      have hck2 : 0 ≤ A1 111 (60 * p + k).toNat ∧ A1 111 (60 * p + k).toNat ≤ 15 := by rw [h111]; exact hck
      refine sA_callV (y2 := m_X9_twistRow) (n2 := 1) (d2 := 4) (a := 106) (ci := 9) (q := (RX9, TX9, 28)) (as := [gs_iv (A1 111 ((60 * p) + k).toNat)]) (rest := []) dd_X9_imageRow_25 ok_X9_twistRow ml_X9_174 rfl rfl (by decide) gs_s106 rfl rfl (Nat.le_of_ble_eq_true rfl) (by decide) (c_X9_twistRow_vf hI1 (by omega)) (fun r4 F5 A6 h7 => ?_)
      obtain ⟨z10, e9, I11, f12, x8⟩ := h7
      subst e9
      have v13 : F5 106 0 = F1 106 0 := f12.1 106 0 (by first | exact id | omega | (dsimp only; omega) | (dsimp only) | fail)
      have f14 := gs_fr_tr hf1 f12 (fun b j h => by first | exact False.elim h | omega | (dsimp only at h ⊢; omega) | fail) (fun b h => by first | exact False.elim h | omega | (dsimp only at h ⊢; omega) | fail)
      have y15 : (z10 = 1 ∧ (sp_tw (sp_m (F1 106 0) (A1 111 ((60 * p) + k).toNat)) (gs_stk (A1 114) (F1 106 13).toNat)).length ≤ 400 ∧ gs_stk (A6 114) (F5 106 13).toNat = sp_tw (sp_m (F1 106 0) (A1 111 ((60 * p) + k).toNat)) (gs_stk (A1 114) (F1 106 13).toNat)) ∨ (z10 = 0 ∧ 400 < (sp_tw (sp_m (F1 106 0) (A1 111 ((60 * p) + k).toNat)) (gs_stk (A1 114) (F1 106 13).toNat)).length) := x8
      clear x8
      show sA _ _ _ 28 _ [gs_iv z10] _ _
      refine sA_if_ne (tgt := 33) dd_X9_imageRow_28 (by decide) (by omega) (fun q16 => ?_) (fun q16 => ?_)
      · skip
        refine sA_iinc (lv' := [(2, gs_iv (k + (-1))), (0, .ref 106), (1, gs_iv p)]) dd_X9_imageRow_33 (.head _) (by decide) rfl ?_
        refine sA_goto (tgt := 9) dd_X9_imageRow_36 (by decide) ?_
        have b17 : (1 : Int) ≤ F5 106 0 ∧ F5 106 0 ≤ 3 := I11.1 106 0
        refine sA_sub (lv2 := [(2, gs_iv (k + (-1))), (0, .ref 106), (1, gs_iv p)]) (List.forall_mem_cons.mpr ⟨(.head _), (List.forall_mem_cons.mpr ⟨(.tail _ (.head _)), (List.forall_mem_cons.mpr ⟨(.tail _ (.tail _ (.head _))), (fun _ h => absurd h List.not_mem_nil)⟩)⟩)⟩) ?_
        exact ih (k + (-1)) F5 A6 I11 f14 (by omega) (by have yy := y15; rw [i2] at yy; rcases yy with y | y <;> first | (exfalso; omega) | exact i1.trans (sp_pl_step2 (by omega) (by omega) hcode y.2.1 y.2.2) | fail) (by omega) (by omega) (by omega)
      · skip
        refine sA_iconst (z := 0) dd_X9_imageRow_31 ?_
        refine sA_bret (z := 0) dd_X9_imageRow_32 rfl (by omega) ?_
        refine ⟨_, rfl, I11, f14, ?_⟩
        have yy := y15
        rw [i2] at yy
        rcases yy with y | y
        · exfalso
          omega
        · exact .inr ⟨rfl, i1.trans (sp_pl_none2 (by omega) hcode y.2)⟩
theorem c_X9_imageRow_vf {p : Int} {F A : gs_F} (hI : gs_I F A) (hp : 0 ≤ p ∧ p ≤ 8) (hcd : ∀ i : Int, 0 ≤ i → i < A 110 p.toNat → 0 ≤ A 111 (60 * p + i).toNat ∧ A 111 (60 * p + i).toNat ≤ 15) : sC m_X9_imageRow 5 [.ref 106, gs_iv p] F A (fun rv F' A' => ∃ z : Int, rv = some (gs_iv z) ∧ gs_I F' A' ∧ gs_fr (fun c j => c = 106 ∧ (j = 13 ∨ j = 15)) (fun c => c = 114 ∨ c = 115) F A F' A' ∧ ((z = 1 ∧ sp_pl (fun u => sp_tw (sp_m (F 106 0) u)) (fun i => A 111 (60 * p.toNat + i)) (A 110 p.toNat).toNat (gs_stk (A 114) (F 106 13).toNat) = some (gs_stk (A' 114) (F' 106 13).toNat)) ∨ (z = 0 ∧ sp_pl (fun u => sp_tw (sp_m (F 106 0) u)) (fun i => A 111 (60 * p.toNat + i)) (A 110 p.toNat).toNat (gs_stk (A 114) (F 106 13).toNat) = none))) := by
  refine sC_of ok_X9_imageRow.1 (Nat.le_of_ble_eq_true rfl) ?_
  show sA _ _ _ 0 [(0, .ref 106), (1, gs_iv p)] [] F A
  have hf : gs_fr (fun c j => c = 106 ∧ (j = 13 ∨ j = 15)) (fun c => c = 114 ∨ c = 115) F A F A := gs_fr_refl _ _ _ _
  have b18 : (1 : Int) ≤ F 106 0 ∧ F 106 0 ≤ 3 := hI.1 106 0
  refine sA_aload_n dd_X9_imageRow_0 rfl (.head _) ?_
  refine sA_getr (ci := 9) (j := 6) (q := (RX9, TX9, 28)) dd_X9_imageRow_1 rfl (by decide) fl_X9_19 (by decide) gs_s106 rfl ?_
  refine sA_iload_n dd_X9_imageRow_4 rfl (.tail _ (.head _)) ?_
  refine sA_iald (n := 9) dd_X9_imageRow_5 (by decide) gs_s110 (by omega) (by decide) ?_
  have b19 : (0 : Int) ≤ A 110 p.toNat ∧ A 110 p.toNat ≤ 60 := hI.2 110 p.toNat
  refine sA_iconst (z := 1) dd_X9_imageRow_6 ?_
  refine sA_isub dd_X9_imageRow_7 ?_
  refine sA_istore_n (lv' := [(2, gs_iv ((A 110 p.toNat) - 1)), (0, .ref 106), (1, gs_iv p)]) dd_X9_imageRow_8 rfl (by decide) rfl ?_
  refine sA_sub (lv2 := [(2, gs_iv ((A 110 p.toNat) - 1)), (0, .ref 106), (1, gs_iv p)]) (List.forall_mem_cons.mpr ⟨(.head _), (List.forall_mem_cons.mpr ⟨(.tail _ (.head _)), (List.forall_mem_cons.mpr ⟨(.tail _ (.tail _ (.head _))), (fun _ h => absurd h List.not_mem_nil)⟩)⟩)⟩) ?_
  exact (k_X9_imageRow_vf hI hp hcd (((A 110 p.toNat) - 1) + 1 : Int).toNat.succ) ((A 110 p.toNat) - 1) F A hI hf (by omega) (by rw [show A 110 p.toNat - 1 + 1 = A 110 p.toNat by omega]) (by omega) (by omega) (by omega)
end
