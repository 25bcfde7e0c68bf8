noncomputable section
theorem k_X9_closeBracket_vf  {s0 : rd_S} {st kd kb : Int} {F A : gs_F} (hI : gs_I F A) (hd : 1 ≤ F 106 22) (hh : F 106 18 < F 106 17) (ho : A 117 (F 106 22 - 1).toNat ≤ F 106 24) (h19 : F 106 19 = 0) (h20 : F 106 20 = -1) (h0 : rd_good (F 106 0) s0) (hc : A 116 (F 106 18).toNat = 41) (hst : st = 0 ∨ st = 2) (hrd : rd (F 106 0) (A 116) s0 (F 106 18).toNat = (0, 0, st, kd, kb, F 106 22, F 106 24, A 118, A 117)) : ∀ nN : Nat, (∀ (n : Int) (s : Int) (e : Int) (k : Int)  (F1 A1 : gs_F), gs_I F1 A1 → gs_fr (fun c j => c = 106 ∧ (j = 18 ∨ j = 19 ∨ j = 20 ∨ j = 22 ∨ j = 24)) (fun c => c = 118) F A F1 A1 → 1 ≤ n ∧ n ≤ 9 → 0 ≤ s ∧ 0 ≤ e ∧ e ≤ 60 → s + e ≤ k ∧ k ≤ 70 → s + e * n ≤ 60 → F 106 24 ≤ s + e → F 106 18 + 1 ≤ F1 106 18 ∧ F1 106 22 ≤ F 106 22 → A1 118 = gs_rp (A 118) s e (k - s - e) → rd (F 106 0) (A 116) s0 (F1 106 18).toNat = (0, 0, 0, kd, kb, F 106 22 - 1, s + e * n, gs_rpt (A 118) s e n, A 117) → F1 106 22 = F 106 22 - 1 ∧ F1 106 17 = F 106 17 ∧ F1 106 19 = 0 ∧ F1 106 20 = -1 ∧ F1 106 18 ≤ F 106 17 → A1 117 = A 117 → k ≤ s + e * n → 70 - k < (nN : Int) → sA m_X9_closeBracket 3 (fun rv F' A' => rv = none ∧ gs_I F' A' ∧ gs_fr (fun c j => c = 106 ∧ (j = 18 ∨ j = 19 ∨ j = 20 ∨ j = 22 ∨ j = 24)) (fun c => c = 118) F A F' A' ∧ ((F 106 18 + 1 ≤ F' 106 18 ∨ 1 ≤ F' 106 19) ∧ F 106 18 ≤ F' 106 18 ∧ F 106 24 ≤ F' 106 24 ∧ F' 106 22 ≤ F 106 22 ∧ rd_md (F 106 0) (A 116) s0 F' A' ∧ F' 106 17 = F 106 17)) 99 [(6, gs_iv k), (5, gs_iv e), (4, gs_iv s), (3, gs_iv n), (0, .ref 106)] [] F1 A1) := by
  intro nN
  induction nN with
  | zero =>
    exact fun a0 a1 a2 a3 a4 a5 a6 a7 i0 i1 i2 i3 i4 i5 i6 i7 i8 i9 i10 hm => by exfalso; omega
  | succ nN ih =>
    intro n s e k F1 A1 hI1 hf1 i0 i1 i2 i3 i4 i5 i6 i7 i8 i9 i10 hm
    have b1 : (0 : Int) ≤ F1 106 18 ∧ F1 106 18 ≤ 120 := hI1.1 106 18
    have b2 : (0 : Int) ≤ F1 106 17 ∧ F1 106 17 ≤ 120 := hI1.1 106 17
    have b3 : (0 : Int) ≤ F1 106 19 ∧ F1 106 19 ≤ 4 := hI1.1 106 19
    have b4 : (-2147483648 : Int) ≤ F1 106 20 ∧ F1 106 20 ≤ 2147483647 := hI1.1 106 20
    have b5 : (0 : Int) ≤ F1 106 24 ∧ F1 106 24 ≤ 60 := hI1.1 106 24
    have b6 : (0 : Int) ≤ F1 106 22 ∧ F1 106 22 ≤ 4 := hI1.1 106 22
    have b7 : (1 : Int) ≤ F1 106 0 ∧ F1 106 0 ≤ 3 := hI1.1 106 0
    have u8 : A1 118 = A1 118 := rfl
    have u9 : A1 116 = A1 116 := rfl
    have u10 : A1 117 = A1 117 := rfl
    have hmg := gs_mul_ge (x := e) (y := n) (by omega) (by omega)
    have hmb := gs_mul_bd (x := e) (y := n) (m := 60) (k := 9) (by omega) (by omega) (by omega)
    have hmn : e ≤ 0 → e * n ≤ 0 := fun h => gs_mul_np h (by omega)
    refine sA_iload dd_X9_closeBracket_99 (.head _) ?_
    refine sA_iload dd_X9_closeBracket_101 (.tail _ (.tail _ (.head _))) ?_
    refine sA_iload dd_X9_closeBracket_103 (.tail _ (.head _)) ?_
    refine sA_iload_n dd_X9_closeBracket_105 rfl (.tail _ (.tail _ (.tail _ (.head _)))) ?_
    refine sA_imul dd_X9_closeBracket_106 ?_
    refine sA_iadd dd_X9_closeBracket_107 ?_
    refine sA_icmp_ge (tgt := 134) dd_X9_closeBracket_108 (by decide) (by omega) (by omega) (fun q11 => ?_) (fun q11 => ?_)
    · skip
      refine sA_aload_n dd_X9_closeBracket_134 rfl (.tail _ (.tail _ (.tail _ (.tail _ (.head _))))) ?_
      refine sA_iload dd_X9_closeBracket_135 (.tail _ (.tail _ (.head _))) ?_
      refine sA_iload dd_X9_closeBracket_137 (.tail _ (.head _)) ?_
      refine sA_iload_n dd_X9_closeBracket_139 rfl (.tail _ (.tail _ (.tail _ (.head _)))) ?_
      refine sA_imul dd_X9_closeBracket_140 ?_
      refine sA_iadd dd_X9_closeBracket_141 ?_
      refine sA_put (ci := 9) (j := 24) (q := (RX9, TX9, 28)) (ty := .int) dd_X9_closeBracket_142 rfl (by decide) fl_X9_206 rfl (tyX9_ok 24 (by decide)) rfl rfl (by decide) gs_s106 rfl ?_
      have I13 : gs_I (gs_up F1 106 24 (s + (e * n))) A1 := gs_I_put hI1 (show (0 : Int) ≤ s + (e * n) ∧ s + (e * n) ≤ 60 by omega)
      have f14 := gs_fr_put hf1 (a := 106) (z := s + (e * n)) (j := 24) (by first | omega | (dsimp only; omega) | (dsimp only) | fail)
      have v15 : gs_up F1 106 24 (s + (e * n)) 106 24 = s + (e * n) := gs_up_self _ _ _ _
      have v16 : (gs_up F1 106 24 (s + (e * n))) 106 18 = F1 106 18 := gs_up_ne _ _ (by omega)
      have v17 : (gs_up F1 106 24 (s + (e * n))) 106 17 = F1 106 17 := gs_up_ne _ _ (by omega)
      have v18 : (gs_up F1 106 24 (s + (e * n))) 106 19 = F1 106 19 := gs_up_ne _ _ (by omega)
      have v19 : (gs_up F1 106 24 (s + (e * n))) 106 20 = F1 106 20 := gs_up_ne _ _ (by omega)
      have v20 : (gs_up F1 106 24 (s + (e * n))) 106 22 = F1 106 22 := gs_up_ne _ _ (by omega)
      have v21 : (gs_up F1 106 24 (s + (e * n))) 106 0 = F1 106 0 := gs_up_ne _ _ (by omega)
      generalize gs_up F1 106 24 (s + (e * n)) = F12 at I13 f14 v15 v16 v17 v18 v19 v20 v21 ⊢
      refine sA_vret dd_X9_closeBracket_145 rfl ?_
      refine ⟨rfl, I13, f14, ?_⟩
      have h118 : A1 118 = gs_rpt (A 118) s e n := (u8.trans i6).trans (gs_rp_rpt (by omega))
      refine ⟨by omega, by omega, by omega, by omega, .inl ⟨by omega, by omega, by omega, 0, kd, kb, ?_, .inl rfl⟩, by omega⟩
      rw [show F12 106 18 = F1 106 18 by omega, i7, show F12 106 22 = F 106 22 - 1 by omega, show F12 106 24 = s + e * n by omega, h118, u10.trans i9]
    · skip
      refine sA_aload_n dd_X9_closeBracket_111 rfl (.tail _ (.tail _ (.tail _ (.tail _ (.head _))))) ?_
      refine sA_getr (ci := 9) (j := 23) (q := (RX9, TX9, 28)) dd_X9_closeBracket_112 rfl (by decide) fl_X9_47 (by decide) gs_s106 rfl ?_
      refine sA_iload dd_X9_closeBracket_115 (.head _) ?_
      refine sA_aload_n dd_X9_closeBracket_117 rfl (.tail _ (.tail _ (.tail _ (.tail _ (.head _))))) ?_
      refine sA_getr (ci := 9) (j := 23) (q := (RX9, TX9, 28)) dd_X9_closeBracket_118 rfl (by decide) fl_X9_47 (by decide) gs_s106 rfl ?_
      refine sA_iload dd_X9_closeBracket_121 (.head _) ?_
      refine sA_iload dd_X9_closeBracket_123 (.tail _ (.head _)) ?_
      refine sA_isub dd_X9_closeBracket_125 ?_
      refine sA_iald (n := 600) dd_X9_closeBracket_126 (by decide) gs_s118 (by omega) (by decide) ?_
      have b22 : (-2147483648 : Int) ≤ A1 118 (k - e).toNat ∧ A1 118 (k - e).toNat ≤ 2147483647 := hI1.2 118 (k - e).toNat
      refine sA_iast (n := 600) dd_X9_closeBracket_127 (by decide) gs_s118 (by omega) (by decide) ?_
      have I24 : gs_I F1 (gs_up A1 118 k.toNat (A1 118 (k - e).toNat)) := gs_I_ast hI1 (show (-2147483648 : Int) ≤ A1 118 (k - e).toNat ∧ A1 118 (k - e).toNat ≤ 2147483647 by omega)
      have f25 := gs_fr_ast hf1 (a := 118) (z := A1 118 (k - e).toNat) (i := k.toNat) (by first | omega | (dsimp only; omega) | (dsimp only) | fail)
      have v26 : (gs_up A1 118 k.toNat (A1 118 (k - e).toNat)) 117 ((F 106 22 - 1).toNat) = A1 117 ((F 106 22 - 1).toNat) := gs_up_ne _ _ (by omega)
      have u27 : (gs_up A1 118 k.toNat (A1 118 (k - e).toNat)) 118 = gs_u (A1 118) k.toNat (A1 118 (k - e).toNat) := (gs_up_u A1 118 k.toNat (A1 118 (k - e).toNat)).trans (congrArg (fun f => gs_u f k.toNat (A1 118 (k - e).toNat)) u8)
      have u28 : (gs_up A1 118 k.toNat (A1 118 (k - e).toNat)) 116 = A1 116 := (gs_up_row _ _ (by omega)).trans u9
      have u29 : (gs_up A1 118 k.toNat (A1 118 (k - e).toNat)) 117 = A1 117 := (gs_up_row _ _ (by omega)).trans u10
      generalize gs_up A1 118 k.toNat (A1 118 (k - e).toNat) = A23 at I24 f25 v26 u27 u28 u29 ⊢
      refine sA_iinc (lv' := [(6, gs_iv (k + 1)), (5, gs_iv e), (4, gs_iv s), (3, gs_iv n), (0, .ref 106)]) dd_X9_closeBracket_128 (.head _) (by decide) rfl ?_
      refine sA_goto (tgt := 99) dd_X9_closeBracket_131 (by decide) ?_
      refine sA_sub (lv2 := [(6, gs_iv (k + 1)), (5, gs_iv e), (4, gs_iv s), (3, gs_iv n), (0, .ref 106)]) (List.forall_mem_cons.mpr ⟨(.head _), (List.forall_mem_cons.mpr ⟨(.tail _ (.head _)), (List.forall_mem_cons.mpr ⟨(.tail _ (.tail _ (.head _))), (List.forall_mem_cons.mpr ⟨(.tail _ (.tail _ (.tail _ (.head _)))), (List.forall_mem_cons.mpr ⟨(.tail _ (.tail _ (.tail _ (.tail _ (.head _))))), (fun _ h => absurd h List.not_mem_nil)⟩)⟩)⟩)⟩)⟩) ?_
      exact ih n s e (k + 1) F1 A23 I24 f25 (by omega) (by omega) (by omega) (by omega) (by omega) (by omega) (by first | (rw [u27, i6]; have hst6 := gs_rp_step (c := A 118) (s := s) (e := e) (k := k - s - e) (by omega) (by omega) (by omega); rw [show s + e + (k - s - e) = k by omega, show s + (k - s - e) = k - e by omega, show k - s - e + 1 = k + 1 - s - e by omega] at hst6; exact hst6) | (rw [u27]; exact gs_rp_00 (by omega)) | fail) (by first | exact i7 | exact hrun | fail) (by omega) (by first | exact u29.trans i9 | exact u29 | fail) (by omega) (by omega)
theorem c_X9_closeBracket_vf  {s0 : rd_S} {st kd kb : Int} {F A : gs_F} (hI : gs_I F A) (hd : 1 ≤ F 106 22) (hh : F 106 18 < F 106 17) (ho : A 117 (F 106 22 - 1).toNat ≤ F 106 24) (h19 : F 106 19 = 0) (h20 : F 106 20 = -1) (h0 : rd_good (F 106 0) s0) (hc : A 116 (F 106 18).toNat = 41) (hst : st = 0 ∨ st = 2) (hrd : rd (F 106 0) (A 116) s0 (F 106 18).toNat = (0, 0, st, kd, kb, F 106 22, F 106 24, A 118, A 117)) : sC m_X9_closeBracket 3 [.ref 106] F A (fun rv F' A' => rv = none ∧ gs_I F' A' ∧ gs_fr (fun c j => c = 106 ∧ (j = 18 ∨ j = 19 ∨ j = 20 ∨ j = 22 ∨ j = 24)) (fun c => c = 118) F A F' A' ∧ ((F 106 18 + 1 ≤ F' 106 18 ∨ 1 ≤ F' 106 19) ∧ F 106 18 ≤ F' 106 18 ∧ F 106 24 ≤ F' 106 24 ∧ F' 106 22 ≤ F 106 22 ∧ rd_md (F 106 0) (A 116) s0 F' A' ∧ F' 106 17 = F 106 17)) := by
  refine sC_of ok_X9_closeBracket.1 (Nat.le_of_ble_eq_true rfl) ?_
  show sA _ _ _ 0 [(0, .ref 106)] [] F A
  have hf : gs_fr (fun c j => c = 106 ∧ (j = 18 ∨ j = 19 ∨ j = 20 ∨ j = 22 ∨ j = 24)) (fun c => c = 118) F A F A := gs_fr_refl _ _ _ _
  have b30 : (0 : Int) ≤ F 106 18 ∧ F 106 18 ≤ 120 := hI.1 106 18
  have b31 : (0 : Int) ≤ F 106 17 ∧ F 106 17 ≤ 120 := hI.1 106 17
  have b32 : (0 : Int) ≤ F 106 19 ∧ F 106 19 ≤ 4 := hI.1 106 19
  have b33 : (-2147483648 : Int) ≤ F 106 20 ∧ F 106 20 ≤ 2147483647 := hI.1 106 20
  have b34 : (0 : Int) ≤ F 106 24 ∧ F 106 24 ≤ 60 := hI.1 106 24
  have b35 : (0 : Int) ≤ F 106 22 ∧ F 106 22 ≤ 4 := hI.1 106 22
  have b36 : (1 : Int) ≤ F 106 0 ∧ F 106 0 ≤ 3 := hI.1 106 0
  have u37 : A 118 = A 118 := rfl
  have u38 : A 116 = A 116 := rfl
  have u39 : A 117 = A 117 := rfl
  have hb17 : (0 : Int) ≤ F 106 17 ∧ F 106 17 ≤ 120 := hI.1 106 17
  have hb18 : (0 : Int) ≤ F 106 18 ∧ F 106 18 ≤ 120 := hI.1 106 18
  refine sA_aload_n dd_X9_closeBracket_0 rfl (.head _) ?_
  refine sA_dup dd_X9_closeBracket_1 rfl ?_
  refine sA_geti (ci := 9) (j := 18) (q := (RX9, TX9, 28)) dd_X9_closeBracket_2 rfl (by decide) fl_X9_186 (by decide) gs_s106 rfl ?_
  refine sA_iconst (z := 1) dd_X9_closeBracket_5 ?_
  refine sA_iadd dd_X9_closeBracket_6 ?_
  refine sA_put (ci := 9) (j := 18) (q := (RX9, TX9, 28)) (ty := .int) dd_X9_closeBracket_7 rfl (by decide) fl_X9_186 rfl (tyX9_ok 18 (by decide)) rfl rfl (by decide) gs_s106 rfl ?_
  have I41 : gs_I (gs_up F 106 18 ((F 106 18) + 1)) A := gs_I_put hI (show (0 : Int) ≤ (F 106 18) + 1 ∧ (F 106 18) + 1 ≤ 120 by omega)
  have f42 := gs_fr_put hf (a := 106) (z := (F 106 18) + 1) (j := 18) (by first | omega | (dsimp only; omega) | (dsimp only) | fail)
  have v43 : gs_up F 106 18 ((F 106 18) + 1) 106 18 = (F 106 18) + 1 := gs_up_self _ _ _ _
  have v44 : (gs_up F 106 18 ((F 106 18) + 1)) 106 17 = F 106 17 := gs_up_ne _ _ (by omega)
  have v45 : (gs_up F 106 18 ((F 106 18) + 1)) 106 19 = F 106 19 := gs_up_ne _ _ (by omega)
  have v46 : (gs_up F 106 18 ((F 106 18) + 1)) 106 20 = F 106 20 := gs_up_ne _ _ (by omega)
  have v47 : (gs_up F 106 18 ((F 106 18) + 1)) 106 24 = F 106 24 := gs_up_ne _ _ (by omega)
  have v48 : (gs_up F 106 18 ((F 106 18) + 1)) 106 22 = F 106 22 := gs_up_ne _ _ (by omega)
  have v49 : (gs_up F 106 18 ((F 106 18) + 1)) 106 0 = F 106 0 := gs_up_ne _ _ (by omega)
  generalize gs_up F 106 18 ((F 106 18) + 1) = F40 at I41 f42 v43 v44 v45 v46 v47 v48 v49 ⊢
  refine sA_aload_n dd_X9_closeBracket_10 rfl (.head _) ?_
  refine sA_callV (y2 := m_X9_look) (n2 := 0) (d2 := 1) (a := 106) (ci := 9) (q := (RX9, TX9, 28)) (as := []) (rest := []) dd_X9_closeBracket_11 ok_X9_look ml_X9_192 rfl rfl (by decide) gs_s106 rfl rfl (Nat.le_of_ble_eq_true rfl) (by decide) (c_X9_look_vf I41 ) (fun r50 F51 A52 h53 => ?_)
  obtain ⟨z56, e55, I57, f58, x54⟩ := h53
  subst e55
  have v60 : F51 106 17 = F40 106 17 := f58.1 106 17 (by first | exact id | omega | (dsimp only; omega) | (dsimp only) | fail)
  have v61 : F51 106 19 = F40 106 19 := f58.1 106 19 (by first | exact id | omega | (dsimp only; omega) | (dsimp only) | fail)
  have v62 : F51 106 20 = F40 106 20 := f58.1 106 20 (by first | exact id | omega | (dsimp only; omega) | (dsimp only) | fail)
  have v63 : F51 106 24 = F40 106 24 := f58.1 106 24 (by first | exact id | omega | (dsimp only; omega) | (dsimp only) | fail)
  have v64 : F51 106 22 = F40 106 22 := f58.1 106 22 (by first | exact id | omega | (dsimp only; omega) | (dsimp only) | fail)
  have v65 : F51 106 0 = F40 106 0 := f58.1 106 0 (by first | exact id | omega | (dsimp only; omega) | (dsimp only) | fail)
  have v66 : A52 117 ((F 106 22 - 1).toNat) = A 117 ((F 106 22 - 1).toNat) := congrFun (f58.2 117 (by first | exact id | omega | (dsimp only; omega) | (dsimp only) | fail)) _
  have f67 := gs_fr_tr f42 f58 (fun b j h => by first | exact False.elim h | omega | (dsimp only at h ⊢; omega) | fail) (fun b h => by first | exact False.elim h | omega | (dsimp only at h ⊢; omega) | fail)
  have u68 : A52 118 = A 118 := (f58.2 118 (by first | exact id | omega | (dsimp only; omega) | (dsimp only) | fail)).trans u37
  have u69 : A52 116 = A 116 := (f58.2 116 (by first | exact id | omega | (dsimp only; omega) | (dsimp only) | fail)).trans u38
  have u70 : A52 117 = A 117 := (f58.2 117 (by first | exact id | omega | (dsimp only; omega) | (dsimp only) | fail)).trans u39
  have y71 : F40 106 18 ≤ F51 106 18 ∧ F51 106 17 = F40 106 17 ∧ (∀ i : Int, F40 106 18 ≤ i → i < F51 106 18 → A 116 i.toNat = 32) ∧ ((F51 106 18 < F40 106 17 ∧ A 116 (F51 106 18).toNat ≠ 32 ∧ z56 = A 116 (F51 106 18).toNat) ∨ (F40 106 17 ≤ F51 106 18 ∧ z56 = -1)) ∧ (F40 106 18 ≤ F40 106 17 → F51 106 18 ≤ F40 106 17) ∧ -2147483648 ≤ z56 ∧ z56 ≤ 2147483647 := x54
  clear x54
  show sA _ _ _ 14 _ [gs_iv z56] _ _
  refine sA_istore_n (lv' := [(1, gs_iv z56), (0, .ref 106)]) dd_X9_closeBracket_14 rfl (by decide) rfl ?_
  refine sA_aload_n dd_X9_closeBracket_15 rfl (.tail _ (.head _)) ?_
  refine sA_geti (ci := 9) (j := 18) (q := (RX9, TX9, 28)) dd_X9_closeBracket_16 rfl (by decide) fl_X9_186 (by decide) gs_s106 rfl ?_
  have b72 : (0 : Int) ≤ F51 106 18 ∧ F51 106 18 ≤ 120 := I57.1 106 18
  refine sA_istore_n (lv' := [(2, gs_iv (F51 106 18)), (1, gs_iv z56), (0, .ref 106)]) dd_X9_closeBracket_19 rfl (by decide) rfl ?_
  refine sA_aload_n dd_X9_closeBracket_20 rfl (.tail _ (.tail _ (.head _))) ?_
  refine sA_iconst (z := 1) dd_X9_closeBracket_21 ?_
  refine sA_bipush (z := 9) dd_X9_closeBracket_22 (by decide) ?_
  refine sA_callV (y2 := m_X9_takeFigure) (n2 := 2) (d2 := 2) (a := 106) (ci := 9) (q := (RX9, TX9, 28)) (as := [gs_iv 1, gs_iv 9]) (rest := []) dd_X9_closeBracket_24 ok_X9_takeFigure ml_X9_203 rfl rfl (by decide) gs_s106 rfl rfl (Nat.le_of_ble_eq_true rfl) (by decide) (c_X9_takeFigure_vf I57 (by omega) (by omega) (by omega) (by omega)) (fun r73 F74 A75 h76 => ?_)
  obtain ⟨z79, e78, I80, f81, x77⟩ := h76
  subst e78
  have v83 : F74 106 17 = F51 106 17 := f81.1 106 17 (by first | exact id | omega | (dsimp only; omega) | (dsimp only) | fail)
  have v86 : F74 106 24 = F51 106 24 := f81.1 106 24 (by first | exact id | omega | (dsimp only; omega) | (dsimp only) | fail)
  have v87 : F74 106 22 = F51 106 22 := f81.1 106 22 (by first | exact id | omega | (dsimp only; omega) | (dsimp only) | fail)
  have v88 : F74 106 0 = F51 106 0 := f81.1 106 0 (by first | exact id | omega | (dsimp only; omega) | (dsimp only) | fail)
  have v89 : A75 117 ((F 106 22 - 1).toNat) = A52 117 ((F 106 22 - 1).toNat) := congrFun (f81.2 117 (by first | exact id | omega | (dsimp only; omega) | (dsimp only) | fail)) _
  have f90 := gs_fr_tr f67 f81 (fun b j h => by first | exact False.elim h | omega | (dsimp only at h ⊢; omega) | fail) (fun b h => by first | exact False.elim h | omega | (dsimp only at h ⊢; omega) | fail)
  have u91 : A75 118 = A 118 := (f81.2 118 (by first | exact id | omega | (dsimp only; omega) | (dsimp only) | fail)).trans u68
  have u92 : A75 116 = A 116 := (f81.2 116 (by first | exact id | omega | (dsimp only; omega) | (dsimp only) | fail)).trans u69
  have u93 : A75 117 = A 117 := (f81.2 117 (by first | exact id | omega | (dsimp only; omega) | (dsimp only) | fail)).trans u70
  have y94 : (F51 106 18 ≤ F74 106 18 ∧ F74 106 17 = F51 106 17 ∧ ((F74 106 19 = 0 ∧ F51 106 19 = 0 ∧ (1 : Int) ≤ z79 ∧ z79 ≤ (9 : Int) ∧ F51 106 18 + 1 ≤ F74 106 18) ∨ 1 ≤ F74 106 19)) ∧ gs_tf (F51 106 17) (F51 106 18) (A52 116) (1 : Int) (9 : Int) z79 (F74 106 19) (F74 106 20) (F74 106 18) (F51 106 20) := x77
  clear x77
  show sA _ _ _ 27 _ [gs_iv z79] _ _
  refine sA_istore_n (lv' := [(3, gs_iv z79), (2, gs_iv (F51 106 18)), (1, gs_iv z56), (0, .ref 106)]) dd_X9_closeBracket_27 rfl (by decide) rfl ?_
  refine sA_aload_n dd_X9_closeBracket_28 rfl (.tail _ (.tail _ (.tail _ (.head _)))) ?_
  refine sA_geti (ci := 9) (j := 19) (q := (RX9, TX9, 28)) dd_X9_closeBracket_29 rfl (by decide) fl_X9_189 (by decide) gs_s106 rfl ?_
  have b95 : (0 : Int) ≤ F74 106 19 ∧ F74 106 19 ≤ 4 := I80.1 106 19
  refine sA_if_le (tgt := 36) dd_X9_closeBracket_32 (by decide) (by omega) (fun q96 => ?_) (fun q96 => ?_)
  · skip
    refine sA_aload_n dd_X9_closeBracket_36 rfl (.tail _ (.tail _ (.tail _ (.head _)))) ?_
    refine sA_dup dd_X9_closeBracket_37 rfl ?_
    refine sA_geti (ci := 9) (j := 22) (q := (RX9, TX9, 28)) dd_X9_closeBracket_38 rfl (by decide) fl_X9_209 (by decide) gs_s106 rfl ?_
    have b97 : (0 : Int) ≤ F74 106 22 ∧ F74 106 22 ≤ 4 := I80.1 106 22
    refine sA_iconst (z := 1) dd_X9_closeBracket_41 ?_
    refine sA_isub dd_X9_closeBracket_42 ?_
    refine sA_put (ci := 9) (j := 22) (q := (RX9, TX9, 28)) (ty := .int) dd_X9_closeBracket_43 rfl (by decide) fl_X9_209 rfl (tyX9_ok 22 (by decide)) rfl rfl (by decide) gs_s106 rfl ?_
    have I99 : gs_I (gs_up F74 106 22 ((F74 106 22) - 1)) A75 := gs_I_put I80 (show (0 : Int) ≤ (F74 106 22) - 1 ∧ (F74 106 22) - 1 ≤ 4 by omega)
    have f100 := gs_fr_put f90 (a := 106) (z := (F74 106 22) - 1) (j := 22) (by first | omega | (dsimp only; omega) | (dsimp only) | fail)
    have v101 : gs_up F74 106 22 ((F74 106 22) - 1) 106 22 = (F74 106 22) - 1 := gs_up_self _ _ _ _
    have v102 : (gs_up F74 106 22 ((F74 106 22) - 1)) 106 18 = F74 106 18 := gs_up_ne _ _ (by omega)
    have v103 : (gs_up F74 106 22 ((F74 106 22) - 1)) 106 17 = F74 106 17 := gs_up_ne _ _ (by omega)
    have v104 : (gs_up F74 106 22 ((F74 106 22) - 1)) 106 19 = F74 106 19 := gs_up_ne _ _ (by omega)
    have v105 : (gs_up F74 106 22 ((F74 106 22) - 1)) 106 20 = F74 106 20 := gs_up_ne _ _ (by omega)
    have v106 : (gs_up F74 106 22 ((F74 106 22) - 1)) 106 24 = F74 106 24 := gs_up_ne _ _ (by omega)
    have v107 : (gs_up F74 106 22 ((F74 106 22) - 1)) 106 0 = F74 106 0 := gs_up_ne _ _ (by omega)
    generalize gs_up F74 106 22 ((F74 106 22) - 1) = F98 at I99 f100 v101 v102 v103 v104 v105 v106 v107 ⊢
    refine sA_aload_n dd_X9_closeBracket_46 rfl (.tail _ (.tail _ (.tail _ (.head _)))) ?_
    refine sA_getr (ci := 9) (j := 21) (q := (RX9, TX9, 28)) dd_X9_closeBracket_47 rfl (by decide) fl_X9_44 (by decide) gs_s106 rfl ?_
    refine sA_aload_n dd_X9_closeBracket_50 rfl (.tail _ (.tail _ (.tail _ (.head _)))) ?_
    refine sA_geti (ci := 9) (j := 22) (q := (RX9, TX9, 28)) dd_X9_closeBracket_51 rfl (by decide) fl_X9_209 (by decide) gs_s106 rfl ?_
    have b108 : (0 : Int) ≤ F98 106 22 ∧ F98 106 22 ≤ 4 := I99.1 106 22
    refine sA_iald (n := 4) dd_X9_closeBracket_54 (by decide) gs_s117 (by omega) (by decide) ?_
    have b109 : (0 : Int) ≤ A75 117 (F98 106 22).toNat ∧ A75 117 (F98 106 22).toNat ≤ 60 := I99.2 117 (F98 106 22).toNat
    have hidx : A75 117 (F98 106 22).toNat = A75 117 (F 106 22 - 1).toNat := by rw [show F98 106 22 = F 106 22 - 1 by omega]
    refine sA_istore (lv' := [(4, gs_iv (A75 117 (F98 106 22).toNat)), (3, gs_iv z79), (2, gs_iv (F51 106 18)), (1, gs_iv z56), (0, .ref 106)]) dd_X9_closeBracket_55 (by decide) rfl ?_
    refine sA_aload_n dd_X9_closeBracket_57 rfl (.tail _ (.tail _ (.tail _ (.tail _ (.head _))))) ?_
    refine sA_geti (ci := 9) (j := 24) (q := (RX9, TX9, 28)) dd_X9_closeBracket_58 rfl (by decide) fl_X9_206 (by decide) gs_s106 rfl ?_
    have b110 : (0 : Int) ≤ F98 106 24 ∧ F98 106 24 ≤ 60 := I99.1 106 24
    refine sA_iload dd_X9_closeBracket_61 (.head _) ?_
    refine sA_isub dd_X9_closeBracket_63 ?_
    refine sA_istore (lv' := [(5, gs_iv ((F98 106 24) - (A75 117 (F98 106 22).toNat))), (4, gs_iv (A75 117 (F98 106 22).toNat)), (3, gs_iv z79), (2, gs_iv (F51 106 18)), (1, gs_iv z56), (0, .ref 106)]) dd_X9_closeBracket_64 (by decide) rfl ?_
    refine sA_aload_n dd_X9_closeBracket_66 rfl (.tail _ (.tail _ (.tail _ (.tail _ (.tail _ (.head _)))))) ?_
    refine sA_iload dd_X9_closeBracket_67 (.tail _ (.head _)) ?_
    refine sA_iload dd_X9_closeBracket_69 (.head _) ?_
    refine sA_iload_n dd_X9_closeBracket_71 rfl (.tail _ (.tail _ (.head _))) ?_
    have hmb := gs_mul_bd (x := (F98 106 24) - (A75 117 (F98 106 22).toNat)) (y := z79) (m := 60) (k := 9) (by omega) (by omega) (by omega)
    have hmg := gs_mul_ge (x := (F98 106 24) - (A75 117 (F98 106 22).toNat)) (y := z79) (by omega) (by omega)
    refine sA_imul dd_X9_closeBracket_72 ?_
    refine sA_iadd dd_X9_closeBracket_73 ?_
    refine sA_bipush (z := 60) dd_X9_closeBracket_74 (by decide) ?_
    refine sA_icmp_gt (tgt := 83) dd_X9_closeBracket_76 (by decide) (by omega) (by omega) (fun q111 => ?_) (fun q111 => ?_)
    · skip
      refine sA_iconst (z := 0) dd_X9_closeBracket_83 ?_
      refine sA_iconst (z := 3) dd_X9_closeBracket_84 ?_
      refine sA_iload_n dd_X9_closeBracket_85 rfl (.tail _ (.tail _ (.tail _ (.head _)))) ?_
      refine sA_callV (y2 := m_X9_want) (n2 := 3) (d2 := 1) (a := 106) (ci := 9) (q := (RX9, TX9, 28)) (as := [gs_iv 0, gs_iv 3, gs_iv (F51 106 18)]) (rest := []) dd_X9_closeBracket_86 ok_X9_want ml_X9_199 rfl rfl (by decide) gs_s106 rfl rfl (Nat.le_of_ble_eq_true rfl) (by decide) (c_X9_want_vf I99 (by omega) (by omega) (by omega)) (fun r112 F113 A114 h115 => ?_)
      obtain ⟨z118, e117, I119, f120, x116⟩ := h115
      subst e117
      have v121 : F113 106 18 = F98 106 18 := f120.1 106 18 (by first | exact id | omega | (dsimp only; omega) | (dsimp only) | fail)
      have v122 : F113 106 17 = F98 106 17 := f120.1 106 17 (by first | exact id | omega | (dsimp only; omega) | (dsimp only) | fail)
      have v125 : F113 106 24 = F98 106 24 := f120.1 106 24 (by first | exact id | omega | (dsimp only; omega) | (dsimp only) | fail)
      have v126 : F113 106 22 = F98 106 22 := f120.1 106 22 (by first | exact id | omega | (dsimp only; omega) | (dsimp only) | fail)
      have v127 : F113 106 0 = F98 106 0 := f120.1 106 0 (by first | exact id | omega | (dsimp only; omega) | (dsimp only) | fail)
      have v128 : A114 117 ((F 106 22 - 1).toNat) = A75 117 ((F 106 22 - 1).toNat) := congrFun (f120.2 117 (by first | exact id | omega | (dsimp only; omega) | (dsimp only) | fail)) _
      have f129 := gs_fr_tr f100 f120 (fun b j h => by first | exact False.elim h | omega | (dsimp only at h ⊢; omega) | fail) (fun b h => by first | exact False.elim h | omega | (dsimp only at h ⊢; omega) | fail)
      have u130 : A114 118 = A 118 := (f120.2 118 (by first | exact id | omega | (dsimp only; omega) | (dsimp only) | fail)).trans u91
      have u131 : A114 116 = A 116 := (f120.2 116 (by first | exact id | omega | (dsimp only; omega) | (dsimp only) | fail)).trans u92
      have u132 : A114 117 = A 117 := (f120.2 117 (by first | exact id | omega | (dsimp only; omega) | (dsimp only) | fail)).trans u93
      have y133 : (F98 106 19 = 0 ∧ (0 : Int) = 0 ∧ z118 = 0 ∧ F113 106 19 = (3 : Int) ∧ F113 106 20 = (F51 106 18)) ∨ (F98 106 19 = 0 ∧ (0 : Int) = 1 ∧ z118 = 1 ∧ F113 106 19 = 0 ∧ F113 106 20 = F98 106 20) ∨ (F98 106 19 ≠ 0 ∧ z118 = 0 ∧ F113 106 19 = F98 106 19 ∧ F113 106 20 = F98 106 20) := x116
      clear x116
      show sA _ _ _ 89 _ [gs_iv z118] _ _
      refine sA_if_eq (tgt := 145) dd_X9_closeBracket_89 (by decide) (by omega) (fun q134 => ?_) (fun q134 => ?_)
      · skip
        refine sA_vret dd_X9_closeBracket_145 rfl ?_
        refine ⟨rfl, I119, f129, ?_⟩
        refine ⟨by omega, by omega, by omega, by omega, .inr ⟨by omega, ?_⟩, by omega⟩
        have e3 := rd_close (by omega) hrd hst hc hd
        have lk := y71
        have l4 := lk.2.2.2.1
        have l5 := lk.2.2.2.2.1
        have tf := y94.2
        rw [show F51 106 17 = F 106 17 by omega, u69] at tf
        rw [show F74 106 19 = 0 by omega] at tf
        obtain ⟨m1, m2, m3, m4, m5, m6, m7⟩ := rd_tm_good (by omega) e3 (show F 106 18 + 1 ≤ F51 106 18 by omega) (fun i h1 h2 => lk.2.2.1 i (by omega) h2) (by omega) tf
        have hs7 : A75 117 (F98 106 22).toNat = A 117 (F 106 22 - 1).toNat := by
          rw [show F98 106 22 = F 106 22 - 1 by omega]
          rw [u93]
        have e86 : F98 106 24 = F 106 24 := by omega
        rw [show F113 106 17 = F 106 17 by omega, show F113 106 19 = 3 by omega, show F113 106 20 = F51 106 18 by omega]
        exact m1 (by rw [← hs7, ← e86]; omega)
      · skip
        have e3 := rd_close (by omega) hrd hst hc hd
        have lk := y71
        have l4 := lk.2.2.2.1
        have l5 := lk.2.2.2.2.1
        have tf := y94.2
        rw [show F51 106 17 = F 106 17 by omega, u69] at tf
        rw [show F74 106 19 = 0 by omega] at tf
        obtain ⟨m1, m2, m3, m4, m5, m6, m7⟩ := rd_tm_good (by omega) e3 (show F 106 18 + 1 ≤ F51 106 18 by omega) (fun i h1 h2 => lk.2.2.1 i (by omega) h2) (by omega) tf
        have hs7 : A75 117 (F98 106 22).toNat = A 117 (F 106 22 - 1).toNat := by
          rw [show F98 106 22 = F 106 22 - 1 by omega]
          rw [u93]
        have e86 : F98 106 24 = F 106 24 := by omega
        have hrun := m2 (by rw [← hs7, ← e86]; omega)
        rw [← hs7, ← e86, show F74 106 18 = F113 106 18 by omega] at hrun
        refine sA_iload dd_X9_closeBracket_92 (.tail _ (.head _)) ?_
        refine sA_iload dd_X9_closeBracket_94 (.head _) ?_
        refine sA_iadd dd_X9_closeBracket_96 ?_
        refine sA_istore (lv' := [(6, gs_iv ((A75 117 (F98 106 22).toNat) + ((F98 106 24) - (A75 117 (F98 106 22).toNat)))), (5, gs_iv ((F98 106 24) - (A75 117 (F98 106 22).toNat))), (4, gs_iv (A75 117 (F98 106 22).toNat)), (3, gs_iv z79), (2, gs_iv (F51 106 18)), (1, gs_iv z56), (0, .ref 106)]) dd_X9_closeBracket_97 (by decide) rfl ?_
        have b135 : (0 : Int) ≤ F113 106 18 ∧ F113 106 18 ≤ 120 := I119.1 106 18
        have b136 : (0 : Int) ≤ F113 106 17 ∧ F113 106 17 ≤ 120 := I119.1 106 17
        have b137 : (0 : Int) ≤ F113 106 19 ∧ F113 106 19 ≤ 4 := I119.1 106 19
        have b138 : (-2147483648 : Int) ≤ F113 106 20 ∧ F113 106 20 ≤ 2147483647 := I119.1 106 20
        have b139 : (0 : Int) ≤ F113 106 24 ∧ F113 106 24 ≤ 60 := I119.1 106 24
        have b140 : (0 : Int) ≤ F113 106 22 ∧ F113 106 22 ≤ 4 := I119.1 106 22
        have b141 : (1 : Int) ≤ F113 106 0 ∧ F113 106 0 ≤ 3 := I119.1 106 0
        refine sA_sub (lv2 := [(6, gs_iv ((A75 117 (F98 106 22).toNat) + ((F98 106 24) - (A75 117 (F98 106 22).toNat)))), (5, gs_iv ((F98 106 24) - (A75 117 (F98 106 22).toNat))), (4, gs_iv (A75 117 (F98 106 22).toNat)), (3, gs_iv z79), (0, .ref 106)]) (List.forall_mem_cons.mpr ⟨(.head _), (List.forall_mem_cons.mpr ⟨(.tail _ (.head _)), (List.forall_mem_cons.mpr ⟨(.tail _ (.tail _ (.head _))), (List.forall_mem_cons.mpr ⟨(.tail _ (.tail _ (.tail _ (.head _)))), (List.forall_mem_cons.mpr ⟨(.tail _ (.tail _ (.tail _ (.tail _ (.tail _ (.tail _ (.head _))))))), (fun _ h => absurd h List.not_mem_nil)⟩)⟩)⟩)⟩)⟩) ?_
        exact (k_X9_closeBracket_vf hI hd hh ho h19 h20 h0 hc hst hrd (70 - ((A75 117 (F98 106 22).toNat) + ((F98 106 24) - (A75 117 (F98 106 22).toNat))) : Int).toNat.succ) z79 (A75 117 (F98 106 22).toNat) ((F98 106 24) - (A75 117 (F98 106 22).toNat)) ((A75 117 (F98 106 22).toNat) + ((F98 106 24) - (A75 117 (F98 106 22).toNat))) F113 A114 I119 f129 (by omega) (by omega) (by omega) (by omega) (by omega) (by omega) (by first | (rw [u130, i6]; have hst6 := gs_rp_step (c := A 118) (s := s) (e := e) (k := k - s - e) (by omega) (by omega) (by omega); rw [show s + e + (k - s - e) = k by omega, show s + (k - s - e) = k - e by omega, show k - s - e + 1 = k + 1 - s - e by omega] at hst6; exact hst6) | (rw [u130]; exact gs_rp_00 (by omega)) | fail) (by first | exact i7 | exact hrun | fail) (by omega) (by first | exact u132.trans i9 | exact u132 | fail) (by omega) (by omega)
    · skip
      refine sA_iconst (z := 1) dd_X9_closeBracket_79 ?_
      refine sA_goto (tgt := 84) dd_X9_closeBracket_80 (by decide) ?_
      refine sA_iconst (z := 3) dd_X9_closeBracket_84 ?_
      refine sA_iload_n dd_X9_closeBracket_85 rfl (.tail _ (.tail _ (.tail _ (.head _)))) ?_
      refine sA_callV (y2 := m_X9_want) (n2 := 3) (d2 := 1) (a := 106) (ci := 9) (q := (RX9, TX9, 28)) (as := [gs_iv 1, gs_iv 3, gs_iv (F51 106 18)]) (rest := []) dd_X9_closeBracket_86 ok_X9_want ml_X9_199 rfl rfl (by decide) gs_s106 rfl rfl (Nat.le_of_ble_eq_true rfl) (by decide) (c_X9_want_vf I99 (by omega) (by omega) (by omega)) (fun r142 F143 A144 h145 => ?_)
      obtain ⟨z148, e147, I149, f150, x146⟩ := h145
      subst e147
      have v151 : F143 106 18 = F98 106 18 := f150.1 106 18 (by first | exact id | omega | (dsimp only; omega) | (dsimp only) | fail)
      have v152 : F143 106 17 = F98 106 17 := f150.1 106 17 (by first | exact id | omega | (dsimp only; omega) | (dsimp only) | fail)
      have v155 : F143 106 24 = F98 106 24 := f150.1 106 24 (by first | exact id | omega | (dsimp only; omega) | (dsimp only) | fail)
      have v156 : F143 106 22 = F98 106 22 := f150.1 106 22 (by first | exact id | omega | (dsimp only; omega) | (dsimp only) | fail)
      have v157 : F143 106 0 = F98 106 0 := f150.1 106 0 (by first | exact id | omega | (dsimp only; omega) | (dsimp only) | fail)
      have v158 : A144 117 ((F 106 22 - 1).toNat) = A75 117 ((F 106 22 - 1).toNat) := congrFun (f150.2 117 (by first | exact id | omega | (dsimp only; omega) | (dsimp only) | fail)) _
      have f159 := gs_fr_tr f100 f150 (fun b j h => by first | exact False.elim h | omega | (dsimp only at h ⊢; omega) | fail) (fun b h => by first | exact False.elim h | omega | (dsimp only at h ⊢; omega) | fail)
      have u160 : A144 118 = A 118 := (f150.2 118 (by first | exact id | omega | (dsimp only; omega) | (dsimp only) | fail)).trans u91
      have u161 : A144 116 = A 116 := (f150.2 116 (by first | exact id | omega | (dsimp only; omega) | (dsimp only) | fail)).trans u92
      have u162 : A144 117 = A 117 := (f150.2 117 (by first | exact id | omega | (dsimp only; omega) | (dsimp only) | fail)).trans u93
      have y163 : (F98 106 19 = 0 ∧ (1 : Int) = 0 ∧ z148 = 0 ∧ F143 106 19 = (3 : Int) ∧ F143 106 20 = (F51 106 18)) ∨ (F98 106 19 = 0 ∧ (1 : Int) = 1 ∧ z148 = 1 ∧ F143 106 19 = 0 ∧ F143 106 20 = F98 106 20) ∨ (F98 106 19 ≠ 0 ∧ z148 = 0 ∧ F143 106 19 = F98 106 19 ∧ F143 106 20 = F98 106 20) := x146
      clear x146
      show sA _ _ _ 89 _ [gs_iv z148] _ _
      refine sA_if_eq (tgt := 145) dd_X9_closeBracket_89 (by decide) (by omega) (fun q164 => ?_) (fun q164 => ?_)
      · skip
        refine sA_vret dd_X9_closeBracket_145 rfl ?_
        refine ⟨rfl, I149, f159, ?_⟩
        refine ⟨by omega, by omega, by omega, by omega, .inr ⟨by omega, ?_⟩, by omega⟩
        have e3 := rd_close (by omega) hrd hst hc hd
        have lk := y71
        have l4 := lk.2.2.2.1
        have l5 := lk.2.2.2.2.1
        have tf := y94.2
        rw [show F51 106 17 = F 106 17 by omega, u69] at tf
        rw [show F74 106 19 = 0 by omega] at tf
        obtain ⟨m1, m2, m3, m4, m5, m6, m7⟩ := rd_tm_good (by omega) e3 (show F 106 18 + 1 ≤ F51 106 18 by omega) (fun i h1 h2 => lk.2.2.1 i (by omega) h2) (by omega) tf
        have hs7 : A75 117 (F98 106 22).toNat = A 117 (F 106 22 - 1).toNat := by
          rw [show F98 106 22 = F 106 22 - 1 by omega]
          rw [u93]
        have e86 : F98 106 24 = F 106 24 := by omega
        rw [show F143 106 17 = F 106 17 by omega, show F143 106 19 = 3 by omega, show F143 106 20 = F51 106 18 by omega]
        exact m1 (by rw [← hs7, ← e86]; omega)
      · skip
        have e3 := rd_close (by omega) hrd hst hc hd
        have lk := y71
        have l4 := lk.2.2.2.1
        have l5 := lk.2.2.2.2.1
        have tf := y94.2
        rw [show F51 106 17 = F 106 17 by omega, u69] at tf
        rw [show F74 106 19 = 0 by omega] at tf
        obtain ⟨m1, m2, m3, m4, m5, m6, m7⟩ := rd_tm_good (by omega) e3 (show F 106 18 + 1 ≤ F51 106 18 by omega) (fun i h1 h2 => lk.2.2.1 i (by omega) h2) (by omega) tf
        have hs7 : A75 117 (F98 106 22).toNat = A 117 (F 106 22 - 1).toNat := by
          rw [show F98 106 22 = F 106 22 - 1 by omega]
          rw [u93]
        have e86 : F98 106 24 = F 106 24 := by omega
        have hrun := m2 (by rw [← hs7, ← e86]; omega)
        rw [← hs7, ← e86, show F74 106 18 = F143 106 18 by omega] at hrun
        refine sA_iload dd_X9_closeBracket_92 (.tail _ (.head _)) ?_
        refine sA_iload dd_X9_closeBracket_94 (.head _) ?_
        refine sA_iadd dd_X9_closeBracket_96 ?_
        refine sA_istore (lv' := [(6, gs_iv ((A75 117 (F98 106 22).toNat) + ((F98 106 24) - (A75 117 (F98 106 22).toNat)))), (5, gs_iv ((F98 106 24) - (A75 117 (F98 106 22).toNat))), (4, gs_iv (A75 117 (F98 106 22).toNat)), (3, gs_iv z79), (2, gs_iv (F51 106 18)), (1, gs_iv z56), (0, .ref 106)]) dd_X9_closeBracket_97 (by decide) rfl ?_
        have b165 : (0 : Int) ≤ F143 106 18 ∧ F143 106 18 ≤ 120 := I149.1 106 18
        have b166 : (0 : Int) ≤ F143 106 17 ∧ F143 106 17 ≤ 120 := I149.1 106 17
        have b167 : (0 : Int) ≤ F143 106 19 ∧ F143 106 19 ≤ 4 := I149.1 106 19
        have b168 : (-2147483648 : Int) ≤ F143 106 20 ∧ F143 106 20 ≤ 2147483647 := I149.1 106 20
        have b169 : (0 : Int) ≤ F143 106 24 ∧ F143 106 24 ≤ 60 := I149.1 106 24
        have b170 : (0 : Int) ≤ F143 106 22 ∧ F143 106 22 ≤ 4 := I149.1 106 22
        have b171 : (1 : Int) ≤ F143 106 0 ∧ F143 106 0 ≤ 3 := I149.1 106 0
        refine sA_sub (lv2 := [(6, gs_iv ((A75 117 (F98 106 22).toNat) + ((F98 106 24) - (A75 117 (F98 106 22).toNat)))), (5, gs_iv ((F98 106 24) - (A75 117 (F98 106 22).toNat))), (4, gs_iv (A75 117 (F98 106 22).toNat)), (3, gs_iv z79), (0, .ref 106)]) (List.forall_mem_cons.mpr ⟨(.head _), (List.forall_mem_cons.mpr ⟨(.tail _ (.head _)), (List.forall_mem_cons.mpr ⟨(.tail _ (.tail _ (.head _))), (List.forall_mem_cons.mpr ⟨(.tail _ (.tail _ (.tail _ (.head _)))), (List.forall_mem_cons.mpr ⟨(.tail _ (.tail _ (.tail _ (.tail _ (.tail _ (.tail _ (.head _))))))), (fun _ h => absurd h List.not_mem_nil)⟩)⟩)⟩)⟩)⟩) ?_
        exact (k_X9_closeBracket_vf hI hd hh ho h19 h20 h0 hc hst hrd (70 - ((A75 117 (F98 106 22).toNat) + ((F98 106 24) - (A75 117 (F98 106 22).toNat))) : Int).toNat.succ) z79 (A75 117 (F98 106 22).toNat) ((F98 106 24) - (A75 117 (F98 106 22).toNat)) ((A75 117 (F98 106 22).toNat) + ((F98 106 24) - (A75 117 (F98 106 22).toNat))) F143 A144 I149 f159 (by omega) (by omega) (by omega) (by omega) (by omega) (by omega) (by first | (rw [u160, i6]; have hst6 := gs_rp_step (c := A 118) (s := s) (e := e) (k := k - s - e) (by omega) (by omega) (by omega); rw [show s + e + (k - s - e) = k by omega, show s + (k - s - e) = k - e by omega, show k - s - e + 1 = k + 1 - s - e by omega] at hst6; exact hst6) | (rw [u160]; exact gs_rp_00 (by omega)) | fail) (by first | exact i7 | exact hrun | fail) (by omega) (by first | exact u162.trans i9 | exact u162 | fail) (by omega) (by omega)
  · skip
    refine sA_vret dd_X9_closeBracket_35 rfl ?_
    refine ⟨rfl, I80, f90, ?_⟩
    refine ⟨by omega, by omega, by omega, by omega, .inr ⟨by omega, ?_⟩, by omega⟩
    have e3 := rd_close (by omega) hrd hst hc hd
    have lk := y71
    have l4 := lk.2.2.2.1
    have l5 := lk.2.2.2.2.1
    have tf := y94.2
    rw [show F51 106 17 = F 106 17 by omega, u69] at tf
    rw [show F74 106 17 = F 106 17 by omega]
    exact rd_tm_bad (by omega) ((rd_mv (g := F 106 0) (s0 := s0) (by omega) (show F 106 18 + 1 ≤ F51 106 18 by omega) (fun i h1 h2 => lk.2.2.1 i (by omega) h2)).trans e3) tf (by omega)
end
