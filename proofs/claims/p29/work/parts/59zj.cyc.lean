noncomputable section
theorem c_X4_closedSize_vf {a L : Nat} {F A : gs_F} (hI : gs_I F A) (hr : gs_row a L) : sC m_X4_closedSize 2 [.ref a] F A (fun rv F' A' => ∃ z : Int, rv = some (gs_iv z) ∧ F = F' ∧ A = A' ∧ (cy_rep (gs_stk (A (a + 1)) (F a 1).toNat) z ∧ 0 ≤ z ∧ z ≤ 400)) := by
  refine sC_of ok_X4_closedSize.1 (Nat.le_of_ble_eq_true rfl) ?_
  show sA _ _ _ 0 [(0, .ref a)] [] F A
  have b1 := gs_row_sz hr hI
  have hbr := gs_row_sz hr hI
  refine sA_aload_n dd_X4_closedSize_0 rfl (.head _) ?_
  refine sA_geti (ci := 4) (j := 1) (q := (RX4, TX4, 2)) dd_X4_closedSize_1 rfl (by decide) fl_X4_19 (Nat.lt_of_succ_lt hr.1) hr.2.1 rfl ?_
  refine sA_iconst (z := 2) dd_X4_closedSize_4 ?_
  refine sA_aload_n dd_X4_closedSize_5 rfl (.head _) ?_
  refine sA_callV (y2 := m_X4_looseEnds) (n2 := 0) (d2 := 1) (a := a) (ci := 4) (q := (RX4, TX4, 2)) (as := []) (rest := [gs_iv 2, gs_iv (F a 1)]) dd_X4_closedSize_6 ok_X4_looseEnds ml_X4_32 rfl rfl (Nat.lt_of_succ_lt hr.1) hr.2.1 rfl rfl (Nat.le_of_ble_eq_true rfl) (by decide) (c_X4_looseEnds_vf hI hr) (fun r2 F3 A4 h5 => ?_)
  obtain ⟨z8, e7, e9, e10, x6⟩ := h5
  subst e7 e9 e10
  have y11 : gs_lo (A (a + 1)) (F a 1) z8 := x6
  clear x6
  show sA _ _ _ 9 _ [gs_iv z8, gs_iv 2, gs_iv (F a 1)] _ _
  have hlo := y11
  have hlo1 := hlo.1
  have hlo2 := hlo.2.1
  refine sA_imul dd_X4_closedSize_9 ?_
  refine sA_isub dd_X4_closedSize_10 ?_
  refine sA_iret (z := (F a 1) - (2 * z8)) dd_X4_closedSize_11 rfl ?_
  refine ⟨_, rfl, rfl, rfl, ?_⟩
  refine ⟨?_, by omega, by omega⟩
  exact cy_size (by omega) hlo
theorem k_X5_measureAhead_vf {g : Int} {F A : gs_F} (hI : gs_I F A) (hg : 1 ≤ g ∧ g ≤ 3) (h5 : F 5 0 = 3 * g - 1) (hW : gs_W (A 6) g) (hV : sp_val g (gs_stk (A 34) (F 33 1).toNat)) : ∀ nN : Nat, (∀ (u : Int)  (F1 A1 : gs_F), gs_I F1 A1 → gs_fr (fun c j => c = 35 ∧ j = 1) (fun c => c = 36 ∨ c = 7 ∨ c = 32) F A F1 A1 → 0 ≤ u ∧ u ≤ 16 → (∀ v : Int, 0 ≤ v → v < u → A1 32 v.toNat = -1 ∨ cy_rep (sp_tw (sp_w g (sp_fl v)) (gs_stk (A 34) (F 33 1).toNat)) (A1 32 v.toNat)) → F1 5 0 = F 5 0 → 16 - u < (nN : Int) → sA m_X5_measureAhead 3 (fun rv F' A' => rv = none ∧ gs_I F' A' ∧ gs_fr (fun c j => c = 35 ∧ j = 1) (fun c => c = 36 ∨ c = 7 ∨ c = 32) F A F' A' ∧ (∀ u : Int, 0 ≤ u → u < 2 * F 5 0 → A' 32 u.toNat = -1 ∨ cy_rep (sp_tw (sp_w g (sp_fl u)) (gs_stk (A 34) (F 33 1).toNat)) (A' 32 u.toNat))) 2 [(1, gs_iv u), (0, .ref 30)] [] F1 A1) := by
  intro nN
  induction nN with
  | zero =>
    exact fun a0 a1 a2 a3 a4 i0 i1 i2 hm => by exfalso; omega
  | succ nN ih =>
    intro u F1 A1 hI1 hf1 i0 i1 i2 hm
    have b1 : (1 : Int) ≤ F1 5 0 ∧ F1 5 0 ≤ 8 := hI1.1 5 0
    have u2 : A1 32 = A1 32 := rfl
    refine sA_iload_n dd_X5_measureAhead_2 rfl (.head _) ?_
    refine sA_iconst (z := 2) dd_X5_measureAhead_3 ?_
    refine sA_aload_n dd_X5_measureAhead_4 rfl (.tail _ (.head _)) ?_
    refine sA_getr (ci := 5) (j := 0) (q := (RX5, TX5, 6)) dd_X5_measureAhead_5 rfl (by decide) fl_X5_28 (by decide) gs_s30 rfl ?_
    refine sA_geti (ci := 7) (j := 0) (q := (RX7, TX7, 5)) dd_X5_measureAhead_8 rfl (by decide) fl_X5_64 (by decide) gs_s5 rfl ?_
    refine sA_imul dd_X5_measureAhead_11 ?_
    refine sA_icmp_ge (tgt := 72) dd_X5_measureAhead_12 (by decide) (by omega) (by omega) (fun q3 => ?_) (fun q3 => ?_)
    · skip
      refine sA_vret dd_X5_measureAhead_72 rfl ?_
      refine ⟨rfl, hI1, hf1, ?_⟩
      exact fun v h1 h2 => i1 v h1 (by omega)
    · skip
      refine sA_aload_n dd_X5_measureAhead_15 rfl (.tail _ (.head _)) ?_
      refine sA_getr (ci := 5) (j := 2) (q := (RX5, TX5, 6)) dd_X5_measureAhead_16 rfl (by decide) fl_X5_11 (by decide) gs_s30 rfl ?_
      refine sA_iconst (z := 0) dd_X5_measureAhead_19 ?_
      refine sA_aald (n := 4) dd_X5_measureAhead_20 (by decide) (by decide) (by decide) gs_s31 (by omega) (by decide) ?_
      show sA _ _ _ _ _ (.ref 35 :: _) _ _
      refine sA_aload_n dd_X5_measureAhead_21 rfl (.tail _ (.head _)) ?_
      refine sA_getr (ci := 5) (j := 4) (q := (RX5, TX5, 6)) dd_X5_measureAhead_22 rfl (by decide) fl_X5_24 (by decide) gs_s30 rfl ?_
      refine sA_callV (y2 := m_X4_copy) (n2 := 1) (d2 := 1) (a := 35) (ci := 4) (q := (RX4, TX4, 2)) (as := [.ref 33]) (rest := []) dd_X5_measureAhead_25 ok_X4_copy ml_X5_36 rfl rfl (Nat.lt_of_succ_lt gs_row_35.1) gs_row_35.2.1 rfl rfl (Nat.le_of_ble_eq_true rfl) (by decide) (c_X4_copy_vf hI1 gs_row_35 gs_row_33) (fun r5 F6 A7 h8 => ?_)
      obtain ⟨e10, I11, f12, x9⟩ := h8
      subst e10
      have v13 : F6 5 0 = F1 5 0 := f12.1 5 0 (by first | exact id | omega | (dsimp only; omega) | (dsimp only) | fail)
      have f14 := gs_fr_tr hf1 f12 (fun b j h => by first | exact False.elim h | omega | (dsimp only at h ⊢; omega) | fail) (fun b h => by first | exact False.elim h | omega | (dsimp only at h ⊢; omega) | fail)
      have u15 : A7 32 = A1 32 := (f12.2 32 (by first | exact id | omega | (dsimp only; omega) | (dsimp only) | fail)).trans u2
      have y16 : F1 33 1 ≤ (400 : Int) → (F6 35 1 = F1 33 1 ∧ A7 36 = gs_cc (A1 34) (A1 36) 0 0 (F1 33 1).toNat) := x9
      clear x9
      show sA _ _ _ 28 _ [] _ _
      refine sA_aload_n dd_X5_measureAhead_28 rfl (.tail _ (.head _)) ?_
      refine sA_getr (ci := 5) (j := 3) (q := (RX5, TX5, 6)) dd_X5_measureAhead_29 rfl (by decide) fl_X5_17 (by decide) gs_s30 rfl ?_
      refine sA_iload_n dd_X5_measureAhead_32 rfl (.head _) ?_
      refine sA_aload_n dd_X5_measureAhead_33 rfl (.tail _ (.head _)) ?_
      refine sA_getr (ci := 5) (j := 0) (q := (RX5, TX5, 6)) dd_X5_measureAhead_34 rfl (by decide) fl_X5_28 (by decide) gs_s30 rfl ?_
      refine sA_iload_n dd_X5_measureAhead_37 rfl (.head _) ?_
      refine sA_iconst (z := 1) dd_X5_measureAhead_38 ?_
      refine sA_ixor dd_X5_measureAhead_39 ?_
      have b17 := gs_t_rng (Int32.ofInt u ^^^ Int32.ofInt 1)
      generalize hw18 : gs_t (Int32.ofInt u ^^^ Int32.ofInt 1) = w18 at b17 ⊢
      refine sA_aload_n dd_X5_measureAhead_40 rfl (.tail _ (.head _)) ?_
      refine sA_getr (ci := 5) (j := 2) (q := (RX5, TX5, 6)) dd_X5_measureAhead_41 rfl (by decide) fl_X5_11 (by decide) gs_s30 rfl ?_
      refine sA_iconst (z := 0) dd_X5_measureAhead_44 ?_
      refine sA_aald (n := 4) dd_X5_measureAhead_45 (by decide) (by decide) (by decide) gs_s31 (by omega) (by decide) ?_
      show sA _ _ _ _ _ (.ref 35 :: _) _ _
      have h33 : F1 33 1 = F 33 1 := hf1.1 33 1 (by dsimp only; omega)
      have h34 : A1 34 = A 34 := hf1.2 34 (by dsimp only; omega)
      have hbr33 := gs_row_sz gs_row_33 hI1
      obtain ⟨c1, c2⟩ := y16 (by omega)
      have hstk : gs_stk (A7 36) (F6 35 1).toNat = (gs_stk (A 34) (F 33 1).toNat) := by
        rw [c1, c2, h33, h34]
        refine gs_stk_cg _ (fun i hi => ?_)
        unfold gs_cc
        rw [if_pos (by omega)]
        congr 1
        omega
      have hV1 : sp_val g (gs_stk (A7 36) (F6 35 1).toNat) := by rw [hstk]; exact hV
      have hW1 : gs_W (A7 6) g := by rw [f14.2 6 (by dsimp only; omega)]; exact hW
      have hL : (400 : Nat) = 400 := rfl
      have hfl : w18 = sp_fl u := by rw [← cy_flip (u := u) (by omega)]; exact hw18.symm
      have hfo := sp_fl_ok (g := g) (u := u) (by omega)
      refine sA_callV (y2 := m_X7_doTwist) (n2 := 2) (d2 := 2) (a := 5) (ci := 7) (q := (RX7, TX7, 5)) (as := [gs_iv w18, .ref 35]) (rest := [gs_iv u, .ref 32]) dd_X5_measureAhead_46 ok_X7_doTwist ml_X5_69 rfl rfl (by decide) gs_s5 rfl rfl (Nat.le_of_ble_eq_true rfl) (by decide) (c_X7_doTwist_vf I11 (by omega) gs_row_35 hg (by omega) hW1 hV1 hL (by omega)) (fun r20 F21 A22 h23 => ?_)
      obtain ⟨z26, e25, I27, f28, x24⟩ := h23
      subst e25
      have v29 : F21 5 0 = F6 5 0 := f28.1 5 0 (by first | exact id | omega | (dsimp only; omega) | (dsimp only) | fail)
      have f30 := gs_fr_tr f14 f28 (fun b j h => by first | exact False.elim h | omega | (dsimp only at h ⊢; omega) | fail) (fun b h => by first | exact False.elim h | omega | (dsimp only at h ⊢; omega) | fail)
      have u31 : A22 32 = A1 32 := (f28.2 32 (by first | exact id | omega | (dsimp only; omega) | (dsimp only) | fail)).trans u15
      have y32 : (z26 = 1 ∧ (sp_tw (sp_w g w18) (gs_stk (A7 36) (F6 35 1).toNat)).length ≤ 400 ∧ gs_stk (A22 36) (F21 35 1).toNat = sp_tw (sp_w g w18) (gs_stk (A7 36) (F6 35 1).toNat)) ∨ (z26 = 0 ∧ 400 < (sp_tw (sp_w g w18) (gs_stk (A7 36) (F6 35 1).toNat)).length) := x24
      clear x24
      show sA _ _ _ 49 _ [gs_iv z26, gs_iv u, .ref 32] _ _
      have y46 := y32
      rw [hstk, hfl] at y46
      refine sA_if_eq (tgt := 64) dd_X5_measureAhead_49 (by decide) (by omega) (fun q33 => ?_) (fun q33 => ?_)
      · skip
        refine sA_iconst (z := (-1)) dd_X5_measureAhead_64 ?_
        refine sA_iast (n := 16) dd_X5_measureAhead_65 (by decide) gs_s32 (by omega) (by decide) ?_
        have I35 : gs_I F21 (gs_up A22 32 u.toNat (-1)) := gs_I_ast I27 (show (-2147483648 : Int) ≤ -1 ∧ -1 ≤ 2147483647 by omega)
        have f36 := gs_fr_ast f30 (a := 32) (z := -1) (i := u.toNat) (by first | omega | (dsimp only; omega) | (dsimp only) | fail)
        have u37 : (gs_up A22 32 u.toNat (-1)) 32 = gs_u (A1 32) u.toNat (-1) := (gs_up_u A22 32 u.toNat (-1)).trans (congrArg (fun f => gs_u f u.toNat (-1)) u31)
        generalize gs_up A22 32 u.toNat (-1) = A34 at I35 f36 u37 ⊢
        refine sA_iinc (lv' := [(1, gs_iv (u + 1)), (0, .ref 30)]) dd_X5_measureAhead_66 (.head _) (by decide) rfl ?_
        refine sA_goto (tgt := 2) dd_X5_measureAhead_69 (by decide) ?_
        have b38 : (1 : Int) ≤ F21 5 0 ∧ F21 5 0 ≤ 8 := I35.1 5 0
        refine sA_sub (lv2 := [(1, gs_iv (u + 1)), (0, .ref 30)]) (List.forall_mem_cons.mpr ⟨(.head _), (List.forall_mem_cons.mpr ⟨(.tail _ (.head _)), (fun _ h => absurd h List.not_mem_nil)⟩)⟩) ?_
        exact ih (u + 1) F21 A34 I35 f36 (by omega) (fun v h1 h2 => by rw [u37]; by_cases h : v = u <;> first | (rw [h, gs_u_self]; exact .inl rfl) | (rw [gs_u_ne _ _ (by omega)]; exact i1 v h1 (by omega)) | fail) (by omega) (by omega)
      · skip
        refine sA_aload_n dd_X5_measureAhead_52 rfl (.tail _ (.head _)) ?_
        refine sA_getr (ci := 5) (j := 2) (q := (RX5, TX5, 6)) dd_X5_measureAhead_53 rfl (by decide) fl_X5_11 (by decide) gs_s30 rfl ?_
        refine sA_iconst (z := 0) dd_X5_measureAhead_56 ?_
        refine sA_aald (n := 4) dd_X5_measureAhead_57 (by decide) (by decide) (by decide) gs_s31 (by omega) (by decide) ?_
        show sA _ _ _ _ _ (.ref 35 :: _) _ _
        have hst46 : sp_tw (sp_w g (sp_fl u)) (gs_stk (A 34) (F 33 1).toNat) = gs_stk (A22 36) (F21 35 1).toNat := by
          rcases y46 with y | y
          · exact y.2.2.symm
          · exfalso
            omega
        refine sA_callV (y2 := m_X4_closedSize) (n2 := 0) (d2 := 2) (a := 35) (ci := 4) (q := (RX4, TX4, 2)) (as := []) (rest := [gs_iv u, .ref 32]) dd_X5_measureAhead_58 ok_X4_closedSize ml_X5_73 rfl rfl (Nat.lt_of_succ_lt gs_row_35.1) gs_row_35.2.1 rfl rfl (Nat.le_of_ble_eq_true rfl) (by decide) (c_X4_closedSize_vf I27 gs_row_35) (fun r40 F41 A42 h43 => ?_)
        obtain ⟨z46, e45, e47, e48, x44⟩ := h43
        subst e45 e47 e48
        have y49 : cy_rep (gs_stk (A22 36) (F21 35 1).toNat) z46 ∧ 0 ≤ z46 ∧ z46 ≤ 400 := x44
        clear x44
        show sA _ _ _ 61 _ [gs_iv z46, gs_iv u, .ref 32] _ _
        refine sA_goto (tgt := 65) dd_X5_measureAhead_61 (by decide) ?_
        refine sA_iast (n := 16) dd_X5_measureAhead_65 (by decide) gs_s32 (by omega) (by decide) ?_
        have I51 : gs_I F21 (gs_up A22 32 u.toNat z46) := gs_I_ast I27 (show (-2147483648 : Int) ≤ z46 ∧ z46 ≤ 2147483647 by omega)
        have f52 := gs_fr_ast f30 (a := 32) (z := z46) (i := u.toNat) (by first | omega | (dsimp only; omega) | (dsimp only) | fail)
        have u53 : (gs_up A22 32 u.toNat z46) 32 = gs_u (A1 32) u.toNat z46 := (gs_up_u A22 32 u.toNat z46).trans (congrArg (fun f => gs_u f u.toNat z46) u31)
        generalize gs_up A22 32 u.toNat z46 = A50 at I51 f52 u53 ⊢
        refine sA_iinc (lv' := [(1, gs_iv (u + 1)), (0, .ref 30)]) dd_X5_measureAhead_66 (.head _) (by decide) rfl ?_
        refine sA_goto (tgt := 2) dd_X5_measureAhead_69 (by decide) ?_
        have b54 : (1 : Int) ≤ F21 5 0 ∧ F21 5 0 ≤ 8 := I51.1 5 0
        refine sA_sub (lv2 := [(1, gs_iv (u + 1)), (0, .ref 30)]) (List.forall_mem_cons.mpr ⟨(.head _), (List.forall_mem_cons.mpr ⟨(.tail _ (.head _)), (fun _ h => absurd h List.not_mem_nil)⟩)⟩) ?_
        exact ih (u + 1) F21 A50 I51 f52 (by omega) (fun v h1 h2 => by rw [u53]; by_cases h : v = u <;> first | (rw [h, gs_u_self]; right; rw [hst46]; exact y49.1) | (rw [gs_u_ne _ _ (by omega)]; exact i1 v h1 (by omega)) | fail) (by omega) (by omega)
theorem c_X5_measureAhead_vf {g : Int} {F A : gs_F} (hI : gs_I F A) (hg : 1 ≤ g ∧ g ≤ 3) (h5 : F 5 0 = 3 * g - 1) (hW : gs_W (A 6) g) (hV : sp_val g (gs_stk (A 34) (F 33 1).toNat)) : sC m_X5_measureAhead 3 [.ref 30] F A (fun rv F' A' => rv = none ∧ gs_I F' A' ∧ gs_fr (fun c j => c = 35 ∧ j = 1) (fun c => c = 36 ∨ c = 7 ∨ c = 32) F A F' A' ∧ (∀ u : Int, 0 ≤ u → u < 2 * F 5 0 → A' 32 u.toNat = -1 ∨ cy_rep (sp_tw (sp_w g (sp_fl u)) (gs_stk (A 34) (F 33 1).toNat)) (A' 32 u.toNat))) := by
  refine sC_of ok_X5_measureAhead.1 (Nat.le_of_ble_eq_true rfl) ?_
  show sA _ _ _ 0 [(0, .ref 30)] [] F A
  have hf : gs_fr (fun c j => c = 35 ∧ j = 1) (fun c => c = 36 ∨ c = 7 ∨ c = 32) F A F A := gs_fr_refl _ _ _ _
  have b55 : (1 : Int) ≤ F 5 0 ∧ F 5 0 ≤ 8 := hI.1 5 0
  have u56 : A 32 = A 32 := rfl
  have hgg : (1 : Int) ≤ g ∧ g ≤ 3 := hg
  refine sA_iconst (z := 0) dd_X5_measureAhead_0 ?_
  refine sA_istore_n (lv' := [(1, gs_iv 0), (0, .ref 30)]) dd_X5_measureAhead_1 rfl (by decide) rfl ?_
  refine sA_sub (lv2 := [(1, gs_iv 0), (0, .ref 30)]) (List.forall_mem_cons.mpr ⟨(.head _), (List.forall_mem_cons.mpr ⟨(.tail _ (.head _)), (fun _ h => absurd h List.not_mem_nil)⟩)⟩) ?_
  exact (k_X5_measureAhead_vf hI hg h5 hW hV (16 - 0 : Int).toNat.succ) 0 F A hI hf (by omega) (fun v h1 h2 => by exfalso; omega) (by omega) (by omega)
theorem c_X5_tryTwists_v3f {k r wt g : Int} {F A : gs_F} (hI : gs_I F A) (hk : 0 ≤ k ∧ k ≤ 3) (hkd : 3 < k) (hr0 : 0 ≤ r ∧ r < wt) (hwt : 1 ≤ wt ∧ wt ≤ 4096) (hg : 1 ≤ g ∧ g ≤ 3) (h5 : F 5 0 = 3 * g - 1) (hW : gs_W (A 6) g) (hV : sp_val g (gs_stk (A 42) (F 41 1).toNat)) (hrd : sp_red (gs_stk (A 42) (F 41 1).toNat)) (hah : ∀ u : Int, 0 ≤ u → u < 2 * F 5 0 → A 32 u.toNat = -1 ∨ cy_rep (sp_tw (sp_w g (sp_fl u)) (gs_stk (A 34) (F 33 1).toNat)) (A 32 u.toNat)) (h30 : F 30 5 = -1 ∨ 0 ≤ F 30 5) : sC m_X5_tryTwists 3 [.ref 30, gs_iv 3, gs_iv k, gs_iv r, gs_iv wt] F A (fun rv F' A' => rv = none ∧ gs_I F' A' ∧ gs_fr (fun c j => (c = 30 ∧ j = 5) ∨ (43 ≤ c ∧ c < 43 ∧ j = 1)) (fun c => c = 7 ∨ (43 ≤ c ∧ c < 43)) F A F' A' ∧ (tt_best (tt_S g (2 * (3 * g - 1)) (gs_stk (A 42) (F 41 1).toNat) (A 34) (F 33 1) (k - 3).toNat r wt (2 * (3 * g - 1))) (F 30 5) (F' 30 5))) := by
  refine sC_of ok_X5_tryTwists.1 (Nat.le_of_ble_eq_true rfl) ?_
  show sA _ _ _ 0 [(0, .ref 30), (1, gs_iv 3), (2, gs_iv k), (3, gs_iv r), (4, gs_iv wt)] [] F A
  have hf : gs_fr (fun c j => (c = 30 ∧ j = 5) ∨ (43 ≤ c ∧ c < 43 ∧ j = 1)) (fun c => c = 7 ∨ (43 ≤ c ∧ c < 43)) F A F A := gs_fr_refl _ _ _ _
  refine sA_iload_n dd_X5_tryTwists_0 rfl (.tail _ (.head _)) ?_
  refine sA_if_lt (tgt := 18) dd_X5_tryTwists_1 (by decide) (by omega) (fun q1 => absurd q1 (by omega)) (fun q1 => ?_)
  refine sA_iload_n dd_X5_tryTwists_4 rfl (.tail _ (.head _)) ?_
  refine sA_iload_n dd_X5_tryTwists_5 rfl (.tail _ (.tail _ (.head _))) ?_
  refine sA_icmp_ge (tgt := 18) dd_X5_tryTwists_6 (by decide) (by omega) (by omega) (fun q2 => ?_) (fun q2 => absurd q2 (by omega))
  refine sA_vret dd_X5_tryTwists_18 rfl ?_
  refine ⟨rfl, hI, hf, ?_⟩
  exfalso
  omega
theorem k_X5_tryTwists_v2f {k r wt g : Int} {F A : gs_F} (hI : gs_I F A) (hk : 0 ≤ k ∧ k ≤ 3) (hkd : 2 < k) (hr0 : 0 ≤ r ∧ r < wt) (hwt : 1 ≤ wt ∧ wt ≤ 256) (hg : 1 ≤ g ∧ g ≤ 3) (h5 : F 5 0 = 3 * g - 1) (hW : gs_W (A 6) g) (hV : sp_val g (gs_stk (A 40) (F 39 1).toNat)) (hrd : sp_red (gs_stk (A 40) (F 39 1).toNat)) (hah : ∀ u : Int, 0 ≤ u → u < 2 * F 5 0 → A 32 u.toNat = -1 ∨ cy_rep (sp_tw (sp_w g (sp_fl u)) (gs_stk (A 34) (F 33 1).toNat)) (A 32 u.toNat)) (h30 : F 30 5 = -1 ∨ 0 ≤ F 30 5) : ∀ nN : Nat, (∀ (lt : Int) (sz : Int) (u : Int)  (F1 A1 : gs_F), gs_I F1 A1 → gs_fr (fun c j => (c = 30 ∧ j = 5) ∨ (41 ≤ c ∧ c < 43 ∧ j = 1)) (fun c => c = 7 ∨ (41 ≤ c ∧ c < 43)) F A F1 A1 → 0 ≤ u ∧ u ≤ 16 → -2147483648 ≤ sz ∧ sz ≤ 2147483647 → lt = 0 ∨ lt = 1 → 2 < k → (lt = 1 ∧ k = 3) ∨ (lt = 0 ∧ 3 < k) → cy_rep (gs_stk (A 40) (F 39 1).toNat) sz → tt_best (tt_S g (2 * (3 * g - 1)) (gs_stk (A 40) (F 39 1).toNat) (A 34) (F 33 1) (k - 2).toNat r wt u) (F 30 5) (F1 30 5) → F1 5 0 = F 5 0 ∧ u ≤ 2 * F 5 0 → -1 ≤ F1 30 5 ∧ 0 ≤ sz ∧ sz ≤ 400 → 16 - u < (nN : Int) → sA m_X5_tryTwists 4 (fun rv F' A' => rv = none ∧ gs_I F' A' ∧ gs_fr (fun c j => (c = 30 ∧ j = 5) ∨ (41 ≤ c ∧ c < 43 ∧ j = 1)) (fun c => c = 7 ∨ (41 ≤ c ∧ c < 43)) F A F' A' ∧ (tt_best (tt_S g (2 * (3 * g - 1)) (gs_stk (A 40) (F 39 1).toNat) (A 34) (F 33 1) (k - 2).toNat r wt (2 * (3 * g - 1))) (F 30 5) (F' 30 5))) 47 [(7, gs_iv u), (6, gs_iv sz), (5, gs_iv lt), (0, .ref 30), (1, gs_iv 2), (2, gs_iv k), (3, gs_iv r), (4, gs_iv wt)] [] F1 A1) := by
  intro nN
  induction nN with
  | zero =>
    exact fun a0 a1 a2 a3 a4 a5 a6 i0 i1 i2 i3 i4 i5 i6 i7 i8 hm => by exfalso; omega
  | succ nN ih =>
    intro lt sz u F1 A1 hI1 hf1 i0 i1 i2 i3 i4 i5 i6 i7 i8 hm
    have b1 : (1 : Int) ≤ F1 5 0 ∧ F1 5 0 ≤ 8 := hI1.1 5 0
    have b2 : (-2147483648 : Int) ≤ F1 30 5 ∧ F1 30 5 ≤ 2147483647 := hI1.1 30 5
    refine sA_iload dd_X5_tryTwists_47 (.head _) ?_
    refine sA_iconst (z := 2) dd_X5_tryTwists_49 ?_
    refine sA_aload_n dd_X5_tryTwists_50 rfl (.tail _ (.tail _ (.tail _ (.head _)))) ?_
    refine sA_getr (ci := 5) (j := 0) (q := (RX5, TX5, 6)) dd_X5_tryTwists_51 rfl (by decide) fl_X5_28 (by decide) gs_s30 rfl ?_
    refine sA_geti (ci := 7) (j := 0) (q := (RX7, TX7, 5)) dd_X5_tryTwists_54 rfl (by decide) fl_X5_64 (by decide) gs_s5 rfl ?_
    refine sA_imul dd_X5_tryTwists_57 ?_
    refine sA_icmp_ge (tgt := 216) dd_X5_tryTwists_58 (by decide) (by omega) (by omega) (fun q3 => ?_) (fun q3 => ?_)
    · skip
      refine sA_vret dd_X5_tryTwists_216 rfl ?_
      refine ⟨rfl, hI1, hf1, ?_⟩
      exact tt_all (by omega) i6
    · skip
      have hmb := gs_mul_bd (x := u) (y := wt) (m := 16) (k := 256) (by omega) (by omega) (by omega)
      have hnn := Int.mul_nonneg (show 0 ≤ u by omega) (show 0 ≤ wt by omega)
      have e32 : A1 32 = A 32 := hf1.2 32 (by dsimp only; omega)
      refine sA_iload_n dd_X5_tryTwists_61 rfl (.tail _ (.tail _ (.tail _ (.tail _ (.tail _ (.tail _ (.head _))))))) ?_
      refine sA_iload dd_X5_tryTwists_62 (.head _) ?_
      refine sA_iload dd_X5_tryTwists_64 (.tail _ (.tail _ (.tail _ (.tail _ (.tail _ (.tail _ (.tail _ (.head _)))))))) ?_
      refine sA_imul dd_X5_tryTwists_66 ?_
      refine sA_iadd dd_X5_tryTwists_67 ?_
      refine sA_istore (lv' := [(8, gs_iv (r + (u * wt))), (7, gs_iv u), (6, gs_iv sz), (5, gs_iv lt), (0, .ref 30), (1, gs_iv 2), (2, gs_iv k), (3, gs_iv r), (4, gs_iv wt)]) dd_X5_tryTwists_68 (by decide) rfl ?_
      refine sA_iload dd_X5_tryTwists_70 (.tail _ (.tail _ (.tail _ (.head _)))) ?_
      refine sA_if_eq (tgt := 93) dd_X5_tryTwists_72 (by decide) (by omega) (fun q4 => ?_) (fun q4 => ?_)
      · skip
        refine sA_iload dd_X5_tryTwists_93 (.tail _ (.tail _ (.tail _ (.head _)))) ?_
        refine sA_if_eq (tgt := 124) dd_X5_tryTwists_95 (by decide) (by omega) (fun q5 => ?_) (fun q5 => absurd q5 (by omega))
        refine sA_aload_n dd_X5_tryTwists_124 rfl (.tail _ (.tail _ (.tail _ (.tail _ (.head _))))) ?_
        refine sA_getr (ci := 5) (j := 2) (q := (RX5, TX5, 6)) dd_X5_tryTwists_125 rfl (by decide) fl_X5_11 (by decide) gs_s30 rfl ?_
        refine sA_iload_n dd_X5_tryTwists_128 rfl (.tail _ (.tail _ (.tail _ (.tail _ (.tail _ (.head _)))))) ?_
        refine sA_iconst (z := 1) dd_X5_tryTwists_129 ?_
        refine sA_iadd dd_X5_tryTwists_130 ?_
        show sA _ _ _ _ _ (gs_iv 3 :: _) _ _
        refine sA_aald (n := 4) dd_X5_tryTwists_131 (by decide) (by decide) (by decide) gs_s31 (by omega) (by decide) ?_
        show sA _ _ _ _ _ (.ref 41 :: _) _ _
        refine sA_astore (lv' := [(9, .ref 41), (8, gs_iv (r + (u * wt))), (7, gs_iv u), (6, gs_iv sz), (5, gs_iv lt), (0, .ref 30), (1, gs_iv 2), (2, gs_iv k), (3, gs_iv r), (4, gs_iv wt)]) dd_X5_tryTwists_132 (by decide) rfl ?_
        refine sA_aload dd_X5_tryTwists_134 (.head _) ?_
        refine sA_aload_n dd_X5_tryTwists_136 rfl (.tail _ (.tail _ (.tail _ (.tail _ (.tail _ (.head _)))))) ?_
        refine sA_getr (ci := 5) (j := 2) (q := (RX5, TX5, 6)) dd_X5_tryTwists_137 rfl (by decide) fl_X5_11 (by decide) gs_s30 rfl ?_
        refine sA_iload_n dd_X5_tryTwists_140 rfl (.tail _ (.tail _ (.tail _ (.tail _ (.tail _ (.tail _ (.head _))))))) ?_
        refine sA_aald (n := 4) dd_X5_tryTwists_141 (by decide) (by decide) (by decide) gs_s31 (by omega) (by decide) ?_
        show sA _ _ _ _ _ (.ref 39 :: _) _ _
        refine sA_callV (y2 := m_X4_copy) (n2 := 1) (d2 := 1) (a := 41) (ci := 4) (q := (RX4, TX4, 2)) (as := [.ref 39]) (rest := []) dd_X5_tryTwists_142 ok_X4_copy ml_X5_36 rfl rfl (Nat.lt_of_succ_lt gs_row_41.1) gs_row_41.2.1 rfl rfl (Nat.le_of_ble_eq_true rfl) (by decide) (c_X4_copy_vf hI1 gs_row_41 gs_row_39) (fun r8 F9 A10 h11 => ?_)
        obtain ⟨e13, I14, f15, x12⟩ := h11
        subst e13
        have v16 : F9 5 0 = F1 5 0 := f15.1 5 0 (by first | exact id | omega | (dsimp only; omega) | (dsimp only) | fail)
        have v17 : F9 30 5 = F1 30 5 := f15.1 30 5 (by first | exact id | omega | (dsimp only; omega) | (dsimp only) | fail)
        have f18 := gs_fr_tr hf1 f15 (fun b j h => by first | exact False.elim h | omega | (dsimp only at h ⊢; omega) | fail) (fun b h => by first | exact False.elim h | omega | (dsimp only at h ⊢; omega) | fail)
        have y19 : F1 39 1 ≤ (400 : Int) → (F9 41 1 = F1 39 1 ∧ A10 42 = gs_cc (A1 40) (A1 42) 0 0 (F1 39 1).toNat) := x12
        clear x12
        show sA _ _ _ 145 _ [] _ _
        refine sA_aload_n dd_X5_tryTwists_145 rfl (.tail _ (.tail _ (.tail _ (.tail _ (.tail _ (.head _)))))) ?_
        refine sA_getr (ci := 5) (j := 0) (q := (RX5, TX5, 6)) dd_X5_tryTwists_146 rfl (by decide) fl_X5_28 (by decide) gs_s30 rfl ?_
        refine sA_iload dd_X5_tryTwists_149 (.tail _ (.tail _ (.head _))) ?_
        refine sA_aload dd_X5_tryTwists_151 (.head _) ?_
        have er1 : A1 40 = A 40 := hf1.2 40 (by dsimp only; omega)
        have er2 : F1 39 1 = F 39 1 := hf1.1 39 1 (by dsimp only; omega)
        have hbr := gs_row_sz gs_row_39 hI1
        obtain ⟨c1, c2⟩ := y19 (by omega)
        have hstk : (gs_stk (A10 42) (F9 41 1).toNat) = (gs_stk (A 40) (F 39 1).toNat) := by
          rw [c1, c2, er1, er2]
          refine gs_stk_cg _ (fun i hi => ?_)
          unfold gs_cc
          rw [if_pos (by omega)]
          congr 1
          omega
        have hV1 : sp_val g (gs_stk (A10 42) (F9 41 1).toNat) := by rw [hstk]; exact hV
        have hW1 : gs_W (A10 6) g := by rw [f18.2 6 (by dsimp only; omega)]; exact hW
        have hL : (400 : Nat) = 400 := rfl
        refine sA_callV (y2 := m_X7_doTwist) (n2 := 2) (d2 := 2) (a := 5) (ci := 7) (q := (RX7, TX7, 5)) (as := [gs_iv u, .ref 41]) (rest := []) dd_X5_tryTwists_153 ok_X7_doTwist ml_X5_69 rfl rfl (by decide) gs_s5 rfl rfl (Nat.le_of_ble_eq_true rfl) (by decide) (c_X7_doTwist_vf I14 (by omega) gs_row_41 hg (by omega) hW1 hV1 hL (by omega)) (fun r20 F21 A22 h23 => ?_)
        obtain ⟨z26, e25, I27, f28, x24⟩ := h23
        subst e25
        have v29 : F21 5 0 = F9 5 0 := f28.1 5 0 (by first | exact id | omega | (dsimp only; omega) | (dsimp only) | fail)
        have v30 : F21 30 5 = F9 30 5 := f28.1 30 5 (by first | exact id | omega | (dsimp only; omega) | (dsimp only) | fail)
        have f31 := gs_fr_tr f18 f28 (fun b j h => by first | exact False.elim h | omega | (dsimp only at h ⊢; omega) | fail) (fun b h => by first | exact False.elim h | omega | (dsimp only at h ⊢; omega) | fail)
        have y32 : (z26 = 1 ∧ (sp_tw (sp_w g u) (gs_stk (A10 42) (F9 41 1).toNat)).length ≤ 400 ∧ gs_stk (A22 42) (F21 41 1).toNat = sp_tw (sp_w g u) (gs_stk (A10 42) (F9 41 1).toNat)) ∨ (z26 = 0 ∧ 400 < (sp_tw (sp_w g u) (gs_stk (A10 42) (F9 41 1).toNat)).length) := x24
        clear x24
        show sA _ _ _ 156 _ [gs_iv z26] _ _
        have y153 := y32
        rw [hstk] at y153
        refine sA_if_ne (tgt := 162) dd_X5_tryTwists_156 (by decide) (by omega) (fun q33 => ?_) (fun q33 => ?_)
        · skip
          have hys : ¬ 400 < (sp_tw (sp_w g u) (gs_stk (A 40) (F 39 1).toNat)).length ∧ (gs_stk (A22 42) (F21 41 1).toNat) = sp_tw (sp_w g u) (gs_stk (A 40) (F 39 1).toNat) := by
            rcases y153 with y | y
            · exact ⟨by have y2 := y.2.1; omega, y.2.2⟩
            · exfalso
              omega
          have hnl := hys.1
          have hrw := hys.2
          have g33 : F21 33 1 = F 33 1 := f31.1 33 1 (by dsimp only; omega)
          have g34 : A22 34 = A 34 := f31.2 34 (by dsimp only; omega)
          refine sA_iload dd_X5_tryTwists_162 (.tail _ (.tail _ (.tail _ (.tail _ (.head _))))) ?_
          refine sA_if_ne (tgt := 192) dd_X5_tryTwists_164 (by decide) (by omega) (fun q34 => absurd q34 (by omega)) (fun q34 => ?_)
          refine sA_aload_n dd_X5_tryTwists_167 rfl (.tail _ (.tail _ (.tail _ (.tail _ (.tail _ (.head _)))))) ?_
          refine sA_iload_n dd_X5_tryTwists_168 rfl (.tail _ (.tail _ (.tail _ (.tail _ (.tail _ (.tail _ (.head _))))))) ?_
          refine sA_iconst (z := 1) dd_X5_tryTwists_169 ?_
          refine sA_iadd dd_X5_tryTwists_170 ?_
          show sA _ _ _ _ _ (gs_iv 3 :: _) _ _
          refine sA_iload_n dd_X5_tryTwists_171 rfl (.tail _ (.tail _ (.tail _ (.tail _ (.tail _ (.tail _ (.tail _ (.head _)))))))) ?_
          refine sA_iload dd_X5_tryTwists_172 (.tail _ (.head _)) ?_
          refine sA_iload dd_X5_tryTwists_174 (.tail _ (.tail _ (.tail _ (.tail _ (.tail _ (.tail _ (.tail _ (.tail _ (.tail _ (.head _)))))))))) ?_
          refine sA_iconst (z := 2) dd_X5_tryTwists_176 ?_
          refine sA_imul dd_X5_tryTwists_177 ?_
          refine sA_aload_n dd_X5_tryTwists_178 rfl (.tail _ (.tail _ (.tail _ (.tail _ (.tail _ (.head _)))))) ?_
          refine sA_getr (ci := 5) (j := 0) (q := (RX5, TX5, 6)) dd_X5_tryTwists_179 rfl (by decide) fl_X5_28 (by decide) gs_s30 rfl ?_
          refine sA_geti (ci := 7) (j := 0) (q := (RX7, TX7, 5)) dd_X5_tryTwists_182 rfl (by decide) fl_X5_64 (by decide) gs_s5 rfl ?_
          have b35 : (1 : Int) ≤ F21 5 0 ∧ F21 5 0 ≤ 8 := I27.1 5 0
          refine sA_imul dd_X5_tryTwists_185 ?_
          have hW1 : gs_W (A22 6) g := by rw [f31.2 6 (by dsimp only; omega)]; exact hW
          have hV2 : sp_val g (gs_stk (A22 42) (F21 41 1).toNat) := by rw [hrw]; exact sp_tw_val hg (by omega) _ hV
          have hrd2 : sp_red (gs_stk (A22 42) (F21 41 1).toNat) := by rw [hrw]; exact sp_tw_red _ _
          have h50 : F21 5 0 = F 5 0 := f31.1 5 0 (by dsimp only; omega)
          have hah2 : ∀ u : Int, 0 ≤ u → u < 2 * F21 5 0 → A22 32 u.toNat = -1 ∨ cy_rep (sp_tw (sp_w g (sp_fl u)) (gs_stk (A22 34) (F21 33 1).toNat)) (A22 32 u.toNat) := by
            rw [f31.2 32 (by dsimp only; omega), g33, g34, h50]
            exact hah
          have hwB : wt * 2 * F21 5 0 = wt * (2 * (3 * g - 1)) := by rw [show F21 5 0 = 3 * g - 1 by omega, Int.mul_assoc]
          have hwb := gs_mul_bd (x := wt) (y := (2 * (3 * g - 1))) (m := 256) (k := 16) (by omega) (by omega) (by omega)
          have hwg := gs_mul_ge (x := wt) (y := (2 * (3 * g - 1))) (by omega) (by omega)
          have hlt := tt_lt (r := r) (wt := wt) (u := u) (B := (2 * (3 * g - 1))) (by omega) (by omega)
          refine sA_callV (y2 := m_X5_tryTwists) (n2 := 4) (d2 := 3) (a := 30) (ci := 5) (q := (RX5, TX5, 6)) (as := [gs_iv 3, gs_iv k, gs_iv (r + (u * wt)), gs_iv ((wt * 2) * (F21 5 0))]) (rest := []) dd_X5_tryTwists_186 ok_X5_tryTwists ml_X5_56 rfl rfl (by decide) gs_s30 rfl rfl (Nat.le_of_ble_eq_true rfl) (by decide) (c_X5_tryTwists_v3f I27 (by omega) (by omega) (by omega) (by omega) hg (by omega) hW1 hV2 hrd2 hah2 (by omega)) (fun r36 F37 A38 h39 => ?_)
          obtain ⟨e41, I42, f43, x40⟩ := h39
          subst e41
          have v44 : F37 5 0 = F21 5 0 := f43.1 5 0 (by first | exact id | omega | (dsimp only; omega) | (dsimp only) | fail)
          have f46 := gs_fr_tr f31 f43 (fun b j h => by first | exact False.elim h | omega | (dsimp only at h ⊢; omega) | fail) (fun b h => by first | exact False.elim h | omega | (dsimp only at h ⊢; omega) | fail)
          have y47 : tt_best (tt_S g (2 * (3 * g - 1)) (gs_stk (A22 42) (F21 41 1).toNat) (A22 34) (F21 33 1) (k - 3).toNat (r + (u * wt)) ((wt * 2) * (F21 5 0)) (2 * (3 * g - 1))) (F21 30 5) (F37 30 5) := x40
          clear x40
          show sA _ _ _ 189 _ [] _ _
          have hrec := y47
          rw [hwB, hrw, g33, g34, show F21 30 5 = F1 30 5 by omega] at hrec
          refine sA_goto (tgt := 210) dd_X5_tryTwists_189 (by decide) ?_
          refine sA_iinc (lv' := [(7, gs_iv (u + 1)), (9, .ref 41), (8, gs_iv (r + (u * wt))), (6, gs_iv sz), (5, gs_iv lt), (0, .ref 30), (1, gs_iv 2), (2, gs_iv k), (3, gs_iv r), (4, gs_iv wt)]) dd_X5_tryTwists_210 (.tail _ (.tail _ (.head _))) (by decide) rfl ?_
          refine sA_goto (tgt := 47) dd_X5_tryTwists_213 (by decide) ?_
          have b48 : (1 : Int) ≤ F37 5 0 ∧ F37 5 0 ≤ 8 := I42.1 5 0
          have b49 : (-2147483648 : Int) ≤ F37 30 5 ∧ F37 30 5 ≤ 2147483647 := I42.1 30 5
          refine sA_sub (lv2 := [(7, gs_iv (u + 1)), (6, gs_iv sz), (5, gs_iv lt), (0, .ref 30), (1, gs_iv 2), (2, gs_iv k), (3, gs_iv r), (4, gs_iv wt)]) (List.forall_mem_cons.mpr ⟨(.head _), (List.forall_mem_cons.mpr ⟨(.tail _ (.tail _ (.tail _ (.head _)))), (List.forall_mem_cons.mpr ⟨(.tail _ (.tail _ (.tail _ (.tail _ (.head _))))), (List.forall_mem_cons.mpr ⟨(.tail _ (.tail _ (.tail _ (.tail _ (.tail _ (.head _)))))), (List.forall_mem_cons.mpr ⟨(.tail _ (.tail _ (.tail _ (.tail _ (.tail _ (.tail _ (.head _))))))), (List.forall_mem_cons.mpr ⟨(.tail _ (.tail _ (.tail _ (.tail _ (.tail _ (.tail _ (.tail _ (.head _)))))))), (List.forall_mem_cons.mpr ⟨(.tail _ (.tail _ (.tail _ (.tail _ (.tail _ (.tail _ (.tail _ (.tail _ (.head _))))))))), (List.forall_mem_cons.mpr ⟨(.tail _ (.tail _ (.tail _ (.tail _ (.tail _ (.tail _ (.tail _ (.tail _ (.tail _ (.head _)))))))))), (fun _ h => absurd h List.not_mem_nil)⟩)⟩)⟩)⟩)⟩)⟩)⟩)⟩) ?_
          exact ih lt sz (u + 1) F37 A38 I42 f46 (by omega) (by omega) (by omega) (by omega) (by omega) i5 (by have j6 := i6; rw [show (k - 2).toNat = (k - 3).toNat + 1 by omega] at j6 ⊢; exact tt_rec (by omega) (by omega) hnl (by omega) j6 hrec) (by omega) ⟨tt_ge (by omega) (by omega) (by omega) hrec, by omega, by omega⟩ (by omega)
        · skip
          have hlg : 400 < (sp_tw (sp_w g u) (gs_stk (A 40) (F 39 1).toNat)).length := by
            rcases y153 with y | y
            · exfalso
              omega
            · exact y.2
          refine sA_goto (tgt := 210) dd_X5_tryTwists_159 (by decide) ?_
          refine sA_iinc (lv' := [(7, gs_iv (u + 1)), (9, .ref 41), (8, gs_iv (r + (u * wt))), (6, gs_iv sz), (5, gs_iv lt), (0, .ref 30), (1, gs_iv 2), (2, gs_iv k), (3, gs_iv r), (4, gs_iv wt)]) dd_X5_tryTwists_210 (.tail _ (.tail _ (.head _))) (by decide) rfl ?_
          refine sA_goto (tgt := 47) dd_X5_tryTwists_213 (by decide) ?_
          have b50 : (1 : Int) ≤ F21 5 0 ∧ F21 5 0 ≤ 8 := I27.1 5 0
          have b51 : (-2147483648 : Int) ≤ F21 30 5 ∧ F21 30 5 ≤ 2147483647 := I27.1 30 5
          refine sA_sub (lv2 := [(7, gs_iv (u + 1)), (6, gs_iv sz), (5, gs_iv lt), (0, .ref 30), (1, gs_iv 2), (2, gs_iv k), (3, gs_iv r), (4, gs_iv wt)]) (List.forall_mem_cons.mpr ⟨(.head _), (List.forall_mem_cons.mpr ⟨(.tail _ (.tail _ (.tail _ (.head _)))), (List.forall_mem_cons.mpr ⟨(.tail _ (.tail _ (.tail _ (.tail _ (.head _))))), (List.forall_mem_cons.mpr ⟨(.tail _ (.tail _ (.tail _ (.tail _ (.tail _ (.head _)))))), (List.forall_mem_cons.mpr ⟨(.tail _ (.tail _ (.tail _ (.tail _ (.tail _ (.tail _ (.head _))))))), (List.forall_mem_cons.mpr ⟨(.tail _ (.tail _ (.tail _ (.tail _ (.tail _ (.tail _ (.tail _ (.head _)))))))), (List.forall_mem_cons.mpr ⟨(.tail _ (.tail _ (.tail _ (.tail _ (.tail _ (.tail _ (.tail _ (.tail _ (.head _))))))))), (List.forall_mem_cons.mpr ⟨(.tail _ (.tail _ (.tail _ (.tail _ (.tail _ (.tail _ (.tail _ (.tail _ (.tail _ (.head _)))))))))), (fun _ h => absurd h List.not_mem_nil)⟩)⟩)⟩)⟩)⟩)⟩)⟩)⟩) ?_
          exact ih lt sz (u + 1) F21 A22 I27 f31 (by omega) (by omega) (by omega) (by omega) (by omega) i5 (by have j6 := i6; rw [show (k - 2).toNat = (k - 3).toNat + 1 by omega] at j6 ⊢; exact tt_cg rfl rfl (show F1 30 5 = F21 30 5 by omega) (tt_skip j6 (tt_large hlg))) (by omega) (by omega) (by omega)
      · skip
        refine sA_aload_n dd_X5_tryTwists_75 rfl (.tail _ (.tail _ (.tail _ (.tail _ (.head _))))) ?_
        refine sA_geti (ci := 5) (j := 5) (q := (RX5, TX5, 6)) dd_X5_tryTwists_76 rfl (by decide) fl_X5_53 (by decide) gs_s30 rfl ?_
        refine sA_iconst (z := (-1)) dd_X5_tryTwists_79 ?_
        refine sA_icmp_eq (tgt := 93) dd_X5_tryTwists_80 (by decide) (by omega) (by omega) (fun q52 => ?_) (fun q52 => ?_)
        · skip
          refine sA_iload dd_X5_tryTwists_93 (.tail _ (.tail _ (.tail _ (.head _)))) ?_
          refine sA_if_eq (tgt := 124) dd_X5_tryTwists_95 (by decide) (by omega) (fun q53 => absurd q53 (by omega)) (fun q53 => ?_)
          refine sA_aload_n dd_X5_tryTwists_98 rfl (.tail _ (.tail _ (.tail _ (.tail _ (.head _))))) ?_
          refine sA_getr (ci := 5) (j := 3) (q := (RX5, TX5, 6)) dd_X5_tryTwists_99 rfl (by decide) fl_X5_17 (by decide) gs_s30 rfl ?_
          refine sA_iload dd_X5_tryTwists_102 (.tail _ (.head _)) ?_
          refine sA_iald (n := 16) dd_X5_tryTwists_104 (by decide) gs_s32 (by omega) (by decide) ?_
          have b54 : (-2147483648 : Int) ≤ A1 32 u.toNat ∧ A1 32 u.toNat ≤ 2147483647 := hI1.2 32 u.toNat
          refine sA_iconst (z := (-1)) dd_X5_tryTwists_105 ?_
          refine sA_icmp_eq (tgt := 124) dd_X5_tryTwists_106 (by decide) (by omega) (by omega) (fun q55 => ?_) (fun q55 => ?_)
          · skip
            refine sA_aload_n dd_X5_tryTwists_124 rfl (.tail _ (.tail _ (.tail _ (.tail _ (.head _))))) ?_
            refine sA_getr (ci := 5) (j := 2) (q := (RX5, TX5, 6)) dd_X5_tryTwists_125 rfl (by decide) fl_X5_11 (by decide) gs_s30 rfl ?_
            refine sA_iload_n dd_X5_tryTwists_128 rfl (.tail _ (.tail _ (.tail _ (.tail _ (.tail _ (.head _)))))) ?_
            refine sA_iconst (z := 1) dd_X5_tryTwists_129 ?_
            refine sA_iadd dd_X5_tryTwists_130 ?_
            show sA _ _ _ _ _ (gs_iv 3 :: _) _ _
            refine sA_aald (n := 4) dd_X5_tryTwists_131 (by decide) (by decide) (by decide) gs_s31 (by omega) (by decide) ?_
            show sA _ _ _ _ _ (.ref 41 :: _) _ _
            refine sA_astore (lv' := [(9, .ref 41), (8, gs_iv (r + (u * wt))), (7, gs_iv u), (6, gs_iv sz), (5, gs_iv lt), (0, .ref 30), (1, gs_iv 2), (2, gs_iv k), (3, gs_iv r), (4, gs_iv wt)]) dd_X5_tryTwists_132 (by decide) rfl ?_
            refine sA_aload dd_X5_tryTwists_134 (.head _) ?_
            refine sA_aload_n dd_X5_tryTwists_136 rfl (.tail _ (.tail _ (.tail _ (.tail _ (.tail _ (.head _)))))) ?_
            refine sA_getr (ci := 5) (j := 2) (q := (RX5, TX5, 6)) dd_X5_tryTwists_137 rfl (by decide) fl_X5_11 (by decide) gs_s30 rfl ?_
            refine sA_iload_n dd_X5_tryTwists_140 rfl (.tail _ (.tail _ (.tail _ (.tail _ (.tail _ (.tail _ (.head _))))))) ?_
            refine sA_aald (n := 4) dd_X5_tryTwists_141 (by decide) (by decide) (by decide) gs_s31 (by omega) (by decide) ?_
            show sA _ _ _ _ _ (.ref 39 :: _) _ _
            refine sA_callV (y2 := m_X4_copy) (n2 := 1) (d2 := 1) (a := 41) (ci := 4) (q := (RX4, TX4, 2)) (as := [.ref 39]) (rest := []) dd_X5_tryTwists_142 ok_X4_copy ml_X5_36 rfl rfl (Nat.lt_of_succ_lt gs_row_41.1) gs_row_41.2.1 rfl rfl (Nat.le_of_ble_eq_true rfl) (by decide) (c_X4_copy_vf hI1 gs_row_41 gs_row_39) (fun r58 F59 A60 h61 => ?_)
            obtain ⟨e63, I64, f65, x62⟩ := h61
            subst e63
            have v66 : F59 5 0 = F1 5 0 := f65.1 5 0 (by first | exact id | omega | (dsimp only; omega) | (dsimp only) | fail)
            have v67 : F59 30 5 = F1 30 5 := f65.1 30 5 (by first | exact id | omega | (dsimp only; omega) | (dsimp only) | fail)
            have f68 := gs_fr_tr hf1 f65 (fun b j h => by first | exact False.elim h | omega | (dsimp only at h ⊢; omega) | fail) (fun b h => by first | exact False.elim h | omega | (dsimp only at h ⊢; omega) | fail)
            have y69 : F1 39 1 ≤ (400 : Int) → (F59 41 1 = F1 39 1 ∧ A60 42 = gs_cc (A1 40) (A1 42) 0 0 (F1 39 1).toNat) := x62
            clear x62
            show sA _ _ _ 145 _ [] _ _
            refine sA_aload_n dd_X5_tryTwists_145 rfl (.tail _ (.tail _ (.tail _ (.tail _ (.tail _ (.head _)))))) ?_
            refine sA_getr (ci := 5) (j := 0) (q := (RX5, TX5, 6)) dd_X5_tryTwists_146 rfl (by decide) fl_X5_28 (by decide) gs_s30 rfl ?_
            refine sA_iload dd_X5_tryTwists_149 (.tail _ (.tail _ (.head _))) ?_
            refine sA_aload dd_X5_tryTwists_151 (.head _) ?_
            have er1 : A1 40 = A 40 := hf1.2 40 (by dsimp only; omega)
            have er2 : F1 39 1 = F 39 1 := hf1.1 39 1 (by dsimp only; omega)
            have hbr := gs_row_sz gs_row_39 hI1
            obtain ⟨c1, c2⟩ := y69 (by omega)
            have hstk : (gs_stk (A60 42) (F59 41 1).toNat) = (gs_stk (A 40) (F 39 1).toNat) := by
              rw [c1, c2, er1, er2]
              refine gs_stk_cg _ (fun i hi => ?_)
              unfold gs_cc
              rw [if_pos (by omega)]
              congr 1
              omega
            have hV1 : sp_val g (gs_stk (A60 42) (F59 41 1).toNat) := by rw [hstk]; exact hV
            have hW1 : gs_W (A60 6) g := by rw [f68.2 6 (by dsimp only; omega)]; exact hW
            have hL : (400 : Nat) = 400 := rfl
            refine sA_callV (y2 := m_X7_doTwist) (n2 := 2) (d2 := 2) (a := 5) (ci := 7) (q := (RX7, TX7, 5)) (as := [gs_iv u, .ref 41]) (rest := []) dd_X5_tryTwists_153 ok_X7_doTwist ml_X5_69 rfl rfl (by decide) gs_s5 rfl rfl (Nat.le_of_ble_eq_true rfl) (by decide) (c_X7_doTwist_vf I64 (by omega) gs_row_41 hg (by omega) hW1 hV1 hL (by omega)) (fun r70 F71 A72 h73 => ?_)
            obtain ⟨z76, e75, I77, f78, x74⟩ := h73
            subst e75
            have v79 : F71 5 0 = F59 5 0 := f78.1 5 0 (by first | exact id | omega | (dsimp only; omega) | (dsimp only) | fail)
            have v80 : F71 30 5 = F59 30 5 := f78.1 30 5 (by first | exact id | omega | (dsimp only; omega) | (dsimp only) | fail)
            have f81 := gs_fr_tr f68 f78 (fun b j h => by first | exact False.elim h | omega | (dsimp only at h ⊢; omega) | fail) (fun b h => by first | exact False.elim h | omega | (dsimp only at h ⊢; omega) | fail)
            have y82 : (z76 = 1 ∧ (sp_tw (sp_w g u) (gs_stk (A60 42) (F59 41 1).toNat)).length ≤ 400 ∧ gs_stk (A72 42) (F71 41 1).toNat = sp_tw (sp_w g u) (gs_stk (A60 42) (F59 41 1).toNat)) ∨ (z76 = 0 ∧ 400 < (sp_tw (sp_w g u) (gs_stk (A60 42) (F59 41 1).toNat)).length) := x74
            clear x74
            show sA _ _ _ 156 _ [gs_iv z76] _ _
            have y153 := y82
            rw [hstk] at y153
            refine sA_if_ne (tgt := 162) dd_X5_tryTwists_156 (by decide) (by omega) (fun q83 => ?_) (fun q83 => ?_)
            · skip
              have hys : ¬ 400 < (sp_tw (sp_w g u) (gs_stk (A 40) (F 39 1).toNat)).length ∧ (gs_stk (A72 42) (F71 41 1).toNat) = sp_tw (sp_w g u) (gs_stk (A 40) (F 39 1).toNat) := by
                rcases y153 with y | y
                · exact ⟨by have y2 := y.2.1; omega, y.2.2⟩
                · exfalso
                  omega
              have hnl := hys.1
              have hrw := hys.2
              have g33 : F71 33 1 = F 33 1 := f81.1 33 1 (by dsimp only; omega)
              have g34 : A72 34 = A 34 := f81.2 34 (by dsimp only; omega)
              refine sA_iload dd_X5_tryTwists_162 (.tail _ (.tail _ (.tail _ (.tail _ (.head _))))) ?_
              refine sA_if_ne (tgt := 192) dd_X5_tryTwists_164 (by decide) (by omega) (fun q84 => ?_) (fun q84 => absurd q84 (by omega))
              refine sA_aload dd_X5_tryTwists_192 (.head _) ?_
              refine sA_aload_n dd_X5_tryTwists_194 rfl (.tail _ (.tail _ (.tail _ (.tail _ (.tail _ (.head _)))))) ?_
              refine sA_getr (ci := 5) (j := 4) (q := (RX5, TX5, 6)) dd_X5_tryTwists_195 rfl (by decide) fl_X5_24 (by decide) gs_s30 rfl ?_
              refine sA_callV (y2 := m_X4_isOneWith) (n2 := 1) (d2 := 2) (a := 41) (ci := 4) (q := (RX4, TX4, 2)) (as := [.ref 33]) (rest := []) dd_X5_tryTwists_198 ok_X4_isOneWith ml_X5_43 rfl rfl (Nat.lt_of_succ_lt gs_row_41.1) gs_row_41.2.1 rfl rfl (Nat.le_of_ble_eq_true rfl) (by decide) (c_X4_isOneWith_vf I77 gs_row_41 gs_row_33) (fun r85 F86 A87 h88 => ?_)
              obtain ⟨z91, e90, e92, e93, x89⟩ := h88
              subst e90 e92 e93
              have y94 : (z91 = 1 ∧ gs_on (A72 42) (F71 41 1) (A72 34) (F71 33 1)) ∨ (z91 = 0 ∧ ¬ gs_on (A72 42) (F71 41 1) (A72 34) (F71 33 1)) := x89
              clear x89
              show sA _ _ _ 201 _ [gs_iv z91] _ _
              have hz198 : z91 = 0 ∨ z91 = 1 := by omega
              have hon : st_on (sp_tw (sp_w g u) (gs_stk (A 40) (F 39 1).toNat)) (A 34) (F 33 1) ↔ gs_on (A72 42) (F71 41 1) (A72 34) (F71 33 1) := by
                rw [g33, g34, ← hrw]
                have hb := gs_row_sz gs_row_41 I77
                exact st_on_mk hb.1
              refine sA_if_eq (tgt := 210) dd_X5_tryTwists_201 (by decide) (by omega) (fun q95 => ?_) (fun q95 => ?_)
              · skip
                refine sA_iinc (lv' := [(7, gs_iv (u + 1)), (9, .ref 41), (8, gs_iv (r + (u * wt))), (6, gs_iv sz), (5, gs_iv lt), (0, .ref 30), (1, gs_iv 2), (2, gs_iv k), (3, gs_iv r), (4, gs_iv wt)]) dd_X5_tryTwists_210 (.tail _ (.tail _ (.head _))) (by decide) rfl ?_
                refine sA_goto (tgt := 47) dd_X5_tryTwists_213 (by decide) ?_
                have b96 : (1 : Int) ≤ F71 5 0 ∧ F71 5 0 ≤ 8 := I77.1 5 0
                have b97 : (-2147483648 : Int) ≤ F71 30 5 ∧ F71 30 5 ≤ 2147483647 := I77.1 30 5
                refine sA_sub (lv2 := [(7, gs_iv (u + 1)), (6, gs_iv sz), (5, gs_iv lt), (0, .ref 30), (1, gs_iv 2), (2, gs_iv k), (3, gs_iv r), (4, gs_iv wt)]) (List.forall_mem_cons.mpr ⟨(.head _), (List.forall_mem_cons.mpr ⟨(.tail _ (.tail _ (.tail _ (.head _)))), (List.forall_mem_cons.mpr ⟨(.tail _ (.tail _ (.tail _ (.tail _ (.head _))))), (List.forall_mem_cons.mpr ⟨(.tail _ (.tail _ (.tail _ (.tail _ (.tail _ (.head _)))))), (List.forall_mem_cons.mpr ⟨(.tail _ (.tail _ (.tail _ (.tail _ (.tail _ (.tail _ (.head _))))))), (List.forall_mem_cons.mpr ⟨(.tail _ (.tail _ (.tail _ (.tail _ (.tail _ (.tail _ (.tail _ (.head _)))))))), (List.forall_mem_cons.mpr ⟨(.tail _ (.tail _ (.tail _ (.tail _ (.tail _ (.tail _ (.tail _ (.tail _ (.head _))))))))), (List.forall_mem_cons.mpr ⟨(.tail _ (.tail _ (.tail _ (.tail _ (.tail _ (.tail _ (.tail _ (.tail _ (.tail _ (.head _)))))))))), (fun _ h => absurd h List.not_mem_nil)⟩)⟩)⟩)⟩)⟩)⟩)⟩)⟩) ?_
                exact ih lt sz (u + 1) F71 A72 I77 f81 (by omega) (by omega) (by omega) (by omega) (by omega) i5 (by have j6 := i6; rw [show (k - 2).toNat = 1 by omega] at j6 ⊢; rcases y94 with y | y <;> first | (exfalso; omega) | exact tt_cg rfl rfl (show r + u * wt = F71 30 5 by omega) (tt_one (by omega) (by omega) (by omega) j6 hnl (hon.mpr y.2) (by omega)) | exact tt_cg rfl rfl (show F1 30 5 = F71 30 5 by omega) (tt_skip j6 (tt_last (fun w => y.2 (hon.mp w)))) | fail) (by omega) (by omega) (by omega)
              · skip
                refine sA_aload_n dd_X5_tryTwists_204 rfl (.tail _ (.tail _ (.tail _ (.tail _ (.tail _ (.head _)))))) ?_
                refine sA_iload dd_X5_tryTwists_205 (.tail _ (.head _)) ?_
                refine sA_put (ci := 5) (j := 5) (q := (RX5, TX5, 6)) (ty := .int) dd_X5_tryTwists_207 rfl (by decide) fl_X5_53 rfl (tyX5_ok 5 (by decide)) rfl rfl (by decide) gs_s30 rfl ?_
                have I99 : gs_I (gs_up F71 30 5 (r + (u * wt))) A72 := gs_I_put I77 (show (-2147483648 : Int) ≤ r + (u * wt) ∧ r + (u * wt) ≤ 2147483647 by omega)
                have f100 := gs_fr_put f81 (a := 30) (z := r + (u * wt)) (j := 5) (by first | omega | (dsimp only; omega) | (dsimp only) | fail)
                have v101 : gs_up F71 30 5 (r + (u * wt)) 30 5 = r + (u * wt) := gs_up_self _ _ _ _
                have v102 : (gs_up F71 30 5 (r + (u * wt))) 5 0 = F71 5 0 := gs_up_ne _ _ (by omega)
                generalize gs_up F71 30 5 (r + (u * wt)) = F98 at I99 f100 v101 v102 ⊢
                refine sA_iinc (lv' := [(7, gs_iv (u + 1)), (9, .ref 41), (8, gs_iv (r + (u * wt))), (6, gs_iv sz), (5, gs_iv lt), (0, .ref 30), (1, gs_iv 2), (2, gs_iv k), (3, gs_iv r), (4, gs_iv wt)]) dd_X5_tryTwists_210 (.tail _ (.tail _ (.head _))) (by decide) rfl ?_
                refine sA_goto (tgt := 47) dd_X5_tryTwists_213 (by decide) ?_
                have b103 : (1 : Int) ≤ F98 5 0 ∧ F98 5 0 ≤ 8 := I99.1 5 0
                have b104 : (-2147483648 : Int) ≤ F98 30 5 ∧ F98 30 5 ≤ 2147483647 := I99.1 30 5
                refine sA_sub (lv2 := [(7, gs_iv (u + 1)), (6, gs_iv sz), (5, gs_iv lt), (0, .ref 30), (1, gs_iv 2), (2, gs_iv k), (3, gs_iv r), (4, gs_iv wt)]) (List.forall_mem_cons.mpr ⟨(.head _), (List.forall_mem_cons.mpr ⟨(.tail _ (.tail _ (.tail _ (.head _)))), (List.forall_mem_cons.mpr ⟨(.tail _ (.tail _ (.tail _ (.tail _ (.head _))))), (List.forall_mem_cons.mpr ⟨(.tail _ (.tail _ (.tail _ (.tail _ (.tail _ (.head _)))))), (List.forall_mem_cons.mpr ⟨(.tail _ (.tail _ (.tail _ (.tail _ (.tail _ (.tail _ (.head _))))))), (List.forall_mem_cons.mpr ⟨(.tail _ (.tail _ (.tail _ (.tail _ (.tail _ (.tail _ (.tail _ (.head _)))))))), (List.forall_mem_cons.mpr ⟨(.tail _ (.tail _ (.tail _ (.tail _ (.tail _ (.tail _ (.tail _ (.tail _ (.head _))))))))), (List.forall_mem_cons.mpr ⟨(.tail _ (.tail _ (.tail _ (.tail _ (.tail _ (.tail _ (.tail _ (.tail _ (.tail _ (.head _)))))))))), (fun _ h => absurd h List.not_mem_nil)⟩)⟩)⟩)⟩)⟩)⟩)⟩)⟩) ?_
                exact ih lt sz (u + 1) F98 A72 I99 f100 (by omega) (by omega) (by omega) (by omega) (by omega) i5 (by have j6 := i6; rw [show (k - 2).toNat = 1 by omega] at j6 ⊢; rcases y94 with y | y <;> first | (exfalso; omega) | exact tt_cg rfl rfl (show r + u * wt = F98 30 5 by omega) (tt_one (by omega) (by omega) (by omega) j6 hnl (hon.mpr y.2) (by omega)) | exact tt_cg rfl rfl (show F1 30 5 = F98 30 5 by omega) (tt_skip j6 (tt_last (fun w => y.2 (hon.mp w)))) | fail) (by omega) (by omega) (by omega)
            · skip
              have hlg : 400 < (sp_tw (sp_w g u) (gs_stk (A 40) (F 39 1).toNat)).length := by
                rcases y153 with y | y
                · exfalso
                  omega
                · exact y.2
              refine sA_goto (tgt := 210) dd_X5_tryTwists_159 (by decide) ?_
              refine sA_iinc (lv' := [(7, gs_iv (u + 1)), (9, .ref 41), (8, gs_iv (r + (u * wt))), (6, gs_iv sz), (5, gs_iv lt), (0, .ref 30), (1, gs_iv 2), (2, gs_iv k), (3, gs_iv r), (4, gs_iv wt)]) dd_X5_tryTwists_210 (.tail _ (.tail _ (.head _))) (by decide) rfl ?_
              refine sA_goto (tgt := 47) dd_X5_tryTwists_213 (by decide) ?_
              have b105 : (1 : Int) ≤ F71 5 0 ∧ F71 5 0 ≤ 8 := I77.1 5 0
              have b106 : (-2147483648 : Int) ≤ F71 30 5 ∧ F71 30 5 ≤ 2147483647 := I77.1 30 5
              refine sA_sub (lv2 := [(7, gs_iv (u + 1)), (6, gs_iv sz), (5, gs_iv lt), (0, .ref 30), (1, gs_iv 2), (2, gs_iv k), (3, gs_iv r), (4, gs_iv wt)]) (List.forall_mem_cons.mpr ⟨(.head _), (List.forall_mem_cons.mpr ⟨(.tail _ (.tail _ (.tail _ (.head _)))), (List.forall_mem_cons.mpr ⟨(.tail _ (.tail _ (.tail _ (.tail _ (.head _))))), (List.forall_mem_cons.mpr ⟨(.tail _ (.tail _ (.tail _ (.tail _ (.tail _ (.head _)))))), (List.forall_mem_cons.mpr ⟨(.tail _ (.tail _ (.tail _ (.tail _ (.tail _ (.tail _ (.head _))))))), (List.forall_mem_cons.mpr ⟨(.tail _ (.tail _ (.tail _ (.tail _ (.tail _ (.tail _ (.tail _ (.head _)))))))), (List.forall_mem_cons.mpr ⟨(.tail _ (.tail _ (.tail _ (.tail _ (.tail _ (.tail _ (.tail _ (.tail _ (.head _))))))))), (List.forall_mem_cons.mpr ⟨(.tail _ (.tail _ (.tail _ (.tail _ (.tail _ (.tail _ (.tail _ (.tail _ (.tail _ (.head _)))))))))), (fun _ h => absurd h List.not_mem_nil)⟩)⟩)⟩)⟩)⟩)⟩)⟩)⟩) ?_
              exact ih lt sz (u + 1) F71 A72 I77 f81 (by omega) (by omega) (by omega) (by omega) (by omega) i5 (by have j6 := i6; rw [show (k - 2).toNat = (k - 3).toNat + 1 by omega] at j6 ⊢; exact tt_cg rfl rfl (show F1 30 5 = F71 30 5 by omega) (tt_skip j6 (tt_large hlg))) (by omega) (by omega) (by omega)
          · skip
            have e32u : A1 32 u.toNat = A 32 u.toNat := by rw [e32]
            have hahu : cy_rep (sp_tw (sp_w g (sp_fl u)) (gs_stk (A 34) (F 33 1).toNat)) (A 32 u.toNat) := by
              rcases hah u (by omega) (by omega) with q | q
              · exfalso
                omega
              · exact q
            refine sA_aload_n dd_X5_tryTwists_109 rfl (.tail _ (.tail _ (.tail _ (.tail _ (.head _))))) ?_
            refine sA_getr (ci := 5) (j := 3) (q := (RX5, TX5, 6)) dd_X5_tryTwists_110 rfl (by decide) fl_X5_17 (by decide) gs_s30 rfl ?_
            refine sA_iload dd_X5_tryTwists_113 (.tail _ (.head _)) ?_
            refine sA_iald (n := 16) dd_X5_tryTwists_115 (by decide) gs_s32 (by omega) (by decide) ?_
            refine sA_iload dd_X5_tryTwists_116 (.tail _ (.tail _ (.head _))) ?_
            refine sA_icmp_eq (tgt := 124) dd_X5_tryTwists_118 (by decide) (by omega) (by omega) (fun q107 => ?_) (fun q107 => ?_)
            · skip
              refine sA_aload_n dd_X5_tryTwists_124 rfl (.tail _ (.tail _ (.tail _ (.tail _ (.head _))))) ?_
              refine sA_getr (ci := 5) (j := 2) (q := (RX5, TX5, 6)) dd_X5_tryTwists_125 rfl (by decide) fl_X5_11 (by decide) gs_s30 rfl ?_
              refine sA_iload_n dd_X5_tryTwists_128 rfl (.tail _ (.tail _ (.tail _ (.tail _ (.tail _ (.head _)))))) ?_
              refine sA_iconst (z := 1) dd_X5_tryTwists_129 ?_
              refine sA_iadd dd_X5_tryTwists_130 ?_
              show sA _ _ _ _ _ (gs_iv 3 :: _) _ _
              refine sA_aald (n := 4) dd_X5_tryTwists_131 (by decide) (by decide) (by decide) gs_s31 (by omega) (by decide) ?_
              show sA _ _ _ _ _ (.ref 41 :: _) _ _
              refine sA_astore (lv' := [(9, .ref 41), (8, gs_iv (r + (u * wt))), (7, gs_iv u), (6, gs_iv sz), (5, gs_iv lt), (0, .ref 30), (1, gs_iv 2), (2, gs_iv k), (3, gs_iv r), (4, gs_iv wt)]) dd_X5_tryTwists_132 (by decide) rfl ?_
              refine sA_aload dd_X5_tryTwists_134 (.head _) ?_
              refine sA_aload_n dd_X5_tryTwists_136 rfl (.tail _ (.tail _ (.tail _ (.tail _ (.tail _ (.head _)))))) ?_
              refine sA_getr (ci := 5) (j := 2) (q := (RX5, TX5, 6)) dd_X5_tryTwists_137 rfl (by decide) fl_X5_11 (by decide) gs_s30 rfl ?_
              refine sA_iload_n dd_X5_tryTwists_140 rfl (.tail _ (.tail _ (.tail _ (.tail _ (.tail _ (.tail _ (.head _))))))) ?_
              refine sA_aald (n := 4) dd_X5_tryTwists_141 (by decide) (by decide) (by decide) gs_s31 (by omega) (by decide) ?_
              show sA _ _ _ _ _ (.ref 39 :: _) _ _
              refine sA_callV (y2 := m_X4_copy) (n2 := 1) (d2 := 1) (a := 41) (ci := 4) (q := (RX4, TX4, 2)) (as := [.ref 39]) (rest := []) dd_X5_tryTwists_142 ok_X4_copy ml_X5_36 rfl rfl (Nat.lt_of_succ_lt gs_row_41.1) gs_row_41.2.1 rfl rfl (Nat.le_of_ble_eq_true rfl) (by decide) (c_X4_copy_vf hI1 gs_row_41 gs_row_39) (fun r110 F111 A112 h113 => ?_)
              obtain ⟨e115, I116, f117, x114⟩ := h113
              subst e115
              have v118 : F111 5 0 = F1 5 0 := f117.1 5 0 (by first | exact id | omega | (dsimp only; omega) | (dsimp only) | fail)
              have v119 : F111 30 5 = F1 30 5 := f117.1 30 5 (by first | exact id | omega | (dsimp only; omega) | (dsimp only) | fail)
              have f120 := gs_fr_tr hf1 f117 (fun b j h => by first | exact False.elim h | omega | (dsimp only at h ⊢; omega) | fail) (fun b h => by first | exact False.elim h | omega | (dsimp only at h ⊢; omega) | fail)
              have y121 : F1 39 1 ≤ (400 : Int) → (F111 41 1 = F1 39 1 ∧ A112 42 = gs_cc (A1 40) (A1 42) 0 0 (F1 39 1).toNat) := x114
              clear x114
              show sA _ _ _ 145 _ [] _ _
              refine sA_aload_n dd_X5_tryTwists_145 rfl (.tail _ (.tail _ (.tail _ (.tail _ (.tail _ (.head _)))))) ?_
              refine sA_getr (ci := 5) (j := 0) (q := (RX5, TX5, 6)) dd_X5_tryTwists_146 rfl (by decide) fl_X5_28 (by decide) gs_s30 rfl ?_
              refine sA_iload dd_X5_tryTwists_149 (.tail _ (.tail _ (.head _))) ?_
              refine sA_aload dd_X5_tryTwists_151 (.head _) ?_
              have er1 : A1 40 = A 40 := hf1.2 40 (by dsimp only; omega)
              have er2 : F1 39 1 = F 39 1 := hf1.1 39 1 (by dsimp only; omega)
              have hbr := gs_row_sz gs_row_39 hI1
              obtain ⟨c1, c2⟩ := y121 (by omega)
              have hstk : (gs_stk (A112 42) (F111 41 1).toNat) = (gs_stk (A 40) (F 39 1).toNat) := by
                rw [c1, c2, er1, er2]
                refine gs_stk_cg _ (fun i hi => ?_)
                unfold gs_cc
                rw [if_pos (by omega)]
                congr 1
                omega
              have hV1 : sp_val g (gs_stk (A112 42) (F111 41 1).toNat) := by rw [hstk]; exact hV
              have hW1 : gs_W (A112 6) g := by rw [f120.2 6 (by dsimp only; omega)]; exact hW
              have hL : (400 : Nat) = 400 := rfl
              refine sA_callV (y2 := m_X7_doTwist) (n2 := 2) (d2 := 2) (a := 5) (ci := 7) (q := (RX7, TX7, 5)) (as := [gs_iv u, .ref 41]) (rest := []) dd_X5_tryTwists_153 ok_X7_doTwist ml_X5_69 rfl rfl (by decide) gs_s5 rfl rfl (Nat.le_of_ble_eq_true rfl) (by decide) (c_X7_doTwist_vf I116 (by omega) gs_row_41 hg (by omega) hW1 hV1 hL (by omega)) (fun r122 F123 A124 h125 => ?_)
              obtain ⟨z128, e127, I129, f130, x126⟩ := h125
              subst e127
              have v131 : F123 5 0 = F111 5 0 := f130.1 5 0 (by first | exact id | omega | (dsimp only; omega) | (dsimp only) | fail)
              have v132 : F123 30 5 = F111 30 5 := f130.1 30 5 (by first | exact id | omega | (dsimp only; omega) | (dsimp only) | fail)
              have f133 := gs_fr_tr f120 f130 (fun b j h => by first | exact False.elim h | omega | (dsimp only at h ⊢; omega) | fail) (fun b h => by first | exact False.elim h | omega | (dsimp only at h ⊢; omega) | fail)
              have y134 : (z128 = 1 ∧ (sp_tw (sp_w g u) (gs_stk (A112 42) (F111 41 1).toNat)).length ≤ 400 ∧ gs_stk (A124 42) (F123 41 1).toNat = sp_tw (sp_w g u) (gs_stk (A112 42) (F111 41 1).toNat)) ∨ (z128 = 0 ∧ 400 < (sp_tw (sp_w g u) (gs_stk (A112 42) (F111 41 1).toNat)).length) := x126
              clear x126
              show sA _ _ _ 156 _ [gs_iv z128] _ _
              have y153 := y134
              rw [hstk] at y153
              refine sA_if_ne (tgt := 162) dd_X5_tryTwists_156 (by decide) (by omega) (fun q135 => ?_) (fun q135 => ?_)
              · skip
                have hys : ¬ 400 < (sp_tw (sp_w g u) (gs_stk (A 40) (F 39 1).toNat)).length ∧ (gs_stk (A124 42) (F123 41 1).toNat) = sp_tw (sp_w g u) (gs_stk (A 40) (F 39 1).toNat) := by
                  rcases y153 with y | y
                  · exact ⟨by have y2 := y.2.1; omega, y.2.2⟩
                  · exfalso
                    omega
                have hnl := hys.1
                have hrw := hys.2
                have g33 : F123 33 1 = F 33 1 := f133.1 33 1 (by dsimp only; omega)
                have g34 : A124 34 = A 34 := f133.2 34 (by dsimp only; omega)
                refine sA_iload dd_X5_tryTwists_162 (.tail _ (.tail _ (.tail _ (.tail _ (.head _))))) ?_
                refine sA_if_ne (tgt := 192) dd_X5_tryTwists_164 (by decide) (by omega) (fun q136 => ?_) (fun q136 => absurd q136 (by omega))
                refine sA_aload dd_X5_tryTwists_192 (.head _) ?_
                refine sA_aload_n dd_X5_tryTwists_194 rfl (.tail _ (.tail _ (.tail _ (.tail _ (.tail _ (.head _)))))) ?_
                refine sA_getr (ci := 5) (j := 4) (q := (RX5, TX5, 6)) dd_X5_tryTwists_195 rfl (by decide) fl_X5_24 (by decide) gs_s30 rfl ?_
                refine sA_callV (y2 := m_X4_isOneWith) (n2 := 1) (d2 := 2) (a := 41) (ci := 4) (q := (RX4, TX4, 2)) (as := [.ref 33]) (rest := []) dd_X5_tryTwists_198 ok_X4_isOneWith ml_X5_43 rfl rfl (Nat.lt_of_succ_lt gs_row_41.1) gs_row_41.2.1 rfl rfl (Nat.le_of_ble_eq_true rfl) (by decide) (c_X4_isOneWith_vf I129 gs_row_41 gs_row_33) (fun r137 F138 A139 h140 => ?_)
                obtain ⟨z143, e142, e144, e145, x141⟩ := h140
                subst e142 e144 e145
                have y146 : (z143 = 1 ∧ gs_on (A124 42) (F123 41 1) (A124 34) (F123 33 1)) ∨ (z143 = 0 ∧ ¬ gs_on (A124 42) (F123 41 1) (A124 34) (F123 33 1)) := x141
                clear x141
                show sA _ _ _ 201 _ [gs_iv z143] _ _
                have hz198 : z143 = 0 ∨ z143 = 1 := by omega
                have hon : st_on (sp_tw (sp_w g u) (gs_stk (A 40) (F 39 1).toNat)) (A 34) (F 33 1) ↔ gs_on (A124 42) (F123 41 1) (A124 34) (F123 33 1) := by
                  rw [g33, g34, ← hrw]
                  have hb := gs_row_sz gs_row_41 I129
                  exact st_on_mk hb.1
                refine sA_if_eq (tgt := 210) dd_X5_tryTwists_201 (by decide) (by omega) (fun q147 => ?_) (fun q147 => ?_)
                · skip
                  refine sA_iinc (lv' := [(7, gs_iv (u + 1)), (9, .ref 41), (8, gs_iv (r + (u * wt))), (6, gs_iv sz), (5, gs_iv lt), (0, .ref 30), (1, gs_iv 2), (2, gs_iv k), (3, gs_iv r), (4, gs_iv wt)]) dd_X5_tryTwists_210 (.tail _ (.tail _ (.head _))) (by decide) rfl ?_
                  refine sA_goto (tgt := 47) dd_X5_tryTwists_213 (by decide) ?_
                  have b148 : (1 : Int) ≤ F123 5 0 ∧ F123 5 0 ≤ 8 := I129.1 5 0
                  have b149 : (-2147483648 : Int) ≤ F123 30 5 ∧ F123 30 5 ≤ 2147483647 := I129.1 30 5
                  refine sA_sub (lv2 := [(7, gs_iv (u + 1)), (6, gs_iv sz), (5, gs_iv lt), (0, .ref 30), (1, gs_iv 2), (2, gs_iv k), (3, gs_iv r), (4, gs_iv wt)]) (List.forall_mem_cons.mpr ⟨(.head _), (List.forall_mem_cons.mpr ⟨(.tail _ (.tail _ (.tail _ (.head _)))), (List.forall_mem_cons.mpr ⟨(.tail _ (.tail _ (.tail _ (.tail _ (.head _))))), (List.forall_mem_cons.mpr ⟨(.tail _ (.tail _ (.tail _ (.tail _ (.tail _ (.head _)))))), (List.forall_mem_cons.mpr ⟨(.tail _ (.tail _ (.tail _ (.tail _ (.tail _ (.tail _ (.head _))))))), (List.forall_mem_cons.mpr ⟨(.tail _ (.tail _ (.tail _ (.tail _ (.tail _ (.tail _ (.tail _ (.head _)))))))), (List.forall_mem_cons.mpr ⟨(.tail _ (.tail _ (.tail _ (.tail _ (.tail _ (.tail _ (.tail _ (.tail _ (.head _))))))))), (List.forall_mem_cons.mpr ⟨(.tail _ (.tail _ (.tail _ (.tail _ (.tail _ (.tail _ (.tail _ (.tail _ (.tail _ (.head _)))))))))), (fun _ h => absurd h List.not_mem_nil)⟩)⟩)⟩)⟩)⟩)⟩)⟩)⟩) ?_
                  exact ih lt sz (u + 1) F123 A124 I129 f133 (by omega) (by omega) (by omega) (by omega) (by omega) i5 (by have j6 := i6; rw [show (k - 2).toNat = 1 by omega] at j6 ⊢; rcases y146 with y | y <;> first | (exfalso; omega) | exact tt_cg rfl rfl (show r + u * wt = F123 30 5 by omega) (tt_one (by omega) (by omega) (by omega) j6 hnl (hon.mpr y.2) (by omega)) | exact tt_cg rfl rfl (show F1 30 5 = F123 30 5 by omega) (tt_skip j6 (tt_last (fun w => y.2 (hon.mp w)))) | fail) (by omega) (by omega) (by omega)
                · skip
                  refine sA_aload_n dd_X5_tryTwists_204 rfl (.tail _ (.tail _ (.tail _ (.tail _ (.tail _ (.head _)))))) ?_
                  refine sA_iload dd_X5_tryTwists_205 (.tail _ (.head _)) ?_
                  refine sA_put (ci := 5) (j := 5) (q := (RX5, TX5, 6)) (ty := .int) dd_X5_tryTwists_207 rfl (by decide) fl_X5_53 rfl (tyX5_ok 5 (by decide)) rfl rfl (by decide) gs_s30 rfl ?_
                  have I151 : gs_I (gs_up F123 30 5 (r + (u * wt))) A124 := gs_I_put I129 (show (-2147483648 : Int) ≤ r + (u * wt) ∧ r + (u * wt) ≤ 2147483647 by omega)
                  have f152 := gs_fr_put f133 (a := 30) (z := r + (u * wt)) (j := 5) (by first | omega | (dsimp only; omega) | (dsimp only) | fail)
                  have v153 : gs_up F123 30 5 (r + (u * wt)) 30 5 = r + (u * wt) := gs_up_self _ _ _ _
                  have v154 : (gs_up F123 30 5 (r + (u * wt))) 5 0 = F123 5 0 := gs_up_ne _ _ (by omega)
                  generalize gs_up F123 30 5 (r + (u * wt)) = F150 at I151 f152 v153 v154 ⊢
                  refine sA_iinc (lv' := [(7, gs_iv (u + 1)), (9, .ref 41), (8, gs_iv (r + (u * wt))), (6, gs_iv sz), (5, gs_iv lt), (0, .ref 30), (1, gs_iv 2), (2, gs_iv k), (3, gs_iv r), (4, gs_iv wt)]) dd_X5_tryTwists_210 (.tail _ (.tail _ (.head _))) (by decide) rfl ?_
                  refine sA_goto (tgt := 47) dd_X5_tryTwists_213 (by decide) ?_
                  have b155 : (1 : Int) ≤ F150 5 0 ∧ F150 5 0 ≤ 8 := I151.1 5 0
                  have b156 : (-2147483648 : Int) ≤ F150 30 5 ∧ F150 30 5 ≤ 2147483647 := I151.1 30 5
                  refine sA_sub (lv2 := [(7, gs_iv (u + 1)), (6, gs_iv sz), (5, gs_iv lt), (0, .ref 30), (1, gs_iv 2), (2, gs_iv k), (3, gs_iv r), (4, gs_iv wt)]) (List.forall_mem_cons.mpr ⟨(.head _), (List.forall_mem_cons.mpr ⟨(.tail _ (.tail _ (.tail _ (.head _)))), (List.forall_mem_cons.mpr ⟨(.tail _ (.tail _ (.tail _ (.tail _ (.head _))))), (List.forall_mem_cons.mpr ⟨(.tail _ (.tail _ (.tail _ (.tail _ (.tail _ (.head _)))))), (List.forall_mem_cons.mpr ⟨(.tail _ (.tail _ (.tail _ (.tail _ (.tail _ (.tail _ (.head _))))))), (List.forall_mem_cons.mpr ⟨(.tail _ (.tail _ (.tail _ (.tail _ (.tail _ (.tail _ (.tail _ (.head _)))))))), (List.forall_mem_cons.mpr ⟨(.tail _ (.tail _ (.tail _ (.tail _ (.tail _ (.tail _ (.tail _ (.tail _ (.head _))))))))), (List.forall_mem_cons.mpr ⟨(.tail _ (.tail _ (.tail _ (.tail _ (.tail _ (.tail _ (.tail _ (.tail _ (.tail _ (.head _)))))))))), (fun _ h => absurd h List.not_mem_nil)⟩)⟩)⟩)⟩)⟩)⟩)⟩)⟩) ?_
                  exact ih lt sz (u + 1) F150 A124 I151 f152 (by omega) (by omega) (by omega) (by omega) (by omega) i5 (by have j6 := i6; rw [show (k - 2).toNat = 1 by omega] at j6 ⊢; rcases y146 with y | y <;> first | (exfalso; omega) | exact tt_cg rfl rfl (show r + u * wt = F150 30 5 by omega) (tt_one (by omega) (by omega) (by omega) j6 hnl (hon.mpr y.2) (by omega)) | exact tt_cg rfl rfl (show F1 30 5 = F150 30 5 by omega) (tt_skip j6 (tt_last (fun w => y.2 (hon.mp w)))) | fail) (by omega) (by omega) (by omega)
              · skip
                have hlg : 400 < (sp_tw (sp_w g u) (gs_stk (A 40) (F 39 1).toNat)).length := by
                  rcases y153 with y | y
                  · exfalso
                    omega
                  · exact y.2
                refine sA_goto (tgt := 210) dd_X5_tryTwists_159 (by decide) ?_
                refine sA_iinc (lv' := [(7, gs_iv (u + 1)), (9, .ref 41), (8, gs_iv (r + (u * wt))), (6, gs_iv sz), (5, gs_iv lt), (0, .ref 30), (1, gs_iv 2), (2, gs_iv k), (3, gs_iv r), (4, gs_iv wt)]) dd_X5_tryTwists_210 (.tail _ (.tail _ (.head _))) (by decide) rfl ?_
                refine sA_goto (tgt := 47) dd_X5_tryTwists_213 (by decide) ?_
                have b157 : (1 : Int) ≤ F123 5 0 ∧ F123 5 0 ≤ 8 := I129.1 5 0
                have b158 : (-2147483648 : Int) ≤ F123 30 5 ∧ F123 30 5 ≤ 2147483647 := I129.1 30 5
                refine sA_sub (lv2 := [(7, gs_iv (u + 1)), (6, gs_iv sz), (5, gs_iv lt), (0, .ref 30), (1, gs_iv 2), (2, gs_iv k), (3, gs_iv r), (4, gs_iv wt)]) (List.forall_mem_cons.mpr ⟨(.head _), (List.forall_mem_cons.mpr ⟨(.tail _ (.tail _ (.tail _ (.head _)))), (List.forall_mem_cons.mpr ⟨(.tail _ (.tail _ (.tail _ (.tail _ (.head _))))), (List.forall_mem_cons.mpr ⟨(.tail _ (.tail _ (.tail _ (.tail _ (.tail _ (.head _)))))), (List.forall_mem_cons.mpr ⟨(.tail _ (.tail _ (.tail _ (.tail _ (.tail _ (.tail _ (.head _))))))), (List.forall_mem_cons.mpr ⟨(.tail _ (.tail _ (.tail _ (.tail _ (.tail _ (.tail _ (.tail _ (.head _)))))))), (List.forall_mem_cons.mpr ⟨(.tail _ (.tail _ (.tail _ (.tail _ (.tail _ (.tail _ (.tail _ (.tail _ (.head _))))))))), (List.forall_mem_cons.mpr ⟨(.tail _ (.tail _ (.tail _ (.tail _ (.tail _ (.tail _ (.tail _ (.tail _ (.tail _ (.head _)))))))))), (fun _ h => absurd h List.not_mem_nil)⟩)⟩)⟩)⟩)⟩)⟩)⟩)⟩) ?_
                exact ih lt sz (u + 1) F123 A124 I129 f133 (by omega) (by omega) (by omega) (by omega) (by omega) i5 (by have j6 := i6; rw [show (k - 2).toNat = (k - 3).toNat + 1 by omega] at j6 ⊢; exact tt_cg rfl rfl (show F1 30 5 = F123 30 5 by omega) (tt_skip j6 (tt_large hlg))) (by omega) (by omega) (by omega)
            · skip
              refine sA_goto (tgt := 210) dd_X5_tryTwists_121 (by decide) ?_
              refine sA_iinc (lv' := [(7, gs_iv (u + 1)), (8, gs_iv (r + (u * wt))), (6, gs_iv sz), (5, gs_iv lt), (0, .ref 30), (1, gs_iv 2), (2, gs_iv k), (3, gs_iv r), (4, gs_iv wt)]) dd_X5_tryTwists_210 (.tail _ (.head _)) (by decide) rfl ?_
              refine sA_goto (tgt := 47) dd_X5_tryTwists_213 (by decide) ?_
              refine sA_sub (lv2 := [(7, gs_iv (u + 1)), (6, gs_iv sz), (5, gs_iv lt), (0, .ref 30), (1, gs_iv 2), (2, gs_iv k), (3, gs_iv r), (4, gs_iv wt)]) (List.forall_mem_cons.mpr ⟨(.head _), (List.forall_mem_cons.mpr ⟨(.tail _ (.tail _ (.head _))), (List.forall_mem_cons.mpr ⟨(.tail _ (.tail _ (.tail _ (.head _)))), (List.forall_mem_cons.mpr ⟨(.tail _ (.tail _ (.tail _ (.tail _ (.head _))))), (List.forall_mem_cons.mpr ⟨(.tail _ (.tail _ (.tail _ (.tail _ (.tail _ (.head _)))))), (List.forall_mem_cons.mpr ⟨(.tail _ (.tail _ (.tail _ (.tail _ (.tail _ (.tail _ (.head _))))))), (List.forall_mem_cons.mpr ⟨(.tail _ (.tail _ (.tail _ (.tail _ (.tail _ (.tail _ (.tail _ (.head _)))))))), (List.forall_mem_cons.mpr ⟨(.tail _ (.tail _ (.tail _ (.tail _ (.tail _ (.tail _ (.tail _ (.tail _ (.head _))))))))), (fun _ h => absurd h List.not_mem_nil)⟩)⟩)⟩)⟩)⟩)⟩)⟩)⟩) ?_
              exact ih lt sz (u + 1) F1 A1 hI1 hf1 (by omega) (by omega) (by omega) (by omega) (by omega) i5 (by have j6 := i6; rw [show (k - 2).toNat = 1 by omega] at j6 ⊢; exact tt_skip j6 (tt_prune hg (by omega) hrd hV hahu i5 (by omega))) (by omega) (by omega) (by omega)
        · skip
          refine sA_iload dd_X5_tryTwists_83 (.head _) ?_
          refine sA_aload_n dd_X5_tryTwists_85 rfl (.tail _ (.tail _ (.tail _ (.tail _ (.head _))))) ?_
          refine sA_geti (ci := 5) (j := 5) (q := (RX5, TX5, 6)) dd_X5_tryTwists_86 rfl (by decide) fl_X5_53 (by decide) gs_s30 rfl ?_
          refine sA_icmp_lt (tgt := 93) dd_X5_tryTwists_89 (by decide) (by omega) (by omega) (fun q159 => ?_) (fun q159 => ?_)
          · skip
            refine sA_iload dd_X5_tryTwists_93 (.tail _ (.tail _ (.tail _ (.head _)))) ?_
            refine sA_if_eq (tgt := 124) dd_X5_tryTwists_95 (by decide) (by omega) (fun q160 => absurd q160 (by omega)) (fun q160 => ?_)
            refine sA_aload_n dd_X5_tryTwists_98 rfl (.tail _ (.tail _ (.tail _ (.tail _ (.head _))))) ?_
            refine sA_getr (ci := 5) (j := 3) (q := (RX5, TX5, 6)) dd_X5_tryTwists_99 rfl (by decide) fl_X5_17 (by decide) gs_s30 rfl ?_
            refine sA_iload dd_X5_tryTwists_102 (.tail _ (.head _)) ?_
            refine sA_iald (n := 16) dd_X5_tryTwists_104 (by decide) gs_s32 (by omega) (by decide) ?_
            have b161 : (-2147483648 : Int) ≤ A1 32 u.toNat ∧ A1 32 u.toNat ≤ 2147483647 := hI1.2 32 u.toNat
            refine sA_iconst (z := (-1)) dd_X5_tryTwists_105 ?_
            refine sA_icmp_eq (tgt := 124) dd_X5_tryTwists_106 (by decide) (by omega) (by omega) (fun q162 => ?_) (fun q162 => ?_)
            · skip
              refine sA_aload_n dd_X5_tryTwists_124 rfl (.tail _ (.tail _ (.tail _ (.tail _ (.head _))))) ?_
              refine sA_getr (ci := 5) (j := 2) (q := (RX5, TX5, 6)) dd_X5_tryTwists_125 rfl (by decide) fl_X5_11 (by decide) gs_s30 rfl ?_
              refine sA_iload_n dd_X5_tryTwists_128 rfl (.tail _ (.tail _ (.tail _ (.tail _ (.tail _ (.head _)))))) ?_
              refine sA_iconst (z := 1) dd_X5_tryTwists_129 ?_
              refine sA_iadd dd_X5_tryTwists_130 ?_
              show sA _ _ _ _ _ (gs_iv 3 :: _) _ _
              refine sA_aald (n := 4) dd_X5_tryTwists_131 (by decide) (by decide) (by decide) gs_s31 (by omega) (by decide) ?_
              show sA _ _ _ _ _ (.ref 41 :: _) _ _
              refine sA_astore (lv' := [(9, .ref 41), (8, gs_iv (r + (u * wt))), (7, gs_iv u), (6, gs_iv sz), (5, gs_iv lt), (0, .ref 30), (1, gs_iv 2), (2, gs_iv k), (3, gs_iv r), (4, gs_iv wt)]) dd_X5_tryTwists_132 (by decide) rfl ?_
              refine sA_aload dd_X5_tryTwists_134 (.head _) ?_
              refine sA_aload_n dd_X5_tryTwists_136 rfl (.tail _ (.tail _ (.tail _ (.tail _ (.tail _ (.head _)))))) ?_
              refine sA_getr (ci := 5) (j := 2) (q := (RX5, TX5, 6)) dd_X5_tryTwists_137 rfl (by decide) fl_X5_11 (by decide) gs_s30 rfl ?_
              refine sA_iload_n dd_X5_tryTwists_140 rfl (.tail _ (.tail _ (.tail _ (.tail _ (.tail _ (.tail _ (.head _))))))) ?_
              refine sA_aald (n := 4) dd_X5_tryTwists_141 (by decide) (by decide) (by decide) gs_s31 (by omega) (by decide) ?_
              show sA _ _ _ _ _ (.ref 39 :: _) _ _
              refine sA_callV (y2 := m_X4_copy) (n2 := 1) (d2 := 1) (a := 41) (ci := 4) (q := (RX4, TX4, 2)) (as := [.ref 39]) (rest := []) dd_X5_tryTwists_142 ok_X4_copy ml_X5_36 rfl rfl (Nat.lt_of_succ_lt gs_row_41.1) gs_row_41.2.1 rfl rfl (Nat.le_of_ble_eq_true rfl) (by decide) (c_X4_copy_vf hI1 gs_row_41 gs_row_39) (fun r165 F166 A167 h168 => ?_)
              obtain ⟨e170, I171, f172, x169⟩ := h168
              subst e170
              have v173 : F166 5 0 = F1 5 0 := f172.1 5 0 (by first | exact id | omega | (dsimp only; omega) | (dsimp only) | fail)
              have v174 : F166 30 5 = F1 30 5 := f172.1 30 5 (by first | exact id | omega | (dsimp only; omega) | (dsimp only) | fail)
              have f175 := gs_fr_tr hf1 f172 (fun b j h => by first | exact False.elim h | omega | (dsimp only at h ⊢; omega) | fail) (fun b h => by first | exact False.elim h | omega | (dsimp only at h ⊢; omega) | fail)
              have y176 : F1 39 1 ≤ (400 : Int) → (F166 41 1 = F1 39 1 ∧ A167 42 = gs_cc (A1 40) (A1 42) 0 0 (F1 39 1).toNat) := x169
              clear x169
              show sA _ _ _ 145 _ [] _ _
              refine sA_aload_n dd_X5_tryTwists_145 rfl (.tail _ (.tail _ (.tail _ (.tail _ (.tail _ (.head _)))))) ?_
              refine sA_getr (ci := 5) (j := 0) (q := (RX5, TX5, 6)) dd_X5_tryTwists_146 rfl (by decide) fl_X5_28 (by decide) gs_s30 rfl ?_
              refine sA_iload dd_X5_tryTwists_149 (.tail _ (.tail _ (.head _))) ?_
              refine sA_aload dd_X5_tryTwists_151 (.head _) ?_
              have er1 : A1 40 = A 40 := hf1.2 40 (by dsimp only; omega)
              have er2 : F1 39 1 = F 39 1 := hf1.1 39 1 (by dsimp only; omega)
              have hbr := gs_row_sz gs_row_39 hI1
              obtain ⟨c1, c2⟩ := y176 (by omega)
              have hstk : (gs_stk (A167 42) (F166 41 1).toNat) = (gs_stk (A 40) (F 39 1).toNat) := by
                rw [c1, c2, er1, er2]
                refine gs_stk_cg _ (fun i hi => ?_)
                unfold gs_cc
                rw [if_pos (by omega)]
                congr 1
                omega
              have hV1 : sp_val g (gs_stk (A167 42) (F166 41 1).toNat) := by rw [hstk]; exact hV
              have hW1 : gs_W (A167 6) g := by rw [f175.2 6 (by dsimp only; omega)]; exact hW
              have hL : (400 : Nat) = 400 := rfl
              refine sA_callV (y2 := m_X7_doTwist) (n2 := 2) (d2 := 2) (a := 5) (ci := 7) (q := (RX7, TX7, 5)) (as := [gs_iv u, .ref 41]) (rest := []) dd_X5_tryTwists_153 ok_X7_doTwist ml_X5_69 rfl rfl (by decide) gs_s5 rfl rfl (Nat.le_of_ble_eq_true rfl) (by decide) (c_X7_doTwist_vf I171 (by omega) gs_row_41 hg (by omega) hW1 hV1 hL (by omega)) (fun r177 F178 A179 h180 => ?_)
              obtain ⟨z183, e182, I184, f185, x181⟩ := h180
              subst e182
              have v186 : F178 5 0 = F166 5 0 := f185.1 5 0 (by first | exact id | omega | (dsimp only; omega) | (dsimp only) | fail)
              have v187 : F178 30 5 = F166 30 5 := f185.1 30 5 (by first | exact id | omega | (dsimp only; omega) | (dsimp only) | fail)
              have f188 := gs_fr_tr f175 f185 (fun b j h => by first | exact False.elim h | omega | (dsimp only at h ⊢; omega) | fail) (fun b h => by first | exact False.elim h | omega | (dsimp only at h ⊢; omega) | fail)
              have y189 : (z183 = 1 ∧ (sp_tw (sp_w g u) (gs_stk (A167 42) (F166 41 1).toNat)).length ≤ 400 ∧ gs_stk (A179 42) (F178 41 1).toNat = sp_tw (sp_w g u) (gs_stk (A167 42) (F166 41 1).toNat)) ∨ (z183 = 0 ∧ 400 < (sp_tw (sp_w g u) (gs_stk (A167 42) (F166 41 1).toNat)).length) := x181
              clear x181
              show sA _ _ _ 156 _ [gs_iv z183] _ _
              have y153 := y189
              rw [hstk] at y153
              refine sA_if_ne (tgt := 162) dd_X5_tryTwists_156 (by decide) (by omega) (fun q190 => ?_) (fun q190 => ?_)
              · skip
                have hys : ¬ 400 < (sp_tw (sp_w g u) (gs_stk (A 40) (F 39 1).toNat)).length ∧ (gs_stk (A179 42) (F178 41 1).toNat) = sp_tw (sp_w g u) (gs_stk (A 40) (F 39 1).toNat) := by
                  rcases y153 with y | y
                  · exact ⟨by have y2 := y.2.1; omega, y.2.2⟩
                  · exfalso
                    omega
                have hnl := hys.1
                have hrw := hys.2
                have g33 : F178 33 1 = F 33 1 := f188.1 33 1 (by dsimp only; omega)
                have g34 : A179 34 = A 34 := f188.2 34 (by dsimp only; omega)
                refine sA_iload dd_X5_tryTwists_162 (.tail _ (.tail _ (.tail _ (.tail _ (.head _))))) ?_
                refine sA_if_ne (tgt := 192) dd_X5_tryTwists_164 (by decide) (by omega) (fun q191 => ?_) (fun q191 => absurd q191 (by omega))
                refine sA_aload dd_X5_tryTwists_192 (.head _) ?_
                refine sA_aload_n dd_X5_tryTwists_194 rfl (.tail _ (.tail _ (.tail _ (.tail _ (.tail _ (.head _)))))) ?_
                refine sA_getr (ci := 5) (j := 4) (q := (RX5, TX5, 6)) dd_X5_tryTwists_195 rfl (by decide) fl_X5_24 (by decide) gs_s30 rfl ?_
                refine sA_callV (y2 := m_X4_isOneWith) (n2 := 1) (d2 := 2) (a := 41) (ci := 4) (q := (RX4, TX4, 2)) (as := [.ref 33]) (rest := []) dd_X5_tryTwists_198 ok_X4_isOneWith ml_X5_43 rfl rfl (Nat.lt_of_succ_lt gs_row_41.1) gs_row_41.2.1 rfl rfl (Nat.le_of_ble_eq_true rfl) (by decide) (c_X4_isOneWith_vf I184 gs_row_41 gs_row_33) (fun r192 F193 A194 h195 => ?_)
                obtain ⟨z198, e197, e199, e200, x196⟩ := h195
                subst e197 e199 e200
                have y201 : (z198 = 1 ∧ gs_on (A179 42) (F178 41 1) (A179 34) (F178 33 1)) ∨ (z198 = 0 ∧ ¬ gs_on (A179 42) (F178 41 1) (A179 34) (F178 33 1)) := x196
                clear x196
                show sA _ _ _ 201 _ [gs_iv z198] _ _
                have hz198 : z198 = 0 ∨ z198 = 1 := by omega
                have hon : st_on (sp_tw (sp_w g u) (gs_stk (A 40) (F 39 1).toNat)) (A 34) (F 33 1) ↔ gs_on (A179 42) (F178 41 1) (A179 34) (F178 33 1) := by
                  rw [g33, g34, ← hrw]
                  have hb := gs_row_sz gs_row_41 I184
                  exact st_on_mk hb.1
                refine sA_if_eq (tgt := 210) dd_X5_tryTwists_201 (by decide) (by omega) (fun q202 => ?_) (fun q202 => ?_)
                · skip
                  refine sA_iinc (lv' := [(7, gs_iv (u + 1)), (9, .ref 41), (8, gs_iv (r + (u * wt))), (6, gs_iv sz), (5, gs_iv lt), (0, .ref 30), (1, gs_iv 2), (2, gs_iv k), (3, gs_iv r), (4, gs_iv wt)]) dd_X5_tryTwists_210 (.tail _ (.tail _ (.head _))) (by decide) rfl ?_
                  refine sA_goto (tgt := 47) dd_X5_tryTwists_213 (by decide) ?_
                  have b203 : (1 : Int) ≤ F178 5 0 ∧ F178 5 0 ≤ 8 := I184.1 5 0
                  have b204 : (-2147483648 : Int) ≤ F178 30 5 ∧ F178 30 5 ≤ 2147483647 := I184.1 30 5
                  refine sA_sub (lv2 := [(7, gs_iv (u + 1)), (6, gs_iv sz), (5, gs_iv lt), (0, .ref 30), (1, gs_iv 2), (2, gs_iv k), (3, gs_iv r), (4, gs_iv wt)]) (List.forall_mem_cons.mpr ⟨(.head _), (List.forall_mem_cons.mpr ⟨(.tail _ (.tail _ (.tail _ (.head _)))), (List.forall_mem_cons.mpr ⟨(.tail _ (.tail _ (.tail _ (.tail _ (.head _))))), (List.forall_mem_cons.mpr ⟨(.tail _ (.tail _ (.tail _ (.tail _ (.tail _ (.head _)))))), (List.forall_mem_cons.mpr ⟨(.tail _ (.tail _ (.tail _ (.tail _ (.tail _ (.tail _ (.head _))))))), (List.forall_mem_cons.mpr ⟨(.tail _ (.tail _ (.tail _ (.tail _ (.tail _ (.tail _ (.tail _ (.head _)))))))), (List.forall_mem_cons.mpr ⟨(.tail _ (.tail _ (.tail _ (.tail _ (.tail _ (.tail _ (.tail _ (.tail _ (.head _))))))))), (List.forall_mem_cons.mpr ⟨(.tail _ (.tail _ (.tail _ (.tail _ (.tail _ (.tail _ (.tail _ (.tail _ (.tail _ (.head _)))))))))), (fun _ h => absurd h List.not_mem_nil)⟩)⟩)⟩)⟩)⟩)⟩)⟩)⟩) ?_
                  exact ih lt sz (u + 1) F178 A179 I184 f188 (by omega) (by omega) (by omega) (by omega) (by omega) i5 (by have j6 := i6; rw [show (k - 2).toNat = 1 by omega] at j6 ⊢; rcases y201 with y | y <;> first | (exfalso; omega) | exact tt_cg rfl rfl (show r + u * wt = F178 30 5 by omega) (tt_one (by omega) (by omega) (by omega) j6 hnl (hon.mpr y.2) (by omega)) | exact tt_cg rfl rfl (show F1 30 5 = F178 30 5 by omega) (tt_skip j6 (tt_last (fun w => y.2 (hon.mp w)))) | fail) (by omega) (by omega) (by omega)
                · skip
                  refine sA_aload_n dd_X5_tryTwists_204 rfl (.tail _ (.tail _ (.tail _ (.tail _ (.tail _ (.head _)))))) ?_
                  refine sA_iload dd_X5_tryTwists_205 (.tail _ (.head _)) ?_
                  refine sA_put (ci := 5) (j := 5) (q := (RX5, TX5, 6)) (ty := .int) dd_X5_tryTwists_207 rfl (by decide) fl_X5_53 rfl (tyX5_ok 5 (by decide)) rfl rfl (by decide) gs_s30 rfl ?_
                  have I206 : gs_I (gs_up F178 30 5 (r + (u * wt))) A179 := gs_I_put I184 (show (-2147483648 : Int) ≤ r + (u * wt) ∧ r + (u * wt) ≤ 2147483647 by omega)
                  have f207 := gs_fr_put f188 (a := 30) (z := r + (u * wt)) (j := 5) (by first | omega | (dsimp only; omega) | (dsimp only) | fail)
                  have v208 : gs_up F178 30 5 (r + (u * wt)) 30 5 = r + (u * wt) := gs_up_self _ _ _ _
                  have v209 : (gs_up F178 30 5 (r + (u * wt))) 5 0 = F178 5 0 := gs_up_ne _ _ (by omega)
                  generalize gs_up F178 30 5 (r + (u * wt)) = F205 at I206 f207 v208 v209 ⊢
                  refine sA_iinc (lv' := [(7, gs_iv (u + 1)), (9, .ref 41), (8, gs_iv (r + (u * wt))), (6, gs_iv sz), (5, gs_iv lt), (0, .ref 30), (1, gs_iv 2), (2, gs_iv k), (3, gs_iv r), (4, gs_iv wt)]) dd_X5_tryTwists_210 (.tail _ (.tail _ (.head _))) (by decide) rfl ?_
                  refine sA_goto (tgt := 47) dd_X5_tryTwists_213 (by decide) ?_
                  have b210 : (1 : Int) ≤ F205 5 0 ∧ F205 5 0 ≤ 8 := I206.1 5 0
                  have b211 : (-2147483648 : Int) ≤ F205 30 5 ∧ F205 30 5 ≤ 2147483647 := I206.1 30 5
                  refine sA_sub (lv2 := [(7, gs_iv (u + 1)), (6, gs_iv sz), (5, gs_iv lt), (0, .ref 30), (1, gs_iv 2), (2, gs_iv k), (3, gs_iv r), (4, gs_iv wt)]) (List.forall_mem_cons.mpr ⟨(.head _), (List.forall_mem_cons.mpr ⟨(.tail _ (.tail _ (.tail _ (.head _)))), (List.forall_mem_cons.mpr ⟨(.tail _ (.tail _ (.tail _ (.tail _ (.head _))))), (List.forall_mem_cons.mpr ⟨(.tail _ (.tail _ (.tail _ (.tail _ (.tail _ (.head _)))))), (List.forall_mem_cons.mpr ⟨(.tail _ (.tail _ (.tail _ (.tail _ (.tail _ (.tail _ (.head _))))))), (List.forall_mem_cons.mpr ⟨(.tail _ (.tail _ (.tail _ (.tail _ (.tail _ (.tail _ (.tail _ (.head _)))))))), (List.forall_mem_cons.mpr ⟨(.tail _ (.tail _ (.tail _ (.tail _ (.tail _ (.tail _ (.tail _ (.tail _ (.head _))))))))), (List.forall_mem_cons.mpr ⟨(.tail _ (.tail _ (.tail _ (.tail _ (.tail _ (.tail _ (.tail _ (.tail _ (.tail _ (.head _)))))))))), (fun _ h => absurd h List.not_mem_nil)⟩)⟩)⟩)⟩)⟩)⟩)⟩)⟩) ?_
                  exact ih lt sz (u + 1) F205 A179 I206 f207 (by omega) (by omega) (by omega) (by omega) (by omega) i5 (by have j6 := i6; rw [show (k - 2).toNat = 1 by omega] at j6 ⊢; rcases y201 with y | y <;> first | (exfalso; omega) | exact tt_cg rfl rfl (show r + u * wt = F205 30 5 by omega) (tt_one (by omega) (by omega) (by omega) j6 hnl (hon.mpr y.2) (by omega)) | exact tt_cg rfl rfl (show F1 30 5 = F205 30 5 by omega) (tt_skip j6 (tt_last (fun w => y.2 (hon.mp w)))) | fail) (by omega) (by omega) (by omega)
              · skip
                have hlg : 400 < (sp_tw (sp_w g u) (gs_stk (A 40) (F 39 1).toNat)).length := by
                  rcases y153 with y | y
                  · exfalso
                    omega
                  · exact y.2
                refine sA_goto (tgt := 210) dd_X5_tryTwists_159 (by decide) ?_
                refine sA_iinc (lv' := [(7, gs_iv (u + 1)), (9, .ref 41), (8, gs_iv (r + (u * wt))), (6, gs_iv sz), (5, gs_iv lt), (0, .ref 30), (1, gs_iv 2), (2, gs_iv k), (3, gs_iv r), (4, gs_iv wt)]) dd_X5_tryTwists_210 (.tail _ (.tail _ (.head _))) (by decide) rfl ?_
                refine sA_goto (tgt := 47) dd_X5_tryTwists_213 (by decide) ?_
                have b212 : (1 : Int) ≤ F178 5 0 ∧ F178 5 0 ≤ 8 := I184.1 5 0
                have b213 : (-2147483648 : Int) ≤ F178 30 5 ∧ F178 30 5 ≤ 2147483647 := I184.1 30 5
                refine sA_sub (lv2 := [(7, gs_iv (u + 1)), (6, gs_iv sz), (5, gs_iv lt), (0, .ref 30), (1, gs_iv 2), (2, gs_iv k), (3, gs_iv r), (4, gs_iv wt)]) (List.forall_mem_cons.mpr ⟨(.head _), (List.forall_mem_cons.mpr ⟨(.tail _ (.tail _ (.tail _ (.head _)))), (List.forall_mem_cons.mpr ⟨(.tail _ (.tail _ (.tail _ (.tail _ (.head _))))), (List.forall_mem_cons.mpr ⟨(.tail _ (.tail _ (.tail _ (.tail _ (.tail _ (.head _)))))), (List.forall_mem_cons.mpr ⟨(.tail _ (.tail _ (.tail _ (.tail _ (.tail _ (.tail _ (.head _))))))), (List.forall_mem_cons.mpr ⟨(.tail _ (.tail _ (.tail _ (.tail _ (.tail _ (.tail _ (.tail _ (.head _)))))))), (List.forall_mem_cons.mpr ⟨(.tail _ (.tail _ (.tail _ (.tail _ (.tail _ (.tail _ (.tail _ (.tail _ (.head _))))))))), (List.forall_mem_cons.mpr ⟨(.tail _ (.tail _ (.tail _ (.tail _ (.tail _ (.tail _ (.tail _ (.tail _ (.tail _ (.head _)))))))))), (fun _ h => absurd h List.not_mem_nil)⟩)⟩)⟩)⟩)⟩)⟩)⟩)⟩) ?_
                exact ih lt sz (u + 1) F178 A179 I184 f188 (by omega) (by omega) (by omega) (by omega) (by omega) i5 (by have j6 := i6; rw [show (k - 2).toNat = (k - 3).toNat + 1 by omega] at j6 ⊢; exact tt_cg rfl rfl (show F1 30 5 = F178 30 5 by omega) (tt_skip j6 (tt_large hlg))) (by omega) (by omega) (by omega)
            · skip
              have e32u : A1 32 u.toNat = A 32 u.toNat := by rw [e32]
              have hahu : cy_rep (sp_tw (sp_w g (sp_fl u)) (gs_stk (A 34) (F 33 1).toNat)) (A 32 u.toNat) := by
                rcases hah u (by omega) (by omega) with q | q
                · exfalso
                  omega
                · exact q
              refine sA_aload_n dd_X5_tryTwists_109 rfl (.tail _ (.tail _ (.tail _ (.tail _ (.head _))))) ?_
              refine sA_getr (ci := 5) (j := 3) (q := (RX5, TX5, 6)) dd_X5_tryTwists_110 rfl (by decide) fl_X5_17 (by decide) gs_s30 rfl ?_
              refine sA_iload dd_X5_tryTwists_113 (.tail _ (.head _)) ?_
              refine sA_iald (n := 16) dd_X5_tryTwists_115 (by decide) gs_s32 (by omega) (by decide) ?_
              refine sA_iload dd_X5_tryTwists_116 (.tail _ (.tail _ (.head _))) ?_
              refine sA_icmp_eq (tgt := 124) dd_X5_tryTwists_118 (by decide) (by omega) (by omega) (fun q214 => ?_) (fun q214 => ?_)
              · skip
                refine sA_aload_n dd_X5_tryTwists_124 rfl (.tail _ (.tail _ (.tail _ (.tail _ (.head _))))) ?_
                refine sA_getr (ci := 5) (j := 2) (q := (RX5, TX5, 6)) dd_X5_tryTwists_125 rfl (by decide) fl_X5_11 (by decide) gs_s30 rfl ?_
                refine sA_iload_n dd_X5_tryTwists_128 rfl (.tail _ (.tail _ (.tail _ (.tail _ (.tail _ (.head _)))))) ?_
                refine sA_iconst (z := 1) dd_X5_tryTwists_129 ?_
                refine sA_iadd dd_X5_tryTwists_130 ?_
                show sA _ _ _ _ _ (gs_iv 3 :: _) _ _
                refine sA_aald (n := 4) dd_X5_tryTwists_131 (by decide) (by decide) (by decide) gs_s31 (by omega) (by decide) ?_
                show sA _ _ _ _ _ (.ref 41 :: _) _ _
                refine sA_astore (lv' := [(9, .ref 41), (8, gs_iv (r + (u * wt))), (7, gs_iv u), (6, gs_iv sz), (5, gs_iv lt), (0, .ref 30), (1, gs_iv 2), (2, gs_iv k), (3, gs_iv r), (4, gs_iv wt)]) dd_X5_tryTwists_132 (by decide) rfl ?_
                refine sA_aload dd_X5_tryTwists_134 (.head _) ?_
                refine sA_aload_n dd_X5_tryTwists_136 rfl (.tail _ (.tail _ (.tail _ (.tail _ (.tail _ (.head _)))))) ?_
                refine sA_getr (ci := 5) (j := 2) (q := (RX5, TX5, 6)) dd_X5_tryTwists_137 rfl (by decide) fl_X5_11 (by decide) gs_s30 rfl ?_
                refine sA_iload_n dd_X5_tryTwists_140 rfl (.tail _ (.tail _ (.tail _ (.tail _ (.tail _ (.tail _ (.head _))))))) ?_
                refine sA_aald (n := 4) dd_X5_tryTwists_141 (by decide) (by decide) (by decide) gs_s31 (by omega) (by decide) ?_
                show sA _ _ _ _ _ (.ref 39 :: _) _ _
                refine sA_callV (y2 := m_X4_copy) (n2 := 1) (d2 := 1) (a := 41) (ci := 4) (q := (RX4, TX4, 2)) (as := [.ref 39]) (rest := []) dd_X5_tryTwists_142 ok_X4_copy ml_X5_36 rfl rfl (Nat.lt_of_succ_lt gs_row_41.1) gs_row_41.2.1 rfl rfl (Nat.le_of_ble_eq_true rfl) (by decide) (c_X4_copy_vf hI1 gs_row_41 gs_row_39) (fun r217 F218 A219 h220 => ?_)
                obtain ⟨e222, I223, f224, x221⟩ := h220
                subst e222
                have v225 : F218 5 0 = F1 5 0 := f224.1 5 0 (by first | exact id | omega | (dsimp only; omega) | (dsimp only) | fail)
                have v226 : F218 30 5 = F1 30 5 := f224.1 30 5 (by first | exact id | omega | (dsimp only; omega) | (dsimp only) | fail)
                have f227 := gs_fr_tr hf1 f224 (fun b j h => by first | exact False.elim h | omega | (dsimp only at h ⊢; omega) | fail) (fun b h => by first | exact False.elim h | omega | (dsimp only at h ⊢; omega) | fail)
                have y228 : F1 39 1 ≤ (400 : Int) → (F218 41 1 = F1 39 1 ∧ A219 42 = gs_cc (A1 40) (A1 42) 0 0 (F1 39 1).toNat) := x221
                clear x221
                show sA _ _ _ 145 _ [] _ _
                refine sA_aload_n dd_X5_tryTwists_145 rfl (.tail _ (.tail _ (.tail _ (.tail _ (.tail _ (.head _)))))) ?_
                refine sA_getr (ci := 5) (j := 0) (q := (RX5, TX5, 6)) dd_X5_tryTwists_146 rfl (by decide) fl_X5_28 (by decide) gs_s30 rfl ?_
                refine sA_iload dd_X5_tryTwists_149 (.tail _ (.tail _ (.head _))) ?_
                refine sA_aload dd_X5_tryTwists_151 (.head _) ?_
                have er1 : A1 40 = A 40 := hf1.2 40 (by dsimp only; omega)
                have er2 : F1 39 1 = F 39 1 := hf1.1 39 1 (by dsimp only; omega)
                have hbr := gs_row_sz gs_row_39 hI1
                obtain ⟨c1, c2⟩ := y228 (by omega)
                have hstk : (gs_stk (A219 42) (F218 41 1).toNat) = (gs_stk (A 40) (F 39 1).toNat) := by
                  rw [c1, c2, er1, er2]
                  refine gs_stk_cg _ (fun i hi => ?_)
                  unfold gs_cc
                  rw [if_pos (by omega)]
                  congr 1
                  omega
                have hV1 : sp_val g (gs_stk (A219 42) (F218 41 1).toNat) := by rw [hstk]; exact hV
                have hW1 : gs_W (A219 6) g := by rw [f227.2 6 (by dsimp only; omega)]; exact hW
                have hL : (400 : Nat) = 400 := rfl
                refine sA_callV (y2 := m_X7_doTwist) (n2 := 2) (d2 := 2) (a := 5) (ci := 7) (q := (RX7, TX7, 5)) (as := [gs_iv u, .ref 41]) (rest := []) dd_X5_tryTwists_153 ok_X7_doTwist ml_X5_69 rfl rfl (by decide) gs_s5 rfl rfl (Nat.le_of_ble_eq_true rfl) (by decide) (c_X7_doTwist_vf I223 (by omega) gs_row_41 hg (by omega) hW1 hV1 hL (by omega)) (fun r229 F230 A231 h232 => ?_)
                obtain ⟨z235, e234, I236, f237, x233⟩ := h232
                subst e234
                have v238 : F230 5 0 = F218 5 0 := f237.1 5 0 (by first | exact id | omega | (dsimp only; omega) | (dsimp only) | fail)
                have v239 : F230 30 5 = F218 30 5 := f237.1 30 5 (by first | exact id | omega | (dsimp only; omega) | (dsimp only) | fail)
                have f240 := gs_fr_tr f227 f237 (fun b j h => by first | exact False.elim h | omega | (dsimp only at h ⊢; omega) | fail) (fun b h => by first | exact False.elim h | omega | (dsimp only at h ⊢; omega) | fail)
                have y241 : (z235 = 1 ∧ (sp_tw (sp_w g u) (gs_stk (A219 42) (F218 41 1).toNat)).length ≤ 400 ∧ gs_stk (A231 42) (F230 41 1).toNat = sp_tw (sp_w g u) (gs_stk (A219 42) (F218 41 1).toNat)) ∨ (z235 = 0 ∧ 400 < (sp_tw (sp_w g u) (gs_stk (A219 42) (F218 41 1).toNat)).length) := x233
                clear x233
                show sA _ _ _ 156 _ [gs_iv z235] _ _
                have y153 := y241
                rw [hstk] at y153
                refine sA_if_ne (tgt := 162) dd_X5_tryTwists_156 (by decide) (by omega) (fun q242 => ?_) (fun q242 => ?_)
                · skip
                  have hys : ¬ 400 < (sp_tw (sp_w g u) (gs_stk (A 40) (F 39 1).toNat)).length ∧ (gs_stk (A231 42) (F230 41 1).toNat) = sp_tw (sp_w g u) (gs_stk (A 40) (F 39 1).toNat) := by
                    rcases y153 with y | y
                    · exact ⟨by have y2 := y.2.1; omega, y.2.2⟩
                    · exfalso
                      omega
                  have hnl := hys.1
                  have hrw := hys.2
                  have g33 : F230 33 1 = F 33 1 := f240.1 33 1 (by dsimp only; omega)
                  have g34 : A231 34 = A 34 := f240.2 34 (by dsimp only; omega)
                  refine sA_iload dd_X5_tryTwists_162 (.tail _ (.tail _ (.tail _ (.tail _ (.head _))))) ?_
                  refine sA_if_ne (tgt := 192) dd_X5_tryTwists_164 (by decide) (by omega) (fun q243 => ?_) (fun q243 => absurd q243 (by omega))
                  refine sA_aload dd_X5_tryTwists_192 (.head _) ?_
                  refine sA_aload_n dd_X5_tryTwists_194 rfl (.tail _ (.tail _ (.tail _ (.tail _ (.tail _ (.head _)))))) ?_
                  refine sA_getr (ci := 5) (j := 4) (q := (RX5, TX5, 6)) dd_X5_tryTwists_195 rfl (by decide) fl_X5_24 (by decide) gs_s30 rfl ?_
                  refine sA_callV (y2 := m_X4_isOneWith) (n2 := 1) (d2 := 2) (a := 41) (ci := 4) (q := (RX4, TX4, 2)) (as := [.ref 33]) (rest := []) dd_X5_tryTwists_198 ok_X4_isOneWith ml_X5_43 rfl rfl (Nat.lt_of_succ_lt gs_row_41.1) gs_row_41.2.1 rfl rfl (Nat.le_of_ble_eq_true rfl) (by decide) (c_X4_isOneWith_vf I236 gs_row_41 gs_row_33) (fun r244 F245 A246 h247 => ?_)
                  obtain ⟨z250, e249, e251, e252, x248⟩ := h247
                  subst e249 e251 e252
                  have y253 : (z250 = 1 ∧ gs_on (A231 42) (F230 41 1) (A231 34) (F230 33 1)) ∨ (z250 = 0 ∧ ¬ gs_on (A231 42) (F230 41 1) (A231 34) (F230 33 1)) := x248
                  clear x248
                  show sA _ _ _ 201 _ [gs_iv z250] _ _
                  have hz198 : z250 = 0 ∨ z250 = 1 := by omega
                  have hon : st_on (sp_tw (sp_w g u) (gs_stk (A 40) (F 39 1).toNat)) (A 34) (F 33 1) ↔ gs_on (A231 42) (F230 41 1) (A231 34) (F230 33 1) := by
                    rw [g33, g34, ← hrw]
                    have hb := gs_row_sz gs_row_41 I236
                    exact st_on_mk hb.1
                  refine sA_if_eq (tgt := 210) dd_X5_tryTwists_201 (by decide) (by omega) (fun q254 => ?_) (fun q254 => ?_)
                  · skip
                    refine sA_iinc (lv' := [(7, gs_iv (u + 1)), (9, .ref 41), (8, gs_iv (r + (u * wt))), (6, gs_iv sz), (5, gs_iv lt), (0, .ref 30), (1, gs_iv 2), (2, gs_iv k), (3, gs_iv r), (4, gs_iv wt)]) dd_X5_tryTwists_210 (.tail _ (.tail _ (.head _))) (by decide) rfl ?_
                    refine sA_goto (tgt := 47) dd_X5_tryTwists_213 (by decide) ?_
                    have b255 : (1 : Int) ≤ F230 5 0 ∧ F230 5 0 ≤ 8 := I236.1 5 0
                    have b256 : (-2147483648 : Int) ≤ F230 30 5 ∧ F230 30 5 ≤ 2147483647 := I236.1 30 5
                    refine sA_sub (lv2 := [(7, gs_iv (u + 1)), (6, gs_iv sz), (5, gs_iv lt), (0, .ref 30), (1, gs_iv 2), (2, gs_iv k), (3, gs_iv r), (4, gs_iv wt)]) (List.forall_mem_cons.mpr ⟨(.head _), (List.forall_mem_cons.mpr ⟨(.tail _ (.tail _ (.tail _ (.head _)))), (List.forall_mem_cons.mpr ⟨(.tail _ (.tail _ (.tail _ (.tail _ (.head _))))), (List.forall_mem_cons.mpr ⟨(.tail _ (.tail _ (.tail _ (.tail _ (.tail _ (.head _)))))), (List.forall_mem_cons.mpr ⟨(.tail _ (.tail _ (.tail _ (.tail _ (.tail _ (.tail _ (.head _))))))), (List.forall_mem_cons.mpr ⟨(.tail _ (.tail _ (.tail _ (.tail _ (.tail _ (.tail _ (.tail _ (.head _)))))))), (List.forall_mem_cons.mpr ⟨(.tail _ (.tail _ (.tail _ (.tail _ (.tail _ (.tail _ (.tail _ (.tail _ (.head _))))))))), (List.forall_mem_cons.mpr ⟨(.tail _ (.tail _ (.tail _ (.tail _ (.tail _ (.tail _ (.tail _ (.tail _ (.tail _ (.head _)))))))))), (fun _ h => absurd h List.not_mem_nil)⟩)⟩)⟩)⟩)⟩)⟩)⟩)⟩) ?_
                    exact ih lt sz (u + 1) F230 A231 I236 f240 (by omega) (by omega) (by omega) (by omega) (by omega) i5 (by have j6 := i6; rw [show (k - 2).toNat = 1 by omega] at j6 ⊢; rcases y253 with y | y <;> first | (exfalso; omega) | exact tt_cg rfl rfl (show r + u * wt = F230 30 5 by omega) (tt_one (by omega) (by omega) (by omega) j6 hnl (hon.mpr y.2) (by omega)) | exact tt_cg rfl rfl (show F1 30 5 = F230 30 5 by omega) (tt_skip j6 (tt_last (fun w => y.2 (hon.mp w)))) | fail) (by omega) (by omega) (by omega)
                  · skip
                    refine sA_aload_n dd_X5_tryTwists_204 rfl (.tail _ (.tail _ (.tail _ (.tail _ (.tail _ (.head _)))))) ?_
                    refine sA_iload dd_X5_tryTwists_205 (.tail _ (.head _)) ?_
                    refine sA_put (ci := 5) (j := 5) (q := (RX5, TX5, 6)) (ty := .int) dd_X5_tryTwists_207 rfl (by decide) fl_X5_53 rfl (tyX5_ok 5 (by decide)) rfl rfl (by decide) gs_s30 rfl ?_
                    have I258 : gs_I (gs_up F230 30 5 (r + (u * wt))) A231 := gs_I_put I236 (show (-2147483648 : Int) ≤ r + (u * wt) ∧ r + (u * wt) ≤ 2147483647 by omega)
                    have f259 := gs_fr_put f240 (a := 30) (z := r + (u * wt)) (j := 5) (by first | omega | (dsimp only; omega) | (dsimp only) | fail)
                    have v260 : gs_up F230 30 5 (r + (u * wt)) 30 5 = r + (u * wt) := gs_up_self _ _ _ _
                    have v261 : (gs_up F230 30 5 (r + (u * wt))) 5 0 = F230 5 0 := gs_up_ne _ _ (by omega)
                    generalize gs_up F230 30 5 (r + (u * wt)) = F257 at I258 f259 v260 v261 ⊢
                    refine sA_iinc (lv' := [(7, gs_iv (u + 1)), (9, .ref 41), (8, gs_iv (r + (u * wt))), (6, gs_iv sz), (5, gs_iv lt), (0, .ref 30), (1, gs_iv 2), (2, gs_iv k), (3, gs_iv r), (4, gs_iv wt)]) dd_X5_tryTwists_210 (.tail _ (.tail _ (.head _))) (by decide) rfl ?_
                    refine sA_goto (tgt := 47) dd_X5_tryTwists_213 (by decide) ?_
                    have b262 : (1 : Int) ≤ F257 5 0 ∧ F257 5 0 ≤ 8 := I258.1 5 0
                    have b263 : (-2147483648 : Int) ≤ F257 30 5 ∧ F257 30 5 ≤ 2147483647 := I258.1 30 5
                    refine sA_sub (lv2 := [(7, gs_iv (u + 1)), (6, gs_iv sz), (5, gs_iv lt), (0, .ref 30), (1, gs_iv 2), (2, gs_iv k), (3, gs_iv r), (4, gs_iv wt)]) (List.forall_mem_cons.mpr ⟨(.head _), (List.forall_mem_cons.mpr ⟨(.tail _ (.tail _ (.tail _ (.head _)))), (List.forall_mem_cons.mpr ⟨(.tail _ (.tail _ (.tail _ (.tail _ (.head _))))), (List.forall_mem_cons.mpr ⟨(.tail _ (.tail _ (.tail _ (.tail _ (.tail _ (.head _)))))), (List.forall_mem_cons.mpr ⟨(.tail _ (.tail _ (.tail _ (.tail _ (.tail _ (.tail _ (.head _))))))), (List.forall_mem_cons.mpr ⟨(.tail _ (.tail _ (.tail _ (.tail _ (.tail _ (.tail _ (.tail _ (.head _)))))))), (List.forall_mem_cons.mpr ⟨(.tail _ (.tail _ (.tail _ (.tail _ (.tail _ (.tail _ (.tail _ (.tail _ (.head _))))))))), (List.forall_mem_cons.mpr ⟨(.tail _ (.tail _ (.tail _ (.tail _ (.tail _ (.tail _ (.tail _ (.tail _ (.tail _ (.head _)))))))))), (fun _ h => absurd h List.not_mem_nil)⟩)⟩)⟩)⟩)⟩)⟩)⟩)⟩) ?_
                    exact ih lt sz (u + 1) F257 A231 I258 f259 (by omega) (by omega) (by omega) (by omega) (by omega) i5 (by have j6 := i6; rw [show (k - 2).toNat = 1 by omega] at j6 ⊢; rcases y253 with y | y <;> first | (exfalso; omega) | exact tt_cg rfl rfl (show r + u * wt = F257 30 5 by omega) (tt_one (by omega) (by omega) (by omega) j6 hnl (hon.mpr y.2) (by omega)) | exact tt_cg rfl rfl (show F1 30 5 = F257 30 5 by omega) (tt_skip j6 (tt_last (fun w => y.2 (hon.mp w)))) | fail) (by omega) (by omega) (by omega)
                · skip
                  have hlg : 400 < (sp_tw (sp_w g u) (gs_stk (A 40) (F 39 1).toNat)).length := by
                    rcases y153 with y | y
                    · exfalso
                      omega
                    · exact y.2
                  refine sA_goto (tgt := 210) dd_X5_tryTwists_159 (by decide) ?_
                  refine sA_iinc (lv' := [(7, gs_iv (u + 1)), (9, .ref 41), (8, gs_iv (r + (u * wt))), (6, gs_iv sz), (5, gs_iv lt), (0, .ref 30), (1, gs_iv 2), (2, gs_iv k), (3, gs_iv r), (4, gs_iv wt)]) dd_X5_tryTwists_210 (.tail _ (.tail _ (.head _))) (by decide) rfl ?_
                  refine sA_goto (tgt := 47) dd_X5_tryTwists_213 (by decide) ?_
                  have b264 : (1 : Int) ≤ F230 5 0 ∧ F230 5 0 ≤ 8 := I236.1 5 0
                  have b265 : (-2147483648 : Int) ≤ F230 30 5 ∧ F230 30 5 ≤ 2147483647 := I236.1 30 5
                  refine sA_sub (lv2 := [(7, gs_iv (u + 1)), (6, gs_iv sz), (5, gs_iv lt), (0, .ref 30), (1, gs_iv 2), (2, gs_iv k), (3, gs_iv r), (4, gs_iv wt)]) (List.forall_mem_cons.mpr ⟨(.head _), (List.forall_mem_cons.mpr ⟨(.tail _ (.tail _ (.tail _ (.head _)))), (List.forall_mem_cons.mpr ⟨(.tail _ (.tail _ (.tail _ (.tail _ (.head _))))), (List.forall_mem_cons.mpr ⟨(.tail _ (.tail _ (.tail _ (.tail _ (.tail _ (.head _)))))), (List.forall_mem_cons.mpr ⟨(.tail _ (.tail _ (.tail _ (.tail _ (.tail _ (.tail _ (.head _))))))), (List.forall_mem_cons.mpr ⟨(.tail _ (.tail _ (.tail _ (.tail _ (.tail _ (.tail _ (.tail _ (.head _)))))))), (List.forall_mem_cons.mpr ⟨(.tail _ (.tail _ (.tail _ (.tail _ (.tail _ (.tail _ (.tail _ (.tail _ (.head _))))))))), (List.forall_mem_cons.mpr ⟨(.tail _ (.tail _ (.tail _ (.tail _ (.tail _ (.tail _ (.tail _ (.tail _ (.tail _ (.head _)))))))))), (fun _ h => absurd h List.not_mem_nil)⟩)⟩)⟩)⟩)⟩)⟩)⟩)⟩) ?_
                  exact ih lt sz (u + 1) F230 A231 I236 f240 (by omega) (by omega) (by omega) (by omega) (by omega) i5 (by have j6 := i6; rw [show (k - 2).toNat = (k - 3).toNat + 1 by omega] at j6 ⊢; exact tt_cg rfl rfl (show F1 30 5 = F230 30 5 by omega) (tt_skip j6 (tt_large hlg))) (by omega) (by omega) (by omega)
              · skip
                refine sA_goto (tgt := 210) dd_X5_tryTwists_121 (by decide) ?_
                refine sA_iinc (lv' := [(7, gs_iv (u + 1)), (8, gs_iv (r + (u * wt))), (6, gs_iv sz), (5, gs_iv lt), (0, .ref 30), (1, gs_iv 2), (2, gs_iv k), (3, gs_iv r), (4, gs_iv wt)]) dd_X5_tryTwists_210 (.tail _ (.head _)) (by decide) rfl ?_
                refine sA_goto (tgt := 47) dd_X5_tryTwists_213 (by decide) ?_
                refine sA_sub (lv2 := [(7, gs_iv (u + 1)), (6, gs_iv sz), (5, gs_iv lt), (0, .ref 30), (1, gs_iv 2), (2, gs_iv k), (3, gs_iv r), (4, gs_iv wt)]) (List.forall_mem_cons.mpr ⟨(.head _), (List.forall_mem_cons.mpr ⟨(.tail _ (.tail _ (.head _))), (List.forall_mem_cons.mpr ⟨(.tail _ (.tail _ (.tail _ (.head _)))), (List.forall_mem_cons.mpr ⟨(.tail _ (.tail _ (.tail _ (.tail _ (.head _))))), (List.forall_mem_cons.mpr ⟨(.tail _ (.tail _ (.tail _ (.tail _ (.tail _ (.head _)))))), (List.forall_mem_cons.mpr ⟨(.tail _ (.tail _ (.tail _ (.tail _ (.tail _ (.tail _ (.head _))))))), (List.forall_mem_cons.mpr ⟨(.tail _ (.tail _ (.tail _ (.tail _ (.tail _ (.tail _ (.tail _ (.head _)))))))), (List.forall_mem_cons.mpr ⟨(.tail _ (.tail _ (.tail _ (.tail _ (.tail _ (.tail _ (.tail _ (.tail _ (.head _))))))))), (fun _ h => absurd h List.not_mem_nil)⟩)⟩)⟩)⟩)⟩)⟩)⟩)⟩) ?_
                exact ih lt sz (u + 1) F1 A1 hI1 hf1 (by omega) (by omega) (by omega) (by omega) (by omega) i5 (by have j6 := i6; rw [show (k - 2).toNat = 1 by omega] at j6 ⊢; exact tt_skip j6 (tt_prune hg (by omega) hrd hV hahu i5 (by omega))) (by omega) (by omega) (by omega)
          · skip
            refine sA_vret dd_X5_tryTwists_92 rfl ?_
            refine ⟨rfl, hI1, hf1, ?_⟩
            have j6 := i6
            rw [show (k - 2).toNat = 1 by omega] at j6 ⊢
            exact tt_stop (by omega) (by omega) (by omega) j6
theorem c_X5_tryTwists_v2f {k r wt g : Int} {F A : gs_F} (hI : gs_I F A) (hk : 0 ≤ k ∧ k ≤ 3) (hkd : 2 < k) (hr0 : 0 ≤ r ∧ r < wt) (hwt : 1 ≤ wt ∧ wt ≤ 256) (hg : 1 ≤ g ∧ g ≤ 3) (h5 : F 5 0 = 3 * g - 1) (hW : gs_W (A 6) g) (hV : sp_val g (gs_stk (A 40) (F 39 1).toNat)) (hrd : sp_red (gs_stk (A 40) (F 39 1).toNat)) (hah : ∀ u : Int, 0 ≤ u → u < 2 * F 5 0 → A 32 u.toNat = -1 ∨ cy_rep (sp_tw (sp_w g (sp_fl u)) (gs_stk (A 34) (F 33 1).toNat)) (A 32 u.toNat)) (h30 : F 30 5 = -1 ∨ 0 ≤ F 30 5) : sC m_X5_tryTwists 4 [.ref 30, gs_iv 2, gs_iv k, gs_iv r, gs_iv wt] F A (fun rv F' A' => rv = none ∧ gs_I F' A' ∧ gs_fr (fun c j => (c = 30 ∧ j = 5) ∨ (41 ≤ c ∧ c < 43 ∧ j = 1)) (fun c => c = 7 ∨ (41 ≤ c ∧ c < 43)) F A F' A' ∧ (tt_best (tt_S g (2 * (3 * g - 1)) (gs_stk (A 40) (F 39 1).toNat) (A 34) (F 33 1) (k - 2).toNat r wt (2 * (3 * g - 1))) (F 30 5) (F' 30 5))) := by
  refine sC_of ok_X5_tryTwists.1 (Nat.le_of_ble_eq_true rfl) ?_
  show sA _ _ _ 0 [(0, .ref 30), (1, gs_iv 2), (2, gs_iv k), (3, gs_iv r), (4, gs_iv wt)] [] F A
  have hf : gs_fr (fun c j => (c = 30 ∧ j = 5) ∨ (41 ≤ c ∧ c < 43 ∧ j = 1)) (fun c => c = 7 ∨ (41 ≤ c ∧ c < 43)) F A F A := gs_fr_refl _ _ _ _
  have b266 : (1 : Int) ≤ F 5 0 ∧ F 5 0 ≤ 8 := hI.1 5 0
  have b267 : (-2147483648 : Int) ≤ F 30 5 ∧ F 30 5 ≤ 2147483647 := hI.1 30 5
  have hgg : (1 : Int) ≤ g ∧ g ≤ 3 := hg
  refine sA_iload_n dd_X5_tryTwists_0 rfl (.tail _ (.head _)) ?_
  refine sA_if_lt (tgt := 18) dd_X5_tryTwists_1 (by decide) (by omega) (fun q268 => absurd q268 (by omega)) (fun q268 => ?_)
  refine sA_iload_n dd_X5_tryTwists_4 rfl (.tail _ (.head _)) ?_
  refine sA_iload_n dd_X5_tryTwists_5 rfl (.tail _ (.tail _ (.head _))) ?_
  refine sA_icmp_ge (tgt := 18) dd_X5_tryTwists_6 (by decide) (by omega) (by omega) (fun q269 => ?_) (fun q269 => ?_)
  · skip
    refine sA_vret dd_X5_tryTwists_18 rfl ?_
    refine ⟨rfl, hI, hf, ?_⟩
    exfalso
    omega
  · skip
    refine sA_iload_n dd_X5_tryTwists_9 rfl (.tail _ (.tail _ (.head _))) ?_
    refine sA_aload_n dd_X5_tryTwists_10 rfl (.head _) ?_
    refine sA_getr (ci := 5) (j := 2) (q := (RX5, TX5, 6)) dd_X5_tryTwists_11 rfl (by decide) fl_X5_11 (by decide) gs_s30 rfl ?_
    refine sA_alenq (n := 4) dd_X5_tryTwists_14 (by decide) (by decide) gs_s31 ?_
    refine sA_icmp_lt (tgt := 19) dd_X5_tryTwists_15 (by decide) (by omega) (by omega) (fun q270 => ?_) (fun q270 => ?_)
    · skip
      refine sA_iload_n dd_X5_tryTwists_19 rfl (.tail _ (.head _)) ?_
      refine sA_iconst (z := 1) dd_X5_tryTwists_20 ?_
      refine sA_iadd dd_X5_tryTwists_21 ?_
      show sA _ _ _ _ _ (gs_iv 3 :: _) _ _
      refine sA_iload_n dd_X5_tryTwists_22 rfl (.tail _ (.tail _ (.head _))) ?_
      refine sA_icmp_ne (tgt := 30) dd_X5_tryTwists_23 (by decide) (by omega) (by omega) (fun q271 => ?_) (fun q271 => ?_)
      · skip
        refine sA_iconst (z := 0) dd_X5_tryTwists_30 ?_
        refine sA_istore (lv' := [(5, gs_iv 0), (0, .ref 30), (1, gs_iv 2), (2, gs_iv k), (3, gs_iv r), (4, gs_iv wt)]) dd_X5_tryTwists_31 (by decide) rfl ?_
        refine sA_aload_n dd_X5_tryTwists_33 rfl (.tail _ (.head _)) ?_
        refine sA_getr (ci := 5) (j := 2) (q := (RX5, TX5, 6)) dd_X5_tryTwists_34 rfl (by decide) fl_X5_11 (by decide) gs_s30 rfl ?_
        refine sA_iload_n dd_X5_tryTwists_37 rfl (.tail _ (.tail _ (.head _))) ?_
        refine sA_aald (n := 4) dd_X5_tryTwists_38 (by decide) (by decide) (by decide) gs_s31 (by omega) (by decide) ?_
        show sA _ _ _ _ _ (.ref 39 :: _) _ _
        refine sA_callV (y2 := m_X4_closedSize) (n2 := 0) (d2 := 2) (a := 39) (ci := 4) (q := (RX4, TX4, 2)) (as := []) (rest := []) dd_X5_tryTwists_39 ok_X4_closedSize ml_X5_73 rfl rfl (Nat.lt_of_succ_lt gs_row_39.1) gs_row_39.2.1 rfl rfl (Nat.le_of_ble_eq_true rfl) (by decide) (c_X4_closedSize_vf hI gs_row_39) (fun r273 F274 A275 h276 => ?_)
        obtain ⟨z279, e278, e280, e281, x277⟩ := h276
        subst e278 e280 e281
        have y282 : cy_rep (gs_stk (A 40) (F 39 1).toNat) z279 ∧ 0 ≤ z279 ∧ z279 ≤ 400 := x277
        clear x277
        show sA _ _ _ 42 _ [gs_iv z279] _ _
        refine sA_istore (lv' := [(6, gs_iv z279), (5, gs_iv 0), (0, .ref 30), (1, gs_iv 2), (2, gs_iv k), (3, gs_iv r), (4, gs_iv wt)]) dd_X5_tryTwists_42 (by decide) rfl ?_
        refine sA_iconst (z := 0) dd_X5_tryTwists_44 ?_
        refine sA_istore (lv' := [(7, gs_iv 0), (6, gs_iv z279), (5, gs_iv 0), (0, .ref 30), (1, gs_iv 2), (2, gs_iv k), (3, gs_iv r), (4, gs_iv wt)]) dd_X5_tryTwists_45 (by decide) rfl ?_
        refine sA_sub (lv2 := [(7, gs_iv 0), (6, gs_iv z279), (5, gs_iv 0), (0, .ref 30), (1, gs_iv 2), (2, gs_iv k), (3, gs_iv r), (4, gs_iv wt)]) (List.forall_mem_cons.mpr ⟨(.head _), (List.forall_mem_cons.mpr ⟨(.tail _ (.head _)), (List.forall_mem_cons.mpr ⟨(.tail _ (.tail _ (.head _))), (List.forall_mem_cons.mpr ⟨(.tail _ (.tail _ (.tail _ (.head _)))), (List.forall_mem_cons.mpr ⟨(.tail _ (.tail _ (.tail _ (.tail _ (.head _))))), (List.forall_mem_cons.mpr ⟨(.tail _ (.tail _ (.tail _ (.tail _ (.tail _ (.head _)))))), (List.forall_mem_cons.mpr ⟨(.tail _ (.tail _ (.tail _ (.tail _ (.tail _ (.tail _ (.head _))))))), (List.forall_mem_cons.mpr ⟨(.tail _ (.tail _ (.tail _ (.tail _ (.tail _ (.tail _ (.tail _ (.head _)))))))), (fun _ h => absurd h List.not_mem_nil)⟩)⟩)⟩)⟩)⟩)⟩)⟩)⟩) ?_
        exact (k_X5_tryTwists_v2f hI hk hkd hr0 hwt hg h5 hW hV hrd hah h30 (16 - 0 : Int).toNat.succ) 0 z279 0 F A hI hf (by omega) (by omega) (by omega) (by omega) (by omega) y282.1 (tt_0 (by omega)) (by omega) (by omega) (by omega)
      · skip
        refine sA_iconst (z := 1) dd_X5_tryTwists_26 ?_
        refine sA_goto (tgt := 31) dd_X5_tryTwists_27 (by decide) ?_
        refine sA_istore (lv' := [(5, gs_iv 1), (0, .ref 30), (1, gs_iv 2), (2, gs_iv k), (3, gs_iv r), (4, gs_iv wt)]) dd_X5_tryTwists_31 (by decide) rfl ?_
        refine sA_aload_n dd_X5_tryTwists_33 rfl (.tail _ (.head _)) ?_
        refine sA_getr (ci := 5) (j := 2) (q := (RX5, TX5, 6)) dd_X5_tryTwists_34 rfl (by decide) fl_X5_11 (by decide) gs_s30 rfl ?_
        refine sA_iload_n dd_X5_tryTwists_37 rfl (.tail _ (.tail _ (.head _))) ?_
        refine sA_aald (n := 4) dd_X5_tryTwists_38 (by decide) (by decide) (by decide) gs_s31 (by omega) (by decide) ?_
        show sA _ _ _ _ _ (.ref 39 :: _) _ _
        refine sA_callV (y2 := m_X4_closedSize) (n2 := 0) (d2 := 2) (a := 39) (ci := 4) (q := (RX4, TX4, 2)) (as := []) (rest := []) dd_X5_tryTwists_39 ok_X4_closedSize ml_X5_73 rfl rfl (Nat.lt_of_succ_lt gs_row_39.1) gs_row_39.2.1 rfl rfl (Nat.le_of_ble_eq_true rfl) (by decide) (c_X4_closedSize_vf hI gs_row_39) (fun r284 F285 A286 h287 => ?_)
        obtain ⟨z290, e289, e291, e292, x288⟩ := h287
        subst e289 e291 e292
        have y293 : cy_rep (gs_stk (A 40) (F 39 1).toNat) z290 ∧ 0 ≤ z290 ∧ z290 ≤ 400 := x288
        clear x288
        show sA _ _ _ 42 _ [gs_iv z290] _ _
        refine sA_istore (lv' := [(6, gs_iv z290), (5, gs_iv 1), (0, .ref 30), (1, gs_iv 2), (2, gs_iv k), (3, gs_iv r), (4, gs_iv wt)]) dd_X5_tryTwists_42 (by decide) rfl ?_
        refine sA_iconst (z := 0) dd_X5_tryTwists_44 ?_
        refine sA_istore (lv' := [(7, gs_iv 0), (6, gs_iv z290), (5, gs_iv 1), (0, .ref 30), (1, gs_iv 2), (2, gs_iv k), (3, gs_iv r), (4, gs_iv wt)]) dd_X5_tryTwists_45 (by decide) rfl ?_
        refine sA_sub (lv2 := [(7, gs_iv 0), (6, gs_iv z290), (5, gs_iv 1), (0, .ref 30), (1, gs_iv 2), (2, gs_iv k), (3, gs_iv r), (4, gs_iv wt)]) (List.forall_mem_cons.mpr ⟨(.head _), (List.forall_mem_cons.mpr ⟨(.tail _ (.head _)), (List.forall_mem_cons.mpr ⟨(.tail _ (.tail _ (.head _))), (List.forall_mem_cons.mpr ⟨(.tail _ (.tail _ (.tail _ (.head _)))), (List.forall_mem_cons.mpr ⟨(.tail _ (.tail _ (.tail _ (.tail _ (.head _))))), (List.forall_mem_cons.mpr ⟨(.tail _ (.tail _ (.tail _ (.tail _ (.tail _ (.head _)))))), (List.forall_mem_cons.mpr ⟨(.tail _ (.tail _ (.tail _ (.tail _ (.tail _ (.tail _ (.head _))))))), (List.forall_mem_cons.mpr ⟨(.tail _ (.tail _ (.tail _ (.tail _ (.tail _ (.tail _ (.tail _ (.head _)))))))), (fun _ h => absurd h List.not_mem_nil)⟩)⟩)⟩)⟩)⟩)⟩)⟩)⟩) ?_
        exact (k_X5_tryTwists_v2f hI hk hkd hr0 hwt hg h5 hW hV hrd hah h30 (16 - 0 : Int).toNat.succ) 1 z290 0 F A hI hf (by omega) (by omega) (by omega) (by omega) (by omega) y293.1 (tt_0 (by omega)) (by omega) (by omega) (by omega)
    · skip
      refine sA_vret dd_X5_tryTwists_18 rfl ?_
      refine ⟨rfl, hI, hf, ?_⟩
      exfalso
      omega
theorem k_X5_tryTwists_v1f {k r wt g : Int} {F A : gs_F} (hI : gs_I F A) (hk : 0 ≤ k ∧ k ≤ 3) (hkd : 1 < k) (hr0 : 0 ≤ r ∧ r < wt) (hwt : 1 ≤ wt ∧ wt ≤ 16) (hg : 1 ≤ g ∧ g ≤ 3) (h5 : F 5 0 = 3 * g - 1) (hW : gs_W (A 6) g) (hV : sp_val g (gs_stk (A 38) (F 37 1).toNat)) (hrd : sp_red (gs_stk (A 38) (F 37 1).toNat)) (hah : ∀ u : Int, 0 ≤ u → u < 2 * F 5 0 → A 32 u.toNat = -1 ∨ cy_rep (sp_tw (sp_w g (sp_fl u)) (gs_stk (A 34) (F 33 1).toNat)) (A 32 u.toNat)) (h30 : F 30 5 = -1 ∨ 0 ≤ F 30 5) : ∀ nN : Nat, (∀ (lt : Int) (sz : Int) (u : Int)  (F1 A1 : gs_F), gs_I F1 A1 → gs_fr (fun c j => (c = 30 ∧ j = 5) ∨ (39 ≤ c ∧ c < 43 ∧ j = 1)) (fun c => c = 7 ∨ (39 ≤ c ∧ c < 43)) F A F1 A1 → 0 ≤ u ∧ u ≤ 16 → -2147483648 ≤ sz ∧ sz ≤ 2147483647 → lt = 0 ∨ lt = 1 → 1 < k → (lt = 1 ∧ k = 2) ∨ (lt = 0 ∧ 2 < k) → cy_rep (gs_stk (A 38) (F 37 1).toNat) sz → tt_best (tt_S g (2 * (3 * g - 1)) (gs_stk (A 38) (F 37 1).toNat) (A 34) (F 33 1) (k - 1).toNat r wt u) (F 30 5) (F1 30 5) → F1 5 0 = F 5 0 ∧ u ≤ 2 * F 5 0 → -1 ≤ F1 30 5 ∧ 0 ≤ sz ∧ sz ≤ 400 → 16 - u < (nN : Int) → sA m_X5_tryTwists 5 (fun rv F' A' => rv = none ∧ gs_I F' A' ∧ gs_fr (fun c j => (c = 30 ∧ j = 5) ∨ (39 ≤ c ∧ c < 43 ∧ j = 1)) (fun c => c = 7 ∨ (39 ≤ c ∧ c < 43)) F A F' A' ∧ (tt_best (tt_S g (2 * (3 * g - 1)) (gs_stk (A 38) (F 37 1).toNat) (A 34) (F 33 1) (k - 1).toNat r wt (2 * (3 * g - 1))) (F 30 5) (F' 30 5))) 47 [(7, gs_iv u), (6, gs_iv sz), (5, gs_iv lt), (0, .ref 30), (1, gs_iv 1), (2, gs_iv k), (3, gs_iv r), (4, gs_iv wt)] [] F1 A1) := by
  intro nN
  induction nN with
  | zero =>
    exact fun a0 a1 a2 a3 a4 a5 a6 i0 i1 i2 i3 i4 i5 i6 i7 i8 hm => by exfalso; omega
  | succ nN ih =>
    intro lt sz u F1 A1 hI1 hf1 i0 i1 i2 i3 i4 i5 i6 i7 i8 hm
    have b1 : (1 : Int) ≤ F1 5 0 ∧ F1 5 0 ≤ 8 := hI1.1 5 0
    have b2 : (-2147483648 : Int) ≤ F1 30 5 ∧ F1 30 5 ≤ 2147483647 := hI1.1 30 5
    refine sA_iload dd_X5_tryTwists_47 (.head _) ?_
    refine sA_iconst (z := 2) dd_X5_tryTwists_49 ?_
    refine sA_aload_n dd_X5_tryTwists_50 rfl (.tail _ (.tail _ (.tail _ (.head _)))) ?_
    refine sA_getr (ci := 5) (j := 0) (q := (RX5, TX5, 6)) dd_X5_tryTwists_51 rfl (by decide) fl_X5_28 (by decide) gs_s30 rfl ?_
    refine sA_geti (ci := 7) (j := 0) (q := (RX7, TX7, 5)) dd_X5_tryTwists_54 rfl (by decide) fl_X5_64 (by decide) gs_s5 rfl ?_
    refine sA_imul dd_X5_tryTwists_57 ?_
    refine sA_icmp_ge (tgt := 216) dd_X5_tryTwists_58 (by decide) (by omega) (by omega) (fun q3 => ?_) (fun q3 => ?_)
    · skip
      refine sA_vret dd_X5_tryTwists_216 rfl ?_
      refine ⟨rfl, hI1, hf1, ?_⟩
      exact tt_all (by omega) i6
    · skip
      have hmb := gs_mul_bd (x := u) (y := wt) (m := 16) (k := 16) (by omega) (by omega) (by omega)
      have hnn := Int.mul_nonneg (show 0 ≤ u by omega) (show 0 ≤ wt by omega)
      have e32 : A1 32 = A 32 := hf1.2 32 (by dsimp only; omega)
      refine sA_iload_n dd_X5_tryTwists_61 rfl (.tail _ (.tail _ (.tail _ (.tail _ (.tail _ (.tail _ (.head _))))))) ?_
      refine sA_iload dd_X5_tryTwists_62 (.head _) ?_
      refine sA_iload dd_X5_tryTwists_64 (.tail _ (.tail _ (.tail _ (.tail _ (.tail _ (.tail _ (.tail _ (.head _)))))))) ?_
      refine sA_imul dd_X5_tryTwists_66 ?_
      refine sA_iadd dd_X5_tryTwists_67 ?_
      refine sA_istore (lv' := [(8, gs_iv (r + (u * wt))), (7, gs_iv u), (6, gs_iv sz), (5, gs_iv lt), (0, .ref 30), (1, gs_iv 1), (2, gs_iv k), (3, gs_iv r), (4, gs_iv wt)]) dd_X5_tryTwists_68 (by decide) rfl ?_
      refine sA_iload dd_X5_tryTwists_70 (.tail _ (.tail _ (.tail _ (.head _)))) ?_
      refine sA_if_eq (tgt := 93) dd_X5_tryTwists_72 (by decide) (by omega) (fun q4 => ?_) (fun q4 => ?_)
      · skip
        refine sA_iload dd_X5_tryTwists_93 (.tail _ (.tail _ (.tail _ (.head _)))) ?_
        refine sA_if_eq (tgt := 124) dd_X5_tryTwists_95 (by decide) (by omega) (fun q5 => ?_) (fun q5 => absurd q5 (by omega))
        refine sA_aload_n dd_X5_tryTwists_124 rfl (.tail _ (.tail _ (.tail _ (.tail _ (.head _))))) ?_
        refine sA_getr (ci := 5) (j := 2) (q := (RX5, TX5, 6)) dd_X5_tryTwists_125 rfl (by decide) fl_X5_11 (by decide) gs_s30 rfl ?_
        refine sA_iload_n dd_X5_tryTwists_128 rfl (.tail _ (.tail _ (.tail _ (.tail _ (.tail _ (.head _)))))) ?_
        refine sA_iconst (z := 1) dd_X5_tryTwists_129 ?_
        refine sA_iadd dd_X5_tryTwists_130 ?_
        show sA _ _ _ _ _ (gs_iv 2 :: _) _ _
        refine sA_aald (n := 4) dd_X5_tryTwists_131 (by decide) (by decide) (by decide) gs_s31 (by omega) (by decide) ?_
        show sA _ _ _ _ _ (.ref 39 :: _) _ _
        refine sA_astore (lv' := [(9, .ref 39), (8, gs_iv (r + (u * wt))), (7, gs_iv u), (6, gs_iv sz), (5, gs_iv lt), (0, .ref 30), (1, gs_iv 1), (2, gs_iv k), (3, gs_iv r), (4, gs_iv wt)]) dd_X5_tryTwists_132 (by decide) rfl ?_
        refine sA_aload dd_X5_tryTwists_134 (.head _) ?_
        refine sA_aload_n dd_X5_tryTwists_136 rfl (.tail _ (.tail _ (.tail _ (.tail _ (.tail _ (.head _)))))) ?_
        refine sA_getr (ci := 5) (j := 2) (q := (RX5, TX5, 6)) dd_X5_tryTwists_137 rfl (by decide) fl_X5_11 (by decide) gs_s30 rfl ?_
        refine sA_iload_n dd_X5_tryTwists_140 rfl (.tail _ (.tail _ (.tail _ (.tail _ (.tail _ (.tail _ (.head _))))))) ?_
        refine sA_aald (n := 4) dd_X5_tryTwists_141 (by decide) (by decide) (by decide) gs_s31 (by omega) (by decide) ?_
        show sA _ _ _ _ _ (.ref 37 :: _) _ _
        refine sA_callV (y2 := m_X4_copy) (n2 := 1) (d2 := 1) (a := 39) (ci := 4) (q := (RX4, TX4, 2)) (as := [.ref 37]) (rest := []) dd_X5_tryTwists_142 ok_X4_copy ml_X5_36 rfl rfl (Nat.lt_of_succ_lt gs_row_39.1) gs_row_39.2.1 rfl rfl (Nat.le_of_ble_eq_true rfl) (by decide) (c_X4_copy_vf hI1 gs_row_39 gs_row_37) (fun r8 F9 A10 h11 => ?_)
        obtain ⟨e13, I14, f15, x12⟩ := h11
        subst e13
        have v16 : F9 5 0 = F1 5 0 := f15.1 5 0 (by first | exact id | omega | (dsimp only; omega) | (dsimp only) | fail)
        have v17 : F9 30 5 = F1 30 5 := f15.1 30 5 (by first | exact id | omega | (dsimp only; omega) | (dsimp only) | fail)
        have f18 := gs_fr_tr hf1 f15 (fun b j h => by first | exact False.elim h | omega | (dsimp only at h ⊢; omega) | fail) (fun b h => by first | exact False.elim h | omega | (dsimp only at h ⊢; omega) | fail)
        have y19 : F1 37 1 ≤ (400 : Int) → (F9 39 1 = F1 37 1 ∧ A10 40 = gs_cc (A1 38) (A1 40) 0 0 (F1 37 1).toNat) := x12
        clear x12
        show sA _ _ _ 145 _ [] _ _
        refine sA_aload_n dd_X5_tryTwists_145 rfl (.tail _ (.tail _ (.tail _ (.tail _ (.tail _ (.head _)))))) ?_
        refine sA_getr (ci := 5) (j := 0) (q := (RX5, TX5, 6)) dd_X5_tryTwists_146 rfl (by decide) fl_X5_28 (by decide) gs_s30 rfl ?_
        refine sA_iload dd_X5_tryTwists_149 (.tail _ (.tail _ (.head _))) ?_
        refine sA_aload dd_X5_tryTwists_151 (.head _) ?_
        have er1 : A1 38 = A 38 := hf1.2 38 (by dsimp only; omega)
        have er2 : F1 37 1 = F 37 1 := hf1.1 37 1 (by dsimp only; omega)
        have hbr := gs_row_sz gs_row_37 hI1
        obtain ⟨c1, c2⟩ := y19 (by omega)
        have hstk : (gs_stk (A10 40) (F9 39 1).toNat) = (gs_stk (A 38) (F 37 1).toNat) := by
          rw [c1, c2, er1, er2]
          refine gs_stk_cg _ (fun i hi => ?_)
          unfold gs_cc
          rw [if_pos (by omega)]
          congr 1
          omega
        have hV1 : sp_val g (gs_stk (A10 40) (F9 39 1).toNat) := by rw [hstk]; exact hV
        have hW1 : gs_W (A10 6) g := by rw [f18.2 6 (by dsimp only; omega)]; exact hW
        have hL : (400 : Nat) = 400 := rfl
        refine sA_callV (y2 := m_X7_doTwist) (n2 := 2) (d2 := 2) (a := 5) (ci := 7) (q := (RX7, TX7, 5)) (as := [gs_iv u, .ref 39]) (rest := []) dd_X5_tryTwists_153 ok_X7_doTwist ml_X5_69 rfl rfl (by decide) gs_s5 rfl rfl (Nat.le_of_ble_eq_true rfl) (by decide) (c_X7_doTwist_vf I14 (by omega) gs_row_39 hg (by omega) hW1 hV1 hL (by omega)) (fun r20 F21 A22 h23 => ?_)
        obtain ⟨z26, e25, I27, f28, x24⟩ := h23
        subst e25
        have v29 : F21 5 0 = F9 5 0 := f28.1 5 0 (by first | exact id | omega | (dsimp only; omega) | (dsimp only) | fail)
        have v30 : F21 30 5 = F9 30 5 := f28.1 30 5 (by first | exact id | omega | (dsimp only; omega) | (dsimp only) | fail)
        have f31 := gs_fr_tr f18 f28 (fun b j h => by first | exact False.elim h | omega | (dsimp only at h ⊢; omega) | fail) (fun b h => by first | exact False.elim h | omega | (dsimp only at h ⊢; omega) | fail)
        have y32 : (z26 = 1 ∧ (sp_tw (sp_w g u) (gs_stk (A10 40) (F9 39 1).toNat)).length ≤ 400 ∧ gs_stk (A22 40) (F21 39 1).toNat = sp_tw (sp_w g u) (gs_stk (A10 40) (F9 39 1).toNat)) ∨ (z26 = 0 ∧ 400 < (sp_tw (sp_w g u) (gs_stk (A10 40) (F9 39 1).toNat)).length) := x24
        clear x24
        show sA _ _ _ 156 _ [gs_iv z26] _ _
        have y153 := y32
        rw [hstk] at y153
        refine sA_if_ne (tgt := 162) dd_X5_tryTwists_156 (by decide) (by omega) (fun q33 => ?_) (fun q33 => ?_)
        · skip
          have hys : ¬ 400 < (sp_tw (sp_w g u) (gs_stk (A 38) (F 37 1).toNat)).length ∧ (gs_stk (A22 40) (F21 39 1).toNat) = sp_tw (sp_w g u) (gs_stk (A 38) (F 37 1).toNat) := by
            rcases y153 with y | y
            · exact ⟨by have y2 := y.2.1; omega, y.2.2⟩
            · exfalso
              omega
          have hnl := hys.1
          have hrw := hys.2
          have g33 : F21 33 1 = F 33 1 := f31.1 33 1 (by dsimp only; omega)
          have g34 : A22 34 = A 34 := f31.2 34 (by dsimp only; omega)
          refine sA_iload dd_X5_tryTwists_162 (.tail _ (.tail _ (.tail _ (.tail _ (.head _))))) ?_
          refine sA_if_ne (tgt := 192) dd_X5_tryTwists_164 (by decide) (by omega) (fun q34 => absurd q34 (by omega)) (fun q34 => ?_)
          refine sA_aload_n dd_X5_tryTwists_167 rfl (.tail _ (.tail _ (.tail _ (.tail _ (.tail _ (.head _)))))) ?_
          refine sA_iload_n dd_X5_tryTwists_168 rfl (.tail _ (.tail _ (.tail _ (.tail _ (.tail _ (.tail _ (.head _))))))) ?_
          refine sA_iconst (z := 1) dd_X5_tryTwists_169 ?_
          refine sA_iadd dd_X5_tryTwists_170 ?_
          show sA _ _ _ _ _ (gs_iv 2 :: _) _ _
          refine sA_iload_n dd_X5_tryTwists_171 rfl (.tail _ (.tail _ (.tail _ (.tail _ (.tail _ (.tail _ (.tail _ (.head _)))))))) ?_
          refine sA_iload dd_X5_tryTwists_172 (.tail _ (.head _)) ?_
          refine sA_iload dd_X5_tryTwists_174 (.tail _ (.tail _ (.tail _ (.tail _ (.tail _ (.tail _ (.tail _ (.tail _ (.tail _ (.head _)))))))))) ?_
          refine sA_iconst (z := 2) dd_X5_tryTwists_176 ?_
          refine sA_imul dd_X5_tryTwists_177 ?_
          refine sA_aload_n dd_X5_tryTwists_178 rfl (.tail _ (.tail _ (.tail _ (.tail _ (.tail _ (.head _)))))) ?_
          refine sA_getr (ci := 5) (j := 0) (q := (RX5, TX5, 6)) dd_X5_tryTwists_179 rfl (by decide) fl_X5_28 (by decide) gs_s30 rfl ?_
          refine sA_geti (ci := 7) (j := 0) (q := (RX7, TX7, 5)) dd_X5_tryTwists_182 rfl (by decide) fl_X5_64 (by decide) gs_s5 rfl ?_
          have b35 : (1 : Int) ≤ F21 5 0 ∧ F21 5 0 ≤ 8 := I27.1 5 0
          refine sA_imul dd_X5_tryTwists_185 ?_
          have hW1 : gs_W (A22 6) g := by rw [f31.2 6 (by dsimp only; omega)]; exact hW
          have hV2 : sp_val g (gs_stk (A22 40) (F21 39 1).toNat) := by rw [hrw]; exact sp_tw_val hg (by omega) _ hV
          have hrd2 : sp_red (gs_stk (A22 40) (F21 39 1).toNat) := by rw [hrw]; exact sp_tw_red _ _
          have h50 : F21 5 0 = F 5 0 := f31.1 5 0 (by dsimp only; omega)
          have hah2 : ∀ u : Int, 0 ≤ u → u < 2 * F21 5 0 → A22 32 u.toNat = -1 ∨ cy_rep (sp_tw (sp_w g (sp_fl u)) (gs_stk (A22 34) (F21 33 1).toNat)) (A22 32 u.toNat) := by
            rw [f31.2 32 (by dsimp only; omega), g33, g34, h50]
            exact hah
          have hwB : wt * 2 * F21 5 0 = wt * (2 * (3 * g - 1)) := by rw [show F21 5 0 = 3 * g - 1 by omega, Int.mul_assoc]
          have hwb := gs_mul_bd (x := wt) (y := (2 * (3 * g - 1))) (m := 16) (k := 16) (by omega) (by omega) (by omega)
          have hwg := gs_mul_ge (x := wt) (y := (2 * (3 * g - 1))) (by omega) (by omega)
          have hlt := tt_lt (r := r) (wt := wt) (u := u) (B := (2 * (3 * g - 1))) (by omega) (by omega)
          refine sA_callV (y2 := m_X5_tryTwists) (n2 := 4) (d2 := 4) (a := 30) (ci := 5) (q := (RX5, TX5, 6)) (as := [gs_iv 2, gs_iv k, gs_iv (r + (u * wt)), gs_iv ((wt * 2) * (F21 5 0))]) (rest := []) dd_X5_tryTwists_186 ok_X5_tryTwists ml_X5_56 rfl rfl (by decide) gs_s30 rfl rfl (Nat.le_of_ble_eq_true rfl) (by decide) (c_X5_tryTwists_v2f I27 (by omega) (by omega) (by omega) (by omega) hg (by omega) hW1 hV2 hrd2 hah2 (by omega)) (fun r36 F37 A38 h39 => ?_)
          obtain ⟨e41, I42, f43, x40⟩ := h39
          subst e41
          have v44 : F37 5 0 = F21 5 0 := f43.1 5 0 (by first | exact id | omega | (dsimp only; omega) | (dsimp only) | fail)
          have f46 := gs_fr_tr f31 f43 (fun b j h => by first | exact False.elim h | omega | (dsimp only at h ⊢; omega) | fail) (fun b h => by first | exact False.elim h | omega | (dsimp only at h ⊢; omega) | fail)
          have y47 : tt_best (tt_S g (2 * (3 * g - 1)) (gs_stk (A22 40) (F21 39 1).toNat) (A22 34) (F21 33 1) (k - 2).toNat (r + (u * wt)) ((wt * 2) * (F21 5 0)) (2 * (3 * g - 1))) (F21 30 5) (F37 30 5) := x40
          clear x40
          show sA _ _ _ 189 _ [] _ _
          have hrec := y47
          rw [hwB, hrw, g33, g34, show F21 30 5 = F1 30 5 by omega] at hrec
          refine sA_goto (tgt := 210) dd_X5_tryTwists_189 (by decide) ?_
          refine sA_iinc (lv' := [(7, gs_iv (u + 1)), (9, .ref 39), (8, gs_iv (r + (u * wt))), (6, gs_iv sz), (5, gs_iv lt), (0, .ref 30), (1, gs_iv 1), (2, gs_iv k), (3, gs_iv r), (4, gs_iv wt)]) dd_X5_tryTwists_210 (.tail _ (.tail _ (.head _))) (by decide) rfl ?_
          refine sA_goto (tgt := 47) dd_X5_tryTwists_213 (by decide) ?_
          have b48 : (1 : Int) ≤ F37 5 0 ∧ F37 5 0 ≤ 8 := I42.1 5 0
          have b49 : (-2147483648 : Int) ≤ F37 30 5 ∧ F37 30 5 ≤ 2147483647 := I42.1 30 5
          refine sA_sub (lv2 := [(7, gs_iv (u + 1)), (6, gs_iv sz), (5, gs_iv lt), (0, .ref 30), (1, gs_iv 1), (2, gs_iv k), (3, gs_iv r), (4, gs_iv wt)]) (List.forall_mem_cons.mpr ⟨(.head _), (List.forall_mem_cons.mpr ⟨(.tail _ (.tail _ (.tail _ (.head _)))), (List.forall_mem_cons.mpr ⟨(.tail _ (.tail _ (.tail _ (.tail _ (.head _))))), (List.forall_mem_cons.mpr ⟨(.tail _ (.tail _ (.tail _ (.tail _ (.tail _ (.head _)))))), (List.forall_mem_cons.mpr ⟨(.tail _ (.tail _ (.tail _ (.tail _ (.tail _ (.tail _ (.head _))))))), (List.forall_mem_cons.mpr ⟨(.tail _ (.tail _ (.tail _ (.tail _ (.tail _ (.tail _ (.tail _ (.head _)))))))), (List.forall_mem_cons.mpr ⟨(.tail _ (.tail _ (.tail _ (.tail _ (.tail _ (.tail _ (.tail _ (.tail _ (.head _))))))))), (List.forall_mem_cons.mpr ⟨(.tail _ (.tail _ (.tail _ (.tail _ (.tail _ (.tail _ (.tail _ (.tail _ (.tail _ (.head _)))))))))), (fun _ h => absurd h List.not_mem_nil)⟩)⟩)⟩)⟩)⟩)⟩)⟩)⟩) ?_
          exact ih lt sz (u + 1) F37 A38 I42 f46 (by omega) (by omega) (by omega) (by omega) (by omega) i5 (by have j6 := i6; rw [show (k - 1).toNat = (k - 2).toNat + 1 by omega] at j6 ⊢; exact tt_rec (by omega) (by omega) hnl (by omega) j6 hrec) (by omega) ⟨tt_ge (by omega) (by omega) (by omega) hrec, by omega, by omega⟩ (by omega)
        · skip
          have hlg : 400 < (sp_tw (sp_w g u) (gs_stk (A 38) (F 37 1).toNat)).length := by
            rcases y153 with y | y
            · exfalso
              omega
            · exact y.2
          refine sA_goto (tgt := 210) dd_X5_tryTwists_159 (by decide) ?_
          refine sA_iinc (lv' := [(7, gs_iv (u + 1)), (9, .ref 39), (8, gs_iv (r + (u * wt))), (6, gs_iv sz), (5, gs_iv lt), (0, .ref 30), (1, gs_iv 1), (2, gs_iv k), (3, gs_iv r), (4, gs_iv wt)]) dd_X5_tryTwists_210 (.tail _ (.tail _ (.head _))) (by decide) rfl ?_
          refine sA_goto (tgt := 47) dd_X5_tryTwists_213 (by decide) ?_
          have b50 : (1 : Int) ≤ F21 5 0 ∧ F21 5 0 ≤ 8 := I27.1 5 0
          have b51 : (-2147483648 : Int) ≤ F21 30 5 ∧ F21 30 5 ≤ 2147483647 := I27.1 30 5
          refine sA_sub (lv2 := [(7, gs_iv (u + 1)), (6, gs_iv sz), (5, gs_iv lt), (0, .ref 30), (1, gs_iv 1), (2, gs_iv k), (3, gs_iv r), (4, gs_iv wt)]) (List.forall_mem_cons.mpr ⟨(.head _), (List.forall_mem_cons.mpr ⟨(.tail _ (.tail _ (.tail _ (.head _)))), (List.forall_mem_cons.mpr ⟨(.tail _ (.tail _ (.tail _ (.tail _ (.head _))))), (List.forall_mem_cons.mpr ⟨(.tail _ (.tail _ (.tail _ (.tail _ (.tail _ (.head _)))))), (List.forall_mem_cons.mpr ⟨(.tail _ (.tail _ (.tail _ (.tail _ (.tail _ (.tail _ (.head _))))))), (List.forall_mem_cons.mpr ⟨(.tail _ (.tail _ (.tail _ (.tail _ (.tail _ (.tail _ (.tail _ (.head _)))))))), (List.forall_mem_cons.mpr ⟨(.tail _ (.tail _ (.tail _ (.tail _ (.tail _ (.tail _ (.tail _ (.tail _ (.head _))))))))), (List.forall_mem_cons.mpr ⟨(.tail _ (.tail _ (.tail _ (.tail _ (.tail _ (.tail _ (.tail _ (.tail _ (.tail _ (.head _)))))))))), (fun _ h => absurd h List.not_mem_nil)⟩)⟩)⟩)⟩)⟩)⟩)⟩)⟩) ?_
          exact ih lt sz (u + 1) F21 A22 I27 f31 (by omega) (by omega) (by omega) (by omega) (by omega) i5 (by have j6 := i6; rw [show (k - 1).toNat = (k - 2).toNat + 1 by omega] at j6 ⊢; exact tt_cg rfl rfl (show F1 30 5 = F21 30 5 by omega) (tt_skip j6 (tt_large hlg))) (by omega) (by omega) (by omega)
      · skip
        refine sA_aload_n dd_X5_tryTwists_75 rfl (.tail _ (.tail _ (.tail _ (.tail _ (.head _))))) ?_
        refine sA_geti (ci := 5) (j := 5) (q := (RX5, TX5, 6)) dd_X5_tryTwists_76 rfl (by decide) fl_X5_53 (by decide) gs_s30 rfl ?_
        refine sA_iconst (z := (-1)) dd_X5_tryTwists_79 ?_
        refine sA_icmp_eq (tgt := 93) dd_X5_tryTwists_80 (by decide) (by omega) (by omega) (fun q52 => ?_) (fun q52 => ?_)
        · skip
          refine sA_iload dd_X5_tryTwists_93 (.tail _ (.tail _ (.tail _ (.head _)))) ?_
          refine sA_if_eq (tgt := 124) dd_X5_tryTwists_95 (by decide) (by omega) (fun q53 => absurd q53 (by omega)) (fun q53 => ?_)
          refine sA_aload_n dd_X5_tryTwists_98 rfl (.tail _ (.tail _ (.tail _ (.tail _ (.head _))))) ?_
          refine sA_getr (ci := 5) (j := 3) (q := (RX5, TX5, 6)) dd_X5_tryTwists_99 rfl (by decide) fl_X5_17 (by decide) gs_s30 rfl ?_
          refine sA_iload dd_X5_tryTwists_102 (.tail _ (.head _)) ?_
          refine sA_iald (n := 16) dd_X5_tryTwists_104 (by decide) gs_s32 (by omega) (by decide) ?_
          have b54 : (-2147483648 : Int) ≤ A1 32 u.toNat ∧ A1 32 u.toNat ≤ 2147483647 := hI1.2 32 u.toNat
          refine sA_iconst (z := (-1)) dd_X5_tryTwists_105 ?_
          refine sA_icmp_eq (tgt := 124) dd_X5_tryTwists_106 (by decide) (by omega) (by omega) (fun q55 => ?_) (fun q55 => ?_)
          · skip
            refine sA_aload_n dd_X5_tryTwists_124 rfl (.tail _ (.tail _ (.tail _ (.tail _ (.head _))))) ?_
            refine sA_getr (ci := 5) (j := 2) (q := (RX5, TX5, 6)) dd_X5_tryTwists_125 rfl (by decide) fl_X5_11 (by decide) gs_s30 rfl ?_
            refine sA_iload_n dd_X5_tryTwists_128 rfl (.tail _ (.tail _ (.tail _ (.tail _ (.tail _ (.head _)))))) ?_
            refine sA_iconst (z := 1) dd_X5_tryTwists_129 ?_
            refine sA_iadd dd_X5_tryTwists_130 ?_
            show sA _ _ _ _ _ (gs_iv 2 :: _) _ _
            refine sA_aald (n := 4) dd_X5_tryTwists_131 (by decide) (by decide) (by decide) gs_s31 (by omega) (by decide) ?_
            show sA _ _ _ _ _ (.ref 39 :: _) _ _
            refine sA_astore (lv' := [(9, .ref 39), (8, gs_iv (r + (u * wt))), (7, gs_iv u), (6, gs_iv sz), (5, gs_iv lt), (0, .ref 30), (1, gs_iv 1), (2, gs_iv k), (3, gs_iv r), (4, gs_iv wt)]) dd_X5_tryTwists_132 (by decide) rfl ?_
            refine sA_aload dd_X5_tryTwists_134 (.head _) ?_
            refine sA_aload_n dd_X5_tryTwists_136 rfl (.tail _ (.tail _ (.tail _ (.tail _ (.tail _ (.head _)))))) ?_
            refine sA_getr (ci := 5) (j := 2) (q := (RX5, TX5, 6)) dd_X5_tryTwists_137 rfl (by decide) fl_X5_11 (by decide) gs_s30 rfl ?_
            refine sA_iload_n dd_X5_tryTwists_140 rfl (.tail _ (.tail _ (.tail _ (.tail _ (.tail _ (.tail _ (.head _))))))) ?_
            refine sA_aald (n := 4) dd_X5_tryTwists_141 (by decide) (by decide) (by decide) gs_s31 (by omega) (by decide) ?_
            show sA _ _ _ _ _ (.ref 37 :: _) _ _
            refine sA_callV (y2 := m_X4_copy) (n2 := 1) (d2 := 1) (a := 39) (ci := 4) (q := (RX4, TX4, 2)) (as := [.ref 37]) (rest := []) dd_X5_tryTwists_142 ok_X4_copy ml_X5_36 rfl rfl (Nat.lt_of_succ_lt gs_row_39.1) gs_row_39.2.1 rfl rfl (Nat.le_of_ble_eq_true rfl) (by decide) (c_X4_copy_vf hI1 gs_row_39 gs_row_37) (fun r58 F59 A60 h61 => ?_)
            obtain ⟨e63, I64, f65, x62⟩ := h61
            subst e63
            have v66 : F59 5 0 = F1 5 0 := f65.1 5 0 (by first | exact id | omega | (dsimp only; omega) | (dsimp only) | fail)
            have v67 : F59 30 5 = F1 30 5 := f65.1 30 5 (by first | exact id | omega | (dsimp only; omega) | (dsimp only) | fail)
            have f68 := gs_fr_tr hf1 f65 (fun b j h => by first | exact False.elim h | omega | (dsimp only at h ⊢; omega) | fail) (fun b h => by first | exact False.elim h | omega | (dsimp only at h ⊢; omega) | fail)
            have y69 : F1 37 1 ≤ (400 : Int) → (F59 39 1 = F1 37 1 ∧ A60 40 = gs_cc (A1 38) (A1 40) 0 0 (F1 37 1).toNat) := x62
            clear x62
            show sA _ _ _ 145 _ [] _ _
            refine sA_aload_n dd_X5_tryTwists_145 rfl (.tail _ (.tail _ (.tail _ (.tail _ (.tail _ (.head _)))))) ?_
            refine sA_getr (ci := 5) (j := 0) (q := (RX5, TX5, 6)) dd_X5_tryTwists_146 rfl (by decide) fl_X5_28 (by decide) gs_s30 rfl ?_
            refine sA_iload dd_X5_tryTwists_149 (.tail _ (.tail _ (.head _))) ?_
            refine sA_aload dd_X5_tryTwists_151 (.head _) ?_
            have er1 : A1 38 = A 38 := hf1.2 38 (by dsimp only; omega)
            have er2 : F1 37 1 = F 37 1 := hf1.1 37 1 (by dsimp only; omega)
            have hbr := gs_row_sz gs_row_37 hI1
            obtain ⟨c1, c2⟩ := y69 (by omega)
            have hstk : (gs_stk (A60 40) (F59 39 1).toNat) = (gs_stk (A 38) (F 37 1).toNat) := by
              rw [c1, c2, er1, er2]
              refine gs_stk_cg _ (fun i hi => ?_)
              unfold gs_cc
              rw [if_pos (by omega)]
              congr 1
              omega
            have hV1 : sp_val g (gs_stk (A60 40) (F59 39 1).toNat) := by rw [hstk]; exact hV
            have hW1 : gs_W (A60 6) g := by rw [f68.2 6 (by dsimp only; omega)]; exact hW
            have hL : (400 : Nat) = 400 := rfl
            refine sA_callV (y2 := m_X7_doTwist) (n2 := 2) (d2 := 2) (a := 5) (ci := 7) (q := (RX7, TX7, 5)) (as := [gs_iv u, .ref 39]) (rest := []) dd_X5_tryTwists_153 ok_X7_doTwist ml_X5_69 rfl rfl (by decide) gs_s5 rfl rfl (Nat.le_of_ble_eq_true rfl) (by decide) (c_X7_doTwist_vf I64 (by omega) gs_row_39 hg (by omega) hW1 hV1 hL (by omega)) (fun r70 F71 A72 h73 => ?_)
            obtain ⟨z76, e75, I77, f78, x74⟩ := h73
            subst e75
            have v79 : F71 5 0 = F59 5 0 := f78.1 5 0 (by first | exact id | omega | (dsimp only; omega) | (dsimp only) | fail)
            have v80 : F71 30 5 = F59 30 5 := f78.1 30 5 (by first | exact id | omega | (dsimp only; omega) | (dsimp only) | fail)
            have f81 := gs_fr_tr f68 f78 (fun b j h => by first | exact False.elim h | omega | (dsimp only at h ⊢; omega) | fail) (fun b h => by first | exact False.elim h | omega | (dsimp only at h ⊢; omega) | fail)
            have y82 : (z76 = 1 ∧ (sp_tw (sp_w g u) (gs_stk (A60 40) (F59 39 1).toNat)).length ≤ 400 ∧ gs_stk (A72 40) (F71 39 1).toNat = sp_tw (sp_w g u) (gs_stk (A60 40) (F59 39 1).toNat)) ∨ (z76 = 0 ∧ 400 < (sp_tw (sp_w g u) (gs_stk (A60 40) (F59 39 1).toNat)).length) := x74
            clear x74
            show sA _ _ _ 156 _ [gs_iv z76] _ _
            have y153 := y82
            rw [hstk] at y153
            refine sA_if_ne (tgt := 162) dd_X5_tryTwists_156 (by decide) (by omega) (fun q83 => ?_) (fun q83 => ?_)
            · skip
              have hys : ¬ 400 < (sp_tw (sp_w g u) (gs_stk (A 38) (F 37 1).toNat)).length ∧ (gs_stk (A72 40) (F71 39 1).toNat) = sp_tw (sp_w g u) (gs_stk (A 38) (F 37 1).toNat) := by
                rcases y153 with y | y
                · exact ⟨by have y2 := y.2.1; omega, y.2.2⟩
                · exfalso
                  omega
              have hnl := hys.1
              have hrw := hys.2
              have g33 : F71 33 1 = F 33 1 := f81.1 33 1 (by dsimp only; omega)
              have g34 : A72 34 = A 34 := f81.2 34 (by dsimp only; omega)
              refine sA_iload dd_X5_tryTwists_162 (.tail _ (.tail _ (.tail _ (.tail _ (.head _))))) ?_
              refine sA_if_ne (tgt := 192) dd_X5_tryTwists_164 (by decide) (by omega) (fun q84 => ?_) (fun q84 => absurd q84 (by omega))
              refine sA_aload dd_X5_tryTwists_192 (.head _) ?_
              refine sA_aload_n dd_X5_tryTwists_194 rfl (.tail _ (.tail _ (.tail _ (.tail _ (.tail _ (.head _)))))) ?_
              refine sA_getr (ci := 5) (j := 4) (q := (RX5, TX5, 6)) dd_X5_tryTwists_195 rfl (by decide) fl_X5_24 (by decide) gs_s30 rfl ?_
              refine sA_callV (y2 := m_X4_isOneWith) (n2 := 1) (d2 := 2) (a := 39) (ci := 4) (q := (RX4, TX4, 2)) (as := [.ref 33]) (rest := []) dd_X5_tryTwists_198 ok_X4_isOneWith ml_X5_43 rfl rfl (Nat.lt_of_succ_lt gs_row_39.1) gs_row_39.2.1 rfl rfl (Nat.le_of_ble_eq_true rfl) (by decide) (c_X4_isOneWith_vf I77 gs_row_39 gs_row_33) (fun r85 F86 A87 h88 => ?_)
              obtain ⟨z91, e90, e92, e93, x89⟩ := h88
              subst e90 e92 e93
              have y94 : (z91 = 1 ∧ gs_on (A72 40) (F71 39 1) (A72 34) (F71 33 1)) ∨ (z91 = 0 ∧ ¬ gs_on (A72 40) (F71 39 1) (A72 34) (F71 33 1)) := x89
              clear x89
              show sA _ _ _ 201 _ [gs_iv z91] _ _
              have hz198 : z91 = 0 ∨ z91 = 1 := by omega
              have hon : st_on (sp_tw (sp_w g u) (gs_stk (A 38) (F 37 1).toNat)) (A 34) (F 33 1) ↔ gs_on (A72 40) (F71 39 1) (A72 34) (F71 33 1) := by
                rw [g33, g34, ← hrw]
                have hb := gs_row_sz gs_row_39 I77
                exact st_on_mk hb.1
              refine sA_if_eq (tgt := 210) dd_X5_tryTwists_201 (by decide) (by omega) (fun q95 => ?_) (fun q95 => ?_)
              · skip
                refine sA_iinc (lv' := [(7, gs_iv (u + 1)), (9, .ref 39), (8, gs_iv (r + (u * wt))), (6, gs_iv sz), (5, gs_iv lt), (0, .ref 30), (1, gs_iv 1), (2, gs_iv k), (3, gs_iv r), (4, gs_iv wt)]) dd_X5_tryTwists_210 (.tail _ (.tail _ (.head _))) (by decide) rfl ?_
                refine sA_goto (tgt := 47) dd_X5_tryTwists_213 (by decide) ?_
                have b96 : (1 : Int) ≤ F71 5 0 ∧ F71 5 0 ≤ 8 := I77.1 5 0
                have b97 : (-2147483648 : Int) ≤ F71 30 5 ∧ F71 30 5 ≤ 2147483647 := I77.1 30 5
                refine sA_sub (lv2 := [(7, gs_iv (u + 1)), (6, gs_iv sz), (5, gs_iv lt), (0, .ref 30), (1, gs_iv 1), (2, gs_iv k), (3, gs_iv r), (4, gs_iv wt)]) (List.forall_mem_cons.mpr ⟨(.head _), (List.forall_mem_cons.mpr ⟨(.tail _ (.tail _ (.tail _ (.head _)))), (List.forall_mem_cons.mpr ⟨(.tail _ (.tail _ (.tail _ (.tail _ (.head _))))), (List.forall_mem_cons.mpr ⟨(.tail _ (.tail _ (.tail _ (.tail _ (.tail _ (.head _)))))), (List.forall_mem_cons.mpr ⟨(.tail _ (.tail _ (.tail _ (.tail _ (.tail _ (.tail _ (.head _))))))), (List.forall_mem_cons.mpr ⟨(.tail _ (.tail _ (.tail _ (.tail _ (.tail _ (.tail _ (.tail _ (.head _)))))))), (List.forall_mem_cons.mpr ⟨(.tail _ (.tail _ (.tail _ (.tail _ (.tail _ (.tail _ (.tail _ (.tail _ (.head _))))))))), (List.forall_mem_cons.mpr ⟨(.tail _ (.tail _ (.tail _ (.tail _ (.tail _ (.tail _ (.tail _ (.tail _ (.tail _ (.head _)))))))))), (fun _ h => absurd h List.not_mem_nil)⟩)⟩)⟩)⟩)⟩)⟩)⟩)⟩) ?_
                exact ih lt sz (u + 1) F71 A72 I77 f81 (by omega) (by omega) (by omega) (by omega) (by omega) i5 (by have j6 := i6; rw [show (k - 1).toNat = 1 by omega] at j6 ⊢; rcases y94 with y | y <;> first | (exfalso; omega) | exact tt_cg rfl rfl (show r + u * wt = F71 30 5 by omega) (tt_one (by omega) (by omega) (by omega) j6 hnl (hon.mpr y.2) (by omega)) | exact tt_cg rfl rfl (show F1 30 5 = F71 30 5 by omega) (tt_skip j6 (tt_last (fun w => y.2 (hon.mp w)))) | fail) (by omega) (by omega) (by omega)
              · skip
                refine sA_aload_n dd_X5_tryTwists_204 rfl (.tail _ (.tail _ (.tail _ (.tail _ (.tail _ (.head _)))))) ?_
                refine sA_iload dd_X5_tryTwists_205 (.tail _ (.head _)) ?_
                refine sA_put (ci := 5) (j := 5) (q := (RX5, TX5, 6)) (ty := .int) dd_X5_tryTwists_207 rfl (by decide) fl_X5_53 rfl (tyX5_ok 5 (by decide)) rfl rfl (by decide) gs_s30 rfl ?_
                have I99 : gs_I (gs_up F71 30 5 (r + (u * wt))) A72 := gs_I_put I77 (show (-2147483648 : Int) ≤ r + (u * wt) ∧ r + (u * wt) ≤ 2147483647 by omega)
                have f100 := gs_fr_put f81 (a := 30) (z := r + (u * wt)) (j := 5) (by first | omega | (dsimp only; omega) | (dsimp only) | fail)
                have v101 : gs_up F71 30 5 (r + (u * wt)) 30 5 = r + (u * wt) := gs_up_self _ _ _ _
                have v102 : (gs_up F71 30 5 (r + (u * wt))) 5 0 = F71 5 0 := gs_up_ne _ _ (by omega)
                generalize gs_up F71 30 5 (r + (u * wt)) = F98 at I99 f100 v101 v102 ⊢
                refine sA_iinc (lv' := [(7, gs_iv (u + 1)), (9, .ref 39), (8, gs_iv (r + (u * wt))), (6, gs_iv sz), (5, gs_iv lt), (0, .ref 30), (1, gs_iv 1), (2, gs_iv k), (3, gs_iv r), (4, gs_iv wt)]) dd_X5_tryTwists_210 (.tail _ (.tail _ (.head _))) (by decide) rfl ?_
                refine sA_goto (tgt := 47) dd_X5_tryTwists_213 (by decide) ?_
                have b103 : (1 : Int) ≤ F98 5 0 ∧ F98 5 0 ≤ 8 := I99.1 5 0
                have b104 : (-2147483648 : Int) ≤ F98 30 5 ∧ F98 30 5 ≤ 2147483647 := I99.1 30 5
                refine sA_sub (lv2 := [(7, gs_iv (u + 1)), (6, gs_iv sz), (5, gs_iv lt), (0, .ref 30), (1, gs_iv 1), (2, gs_iv k), (3, gs_iv r), (4, gs_iv wt)]) (List.forall_mem_cons.mpr ⟨(.head _), (List.forall_mem_cons.mpr ⟨(.tail _ (.tail _ (.tail _ (.head _)))), (List.forall_mem_cons.mpr ⟨(.tail _ (.tail _ (.tail _ (.tail _ (.head _))))), (List.forall_mem_cons.mpr ⟨(.tail _ (.tail _ (.tail _ (.tail _ (.tail _ (.head _)))))), (List.forall_mem_cons.mpr ⟨(.tail _ (.tail _ (.tail _ (.tail _ (.tail _ (.tail _ (.head _))))))), (List.forall_mem_cons.mpr ⟨(.tail _ (.tail _ (.tail _ (.tail _ (.tail _ (.tail _ (.tail _ (.head _)))))))), (List.forall_mem_cons.mpr ⟨(.tail _ (.tail _ (.tail _ (.tail _ (.tail _ (.tail _ (.tail _ (.tail _ (.head _))))))))), (List.forall_mem_cons.mpr ⟨(.tail _ (.tail _ (.tail _ (.tail _ (.tail _ (.tail _ (.tail _ (.tail _ (.tail _ (.head _)))))))))), (fun _ h => absurd h List.not_mem_nil)⟩)⟩)⟩)⟩)⟩)⟩)⟩)⟩) ?_
                exact ih lt sz (u + 1) F98 A72 I99 f100 (by omega) (by omega) (by omega) (by omega) (by omega) i5 (by have j6 := i6; rw [show (k - 1).toNat = 1 by omega] at j6 ⊢; rcases y94 with y | y <;> first | (exfalso; omega) | exact tt_cg rfl rfl (show r + u * wt = F98 30 5 by omega) (tt_one (by omega) (by omega) (by omega) j6 hnl (hon.mpr y.2) (by omega)) | exact tt_cg rfl rfl (show F1 30 5 = F98 30 5 by omega) (tt_skip j6 (tt_last (fun w => y.2 (hon.mp w)))) | fail) (by omega) (by omega) (by omega)
            · skip
              have hlg : 400 < (sp_tw (sp_w g u) (gs_stk (A 38) (F 37 1).toNat)).length := by
                rcases y153 with y | y
                · exfalso
                  omega
                · exact y.2
              refine sA_goto (tgt := 210) dd_X5_tryTwists_159 (by decide) ?_
              refine sA_iinc (lv' := [(7, gs_iv (u + 1)), (9, .ref 39), (8, gs_iv (r + (u * wt))), (6, gs_iv sz), (5, gs_iv lt), (0, .ref 30), (1, gs_iv 1), (2, gs_iv k), (3, gs_iv r), (4, gs_iv wt)]) dd_X5_tryTwists_210 (.tail _ (.tail _ (.head _))) (by decide) rfl ?_
              refine sA_goto (tgt := 47) dd_X5_tryTwists_213 (by decide) ?_
              have b105 : (1 : Int) ≤ F71 5 0 ∧ F71 5 0 ≤ 8 := I77.1 5 0
              have b106 : (-2147483648 : Int) ≤ F71 30 5 ∧ F71 30 5 ≤ 2147483647 := I77.1 30 5
              refine sA_sub (lv2 := [(7, gs_iv (u + 1)), (6, gs_iv sz), (5, gs_iv lt), (0, .ref 30), (1, gs_iv 1), (2, gs_iv k), (3, gs_iv r), (4, gs_iv wt)]) (List.forall_mem_cons.mpr ⟨(.head _), (List.forall_mem_cons.mpr ⟨(.tail _ (.tail _ (.tail _ (.head _)))), (List.forall_mem_cons.mpr ⟨(.tail _ (.tail _ (.tail _ (.tail _ (.head _))))), (List.forall_mem_cons.mpr ⟨(.tail _ (.tail _ (.tail _ (.tail _ (.tail _ (.head _)))))), (List.forall_mem_cons.mpr ⟨(.tail _ (.tail _ (.tail _ (.tail _ (.tail _ (.tail _ (.head _))))))), (List.forall_mem_cons.mpr ⟨(.tail _ (.tail _ (.tail _ (.tail _ (.tail _ (.tail _ (.tail _ (.head _)))))))), (List.forall_mem_cons.mpr ⟨(.tail _ (.tail _ (.tail _ (.tail _ (.tail _ (.tail _ (.tail _ (.tail _ (.head _))))))))), (List.forall_mem_cons.mpr ⟨(.tail _ (.tail _ (.tail _ (.tail _ (.tail _ (.tail _ (.tail _ (.tail _ (.tail _ (.head _)))))))))), (fun _ h => absurd h List.not_mem_nil)⟩)⟩)⟩)⟩)⟩)⟩)⟩)⟩) ?_
              exact ih lt sz (u + 1) F71 A72 I77 f81 (by omega) (by omega) (by omega) (by omega) (by omega) i5 (by have j6 := i6; rw [show (k - 1).toNat = (k - 2).toNat + 1 by omega] at j6 ⊢; exact tt_cg rfl rfl (show F1 30 5 = F71 30 5 by omega) (tt_skip j6 (tt_large hlg))) (by omega) (by omega) (by omega)
          · skip
            have e32u : A1 32 u.toNat = A 32 u.toNat := by rw [e32]
            have hahu : cy_rep (sp_tw (sp_w g (sp_fl u)) (gs_stk (A 34) (F 33 1).toNat)) (A 32 u.toNat) := by
              rcases hah u (by omega) (by omega) with q | q
              · exfalso
                omega
              · exact q
            refine sA_aload_n dd_X5_tryTwists_109 rfl (.tail _ (.tail _ (.tail _ (.tail _ (.head _))))) ?_
            refine sA_getr (ci := 5) (j := 3) (q := (RX5, TX5, 6)) dd_X5_tryTwists_110 rfl (by decide) fl_X5_17 (by decide) gs_s30 rfl ?_
            refine sA_iload dd_X5_tryTwists_113 (.tail _ (.head _)) ?_
            refine sA_iald (n := 16) dd_X5_tryTwists_115 (by decide) gs_s32 (by omega) (by decide) ?_
            refine sA_iload dd_X5_tryTwists_116 (.tail _ (.tail _ (.head _))) ?_
            refine sA_icmp_eq (tgt := 124) dd_X5_tryTwists_118 (by decide) (by omega) (by omega) (fun q107 => ?_) (fun q107 => ?_)
            · skip
              refine sA_aload_n dd_X5_tryTwists_124 rfl (.tail _ (.tail _ (.tail _ (.tail _ (.head _))))) ?_
              refine sA_getr (ci := 5) (j := 2) (q := (RX5, TX5, 6)) dd_X5_tryTwists_125 rfl (by decide) fl_X5_11 (by decide) gs_s30 rfl ?_
              refine sA_iload_n dd_X5_tryTwists_128 rfl (.tail _ (.tail _ (.tail _ (.tail _ (.tail _ (.head _)))))) ?_
              refine sA_iconst (z := 1) dd_X5_tryTwists_129 ?_
              refine sA_iadd dd_X5_tryTwists_130 ?_
              show sA _ _ _ _ _ (gs_iv 2 :: _) _ _
              refine sA_aald (n := 4) dd_X5_tryTwists_131 (by decide) (by decide) (by decide) gs_s31 (by omega) (by decide) ?_
              show sA _ _ _ _ _ (.ref 39 :: _) _ _
              refine sA_astore (lv' := [(9, .ref 39), (8, gs_iv (r + (u * wt))), (7, gs_iv u), (6, gs_iv sz), (5, gs_iv lt), (0, .ref 30), (1, gs_iv 1), (2, gs_iv k), (3, gs_iv r), (4, gs_iv wt)]) dd_X5_tryTwists_132 (by decide) rfl ?_
              refine sA_aload dd_X5_tryTwists_134 (.head _) ?_
              refine sA_aload_n dd_X5_tryTwists_136 rfl (.tail _ (.tail _ (.tail _ (.tail _ (.tail _ (.head _)))))) ?_
              refine sA_getr (ci := 5) (j := 2) (q := (RX5, TX5, 6)) dd_X5_tryTwists_137 rfl (by decide) fl_X5_11 (by decide) gs_s30 rfl ?_
              refine sA_iload_n dd_X5_tryTwists_140 rfl (.tail _ (.tail _ (.tail _ (.tail _ (.tail _ (.tail _ (.head _))))))) ?_
              refine sA_aald (n := 4) dd_X5_tryTwists_141 (by decide) (by decide) (by decide) gs_s31 (by omega) (by decide) ?_
              show sA _ _ _ _ _ (.ref 37 :: _) _ _
              refine sA_callV (y2 := m_X4_copy) (n2 := 1) (d2 := 1) (a := 39) (ci := 4) (q := (RX4, TX4, 2)) (as := [.ref 37]) (rest := []) dd_X5_tryTwists_142 ok_X4_copy ml_X5_36 rfl rfl (Nat.lt_of_succ_lt gs_row_39.1) gs_row_39.2.1 rfl rfl (Nat.le_of_ble_eq_true rfl) (by decide) (c_X4_copy_vf hI1 gs_row_39 gs_row_37) (fun r110 F111 A112 h113 => ?_)
              obtain ⟨e115, I116, f117, x114⟩ := h113
              subst e115
              have v118 : F111 5 0 = F1 5 0 := f117.1 5 0 (by first | exact id | omega | (dsimp only; omega) | (dsimp only) | fail)
              have v119 : F111 30 5 = F1 30 5 := f117.1 30 5 (by first | exact id | omega | (dsimp only; omega) | (dsimp only) | fail)
              have f120 := gs_fr_tr hf1 f117 (fun b j h => by first | exact False.elim h | omega | (dsimp only at h ⊢; omega) | fail) (fun b h => by first | exact False.elim h | omega | (dsimp only at h ⊢; omega) | fail)
              have y121 : F1 37 1 ≤ (400 : Int) → (F111 39 1 = F1 37 1 ∧ A112 40 = gs_cc (A1 38) (A1 40) 0 0 (F1 37 1).toNat) := x114
              clear x114
              show sA _ _ _ 145 _ [] _ _
              refine sA_aload_n dd_X5_tryTwists_145 rfl (.tail _ (.tail _ (.tail _ (.tail _ (.tail _ (.head _)))))) ?_
              refine sA_getr (ci := 5) (j := 0) (q := (RX5, TX5, 6)) dd_X5_tryTwists_146 rfl (by decide) fl_X5_28 (by decide) gs_s30 rfl ?_
              refine sA_iload dd_X5_tryTwists_149 (.tail _ (.tail _ (.head _))) ?_
              refine sA_aload dd_X5_tryTwists_151 (.head _) ?_
              have er1 : A1 38 = A 38 := hf1.2 38 (by dsimp only; omega)
              have er2 : F1 37 1 = F 37 1 := hf1.1 37 1 (by dsimp only; omega)
              have hbr := gs_row_sz gs_row_37 hI1
              obtain ⟨c1, c2⟩ := y121 (by omega)
              have hstk : (gs_stk (A112 40) (F111 39 1).toNat) = (gs_stk (A 38) (F 37 1).toNat) := by
                rw [c1, c2, er1, er2]
                refine gs_stk_cg _ (fun i hi => ?_)
                unfold gs_cc
                rw [if_pos (by omega)]
                congr 1
                omega
              have hV1 : sp_val g (gs_stk (A112 40) (F111 39 1).toNat) := by rw [hstk]; exact hV
              have hW1 : gs_W (A112 6) g := by rw [f120.2 6 (by dsimp only; omega)]; exact hW
              have hL : (400 : Nat) = 400 := rfl
              refine sA_callV (y2 := m_X7_doTwist) (n2 := 2) (d2 := 2) (a := 5) (ci := 7) (q := (RX7, TX7, 5)) (as := [gs_iv u, .ref 39]) (rest := []) dd_X5_tryTwists_153 ok_X7_doTwist ml_X5_69 rfl rfl (by decide) gs_s5 rfl rfl (Nat.le_of_ble_eq_true rfl) (by decide) (c_X7_doTwist_vf I116 (by omega) gs_row_39 hg (by omega) hW1 hV1 hL (by omega)) (fun r122 F123 A124 h125 => ?_)
              obtain ⟨z128, e127, I129, f130, x126⟩ := h125
              subst e127
              have v131 : F123 5 0 = F111 5 0 := f130.1 5 0 (by first | exact id | omega | (dsimp only; omega) | (dsimp only) | fail)
              have v132 : F123 30 5 = F111 30 5 := f130.1 30 5 (by first | exact id | omega | (dsimp only; omega) | (dsimp only) | fail)
              have f133 := gs_fr_tr f120 f130 (fun b j h => by first | exact False.elim h | omega | (dsimp only at h ⊢; omega) | fail) (fun b h => by first | exact False.elim h | omega | (dsimp only at h ⊢; omega) | fail)
              have y134 : (z128 = 1 ∧ (sp_tw (sp_w g u) (gs_stk (A112 40) (F111 39 1).toNat)).length ≤ 400 ∧ gs_stk (A124 40) (F123 39 1).toNat = sp_tw (sp_w g u) (gs_stk (A112 40) (F111 39 1).toNat)) ∨ (z128 = 0 ∧ 400 < (sp_tw (sp_w g u) (gs_stk (A112 40) (F111 39 1).toNat)).length) := x126
              clear x126
              show sA _ _ _ 156 _ [gs_iv z128] _ _
              have y153 := y134
              rw [hstk] at y153
              refine sA_if_ne (tgt := 162) dd_X5_tryTwists_156 (by decide) (by omega) (fun q135 => ?_) (fun q135 => ?_)
              · skip
                have hys : ¬ 400 < (sp_tw (sp_w g u) (gs_stk (A 38) (F 37 1).toNat)).length ∧ (gs_stk (A124 40) (F123 39 1).toNat) = sp_tw (sp_w g u) (gs_stk (A 38) (F 37 1).toNat) := by
                  rcases y153 with y | y
                  · exact ⟨by have y2 := y.2.1; omega, y.2.2⟩
                  · exfalso
                    omega
                have hnl := hys.1
                have hrw := hys.2
                have g33 : F123 33 1 = F 33 1 := f133.1 33 1 (by dsimp only; omega)
                have g34 : A124 34 = A 34 := f133.2 34 (by dsimp only; omega)
                refine sA_iload dd_X5_tryTwists_162 (.tail _ (.tail _ (.tail _ (.tail _ (.head _))))) ?_
                refine sA_if_ne (tgt := 192) dd_X5_tryTwists_164 (by decide) (by omega) (fun q136 => ?_) (fun q136 => absurd q136 (by omega))
                refine sA_aload dd_X5_tryTwists_192 (.head _) ?_
                refine sA_aload_n dd_X5_tryTwists_194 rfl (.tail _ (.tail _ (.tail _ (.tail _ (.tail _ (.head _)))))) ?_
                refine sA_getr (ci := 5) (j := 4) (q := (RX5, TX5, 6)) dd_X5_tryTwists_195 rfl (by decide) fl_X5_24 (by decide) gs_s30 rfl ?_
                refine sA_callV (y2 := m_X4_isOneWith) (n2 := 1) (d2 := 2) (a := 39) (ci := 4) (q := (RX4, TX4, 2)) (as := [.ref 33]) (rest := []) dd_X5_tryTwists_198 ok_X4_isOneWith ml_X5_43 rfl rfl (Nat.lt_of_succ_lt gs_row_39.1) gs_row_39.2.1 rfl rfl (Nat.le_of_ble_eq_true rfl) (by decide) (c_X4_isOneWith_vf I129 gs_row_39 gs_row_33) (fun r137 F138 A139 h140 => ?_)
                obtain ⟨z143, e142, e144, e145, x141⟩ := h140
                subst e142 e144 e145
                have y146 : (z143 = 1 ∧ gs_on (A124 40) (F123 39 1) (A124 34) (F123 33 1)) ∨ (z143 = 0 ∧ ¬ gs_on (A124 40) (F123 39 1) (A124 34) (F123 33 1)) := x141
                clear x141
                show sA _ _ _ 201 _ [gs_iv z143] _ _
                have hz198 : z143 = 0 ∨ z143 = 1 := by omega
                have hon : st_on (sp_tw (sp_w g u) (gs_stk (A 38) (F 37 1).toNat)) (A 34) (F 33 1) ↔ gs_on (A124 40) (F123 39 1) (A124 34) (F123 33 1) := by
                  rw [g33, g34, ← hrw]
                  have hb := gs_row_sz gs_row_39 I129
                  exact st_on_mk hb.1
                refine sA_if_eq (tgt := 210) dd_X5_tryTwists_201 (by decide) (by omega) (fun q147 => ?_) (fun q147 => ?_)
                · skip
                  refine sA_iinc (lv' := [(7, gs_iv (u + 1)), (9, .ref 39), (8, gs_iv (r + (u * wt))), (6, gs_iv sz), (5, gs_iv lt), (0, .ref 30), (1, gs_iv 1), (2, gs_iv k), (3, gs_iv r), (4, gs_iv wt)]) dd_X5_tryTwists_210 (.tail _ (.tail _ (.head _))) (by decide) rfl ?_
                  refine sA_goto (tgt := 47) dd_X5_tryTwists_213 (by decide) ?_
                  have b148 : (1 : Int) ≤ F123 5 0 ∧ F123 5 0 ≤ 8 := I129.1 5 0
                  have b149 : (-2147483648 : Int) ≤ F123 30 5 ∧ F123 30 5 ≤ 2147483647 := I129.1 30 5
                  refine sA_sub (lv2 := [(7, gs_iv (u + 1)), (6, gs_iv sz), (5, gs_iv lt), (0, .ref 30), (1, gs_iv 1), (2, gs_iv k), (3, gs_iv r), (4, gs_iv wt)]) (List.forall_mem_cons.mpr ⟨(.head _), (List.forall_mem_cons.mpr ⟨(.tail _ (.tail _ (.tail _ (.head _)))), (List.forall_mem_cons.mpr ⟨(.tail _ (.tail _ (.tail _ (.tail _ (.head _))))), (List.forall_mem_cons.mpr ⟨(.tail _ (.tail _ (.tail _ (.tail _ (.tail _ (.head _)))))), (List.forall_mem_cons.mpr ⟨(.tail _ (.tail _ (.tail _ (.tail _ (.tail _ (.tail _ (.head _))))))), (List.forall_mem_cons.mpr ⟨(.tail _ (.tail _ (.tail _ (.tail _ (.tail _ (.tail _ (.tail _ (.head _)))))))), (List.forall_mem_cons.mpr ⟨(.tail _ (.tail _ (.tail _ (.tail _ (.tail _ (.tail _ (.tail _ (.tail _ (.head _))))))))), (List.forall_mem_cons.mpr ⟨(.tail _ (.tail _ (.tail _ (.tail _ (.tail _ (.tail _ (.tail _ (.tail _ (.tail _ (.head _)))))))))), (fun _ h => absurd h List.not_mem_nil)⟩)⟩)⟩)⟩)⟩)⟩)⟩)⟩) ?_
                  exact ih lt sz (u + 1) F123 A124 I129 f133 (by omega) (by omega) (by omega) (by omega) (by omega) i5 (by have j6 := i6; rw [show (k - 1).toNat = 1 by omega] at j6 ⊢; rcases y146 with y | y <;> first | (exfalso; omega) | exact tt_cg rfl rfl (show r + u * wt = F123 30 5 by omega) (tt_one (by omega) (by omega) (by omega) j6 hnl (hon.mpr y.2) (by omega)) | exact tt_cg rfl rfl (show F1 30 5 = F123 30 5 by omega) (tt_skip j6 (tt_last (fun w => y.2 (hon.mp w)))) | fail) (by omega) (by omega) (by omega)
                · skip
                  refine sA_aload_n dd_X5_tryTwists_204 rfl (.tail _ (.tail _ (.tail _ (.tail _ (.tail _ (.head _)))))) ?_
                  refine sA_iload dd_X5_tryTwists_205 (.tail _ (.head _)) ?_
                  refine sA_put (ci := 5) (j := 5) (q := (RX5, TX5, 6)) (ty := .int) dd_X5_tryTwists_207 rfl (by decide) fl_X5_53 rfl (tyX5_ok 5 (by decide)) rfl rfl (by decide) gs_s30 rfl ?_
                  have I151 : gs_I (gs_up F123 30 5 (r + (u * wt))) A124 := gs_I_put I129 (show (-2147483648 : Int) ≤ r + (u * wt) ∧ r + (u * wt) ≤ 2147483647 by omega)
                  have f152 := gs_fr_put f133 (a := 30) (z := r + (u * wt)) (j := 5) (by first | omega | (dsimp only; omega) | (dsimp only) | fail)
                  have v153 : gs_up F123 30 5 (r + (u * wt)) 30 5 = r + (u * wt) := gs_up_self _ _ _ _
                  have v154 : (gs_up F123 30 5 (r + (u * wt))) 5 0 = F123 5 0 := gs_up_ne _ _ (by omega)
                  generalize gs_up F123 30 5 (r + (u * wt)) = F150 at I151 f152 v153 v154 ⊢
                  refine sA_iinc (lv' := [(7, gs_iv (u + 1)), (9, .ref 39), (8, gs_iv (r + (u * wt))), (6, gs_iv sz), (5, gs_iv lt), (0, .ref 30), (1, gs_iv 1), (2, gs_iv k), (3, gs_iv r), (4, gs_iv wt)]) dd_X5_tryTwists_210 (.tail _ (.tail _ (.head _))) (by decide) rfl ?_
                  refine sA_goto (tgt := 47) dd_X5_tryTwists_213 (by decide) ?_
                  have b155 : (1 : Int) ≤ F150 5 0 ∧ F150 5 0 ≤ 8 := I151.1 5 0
                  have b156 : (-2147483648 : Int) ≤ F150 30 5 ∧ F150 30 5 ≤ 2147483647 := I151.1 30 5
                  refine sA_sub (lv2 := [(7, gs_iv (u + 1)), (6, gs_iv sz), (5, gs_iv lt), (0, .ref 30), (1, gs_iv 1), (2, gs_iv k), (3, gs_iv r), (4, gs_iv wt)]) (List.forall_mem_cons.mpr ⟨(.head _), (List.forall_mem_cons.mpr ⟨(.tail _ (.tail _ (.tail _ (.head _)))), (List.forall_mem_cons.mpr ⟨(.tail _ (.tail _ (.tail _ (.tail _ (.head _))))), (List.forall_mem_cons.mpr ⟨(.tail _ (.tail _ (.tail _ (.tail _ (.tail _ (.head _)))))), (List.forall_mem_cons.mpr ⟨(.tail _ (.tail _ (.tail _ (.tail _ (.tail _ (.tail _ (.head _))))))), (List.forall_mem_cons.mpr ⟨(.tail _ (.tail _ (.tail _ (.tail _ (.tail _ (.tail _ (.tail _ (.head _)))))))), (List.forall_mem_cons.mpr ⟨(.tail _ (.tail _ (.tail _ (.tail _ (.tail _ (.tail _ (.tail _ (.tail _ (.head _))))))))), (List.forall_mem_cons.mpr ⟨(.tail _ (.tail _ (.tail _ (.tail _ (.tail _ (.tail _ (.tail _ (.tail _ (.tail _ (.head _)))))))))), (fun _ h => absurd h List.not_mem_nil)⟩)⟩)⟩)⟩)⟩)⟩)⟩)⟩) ?_
                  exact ih lt sz (u + 1) F150 A124 I151 f152 (by omega) (by omega) (by omega) (by omega) (by omega) i5 (by have j6 := i6; rw [show (k - 1).toNat = 1 by omega] at j6 ⊢; rcases y146 with y | y <;> first | (exfalso; omega) | exact tt_cg rfl rfl (show r + u * wt = F150 30 5 by omega) (tt_one (by omega) (by omega) (by omega) j6 hnl (hon.mpr y.2) (by omega)) | exact tt_cg rfl rfl (show F1 30 5 = F150 30 5 by omega) (tt_skip j6 (tt_last (fun w => y.2 (hon.mp w)))) | fail) (by omega) (by omega) (by omega)
              · skip
                have hlg : 400 < (sp_tw (sp_w g u) (gs_stk (A 38) (F 37 1).toNat)).length := by
                  rcases y153 with y | y
                  · exfalso
                    omega
                  · exact y.2
                refine sA_goto (tgt := 210) dd_X5_tryTwists_159 (by decide) ?_
                refine sA_iinc (lv' := [(7, gs_iv (u + 1)), (9, .ref 39), (8, gs_iv (r + (u * wt))), (6, gs_iv sz), (5, gs_iv lt), (0, .ref 30), (1, gs_iv 1), (2, gs_iv k), (3, gs_iv r), (4, gs_iv wt)]) dd_X5_tryTwists_210 (.tail _ (.tail _ (.head _))) (by decide) rfl ?_
                refine sA_goto (tgt := 47) dd_X5_tryTwists_213 (by decide) ?_
                have b157 : (1 : Int) ≤ F123 5 0 ∧ F123 5 0 ≤ 8 := I129.1 5 0
                have b158 : (-2147483648 : Int) ≤ F123 30 5 ∧ F123 30 5 ≤ 2147483647 := I129.1 30 5
                refine sA_sub (lv2 := [(7, gs_iv (u + 1)), (6, gs_iv sz), (5, gs_iv lt), (0, .ref 30), (1, gs_iv 1), (2, gs_iv k), (3, gs_iv r), (4, gs_iv wt)]) (List.forall_mem_cons.mpr ⟨(.head _), (List.forall_mem_cons.mpr ⟨(.tail _ (.tail _ (.tail _ (.head _)))), (List.forall_mem_cons.mpr ⟨(.tail _ (.tail _ (.tail _ (.tail _ (.head _))))), (List.forall_mem_cons.mpr ⟨(.tail _ (.tail _ (.tail _ (.tail _ (.tail _ (.head _)))))), (List.forall_mem_cons.mpr ⟨(.tail _ (.tail _ (.tail _ (.tail _ (.tail _ (.tail _ (.head _))))))), (List.forall_mem_cons.mpr ⟨(.tail _ (.tail _ (.tail _ (.tail _ (.tail _ (.tail _ (.tail _ (.head _)))))))), (List.forall_mem_cons.mpr ⟨(.tail _ (.tail _ (.tail _ (.tail _ (.tail _ (.tail _ (.tail _ (.tail _ (.head _))))))))), (List.forall_mem_cons.mpr ⟨(.tail _ (.tail _ (.tail _ (.tail _ (.tail _ (.tail _ (.tail _ (.tail _ (.tail _ (.head _)))))))))), (fun _ h => absurd h List.not_mem_nil)⟩)⟩)⟩)⟩)⟩)⟩)⟩)⟩) ?_
                exact ih lt sz (u + 1) F123 A124 I129 f133 (by omega) (by omega) (by omega) (by omega) (by omega) i5 (by have j6 := i6; rw [show (k - 1).toNat = (k - 2).toNat + 1 by omega] at j6 ⊢; exact tt_cg rfl rfl (show F1 30 5 = F123 30 5 by omega) (tt_skip j6 (tt_large hlg))) (by omega) (by omega) (by omega)
            · skip
              refine sA_goto (tgt := 210) dd_X5_tryTwists_121 (by decide) ?_
              refine sA_iinc (lv' := [(7, gs_iv (u + 1)), (8, gs_iv (r + (u * wt))), (6, gs_iv sz), (5, gs_iv lt), (0, .ref 30), (1, gs_iv 1), (2, gs_iv k), (3, gs_iv r), (4, gs_iv wt)]) dd_X5_tryTwists_210 (.tail _ (.head _)) (by decide) rfl ?_
              refine sA_goto (tgt := 47) dd_X5_tryTwists_213 (by decide) ?_
              refine sA_sub (lv2 := [(7, gs_iv (u + 1)), (6, gs_iv sz), (5, gs_iv lt), (0, .ref 30), (1, gs_iv 1), (2, gs_iv k), (3, gs_iv r), (4, gs_iv wt)]) (List.forall_mem_cons.mpr ⟨(.head _), (List.forall_mem_cons.mpr ⟨(.tail _ (.tail _ (.head _))), (List.forall_mem_cons.mpr ⟨(.tail _ (.tail _ (.tail _ (.head _)))), (List.forall_mem_cons.mpr ⟨(.tail _ (.tail _ (.tail _ (.tail _ (.head _))))), (List.forall_mem_cons.mpr ⟨(.tail _ (.tail _ (.tail _ (.tail _ (.tail _ (.head _)))))), (List.forall_mem_cons.mpr ⟨(.tail _ (.tail _ (.tail _ (.tail _ (.tail _ (.tail _ (.head _))))))), (List.forall_mem_cons.mpr ⟨(.tail _ (.tail _ (.tail _ (.tail _ (.tail _ (.tail _ (.tail _ (.head _)))))))), (List.forall_mem_cons.mpr ⟨(.tail _ (.tail _ (.tail _ (.tail _ (.tail _ (.tail _ (.tail _ (.tail _ (.head _))))))))), (fun _ h => absurd h List.not_mem_nil)⟩)⟩)⟩)⟩)⟩)⟩)⟩)⟩) ?_
              exact ih lt sz (u + 1) F1 A1 hI1 hf1 (by omega) (by omega) (by omega) (by omega) (by omega) i5 (by have j6 := i6; rw [show (k - 1).toNat = 1 by omega] at j6 ⊢; exact tt_skip j6 (tt_prune hg (by omega) hrd hV hahu i5 (by omega))) (by omega) (by omega) (by omega)
        · skip
          refine sA_iload dd_X5_tryTwists_83 (.head _) ?_
          refine sA_aload_n dd_X5_tryTwists_85 rfl (.tail _ (.tail _ (.tail _ (.tail _ (.head _))))) ?_
          refine sA_geti (ci := 5) (j := 5) (q := (RX5, TX5, 6)) dd_X5_tryTwists_86 rfl (by decide) fl_X5_53 (by decide) gs_s30 rfl ?_
          refine sA_icmp_lt (tgt := 93) dd_X5_tryTwists_89 (by decide) (by omega) (by omega) (fun q159 => ?_) (fun q159 => ?_)
          · skip
            refine sA_iload dd_X5_tryTwists_93 (.tail _ (.tail _ (.tail _ (.head _)))) ?_
            refine sA_if_eq (tgt := 124) dd_X5_tryTwists_95 (by decide) (by omega) (fun q160 => absurd q160 (by omega)) (fun q160 => ?_)
            refine sA_aload_n dd_X5_tryTwists_98 rfl (.tail _ (.tail _ (.tail _ (.tail _ (.head _))))) ?_
            refine sA_getr (ci := 5) (j := 3) (q := (RX5, TX5, 6)) dd_X5_tryTwists_99 rfl (by decide) fl_X5_17 (by decide) gs_s30 rfl ?_
            refine sA_iload dd_X5_tryTwists_102 (.tail _ (.head _)) ?_
            refine sA_iald (n := 16) dd_X5_tryTwists_104 (by decide) gs_s32 (by omega) (by decide) ?_
            have b161 : (-2147483648 : Int) ≤ A1 32 u.toNat ∧ A1 32 u.toNat ≤ 2147483647 := hI1.2 32 u.toNat
            refine sA_iconst (z := (-1)) dd_X5_tryTwists_105 ?_
            refine sA_icmp_eq (tgt := 124) dd_X5_tryTwists_106 (by decide) (by omega) (by omega) (fun q162 => ?_) (fun q162 => ?_)
            · skip
              refine sA_aload_n dd_X5_tryTwists_124 rfl (.tail _ (.tail _ (.tail _ (.tail _ (.head _))))) ?_
              refine sA_getr (ci := 5) (j := 2) (q := (RX5, TX5, 6)) dd_X5_tryTwists_125 rfl (by decide) fl_X5_11 (by decide) gs_s30 rfl ?_
              refine sA_iload_n dd_X5_tryTwists_128 rfl (.tail _ (.tail _ (.tail _ (.tail _ (.tail _ (.head _)))))) ?_
              refine sA_iconst (z := 1) dd_X5_tryTwists_129 ?_
              refine sA_iadd dd_X5_tryTwists_130 ?_
              show sA _ _ _ _ _ (gs_iv 2 :: _) _ _
              refine sA_aald (n := 4) dd_X5_tryTwists_131 (by decide) (by decide) (by decide) gs_s31 (by omega) (by decide) ?_
              show sA _ _ _ _ _ (.ref 39 :: _) _ _
              refine sA_astore (lv' := [(9, .ref 39), (8, gs_iv (r + (u * wt))), (7, gs_iv u), (6, gs_iv sz), (5, gs_iv lt), (0, .ref 30), (1, gs_iv 1), (2, gs_iv k), (3, gs_iv r), (4, gs_iv wt)]) dd_X5_tryTwists_132 (by decide) rfl ?_
              refine sA_aload dd_X5_tryTwists_134 (.head _) ?_
              refine sA_aload_n dd_X5_tryTwists_136 rfl (.tail _ (.tail _ (.tail _ (.tail _ (.tail _ (.head _)))))) ?_
              refine sA_getr (ci := 5) (j := 2) (q := (RX5, TX5, 6)) dd_X5_tryTwists_137 rfl (by decide) fl_X5_11 (by decide) gs_s30 rfl ?_
              refine sA_iload_n dd_X5_tryTwists_140 rfl (.tail _ (.tail _ (.tail _ (.tail _ (.tail _ (.tail _ (.head _))))))) ?_
              refine sA_aald (n := 4) dd_X5_tryTwists_141 (by decide) (by decide) (by decide) gs_s31 (by omega) (by decide) ?_
              show sA _ _ _ _ _ (.ref 37 :: _) _ _
              refine sA_callV (y2 := m_X4_copy) (n2 := 1) (d2 := 1) (a := 39) (ci := 4) (q := (RX4, TX4, 2)) (as := [.ref 37]) (rest := []) dd_X5_tryTwists_142 ok_X4_copy ml_X5_36 rfl rfl (Nat.lt_of_succ_lt gs_row_39.1) gs_row_39.2.1 rfl rfl (Nat.le_of_ble_eq_true rfl) (by decide) (c_X4_copy_vf hI1 gs_row_39 gs_row_37) (fun r165 F166 A167 h168 => ?_)
              obtain ⟨e170, I171, f172, x169⟩ := h168
              subst e170
              have v173 : F166 5 0 = F1 5 0 := f172.1 5 0 (by first | exact id | omega | (dsimp only; omega) | (dsimp only) | fail)
              have v174 : F166 30 5 = F1 30 5 := f172.1 30 5 (by first | exact id | omega | (dsimp only; omega) | (dsimp only) | fail)
              have f175 := gs_fr_tr hf1 f172 (fun b j h => by first | exact False.elim h | omega | (dsimp only at h ⊢; omega) | fail) (fun b h => by first | exact False.elim h | omega | (dsimp only at h ⊢; omega) | fail)
              have y176 : F1 37 1 ≤ (400 : Int) → (F166 39 1 = F1 37 1 ∧ A167 40 = gs_cc (A1 38) (A1 40) 0 0 (F1 37 1).toNat) := x169
              clear x169
              show sA _ _ _ 145 _ [] _ _
              refine sA_aload_n dd_X5_tryTwists_145 rfl (.tail _ (.tail _ (.tail _ (.tail _ (.tail _ (.head _)))))) ?_
              refine sA_getr (ci := 5) (j := 0) (q := (RX5, TX5, 6)) dd_X5_tryTwists_146 rfl (by decide) fl_X5_28 (by decide) gs_s30 rfl ?_
              refine sA_iload dd_X5_tryTwists_149 (.tail _ (.tail _ (.head _))) ?_
              refine sA_aload dd_X5_tryTwists_151 (.head _) ?_
              have er1 : A1 38 = A 38 := hf1.2 38 (by dsimp only; omega)
              have er2 : F1 37 1 = F 37 1 := hf1.1 37 1 (by dsimp only; omega)
              have hbr := gs_row_sz gs_row_37 hI1
              obtain ⟨c1, c2⟩ := y176 (by omega)
              have hstk : (gs_stk (A167 40) (F166 39 1).toNat) = (gs_stk (A 38) (F 37 1).toNat) := by
                rw [c1, c2, er1, er2]
                refine gs_stk_cg _ (fun i hi => ?_)
                unfold gs_cc
                rw [if_pos (by omega)]
                congr 1
                omega
              have hV1 : sp_val g (gs_stk (A167 40) (F166 39 1).toNat) := by rw [hstk]; exact hV
              have hW1 : gs_W (A167 6) g := by rw [f175.2 6 (by dsimp only; omega)]; exact hW
              have hL : (400 : Nat) = 400 := rfl
              refine sA_callV (y2 := m_X7_doTwist) (n2 := 2) (d2 := 2) (a := 5) (ci := 7) (q := (RX7, TX7, 5)) (as := [gs_iv u, .ref 39]) (rest := []) dd_X5_tryTwists_153 ok_X7_doTwist ml_X5_69 rfl rfl (by decide) gs_s5 rfl rfl (Nat.le_of_ble_eq_true rfl) (by decide) (c_X7_doTwist_vf I171 (by omega) gs_row_39 hg (by omega) hW1 hV1 hL (by omega)) (fun r177 F178 A179 h180 => ?_)
              obtain ⟨z183, e182, I184, f185, x181⟩ := h180
              subst e182
              have v186 : F178 5 0 = F166 5 0 := f185.1 5 0 (by first | exact id | omega | (dsimp only; omega) | (dsimp only) | fail)
              have v187 : F178 30 5 = F166 30 5 := f185.1 30 5 (by first | exact id | omega | (dsimp only; omega) | (dsimp only) | fail)
              have f188 := gs_fr_tr f175 f185 (fun b j h => by first | exact False.elim h | omega | (dsimp only at h ⊢; omega) | fail) (fun b h => by first | exact False.elim h | omega | (dsimp only at h ⊢; omega) | fail)
              have y189 : (z183 = 1 ∧ (sp_tw (sp_w g u) (gs_stk (A167 40) (F166 39 1).toNat)).length ≤ 400 ∧ gs_stk (A179 40) (F178 39 1).toNat = sp_tw (sp_w g u) (gs_stk (A167 40) (F166 39 1).toNat)) ∨ (z183 = 0 ∧ 400 < (sp_tw (sp_w g u) (gs_stk (A167 40) (F166 39 1).toNat)).length) := x181
              clear x181
              show sA _ _ _ 156 _ [gs_iv z183] _ _
              have y153 := y189
              rw [hstk] at y153
              refine sA_if_ne (tgt := 162) dd_X5_tryTwists_156 (by decide) (by omega) (fun q190 => ?_) (fun q190 => ?_)
              · skip
                have hys : ¬ 400 < (sp_tw (sp_w g u) (gs_stk (A 38) (F 37 1).toNat)).length ∧ (gs_stk (A179 40) (F178 39 1).toNat) = sp_tw (sp_w g u) (gs_stk (A 38) (F 37 1).toNat) := by
                  rcases y153 with y | y
                  · exact ⟨by have y2 := y.2.1; omega, y.2.2⟩
                  · exfalso
                    omega
                have hnl := hys.1
                have hrw := hys.2
                have g33 : F178 33 1 = F 33 1 := f188.1 33 1 (by dsimp only; omega)
                have g34 : A179 34 = A 34 := f188.2 34 (by dsimp only; omega)
                refine sA_iload dd_X5_tryTwists_162 (.tail _ (.tail _ (.tail _ (.tail _ (.head _))))) ?_
                refine sA_if_ne (tgt := 192) dd_X5_tryTwists_164 (by decide) (by omega) (fun q191 => ?_) (fun q191 => absurd q191 (by omega))
                refine sA_aload dd_X5_tryTwists_192 (.head _) ?_
                refine sA_aload_n dd_X5_tryTwists_194 rfl (.tail _ (.tail _ (.tail _ (.tail _ (.tail _ (.head _)))))) ?_
                refine sA_getr (ci := 5) (j := 4) (q := (RX5, TX5, 6)) dd_X5_tryTwists_195 rfl (by decide) fl_X5_24 (by decide) gs_s30 rfl ?_
                refine sA_callV (y2 := m_X4_isOneWith) (n2 := 1) (d2 := 2) (a := 39) (ci := 4) (q := (RX4, TX4, 2)) (as := [.ref 33]) (rest := []) dd_X5_tryTwists_198 ok_X4_isOneWith ml_X5_43 rfl rfl (Nat.lt_of_succ_lt gs_row_39.1) gs_row_39.2.1 rfl rfl (Nat.le_of_ble_eq_true rfl) (by decide) (c_X4_isOneWith_vf I184 gs_row_39 gs_row_33) (fun r192 F193 A194 h195 => ?_)
                obtain ⟨z198, e197, e199, e200, x196⟩ := h195
                subst e197 e199 e200
                have y201 : (z198 = 1 ∧ gs_on (A179 40) (F178 39 1) (A179 34) (F178 33 1)) ∨ (z198 = 0 ∧ ¬ gs_on (A179 40) (F178 39 1) (A179 34) (F178 33 1)) := x196
                clear x196
                show sA _ _ _ 201 _ [gs_iv z198] _ _
                have hz198 : z198 = 0 ∨ z198 = 1 := by omega
                have hon : st_on (sp_tw (sp_w g u) (gs_stk (A 38) (F 37 1).toNat)) (A 34) (F 33 1) ↔ gs_on (A179 40) (F178 39 1) (A179 34) (F178 33 1) := by
                  rw [g33, g34, ← hrw]
                  have hb := gs_row_sz gs_row_39 I184
                  exact st_on_mk hb.1
                refine sA_if_eq (tgt := 210) dd_X5_tryTwists_201 (by decide) (by omega) (fun q202 => ?_) (fun q202 => ?_)
                · skip
                  refine sA_iinc (lv' := [(7, gs_iv (u + 1)), (9, .ref 39), (8, gs_iv (r + (u * wt))), (6, gs_iv sz), (5, gs_iv lt), (0, .ref 30), (1, gs_iv 1), (2, gs_iv k), (3, gs_iv r), (4, gs_iv wt)]) dd_X5_tryTwists_210 (.tail _ (.tail _ (.head _))) (by decide) rfl ?_
                  refine sA_goto (tgt := 47) dd_X5_tryTwists_213 (by decide) ?_
                  have b203 : (1 : Int) ≤ F178 5 0 ∧ F178 5 0 ≤ 8 := I184.1 5 0
                  have b204 : (-2147483648 : Int) ≤ F178 30 5 ∧ F178 30 5 ≤ 2147483647 := I184.1 30 5
                  refine sA_sub (lv2 := [(7, gs_iv (u + 1)), (6, gs_iv sz), (5, gs_iv lt), (0, .ref 30), (1, gs_iv 1), (2, gs_iv k), (3, gs_iv r), (4, gs_iv wt)]) (List.forall_mem_cons.mpr ⟨(.head _), (List.forall_mem_cons.mpr ⟨(.tail _ (.tail _ (.tail _ (.head _)))), (List.forall_mem_cons.mpr ⟨(.tail _ (.tail _ (.tail _ (.tail _ (.head _))))), (List.forall_mem_cons.mpr ⟨(.tail _ (.tail _ (.tail _ (.tail _ (.tail _ (.head _)))))), (List.forall_mem_cons.mpr ⟨(.tail _ (.tail _ (.tail _ (.tail _ (.tail _ (.tail _ (.head _))))))), (List.forall_mem_cons.mpr ⟨(.tail _ (.tail _ (.tail _ (.tail _ (.tail _ (.tail _ (.tail _ (.head _)))))))), (List.forall_mem_cons.mpr ⟨(.tail _ (.tail _ (.tail _ (.tail _ (.tail _ (.tail _ (.tail _ (.tail _ (.head _))))))))), (List.forall_mem_cons.mpr ⟨(.tail _ (.tail _ (.tail _ (.tail _ (.tail _ (.tail _ (.tail _ (.tail _ (.tail _ (.head _)))))))))), (fun _ h => absurd h List.not_mem_nil)⟩)⟩)⟩)⟩)⟩)⟩)⟩)⟩) ?_
                  exact ih lt sz (u + 1) F178 A179 I184 f188 (by omega) (by omega) (by omega) (by omega) (by omega) i5 (by have j6 := i6; rw [show (k - 1).toNat = 1 by omega] at j6 ⊢; rcases y201 with y | y <;> first | (exfalso; omega) | exact tt_cg rfl rfl (show r + u * wt = F178 30 5 by omega) (tt_one (by omega) (by omega) (by omega) j6 hnl (hon.mpr y.2) (by omega)) | exact tt_cg rfl rfl (show F1 30 5 = F178 30 5 by omega) (tt_skip j6 (tt_last (fun w => y.2 (hon.mp w)))) | fail) (by omega) (by omega) (by omega)
                · skip
                  refine sA_aload_n dd_X5_tryTwists_204 rfl (.tail _ (.tail _ (.tail _ (.tail _ (.tail _ (.head _)))))) ?_
                  refine sA_iload dd_X5_tryTwists_205 (.tail _ (.head _)) ?_
                  refine sA_put (ci := 5) (j := 5) (q := (RX5, TX5, 6)) (ty := .int) dd_X5_tryTwists_207 rfl (by decide) fl_X5_53 rfl (tyX5_ok 5 (by decide)) rfl rfl (by decide) gs_s30 rfl ?_
                  have I206 : gs_I (gs_up F178 30 5 (r + (u * wt))) A179 := gs_I_put I184 (show (-2147483648 : Int) ≤ r + (u * wt) ∧ r + (u * wt) ≤ 2147483647 by omega)
                  have f207 := gs_fr_put f188 (a := 30) (z := r + (u * wt)) (j := 5) (by first | omega | (dsimp only; omega) | (dsimp only) | fail)
                  have v208 : gs_up F178 30 5 (r + (u * wt)) 30 5 = r + (u * wt) := gs_up_self _ _ _ _
                  have v209 : (gs_up F178 30 5 (r + (u * wt))) 5 0 = F178 5 0 := gs_up_ne _ _ (by omega)
                  generalize gs_up F178 30 5 (r + (u * wt)) = F205 at I206 f207 v208 v209 ⊢
                  refine sA_iinc (lv' := [(7, gs_iv (u + 1)), (9, .ref 39), (8, gs_iv (r + (u * wt))), (6, gs_iv sz), (5, gs_iv lt), (0, .ref 30), (1, gs_iv 1), (2, gs_iv k), (3, gs_iv r), (4, gs_iv wt)]) dd_X5_tryTwists_210 (.tail _ (.tail _ (.head _))) (by decide) rfl ?_
                  refine sA_goto (tgt := 47) dd_X5_tryTwists_213 (by decide) ?_
                  have b210 : (1 : Int) ≤ F205 5 0 ∧ F205 5 0 ≤ 8 := I206.1 5 0
                  have b211 : (-2147483648 : Int) ≤ F205 30 5 ∧ F205 30 5 ≤ 2147483647 := I206.1 30 5
                  refine sA_sub (lv2 := [(7, gs_iv (u + 1)), (6, gs_iv sz), (5, gs_iv lt), (0, .ref 30), (1, gs_iv 1), (2, gs_iv k), (3, gs_iv r), (4, gs_iv wt)]) (List.forall_mem_cons.mpr ⟨(.head _), (List.forall_mem_cons.mpr ⟨(.tail _ (.tail _ (.tail _ (.head _)))), (List.forall_mem_cons.mpr ⟨(.tail _ (.tail _ (.tail _ (.tail _ (.head _))))), (List.forall_mem_cons.mpr ⟨(.tail _ (.tail _ (.tail _ (.tail _ (.tail _ (.head _)))))), (List.forall_mem_cons.mpr ⟨(.tail _ (.tail _ (.tail _ (.tail _ (.tail _ (.tail _ (.head _))))))), (List.forall_mem_cons.mpr ⟨(.tail _ (.tail _ (.tail _ (.tail _ (.tail _ (.tail _ (.tail _ (.head _)))))))), (List.forall_mem_cons.mpr ⟨(.tail _ (.tail _ (.tail _ (.tail _ (.tail _ (.tail _ (.tail _ (.tail _ (.head _))))))))), (List.forall_mem_cons.mpr ⟨(.tail _ (.tail _ (.tail _ (.tail _ (.tail _ (.tail _ (.tail _ (.tail _ (.tail _ (.head _)))))))))), (fun _ h => absurd h List.not_mem_nil)⟩)⟩)⟩)⟩)⟩)⟩)⟩)⟩) ?_
                  exact ih lt sz (u + 1) F205 A179 I206 f207 (by omega) (by omega) (by omega) (by omega) (by omega) i5 (by have j6 := i6; rw [show (k - 1).toNat = 1 by omega] at j6 ⊢; rcases y201 with y | y <;> first | (exfalso; omega) | exact tt_cg rfl rfl (show r + u * wt = F205 30 5 by omega) (tt_one (by omega) (by omega) (by omega) j6 hnl (hon.mpr y.2) (by omega)) | exact tt_cg rfl rfl (show F1 30 5 = F205 30 5 by omega) (tt_skip j6 (tt_last (fun w => y.2 (hon.mp w)))) | fail) (by omega) (by omega) (by omega)
              · skip
                have hlg : 400 < (sp_tw (sp_w g u) (gs_stk (A 38) (F 37 1).toNat)).length := by
                  rcases y153 with y | y
                  · exfalso
                    omega
                  · exact y.2
                refine sA_goto (tgt := 210) dd_X5_tryTwists_159 (by decide) ?_
                refine sA_iinc (lv' := [(7, gs_iv (u + 1)), (9, .ref 39), (8, gs_iv (r + (u * wt))), (6, gs_iv sz), (5, gs_iv lt), (0, .ref 30), (1, gs_iv 1), (2, gs_iv k), (3, gs_iv r), (4, gs_iv wt)]) dd_X5_tryTwists_210 (.tail _ (.tail _ (.head _))) (by decide) rfl ?_
                refine sA_goto (tgt := 47) dd_X5_tryTwists_213 (by decide) ?_
                have b212 : (1 : Int) ≤ F178 5 0 ∧ F178 5 0 ≤ 8 := I184.1 5 0
                have b213 : (-2147483648 : Int) ≤ F178 30 5 ∧ F178 30 5 ≤ 2147483647 := I184.1 30 5
                refine sA_sub (lv2 := [(7, gs_iv (u + 1)), (6, gs_iv sz), (5, gs_iv lt), (0, .ref 30), (1, gs_iv 1), (2, gs_iv k), (3, gs_iv r), (4, gs_iv wt)]) (List.forall_mem_cons.mpr ⟨(.head _), (List.forall_mem_cons.mpr ⟨(.tail _ (.tail _ (.tail _ (.head _)))), (List.forall_mem_cons.mpr ⟨(.tail _ (.tail _ (.tail _ (.tail _ (.head _))))), (List.forall_mem_cons.mpr ⟨(.tail _ (.tail _ (.tail _ (.tail _ (.tail _ (.head _)))))), (List.forall_mem_cons.mpr ⟨(.tail _ (.tail _ (.tail _ (.tail _ (.tail _ (.tail _ (.head _))))))), (List.forall_mem_cons.mpr ⟨(.tail _ (.tail _ (.tail _ (.tail _ (.tail _ (.tail _ (.tail _ (.head _)))))))), (List.forall_mem_cons.mpr ⟨(.tail _ (.tail _ (.tail _ (.tail _ (.tail _ (.tail _ (.tail _ (.tail _ (.head _))))))))), (List.forall_mem_cons.mpr ⟨(.tail _ (.tail _ (.tail _ (.tail _ (.tail _ (.tail _ (.tail _ (.tail _ (.tail _ (.head _)))))))))), (fun _ h => absurd h List.not_mem_nil)⟩)⟩)⟩)⟩)⟩)⟩)⟩)⟩) ?_
                exact ih lt sz (u + 1) F178 A179 I184 f188 (by omega) (by omega) (by omega) (by omega) (by omega) i5 (by have j6 := i6; rw [show (k - 1).toNat = (k - 2).toNat + 1 by omega] at j6 ⊢; exact tt_cg rfl rfl (show F1 30 5 = F178 30 5 by omega) (tt_skip j6 (tt_large hlg))) (by omega) (by omega) (by omega)
            · skip
              have e32u : A1 32 u.toNat = A 32 u.toNat := by rw [e32]
              have hahu : cy_rep (sp_tw (sp_w g (sp_fl u)) (gs_stk (A 34) (F 33 1).toNat)) (A 32 u.toNat) := by
                rcases hah u (by omega) (by omega) with q | q
                · exfalso
                  omega
                · exact q
              refine sA_aload_n dd_X5_tryTwists_109 rfl (.tail _ (.tail _ (.tail _ (.tail _ (.head _))))) ?_
              refine sA_getr (ci := 5) (j := 3) (q := (RX5, TX5, 6)) dd_X5_tryTwists_110 rfl (by decide) fl_X5_17 (by decide) gs_s30 rfl ?_
              refine sA_iload dd_X5_tryTwists_113 (.tail _ (.head _)) ?_
              refine sA_iald (n := 16) dd_X5_tryTwists_115 (by decide) gs_s32 (by omega) (by decide) ?_
              refine sA_iload dd_X5_tryTwists_116 (.tail _ (.tail _ (.head _))) ?_
              refine sA_icmp_eq (tgt := 124) dd_X5_tryTwists_118 (by decide) (by omega) (by omega) (fun q214 => ?_) (fun q214 => ?_)
              · skip
                refine sA_aload_n dd_X5_tryTwists_124 rfl (.tail _ (.tail _ (.tail _ (.tail _ (.head _))))) ?_
                refine sA_getr (ci := 5) (j := 2) (q := (RX5, TX5, 6)) dd_X5_tryTwists_125 rfl (by decide) fl_X5_11 (by decide) gs_s30 rfl ?_
                refine sA_iload_n dd_X5_tryTwists_128 rfl (.tail _ (.tail _ (.tail _ (.tail _ (.tail _ (.head _)))))) ?_
                refine sA_iconst (z := 1) dd_X5_tryTwists_129 ?_
                refine sA_iadd dd_X5_tryTwists_130 ?_
                show sA _ _ _ _ _ (gs_iv 2 :: _) _ _
                refine sA_aald (n := 4) dd_X5_tryTwists_131 (by decide) (by decide) (by decide) gs_s31 (by omega) (by decide) ?_
                show sA _ _ _ _ _ (.ref 39 :: _) _ _
                refine sA_astore (lv' := [(9, .ref 39), (8, gs_iv (r + (u * wt))), (7, gs_iv u), (6, gs_iv sz), (5, gs_iv lt), (0, .ref 30), (1, gs_iv 1), (2, gs_iv k), (3, gs_iv r), (4, gs_iv wt)]) dd_X5_tryTwists_132 (by decide) rfl ?_
                refine sA_aload dd_X5_tryTwists_134 (.head _) ?_
                refine sA_aload_n dd_X5_tryTwists_136 rfl (.tail _ (.tail _ (.tail _ (.tail _ (.tail _ (.head _)))))) ?_
                refine sA_getr (ci := 5) (j := 2) (q := (RX5, TX5, 6)) dd_X5_tryTwists_137 rfl (by decide) fl_X5_11 (by decide) gs_s30 rfl ?_
                refine sA_iload_n dd_X5_tryTwists_140 rfl (.tail _ (.tail _ (.tail _ (.tail _ (.tail _ (.tail _ (.head _))))))) ?_
                refine sA_aald (n := 4) dd_X5_tryTwists_141 (by decide) (by decide) (by decide) gs_s31 (by omega) (by decide) ?_
                show sA _ _ _ _ _ (.ref 37 :: _) _ _
                refine sA_callV (y2 := m_X4_copy) (n2 := 1) (d2 := 1) (a := 39) (ci := 4) (q := (RX4, TX4, 2)) (as := [.ref 37]) (rest := []) dd_X5_tryTwists_142 ok_X4_copy ml_X5_36 rfl rfl (Nat.lt_of_succ_lt gs_row_39.1) gs_row_39.2.1 rfl rfl (Nat.le_of_ble_eq_true rfl) (by decide) (c_X4_copy_vf hI1 gs_row_39 gs_row_37) (fun r217 F218 A219 h220 => ?_)
                obtain ⟨e222, I223, f224, x221⟩ := h220
                subst e222
                have v225 : F218 5 0 = F1 5 0 := f224.1 5 0 (by first | exact id | omega | (dsimp only; omega) | (dsimp only) | fail)
                have v226 : F218 30 5 = F1 30 5 := f224.1 30 5 (by first | exact id | omega | (dsimp only; omega) | (dsimp only) | fail)
                have f227 := gs_fr_tr hf1 f224 (fun b j h => by first | exact False.elim h | omega | (dsimp only at h ⊢; omega) | fail) (fun b h => by first | exact False.elim h | omega | (dsimp only at h ⊢; omega) | fail)
                have y228 : F1 37 1 ≤ (400 : Int) → (F218 39 1 = F1 37 1 ∧ A219 40 = gs_cc (A1 38) (A1 40) 0 0 (F1 37 1).toNat) := x221
                clear x221
                show sA _ _ _ 145 _ [] _ _
                refine sA_aload_n dd_X5_tryTwists_145 rfl (.tail _ (.tail _ (.tail _ (.tail _ (.tail _ (.head _)))))) ?_
                refine sA_getr (ci := 5) (j := 0) (q := (RX5, TX5, 6)) dd_X5_tryTwists_146 rfl (by decide) fl_X5_28 (by decide) gs_s30 rfl ?_
                refine sA_iload dd_X5_tryTwists_149 (.tail _ (.tail _ (.head _))) ?_
                refine sA_aload dd_X5_tryTwists_151 (.head _) ?_
                have er1 : A1 38 = A 38 := hf1.2 38 (by dsimp only; omega)
                have er2 : F1 37 1 = F 37 1 := hf1.1 37 1 (by dsimp only; omega)
                have hbr := gs_row_sz gs_row_37 hI1
                obtain ⟨c1, c2⟩ := y228 (by omega)
                have hstk : (gs_stk (A219 40) (F218 39 1).toNat) = (gs_stk (A 38) (F 37 1).toNat) := by
                  rw [c1, c2, er1, er2]
                  refine gs_stk_cg _ (fun i hi => ?_)
                  unfold gs_cc
                  rw [if_pos (by omega)]
                  congr 1
                  omega
                have hV1 : sp_val g (gs_stk (A219 40) (F218 39 1).toNat) := by rw [hstk]; exact hV
                have hW1 : gs_W (A219 6) g := by rw [f227.2 6 (by dsimp only; omega)]; exact hW
                have hL : (400 : Nat) = 400 := rfl
                refine sA_callV (y2 := m_X7_doTwist) (n2 := 2) (d2 := 2) (a := 5) (ci := 7) (q := (RX7, TX7, 5)) (as := [gs_iv u, .ref 39]) (rest := []) dd_X5_tryTwists_153 ok_X7_doTwist ml_X5_69 rfl rfl (by decide) gs_s5 rfl rfl (Nat.le_of_ble_eq_true rfl) (by decide) (c_X7_doTwist_vf I223 (by omega) gs_row_39 hg (by omega) hW1 hV1 hL (by omega)) (fun r229 F230 A231 h232 => ?_)
                obtain ⟨z235, e234, I236, f237, x233⟩ := h232
                subst e234
                have v238 : F230 5 0 = F218 5 0 := f237.1 5 0 (by first | exact id | omega | (dsimp only; omega) | (dsimp only) | fail)
                have v239 : F230 30 5 = F218 30 5 := f237.1 30 5 (by first | exact id | omega | (dsimp only; omega) | (dsimp only) | fail)
                have f240 := gs_fr_tr f227 f237 (fun b j h => by first | exact False.elim h | omega | (dsimp only at h ⊢; omega) | fail) (fun b h => by first | exact False.elim h | omega | (dsimp only at h ⊢; omega) | fail)
                have y241 : (z235 = 1 ∧ (sp_tw (sp_w g u) (gs_stk (A219 40) (F218 39 1).toNat)).length ≤ 400 ∧ gs_stk (A231 40) (F230 39 1).toNat = sp_tw (sp_w g u) (gs_stk (A219 40) (F218 39 1).toNat)) ∨ (z235 = 0 ∧ 400 < (sp_tw (sp_w g u) (gs_stk (A219 40) (F218 39 1).toNat)).length) := x233
                clear x233
                show sA _ _ _ 156 _ [gs_iv z235] _ _
                have y153 := y241
                rw [hstk] at y153
                refine sA_if_ne (tgt := 162) dd_X5_tryTwists_156 (by decide) (by omega) (fun q242 => ?_) (fun q242 => ?_)
                · skip
                  have hys : ¬ 400 < (sp_tw (sp_w g u) (gs_stk (A 38) (F 37 1).toNat)).length ∧ (gs_stk (A231 40) (F230 39 1).toNat) = sp_tw (sp_w g u) (gs_stk (A 38) (F 37 1).toNat) := by
                    rcases y153 with y | y
                    · exact ⟨by have y2 := y.2.1; omega, y.2.2⟩
                    · exfalso
                      omega
                  have hnl := hys.1
                  have hrw := hys.2
                  have g33 : F230 33 1 = F 33 1 := f240.1 33 1 (by dsimp only; omega)
                  have g34 : A231 34 = A 34 := f240.2 34 (by dsimp only; omega)
                  refine sA_iload dd_X5_tryTwists_162 (.tail _ (.tail _ (.tail _ (.tail _ (.head _))))) ?_
                  refine sA_if_ne (tgt := 192) dd_X5_tryTwists_164 (by decide) (by omega) (fun q243 => ?_) (fun q243 => absurd q243 (by omega))
                  refine sA_aload dd_X5_tryTwists_192 (.head _) ?_
                  refine sA_aload_n dd_X5_tryTwists_194 rfl (.tail _ (.tail _ (.tail _ (.tail _ (.tail _ (.head _)))))) ?_
                  refine sA_getr (ci := 5) (j := 4) (q := (RX5, TX5, 6)) dd_X5_tryTwists_195 rfl (by decide) fl_X5_24 (by decide) gs_s30 rfl ?_
                  refine sA_callV (y2 := m_X4_isOneWith) (n2 := 1) (d2 := 2) (a := 39) (ci := 4) (q := (RX4, TX4, 2)) (as := [.ref 33]) (rest := []) dd_X5_tryTwists_198 ok_X4_isOneWith ml_X5_43 rfl rfl (Nat.lt_of_succ_lt gs_row_39.1) gs_row_39.2.1 rfl rfl (Nat.le_of_ble_eq_true rfl) (by decide) (c_X4_isOneWith_vf I236 gs_row_39 gs_row_33) (fun r244 F245 A246 h247 => ?_)
                  obtain ⟨z250, e249, e251, e252, x248⟩ := h247
                  subst e249 e251 e252
                  have y253 : (z250 = 1 ∧ gs_on (A231 40) (F230 39 1) (A231 34) (F230 33 1)) ∨ (z250 = 0 ∧ ¬ gs_on (A231 40) (F230 39 1) (A231 34) (F230 33 1)) := x248
                  clear x248
                  show sA _ _ _ 201 _ [gs_iv z250] _ _
                  have hz198 : z250 = 0 ∨ z250 = 1 := by omega
                  have hon : st_on (sp_tw (sp_w g u) (gs_stk (A 38) (F 37 1).toNat)) (A 34) (F 33 1) ↔ gs_on (A231 40) (F230 39 1) (A231 34) (F230 33 1) := by
                    rw [g33, g34, ← hrw]
                    have hb := gs_row_sz gs_row_39 I236
                    exact st_on_mk hb.1
                  refine sA_if_eq (tgt := 210) dd_X5_tryTwists_201 (by decide) (by omega) (fun q254 => ?_) (fun q254 => ?_)
                  · skip
                    refine sA_iinc (lv' := [(7, gs_iv (u + 1)), (9, .ref 39), (8, gs_iv (r + (u * wt))), (6, gs_iv sz), (5, gs_iv lt), (0, .ref 30), (1, gs_iv 1), (2, gs_iv k), (3, gs_iv r), (4, gs_iv wt)]) dd_X5_tryTwists_210 (.tail _ (.tail _ (.head _))) (by decide) rfl ?_
                    refine sA_goto (tgt := 47) dd_X5_tryTwists_213 (by decide) ?_
                    have b255 : (1 : Int) ≤ F230 5 0 ∧ F230 5 0 ≤ 8 := I236.1 5 0
                    have b256 : (-2147483648 : Int) ≤ F230 30 5 ∧ F230 30 5 ≤ 2147483647 := I236.1 30 5
                    refine sA_sub (lv2 := [(7, gs_iv (u + 1)), (6, gs_iv sz), (5, gs_iv lt), (0, .ref 30), (1, gs_iv 1), (2, gs_iv k), (3, gs_iv r), (4, gs_iv wt)]) (List.forall_mem_cons.mpr ⟨(.head _), (List.forall_mem_cons.mpr ⟨(.tail _ (.tail _ (.tail _ (.head _)))), (List.forall_mem_cons.mpr ⟨(.tail _ (.tail _ (.tail _ (.tail _ (.head _))))), (List.forall_mem_cons.mpr ⟨(.tail _ (.tail _ (.tail _ (.tail _ (.tail _ (.head _)))))), (List.forall_mem_cons.mpr ⟨(.tail _ (.tail _ (.tail _ (.tail _ (.tail _ (.tail _ (.head _))))))), (List.forall_mem_cons.mpr ⟨(.tail _ (.tail _ (.tail _ (.tail _ (.tail _ (.tail _ (.tail _ (.head _)))))))), (List.forall_mem_cons.mpr ⟨(.tail _ (.tail _ (.tail _ (.tail _ (.tail _ (.tail _ (.tail _ (.tail _ (.head _))))))))), (List.forall_mem_cons.mpr ⟨(.tail _ (.tail _ (.tail _ (.tail _ (.tail _ (.tail _ (.tail _ (.tail _ (.tail _ (.head _)))))))))), (fun _ h => absurd h List.not_mem_nil)⟩)⟩)⟩)⟩)⟩)⟩)⟩)⟩) ?_
                    exact ih lt sz (u + 1) F230 A231 I236 f240 (by omega) (by omega) (by omega) (by omega) (by omega) i5 (by have j6 := i6; rw [show (k - 1).toNat = 1 by omega] at j6 ⊢; rcases y253 with y | y <;> first | (exfalso; omega) | exact tt_cg rfl rfl (show r + u * wt = F230 30 5 by omega) (tt_one (by omega) (by omega) (by omega) j6 hnl (hon.mpr y.2) (by omega)) | exact tt_cg rfl rfl (show F1 30 5 = F230 30 5 by omega) (tt_skip j6 (tt_last (fun w => y.2 (hon.mp w)))) | fail) (by omega) (by omega) (by omega)
                  · skip
                    refine sA_aload_n dd_X5_tryTwists_204 rfl (.tail _ (.tail _ (.tail _ (.tail _ (.tail _ (.head _)))))) ?_
                    refine sA_iload dd_X5_tryTwists_205 (.tail _ (.head _)) ?_
                    refine sA_put (ci := 5) (j := 5) (q := (RX5, TX5, 6)) (ty := .int) dd_X5_tryTwists_207 rfl (by decide) fl_X5_53 rfl (tyX5_ok 5 (by decide)) rfl rfl (by decide) gs_s30 rfl ?_
                    have I258 : gs_I (gs_up F230 30 5 (r + (u * wt))) A231 := gs_I_put I236 (show (-2147483648 : Int) ≤ r + (u * wt) ∧ r + (u * wt) ≤ 2147483647 by omega)
                    have f259 := gs_fr_put f240 (a := 30) (z := r + (u * wt)) (j := 5) (by first | omega | (dsimp only; omega) | (dsimp only) | fail)
                    have v260 : gs_up F230 30 5 (r + (u * wt)) 30 5 = r + (u * wt) := gs_up_self _ _ _ _
                    have v261 : (gs_up F230 30 5 (r + (u * wt))) 5 0 = F230 5 0 := gs_up_ne _ _ (by omega)
                    generalize gs_up F230 30 5 (r + (u * wt)) = F257 at I258 f259 v260 v261 ⊢
                    refine sA_iinc (lv' := [(7, gs_iv (u + 1)), (9, .ref 39), (8, gs_iv (r + (u * wt))), (6, gs_iv sz), (5, gs_iv lt), (0, .ref 30), (1, gs_iv 1), (2, gs_iv k), (3, gs_iv r), (4, gs_iv wt)]) dd_X5_tryTwists_210 (.tail _ (.tail _ (.head _))) (by decide) rfl ?_
                    refine sA_goto (tgt := 47) dd_X5_tryTwists_213 (by decide) ?_
                    have b262 : (1 : Int) ≤ F257 5 0 ∧ F257 5 0 ≤ 8 := I258.1 5 0
                    have b263 : (-2147483648 : Int) ≤ F257 30 5 ∧ F257 30 5 ≤ 2147483647 := I258.1 30 5
                    refine sA_sub (lv2 := [(7, gs_iv (u + 1)), (6, gs_iv sz), (5, gs_iv lt), (0, .ref 30), (1, gs_iv 1), (2, gs_iv k), (3, gs_iv r), (4, gs_iv wt)]) (List.forall_mem_cons.mpr ⟨(.head _), (List.forall_mem_cons.mpr ⟨(.tail _ (.tail _ (.tail _ (.head _)))), (List.forall_mem_cons.mpr ⟨(.tail _ (.tail _ (.tail _ (.tail _ (.head _))))), (List.forall_mem_cons.mpr ⟨(.tail _ (.tail _ (.tail _ (.tail _ (.tail _ (.head _)))))), (List.forall_mem_cons.mpr ⟨(.tail _ (.tail _ (.tail _ (.tail _ (.tail _ (.tail _ (.head _))))))), (List.forall_mem_cons.mpr ⟨(.tail _ (.tail _ (.tail _ (.tail _ (.tail _ (.tail _ (.tail _ (.head _)))))))), (List.forall_mem_cons.mpr ⟨(.tail _ (.tail _ (.tail _ (.tail _ (.tail _ (.tail _ (.tail _ (.tail _ (.head _))))))))), (List.forall_mem_cons.mpr ⟨(.tail _ (.tail _ (.tail _ (.tail _ (.tail _ (.tail _ (.tail _ (.tail _ (.tail _ (.head _)))))))))), (fun _ h => absurd h List.not_mem_nil)⟩)⟩)⟩)⟩)⟩)⟩)⟩)⟩) ?_
                    exact ih lt sz (u + 1) F257 A231 I258 f259 (by omega) (by omega) (by omega) (by omega) (by omega) i5 (by have j6 := i6; rw [show (k - 1).toNat = 1 by omega] at j6 ⊢; rcases y253 with y | y <;> first | (exfalso; omega) | exact tt_cg rfl rfl (show r + u * wt = F257 30 5 by omega) (tt_one (by omega) (by omega) (by omega) j6 hnl (hon.mpr y.2) (by omega)) | exact tt_cg rfl rfl (show F1 30 5 = F257 30 5 by omega) (tt_skip j6 (tt_last (fun w => y.2 (hon.mp w)))) | fail) (by omega) (by omega) (by omega)
                · skip
                  have hlg : 400 < (sp_tw (sp_w g u) (gs_stk (A 38) (F 37 1).toNat)).length := by
                    rcases y153 with y | y
                    · exfalso
                      omega
                    · exact y.2
                  refine sA_goto (tgt := 210) dd_X5_tryTwists_159 (by decide) ?_
                  refine sA_iinc (lv' := [(7, gs_iv (u + 1)), (9, .ref 39), (8, gs_iv (r + (u * wt))), (6, gs_iv sz), (5, gs_iv lt), (0, .ref 30), (1, gs_iv 1), (2, gs_iv k), (3, gs_iv r), (4, gs_iv wt)]) dd_X5_tryTwists_210 (.tail _ (.tail _ (.head _))) (by decide) rfl ?_
                  refine sA_goto (tgt := 47) dd_X5_tryTwists_213 (by decide) ?_
                  have b264 : (1 : Int) ≤ F230 5 0 ∧ F230 5 0 ≤ 8 := I236.1 5 0
                  have b265 : (-2147483648 : Int) ≤ F230 30 5 ∧ F230 30 5 ≤ 2147483647 := I236.1 30 5
                  refine sA_sub (lv2 := [(7, gs_iv (u + 1)), (6, gs_iv sz), (5, gs_iv lt), (0, .ref 30), (1, gs_iv 1), (2, gs_iv k), (3, gs_iv r), (4, gs_iv wt)]) (List.forall_mem_cons.mpr ⟨(.head _), (List.forall_mem_cons.mpr ⟨(.tail _ (.tail _ (.tail _ (.head _)))), (List.forall_mem_cons.mpr ⟨(.tail _ (.tail _ (.tail _ (.tail _ (.head _))))), (List.forall_mem_cons.mpr ⟨(.tail _ (.tail _ (.tail _ (.tail _ (.tail _ (.head _)))))), (List.forall_mem_cons.mpr ⟨(.tail _ (.tail _ (.tail _ (.tail _ (.tail _ (.tail _ (.head _))))))), (List.forall_mem_cons.mpr ⟨(.tail _ (.tail _ (.tail _ (.tail _ (.tail _ (.tail _ (.tail _ (.head _)))))))), (List.forall_mem_cons.mpr ⟨(.tail _ (.tail _ (.tail _ (.tail _ (.tail _ (.tail _ (.tail _ (.tail _ (.head _))))))))), (List.forall_mem_cons.mpr ⟨(.tail _ (.tail _ (.tail _ (.tail _ (.tail _ (.tail _ (.tail _ (.tail _ (.tail _ (.head _)))))))))), (fun _ h => absurd h List.not_mem_nil)⟩)⟩)⟩)⟩)⟩)⟩)⟩)⟩) ?_
                  exact ih lt sz (u + 1) F230 A231 I236 f240 (by omega) (by omega) (by omega) (by omega) (by omega) i5 (by have j6 := i6; rw [show (k - 1).toNat = (k - 2).toNat + 1 by omega] at j6 ⊢; exact tt_cg rfl rfl (show F1 30 5 = F230 30 5 by omega) (tt_skip j6 (tt_large hlg))) (by omega) (by omega) (by omega)
              · skip
                refine sA_goto (tgt := 210) dd_X5_tryTwists_121 (by decide) ?_
                refine sA_iinc (lv' := [(7, gs_iv (u + 1)), (8, gs_iv (r + (u * wt))), (6, gs_iv sz), (5, gs_iv lt), (0, .ref 30), (1, gs_iv 1), (2, gs_iv k), (3, gs_iv r), (4, gs_iv wt)]) dd_X5_tryTwists_210 (.tail _ (.head _)) (by decide) rfl ?_
                refine sA_goto (tgt := 47) dd_X5_tryTwists_213 (by decide) ?_
                refine sA_sub (lv2 := [(7, gs_iv (u + 1)), (6, gs_iv sz), (5, gs_iv lt), (0, .ref 30), (1, gs_iv 1), (2, gs_iv k), (3, gs_iv r), (4, gs_iv wt)]) (List.forall_mem_cons.mpr ⟨(.head _), (List.forall_mem_cons.mpr ⟨(.tail _ (.tail _ (.head _))), (List.forall_mem_cons.mpr ⟨(.tail _ (.tail _ (.tail _ (.head _)))), (List.forall_mem_cons.mpr ⟨(.tail _ (.tail _ (.tail _ (.tail _ (.head _))))), (List.forall_mem_cons.mpr ⟨(.tail _ (.tail _ (.tail _ (.tail _ (.tail _ (.head _)))))), (List.forall_mem_cons.mpr ⟨(.tail _ (.tail _ (.tail _ (.tail _ (.tail _ (.tail _ (.head _))))))), (List.forall_mem_cons.mpr ⟨(.tail _ (.tail _ (.tail _ (.tail _ (.tail _ (.tail _ (.tail _ (.head _)))))))), (List.forall_mem_cons.mpr ⟨(.tail _ (.tail _ (.tail _ (.tail _ (.tail _ (.tail _ (.tail _ (.tail _ (.head _))))))))), (fun _ h => absurd h List.not_mem_nil)⟩)⟩)⟩)⟩)⟩)⟩)⟩)⟩) ?_
                exact ih lt sz (u + 1) F1 A1 hI1 hf1 (by omega) (by omega) (by omega) (by omega) (by omega) i5 (by have j6 := i6; rw [show (k - 1).toNat = 1 by omega] at j6 ⊢; exact tt_skip j6 (tt_prune hg (by omega) hrd hV hahu i5 (by omega))) (by omega) (by omega) (by omega)
          · skip
            refine sA_vret dd_X5_tryTwists_92 rfl ?_
            refine ⟨rfl, hI1, hf1, ?_⟩
            have j6 := i6
            rw [show (k - 1).toNat = 1 by omega] at j6 ⊢
            exact tt_stop (by omega) (by omega) (by omega) j6
theorem c_X5_tryTwists_v1f {k r wt g : Int} {F A : gs_F} (hI : gs_I F A) (hk : 0 ≤ k ∧ k ≤ 3) (hkd : 1 < k) (hr0 : 0 ≤ r ∧ r < wt) (hwt : 1 ≤ wt ∧ wt ≤ 16) (hg : 1 ≤ g ∧ g ≤ 3) (h5 : F 5 0 = 3 * g - 1) (hW : gs_W (A 6) g) (hV : sp_val g (gs_stk (A 38) (F 37 1).toNat)) (hrd : sp_red (gs_stk (A 38) (F 37 1).toNat)) (hah : ∀ u : Int, 0 ≤ u → u < 2 * F 5 0 → A 32 u.toNat = -1 ∨ cy_rep (sp_tw (sp_w g (sp_fl u)) (gs_stk (A 34) (F 33 1).toNat)) (A 32 u.toNat)) (h30 : F 30 5 = -1 ∨ 0 ≤ F 30 5) : sC m_X5_tryTwists 5 [.ref 30, gs_iv 1, gs_iv k, gs_iv r, gs_iv wt] F A (fun rv F' A' => rv = none ∧ gs_I F' A' ∧ gs_fr (fun c j => (c = 30 ∧ j = 5) ∨ (39 ≤ c ∧ c < 43 ∧ j = 1)) (fun c => c = 7 ∨ (39 ≤ c ∧ c < 43)) F A F' A' ∧ (tt_best (tt_S g (2 * (3 * g - 1)) (gs_stk (A 38) (F 37 1).toNat) (A 34) (F 33 1) (k - 1).toNat r wt (2 * (3 * g - 1))) (F 30 5) (F' 30 5))) := by
  refine sC_of ok_X5_tryTwists.1 (Nat.le_of_ble_eq_true rfl) ?_
  show sA _ _ _ 0 [(0, .ref 30), (1, gs_iv 1), (2, gs_iv k), (3, gs_iv r), (4, gs_iv wt)] [] F A
  have hf : gs_fr (fun c j => (c = 30 ∧ j = 5) ∨ (39 ≤ c ∧ c < 43 ∧ j = 1)) (fun c => c = 7 ∨ (39 ≤ c ∧ c < 43)) F A F A := gs_fr_refl _ _ _ _
  have b266 : (1 : Int) ≤ F 5 0 ∧ F 5 0 ≤ 8 := hI.1 5 0
  have b267 : (-2147483648 : Int) ≤ F 30 5 ∧ F 30 5 ≤ 2147483647 := hI.1 30 5
  have hgg : (1 : Int) ≤ g ∧ g ≤ 3 := hg
  refine sA_iload_n dd_X5_tryTwists_0 rfl (.tail _ (.head _)) ?_
  refine sA_if_lt (tgt := 18) dd_X5_tryTwists_1 (by decide) (by omega) (fun q268 => absurd q268 (by omega)) (fun q268 => ?_)
  refine sA_iload_n dd_X5_tryTwists_4 rfl (.tail _ (.head _)) ?_
  refine sA_iload_n dd_X5_tryTwists_5 rfl (.tail _ (.tail _ (.head _))) ?_
  refine sA_icmp_ge (tgt := 18) dd_X5_tryTwists_6 (by decide) (by omega) (by omega) (fun q269 => ?_) (fun q269 => ?_)
  · skip
    refine sA_vret dd_X5_tryTwists_18 rfl ?_
    refine ⟨rfl, hI, hf, ?_⟩
    exfalso
    omega
  · skip
    refine sA_iload_n dd_X5_tryTwists_9 rfl (.tail _ (.tail _ (.head _))) ?_
    refine sA_aload_n dd_X5_tryTwists_10 rfl (.head _) ?_
    refine sA_getr (ci := 5) (j := 2) (q := (RX5, TX5, 6)) dd_X5_tryTwists_11 rfl (by decide) fl_X5_11 (by decide) gs_s30 rfl ?_
    refine sA_alenq (n := 4) dd_X5_tryTwists_14 (by decide) (by decide) gs_s31 ?_
    refine sA_icmp_lt (tgt := 19) dd_X5_tryTwists_15 (by decide) (by omega) (by omega) (fun q270 => ?_) (fun q270 => ?_)
    · skip
      refine sA_iload_n dd_X5_tryTwists_19 rfl (.tail _ (.head _)) ?_
      refine sA_iconst (z := 1) dd_X5_tryTwists_20 ?_
      refine sA_iadd dd_X5_tryTwists_21 ?_
      show sA _ _ _ _ _ (gs_iv 2 :: _) _ _
      refine sA_iload_n dd_X5_tryTwists_22 rfl (.tail _ (.tail _ (.head _))) ?_
      refine sA_icmp_ne (tgt := 30) dd_X5_tryTwists_23 (by decide) (by omega) (by omega) (fun q271 => ?_) (fun q271 => ?_)
      · skip
        refine sA_iconst (z := 0) dd_X5_tryTwists_30 ?_
        refine sA_istore (lv' := [(5, gs_iv 0), (0, .ref 30), (1, gs_iv 1), (2, gs_iv k), (3, gs_iv r), (4, gs_iv wt)]) dd_X5_tryTwists_31 (by decide) rfl ?_
        refine sA_aload_n dd_X5_tryTwists_33 rfl (.tail _ (.head _)) ?_
        refine sA_getr (ci := 5) (j := 2) (q := (RX5, TX5, 6)) dd_X5_tryTwists_34 rfl (by decide) fl_X5_11 (by decide) gs_s30 rfl ?_
        refine sA_iload_n dd_X5_tryTwists_37 rfl (.tail _ (.tail _ (.head _))) ?_
        refine sA_aald (n := 4) dd_X5_tryTwists_38 (by decide) (by decide) (by decide) gs_s31 (by omega) (by decide) ?_
        show sA _ _ _ _ _ (.ref 37 :: _) _ _
        refine sA_callV (y2 := m_X4_closedSize) (n2 := 0) (d2 := 2) (a := 37) (ci := 4) (q := (RX4, TX4, 2)) (as := []) (rest := []) dd_X5_tryTwists_39 ok_X4_closedSize ml_X5_73 rfl rfl (Nat.lt_of_succ_lt gs_row_37.1) gs_row_37.2.1 rfl rfl (Nat.le_of_ble_eq_true rfl) (by decide) (c_X4_closedSize_vf hI gs_row_37) (fun r273 F274 A275 h276 => ?_)
        obtain ⟨z279, e278, e280, e281, x277⟩ := h276
        subst e278 e280 e281
        have y282 : cy_rep (gs_stk (A 38) (F 37 1).toNat) z279 ∧ 0 ≤ z279 ∧ z279 ≤ 400 := x277
        clear x277
        show sA _ _ _ 42 _ [gs_iv z279] _ _
        refine sA_istore (lv' := [(6, gs_iv z279), (5, gs_iv 0), (0, .ref 30), (1, gs_iv 1), (2, gs_iv k), (3, gs_iv r), (4, gs_iv wt)]) dd_X5_tryTwists_42 (by decide) rfl ?_
        refine sA_iconst (z := 0) dd_X5_tryTwists_44 ?_
        refine sA_istore (lv' := [(7, gs_iv 0), (6, gs_iv z279), (5, gs_iv 0), (0, .ref 30), (1, gs_iv 1), (2, gs_iv k), (3, gs_iv r), (4, gs_iv wt)]) dd_X5_tryTwists_45 (by decide) rfl ?_
        refine sA_sub (lv2 := [(7, gs_iv 0), (6, gs_iv z279), (5, gs_iv 0), (0, .ref 30), (1, gs_iv 1), (2, gs_iv k), (3, gs_iv r), (4, gs_iv wt)]) (List.forall_mem_cons.mpr ⟨(.head _), (List.forall_mem_cons.mpr ⟨(.tail _ (.head _)), (List.forall_mem_cons.mpr ⟨(.tail _ (.tail _ (.head _))), (List.forall_mem_cons.mpr ⟨(.tail _ (.tail _ (.tail _ (.head _)))), (List.forall_mem_cons.mpr ⟨(.tail _ (.tail _ (.tail _ (.tail _ (.head _))))), (List.forall_mem_cons.mpr ⟨(.tail _ (.tail _ (.tail _ (.tail _ (.tail _ (.head _)))))), (List.forall_mem_cons.mpr ⟨(.tail _ (.tail _ (.tail _ (.tail _ (.tail _ (.tail _ (.head _))))))), (List.forall_mem_cons.mpr ⟨(.tail _ (.tail _ (.tail _ (.tail _ (.tail _ (.tail _ (.tail _ (.head _)))))))), (fun _ h => absurd h List.not_mem_nil)⟩)⟩)⟩)⟩)⟩)⟩)⟩)⟩) ?_
        exact (k_X5_tryTwists_v1f hI hk hkd hr0 hwt hg h5 hW hV hrd hah h30 (16 - 0 : Int).toNat.succ) 0 z279 0 F A hI hf (by omega) (by omega) (by omega) (by omega) (by omega) y282.1 (tt_0 (by omega)) (by omega) (by omega) (by omega)
      · skip
        refine sA_iconst (z := 1) dd_X5_tryTwists_26 ?_
        refine sA_goto (tgt := 31) dd_X5_tryTwists_27 (by decide) ?_
        refine sA_istore (lv' := [(5, gs_iv 1), (0, .ref 30), (1, gs_iv 1), (2, gs_iv k), (3, gs_iv r), (4, gs_iv wt)]) dd_X5_tryTwists_31 (by decide) rfl ?_
        refine sA_aload_n dd_X5_tryTwists_33 rfl (.tail _ (.head _)) ?_
        refine sA_getr (ci := 5) (j := 2) (q := (RX5, TX5, 6)) dd_X5_tryTwists_34 rfl (by decide) fl_X5_11 (by decide) gs_s30 rfl ?_
        refine sA_iload_n dd_X5_tryTwists_37 rfl (.tail _ (.tail _ (.head _))) ?_
        refine sA_aald (n := 4) dd_X5_tryTwists_38 (by decide) (by decide) (by decide) gs_s31 (by omega) (by decide) ?_
        show sA _ _ _ _ _ (.ref 37 :: _) _ _
        refine sA_callV (y2 := m_X4_closedSize) (n2 := 0) (d2 := 2) (a := 37) (ci := 4) (q := (RX4, TX4, 2)) (as := []) (rest := []) dd_X5_tryTwists_39 ok_X4_closedSize ml_X5_73 rfl rfl (Nat.lt_of_succ_lt gs_row_37.1) gs_row_37.2.1 rfl rfl (Nat.le_of_ble_eq_true rfl) (by decide) (c_X4_closedSize_vf hI gs_row_37) (fun r284 F285 A286 h287 => ?_)
        obtain ⟨z290, e289, e291, e292, x288⟩ := h287
        subst e289 e291 e292
        have y293 : cy_rep (gs_stk (A 38) (F 37 1).toNat) z290 ∧ 0 ≤ z290 ∧ z290 ≤ 400 := x288
        clear x288
        show sA _ _ _ 42 _ [gs_iv z290] _ _
        refine sA_istore (lv' := [(6, gs_iv z290), (5, gs_iv 1), (0, .ref 30), (1, gs_iv 1), (2, gs_iv k), (3, gs_iv r), (4, gs_iv wt)]) dd_X5_tryTwists_42 (by decide) rfl ?_
        refine sA_iconst (z := 0) dd_X5_tryTwists_44 ?_
        refine sA_istore (lv' := [(7, gs_iv 0), (6, gs_iv z290), (5, gs_iv 1), (0, .ref 30), (1, gs_iv 1), (2, gs_iv k), (3, gs_iv r), (4, gs_iv wt)]) dd_X5_tryTwists_45 (by decide) rfl ?_
        refine sA_sub (lv2 := [(7, gs_iv 0), (6, gs_iv z290), (5, gs_iv 1), (0, .ref 30), (1, gs_iv 1), (2, gs_iv k), (3, gs_iv r), (4, gs_iv wt)]) (List.forall_mem_cons.mpr ⟨(.head _), (List.forall_mem_cons.mpr ⟨(.tail _ (.head _)), (List.forall_mem_cons.mpr ⟨(.tail _ (.tail _ (.head _))), (List.forall_mem_cons.mpr ⟨(.tail _ (.tail _ (.tail _ (.head _)))), (List.forall_mem_cons.mpr ⟨(.tail _ (.tail _ (.tail _ (.tail _ (.head _))))), (List.forall_mem_cons.mpr ⟨(.tail _ (.tail _ (.tail _ (.tail _ (.tail _ (.head _)))))), (List.forall_mem_cons.mpr ⟨(.tail _ (.tail _ (.tail _ (.tail _ (.tail _ (.tail _ (.head _))))))), (List.forall_mem_cons.mpr ⟨(.tail _ (.tail _ (.tail _ (.tail _ (.tail _ (.tail _ (.tail _ (.head _)))))))), (fun _ h => absurd h List.not_mem_nil)⟩)⟩)⟩)⟩)⟩)⟩)⟩)⟩) ?_
        exact (k_X5_tryTwists_v1f hI hk hkd hr0 hwt hg h5 hW hV hrd hah h30 (16 - 0 : Int).toNat.succ) 1 z290 0 F A hI hf (by omega) (by omega) (by omega) (by omega) (by omega) y293.1 (tt_0 (by omega)) (by omega) (by omega) (by omega)
    · skip
      refine sA_vret dd_X5_tryTwists_18 rfl ?_
      refine ⟨rfl, hI, hf, ?_⟩
      exfalso
      omega
theorem k_X5_tryTwists_v0f {k r wt g : Int} {F A : gs_F} (hI : gs_I F A) (hk : 0 ≤ k ∧ k ≤ 3) (hkd : 0 < k) (hr0 : 0 ≤ r ∧ r < wt) (hwt : 1 ≤ wt ∧ wt ≤ 1) (hg : 1 ≤ g ∧ g ≤ 3) (h5 : F 5 0 = 3 * g - 1) (hW : gs_W (A 6) g) (hV : sp_val g (gs_stk (A 36) (F 35 1).toNat)) (hrd : sp_red (gs_stk (A 36) (F 35 1).toNat)) (hah : ∀ u : Int, 0 ≤ u → u < 2 * F 5 0 → A 32 u.toNat = -1 ∨ cy_rep (sp_tw (sp_w g (sp_fl u)) (gs_stk (A 34) (F 33 1).toNat)) (A 32 u.toNat)) (h30 : F 30 5 = -1 ∨ 0 ≤ F 30 5) : ∀ nN : Nat, (∀ (lt : Int) (sz : Int) (u : Int)  (F1 A1 : gs_F), gs_I F1 A1 → gs_fr (fun c j => (c = 30 ∧ j = 5) ∨ (37 ≤ c ∧ c < 43 ∧ j = 1)) (fun c => c = 7 ∨ (37 ≤ c ∧ c < 43)) F A F1 A1 → 0 ≤ u ∧ u ≤ 16 → -2147483648 ≤ sz ∧ sz ≤ 2147483647 → lt = 0 ∨ lt = 1 → 0 < k → (lt = 1 ∧ k = 1) ∨ (lt = 0 ∧ 1 < k) → cy_rep (gs_stk (A 36) (F 35 1).toNat) sz → tt_best (tt_S g (2 * (3 * g - 1)) (gs_stk (A 36) (F 35 1).toNat) (A 34) (F 33 1) (k - 0).toNat r wt u) (F 30 5) (F1 30 5) → F1 5 0 = F 5 0 ∧ u ≤ 2 * F 5 0 → -1 ≤ F1 30 5 ∧ 0 ≤ sz ∧ sz ≤ 400 → 16 - u < (nN : Int) → sA m_X5_tryTwists 6 (fun rv F' A' => rv = none ∧ gs_I F' A' ∧ gs_fr (fun c j => (c = 30 ∧ j = 5) ∨ (37 ≤ c ∧ c < 43 ∧ j = 1)) (fun c => c = 7 ∨ (37 ≤ c ∧ c < 43)) F A F' A' ∧ (tt_best (tt_S g (2 * (3 * g - 1)) (gs_stk (A 36) (F 35 1).toNat) (A 34) (F 33 1) (k - 0).toNat r wt (2 * (3 * g - 1))) (F 30 5) (F' 30 5))) 47 [(7, gs_iv u), (6, gs_iv sz), (5, gs_iv lt), (0, .ref 30), (1, gs_iv 0), (2, gs_iv k), (3, gs_iv r), (4, gs_iv wt)] [] F1 A1) := by
  intro nN
  induction nN with
  | zero =>
    exact fun a0 a1 a2 a3 a4 a5 a6 i0 i1 i2 i3 i4 i5 i6 i7 i8 hm => by exfalso; omega
  | succ nN ih =>
    intro lt sz u F1 A1 hI1 hf1 i0 i1 i2 i3 i4 i5 i6 i7 i8 hm
    have b1 : (1 : Int) ≤ F1 5 0 ∧ F1 5 0 ≤ 8 := hI1.1 5 0
    have b2 : (-2147483648 : Int) ≤ F1 30 5 ∧ F1 30 5 ≤ 2147483647 := hI1.1 30 5
    refine sA_iload dd_X5_tryTwists_47 (.head _) ?_
    refine sA_iconst (z := 2) dd_X5_tryTwists_49 ?_
    refine sA_aload_n dd_X5_tryTwists_50 rfl (.tail _ (.tail _ (.tail _ (.head _)))) ?_
    refine sA_getr (ci := 5) (j := 0) (q := (RX5, TX5, 6)) dd_X5_tryTwists_51 rfl (by decide) fl_X5_28 (by decide) gs_s30 rfl ?_
    refine sA_geti (ci := 7) (j := 0) (q := (RX7, TX7, 5)) dd_X5_tryTwists_54 rfl (by decide) fl_X5_64 (by decide) gs_s5 rfl ?_
    refine sA_imul dd_X5_tryTwists_57 ?_
    refine sA_icmp_ge (tgt := 216) dd_X5_tryTwists_58 (by decide) (by omega) (by omega) (fun q3 => ?_) (fun q3 => ?_)
    · skip
      refine sA_vret dd_X5_tryTwists_216 rfl ?_
      refine ⟨rfl, hI1, hf1, ?_⟩
      exact tt_all (by omega) i6
    · skip
      have hmb := gs_mul_bd (x := u) (y := wt) (m := 16) (k := 1) (by omega) (by omega) (by omega)
      have hnn := Int.mul_nonneg (show 0 ≤ u by omega) (show 0 ≤ wt by omega)
      have e32 : A1 32 = A 32 := hf1.2 32 (by dsimp only; omega)
      refine sA_iload_n dd_X5_tryTwists_61 rfl (.tail _ (.tail _ (.tail _ (.tail _ (.tail _ (.tail _ (.head _))))))) ?_
      refine sA_iload dd_X5_tryTwists_62 (.head _) ?_
      refine sA_iload dd_X5_tryTwists_64 (.tail _ (.tail _ (.tail _ (.tail _ (.tail _ (.tail _ (.tail _ (.head _)))))))) ?_
      refine sA_imul dd_X5_tryTwists_66 ?_
      refine sA_iadd dd_X5_tryTwists_67 ?_
      refine sA_istore (lv' := [(8, gs_iv (r + (u * wt))), (7, gs_iv u), (6, gs_iv sz), (5, gs_iv lt), (0, .ref 30), (1, gs_iv 0), (2, gs_iv k), (3, gs_iv r), (4, gs_iv wt)]) dd_X5_tryTwists_68 (by decide) rfl ?_
      refine sA_iload dd_X5_tryTwists_70 (.tail _ (.tail _ (.tail _ (.head _)))) ?_
      refine sA_if_eq (tgt := 93) dd_X5_tryTwists_72 (by decide) (by omega) (fun q4 => ?_) (fun q4 => ?_)
      · skip
        refine sA_iload dd_X5_tryTwists_93 (.tail _ (.tail _ (.tail _ (.head _)))) ?_
        refine sA_if_eq (tgt := 124) dd_X5_tryTwists_95 (by decide) (by omega) (fun q5 => ?_) (fun q5 => absurd q5 (by omega))
        refine sA_aload_n dd_X5_tryTwists_124 rfl (.tail _ (.tail _ (.tail _ (.tail _ (.head _))))) ?_
        refine sA_getr (ci := 5) (j := 2) (q := (RX5, TX5, 6)) dd_X5_tryTwists_125 rfl (by decide) fl_X5_11 (by decide) gs_s30 rfl ?_
        refine sA_iload_n dd_X5_tryTwists_128 rfl (.tail _ (.tail _ (.tail _ (.tail _ (.tail _ (.head _)))))) ?_
        refine sA_iconst (z := 1) dd_X5_tryTwists_129 ?_
        refine sA_iadd dd_X5_tryTwists_130 ?_
        show sA _ _ _ _ _ (gs_iv 1 :: _) _ _
        refine sA_aald (n := 4) dd_X5_tryTwists_131 (by decide) (by decide) (by decide) gs_s31 (by omega) (by decide) ?_
        show sA _ _ _ _ _ (.ref 37 :: _) _ _
        refine sA_astore (lv' := [(9, .ref 37), (8, gs_iv (r + (u * wt))), (7, gs_iv u), (6, gs_iv sz), (5, gs_iv lt), (0, .ref 30), (1, gs_iv 0), (2, gs_iv k), (3, gs_iv r), (4, gs_iv wt)]) dd_X5_tryTwists_132 (by decide) rfl ?_
        refine sA_aload dd_X5_tryTwists_134 (.head _) ?_
        refine sA_aload_n dd_X5_tryTwists_136 rfl (.tail _ (.tail _ (.tail _ (.tail _ (.tail _ (.head _)))))) ?_
        refine sA_getr (ci := 5) (j := 2) (q := (RX5, TX5, 6)) dd_X5_tryTwists_137 rfl (by decide) fl_X5_11 (by decide) gs_s30 rfl ?_
        refine sA_iload_n dd_X5_tryTwists_140 rfl (.tail _ (.tail _ (.tail _ (.tail _ (.tail _ (.tail _ (.head _))))))) ?_
        refine sA_aald (n := 4) dd_X5_tryTwists_141 (by decide) (by decide) (by decide) gs_s31 (by omega) (by decide) ?_
        show sA _ _ _ _ _ (.ref 35 :: _) _ _
        refine sA_callV (y2 := m_X4_copy) (n2 := 1) (d2 := 1) (a := 37) (ci := 4) (q := (RX4, TX4, 2)) (as := [.ref 35]) (rest := []) dd_X5_tryTwists_142 ok_X4_copy ml_X5_36 rfl rfl (Nat.lt_of_succ_lt gs_row_37.1) gs_row_37.2.1 rfl rfl (Nat.le_of_ble_eq_true rfl) (by decide) (c_X4_copy_vf hI1 gs_row_37 gs_row_35) (fun r8 F9 A10 h11 => ?_)
        obtain ⟨e13, I14, f15, x12⟩ := h11
        subst e13
        have v16 : F9 5 0 = F1 5 0 := f15.1 5 0 (by first | exact id | omega | (dsimp only; omega) | (dsimp only) | fail)
        have v17 : F9 30 5 = F1 30 5 := f15.1 30 5 (by first | exact id | omega | (dsimp only; omega) | (dsimp only) | fail)
        have f18 := gs_fr_tr hf1 f15 (fun b j h => by first | exact False.elim h | omega | (dsimp only at h ⊢; omega) | fail) (fun b h => by first | exact False.elim h | omega | (dsimp only at h ⊢; omega) | fail)
        have y19 : F1 35 1 ≤ (400 : Int) → (F9 37 1 = F1 35 1 ∧ A10 38 = gs_cc (A1 36) (A1 38) 0 0 (F1 35 1).toNat) := x12
        clear x12
        show sA _ _ _ 145 _ [] _ _
        refine sA_aload_n dd_X5_tryTwists_145 rfl (.tail _ (.tail _ (.tail _ (.tail _ (.tail _ (.head _)))))) ?_
        refine sA_getr (ci := 5) (j := 0) (q := (RX5, TX5, 6)) dd_X5_tryTwists_146 rfl (by decide) fl_X5_28 (by decide) gs_s30 rfl ?_
        refine sA_iload dd_X5_tryTwists_149 (.tail _ (.tail _ (.head _))) ?_
        refine sA_aload dd_X5_tryTwists_151 (.head _) ?_
        have er1 : A1 36 = A 36 := hf1.2 36 (by dsimp only; omega)
        have er2 : F1 35 1 = F 35 1 := hf1.1 35 1 (by dsimp only; omega)
        have hbr := gs_row_sz gs_row_35 hI1
        obtain ⟨c1, c2⟩ := y19 (by omega)
        have hstk : (gs_stk (A10 38) (F9 37 1).toNat) = (gs_stk (A 36) (F 35 1).toNat) := by
          rw [c1, c2, er1, er2]
          refine gs_stk_cg _ (fun i hi => ?_)
          unfold gs_cc
          rw [if_pos (by omega)]
          congr 1
          omega
        have hV1 : sp_val g (gs_stk (A10 38) (F9 37 1).toNat) := by rw [hstk]; exact hV
        have hW1 : gs_W (A10 6) g := by rw [f18.2 6 (by dsimp only; omega)]; exact hW
        have hL : (400 : Nat) = 400 := rfl
        refine sA_callV (y2 := m_X7_doTwist) (n2 := 2) (d2 := 2) (a := 5) (ci := 7) (q := (RX7, TX7, 5)) (as := [gs_iv u, .ref 37]) (rest := []) dd_X5_tryTwists_153 ok_X7_doTwist ml_X5_69 rfl rfl (by decide) gs_s5 rfl rfl (Nat.le_of_ble_eq_true rfl) (by decide) (c_X7_doTwist_vf I14 (by omega) gs_row_37 hg (by omega) hW1 hV1 hL (by omega)) (fun r20 F21 A22 h23 => ?_)
        obtain ⟨z26, e25, I27, f28, x24⟩ := h23
        subst e25
        have v29 : F21 5 0 = F9 5 0 := f28.1 5 0 (by first | exact id | omega | (dsimp only; omega) | (dsimp only) | fail)
        have v30 : F21 30 5 = F9 30 5 := f28.1 30 5 (by first | exact id | omega | (dsimp only; omega) | (dsimp only) | fail)
        have f31 := gs_fr_tr f18 f28 (fun b j h => by first | exact False.elim h | omega | (dsimp only at h ⊢; omega) | fail) (fun b h => by first | exact False.elim h | omega | (dsimp only at h ⊢; omega) | fail)
        have y32 : (z26 = 1 ∧ (sp_tw (sp_w g u) (gs_stk (A10 38) (F9 37 1).toNat)).length ≤ 400 ∧ gs_stk (A22 38) (F21 37 1).toNat = sp_tw (sp_w g u) (gs_stk (A10 38) (F9 37 1).toNat)) ∨ (z26 = 0 ∧ 400 < (sp_tw (sp_w g u) (gs_stk (A10 38) (F9 37 1).toNat)).length) := x24
        clear x24
        show sA _ _ _ 156 _ [gs_iv z26] _ _
        have y153 := y32
        rw [hstk] at y153
        refine sA_if_ne (tgt := 162) dd_X5_tryTwists_156 (by decide) (by omega) (fun q33 => ?_) (fun q33 => ?_)
        · skip
          have hys : ¬ 400 < (sp_tw (sp_w g u) (gs_stk (A 36) (F 35 1).toNat)).length ∧ (gs_stk (A22 38) (F21 37 1).toNat) = sp_tw (sp_w g u) (gs_stk (A 36) (F 35 1).toNat) := by
            rcases y153 with y | y
            · exact ⟨by have y2 := y.2.1; omega, y.2.2⟩
            · exfalso
              omega
          have hnl := hys.1
          have hrw := hys.2
          have g33 : F21 33 1 = F 33 1 := f31.1 33 1 (by dsimp only; omega)
          have g34 : A22 34 = A 34 := f31.2 34 (by dsimp only; omega)
          refine sA_iload dd_X5_tryTwists_162 (.tail _ (.tail _ (.tail _ (.tail _ (.head _))))) ?_
          refine sA_if_ne (tgt := 192) dd_X5_tryTwists_164 (by decide) (by omega) (fun q34 => absurd q34 (by omega)) (fun q34 => ?_)
          refine sA_aload_n dd_X5_tryTwists_167 rfl (.tail _ (.tail _ (.tail _ (.tail _ (.tail _ (.head _)))))) ?_
          refine sA_iload_n dd_X5_tryTwists_168 rfl (.tail _ (.tail _ (.tail _ (.tail _ (.tail _ (.tail _ (.head _))))))) ?_
          refine sA_iconst (z := 1) dd_X5_tryTwists_169 ?_
          refine sA_iadd dd_X5_tryTwists_170 ?_
          show sA _ _ _ _ _ (gs_iv 1 :: _) _ _
          refine sA_iload_n dd_X5_tryTwists_171 rfl (.tail _ (.tail _ (.tail _ (.tail _ (.tail _ (.tail _ (.tail _ (.head _)))))))) ?_
          refine sA_iload dd_X5_tryTwists_172 (.tail _ (.head _)) ?_
          refine sA_iload dd_X5_tryTwists_174 (.tail _ (.tail _ (.tail _ (.tail _ (.tail _ (.tail _ (.tail _ (.tail _ (.tail _ (.head _)))))))))) ?_
          refine sA_iconst (z := 2) dd_X5_tryTwists_176 ?_
          refine sA_imul dd_X5_tryTwists_177 ?_
          refine sA_aload_n dd_X5_tryTwists_178 rfl (.tail _ (.tail _ (.tail _ (.tail _ (.tail _ (.head _)))))) ?_
          refine sA_getr (ci := 5) (j := 0) (q := (RX5, TX5, 6)) dd_X5_tryTwists_179 rfl (by decide) fl_X5_28 (by decide) gs_s30 rfl ?_
          refine sA_geti (ci := 7) (j := 0) (q := (RX7, TX7, 5)) dd_X5_tryTwists_182 rfl (by decide) fl_X5_64 (by decide) gs_s5 rfl ?_
          have b35 : (1 : Int) ≤ F21 5 0 ∧ F21 5 0 ≤ 8 := I27.1 5 0
          refine sA_imul dd_X5_tryTwists_185 ?_
          have hW1 : gs_W (A22 6) g := by rw [f31.2 6 (by dsimp only; omega)]; exact hW
          have hV2 : sp_val g (gs_stk (A22 38) (F21 37 1).toNat) := by rw [hrw]; exact sp_tw_val hg (by omega) _ hV
          have hrd2 : sp_red (gs_stk (A22 38) (F21 37 1).toNat) := by rw [hrw]; exact sp_tw_red _ _
          have h50 : F21 5 0 = F 5 0 := f31.1 5 0 (by dsimp only; omega)
          have hah2 : ∀ u : Int, 0 ≤ u → u < 2 * F21 5 0 → A22 32 u.toNat = -1 ∨ cy_rep (sp_tw (sp_w g (sp_fl u)) (gs_stk (A22 34) (F21 33 1).toNat)) (A22 32 u.toNat) := by
            rw [f31.2 32 (by dsimp only; omega), g33, g34, h50]
            exact hah
          have hwB : wt * 2 * F21 5 0 = wt * (2 * (3 * g - 1)) := by rw [show F21 5 0 = 3 * g - 1 by omega, Int.mul_assoc]
          have hwb := gs_mul_bd (x := wt) (y := (2 * (3 * g - 1))) (m := 1) (k := 16) (by omega) (by omega) (by omega)
          have hwg := gs_mul_ge (x := wt) (y := (2 * (3 * g - 1))) (by omega) (by omega)
          have hlt := tt_lt (r := r) (wt := wt) (u := u) (B := (2 * (3 * g - 1))) (by omega) (by omega)
          refine sA_callV (y2 := m_X5_tryTwists) (n2 := 4) (d2 := 5) (a := 30) (ci := 5) (q := (RX5, TX5, 6)) (as := [gs_iv 1, gs_iv k, gs_iv (r + (u * wt)), gs_iv ((wt * 2) * (F21 5 0))]) (rest := []) dd_X5_tryTwists_186 ok_X5_tryTwists ml_X5_56 rfl rfl (by decide) gs_s30 rfl rfl (Nat.le_of_ble_eq_true rfl) (by decide) (c_X5_tryTwists_v1f I27 (by omega) (by omega) (by omega) (by omega) hg (by omega) hW1 hV2 hrd2 hah2 (by omega)) (fun r36 F37 A38 h39 => ?_)
          obtain ⟨e41, I42, f43, x40⟩ := h39
          subst e41
          have v44 : F37 5 0 = F21 5 0 := f43.1 5 0 (by first | exact id | omega | (dsimp only; omega) | (dsimp only) | fail)
          have f46 := gs_fr_tr f31 f43 (fun b j h => by first | exact False.elim h | omega | (dsimp only at h ⊢; omega) | fail) (fun b h => by first | exact False.elim h | omega | (dsimp only at h ⊢; omega) | fail)
          have y47 : tt_best (tt_S g (2 * (3 * g - 1)) (gs_stk (A22 38) (F21 37 1).toNat) (A22 34) (F21 33 1) (k - 1).toNat (r + (u * wt)) ((wt * 2) * (F21 5 0)) (2 * (3 * g - 1))) (F21 30 5) (F37 30 5) := x40
          clear x40
          show sA _ _ _ 189 _ [] _ _
          have hrec := y47
          rw [hwB, hrw, g33, g34, show F21 30 5 = F1 30 5 by omega] at hrec
          refine sA_goto (tgt := 210) dd_X5_tryTwists_189 (by decide) ?_
          refine sA_iinc (lv' := [(7, gs_iv (u + 1)), (9, .ref 37), (8, gs_iv (r + (u * wt))), (6, gs_iv sz), (5, gs_iv lt), (0, .ref 30), (1, gs_iv 0), (2, gs_iv k), (3, gs_iv r), (4, gs_iv wt)]) dd_X5_tryTwists_210 (.tail _ (.tail _ (.head _))) (by decide) rfl ?_
          refine sA_goto (tgt := 47) dd_X5_tryTwists_213 (by decide) ?_
          have b48 : (1 : Int) ≤ F37 5 0 ∧ F37 5 0 ≤ 8 := I42.1 5 0
          have b49 : (-2147483648 : Int) ≤ F37 30 5 ∧ F37 30 5 ≤ 2147483647 := I42.1 30 5
          refine sA_sub (lv2 := [(7, gs_iv (u + 1)), (6, gs_iv sz), (5, gs_iv lt), (0, .ref 30), (1, gs_iv 0), (2, gs_iv k), (3, gs_iv r), (4, gs_iv wt)]) (List.forall_mem_cons.mpr ⟨(.head _), (List.forall_mem_cons.mpr ⟨(.tail _ (.tail _ (.tail _ (.head _)))), (List.forall_mem_cons.mpr ⟨(.tail _ (.tail _ (.tail _ (.tail _ (.head _))))), (List.forall_mem_cons.mpr ⟨(.tail _ (.tail _ (.tail _ (.tail _ (.tail _ (.head _)))))), (List.forall_mem_cons.mpr ⟨(.tail _ (.tail _ (.tail _ (.tail _ (.tail _ (.tail _ (.head _))))))), (List.forall_mem_cons.mpr ⟨(.tail _ (.tail _ (.tail _ (.tail _ (.tail _ (.tail _ (.tail _ (.head _)))))))), (List.forall_mem_cons.mpr ⟨(.tail _ (.tail _ (.tail _ (.tail _ (.tail _ (.tail _ (.tail _ (.tail _ (.head _))))))))), (List.forall_mem_cons.mpr ⟨(.tail _ (.tail _ (.tail _ (.tail _ (.tail _ (.tail _ (.tail _ (.tail _ (.tail _ (.head _)))))))))), (fun _ h => absurd h List.not_mem_nil)⟩)⟩)⟩)⟩)⟩)⟩)⟩)⟩) ?_
          exact ih lt sz (u + 1) F37 A38 I42 f46 (by omega) (by omega) (by omega) (by omega) (by omega) i5 (by have j6 := i6; rw [show (k - 0).toNat = (k - 1).toNat + 1 by omega] at j6 ⊢; exact tt_rec (by omega) (by omega) hnl (by omega) j6 hrec) (by omega) ⟨tt_ge (by omega) (by omega) (by omega) hrec, by omega, by omega⟩ (by omega)
        · skip
          have hlg : 400 < (sp_tw (sp_w g u) (gs_stk (A 36) (F 35 1).toNat)).length := by
            rcases y153 with y | y
            · exfalso
              omega
            · exact y.2
          refine sA_goto (tgt := 210) dd_X5_tryTwists_159 (by decide) ?_
          refine sA_iinc (lv' := [(7, gs_iv (u + 1)), (9, .ref 37), (8, gs_iv (r + (u * wt))), (6, gs_iv sz), (5, gs_iv lt), (0, .ref 30), (1, gs_iv 0), (2, gs_iv k), (3, gs_iv r), (4, gs_iv wt)]) dd_X5_tryTwists_210 (.tail _ (.tail _ (.head _))) (by decide) rfl ?_
          refine sA_goto (tgt := 47) dd_X5_tryTwists_213 (by decide) ?_
          have b50 : (1 : Int) ≤ F21 5 0 ∧ F21 5 0 ≤ 8 := I27.1 5 0
          have b51 : (-2147483648 : Int) ≤ F21 30 5 ∧ F21 30 5 ≤ 2147483647 := I27.1 30 5
          refine sA_sub (lv2 := [(7, gs_iv (u + 1)), (6, gs_iv sz), (5, gs_iv lt), (0, .ref 30), (1, gs_iv 0), (2, gs_iv k), (3, gs_iv r), (4, gs_iv wt)]) (List.forall_mem_cons.mpr ⟨(.head _), (List.forall_mem_cons.mpr ⟨(.tail _ (.tail _ (.tail _ (.head _)))), (List.forall_mem_cons.mpr ⟨(.tail _ (.tail _ (.tail _ (.tail _ (.head _))))), (List.forall_mem_cons.mpr ⟨(.tail _ (.tail _ (.tail _ (.tail _ (.tail _ (.head _)))))), (List.forall_mem_cons.mpr ⟨(.tail _ (.tail _ (.tail _ (.tail _ (.tail _ (.tail _ (.head _))))))), (List.forall_mem_cons.mpr ⟨(.tail _ (.tail _ (.tail _ (.tail _ (.tail _ (.tail _ (.tail _ (.head _)))))))), (List.forall_mem_cons.mpr ⟨(.tail _ (.tail _ (.tail _ (.tail _ (.tail _ (.tail _ (.tail _ (.tail _ (.head _))))))))), (List.forall_mem_cons.mpr ⟨(.tail _ (.tail _ (.tail _ (.tail _ (.tail _ (.tail _ (.tail _ (.tail _ (.tail _ (.head _)))))))))), (fun _ h => absurd h List.not_mem_nil)⟩)⟩)⟩)⟩)⟩)⟩)⟩)⟩) ?_
          exact ih lt sz (u + 1) F21 A22 I27 f31 (by omega) (by omega) (by omega) (by omega) (by omega) i5 (by have j6 := i6; rw [show (k - 0).toNat = (k - 1).toNat + 1 by omega] at j6 ⊢; exact tt_cg rfl rfl (show F1 30 5 = F21 30 5 by omega) (tt_skip j6 (tt_large hlg))) (by omega) (by omega) (by omega)
      · skip
        refine sA_aload_n dd_X5_tryTwists_75 rfl (.tail _ (.tail _ (.tail _ (.tail _ (.head _))))) ?_
        refine sA_geti (ci := 5) (j := 5) (q := (RX5, TX5, 6)) dd_X5_tryTwists_76 rfl (by decide) fl_X5_53 (by decide) gs_s30 rfl ?_
        refine sA_iconst (z := (-1)) dd_X5_tryTwists_79 ?_
        refine sA_icmp_eq (tgt := 93) dd_X5_tryTwists_80 (by decide) (by omega) (by omega) (fun q52 => ?_) (fun q52 => ?_)
        · skip
          refine sA_iload dd_X5_tryTwists_93 (.tail _ (.tail _ (.tail _ (.head _)))) ?_
          refine sA_if_eq (tgt := 124) dd_X5_tryTwists_95 (by decide) (by omega) (fun q53 => absurd q53 (by omega)) (fun q53 => ?_)
          refine sA_aload_n dd_X5_tryTwists_98 rfl (.tail _ (.tail _ (.tail _ (.tail _ (.head _))))) ?_
          refine sA_getr (ci := 5) (j := 3) (q := (RX5, TX5, 6)) dd_X5_tryTwists_99 rfl (by decide) fl_X5_17 (by decide) gs_s30 rfl ?_
          refine sA_iload dd_X5_tryTwists_102 (.tail _ (.head _)) ?_
          refine sA_iald (n := 16) dd_X5_tryTwists_104 (by decide) gs_s32 (by omega) (by decide) ?_
          have b54 : (-2147483648 : Int) ≤ A1 32 u.toNat ∧ A1 32 u.toNat ≤ 2147483647 := hI1.2 32 u.toNat
          refine sA_iconst (z := (-1)) dd_X5_tryTwists_105 ?_
          refine sA_icmp_eq (tgt := 124) dd_X5_tryTwists_106 (by decide) (by omega) (by omega) (fun q55 => ?_) (fun q55 => ?_)
          · skip
            refine sA_aload_n dd_X5_tryTwists_124 rfl (.tail _ (.tail _ (.tail _ (.tail _ (.head _))))) ?_
            refine sA_getr (ci := 5) (j := 2) (q := (RX5, TX5, 6)) dd_X5_tryTwists_125 rfl (by decide) fl_X5_11 (by decide) gs_s30 rfl ?_
            refine sA_iload_n dd_X5_tryTwists_128 rfl (.tail _ (.tail _ (.tail _ (.tail _ (.tail _ (.head _)))))) ?_
            refine sA_iconst (z := 1) dd_X5_tryTwists_129 ?_
            refine sA_iadd dd_X5_tryTwists_130 ?_
            show sA _ _ _ _ _ (gs_iv 1 :: _) _ _
            refine sA_aald (n := 4) dd_X5_tryTwists_131 (by decide) (by decide) (by decide) gs_s31 (by omega) (by decide) ?_
            show sA _ _ _ _ _ (.ref 37 :: _) _ _
            refine sA_astore (lv' := [(9, .ref 37), (8, gs_iv (r + (u * wt))), (7, gs_iv u), (6, gs_iv sz), (5, gs_iv lt), (0, .ref 30), (1, gs_iv 0), (2, gs_iv k), (3, gs_iv r), (4, gs_iv wt)]) dd_X5_tryTwists_132 (by decide) rfl ?_
            refine sA_aload dd_X5_tryTwists_134 (.head _) ?_
            refine sA_aload_n dd_X5_tryTwists_136 rfl (.tail _ (.tail _ (.tail _ (.tail _ (.tail _ (.head _)))))) ?_
            refine sA_getr (ci := 5) (j := 2) (q := (RX5, TX5, 6)) dd_X5_tryTwists_137 rfl (by decide) fl_X5_11 (by decide) gs_s30 rfl ?_
            refine sA_iload_n dd_X5_tryTwists_140 rfl (.tail _ (.tail _ (.tail _ (.tail _ (.tail _ (.tail _ (.head _))))))) ?_
            refine sA_aald (n := 4) dd_X5_tryTwists_141 (by decide) (by decide) (by decide) gs_s31 (by omega) (by decide) ?_
            show sA _ _ _ _ _ (.ref 35 :: _) _ _
            refine sA_callV (y2 := m_X4_copy) (n2 := 1) (d2 := 1) (a := 37) (ci := 4) (q := (RX4, TX4, 2)) (as := [.ref 35]) (rest := []) dd_X5_tryTwists_142 ok_X4_copy ml_X5_36 rfl rfl (Nat.lt_of_succ_lt gs_row_37.1) gs_row_37.2.1 rfl rfl (Nat.le_of_ble_eq_true rfl) (by decide) (c_X4_copy_vf hI1 gs_row_37 gs_row_35) (fun r58 F59 A60 h61 => ?_)
            obtain ⟨e63, I64, f65, x62⟩ := h61
            subst e63
            have v66 : F59 5 0 = F1 5 0 := f65.1 5 0 (by first | exact id | omega | (dsimp only; omega) | (dsimp only) | fail)
            have v67 : F59 30 5 = F1 30 5 := f65.1 30 5 (by first | exact id | omega | (dsimp only; omega) | (dsimp only) | fail)
            have f68 := gs_fr_tr hf1 f65 (fun b j h => by first | exact False.elim h | omega | (dsimp only at h ⊢; omega) | fail) (fun b h => by first | exact False.elim h | omega | (dsimp only at h ⊢; omega) | fail)
            have y69 : F1 35 1 ≤ (400 : Int) → (F59 37 1 = F1 35 1 ∧ A60 38 = gs_cc (A1 36) (A1 38) 0 0 (F1 35 1).toNat) := x62
            clear x62
            show sA _ _ _ 145 _ [] _ _
            refine sA_aload_n dd_X5_tryTwists_145 rfl (.tail _ (.tail _ (.tail _ (.tail _ (.tail _ (.head _)))))) ?_
            refine sA_getr (ci := 5) (j := 0) (q := (RX5, TX5, 6)) dd_X5_tryTwists_146 rfl (by decide) fl_X5_28 (by decide) gs_s30 rfl ?_
            refine sA_iload dd_X5_tryTwists_149 (.tail _ (.tail _ (.head _))) ?_
            refine sA_aload dd_X5_tryTwists_151 (.head _) ?_
            have er1 : A1 36 = A 36 := hf1.2 36 (by dsimp only; omega)
            have er2 : F1 35 1 = F 35 1 := hf1.1 35 1 (by dsimp only; omega)
            have hbr := gs_row_sz gs_row_35 hI1
            obtain ⟨c1, c2⟩ := y69 (by omega)
            have hstk : (gs_stk (A60 38) (F59 37 1).toNat) = (gs_stk (A 36) (F 35 1).toNat) := by
              rw [c1, c2, er1, er2]
              refine gs_stk_cg _ (fun i hi => ?_)
              unfold gs_cc
              rw [if_pos (by omega)]
              congr 1
              omega
            have hV1 : sp_val g (gs_stk (A60 38) (F59 37 1).toNat) := by rw [hstk]; exact hV
            have hW1 : gs_W (A60 6) g := by rw [f68.2 6 (by dsimp only; omega)]; exact hW
            have hL : (400 : Nat) = 400 := rfl
            refine sA_callV (y2 := m_X7_doTwist) (n2 := 2) (d2 := 2) (a := 5) (ci := 7) (q := (RX7, TX7, 5)) (as := [gs_iv u, .ref 37]) (rest := []) dd_X5_tryTwists_153 ok_X7_doTwist ml_X5_69 rfl rfl (by decide) gs_s5 rfl rfl (Nat.le_of_ble_eq_true rfl) (by decide) (c_X7_doTwist_vf I64 (by omega) gs_row_37 hg (by omega) hW1 hV1 hL (by omega)) (fun r70 F71 A72 h73 => ?_)
            obtain ⟨z76, e75, I77, f78, x74⟩ := h73
            subst e75
            have v79 : F71 5 0 = F59 5 0 := f78.1 5 0 (by first | exact id | omega | (dsimp only; omega) | (dsimp only) | fail)
            have v80 : F71 30 5 = F59 30 5 := f78.1 30 5 (by first | exact id | omega | (dsimp only; omega) | (dsimp only) | fail)
            have f81 := gs_fr_tr f68 f78 (fun b j h => by first | exact False.elim h | omega | (dsimp only at h ⊢; omega) | fail) (fun b h => by first | exact False.elim h | omega | (dsimp only at h ⊢; omega) | fail)
            have y82 : (z76 = 1 ∧ (sp_tw (sp_w g u) (gs_stk (A60 38) (F59 37 1).toNat)).length ≤ 400 ∧ gs_stk (A72 38) (F71 37 1).toNat = sp_tw (sp_w g u) (gs_stk (A60 38) (F59 37 1).toNat)) ∨ (z76 = 0 ∧ 400 < (sp_tw (sp_w g u) (gs_stk (A60 38) (F59 37 1).toNat)).length) := x74
            clear x74
            show sA _ _ _ 156 _ [gs_iv z76] _ _
            have y153 := y82
            rw [hstk] at y153
            refine sA_if_ne (tgt := 162) dd_X5_tryTwists_156 (by decide) (by omega) (fun q83 => ?_) (fun q83 => ?_)
            · skip
              have hys : ¬ 400 < (sp_tw (sp_w g u) (gs_stk (A 36) (F 35 1).toNat)).length ∧ (gs_stk (A72 38) (F71 37 1).toNat) = sp_tw (sp_w g u) (gs_stk (A 36) (F 35 1).toNat) := by
                rcases y153 with y | y
                · exact ⟨by have y2 := y.2.1; omega, y.2.2⟩
                · exfalso
                  omega
              have hnl := hys.1
              have hrw := hys.2
              have g33 : F71 33 1 = F 33 1 := f81.1 33 1 (by dsimp only; omega)
              have g34 : A72 34 = A 34 := f81.2 34 (by dsimp only; omega)
              refine sA_iload dd_X5_tryTwists_162 (.tail _ (.tail _ (.tail _ (.tail _ (.head _))))) ?_
              refine sA_if_ne (tgt := 192) dd_X5_tryTwists_164 (by decide) (by omega) (fun q84 => ?_) (fun q84 => absurd q84 (by omega))
              refine sA_aload dd_X5_tryTwists_192 (.head _) ?_
              refine sA_aload_n dd_X5_tryTwists_194 rfl (.tail _ (.tail _ (.tail _ (.tail _ (.tail _ (.head _)))))) ?_
              refine sA_getr (ci := 5) (j := 4) (q := (RX5, TX5, 6)) dd_X5_tryTwists_195 rfl (by decide) fl_X5_24 (by decide) gs_s30 rfl ?_
              refine sA_callV (y2 := m_X4_isOneWith) (n2 := 1) (d2 := 2) (a := 37) (ci := 4) (q := (RX4, TX4, 2)) (as := [.ref 33]) (rest := []) dd_X5_tryTwists_198 ok_X4_isOneWith ml_X5_43 rfl rfl (Nat.lt_of_succ_lt gs_row_37.1) gs_row_37.2.1 rfl rfl (Nat.le_of_ble_eq_true rfl) (by decide) (c_X4_isOneWith_vf I77 gs_row_37 gs_row_33) (fun r85 F86 A87 h88 => ?_)
              obtain ⟨z91, e90, e92, e93, x89⟩ := h88
              subst e90 e92 e93
              have y94 : (z91 = 1 ∧ gs_on (A72 38) (F71 37 1) (A72 34) (F71 33 1)) ∨ (z91 = 0 ∧ ¬ gs_on (A72 38) (F71 37 1) (A72 34) (F71 33 1)) := x89
              clear x89
              show sA _ _ _ 201 _ [gs_iv z91] _ _
              have hz198 : z91 = 0 ∨ z91 = 1 := by omega
              have hon : st_on (sp_tw (sp_w g u) (gs_stk (A 36) (F 35 1).toNat)) (A 34) (F 33 1) ↔ gs_on (A72 38) (F71 37 1) (A72 34) (F71 33 1) := by
                rw [g33, g34, ← hrw]
                have hb := gs_row_sz gs_row_37 I77
                exact st_on_mk hb.1
              refine sA_if_eq (tgt := 210) dd_X5_tryTwists_201 (by decide) (by omega) (fun q95 => ?_) (fun q95 => ?_)
              · skip
                refine sA_iinc (lv' := [(7, gs_iv (u + 1)), (9, .ref 37), (8, gs_iv (r + (u * wt))), (6, gs_iv sz), (5, gs_iv lt), (0, .ref 30), (1, gs_iv 0), (2, gs_iv k), (3, gs_iv r), (4, gs_iv wt)]) dd_X5_tryTwists_210 (.tail _ (.tail _ (.head _))) (by decide) rfl ?_
                refine sA_goto (tgt := 47) dd_X5_tryTwists_213 (by decide) ?_
                have b96 : (1 : Int) ≤ F71 5 0 ∧ F71 5 0 ≤ 8 := I77.1 5 0
                have b97 : (-2147483648 : Int) ≤ F71 30 5 ∧ F71 30 5 ≤ 2147483647 := I77.1 30 5
                refine sA_sub (lv2 := [(7, gs_iv (u + 1)), (6, gs_iv sz), (5, gs_iv lt), (0, .ref 30), (1, gs_iv 0), (2, gs_iv k), (3, gs_iv r), (4, gs_iv wt)]) (List.forall_mem_cons.mpr ⟨(.head _), (List.forall_mem_cons.mpr ⟨(.tail _ (.tail _ (.tail _ (.head _)))), (List.forall_mem_cons.mpr ⟨(.tail _ (.tail _ (.tail _ (.tail _ (.head _))))), (List.forall_mem_cons.mpr ⟨(.tail _ (.tail _ (.tail _ (.tail _ (.tail _ (.head _)))))), (List.forall_mem_cons.mpr ⟨(.tail _ (.tail _ (.tail _ (.tail _ (.tail _ (.tail _ (.head _))))))), (List.forall_mem_cons.mpr ⟨(.tail _ (.tail _ (.tail _ (.tail _ (.tail _ (.tail _ (.tail _ (.head _)))))))), (List.forall_mem_cons.mpr ⟨(.tail _ (.tail _ (.tail _ (.tail _ (.tail _ (.tail _ (.tail _ (.tail _ (.head _))))))))), (List.forall_mem_cons.mpr ⟨(.tail _ (.tail _ (.tail _ (.tail _ (.tail _ (.tail _ (.tail _ (.tail _ (.tail _ (.head _)))))))))), (fun _ h => absurd h List.not_mem_nil)⟩)⟩)⟩)⟩)⟩)⟩)⟩)⟩) ?_
                exact ih lt sz (u + 1) F71 A72 I77 f81 (by omega) (by omega) (by omega) (by omega) (by omega) i5 (by have j6 := i6; rw [show (k - 0).toNat = 1 by omega] at j6 ⊢; rcases y94 with y | y <;> first | (exfalso; omega) | exact tt_cg rfl rfl (show r + u * wt = F71 30 5 by omega) (tt_one (by omega) (by omega) (by omega) j6 hnl (hon.mpr y.2) (by omega)) | exact tt_cg rfl rfl (show F1 30 5 = F71 30 5 by omega) (tt_skip j6 (tt_last (fun w => y.2 (hon.mp w)))) | fail) (by omega) (by omega) (by omega)
              · skip
                refine sA_aload_n dd_X5_tryTwists_204 rfl (.tail _ (.tail _ (.tail _ (.tail _ (.tail _ (.head _)))))) ?_
                refine sA_iload dd_X5_tryTwists_205 (.tail _ (.head _)) ?_
                refine sA_put (ci := 5) (j := 5) (q := (RX5, TX5, 6)) (ty := .int) dd_X5_tryTwists_207 rfl (by decide) fl_X5_53 rfl (tyX5_ok 5 (by decide)) rfl rfl (by decide) gs_s30 rfl ?_
                have I99 : gs_I (gs_up F71 30 5 (r + (u * wt))) A72 := gs_I_put I77 (show (-2147483648 : Int) ≤ r + (u * wt) ∧ r + (u * wt) ≤ 2147483647 by omega)
                have f100 := gs_fr_put f81 (a := 30) (z := r + (u * wt)) (j := 5) (by first | omega | (dsimp only; omega) | (dsimp only) | fail)
                have v101 : gs_up F71 30 5 (r + (u * wt)) 30 5 = r + (u * wt) := gs_up_self _ _ _ _
                have v102 : (gs_up F71 30 5 (r + (u * wt))) 5 0 = F71 5 0 := gs_up_ne _ _ (by omega)
                generalize gs_up F71 30 5 (r + (u * wt)) = F98 at I99 f100 v101 v102 ⊢
                refine sA_iinc (lv' := [(7, gs_iv (u + 1)), (9, .ref 37), (8, gs_iv (r + (u * wt))), (6, gs_iv sz), (5, gs_iv lt), (0, .ref 30), (1, gs_iv 0), (2, gs_iv k), (3, gs_iv r), (4, gs_iv wt)]) dd_X5_tryTwists_210 (.tail _ (.tail _ (.head _))) (by decide) rfl ?_
                refine sA_goto (tgt := 47) dd_X5_tryTwists_213 (by decide) ?_
                have b103 : (1 : Int) ≤ F98 5 0 ∧ F98 5 0 ≤ 8 := I99.1 5 0
                have b104 : (-2147483648 : Int) ≤ F98 30 5 ∧ F98 30 5 ≤ 2147483647 := I99.1 30 5
                refine sA_sub (lv2 := [(7, gs_iv (u + 1)), (6, gs_iv sz), (5, gs_iv lt), (0, .ref 30), (1, gs_iv 0), (2, gs_iv k), (3, gs_iv r), (4, gs_iv wt)]) (List.forall_mem_cons.mpr ⟨(.head _), (List.forall_mem_cons.mpr ⟨(.tail _ (.tail _ (.tail _ (.head _)))), (List.forall_mem_cons.mpr ⟨(.tail _ (.tail _ (.tail _ (.tail _ (.head _))))), (List.forall_mem_cons.mpr ⟨(.tail _ (.tail _ (.tail _ (.tail _ (.tail _ (.head _)))))), (List.forall_mem_cons.mpr ⟨(.tail _ (.tail _ (.tail _ (.tail _ (.tail _ (.tail _ (.head _))))))), (List.forall_mem_cons.mpr ⟨(.tail _ (.tail _ (.tail _ (.tail _ (.tail _ (.tail _ (.tail _ (.head _)))))))), (List.forall_mem_cons.mpr ⟨(.tail _ (.tail _ (.tail _ (.tail _ (.tail _ (.tail _ (.tail _ (.tail _ (.head _))))))))), (List.forall_mem_cons.mpr ⟨(.tail _ (.tail _ (.tail _ (.tail _ (.tail _ (.tail _ (.tail _ (.tail _ (.tail _ (.head _)))))))))), (fun _ h => absurd h List.not_mem_nil)⟩)⟩)⟩)⟩)⟩)⟩)⟩)⟩) ?_
                exact ih lt sz (u + 1) F98 A72 I99 f100 (by omega) (by omega) (by omega) (by omega) (by omega) i5 (by have j6 := i6; rw [show (k - 0).toNat = 1 by omega] at j6 ⊢; rcases y94 with y | y <;> first | (exfalso; omega) | exact tt_cg rfl rfl (show r + u * wt = F98 30 5 by omega) (tt_one (by omega) (by omega) (by omega) j6 hnl (hon.mpr y.2) (by omega)) | exact tt_cg rfl rfl (show F1 30 5 = F98 30 5 by omega) (tt_skip j6 (tt_last (fun w => y.2 (hon.mp w)))) | fail) (by omega) (by omega) (by omega)
            · skip
              have hlg : 400 < (sp_tw (sp_w g u) (gs_stk (A 36) (F 35 1).toNat)).length := by
                rcases y153 with y | y
                · exfalso
                  omega
                · exact y.2
              refine sA_goto (tgt := 210) dd_X5_tryTwists_159 (by decide) ?_
              refine sA_iinc (lv' := [(7, gs_iv (u + 1)), (9, .ref 37), (8, gs_iv (r + (u * wt))), (6, gs_iv sz), (5, gs_iv lt), (0, .ref 30), (1, gs_iv 0), (2, gs_iv k), (3, gs_iv r), (4, gs_iv wt)]) dd_X5_tryTwists_210 (.tail _ (.tail _ (.head _))) (by decide) rfl ?_
              refine sA_goto (tgt := 47) dd_X5_tryTwists_213 (by decide) ?_
              have b105 : (1 : Int) ≤ F71 5 0 ∧ F71 5 0 ≤ 8 := I77.1 5 0
              have b106 : (-2147483648 : Int) ≤ F71 30 5 ∧ F71 30 5 ≤ 2147483647 := I77.1 30 5
              refine sA_sub (lv2 := [(7, gs_iv (u + 1)), (6, gs_iv sz), (5, gs_iv lt), (0, .ref 30), (1, gs_iv 0), (2, gs_iv k), (3, gs_iv r), (4, gs_iv wt)]) (List.forall_mem_cons.mpr ⟨(.head _), (List.forall_mem_cons.mpr ⟨(.tail _ (.tail _ (.tail _ (.head _)))), (List.forall_mem_cons.mpr ⟨(.tail _ (.tail _ (.tail _ (.tail _ (.head _))))), (List.forall_mem_cons.mpr ⟨(.tail _ (.tail _ (.tail _ (.tail _ (.tail _ (.head _)))))), (List.forall_mem_cons.mpr ⟨(.tail _ (.tail _ (.tail _ (.tail _ (.tail _ (.tail _ (.head _))))))), (List.forall_mem_cons.mpr ⟨(.tail _ (.tail _ (.tail _ (.tail _ (.tail _ (.tail _ (.tail _ (.head _)))))))), (List.forall_mem_cons.mpr ⟨(.tail _ (.tail _ (.tail _ (.tail _ (.tail _ (.tail _ (.tail _ (.tail _ (.head _))))))))), (List.forall_mem_cons.mpr ⟨(.tail _ (.tail _ (.tail _ (.tail _ (.tail _ (.tail _ (.tail _ (.tail _ (.tail _ (.head _)))))))))), (fun _ h => absurd h List.not_mem_nil)⟩)⟩)⟩)⟩)⟩)⟩)⟩)⟩) ?_
              exact ih lt sz (u + 1) F71 A72 I77 f81 (by omega) (by omega) (by omega) (by omega) (by omega) i5 (by have j6 := i6; rw [show (k - 0).toNat = (k - 1).toNat + 1 by omega] at j6 ⊢; exact tt_cg rfl rfl (show F1 30 5 = F71 30 5 by omega) (tt_skip j6 (tt_large hlg))) (by omega) (by omega) (by omega)
          · skip
            have e32u : A1 32 u.toNat = A 32 u.toNat := by rw [e32]
            have hahu : cy_rep (sp_tw (sp_w g (sp_fl u)) (gs_stk (A 34) (F 33 1).toNat)) (A 32 u.toNat) := by
              rcases hah u (by omega) (by omega) with q | q
              · exfalso
                omega
              · exact q
            refine sA_aload_n dd_X5_tryTwists_109 rfl (.tail _ (.tail _ (.tail _ (.tail _ (.head _))))) ?_
            refine sA_getr (ci := 5) (j := 3) (q := (RX5, TX5, 6)) dd_X5_tryTwists_110 rfl (by decide) fl_X5_17 (by decide) gs_s30 rfl ?_
            refine sA_iload dd_X5_tryTwists_113 (.tail _ (.head _)) ?_
            refine sA_iald (n := 16) dd_X5_tryTwists_115 (by decide) gs_s32 (by omega) (by decide) ?_
            refine sA_iload dd_X5_tryTwists_116 (.tail _ (.tail _ (.head _))) ?_
            refine sA_icmp_eq (tgt := 124) dd_X5_tryTwists_118 (by decide) (by omega) (by omega) (fun q107 => ?_) (fun q107 => ?_)
            · skip
              refine sA_aload_n dd_X5_tryTwists_124 rfl (.tail _ (.tail _ (.tail _ (.tail _ (.head _))))) ?_
              refine sA_getr (ci := 5) (j := 2) (q := (RX5, TX5, 6)) dd_X5_tryTwists_125 rfl (by decide) fl_X5_11 (by decide) gs_s30 rfl ?_
              refine sA_iload_n dd_X5_tryTwists_128 rfl (.tail _ (.tail _ (.tail _ (.tail _ (.tail _ (.head _)))))) ?_
              refine sA_iconst (z := 1) dd_X5_tryTwists_129 ?_
              refine sA_iadd dd_X5_tryTwists_130 ?_
              show sA _ _ _ _ _ (gs_iv 1 :: _) _ _
              refine sA_aald (n := 4) dd_X5_tryTwists_131 (by decide) (by decide) (by decide) gs_s31 (by omega) (by decide) ?_
              show sA _ _ _ _ _ (.ref 37 :: _) _ _
              refine sA_astore (lv' := [(9, .ref 37), (8, gs_iv (r + (u * wt))), (7, gs_iv u), (6, gs_iv sz), (5, gs_iv lt), (0, .ref 30), (1, gs_iv 0), (2, gs_iv k), (3, gs_iv r), (4, gs_iv wt)]) dd_X5_tryTwists_132 (by decide) rfl ?_
              refine sA_aload dd_X5_tryTwists_134 (.head _) ?_
              refine sA_aload_n dd_X5_tryTwists_136 rfl (.tail _ (.tail _ (.tail _ (.tail _ (.tail _ (.head _)))))) ?_
              refine sA_getr (ci := 5) (j := 2) (q := (RX5, TX5, 6)) dd_X5_tryTwists_137 rfl (by decide) fl_X5_11 (by decide) gs_s30 rfl ?_
              refine sA_iload_n dd_X5_tryTwists_140 rfl (.tail _ (.tail _ (.tail _ (.tail _ (.tail _ (.tail _ (.head _))))))) ?_
              refine sA_aald (n := 4) dd_X5_tryTwists_141 (by decide) (by decide) (by decide) gs_s31 (by omega) (by decide) ?_
              show sA _ _ _ _ _ (.ref 35 :: _) _ _
              refine sA_callV (y2 := m_X4_copy) (n2 := 1) (d2 := 1) (a := 37) (ci := 4) (q := (RX4, TX4, 2)) (as := [.ref 35]) (rest := []) dd_X5_tryTwists_142 ok_X4_copy ml_X5_36 rfl rfl (Nat.lt_of_succ_lt gs_row_37.1) gs_row_37.2.1 rfl rfl (Nat.le_of_ble_eq_true rfl) (by decide) (c_X4_copy_vf hI1 gs_row_37 gs_row_35) (fun r110 F111 A112 h113 => ?_)
              obtain ⟨e115, I116, f117, x114⟩ := h113
              subst e115
              have v118 : F111 5 0 = F1 5 0 := f117.1 5 0 (by first | exact id | omega | (dsimp only; omega) | (dsimp only) | fail)
              have v119 : F111 30 5 = F1 30 5 := f117.1 30 5 (by first | exact id | omega | (dsimp only; omega) | (dsimp only) | fail)
              have f120 := gs_fr_tr hf1 f117 (fun b j h => by first | exact False.elim h | omega | (dsimp only at h ⊢; omega) | fail) (fun b h => by first | exact False.elim h | omega | (dsimp only at h ⊢; omega) | fail)
              have y121 : F1 35 1 ≤ (400 : Int) → (F111 37 1 = F1 35 1 ∧ A112 38 = gs_cc (A1 36) (A1 38) 0 0 (F1 35 1).toNat) := x114
              clear x114
              show sA _ _ _ 145 _ [] _ _
              refine sA_aload_n dd_X5_tryTwists_145 rfl (.tail _ (.tail _ (.tail _ (.tail _ (.tail _ (.head _)))))) ?_
              refine sA_getr (ci := 5) (j := 0) (q := (RX5, TX5, 6)) dd_X5_tryTwists_146 rfl (by decide) fl_X5_28 (by decide) gs_s30 rfl ?_
              refine sA_iload dd_X5_tryTwists_149 (.tail _ (.tail _ (.head _))) ?_
              refine sA_aload dd_X5_tryTwists_151 (.head _) ?_
              have er1 : A1 36 = A 36 := hf1.2 36 (by dsimp only; omega)
              have er2 : F1 35 1 = F 35 1 := hf1.1 35 1 (by dsimp only; omega)
              have hbr := gs_row_sz gs_row_35 hI1
              obtain ⟨c1, c2⟩ := y121 (by omega)
              have hstk : (gs_stk (A112 38) (F111 37 1).toNat) = (gs_stk (A 36) (F 35 1).toNat) := by
                rw [c1, c2, er1, er2]
                refine gs_stk_cg _ (fun i hi => ?_)
                unfold gs_cc
                rw [if_pos (by omega)]
                congr 1
                omega
              have hV1 : sp_val g (gs_stk (A112 38) (F111 37 1).toNat) := by rw [hstk]; exact hV
              have hW1 : gs_W (A112 6) g := by rw [f120.2 6 (by dsimp only; omega)]; exact hW
              have hL : (400 : Nat) = 400 := rfl
              refine sA_callV (y2 := m_X7_doTwist) (n2 := 2) (d2 := 2) (a := 5) (ci := 7) (q := (RX7, TX7, 5)) (as := [gs_iv u, .ref 37]) (rest := []) dd_X5_tryTwists_153 ok_X7_doTwist ml_X5_69 rfl rfl (by decide) gs_s5 rfl rfl (Nat.le_of_ble_eq_true rfl) (by decide) (c_X7_doTwist_vf I116 (by omega) gs_row_37 hg (by omega) hW1 hV1 hL (by omega)) (fun r122 F123 A124 h125 => ?_)
              obtain ⟨z128, e127, I129, f130, x126⟩ := h125
              subst e127
              have v131 : F123 5 0 = F111 5 0 := f130.1 5 0 (by first | exact id | omega | (dsimp only; omega) | (dsimp only) | fail)
              have v132 : F123 30 5 = F111 30 5 := f130.1 30 5 (by first | exact id | omega | (dsimp only; omega) | (dsimp only) | fail)
              have f133 := gs_fr_tr f120 f130 (fun b j h => by first | exact False.elim h | omega | (dsimp only at h ⊢; omega) | fail) (fun b h => by first | exact False.elim h | omega | (dsimp only at h ⊢; omega) | fail)
              have y134 : (z128 = 1 ∧ (sp_tw (sp_w g u) (gs_stk (A112 38) (F111 37 1).toNat)).length ≤ 400 ∧ gs_stk (A124 38) (F123 37 1).toNat = sp_tw (sp_w g u) (gs_stk (A112 38) (F111 37 1).toNat)) ∨ (z128 = 0 ∧ 400 < (sp_tw (sp_w g u) (gs_stk (A112 38) (F111 37 1).toNat)).length) := x126
              clear x126
              show sA _ _ _ 156 _ [gs_iv z128] _ _
              have y153 := y134
              rw [hstk] at y153
              refine sA_if_ne (tgt := 162) dd_X5_tryTwists_156 (by decide) (by omega) (fun q135 => ?_) (fun q135 => ?_)
              · skip
                have hys : ¬ 400 < (sp_tw (sp_w g u) (gs_stk (A 36) (F 35 1).toNat)).length ∧ (gs_stk (A124 38) (F123 37 1).toNat) = sp_tw (sp_w g u) (gs_stk (A 36) (F 35 1).toNat) := by
                  rcases y153 with y | y
                  · exact ⟨by have y2 := y.2.1; omega, y.2.2⟩
                  · exfalso
                    omega
                have hnl := hys.1
                have hrw := hys.2
                have g33 : F123 33 1 = F 33 1 := f133.1 33 1 (by dsimp only; omega)
                have g34 : A124 34 = A 34 := f133.2 34 (by dsimp only; omega)
                refine sA_iload dd_X5_tryTwists_162 (.tail _ (.tail _ (.tail _ (.tail _ (.head _))))) ?_
                refine sA_if_ne (tgt := 192) dd_X5_tryTwists_164 (by decide) (by omega) (fun q136 => ?_) (fun q136 => absurd q136 (by omega))
                refine sA_aload dd_X5_tryTwists_192 (.head _) ?_
                refine sA_aload_n dd_X5_tryTwists_194 rfl (.tail _ (.tail _ (.tail _ (.tail _ (.tail _ (.head _)))))) ?_
                refine sA_getr (ci := 5) (j := 4) (q := (RX5, TX5, 6)) dd_X5_tryTwists_195 rfl (by decide) fl_X5_24 (by decide) gs_s30 rfl ?_
                refine sA_callV (y2 := m_X4_isOneWith) (n2 := 1) (d2 := 2) (a := 37) (ci := 4) (q := (RX4, TX4, 2)) (as := [.ref 33]) (rest := []) dd_X5_tryTwists_198 ok_X4_isOneWith ml_X5_43 rfl rfl (Nat.lt_of_succ_lt gs_row_37.1) gs_row_37.2.1 rfl rfl (Nat.le_of_ble_eq_true rfl) (by decide) (c_X4_isOneWith_vf I129 gs_row_37 gs_row_33) (fun r137 F138 A139 h140 => ?_)
                obtain ⟨z143, e142, e144, e145, x141⟩ := h140
                subst e142 e144 e145
                have y146 : (z143 = 1 ∧ gs_on (A124 38) (F123 37 1) (A124 34) (F123 33 1)) ∨ (z143 = 0 ∧ ¬ gs_on (A124 38) (F123 37 1) (A124 34) (F123 33 1)) := x141
                clear x141
                show sA _ _ _ 201 _ [gs_iv z143] _ _
                have hz198 : z143 = 0 ∨ z143 = 1 := by omega
                have hon : st_on (sp_tw (sp_w g u) (gs_stk (A 36) (F 35 1).toNat)) (A 34) (F 33 1) ↔ gs_on (A124 38) (F123 37 1) (A124 34) (F123 33 1) := by
                  rw [g33, g34, ← hrw]
                  have hb := gs_row_sz gs_row_37 I129
                  exact st_on_mk hb.1
                refine sA_if_eq (tgt := 210) dd_X5_tryTwists_201 (by decide) (by omega) (fun q147 => ?_) (fun q147 => ?_)
                · skip
                  refine sA_iinc (lv' := [(7, gs_iv (u + 1)), (9, .ref 37), (8, gs_iv (r + (u * wt))), (6, gs_iv sz), (5, gs_iv lt), (0, .ref 30), (1, gs_iv 0), (2, gs_iv k), (3, gs_iv r), (4, gs_iv wt)]) dd_X5_tryTwists_210 (.tail _ (.tail _ (.head _))) (by decide) rfl ?_
                  refine sA_goto (tgt := 47) dd_X5_tryTwists_213 (by decide) ?_
                  have b148 : (1 : Int) ≤ F123 5 0 ∧ F123 5 0 ≤ 8 := I129.1 5 0
                  have b149 : (-2147483648 : Int) ≤ F123 30 5 ∧ F123 30 5 ≤ 2147483647 := I129.1 30 5
                  refine sA_sub (lv2 := [(7, gs_iv (u + 1)), (6, gs_iv sz), (5, gs_iv lt), (0, .ref 30), (1, gs_iv 0), (2, gs_iv k), (3, gs_iv r), (4, gs_iv wt)]) (List.forall_mem_cons.mpr ⟨(.head _), (List.forall_mem_cons.mpr ⟨(.tail _ (.tail _ (.tail _ (.head _)))), (List.forall_mem_cons.mpr ⟨(.tail _ (.tail _ (.tail _ (.tail _ (.head _))))), (List.forall_mem_cons.mpr ⟨(.tail _ (.tail _ (.tail _ (.tail _ (.tail _ (.head _)))))), (List.forall_mem_cons.mpr ⟨(.tail _ (.tail _ (.tail _ (.tail _ (.tail _ (.tail _ (.head _))))))), (List.forall_mem_cons.mpr ⟨(.tail _ (.tail _ (.tail _ (.tail _ (.tail _ (.tail _ (.tail _ (.head _)))))))), (List.forall_mem_cons.mpr ⟨(.tail _ (.tail _ (.tail _ (.tail _ (.tail _ (.tail _ (.tail _ (.tail _ (.head _))))))))), (List.forall_mem_cons.mpr ⟨(.tail _ (.tail _ (.tail _ (.tail _ (.tail _ (.tail _ (.tail _ (.tail _ (.tail _ (.head _)))))))))), (fun _ h => absurd h List.not_mem_nil)⟩)⟩)⟩)⟩)⟩)⟩)⟩)⟩) ?_
                  exact ih lt sz (u + 1) F123 A124 I129 f133 (by omega) (by omega) (by omega) (by omega) (by omega) i5 (by have j6 := i6; rw [show (k - 0).toNat = 1 by omega] at j6 ⊢; rcases y146 with y | y <;> first | (exfalso; omega) | exact tt_cg rfl rfl (show r + u * wt = F123 30 5 by omega) (tt_one (by omega) (by omega) (by omega) j6 hnl (hon.mpr y.2) (by omega)) | exact tt_cg rfl rfl (show F1 30 5 = F123 30 5 by omega) (tt_skip j6 (tt_last (fun w => y.2 (hon.mp w)))) | fail) (by omega) (by omega) (by omega)
                · skip
                  refine sA_aload_n dd_X5_tryTwists_204 rfl (.tail _ (.tail _ (.tail _ (.tail _ (.tail _ (.head _)))))) ?_
                  refine sA_iload dd_X5_tryTwists_205 (.tail _ (.head _)) ?_
                  refine sA_put (ci := 5) (j := 5) (q := (RX5, TX5, 6)) (ty := .int) dd_X5_tryTwists_207 rfl (by decide) fl_X5_53 rfl (tyX5_ok 5 (by decide)) rfl rfl (by decide) gs_s30 rfl ?_
                  have I151 : gs_I (gs_up F123 30 5 (r + (u * wt))) A124 := gs_I_put I129 (show (-2147483648 : Int) ≤ r + (u * wt) ∧ r + (u * wt) ≤ 2147483647 by omega)
                  have f152 := gs_fr_put f133 (a := 30) (z := r + (u * wt)) (j := 5) (by first | omega | (dsimp only; omega) | (dsimp only) | fail)
                  have v153 : gs_up F123 30 5 (r + (u * wt)) 30 5 = r + (u * wt) := gs_up_self _ _ _ _
                  have v154 : (gs_up F123 30 5 (r + (u * wt))) 5 0 = F123 5 0 := gs_up_ne _ _ (by omega)
                  generalize gs_up F123 30 5 (r + (u * wt)) = F150 at I151 f152 v153 v154 ⊢
                  refine sA_iinc (lv' := [(7, gs_iv (u + 1)), (9, .ref 37), (8, gs_iv (r + (u * wt))), (6, gs_iv sz), (5, gs_iv lt), (0, .ref 30), (1, gs_iv 0), (2, gs_iv k), (3, gs_iv r), (4, gs_iv wt)]) dd_X5_tryTwists_210 (.tail _ (.tail _ (.head _))) (by decide) rfl ?_
                  refine sA_goto (tgt := 47) dd_X5_tryTwists_213 (by decide) ?_
                  have b155 : (1 : Int) ≤ F150 5 0 ∧ F150 5 0 ≤ 8 := I151.1 5 0
                  have b156 : (-2147483648 : Int) ≤ F150 30 5 ∧ F150 30 5 ≤ 2147483647 := I151.1 30 5
                  refine sA_sub (lv2 := [(7, gs_iv (u + 1)), (6, gs_iv sz), (5, gs_iv lt), (0, .ref 30), (1, gs_iv 0), (2, gs_iv k), (3, gs_iv r), (4, gs_iv wt)]) (List.forall_mem_cons.mpr ⟨(.head _), (List.forall_mem_cons.mpr ⟨(.tail _ (.tail _ (.tail _ (.head _)))), (List.forall_mem_cons.mpr ⟨(.tail _ (.tail _ (.tail _ (.tail _ (.head _))))), (List.forall_mem_cons.mpr ⟨(.tail _ (.tail _ (.tail _ (.tail _ (.tail _ (.head _)))))), (List.forall_mem_cons.mpr ⟨(.tail _ (.tail _ (.tail _ (.tail _ (.tail _ (.tail _ (.head _))))))), (List.forall_mem_cons.mpr ⟨(.tail _ (.tail _ (.tail _ (.tail _ (.tail _ (.tail _ (.tail _ (.head _)))))))), (List.forall_mem_cons.mpr ⟨(.tail _ (.tail _ (.tail _ (.tail _ (.tail _ (.tail _ (.tail _ (.tail _ (.head _))))))))), (List.forall_mem_cons.mpr ⟨(.tail _ (.tail _ (.tail _ (.tail _ (.tail _ (.tail _ (.tail _ (.tail _ (.tail _ (.head _)))))))))), (fun _ h => absurd h List.not_mem_nil)⟩)⟩)⟩)⟩)⟩)⟩)⟩)⟩) ?_
                  exact ih lt sz (u + 1) F150 A124 I151 f152 (by omega) (by omega) (by omega) (by omega) (by omega) i5 (by have j6 := i6; rw [show (k - 0).toNat = 1 by omega] at j6 ⊢; rcases y146 with y | y <;> first | (exfalso; omega) | exact tt_cg rfl rfl (show r + u * wt = F150 30 5 by omega) (tt_one (by omega) (by omega) (by omega) j6 hnl (hon.mpr y.2) (by omega)) | exact tt_cg rfl rfl (show F1 30 5 = F150 30 5 by omega) (tt_skip j6 (tt_last (fun w => y.2 (hon.mp w)))) | fail) (by omega) (by omega) (by omega)
              · skip
                have hlg : 400 < (sp_tw (sp_w g u) (gs_stk (A 36) (F 35 1).toNat)).length := by
                  rcases y153 with y | y
                  · exfalso
                    omega
                  · exact y.2
                refine sA_goto (tgt := 210) dd_X5_tryTwists_159 (by decide) ?_
                refine sA_iinc (lv' := [(7, gs_iv (u + 1)), (9, .ref 37), (8, gs_iv (r + (u * wt))), (6, gs_iv sz), (5, gs_iv lt), (0, .ref 30), (1, gs_iv 0), (2, gs_iv k), (3, gs_iv r), (4, gs_iv wt)]) dd_X5_tryTwists_210 (.tail _ (.tail _ (.head _))) (by decide) rfl ?_
                refine sA_goto (tgt := 47) dd_X5_tryTwists_213 (by decide) ?_
                have b157 : (1 : Int) ≤ F123 5 0 ∧ F123 5 0 ≤ 8 := I129.1 5 0
                have b158 : (-2147483648 : Int) ≤ F123 30 5 ∧ F123 30 5 ≤ 2147483647 := I129.1 30 5
                refine sA_sub (lv2 := [(7, gs_iv (u + 1)), (6, gs_iv sz), (5, gs_iv lt), (0, .ref 30), (1, gs_iv 0), (2, gs_iv k), (3, gs_iv r), (4, gs_iv wt)]) (List.forall_mem_cons.mpr ⟨(.head _), (List.forall_mem_cons.mpr ⟨(.tail _ (.tail _ (.tail _ (.head _)))), (List.forall_mem_cons.mpr ⟨(.tail _ (.tail _ (.tail _ (.tail _ (.head _))))), (List.forall_mem_cons.mpr ⟨(.tail _ (.tail _ (.tail _ (.tail _ (.tail _ (.head _)))))), (List.forall_mem_cons.mpr ⟨(.tail _ (.tail _ (.tail _ (.tail _ (.tail _ (.tail _ (.head _))))))), (List.forall_mem_cons.mpr ⟨(.tail _ (.tail _ (.tail _ (.tail _ (.tail _ (.tail _ (.tail _ (.head _)))))))), (List.forall_mem_cons.mpr ⟨(.tail _ (.tail _ (.tail _ (.tail _ (.tail _ (.tail _ (.tail _ (.tail _ (.head _))))))))), (List.forall_mem_cons.mpr ⟨(.tail _ (.tail _ (.tail _ (.tail _ (.tail _ (.tail _ (.tail _ (.tail _ (.tail _ (.head _)))))))))), (fun _ h => absurd h List.not_mem_nil)⟩)⟩)⟩)⟩)⟩)⟩)⟩)⟩) ?_
                exact ih lt sz (u + 1) F123 A124 I129 f133 (by omega) (by omega) (by omega) (by omega) (by omega) i5 (by have j6 := i6; rw [show (k - 0).toNat = (k - 1).toNat + 1 by omega] at j6 ⊢; exact tt_cg rfl rfl (show F1 30 5 = F123 30 5 by omega) (tt_skip j6 (tt_large hlg))) (by omega) (by omega) (by omega)
            · skip
              refine sA_goto (tgt := 210) dd_X5_tryTwists_121 (by decide) ?_
              refine sA_iinc (lv' := [(7, gs_iv (u + 1)), (8, gs_iv (r + (u * wt))), (6, gs_iv sz), (5, gs_iv lt), (0, .ref 30), (1, gs_iv 0), (2, gs_iv k), (3, gs_iv r), (4, gs_iv wt)]) dd_X5_tryTwists_210 (.tail _ (.head _)) (by decide) rfl ?_
              refine sA_goto (tgt := 47) dd_X5_tryTwists_213 (by decide) ?_
              refine sA_sub (lv2 := [(7, gs_iv (u + 1)), (6, gs_iv sz), (5, gs_iv lt), (0, .ref 30), (1, gs_iv 0), (2, gs_iv k), (3, gs_iv r), (4, gs_iv wt)]) (List.forall_mem_cons.mpr ⟨(.head _), (List.forall_mem_cons.mpr ⟨(.tail _ (.tail _ (.head _))), (List.forall_mem_cons.mpr ⟨(.tail _ (.tail _ (.tail _ (.head _)))), (List.forall_mem_cons.mpr ⟨(.tail _ (.tail _ (.tail _ (.tail _ (.head _))))), (List.forall_mem_cons.mpr ⟨(.tail _ (.tail _ (.tail _ (.tail _ (.tail _ (.head _)))))), (List.forall_mem_cons.mpr ⟨(.tail _ (.tail _ (.tail _ (.tail _ (.tail _ (.tail _ (.head _))))))), (List.forall_mem_cons.mpr ⟨(.tail _ (.tail _ (.tail _ (.tail _ (.tail _ (.tail _ (.tail _ (.head _)))))))), (List.forall_mem_cons.mpr ⟨(.tail _ (.tail _ (.tail _ (.tail _ (.tail _ (.tail _ (.tail _ (.tail _ (.head _))))))))), (fun _ h => absurd h List.not_mem_nil)⟩)⟩)⟩)⟩)⟩)⟩)⟩)⟩) ?_
              exact ih lt sz (u + 1) F1 A1 hI1 hf1 (by omega) (by omega) (by omega) (by omega) (by omega) i5 (by have j6 := i6; rw [show (k - 0).toNat = 1 by omega] at j6 ⊢; exact tt_skip j6 (tt_prune hg (by omega) hrd hV hahu i5 (by omega))) (by omega) (by omega) (by omega)
        · skip
          refine sA_iload dd_X5_tryTwists_83 (.head _) ?_
          refine sA_aload_n dd_X5_tryTwists_85 rfl (.tail _ (.tail _ (.tail _ (.tail _ (.head _))))) ?_
          refine sA_geti (ci := 5) (j := 5) (q := (RX5, TX5, 6)) dd_X5_tryTwists_86 rfl (by decide) fl_X5_53 (by decide) gs_s30 rfl ?_
          refine sA_icmp_lt (tgt := 93) dd_X5_tryTwists_89 (by decide) (by omega) (by omega) (fun q159 => ?_) (fun q159 => ?_)
          · skip
            refine sA_iload dd_X5_tryTwists_93 (.tail _ (.tail _ (.tail _ (.head _)))) ?_
            refine sA_if_eq (tgt := 124) dd_X5_tryTwists_95 (by decide) (by omega) (fun q160 => absurd q160 (by omega)) (fun q160 => ?_)
            refine sA_aload_n dd_X5_tryTwists_98 rfl (.tail _ (.tail _ (.tail _ (.tail _ (.head _))))) ?_
            refine sA_getr (ci := 5) (j := 3) (q := (RX5, TX5, 6)) dd_X5_tryTwists_99 rfl (by decide) fl_X5_17 (by decide) gs_s30 rfl ?_
            refine sA_iload dd_X5_tryTwists_102 (.tail _ (.head _)) ?_
            refine sA_iald (n := 16) dd_X5_tryTwists_104 (by decide) gs_s32 (by omega) (by decide) ?_
            have b161 : (-2147483648 : Int) ≤ A1 32 u.toNat ∧ A1 32 u.toNat ≤ 2147483647 := hI1.2 32 u.toNat
            refine sA_iconst (z := (-1)) dd_X5_tryTwists_105 ?_
            refine sA_icmp_eq (tgt := 124) dd_X5_tryTwists_106 (by decide) (by omega) (by omega) (fun q162 => ?_) (fun q162 => ?_)
            · skip
              refine sA_aload_n dd_X5_tryTwists_124 rfl (.tail _ (.tail _ (.tail _ (.tail _ (.head _))))) ?_
              refine sA_getr (ci := 5) (j := 2) (q := (RX5, TX5, 6)) dd_X5_tryTwists_125 rfl (by decide) fl_X5_11 (by decide) gs_s30 rfl ?_
              refine sA_iload_n dd_X5_tryTwists_128 rfl (.tail _ (.tail _ (.tail _ (.tail _ (.tail _ (.head _)))))) ?_
              refine sA_iconst (z := 1) dd_X5_tryTwists_129 ?_
              refine sA_iadd dd_X5_tryTwists_130 ?_
              show sA _ _ _ _ _ (gs_iv 1 :: _) _ _
              refine sA_aald (n := 4) dd_X5_tryTwists_131 (by decide) (by decide) (by decide) gs_s31 (by omega) (by decide) ?_
              show sA _ _ _ _ _ (.ref 37 :: _) _ _
              refine sA_astore (lv' := [(9, .ref 37), (8, gs_iv (r + (u * wt))), (7, gs_iv u), (6, gs_iv sz), (5, gs_iv lt), (0, .ref 30), (1, gs_iv 0), (2, gs_iv k), (3, gs_iv r), (4, gs_iv wt)]) dd_X5_tryTwists_132 (by decide) rfl ?_
              refine sA_aload dd_X5_tryTwists_134 (.head _) ?_
              refine sA_aload_n dd_X5_tryTwists_136 rfl (.tail _ (.tail _ (.tail _ (.tail _ (.tail _ (.head _)))))) ?_
              refine sA_getr (ci := 5) (j := 2) (q := (RX5, TX5, 6)) dd_X5_tryTwists_137 rfl (by decide) fl_X5_11 (by decide) gs_s30 rfl ?_
              refine sA_iload_n dd_X5_tryTwists_140 rfl (.tail _ (.tail _ (.tail _ (.tail _ (.tail _ (.tail _ (.head _))))))) ?_
              refine sA_aald (n := 4) dd_X5_tryTwists_141 (by decide) (by decide) (by decide) gs_s31 (by omega) (by decide) ?_
              show sA _ _ _ _ _ (.ref 35 :: _) _ _
              refine sA_callV (y2 := m_X4_copy) (n2 := 1) (d2 := 1) (a := 37) (ci := 4) (q := (RX4, TX4, 2)) (as := [.ref 35]) (rest := []) dd_X5_tryTwists_142 ok_X4_copy ml_X5_36 rfl rfl (Nat.lt_of_succ_lt gs_row_37.1) gs_row_37.2.1 rfl rfl (Nat.le_of_ble_eq_true rfl) (by decide) (c_X4_copy_vf hI1 gs_row_37 gs_row_35) (fun r165 F166 A167 h168 => ?_)
              obtain ⟨e170, I171, f172, x169⟩ := h168
              subst e170
              have v173 : F166 5 0 = F1 5 0 := f172.1 5 0 (by first | exact id | omega | (dsimp only; omega) | (dsimp only) | fail)
              have v174 : F166 30 5 = F1 30 5 := f172.1 30 5 (by first | exact id | omega | (dsimp only; omega) | (dsimp only) | fail)
              have f175 := gs_fr_tr hf1 f172 (fun b j h => by first | exact False.elim h | omega | (dsimp only at h ⊢; omega) | fail) (fun b h => by first | exact False.elim h | omega | (dsimp only at h ⊢; omega) | fail)
              have y176 : F1 35 1 ≤ (400 : Int) → (F166 37 1 = F1 35 1 ∧ A167 38 = gs_cc (A1 36) (A1 38) 0 0 (F1 35 1).toNat) := x169
              clear x169
              show sA _ _ _ 145 _ [] _ _
              refine sA_aload_n dd_X5_tryTwists_145 rfl (.tail _ (.tail _ (.tail _ (.tail _ (.tail _ (.head _)))))) ?_
              refine sA_getr (ci := 5) (j := 0) (q := (RX5, TX5, 6)) dd_X5_tryTwists_146 rfl (by decide) fl_X5_28 (by decide) gs_s30 rfl ?_
              refine sA_iload dd_X5_tryTwists_149 (.tail _ (.tail _ (.head _))) ?_
              refine sA_aload dd_X5_tryTwists_151 (.head _) ?_
              have er1 : A1 36 = A 36 := hf1.2 36 (by dsimp only; omega)
              have er2 : F1 35 1 = F 35 1 := hf1.1 35 1 (by dsimp only; omega)
              have hbr := gs_row_sz gs_row_35 hI1
              obtain ⟨c1, c2⟩ := y176 (by omega)
              have hstk : (gs_stk (A167 38) (F166 37 1).toNat) = (gs_stk (A 36) (F 35 1).toNat) := by
                rw [c1, c2, er1, er2]
                refine gs_stk_cg _ (fun i hi => ?_)
                unfold gs_cc
                rw [if_pos (by omega)]
                congr 1
                omega
              have hV1 : sp_val g (gs_stk (A167 38) (F166 37 1).toNat) := by rw [hstk]; exact hV
              have hW1 : gs_W (A167 6) g := by rw [f175.2 6 (by dsimp only; omega)]; exact hW
              have hL : (400 : Nat) = 400 := rfl
              refine sA_callV (y2 := m_X7_doTwist) (n2 := 2) (d2 := 2) (a := 5) (ci := 7) (q := (RX7, TX7, 5)) (as := [gs_iv u, .ref 37]) (rest := []) dd_X5_tryTwists_153 ok_X7_doTwist ml_X5_69 rfl rfl (by decide) gs_s5 rfl rfl (Nat.le_of_ble_eq_true rfl) (by decide) (c_X7_doTwist_vf I171 (by omega) gs_row_37 hg (by omega) hW1 hV1 hL (by omega)) (fun r177 F178 A179 h180 => ?_)
              obtain ⟨z183, e182, I184, f185, x181⟩ := h180
              subst e182
              have v186 : F178 5 0 = F166 5 0 := f185.1 5 0 (by first | exact id | omega | (dsimp only; omega) | (dsimp only) | fail)
              have v187 : F178 30 5 = F166 30 5 := f185.1 30 5 (by first | exact id | omega | (dsimp only; omega) | (dsimp only) | fail)
              have f188 := gs_fr_tr f175 f185 (fun b j h => by first | exact False.elim h | omega | (dsimp only at h ⊢; omega) | fail) (fun b h => by first | exact False.elim h | omega | (dsimp only at h ⊢; omega) | fail)
              have y189 : (z183 = 1 ∧ (sp_tw (sp_w g u) (gs_stk (A167 38) (F166 37 1).toNat)).length ≤ 400 ∧ gs_stk (A179 38) (F178 37 1).toNat = sp_tw (sp_w g u) (gs_stk (A167 38) (F166 37 1).toNat)) ∨ (z183 = 0 ∧ 400 < (sp_tw (sp_w g u) (gs_stk (A167 38) (F166 37 1).toNat)).length) := x181
              clear x181
              show sA _ _ _ 156 _ [gs_iv z183] _ _
              have y153 := y189
              rw [hstk] at y153
              refine sA_if_ne (tgt := 162) dd_X5_tryTwists_156 (by decide) (by omega) (fun q190 => ?_) (fun q190 => ?_)
              · skip
                have hys : ¬ 400 < (sp_tw (sp_w g u) (gs_stk (A 36) (F 35 1).toNat)).length ∧ (gs_stk (A179 38) (F178 37 1).toNat) = sp_tw (sp_w g u) (gs_stk (A 36) (F 35 1).toNat) := by
                  rcases y153 with y | y
                  · exact ⟨by have y2 := y.2.1; omega, y.2.2⟩
                  · exfalso
                    omega
                have hnl := hys.1
                have hrw := hys.2
                have g33 : F178 33 1 = F 33 1 := f188.1 33 1 (by dsimp only; omega)
                have g34 : A179 34 = A 34 := f188.2 34 (by dsimp only; omega)
                refine sA_iload dd_X5_tryTwists_162 (.tail _ (.tail _ (.tail _ (.tail _ (.head _))))) ?_
                refine sA_if_ne (tgt := 192) dd_X5_tryTwists_164 (by decide) (by omega) (fun q191 => ?_) (fun q191 => absurd q191 (by omega))
                refine sA_aload dd_X5_tryTwists_192 (.head _) ?_
                refine sA_aload_n dd_X5_tryTwists_194 rfl (.tail _ (.tail _ (.tail _ (.tail _ (.tail _ (.head _)))))) ?_
                refine sA_getr (ci := 5) (j := 4) (q := (RX5, TX5, 6)) dd_X5_tryTwists_195 rfl (by decide) fl_X5_24 (by decide) gs_s30 rfl ?_
                refine sA_callV (y2 := m_X4_isOneWith) (n2 := 1) (d2 := 2) (a := 37) (ci := 4) (q := (RX4, TX4, 2)) (as := [.ref 33]) (rest := []) dd_X5_tryTwists_198 ok_X4_isOneWith ml_X5_43 rfl rfl (Nat.lt_of_succ_lt gs_row_37.1) gs_row_37.2.1 rfl rfl (Nat.le_of_ble_eq_true rfl) (by decide) (c_X4_isOneWith_vf I184 gs_row_37 gs_row_33) (fun r192 F193 A194 h195 => ?_)
                obtain ⟨z198, e197, e199, e200, x196⟩ := h195
                subst e197 e199 e200
                have y201 : (z198 = 1 ∧ gs_on (A179 38) (F178 37 1) (A179 34) (F178 33 1)) ∨ (z198 = 0 ∧ ¬ gs_on (A179 38) (F178 37 1) (A179 34) (F178 33 1)) := x196
                clear x196
                show sA _ _ _ 201 _ [gs_iv z198] _ _
                have hz198 : z198 = 0 ∨ z198 = 1 := by omega
                have hon : st_on (sp_tw (sp_w g u) (gs_stk (A 36) (F 35 1).toNat)) (A 34) (F 33 1) ↔ gs_on (A179 38) (F178 37 1) (A179 34) (F178 33 1) := by
                  rw [g33, g34, ← hrw]
                  have hb := gs_row_sz gs_row_37 I184
                  exact st_on_mk hb.1
                refine sA_if_eq (tgt := 210) dd_X5_tryTwists_201 (by decide) (by omega) (fun q202 => ?_) (fun q202 => ?_)
                · skip
                  refine sA_iinc (lv' := [(7, gs_iv (u + 1)), (9, .ref 37), (8, gs_iv (r + (u * wt))), (6, gs_iv sz), (5, gs_iv lt), (0, .ref 30), (1, gs_iv 0), (2, gs_iv k), (3, gs_iv r), (4, gs_iv wt)]) dd_X5_tryTwists_210 (.tail _ (.tail _ (.head _))) (by decide) rfl ?_
                  refine sA_goto (tgt := 47) dd_X5_tryTwists_213 (by decide) ?_
                  have b203 : (1 : Int) ≤ F178 5 0 ∧ F178 5 0 ≤ 8 := I184.1 5 0
                  have b204 : (-2147483648 : Int) ≤ F178 30 5 ∧ F178 30 5 ≤ 2147483647 := I184.1 30 5
                  refine sA_sub (lv2 := [(7, gs_iv (u + 1)), (6, gs_iv sz), (5, gs_iv lt), (0, .ref 30), (1, gs_iv 0), (2, gs_iv k), (3, gs_iv r), (4, gs_iv wt)]) (List.forall_mem_cons.mpr ⟨(.head _), (List.forall_mem_cons.mpr ⟨(.tail _ (.tail _ (.tail _ (.head _)))), (List.forall_mem_cons.mpr ⟨(.tail _ (.tail _ (.tail _ (.tail _ (.head _))))), (List.forall_mem_cons.mpr ⟨(.tail _ (.tail _ (.tail _ (.tail _ (.tail _ (.head _)))))), (List.forall_mem_cons.mpr ⟨(.tail _ (.tail _ (.tail _ (.tail _ (.tail _ (.tail _ (.head _))))))), (List.forall_mem_cons.mpr ⟨(.tail _ (.tail _ (.tail _ (.tail _ (.tail _ (.tail _ (.tail _ (.head _)))))))), (List.forall_mem_cons.mpr ⟨(.tail _ (.tail _ (.tail _ (.tail _ (.tail _ (.tail _ (.tail _ (.tail _ (.head _))))))))), (List.forall_mem_cons.mpr ⟨(.tail _ (.tail _ (.tail _ (.tail _ (.tail _ (.tail _ (.tail _ (.tail _ (.tail _ (.head _)))))))))), (fun _ h => absurd h List.not_mem_nil)⟩)⟩)⟩)⟩)⟩)⟩)⟩)⟩) ?_
                  exact ih lt sz (u + 1) F178 A179 I184 f188 (by omega) (by omega) (by omega) (by omega) (by omega) i5 (by have j6 := i6; rw [show (k - 0).toNat = 1 by omega] at j6 ⊢; rcases y201 with y | y <;> first | (exfalso; omega) | exact tt_cg rfl rfl (show r + u * wt = F178 30 5 by omega) (tt_one (by omega) (by omega) (by omega) j6 hnl (hon.mpr y.2) (by omega)) | exact tt_cg rfl rfl (show F1 30 5 = F178 30 5 by omega) (tt_skip j6 (tt_last (fun w => y.2 (hon.mp w)))) | fail) (by omega) (by omega) (by omega)
                · skip
                  refine sA_aload_n dd_X5_tryTwists_204 rfl (.tail _ (.tail _ (.tail _ (.tail _ (.tail _ (.head _)))))) ?_
                  refine sA_iload dd_X5_tryTwists_205 (.tail _ (.head _)) ?_
                  refine sA_put (ci := 5) (j := 5) (q := (RX5, TX5, 6)) (ty := .int) dd_X5_tryTwists_207 rfl (by decide) fl_X5_53 rfl (tyX5_ok 5 (by decide)) rfl rfl (by decide) gs_s30 rfl ?_
                  have I206 : gs_I (gs_up F178 30 5 (r + (u * wt))) A179 := gs_I_put I184 (show (-2147483648 : Int) ≤ r + (u * wt) ∧ r + (u * wt) ≤ 2147483647 by omega)
                  have f207 := gs_fr_put f188 (a := 30) (z := r + (u * wt)) (j := 5) (by first | omega | (dsimp only; omega) | (dsimp only) | fail)
                  have v208 : gs_up F178 30 5 (r + (u * wt)) 30 5 = r + (u * wt) := gs_up_self _ _ _ _
                  have v209 : (gs_up F178 30 5 (r + (u * wt))) 5 0 = F178 5 0 := gs_up_ne _ _ (by omega)
                  generalize gs_up F178 30 5 (r + (u * wt)) = F205 at I206 f207 v208 v209 ⊢
                  refine sA_iinc (lv' := [(7, gs_iv (u + 1)), (9, .ref 37), (8, gs_iv (r + (u * wt))), (6, gs_iv sz), (5, gs_iv lt), (0, .ref 30), (1, gs_iv 0), (2, gs_iv k), (3, gs_iv r), (4, gs_iv wt)]) dd_X5_tryTwists_210 (.tail _ (.tail _ (.head _))) (by decide) rfl ?_
                  refine sA_goto (tgt := 47) dd_X5_tryTwists_213 (by decide) ?_
                  have b210 : (1 : Int) ≤ F205 5 0 ∧ F205 5 0 ≤ 8 := I206.1 5 0
                  have b211 : (-2147483648 : Int) ≤ F205 30 5 ∧ F205 30 5 ≤ 2147483647 := I206.1 30 5
                  refine sA_sub (lv2 := [(7, gs_iv (u + 1)), (6, gs_iv sz), (5, gs_iv lt), (0, .ref 30), (1, gs_iv 0), (2, gs_iv k), (3, gs_iv r), (4, gs_iv wt)]) (List.forall_mem_cons.mpr ⟨(.head _), (List.forall_mem_cons.mpr ⟨(.tail _ (.tail _ (.tail _ (.head _)))), (List.forall_mem_cons.mpr ⟨(.tail _ (.tail _ (.tail _ (.tail _ (.head _))))), (List.forall_mem_cons.mpr ⟨(.tail _ (.tail _ (.tail _ (.tail _ (.tail _ (.head _)))))), (List.forall_mem_cons.mpr ⟨(.tail _ (.tail _ (.tail _ (.tail _ (.tail _ (.tail _ (.head _))))))), (List.forall_mem_cons.mpr ⟨(.tail _ (.tail _ (.tail _ (.tail _ (.tail _ (.tail _ (.tail _ (.head _)))))))), (List.forall_mem_cons.mpr ⟨(.tail _ (.tail _ (.tail _ (.tail _ (.tail _ (.tail _ (.tail _ (.tail _ (.head _))))))))), (List.forall_mem_cons.mpr ⟨(.tail _ (.tail _ (.tail _ (.tail _ (.tail _ (.tail _ (.tail _ (.tail _ (.tail _ (.head _)))))))))), (fun _ h => absurd h List.not_mem_nil)⟩)⟩)⟩)⟩)⟩)⟩)⟩)⟩) ?_
                  exact ih lt sz (u + 1) F205 A179 I206 f207 (by omega) (by omega) (by omega) (by omega) (by omega) i5 (by have j6 := i6; rw [show (k - 0).toNat = 1 by omega] at j6 ⊢; rcases y201 with y | y <;> first | (exfalso; omega) | exact tt_cg rfl rfl (show r + u * wt = F205 30 5 by omega) (tt_one (by omega) (by omega) (by omega) j6 hnl (hon.mpr y.2) (by omega)) | exact tt_cg rfl rfl (show F1 30 5 = F205 30 5 by omega) (tt_skip j6 (tt_last (fun w => y.2 (hon.mp w)))) | fail) (by omega) (by omega) (by omega)
              · skip
                have hlg : 400 < (sp_tw (sp_w g u) (gs_stk (A 36) (F 35 1).toNat)).length := by
                  rcases y153 with y | y
                  · exfalso
                    omega
                  · exact y.2
                refine sA_goto (tgt := 210) dd_X5_tryTwists_159 (by decide) ?_
                refine sA_iinc (lv' := [(7, gs_iv (u + 1)), (9, .ref 37), (8, gs_iv (r + (u * wt))), (6, gs_iv sz), (5, gs_iv lt), (0, .ref 30), (1, gs_iv 0), (2, gs_iv k), (3, gs_iv r), (4, gs_iv wt)]) dd_X5_tryTwists_210 (.tail _ (.tail _ (.head _))) (by decide) rfl ?_
                refine sA_goto (tgt := 47) dd_X5_tryTwists_213 (by decide) ?_
                have b212 : (1 : Int) ≤ F178 5 0 ∧ F178 5 0 ≤ 8 := I184.1 5 0
                have b213 : (-2147483648 : Int) ≤ F178 30 5 ∧ F178 30 5 ≤ 2147483647 := I184.1 30 5
                refine sA_sub (lv2 := [(7, gs_iv (u + 1)), (6, gs_iv sz), (5, gs_iv lt), (0, .ref 30), (1, gs_iv 0), (2, gs_iv k), (3, gs_iv r), (4, gs_iv wt)]) (List.forall_mem_cons.mpr ⟨(.head _), (List.forall_mem_cons.mpr ⟨(.tail _ (.tail _ (.tail _ (.head _)))), (List.forall_mem_cons.mpr ⟨(.tail _ (.tail _ (.tail _ (.tail _ (.head _))))), (List.forall_mem_cons.mpr ⟨(.tail _ (.tail _ (.tail _ (.tail _ (.tail _ (.head _)))))), (List.forall_mem_cons.mpr ⟨(.tail _ (.tail _ (.tail _ (.tail _ (.tail _ (.tail _ (.head _))))))), (List.forall_mem_cons.mpr ⟨(.tail _ (.tail _ (.tail _ (.tail _ (.tail _ (.tail _ (.tail _ (.head _)))))))), (List.forall_mem_cons.mpr ⟨(.tail _ (.tail _ (.tail _ (.tail _ (.tail _ (.tail _ (.tail _ (.tail _ (.head _))))))))), (List.forall_mem_cons.mpr ⟨(.tail _ (.tail _ (.tail _ (.tail _ (.tail _ (.tail _ (.tail _ (.tail _ (.tail _ (.head _)))))))))), (fun _ h => absurd h List.not_mem_nil)⟩)⟩)⟩)⟩)⟩)⟩)⟩)⟩) ?_
                exact ih lt sz (u + 1) F178 A179 I184 f188 (by omega) (by omega) (by omega) (by omega) (by omega) i5 (by have j6 := i6; rw [show (k - 0).toNat = (k - 1).toNat + 1 by omega] at j6 ⊢; exact tt_cg rfl rfl (show F1 30 5 = F178 30 5 by omega) (tt_skip j6 (tt_large hlg))) (by omega) (by omega) (by omega)
            · skip
              have e32u : A1 32 u.toNat = A 32 u.toNat := by rw [e32]
              have hahu : cy_rep (sp_tw (sp_w g (sp_fl u)) (gs_stk (A 34) (F 33 1).toNat)) (A 32 u.toNat) := by
                rcases hah u (by omega) (by omega) with q | q
                · exfalso
                  omega
                · exact q
              refine sA_aload_n dd_X5_tryTwists_109 rfl (.tail _ (.tail _ (.tail _ (.tail _ (.head _))))) ?_
              refine sA_getr (ci := 5) (j := 3) (q := (RX5, TX5, 6)) dd_X5_tryTwists_110 rfl (by decide) fl_X5_17 (by decide) gs_s30 rfl ?_
              refine sA_iload dd_X5_tryTwists_113 (.tail _ (.head _)) ?_
              refine sA_iald (n := 16) dd_X5_tryTwists_115 (by decide) gs_s32 (by omega) (by decide) ?_
              refine sA_iload dd_X5_tryTwists_116 (.tail _ (.tail _ (.head _))) ?_
              refine sA_icmp_eq (tgt := 124) dd_X5_tryTwists_118 (by decide) (by omega) (by omega) (fun q214 => ?_) (fun q214 => ?_)
              · skip
                refine sA_aload_n dd_X5_tryTwists_124 rfl (.tail _ (.tail _ (.tail _ (.tail _ (.head _))))) ?_
                refine sA_getr (ci := 5) (j := 2) (q := (RX5, TX5, 6)) dd_X5_tryTwists_125 rfl (by decide) fl_X5_11 (by decide) gs_s30 rfl ?_
                refine sA_iload_n dd_X5_tryTwists_128 rfl (.tail _ (.tail _ (.tail _ (.tail _ (.tail _ (.head _)))))) ?_
                refine sA_iconst (z := 1) dd_X5_tryTwists_129 ?_
                refine sA_iadd dd_X5_tryTwists_130 ?_
                show sA _ _ _ _ _ (gs_iv 1 :: _) _ _
                refine sA_aald (n := 4) dd_X5_tryTwists_131 (by decide) (by decide) (by decide) gs_s31 (by omega) (by decide) ?_
                show sA _ _ _ _ _ (.ref 37 :: _) _ _
                refine sA_astore (lv' := [(9, .ref 37), (8, gs_iv (r + (u * wt))), (7, gs_iv u), (6, gs_iv sz), (5, gs_iv lt), (0, .ref 30), (1, gs_iv 0), (2, gs_iv k), (3, gs_iv r), (4, gs_iv wt)]) dd_X5_tryTwists_132 (by decide) rfl ?_
                refine sA_aload dd_X5_tryTwists_134 (.head _) ?_
                refine sA_aload_n dd_X5_tryTwists_136 rfl (.tail _ (.tail _ (.tail _ (.tail _ (.tail _ (.head _)))))) ?_
                refine sA_getr (ci := 5) (j := 2) (q := (RX5, TX5, 6)) dd_X5_tryTwists_137 rfl (by decide) fl_X5_11 (by decide) gs_s30 rfl ?_
                refine sA_iload_n dd_X5_tryTwists_140 rfl (.tail _ (.tail _ (.tail _ (.tail _ (.tail _ (.tail _ (.head _))))))) ?_
                refine sA_aald (n := 4) dd_X5_tryTwists_141 (by decide) (by decide) (by decide) gs_s31 (by omega) (by decide) ?_
                show sA _ _ _ _ _ (.ref 35 :: _) _ _
                refine sA_callV (y2 := m_X4_copy) (n2 := 1) (d2 := 1) (a := 37) (ci := 4) (q := (RX4, TX4, 2)) (as := [.ref 35]) (rest := []) dd_X5_tryTwists_142 ok_X4_copy ml_X5_36 rfl rfl (Nat.lt_of_succ_lt gs_row_37.1) gs_row_37.2.1 rfl rfl (Nat.le_of_ble_eq_true rfl) (by decide) (c_X4_copy_vf hI1 gs_row_37 gs_row_35) (fun r217 F218 A219 h220 => ?_)
                obtain ⟨e222, I223, f224, x221⟩ := h220
                subst e222
                have v225 : F218 5 0 = F1 5 0 := f224.1 5 0 (by first | exact id | omega | (dsimp only; omega) | (dsimp only) | fail)
                have v226 : F218 30 5 = F1 30 5 := f224.1 30 5 (by first | exact id | omega | (dsimp only; omega) | (dsimp only) | fail)
                have f227 := gs_fr_tr hf1 f224 (fun b j h => by first | exact False.elim h | omega | (dsimp only at h ⊢; omega) | fail) (fun b h => by first | exact False.elim h | omega | (dsimp only at h ⊢; omega) | fail)
                have y228 : F1 35 1 ≤ (400 : Int) → (F218 37 1 = F1 35 1 ∧ A219 38 = gs_cc (A1 36) (A1 38) 0 0 (F1 35 1).toNat) := x221
                clear x221
                show sA _ _ _ 145 _ [] _ _
                refine sA_aload_n dd_X5_tryTwists_145 rfl (.tail _ (.tail _ (.tail _ (.tail _ (.tail _ (.head _)))))) ?_
                refine sA_getr (ci := 5) (j := 0) (q := (RX5, TX5, 6)) dd_X5_tryTwists_146 rfl (by decide) fl_X5_28 (by decide) gs_s30 rfl ?_
                refine sA_iload dd_X5_tryTwists_149 (.tail _ (.tail _ (.head _))) ?_
                refine sA_aload dd_X5_tryTwists_151 (.head _) ?_
                have er1 : A1 36 = A 36 := hf1.2 36 (by dsimp only; omega)
                have er2 : F1 35 1 = F 35 1 := hf1.1 35 1 (by dsimp only; omega)
                have hbr := gs_row_sz gs_row_35 hI1
                obtain ⟨c1, c2⟩ := y228 (by omega)
                have hstk : (gs_stk (A219 38) (F218 37 1).toNat) = (gs_stk (A 36) (F 35 1).toNat) := by
                  rw [c1, c2, er1, er2]
                  refine gs_stk_cg _ (fun i hi => ?_)
                  unfold gs_cc
                  rw [if_pos (by omega)]
                  congr 1
                  omega
                have hV1 : sp_val g (gs_stk (A219 38) (F218 37 1).toNat) := by rw [hstk]; exact hV
                have hW1 : gs_W (A219 6) g := by rw [f227.2 6 (by dsimp only; omega)]; exact hW
                have hL : (400 : Nat) = 400 := rfl
                refine sA_callV (y2 := m_X7_doTwist) (n2 := 2) (d2 := 2) (a := 5) (ci := 7) (q := (RX7, TX7, 5)) (as := [gs_iv u, .ref 37]) (rest := []) dd_X5_tryTwists_153 ok_X7_doTwist ml_X5_69 rfl rfl (by decide) gs_s5 rfl rfl (Nat.le_of_ble_eq_true rfl) (by decide) (c_X7_doTwist_vf I223 (by omega) gs_row_37 hg (by omega) hW1 hV1 hL (by omega)) (fun r229 F230 A231 h232 => ?_)
                obtain ⟨z235, e234, I236, f237, x233⟩ := h232
                subst e234
                have v238 : F230 5 0 = F218 5 0 := f237.1 5 0 (by first | exact id | omega | (dsimp only; omega) | (dsimp only) | fail)
                have v239 : F230 30 5 = F218 30 5 := f237.1 30 5 (by first | exact id | omega | (dsimp only; omega) | (dsimp only) | fail)
                have f240 := gs_fr_tr f227 f237 (fun b j h => by first | exact False.elim h | omega | (dsimp only at h ⊢; omega) | fail) (fun b h => by first | exact False.elim h | omega | (dsimp only at h ⊢; omega) | fail)
                have y241 : (z235 = 1 ∧ (sp_tw (sp_w g u) (gs_stk (A219 38) (F218 37 1).toNat)).length ≤ 400 ∧ gs_stk (A231 38) (F230 37 1).toNat = sp_tw (sp_w g u) (gs_stk (A219 38) (F218 37 1).toNat)) ∨ (z235 = 0 ∧ 400 < (sp_tw (sp_w g u) (gs_stk (A219 38) (F218 37 1).toNat)).length) := x233
                clear x233
                show sA _ _ _ 156 _ [gs_iv z235] _ _
                have y153 := y241
                rw [hstk] at y153
                refine sA_if_ne (tgt := 162) dd_X5_tryTwists_156 (by decide) (by omega) (fun q242 => ?_) (fun q242 => ?_)
                · skip
                  have hys : ¬ 400 < (sp_tw (sp_w g u) (gs_stk (A 36) (F 35 1).toNat)).length ∧ (gs_stk (A231 38) (F230 37 1).toNat) = sp_tw (sp_w g u) (gs_stk (A 36) (F 35 1).toNat) := by
                    rcases y153 with y | y
                    · exact ⟨by have y2 := y.2.1; omega, y.2.2⟩
                    · exfalso
                      omega
                  have hnl := hys.1
                  have hrw := hys.2
                  have g33 : F230 33 1 = F 33 1 := f240.1 33 1 (by dsimp only; omega)
                  have g34 : A231 34 = A 34 := f240.2 34 (by dsimp only; omega)
                  refine sA_iload dd_X5_tryTwists_162 (.tail _ (.tail _ (.tail _ (.tail _ (.head _))))) ?_
                  refine sA_if_ne (tgt := 192) dd_X5_tryTwists_164 (by decide) (by omega) (fun q243 => ?_) (fun q243 => absurd q243 (by omega))
                  refine sA_aload dd_X5_tryTwists_192 (.head _) ?_
                  refine sA_aload_n dd_X5_tryTwists_194 rfl (.tail _ (.tail _ (.tail _ (.tail _ (.tail _ (.head _)))))) ?_
                  refine sA_getr (ci := 5) (j := 4) (q := (RX5, TX5, 6)) dd_X5_tryTwists_195 rfl (by decide) fl_X5_24 (by decide) gs_s30 rfl ?_
                  refine sA_callV (y2 := m_X4_isOneWith) (n2 := 1) (d2 := 2) (a := 37) (ci := 4) (q := (RX4, TX4, 2)) (as := [.ref 33]) (rest := []) dd_X5_tryTwists_198 ok_X4_isOneWith ml_X5_43 rfl rfl (Nat.lt_of_succ_lt gs_row_37.1) gs_row_37.2.1 rfl rfl (Nat.le_of_ble_eq_true rfl) (by decide) (c_X4_isOneWith_vf I236 gs_row_37 gs_row_33) (fun r244 F245 A246 h247 => ?_)
                  obtain ⟨z250, e249, e251, e252, x248⟩ := h247
                  subst e249 e251 e252
                  have y253 : (z250 = 1 ∧ gs_on (A231 38) (F230 37 1) (A231 34) (F230 33 1)) ∨ (z250 = 0 ∧ ¬ gs_on (A231 38) (F230 37 1) (A231 34) (F230 33 1)) := x248
                  clear x248
                  show sA _ _ _ 201 _ [gs_iv z250] _ _
                  have hz198 : z250 = 0 ∨ z250 = 1 := by omega
                  have hon : st_on (sp_tw (sp_w g u) (gs_stk (A 36) (F 35 1).toNat)) (A 34) (F 33 1) ↔ gs_on (A231 38) (F230 37 1) (A231 34) (F230 33 1) := by
                    rw [g33, g34, ← hrw]
                    have hb := gs_row_sz gs_row_37 I236
                    exact st_on_mk hb.1
                  refine sA_if_eq (tgt := 210) dd_X5_tryTwists_201 (by decide) (by omega) (fun q254 => ?_) (fun q254 => ?_)
                  · skip
                    refine sA_iinc (lv' := [(7, gs_iv (u + 1)), (9, .ref 37), (8, gs_iv (r + (u * wt))), (6, gs_iv sz), (5, gs_iv lt), (0, .ref 30), (1, gs_iv 0), (2, gs_iv k), (3, gs_iv r), (4, gs_iv wt)]) dd_X5_tryTwists_210 (.tail _ (.tail _ (.head _))) (by decide) rfl ?_
                    refine sA_goto (tgt := 47) dd_X5_tryTwists_213 (by decide) ?_
                    have b255 : (1 : Int) ≤ F230 5 0 ∧ F230 5 0 ≤ 8 := I236.1 5 0
                    have b256 : (-2147483648 : Int) ≤ F230 30 5 ∧ F230 30 5 ≤ 2147483647 := I236.1 30 5
                    refine sA_sub (lv2 := [(7, gs_iv (u + 1)), (6, gs_iv sz), (5, gs_iv lt), (0, .ref 30), (1, gs_iv 0), (2, gs_iv k), (3, gs_iv r), (4, gs_iv wt)]) (List.forall_mem_cons.mpr ⟨(.head _), (List.forall_mem_cons.mpr ⟨(.tail _ (.tail _ (.tail _ (.head _)))), (List.forall_mem_cons.mpr ⟨(.tail _ (.tail _ (.tail _ (.tail _ (.head _))))), (List.forall_mem_cons.mpr ⟨(.tail _ (.tail _ (.tail _ (.tail _ (.tail _ (.head _)))))), (List.forall_mem_cons.mpr ⟨(.tail _ (.tail _ (.tail _ (.tail _ (.tail _ (.tail _ (.head _))))))), (List.forall_mem_cons.mpr ⟨(.tail _ (.tail _ (.tail _ (.tail _ (.tail _ (.tail _ (.tail _ (.head _)))))))), (List.forall_mem_cons.mpr ⟨(.tail _ (.tail _ (.tail _ (.tail _ (.tail _ (.tail _ (.tail _ (.tail _ (.head _))))))))), (List.forall_mem_cons.mpr ⟨(.tail _ (.tail _ (.tail _ (.tail _ (.tail _ (.tail _ (.tail _ (.tail _ (.tail _ (.head _)))))))))), (fun _ h => absurd h List.not_mem_nil)⟩)⟩)⟩)⟩)⟩)⟩)⟩)⟩) ?_
                    exact ih lt sz (u + 1) F230 A231 I236 f240 (by omega) (by omega) (by omega) (by omega) (by omega) i5 (by have j6 := i6; rw [show (k - 0).toNat = 1 by omega] at j6 ⊢; rcases y253 with y | y <;> first | (exfalso; omega) | exact tt_cg rfl rfl (show r + u * wt = F230 30 5 by omega) (tt_one (by omega) (by omega) (by omega) j6 hnl (hon.mpr y.2) (by omega)) | exact tt_cg rfl rfl (show F1 30 5 = F230 30 5 by omega) (tt_skip j6 (tt_last (fun w => y.2 (hon.mp w)))) | fail) (by omega) (by omega) (by omega)
                  · skip
                    refine sA_aload_n dd_X5_tryTwists_204 rfl (.tail _ (.tail _ (.tail _ (.tail _ (.tail _ (.head _)))))) ?_
                    refine sA_iload dd_X5_tryTwists_205 (.tail _ (.head _)) ?_
                    refine sA_put (ci := 5) (j := 5) (q := (RX5, TX5, 6)) (ty := .int) dd_X5_tryTwists_207 rfl (by decide) fl_X5_53 rfl (tyX5_ok 5 (by decide)) rfl rfl (by decide) gs_s30 rfl ?_
                    have I258 : gs_I (gs_up F230 30 5 (r + (u * wt))) A231 := gs_I_put I236 (show (-2147483648 : Int) ≤ r + (u * wt) ∧ r + (u * wt) ≤ 2147483647 by omega)
                    have f259 := gs_fr_put f240 (a := 30) (z := r + (u * wt)) (j := 5) (by first | omega | (dsimp only; omega) | (dsimp only) | fail)
                    have v260 : gs_up F230 30 5 (r + (u * wt)) 30 5 = r + (u * wt) := gs_up_self _ _ _ _
                    have v261 : (gs_up F230 30 5 (r + (u * wt))) 5 0 = F230 5 0 := gs_up_ne _ _ (by omega)
                    generalize gs_up F230 30 5 (r + (u * wt)) = F257 at I258 f259 v260 v261 ⊢
                    refine sA_iinc (lv' := [(7, gs_iv (u + 1)), (9, .ref 37), (8, gs_iv (r + (u * wt))), (6, gs_iv sz), (5, gs_iv lt), (0, .ref 30), (1, gs_iv 0), (2, gs_iv k), (3, gs_iv r), (4, gs_iv wt)]) dd_X5_tryTwists_210 (.tail _ (.tail _ (.head _))) (by decide) rfl ?_
                    refine sA_goto (tgt := 47) dd_X5_tryTwists_213 (by decide) ?_
                    have b262 : (1 : Int) ≤ F257 5 0 ∧ F257 5 0 ≤ 8 := I258.1 5 0
                    have b263 : (-2147483648 : Int) ≤ F257 30 5 ∧ F257 30 5 ≤ 2147483647 := I258.1 30 5
                    refine sA_sub (lv2 := [(7, gs_iv (u + 1)), (6, gs_iv sz), (5, gs_iv lt), (0, .ref 30), (1, gs_iv 0), (2, gs_iv k), (3, gs_iv r), (4, gs_iv wt)]) (List.forall_mem_cons.mpr ⟨(.head _), (List.forall_mem_cons.mpr ⟨(.tail _ (.tail _ (.tail _ (.head _)))), (List.forall_mem_cons.mpr ⟨(.tail _ (.tail _ (.tail _ (.tail _ (.head _))))), (List.forall_mem_cons.mpr ⟨(.tail _ (.tail _ (.tail _ (.tail _ (.tail _ (.head _)))))), (List.forall_mem_cons.mpr ⟨(.tail _ (.tail _ (.tail _ (.tail _ (.tail _ (.tail _ (.head _))))))), (List.forall_mem_cons.mpr ⟨(.tail _ (.tail _ (.tail _ (.tail _ (.tail _ (.tail _ (.tail _ (.head _)))))))), (List.forall_mem_cons.mpr ⟨(.tail _ (.tail _ (.tail _ (.tail _ (.tail _ (.tail _ (.tail _ (.tail _ (.head _))))))))), (List.forall_mem_cons.mpr ⟨(.tail _ (.tail _ (.tail _ (.tail _ (.tail _ (.tail _ (.tail _ (.tail _ (.tail _ (.head _)))))))))), (fun _ h => absurd h List.not_mem_nil)⟩)⟩)⟩)⟩)⟩)⟩)⟩)⟩) ?_
                    exact ih lt sz (u + 1) F257 A231 I258 f259 (by omega) (by omega) (by omega) (by omega) (by omega) i5 (by have j6 := i6; rw [show (k - 0).toNat = 1 by omega] at j6 ⊢; rcases y253 with y | y <;> first | (exfalso; omega) | exact tt_cg rfl rfl (show r + u * wt = F257 30 5 by omega) (tt_one (by omega) (by omega) (by omega) j6 hnl (hon.mpr y.2) (by omega)) | exact tt_cg rfl rfl (show F1 30 5 = F257 30 5 by omega) (tt_skip j6 (tt_last (fun w => y.2 (hon.mp w)))) | fail) (by omega) (by omega) (by omega)
                · skip
                  have hlg : 400 < (sp_tw (sp_w g u) (gs_stk (A 36) (F 35 1).toNat)).length := by
                    rcases y153 with y | y
                    · exfalso
                      omega
                    · exact y.2
                  refine sA_goto (tgt := 210) dd_X5_tryTwists_159 (by decide) ?_
                  refine sA_iinc (lv' := [(7, gs_iv (u + 1)), (9, .ref 37), (8, gs_iv (r + (u * wt))), (6, gs_iv sz), (5, gs_iv lt), (0, .ref 30), (1, gs_iv 0), (2, gs_iv k), (3, gs_iv r), (4, gs_iv wt)]) dd_X5_tryTwists_210 (.tail _ (.tail _ (.head _))) (by decide) rfl ?_
                  refine sA_goto (tgt := 47) dd_X5_tryTwists_213 (by decide) ?_
                  have b264 : (1 : Int) ≤ F230 5 0 ∧ F230 5 0 ≤ 8 := I236.1 5 0
                  have b265 : (-2147483648 : Int) ≤ F230 30 5 ∧ F230 30 5 ≤ 2147483647 := I236.1 30 5
                  refine sA_sub (lv2 := [(7, gs_iv (u + 1)), (6, gs_iv sz), (5, gs_iv lt), (0, .ref 30), (1, gs_iv 0), (2, gs_iv k), (3, gs_iv r), (4, gs_iv wt)]) (List.forall_mem_cons.mpr ⟨(.head _), (List.forall_mem_cons.mpr ⟨(.tail _ (.tail _ (.tail _ (.head _)))), (List.forall_mem_cons.mpr ⟨(.tail _ (.tail _ (.tail _ (.tail _ (.head _))))), (List.forall_mem_cons.mpr ⟨(.tail _ (.tail _ (.tail _ (.tail _ (.tail _ (.head _)))))), (List.forall_mem_cons.mpr ⟨(.tail _ (.tail _ (.tail _ (.tail _ (.tail _ (.tail _ (.head _))))))), (List.forall_mem_cons.mpr ⟨(.tail _ (.tail _ (.tail _ (.tail _ (.tail _ (.tail _ (.tail _ (.head _)))))))), (List.forall_mem_cons.mpr ⟨(.tail _ (.tail _ (.tail _ (.tail _ (.tail _ (.tail _ (.tail _ (.tail _ (.head _))))))))), (List.forall_mem_cons.mpr ⟨(.tail _ (.tail _ (.tail _ (.tail _ (.tail _ (.tail _ (.tail _ (.tail _ (.tail _ (.head _)))))))))), (fun _ h => absurd h List.not_mem_nil)⟩)⟩)⟩)⟩)⟩)⟩)⟩)⟩) ?_
                  exact ih lt sz (u + 1) F230 A231 I236 f240 (by omega) (by omega) (by omega) (by omega) (by omega) i5 (by have j6 := i6; rw [show (k - 0).toNat = (k - 1).toNat + 1 by omega] at j6 ⊢; exact tt_cg rfl rfl (show F1 30 5 = F230 30 5 by omega) (tt_skip j6 (tt_large hlg))) (by omega) (by omega) (by omega)
              · skip
                refine sA_goto (tgt := 210) dd_X5_tryTwists_121 (by decide) ?_
                refine sA_iinc (lv' := [(7, gs_iv (u + 1)), (8, gs_iv (r + (u * wt))), (6, gs_iv sz), (5, gs_iv lt), (0, .ref 30), (1, gs_iv 0), (2, gs_iv k), (3, gs_iv r), (4, gs_iv wt)]) dd_X5_tryTwists_210 (.tail _ (.head _)) (by decide) rfl ?_
                refine sA_goto (tgt := 47) dd_X5_tryTwists_213 (by decide) ?_
                refine sA_sub (lv2 := [(7, gs_iv (u + 1)), (6, gs_iv sz), (5, gs_iv lt), (0, .ref 30), (1, gs_iv 0), (2, gs_iv k), (3, gs_iv r), (4, gs_iv wt)]) (List.forall_mem_cons.mpr ⟨(.head _), (List.forall_mem_cons.mpr ⟨(.tail _ (.tail _ (.head _))), (List.forall_mem_cons.mpr ⟨(.tail _ (.tail _ (.tail _ (.head _)))), (List.forall_mem_cons.mpr ⟨(.tail _ (.tail _ (.tail _ (.tail _ (.head _))))), (List.forall_mem_cons.mpr ⟨(.tail _ (.tail _ (.tail _ (.tail _ (.tail _ (.head _)))))), (List.forall_mem_cons.mpr ⟨(.tail _ (.tail _ (.tail _ (.tail _ (.tail _ (.tail _ (.head _))))))), (List.forall_mem_cons.mpr ⟨(.tail _ (.tail _ (.tail _ (.tail _ (.tail _ (.tail _ (.tail _ (.head _)))))))), (List.forall_mem_cons.mpr ⟨(.tail _ (.tail _ (.tail _ (.tail _ (.tail _ (.tail _ (.tail _ (.tail _ (.head _))))))))), (fun _ h => absurd h List.not_mem_nil)⟩)⟩)⟩)⟩)⟩)⟩)⟩)⟩) ?_
                exact ih lt sz (u + 1) F1 A1 hI1 hf1 (by omega) (by omega) (by omega) (by omega) (by omega) i5 (by have j6 := i6; rw [show (k - 0).toNat = 1 by omega] at j6 ⊢; exact tt_skip j6 (tt_prune hg (by omega) hrd hV hahu i5 (by omega))) (by omega) (by omega) (by omega)
          · skip
            refine sA_vret dd_X5_tryTwists_92 rfl ?_
            refine ⟨rfl, hI1, hf1, ?_⟩
            have j6 := i6
            rw [show (k - 0).toNat = 1 by omega] at j6 ⊢
            exact tt_stop (by omega) (by omega) (by omega) j6
theorem c_X5_tryTwists_v0f {k r wt g : Int} {F A : gs_F} (hI : gs_I F A) (hk : 0 ≤ k ∧ k ≤ 3) (hkd : 0 < k) (hr0 : 0 ≤ r ∧ r < wt) (hwt : 1 ≤ wt ∧ wt ≤ 1) (hg : 1 ≤ g ∧ g ≤ 3) (h5 : F 5 0 = 3 * g - 1) (hW : gs_W (A 6) g) (hV : sp_val g (gs_stk (A 36) (F 35 1).toNat)) (hrd : sp_red (gs_stk (A 36) (F 35 1).toNat)) (hah : ∀ u : Int, 0 ≤ u → u < 2 * F 5 0 → A 32 u.toNat = -1 ∨ cy_rep (sp_tw (sp_w g (sp_fl u)) (gs_stk (A 34) (F 33 1).toNat)) (A 32 u.toNat)) (h30 : F 30 5 = -1 ∨ 0 ≤ F 30 5) : sC m_X5_tryTwists 6 [.ref 30, gs_iv 0, gs_iv k, gs_iv r, gs_iv wt] F A (fun rv F' A' => rv = none ∧ gs_I F' A' ∧ gs_fr (fun c j => (c = 30 ∧ j = 5) ∨ (37 ≤ c ∧ c < 43 ∧ j = 1)) (fun c => c = 7 ∨ (37 ≤ c ∧ c < 43)) F A F' A' ∧ (tt_best (tt_S g (2 * (3 * g - 1)) (gs_stk (A 36) (F 35 1).toNat) (A 34) (F 33 1) (k - 0).toNat r wt (2 * (3 * g - 1))) (F 30 5) (F' 30 5))) := by
  refine sC_of ok_X5_tryTwists.1 (Nat.le_of_ble_eq_true rfl) ?_
  show sA _ _ _ 0 [(0, .ref 30), (1, gs_iv 0), (2, gs_iv k), (3, gs_iv r), (4, gs_iv wt)] [] F A
  have hf : gs_fr (fun c j => (c = 30 ∧ j = 5) ∨ (37 ≤ c ∧ c < 43 ∧ j = 1)) (fun c => c = 7 ∨ (37 ≤ c ∧ c < 43)) F A F A := gs_fr_refl _ _ _ _
  have b266 : (1 : Int) ≤ F 5 0 ∧ F 5 0 ≤ 8 := hI.1 5 0
  have b267 : (-2147483648 : Int) ≤ F 30 5 ∧ F 30 5 ≤ 2147483647 := hI.1 30 5
  have hgg : (1 : Int) ≤ g ∧ g ≤ 3 := hg
  refine sA_iload_n dd_X5_tryTwists_0 rfl (.tail _ (.head _)) ?_
  refine sA_if_lt (tgt := 18) dd_X5_tryTwists_1 (by decide) (by omega) (fun q268 => absurd q268 (by omega)) (fun q268 => ?_)
  refine sA_iload_n dd_X5_tryTwists_4 rfl (.tail _ (.head _)) ?_
  refine sA_iload_n dd_X5_tryTwists_5 rfl (.tail _ (.tail _ (.head _))) ?_
  refine sA_icmp_ge (tgt := 18) dd_X5_tryTwists_6 (by decide) (by omega) (by omega) (fun q269 => ?_) (fun q269 => ?_)
  · skip
    refine sA_vret dd_X5_tryTwists_18 rfl ?_
    refine ⟨rfl, hI, hf, ?_⟩
    exfalso
    omega
  · skip
    refine sA_iload_n dd_X5_tryTwists_9 rfl (.tail _ (.tail _ (.head _))) ?_
    refine sA_aload_n dd_X5_tryTwists_10 rfl (.head _) ?_
    refine sA_getr (ci := 5) (j := 2) (q := (RX5, TX5, 6)) dd_X5_tryTwists_11 rfl (by decide) fl_X5_11 (by decide) gs_s30 rfl ?_
    refine sA_alenq (n := 4) dd_X5_tryTwists_14 (by decide) (by decide) gs_s31 ?_
    refine sA_icmp_lt (tgt := 19) dd_X5_tryTwists_15 (by decide) (by omega) (by omega) (fun q270 => ?_) (fun q270 => ?_)
    · skip
      refine sA_iload_n dd_X5_tryTwists_19 rfl (.tail _ (.head _)) ?_
      refine sA_iconst (z := 1) dd_X5_tryTwists_20 ?_
      refine sA_iadd dd_X5_tryTwists_21 ?_
      show sA _ _ _ _ _ (gs_iv 1 :: _) _ _
      refine sA_iload_n dd_X5_tryTwists_22 rfl (.tail _ (.tail _ (.head _))) ?_
      refine sA_icmp_ne (tgt := 30) dd_X5_tryTwists_23 (by decide) (by omega) (by omega) (fun q271 => ?_) (fun q271 => ?_)
      · skip
        refine sA_iconst (z := 0) dd_X5_tryTwists_30 ?_
        refine sA_istore (lv' := [(5, gs_iv 0), (0, .ref 30), (1, gs_iv 0), (2, gs_iv k), (3, gs_iv r), (4, gs_iv wt)]) dd_X5_tryTwists_31 (by decide) rfl ?_
        refine sA_aload_n dd_X5_tryTwists_33 rfl (.tail _ (.head _)) ?_
        refine sA_getr (ci := 5) (j := 2) (q := (RX5, TX5, 6)) dd_X5_tryTwists_34 rfl (by decide) fl_X5_11 (by decide) gs_s30 rfl ?_
        refine sA_iload_n dd_X5_tryTwists_37 rfl (.tail _ (.tail _ (.head _))) ?_
        refine sA_aald (n := 4) dd_X5_tryTwists_38 (by decide) (by decide) (by decide) gs_s31 (by omega) (by decide) ?_
        show sA _ _ _ _ _ (.ref 35 :: _) _ _
        refine sA_callV (y2 := m_X4_closedSize) (n2 := 0) (d2 := 2) (a := 35) (ci := 4) (q := (RX4, TX4, 2)) (as := []) (rest := []) dd_X5_tryTwists_39 ok_X4_closedSize ml_X5_73 rfl rfl (Nat.lt_of_succ_lt gs_row_35.1) gs_row_35.2.1 rfl rfl (Nat.le_of_ble_eq_true rfl) (by decide) (c_X4_closedSize_vf hI gs_row_35) (fun r273 F274 A275 h276 => ?_)
        obtain ⟨z279, e278, e280, e281, x277⟩ := h276
        subst e278 e280 e281
        have y282 : cy_rep (gs_stk (A 36) (F 35 1).toNat) z279 ∧ 0 ≤ z279 ∧ z279 ≤ 400 := x277
        clear x277
        show sA _ _ _ 42 _ [gs_iv z279] _ _
        refine sA_istore (lv' := [(6, gs_iv z279), (5, gs_iv 0), (0, .ref 30), (1, gs_iv 0), (2, gs_iv k), (3, gs_iv r), (4, gs_iv wt)]) dd_X5_tryTwists_42 (by decide) rfl ?_
        refine sA_iconst (z := 0) dd_X5_tryTwists_44 ?_
        refine sA_istore (lv' := [(7, gs_iv 0), (6, gs_iv z279), (5, gs_iv 0), (0, .ref 30), (1, gs_iv 0), (2, gs_iv k), (3, gs_iv r), (4, gs_iv wt)]) dd_X5_tryTwists_45 (by decide) rfl ?_
        refine sA_sub (lv2 := [(7, gs_iv 0), (6, gs_iv z279), (5, gs_iv 0), (0, .ref 30), (1, gs_iv 0), (2, gs_iv k), (3, gs_iv r), (4, gs_iv wt)]) (List.forall_mem_cons.mpr ⟨(.head _), (List.forall_mem_cons.mpr ⟨(.tail _ (.head _)), (List.forall_mem_cons.mpr ⟨(.tail _ (.tail _ (.head _))), (List.forall_mem_cons.mpr ⟨(.tail _ (.tail _ (.tail _ (.head _)))), (List.forall_mem_cons.mpr ⟨(.tail _ (.tail _ (.tail _ (.tail _ (.head _))))), (List.forall_mem_cons.mpr ⟨(.tail _ (.tail _ (.tail _ (.tail _ (.tail _ (.head _)))))), (List.forall_mem_cons.mpr ⟨(.tail _ (.tail _ (.tail _ (.tail _ (.tail _ (.tail _ (.head _))))))), (List.forall_mem_cons.mpr ⟨(.tail _ (.tail _ (.tail _ (.tail _ (.tail _ (.tail _ (.tail _ (.head _)))))))), (fun _ h => absurd h List.not_mem_nil)⟩)⟩)⟩)⟩)⟩)⟩)⟩)⟩) ?_
        exact (k_X5_tryTwists_v0f hI hk hkd hr0 hwt hg h5 hW hV hrd hah h30 (16 - 0 : Int).toNat.succ) 0 z279 0 F A hI hf (by omega) (by omega) (by omega) (by omega) (by omega) y282.1 (tt_0 (by omega)) (by omega) (by omega) (by omega)
      · skip
        refine sA_iconst (z := 1) dd_X5_tryTwists_26 ?_
        refine sA_goto (tgt := 31) dd_X5_tryTwists_27 (by decide) ?_
        refine sA_istore (lv' := [(5, gs_iv 1), (0, .ref 30), (1, gs_iv 0), (2, gs_iv k), (3, gs_iv r), (4, gs_iv wt)]) dd_X5_tryTwists_31 (by decide) rfl ?_
        refine sA_aload_n dd_X5_tryTwists_33 rfl (.tail _ (.head _)) ?_
        refine sA_getr (ci := 5) (j := 2) (q := (RX5, TX5, 6)) dd_X5_tryTwists_34 rfl (by decide) fl_X5_11 (by decide) gs_s30 rfl ?_
        refine sA_iload_n dd_X5_tryTwists_37 rfl (.tail _ (.tail _ (.head _))) ?_
        refine sA_aald (n := 4) dd_X5_tryTwists_38 (by decide) (by decide) (by decide) gs_s31 (by omega) (by decide) ?_
        show sA _ _ _ _ _ (.ref 35 :: _) _ _
        refine sA_callV (y2 := m_X4_closedSize) (n2 := 0) (d2 := 2) (a := 35) (ci := 4) (q := (RX4, TX4, 2)) (as := []) (rest := []) dd_X5_tryTwists_39 ok_X4_closedSize ml_X5_73 rfl rfl (Nat.lt_of_succ_lt gs_row_35.1) gs_row_35.2.1 rfl rfl (Nat.le_of_ble_eq_true rfl) (by decide) (c_X4_closedSize_vf hI gs_row_35) (fun r284 F285 A286 h287 => ?_)
        obtain ⟨z290, e289, e291, e292, x288⟩ := h287
        subst e289 e291 e292
        have y293 : cy_rep (gs_stk (A 36) (F 35 1).toNat) z290 ∧ 0 ≤ z290 ∧ z290 ≤ 400 := x288
        clear x288
        show sA _ _ _ 42 _ [gs_iv z290] _ _
        refine sA_istore (lv' := [(6, gs_iv z290), (5, gs_iv 1), (0, .ref 30), (1, gs_iv 0), (2, gs_iv k), (3, gs_iv r), (4, gs_iv wt)]) dd_X5_tryTwists_42 (by decide) rfl ?_
        refine sA_iconst (z := 0) dd_X5_tryTwists_44 ?_
        refine sA_istore (lv' := [(7, gs_iv 0), (6, gs_iv z290), (5, gs_iv 1), (0, .ref 30), (1, gs_iv 0), (2, gs_iv k), (3, gs_iv r), (4, gs_iv wt)]) dd_X5_tryTwists_45 (by decide) rfl ?_
        refine sA_sub (lv2 := [(7, gs_iv 0), (6, gs_iv z290), (5, gs_iv 1), (0, .ref 30), (1, gs_iv 0), (2, gs_iv k), (3, gs_iv r), (4, gs_iv wt)]) (List.forall_mem_cons.mpr ⟨(.head _), (List.forall_mem_cons.mpr ⟨(.tail _ (.head _)), (List.forall_mem_cons.mpr ⟨(.tail _ (.tail _ (.head _))), (List.forall_mem_cons.mpr ⟨(.tail _ (.tail _ (.tail _ (.head _)))), (List.forall_mem_cons.mpr ⟨(.tail _ (.tail _ (.tail _ (.tail _ (.head _))))), (List.forall_mem_cons.mpr ⟨(.tail _ (.tail _ (.tail _ (.tail _ (.tail _ (.head _)))))), (List.forall_mem_cons.mpr ⟨(.tail _ (.tail _ (.tail _ (.tail _ (.tail _ (.tail _ (.head _))))))), (List.forall_mem_cons.mpr ⟨(.tail _ (.tail _ (.tail _ (.tail _ (.tail _ (.tail _ (.tail _ (.head _)))))))), (fun _ h => absurd h List.not_mem_nil)⟩)⟩)⟩)⟩)⟩)⟩)⟩)⟩) ?_
        exact (k_X5_tryTwists_v0f hI hk hkd hr0 hwt hg h5 hW hV hrd hah h30 (16 - 0 : Int).toNat.succ) 1 z290 0 F A hI hf (by omega) (by omega) (by omega) (by omega) (by omega) y293.1 (tt_0 (by omega)) (by omega) (by omega) (by omega)
    · skip
      refine sA_vret dd_X5_tryTwists_18 rfl ?_
      refine ⟨rfl, hI, hf, ?_⟩
      exfalso
      omega
theorem k_X5_forCarrying_vf {a L b M p : Nat} {n : Int} {g : Int} {F A : gs_F} (hI : gs_I F A) (hr : gs_row a L) (ho : gs_row b M) (hn : 0 ≤ n ∧ n ≤ 3) (hp : gs_plan p) (hg : 1 ≤ g ∧ g ≤ 3) (h5 : F 5 0 = 3 * g - 1) (hW : gs_W (A 6) g) (hVa : sp_val g (gs_stk (A (a + 1)) (F a 1).toNat)) (hRa : sp_red (gs_stk (A (a + 1)) (F a 1).toNat)) (hVb : sp_val g (gs_stk (A (b + 1)) (F b 1).toNat)) (hLM : (L : Int) ≤ 60 ∧ (M : Int) ≤ 60) (hab : 54 ≤ a ∧ 54 ≤ b) (hp50 : p = 50) : ∀ nN : Nat, (∀ (k : Int)  (F1 A1 : gs_F), gs_I F1 A1 → gs_fr (fun c j => (c = 33 ∧ j = 1) ∨ (c = 30 ∧ j = 5) ∨ (35 ≤ c ∧ c < 43 ∧ j = 1) ∨ (c = p ∧ j = 1)) (fun c => c = 34 ∨ c = 7 ∨ c = 32 ∨ (35 ≤ c ∧ c < 43) ∨ c = p + 1) F A F1 A1 → 1 ≤ k ∧ k ≤ n + 1 → gs_bef (cy_hit g (2 * (3 * g - 1)) (gs_stk (A (a + 1)) (F a 1).toNat) (A (b + 1)) (F b 1)) (2 * (3 * g - 1)) k 0 → (gs_stk (A1 36) (F1 35 1).toNat) = (gs_stk (A (a + 1)) (F a 1).toNat) → F1 33 1 = F b 1 ∧ F1 5 0 = F 5 0 → (∀ j : Nat, (j : Int) < F b 1 → A1 34 j = A (b + 1) j) → (∀ v : Int, 0 ≤ v → v < 2 * F 5 0 → A1 32 v.toNat = -1 ∨ cy_rep (sp_tw (sp_w g (sp_fl v)) (gs_stk (A1 34) (F1 33 1).toNat)) (A1 32 v.toNat)) → A1 6 = A 6 → 4 - k < (nN : Int) → sA m_X5_forCarrying 7 (fun rv F' A' => ∃ z : Int, rv = some (gs_iv z) ∧ gs_I F' A' ∧ gs_fr (fun c j => (c = 33 ∧ j = 1) ∨ (c = 30 ∧ j = 5) ∨ (35 ≤ c ∧ c < 43 ∧ j = 1) ∨ (c = p ∧ j = 1)) (fun c => c = 34 ∨ c = 7 ∨ c = 32 ∨ (35 ≤ c ∧ c < 43) ∨ c = p + 1) F A F' A' ∧ ((z = 1 ∧ ∃ kk rk : Int, gs_srch (cy_hit g (2 * (3 * g - 1)) (gs_stk (A (a + 1)) (F a 1).toNat) (A (b + 1)) (F b 1)) (2 * (3 * g - 1)) n kk rk ∧ F' p 1 = kk ∧ ∀ j : Int, 0 ≤ j → j < kk → A' (p + 1) j.toNat = sp_nm (2 * (3 * g - 1)) kk.toNat rk j.toNat) ∨ (z = 0 ∧ gs_bef (cy_hit g (2 * (3 * g - 1)) (gs_stk (A (a + 1)) (F a 1).toNat) (A (b + 1)) (F b 1)) (2 * (3 * g - 1)) (n + 1) 0))) 41 [(5, gs_iv k), (0, .ref 30), (3, gs_iv n), (4, .ref p)] [] F1 A1) := by
  intro nN
  induction nN with
  | zero =>
    exact fun a0 a1 a2 a3 a4 i0 i1 i2 i3 i4 i5 i6 hm => by exfalso; omega
  | succ nN ih =>
    intro k F1 A1 hI1 hf1 i0 i1 i2 i3 i4 i5 i6 hm
    have b1 := gs_row_sz hr hI1
    have b2 := gs_row_sz ho hI1
    have b3 := gs_plan_sz hp hI1
    have b4 : (-2147483648 : Int) ≤ F1 30 5 ∧ F1 30 5 ≤ 2147483647 := hI1.1 30 5
    have b5 : (1 : Int) ≤ F1 5 0 ∧ F1 5 0 ≤ 8 := hI1.1 5 0
    have b6 := gs_row_sz gs_row_33 hI1
    have b7 := gs_row_sz gs_row_35 hI1
    refine sA_iload dd_X5_forCarrying_41 (.head _) ?_
    refine sA_iload_n dd_X5_forCarrying_43 rfl (.tail _ (.tail _ (.head _))) ?_
    refine sA_icmp_gt (tgt := 89) dd_X5_forCarrying_44 (by decide) (by omega) (by omega) (fun q8 => ?_) (fun q8 => ?_)
    · skip
      refine sA_iconst (z := 0) dd_X5_forCarrying_89 ?_
      refine sA_bret (z := 0) dd_X5_forCarrying_90 rfl (by omega) ?_
      refine ⟨_, rfl, hI1, hf1, ?_⟩
      refine .inr ⟨rfl, ?_⟩
      rw [show n + 1 = k by omega]
      exact i1
    · skip
      refine sA_aload_n dd_X5_forCarrying_47 rfl (.tail _ (.head _)) ?_
      refine sA_iconst (z := (-1)) dd_X5_forCarrying_48 ?_
      refine sA_put (ci := 5) (j := 5) (q := (RX5, TX5, 6)) (ty := .int) dd_X5_forCarrying_49 rfl (by decide) fl_X5_53 rfl (tyX5_ok 5 (by decide)) rfl rfl (by decide) gs_s30 rfl ?_
      have I10 : gs_I (gs_up F1 30 5 (-1)) A1 := gs_I_put hI1 (show (-2147483648 : Int) ≤ -1 ∧ -1 ≤ 2147483647 by omega)
      have f11 := gs_fr_put hf1 (a := 30) (z := -1) (j := 5) (by first | omega | (dsimp only; omega) | (dsimp only) | fail)
      have v12 : gs_up F1 30 5 (-1) 30 5 = -1 := gs_up_self _ _ _ _
      have v13 : (gs_up F1 30 5 (-1)) 5 0 = F1 5 0 := gs_up_ne _ _ (by omega)
      have v14 : (gs_up F1 30 5 (-1)) 33 1 = F1 33 1 := gs_up_ne _ _ (by omega)
      have v15 : (gs_up F1 30 5 (-1)) 35 1 = F1 35 1 := gs_up_ne _ _ (by omega)
      have v16 : (gs_up F1 30 5 (-1)) p 1 = F1 p 1 := gs_up_ne _ _ (by omega)
      generalize gs_up F1 30 5 (-1) = F9 at I10 f11 v12 v13 v14 v15 v16 ⊢
      refine sA_aload_n dd_X5_forCarrying_52 rfl (.tail _ (.head _)) ?_
      refine sA_iconst (z := 0) dd_X5_forCarrying_53 ?_
      refine sA_iload dd_X5_forCarrying_54 (.head _) ?_
      refine sA_iconst (z := 0) dd_X5_forCarrying_56 ?_
      refine sA_iconst (z := 1) dd_X5_forCarrying_57 ?_
      have hgg : (1 : Int) ≤ g ∧ g ≤ 3 := hg
      have z36 : A1 36 = A1 36 := rfl
      have hW1 : gs_W (A1 6) g := by rw [i6]; exact hW
      have q35 : F9 35 1 = F1 35 1 := by omega
      have q33 : F9 33 1 = F1 33 1 := by omega
      have q50 : F9 5 0 = F1 5 0 := by omega
      have hV2 : sp_val g (gs_stk (A1 36) (F9 35 1).toNat) := by rw [q35, i2]; exact hVa
      have hrd2 : sp_red (gs_stk (A1 36) (F9 35 1).toNat) := by rw [q35, i2]; exact hRa
      have hah2 : ∀ v : Int, 0 ≤ v → v < 2 * F9 5 0 → A1 32 v.toNat = -1 ∨ cy_rep (sp_tw (sp_w g (sp_fl v)) (gs_stk (A1 34) (F9 33 1).toNat)) (A1 32 v.toNat) := fun v h1 h2 => by
        rw [q33]
        exact i5 v h1 (by omega)
      refine sA_callV (y2 := m_X5_tryTwists) (n2 := 4) (d2 := 6) (a := 30) (ci := 5) (q := (RX5, TX5, 6)) (as := [gs_iv 0, gs_iv k, gs_iv 0, gs_iv 1]) (rest := []) dd_X5_forCarrying_58 ok_X5_tryTwists ml_X5_56 rfl rfl (by decide) gs_s30 rfl rfl (Nat.le_of_ble_eq_true rfl) (by decide) (c_X5_tryTwists_v0f I10 (by omega) (by omega) (by omega) (by omega) hg (by omega) hW1 hV2 hrd2 hah2 (by omega)) (fun r17 F18 A19 h20 => ?_)
      obtain ⟨e22, I23, f24, x21⟩ := h20
      subst e22
      have v26 : F18 5 0 = F9 5 0 := f24.1 5 0 (by first | exact id | omega | (dsimp only; omega) | (dsimp only) | fail)
      have v27 : F18 33 1 = F9 33 1 := f24.1 33 1 (by first | exact id | omega | (dsimp only; omega) | (dsimp only) | fail)
      have v28 : F18 35 1 = F9 35 1 := f24.1 35 1 (by first | exact id | omega | (dsimp only; omega) | (dsimp only) | fail)
      have v29 : F18 p 1 = F9 p 1 := f24.1 p 1 (by first | exact id | omega | (dsimp only; omega) | (dsimp only) | fail)
      have f30 := gs_fr_tr f11 f24 (fun b j h => by first | exact False.elim h | omega | (dsimp only at h ⊢; omega) | fail) (fun b h => by first | exact False.elim h | omega | (dsimp only at h ⊢; omega) | fail)
      have y31 : tt_best (tt_S g (2 * (3 * g - 1)) (gs_stk (A1 36) (F9 35 1).toNat) (A1 34) (F9 33 1) (k - 0).toNat (0 : Int) (1 : Int) (2 * (3 * g - 1))) (F9 30 5) (F18 30 5) := x21
      clear x21
      show sA _ _ _ 61 _ [] _ _
      have y58 := y31
      rw [q35, i2, q33, show F9 30 5 = -1 by omega, show k - 0 = k by omega] at y58
      have hHe : (cy_hit g (2 * (3 * g - 1)) (gs_stk (A (a + 1)) (F a 1).toNat) (A1 34) (F1 33 1)) = (cy_hit g (2 * (3 * g - 1)) (gs_stk (A (a + 1)) (F a 1).toNat) (A (b + 1)) (F b 1)) := by
        funext kk xx
        rw [i3.1]
        exact propext ⟨cy_hit_cg i4, cy_hit_cg (fun j hj => (i4 j hj).symm)⟩
      have bfe : gs_bef (cy_hit g (2 * (3 * g - 1)) (gs_stk (A (a + 1)) (F a 1).toNat) (A1 34) (F1 33 1)) (2 * (3 * g - 1)) k 0 := by rw [hHe]; exact i1
      have hpk := sp_pw_bd (B := (2 * (3 * g - 1))) (by omega) k.toNat (by omega)
      have h36 : A19 36 = A1 36 := f24.2 36 (by dsimp only; omega)
      have h35 : F18 35 1 = F1 35 1 := (f24.1 35 1 (by dsimp only; omega)).trans q35
      have h33 : F18 33 1 = F1 33 1 := (f24.1 33 1 (by dsimp only; omega)).trans q33
      have h50 : F18 5 0 = F1 5 0 := (f24.1 5 0 (by dsimp only; omega)).trans q50
      have h34 : A19 34 = A1 34 := f24.2 34 (by dsimp only; omega)
      have h32 : A19 32 = A1 32 := f24.2 32 (by dsimp only; omega)
      have h6 : A19 6 = A1 6 := f24.2 6 (by dsimp only; omega)
      refine sA_aload_n dd_X5_forCarrying_61 rfl (.tail _ (.head _)) ?_
      refine sA_geti (ci := 5) (j := 5) (q := (RX5, TX5, 6)) dd_X5_forCarrying_62 rfl (by decide) fl_X5_53 (by decide) gs_s30 rfl ?_
      have b32 : (-2147483648 : Int) ≤ F18 30 5 ∧ F18 30 5 ≤ 2147483647 := I23.1 30 5
      refine sA_iconst (z := (-1)) dd_X5_forCarrying_65 ?_
      refine sA_icmp_eq (tgt := 83) dd_X5_forCarrying_66 (by decide) (by omega) (by omega) (fun q33 => ?_) (fun q33 => ?_)
      · skip
        have hbn : gs_bef (cy_hit g (2 * (3 * g - 1)) (gs_stk (A (a + 1)) (F a 1).toNat) (A (b + 1)) (F b 1)) (2 * (3 * g - 1)) (k + 1) 0 := by
          have e1 : F18 30 5 = -1 := by omega
          rw [e1] at y58
          have w := tt_none (by omega) y58 bfe
          rw [hHe] at w
          exact w
        refine sA_iinc (lv' := [(5, gs_iv (k + 1)), (0, .ref 30), (3, gs_iv n), (4, .ref p)]) dd_X5_forCarrying_83 (.head _) (by decide) rfl ?_
        refine sA_goto (tgt := 41) dd_X5_forCarrying_86 (by decide) ?_
        have b34 := gs_row_sz hr I23
        have b35 := gs_row_sz ho I23
        have b36 := gs_plan_sz hp I23
        have b37 : (1 : Int) ≤ F18 5 0 ∧ F18 5 0 ≤ 8 := I23.1 5 0
        have b38 := gs_row_sz gs_row_33 I23
        have b39 := gs_row_sz gs_row_35 I23
        refine sA_sub (lv2 := [(5, gs_iv (k + 1)), (0, .ref 30), (3, gs_iv n), (4, .ref p)]) (List.forall_mem_cons.mpr ⟨(.head _), (List.forall_mem_cons.mpr ⟨(.tail _ (.head _)), (List.forall_mem_cons.mpr ⟨(.tail _ (.tail _ (.head _))), (List.forall_mem_cons.mpr ⟨(.tail _ (.tail _ (.tail _ (.head _)))), (fun _ h => absurd h List.not_mem_nil)⟩)⟩)⟩)⟩) ?_
        exact ih (k + 1) F18 A19 I23 f30 (by omega) hbn (by rw [h36, h35]; exact i2) ⟨h33.trans i3.1, h50.trans i3.2⟩ (fun j hj => by rw [h34]; exact i4 j hj) (fun v h1 h2 => by rw [h32, h34, h33]; exact i5 v h1 h2) (h6.trans i6) (by omega)
      · skip
        have hsr := tt_found (n := n) (by omega) (by omega) (show F18 30 5 ≠ -1 by omega) y58 bfe
        rw [hHe] at hsr
        have hs3 := hsr.2.2.1
        have hs4 := hsr.2.2.2.1
        refine sA_aload_n dd_X5_forCarrying_69 rfl (.tail _ (.head _)) ?_
        refine sA_aload_n dd_X5_forCarrying_70 rfl (.tail _ (.head _)) ?_
        refine sA_geti (ci := 5) (j := 5) (q := (RX5, TX5, 6)) dd_X5_forCarrying_71 rfl (by decide) fl_X5_53 (by decide) gs_s30 rfl ?_
        refine sA_iload dd_X5_forCarrying_74 (.head _) ?_
        refine sA_aload dd_X5_forCarrying_76 (.tail _ (.tail _ (.tail _ (.head _)))) ?_
        refine sA_callV (y2 := m_X5_spell) (n2 := 3) (d2 := 1) (a := 30) (ci := 5) (q := (RX5, TX5, 6)) (as := [gs_iv (F18 30 5), gs_iv k, .ref p]) (rest := []) dd_X5_forCarrying_78 ok_X5_spell ml_X5_60 rfl rfl (by decide) gs_s30 rfl rfl (Nat.le_of_ble_eq_true rfl) (by decide) (c_X5_spell_vf I23 (by omega) (by omega) hp (by omega) (by omega)) (fun r40 F41 A42 h43 => ?_)
        obtain ⟨e45, I46, f47, x44⟩ := h43
        subst e45
        have v48 : F41 30 5 = F18 30 5 := f47.1 30 5 (by first | exact id | omega | (dsimp only; omega) | (dsimp only) | fail)
        have v49 : F41 5 0 = F18 5 0 := f47.1 5 0 (by first | exact id | omega | (dsimp only; omega) | (dsimp only) | fail)
        have v50 : F41 33 1 = F18 33 1 := f47.1 33 1 (by first | exact id | omega | (dsimp only; omega) | (dsimp only) | fail)
        have v51 : F41 35 1 = F18 35 1 := f47.1 35 1 (by first | exact id | omega | (dsimp only; omega) | (dsimp only) | fail)
        have f53 := gs_fr_tr f30 f47 (fun b j h => by first | exact False.elim h | omega | (dsimp only at h ⊢; omega) | fail) (fun b h => by first | exact False.elim h | omega | (dsimp only at h ⊢; omega) | fail)
        have y54 : F41 p 1 = k ∧ ∀ j : Int, 0 ≤ j → j < k → A42 (p + 1) j.toNat = sp_nm (2 * F18 5 0) k.toNat (F18 30 5) j.toNat := x44
        clear x44
        show sA _ _ _ 81 _ [] _ _
        refine sA_iconst (z := 1) dd_X5_forCarrying_81 ?_
        refine sA_bret (z := 1) dd_X5_forCarrying_82 rfl (by omega) ?_
        refine ⟨_, rfl, I46, f53, ?_⟩
        refine .inl ⟨rfl, k, F18 30 5, hsr, ?_, fun j h1 h2 => ?_⟩
        · exact y54.1
        · rw [y54.2 j h1 h2, show F18 5 0 = 3 * g - 1 by omega]
theorem c_X5_forCarrying_vf {a L b M p : Nat} {n : Int} {g : Int} {F A : gs_F} (hI : gs_I F A) (hr : gs_row a L) (ho : gs_row b M) (hn : 0 ≤ n ∧ n ≤ 3) (hp : gs_plan p) (hg : 1 ≤ g ∧ g ≤ 3) (h5 : F 5 0 = 3 * g - 1) (hW : gs_W (A 6) g) (hVa : sp_val g (gs_stk (A (a + 1)) (F a 1).toNat)) (hRa : sp_red (gs_stk (A (a + 1)) (F a 1).toNat)) (hVb : sp_val g (gs_stk (A (b + 1)) (F b 1).toNat)) (hLM : (L : Int) ≤ 60 ∧ (M : Int) ≤ 60) (hab : 54 ≤ a ∧ 54 ≤ b) (hp50 : p = 50) : sC m_X5_forCarrying 7 [.ref 30, .ref a, .ref b, gs_iv n, .ref p] F A (fun rv F' A' => ∃ z : Int, rv = some (gs_iv z) ∧ gs_I F' A' ∧ gs_fr (fun c j => (c = 33 ∧ j = 1) ∨ (c = 30 ∧ j = 5) ∨ (35 ≤ c ∧ c < 43 ∧ j = 1) ∨ (c = p ∧ j = 1)) (fun c => c = 34 ∨ c = 7 ∨ c = 32 ∨ (35 ≤ c ∧ c < 43) ∨ c = p + 1) F A F' A' ∧ ((z = 1 ∧ ∃ kk rk : Int, gs_srch (cy_hit g (2 * (3 * g - 1)) (gs_stk (A (a + 1)) (F a 1).toNat) (A (b + 1)) (F b 1)) (2 * (3 * g - 1)) n kk rk ∧ F' p 1 = kk ∧ ∀ j : Int, 0 ≤ j → j < kk → A' (p + 1) j.toNat = sp_nm (2 * (3 * g - 1)) kk.toNat rk j.toNat) ∨ (z = 0 ∧ gs_bef (cy_hit g (2 * (3 * g - 1)) (gs_stk (A (a + 1)) (F a 1).toNat) (A (b + 1)) (F b 1)) (2 * (3 * g - 1)) (n + 1) 0))) := by
  refine sC_of ok_X5_forCarrying.1 (Nat.le_of_ble_eq_true rfl) ?_
  show sA _ _ _ 0 [(0, .ref 30), (1, .ref a), (2, .ref b), (3, gs_iv n), (4, .ref p)] [] F A
  have hf : gs_fr (fun c j => (c = 33 ∧ j = 1) ∨ (c = 30 ∧ j = 5) ∨ (35 ≤ c ∧ c < 43 ∧ j = 1) ∨ (c = p ∧ j = 1)) (fun c => c = 34 ∨ c = 7 ∨ c = 32 ∨ (35 ≤ c ∧ c < 43) ∨ c = p + 1) F A F A := gs_fr_refl _ _ _ _
  have b55 := gs_row_sz hr hI
  have b56 := gs_row_sz ho hI
  have b57 := gs_plan_sz hp hI
  have b58 : (-2147483648 : Int) ≤ F 30 5 ∧ F 30 5 ≤ 2147483647 := hI.1 30 5
  have b59 : (1 : Int) ≤ F 5 0 ∧ F 5 0 ≤ 8 := hI.1 5 0
  have b60 := gs_row_sz gs_row_33 hI
  have b61 := gs_row_sz gs_row_35 hI
  have hgg : (1 : Int) ≤ g ∧ g ≤ 3 := hg
  refine sA_aload_n dd_X5_forCarrying_0 rfl (.head _) ?_
  refine sA_getr (ci := 5) (j := 4) (q := (RX5, TX5, 6)) dd_X5_forCarrying_1 rfl (by decide) fl_X5_24 (by decide) gs_s30 rfl ?_
  refine sA_aload_n dd_X5_forCarrying_4 rfl (.tail _ (.tail _ (.head _))) ?_
  refine sA_callV (y2 := m_X4_copy) (n2 := 1) (d2 := 1) (a := 33) (ci := 4) (q := (RX4, TX4, 2)) (as := [.ref b]) (rest := []) dd_X5_forCarrying_5 ok_X4_copy ml_X5_36 rfl rfl (Nat.lt_of_succ_lt gs_row_33.1) gs_row_33.2.1 rfl rfl (Nat.le_of_ble_eq_true rfl) (by decide) (c_X4_copy_vf hI gs_row_33 ho) (fun r62 F63 A64 h65 => ?_)
  obtain ⟨e67, I68, f69, x66⟩ := h65
  subst e67
  have v70 : F63 30 5 = F 30 5 := f69.1 30 5 (by first | exact id | omega | (dsimp only; omega) | (dsimp only) | fail)
  have v71 : F63 5 0 = F 5 0 := f69.1 5 0 (by first | exact id | omega | (dsimp only; omega) | (dsimp only) | fail)
  have v73 : F63 35 1 = F 35 1 := f69.1 35 1 (by first | exact id | omega | (dsimp only; omega) | (dsimp only) | fail)
  have v74 : F63 p 1 = F p 1 := f69.1 p 1 (by first | exact id | omega | (dsimp only; omega) | (dsimp only) | fail)
  have f75 := gs_fr_tr hf f69 (fun b j h => by first | exact False.elim h | omega | (dsimp only at h ⊢; omega) | fail) (fun b h => by first | exact False.elim h | omega | (dsimp only at h ⊢; omega) | fail)
  have y76 : F b 1 ≤ (60 : Int) → (F63 33 1 = F b 1 ∧ A64 34 = gs_cc (A (b + 1)) (A 34) 0 0 (F b 1).toNat) := x66
  clear x66
  show sA _ _ _ 8 _ [] _ _
  have hbrb := gs_row_sz ho hI
  obtain ⟨c1, c2⟩ := y76 (by omega)
  have e34 : ∀ j : Nat, (j : Int) < F b 1 → A64 34 j = A (b + 1) j := fun j hj => by
    rw [c2]
    unfold gs_cc
    rw [if_pos (by omega)]
    congr 1
    omega
  have hgs : gs_stk (A64 34) (F63 33 1).toNat = gs_stk (A (b + 1)) (F b 1).toNat := by
    rw [c1]
    exact gs_stk_cg _ (fun i hi => e34 i (by omega))
  have hW1 : gs_W (A64 6) g := by rw [f75.2 6 (by dsimp only; omega)]; exact hW
  have hVg : sp_val g (gs_stk (A64 34) (F63 33 1).toNat) := by rw [hgs]; exact hVb
  refine sA_aload_n dd_X5_forCarrying_8 rfl (.head _) ?_
  refine sA_callV (y2 := m_X5_measureAhead) (n2 := 0) (d2 := 3) (a := 30) (ci := 5) (q := (RX5, TX5, 6)) (as := []) (rest := []) dd_X5_forCarrying_9 ok_X5_measureAhead ml_X5_40 rfl rfl (by decide) gs_s30 rfl rfl (Nat.le_of_ble_eq_true rfl) (by decide) (c_X5_measureAhead_vf I68 hg (by omega) hW1 (by omega)) (fun r77 F78 A79 h80 => ?_)
  obtain ⟨e82, I83, f84, x81⟩ := h80
  subst e82
  have v85 : F78 30 5 = F63 30 5 := f84.1 30 5 (by first | exact id | omega | (dsimp only; omega) | (dsimp only) | fail)
  have v86 : F78 5 0 = F63 5 0 := f84.1 5 0 (by first | exact id | omega | (dsimp only; omega) | (dsimp only) | fail)
  have v87 : F78 33 1 = F63 33 1 := f84.1 33 1 (by first | exact id | omega | (dsimp only; omega) | (dsimp only) | fail)
  have v89 : F78 p 1 = F63 p 1 := f84.1 p 1 (by first | exact id | omega | (dsimp only; omega) | (dsimp only) | fail)
  have f90 := gs_fr_tr f75 f84 (fun b j h => by first | exact False.elim h | omega | (dsimp only at h ⊢; omega) | fail) (fun b h => by first | exact False.elim h | omega | (dsimp only at h ⊢; omega) | fail)
  have y91 : ∀ u : Int, 0 ≤ u → u < 2 * F63 5 0 → A79 32 u.toNat = -1 ∨ cy_rep (sp_tw (sp_w g (sp_fl u)) (gs_stk (A64 34) (F63 33 1).toNat)) (A79 32 u.toNat) := x81
  clear x81
  show sA _ _ _ 12 _ [] _ _
  refine sA_aload_n dd_X5_forCarrying_12 rfl (.head _) ?_
  refine sA_getr (ci := 5) (j := 2) (q := (RX5, TX5, 6)) dd_X5_forCarrying_13 rfl (by decide) fl_X5_11 (by decide) gs_s30 rfl ?_
  have r35a : F78 a 1 = F a 1 := f90.1 a 1 (by dsimp only; omega)
  have r35b : A79 (a + 1) = A (a + 1) := f90.2 (a + 1) (by dsimp only; omega)
  have hbra := gs_row_sz hr hI
  refine sA_iconst (z := 0) dd_X5_forCarrying_16 ?_
  refine sA_aald (n := 4) dd_X5_forCarrying_17 (by decide) (by decide) (by decide) gs_s31 (by omega) (by decide) ?_
  show sA _ _ _ _ _ (.ref 35 :: _) _ _
  refine sA_aload_n dd_X5_forCarrying_18 rfl (.tail _ (.head _)) ?_
  refine sA_callV (y2 := m_X4_copy) (n2 := 1) (d2 := 1) (a := 35) (ci := 4) (q := (RX4, TX4, 2)) (as := [.ref a]) (rest := []) dd_X5_forCarrying_19 ok_X4_copy ml_X5_36 rfl rfl (Nat.lt_of_succ_lt gs_row_35.1) gs_row_35.2.1 rfl rfl (Nat.le_of_ble_eq_true rfl) (by decide) (c_X4_copy_vf I83 gs_row_35 hr) (fun r93 F94 A95 h96 => ?_)
  obtain ⟨e98, I99, f100, x97⟩ := h96
  subst e98
  have v101 : F94 30 5 = F78 30 5 := f100.1 30 5 (by first | exact id | omega | (dsimp only; omega) | (dsimp only) | fail)
  have v102 : F94 5 0 = F78 5 0 := f100.1 5 0 (by first | exact id | omega | (dsimp only; omega) | (dsimp only) | fail)
  have v103 : F94 33 1 = F78 33 1 := f100.1 33 1 (by first | exact id | omega | (dsimp only; omega) | (dsimp only) | fail)
  have v105 : F94 p 1 = F78 p 1 := f100.1 p 1 (by first | exact id | omega | (dsimp only; omega) | (dsimp only) | fail)
  have f106 := gs_fr_tr f90 f100 (fun b j h => by first | exact False.elim h | omega | (dsimp only at h ⊢; omega) | fail) (fun b h => by first | exact False.elim h | omega | (dsimp only at h ⊢; omega) | fail)
  have y107 : F78 a 1 ≤ (400 : Int) → (F94 35 1 = F78 a 1 ∧ A95 36 = gs_cc (A79 (a + 1)) (A79 36) 0 0 (F78 a 1).toNat) := x97
  clear x97
  show sA _ _ _ 22 _ [] _ _
  have g33 : F94 33 1 = F b 1 := ((f100.1 33 1 (by dsimp only; omega)).trans (f84.1 33 1 (by dsimp only; omega))).trans c1
  have t34 : A95 34 = A64 34 := (f100.2 34 (by dsimp only; omega)).trans (f84.2 34 (by dsimp only; omega))
  have t33 : F94 33 1 = F63 33 1 := (f100.1 33 1 (by dsimp only; omega)).trans (f84.1 33 1 (by dsimp only; omega))
  have g34 : ∀ j : Nat, (j : Int) < F b 1 → A95 34 j = A (b + 1) j := fun j hj => by rw [t34]; exact e34 j hj
  have g50 : F94 5 0 = F 5 0 := f106.1 5 0 (by dsimp only; omega)
  have g6 : A95 6 = A 6 := f106.2 6 (by dsimp only; omega)
  have gah : ∀ v : Int, 0 ≤ v → v < 2 * F 5 0 → A95 32 v.toNat = -1 ∨ cy_rep (sp_tw (sp_w g (sp_fl v)) (gs_stk (A95 34) (F94 33 1).toNat)) (A95 32 v.toNat) := fun v h1 h2 => by
    rw [t34, t33, f100.2 32 (by dsimp only; omega)]
    exact y91 v h1 (by omega)
  obtain ⟨d1, d2⟩ := y107 (by omega)
  have hst0 : gs_stk (A95 36) (F94 35 1).toNat = (gs_stk (A (a + 1)) (F a 1).toNat) := by
    rw [d1, d2, r35a, r35b]
    refine gs_stk_cg _ (fun i hi => ?_)
    unfold gs_cc
    rw [if_pos (by omega)]
    congr 1
    omega
  have ea1 : F94 a 1 = F a 1 := f106.1 a 1 (by dsimp only; omega)
  have ea2 : A95 (a + 1) = A (a + 1) := f106.2 (a + 1) (by dsimp only; omega)
  have eb1 : F94 b 1 = F b 1 := f106.1 b 1 (by dsimp only; omega)
  have eb2 : A95 (b + 1) = A (b + 1) := f106.2 (b + 1) (by dsimp only; omega)
  refine sA_aload_n dd_X5_forCarrying_22 rfl (.tail _ (.head _)) ?_
  refine sA_aload_n dd_X5_forCarrying_23 rfl (.tail _ (.tail _ (.head _))) ?_
  refine sA_callV (y2 := m_X4_isOneWith) (n2 := 1) (d2 := 2) (a := a) (ci := 4) (q := (RX4, TX4, 2)) (as := [.ref b]) (rest := []) dd_X5_forCarrying_24 ok_X4_isOneWith ml_X5_43 rfl rfl (Nat.lt_of_succ_lt hr.1) hr.2.1 rfl rfl (Nat.le_of_ble_eq_true rfl) (by decide) (c_X4_isOneWith_vf I99 hr ho) (fun r108 F109 A110 h111 => ?_)
  obtain ⟨z114, e113, e115, e116, x112⟩ := h111
  subst e113 e115 e116
  have y117 : (z114 = 1 ∧ gs_on (A95 (a + 1)) (F94 a 1) (A95 (b + 1)) (F94 b 1)) ∨ (z114 = 0 ∧ ¬ gs_on (A95 (a + 1)) (F94 a 1) (A95 (b + 1)) (F94 b 1)) := x112
  clear x112
  show sA _ _ _ 27 _ [gs_iv z114] _ _
  have hon : st_on (gs_stk (A (a + 1)) (F a 1).toNat) (A (b + 1)) (F b 1) ↔ gs_on (A95 (a + 1)) (F94 a 1) (A95 (b + 1)) (F94 b 1) := by
    rw [ea1, ea2, eb1, eb2]
    exact st_on_mk (by omega)
  refine sA_if_eq (tgt := 38) dd_X5_forCarrying_27 (by decide) (by omega) (fun q118 => ?_) (fun q118 => ?_)
  · skip
    refine sA_iconst (z := 1) dd_X5_forCarrying_38 ?_
    refine sA_istore (lv' := [(5, gs_iv 1), (0, .ref 30), (1, .ref a), (2, .ref b), (3, gs_iv n), (4, .ref p)]) dd_X5_forCarrying_39 (by decide) rfl ?_
    have b119 := gs_row_sz hr I99
    have b120 := gs_row_sz ho I99
    have b121 := gs_plan_sz hp I99
    have b122 : (-2147483648 : Int) ≤ F94 30 5 ∧ F94 30 5 ≤ 2147483647 := I99.1 30 5
    have b123 : (1 : Int) ≤ F94 5 0 ∧ F94 5 0 ≤ 8 := I99.1 5 0
    have b124 := gs_row_sz gs_row_33 I99
    have b125 := gs_row_sz gs_row_35 I99
    refine sA_sub (lv2 := [(5, gs_iv 1), (0, .ref 30), (3, gs_iv n), (4, .ref p)]) (List.forall_mem_cons.mpr ⟨(.head _), (List.forall_mem_cons.mpr ⟨(.tail _ (.head _)), (List.forall_mem_cons.mpr ⟨(.tail _ (.tail _ (.tail _ (.tail _ (.head _))))), (List.forall_mem_cons.mpr ⟨(.tail _ (.tail _ (.tail _ (.tail _ (.tail _ (.head _)))))), (fun _ h => absurd h List.not_mem_nil)⟩)⟩)⟩)⟩) ?_
    exact (k_X5_forCarrying_vf hI hr ho hn hp hg h5 hW hVa hRa hVb hLM hab hp50 (4 - 1 : Int).toNat.succ) 1 F94 A95 I99 f106 (by omega) (cy_bef1 (fun w => by rcases y117 with y | y <;> first | (exfalso; omega) | exact y.2 (hon.mp w) | fail)) hst0 ⟨g33, g50⟩ g34 gah g6 (by omega)
  · skip
    refine sA_aload dd_X5_forCarrying_30 (.tail _ (.tail _ (.tail _ (.tail _ (.head _))))) ?_
    refine sA_iconst (z := 0) dd_X5_forCarrying_32 ?_
    refine sA_put (ci := 2) (j := 1) (q := (RX2, TX2, 2)) (ty := .int) dd_X5_forCarrying_33 rfl (by decide) fl_X5_47 rfl (tyX2_ok 1 (by decide)) rfl rfl (Nat.lt_of_succ_lt hp.1) hp.2.1 rfl ?_
    have I127 : gs_I (gs_up F94 p 1 0) A95 := gs_plan_put hp I99 (by omega)
    have f128 := gs_fr_put f106 (a := p) (z := 0) (j := 1) (by first | omega | (dsimp only; omega) | (dsimp only) | fail)
    have v129 : gs_up F94 p 1 0 p 1 = 0 := gs_up_self _ _ _ _
    have v130 : (gs_up F94 p 1 0) 30 5 = F94 30 5 := gs_up_ne _ _ (by omega)
    have v131 : (gs_up F94 p 1 0) 5 0 = F94 5 0 := gs_up_ne _ _ (by omega)
    have v132 : (gs_up F94 p 1 0) 33 1 = F94 33 1 := gs_up_ne _ _ (by omega)
    have v133 : (gs_up F94 p 1 0) 35 1 = F94 35 1 := gs_up_ne _ _ (by omega)
    generalize gs_up F94 p 1 0 = F126 at I127 f128 v129 v130 v131 v132 v133 ⊢
    refine sA_iconst (z := 1) dd_X5_forCarrying_36 ?_
    refine sA_bret (z := 1) dd_X5_forCarrying_37 rfl (by omega) ?_
    refine ⟨_, rfl, I127, f128, ?_⟩
    refine .inl ⟨rfl, 0, 0, cy_at0 (by omega) (hon.mpr ?_), by omega, fun j h1 h2 => by exfalso; omega⟩
    rcases y117 with y | y
    · exact y.2
    · exfalso
      omega
theorem c_X8_carry_vf {r s n i : Int} {F A : gs_F} (hI : gs_I F A) (hr : -2147483648 ≤ r ∧ r ≤ 2147483647) (hs : -2147483648 ≤ s ∧ s ≤ 2147483647) (hn : -2147483648 ≤ n ∧ n ≤ 2147483647) (hi : -2147483648 ≤ i ∧ i ≤ 2147483647) (hW : gs_W (A 6) (F 0 11)) (h5 : F 5 0 = 3 * F 0 11 - 1) (hVs : ∀ r : Nat, (r : Int) < F 0 12 → sp_val (F 0 11) (gs_stk (A (54 + 3 * r + 1 + 1)) (F (54 + 3 * r + 1) 1).toNat)) (hRs : ∀ r : Nat, (r : Int) < F 0 12 → sp_red (gs_stk (A (54 + 3 * r + 1 + 1)) (F (54 + 3 * r + 1) 1).toNat)) : sC m_X8_carry 8 [.ref 0, gs_iv r, gs_iv s, gs_iv n, gs_iv i] F A (fun rv F' A' => ∃ z : Int, rv = some (gs_iv z) ∧ gs_I F' A' ∧ gs_fr (fun c j => (c = 33 ∧ j = 1) ∨ (c = 30 ∧ j = 5) ∨ (35 ≤ c ∧ c < 43 ∧ j = 1) ∨ (c = 50 ∧ j = 1)) (fun c => c = 34 ∨ c = 7 ∨ c = 32 ∨ (35 ≤ c ∧ c < 43) ∨ c = 51) F A F' A' ∧ (((r < 0 ∨ F 0 12 ≤ r ∨ s < 0 ∨ F 0 12 ≤ s) ∧ z = -1001) ∨ (0 ≤ r ∧ r < F 0 12 ∧ 0 ≤ s ∧ s < F 0 12 ∧ (n < 0 ∨ 3 < n ∨ i < -1 ∨ 2 < i) ∧ z = -1002) ∨ (0 ≤ r ∧ r < F 0 12 ∧ 0 ≤ s ∧ s < F 0 12 ∧ 0 ≤ n ∧ n ≤ 3 ∧ -1 ≤ i ∧ i ≤ 2 ∧ gs_sv (cy_hit (F 0 11) (2 * (3 * F 0 11 - 1)) (gs_stk (A (54 + 3 * r.toNat + 1 + 1)) (F (54 + 3 * r.toNat + 1) 1).toNat) (A (54 + 3 * s.toNat + 1 + 1)) (F (54 + 3 * s.toNat + 1) 1)) (2 * (3 * F 0 11 - 1)) n i z))) := by
  refine sC_of ok_X8_carry.1 (Nat.le_of_ble_eq_true rfl) ?_
  show sA _ _ _ 0 [(0, .ref 0), (1, gs_iv r), (2, gs_iv s), (3, gs_iv n), (4, gs_iv i)] [] F A
  have hf : gs_fr (fun c j => (c = 33 ∧ j = 1) ∨ (c = 30 ∧ j = 5) ∨ (35 ≤ c ∧ c < 43 ∧ j = 1) ∨ (c = 50 ∧ j = 1)) (fun c => c = 34 ∨ c = 7 ∨ c = 32 ∨ (35 ≤ c ∧ c < 43) ∨ c = 51) F A F A := gs_fr_refl _ _ _ _
  have b1 : (0 : Int) ≤ F 0 12 ∧ F 0 12 ≤ 12 := hI.1 0 12
  have hg : (1 : Int) ≤ F 0 11 ∧ F 0 11 ≤ 3 := hI.1 0 11
  refine sA_aload_n dd_X8_carry_0 rfl (.head _) ?_
  refine sA_iload_n dd_X8_carry_1 rfl (.tail _ (.head _)) ?_
  refine sA_callV (y2 := m_X8_isRing) (n2 := 1) (d2 := 1) (a := 0) (ci := 8) (q := (RX8, TX8, 13)) (as := [gs_iv r]) (rest := []) dd_X8_carry_2 ok_X8_isRing ml_X8_101 rfl rfl (by decide) gs_s0 rfl rfl (Nat.le_of_ble_eq_true rfl) (by decide) (c_X8_isRing hI (by omega)) (fun r2 F3 A4 h5 => ?_)
  obtain ⟨z8, e7, e9, e10, x6⟩ := h5
  subst e7 e9 e10
  show sA _ _ _ 5 _ [gs_iv z8] _ _
  refine sA_if_eq (tgt := 16) dd_X8_carry_5 (by decide) (by omega) (fun q11 => ?_) (fun q11 => ?_)
  · skip
    refine sA_sipush (z := (-1001)) dd_X8_carry_16 (by decide) ?_
    refine sA_iret (z := -1001) dd_X8_carry_19 rfl ?_
    refine ⟨_, rfl, hI, hf, ?_⟩
    exact .inl ⟨by omega, rfl⟩
  · skip
    refine sA_aload_n dd_X8_carry_8 rfl (.head _) ?_
    refine sA_iload_n dd_X8_carry_9 rfl (.tail _ (.tail _ (.head _))) ?_
    refine sA_callV (y2 := m_X8_isRing) (n2 := 1) (d2 := 1) (a := 0) (ci := 8) (q := (RX8, TX8, 13)) (as := [gs_iv s]) (rest := []) dd_X8_carry_10 ok_X8_isRing ml_X8_101 rfl rfl (by decide) gs_s0 rfl rfl (Nat.le_of_ble_eq_true rfl) (by decide) (c_X8_isRing hI (by omega)) (fun r12 F13 A14 h15 => ?_)
    obtain ⟨z18, e17, e19, e20, x16⟩ := h15
    subst e17 e19 e20
    show sA _ _ _ 13 _ [gs_iv z18] _ _
    refine sA_if_ne (tgt := 20) dd_X8_carry_13 (by decide) (by omega) (fun q21 => ?_) (fun q21 => ?_)
    · skip
      refine sA_iload_n dd_X8_carry_20 rfl (.tail _ (.tail _ (.tail _ (.head _)))) ?_
      refine sA_iload dd_X8_carry_21 (.tail _ (.tail _ (.tail _ (.tail _ (.head _))))) ?_
      refine sA_callS (y2 := m_X8_isSearch) (n2 := 2) (d2 := 1) (as := [gs_iv n, gs_iv i]) (rest := []) dd_X8_carry_23 ok_X8_isSearch ml_X8_228 rfl rfl (Nat.le_of_ble_eq_true rfl) (by decide) (c_X8_isSearch (by omega) (by omega)) (fun r22 F23 A24 h25 => ?_)
      obtain ⟨z28, e27, e29, e30, x26⟩ := h25
      subst e27 e29 e30
      show sA _ _ _ 26 _ [gs_iv z28] _ _
      refine sA_if_ne (tgt := 33) dd_X8_carry_26 (by decide) (by omega) (fun q31 => ?_) (fun q31 => ?_)
      · skip
        have hW1 := hW
        have hVa1 := hVs r.toNat (by omega)
        have hRa1 := hRs r.toNat (by omega)
        have hVb1 := hVs s.toNat (by omega)
        refine sA_aload_n dd_X8_carry_33 rfl (.head _) ?_
        refine sA_getr (ci := 8) (j := 6) (q := (RX8, TX8, 13)) dd_X8_carry_34 rfl (by decide) fl_X8_58 (by decide) gs_s0 rfl ?_
        refine sA_aload_n dd_X8_carry_37 rfl (.head _) ?_
        refine sA_getr (ci := 8) (j := 0) (q := (RX8, TX8, 13)) dd_X8_carry_38 rfl (by decide) fl_X8_11 (by decide) gs_s0 rfl ?_
        refine sA_iload_n dd_X8_carry_41 rfl (.tail _ (.head _)) ?_
        refine sA_aald (n := 12) dd_X8_carry_42 (by decide) (by decide) (by decide) gs_s1 (by omega) (by decide) ?_
        have g32 := gs_ring_at (k := r.toNat) (by omega)
        refine sA_getr (ci := 3) (j := 0) (q := (RX3, TX3, 3)) dd_X8_carry_43 rfl (by decide) fl_X8_105 (Nat.lt_of_succ_lt g32.1) g32.2.1 rfl ?_
        refine sA_aload_n dd_X8_carry_46 rfl (.head _) ?_
        refine sA_getr (ci := 8) (j := 0) (q := (RX8, TX8, 13)) dd_X8_carry_47 rfl (by decide) fl_X8_11 (by decide) gs_s0 rfl ?_
        refine sA_iload_n dd_X8_carry_50 rfl (.tail _ (.tail _ (.head _))) ?_
        refine sA_aald (n := 12) dd_X8_carry_51 (by decide) (by decide) (by decide) gs_s1 (by omega) (by decide) ?_
        have g33 := gs_ring_at (k := s.toNat) (by omega)
        refine sA_getr (ci := 3) (j := 0) (q := (RX3, TX3, 3)) dd_X8_carry_52 rfl (by decide) fl_X8_105 (Nat.lt_of_succ_lt g33.1) g33.2.1 rfl ?_
        refine sA_iload_n dd_X8_carry_55 rfl (.tail _ (.tail _ (.tail _ (.head _)))) ?_
        refine sA_aload_n dd_X8_carry_56 rfl (.head _) ?_
        refine sA_getr (ci := 8) (j := 9) (q := (RX8, TX8, 13)) dd_X8_carry_57 rfl (by decide) fl_X8_73 (by decide) gs_s0 rfl ?_
        refine sA_callV (y2 := m_X5_forCarrying) (n2 := 4) (d2 := 7) (a := 30) (ci := 5) (q := (RX5, TX5, 6)) (as := [.ref (54 + 3 * r.toNat + 1), .ref (54 + 3 * s.toNat + 1), gs_iv n, .ref 50]) (rest := []) dd_X8_carry_60 ok_X5_forCarrying ml_X8_231 rfl rfl (by decide) gs_s30 rfl rfl (Nat.le_of_ble_eq_true rfl) (by decide) (c_X5_forCarrying_vf hI g32.2.2.1 g33.2.2.1 (by omega) gs_plan_50 hg (by omega) hW1 hVa1 hRa1 hVb1 (by omega) (by omega) (by omega)) (fun r34 F35 A36 h37 => ?_)
        obtain ⟨z40, e39, I41, f42, x38⟩ := h37
        subst e39
        have v43 : F35 0 12 = F 0 12 := f42.1 0 12 (by first | exact id | omega | (dsimp only; omega) | (dsimp only) | fail)
        have f44 := gs_fr_tr hf f42 (fun b j h => by first | exact False.elim h | omega | (dsimp only at h ⊢; omega) | fail) (fun b h => by first | exact False.elim h | omega | (dsimp only at h ⊢; omega) | fail)
        have y45 : (z40 = 1 ∧ ∃ kk rk : Int, gs_srch (cy_hit (F 0 11) (2 * (3 * (F 0 11) - 1)) (gs_stk (A ((54 + 3 * r.toNat + 1) + 1)) (F (54 + 3 * r.toNat + 1) 1).toNat) (A ((54 + 3 * s.toNat + 1) + 1)) (F (54 + 3 * s.toNat + 1) 1)) (2 * (3 * (F 0 11) - 1)) n kk rk ∧ F35 50 1 = kk ∧ ∀ j : Int, 0 ≤ j → j < kk → A36 51 j.toNat = sp_nm (2 * (3 * (F 0 11) - 1)) kk.toNat rk j.toNat) ∨ (z40 = 0 ∧ gs_bef (cy_hit (F 0 11) (2 * (3 * (F 0 11) - 1)) (gs_stk (A ((54 + 3 * r.toNat + 1) + 1)) (F (54 + 3 * r.toNat + 1) 1).toNat) (A ((54 + 3 * s.toNat + 1) + 1)) (F (54 + 3 * s.toNat + 1) 1)) (2 * (3 * (F 0 11) - 1)) (n + 1) 0) := x38
        clear x38
        show sA _ _ _ 63 _ [gs_iv z40] _ _
        refine sA_if_eq (tgt := 78) dd_X8_carry_63 (by decide) (by omega) (fun q46 => ?_) (fun q46 => ?_)
        · skip
          refine sA_iconst (z := (-1)) dd_X8_carry_78 ?_
          refine sA_iret (z := -1) dd_X8_carry_79 rfl ?_
          refine ⟨_, rfl, I41, f44, ?_⟩
          have yy := y45
          clear y45
          rcases yy with y | y
          · exfalso
            omega
          · exact .inr (.inr ⟨by omega, by omega, by omega, by omega, by omega, by omega, by omega, by omega, .inr ⟨y.2, rfl⟩⟩)
        · skip
          refine sA_aload_n dd_X8_carry_66 rfl (.head _) ?_
          refine sA_getr (ci := 8) (j := 9) (q := (RX8, TX8, 13)) dd_X8_carry_67 rfl (by decide) fl_X8_73 (by decide) gs_s0 rfl ?_
          refine sA_iload dd_X8_carry_70 (.tail _ (.tail _ (.tail _ (.tail _ (.head _))))) ?_
          refine sA_callV (y2 := m_X2_codeOrSize) (n2 := 1) (d2 := 1) (a := 50) (ci := 2) (q := (RX2, TX2, 2)) (as := [gs_iv i]) (rest := []) dd_X8_carry_72 ok_X2_codeOrSize ml_X8_166 rfl rfl (Nat.lt_of_succ_lt gs_plan_50.1) gs_plan_50.2.1 rfl rfl (Nat.le_of_ble_eq_true rfl) (by decide) (c_X2_codeOrSize_vf I41 gs_plan_50 (by omega)) (fun r47 F48 A49 h50 => ?_)
          obtain ⟨z53, e52, e54, e55, x51⟩ := h50
          subst e52 e54 e55
          have y56 : (i = -1 ∧ z53 = F35 50 1) ∨ (i ≠ -1 ∧ 0 ≤ i ∧ i < F35 50 1 ∧ z53 = A36 51 i.toNat) ∨ (i ≠ -1 ∧ (i < 0 ∨ F35 50 1 ≤ i) ∧ z53 = -1) := x51
          clear x51
          show sA _ _ _ 75 _ [gs_iv z53] _ _
          refine sA_goto (tgt := 79) dd_X8_carry_75 (by decide) ?_
          refine sA_iret (z := z53) dd_X8_carry_79 rfl ?_
          refine ⟨_, rfl, I41, f44, ?_⟩
          have yy := y45
          clear y45
          rcases yy with y | y
          · obtain ⟨y1, k, x, y2, y3, y4⟩ := y
            have y20 := y2.1
            refine .inr (.inr ⟨by omega, by omega, by omega, by omega, by omega, by omega, by omega, by omega, .inl ⟨k, x, y2, ?_⟩⟩)
            rcases y56 with c | c | c
            · exact .inl ⟨c.1, by omega⟩
            · refine .inr (.inl ⟨c.2.1, by omega, ?_⟩)
              have c4 := y4 i c.2.1 (by omega)
              exact c.2.2.2.trans c4
            · exact .inr (.inr ⟨by omega, by omega, c.2.2⟩)
          · exfalso
            omega
      · skip
        refine sA_sipush (z := (-1002)) dd_X8_carry_29 (by decide) ?_
        refine sA_iret (z := -1002) dd_X8_carry_32 rfl ?_
        refine ⟨_, rfl, hI, hf, ?_⟩
        exact .inr (.inl ⟨by omega, by omega, by omega, by omega, by omega, rfl⟩)
    · skip
      refine sA_sipush (z := (-1001)) dd_X8_carry_16 (by decide) ?_
      refine sA_iret (z := -1001) dd_X8_carry_19 rfl ?_
      refine ⟨_, rfl, hI, hf, ?_⟩
      exact .inl ⟨by omega, rfl⟩
end
