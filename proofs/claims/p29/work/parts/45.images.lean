noncomputable section
theorem dd_X0_begin_0 : decode cX0_begin 0 = .ok (.aload_n 0, 1) := by decide +kernel
theorem dd_X0_begin_1 : decode cX0_begin 1 = .ok (.iconst 2, 1) := by decide +kernel
theorem dd_X0_begin_2 : decode cX0_begin 2 = .ok (.iload_n 1, 1) := by decide +kernel
theorem dd_X0_begin_3 : decode cX0_begin 3 = .ok (.imul, 1) := by decide +kernel
theorem dd_X0_begin_4 : decode cX0_begin 4 = .ok (.putfield 28, 3) := by decide +kernel
theorem dd_X0_begin_7 : decode cX0_begin 7 = .ok (.iconst 1, 1) := by decide +kernel
theorem dd_X0_begin_8 : decode cX0_begin 8 = .ok (.istore_n 2, 1) := by decide +kernel
theorem dd_X0_begin_9 : decode cX0_begin 9 = .ok (.iload_n 2, 1) := by decide +kernel
theorem dd_X0_begin_10 : decode cX0_begin 10 = .ok (.aload_n 0, 1) := by decide +kernel
theorem dd_X0_begin_11 : decode cX0_begin 11 = .ok (.getfield 28, 3) := by decide +kernel
theorem dd_X0_begin_14 : decode cX0_begin 14 = .ok (.if_icmp .gt 21, 3) := by decide +kernel
theorem dd_X0_begin_17 : decode cX0_begin 17 = .ok (.aload_n 0, 1) := by decide +kernel
theorem dd_X0_begin_18 : decode cX0_begin 18 = .ok (.getfield 11, 3) := by decide +kernel
theorem dd_X0_begin_21 : decode cX0_begin 21 = .ok (.iload_n 2, 1) := by decide +kernel
theorem dd_X0_begin_22 : decode cX0_begin 22 = .ok (.iconst 1, 1) := by decide +kernel
theorem dd_X0_begin_23 : decode cX0_begin 23 = .ok (.isub, 1) := by decide +kernel
theorem dd_X0_begin_24 : decode cX0_begin 24 = .ok (.aaload, 1) := by decide +kernel
theorem dd_X0_begin_25 : decode cX0_begin 25 = .ok (.iload_n 2, 1) := by decide +kernel
theorem dd_X0_begin_26 : decode cX0_begin 26 = .ok (.invokevirtual 32, 3) := by decide +kernel
theorem dd_X0_begin_29 : decode cX0_begin 29 = .ok (.iinc 2 1, 3) := by decide +kernel
theorem dd_X0_begin_32 : decode cX0_begin 32 = .ok (.goto (-23), 3) := by decide +kernel
theorem dd_X0_begin_35 : decode cX0_begin 35 = .ok (.return_, 1) := by decide +kernel
theorem gs_s15 : gs_sh 15 = .inl (0, [some 16, none, some 17, some 5]) := rfl
theorem gs_s16 : gs_sh 16 = .inr (.inr (2, 6, 18, 2)) := rfl
theorem fl_X0_11 : Cond.fieldLink RX0 11 (TX0 0).1 (TX0 0).2.1 (TX0 0).2.2.1 ∈ am_tbl := ri_lw_in (pl := 178) (by decide +kernel)
theorem fl_X0_28 : Cond.fieldLink RX0 28 (TX0 1).1 (TX0 1).2.1 (TX0 1).2.2.1 ∈ am_tbl := ri_lw_in (pl := 181) (by decide +kernel)
theorem ml_X0_32 : Cond.methodLink RX0 32 m_X4_becomeLetter.1 ∈ am_tbl := ri_lw_in (pl := 630) (by decide +kernel)
theorem ok_X0_begin : am_okM m_X0_begin 1 ∧ Cond.instanceMethod m_X0_begin.1 ∈ am_tbl ∧ Cond.selects m_X0_begin.1.cls m_X0_begin.1 m_X0_begin.1 ∈ am_tbl := ri_mk1 629 87 627 628 (by decide +kernel)
theorem k_X0_begin {g : Int} {F A : gs_F} (hI : gs_I F A) (hg : 1 ≤ g ∧ g ≤ 3) : ∀ nN : Nat, (∀ (x : Int)  (F1 A1 : gs_F), gs_I F1 A1 → gs_fr (fun c j => (c = 15 ∧ j = 1) ∨ (18 ≤ c ∧ c < 30 ∧ j = 1)) (fun c => 18 ≤ c ∧ c < 30) F A F1 A1 → 1 ≤ x ∧ x ≤ F1 15 1 + 1 → F1 15 1 = 2 * g → F1 15 1 + 1 - x < (nN : Int) → sA m_X0_begin 2 (fun rv F' A' => rv = none ∧ gs_I F' A' ∧ gs_fr (fun c j => (c = 15 ∧ j = 1) ∨ (18 ≤ c ∧ c < 30 ∧ j = 1)) (fun c => 18 ≤ c ∧ c < 30) F A F' A' ∧ (F' 15 1 = 2 * g)) 9 [(2, gs_iv x), (0, .ref 15)] [] F1 A1) := by
  intro nN
  induction nN with
  | zero =>
    exact fun a0 a1 a2 a3 a4 i0 i1 hm => by exfalso; omega
  | succ nN ih =>
    intro x F1 A1 hI1 hf1 i0 i1 hm
    have b1 : (0 : Int) ≤ F1 15 1 ∧ F1 15 1 ≤ 6 := hI1.1 15 1
    refine sA_iload_n dd_X0_begin_9 rfl (.head _) ?_
    refine sA_aload_n dd_X0_begin_10 rfl (.tail _ (.head _)) ?_
    refine sA_geti (ci := 0) (j := 1) (q := (RX0, TX0, 4)) dd_X0_begin_11 rfl (by decide) fl_X0_28 (by decide) gs_s15 rfl ?_
    refine sA_icmp_gt (tgt := 35) dd_X0_begin_14 (by decide) (by omega) (by omega) (fun q2 => ?_) (fun q2 => ?_)
    · skip
      refine sA_vret dd_X0_begin_35 rfl ?_
      exact ⟨rfl, hI1, hf1, by omega⟩
    · skip
      refine sA_aload_n dd_X0_begin_17 rfl (.tail _ (.head _)) ?_
      refine sA_getr (ci := 0) (j := 0) (q := (RX0, TX0, 4)) dd_X0_begin_18 rfl (by decide) fl_X0_11 (by decide) gs_s15 rfl ?_
      refine sA_iload_n dd_X0_begin_21 rfl (.head _) ?_
      refine sA_iconst (z := 1) dd_X0_begin_22 ?_
      refine sA_isub dd_X0_begin_23 ?_
      refine sA_aald (n := 6) dd_X0_begin_24 (by decide) (by decide) (by decide) gs_s16 (by omega) (by decide) ?_
      have g3 := gs_row_im (k := (x - 1).toNat) (by omega)
      refine sA_iload_n dd_X0_begin_25 rfl (.head _) ?_
      refine sA_callV (y2 := m_X4_becomeLetter) (n2 := 1) (d2 := 1) (a := (18 + 2 * (x - 1).toNat)) (ci := 4) (q := (RX4, TX4, 2)) (as := [gs_iv x]) (rest := []) dd_X0_begin_26 ok_X4_becomeLetter ml_X0_32 rfl rfl (Nat.lt_of_succ_lt g3.1) g3.2.1 rfl rfl (Nat.le_of_ble_eq_true rfl) (by decide) (c_X4_becomeLetter hI1 g3 (by omega)) (fun r4 F5 A6 h7 => ?_)
      obtain ⟨e9, I10, f11, x8⟩ := h7
      subst e9
      have v12 : F5 15 1 = F1 15 1 := f11.1 15 1 (by first | exact id | omega | (dsimp only; omega) | (dsimp only))
      have f13 := gs_fr_tr hf1 f11 (fun b j h => by first | exact False.elim h | omega | (dsimp only at h ⊢; omega)) (fun b h => by first | exact False.elim h | omega | (dsimp only at h ⊢; omega))
      show sA _ _ _ 29 _ [] _ _
      refine sA_iinc (lv' := [(2, gs_iv (x + 1)), (0, .ref 15)]) dd_X0_begin_29 (.head _) (by decide) rfl ?_
      refine sA_goto (tgt := 9) dd_X0_begin_32 (by decide) ?_
      have b14 : (0 : Int) ≤ F5 15 1 ∧ F5 15 1 ≤ 6 := I10.1 15 1
      refine sA_sub (lv2 := [(2, gs_iv (x + 1)), (0, .ref 15)]) (List.forall_mem_cons.mpr ⟨(.head _), (List.forall_mem_cons.mpr ⟨(.tail _ (.head _)), (fun _ h => absurd h List.not_mem_nil)⟩)⟩) ?_
      exact ih (x + 1) F5 A6 I10 f13 (by omega) (by omega) (by omega)
theorem c_X0_begin {g : Int} {F A : gs_F} (hI : gs_I F A) (hg : 1 ≤ g ∧ g ≤ 3) : sC m_X0_begin 2 [.ref 15, gs_iv g] F A (fun rv F' A' => rv = none ∧ gs_I F' A' ∧ gs_fr (fun c j => (c = 15 ∧ j = 1) ∨ (18 ≤ c ∧ c < 30 ∧ j = 1)) (fun c => 18 ≤ c ∧ c < 30) F A F' A' ∧ (F' 15 1 = 2 * g)) := by
  refine sC_of ok_X0_begin.1 (Nat.le_of_ble_eq_true rfl) ?_
  show sA _ _ _ 0 [(0, .ref 15), (1, gs_iv g)] [] F A
  have hf : gs_fr (fun c j => (c = 15 ∧ j = 1) ∨ (18 ≤ c ∧ c < 30 ∧ j = 1)) (fun c => 18 ≤ c ∧ c < 30) F A F A := gs_fr_refl _ _ _ _
  have b15 : (0 : Int) ≤ F 15 1 ∧ F 15 1 ≤ 6 := hI.1 15 1
  refine sA_aload_n dd_X0_begin_0 rfl (.head _) ?_
  refine sA_iconst (z := 2) dd_X0_begin_1 ?_
  refine sA_iload_n dd_X0_begin_2 rfl (.tail _ (.head _)) ?_
  refine sA_imul dd_X0_begin_3 ?_
  refine sA_put (ci := 0) (j := 1) (q := (RX0, TX0, 4)) (ty := .int) dd_X0_begin_4 rfl (by decide) fl_X0_28 rfl (tyX0_ok 1 (by decide)) rfl rfl (by decide) gs_s15 rfl ?_
  have I17 : gs_I (gs_up F 15 1 (2 * g)) A := gs_I_put hI (show (0 : Int) ≤ 2 * g ∧ 2 * g ≤ 6 by omega)
  have f18 := gs_fr_put hf (a := 15) (z := 2 * g) (j := 1) (by first | omega | (dsimp only; omega) | (dsimp only))
  have v19 : gs_up F 15 1 (2 * g) 15 1 = 2 * g := gs_up_self _ _ _ _
  generalize gs_up F 15 1 (2 * g) = F16 at I17 f18 v19 ⊢
  refine sA_iconst (z := 1) dd_X0_begin_7 ?_
  refine sA_istore_n (lv' := [(2, gs_iv 1), (0, .ref 15), (1, gs_iv g)]) dd_X0_begin_8 rfl (by decide) rfl ?_
  have b20 : (0 : Int) ≤ F16 15 1 ∧ F16 15 1 ≤ 6 := I17.1 15 1
  refine sA_sub (lv2 := [(2, gs_iv 1), (0, .ref 15)]) (List.forall_mem_cons.mpr ⟨(.head _), (List.forall_mem_cons.mpr ⟨(.tail _ (.head _)), (fun _ h => absurd h List.not_mem_nil)⟩)⟩) ?_
  exact (k_X0_begin hI hg (F16 15 1 + 1 - 1 : Int).toNat.succ) 1 F16 A I17 f18 (by omega) (by omega) (by omega)
theorem dd_X0_doPlan_0 : decode cX0_doPlan 0 = .ok (.iconst 0, 1) := by decide +kernel
theorem dd_X0_doPlan_1 : decode cX0_doPlan 1 = .ok (.istore_n 2, 1) := by decide +kernel
theorem dd_X0_doPlan_2 : decode cX0_doPlan 2 = .ok (.iload_n 2, 1) := by decide +kernel
theorem dd_X0_doPlan_3 : decode cX0_doPlan 3 = .ok (.aload_n 0, 1) := by decide +kernel
theorem dd_X0_doPlan_4 : decode cX0_doPlan 4 = .ok (.getfield 28, 3) := by decide +kernel
theorem dd_X0_doPlan_7 : decode cX0_doPlan 7 = .ok (.if_icmp .ge 28, 3) := by decide +kernel
theorem dd_X0_doPlan_10 : decode cX0_doPlan 10 = .ok (.aload_n 0, 1) := by decide +kernel
theorem dd_X0_doPlan_11 : decode cX0_doPlan 11 = .ok (.getfield 21, 3) := by decide +kernel
theorem dd_X0_doPlan_14 : decode cX0_doPlan 14 = .ok (.aload_n 1, 1) := by decide +kernel
theorem dd_X0_doPlan_15 : decode cX0_doPlan 15 = .ok (.aload_n 0, 1) := by decide +kernel
theorem dd_X0_doPlan_16 : decode cX0_doPlan 16 = .ok (.getfield 11, 3) := by decide +kernel
theorem dd_X0_doPlan_19 : decode cX0_doPlan 19 = .ok (.iload_n 2, 1) := by decide +kernel
theorem dd_X0_doPlan_20 : decode cX0_doPlan 20 = .ok (.aaload, 1) := by decide +kernel
theorem dd_X0_doPlan_21 : decode cX0_doPlan 21 = .ok (.invokevirtual 35, 3) := by decide +kernel
theorem dd_X0_doPlan_24 : decode cX0_doPlan 24 = .ok (.ifCond .ne 5, 3) := by decide +kernel
theorem dd_X0_doPlan_27 : decode cX0_doPlan 27 = .ok (.iconst 0, 1) := by decide +kernel
theorem dd_X0_doPlan_28 : decode cX0_doPlan 28 = .ok (.ireturn, 1) := by decide +kernel
theorem dd_X0_doPlan_29 : decode cX0_doPlan 29 = .ok (.iinc 2 1, 3) := by decide +kernel
theorem dd_X0_doPlan_32 : decode cX0_doPlan 32 = .ok (.goto (-30), 3) := by decide +kernel
theorem dd_X0_doPlan_35 : decode cX0_doPlan 35 = .ok (.iconst 1, 1) := by decide +kernel
theorem dd_X0_doPlan_36 : decode cX0_doPlan 36 = .ok (.ireturn, 1) := by decide +kernel
theorem fl_X0_21 : Cond.fieldLink RX0 21 (TX0 3).1 (TX0 3).2.1 (TX0 3).2.2.1 ∈ am_tbl := ri_lw_in (pl := 184) (by decide +kernel)
theorem ml_X0_35 : Cond.methodLink RX0 35 m_X7_doPlan.1 ∈ am_tbl := ri_lw_in (pl := 635) (by decide +kernel)
theorem ok_X0_doPlan : am_okM m_X0_doPlan 1 ∧ Cond.instanceMethod m_X0_doPlan.1 ∈ am_tbl ∧ Cond.selects m_X0_doPlan.1.cls m_X0_doPlan.1 m_X0_doPlan.1 ∈ am_tbl := ri_mk1 634 87 632 633 (by decide +kernel)
theorem k_X0_doPlan {b : Nat} {F A : gs_F} (hI : gs_I F A) (ho : gs_plan b) : ∀ nN : Nat, (∀ (k : Int)  (F1 A1 : gs_F), gs_I F1 A1 → gs_fr (fun c j => 18 ≤ c ∧ c < 30 ∧ j = 1) (fun c => c = 7 ∨ (18 ≤ c ∧ c < 30)) F A F1 A1 → 0 ≤ k ∧ k ≤ F1 15 1 → F1 15 1 - k < (nN : Int) → sA m_X0_doPlan 4 (fun rv F' A' => ∃ z : Int, rv = some (gs_iv z) ∧ gs_I F' A' ∧ gs_fr (fun c j => 18 ≤ c ∧ c < 30 ∧ j = 1) (fun c => c = 7 ∨ (18 ≤ c ∧ c < 30)) F A F' A' ∧ (z = 0 ∨ z = 1)) 2 [(2, gs_iv k), (0, .ref 15), (1, .ref b)] [] F1 A1) := by
  intro nN
  induction nN with
  | zero =>
    exact fun a0 a1 a2 a3 a4 i0 hm => by exfalso; omega
  | succ nN ih =>
    intro k F1 A1 hI1 hf1 i0 hm
    have b1 := gs_plan_sz ho hI1
    have b2 : (0 : Int) ≤ F1 15 1 ∧ F1 15 1 ≤ 6 := hI1.1 15 1
    refine sA_iload_n dd_X0_doPlan_2 rfl (.head _) ?_
    refine sA_aload_n dd_X0_doPlan_3 rfl (.tail _ (.head _)) ?_
    refine sA_geti (ci := 0) (j := 1) (q := (RX0, TX0, 4)) dd_X0_doPlan_4 rfl (by decide) fl_X0_28 (by decide) gs_s15 rfl ?_
    refine sA_icmp_ge (tgt := 35) dd_X0_doPlan_7 (by decide) (by omega) (by omega) (fun q3 => ?_) (fun q3 => ?_)
    · skip
      refine sA_iconst (z := 1) dd_X0_doPlan_35 ?_
      refine sA_bret (z := 1) dd_X0_doPlan_36 rfl (by omega) ?_
      exact ⟨_, rfl, hI1, hf1, by omega⟩
    · skip
      refine sA_aload_n dd_X0_doPlan_10 rfl (.tail _ (.head _)) ?_
      refine sA_getr (ci := 0) (j := 3) (q := (RX0, TX0, 4)) dd_X0_doPlan_11 rfl (by decide) fl_X0_21 (by decide) gs_s15 rfl ?_
      refine sA_aload_n dd_X0_doPlan_14 rfl (.tail _ (.tail _ (.head _))) ?_
      refine sA_aload_n dd_X0_doPlan_15 rfl (.tail _ (.head _)) ?_
      refine sA_getr (ci := 0) (j := 0) (q := (RX0, TX0, 4)) dd_X0_doPlan_16 rfl (by decide) fl_X0_11 (by decide) gs_s15 rfl ?_
      refine sA_iload_n dd_X0_doPlan_19 rfl (.head _) ?_
      refine sA_aald (n := 6) dd_X0_doPlan_20 (by decide) (by decide) (by decide) gs_s16 (by omega) (by decide) ?_
      have g4 := gs_row_im (k := k.toNat) (by omega)
      refine sA_callV (y2 := m_X7_doPlan) (n2 := 2) (d2 := 3) (a := 5) (ci := 7) (q := (RX7, TX7, 5)) (as := [.ref b, .ref (18 + 2 * k.toNat)]) (rest := []) dd_X0_doPlan_21 ok_X7_doPlan ml_X0_35 rfl rfl (by decide) gs_s5 rfl rfl (Nat.le_of_ble_eq_true rfl) (by decide) (c_X7_doPlan hI1 ho g4) (fun r5 F6 A7 h8 => ?_)
      obtain ⟨z11, e10, I12, f13, x9⟩ := h8
      subst e10
      have v14 : F6 15 1 = F1 15 1 := f13.1 15 1 (by first | exact id | omega | (dsimp only; omega) | (dsimp only))
      have f15 := gs_fr_tr hf1 f13 (fun b j h => by first | exact False.elim h | omega | (dsimp only at h ⊢; omega)) (fun b h => by first | exact False.elim h | omega | (dsimp only at h ⊢; omega))
      show sA _ _ _ 24 _ [gs_iv z11] _ _
      refine sA_if_ne (tgt := 29) dd_X0_doPlan_24 (by decide) (by omega) (fun q16 => ?_) (fun q16 => ?_)
      · skip
        refine sA_iinc (lv' := [(2, gs_iv (k + 1)), (0, .ref 15), (1, .ref b)]) dd_X0_doPlan_29 (.head _) (by decide) rfl ?_
        refine sA_goto (tgt := 2) dd_X0_doPlan_32 (by decide) ?_
        have b17 := gs_plan_sz ho I12
        have b18 : (0 : Int) ≤ F6 15 1 ∧ F6 15 1 ≤ 6 := I12.1 15 1
        refine sA_sub (lv2 := [(2, gs_iv (k + 1)), (0, .ref 15), (1, .ref b)]) (List.forall_mem_cons.mpr ⟨(.head _), (List.forall_mem_cons.mpr ⟨(.tail _ (.head _)), (List.forall_mem_cons.mpr ⟨(.tail _ (.tail _ (.head _))), (fun _ h => absurd h List.not_mem_nil)⟩)⟩)⟩) ?_
        exact ih (k + 1) F6 A7 I12 f15 (by omega) (by omega)
      · skip
        refine sA_iconst (z := 0) dd_X0_doPlan_27 ?_
        refine sA_bret (z := 0) dd_X0_doPlan_28 rfl (by omega) ?_
        exact ⟨_, rfl, I12, f15, by omega⟩
theorem c_X0_doPlan {b : Nat} {F A : gs_F} (hI : gs_I F A) (ho : gs_plan b) : sC m_X0_doPlan 4 [.ref 15, .ref b] F A (fun rv F' A' => ∃ z : Int, rv = some (gs_iv z) ∧ gs_I F' A' ∧ gs_fr (fun c j => 18 ≤ c ∧ c < 30 ∧ j = 1) (fun c => c = 7 ∨ (18 ≤ c ∧ c < 30)) F A F' A' ∧ (z = 0 ∨ z = 1)) := by
  refine sC_of ok_X0_doPlan.1 (Nat.le_of_ble_eq_true rfl) ?_
  show sA _ _ _ 0 [(0, .ref 15), (1, .ref b)] [] F A
  have hf : gs_fr (fun c j => 18 ≤ c ∧ c < 30 ∧ j = 1) (fun c => c = 7 ∨ (18 ≤ c ∧ c < 30)) F A F A := gs_fr_refl _ _ _ _
  have b19 := gs_plan_sz ho hI
  have b20 : (0 : Int) ≤ F 15 1 ∧ F 15 1 ≤ 6 := hI.1 15 1
  refine sA_iconst (z := 0) dd_X0_doPlan_0 ?_
  refine sA_istore_n (lv' := [(2, gs_iv 0), (0, .ref 15), (1, .ref b)]) dd_X0_doPlan_1 rfl (by decide) rfl ?_
  refine sA_sub (lv2 := [(2, gs_iv 0), (0, .ref 15), (1, .ref b)]) (List.forall_mem_cons.mpr ⟨(.head _), (List.forall_mem_cons.mpr ⟨(.tail _ (.head _)), (List.forall_mem_cons.mpr ⟨(.tail _ (.tail _ (.head _))), (fun _ h => absurd h List.not_mem_nil)⟩)⟩)⟩) ?_
  exact (k_X0_doPlan hI ho (F 15 1 - 0 : Int).toNat.succ) 0 F A hI hf (by omega) (by omega)
theorem dd_X0_lettersTogether_0 : decode cX0_lettersTogether 0 = .ok (.iconst 0, 1) := by decide +kernel
theorem dd_X0_lettersTogether_1 : decode cX0_lettersTogether 1 = .ok (.istore_n 1, 1) := by decide +kernel
theorem dd_X0_lettersTogether_2 : decode cX0_lettersTogether 2 = .ok (.iconst 0, 1) := by decide +kernel
theorem dd_X0_lettersTogether_3 : decode cX0_lettersTogether 3 = .ok (.istore_n 2, 1) := by decide +kernel
theorem dd_X0_lettersTogether_4 : decode cX0_lettersTogether 4 = .ok (.iload_n 2, 1) := by decide +kernel
theorem dd_X0_lettersTogether_5 : decode cX0_lettersTogether 5 = .ok (.aload_n 0, 1) := by decide +kernel
theorem dd_X0_lettersTogether_6 : decode cX0_lettersTogether 6 = .ok (.getfield 28, 3) := by decide +kernel
theorem dd_X0_lettersTogether_9 : decode cX0_lettersTogether 9 = .ok (.if_icmp .ge 21, 3) := by decide +kernel
theorem dd_X0_lettersTogether_12 : decode cX0_lettersTogether 12 = .ok (.iload_n 1, 1) := by decide +kernel
theorem dd_X0_lettersTogether_13 : decode cX0_lettersTogether 13 = .ok (.aload_n 0, 1) := by decide +kernel
theorem dd_X0_lettersTogether_14 : decode cX0_lettersTogether 14 = .ok (.getfield 11, 3) := by decide +kernel
theorem dd_X0_lettersTogether_17 : decode cX0_lettersTogether 17 = .ok (.iload_n 2, 1) := by decide +kernel
theorem dd_X0_lettersTogether_18 : decode cX0_lettersTogether 18 = .ok (.aaload, 1) := by decide +kernel
theorem dd_X0_lettersTogether_19 : decode cX0_lettersTogether 19 = .ok (.getfield 41, 3) := by decide +kernel
theorem dd_X0_lettersTogether_22 : decode cX0_lettersTogether 22 = .ok (.iadd, 1) := by decide +kernel
theorem dd_X0_lettersTogether_23 : decode cX0_lettersTogether 23 = .ok (.istore_n 1, 1) := by decide +kernel
theorem dd_X0_lettersTogether_24 : decode cX0_lettersTogether 24 = .ok (.iinc 2 1, 3) := by decide +kernel
theorem dd_X0_lettersTogether_27 : decode cX0_lettersTogether 27 = .ok (.goto (-23), 3) := by decide +kernel
theorem dd_X0_lettersTogether_30 : decode cX0_lettersTogether 30 = .ok (.iload_n 1, 1) := by decide +kernel
theorem dd_X0_lettersTogether_31 : decode cX0_lettersTogether 31 = .ok (.ireturn, 1) := by decide +kernel
theorem fl_X0_41 : Cond.fieldLink RX0 41 (TX4 1).1 (TX4 1).2.1 (TX4 1).2.2.1 ∈ am_tbl := ri_lw_in (pl := 124) (by decide +kernel)
theorem ok_X0_lettersTogether : am_okM m_X0_lettersTogether 0 ∧ Cond.instanceMethod m_X0_lettersTogether.1 ∈ am_tbl ∧ Cond.selects m_X0_lettersTogether.1.cls m_X0_lettersTogether.1 m_X0_lettersTogether.1 ∈ am_tbl := ri_mk1 704 87 702 703 (by decide +kernel)
theorem k_X0_lettersTogether  {F A : gs_F} (hI : gs_I F A)  : ∀ nN : Nat, (∀ (s : Int) (k : Int),  0 ≤ k ∧ k ≤ F 15 1 → 0 ≤ s ∧ s ≤ 400 * k → F 15 1 - k < (nN : Int) → sA m_X0_lettersTogether 1 (fun rv F' A' => ∃ z : Int, rv = some (gs_iv z) ∧ F = F' ∧ A = A' ∧ (0 ≤ z ∧ z ≤ 2400)) 4 [(2, gs_iv k), (1, gs_iv s), (0, .ref 15)] [] F A) := by
  intro nN
  induction nN with
  | zero =>
    exact fun a0 a1 i0 i1 hm => by exfalso; omega
  | succ nN ih =>
    intro s k i0 i1 hm
    refine sA_iload_n dd_X0_lettersTogether_4 rfl (.head _) ?_
    refine sA_aload_n dd_X0_lettersTogether_5 rfl (.tail _ (.tail _ (.head _))) ?_
    refine sA_geti (ci := 0) (j := 1) (q := (RX0, TX0, 4)) dd_X0_lettersTogether_6 rfl (by decide) fl_X0_28 (by decide) gs_s15 rfl ?_
    have b1 : (0 : Int) ≤ F 15 1 ∧ F 15 1 ≤ 6 := hI.1 15 1
    refine sA_icmp_ge (tgt := 30) dd_X0_lettersTogether_9 (by decide) (by omega) (by omega) (fun q2 => ?_) (fun q2 => ?_)
    · skip
      refine sA_iload_n dd_X0_lettersTogether_30 rfl (.tail _ (.head _)) ?_
      refine sA_iret (z := s) dd_X0_lettersTogether_31 rfl ?_
      exact ⟨_, rfl, rfl, rfl, by omega⟩
    · skip
      refine sA_iload_n dd_X0_lettersTogether_12 rfl (.tail _ (.head _)) ?_
      refine sA_aload_n dd_X0_lettersTogether_13 rfl (.tail _ (.tail _ (.head _))) ?_
      refine sA_getr (ci := 0) (j := 0) (q := (RX0, TX0, 4)) dd_X0_lettersTogether_14 rfl (by decide) fl_X0_11 (by decide) gs_s15 rfl ?_
      refine sA_iload_n dd_X0_lettersTogether_17 rfl (.head _) ?_
      refine sA_aald (n := 6) dd_X0_lettersTogether_18 (by decide) (by decide) (by decide) gs_s16 (by omega) (by decide) ?_
      have g3 := gs_row_im (k := k.toNat) (by omega)
      refine sA_geti (ci := 4) (j := 1) (q := (RX4, TX4, 2)) dd_X0_lettersTogether_19 rfl (by decide) fl_X0_41 (Nat.lt_of_succ_lt g3.1) g3.2.1 rfl ?_
      have b4 := gs_row_sz g3 hI
      refine sA_iadd dd_X0_lettersTogether_22 ?_
      refine sA_istore_n (lv' := [(1, gs_iv (s + (F (18 + 2 * k.toNat) 1))), (2, gs_iv k), (0, .ref 15)]) dd_X0_lettersTogether_23 rfl (by decide) rfl ?_
      refine sA_iinc (lv' := [(2, gs_iv (k + 1)), (1, gs_iv (s + (F (18 + 2 * k.toNat) 1))), (0, .ref 15)]) dd_X0_lettersTogether_24 (.tail _ (.head _)) (by decide) rfl ?_
      refine sA_goto (tgt := 4) dd_X0_lettersTogether_27 (by decide) ?_
      refine sA_sub (lv2 := [(2, gs_iv (k + 1)), (1, gs_iv (s + (F (18 + 2 * k.toNat) 1))), (0, .ref 15)]) (List.forall_mem_cons.mpr ⟨(.head _), (List.forall_mem_cons.mpr ⟨(.tail _ (.head _)), (List.forall_mem_cons.mpr ⟨(.tail _ (.tail _ (.head _))), (fun _ h => absurd h List.not_mem_nil)⟩)⟩)⟩) ?_
      exact ih (s + (F (18 + 2 * k.toNat) 1)) (k + 1)  (by omega) (by omega) (by omega)
theorem c_X0_lettersTogether  {F A : gs_F} (hI : gs_I F A)  : sC m_X0_lettersTogether 1 [.ref 15] F A (fun rv F' A' => ∃ z : Int, rv = some (gs_iv z) ∧ F = F' ∧ A = A' ∧ (0 ≤ z ∧ z ≤ 2400)) := by
  refine sC_of ok_X0_lettersTogether.1 (Nat.le_of_ble_eq_true rfl) ?_
  show sA _ _ _ 0 [(0, .ref 15)] [] F A
  have hb15 : (0 : Int) ≤ F 15 1 ∧ F 15 1 ≤ 6 := hI.1 15 1
  refine sA_iconst (z := 0) dd_X0_lettersTogether_0 ?_
  refine sA_istore_n (lv' := [(1, gs_iv 0), (0, .ref 15)]) dd_X0_lettersTogether_1 rfl (by decide) rfl ?_
  refine sA_iconst (z := 0) dd_X0_lettersTogether_2 ?_
  refine sA_istore_n (lv' := [(2, gs_iv 0), (1, gs_iv 0), (0, .ref 15)]) dd_X0_lettersTogether_3 rfl (by decide) rfl ?_
  refine sA_sub (lv2 := [(2, gs_iv 0), (1, gs_iv 0), (0, .ref 15)]) (List.forall_mem_cons.mpr ⟨(.head _), (List.forall_mem_cons.mpr ⟨(.tail _ (.head _)), (List.forall_mem_cons.mpr ⟨(.tail _ (.tail _ (.head _))), (fun _ h => absurd h List.not_mem_nil)⟩)⟩)⟩) ?_
  exact (k_X0_lettersTogether hI (F 15 1 - 0 : Int).toNat.succ) 0 0  (by omega) (by omega) (by omega)
theorem dd_X0_rimLetter_0 : decode cX0_rimLetter 0 = .ok (.iload_n 0, 1) := by decide +kernel
theorem dd_X0_rimLetter_1 : decode cX0_rimLetter 1 = .ok (.iconst 4, 1) := by decide +kernel
theorem dd_X0_rimLetter_2 : decode cX0_rimLetter 2 = .ok (.idiv, 1) := by decide +kernel
theorem dd_X0_rimLetter_3 : decode cX0_rimLetter 3 = .ok (.iconst 2, 1) := by decide +kernel
theorem dd_X0_rimLetter_4 : decode cX0_rimLetter 4 = .ok (.imul, 1) := by decide +kernel
theorem dd_X0_rimLetter_5 : decode cX0_rimLetter 5 = .ok (.iconst 1, 1) := by decide +kernel
theorem dd_X0_rimLetter_6 : decode cX0_rimLetter 6 = .ok (.iadd, 1) := by decide +kernel
theorem dd_X0_rimLetter_7 : decode cX0_rimLetter 7 = .ok (.iload_n 0, 1) := by decide +kernel
theorem dd_X0_rimLetter_8 : decode cX0_rimLetter 8 = .ok (.iconst 2, 1) := by decide +kernel
theorem dd_X0_rimLetter_9 : decode cX0_rimLetter 9 = .ok (.irem, 1) := by decide +kernel
theorem dd_X0_rimLetter_10 : decode cX0_rimLetter 10 = .ok (.iadd, 1) := by decide +kernel
theorem dd_X0_rimLetter_11 : decode cX0_rimLetter 11 = .ok (.istore_n 1, 1) := by decide +kernel
theorem dd_X0_rimLetter_12 : decode cX0_rimLetter 12 = .ok (.iload_n 0, 1) := by decide +kernel
theorem dd_X0_rimLetter_13 : decode cX0_rimLetter 13 = .ok (.iconst 4, 1) := by decide +kernel
theorem dd_X0_rimLetter_14 : decode cX0_rimLetter 14 = .ok (.irem, 1) := by decide +kernel
theorem dd_X0_rimLetter_15 : decode cX0_rimLetter 15 = .ok (.iconst 2, 1) := by decide +kernel
theorem dd_X0_rimLetter_16 : decode cX0_rimLetter 16 = .ok (.if_icmp .ge 7, 3) := by decide +kernel
theorem dd_X0_rimLetter_19 : decode cX0_rimLetter 19 = .ok (.iload_n 1, 1) := by decide +kernel
theorem dd_X0_rimLetter_20 : decode cX0_rimLetter 20 = .ok (.goto 5, 3) := by decide +kernel
theorem dd_X0_rimLetter_23 : decode cX0_rimLetter 23 = .ok (.iload_n 1, 1) := by decide +kernel
theorem dd_X0_rimLetter_24 : decode cX0_rimLetter 24 = .ok (.ineg, 1) := by decide +kernel
theorem dd_X0_rimLetter_25 : decode cX0_rimLetter 25 = .ok (.ireturn, 1) := by decide +kernel
theorem ok_X0_rimLetter : am_okM m_X0_rimLetter 1 ∧ Cond.static m_X0_rimLetter.1 ∈ am_tbl := ri_mk0 661 87 660 0 (by decide +kernel)
theorem c_X0_rimLetter {k : Int} {F A : gs_F} (hk : 0 ≤ k ∧ k ≤ 11) : sC m_X0_rimLetter 1 [gs_iv k] F A (fun rv F' A' => ∃ z : Int, rv = some (gs_iv z) ∧ F = F' ∧ A = A' ∧ (-6 ≤ z ∧ z ≤ 6)) := by
  refine sC_of ok_X0_rimLetter.1 (Nat.le_of_ble_eq_true rfl) ?_
  show sA _ _ _ 0 [(0, gs_iv k)] [] F A
  refine sA_iload_n dd_X0_rimLetter_0 rfl (.head _) ?_
  refine sA_iconst (z := 4) dd_X0_rimLetter_1 ?_
  refine sA_idivN dd_X0_rimLetter_2 (by omega) (by omega) (by omega) ?_
  refine sA_iconst (z := 2) dd_X0_rimLetter_3 ?_
  refine sA_imul dd_X0_rimLetter_4 ?_
  refine sA_iconst (z := 1) dd_X0_rimLetter_5 ?_
  refine sA_iadd dd_X0_rimLetter_6 ?_
  refine sA_iload_n dd_X0_rimLetter_7 rfl (.head _) ?_
  refine sA_iconst (z := 2) dd_X0_rimLetter_8 ?_
  refine sA_iremN dd_X0_rimLetter_9 (by omega) (by omega) (by omega) ?_
  refine sA_iadd dd_X0_rimLetter_10 ?_
  refine sA_istore_n (lv' := [(1, gs_iv ((((k / 4) * 2) + 1) + (k % 2))), (0, gs_iv k)]) dd_X0_rimLetter_11 rfl (by decide) rfl ?_
  refine sA_iload_n dd_X0_rimLetter_12 rfl (.tail _ (.head _)) ?_
  refine sA_iconst (z := 4) dd_X0_rimLetter_13 ?_
  refine sA_iremN dd_X0_rimLetter_14 (by omega) (by omega) (by omega) ?_
  refine sA_iconst (z := 2) dd_X0_rimLetter_15 ?_
  refine sA_icmp_ge (tgt := 23) dd_X0_rimLetter_16 (by decide) (by omega) (by omega) (fun q1 => ?_) (fun q1 => ?_)
  · skip
    refine sA_iload_n dd_X0_rimLetter_23 rfl (.head _) ?_
    refine sA_ineg dd_X0_rimLetter_24 ?_
    refine sA_iret (z := -((((k / 4) * 2) + 1) + (k % 2))) dd_X0_rimLetter_25 rfl ?_
    exact ⟨_, rfl, rfl, rfl, by omega⟩
  · skip
    refine sA_iload_n dd_X0_rimLetter_19 rfl (.head _) ?_
    refine sA_goto (tgt := 25) dd_X0_rimLetter_20 (by decide) ?_
    refine sA_iret (z := (((k / 4) * 2) + 1) + (k % 2)) dd_X0_rimLetter_25 rfl ?_
    exact ⟨_, rfl, rfl, rfl, by omega⟩
theorem dd_X0_pushRim_0 : decode cX0_pushRim 0 = .ok (.iconst 0, 1) := by decide +kernel
theorem dd_X0_pushRim_1 : decode cX0_pushRim 1 = .ok (.istore_n 3, 1) := by decide +kernel
theorem dd_X0_pushRim_2 : decode cX0_pushRim 2 = .ok (.iload_n 3, 1) := by decide +kernel
theorem dd_X0_pushRim_3 : decode cX0_pushRim 3 = .ok (.iload_n 1, 1) := by decide +kernel
theorem dd_X0_pushRim_4 : decode cX0_pushRim 4 = .ok (.invokestatic 59, 3) := by decide +kernel
theorem dd_X0_pushRim_7 : decode cX0_pushRim 7 = .ok (.if_icmp .ge 60, 3) := by decide +kernel
theorem dd_X0_pushRim_10 : decode cX0_pushRim 10 = .ok (.iconst 0, 1) := by decide +kernel
theorem dd_X0_pushRim_11 : decode cX0_pushRim 11 = .ok (.istore 4, 2) := by decide +kernel
theorem dd_X0_pushRim_13 : decode cX0_pushRim 13 = .ok (.iload 4, 2) := by decide +kernel
theorem dd_X0_pushRim_15 : decode cX0_pushRim 15 = .ok (.iconst 2, 1) := by decide +kernel
theorem dd_X0_pushRim_16 : decode cX0_pushRim 16 = .ok (.aload_n 0, 1) := by decide +kernel
theorem dd_X0_pushRim_17 : decode cX0_pushRim 17 = .ok (.getfield 28, 3) := by decide +kernel
theorem dd_X0_pushRim_20 : decode cX0_pushRim 20 = .ok (.imul, 1) := by decide +kernel
theorem dd_X0_pushRim_21 : decode cX0_pushRim 21 = .ok (.if_icmp .ge 40, 3) := by decide +kernel
theorem dd_X0_pushRim_24 : decode cX0_pushRim 24 = .ok (.aload_n 2, 1) := by decide +kernel
theorem dd_X0_pushRim_25 : decode cX0_pushRim 25 = .ok (.iload_n 1, 1) := by decide +kernel
theorem dd_X0_pushRim_26 : decode cX0_pushRim 26 = .ok (.ifCond .le 11, 3) := by decide +kernel
theorem dd_X0_pushRim_29 : decode cX0_pushRim 29 = .ok (.iload 4, 2) := by decide +kernel
theorem dd_X0_pushRim_31 : decode cX0_pushRim 31 = .ok (.invokestatic 65, 3) := by decide +kernel
theorem dd_X0_pushRim_34 : decode cX0_pushRim 34 = .ok (.goto 18, 3) := by decide +kernel
theorem dd_X0_pushRim_37 : decode cX0_pushRim 37 = .ok (.iconst 2, 1) := by decide +kernel
theorem dd_X0_pushRim_38 : decode cX0_pushRim 38 = .ok (.aload_n 0, 1) := by decide +kernel
theorem dd_X0_pushRim_39 : decode cX0_pushRim 39 = .ok (.getfield 28, 3) := by decide +kernel
theorem dd_X0_pushRim_42 : decode cX0_pushRim 42 = .ok (.imul, 1) := by decide +kernel
theorem dd_X0_pushRim_43 : decode cX0_pushRim 43 = .ok (.iconst 1, 1) := by decide +kernel
theorem dd_X0_pushRim_44 : decode cX0_pushRim 44 = .ok (.isub, 1) := by decide +kernel
theorem dd_X0_pushRim_45 : decode cX0_pushRim 45 = .ok (.iload 4, 2) := by decide +kernel
theorem dd_X0_pushRim_47 : decode cX0_pushRim 47 = .ok (.isub, 1) := by decide +kernel
theorem dd_X0_pushRim_48 : decode cX0_pushRim 48 = .ok (.invokestatic 65, 3) := by decide +kernel
theorem dd_X0_pushRim_51 : decode cX0_pushRim 51 = .ok (.ineg, 1) := by decide +kernel
theorem dd_X0_pushRim_52 : decode cX0_pushRim 52 = .ok (.invokevirtual 52, 3) := by decide +kernel
theorem dd_X0_pushRim_55 : decode cX0_pushRim 55 = .ok (.iinc 4 1, 3) := by decide +kernel
theorem dd_X0_pushRim_58 : decode cX0_pushRim 58 = .ok (.goto (-45), 3) := by decide +kernel
theorem dd_X0_pushRim_61 : decode cX0_pushRim 61 = .ok (.iinc 3 1, 3) := by decide +kernel
theorem dd_X0_pushRim_64 : decode cX0_pushRim 64 = .ok (.goto (-62), 3) := by decide +kernel
theorem dd_X0_pushRim_67 : decode cX0_pushRim 67 = .ok (.return_, 1) := by decide +kernel
theorem ml_X0_52 : Cond.methodLink RX0 52 m_X4_push.1 ∈ am_tbl := ri_lw_in (pl := 662) (by decide +kernel)
theorem ml_X0_65 : Cond.methodLink RX0 65 m_X0_rimLetter.1 ∈ am_tbl := ri_lw_in (pl := 659) (by decide +kernel)
theorem ok_X0_pushRim : am_okM m_X0_pushRim 2 ∧ Cond.instanceMethod m_X0_pushRim.1 ∈ am_tbl ∧ Cond.selects m_X0_pushRim.1.cls m_X0_pushRim.1 m_X0_pushRim.1 ∈ am_tbl := ri_mk1 655 87 654 21 (by decide +kernel)
theorem k_X0_pushRim {a L : Nat} {m : Int} {F A : gs_F} (hI : gs_I F A) (hm0 : -5 ≤ m ∧ m ≤ 5) (hr : gs_row a L) : ∀ nN : Nat, (∀ (t : Int)  (F1 A1 : gs_F), gs_I F1 A1 → gs_fr (fun c j => c = a ∧ j = 1) (fun c => c = a + 1) F A F1 A1 → 0 ≤ t ∧ t ≤ 5 → (5 - t) * 20 + 1 < (nN : Int) → sA m_X0_pushRim 2 (fun rv F' A' => rv = none ∧ gs_I F' A' ∧ gs_fr (fun c j => c = a ∧ j = 1) (fun c => c = a + 1) F A F' A' ∧ (True)) 2 [(3, gs_iv t), (0, .ref 15), (1, gs_iv m), (2, .ref a)] [] F1 A1) ∧ (∀ (t : Int) (k : Int)  (F1 A1 : gs_F), gs_I F1 A1 → gs_fr (fun c j => c = a ∧ j = 1) (fun c => c = a + 1) F A F1 A1 → 0 ≤ t ∧ t < 5 → 0 ≤ k ∧ k ≤ 12 → (5 - t) * 20 - k < (nN : Int) → sA m_X0_pushRim 2 (fun rv F' A' => rv = none ∧ gs_I F' A' ∧ gs_fr (fun c j => c = a ∧ j = 1) (fun c => c = a + 1) F A F' A' ∧ (True)) 13 [(4, gs_iv k), (3, gs_iv t), (0, .ref 15), (1, gs_iv m), (2, .ref a)] [] F1 A1) := by
  intro nN
  induction nN with
  | zero =>
    exact ⟨fun a0 a1 a2 a3 a4 i0 hm => by exfalso; omega, fun a0 a1 a2 a3 a4 a5 i0 i1 hm => by exfalso; omega⟩
  | succ nN ih =>
    refine ⟨?_, ?_⟩
    · skip
      intro t F1 A1 hI1 hf1 i0 hm
      have b1 := gs_row_sz hr hI1
      refine sA_iload_n dd_X0_pushRim_2 rfl (.head _) ?_
      refine sA_iload_n dd_X0_pushRim_3 rfl (.tail _ (.tail _ (.head _))) ?_
      refine sA_mabs dd_X0_pushRim_4 (ri_lw_in (pl := 656) (by decide +kernel)) (by decide) (by omega) (Nat.le_of_ble_eq_true rfl) (fun w2 q3 => ?_)
      refine sA_icmp_ge (tgt := 67) dd_X0_pushRim_7 (by decide) (by omega) (by omega) (fun q4 => ?_) (fun q4 => ?_)
      · skip
        refine sA_vret dd_X0_pushRim_67 rfl ?_
        exact ⟨rfl, hI1, hf1, trivial⟩
      · skip
        refine sA_iconst (z := 0) dd_X0_pushRim_10 ?_
        refine sA_istore (lv' := [(4, gs_iv 0), (3, gs_iv t), (0, .ref 15), (1, gs_iv m), (2, .ref a)]) dd_X0_pushRim_11 (by decide) rfl ?_
        refine sA_sub (lv2 := [(4, gs_iv 0), (3, gs_iv t), (0, .ref 15), (1, gs_iv m), (2, .ref a)]) (List.forall_mem_cons.mpr ⟨(.head _), (List.forall_mem_cons.mpr ⟨(.tail _ (.head _)), (List.forall_mem_cons.mpr ⟨(.tail _ (.tail _ (.head _))), (List.forall_mem_cons.mpr ⟨(.tail _ (.tail _ (.tail _ (.head _)))), (List.forall_mem_cons.mpr ⟨(.tail _ (.tail _ (.tail _ (.tail _ (.head _))))), (fun _ h => absurd h List.not_mem_nil)⟩)⟩)⟩)⟩)⟩) ?_
        exact ih.2 t 0 F1 A1 hI1 hf1 (by omega) (by omega) (by omega)
    · skip
      intro t k F1 A1 hI1 hf1 i0 i1 hm
      have b5 := gs_row_sz hr hI1
      refine sA_iload dd_X0_pushRim_13 (.head _) ?_
      refine sA_iconst (z := 2) dd_X0_pushRim_15 ?_
      refine sA_aload_n dd_X0_pushRim_16 rfl (.tail _ (.tail _ (.head _))) ?_
      refine sA_geti (ci := 0) (j := 1) (q := (RX0, TX0, 4)) dd_X0_pushRim_17 rfl (by decide) fl_X0_28 (by decide) gs_s15 rfl ?_
      have b6 : (0 : Int) ≤ F1 15 1 ∧ F1 15 1 ≤ 6 := hI1.1 15 1
      refine sA_imul dd_X0_pushRim_20 ?_
      refine sA_icmp_ge (tgt := 61) dd_X0_pushRim_21 (by decide) (by omega) (by omega) (fun q7 => ?_) (fun q7 => ?_)
      · skip
        refine sA_iinc (lv' := [(3, gs_iv (t + 1)), (4, gs_iv k), (0, .ref 15), (1, gs_iv m), (2, .ref a)]) dd_X0_pushRim_61 (.tail _ (.head _)) (by decide) rfl ?_
        refine sA_goto (tgt := 2) dd_X0_pushRim_64 (by decide) ?_
        refine sA_sub (lv2 := [(3, gs_iv (t + 1)), (0, .ref 15), (1, gs_iv m), (2, .ref a)]) (List.forall_mem_cons.mpr ⟨(.head _), (List.forall_mem_cons.mpr ⟨(.tail _ (.tail _ (.head _))), (List.forall_mem_cons.mpr ⟨(.tail _ (.tail _ (.tail _ (.head _)))), (List.forall_mem_cons.mpr ⟨(.tail _ (.tail _ (.tail _ (.tail _ (.head _))))), (fun _ h => absurd h List.not_mem_nil)⟩)⟩)⟩)⟩) ?_
        exact ih.1 (t + 1) F1 A1 hI1 hf1 (by omega) (by omega)
      · skip
        refine sA_aload_n dd_X0_pushRim_24 rfl (.tail _ (.tail _ (.tail _ (.tail _ (.head _))))) ?_
        refine sA_iload_n dd_X0_pushRim_25 rfl (.tail _ (.tail _ (.tail _ (.head _)))) ?_
        refine sA_if_le (tgt := 37) dd_X0_pushRim_26 (by decide) (by omega) (fun q8 => ?_) (fun q8 => ?_)
        · skip
          refine sA_iconst (z := 2) dd_X0_pushRim_37 ?_
          refine sA_aload_n dd_X0_pushRim_38 rfl (.tail _ (.tail _ (.head _))) ?_
          refine sA_geti (ci := 0) (j := 1) (q := (RX0, TX0, 4)) dd_X0_pushRim_39 rfl (by decide) fl_X0_28 (by decide) gs_s15 rfl ?_
          refine sA_imul dd_X0_pushRim_42 ?_
          refine sA_iconst (z := 1) dd_X0_pushRim_43 ?_
          refine sA_isub dd_X0_pushRim_44 ?_
          refine sA_iload dd_X0_pushRim_45 (.head _) ?_
          refine sA_isub dd_X0_pushRim_47 ?_
          refine sA_callS (y2 := m_X0_rimLetter) (n2 := 1) (d2 := 1) (as := [gs_iv (((2 * (F1 15 1)) - 1) - k)]) (rest := [.ref a]) dd_X0_pushRim_48 ok_X0_rimLetter ml_X0_65 rfl rfl (Nat.le_of_ble_eq_true rfl) (by decide) (c_X0_rimLetter (by omega)) (fun r9 F10 A11 h12 => ?_)
          obtain ⟨z15, e14, e16, e17, x13⟩ := h12
          subst e14 e16 e17
          show sA _ _ _ 51 _ [gs_iv z15, .ref a] _ _
          refine sA_ineg dd_X0_pushRim_51 ?_
          refine sA_callV (y2 := m_X4_push) (n2 := 1) (d2 := 1) (a := a) (ci := 4) (q := (RX4, TX4, 2)) (as := [gs_iv (-z15)]) (rest := []) dd_X0_pushRim_52 ok_X4_push ml_X0_52 rfl rfl (Nat.lt_of_succ_lt hr.1) hr.2.1 rfl rfl (Nat.le_of_ble_eq_true rfl) (by decide) (c_X4_push hI1 hr (by omega)) (fun r18 F19 A20 h21 => ?_)
          obtain ⟨e23, I24, f25, x22⟩ := h21
          subst e23
          have f26 := gs_fr_tr hf1 f25 (fun b j h => by first | exact False.elim h | omega | (dsimp only at h ⊢; omega)) (fun b h => by first | exact False.elim h | omega | (dsimp only at h ⊢; omega))
          show sA _ _ _ 55 _ [] _ _
          refine sA_iinc (lv' := [(4, gs_iv (k + 1)), (3, gs_iv t), (0, .ref 15), (1, gs_iv m), (2, .ref a)]) dd_X0_pushRim_55 (.head _) (by decide) rfl ?_
          refine sA_goto (tgt := 13) dd_X0_pushRim_58 (by decide) ?_
          have b27 := gs_row_sz hr I24
          refine sA_sub (lv2 := [(4, gs_iv (k + 1)), (3, gs_iv t), (0, .ref 15), (1, gs_iv m), (2, .ref a)]) (List.forall_mem_cons.mpr ⟨(.head _), (List.forall_mem_cons.mpr ⟨(.tail _ (.head _)), (List.forall_mem_cons.mpr ⟨(.tail _ (.tail _ (.head _))), (List.forall_mem_cons.mpr ⟨(.tail _ (.tail _ (.tail _ (.head _)))), (List.forall_mem_cons.mpr ⟨(.tail _ (.tail _ (.tail _ (.tail _ (.head _))))), (fun _ h => absurd h List.not_mem_nil)⟩)⟩)⟩)⟩)⟩) ?_
          exact ih.2 t (k + 1) F19 A20 I24 f26 (by omega) (by omega) (by omega)
        · skip
          refine sA_iload dd_X0_pushRim_29 (.head _) ?_
          refine sA_callS (y2 := m_X0_rimLetter) (n2 := 1) (d2 := 1) (as := [gs_iv k]) (rest := [.ref a]) dd_X0_pushRim_31 ok_X0_rimLetter ml_X0_65 rfl rfl (Nat.le_of_ble_eq_true rfl) (by decide) (c_X0_rimLetter (by omega)) (fun r28 F29 A30 h31 => ?_)
          obtain ⟨z34, e33, e35, e36, x32⟩ := h31
          subst e33 e35 e36
          show sA _ _ _ 34 _ [gs_iv z34, .ref a] _ _
          refine sA_goto (tgt := 52) dd_X0_pushRim_34 (by decide) ?_
          refine sA_callV (y2 := m_X4_push) (n2 := 1) (d2 := 1) (a := a) (ci := 4) (q := (RX4, TX4, 2)) (as := [gs_iv z34]) (rest := []) dd_X0_pushRim_52 ok_X4_push ml_X0_52 rfl rfl (Nat.lt_of_succ_lt hr.1) hr.2.1 rfl rfl (Nat.le_of_ble_eq_true rfl) (by decide) (c_X4_push hI1 hr (by omega)) (fun r37 F38 A39 h40 => ?_)
          obtain ⟨e42, I43, f44, x41⟩ := h40
          subst e42
          have f45 := gs_fr_tr hf1 f44 (fun b j h => by first | exact False.elim h | omega | (dsimp only at h ⊢; omega)) (fun b h => by first | exact False.elim h | omega | (dsimp only at h ⊢; omega))
          show sA _ _ _ 55 _ [] _ _
          refine sA_iinc (lv' := [(4, gs_iv (k + 1)), (3, gs_iv t), (0, .ref 15), (1, gs_iv m), (2, .ref a)]) dd_X0_pushRim_55 (.head _) (by decide) rfl ?_
          refine sA_goto (tgt := 13) dd_X0_pushRim_58 (by decide) ?_
          have b46 := gs_row_sz hr I43
          refine sA_sub (lv2 := [(4, gs_iv (k + 1)), (3, gs_iv t), (0, .ref 15), (1, gs_iv m), (2, .ref a)]) (List.forall_mem_cons.mpr ⟨(.head _), (List.forall_mem_cons.mpr ⟨(.tail _ (.head _)), (List.forall_mem_cons.mpr ⟨(.tail _ (.tail _ (.head _))), (List.forall_mem_cons.mpr ⟨(.tail _ (.tail _ (.tail _ (.head _)))), (List.forall_mem_cons.mpr ⟨(.tail _ (.tail _ (.tail _ (.tail _ (.head _))))), (fun _ h => absurd h List.not_mem_nil)⟩)⟩)⟩)⟩)⟩) ?_
          exact ih.2 t (k + 1) F38 A39 I43 f45 (by omega) (by omega) (by omega)
theorem c_X0_pushRim {a L : Nat} {m : Int} {F A : gs_F} (hI : gs_I F A) (hm0 : -5 ≤ m ∧ m ≤ 5) (hr : gs_row a L) : sC m_X0_pushRim 2 [.ref 15, gs_iv m, .ref a] F A (fun rv F' A' => rv = none ∧ gs_I F' A' ∧ gs_fr (fun c j => c = a ∧ j = 1) (fun c => c = a + 1) F A F' A' ∧ (True)) := by
  refine sC_of ok_X0_pushRim.1 (Nat.le_of_ble_eq_true rfl) ?_
  show sA _ _ _ 0 [(0, .ref 15), (1, gs_iv m), (2, .ref a)] [] F A
  have hf : gs_fr (fun c j => c = a ∧ j = 1) (fun c => c = a + 1) F A F A := gs_fr_refl _ _ _ _
  have b47 := gs_row_sz hr hI
  refine sA_iconst (z := 0) dd_X0_pushRim_0 ?_
  refine sA_istore_n (lv' := [(3, gs_iv 0), (0, .ref 15), (1, gs_iv m), (2, .ref a)]) dd_X0_pushRim_1 rfl (by decide) rfl ?_
  refine sA_sub (lv2 := [(3, gs_iv 0), (0, .ref 15), (1, gs_iv m), (2, .ref a)]) (List.forall_mem_cons.mpr ⟨(.head _), (List.forall_mem_cons.mpr ⟨(.tail _ (.head _)), (List.forall_mem_cons.mpr ⟨(.tail _ (.tail _ (.head _))), (List.forall_mem_cons.mpr ⟨(.tail _ (.tail _ (.tail _ (.head _)))), (fun _ h => absurd h List.not_mem_nil)⟩)⟩)⟩)⟩) ?_
  exact (k_X0_pushRim hI hm0 hr ((5 - 0) * 20 + 1 : Int).toNat.succ).1 0 F A hI hf (by omega) (by omega)
theorem dd_X0_areTurns_0 : decode cX0_areTurns 0 = .ok (.iconst 1, 1) := by decide +kernel
theorem dd_X0_areTurns_1 : decode cX0_areTurns 1 = .ok (.istore_n 3, 1) := by decide +kernel
theorem dd_X0_areTurns_2 : decode cX0_areTurns 2 = .ok (.iload_n 3, 1) := by decide +kernel
theorem dd_X0_areTurns_3 : decode cX0_areTurns 3 = .ok (.aload_n 0, 1) := by decide +kernel
theorem dd_X0_areTurns_4 : decode cX0_areTurns 4 = .ok (.getfield 28, 3) := by decide +kernel
theorem dd_X0_areTurns_7 : decode cX0_areTurns 7 = .ok (.if_icmp .gt 49, 3) := by decide +kernel
theorem dd_X0_areTurns_10 : decode cX0_areTurns 10 = .ok (.aload_n 2, 1) := by decide +kernel
theorem dd_X0_areTurns_11 : decode cX0_areTurns 11 = .ok (.iconst 0, 1) := by decide +kernel
theorem dd_X0_areTurns_12 : decode cX0_areTurns 12 = .ok (.putfield 41, 3) := by decide +kernel
theorem dd_X0_areTurns_15 : decode cX0_areTurns 15 = .ok (.aload_n 0, 1) := by decide +kernel
theorem dd_X0_areTurns_16 : decode cX0_areTurns 16 = .ok (.iload_n 1, 1) := by decide +kernel
theorem dd_X0_areTurns_17 : decode cX0_areTurns 17 = .ok (.aload_n 2, 1) := by decide +kernel
theorem dd_X0_areTurns_18 : decode cX0_areTurns 18 = .ok (.invokevirtual 48, 3) := by decide +kernel
theorem dd_X0_areTurns_21 : decode cX0_areTurns 21 = .ok (.aload_n 2, 1) := by decide +kernel
theorem dd_X0_areTurns_22 : decode cX0_areTurns 22 = .ok (.iload_n 3, 1) := by decide +kernel
theorem dd_X0_areTurns_23 : decode cX0_areTurns 23 = .ok (.invokevirtual 52, 3) := by decide +kernel
theorem dd_X0_areTurns_26 : decode cX0_areTurns 26 = .ok (.aload_n 0, 1) := by decide +kernel
theorem dd_X0_areTurns_27 : decode cX0_areTurns 27 = .ok (.iload_n 1, 1) := by decide +kernel
theorem dd_X0_areTurns_28 : decode cX0_areTurns 28 = .ok (.ineg, 1) := by decide +kernel
theorem dd_X0_areTurns_29 : decode cX0_areTurns 29 = .ok (.aload_n 2, 1) := by decide +kernel
theorem dd_X0_areTurns_30 : decode cX0_areTurns 30 = .ok (.invokevirtual 48, 3) := by decide +kernel
theorem dd_X0_areTurns_33 : decode cX0_areTurns 33 = .ok (.aload_n 2, 1) := by decide +kernel
theorem dd_X0_areTurns_34 : decode cX0_areTurns 34 = .ok (.aload_n 0, 1) := by decide +kernel
theorem dd_X0_areTurns_35 : decode cX0_areTurns 35 = .ok (.getfield 11, 3) := by decide +kernel
theorem dd_X0_areTurns_38 : decode cX0_areTurns 38 = .ok (.iload_n 3, 1) := by decide +kernel
theorem dd_X0_areTurns_39 : decode cX0_areTurns 39 = .ok (.iconst 1, 1) := by decide +kernel
theorem dd_X0_areTurns_40 : decode cX0_areTurns 40 = .ok (.isub, 1) := by decide +kernel
theorem dd_X0_areTurns_41 : decode cX0_areTurns 41 = .ok (.aaload, 1) := by decide +kernel
theorem dd_X0_areTurns_42 : decode cX0_areTurns 42 = .ok (.invokevirtual 55, 3) := by decide +kernel
theorem dd_X0_areTurns_45 : decode cX0_areTurns 45 = .ok (.ifCond .ne 5, 3) := by decide +kernel
theorem dd_X0_areTurns_48 : decode cX0_areTurns 48 = .ok (.iconst 0, 1) := by decide +kernel
theorem dd_X0_areTurns_49 : decode cX0_areTurns 49 = .ok (.ireturn, 1) := by decide +kernel
theorem dd_X0_areTurns_50 : decode cX0_areTurns 50 = .ok (.iinc 3 1, 3) := by decide +kernel
theorem dd_X0_areTurns_53 : decode cX0_areTurns 53 = .ok (.goto (-51), 3) := by decide +kernel
theorem dd_X0_areTurns_56 : decode cX0_areTurns 56 = .ok (.iconst 1, 1) := by decide +kernel
theorem dd_X0_areTurns_57 : decode cX0_areTurns 57 = .ok (.ireturn, 1) := by decide +kernel
theorem ml_X0_48 : Cond.methodLink RX0 48 m_X0_pushRim.1 ∈ am_tbl := ri_lw_in (pl := 652) (by decide +kernel)
theorem ml_X0_55 : Cond.methodLink RX0 55 m_X4_isLike.1 ∈ am_tbl := ri_lw_in (pl := 663) (by decide +kernel)
theorem ok_X0_areTurns : am_okM m_X0_areTurns 2 ∧ Cond.instanceMethod m_X0_areTurns.1 ∈ am_tbl ∧ Cond.selects m_X0_areTurns.1.cls m_X0_areTurns.1 m_X0_areTurns.1 ∈ am_tbl := ri_mk1 651 87 650 20 (by decide +kernel)
theorem k_X0_areTurns {a L : Nat} {m : Int} {F A : gs_F} (hI : gs_I F A) (hm0 : -5 ≤ m ∧ m ≤ 5) (hr : gs_row a L) : ∀ nN : Nat, (∀ (x : Int)  (F1 A1 : gs_F), gs_I F1 A1 → gs_fr (fun c j => c = a ∧ j = 1) (fun c => c = a + 1) F A F1 A1 → 1 ≤ x ∧ x ≤ 7 → 7 - x < (nN : Int) → sA m_X0_areTurns 3 (fun rv F' A' => ∃ z : Int, rv = some (gs_iv z) ∧ gs_I F' A' ∧ gs_fr (fun c j => c = a ∧ j = 1) (fun c => c = a + 1) F A F' A' ∧ (z = 0 ∨ z = 1)) 2 [(3, gs_iv x), (0, .ref 15), (1, gs_iv m), (2, .ref a)] [] F1 A1) := by
  intro nN
  induction nN with
  | zero =>
    exact fun a0 a1 a2 a3 a4 i0 hm => by exfalso; omega
  | succ nN ih =>
    intro x F1 A1 hI1 hf1 i0 hm
    have b1 := gs_row_sz hr hI1
    refine sA_iload_n dd_X0_areTurns_2 rfl (.head _) ?_
    refine sA_aload_n dd_X0_areTurns_3 rfl (.tail _ (.head _)) ?_
    refine sA_geti (ci := 0) (j := 1) (q := (RX0, TX0, 4)) dd_X0_areTurns_4 rfl (by decide) fl_X0_28 (by decide) gs_s15 rfl ?_
    have b2 : (0 : Int) ≤ F1 15 1 ∧ F1 15 1 ≤ 6 := hI1.1 15 1
    refine sA_icmp_gt (tgt := 56) dd_X0_areTurns_7 (by decide) (by omega) (by omega) (fun q3 => ?_) (fun q3 => ?_)
    · skip
      refine sA_iconst (z := 1) dd_X0_areTurns_56 ?_
      refine sA_bret (z := 1) dd_X0_areTurns_57 rfl (by omega) ?_
      exact ⟨_, rfl, hI1, hf1, by omega⟩
    · skip
      refine sA_aload_n dd_X0_areTurns_10 rfl (.tail _ (.tail _ (.tail _ (.head _)))) ?_
      refine sA_iconst (z := 0) dd_X0_areTurns_11 ?_
      refine sA_put (ci := 4) (j := 1) (q := (RX4, TX4, 2)) (ty := .int) dd_X0_areTurns_12 rfl (by decide) fl_X0_41 rfl (tyX4_ok 1 (by decide)) rfl rfl (Nat.lt_of_succ_lt hr.1) hr.2.1 rfl ?_
      have I5 : gs_I (gs_up F1 a 1 0) A1 := gs_row_put hr hI1 (by omega)
      have f6 := gs_fr_put hf1 (a := a) (z := 0) (j := 1) (by first | omega | (dsimp only; omega) | (dsimp only))
      have v7 : gs_up F1 a 1 0 a 1 = 0 := gs_up_self _ _ _ _
      generalize gs_up F1 a 1 0 = F4 at I5 f6 v7 ⊢
      refine sA_aload_n dd_X0_areTurns_15 rfl (.tail _ (.head _)) ?_
      refine sA_iload_n dd_X0_areTurns_16 rfl (.tail _ (.tail _ (.head _))) ?_
      refine sA_aload_n dd_X0_areTurns_17 rfl (.tail _ (.tail _ (.tail _ (.head _)))) ?_
      refine sA_callV (y2 := m_X0_pushRim) (n2 := 2) (d2 := 2) (a := 15) (ci := 0) (q := (RX0, TX0, 4)) (as := [gs_iv m, .ref a]) (rest := []) dd_X0_areTurns_18 ok_X0_pushRim ml_X0_48 rfl rfl (by decide) gs_s15 rfl rfl (Nat.le_of_ble_eq_true rfl) (by decide) (c_X0_pushRim I5 (by omega) hr) (fun r8 F9 A10 h11 => ?_)
      obtain ⟨e13, I14, f15, x12⟩ := h11
      subst e13
      have f16 := gs_fr_tr f6 f15 (fun b j h => by first | exact False.elim h | omega | (dsimp only at h ⊢; omega)) (fun b h => by first | exact False.elim h | omega | (dsimp only at h ⊢; omega))
      show sA _ _ _ 21 _ [] _ _
      refine sA_aload_n dd_X0_areTurns_21 rfl (.tail _ (.tail _ (.tail _ (.head _)))) ?_
      refine sA_iload_n dd_X0_areTurns_22 rfl (.head _) ?_
      refine sA_callV (y2 := m_X4_push) (n2 := 1) (d2 := 1) (a := a) (ci := 4) (q := (RX4, TX4, 2)) (as := [gs_iv x]) (rest := []) dd_X0_areTurns_23 ok_X4_push ml_X0_52 rfl rfl (Nat.lt_of_succ_lt hr.1) hr.2.1 rfl rfl (Nat.le_of_ble_eq_true rfl) (by decide) (c_X4_push I14 hr (by omega)) (fun r17 F18 A19 h20 => ?_)
      obtain ⟨e22, I23, f24, x21⟩ := h20
      subst e22
      have f25 := gs_fr_tr f16 f24 (fun b j h => by first | exact False.elim h | omega | (dsimp only at h ⊢; omega)) (fun b h => by first | exact False.elim h | omega | (dsimp only at h ⊢; omega))
      show sA _ _ _ 26 _ [] _ _
      refine sA_aload_n dd_X0_areTurns_26 rfl (.tail _ (.head _)) ?_
      refine sA_iload_n dd_X0_areTurns_27 rfl (.tail _ (.tail _ (.head _))) ?_
      refine sA_ineg dd_X0_areTurns_28 ?_
      refine sA_aload_n dd_X0_areTurns_29 rfl (.tail _ (.tail _ (.tail _ (.head _)))) ?_
      refine sA_callV (y2 := m_X0_pushRim) (n2 := 2) (d2 := 2) (a := 15) (ci := 0) (q := (RX0, TX0, 4)) (as := [gs_iv (-m), .ref a]) (rest := []) dd_X0_areTurns_30 ok_X0_pushRim ml_X0_48 rfl rfl (by decide) gs_s15 rfl rfl (Nat.le_of_ble_eq_true rfl) (by decide) (c_X0_pushRim I23 (by omega) hr) (fun r26 F27 A28 h29 => ?_)
      obtain ⟨e31, I32, f33, x30⟩ := h29
      subst e31
      have f34 := gs_fr_tr f25 f33 (fun b j h => by first | exact False.elim h | omega | (dsimp only at h ⊢; omega)) (fun b h => by first | exact False.elim h | omega | (dsimp only at h ⊢; omega))
      show sA _ _ _ 33 _ [] _ _
      refine sA_aload_n dd_X0_areTurns_33 rfl (.tail _ (.tail _ (.tail _ (.head _)))) ?_
      refine sA_aload_n dd_X0_areTurns_34 rfl (.tail _ (.head _)) ?_
      refine sA_getr (ci := 0) (j := 0) (q := (RX0, TX0, 4)) dd_X0_areTurns_35 rfl (by decide) fl_X0_11 (by decide) gs_s15 rfl ?_
      refine sA_iload_n dd_X0_areTurns_38 rfl (.head _) ?_
      refine sA_iconst (z := 1) dd_X0_areTurns_39 ?_
      refine sA_isub dd_X0_areTurns_40 ?_
      refine sA_aald (n := 6) dd_X0_areTurns_41 (by decide) (by decide) (by decide) gs_s16 (by omega) (by decide) ?_
      have g35 := gs_row_im (k := (x - 1).toNat) (by omega)
      refine sA_callV (y2 := m_X4_isLike) (n2 := 1) (d2 := 1) (a := a) (ci := 4) (q := (RX4, TX4, 2)) (as := [.ref (18 + 2 * (x - 1).toNat)]) (rest := []) dd_X0_areTurns_42 ok_X4_isLike ml_X0_55 rfl rfl (Nat.lt_of_succ_lt hr.1) hr.2.1 rfl rfl (Nat.le_of_ble_eq_true rfl) (by decide) (c_X4_isLike I32 hr g35) (fun r36 F37 A38 h39 => ?_)
      obtain ⟨z42, e41, e43, e44, x40⟩ := h39
      subst e41 e43 e44
      show sA _ _ _ 45 _ [gs_iv z42] _ _
      refine sA_if_ne (tgt := 50) dd_X0_areTurns_45 (by decide) (by omega) (fun q45 => ?_) (fun q45 => ?_)
      · skip
        refine sA_iinc (lv' := [(3, gs_iv (x + 1)), (0, .ref 15), (1, gs_iv m), (2, .ref a)]) dd_X0_areTurns_50 (.head _) (by decide) rfl ?_
        refine sA_goto (tgt := 2) dd_X0_areTurns_53 (by decide) ?_
        have b46 := gs_row_sz hr I32
        refine sA_sub (lv2 := [(3, gs_iv (x + 1)), (0, .ref 15), (1, gs_iv m), (2, .ref a)]) (List.forall_mem_cons.mpr ⟨(.head _), (List.forall_mem_cons.mpr ⟨(.tail _ (.head _)), (List.forall_mem_cons.mpr ⟨(.tail _ (.tail _ (.head _))), (List.forall_mem_cons.mpr ⟨(.tail _ (.tail _ (.tail _ (.head _)))), (fun _ h => absurd h List.not_mem_nil)⟩)⟩)⟩)⟩) ?_
        exact ih (x + 1) F27 A28 I32 f34 (by omega) (by omega)
      · skip
        refine sA_iconst (z := 0) dd_X0_areTurns_48 ?_
        refine sA_bret (z := 0) dd_X0_areTurns_49 rfl (by omega) ?_
        exact ⟨_, rfl, I32, f34, by omega⟩
theorem c_X0_areTurns {a L : Nat} {m : Int} {F A : gs_F} (hI : gs_I F A) (hm0 : -5 ≤ m ∧ m ≤ 5) (hr : gs_row a L) : sC m_X0_areTurns 3 [.ref 15, gs_iv m, .ref a] F A (fun rv F' A' => ∃ z : Int, rv = some (gs_iv z) ∧ gs_I F' A' ∧ gs_fr (fun c j => c = a ∧ j = 1) (fun c => c = a + 1) F A F' A' ∧ (z = 0 ∨ z = 1)) := by
  refine sC_of ok_X0_areTurns.1 (Nat.le_of_ble_eq_true rfl) ?_
  show sA _ _ _ 0 [(0, .ref 15), (1, gs_iv m), (2, .ref a)] [] F A
  have hf : gs_fr (fun c j => c = a ∧ j = 1) (fun c => c = a + 1) F A F A := gs_fr_refl _ _ _ _
  have b47 := gs_row_sz hr hI
  refine sA_iconst (z := 1) dd_X0_areTurns_0 ?_
  refine sA_istore_n (lv' := [(3, gs_iv 1), (0, .ref 15), (1, gs_iv m), (2, .ref a)]) dd_X0_areTurns_1 rfl (by decide) rfl ?_
  refine sA_sub (lv2 := [(3, gs_iv 1), (0, .ref 15), (1, gs_iv m), (2, .ref a)]) (List.forall_mem_cons.mpr ⟨(.head _), (List.forall_mem_cons.mpr ⟨(.tail _ (.head _)), (List.forall_mem_cons.mpr ⟨(.tail _ (.tail _ (.head _))), (List.forall_mem_cons.mpr ⟨(.tail _ (.tail _ (.tail _ (.head _)))), (fun _ h => absurd h List.not_mem_nil)⟩)⟩)⟩)⟩) ?_
  exact (k_X0_areTurns hI hm0 hr (7 - 1 : Int).toNat.succ) 1 F A hI hf (by omega) (by omega)
theorem dd_X0_fullTurns_0 : decode cX0_fullTurns 0 = .ok (.iconst 0, 1) := by decide +kernel
theorem dd_X0_fullTurns_1 : decode cX0_fullTurns 1 = .ok (.istore_n 2, 1) := by decide +kernel
theorem dd_X0_fullTurns_2 : decode cX0_fullTurns 2 = .ok (.iload_n 2, 1) := by decide +kernel
theorem dd_X0_fullTurns_3 : decode cX0_fullTurns 3 = .ok (.iconst 5, 1) := by decide +kernel
theorem dd_X0_fullTurns_4 : decode cX0_fullTurns 4 = .ok (.if_icmp .gt 33, 3) := by decide +kernel
theorem dd_X0_fullTurns_7 : decode cX0_fullTurns 7 = .ok (.aload_n 0, 1) := by decide +kernel
theorem dd_X0_fullTurns_8 : decode cX0_fullTurns 8 = .ok (.iload_n 2, 1) := by decide +kernel
theorem dd_X0_fullTurns_9 : decode cX0_fullTurns 9 = .ok (.aload_n 1, 1) := by decide +kernel
theorem dd_X0_fullTurns_10 : decode cX0_fullTurns 10 = .ok (.invokevirtual 44, 3) := by decide +kernel
theorem dd_X0_fullTurns_13 : decode cX0_fullTurns 13 = .ok (.ifCond .eq 5, 3) := by decide +kernel
theorem dd_X0_fullTurns_16 : decode cX0_fullTurns 16 = .ok (.iload_n 2, 1) := by decide +kernel
theorem dd_X0_fullTurns_17 : decode cX0_fullTurns 17 = .ok (.ireturn, 1) := by decide +kernel
theorem dd_X0_fullTurns_18 : decode cX0_fullTurns 18 = .ok (.aload_n 0, 1) := by decide +kernel
theorem dd_X0_fullTurns_19 : decode cX0_fullTurns 19 = .ok (.iload_n 2, 1) := by decide +kernel
theorem dd_X0_fullTurns_20 : decode cX0_fullTurns 20 = .ok (.ineg, 1) := by decide +kernel
theorem dd_X0_fullTurns_21 : decode cX0_fullTurns 21 = .ok (.aload_n 1, 1) := by decide +kernel
theorem dd_X0_fullTurns_22 : decode cX0_fullTurns 22 = .ok (.invokevirtual 44, 3) := by decide +kernel
theorem dd_X0_fullTurns_25 : decode cX0_fullTurns 25 = .ok (.ifCond .eq 6, 3) := by decide +kernel
theorem dd_X0_fullTurns_28 : decode cX0_fullTurns 28 = .ok (.iload_n 2, 1) := by decide +kernel
theorem dd_X0_fullTurns_29 : decode cX0_fullTurns 29 = .ok (.ineg, 1) := by decide +kernel
theorem dd_X0_fullTurns_30 : decode cX0_fullTurns 30 = .ok (.ireturn, 1) := by decide +kernel
theorem dd_X0_fullTurns_31 : decode cX0_fullTurns 31 = .ok (.iinc 2 1, 3) := by decide +kernel
theorem dd_X0_fullTurns_34 : decode cX0_fullTurns 34 = .ok (.goto (-32), 3) := by decide +kernel
theorem dd_X0_fullTurns_37 : decode cX0_fullTurns 37 = .ok (.bipush 99, 2) := by decide +kernel
theorem dd_X0_fullTurns_39 : decode cX0_fullTurns 39 = .ok (.ireturn, 1) := by decide +kernel
theorem ml_X0_44 : Cond.methodLink RX0 44 m_X0_areTurns.1 ∈ am_tbl := ri_lw_in (pl := 648) (by decide +kernel)
theorem ok_X0_fullTurns : am_okM m_X0_fullTurns 1 ∧ Cond.instanceMethod m_X0_fullTurns.1 ∈ am_tbl ∧ Cond.selects m_X0_fullTurns.1.cls m_X0_fullTurns.1 m_X0_fullTurns.1 ∈ am_tbl := ri_mk1 647 87 645 646 (by decide +kernel)
theorem k_X0_fullTurns {a L : Nat} {F A : gs_F} (hI : gs_I F A) (hr : gs_row a L) : ∀ nN : Nat, (∀ (m : Int)  (F1 A1 : gs_F), gs_I F1 A1 → gs_fr (fun c j => c = a ∧ j = 1) (fun c => c = a + 1) F A F1 A1 → 0 ≤ m ∧ m ≤ 6 → 6 - m < (nN : Int) → sA m_X0_fullTurns 4 (fun rv F' A' => ∃ z : Int, rv = some (gs_iv z) ∧ gs_I F' A' ∧ gs_fr (fun c j => c = a ∧ j = 1) (fun c => c = a + 1) F A F' A' ∧ (-100 ≤ z ∧ z ≤ 100)) 2 [(2, gs_iv m), (0, .ref 15), (1, .ref a)] [] F1 A1) := by
  intro nN
  induction nN with
  | zero =>
    exact fun a0 a1 a2 a3 a4 i0 hm => by exfalso; omega
  | succ nN ih =>
    intro m F1 A1 hI1 hf1 i0 hm
    have b1 := gs_row_sz hr hI1
    refine sA_iload_n dd_X0_fullTurns_2 rfl (.head _) ?_
    refine sA_iconst (z := 5) dd_X0_fullTurns_3 ?_
    refine sA_icmp_gt (tgt := 37) dd_X0_fullTurns_4 (by decide) (by omega) (by omega) (fun q2 => ?_) (fun q2 => ?_)
    · skip
      refine sA_bipush (z := 99) dd_X0_fullTurns_37 (by decide) ?_
      refine sA_iret (z := 99) dd_X0_fullTurns_39 rfl ?_
      exact ⟨_, rfl, hI1, hf1, by omega⟩
    · skip
      refine sA_aload_n dd_X0_fullTurns_7 rfl (.tail _ (.head _)) ?_
      refine sA_iload_n dd_X0_fullTurns_8 rfl (.head _) ?_
      refine sA_aload_n dd_X0_fullTurns_9 rfl (.tail _ (.tail _ (.head _))) ?_
      refine sA_callV (y2 := m_X0_areTurns) (n2 := 2) (d2 := 3) (a := 15) (ci := 0) (q := (RX0, TX0, 4)) (as := [gs_iv m, .ref a]) (rest := []) dd_X0_fullTurns_10 ok_X0_areTurns ml_X0_44 rfl rfl (by decide) gs_s15 rfl rfl (Nat.le_of_ble_eq_true rfl) (by decide) (c_X0_areTurns hI1 (by omega) hr) (fun r3 F4 A5 h6 => ?_)
      obtain ⟨z9, e8, I10, f11, x7⟩ := h6
      subst e8
      have f12 := gs_fr_tr hf1 f11 (fun b j h => by first | exact False.elim h | omega | (dsimp only at h ⊢; omega)) (fun b h => by first | exact False.elim h | omega | (dsimp only at h ⊢; omega))
      show sA _ _ _ 13 _ [gs_iv z9] _ _
      refine sA_if_eq (tgt := 18) dd_X0_fullTurns_13 (by decide) (by omega) (fun q13 => ?_) (fun q13 => ?_)
      · skip
        refine sA_aload_n dd_X0_fullTurns_18 rfl (.tail _ (.head _)) ?_
        refine sA_iload_n dd_X0_fullTurns_19 rfl (.head _) ?_
        refine sA_ineg dd_X0_fullTurns_20 ?_
        refine sA_aload_n dd_X0_fullTurns_21 rfl (.tail _ (.tail _ (.head _))) ?_
        refine sA_callV (y2 := m_X0_areTurns) (n2 := 2) (d2 := 3) (a := 15) (ci := 0) (q := (RX0, TX0, 4)) (as := [gs_iv (-m), .ref a]) (rest := []) dd_X0_fullTurns_22 ok_X0_areTurns ml_X0_44 rfl rfl (by decide) gs_s15 rfl rfl (Nat.le_of_ble_eq_true rfl) (by decide) (c_X0_areTurns I10 (by omega) hr) (fun r14 F15 A16 h17 => ?_)
        obtain ⟨z20, e19, I21, f22, x18⟩ := h17
        subst e19
        have f23 := gs_fr_tr f12 f22 (fun b j h => by first | exact False.elim h | omega | (dsimp only at h ⊢; omega)) (fun b h => by first | exact False.elim h | omega | (dsimp only at h ⊢; omega))
        show sA _ _ _ 25 _ [gs_iv z20] _ _
        refine sA_if_eq (tgt := 31) dd_X0_fullTurns_25 (by decide) (by omega) (fun q24 => ?_) (fun q24 => ?_)
        · skip
          refine sA_iinc (lv' := [(2, gs_iv (m + 1)), (0, .ref 15), (1, .ref a)]) dd_X0_fullTurns_31 (.head _) (by decide) rfl ?_
          refine sA_goto (tgt := 2) dd_X0_fullTurns_34 (by decide) ?_
          have b25 := gs_row_sz hr I21
          refine sA_sub (lv2 := [(2, gs_iv (m + 1)), (0, .ref 15), (1, .ref a)]) (List.forall_mem_cons.mpr ⟨(.head _), (List.forall_mem_cons.mpr ⟨(.tail _ (.head _)), (List.forall_mem_cons.mpr ⟨(.tail _ (.tail _ (.head _))), (fun _ h => absurd h List.not_mem_nil)⟩)⟩)⟩) ?_
          exact ih (m + 1) F15 A16 I21 f23 (by omega) (by omega)
        · skip
          refine sA_iload_n dd_X0_fullTurns_28 rfl (.head _) ?_
          refine sA_ineg dd_X0_fullTurns_29 ?_
          refine sA_iret (z := -m) dd_X0_fullTurns_30 rfl ?_
          exact ⟨_, rfl, I21, f23, by omega⟩
      · skip
        refine sA_iload_n dd_X0_fullTurns_16 rfl (.head _) ?_
        refine sA_iret (z := m) dd_X0_fullTurns_17 rfl ?_
        exact ⟨_, rfl, I10, f12, by omega⟩
theorem c_X0_fullTurns {a L : Nat} {F A : gs_F} (hI : gs_I F A) (hr : gs_row a L) : sC m_X0_fullTurns 4 [.ref 15, .ref a] F A (fun rv F' A' => ∃ z : Int, rv = some (gs_iv z) ∧ gs_I F' A' ∧ gs_fr (fun c j => c = a ∧ j = 1) (fun c => c = a + 1) F A F' A' ∧ (-100 ≤ z ∧ z ≤ 100)) := by
  refine sC_of ok_X0_fullTurns.1 (Nat.le_of_ble_eq_true rfl) ?_
  show sA _ _ _ 0 [(0, .ref 15), (1, .ref a)] [] F A
  have hf : gs_fr (fun c j => c = a ∧ j = 1) (fun c => c = a + 1) F A F A := gs_fr_refl _ _ _ _
  have b26 := gs_row_sz hr hI
  refine sA_iconst (z := 0) dd_X0_fullTurns_0 ?_
  refine sA_istore_n (lv' := [(2, gs_iv 0), (0, .ref 15), (1, .ref a)]) dd_X0_fullTurns_1 rfl (by decide) rfl ?_
  refine sA_sub (lv2 := [(2, gs_iv 0), (0, .ref 15), (1, .ref a)]) (List.forall_mem_cons.mpr ⟨(.head _), (List.forall_mem_cons.mpr ⟨(.tail _ (.head _)), (List.forall_mem_cons.mpr ⟨(.tail _ (.tail _ (.head _))), (fun _ h => absurd h List.not_mem_nil)⟩)⟩)⟩) ?_
  exact (k_X0_fullTurns hI hr (6 - 0 : Int).toNat.succ) 0 F A hI hf (by omega) (by omega)
theorem dd_J6_bitCount_0f7a4_0 : decode cJ6_bitCount_0f7a4 0 = .ok (.iload_n 0, 1) := by decide +kernel
theorem dd_J6_bitCount_0f7a4_1 : decode cJ6_bitCount_0f7a4 1 = .ok (.iload_n 0, 1) := by decide +kernel
theorem dd_J6_bitCount_0f7a4_2 : decode cJ6_bitCount_0f7a4 2 = .ok (.iconst 1, 1) := by decide +kernel
theorem dd_J6_bitCount_0f7a4_3 : decode cJ6_bitCount_0f7a4 3 = .ok (.iushr, 1) := by decide +kernel
theorem dd_J6_bitCount_0f7a4_4 : decode cJ6_bitCount_0f7a4 4 = .ok (.ldc_w 265, 3) := by decide +kernel
theorem dd_J6_bitCount_0f7a4_7 : decode cJ6_bitCount_0f7a4 7 = .ok (.iand, 1) := by decide +kernel
theorem dd_J6_bitCount_0f7a4_8 : decode cJ6_bitCount_0f7a4 8 = .ok (.isub, 1) := by decide +kernel
theorem dd_J6_bitCount_0f7a4_9 : decode cJ6_bitCount_0f7a4 9 = .ok (.istore_n 0, 1) := by decide +kernel
theorem dd_J6_bitCount_0f7a4_10 : decode cJ6_bitCount_0f7a4 10 = .ok (.iload_n 0, 1) := by decide +kernel
theorem dd_J6_bitCount_0f7a4_11 : decode cJ6_bitCount_0f7a4 11 = .ok (.ldc_w 266, 3) := by decide +kernel
theorem dd_J6_bitCount_0f7a4_14 : decode cJ6_bitCount_0f7a4 14 = .ok (.iand, 1) := by decide +kernel
theorem dd_J6_bitCount_0f7a4_15 : decode cJ6_bitCount_0f7a4 15 = .ok (.iload_n 0, 1) := by decide +kernel
theorem dd_J6_bitCount_0f7a4_16 : decode cJ6_bitCount_0f7a4 16 = .ok (.iconst 2, 1) := by decide +kernel
theorem dd_J6_bitCount_0f7a4_17 : decode cJ6_bitCount_0f7a4 17 = .ok (.iushr, 1) := by decide +kernel
theorem dd_J6_bitCount_0f7a4_18 : decode cJ6_bitCount_0f7a4 18 = .ok (.ldc_w 266, 3) := by decide +kernel
theorem dd_J6_bitCount_0f7a4_21 : decode cJ6_bitCount_0f7a4 21 = .ok (.iand, 1) := by decide +kernel
theorem dd_J6_bitCount_0f7a4_22 : decode cJ6_bitCount_0f7a4 22 = .ok (.iadd, 1) := by decide +kernel
theorem dd_J6_bitCount_0f7a4_23 : decode cJ6_bitCount_0f7a4 23 = .ok (.istore_n 0, 1) := by decide +kernel
theorem dd_J6_bitCount_0f7a4_24 : decode cJ6_bitCount_0f7a4 24 = .ok (.iload_n 0, 1) := by decide +kernel
theorem dd_J6_bitCount_0f7a4_25 : decode cJ6_bitCount_0f7a4 25 = .ok (.iload_n 0, 1) := by decide +kernel
theorem dd_J6_bitCount_0f7a4_26 : decode cJ6_bitCount_0f7a4 26 = .ok (.iconst 4, 1) := by decide +kernel
theorem dd_J6_bitCount_0f7a4_27 : decode cJ6_bitCount_0f7a4 27 = .ok (.iushr, 1) := by decide +kernel
theorem dd_J6_bitCount_0f7a4_28 : decode cJ6_bitCount_0f7a4 28 = .ok (.iadd, 1) := by decide +kernel
theorem dd_J6_bitCount_0f7a4_29 : decode cJ6_bitCount_0f7a4 29 = .ok (.ldc_w 267, 3) := by decide +kernel
theorem dd_J6_bitCount_0f7a4_32 : decode cJ6_bitCount_0f7a4 32 = .ok (.iand, 1) := by decide +kernel
theorem dd_J6_bitCount_0f7a4_33 : decode cJ6_bitCount_0f7a4 33 = .ok (.istore_n 0, 1) := by decide +kernel
theorem dd_J6_bitCount_0f7a4_34 : decode cJ6_bitCount_0f7a4 34 = .ok (.iload_n 0, 1) := by decide +kernel
theorem dd_J6_bitCount_0f7a4_35 : decode cJ6_bitCount_0f7a4 35 = .ok (.iload_n 0, 1) := by decide +kernel
theorem dd_J6_bitCount_0f7a4_36 : decode cJ6_bitCount_0f7a4 36 = .ok (.bipush 8, 2) := by decide +kernel
theorem dd_J6_bitCount_0f7a4_38 : decode cJ6_bitCount_0f7a4 38 = .ok (.iushr, 1) := by decide +kernel
theorem dd_J6_bitCount_0f7a4_39 : decode cJ6_bitCount_0f7a4 39 = .ok (.iadd, 1) := by decide +kernel
theorem dd_J6_bitCount_0f7a4_40 : decode cJ6_bitCount_0f7a4 40 = .ok (.istore_n 0, 1) := by decide +kernel
theorem dd_J6_bitCount_0f7a4_41 : decode cJ6_bitCount_0f7a4 41 = .ok (.iload_n 0, 1) := by decide +kernel
theorem dd_J6_bitCount_0f7a4_42 : decode cJ6_bitCount_0f7a4 42 = .ok (.iload_n 0, 1) := by decide +kernel
theorem dd_J6_bitCount_0f7a4_43 : decode cJ6_bitCount_0f7a4 43 = .ok (.bipush 16, 2) := by decide +kernel
theorem dd_J6_bitCount_0f7a4_45 : decode cJ6_bitCount_0f7a4 45 = .ok (.iushr, 1) := by decide +kernel
theorem dd_J6_bitCount_0f7a4_46 : decode cJ6_bitCount_0f7a4 46 = .ok (.iadd, 1) := by decide +kernel
theorem dd_J6_bitCount_0f7a4_47 : decode cJ6_bitCount_0f7a4 47 = .ok (.istore_n 0, 1) := by decide +kernel
theorem dd_J6_bitCount_0f7a4_48 : decode cJ6_bitCount_0f7a4 48 = .ok (.iload_n 0, 1) := by decide +kernel
theorem dd_J6_bitCount_0f7a4_49 : decode cJ6_bitCount_0f7a4 49 = .ok (.bipush 63, 2) := by decide +kernel
theorem dd_J6_bitCount_0f7a4_51 : decode cJ6_bitCount_0f7a4 51 = .ok (.iand, 1) := by decide +kernel
theorem dd_J6_bitCount_0f7a4_52 : decode cJ6_bitCount_0f7a4 52 = .ok (.ireturn, 1) := by decide +kernel
theorem ok_J6_bitCount_0f7a4 : am_okM m_J6_bitCount_0f7a4 1 ∧ Cond.static m_J6_bitCount_0f7a4.1 ∈ am_tbl := ri_mk0 689 94 688 0 (by decide +kernel)
theorem c_J6_bitCount_0f7a4 {x : Int} {F A : gs_F} (hx : -2147483648 ≤ x ∧ x ≤ 2147483647) : sC m_J6_bitCount_0f7a4 1 [gs_iv x] F A (fun rv F' A' => ∃ z : Int, rv = some (gs_iv z) ∧ F = F' ∧ A = A' ∧ (-2147483648 ≤ z ∧ z ≤ 2147483647)) := by
  refine sC_of ok_J6_bitCount_0f7a4.1 (Nat.le_of_ble_eq_true rfl) ?_
  show sA _ _ _ 0 [(0, gs_iv x)] [] F A
  refine sA_iload_n dd_J6_bitCount_0f7a4_0 rfl (.head _) ?_
  refine sA_iload_n dd_J6_bitCount_0f7a4_1 rfl (.head _) ?_
  refine sA_iconst (z := 1) dd_J6_bitCount_0f7a4_2 ?_
  refine sA_iushr dd_J6_bitCount_0f7a4_3 ?_
  have b1 := gs_t_rng (((Int32.ofInt x).toUInt32 >>> ((Int32.ofInt 1).toUInt32 &&& Int32.toUInt32 31)).toInt32)
  generalize gs_t (((Int32.ofInt x).toUInt32 >>> ((Int32.ofInt 1).toUInt32 &&& Int32.toUInt32 31)).toInt32) = w2 at b1 ⊢
  refine sA_ldcw (z := 1431655765) dd_J6_bitCount_0f7a4_4 (ri_lw_in (pl := 690) (by decide +kernel)) ?_
  refine sA_iand dd_J6_bitCount_0f7a4_7 ?_
  have b3 := gs_t_rng (Int32.ofInt w2 &&& Int32.ofInt 1431655765)
  generalize gs_t (Int32.ofInt w2 &&& Int32.ofInt 1431655765) = w4 at b3 ⊢
  refine sA_isub dd_J6_bitCount_0f7a4_8 ?_
  refine sA_istore_n (lv' := [(0, gs_iv (x - w4))]) dd_J6_bitCount_0f7a4_9 rfl (by decide) rfl ?_
  refine sA_iload_n dd_J6_bitCount_0f7a4_10 rfl (.head _) ?_
  refine sA_ldcw (z := 858993459) dd_J6_bitCount_0f7a4_11 (ri_lw_in (pl := 691) (by decide +kernel)) ?_
  refine sA_iand dd_J6_bitCount_0f7a4_14 ?_
  have b5 := gs_t_rng (Int32.ofInt (x - w4) &&& Int32.ofInt 858993459)
  generalize gs_t (Int32.ofInt (x - w4) &&& Int32.ofInt 858993459) = w6 at b5 ⊢
  refine sA_iload_n dd_J6_bitCount_0f7a4_15 rfl (.head _) ?_
  refine sA_iconst (z := 2) dd_J6_bitCount_0f7a4_16 ?_
  refine sA_iushr dd_J6_bitCount_0f7a4_17 ?_
  have b7 := gs_t_rng (((Int32.ofInt (x - w4)).toUInt32 >>> ((Int32.ofInt 2).toUInt32 &&& Int32.toUInt32 31)).toInt32)
  generalize gs_t (((Int32.ofInt (x - w4)).toUInt32 >>> ((Int32.ofInt 2).toUInt32 &&& Int32.toUInt32 31)).toInt32) = w8 at b7 ⊢
  refine sA_ldcw (z := 858993459) dd_J6_bitCount_0f7a4_18 (ri_lw_in (pl := 691) (by decide +kernel)) ?_
  refine sA_iand dd_J6_bitCount_0f7a4_21 ?_
  have b9 := gs_t_rng (Int32.ofInt w8 &&& Int32.ofInt 858993459)
  generalize gs_t (Int32.ofInt w8 &&& Int32.ofInt 858993459) = w10 at b9 ⊢
  refine sA_iadd dd_J6_bitCount_0f7a4_22 ?_
  refine sA_istore_n (lv' := [(0, gs_iv (w6 + w10))]) dd_J6_bitCount_0f7a4_23 rfl (by decide) rfl ?_
  refine sA_iload_n dd_J6_bitCount_0f7a4_24 rfl (.head _) ?_
  refine sA_iload_n dd_J6_bitCount_0f7a4_25 rfl (.head _) ?_
  refine sA_iconst (z := 4) dd_J6_bitCount_0f7a4_26 ?_
  refine sA_iushr dd_J6_bitCount_0f7a4_27 ?_
  have b11 := gs_t_rng (((Int32.ofInt (w6 + w10)).toUInt32 >>> ((Int32.ofInt 4).toUInt32 &&& Int32.toUInt32 31)).toInt32)
  generalize gs_t (((Int32.ofInt (w6 + w10)).toUInt32 >>> ((Int32.ofInt 4).toUInt32 &&& Int32.toUInt32 31)).toInt32) = w12 at b11 ⊢
  refine sA_iadd dd_J6_bitCount_0f7a4_28 ?_
  refine sA_ldcw (z := 252645135) dd_J6_bitCount_0f7a4_29 (ri_lw_in (pl := 692) (by decide +kernel)) ?_
  refine sA_iand dd_J6_bitCount_0f7a4_32 ?_
  have b13 := gs_t_rng (Int32.ofInt ((w6 + w10) + w12) &&& Int32.ofInt 252645135)
  generalize gs_t (Int32.ofInt ((w6 + w10) + w12) &&& Int32.ofInt 252645135) = w14 at b13 ⊢
  refine sA_istore_n (lv' := [(0, gs_iv w14)]) dd_J6_bitCount_0f7a4_33 rfl (by decide) rfl ?_
  refine sA_iload_n dd_J6_bitCount_0f7a4_34 rfl (.head _) ?_
  refine sA_iload_n dd_J6_bitCount_0f7a4_35 rfl (.head _) ?_
  refine sA_bipush (z := 8) dd_J6_bitCount_0f7a4_36 (by decide) ?_
  refine sA_iushr dd_J6_bitCount_0f7a4_38 ?_
  have b15 := gs_t_rng (((Int32.ofInt w14).toUInt32 >>> ((Int32.ofInt 8).toUInt32 &&& Int32.toUInt32 31)).toInt32)
  generalize gs_t (((Int32.ofInt w14).toUInt32 >>> ((Int32.ofInt 8).toUInt32 &&& Int32.toUInt32 31)).toInt32) = w16 at b15 ⊢
  refine sA_iadd dd_J6_bitCount_0f7a4_39 ?_
  refine sA_istore_n (lv' := [(0, gs_iv (w14 + w16))]) dd_J6_bitCount_0f7a4_40 rfl (by decide) rfl ?_
  refine sA_iload_n dd_J6_bitCount_0f7a4_41 rfl (.head _) ?_
  refine sA_iload_n dd_J6_bitCount_0f7a4_42 rfl (.head _) ?_
  refine sA_bipush (z := 16) dd_J6_bitCount_0f7a4_43 (by decide) ?_
  refine sA_iushr dd_J6_bitCount_0f7a4_45 ?_
  have b17 := gs_t_rng (((Int32.ofInt (w14 + w16)).toUInt32 >>> ((Int32.ofInt 16).toUInt32 &&& Int32.toUInt32 31)).toInt32)
  generalize gs_t (((Int32.ofInt (w14 + w16)).toUInt32 >>> ((Int32.ofInt 16).toUInt32 &&& Int32.toUInt32 31)).toInt32) = w18 at b17 ⊢
  refine sA_iadd dd_J6_bitCount_0f7a4_46 ?_
  refine sA_istore_n (lv' := [(0, gs_iv ((w14 + w16) + w18))]) dd_J6_bitCount_0f7a4_47 rfl (by decide) rfl ?_
  refine sA_iload_n dd_J6_bitCount_0f7a4_48 rfl (.head _) ?_
  refine sA_bipush (z := 63) dd_J6_bitCount_0f7a4_49 (by decide) ?_
  refine sA_iand dd_J6_bitCount_0f7a4_51 ?_
  have b19 := gs_t_rng (Int32.ofInt ((w14 + w16) + w18) &&& Int32.ofInt 63)
  generalize gs_t (Int32.ofInt ((w14 + w16) + w18) &&& Int32.ofInt 63) = w20 at b19 ⊢
  refine sA_iret (z := w20) dd_J6_bitCount_0f7a4_52 rfl ?_
  exact ⟨_, rfl, rfl, rfl, by omega⟩
theorem dd_X0_corner_0 : decode cX0_corner 0 = .ok (.iload_n 1, 1) := by decide +kernel
theorem dd_X0_corner_1 : decode cX0_corner 1 = .ok (.bipush 6, 2) := by decide +kernel
theorem dd_X0_corner_3 : decode cX0_corner 3 = .ok (.if_icmp .lt 5, 3) := by decide +kernel
theorem dd_X0_corner_6 : decode cX0_corner 6 = .ok (.lconst 1, 1) := by decide +kernel
theorem dd_X0_corner_7 : decode cX0_corner 7 = .ok (.lreturn, 1) := by decide +kernel
theorem ok_X0_corner : am_okM m_X0_corner 4 ∧ Cond.static m_X0_corner.1 ∈ am_tbl := ri_mk0 695 87 694 0 (by decide +kernel)
theorem c_X0_corner_v6 {rs cs : Int} {F A : gs_F} (hI : gs_I F A) (h1 : -2147483648 ≤ rs ∧ rs ≤ 2147483647) (h2 : -2147483648 ≤ cs ∧ cs ≤ 2147483647) : sC m_X0_corner 1 [.ref 17, gs_iv 6, gs_iv rs, gs_iv cs] F A (fun rv F' A' => ∃ z : Int64, rv = some (.long z) ∧ F = F' ∧ A = A' ∧ (True)) := by
  refine sC_of ok_X0_corner.1 (Nat.le_of_ble_eq_true rfl) ?_
  show sA _ _ _ 0 [(0, .ref 17), (1, gs_iv 6), (2, gs_iv rs), (3, gs_iv cs)] [] F A
  refine sA_iload_n dd_X0_corner_0 rfl (.tail _ (.head _)) ?_
  refine sA_bipush (z := 6) dd_X0_corner_1 (by decide) ?_
  refine sA_icmp_lt (tgt := 8) dd_X0_corner_3 (by decide) (by omega) (by omega) (fun q1 => absurd q1 (by omega)) (fun q1 => ?_)
  refine sA_lconst (z := 1) dd_X0_corner_6 (by decide) ?_
  refine sA_lret dd_X0_corner_7 rfl ?_
  exact ⟨_, rfl, rfl, rfl, trivial⟩
theorem dd_X0_corner_8 : decode cX0_corner 8 = .ok (.iload_n 2, 1) := by decide +kernel
theorem dd_X0_corner_9 : decode cX0_corner 9 = .ok (.iload_n 1, 1) := by decide +kernel
theorem dd_X0_corner_10 : decode cX0_corner 10 = .ok (.ishr, 1) := by decide +kernel
theorem dd_X0_corner_11 : decode cX0_corner 11 = .ok (.iconst 1, 1) := by decide +kernel
theorem dd_X0_corner_12 : decode cX0_corner 12 = .ok (.iand, 1) := by decide +kernel
theorem dd_X0_corner_13 : decode cX0_corner 13 = .ok (.ifCond .ne 13, 3) := by decide +kernel
theorem dd_X0_corner_16 : decode cX0_corner 16 = .ok (.aload_n 0, 1) := by decide +kernel
theorem dd_X0_corner_17 : decode cX0_corner 17 = .ok (.iload_n 1, 1) := by decide +kernel
theorem dd_X0_corner_18 : decode cX0_corner 18 = .ok (.iconst 1, 1) := by decide +kernel
theorem dd_X0_corner_19 : decode cX0_corner 19 = .ok (.iadd, 1) := by decide +kernel
theorem dd_X0_corner_20 : decode cX0_corner 20 = .ok (.iload_n 2, 1) := by decide +kernel
theorem dd_X0_corner_21 : decode cX0_corner 21 = .ok (.iload_n 3, 1) := by decide +kernel
theorem dd_X0_corner_22 : decode cX0_corner 22 = .ok (.invokestatic 76, 3) := by decide +kernel
theorem dd_X0_corner_25 : decode cX0_corner 25 = .ok (.lreturn, 1) := by decide +kernel
theorem dd_X0_corner_26 : decode cX0_corner 26 = .ok (.lconst 0, 1) := by decide +kernel
theorem dd_X0_corner_27 : decode cX0_corner 27 = .ok (.lstore 4, 2) := by decide +kernel
theorem dd_X0_corner_29 : decode cX0_corner 29 = .ok (.iconst 1, 1) := by decide +kernel
theorem dd_X0_corner_30 : decode cX0_corner 30 = .ok (.istore 6, 2) := by decide +kernel
theorem dd_X0_corner_32 : decode cX0_corner 32 = .ok (.iconst 0, 1) := by decide +kernel
theorem dd_X0_corner_33 : decode cX0_corner 33 = .ok (.istore 7, 2) := by decide +kernel
theorem dd_X0_corner_35 : decode cX0_corner 35 = .ok (.iload 7, 2) := by decide +kernel
theorem dd_X0_corner_37 : decode cX0_corner 37 = .ok (.bipush 6, 2) := by decide +kernel
theorem dd_X0_corner_39 : decode cX0_corner 39 = .ok (.if_icmp .ge 68, 3) := by decide +kernel
theorem dd_X0_corner_42 : decode cX0_corner 42 = .ok (.iload_n 3, 1) := by decide +kernel
theorem dd_X0_corner_43 : decode cX0_corner 43 = .ok (.iload 7, 2) := by decide +kernel
theorem dd_X0_corner_45 : decode cX0_corner 45 = .ok (.ishr, 1) := by decide +kernel
theorem dd_X0_corner_46 : decode cX0_corner 46 = .ok (.iconst 1, 1) := by decide +kernel
theorem dd_X0_corner_47 : decode cX0_corner 47 = .ok (.iand, 1) := by decide +kernel
theorem dd_X0_corner_48 : decode cX0_corner 48 = .ok (.ifCond .eq 53, 3) := by decide +kernel
theorem dd_X0_corner_51 : decode cX0_corner 51 = .ok (.aload_n 0, 1) := by decide +kernel
theorem dd_X0_corner_52 : decode cX0_corner 52 = .ok (.iload_n 1, 1) := by decide +kernel
theorem dd_X0_corner_53 : decode cX0_corner 53 = .ok (.bipush 6, 2) := by decide +kernel
theorem dd_X0_corner_55 : decode cX0_corner 55 = .ok (.imul, 1) := by decide +kernel
theorem dd_X0_corner_56 : decode cX0_corner 56 = .ok (.iload 7, 2) := by decide +kernel
theorem dd_X0_corner_58 : decode cX0_corner 58 = .ok (.iadd, 1) := by decide +kernel
theorem dd_X0_corner_59 : decode cX0_corner 59 = .ok (.iaload, 1) := by decide +kernel
theorem dd_X0_corner_60 : decode cX0_corner 60 = .ok (.istore 8, 2) := by decide +kernel
theorem dd_X0_corner_62 : decode cX0_corner 62 = .ok (.iload 8, 2) := by decide +kernel
theorem dd_X0_corner_64 : decode cX0_corner 64 = .ok (.ifCond .eq 32, 3) := by decide +kernel
theorem dd_X0_corner_67 : decode cX0_corner 67 = .ok (.lload 4, 2) := by decide +kernel
theorem dd_X0_corner_69 : decode cX0_corner 69 = .ok (.iload 6, 2) := by decide +kernel
theorem dd_X0_corner_71 : decode cX0_corner 71 = .ok (.i2l, 1) := by decide +kernel
theorem dd_X0_corner_72 : decode cX0_corner 72 = .ok (.iload 8, 2) := by decide +kernel
theorem dd_X0_corner_74 : decode cX0_corner 74 = .ok (.i2l, 1) := by decide +kernel
theorem dd_X0_corner_75 : decode cX0_corner 75 = .ok (.lmul, 1) := by decide +kernel
theorem dd_X0_corner_76 : decode cX0_corner 76 = .ok (.aload_n 0, 1) := by decide +kernel
theorem dd_X0_corner_77 : decode cX0_corner 77 = .ok (.iload_n 1, 1) := by decide +kernel
theorem dd_X0_corner_78 : decode cX0_corner 78 = .ok (.iconst 1, 1) := by decide +kernel
theorem dd_X0_corner_79 : decode cX0_corner 79 = .ok (.iadd, 1) := by decide +kernel
theorem dd_X0_corner_80 : decode cX0_corner 80 = .ok (.iload_n 2, 1) := by decide +kernel
theorem dd_X0_corner_81 : decode cX0_corner 81 = .ok (.iload_n 3, 1) := by decide +kernel
theorem dd_X0_corner_82 : decode cX0_corner 82 = .ok (.iconst 1, 1) := by decide +kernel
theorem dd_X0_corner_83 : decode cX0_corner 83 = .ok (.iload 7, 2) := by decide +kernel
theorem dd_X0_corner_85 : decode cX0_corner 85 = .ok (.ishl, 1) := by decide +kernel
theorem dd_X0_corner_86 : decode cX0_corner 86 = .ok (.iconst (-1), 1) := by decide +kernel
theorem dd_X0_corner_87 : decode cX0_corner 87 = .ok (.ixor, 1) := by decide +kernel
theorem dd_X0_corner_88 : decode cX0_corner 88 = .ok (.iand, 1) := by decide +kernel
theorem dd_X0_corner_89 : decode cX0_corner 89 = .ok (.invokestatic 76, 3) := by decide +kernel
theorem dd_X0_corner_92 : decode cX0_corner 92 = .ok (.lmul, 1) := by decide +kernel
theorem dd_X0_corner_93 : decode cX0_corner 93 = .ok (.ladd, 1) := by decide +kernel
theorem dd_X0_corner_94 : decode cX0_corner 94 = .ok (.lstore 4, 2) := by decide +kernel
theorem dd_X0_corner_96 : decode cX0_corner 96 = .ok (.iload 6, 2) := by decide +kernel
theorem dd_X0_corner_98 : decode cX0_corner 98 = .ok (.ineg, 1) := by decide +kernel
theorem dd_X0_corner_99 : decode cX0_corner 99 = .ok (.istore 6, 2) := by decide +kernel
theorem dd_X0_corner_101 : decode cX0_corner 101 = .ok (.iinc 7 1, 3) := by decide +kernel
theorem dd_X0_corner_104 : decode cX0_corner 104 = .ok (.goto (-69), 3) := by decide +kernel
theorem dd_X0_corner_107 : decode cX0_corner 107 = .ok (.lload 4, 2) := by decide +kernel
theorem dd_X0_corner_109 : decode cX0_corner 109 = .ok (.lreturn, 1) := by decide +kernel
theorem gs_s17 : gs_sh 17 = .inr (.inl (0, 36)) := rfl
theorem ml_X0_76 : Cond.methodLink RX0 76 m_X0_corner.1 ∈ am_tbl := ri_lw_in (pl := 693) (by decide +kernel)
theorem k_X0_corner_v5 {rs cs : Int} {F A : gs_F} (hI : gs_I F A) (h1 : -2147483648 ≤ rs ∧ rs ≤ 2147483647) (h2 : -2147483648 ≤ cs ∧ cs ≤ 2147483647) : ∀ nN : Nat, (∀ (s : Int64) (sg : Int) (y : Int),  0 ≤ y ∧ y ≤ 6 → sg = 1 ∨ sg = -1 → 6 - y < (nN : Int) → sA m_X0_corner 2 (fun rv F' A' => ∃ z : Int64, rv = some (.long z) ∧ F = F' ∧ A = A' ∧ (True)) 35 [(7, gs_iv y), (6, gs_iv sg), (4, .long s), (0, .ref 17), (1, gs_iv 5), (2, gs_iv rs), (3, gs_iv cs)] [] F A) := by
  intro nN
  induction nN with
  | zero =>
    exact fun a0 a1 a2 i0 i1 hm => by exfalso; omega
  | succ nN ih =>
    intro s sg y i0 i1 hm
    refine sA_iload dd_X0_corner_35 (.head _) ?_
    refine sA_bipush (z := 6) dd_X0_corner_37 (by decide) ?_
    refine sA_icmp_ge (tgt := 107) dd_X0_corner_39 (by decide) (by omega) (by omega) (fun q1 => ?_) (fun q1 => ?_)
    · skip
      refine sA_lload dd_X0_corner_107 (.tail _ (.tail _ (.head _))) ?_
      refine sA_lret dd_X0_corner_109 rfl ?_
      exact ⟨_, rfl, rfl, rfl, trivial⟩
    · skip
      refine sA_iload_n dd_X0_corner_42 rfl (.tail _ (.tail _ (.tail _ (.tail _ (.tail _ (.tail _ (.head _))))))) ?_
      refine sA_iload dd_X0_corner_43 (.head _) ?_
      refine sA_ishr dd_X0_corner_45 ?_
      have b2 := gs_t_rng (Int32.ofInt cs >>> (Int32.ofInt y &&& 31))
      generalize gs_t (Int32.ofInt cs >>> (Int32.ofInt y &&& 31)) = w3 at b2 ⊢
      refine sA_iconst (z := 1) dd_X0_corner_46 ?_
      refine sA_iand dd_X0_corner_47 ?_
      have b4 := gs_t_rng (Int32.ofInt w3 &&& Int32.ofInt 1)
      generalize gs_t (Int32.ofInt w3 &&& Int32.ofInt 1) = w5 at b4 ⊢
      refine sA_if_eq (tgt := 101) dd_X0_corner_48 (by decide) (by omega) (fun q6 => ?_) (fun q6 => ?_)
      · skip
        refine sA_iinc (lv' := [(7, gs_iv (y + 1)), (6, gs_iv sg), (4, .long s), (0, .ref 17), (1, gs_iv 5), (2, gs_iv rs), (3, gs_iv cs)]) dd_X0_corner_101 (.head _) (by decide) rfl ?_
        refine sA_goto (tgt := 35) dd_X0_corner_104 (by decide) ?_
        refine sA_sub (lv2 := [(7, gs_iv (y + 1)), (6, gs_iv sg), (4, .long s), (0, .ref 17), (1, gs_iv 5), (2, gs_iv rs), (3, gs_iv cs)]) (List.forall_mem_cons.mpr ⟨(.head _), (List.forall_mem_cons.mpr ⟨(.tail _ (.head _)), (List.forall_mem_cons.mpr ⟨(.tail _ (.tail _ (.head _))), (List.forall_mem_cons.mpr ⟨(.tail _ (.tail _ (.tail _ (.head _)))), (List.forall_mem_cons.mpr ⟨(.tail _ (.tail _ (.tail _ (.tail _ (.head _))))), (List.forall_mem_cons.mpr ⟨(.tail _ (.tail _ (.tail _ (.tail _ (.tail _ (.head _)))))), (List.forall_mem_cons.mpr ⟨(.tail _ (.tail _ (.tail _ (.tail _ (.tail _ (.tail _ (.head _))))))), (fun _ h => absurd h List.not_mem_nil)⟩)⟩)⟩)⟩)⟩)⟩)⟩) ?_
        exact ih s sg (y + 1)  (by omega) (by omega) (by omega)
      · skip
        refine sA_aload_n dd_X0_corner_51 rfl (.tail _ (.tail _ (.tail _ (.head _)))) ?_
        refine sA_iload_n dd_X0_corner_52 rfl (.tail _ (.tail _ (.tail _ (.tail _ (.head _))))) ?_
        refine sA_bipush (z := 6) dd_X0_corner_53 (by decide) ?_
        refine sA_imul dd_X0_corner_55 ?_
        show sA _ _ _ _ _ (gs_iv 30 :: _) _ _
        refine sA_iload dd_X0_corner_56 (.head _) ?_
        refine sA_iadd dd_X0_corner_58 ?_
        refine sA_iald (n := 36) dd_X0_corner_59 (by decide) gs_s17 (by omega) (by decide) ?_
        have b7 : (-2147483648 : Int) ≤ A 17 (30 + y).toNat ∧ A 17 (30 + y).toNat ≤ 2147483647 := hI.2 17 (30 + y).toNat
        refine sA_istore (lv' := [(8, gs_iv (A 17 (30 + y).toNat)), (7, gs_iv y), (6, gs_iv sg), (4, .long s), (0, .ref 17), (1, gs_iv 5), (2, gs_iv rs), (3, gs_iv cs)]) dd_X0_corner_60 (by decide) rfl ?_
        refine sA_iload dd_X0_corner_62 (.head _) ?_
        refine sA_if_eq (tgt := 96) dd_X0_corner_64 (by decide) (by omega) (fun q8 => ?_) (fun q8 => ?_)
        · skip
          refine sA_iload dd_X0_corner_96 (.tail _ (.tail _ (.head _))) ?_
          refine sA_ineg dd_X0_corner_98 ?_
          refine sA_istore (lv' := [(6, gs_iv (-sg)), (8, gs_iv (A 17 (30 + y).toNat)), (7, gs_iv y), (4, .long s), (0, .ref 17), (1, gs_iv 5), (2, gs_iv rs), (3, gs_iv cs)]) dd_X0_corner_99 (by decide) rfl ?_
          refine sA_iinc (lv' := [(7, gs_iv (y + 1)), (6, gs_iv (-sg)), (8, gs_iv (A 17 (30 + y).toNat)), (4, .long s), (0, .ref 17), (1, gs_iv 5), (2, gs_iv rs), (3, gs_iv cs)]) dd_X0_corner_101 (.tail _ (.tail _ (.head _))) (by decide) rfl ?_
          refine sA_goto (tgt := 35) dd_X0_corner_104 (by decide) ?_
          refine sA_sub (lv2 := [(7, gs_iv (y + 1)), (6, gs_iv (-sg)), (4, .long s), (0, .ref 17), (1, gs_iv 5), (2, gs_iv rs), (3, gs_iv cs)]) (List.forall_mem_cons.mpr ⟨(.head _), (List.forall_mem_cons.mpr ⟨(.tail _ (.head _)), (List.forall_mem_cons.mpr ⟨(.tail _ (.tail _ (.tail _ (.head _)))), (List.forall_mem_cons.mpr ⟨(.tail _ (.tail _ (.tail _ (.tail _ (.head _))))), (List.forall_mem_cons.mpr ⟨(.tail _ (.tail _ (.tail _ (.tail _ (.tail _ (.head _)))))), (List.forall_mem_cons.mpr ⟨(.tail _ (.tail _ (.tail _ (.tail _ (.tail _ (.tail _ (.head _))))))), (List.forall_mem_cons.mpr ⟨(.tail _ (.tail _ (.tail _ (.tail _ (.tail _ (.tail _ (.tail _ (.head _)))))))), (fun _ h => absurd h List.not_mem_nil)⟩)⟩)⟩)⟩)⟩)⟩)⟩) ?_
          exact ih s (-sg) (y + 1)  (by omega) (by omega) (by omega)
        · skip
          refine sA_lload dd_X0_corner_67 (.tail _ (.tail _ (.tail _ (.head _)))) ?_
          refine sA_iload dd_X0_corner_69 (.tail _ (.tail _ (.head _))) ?_
          refine sA_i2l dd_X0_corner_71 (by omega) ?_
          refine sA_iload dd_X0_corner_72 (.head _) ?_
          refine sA_i2l dd_X0_corner_74 (by omega) ?_
          refine sA_lmul dd_X0_corner_75 ?_
          refine sA_aload_n dd_X0_corner_76 rfl (.tail _ (.tail _ (.tail _ (.tail _ (.head _))))) ?_
          refine sA_iload_n dd_X0_corner_77 rfl (.tail _ (.tail _ (.tail _ (.tail _ (.tail _ (.head _)))))) ?_
          refine sA_iconst (z := 1) dd_X0_corner_78 ?_
          refine sA_iadd dd_X0_corner_79 ?_
          show sA _ _ _ _ _ (gs_iv 6 :: _) _ _
          refine sA_iload_n dd_X0_corner_80 rfl (.tail _ (.tail _ (.tail _ (.tail _ (.tail _ (.tail _ (.head _))))))) ?_
          refine sA_iload_n dd_X0_corner_81 rfl (.tail _ (.tail _ (.tail _ (.tail _ (.tail _ (.tail _ (.tail _ (.head _)))))))) ?_
          refine sA_iconst (z := 1) dd_X0_corner_82 ?_
          refine sA_iload dd_X0_corner_83 (.tail _ (.head _)) ?_
          refine sA_ishl dd_X0_corner_85 ?_
          have b9 := gs_t_rng (Int32.ofInt 1 <<< (Int32.ofInt y &&& 31))
          generalize gs_t (Int32.ofInt 1 <<< (Int32.ofInt y &&& 31)) = w10 at b9 ⊢
          refine sA_iconst (z := (-1)) dd_X0_corner_86 ?_
          refine sA_ixor dd_X0_corner_87 ?_
          have b11 := gs_t_rng (Int32.ofInt w10 ^^^ Int32.ofInt (-1))
          generalize gs_t (Int32.ofInt w10 ^^^ Int32.ofInt (-1)) = w12 at b11 ⊢
          refine sA_iand dd_X0_corner_88 ?_
          have b13 := gs_t_rng (Int32.ofInt cs &&& Int32.ofInt w12)
          generalize gs_t (Int32.ofInt cs &&& Int32.ofInt w12) = w14 at b13 ⊢
          refine sA_callS (y2 := m_X0_corner) (n2 := 4) (d2 := 1) (as := [.ref 17, gs_iv 6, gs_iv rs, gs_iv w14]) (rest := [gs_lv (sg * (A 17 (30 + y).toNat)), .long s]) dd_X0_corner_89 ok_X0_corner ml_X0_76 rfl rfl (Nat.le_of_ble_eq_true rfl) (by decide) (c_X0_corner_v6 hI (by omega) (by omega)) (fun r15 F16 A17 h18 => ?_)
          obtain ⟨z21, e20, e22, e23, x19⟩ := h18
          subst e20 e22 e23
          show sA _ _ _ 92 _ [.long z21, gs_lv (sg * (A 17 (30 + y).toNat)), .long s] _ _
          refine sA_lmulR dd_X0_corner_92 ?_
          refine sA_laddR dd_X0_corner_93 ?_
          refine sA_lstore (lv' := [(4, .long (s + ((Int64.ofInt (sg * (A 17 (30 + y).toNat))) * z21))), (8, gs_iv (A 17 (30 + y).toNat)), (7, gs_iv y), (6, gs_iv sg), (0, .ref 17), (1, gs_iv 5), (2, gs_iv rs), (3, gs_iv cs)]) dd_X0_corner_94 (by decide) rfl ?_
          refine sA_iload dd_X0_corner_96 (.tail _ (.tail _ (.tail _ (.head _)))) ?_
          refine sA_ineg dd_X0_corner_98 ?_
          refine sA_istore (lv' := [(6, gs_iv (-sg)), (4, .long (s + ((Int64.ofInt (sg * (A 17 (30 + y).toNat))) * z21))), (8, gs_iv (A 17 (30 + y).toNat)), (7, gs_iv y), (0, .ref 17), (1, gs_iv 5), (2, gs_iv rs), (3, gs_iv cs)]) dd_X0_corner_99 (by decide) rfl ?_
          refine sA_iinc (lv' := [(7, gs_iv (y + 1)), (6, gs_iv (-sg)), (4, .long (s + ((Int64.ofInt (sg * (A 17 (30 + y).toNat))) * z21))), (8, gs_iv (A 17 (30 + y).toNat)), (0, .ref 17), (1, gs_iv 5), (2, gs_iv rs), (3, gs_iv cs)]) dd_X0_corner_101 (.tail _ (.tail _ (.tail _ (.head _)))) (by decide) rfl ?_
          refine sA_goto (tgt := 35) dd_X0_corner_104 (by decide) ?_
          refine sA_sub (lv2 := [(7, gs_iv (y + 1)), (6, gs_iv (-sg)), (4, .long (s + ((Int64.ofInt (sg * (A 17 (30 + y).toNat))) * z21))), (0, .ref 17), (1, gs_iv 5), (2, gs_iv rs), (3, gs_iv cs)]) (List.forall_mem_cons.mpr ⟨(.head _), (List.forall_mem_cons.mpr ⟨(.tail _ (.head _)), (List.forall_mem_cons.mpr ⟨(.tail _ (.tail _ (.head _))), (List.forall_mem_cons.mpr ⟨(.tail _ (.tail _ (.tail _ (.tail _ (.head _))))), (List.forall_mem_cons.mpr ⟨(.tail _ (.tail _ (.tail _ (.tail _ (.tail _ (.head _)))))), (List.forall_mem_cons.mpr ⟨(.tail _ (.tail _ (.tail _ (.tail _ (.tail _ (.tail _ (.head _))))))), (List.forall_mem_cons.mpr ⟨(.tail _ (.tail _ (.tail _ (.tail _ (.tail _ (.tail _ (.tail _ (.head _)))))))), (fun _ h => absurd h List.not_mem_nil)⟩)⟩)⟩)⟩)⟩)⟩)⟩) ?_
          exact ih (s + ((Int64.ofInt (sg * (A 17 (30 + y).toNat))) * z21)) (-sg) (y + 1)  (by omega) (by omega) (by omega)
theorem c_X0_corner_v5 {rs cs : Int} {F A : gs_F} (hI : gs_I F A) (h1 : -2147483648 ≤ rs ∧ rs ≤ 2147483647) (h2 : -2147483648 ≤ cs ∧ cs ≤ 2147483647) : sC m_X0_corner 2 [.ref 17, gs_iv 5, gs_iv rs, gs_iv cs] F A (fun rv F' A' => ∃ z : Int64, rv = some (.long z) ∧ F = F' ∧ A = A' ∧ (True)) := by
  refine sC_of ok_X0_corner.1 (Nat.le_of_ble_eq_true rfl) ?_
  show sA _ _ _ 0 [(0, .ref 17), (1, gs_iv 5), (2, gs_iv rs), (3, gs_iv cs)] [] F A
  refine sA_iload_n dd_X0_corner_0 rfl (.tail _ (.head _)) ?_
  refine sA_bipush (z := 6) dd_X0_corner_1 (by decide) ?_
  refine sA_icmp_lt (tgt := 8) dd_X0_corner_3 (by decide) (by omega) (by omega) (fun q24 => ?_) (fun q24 => absurd q24 (by omega))
  refine sA_iload_n dd_X0_corner_8 rfl (.tail _ (.tail _ (.head _))) ?_
  refine sA_iload_n dd_X0_corner_9 rfl (.tail _ (.head _)) ?_
  refine sA_ishr dd_X0_corner_10 ?_
  have b25 := gs_t_rng (Int32.ofInt rs >>> (Int32.ofInt 5 &&& 31))
  generalize gs_t (Int32.ofInt rs >>> (Int32.ofInt 5 &&& 31)) = w26 at b25 ⊢
  refine sA_iconst (z := 1) dd_X0_corner_11 ?_
  refine sA_iand dd_X0_corner_12 ?_
  have b27 := gs_t_rng (Int32.ofInt w26 &&& Int32.ofInt 1)
  generalize gs_t (Int32.ofInt w26 &&& Int32.ofInt 1) = w28 at b27 ⊢
  refine sA_if_ne (tgt := 26) dd_X0_corner_13 (by decide) (by omega) (fun q29 => ?_) (fun q29 => ?_)
  · skip
    refine sA_lconst (z := 0) dd_X0_corner_26 (by decide) ?_
    refine sA_lstore (lv' := [(4, gs_lv 0), (0, .ref 17), (1, gs_iv 5), (2, gs_iv rs), (3, gs_iv cs)]) dd_X0_corner_27 (by decide) rfl ?_
    refine sA_iconst (z := 1) dd_X0_corner_29 ?_
    refine sA_istore (lv' := [(6, gs_iv 1), (4, gs_lv 0), (0, .ref 17), (1, gs_iv 5), (2, gs_iv rs), (3, gs_iv cs)]) dd_X0_corner_30 (by decide) rfl ?_
    refine sA_iconst (z := 0) dd_X0_corner_32 ?_
    refine sA_istore (lv' := [(7, gs_iv 0), (6, gs_iv 1), (4, gs_lv 0), (0, .ref 17), (1, gs_iv 5), (2, gs_iv rs), (3, gs_iv cs)]) dd_X0_corner_33 (by decide) rfl ?_
    refine sA_sub (lv2 := [(7, gs_iv 0), (6, gs_iv 1), (4, gs_lv 0), (0, .ref 17), (1, gs_iv 5), (2, gs_iv rs), (3, gs_iv cs)]) (List.forall_mem_cons.mpr ⟨(.head _), (List.forall_mem_cons.mpr ⟨(.tail _ (.head _)), (List.forall_mem_cons.mpr ⟨(.tail _ (.tail _ (.head _))), (List.forall_mem_cons.mpr ⟨(.tail _ (.tail _ (.tail _ (.head _)))), (List.forall_mem_cons.mpr ⟨(.tail _ (.tail _ (.tail _ (.tail _ (.head _))))), (List.forall_mem_cons.mpr ⟨(.tail _ (.tail _ (.tail _ (.tail _ (.tail _ (.head _)))))), (List.forall_mem_cons.mpr ⟨(.tail _ (.tail _ (.tail _ (.tail _ (.tail _ (.tail _ (.head _))))))), (fun _ h => absurd h List.not_mem_nil)⟩)⟩)⟩)⟩)⟩)⟩)⟩) ?_
    exact (k_X0_corner_v5 hI h1 h2 (6 - 0 : Int).toNat.succ) (Int64.ofInt 0) 1 0  (by omega) (by omega) (by omega)
  · skip
    refine sA_aload_n dd_X0_corner_16 rfl (.head _) ?_
    refine sA_iload_n dd_X0_corner_17 rfl (.tail _ (.head _)) ?_
    refine sA_iconst (z := 1) dd_X0_corner_18 ?_
    refine sA_iadd dd_X0_corner_19 ?_
    show sA _ _ _ _ _ (gs_iv 6 :: _) _ _
    refine sA_iload_n dd_X0_corner_20 rfl (.tail _ (.tail _ (.head _))) ?_
    refine sA_iload_n dd_X0_corner_21 rfl (.tail _ (.tail _ (.tail _ (.head _)))) ?_
    refine sA_callS (y2 := m_X0_corner) (n2 := 4) (d2 := 1) (as := [.ref 17, gs_iv 6, gs_iv rs, gs_iv cs]) (rest := []) dd_X0_corner_22 ok_X0_corner ml_X0_76 rfl rfl (Nat.le_of_ble_eq_true rfl) (by decide) (c_X0_corner_v6 hI (by omega) (by omega)) (fun r30 F31 A32 h33 => ?_)
    obtain ⟨z36, e35, e37, e38, x34⟩ := h33
    subst e35 e37 e38
    show sA _ _ _ 25 _ [.long z36] _ _
    refine sA_lret dd_X0_corner_25 rfl ?_
    exact ⟨_, rfl, rfl, rfl, trivial⟩
theorem k_X0_corner_v4 {rs cs : Int} {F A : gs_F} (hI : gs_I F A) (h1 : -2147483648 ≤ rs ∧ rs ≤ 2147483647) (h2 : -2147483648 ≤ cs ∧ cs ≤ 2147483647) : ∀ nN : Nat, (∀ (s : Int64) (sg : Int) (y : Int),  0 ≤ y ∧ y ≤ 6 → sg = 1 ∨ sg = -1 → 6 - y < (nN : Int) → sA m_X0_corner 3 (fun rv F' A' => ∃ z : Int64, rv = some (.long z) ∧ F = F' ∧ A = A' ∧ (True)) 35 [(7, gs_iv y), (6, gs_iv sg), (4, .long s), (0, .ref 17), (1, gs_iv 4), (2, gs_iv rs), (3, gs_iv cs)] [] F A) := by
  intro nN
  induction nN with
  | zero =>
    exact fun a0 a1 a2 i0 i1 hm => by exfalso; omega
  | succ nN ih =>
    intro s sg y i0 i1 hm
    refine sA_iload dd_X0_corner_35 (.head _) ?_
    refine sA_bipush (z := 6) dd_X0_corner_37 (by decide) ?_
    refine sA_icmp_ge (tgt := 107) dd_X0_corner_39 (by decide) (by omega) (by omega) (fun q1 => ?_) (fun q1 => ?_)
    · skip
      refine sA_lload dd_X0_corner_107 (.tail _ (.tail _ (.head _))) ?_
      refine sA_lret dd_X0_corner_109 rfl ?_
      exact ⟨_, rfl, rfl, rfl, trivial⟩
    · skip
      refine sA_iload_n dd_X0_corner_42 rfl (.tail _ (.tail _ (.tail _ (.tail _ (.tail _ (.tail _ (.head _))))))) ?_
      refine sA_iload dd_X0_corner_43 (.head _) ?_
      refine sA_ishr dd_X0_corner_45 ?_
      have b2 := gs_t_rng (Int32.ofInt cs >>> (Int32.ofInt y &&& 31))
      generalize gs_t (Int32.ofInt cs >>> (Int32.ofInt y &&& 31)) = w3 at b2 ⊢
      refine sA_iconst (z := 1) dd_X0_corner_46 ?_
      refine sA_iand dd_X0_corner_47 ?_
      have b4 := gs_t_rng (Int32.ofInt w3 &&& Int32.ofInt 1)
      generalize gs_t (Int32.ofInt w3 &&& Int32.ofInt 1) = w5 at b4 ⊢
      refine sA_if_eq (tgt := 101) dd_X0_corner_48 (by decide) (by omega) (fun q6 => ?_) (fun q6 => ?_)
      · skip
        refine sA_iinc (lv' := [(7, gs_iv (y + 1)), (6, gs_iv sg), (4, .long s), (0, .ref 17), (1, gs_iv 4), (2, gs_iv rs), (3, gs_iv cs)]) dd_X0_corner_101 (.head _) (by decide) rfl ?_
        refine sA_goto (tgt := 35) dd_X0_corner_104 (by decide) ?_
        refine sA_sub (lv2 := [(7, gs_iv (y + 1)), (6, gs_iv sg), (4, .long s), (0, .ref 17), (1, gs_iv 4), (2, gs_iv rs), (3, gs_iv cs)]) (List.forall_mem_cons.mpr ⟨(.head _), (List.forall_mem_cons.mpr ⟨(.tail _ (.head _)), (List.forall_mem_cons.mpr ⟨(.tail _ (.tail _ (.head _))), (List.forall_mem_cons.mpr ⟨(.tail _ (.tail _ (.tail _ (.head _)))), (List.forall_mem_cons.mpr ⟨(.tail _ (.tail _ (.tail _ (.tail _ (.head _))))), (List.forall_mem_cons.mpr ⟨(.tail _ (.tail _ (.tail _ (.tail _ (.tail _ (.head _)))))), (List.forall_mem_cons.mpr ⟨(.tail _ (.tail _ (.tail _ (.tail _ (.tail _ (.tail _ (.head _))))))), (fun _ h => absurd h List.not_mem_nil)⟩)⟩)⟩)⟩)⟩)⟩)⟩) ?_
        exact ih s sg (y + 1)  (by omega) (by omega) (by omega)
      · skip
        refine sA_aload_n dd_X0_corner_51 rfl (.tail _ (.tail _ (.tail _ (.head _)))) ?_
        refine sA_iload_n dd_X0_corner_52 rfl (.tail _ (.tail _ (.tail _ (.tail _ (.head _))))) ?_
        refine sA_bipush (z := 6) dd_X0_corner_53 (by decide) ?_
        refine sA_imul dd_X0_corner_55 ?_
        show sA _ _ _ _ _ (gs_iv 24 :: _) _ _
        refine sA_iload dd_X0_corner_56 (.head _) ?_
        refine sA_iadd dd_X0_corner_58 ?_
        refine sA_iald (n := 36) dd_X0_corner_59 (by decide) gs_s17 (by omega) (by decide) ?_
        have b7 : (-2147483648 : Int) ≤ A 17 (24 + y).toNat ∧ A 17 (24 + y).toNat ≤ 2147483647 := hI.2 17 (24 + y).toNat
        refine sA_istore (lv' := [(8, gs_iv (A 17 (24 + y).toNat)), (7, gs_iv y), (6, gs_iv sg), (4, .long s), (0, .ref 17), (1, gs_iv 4), (2, gs_iv rs), (3, gs_iv cs)]) dd_X0_corner_60 (by decide) rfl ?_
        refine sA_iload dd_X0_corner_62 (.head _) ?_
        refine sA_if_eq (tgt := 96) dd_X0_corner_64 (by decide) (by omega) (fun q8 => ?_) (fun q8 => ?_)
        · skip
          refine sA_iload dd_X0_corner_96 (.tail _ (.tail _ (.head _))) ?_
          refine sA_ineg dd_X0_corner_98 ?_
          refine sA_istore (lv' := [(6, gs_iv (-sg)), (8, gs_iv (A 17 (24 + y).toNat)), (7, gs_iv y), (4, .long s), (0, .ref 17), (1, gs_iv 4), (2, gs_iv rs), (3, gs_iv cs)]) dd_X0_corner_99 (by decide) rfl ?_
          refine sA_iinc (lv' := [(7, gs_iv (y + 1)), (6, gs_iv (-sg)), (8, gs_iv (A 17 (24 + y).toNat)), (4, .long s), (0, .ref 17), (1, gs_iv 4), (2, gs_iv rs), (3, gs_iv cs)]) dd_X0_corner_101 (.tail _ (.tail _ (.head _))) (by decide) rfl ?_
          refine sA_goto (tgt := 35) dd_X0_corner_104 (by decide) ?_
          refine sA_sub (lv2 := [(7, gs_iv (y + 1)), (6, gs_iv (-sg)), (4, .long s), (0, .ref 17), (1, gs_iv 4), (2, gs_iv rs), (3, gs_iv cs)]) (List.forall_mem_cons.mpr ⟨(.head _), (List.forall_mem_cons.mpr ⟨(.tail _ (.head _)), (List.forall_mem_cons.mpr ⟨(.tail _ (.tail _ (.tail _ (.head _)))), (List.forall_mem_cons.mpr ⟨(.tail _ (.tail _ (.tail _ (.tail _ (.head _))))), (List.forall_mem_cons.mpr ⟨(.tail _ (.tail _ (.tail _ (.tail _ (.tail _ (.head _)))))), (List.forall_mem_cons.mpr ⟨(.tail _ (.tail _ (.tail _ (.tail _ (.tail _ (.tail _ (.head _))))))), (List.forall_mem_cons.mpr ⟨(.tail _ (.tail _ (.tail _ (.tail _ (.tail _ (.tail _ (.tail _ (.head _)))))))), (fun _ h => absurd h List.not_mem_nil)⟩)⟩)⟩)⟩)⟩)⟩)⟩) ?_
          exact ih s (-sg) (y + 1)  (by omega) (by omega) (by omega)
        · skip
          refine sA_lload dd_X0_corner_67 (.tail _ (.tail _ (.tail _ (.head _)))) ?_
          refine sA_iload dd_X0_corner_69 (.tail _ (.tail _ (.head _))) ?_
          refine sA_i2l dd_X0_corner_71 (by omega) ?_
          refine sA_iload dd_X0_corner_72 (.head _) ?_
          refine sA_i2l dd_X0_corner_74 (by omega) ?_
          refine sA_lmul dd_X0_corner_75 ?_
          refine sA_aload_n dd_X0_corner_76 rfl (.tail _ (.tail _ (.tail _ (.tail _ (.head _))))) ?_
          refine sA_iload_n dd_X0_corner_77 rfl (.tail _ (.tail _ (.tail _ (.tail _ (.tail _ (.head _)))))) ?_
          refine sA_iconst (z := 1) dd_X0_corner_78 ?_
          refine sA_iadd dd_X0_corner_79 ?_
          show sA _ _ _ _ _ (gs_iv 5 :: _) _ _
          refine sA_iload_n dd_X0_corner_80 rfl (.tail _ (.tail _ (.tail _ (.tail _ (.tail _ (.tail _ (.head _))))))) ?_
          refine sA_iload_n dd_X0_corner_81 rfl (.tail _ (.tail _ (.tail _ (.tail _ (.tail _ (.tail _ (.tail _ (.head _)))))))) ?_
          refine sA_iconst (z := 1) dd_X0_corner_82 ?_
          refine sA_iload dd_X0_corner_83 (.tail _ (.head _)) ?_
          refine sA_ishl dd_X0_corner_85 ?_
          have b9 := gs_t_rng (Int32.ofInt 1 <<< (Int32.ofInt y &&& 31))
          generalize gs_t (Int32.ofInt 1 <<< (Int32.ofInt y &&& 31)) = w10 at b9 ⊢
          refine sA_iconst (z := (-1)) dd_X0_corner_86 ?_
          refine sA_ixor dd_X0_corner_87 ?_
          have b11 := gs_t_rng (Int32.ofInt w10 ^^^ Int32.ofInt (-1))
          generalize gs_t (Int32.ofInt w10 ^^^ Int32.ofInt (-1)) = w12 at b11 ⊢
          refine sA_iand dd_X0_corner_88 ?_
          have b13 := gs_t_rng (Int32.ofInt cs &&& Int32.ofInt w12)
          generalize gs_t (Int32.ofInt cs &&& Int32.ofInt w12) = w14 at b13 ⊢
          refine sA_callS (y2 := m_X0_corner) (n2 := 4) (d2 := 2) (as := [.ref 17, gs_iv 5, gs_iv rs, gs_iv w14]) (rest := [gs_lv (sg * (A 17 (24 + y).toNat)), .long s]) dd_X0_corner_89 ok_X0_corner ml_X0_76 rfl rfl (Nat.le_of_ble_eq_true rfl) (by decide) (c_X0_corner_v5 hI (by omega) (by omega)) (fun r15 F16 A17 h18 => ?_)
          obtain ⟨z21, e20, e22, e23, x19⟩ := h18
          subst e20 e22 e23
          show sA _ _ _ 92 _ [.long z21, gs_lv (sg * (A 17 (24 + y).toNat)), .long s] _ _
          refine sA_lmulR dd_X0_corner_92 ?_
          refine sA_laddR dd_X0_corner_93 ?_
          refine sA_lstore (lv' := [(4, .long (s + ((Int64.ofInt (sg * (A 17 (24 + y).toNat))) * z21))), (8, gs_iv (A 17 (24 + y).toNat)), (7, gs_iv y), (6, gs_iv sg), (0, .ref 17), (1, gs_iv 4), (2, gs_iv rs), (3, gs_iv cs)]) dd_X0_corner_94 (by decide) rfl ?_
          refine sA_iload dd_X0_corner_96 (.tail _ (.tail _ (.tail _ (.head _)))) ?_
          refine sA_ineg dd_X0_corner_98 ?_
          refine sA_istore (lv' := [(6, gs_iv (-sg)), (4, .long (s + ((Int64.ofInt (sg * (A 17 (24 + y).toNat))) * z21))), (8, gs_iv (A 17 (24 + y).toNat)), (7, gs_iv y), (0, .ref 17), (1, gs_iv 4), (2, gs_iv rs), (3, gs_iv cs)]) dd_X0_corner_99 (by decide) rfl ?_
          refine sA_iinc (lv' := [(7, gs_iv (y + 1)), (6, gs_iv (-sg)), (4, .long (s + ((Int64.ofInt (sg * (A 17 (24 + y).toNat))) * z21))), (8, gs_iv (A 17 (24 + y).toNat)), (0, .ref 17), (1, gs_iv 4), (2, gs_iv rs), (3, gs_iv cs)]) dd_X0_corner_101 (.tail _ (.tail _ (.tail _ (.head _)))) (by decide) rfl ?_
          refine sA_goto (tgt := 35) dd_X0_corner_104 (by decide) ?_
          refine sA_sub (lv2 := [(7, gs_iv (y + 1)), (6, gs_iv (-sg)), (4, .long (s + ((Int64.ofInt (sg * (A 17 (24 + y).toNat))) * z21))), (0, .ref 17), (1, gs_iv 4), (2, gs_iv rs), (3, gs_iv cs)]) (List.forall_mem_cons.mpr ⟨(.head _), (List.forall_mem_cons.mpr ⟨(.tail _ (.head _)), (List.forall_mem_cons.mpr ⟨(.tail _ (.tail _ (.head _))), (List.forall_mem_cons.mpr ⟨(.tail _ (.tail _ (.tail _ (.tail _ (.head _))))), (List.forall_mem_cons.mpr ⟨(.tail _ (.tail _ (.tail _ (.tail _ (.tail _ (.head _)))))), (List.forall_mem_cons.mpr ⟨(.tail _ (.tail _ (.tail _ (.tail _ (.tail _ (.tail _ (.head _))))))), (List.forall_mem_cons.mpr ⟨(.tail _ (.tail _ (.tail _ (.tail _ (.tail _ (.tail _ (.tail _ (.head _)))))))), (fun _ h => absurd h List.not_mem_nil)⟩)⟩)⟩)⟩)⟩)⟩)⟩) ?_
          exact ih (s + ((Int64.ofInt (sg * (A 17 (24 + y).toNat))) * z21)) (-sg) (y + 1)  (by omega) (by omega) (by omega)
theorem c_X0_corner_v4 {rs cs : Int} {F A : gs_F} (hI : gs_I F A) (h1 : -2147483648 ≤ rs ∧ rs ≤ 2147483647) (h2 : -2147483648 ≤ cs ∧ cs ≤ 2147483647) : sC m_X0_corner 3 [.ref 17, gs_iv 4, gs_iv rs, gs_iv cs] F A (fun rv F' A' => ∃ z : Int64, rv = some (.long z) ∧ F = F' ∧ A = A' ∧ (True)) := by
  refine sC_of ok_X0_corner.1 (Nat.le_of_ble_eq_true rfl) ?_
  show sA _ _ _ 0 [(0, .ref 17), (1, gs_iv 4), (2, gs_iv rs), (3, gs_iv cs)] [] F A
  refine sA_iload_n dd_X0_corner_0 rfl (.tail _ (.head _)) ?_
  refine sA_bipush (z := 6) dd_X0_corner_1 (by decide) ?_
  refine sA_icmp_lt (tgt := 8) dd_X0_corner_3 (by decide) (by omega) (by omega) (fun q24 => ?_) (fun q24 => absurd q24 (by omega))
  refine sA_iload_n dd_X0_corner_8 rfl (.tail _ (.tail _ (.head _))) ?_
  refine sA_iload_n dd_X0_corner_9 rfl (.tail _ (.head _)) ?_
  refine sA_ishr dd_X0_corner_10 ?_
  have b25 := gs_t_rng (Int32.ofInt rs >>> (Int32.ofInt 4 &&& 31))
  generalize gs_t (Int32.ofInt rs >>> (Int32.ofInt 4 &&& 31)) = w26 at b25 ⊢
  refine sA_iconst (z := 1) dd_X0_corner_11 ?_
  refine sA_iand dd_X0_corner_12 ?_
  have b27 := gs_t_rng (Int32.ofInt w26 &&& Int32.ofInt 1)
  generalize gs_t (Int32.ofInt w26 &&& Int32.ofInt 1) = w28 at b27 ⊢
  refine sA_if_ne (tgt := 26) dd_X0_corner_13 (by decide) (by omega) (fun q29 => ?_) (fun q29 => ?_)
  · skip
    refine sA_lconst (z := 0) dd_X0_corner_26 (by decide) ?_
    refine sA_lstore (lv' := [(4, gs_lv 0), (0, .ref 17), (1, gs_iv 4), (2, gs_iv rs), (3, gs_iv cs)]) dd_X0_corner_27 (by decide) rfl ?_
    refine sA_iconst (z := 1) dd_X0_corner_29 ?_
    refine sA_istore (lv' := [(6, gs_iv 1), (4, gs_lv 0), (0, .ref 17), (1, gs_iv 4), (2, gs_iv rs), (3, gs_iv cs)]) dd_X0_corner_30 (by decide) rfl ?_
    refine sA_iconst (z := 0) dd_X0_corner_32 ?_
    refine sA_istore (lv' := [(7, gs_iv 0), (6, gs_iv 1), (4, gs_lv 0), (0, .ref 17), (1, gs_iv 4), (2, gs_iv rs), (3, gs_iv cs)]) dd_X0_corner_33 (by decide) rfl ?_
    refine sA_sub (lv2 := [(7, gs_iv 0), (6, gs_iv 1), (4, gs_lv 0), (0, .ref 17), (1, gs_iv 4), (2, gs_iv rs), (3, gs_iv cs)]) (List.forall_mem_cons.mpr ⟨(.head _), (List.forall_mem_cons.mpr ⟨(.tail _ (.head _)), (List.forall_mem_cons.mpr ⟨(.tail _ (.tail _ (.head _))), (List.forall_mem_cons.mpr ⟨(.tail _ (.tail _ (.tail _ (.head _)))), (List.forall_mem_cons.mpr ⟨(.tail _ (.tail _ (.tail _ (.tail _ (.head _))))), (List.forall_mem_cons.mpr ⟨(.tail _ (.tail _ (.tail _ (.tail _ (.tail _ (.head _)))))), (List.forall_mem_cons.mpr ⟨(.tail _ (.tail _ (.tail _ (.tail _ (.tail _ (.tail _ (.head _))))))), (fun _ h => absurd h List.not_mem_nil)⟩)⟩)⟩)⟩)⟩)⟩)⟩) ?_
    exact (k_X0_corner_v4 hI h1 h2 (6 - 0 : Int).toNat.succ) (Int64.ofInt 0) 1 0  (by omega) (by omega) (by omega)
  · skip
    refine sA_aload_n dd_X0_corner_16 rfl (.head _) ?_
    refine sA_iload_n dd_X0_corner_17 rfl (.tail _ (.head _)) ?_
    refine sA_iconst (z := 1) dd_X0_corner_18 ?_
    refine sA_iadd dd_X0_corner_19 ?_
    show sA _ _ _ _ _ (gs_iv 5 :: _) _ _
    refine sA_iload_n dd_X0_corner_20 rfl (.tail _ (.tail _ (.head _))) ?_
    refine sA_iload_n dd_X0_corner_21 rfl (.tail _ (.tail _ (.tail _ (.head _)))) ?_
    refine sA_callS (y2 := m_X0_corner) (n2 := 4) (d2 := 2) (as := [.ref 17, gs_iv 5, gs_iv rs, gs_iv cs]) (rest := []) dd_X0_corner_22 ok_X0_corner ml_X0_76 rfl rfl (Nat.le_of_ble_eq_true rfl) (by decide) (c_X0_corner_v5 hI (by omega) (by omega)) (fun r30 F31 A32 h33 => ?_)
    obtain ⟨z36, e35, e37, e38, x34⟩ := h33
    subst e35 e37 e38
    show sA _ _ _ 25 _ [.long z36] _ _
    refine sA_lret dd_X0_corner_25 rfl ?_
    exact ⟨_, rfl, rfl, rfl, trivial⟩
theorem k_X0_corner_v3 {rs cs : Int} {F A : gs_F} (hI : gs_I F A) (h1 : -2147483648 ≤ rs ∧ rs ≤ 2147483647) (h2 : -2147483648 ≤ cs ∧ cs ≤ 2147483647) : ∀ nN : Nat, (∀ (s : Int64) (sg : Int) (y : Int),  0 ≤ y ∧ y ≤ 6 → sg = 1 ∨ sg = -1 → 6 - y < (nN : Int) → sA m_X0_corner 4 (fun rv F' A' => ∃ z : Int64, rv = some (.long z) ∧ F = F' ∧ A = A' ∧ (True)) 35 [(7, gs_iv y), (6, gs_iv sg), (4, .long s), (0, .ref 17), (1, gs_iv 3), (2, gs_iv rs), (3, gs_iv cs)] [] F A) := by
  intro nN
  induction nN with
  | zero =>
    exact fun a0 a1 a2 i0 i1 hm => by exfalso; omega
  | succ nN ih =>
    intro s sg y i0 i1 hm
    refine sA_iload dd_X0_corner_35 (.head _) ?_
    refine sA_bipush (z := 6) dd_X0_corner_37 (by decide) ?_
    refine sA_icmp_ge (tgt := 107) dd_X0_corner_39 (by decide) (by omega) (by omega) (fun q1 => ?_) (fun q1 => ?_)
    · skip
      refine sA_lload dd_X0_corner_107 (.tail _ (.tail _ (.head _))) ?_
      refine sA_lret dd_X0_corner_109 rfl ?_
      exact ⟨_, rfl, rfl, rfl, trivial⟩
    · skip
      refine sA_iload_n dd_X0_corner_42 rfl (.tail _ (.tail _ (.tail _ (.tail _ (.tail _ (.tail _ (.head _))))))) ?_
      refine sA_iload dd_X0_corner_43 (.head _) ?_
      refine sA_ishr dd_X0_corner_45 ?_
      have b2 := gs_t_rng (Int32.ofInt cs >>> (Int32.ofInt y &&& 31))
      generalize gs_t (Int32.ofInt cs >>> (Int32.ofInt y &&& 31)) = w3 at b2 ⊢
      refine sA_iconst (z := 1) dd_X0_corner_46 ?_
      refine sA_iand dd_X0_corner_47 ?_
      have b4 := gs_t_rng (Int32.ofInt w3 &&& Int32.ofInt 1)
      generalize gs_t (Int32.ofInt w3 &&& Int32.ofInt 1) = w5 at b4 ⊢
      refine sA_if_eq (tgt := 101) dd_X0_corner_48 (by decide) (by omega) (fun q6 => ?_) (fun q6 => ?_)
      · skip
        refine sA_iinc (lv' := [(7, gs_iv (y + 1)), (6, gs_iv sg), (4, .long s), (0, .ref 17), (1, gs_iv 3), (2, gs_iv rs), (3, gs_iv cs)]) dd_X0_corner_101 (.head _) (by decide) rfl ?_
        refine sA_goto (tgt := 35) dd_X0_corner_104 (by decide) ?_
        refine sA_sub (lv2 := [(7, gs_iv (y + 1)), (6, gs_iv sg), (4, .long s), (0, .ref 17), (1, gs_iv 3), (2, gs_iv rs), (3, gs_iv cs)]) (List.forall_mem_cons.mpr ⟨(.head _), (List.forall_mem_cons.mpr ⟨(.tail _ (.head _)), (List.forall_mem_cons.mpr ⟨(.tail _ (.tail _ (.head _))), (List.forall_mem_cons.mpr ⟨(.tail _ (.tail _ (.tail _ (.head _)))), (List.forall_mem_cons.mpr ⟨(.tail _ (.tail _ (.tail _ (.tail _ (.head _))))), (List.forall_mem_cons.mpr ⟨(.tail _ (.tail _ (.tail _ (.tail _ (.tail _ (.head _)))))), (List.forall_mem_cons.mpr ⟨(.tail _ (.tail _ (.tail _ (.tail _ (.tail _ (.tail _ (.head _))))))), (fun _ h => absurd h List.not_mem_nil)⟩)⟩)⟩)⟩)⟩)⟩)⟩) ?_
        exact ih s sg (y + 1)  (by omega) (by omega) (by omega)
      · skip
        refine sA_aload_n dd_X0_corner_51 rfl (.tail _ (.tail _ (.tail _ (.head _)))) ?_
        refine sA_iload_n dd_X0_corner_52 rfl (.tail _ (.tail _ (.tail _ (.tail _ (.head _))))) ?_
        refine sA_bipush (z := 6) dd_X0_corner_53 (by decide) ?_
        refine sA_imul dd_X0_corner_55 ?_
        show sA _ _ _ _ _ (gs_iv 18 :: _) _ _
        refine sA_iload dd_X0_corner_56 (.head _) ?_
        refine sA_iadd dd_X0_corner_58 ?_
        refine sA_iald (n := 36) dd_X0_corner_59 (by decide) gs_s17 (by omega) (by decide) ?_
        have b7 : (-2147483648 : Int) ≤ A 17 (18 + y).toNat ∧ A 17 (18 + y).toNat ≤ 2147483647 := hI.2 17 (18 + y).toNat
        refine sA_istore (lv' := [(8, gs_iv (A 17 (18 + y).toNat)), (7, gs_iv y), (6, gs_iv sg), (4, .long s), (0, .ref 17), (1, gs_iv 3), (2, gs_iv rs), (3, gs_iv cs)]) dd_X0_corner_60 (by decide) rfl ?_
        refine sA_iload dd_X0_corner_62 (.head _) ?_
        refine sA_if_eq (tgt := 96) dd_X0_corner_64 (by decide) (by omega) (fun q8 => ?_) (fun q8 => ?_)
        · skip
          refine sA_iload dd_X0_corner_96 (.tail _ (.tail _ (.head _))) ?_
          refine sA_ineg dd_X0_corner_98 ?_
          refine sA_istore (lv' := [(6, gs_iv (-sg)), (8, gs_iv (A 17 (18 + y).toNat)), (7, gs_iv y), (4, .long s), (0, .ref 17), (1, gs_iv 3), (2, gs_iv rs), (3, gs_iv cs)]) dd_X0_corner_99 (by decide) rfl ?_
          refine sA_iinc (lv' := [(7, gs_iv (y + 1)), (6, gs_iv (-sg)), (8, gs_iv (A 17 (18 + y).toNat)), (4, .long s), (0, .ref 17), (1, gs_iv 3), (2, gs_iv rs), (3, gs_iv cs)]) dd_X0_corner_101 (.tail _ (.tail _ (.head _))) (by decide) rfl ?_
          refine sA_goto (tgt := 35) dd_X0_corner_104 (by decide) ?_
          refine sA_sub (lv2 := [(7, gs_iv (y + 1)), (6, gs_iv (-sg)), (4, .long s), (0, .ref 17), (1, gs_iv 3), (2, gs_iv rs), (3, gs_iv cs)]) (List.forall_mem_cons.mpr ⟨(.head _), (List.forall_mem_cons.mpr ⟨(.tail _ (.head _)), (List.forall_mem_cons.mpr ⟨(.tail _ (.tail _ (.tail _ (.head _)))), (List.forall_mem_cons.mpr ⟨(.tail _ (.tail _ (.tail _ (.tail _ (.head _))))), (List.forall_mem_cons.mpr ⟨(.tail _ (.tail _ (.tail _ (.tail _ (.tail _ (.head _)))))), (List.forall_mem_cons.mpr ⟨(.tail _ (.tail _ (.tail _ (.tail _ (.tail _ (.tail _ (.head _))))))), (List.forall_mem_cons.mpr ⟨(.tail _ (.tail _ (.tail _ (.tail _ (.tail _ (.tail _ (.tail _ (.head _)))))))), (fun _ h => absurd h List.not_mem_nil)⟩)⟩)⟩)⟩)⟩)⟩)⟩) ?_
          exact ih s (-sg) (y + 1)  (by omega) (by omega) (by omega)
        · skip
          refine sA_lload dd_X0_corner_67 (.tail _ (.tail _ (.tail _ (.head _)))) ?_
          refine sA_iload dd_X0_corner_69 (.tail _ (.tail _ (.head _))) ?_
          refine sA_i2l dd_X0_corner_71 (by omega) ?_
          refine sA_iload dd_X0_corner_72 (.head _) ?_
          refine sA_i2l dd_X0_corner_74 (by omega) ?_
          refine sA_lmul dd_X0_corner_75 ?_
          refine sA_aload_n dd_X0_corner_76 rfl (.tail _ (.tail _ (.tail _ (.tail _ (.head _))))) ?_
          refine sA_iload_n dd_X0_corner_77 rfl (.tail _ (.tail _ (.tail _ (.tail _ (.tail _ (.head _)))))) ?_
          refine sA_iconst (z := 1) dd_X0_corner_78 ?_
          refine sA_iadd dd_X0_corner_79 ?_
          show sA _ _ _ _ _ (gs_iv 4 :: _) _ _
          refine sA_iload_n dd_X0_corner_80 rfl (.tail _ (.tail _ (.tail _ (.tail _ (.tail _ (.tail _ (.head _))))))) ?_
          refine sA_iload_n dd_X0_corner_81 rfl (.tail _ (.tail _ (.tail _ (.tail _ (.tail _ (.tail _ (.tail _ (.head _)))))))) ?_
          refine sA_iconst (z := 1) dd_X0_corner_82 ?_
          refine sA_iload dd_X0_corner_83 (.tail _ (.head _)) ?_
          refine sA_ishl dd_X0_corner_85 ?_
          have b9 := gs_t_rng (Int32.ofInt 1 <<< (Int32.ofInt y &&& 31))
          generalize gs_t (Int32.ofInt 1 <<< (Int32.ofInt y &&& 31)) = w10 at b9 ⊢
          refine sA_iconst (z := (-1)) dd_X0_corner_86 ?_
          refine sA_ixor dd_X0_corner_87 ?_
          have b11 := gs_t_rng (Int32.ofInt w10 ^^^ Int32.ofInt (-1))
          generalize gs_t (Int32.ofInt w10 ^^^ Int32.ofInt (-1)) = w12 at b11 ⊢
          refine sA_iand dd_X0_corner_88 ?_
          have b13 := gs_t_rng (Int32.ofInt cs &&& Int32.ofInt w12)
          generalize gs_t (Int32.ofInt cs &&& Int32.ofInt w12) = w14 at b13 ⊢
          refine sA_callS (y2 := m_X0_corner) (n2 := 4) (d2 := 3) (as := [.ref 17, gs_iv 4, gs_iv rs, gs_iv w14]) (rest := [gs_lv (sg * (A 17 (18 + y).toNat)), .long s]) dd_X0_corner_89 ok_X0_corner ml_X0_76 rfl rfl (Nat.le_of_ble_eq_true rfl) (by decide) (c_X0_corner_v4 hI (by omega) (by omega)) (fun r15 F16 A17 h18 => ?_)
          obtain ⟨z21, e20, e22, e23, x19⟩ := h18
          subst e20 e22 e23
          show sA _ _ _ 92 _ [.long z21, gs_lv (sg * (A 17 (18 + y).toNat)), .long s] _ _
          refine sA_lmulR dd_X0_corner_92 ?_
          refine sA_laddR dd_X0_corner_93 ?_
          refine sA_lstore (lv' := [(4, .long (s + ((Int64.ofInt (sg * (A 17 (18 + y).toNat))) * z21))), (8, gs_iv (A 17 (18 + y).toNat)), (7, gs_iv y), (6, gs_iv sg), (0, .ref 17), (1, gs_iv 3), (2, gs_iv rs), (3, gs_iv cs)]) dd_X0_corner_94 (by decide) rfl ?_
          refine sA_iload dd_X0_corner_96 (.tail _ (.tail _ (.tail _ (.head _)))) ?_
          refine sA_ineg dd_X0_corner_98 ?_
          refine sA_istore (lv' := [(6, gs_iv (-sg)), (4, .long (s + ((Int64.ofInt (sg * (A 17 (18 + y).toNat))) * z21))), (8, gs_iv (A 17 (18 + y).toNat)), (7, gs_iv y), (0, .ref 17), (1, gs_iv 3), (2, gs_iv rs), (3, gs_iv cs)]) dd_X0_corner_99 (by decide) rfl ?_
          refine sA_iinc (lv' := [(7, gs_iv (y + 1)), (6, gs_iv (-sg)), (4, .long (s + ((Int64.ofInt (sg * (A 17 (18 + y).toNat))) * z21))), (8, gs_iv (A 17 (18 + y).toNat)), (0, .ref 17), (1, gs_iv 3), (2, gs_iv rs), (3, gs_iv cs)]) dd_X0_corner_101 (.tail _ (.tail _ (.tail _ (.head _)))) (by decide) rfl ?_
          refine sA_goto (tgt := 35) dd_X0_corner_104 (by decide) ?_
          refine sA_sub (lv2 := [(7, gs_iv (y + 1)), (6, gs_iv (-sg)), (4, .long (s + ((Int64.ofInt (sg * (A 17 (18 + y).toNat))) * z21))), (0, .ref 17), (1, gs_iv 3), (2, gs_iv rs), (3, gs_iv cs)]) (List.forall_mem_cons.mpr ⟨(.head _), (List.forall_mem_cons.mpr ⟨(.tail _ (.head _)), (List.forall_mem_cons.mpr ⟨(.tail _ (.tail _ (.head _))), (List.forall_mem_cons.mpr ⟨(.tail _ (.tail _ (.tail _ (.tail _ (.head _))))), (List.forall_mem_cons.mpr ⟨(.tail _ (.tail _ (.tail _ (.tail _ (.tail _ (.head _)))))), (List.forall_mem_cons.mpr ⟨(.tail _ (.tail _ (.tail _ (.tail _ (.tail _ (.tail _ (.head _))))))), (List.forall_mem_cons.mpr ⟨(.tail _ (.tail _ (.tail _ (.tail _ (.tail _ (.tail _ (.tail _ (.head _)))))))), (fun _ h => absurd h List.not_mem_nil)⟩)⟩)⟩)⟩)⟩)⟩)⟩) ?_
          exact ih (s + ((Int64.ofInt (sg * (A 17 (18 + y).toNat))) * z21)) (-sg) (y + 1)  (by omega) (by omega) (by omega)
theorem c_X0_corner_v3 {rs cs : Int} {F A : gs_F} (hI : gs_I F A) (h1 : -2147483648 ≤ rs ∧ rs ≤ 2147483647) (h2 : -2147483648 ≤ cs ∧ cs ≤ 2147483647) : sC m_X0_corner 4 [.ref 17, gs_iv 3, gs_iv rs, gs_iv cs] F A (fun rv F' A' => ∃ z : Int64, rv = some (.long z) ∧ F = F' ∧ A = A' ∧ (True)) := by
  refine sC_of ok_X0_corner.1 (Nat.le_of_ble_eq_true rfl) ?_
  show sA _ _ _ 0 [(0, .ref 17), (1, gs_iv 3), (2, gs_iv rs), (3, gs_iv cs)] [] F A
  refine sA_iload_n dd_X0_corner_0 rfl (.tail _ (.head _)) ?_
  refine sA_bipush (z := 6) dd_X0_corner_1 (by decide) ?_
  refine sA_icmp_lt (tgt := 8) dd_X0_corner_3 (by decide) (by omega) (by omega) (fun q24 => ?_) (fun q24 => absurd q24 (by omega))
  refine sA_iload_n dd_X0_corner_8 rfl (.tail _ (.tail _ (.head _))) ?_
  refine sA_iload_n dd_X0_corner_9 rfl (.tail _ (.head _)) ?_
  refine sA_ishr dd_X0_corner_10 ?_
  have b25 := gs_t_rng (Int32.ofInt rs >>> (Int32.ofInt 3 &&& 31))
  generalize gs_t (Int32.ofInt rs >>> (Int32.ofInt 3 &&& 31)) = w26 at b25 ⊢
  refine sA_iconst (z := 1) dd_X0_corner_11 ?_
  refine sA_iand dd_X0_corner_12 ?_
  have b27 := gs_t_rng (Int32.ofInt w26 &&& Int32.ofInt 1)
  generalize gs_t (Int32.ofInt w26 &&& Int32.ofInt 1) = w28 at b27 ⊢
  refine sA_if_ne (tgt := 26) dd_X0_corner_13 (by decide) (by omega) (fun q29 => ?_) (fun q29 => ?_)
  · skip
    refine sA_lconst (z := 0) dd_X0_corner_26 (by decide) ?_
    refine sA_lstore (lv' := [(4, gs_lv 0), (0, .ref 17), (1, gs_iv 3), (2, gs_iv rs), (3, gs_iv cs)]) dd_X0_corner_27 (by decide) rfl ?_
    refine sA_iconst (z := 1) dd_X0_corner_29 ?_
    refine sA_istore (lv' := [(6, gs_iv 1), (4, gs_lv 0), (0, .ref 17), (1, gs_iv 3), (2, gs_iv rs), (3, gs_iv cs)]) dd_X0_corner_30 (by decide) rfl ?_
    refine sA_iconst (z := 0) dd_X0_corner_32 ?_
    refine sA_istore (lv' := [(7, gs_iv 0), (6, gs_iv 1), (4, gs_lv 0), (0, .ref 17), (1, gs_iv 3), (2, gs_iv rs), (3, gs_iv cs)]) dd_X0_corner_33 (by decide) rfl ?_
    refine sA_sub (lv2 := [(7, gs_iv 0), (6, gs_iv 1), (4, gs_lv 0), (0, .ref 17), (1, gs_iv 3), (2, gs_iv rs), (3, gs_iv cs)]) (List.forall_mem_cons.mpr ⟨(.head _), (List.forall_mem_cons.mpr ⟨(.tail _ (.head _)), (List.forall_mem_cons.mpr ⟨(.tail _ (.tail _ (.head _))), (List.forall_mem_cons.mpr ⟨(.tail _ (.tail _ (.tail _ (.head _)))), (List.forall_mem_cons.mpr ⟨(.tail _ (.tail _ (.tail _ (.tail _ (.head _))))), (List.forall_mem_cons.mpr ⟨(.tail _ (.tail _ (.tail _ (.tail _ (.tail _ (.head _)))))), (List.forall_mem_cons.mpr ⟨(.tail _ (.tail _ (.tail _ (.tail _ (.tail _ (.tail _ (.head _))))))), (fun _ h => absurd h List.not_mem_nil)⟩)⟩)⟩)⟩)⟩)⟩)⟩) ?_
    exact (k_X0_corner_v3 hI h1 h2 (6 - 0 : Int).toNat.succ) (Int64.ofInt 0) 1 0  (by omega) (by omega) (by omega)
  · skip
    refine sA_aload_n dd_X0_corner_16 rfl (.head _) ?_
    refine sA_iload_n dd_X0_corner_17 rfl (.tail _ (.head _)) ?_
    refine sA_iconst (z := 1) dd_X0_corner_18 ?_
    refine sA_iadd dd_X0_corner_19 ?_
    show sA _ _ _ _ _ (gs_iv 4 :: _) _ _
    refine sA_iload_n dd_X0_corner_20 rfl (.tail _ (.tail _ (.head _))) ?_
    refine sA_iload_n dd_X0_corner_21 rfl (.tail _ (.tail _ (.tail _ (.head _)))) ?_
    refine sA_callS (y2 := m_X0_corner) (n2 := 4) (d2 := 3) (as := [.ref 17, gs_iv 4, gs_iv rs, gs_iv cs]) (rest := []) dd_X0_corner_22 ok_X0_corner ml_X0_76 rfl rfl (Nat.le_of_ble_eq_true rfl) (by decide) (c_X0_corner_v4 hI (by omega) (by omega)) (fun r30 F31 A32 h33 => ?_)
    obtain ⟨z36, e35, e37, e38, x34⟩ := h33
    subst e35 e37 e38
    show sA _ _ _ 25 _ [.long z36] _ _
    refine sA_lret dd_X0_corner_25 rfl ?_
    exact ⟨_, rfl, rfl, rfl, trivial⟩
theorem k_X0_corner_v2 {rs cs : Int} {F A : gs_F} (hI : gs_I F A) (h1 : -2147483648 ≤ rs ∧ rs ≤ 2147483647) (h2 : -2147483648 ≤ cs ∧ cs ≤ 2147483647) : ∀ nN : Nat, (∀ (s : Int64) (sg : Int) (y : Int),  0 ≤ y ∧ y ≤ 6 → sg = 1 ∨ sg = -1 → 6 - y < (nN : Int) → sA m_X0_corner 5 (fun rv F' A' => ∃ z : Int64, rv = some (.long z) ∧ F = F' ∧ A = A' ∧ (True)) 35 [(7, gs_iv y), (6, gs_iv sg), (4, .long s), (0, .ref 17), (1, gs_iv 2), (2, gs_iv rs), (3, gs_iv cs)] [] F A) := by
  intro nN
  induction nN with
  | zero =>
    exact fun a0 a1 a2 i0 i1 hm => by exfalso; omega
  | succ nN ih =>
    intro s sg y i0 i1 hm
    refine sA_iload dd_X0_corner_35 (.head _) ?_
    refine sA_bipush (z := 6) dd_X0_corner_37 (by decide) ?_
    refine sA_icmp_ge (tgt := 107) dd_X0_corner_39 (by decide) (by omega) (by omega) (fun q1 => ?_) (fun q1 => ?_)
    · skip
      refine sA_lload dd_X0_corner_107 (.tail _ (.tail _ (.head _))) ?_
      refine sA_lret dd_X0_corner_109 rfl ?_
      exact ⟨_, rfl, rfl, rfl, trivial⟩
    · skip
      refine sA_iload_n dd_X0_corner_42 rfl (.tail _ (.tail _ (.tail _ (.tail _ (.tail _ (.tail _ (.head _))))))) ?_
      refine sA_iload dd_X0_corner_43 (.head _) ?_
      refine sA_ishr dd_X0_corner_45 ?_
      have b2 := gs_t_rng (Int32.ofInt cs >>> (Int32.ofInt y &&& 31))
      generalize gs_t (Int32.ofInt cs >>> (Int32.ofInt y &&& 31)) = w3 at b2 ⊢
      refine sA_iconst (z := 1) dd_X0_corner_46 ?_
      refine sA_iand dd_X0_corner_47 ?_
      have b4 := gs_t_rng (Int32.ofInt w3 &&& Int32.ofInt 1)
      generalize gs_t (Int32.ofInt w3 &&& Int32.ofInt 1) = w5 at b4 ⊢
      refine sA_if_eq (tgt := 101) dd_X0_corner_48 (by decide) (by omega) (fun q6 => ?_) (fun q6 => ?_)
      · skip
        refine sA_iinc (lv' := [(7, gs_iv (y + 1)), (6, gs_iv sg), (4, .long s), (0, .ref 17), (1, gs_iv 2), (2, gs_iv rs), (3, gs_iv cs)]) dd_X0_corner_101 (.head _) (by decide) rfl ?_
        refine sA_goto (tgt := 35) dd_X0_corner_104 (by decide) ?_
        refine sA_sub (lv2 := [(7, gs_iv (y + 1)), (6, gs_iv sg), (4, .long s), (0, .ref 17), (1, gs_iv 2), (2, gs_iv rs), (3, gs_iv cs)]) (List.forall_mem_cons.mpr ⟨(.head _), (List.forall_mem_cons.mpr ⟨(.tail _ (.head _)), (List.forall_mem_cons.mpr ⟨(.tail _ (.tail _ (.head _))), (List.forall_mem_cons.mpr ⟨(.tail _ (.tail _ (.tail _ (.head _)))), (List.forall_mem_cons.mpr ⟨(.tail _ (.tail _ (.tail _ (.tail _ (.head _))))), (List.forall_mem_cons.mpr ⟨(.tail _ (.tail _ (.tail _ (.tail _ (.tail _ (.head _)))))), (List.forall_mem_cons.mpr ⟨(.tail _ (.tail _ (.tail _ (.tail _ (.tail _ (.tail _ (.head _))))))), (fun _ h => absurd h List.not_mem_nil)⟩)⟩)⟩)⟩)⟩)⟩)⟩) ?_
        exact ih s sg (y + 1)  (by omega) (by omega) (by omega)
      · skip
        refine sA_aload_n dd_X0_corner_51 rfl (.tail _ (.tail _ (.tail _ (.head _)))) ?_
        refine sA_iload_n dd_X0_corner_52 rfl (.tail _ (.tail _ (.tail _ (.tail _ (.head _))))) ?_
        refine sA_bipush (z := 6) dd_X0_corner_53 (by decide) ?_
        refine sA_imul dd_X0_corner_55 ?_
        show sA _ _ _ _ _ (gs_iv 12 :: _) _ _
        refine sA_iload dd_X0_corner_56 (.head _) ?_
        refine sA_iadd dd_X0_corner_58 ?_
        refine sA_iald (n := 36) dd_X0_corner_59 (by decide) gs_s17 (by omega) (by decide) ?_
        have b7 : (-2147483648 : Int) ≤ A 17 (12 + y).toNat ∧ A 17 (12 + y).toNat ≤ 2147483647 := hI.2 17 (12 + y).toNat
        refine sA_istore (lv' := [(8, gs_iv (A 17 (12 + y).toNat)), (7, gs_iv y), (6, gs_iv sg), (4, .long s), (0, .ref 17), (1, gs_iv 2), (2, gs_iv rs), (3, gs_iv cs)]) dd_X0_corner_60 (by decide) rfl ?_
        refine sA_iload dd_X0_corner_62 (.head _) ?_
        refine sA_if_eq (tgt := 96) dd_X0_corner_64 (by decide) (by omega) (fun q8 => ?_) (fun q8 => ?_)
        · skip
          refine sA_iload dd_X0_corner_96 (.tail _ (.tail _ (.head _))) ?_
          refine sA_ineg dd_X0_corner_98 ?_
          refine sA_istore (lv' := [(6, gs_iv (-sg)), (8, gs_iv (A 17 (12 + y).toNat)), (7, gs_iv y), (4, .long s), (0, .ref 17), (1, gs_iv 2), (2, gs_iv rs), (3, gs_iv cs)]) dd_X0_corner_99 (by decide) rfl ?_
          refine sA_iinc (lv' := [(7, gs_iv (y + 1)), (6, gs_iv (-sg)), (8, gs_iv (A 17 (12 + y).toNat)), (4, .long s), (0, .ref 17), (1, gs_iv 2), (2, gs_iv rs), (3, gs_iv cs)]) dd_X0_corner_101 (.tail _ (.tail _ (.head _))) (by decide) rfl ?_
          refine sA_goto (tgt := 35) dd_X0_corner_104 (by decide) ?_
          refine sA_sub (lv2 := [(7, gs_iv (y + 1)), (6, gs_iv (-sg)), (4, .long s), (0, .ref 17), (1, gs_iv 2), (2, gs_iv rs), (3, gs_iv cs)]) (List.forall_mem_cons.mpr ⟨(.head _), (List.forall_mem_cons.mpr ⟨(.tail _ (.head _)), (List.forall_mem_cons.mpr ⟨(.tail _ (.tail _ (.tail _ (.head _)))), (List.forall_mem_cons.mpr ⟨(.tail _ (.tail _ (.tail _ (.tail _ (.head _))))), (List.forall_mem_cons.mpr ⟨(.tail _ (.tail _ (.tail _ (.tail _ (.tail _ (.head _)))))), (List.forall_mem_cons.mpr ⟨(.tail _ (.tail _ (.tail _ (.tail _ (.tail _ (.tail _ (.head _))))))), (List.forall_mem_cons.mpr ⟨(.tail _ (.tail _ (.tail _ (.tail _ (.tail _ (.tail _ (.tail _ (.head _)))))))), (fun _ h => absurd h List.not_mem_nil)⟩)⟩)⟩)⟩)⟩)⟩)⟩) ?_
          exact ih s (-sg) (y + 1)  (by omega) (by omega) (by omega)
        · skip
          refine sA_lload dd_X0_corner_67 (.tail _ (.tail _ (.tail _ (.head _)))) ?_
          refine sA_iload dd_X0_corner_69 (.tail _ (.tail _ (.head _))) ?_
          refine sA_i2l dd_X0_corner_71 (by omega) ?_
          refine sA_iload dd_X0_corner_72 (.head _) ?_
          refine sA_i2l dd_X0_corner_74 (by omega) ?_
          refine sA_lmul dd_X0_corner_75 ?_
          refine sA_aload_n dd_X0_corner_76 rfl (.tail _ (.tail _ (.tail _ (.tail _ (.head _))))) ?_
          refine sA_iload_n dd_X0_corner_77 rfl (.tail _ (.tail _ (.tail _ (.tail _ (.tail _ (.head _)))))) ?_
          refine sA_iconst (z := 1) dd_X0_corner_78 ?_
          refine sA_iadd dd_X0_corner_79 ?_
          show sA _ _ _ _ _ (gs_iv 3 :: _) _ _
          refine sA_iload_n dd_X0_corner_80 rfl (.tail _ (.tail _ (.tail _ (.tail _ (.tail _ (.tail _ (.head _))))))) ?_
          refine sA_iload_n dd_X0_corner_81 rfl (.tail _ (.tail _ (.tail _ (.tail _ (.tail _ (.tail _ (.tail _ (.head _)))))))) ?_
          refine sA_iconst (z := 1) dd_X0_corner_82 ?_
          refine sA_iload dd_X0_corner_83 (.tail _ (.head _)) ?_
          refine sA_ishl dd_X0_corner_85 ?_
          have b9 := gs_t_rng (Int32.ofInt 1 <<< (Int32.ofInt y &&& 31))
          generalize gs_t (Int32.ofInt 1 <<< (Int32.ofInt y &&& 31)) = w10 at b9 ⊢
          refine sA_iconst (z := (-1)) dd_X0_corner_86 ?_
          refine sA_ixor dd_X0_corner_87 ?_
          have b11 := gs_t_rng (Int32.ofInt w10 ^^^ Int32.ofInt (-1))
          generalize gs_t (Int32.ofInt w10 ^^^ Int32.ofInt (-1)) = w12 at b11 ⊢
          refine sA_iand dd_X0_corner_88 ?_
          have b13 := gs_t_rng (Int32.ofInt cs &&& Int32.ofInt w12)
          generalize gs_t (Int32.ofInt cs &&& Int32.ofInt w12) = w14 at b13 ⊢
          refine sA_callS (y2 := m_X0_corner) (n2 := 4) (d2 := 4) (as := [.ref 17, gs_iv 3, gs_iv rs, gs_iv w14]) (rest := [gs_lv (sg * (A 17 (12 + y).toNat)), .long s]) dd_X0_corner_89 ok_X0_corner ml_X0_76 rfl rfl (Nat.le_of_ble_eq_true rfl) (by decide) (c_X0_corner_v3 hI (by omega) (by omega)) (fun r15 F16 A17 h18 => ?_)
          obtain ⟨z21, e20, e22, e23, x19⟩ := h18
          subst e20 e22 e23
          show sA _ _ _ 92 _ [.long z21, gs_lv (sg * (A 17 (12 + y).toNat)), .long s] _ _
          refine sA_lmulR dd_X0_corner_92 ?_
          refine sA_laddR dd_X0_corner_93 ?_
          refine sA_lstore (lv' := [(4, .long (s + ((Int64.ofInt (sg * (A 17 (12 + y).toNat))) * z21))), (8, gs_iv (A 17 (12 + y).toNat)), (7, gs_iv y), (6, gs_iv sg), (0, .ref 17), (1, gs_iv 2), (2, gs_iv rs), (3, gs_iv cs)]) dd_X0_corner_94 (by decide) rfl ?_
          refine sA_iload dd_X0_corner_96 (.tail _ (.tail _ (.tail _ (.head _)))) ?_
          refine sA_ineg dd_X0_corner_98 ?_
          refine sA_istore (lv' := [(6, gs_iv (-sg)), (4, .long (s + ((Int64.ofInt (sg * (A 17 (12 + y).toNat))) * z21))), (8, gs_iv (A 17 (12 + y).toNat)), (7, gs_iv y), (0, .ref 17), (1, gs_iv 2), (2, gs_iv rs), (3, gs_iv cs)]) dd_X0_corner_99 (by decide) rfl ?_
          refine sA_iinc (lv' := [(7, gs_iv (y + 1)), (6, gs_iv (-sg)), (4, .long (s + ((Int64.ofInt (sg * (A 17 (12 + y).toNat))) * z21))), (8, gs_iv (A 17 (12 + y).toNat)), (0, .ref 17), (1, gs_iv 2), (2, gs_iv rs), (3, gs_iv cs)]) dd_X0_corner_101 (.tail _ (.tail _ (.tail _ (.head _)))) (by decide) rfl ?_
          refine sA_goto (tgt := 35) dd_X0_corner_104 (by decide) ?_
          refine sA_sub (lv2 := [(7, gs_iv (y + 1)), (6, gs_iv (-sg)), (4, .long (s + ((Int64.ofInt (sg * (A 17 (12 + y).toNat))) * z21))), (0, .ref 17), (1, gs_iv 2), (2, gs_iv rs), (3, gs_iv cs)]) (List.forall_mem_cons.mpr ⟨(.head _), (List.forall_mem_cons.mpr ⟨(.tail _ (.head _)), (List.forall_mem_cons.mpr ⟨(.tail _ (.tail _ (.head _))), (List.forall_mem_cons.mpr ⟨(.tail _ (.tail _ (.tail _ (.tail _ (.head _))))), (List.forall_mem_cons.mpr ⟨(.tail _ (.tail _ (.tail _ (.tail _ (.tail _ (.head _)))))), (List.forall_mem_cons.mpr ⟨(.tail _ (.tail _ (.tail _ (.tail _ (.tail _ (.tail _ (.head _))))))), (List.forall_mem_cons.mpr ⟨(.tail _ (.tail _ (.tail _ (.tail _ (.tail _ (.tail _ (.tail _ (.head _)))))))), (fun _ h => absurd h List.not_mem_nil)⟩)⟩)⟩)⟩)⟩)⟩)⟩) ?_
          exact ih (s + ((Int64.ofInt (sg * (A 17 (12 + y).toNat))) * z21)) (-sg) (y + 1)  (by omega) (by omega) (by omega)
theorem c_X0_corner_v2 {rs cs : Int} {F A : gs_F} (hI : gs_I F A) (h1 : -2147483648 ≤ rs ∧ rs ≤ 2147483647) (h2 : -2147483648 ≤ cs ∧ cs ≤ 2147483647) : sC m_X0_corner 5 [.ref 17, gs_iv 2, gs_iv rs, gs_iv cs] F A (fun rv F' A' => ∃ z : Int64, rv = some (.long z) ∧ F = F' ∧ A = A' ∧ (True)) := by
  refine sC_of ok_X0_corner.1 (Nat.le_of_ble_eq_true rfl) ?_
  show sA _ _ _ 0 [(0, .ref 17), (1, gs_iv 2), (2, gs_iv rs), (3, gs_iv cs)] [] F A
  refine sA_iload_n dd_X0_corner_0 rfl (.tail _ (.head _)) ?_
  refine sA_bipush (z := 6) dd_X0_corner_1 (by decide) ?_
  refine sA_icmp_lt (tgt := 8) dd_X0_corner_3 (by decide) (by omega) (by omega) (fun q24 => ?_) (fun q24 => absurd q24 (by omega))
  refine sA_iload_n dd_X0_corner_8 rfl (.tail _ (.tail _ (.head _))) ?_
  refine sA_iload_n dd_X0_corner_9 rfl (.tail _ (.head _)) ?_
  refine sA_ishr dd_X0_corner_10 ?_
  have b25 := gs_t_rng (Int32.ofInt rs >>> (Int32.ofInt 2 &&& 31))
  generalize gs_t (Int32.ofInt rs >>> (Int32.ofInt 2 &&& 31)) = w26 at b25 ⊢
  refine sA_iconst (z := 1) dd_X0_corner_11 ?_
  refine sA_iand dd_X0_corner_12 ?_
  have b27 := gs_t_rng (Int32.ofInt w26 &&& Int32.ofInt 1)
  generalize gs_t (Int32.ofInt w26 &&& Int32.ofInt 1) = w28 at b27 ⊢
  refine sA_if_ne (tgt := 26) dd_X0_corner_13 (by decide) (by omega) (fun q29 => ?_) (fun q29 => ?_)
  · skip
    refine sA_lconst (z := 0) dd_X0_corner_26 (by decide) ?_
    refine sA_lstore (lv' := [(4, gs_lv 0), (0, .ref 17), (1, gs_iv 2), (2, gs_iv rs), (3, gs_iv cs)]) dd_X0_corner_27 (by decide) rfl ?_
    refine sA_iconst (z := 1) dd_X0_corner_29 ?_
    refine sA_istore (lv' := [(6, gs_iv 1), (4, gs_lv 0), (0, .ref 17), (1, gs_iv 2), (2, gs_iv rs), (3, gs_iv cs)]) dd_X0_corner_30 (by decide) rfl ?_
    refine sA_iconst (z := 0) dd_X0_corner_32 ?_
    refine sA_istore (lv' := [(7, gs_iv 0), (6, gs_iv 1), (4, gs_lv 0), (0, .ref 17), (1, gs_iv 2), (2, gs_iv rs), (3, gs_iv cs)]) dd_X0_corner_33 (by decide) rfl ?_
    refine sA_sub (lv2 := [(7, gs_iv 0), (6, gs_iv 1), (4, gs_lv 0), (0, .ref 17), (1, gs_iv 2), (2, gs_iv rs), (3, gs_iv cs)]) (List.forall_mem_cons.mpr ⟨(.head _), (List.forall_mem_cons.mpr ⟨(.tail _ (.head _)), (List.forall_mem_cons.mpr ⟨(.tail _ (.tail _ (.head _))), (List.forall_mem_cons.mpr ⟨(.tail _ (.tail _ (.tail _ (.head _)))), (List.forall_mem_cons.mpr ⟨(.tail _ (.tail _ (.tail _ (.tail _ (.head _))))), (List.forall_mem_cons.mpr ⟨(.tail _ (.tail _ (.tail _ (.tail _ (.tail _ (.head _)))))), (List.forall_mem_cons.mpr ⟨(.tail _ (.tail _ (.tail _ (.tail _ (.tail _ (.tail _ (.head _))))))), (fun _ h => absurd h List.not_mem_nil)⟩)⟩)⟩)⟩)⟩)⟩)⟩) ?_
    exact (k_X0_corner_v2 hI h1 h2 (6 - 0 : Int).toNat.succ) (Int64.ofInt 0) 1 0  (by omega) (by omega) (by omega)
  · skip
    refine sA_aload_n dd_X0_corner_16 rfl (.head _) ?_
    refine sA_iload_n dd_X0_corner_17 rfl (.tail _ (.head _)) ?_
    refine sA_iconst (z := 1) dd_X0_corner_18 ?_
    refine sA_iadd dd_X0_corner_19 ?_
    show sA _ _ _ _ _ (gs_iv 3 :: _) _ _
    refine sA_iload_n dd_X0_corner_20 rfl (.tail _ (.tail _ (.head _))) ?_
    refine sA_iload_n dd_X0_corner_21 rfl (.tail _ (.tail _ (.tail _ (.head _)))) ?_
    refine sA_callS (y2 := m_X0_corner) (n2 := 4) (d2 := 4) (as := [.ref 17, gs_iv 3, gs_iv rs, gs_iv cs]) (rest := []) dd_X0_corner_22 ok_X0_corner ml_X0_76 rfl rfl (Nat.le_of_ble_eq_true rfl) (by decide) (c_X0_corner_v3 hI (by omega) (by omega)) (fun r30 F31 A32 h33 => ?_)
    obtain ⟨z36, e35, e37, e38, x34⟩ := h33
    subst e35 e37 e38
    show sA _ _ _ 25 _ [.long z36] _ _
    refine sA_lret dd_X0_corner_25 rfl ?_
    exact ⟨_, rfl, rfl, rfl, trivial⟩
theorem k_X0_corner_v1 {rs cs : Int} {F A : gs_F} (hI : gs_I F A) (h1 : -2147483648 ≤ rs ∧ rs ≤ 2147483647) (h2 : -2147483648 ≤ cs ∧ cs ≤ 2147483647) : ∀ nN : Nat, (∀ (s : Int64) (sg : Int) (y : Int),  0 ≤ y ∧ y ≤ 6 → sg = 1 ∨ sg = -1 → 6 - y < (nN : Int) → sA m_X0_corner 6 (fun rv F' A' => ∃ z : Int64, rv = some (.long z) ∧ F = F' ∧ A = A' ∧ (True)) 35 [(7, gs_iv y), (6, gs_iv sg), (4, .long s), (0, .ref 17), (1, gs_iv 1), (2, gs_iv rs), (3, gs_iv cs)] [] F A) := by
  intro nN
  induction nN with
  | zero =>
    exact fun a0 a1 a2 i0 i1 hm => by exfalso; omega
  | succ nN ih =>
    intro s sg y i0 i1 hm
    refine sA_iload dd_X0_corner_35 (.head _) ?_
    refine sA_bipush (z := 6) dd_X0_corner_37 (by decide) ?_
    refine sA_icmp_ge (tgt := 107) dd_X0_corner_39 (by decide) (by omega) (by omega) (fun q1 => ?_) (fun q1 => ?_)
    · skip
      refine sA_lload dd_X0_corner_107 (.tail _ (.tail _ (.head _))) ?_
      refine sA_lret dd_X0_corner_109 rfl ?_
      exact ⟨_, rfl, rfl, rfl, trivial⟩
    · skip
      refine sA_iload_n dd_X0_corner_42 rfl (.tail _ (.tail _ (.tail _ (.tail _ (.tail _ (.tail _ (.head _))))))) ?_
      refine sA_iload dd_X0_corner_43 (.head _) ?_
      refine sA_ishr dd_X0_corner_45 ?_
      have b2 := gs_t_rng (Int32.ofInt cs >>> (Int32.ofInt y &&& 31))
      generalize gs_t (Int32.ofInt cs >>> (Int32.ofInt y &&& 31)) = w3 at b2 ⊢
      refine sA_iconst (z := 1) dd_X0_corner_46 ?_
      refine sA_iand dd_X0_corner_47 ?_
      have b4 := gs_t_rng (Int32.ofInt w3 &&& Int32.ofInt 1)
      generalize gs_t (Int32.ofInt w3 &&& Int32.ofInt 1) = w5 at b4 ⊢
      refine sA_if_eq (tgt := 101) dd_X0_corner_48 (by decide) (by omega) (fun q6 => ?_) (fun q6 => ?_)
      · skip
        refine sA_iinc (lv' := [(7, gs_iv (y + 1)), (6, gs_iv sg), (4, .long s), (0, .ref 17), (1, gs_iv 1), (2, gs_iv rs), (3, gs_iv cs)]) dd_X0_corner_101 (.head _) (by decide) rfl ?_
        refine sA_goto (tgt := 35) dd_X0_corner_104 (by decide) ?_
        refine sA_sub (lv2 := [(7, gs_iv (y + 1)), (6, gs_iv sg), (4, .long s), (0, .ref 17), (1, gs_iv 1), (2, gs_iv rs), (3, gs_iv cs)]) (List.forall_mem_cons.mpr ⟨(.head _), (List.forall_mem_cons.mpr ⟨(.tail _ (.head _)), (List.forall_mem_cons.mpr ⟨(.tail _ (.tail _ (.head _))), (List.forall_mem_cons.mpr ⟨(.tail _ (.tail _ (.tail _ (.head _)))), (List.forall_mem_cons.mpr ⟨(.tail _ (.tail _ (.tail _ (.tail _ (.head _))))), (List.forall_mem_cons.mpr ⟨(.tail _ (.tail _ (.tail _ (.tail _ (.tail _ (.head _)))))), (List.forall_mem_cons.mpr ⟨(.tail _ (.tail _ (.tail _ (.tail _ (.tail _ (.tail _ (.head _))))))), (fun _ h => absurd h List.not_mem_nil)⟩)⟩)⟩)⟩)⟩)⟩)⟩) ?_
        exact ih s sg (y + 1)  (by omega) (by omega) (by omega)
      · skip
        refine sA_aload_n dd_X0_corner_51 rfl (.tail _ (.tail _ (.tail _ (.head _)))) ?_
        refine sA_iload_n dd_X0_corner_52 rfl (.tail _ (.tail _ (.tail _ (.tail _ (.head _))))) ?_
        refine sA_bipush (z := 6) dd_X0_corner_53 (by decide) ?_
        refine sA_imul dd_X0_corner_55 ?_
        show sA _ _ _ _ _ (gs_iv 6 :: _) _ _
        refine sA_iload dd_X0_corner_56 (.head _) ?_
        refine sA_iadd dd_X0_corner_58 ?_
        refine sA_iald (n := 36) dd_X0_corner_59 (by decide) gs_s17 (by omega) (by decide) ?_
        have b7 : (-2147483648 : Int) ≤ A 17 (6 + y).toNat ∧ A 17 (6 + y).toNat ≤ 2147483647 := hI.2 17 (6 + y).toNat
        refine sA_istore (lv' := [(8, gs_iv (A 17 (6 + y).toNat)), (7, gs_iv y), (6, gs_iv sg), (4, .long s), (0, .ref 17), (1, gs_iv 1), (2, gs_iv rs), (3, gs_iv cs)]) dd_X0_corner_60 (by decide) rfl ?_
        refine sA_iload dd_X0_corner_62 (.head _) ?_
        refine sA_if_eq (tgt := 96) dd_X0_corner_64 (by decide) (by omega) (fun q8 => ?_) (fun q8 => ?_)
        · skip
          refine sA_iload dd_X0_corner_96 (.tail _ (.tail _ (.head _))) ?_
          refine sA_ineg dd_X0_corner_98 ?_
          refine sA_istore (lv' := [(6, gs_iv (-sg)), (8, gs_iv (A 17 (6 + y).toNat)), (7, gs_iv y), (4, .long s), (0, .ref 17), (1, gs_iv 1), (2, gs_iv rs), (3, gs_iv cs)]) dd_X0_corner_99 (by decide) rfl ?_
          refine sA_iinc (lv' := [(7, gs_iv (y + 1)), (6, gs_iv (-sg)), (8, gs_iv (A 17 (6 + y).toNat)), (4, .long s), (0, .ref 17), (1, gs_iv 1), (2, gs_iv rs), (3, gs_iv cs)]) dd_X0_corner_101 (.tail _ (.tail _ (.head _))) (by decide) rfl ?_
          refine sA_goto (tgt := 35) dd_X0_corner_104 (by decide) ?_
          refine sA_sub (lv2 := [(7, gs_iv (y + 1)), (6, gs_iv (-sg)), (4, .long s), (0, .ref 17), (1, gs_iv 1), (2, gs_iv rs), (3, gs_iv cs)]) (List.forall_mem_cons.mpr ⟨(.head _), (List.forall_mem_cons.mpr ⟨(.tail _ (.head _)), (List.forall_mem_cons.mpr ⟨(.tail _ (.tail _ (.tail _ (.head _)))), (List.forall_mem_cons.mpr ⟨(.tail _ (.tail _ (.tail _ (.tail _ (.head _))))), (List.forall_mem_cons.mpr ⟨(.tail _ (.tail _ (.tail _ (.tail _ (.tail _ (.head _)))))), (List.forall_mem_cons.mpr ⟨(.tail _ (.tail _ (.tail _ (.tail _ (.tail _ (.tail _ (.head _))))))), (List.forall_mem_cons.mpr ⟨(.tail _ (.tail _ (.tail _ (.tail _ (.tail _ (.tail _ (.tail _ (.head _)))))))), (fun _ h => absurd h List.not_mem_nil)⟩)⟩)⟩)⟩)⟩)⟩)⟩) ?_
          exact ih s (-sg) (y + 1)  (by omega) (by omega) (by omega)
        · skip
          refine sA_lload dd_X0_corner_67 (.tail _ (.tail _ (.tail _ (.head _)))) ?_
          refine sA_iload dd_X0_corner_69 (.tail _ (.tail _ (.head _))) ?_
          refine sA_i2l dd_X0_corner_71 (by omega) ?_
          refine sA_iload dd_X0_corner_72 (.head _) ?_
          refine sA_i2l dd_X0_corner_74 (by omega) ?_
          refine sA_lmul dd_X0_corner_75 ?_
          refine sA_aload_n dd_X0_corner_76 rfl (.tail _ (.tail _ (.tail _ (.tail _ (.head _))))) ?_
          refine sA_iload_n dd_X0_corner_77 rfl (.tail _ (.tail _ (.tail _ (.tail _ (.tail _ (.head _)))))) ?_
          refine sA_iconst (z := 1) dd_X0_corner_78 ?_
          refine sA_iadd dd_X0_corner_79 ?_
          show sA _ _ _ _ _ (gs_iv 2 :: _) _ _
          refine sA_iload_n dd_X0_corner_80 rfl (.tail _ (.tail _ (.tail _ (.tail _ (.tail _ (.tail _ (.head _))))))) ?_
          refine sA_iload_n dd_X0_corner_81 rfl (.tail _ (.tail _ (.tail _ (.tail _ (.tail _ (.tail _ (.tail _ (.head _)))))))) ?_
          refine sA_iconst (z := 1) dd_X0_corner_82 ?_
          refine sA_iload dd_X0_corner_83 (.tail _ (.head _)) ?_
          refine sA_ishl dd_X0_corner_85 ?_
          have b9 := gs_t_rng (Int32.ofInt 1 <<< (Int32.ofInt y &&& 31))
          generalize gs_t (Int32.ofInt 1 <<< (Int32.ofInt y &&& 31)) = w10 at b9 ⊢
          refine sA_iconst (z := (-1)) dd_X0_corner_86 ?_
          refine sA_ixor dd_X0_corner_87 ?_
          have b11 := gs_t_rng (Int32.ofInt w10 ^^^ Int32.ofInt (-1))
          generalize gs_t (Int32.ofInt w10 ^^^ Int32.ofInt (-1)) = w12 at b11 ⊢
          refine sA_iand dd_X0_corner_88 ?_
          have b13 := gs_t_rng (Int32.ofInt cs &&& Int32.ofInt w12)
          generalize gs_t (Int32.ofInt cs &&& Int32.ofInt w12) = w14 at b13 ⊢
          refine sA_callS (y2 := m_X0_corner) (n2 := 4) (d2 := 5) (as := [.ref 17, gs_iv 2, gs_iv rs, gs_iv w14]) (rest := [gs_lv (sg * (A 17 (6 + y).toNat)), .long s]) dd_X0_corner_89 ok_X0_corner ml_X0_76 rfl rfl (Nat.le_of_ble_eq_true rfl) (by decide) (c_X0_corner_v2 hI (by omega) (by omega)) (fun r15 F16 A17 h18 => ?_)
          obtain ⟨z21, e20, e22, e23, x19⟩ := h18
          subst e20 e22 e23
          show sA _ _ _ 92 _ [.long z21, gs_lv (sg * (A 17 (6 + y).toNat)), .long s] _ _
          refine sA_lmulR dd_X0_corner_92 ?_
          refine sA_laddR dd_X0_corner_93 ?_
          refine sA_lstore (lv' := [(4, .long (s + ((Int64.ofInt (sg * (A 17 (6 + y).toNat))) * z21))), (8, gs_iv (A 17 (6 + y).toNat)), (7, gs_iv y), (6, gs_iv sg), (0, .ref 17), (1, gs_iv 1), (2, gs_iv rs), (3, gs_iv cs)]) dd_X0_corner_94 (by decide) rfl ?_
          refine sA_iload dd_X0_corner_96 (.tail _ (.tail _ (.tail _ (.head _)))) ?_
          refine sA_ineg dd_X0_corner_98 ?_
          refine sA_istore (lv' := [(6, gs_iv (-sg)), (4, .long (s + ((Int64.ofInt (sg * (A 17 (6 + y).toNat))) * z21))), (8, gs_iv (A 17 (6 + y).toNat)), (7, gs_iv y), (0, .ref 17), (1, gs_iv 1), (2, gs_iv rs), (3, gs_iv cs)]) dd_X0_corner_99 (by decide) rfl ?_
          refine sA_iinc (lv' := [(7, gs_iv (y + 1)), (6, gs_iv (-sg)), (4, .long (s + ((Int64.ofInt (sg * (A 17 (6 + y).toNat))) * z21))), (8, gs_iv (A 17 (6 + y).toNat)), (0, .ref 17), (1, gs_iv 1), (2, gs_iv rs), (3, gs_iv cs)]) dd_X0_corner_101 (.tail _ (.tail _ (.tail _ (.head _)))) (by decide) rfl ?_
          refine sA_goto (tgt := 35) dd_X0_corner_104 (by decide) ?_
          refine sA_sub (lv2 := [(7, gs_iv (y + 1)), (6, gs_iv (-sg)), (4, .long (s + ((Int64.ofInt (sg * (A 17 (6 + y).toNat))) * z21))), (0, .ref 17), (1, gs_iv 1), (2, gs_iv rs), (3, gs_iv cs)]) (List.forall_mem_cons.mpr ⟨(.head _), (List.forall_mem_cons.mpr ⟨(.tail _ (.head _)), (List.forall_mem_cons.mpr ⟨(.tail _ (.tail _ (.head _))), (List.forall_mem_cons.mpr ⟨(.tail _ (.tail _ (.tail _ (.tail _ (.head _))))), (List.forall_mem_cons.mpr ⟨(.tail _ (.tail _ (.tail _ (.tail _ (.tail _ (.head _)))))), (List.forall_mem_cons.mpr ⟨(.tail _ (.tail _ (.tail _ (.tail _ (.tail _ (.tail _ (.head _))))))), (List.forall_mem_cons.mpr ⟨(.tail _ (.tail _ (.tail _ (.tail _ (.tail _ (.tail _ (.tail _ (.head _)))))))), (fun _ h => absurd h List.not_mem_nil)⟩)⟩)⟩)⟩)⟩)⟩)⟩) ?_
          exact ih (s + ((Int64.ofInt (sg * (A 17 (6 + y).toNat))) * z21)) (-sg) (y + 1)  (by omega) (by omega) (by omega)
theorem c_X0_corner_v1 {rs cs : Int} {F A : gs_F} (hI : gs_I F A) (h1 : -2147483648 ≤ rs ∧ rs ≤ 2147483647) (h2 : -2147483648 ≤ cs ∧ cs ≤ 2147483647) : sC m_X0_corner 6 [.ref 17, gs_iv 1, gs_iv rs, gs_iv cs] F A (fun rv F' A' => ∃ z : Int64, rv = some (.long z) ∧ F = F' ∧ A = A' ∧ (True)) := by
  refine sC_of ok_X0_corner.1 (Nat.le_of_ble_eq_true rfl) ?_
  show sA _ _ _ 0 [(0, .ref 17), (1, gs_iv 1), (2, gs_iv rs), (3, gs_iv cs)] [] F A
  refine sA_iload_n dd_X0_corner_0 rfl (.tail _ (.head _)) ?_
  refine sA_bipush (z := 6) dd_X0_corner_1 (by decide) ?_
  refine sA_icmp_lt (tgt := 8) dd_X0_corner_3 (by decide) (by omega) (by omega) (fun q24 => ?_) (fun q24 => absurd q24 (by omega))
  refine sA_iload_n dd_X0_corner_8 rfl (.tail _ (.tail _ (.head _))) ?_
  refine sA_iload_n dd_X0_corner_9 rfl (.tail _ (.head _)) ?_
  refine sA_ishr dd_X0_corner_10 ?_
  have b25 := gs_t_rng (Int32.ofInt rs >>> (Int32.ofInt 1 &&& 31))
  generalize gs_t (Int32.ofInt rs >>> (Int32.ofInt 1 &&& 31)) = w26 at b25 ⊢
  refine sA_iconst (z := 1) dd_X0_corner_11 ?_
  refine sA_iand dd_X0_corner_12 ?_
  have b27 := gs_t_rng (Int32.ofInt w26 &&& Int32.ofInt 1)
  generalize gs_t (Int32.ofInt w26 &&& Int32.ofInt 1) = w28 at b27 ⊢
  refine sA_if_ne (tgt := 26) dd_X0_corner_13 (by decide) (by omega) (fun q29 => ?_) (fun q29 => ?_)
  · skip
    refine sA_lconst (z := 0) dd_X0_corner_26 (by decide) ?_
    refine sA_lstore (lv' := [(4, gs_lv 0), (0, .ref 17), (1, gs_iv 1), (2, gs_iv rs), (3, gs_iv cs)]) dd_X0_corner_27 (by decide) rfl ?_
    refine sA_iconst (z := 1) dd_X0_corner_29 ?_
    refine sA_istore (lv' := [(6, gs_iv 1), (4, gs_lv 0), (0, .ref 17), (1, gs_iv 1), (2, gs_iv rs), (3, gs_iv cs)]) dd_X0_corner_30 (by decide) rfl ?_
    refine sA_iconst (z := 0) dd_X0_corner_32 ?_
    refine sA_istore (lv' := [(7, gs_iv 0), (6, gs_iv 1), (4, gs_lv 0), (0, .ref 17), (1, gs_iv 1), (2, gs_iv rs), (3, gs_iv cs)]) dd_X0_corner_33 (by decide) rfl ?_
    refine sA_sub (lv2 := [(7, gs_iv 0), (6, gs_iv 1), (4, gs_lv 0), (0, .ref 17), (1, gs_iv 1), (2, gs_iv rs), (3, gs_iv cs)]) (List.forall_mem_cons.mpr ⟨(.head _), (List.forall_mem_cons.mpr ⟨(.tail _ (.head _)), (List.forall_mem_cons.mpr ⟨(.tail _ (.tail _ (.head _))), (List.forall_mem_cons.mpr ⟨(.tail _ (.tail _ (.tail _ (.head _)))), (List.forall_mem_cons.mpr ⟨(.tail _ (.tail _ (.tail _ (.tail _ (.head _))))), (List.forall_mem_cons.mpr ⟨(.tail _ (.tail _ (.tail _ (.tail _ (.tail _ (.head _)))))), (List.forall_mem_cons.mpr ⟨(.tail _ (.tail _ (.tail _ (.tail _ (.tail _ (.tail _ (.head _))))))), (fun _ h => absurd h List.not_mem_nil)⟩)⟩)⟩)⟩)⟩)⟩)⟩) ?_
    exact (k_X0_corner_v1 hI h1 h2 (6 - 0 : Int).toNat.succ) (Int64.ofInt 0) 1 0  (by omega) (by omega) (by omega)
  · skip
    refine sA_aload_n dd_X0_corner_16 rfl (.head _) ?_
    refine sA_iload_n dd_X0_corner_17 rfl (.tail _ (.head _)) ?_
    refine sA_iconst (z := 1) dd_X0_corner_18 ?_
    refine sA_iadd dd_X0_corner_19 ?_
    show sA _ _ _ _ _ (gs_iv 2 :: _) _ _
    refine sA_iload_n dd_X0_corner_20 rfl (.tail _ (.tail _ (.head _))) ?_
    refine sA_iload_n dd_X0_corner_21 rfl (.tail _ (.tail _ (.tail _ (.head _)))) ?_
    refine sA_callS (y2 := m_X0_corner) (n2 := 4) (d2 := 5) (as := [.ref 17, gs_iv 2, gs_iv rs, gs_iv cs]) (rest := []) dd_X0_corner_22 ok_X0_corner ml_X0_76 rfl rfl (Nat.le_of_ble_eq_true rfl) (by decide) (c_X0_corner_v2 hI (by omega) (by omega)) (fun r30 F31 A32 h33 => ?_)
    obtain ⟨z36, e35, e37, e38, x34⟩ := h33
    subst e35 e37 e38
    show sA _ _ _ 25 _ [.long z36] _ _
    refine sA_lret dd_X0_corner_25 rfl ?_
    exact ⟨_, rfl, rfl, rfl, trivial⟩
theorem k_X0_corner_v0 {rs cs : Int} {F A : gs_F} (hI : gs_I F A) (h1 : -2147483648 ≤ rs ∧ rs ≤ 2147483647) (h2 : -2147483648 ≤ cs ∧ cs ≤ 2147483647) : ∀ nN : Nat, (∀ (s : Int64) (sg : Int) (y : Int),  0 ≤ y ∧ y ≤ 6 → sg = 1 ∨ sg = -1 → 6 - y < (nN : Int) → sA m_X0_corner 7 (fun rv F' A' => ∃ z : Int64, rv = some (.long z) ∧ F = F' ∧ A = A' ∧ (True)) 35 [(7, gs_iv y), (6, gs_iv sg), (4, .long s), (0, .ref 17), (1, gs_iv 0), (2, gs_iv rs), (3, gs_iv cs)] [] F A) := by
  intro nN
  induction nN with
  | zero =>
    exact fun a0 a1 a2 i0 i1 hm => by exfalso; omega
  | succ nN ih =>
    intro s sg y i0 i1 hm
    refine sA_iload dd_X0_corner_35 (.head _) ?_
    refine sA_bipush (z := 6) dd_X0_corner_37 (by decide) ?_
    refine sA_icmp_ge (tgt := 107) dd_X0_corner_39 (by decide) (by omega) (by omega) (fun q1 => ?_) (fun q1 => ?_)
    · skip
      refine sA_lload dd_X0_corner_107 (.tail _ (.tail _ (.head _))) ?_
      refine sA_lret dd_X0_corner_109 rfl ?_
      exact ⟨_, rfl, rfl, rfl, trivial⟩
    · skip
      refine sA_iload_n dd_X0_corner_42 rfl (.tail _ (.tail _ (.tail _ (.tail _ (.tail _ (.tail _ (.head _))))))) ?_
      refine sA_iload dd_X0_corner_43 (.head _) ?_
      refine sA_ishr dd_X0_corner_45 ?_
      have b2 := gs_t_rng (Int32.ofInt cs >>> (Int32.ofInt y &&& 31))
      generalize gs_t (Int32.ofInt cs >>> (Int32.ofInt y &&& 31)) = w3 at b2 ⊢
      refine sA_iconst (z := 1) dd_X0_corner_46 ?_
      refine sA_iand dd_X0_corner_47 ?_
      have b4 := gs_t_rng (Int32.ofInt w3 &&& Int32.ofInt 1)
      generalize gs_t (Int32.ofInt w3 &&& Int32.ofInt 1) = w5 at b4 ⊢
      refine sA_if_eq (tgt := 101) dd_X0_corner_48 (by decide) (by omega) (fun q6 => ?_) (fun q6 => ?_)
      · skip
        refine sA_iinc (lv' := [(7, gs_iv (y + 1)), (6, gs_iv sg), (4, .long s), (0, .ref 17), (1, gs_iv 0), (2, gs_iv rs), (3, gs_iv cs)]) dd_X0_corner_101 (.head _) (by decide) rfl ?_
        refine sA_goto (tgt := 35) dd_X0_corner_104 (by decide) ?_
        refine sA_sub (lv2 := [(7, gs_iv (y + 1)), (6, gs_iv sg), (4, .long s), (0, .ref 17), (1, gs_iv 0), (2, gs_iv rs), (3, gs_iv cs)]) (List.forall_mem_cons.mpr ⟨(.head _), (List.forall_mem_cons.mpr ⟨(.tail _ (.head _)), (List.forall_mem_cons.mpr ⟨(.tail _ (.tail _ (.head _))), (List.forall_mem_cons.mpr ⟨(.tail _ (.tail _ (.tail _ (.head _)))), (List.forall_mem_cons.mpr ⟨(.tail _ (.tail _ (.tail _ (.tail _ (.head _))))), (List.forall_mem_cons.mpr ⟨(.tail _ (.tail _ (.tail _ (.tail _ (.tail _ (.head _)))))), (List.forall_mem_cons.mpr ⟨(.tail _ (.tail _ (.tail _ (.tail _ (.tail _ (.tail _ (.head _))))))), (fun _ h => absurd h List.not_mem_nil)⟩)⟩)⟩)⟩)⟩)⟩)⟩) ?_
        exact ih s sg (y + 1)  (by omega) (by omega) (by omega)
      · skip
        refine sA_aload_n dd_X0_corner_51 rfl (.tail _ (.tail _ (.tail _ (.head _)))) ?_
        refine sA_iload_n dd_X0_corner_52 rfl (.tail _ (.tail _ (.tail _ (.tail _ (.head _))))) ?_
        refine sA_bipush (z := 6) dd_X0_corner_53 (by decide) ?_
        refine sA_imul dd_X0_corner_55 ?_
        show sA _ _ _ _ _ (gs_iv 0 :: _) _ _
        refine sA_iload dd_X0_corner_56 (.head _) ?_
        refine sA_iadd dd_X0_corner_58 ?_
        refine sA_iald (n := 36) dd_X0_corner_59 (by decide) gs_s17 (by omega) (by decide) ?_
        have b7 : (-2147483648 : Int) ≤ A 17 (0 + y).toNat ∧ A 17 (0 + y).toNat ≤ 2147483647 := hI.2 17 (0 + y).toNat
        refine sA_istore (lv' := [(8, gs_iv (A 17 (0 + y).toNat)), (7, gs_iv y), (6, gs_iv sg), (4, .long s), (0, .ref 17), (1, gs_iv 0), (2, gs_iv rs), (3, gs_iv cs)]) dd_X0_corner_60 (by decide) rfl ?_
        refine sA_iload dd_X0_corner_62 (.head _) ?_
        refine sA_if_eq (tgt := 96) dd_X0_corner_64 (by decide) (by omega) (fun q8 => ?_) (fun q8 => ?_)
        · skip
          refine sA_iload dd_X0_corner_96 (.tail _ (.tail _ (.head _))) ?_
          refine sA_ineg dd_X0_corner_98 ?_
          refine sA_istore (lv' := [(6, gs_iv (-sg)), (8, gs_iv (A 17 (0 + y).toNat)), (7, gs_iv y), (4, .long s), (0, .ref 17), (1, gs_iv 0), (2, gs_iv rs), (3, gs_iv cs)]) dd_X0_corner_99 (by decide) rfl ?_
          refine sA_iinc (lv' := [(7, gs_iv (y + 1)), (6, gs_iv (-sg)), (8, gs_iv (A 17 (0 + y).toNat)), (4, .long s), (0, .ref 17), (1, gs_iv 0), (2, gs_iv rs), (3, gs_iv cs)]) dd_X0_corner_101 (.tail _ (.tail _ (.head _))) (by decide) rfl ?_
          refine sA_goto (tgt := 35) dd_X0_corner_104 (by decide) ?_
          refine sA_sub (lv2 := [(7, gs_iv (y + 1)), (6, gs_iv (-sg)), (4, .long s), (0, .ref 17), (1, gs_iv 0), (2, gs_iv rs), (3, gs_iv cs)]) (List.forall_mem_cons.mpr ⟨(.head _), (List.forall_mem_cons.mpr ⟨(.tail _ (.head _)), (List.forall_mem_cons.mpr ⟨(.tail _ (.tail _ (.tail _ (.head _)))), (List.forall_mem_cons.mpr ⟨(.tail _ (.tail _ (.tail _ (.tail _ (.head _))))), (List.forall_mem_cons.mpr ⟨(.tail _ (.tail _ (.tail _ (.tail _ (.tail _ (.head _)))))), (List.forall_mem_cons.mpr ⟨(.tail _ (.tail _ (.tail _ (.tail _ (.tail _ (.tail _ (.head _))))))), (List.forall_mem_cons.mpr ⟨(.tail _ (.tail _ (.tail _ (.tail _ (.tail _ (.tail _ (.tail _ (.head _)))))))), (fun _ h => absurd h List.not_mem_nil)⟩)⟩)⟩)⟩)⟩)⟩)⟩) ?_
          exact ih s (-sg) (y + 1)  (by omega) (by omega) (by omega)
        · skip
          refine sA_lload dd_X0_corner_67 (.tail _ (.tail _ (.tail _ (.head _)))) ?_
          refine sA_iload dd_X0_corner_69 (.tail _ (.tail _ (.head _))) ?_
          refine sA_i2l dd_X0_corner_71 (by omega) ?_
          refine sA_iload dd_X0_corner_72 (.head _) ?_
          refine sA_i2l dd_X0_corner_74 (by omega) ?_
          refine sA_lmul dd_X0_corner_75 ?_
          refine sA_aload_n dd_X0_corner_76 rfl (.tail _ (.tail _ (.tail _ (.tail _ (.head _))))) ?_
          refine sA_iload_n dd_X0_corner_77 rfl (.tail _ (.tail _ (.tail _ (.tail _ (.tail _ (.head _)))))) ?_
          refine sA_iconst (z := 1) dd_X0_corner_78 ?_
          refine sA_iadd dd_X0_corner_79 ?_
          show sA _ _ _ _ _ (gs_iv 1 :: _) _ _
          refine sA_iload_n dd_X0_corner_80 rfl (.tail _ (.tail _ (.tail _ (.tail _ (.tail _ (.tail _ (.head _))))))) ?_
          refine sA_iload_n dd_X0_corner_81 rfl (.tail _ (.tail _ (.tail _ (.tail _ (.tail _ (.tail _ (.tail _ (.head _)))))))) ?_
          refine sA_iconst (z := 1) dd_X0_corner_82 ?_
          refine sA_iload dd_X0_corner_83 (.tail _ (.head _)) ?_
          refine sA_ishl dd_X0_corner_85 ?_
          have b9 := gs_t_rng (Int32.ofInt 1 <<< (Int32.ofInt y &&& 31))
          generalize gs_t (Int32.ofInt 1 <<< (Int32.ofInt y &&& 31)) = w10 at b9 ⊢
          refine sA_iconst (z := (-1)) dd_X0_corner_86 ?_
          refine sA_ixor dd_X0_corner_87 ?_
          have b11 := gs_t_rng (Int32.ofInt w10 ^^^ Int32.ofInt (-1))
          generalize gs_t (Int32.ofInt w10 ^^^ Int32.ofInt (-1)) = w12 at b11 ⊢
          refine sA_iand dd_X0_corner_88 ?_
          have b13 := gs_t_rng (Int32.ofInt cs &&& Int32.ofInt w12)
          generalize gs_t (Int32.ofInt cs &&& Int32.ofInt w12) = w14 at b13 ⊢
          refine sA_callS (y2 := m_X0_corner) (n2 := 4) (d2 := 6) (as := [.ref 17, gs_iv 1, gs_iv rs, gs_iv w14]) (rest := [gs_lv (sg * (A 17 (0 + y).toNat)), .long s]) dd_X0_corner_89 ok_X0_corner ml_X0_76 rfl rfl (Nat.le_of_ble_eq_true rfl) (by decide) (c_X0_corner_v1 hI (by omega) (by omega)) (fun r15 F16 A17 h18 => ?_)
          obtain ⟨z21, e20, e22, e23, x19⟩ := h18
          subst e20 e22 e23
          show sA _ _ _ 92 _ [.long z21, gs_lv (sg * (A 17 (0 + y).toNat)), .long s] _ _
          refine sA_lmulR dd_X0_corner_92 ?_
          refine sA_laddR dd_X0_corner_93 ?_
          refine sA_lstore (lv' := [(4, .long (s + ((Int64.ofInt (sg * (A 17 (0 + y).toNat))) * z21))), (8, gs_iv (A 17 (0 + y).toNat)), (7, gs_iv y), (6, gs_iv sg), (0, .ref 17), (1, gs_iv 0), (2, gs_iv rs), (3, gs_iv cs)]) dd_X0_corner_94 (by decide) rfl ?_
          refine sA_iload dd_X0_corner_96 (.tail _ (.tail _ (.tail _ (.head _)))) ?_
          refine sA_ineg dd_X0_corner_98 ?_
          refine sA_istore (lv' := [(6, gs_iv (-sg)), (4, .long (s + ((Int64.ofInt (sg * (A 17 (0 + y).toNat))) * z21))), (8, gs_iv (A 17 (0 + y).toNat)), (7, gs_iv y), (0, .ref 17), (1, gs_iv 0), (2, gs_iv rs), (3, gs_iv cs)]) dd_X0_corner_99 (by decide) rfl ?_
          refine sA_iinc (lv' := [(7, gs_iv (y + 1)), (6, gs_iv (-sg)), (4, .long (s + ((Int64.ofInt (sg * (A 17 (0 + y).toNat))) * z21))), (8, gs_iv (A 17 (0 + y).toNat)), (0, .ref 17), (1, gs_iv 0), (2, gs_iv rs), (3, gs_iv cs)]) dd_X0_corner_101 (.tail _ (.tail _ (.tail _ (.head _)))) (by decide) rfl ?_
          refine sA_goto (tgt := 35) dd_X0_corner_104 (by decide) ?_
          refine sA_sub (lv2 := [(7, gs_iv (y + 1)), (6, gs_iv (-sg)), (4, .long (s + ((Int64.ofInt (sg * (A 17 (0 + y).toNat))) * z21))), (0, .ref 17), (1, gs_iv 0), (2, gs_iv rs), (3, gs_iv cs)]) (List.forall_mem_cons.mpr ⟨(.head _), (List.forall_mem_cons.mpr ⟨(.tail _ (.head _)), (List.forall_mem_cons.mpr ⟨(.tail _ (.tail _ (.head _))), (List.forall_mem_cons.mpr ⟨(.tail _ (.tail _ (.tail _ (.tail _ (.head _))))), (List.forall_mem_cons.mpr ⟨(.tail _ (.tail _ (.tail _ (.tail _ (.tail _ (.head _)))))), (List.forall_mem_cons.mpr ⟨(.tail _ (.tail _ (.tail _ (.tail _ (.tail _ (.tail _ (.head _))))))), (List.forall_mem_cons.mpr ⟨(.tail _ (.tail _ (.tail _ (.tail _ (.tail _ (.tail _ (.tail _ (.head _)))))))), (fun _ h => absurd h List.not_mem_nil)⟩)⟩)⟩)⟩)⟩)⟩)⟩) ?_
          exact ih (s + ((Int64.ofInt (sg * (A 17 (0 + y).toNat))) * z21)) (-sg) (y + 1)  (by omega) (by omega) (by omega)
theorem c_X0_corner_v0 {rs cs : Int} {F A : gs_F} (hI : gs_I F A) (h1 : -2147483648 ≤ rs ∧ rs ≤ 2147483647) (h2 : -2147483648 ≤ cs ∧ cs ≤ 2147483647) : sC m_X0_corner 7 [.ref 17, gs_iv 0, gs_iv rs, gs_iv cs] F A (fun rv F' A' => ∃ z : Int64, rv = some (.long z) ∧ F = F' ∧ A = A' ∧ (True)) := by
  refine sC_of ok_X0_corner.1 (Nat.le_of_ble_eq_true rfl) ?_
  show sA _ _ _ 0 [(0, .ref 17), (1, gs_iv 0), (2, gs_iv rs), (3, gs_iv cs)] [] F A
  refine sA_iload_n dd_X0_corner_0 rfl (.tail _ (.head _)) ?_
  refine sA_bipush (z := 6) dd_X0_corner_1 (by decide) ?_
  refine sA_icmp_lt (tgt := 8) dd_X0_corner_3 (by decide) (by omega) (by omega) (fun q24 => ?_) (fun q24 => absurd q24 (by omega))
  refine sA_iload_n dd_X0_corner_8 rfl (.tail _ (.tail _ (.head _))) ?_
  refine sA_iload_n dd_X0_corner_9 rfl (.tail _ (.head _)) ?_
  refine sA_ishr dd_X0_corner_10 ?_
  have b25 := gs_t_rng (Int32.ofInt rs >>> (Int32.ofInt 0 &&& 31))
  generalize gs_t (Int32.ofInt rs >>> (Int32.ofInt 0 &&& 31)) = w26 at b25 ⊢
  refine sA_iconst (z := 1) dd_X0_corner_11 ?_
  refine sA_iand dd_X0_corner_12 ?_
  have b27 := gs_t_rng (Int32.ofInt w26 &&& Int32.ofInt 1)
  generalize gs_t (Int32.ofInt w26 &&& Int32.ofInt 1) = w28 at b27 ⊢
  refine sA_if_ne (tgt := 26) dd_X0_corner_13 (by decide) (by omega) (fun q29 => ?_) (fun q29 => ?_)
  · skip
    refine sA_lconst (z := 0) dd_X0_corner_26 (by decide) ?_
    refine sA_lstore (lv' := [(4, gs_lv 0), (0, .ref 17), (1, gs_iv 0), (2, gs_iv rs), (3, gs_iv cs)]) dd_X0_corner_27 (by decide) rfl ?_
    refine sA_iconst (z := 1) dd_X0_corner_29 ?_
    refine sA_istore (lv' := [(6, gs_iv 1), (4, gs_lv 0), (0, .ref 17), (1, gs_iv 0), (2, gs_iv rs), (3, gs_iv cs)]) dd_X0_corner_30 (by decide) rfl ?_
    refine sA_iconst (z := 0) dd_X0_corner_32 ?_
    refine sA_istore (lv' := [(7, gs_iv 0), (6, gs_iv 1), (4, gs_lv 0), (0, .ref 17), (1, gs_iv 0), (2, gs_iv rs), (3, gs_iv cs)]) dd_X0_corner_33 (by decide) rfl ?_
    refine sA_sub (lv2 := [(7, gs_iv 0), (6, gs_iv 1), (4, gs_lv 0), (0, .ref 17), (1, gs_iv 0), (2, gs_iv rs), (3, gs_iv cs)]) (List.forall_mem_cons.mpr ⟨(.head _), (List.forall_mem_cons.mpr ⟨(.tail _ (.head _)), (List.forall_mem_cons.mpr ⟨(.tail _ (.tail _ (.head _))), (List.forall_mem_cons.mpr ⟨(.tail _ (.tail _ (.tail _ (.head _)))), (List.forall_mem_cons.mpr ⟨(.tail _ (.tail _ (.tail _ (.tail _ (.head _))))), (List.forall_mem_cons.mpr ⟨(.tail _ (.tail _ (.tail _ (.tail _ (.tail _ (.head _)))))), (List.forall_mem_cons.mpr ⟨(.tail _ (.tail _ (.tail _ (.tail _ (.tail _ (.tail _ (.head _))))))), (fun _ h => absurd h List.not_mem_nil)⟩)⟩)⟩)⟩)⟩)⟩)⟩) ?_
    exact (k_X0_corner_v0 hI h1 h2 (6 - 0 : Int).toNat.succ) (Int64.ofInt 0) 1 0  (by omega) (by omega) (by omega)
  · skip
    refine sA_aload_n dd_X0_corner_16 rfl (.head _) ?_
    refine sA_iload_n dd_X0_corner_17 rfl (.tail _ (.head _)) ?_
    refine sA_iconst (z := 1) dd_X0_corner_18 ?_
    refine sA_iadd dd_X0_corner_19 ?_
    show sA _ _ _ _ _ (gs_iv 1 :: _) _ _
    refine sA_iload_n dd_X0_corner_20 rfl (.tail _ (.tail _ (.head _))) ?_
    refine sA_iload_n dd_X0_corner_21 rfl (.tail _ (.tail _ (.tail _ (.head _)))) ?_
    refine sA_callS (y2 := m_X0_corner) (n2 := 4) (d2 := 6) (as := [.ref 17, gs_iv 1, gs_iv rs, gs_iv cs]) (rest := []) dd_X0_corner_22 ok_X0_corner ml_X0_76 rfl rfl (Nat.le_of_ble_eq_true rfl) (by decide) (c_X0_corner_v1 hI (by omega) (by omega)) (fun r30 F31 A32 h33 => ?_)
    obtain ⟨z36, e35, e37, e38, x34⟩ := h33
    subst e35 e37 e38
    show sA _ _ _ 25 _ [.long z36] _ _
    refine sA_lret dd_X0_corner_25 rfl ?_
    exact ⟨_, rfl, rfl, rfl, trivial⟩
theorem dd_X0_cornerSum_0 : decode cX0_cornerSum 0 = .ok (.iconst 0, 1) := by decide +kernel
theorem dd_X0_cornerSum_1 : decode cX0_cornerSum 1 = .ok (.istore_n 2, 1) := by decide +kernel
theorem dd_X0_cornerSum_2 : decode cX0_cornerSum 2 = .ok (.iload_n 2, 1) := by decide +kernel
theorem dd_X0_cornerSum_3 : decode cX0_cornerSum 3 = .ok (.aload_n 0, 1) := by decide +kernel
theorem dd_X0_cornerSum_4 : decode cX0_cornerSum 4 = .ok (.getfield 28, 3) := by decide +kernel
theorem dd_X0_cornerSum_7 : decode cX0_cornerSum 7 = .ok (.if_icmp .ge 48, 3) := by decide +kernel
theorem dd_X0_cornerSum_10 : decode cX0_cornerSum 10 = .ok (.iconst 0, 1) := by decide +kernel
theorem dd_X0_cornerSum_11 : decode cX0_cornerSum 11 = .ok (.istore_n 3, 1) := by decide +kernel
theorem dd_X0_cornerSum_12 : decode cX0_cornerSum 12 = .ok (.iload_n 3, 1) := by decide +kernel
theorem dd_X0_cornerSum_13 : decode cX0_cornerSum 13 = .ok (.aload_n 0, 1) := by decide +kernel
theorem dd_X0_cornerSum_14 : decode cX0_cornerSum 14 = .ok (.getfield 28, 3) := by decide +kernel
theorem dd_X0_cornerSum_17 : decode cX0_cornerSum 17 = .ok (.if_icmp .ge 32, 3) := by decide +kernel
theorem dd_X0_cornerSum_20 : decode cX0_cornerSum 20 = .ok (.aload_n 0, 1) := by decide +kernel
theorem dd_X0_cornerSum_21 : decode cX0_cornerSum 21 = .ok (.getfield 17, 3) := by decide +kernel
theorem dd_X0_cornerSum_24 : decode cX0_cornerSum 24 = .ok (.iload_n 2, 1) := by decide +kernel
theorem dd_X0_cornerSum_25 : decode cX0_cornerSum 25 = .ok (.bipush 6, 2) := by decide +kernel
theorem dd_X0_cornerSum_27 : decode cX0_cornerSum 27 = .ok (.imul, 1) := by decide +kernel
theorem dd_X0_cornerSum_28 : decode cX0_cornerSum 28 = .ok (.iload_n 3, 1) := by decide +kernel
theorem dd_X0_cornerSum_29 : decode cX0_cornerSum 29 = .ok (.iadd, 1) := by decide +kernel
theorem dd_X0_cornerSum_30 : decode cX0_cornerSum 30 = .ok (.aload_n 0, 1) := by decide +kernel
theorem dd_X0_cornerSum_31 : decode cX0_cornerSum 31 = .ok (.getfield 11, 3) := by decide +kernel
theorem dd_X0_cornerSum_34 : decode cX0_cornerSum 34 = .ok (.iload_n 2, 1) := by decide +kernel
theorem dd_X0_cornerSum_35 : decode cX0_cornerSum 35 = .ok (.aaload, 1) := by decide +kernel
theorem dd_X0_cornerSum_36 : decode cX0_cornerSum 36 = .ok (.iload_n 3, 1) := by decide +kernel
theorem dd_X0_cornerSum_37 : decode cX0_cornerSum 37 = .ok (.iconst 1, 1) := by decide +kernel
theorem dd_X0_cornerSum_38 : decode cX0_cornerSum 38 = .ok (.iadd, 1) := by decide +kernel
theorem dd_X0_cornerSum_39 : decode cX0_cornerSum 39 = .ok (.invokevirtual 68, 3) := by decide +kernel
theorem dd_X0_cornerSum_42 : decode cX0_cornerSum 42 = .ok (.iastore, 1) := by decide +kernel
theorem dd_X0_cornerSum_43 : decode cX0_cornerSum 43 = .ok (.iinc 3 1, 3) := by decide +kernel
theorem dd_X0_cornerSum_46 : decode cX0_cornerSum 46 = .ok (.goto (-34), 3) := by decide +kernel
theorem dd_X0_cornerSum_49 : decode cX0_cornerSum 49 = .ok (.iinc 2 1, 3) := by decide +kernel
theorem dd_X0_cornerSum_52 : decode cX0_cornerSum 52 = .ok (.goto (-50), 3) := by decide +kernel
theorem dd_X0_cornerSum_55 : decode cX0_cornerSum 55 = .ok (.lconst 0, 1) := by decide +kernel
theorem dd_X0_cornerSum_56 : decode cX0_cornerSum 56 = .ok (.lstore_n 2, 1) := by decide +kernel
theorem dd_X0_cornerSum_57 : decode cX0_cornerSum 57 = .ok (.iconst 0, 1) := by decide +kernel
theorem dd_X0_cornerSum_58 : decode cX0_cornerSum 58 = .ok (.istore 4, 2) := by decide +kernel
theorem dd_X0_cornerSum_60 : decode cX0_cornerSum 60 = .ok (.iload 4, 2) := by decide +kernel
theorem dd_X0_cornerSum_62 : decode cX0_cornerSum 62 = .ok (.iconst 1, 1) := by decide +kernel
theorem dd_X0_cornerSum_63 : decode cX0_cornerSum 63 = .ok (.aload_n 0, 1) := by decide +kernel
theorem dd_X0_cornerSum_64 : decode cX0_cornerSum 64 = .ok (.getfield 28, 3) := by decide +kernel
theorem dd_X0_cornerSum_67 : decode cX0_cornerSum 67 = .ok (.ishl, 1) := by decide +kernel
theorem dd_X0_cornerSum_68 : decode cX0_cornerSum 68 = .ok (.if_icmp .ge 33, 3) := by decide +kernel
theorem dd_X0_cornerSum_71 : decode cX0_cornerSum 71 = .ok (.iload 4, 2) := by decide +kernel
theorem dd_X0_cornerSum_73 : decode cX0_cornerSum 73 = .ok (.invokestatic 71, 3) := by decide +kernel
theorem dd_X0_cornerSum_76 : decode cX0_cornerSum 76 = .ok (.iload_n 1, 1) := by decide +kernel
theorem dd_X0_cornerSum_77 : decode cX0_cornerSum 77 = .ok (.if_icmp .ne 18, 3) := by decide +kernel
theorem dd_X0_cornerSum_80 : decode cX0_cornerSum 80 = .ok (.lload_n 2, 1) := by decide +kernel
theorem dd_X0_cornerSum_81 : decode cX0_cornerSum 81 = .ok (.aload_n 0, 1) := by decide +kernel
theorem dd_X0_cornerSum_82 : decode cX0_cornerSum 82 = .ok (.getfield 17, 3) := by decide +kernel
theorem dd_X0_cornerSum_85 : decode cX0_cornerSum 85 = .ok (.iconst 0, 1) := by decide +kernel
theorem dd_X0_cornerSum_86 : decode cX0_cornerSum 86 = .ok (.iload 4, 2) := by decide +kernel
theorem dd_X0_cornerSum_88 : decode cX0_cornerSum 88 = .ok (.iload 4, 2) := by decide +kernel
theorem dd_X0_cornerSum_90 : decode cX0_cornerSum 90 = .ok (.invokestatic 76, 3) := by decide +kernel
theorem dd_X0_cornerSum_93 : decode cX0_cornerSum 93 = .ok (.ladd, 1) := by decide +kernel
theorem dd_X0_cornerSum_94 : decode cX0_cornerSum 94 = .ok (.lstore_n 2, 1) := by decide +kernel
theorem dd_X0_cornerSum_95 : decode cX0_cornerSum 95 = .ok (.iinc 4 1, 3) := by decide +kernel
theorem dd_X0_cornerSum_98 : decode cX0_cornerSum 98 = .ok (.goto (-38), 3) := by decide +kernel
theorem dd_X0_cornerSum_101 : decode cX0_cornerSum 101 = .ok (.lload_n 2, 1) := by decide +kernel
theorem dd_X0_cornerSum_102 : decode cX0_cornerSum 102 = .ok (.lreturn, 1) := by decide +kernel
theorem fl_X0_17 : Cond.fieldLink RX0 17 (TX0 2).1 (TX0 2).2.1 (TX0 2).2.2.1 ∈ am_tbl := ri_lw_in (pl := 183) (by decide +kernel)
theorem ml_X0_68 : Cond.methodLink RX0 68 m_X4_balanceOf.1 ∈ am_tbl := ri_lw_in (pl := 686) (by decide +kernel)
theorem ml_X0_71 : Cond.methodLink RX0 71 m_J6_bitCount_0f7a4.1 ∈ am_tbl := ri_lw_in (pl := 687) (by decide +kernel)
theorem ok_X0_cornerSum : am_okM m_X0_cornerSum 1 ∧ Cond.instanceMethod m_X0_cornerSum.1 ∈ am_tbl ∧ Cond.selects m_X0_cornerSum.1.cls m_X0_cornerSum.1 m_X0_cornerSum.1 ∈ am_tbl := ri_mk1 685 87 683 684 (by decide +kernel)
theorem k_X0_cornerSum {k : Int} {F A : gs_F} (hI : gs_I F A) (hk : -2147483648 ≤ k ∧ k ≤ 2147483647) : ∀ nN : Nat, (∀ (x : Int)  (F1 A1 : gs_F), gs_I F1 A1 → gs_fr (fun _ _ => False) (fun c => c = 17) F A F1 A1 → 0 ≤ x ∧ x ≤ 6 → (6 - x) * 10 + 101 < (nN : Int) → sA m_X0_cornerSum 8 (fun rv F' A' => ∃ z : Int64, rv = some (.long z) ∧ gs_I F' A' ∧ gs_fr (fun _ _ => False) (fun c => c = 17) F A F' A' ∧ (True)) 2 [(2, gs_iv x), (0, .ref 15), (1, gs_iv k)] [] F1 A1) ∧ (∀ (x : Int) (y : Int)  (F1 A1 : gs_F), gs_I F1 A1 → gs_fr (fun _ _ => False) (fun c => c = 17) F A F1 A1 → 0 ≤ x ∧ x < 6 → 0 ≤ y ∧ y ≤ 6 → x < F1 15 1 → (6 - x) * 10 - y + 100 < (nN : Int) → sA m_X0_cornerSum 8 (fun rv F' A' => ∃ z : Int64, rv = some (.long z) ∧ gs_I F' A' ∧ gs_fr (fun _ _ => False) (fun c => c = 17) F A F' A' ∧ (True)) 12 [(3, gs_iv y), (2, gs_iv x), (0, .ref 15), (1, gs_iv k)] [] F1 A1) ∧ (∀ (s : Int64) (e : Int)  (F1 A1 : gs_F), gs_I F1 A1 → gs_fr (fun _ _ => False) (fun c => c = 17) F A F1 A1 → 0 ≤ e ∧ e ≤ 64 → 64 - e < (nN : Int) → sA m_X0_cornerSum 8 (fun rv F' A' => ∃ z : Int64, rv = some (.long z) ∧ gs_I F' A' ∧ gs_fr (fun _ _ => False) (fun c => c = 17) F A F' A' ∧ (True)) 60 [(4, gs_iv e), (2, .long s), (0, .ref 15), (1, gs_iv k)] [] F1 A1) := by
  intro nN
  induction nN with
  | zero =>
    exact ⟨fun a0 a1 a2 a3 a4 i0 hm => by exfalso; omega, fun a0 a1 a2 a3 a4 a5 i0 i1 i2 hm => by exfalso; omega, fun a0 a1 a2 a3 a4 a5 i0 hm => by exfalso; omega⟩
  | succ nN ih =>
    refine ⟨?_, ?_, ?_⟩
    · skip
      intro x F1 A1 hI1 hf1 i0 hm
      refine sA_iload_n dd_X0_cornerSum_2 rfl (.head _) ?_
      refine sA_aload_n dd_X0_cornerSum_3 rfl (.tail _ (.head _)) ?_
      refine sA_geti (ci := 0) (j := 1) (q := (RX0, TX0, 4)) dd_X0_cornerSum_4 rfl (by decide) fl_X0_28 (by decide) gs_s15 rfl ?_
      have b1 : (0 : Int) ≤ F1 15 1 ∧ F1 15 1 ≤ 6 := hI1.1 15 1
      refine sA_icmp_ge (tgt := 55) dd_X0_cornerSum_7 (by decide) (by omega) (by omega) (fun q2 => ?_) (fun q2 => ?_)
      · skip
        refine sA_lconst (z := 0) dd_X0_cornerSum_55 (by decide) ?_
        refine sA_lstore_n (lv' := [(2, gs_lv 0), (0, .ref 15), (1, gs_iv k)]) dd_X0_cornerSum_56 rfl (by decide) rfl ?_
        refine sA_iconst (z := 0) dd_X0_cornerSum_57 ?_
        refine sA_istore (lv' := [(4, gs_iv 0), (2, gs_lv 0), (0, .ref 15), (1, gs_iv k)]) dd_X0_cornerSum_58 (by decide) rfl ?_
        refine sA_sub (lv2 := [(4, gs_iv 0), (2, gs_lv 0), (0, .ref 15), (1, gs_iv k)]) (List.forall_mem_cons.mpr ⟨(.head _), (List.forall_mem_cons.mpr ⟨(.tail _ (.head _)), (List.forall_mem_cons.mpr ⟨(.tail _ (.tail _ (.head _))), (List.forall_mem_cons.mpr ⟨(.tail _ (.tail _ (.tail _ (.head _)))), (fun _ h => absurd h List.not_mem_nil)⟩)⟩)⟩)⟩) ?_
        exact ih.2.2 (Int64.ofInt 0) 0 F1 A1 hI1 hf1 (by omega) (by omega)
      · skip
        refine sA_iconst (z := 0) dd_X0_cornerSum_10 ?_
        refine sA_istore_n (lv' := [(3, gs_iv 0), (2, gs_iv x), (0, .ref 15), (1, gs_iv k)]) dd_X0_cornerSum_11 rfl (by decide) rfl ?_
        refine sA_sub (lv2 := [(3, gs_iv 0), (2, gs_iv x), (0, .ref 15), (1, gs_iv k)]) (List.forall_mem_cons.mpr ⟨(.head _), (List.forall_mem_cons.mpr ⟨(.tail _ (.head _)), (List.forall_mem_cons.mpr ⟨(.tail _ (.tail _ (.head _))), (List.forall_mem_cons.mpr ⟨(.tail _ (.tail _ (.tail _ (.head _)))), (fun _ h => absurd h List.not_mem_nil)⟩)⟩)⟩)⟩) ?_
        exact ih.2.1 x 0 F1 A1 hI1 hf1 (by omega) (by omega) (by omega) (by omega)
    · skip
      intro x y F1 A1 hI1 hf1 i0 i1 i2 hm
      refine sA_iload_n dd_X0_cornerSum_12 rfl (.head _) ?_
      refine sA_aload_n dd_X0_cornerSum_13 rfl (.tail _ (.tail _ (.head _))) ?_
      refine sA_geti (ci := 0) (j := 1) (q := (RX0, TX0, 4)) dd_X0_cornerSum_14 rfl (by decide) fl_X0_28 (by decide) gs_s15 rfl ?_
      have b3 : (0 : Int) ≤ F1 15 1 ∧ F1 15 1 ≤ 6 := hI1.1 15 1
      refine sA_icmp_ge (tgt := 49) dd_X0_cornerSum_17 (by decide) (by omega) (by omega) (fun q4 => ?_) (fun q4 => ?_)
      · skip
        refine sA_iinc (lv' := [(2, gs_iv (x + 1)), (3, gs_iv y), (0, .ref 15), (1, gs_iv k)]) dd_X0_cornerSum_49 (.tail _ (.head _)) (by decide) rfl ?_
        refine sA_goto (tgt := 2) dd_X0_cornerSum_52 (by decide) ?_
        refine sA_sub (lv2 := [(2, gs_iv (x + 1)), (0, .ref 15), (1, gs_iv k)]) (List.forall_mem_cons.mpr ⟨(.head _), (List.forall_mem_cons.mpr ⟨(.tail _ (.tail _ (.head _))), (List.forall_mem_cons.mpr ⟨(.tail _ (.tail _ (.tail _ (.head _)))), (fun _ h => absurd h List.not_mem_nil)⟩)⟩)⟩) ?_
        exact ih.1 (x + 1) F1 A1 hI1 hf1 (by omega) (by omega)
      · skip
        refine sA_aload_n dd_X0_cornerSum_20 rfl (.tail _ (.tail _ (.head _))) ?_
        refine sA_getr (ci := 0) (j := 2) (q := (RX0, TX0, 4)) dd_X0_cornerSum_21 rfl (by decide) fl_X0_17 (by decide) gs_s15 rfl ?_
        refine sA_iload_n dd_X0_cornerSum_24 rfl (.tail _ (.head _)) ?_
        refine sA_bipush (z := 6) dd_X0_cornerSum_25 (by decide) ?_
        refine sA_imul dd_X0_cornerSum_27 ?_
        refine sA_iload_n dd_X0_cornerSum_28 rfl (.head _) ?_
        refine sA_iadd dd_X0_cornerSum_29 ?_
        refine sA_aload_n dd_X0_cornerSum_30 rfl (.tail _ (.tail _ (.head _))) ?_
        refine sA_getr (ci := 0) (j := 0) (q := (RX0, TX0, 4)) dd_X0_cornerSum_31 rfl (by decide) fl_X0_11 (by decide) gs_s15 rfl ?_
        refine sA_iload_n dd_X0_cornerSum_34 rfl (.tail _ (.head _)) ?_
        refine sA_aald (n := 6) dd_X0_cornerSum_35 (by decide) (by decide) (by decide) gs_s16 (by omega) (by decide) ?_
        have g5 := gs_row_im (k := x.toNat) (by omega)
        refine sA_iload_n dd_X0_cornerSum_36 rfl (.head _) ?_
        refine sA_iconst (z := 1) dd_X0_cornerSum_37 ?_
        refine sA_iadd dd_X0_cornerSum_38 ?_
        refine sA_callV (y2 := m_X4_balanceOf) (n2 := 1) (d2 := 1) (a := (18 + 2 * x.toNat)) (ci := 4) (q := (RX4, TX4, 2)) (as := [gs_iv (y + 1)]) (rest := [gs_iv ((x * 6) + y), .ref 17]) dd_X0_cornerSum_39 ok_X4_balanceOf ml_X0_68 rfl rfl (Nat.lt_of_succ_lt g5.1) g5.2.1 rfl rfl (Nat.le_of_ble_eq_true rfl) (by decide) (c_X4_balanceOf hI1 g5 (by omega)) (fun r6 F7 A8 h9 => ?_)
        obtain ⟨z12, e11, e13, e14, x10⟩ := h9
        subst e11 e13 e14
        show sA _ _ _ 42 _ [gs_iv z12, gs_iv ((x * 6) + y), .ref 17] _ _
        refine sA_iast (n := 36) dd_X0_cornerSum_42 (by decide) gs_s17 (by omega) (by decide) ?_
        have I16 : gs_I F1 (gs_up A1 17 (((x * 6) + y).toNat) z12) := gs_I_ast hI1 (show (-2147483648 : Int) ≤ z12 ∧ z12 ≤ 2147483647 by omega)
        have f17 := gs_fr_ast hf1 (a := 17) (z := z12) (i := ((x * 6) + y).toNat) (by first | omega | (dsimp only; omega) | (dsimp only))
        generalize gs_up A1 17 (((x * 6) + y).toNat) z12 = A15 at I16 f17 ⊢
        refine sA_iinc (lv' := [(3, gs_iv (y + 1)), (2, gs_iv x), (0, .ref 15), (1, gs_iv k)]) dd_X0_cornerSum_43 (.head _) (by decide) rfl ?_
        refine sA_goto (tgt := 12) dd_X0_cornerSum_46 (by decide) ?_
        refine sA_sub (lv2 := [(3, gs_iv (y + 1)), (2, gs_iv x), (0, .ref 15), (1, gs_iv k)]) (List.forall_mem_cons.mpr ⟨(.head _), (List.forall_mem_cons.mpr ⟨(.tail _ (.head _)), (List.forall_mem_cons.mpr ⟨(.tail _ (.tail _ (.head _))), (List.forall_mem_cons.mpr ⟨(.tail _ (.tail _ (.tail _ (.head _)))), (fun _ h => absurd h List.not_mem_nil)⟩)⟩)⟩)⟩) ?_
        exact ih.2.1 x (y + 1) F1 A15 I16 f17 (by omega) (by omega) (by omega) (by omega)
    · skip
      intro s e F1 A1 hI1 hf1 i0 hm
      refine sA_iload dd_X0_cornerSum_60 (.head _) ?_
      refine sA_iconst (z := 1) dd_X0_cornerSum_62 ?_
      refine sA_aload_n dd_X0_cornerSum_63 rfl (.tail _ (.tail _ (.head _))) ?_
      refine sA_geti (ci := 0) (j := 1) (q := (RX0, TX0, 4)) dd_X0_cornerSum_64 rfl (by decide) fl_X0_28 (by decide) gs_s15 rfl ?_
      have b18 : (0 : Int) ≤ F1 15 1 ∧ F1 15 1 ≤ 6 := hI1.1 15 1
      refine sA_ishl dd_X0_cornerSum_67 ?_
      have b19 := gs_t_rng (Int32.ofInt 1 <<< (Int32.ofInt (F1 15 1) &&& 31))
      have b21 := gs_shl1 (x := (F1 15 1)) (by omega)
      generalize gs_t (Int32.ofInt 1 <<< (Int32.ofInt (F1 15 1) &&& 31)) = w20 at b19 b21 ⊢
      refine sA_icmp_ge (tgt := 101) dd_X0_cornerSum_68 (by decide) (by omega) (by omega) (fun q22 => ?_) (fun q22 => ?_)
      · skip
        refine sA_lload_n dd_X0_cornerSum_101 rfl (.tail _ (.head _)) ?_
        refine sA_lret dd_X0_cornerSum_102 rfl ?_
        exact ⟨_, rfl, hI1, hf1, trivial⟩
      · skip
        refine sA_iload dd_X0_cornerSum_71 (.head _) ?_
        refine sA_callS (y2 := m_J6_bitCount_0f7a4) (n2 := 1) (d2 := 1) (as := [gs_iv e]) (rest := []) dd_X0_cornerSum_73 ok_J6_bitCount_0f7a4 ml_X0_71 rfl rfl (Nat.le_of_ble_eq_true rfl) (by decide) (c_J6_bitCount_0f7a4 (by omega)) (fun r23 F24 A25 h26 => ?_)
        obtain ⟨z29, e28, e30, e31, x27⟩ := h26
        subst e28 e30 e31
        show sA _ _ _ 76 _ [gs_iv z29] _ _
        refine sA_iload_n dd_X0_cornerSum_76 rfl (.tail _ (.tail _ (.tail _ (.head _)))) ?_
        refine sA_icmp_ne (tgt := 95) dd_X0_cornerSum_77 (by decide) (by omega) (by omega) (fun q32 => ?_) (fun q32 => ?_)
        · skip
          refine sA_iinc (lv' := [(4, gs_iv (e + 1)), (2, .long s), (0, .ref 15), (1, gs_iv k)]) dd_X0_cornerSum_95 (.head _) (by decide) rfl ?_
          refine sA_goto (tgt := 60) dd_X0_cornerSum_98 (by decide) ?_
          refine sA_sub (lv2 := [(4, gs_iv (e + 1)), (2, .long s), (0, .ref 15), (1, gs_iv k)]) (List.forall_mem_cons.mpr ⟨(.head _), (List.forall_mem_cons.mpr ⟨(.tail _ (.head _)), (List.forall_mem_cons.mpr ⟨(.tail _ (.tail _ (.head _))), (List.forall_mem_cons.mpr ⟨(.tail _ (.tail _ (.tail _ (.head _)))), (fun _ h => absurd h List.not_mem_nil)⟩)⟩)⟩)⟩) ?_
          exact ih.2.2 s (e + 1) F1 A1 hI1 hf1 (by omega) (by omega)
        · skip
          refine sA_lload_n dd_X0_cornerSum_80 rfl (.tail _ (.head _)) ?_
          refine sA_aload_n dd_X0_cornerSum_81 rfl (.tail _ (.tail _ (.head _))) ?_
          refine sA_getr (ci := 0) (j := 2) (q := (RX0, TX0, 4)) dd_X0_cornerSum_82 rfl (by decide) fl_X0_17 (by decide) gs_s15 rfl ?_
          refine sA_iconst (z := 0) dd_X0_cornerSum_85 ?_
          refine sA_iload dd_X0_cornerSum_86 (.head _) ?_
          refine sA_iload dd_X0_cornerSum_88 (.head _) ?_
          refine sA_callS (y2 := m_X0_corner) (n2 := 4) (d2 := 7) (as := [.ref 17, gs_iv 0, gs_iv e, gs_iv e]) (rest := [.long s]) dd_X0_cornerSum_90 ok_X0_corner ml_X0_76 rfl rfl (Nat.le_of_ble_eq_true rfl) (by decide) (c_X0_corner_v0 hI1 (by omega) (by omega)) (fun r33 F34 A35 h36 => ?_)
          obtain ⟨z39, e38, e40, e41, x37⟩ := h36
          subst e38 e40 e41
          show sA _ _ _ 93 _ [.long z39, .long s] _ _
          refine sA_laddR dd_X0_cornerSum_93 ?_
          refine sA_lstore_n (lv' := [(2, .long (s + z39)), (4, gs_iv e), (0, .ref 15), (1, gs_iv k)]) dd_X0_cornerSum_94 rfl (by decide) rfl ?_
          refine sA_iinc (lv' := [(4, gs_iv (e + 1)), (2, .long (s + z39)), (0, .ref 15), (1, gs_iv k)]) dd_X0_cornerSum_95 (.tail _ (.head _)) (by decide) rfl ?_
          refine sA_goto (tgt := 60) dd_X0_cornerSum_98 (by decide) ?_
          refine sA_sub (lv2 := [(4, gs_iv (e + 1)), (2, .long (s + z39)), (0, .ref 15), (1, gs_iv k)]) (List.forall_mem_cons.mpr ⟨(.head _), (List.forall_mem_cons.mpr ⟨(.tail _ (.head _)), (List.forall_mem_cons.mpr ⟨(.tail _ (.tail _ (.head _))), (List.forall_mem_cons.mpr ⟨(.tail _ (.tail _ (.tail _ (.head _)))), (fun _ h => absurd h List.not_mem_nil)⟩)⟩)⟩)⟩) ?_
          exact ih.2.2 (s + z39) (e + 1) F1 A1 hI1 hf1 (by omega) (by omega)
theorem c_X0_cornerSum {k : Int} {F A : gs_F} (hI : gs_I F A) (hk : -2147483648 ≤ k ∧ k ≤ 2147483647) : sC m_X0_cornerSum 8 [.ref 15, gs_iv k] F A (fun rv F' A' => ∃ z : Int64, rv = some (.long z) ∧ gs_I F' A' ∧ gs_fr (fun _ _ => False) (fun c => c = 17) F A F' A' ∧ (True)) := by
  refine sC_of ok_X0_cornerSum.1 (Nat.le_of_ble_eq_true rfl) ?_
  show sA _ _ _ 0 [(0, .ref 15), (1, gs_iv k)] [] F A
  have hf : gs_fr (fun _ _ => False) (fun c => c = 17) F A F A := gs_fr_refl _ _ _ _
  refine sA_iconst (z := 0) dd_X0_cornerSum_0 ?_
  refine sA_istore_n (lv' := [(2, gs_iv 0), (0, .ref 15), (1, gs_iv k)]) dd_X0_cornerSum_1 rfl (by decide) rfl ?_
  refine sA_sub (lv2 := [(2, gs_iv 0), (0, .ref 15), (1, gs_iv k)]) (List.forall_mem_cons.mpr ⟨(.head _), (List.forall_mem_cons.mpr ⟨(.tail _ (.head _)), (List.forall_mem_cons.mpr ⟨(.tail _ (.tail _ (.head _))), (fun _ h => absurd h List.not_mem_nil)⟩)⟩)⟩) ?_
  exact (k_X0_cornerSum hI hk ((6 - 0) * 10 + 101 : Int).toNat.succ).1 0 F A hI hf (by omega) (by omega)
theorem dd_X5_spell_0 : decode cX5_spell 0 = .ok (.iconst 1, 1) := by decide +kernel
theorem dd_X5_spell_1 : decode cX5_spell 1 = .ok (.iconst 2, 1) := by decide +kernel
theorem dd_X5_spell_2 : decode cX5_spell 2 = .ok (.aload_n 0, 1) := by decide +kernel
theorem dd_X5_spell_3 : decode cX5_spell 3 = .ok (.getfield 28, 3) := by decide +kernel
theorem dd_X5_spell_6 : decode cX5_spell 6 = .ok (.getfield 64, 3) := by decide +kernel
theorem dd_X5_spell_9 : decode cX5_spell 9 = .ok (.imul, 1) := by decide +kernel
theorem dd_X5_spell_10 : decode cX5_spell 10 = .ok (.invokestatic 77, 3) := by decide +kernel
theorem dd_X5_spell_13 : decode cX5_spell 13 = .ok (.istore 4, 2) := by decide +kernel
theorem dd_X5_spell_15 : decode cX5_spell 15 = .ok (.iload_n 1, 1) := by decide +kernel
theorem dd_X5_spell_16 : decode cX5_spell 16 = .ok (.istore 5, 2) := by decide +kernel
theorem dd_X5_spell_18 : decode cX5_spell 18 = .ok (.aload_n 3, 1) := by decide +kernel
theorem dd_X5_spell_19 : decode cX5_spell 19 = .ok (.iload_n 2, 1) := by decide +kernel
theorem dd_X5_spell_20 : decode cX5_spell 20 = .ok (.putfield 47, 3) := by decide +kernel
theorem dd_X5_spell_23 : decode cX5_spell 23 = .ok (.iload_n 2, 1) := by decide +kernel
theorem dd_X5_spell_24 : decode cX5_spell 24 = .ok (.iconst 1, 1) := by decide +kernel
theorem dd_X5_spell_25 : decode cX5_spell 25 = .ok (.isub, 1) := by decide +kernel
theorem dd_X5_spell_26 : decode cX5_spell 26 = .ok (.istore 6, 2) := by decide +kernel
theorem dd_X5_spell_28 : decode cX5_spell 28 = .ok (.iload 6, 2) := by decide +kernel
theorem dd_X5_spell_30 : decode cX5_spell 30 = .ok (.ifCond .lt 28, 3) := by decide +kernel
theorem dd_X5_spell_33 : decode cX5_spell 33 = .ok (.aload_n 3, 1) := by decide +kernel
theorem dd_X5_spell_34 : decode cX5_spell 34 = .ok (.getfield 83, 3) := by decide +kernel
theorem dd_X5_spell_37 : decode cX5_spell 37 = .ok (.iload 6, 2) := by decide +kernel
theorem dd_X5_spell_39 : decode cX5_spell 39 = .ok (.iload 5, 2) := by decide +kernel
theorem dd_X5_spell_41 : decode cX5_spell 41 = .ok (.iload 4, 2) := by decide +kernel
theorem dd_X5_spell_43 : decode cX5_spell 43 = .ok (.irem, 1) := by decide +kernel
theorem dd_X5_spell_44 : decode cX5_spell 44 = .ok (.iastore, 1) := by decide +kernel
theorem dd_X5_spell_45 : decode cX5_spell 45 = .ok (.iload 5, 2) := by decide +kernel
theorem dd_X5_spell_47 : decode cX5_spell 47 = .ok (.iload 4, 2) := by decide +kernel
theorem dd_X5_spell_49 : decode cX5_spell 49 = .ok (.idiv, 1) := by decide +kernel
theorem dd_X5_spell_50 : decode cX5_spell 50 = .ok (.istore 5, 2) := by decide +kernel
theorem dd_X5_spell_52 : decode cX5_spell 52 = .ok (.iinc 6 (-1), 3) := by decide +kernel
theorem dd_X5_spell_55 : decode cX5_spell 55 = .ok (.goto (-27), 3) := by decide +kernel
theorem dd_X5_spell_58 : decode cX5_spell 58 = .ok (.return_, 1) := by decide +kernel
theorem gs_s30 : gs_sh 30 = .inl (5, [some 5, some 15, some 31, some 32, some 33, none]) := rfl
theorem fl_X5_28 : Cond.fieldLink RX5 28 (TX5 0).1 (TX5 0).2.1 (TX5 0).2.2.1 ∈ am_tbl := ri_lw_in (pl := 202) (by decide +kernel)
theorem fl_X5_47 : Cond.fieldLink RX5 47 (TX2 1).1 (TX2 1).2.1 (TX2 1).2.2.1 ∈ am_tbl := ri_lw_in (pl := 238) (by decide +kernel)
theorem fl_X5_64 : Cond.fieldLink RX5 64 (TX7 0).1 (TX7 0).2.1 (TX7 0).2.2.1 ∈ am_tbl := ri_lw_in (pl := 140) (by decide +kernel)
theorem fl_X5_83 : Cond.fieldLink RX5 83 (TX2 0).1 (TX2 0).2.1 (TX2 0).2.2.1 ∈ am_tbl := ri_lw_in (pl := 234) (by decide +kernel)
theorem ok_X5_spell : am_okM m_X5_spell 3 ∧ Cond.instanceMethod m_X5_spell.1 ∈ am_tbl ∧ Cond.selects m_X5_spell.1.cls m_X5_spell.1 m_X5_spell.1 ∈ am_tbl := ri_mk1 755 88 754 27 (by decide +kernel)
theorem k_X5_spell {b : Nat} {r k : Int} {F A : gs_F} (hI : gs_I F A) (hr0 : -2147483648 ≤ r ∧ r ≤ 2147483647) (hk : 0 ≤ k ∧ k ≤ 60) (ho : gs_plan b) : ∀ nN : Nat, (∀ (bs : Int) (rs : Int) (p : Int)  (F1 A1 : gs_F), gs_I F1 A1 → gs_fr (fun c j => c = b ∧ j = 1) (fun c => c = b + 1) F A F1 A1 → -1 ≤ p ∧ p ≤ 59 → -2147483648 ≤ rs ∧ rs ≤ 2147483647 → 1 ≤ bs ∧ bs ≤ 16 → p + 1 < (nN : Int) → sA m_X5_spell 1 (fun rv F' A' => rv = none ∧ gs_I F' A' ∧ gs_fr (fun c j => c = b ∧ j = 1) (fun c => c = b + 1) F A F' A' ∧ (True)) 28 [(6, gs_iv p), (5, gs_iv rs), (4, gs_iv bs), (3, .ref b)] [] F1 A1) := by
  intro nN
  induction nN with
  | zero =>
    exact fun a0 a1 a2 a3 a4 a5 a6 i0 i1 i2 hm => by exfalso; omega
  | succ nN ih =>
    intro bs rs p F1 A1 hI1 hf1 i0 i1 i2 hm
    have b1 := gs_plan_sz ho hI1
    refine sA_iload dd_X5_spell_28 (.head _) ?_
    refine sA_if_lt (tgt := 58) dd_X5_spell_30 (by decide) (by omega) (fun q2 => ?_) (fun q2 => ?_)
    · skip
      refine sA_vret dd_X5_spell_58 rfl ?_
      exact ⟨rfl, hI1, hf1, trivial⟩
    · skip
      refine sA_aload_n dd_X5_spell_33 rfl (.tail _ (.tail _ (.tail _ (.head _)))) ?_
      refine sA_getr (ci := 2) (j := 0) (q := (RX2, TX2, 2)) dd_X5_spell_34 rfl (by decide) fl_X5_83 (Nat.lt_of_succ_lt ho.1) ho.2.1 rfl ?_
      refine sA_iload dd_X5_spell_37 (.head _) ?_
      refine sA_iload dd_X5_spell_39 (.tail _ (.head _)) ?_
      refine sA_iload dd_X5_spell_41 (.tail _ (.tail _ (.head _))) ?_
      refine sA_irem dd_X5_spell_43 (by omega) (by omega) (by omega) ?_
      refine sA_wrap ?_
      have b4 := gs_w_rng (rs.tmod bs)
      generalize gs_w (rs.tmod bs) = w3 at b4 ⊢
      refine sA_iast (n := 60) dd_X5_spell_44 ho.1 ho.2.2.1 (by omega) (by decide) ?_
      have I6 : gs_I F1 (gs_up A1 (b + 1) p.toNat w3) := gs_plan_ast ho hI1 (by omega)
      have f7 := gs_fr_ast hf1 (a := b + 1) (z := w3) (i := p.toNat) (by first | omega | (dsimp only; omega) | (dsimp only))
      generalize gs_up A1 (b + 1) p.toNat w3 = A5 at I6 f7 ⊢
      refine sA_iload dd_X5_spell_45 (.tail _ (.head _)) ?_
      refine sA_iload dd_X5_spell_47 (.tail _ (.tail _ (.head _))) ?_
      refine sA_idiv dd_X5_spell_49 (by omega) (by omega) (by omega) ?_
      refine sA_wrap ?_
      have b9 := gs_w_rng (rs.tdiv bs)
      generalize gs_w (rs.tdiv bs) = w8 at b9 ⊢
      refine sA_istore (lv' := [(5, gs_iv w8), (6, gs_iv p), (4, gs_iv bs), (3, .ref b)]) dd_X5_spell_50 (by decide) rfl ?_
      refine sA_iinc (lv' := [(6, gs_iv (p + (-1))), (5, gs_iv w8), (4, gs_iv bs), (3, .ref b)]) dd_X5_spell_52 (.tail _ (.head _)) (by decide) rfl ?_
      refine sA_goto (tgt := 28) dd_X5_spell_55 (by decide) ?_
      refine sA_sub (lv2 := [(6, gs_iv (p + (-1))), (5, gs_iv w8), (4, gs_iv bs), (3, .ref b)]) (List.forall_mem_cons.mpr ⟨(.head _), (List.forall_mem_cons.mpr ⟨(.tail _ (.head _)), (List.forall_mem_cons.mpr ⟨(.tail _ (.tail _ (.head _))), (List.forall_mem_cons.mpr ⟨(.tail _ (.tail _ (.tail _ (.head _)))), (fun _ h => absurd h List.not_mem_nil)⟩)⟩)⟩)⟩) ?_
      exact ih bs w8 (p + (-1)) F1 A5 I6 f7 (by omega) (by omega) (by omega) (by omega)
theorem c_X5_spell {b : Nat} {r k : Int} {F A : gs_F} (hI : gs_I F A) (hr0 : -2147483648 ≤ r ∧ r ≤ 2147483647) (hk : 0 ≤ k ∧ k ≤ 60) (ho : gs_plan b) : sC m_X5_spell 1 [.ref 30, gs_iv r, gs_iv k, .ref b] F A (fun rv F' A' => rv = none ∧ gs_I F' A' ∧ gs_fr (fun c j => c = b ∧ j = 1) (fun c => c = b + 1) F A F' A' ∧ (True)) := by
  refine sC_of ok_X5_spell.1 (Nat.le_of_ble_eq_true rfl) ?_
  show sA _ _ _ 0 [(0, .ref 30), (1, gs_iv r), (2, gs_iv k), (3, .ref b)] [] F A
  have hf : gs_fr (fun c j => c = b ∧ j = 1) (fun c => c = b + 1) F A F A := gs_fr_refl _ _ _ _
  have b10 := gs_plan_sz ho hI
  refine sA_iconst (z := 1) dd_X5_spell_0 ?_
  refine sA_iconst (z := 2) dd_X5_spell_1 ?_
  refine sA_aload_n dd_X5_spell_2 rfl (.head _) ?_
  refine sA_getr (ci := 5) (j := 0) (q := (RX5, TX5, 6)) dd_X5_spell_3 rfl (by decide) fl_X5_28 (by decide) gs_s30 rfl ?_
  refine sA_geti (ci := 7) (j := 0) (q := (RX7, TX7, 5)) dd_X5_spell_6 rfl (by decide) fl_X5_64 (by decide) gs_s5 rfl ?_
  have b11 : (1 : Int) ≤ F 5 0 ∧ F 5 0 ≤ 8 := hI.1 5 0
  refine sA_imul dd_X5_spell_9 ?_
  refine sA_mmax dd_X5_spell_10 (ri_lw_in (pl := 756) (by decide +kernel)) (by decide) (by omega) (by omega) (Nat.le_of_ble_eq_true rfl) (fun w12 q13 => ?_)
  refine sA_istore (lv' := [(4, gs_iv w12), (0, .ref 30), (1, gs_iv r), (2, gs_iv k), (3, .ref b)]) dd_X5_spell_13 (by decide) rfl ?_
  refine sA_iload_n dd_X5_spell_15 rfl (.tail _ (.tail _ (.head _))) ?_
  refine sA_istore (lv' := [(5, gs_iv r), (4, gs_iv w12), (0, .ref 30), (1, gs_iv r), (2, gs_iv k), (3, .ref b)]) dd_X5_spell_16 (by decide) rfl ?_
  refine sA_aload_n dd_X5_spell_18 rfl (.tail _ (.tail _ (.tail _ (.tail _ (.tail _ (.head _)))))) ?_
  refine sA_iload_n dd_X5_spell_19 rfl (.tail _ (.tail _ (.tail _ (.tail _ (.head _))))) ?_
  refine sA_put (ci := 2) (j := 1) (q := (RX2, TX2, 2)) (ty := .int) dd_X5_spell_20 rfl (by decide) fl_X5_47 rfl (tyX2_ok 1 (by decide)) rfl rfl (Nat.lt_of_succ_lt ho.1) ho.2.1 rfl ?_
  have I15 : gs_I (gs_up F b 1 k) A := gs_plan_put ho hI (by omega)
  have f16 := gs_fr_put hf (a := b) (z := k) (j := 1) (by first | omega | (dsimp only; omega) | (dsimp only))
  have v17 : gs_up F b 1 k b 1 = k := gs_up_self _ _ _ _
  generalize gs_up F b 1 k = F14 at I15 f16 v17 ⊢
  refine sA_iload_n dd_X5_spell_23 rfl (.tail _ (.tail _ (.tail _ (.tail _ (.head _))))) ?_
  refine sA_iconst (z := 1) dd_X5_spell_24 ?_
  refine sA_isub dd_X5_spell_25 ?_
  refine sA_istore (lv' := [(6, gs_iv (k - 1)), (5, gs_iv r), (4, gs_iv w12), (0, .ref 30), (1, gs_iv r), (2, gs_iv k), (3, .ref b)]) dd_X5_spell_26 (by decide) rfl ?_
  have b18 := gs_plan_sz ho I15
  refine sA_sub (lv2 := [(6, gs_iv (k - 1)), (5, gs_iv r), (4, gs_iv w12), (3, .ref b)]) (List.forall_mem_cons.mpr ⟨(.head _), (List.forall_mem_cons.mpr ⟨(.tail _ (.head _)), (List.forall_mem_cons.mpr ⟨(.tail _ (.tail _ (.head _))), (List.forall_mem_cons.mpr ⟨(.tail _ (.tail _ (.tail _ (.tail _ (.tail _ (.tail _ (.head _))))))), (fun _ h => absurd h List.not_mem_nil)⟩)⟩)⟩)⟩) ?_
  exact (k_X5_spell hI hr0 hk ho ((k - 1) + 1 : Int).toNat.succ) w12 r (k - 1) F14 A I15 f16 (by omega) (by omega) (by omega) (by omega)
theorem dd_X5_measureAhead_0 : decode cX5_measureAhead 0 = .ok (.iconst 0, 1) := by decide +kernel
theorem dd_X5_measureAhead_1 : decode cX5_measureAhead 1 = .ok (.istore_n 1, 1) := by decide +kernel
theorem dd_X5_measureAhead_2 : decode cX5_measureAhead 2 = .ok (.iload_n 1, 1) := by decide +kernel
theorem dd_X5_measureAhead_3 : decode cX5_measureAhead 3 = .ok (.iconst 2, 1) := by decide +kernel
theorem dd_X5_measureAhead_4 : decode cX5_measureAhead 4 = .ok (.aload_n 0, 1) := by decide +kernel
theorem dd_X5_measureAhead_5 : decode cX5_measureAhead 5 = .ok (.getfield 28, 3) := by decide +kernel
theorem dd_X5_measureAhead_8 : decode cX5_measureAhead 8 = .ok (.getfield 64, 3) := by decide +kernel
theorem dd_X5_measureAhead_11 : decode cX5_measureAhead 11 = .ok (.imul, 1) := by decide +kernel
theorem dd_X5_measureAhead_12 : decode cX5_measureAhead 12 = .ok (.if_icmp .ge 60, 3) := by decide +kernel
theorem dd_X5_measureAhead_15 : decode cX5_measureAhead 15 = .ok (.aload_n 0, 1) := by decide +kernel
theorem dd_X5_measureAhead_16 : decode cX5_measureAhead 16 = .ok (.getfield 11, 3) := by decide +kernel
theorem dd_X5_measureAhead_19 : decode cX5_measureAhead 19 = .ok (.iconst 0, 1) := by decide +kernel
theorem dd_X5_measureAhead_20 : decode cX5_measureAhead 20 = .ok (.aaload, 1) := by decide +kernel
theorem dd_X5_measureAhead_21 : decode cX5_measureAhead 21 = .ok (.aload_n 0, 1) := by decide +kernel
theorem dd_X5_measureAhead_22 : decode cX5_measureAhead 22 = .ok (.getfield 24, 3) := by decide +kernel
theorem dd_X5_measureAhead_25 : decode cX5_measureAhead 25 = .ok (.invokevirtual 36, 3) := by decide +kernel
theorem dd_X5_measureAhead_28 : decode cX5_measureAhead 28 = .ok (.aload_n 0, 1) := by decide +kernel
theorem dd_X5_measureAhead_29 : decode cX5_measureAhead 29 = .ok (.getfield 17, 3) := by decide +kernel
theorem dd_X5_measureAhead_32 : decode cX5_measureAhead 32 = .ok (.iload_n 1, 1) := by decide +kernel
theorem dd_X5_measureAhead_33 : decode cX5_measureAhead 33 = .ok (.aload_n 0, 1) := by decide +kernel
theorem dd_X5_measureAhead_34 : decode cX5_measureAhead 34 = .ok (.getfield 28, 3) := by decide +kernel
theorem dd_X5_measureAhead_37 : decode cX5_measureAhead 37 = .ok (.iload_n 1, 1) := by decide +kernel
theorem dd_X5_measureAhead_38 : decode cX5_measureAhead 38 = .ok (.iconst 1, 1) := by decide +kernel
theorem dd_X5_measureAhead_39 : decode cX5_measureAhead 39 = .ok (.ixor, 1) := by decide +kernel
theorem dd_X5_measureAhead_40 : decode cX5_measureAhead 40 = .ok (.aload_n 0, 1) := by decide +kernel
theorem dd_X5_measureAhead_41 : decode cX5_measureAhead 41 = .ok (.getfield 11, 3) := by decide +kernel
theorem dd_X5_measureAhead_44 : decode cX5_measureAhead 44 = .ok (.iconst 0, 1) := by decide +kernel
theorem dd_X5_measureAhead_45 : decode cX5_measureAhead 45 = .ok (.aaload, 1) := by decide +kernel
theorem dd_X5_measureAhead_46 : decode cX5_measureAhead 46 = .ok (.invokevirtual 69, 3) := by decide +kernel
theorem dd_X5_measureAhead_49 : decode cX5_measureAhead 49 = .ok (.ifCond .eq 15, 3) := by decide +kernel
theorem dd_X5_measureAhead_52 : decode cX5_measureAhead 52 = .ok (.aload_n 0, 1) := by decide +kernel
theorem dd_X5_measureAhead_53 : decode cX5_measureAhead 53 = .ok (.getfield 11, 3) := by decide +kernel
theorem dd_X5_measureAhead_56 : decode cX5_measureAhead 56 = .ok (.iconst 0, 1) := by decide +kernel
theorem dd_X5_measureAhead_57 : decode cX5_measureAhead 57 = .ok (.aaload, 1) := by decide +kernel
theorem dd_X5_measureAhead_58 : decode cX5_measureAhead 58 = .ok (.invokevirtual 73, 3) := by decide +kernel
theorem dd_X5_measureAhead_61 : decode cX5_measureAhead 61 = .ok (.goto 4, 3) := by decide +kernel
theorem dd_X5_measureAhead_64 : decode cX5_measureAhead 64 = .ok (.iconst (-1), 1) := by decide +kernel
theorem dd_X5_measureAhead_65 : decode cX5_measureAhead 65 = .ok (.iastore, 1) := by decide +kernel
theorem dd_X5_measureAhead_66 : decode cX5_measureAhead 66 = .ok (.iinc 1 1, 3) := by decide +kernel
theorem dd_X5_measureAhead_69 : decode cX5_measureAhead 69 = .ok (.goto (-67), 3) := by decide +kernel
theorem dd_X5_measureAhead_72 : decode cX5_measureAhead 72 = .ok (.return_, 1) := by decide +kernel
theorem gs_s31 : gs_sh 31 = .inr (.inr (2, 4, 35, 2)) := rfl
theorem gs_s32 : gs_sh 32 = .inr (.inl (0, 16)) := rfl
theorem fl_X5_11 : Cond.fieldLink RX5 11 (TX5 2).1 (TX5 2).2.1 (TX5 2).2.2.1 ∈ am_tbl := ri_lw_in (pl := 204) (by decide +kernel)
theorem fl_X5_17 : Cond.fieldLink RX5 17 (TX5 3).1 (TX5 3).2.1 (TX5 3).2.2.1 ∈ am_tbl := ri_lw_in (pl := 205) (by decide +kernel)
theorem fl_X5_24 : Cond.fieldLink RX5 24 (TX5 4).1 (TX5 4).2.1 (TX5 4).2.2.1 ∈ am_tbl := ri_lw_in (pl := 206) (by decide +kernel)
theorem ml_X5_36 : Cond.methodLink RX5 36 m_X4_copy.1 ∈ am_tbl := ri_lw_in (pl := 737) (by decide +kernel)
theorem ml_X5_69 : Cond.methodLink RX5 69 m_X7_doTwist.1 ∈ am_tbl := ri_lw_in (pl := 742) (by decide +kernel)
theorem ml_X5_73 : Cond.methodLink RX5 73 m_X4_closedSize.1 ∈ am_tbl := ri_lw_in (pl := 743) (by decide +kernel)
theorem ok_X5_measureAhead : am_okM m_X5_measureAhead 0 ∧ Cond.instanceMethod m_X5_measureAhead.1 ∈ am_tbl ∧ Cond.selects m_X5_measureAhead.1.cls m_X5_measureAhead.1 m_X5_measureAhead.1 ∈ am_tbl := ri_mk1 741 88 740 25 (by decide +kernel)
theorem k_X5_measureAhead  {F A : gs_F} (hI : gs_I F A)  : ∀ nN : Nat, (∀ (u : Int)  (F1 A1 : gs_F), gs_I F1 A1 → gs_fr (fun c j => c = 35 ∧ j = 1) (fun c => c = 36 ∨ c = 7 ∨ c = 32) F A F1 A1 → 0 ≤ u ∧ u ≤ 16 → 16 - u < (nN : Int) → sA m_X5_measureAhead 3 (fun rv F' A' => rv = none ∧ gs_I F' A' ∧ gs_fr (fun c j => c = 35 ∧ j = 1) (fun c => c = 36 ∨ c = 7 ∨ c = 32) F A F' A' ∧ (True)) 2 [(1, gs_iv u), (0, .ref 30)] [] F1 A1) := by
  intro nN
  induction nN with
  | zero =>
    exact fun a0 a1 a2 a3 a4 i0 hm => by exfalso; omega
  | succ nN ih =>
    intro u F1 A1 hI1 hf1 i0 hm
    refine sA_iload_n dd_X5_measureAhead_2 rfl (.head _) ?_
    refine sA_iconst (z := 2) dd_X5_measureAhead_3 ?_
    refine sA_aload_n dd_X5_measureAhead_4 rfl (.tail _ (.head _)) ?_
    refine sA_getr (ci := 5) (j := 0) (q := (RX5, TX5, 6)) dd_X5_measureAhead_5 rfl (by decide) fl_X5_28 (by decide) gs_s30 rfl ?_
    refine sA_geti (ci := 7) (j := 0) (q := (RX7, TX7, 5)) dd_X5_measureAhead_8 rfl (by decide) fl_X5_64 (by decide) gs_s5 rfl ?_
    have b1 : (1 : Int) ≤ F1 5 0 ∧ F1 5 0 ≤ 8 := hI1.1 5 0
    refine sA_imul dd_X5_measureAhead_11 ?_
    refine sA_icmp_ge (tgt := 72) dd_X5_measureAhead_12 (by decide) (by omega) (by omega) (fun q2 => ?_) (fun q2 => ?_)
    · skip
      refine sA_vret dd_X5_measureAhead_72 rfl ?_
      exact ⟨rfl, hI1, hf1, trivial⟩
    · skip
      refine sA_aload_n dd_X5_measureAhead_15 rfl (.tail _ (.head _)) ?_
      refine sA_getr (ci := 5) (j := 2) (q := (RX5, TX5, 6)) dd_X5_measureAhead_16 rfl (by decide) fl_X5_11 (by decide) gs_s30 rfl ?_
      refine sA_iconst (z := 0) dd_X5_measureAhead_19 ?_
      refine sA_aald (n := 4) dd_X5_measureAhead_20 (by decide) (by decide) (by decide) gs_s31 (by omega) (by decide) ?_
      show sA _ _ _ _ _ (.ref 35 :: _) _ _
      refine sA_aload_n dd_X5_measureAhead_21 rfl (.tail _ (.head _)) ?_
      refine sA_getr (ci := 5) (j := 4) (q := (RX5, TX5, 6)) dd_X5_measureAhead_22 rfl (by decide) fl_X5_24 (by decide) gs_s30 rfl ?_
      refine sA_callV (y2 := m_X4_copy) (n2 := 1) (d2 := 1) (a := 35) (ci := 4) (q := (RX4, TX4, 2)) (as := [.ref 33]) (rest := []) dd_X5_measureAhead_25 ok_X4_copy ml_X5_36 rfl rfl (Nat.lt_of_succ_lt gs_row_35.1) gs_row_35.2.1 rfl rfl (Nat.le_of_ble_eq_true rfl) (by decide) (c_X4_copy hI1 gs_row_35 gs_row_33) (fun r4 F5 A6 h7 => ?_)
      obtain ⟨e9, I10, f11, x8⟩ := h7
      subst e9
      have f12 := gs_fr_tr hf1 f11 (fun b j h => by first | exact False.elim h | omega | (dsimp only at h ⊢; omega)) (fun b h => by first | exact False.elim h | omega | (dsimp only at h ⊢; omega))
      show sA _ _ _ 28 _ [] _ _
      refine sA_aload_n dd_X5_measureAhead_28 rfl (.tail _ (.head _)) ?_
      refine sA_getr (ci := 5) (j := 3) (q := (RX5, TX5, 6)) dd_X5_measureAhead_29 rfl (by decide) fl_X5_17 (by decide) gs_s30 rfl ?_
      refine sA_iload_n dd_X5_measureAhead_32 rfl (.head _) ?_
      refine sA_aload_n dd_X5_measureAhead_33 rfl (.tail _ (.head _)) ?_
      refine sA_getr (ci := 5) (j := 0) (q := (RX5, TX5, 6)) dd_X5_measureAhead_34 rfl (by decide) fl_X5_28 (by decide) gs_s30 rfl ?_
      refine sA_iload_n dd_X5_measureAhead_37 rfl (.head _) ?_
      refine sA_iconst (z := 1) dd_X5_measureAhead_38 ?_
      refine sA_ixor dd_X5_measureAhead_39 ?_
      have b13 := gs_t_rng (Int32.ofInt u ^^^ Int32.ofInt 1)
      generalize gs_t (Int32.ofInt u ^^^ Int32.ofInt 1) = w14 at b13 ⊢
      refine sA_aload_n dd_X5_measureAhead_40 rfl (.tail _ (.head _)) ?_
      refine sA_getr (ci := 5) (j := 2) (q := (RX5, TX5, 6)) dd_X5_measureAhead_41 rfl (by decide) fl_X5_11 (by decide) gs_s30 rfl ?_
      refine sA_iconst (z := 0) dd_X5_measureAhead_44 ?_
      refine sA_aald (n := 4) dd_X5_measureAhead_45 (by decide) (by decide) (by decide) gs_s31 (by omega) (by decide) ?_
      show sA _ _ _ _ _ (.ref 35 :: _) _ _
      refine sA_callV (y2 := m_X7_doTwist) (n2 := 2) (d2 := 2) (a := 5) (ci := 7) (q := (RX7, TX7, 5)) (as := [gs_iv w14, .ref 35]) (rest := [gs_iv u, .ref 32]) dd_X5_measureAhead_46 ok_X7_doTwist ml_X5_69 rfl rfl (by decide) gs_s5 rfl rfl (Nat.le_of_ble_eq_true rfl) (by decide) (c_X7_doTwist I10 (by omega) gs_row_35) (fun r16 F17 A18 h19 => ?_)
      obtain ⟨z22, e21, I23, f24, x20⟩ := h19
      subst e21
      have f25 := gs_fr_tr f12 f24 (fun b j h => by first | exact False.elim h | omega | (dsimp only at h ⊢; omega)) (fun b h => by first | exact False.elim h | omega | (dsimp only at h ⊢; omega))
      show sA _ _ _ 49 _ [gs_iv z22, gs_iv u, .ref 32] _ _
      refine sA_if_eq (tgt := 64) dd_X5_measureAhead_49 (by decide) (by omega) (fun q26 => ?_) (fun q26 => ?_)
      · skip
        refine sA_iconst (z := (-1)) dd_X5_measureAhead_64 ?_
        refine sA_iast (n := 16) dd_X5_measureAhead_65 (by decide) gs_s32 (by omega) (by decide) ?_
        have I28 : gs_I F17 (gs_up A18 32 u.toNat (-1)) := gs_I_ast I23 (show (-2147483648 : Int) ≤ -1 ∧ -1 ≤ 2147483647 by omega)
        have f29 := gs_fr_ast f25 (a := 32) (z := -1) (i := u.toNat) (by first | omega | (dsimp only; omega) | (dsimp only))
        generalize gs_up A18 32 u.toNat (-1) = A27 at I28 f29 ⊢
        refine sA_iinc (lv' := [(1, gs_iv (u + 1)), (0, .ref 30)]) dd_X5_measureAhead_66 (.head _) (by decide) rfl ?_
        refine sA_goto (tgt := 2) dd_X5_measureAhead_69 (by decide) ?_
        refine sA_sub (lv2 := [(1, gs_iv (u + 1)), (0, .ref 30)]) (List.forall_mem_cons.mpr ⟨(.head _), (List.forall_mem_cons.mpr ⟨(.tail _ (.head _)), (fun _ h => absurd h List.not_mem_nil)⟩)⟩) ?_
        exact ih (u + 1) F17 A27 I28 f29 (by omega) (by omega)
      · skip
        refine sA_aload_n dd_X5_measureAhead_52 rfl (.tail _ (.head _)) ?_
        refine sA_getr (ci := 5) (j := 2) (q := (RX5, TX5, 6)) dd_X5_measureAhead_53 rfl (by decide) fl_X5_11 (by decide) gs_s30 rfl ?_
        refine sA_iconst (z := 0) dd_X5_measureAhead_56 ?_
        refine sA_aald (n := 4) dd_X5_measureAhead_57 (by decide) (by decide) (by decide) gs_s31 (by omega) (by decide) ?_
        show sA _ _ _ _ _ (.ref 35 :: _) _ _
        refine sA_callV (y2 := m_X4_closedSize) (n2 := 0) (d2 := 2) (a := 35) (ci := 4) (q := (RX4, TX4, 2)) (as := []) (rest := [gs_iv u, .ref 32]) dd_X5_measureAhead_58 ok_X4_closedSize ml_X5_73 rfl rfl (Nat.lt_of_succ_lt gs_row_35.1) gs_row_35.2.1 rfl rfl (Nat.le_of_ble_eq_true rfl) (by decide) (c_X4_closedSize I23 gs_row_35) (fun r31 F32 A33 h34 => ?_)
        obtain ⟨z37, e36, e38, e39, x35⟩ := h34
        subst e36 e38 e39
        show sA _ _ _ 61 _ [gs_iv z37, gs_iv u, .ref 32] _ _
        refine sA_goto (tgt := 65) dd_X5_measureAhead_61 (by decide) ?_
        refine sA_iast (n := 16) dd_X5_measureAhead_65 (by decide) gs_s32 (by omega) (by decide) ?_
        have I41 : gs_I F17 (gs_up A18 32 u.toNat z37) := gs_I_ast I23 (show (-2147483648 : Int) ≤ z37 ∧ z37 ≤ 2147483647 by omega)
        have f42 := gs_fr_ast f25 (a := 32) (z := z37) (i := u.toNat) (by first | omega | (dsimp only; omega) | (dsimp only))
        generalize gs_up A18 32 u.toNat z37 = A40 at I41 f42 ⊢
        refine sA_iinc (lv' := [(1, gs_iv (u + 1)), (0, .ref 30)]) dd_X5_measureAhead_66 (.head _) (by decide) rfl ?_
        refine sA_goto (tgt := 2) dd_X5_measureAhead_69 (by decide) ?_
        refine sA_sub (lv2 := [(1, gs_iv (u + 1)), (0, .ref 30)]) (List.forall_mem_cons.mpr ⟨(.head _), (List.forall_mem_cons.mpr ⟨(.tail _ (.head _)), (fun _ h => absurd h List.not_mem_nil)⟩)⟩) ?_
        exact ih (u + 1) F17 A40 I41 f42 (by omega) (by omega)
theorem c_X5_measureAhead  {F A : gs_F} (hI : gs_I F A)  : sC m_X5_measureAhead 3 [.ref 30] F A (fun rv F' A' => rv = none ∧ gs_I F' A' ∧ gs_fr (fun c j => c = 35 ∧ j = 1) (fun c => c = 36 ∨ c = 7 ∨ c = 32) F A F' A' ∧ (True)) := by
  refine sC_of ok_X5_measureAhead.1 (Nat.le_of_ble_eq_true rfl) ?_
  show sA _ _ _ 0 [(0, .ref 30)] [] F A
  have hf : gs_fr (fun c j => c = 35 ∧ j = 1) (fun c => c = 36 ∨ c = 7 ∨ c = 32) F A F A := gs_fr_refl _ _ _ _
  refine sA_iconst (z := 0) dd_X5_measureAhead_0 ?_
  refine sA_istore_n (lv' := [(1, gs_iv 0), (0, .ref 30)]) dd_X5_measureAhead_1 rfl (by decide) rfl ?_
  refine sA_sub (lv2 := [(1, gs_iv 0), (0, .ref 30)]) (List.forall_mem_cons.mpr ⟨(.head _), (List.forall_mem_cons.mpr ⟨(.tail _ (.head _)), (fun _ h => absurd h List.not_mem_nil)⟩)⟩) ?_
  exact (k_X5_measureAhead hI (16 - 0 : Int).toNat.succ) 0 F A hI hf (by omega) (by omega)
theorem dd_X5_tryTwists_0 : decode cX5_tryTwists 0 = .ok (.iload_n 1, 1) := by decide +kernel
theorem dd_X5_tryTwists_1 : decode cX5_tryTwists 1 = .ok (.ifCond .lt 17, 3) := by decide +kernel
theorem dd_X5_tryTwists_4 : decode cX5_tryTwists 4 = .ok (.iload_n 1, 1) := by decide +kernel
theorem dd_X5_tryTwists_5 : decode cX5_tryTwists 5 = .ok (.iload_n 2, 1) := by decide +kernel
theorem dd_X5_tryTwists_6 : decode cX5_tryTwists 6 = .ok (.if_icmp .ge 12, 3) := by decide +kernel
theorem dd_X5_tryTwists_18 : decode cX5_tryTwists 18 = .ok (.return_, 1) := by decide +kernel
theorem ok_X5_tryTwists : am_okM m_X5_tryTwists 4 ∧ Cond.instanceMethod m_X5_tryTwists.1 ∈ am_tbl ∧ Cond.selects m_X5_tryTwists.1.cls m_X5_tryTwists.1 m_X5_tryTwists.1 ∈ am_tbl := ri_mk1 751 88 750 26 (by decide +kernel)
theorem c_X5_tryTwists_v3 {k r wt : Int} {F A : gs_F} (hI : gs_I F A) (hk : 0 ≤ k ∧ k ≤ 3) (hr0 : -2147483648 ≤ r ∧ r ≤ 2147483647) (hwt : -2147483648 ≤ wt ∧ wt ≤ 2147483647) : sC m_X5_tryTwists 3 [.ref 30, gs_iv 3, gs_iv k, gs_iv r, gs_iv wt] F A (fun rv F' A' => rv = none ∧ gs_I F' A' ∧ gs_fr (fun c j => (c = 30 ∧ j = 5) ∨ (35 ≤ c ∧ c < 43 ∧ j = 1)) (fun c => c = 7 ∨ (35 ≤ c ∧ c < 43)) F A F' A' ∧ (True)) := by
  refine sC_of ok_X5_tryTwists.1 (Nat.le_of_ble_eq_true rfl) ?_
  show sA _ _ _ 0 [(0, .ref 30), (1, gs_iv 3), (2, gs_iv k), (3, gs_iv r), (4, gs_iv wt)] [] F A
  have hf : gs_fr (fun c j => (c = 30 ∧ j = 5) ∨ (35 ≤ c ∧ c < 43 ∧ j = 1)) (fun c => c = 7 ∨ (35 ≤ c ∧ c < 43)) F A F A := gs_fr_refl _ _ _ _
  refine sA_iload_n dd_X5_tryTwists_0 rfl (.tail _ (.head _)) ?_
  refine sA_if_lt (tgt := 18) dd_X5_tryTwists_1 (by decide) (by omega) (fun q1 => absurd q1 (by omega)) (fun q1 => ?_)
  refine sA_iload_n dd_X5_tryTwists_4 rfl (.tail _ (.head _)) ?_
  refine sA_iload_n dd_X5_tryTwists_5 rfl (.tail _ (.tail _ (.head _))) ?_
  refine sA_icmp_ge (tgt := 18) dd_X5_tryTwists_6 (by decide) (by omega) (by omega) (fun q2 => ?_) (fun q2 => absurd q2 (by omega))
  refine sA_vret dd_X5_tryTwists_18 rfl ?_
  exact ⟨rfl, hI, hf, trivial⟩
theorem dd_X5_tryTwists_9 : decode cX5_tryTwists 9 = .ok (.iload_n 2, 1) := by decide +kernel
theorem dd_X5_tryTwists_10 : decode cX5_tryTwists 10 = .ok (.aload_n 0, 1) := by decide +kernel
theorem dd_X5_tryTwists_11 : decode cX5_tryTwists 11 = .ok (.getfield 11, 3) := by decide +kernel
theorem dd_X5_tryTwists_14 : decode cX5_tryTwists 14 = .ok (.arraylength, 1) := by decide +kernel
theorem dd_X5_tryTwists_15 : decode cX5_tryTwists 15 = .ok (.if_icmp .lt 4, 3) := by decide +kernel
theorem dd_X5_tryTwists_19 : decode cX5_tryTwists 19 = .ok (.iload_n 1, 1) := by decide +kernel
theorem dd_X5_tryTwists_20 : decode cX5_tryTwists 20 = .ok (.iconst 1, 1) := by decide +kernel
theorem dd_X5_tryTwists_21 : decode cX5_tryTwists 21 = .ok (.iadd, 1) := by decide +kernel
theorem dd_X5_tryTwists_22 : decode cX5_tryTwists 22 = .ok (.iload_n 2, 1) := by decide +kernel
theorem dd_X5_tryTwists_23 : decode cX5_tryTwists 23 = .ok (.if_icmp .ne 7, 3) := by decide +kernel
theorem dd_X5_tryTwists_26 : decode cX5_tryTwists 26 = .ok (.iconst 1, 1) := by decide +kernel
theorem dd_X5_tryTwists_27 : decode cX5_tryTwists 27 = .ok (.goto 4, 3) := by decide +kernel
theorem dd_X5_tryTwists_30 : decode cX5_tryTwists 30 = .ok (.iconst 0, 1) := by decide +kernel
theorem dd_X5_tryTwists_31 : decode cX5_tryTwists 31 = .ok (.istore 5, 2) := by decide +kernel
theorem dd_X5_tryTwists_33 : decode cX5_tryTwists 33 = .ok (.aload_n 0, 1) := by decide +kernel
theorem dd_X5_tryTwists_34 : decode cX5_tryTwists 34 = .ok (.getfield 11, 3) := by decide +kernel
theorem dd_X5_tryTwists_37 : decode cX5_tryTwists 37 = .ok (.iload_n 1, 1) := by decide +kernel
theorem dd_X5_tryTwists_38 : decode cX5_tryTwists 38 = .ok (.aaload, 1) := by decide +kernel
theorem dd_X5_tryTwists_39 : decode cX5_tryTwists 39 = .ok (.invokevirtual 73, 3) := by decide +kernel
theorem dd_X5_tryTwists_42 : decode cX5_tryTwists 42 = .ok (.istore 6, 2) := by decide +kernel
theorem dd_X5_tryTwists_44 : decode cX5_tryTwists 44 = .ok (.iconst 0, 1) := by decide +kernel
theorem dd_X5_tryTwists_45 : decode cX5_tryTwists 45 = .ok (.istore 7, 2) := by decide +kernel
theorem dd_X5_tryTwists_47 : decode cX5_tryTwists 47 = .ok (.iload 7, 2) := by decide +kernel
theorem dd_X5_tryTwists_49 : decode cX5_tryTwists 49 = .ok (.iconst 2, 1) := by decide +kernel
theorem dd_X5_tryTwists_50 : decode cX5_tryTwists 50 = .ok (.aload_n 0, 1) := by decide +kernel
theorem dd_X5_tryTwists_51 : decode cX5_tryTwists 51 = .ok (.getfield 28, 3) := by decide +kernel
theorem dd_X5_tryTwists_54 : decode cX5_tryTwists 54 = .ok (.getfield 64, 3) := by decide +kernel
theorem dd_X5_tryTwists_57 : decode cX5_tryTwists 57 = .ok (.imul, 1) := by decide +kernel
theorem dd_X5_tryTwists_58 : decode cX5_tryTwists 58 = .ok (.if_icmp .ge 158, 3) := by decide +kernel
theorem dd_X5_tryTwists_61 : decode cX5_tryTwists 61 = .ok (.iload_n 3, 1) := by decide +kernel
theorem dd_X5_tryTwists_62 : decode cX5_tryTwists 62 = .ok (.iload 7, 2) := by decide +kernel
theorem dd_X5_tryTwists_64 : decode cX5_tryTwists 64 = .ok (.iload 4, 2) := by decide +kernel
theorem dd_X5_tryTwists_66 : decode cX5_tryTwists 66 = .ok (.imul, 1) := by decide +kernel
theorem dd_X5_tryTwists_67 : decode cX5_tryTwists 67 = .ok (.iadd, 1) := by decide +kernel
theorem dd_X5_tryTwists_68 : decode cX5_tryTwists 68 = .ok (.istore 8, 2) := by decide +kernel
theorem dd_X5_tryTwists_70 : decode cX5_tryTwists 70 = .ok (.iload 5, 2) := by decide +kernel
theorem dd_X5_tryTwists_72 : decode cX5_tryTwists 72 = .ok (.ifCond .eq 21, 3) := by decide +kernel
theorem dd_X5_tryTwists_75 : decode cX5_tryTwists 75 = .ok (.aload_n 0, 1) := by decide +kernel
theorem dd_X5_tryTwists_76 : decode cX5_tryTwists 76 = .ok (.getfield 53, 3) := by decide +kernel
theorem dd_X5_tryTwists_79 : decode cX5_tryTwists 79 = .ok (.iconst (-1), 1) := by decide +kernel
theorem dd_X5_tryTwists_80 : decode cX5_tryTwists 80 = .ok (.if_icmp .eq 13, 3) := by decide +kernel
theorem dd_X5_tryTwists_83 : decode cX5_tryTwists 83 = .ok (.iload 8, 2) := by decide +kernel
theorem dd_X5_tryTwists_85 : decode cX5_tryTwists 85 = .ok (.aload_n 0, 1) := by decide +kernel
theorem dd_X5_tryTwists_86 : decode cX5_tryTwists 86 = .ok (.getfield 53, 3) := by decide +kernel
theorem dd_X5_tryTwists_89 : decode cX5_tryTwists 89 = .ok (.if_icmp .lt 4, 3) := by decide +kernel
theorem dd_X5_tryTwists_92 : decode cX5_tryTwists 92 = .ok (.return_, 1) := by decide +kernel
theorem dd_X5_tryTwists_93 : decode cX5_tryTwists 93 = .ok (.iload 5, 2) := by decide +kernel
theorem dd_X5_tryTwists_95 : decode cX5_tryTwists 95 = .ok (.ifCond .eq 29, 3) := by decide +kernel
theorem dd_X5_tryTwists_98 : decode cX5_tryTwists 98 = .ok (.aload_n 0, 1) := by decide +kernel
theorem dd_X5_tryTwists_99 : decode cX5_tryTwists 99 = .ok (.getfield 17, 3) := by decide +kernel
theorem dd_X5_tryTwists_102 : decode cX5_tryTwists 102 = .ok (.iload 7, 2) := by decide +kernel
theorem dd_X5_tryTwists_104 : decode cX5_tryTwists 104 = .ok (.iaload, 1) := by decide +kernel
theorem dd_X5_tryTwists_105 : decode cX5_tryTwists 105 = .ok (.iconst (-1), 1) := by decide +kernel
theorem dd_X5_tryTwists_106 : decode cX5_tryTwists 106 = .ok (.if_icmp .eq 18, 3) := by decide +kernel
theorem dd_X5_tryTwists_109 : decode cX5_tryTwists 109 = .ok (.aload_n 0, 1) := by decide +kernel
theorem dd_X5_tryTwists_110 : decode cX5_tryTwists 110 = .ok (.getfield 17, 3) := by decide +kernel
theorem dd_X5_tryTwists_113 : decode cX5_tryTwists 113 = .ok (.iload 7, 2) := by decide +kernel
theorem dd_X5_tryTwists_115 : decode cX5_tryTwists 115 = .ok (.iaload, 1) := by decide +kernel
theorem dd_X5_tryTwists_116 : decode cX5_tryTwists 116 = .ok (.iload 6, 2) := by decide +kernel
theorem dd_X5_tryTwists_118 : decode cX5_tryTwists 118 = .ok (.if_icmp .eq 6, 3) := by decide +kernel
theorem dd_X5_tryTwists_121 : decode cX5_tryTwists 121 = .ok (.goto 89, 3) := by decide +kernel
theorem dd_X5_tryTwists_124 : decode cX5_tryTwists 124 = .ok (.aload_n 0, 1) := by decide +kernel
theorem dd_X5_tryTwists_125 : decode cX5_tryTwists 125 = .ok (.getfield 11, 3) := by decide +kernel
theorem dd_X5_tryTwists_128 : decode cX5_tryTwists 128 = .ok (.iload_n 1, 1) := by decide +kernel
theorem dd_X5_tryTwists_129 : decode cX5_tryTwists 129 = .ok (.iconst 1, 1) := by decide +kernel
theorem dd_X5_tryTwists_130 : decode cX5_tryTwists 130 = .ok (.iadd, 1) := by decide +kernel
theorem dd_X5_tryTwists_131 : decode cX5_tryTwists 131 = .ok (.aaload, 1) := by decide +kernel
theorem dd_X5_tryTwists_132 : decode cX5_tryTwists 132 = .ok (.astore 9, 2) := by decide +kernel
theorem dd_X5_tryTwists_134 : decode cX5_tryTwists 134 = .ok (.aload 9, 2) := by decide +kernel
theorem dd_X5_tryTwists_136 : decode cX5_tryTwists 136 = .ok (.aload_n 0, 1) := by decide +kernel
theorem dd_X5_tryTwists_137 : decode cX5_tryTwists 137 = .ok (.getfield 11, 3) := by decide +kernel
theorem dd_X5_tryTwists_140 : decode cX5_tryTwists 140 = .ok (.iload_n 1, 1) := by decide +kernel
theorem dd_X5_tryTwists_141 : decode cX5_tryTwists 141 = .ok (.aaload, 1) := by decide +kernel
theorem dd_X5_tryTwists_142 : decode cX5_tryTwists 142 = .ok (.invokevirtual 36, 3) := by decide +kernel
theorem dd_X5_tryTwists_145 : decode cX5_tryTwists 145 = .ok (.aload_n 0, 1) := by decide +kernel
theorem dd_X5_tryTwists_146 : decode cX5_tryTwists 146 = .ok (.getfield 28, 3) := by decide +kernel
theorem dd_X5_tryTwists_149 : decode cX5_tryTwists 149 = .ok (.iload 7, 2) := by decide +kernel
theorem dd_X5_tryTwists_151 : decode cX5_tryTwists 151 = .ok (.aload 9, 2) := by decide +kernel
theorem dd_X5_tryTwists_153 : decode cX5_tryTwists 153 = .ok (.invokevirtual 69, 3) := by decide +kernel
theorem dd_X5_tryTwists_156 : decode cX5_tryTwists 156 = .ok (.ifCond .ne 6, 3) := by decide +kernel
theorem dd_X5_tryTwists_159 : decode cX5_tryTwists 159 = .ok (.goto 51, 3) := by decide +kernel
theorem dd_X5_tryTwists_162 : decode cX5_tryTwists 162 = .ok (.iload 5, 2) := by decide +kernel
theorem dd_X5_tryTwists_164 : decode cX5_tryTwists 164 = .ok (.ifCond .ne 28, 3) := by decide +kernel
theorem dd_X5_tryTwists_167 : decode cX5_tryTwists 167 = .ok (.aload_n 0, 1) := by decide +kernel
theorem dd_X5_tryTwists_168 : decode cX5_tryTwists 168 = .ok (.iload_n 1, 1) := by decide +kernel
theorem dd_X5_tryTwists_169 : decode cX5_tryTwists 169 = .ok (.iconst 1, 1) := by decide +kernel
theorem dd_X5_tryTwists_170 : decode cX5_tryTwists 170 = .ok (.iadd, 1) := by decide +kernel
theorem dd_X5_tryTwists_171 : decode cX5_tryTwists 171 = .ok (.iload_n 2, 1) := by decide +kernel
theorem dd_X5_tryTwists_172 : decode cX5_tryTwists 172 = .ok (.iload 8, 2) := by decide +kernel
theorem dd_X5_tryTwists_174 : decode cX5_tryTwists 174 = .ok (.iload 4, 2) := by decide +kernel
theorem dd_X5_tryTwists_176 : decode cX5_tryTwists 176 = .ok (.iconst 2, 1) := by decide +kernel
theorem dd_X5_tryTwists_177 : decode cX5_tryTwists 177 = .ok (.imul, 1) := by decide +kernel
theorem dd_X5_tryTwists_178 : decode cX5_tryTwists 178 = .ok (.aload_n 0, 1) := by decide +kernel
theorem dd_X5_tryTwists_179 : decode cX5_tryTwists 179 = .ok (.getfield 28, 3) := by decide +kernel
theorem dd_X5_tryTwists_182 : decode cX5_tryTwists 182 = .ok (.getfield 64, 3) := by decide +kernel
theorem dd_X5_tryTwists_185 : decode cX5_tryTwists 185 = .ok (.imul, 1) := by decide +kernel
theorem dd_X5_tryTwists_186 : decode cX5_tryTwists 186 = .ok (.invokevirtual 56, 3) := by decide +kernel
theorem dd_X5_tryTwists_189 : decode cX5_tryTwists 189 = .ok (.goto 21, 3) := by decide +kernel
theorem dd_X5_tryTwists_192 : decode cX5_tryTwists 192 = .ok (.aload 9, 2) := by decide +kernel
theorem dd_X5_tryTwists_194 : decode cX5_tryTwists 194 = .ok (.aload_n 0, 1) := by decide +kernel
theorem dd_X5_tryTwists_195 : decode cX5_tryTwists 195 = .ok (.getfield 24, 3) := by decide +kernel
theorem dd_X5_tryTwists_198 : decode cX5_tryTwists 198 = .ok (.invokevirtual 43, 3) := by decide +kernel
theorem dd_X5_tryTwists_201 : decode cX5_tryTwists 201 = .ok (.ifCond .eq 9, 3) := by decide +kernel
theorem dd_X5_tryTwists_204 : decode cX5_tryTwists 204 = .ok (.aload_n 0, 1) := by decide +kernel
theorem dd_X5_tryTwists_205 : decode cX5_tryTwists 205 = .ok (.iload 8, 2) := by decide +kernel
theorem dd_X5_tryTwists_207 : decode cX5_tryTwists 207 = .ok (.putfield 53, 3) := by decide +kernel
theorem dd_X5_tryTwists_210 : decode cX5_tryTwists 210 = .ok (.iinc 7 1, 3) := by decide +kernel
theorem dd_X5_tryTwists_213 : decode cX5_tryTwists 213 = .ok (.goto (-166), 3) := by decide +kernel
theorem dd_X5_tryTwists_216 : decode cX5_tryTwists 216 = .ok (.return_, 1) := by decide +kernel
theorem fl_X5_53 : Cond.fieldLink RX5 53 (TX5 5).1 (TX5 5).2.1 (TX5 5).2.2.1 ∈ am_tbl := ri_lw_in (pl := 207) (by decide +kernel)
theorem ml_X5_43 : Cond.methodLink RX5 43 m_X4_isOneWith.1 ∈ am_tbl := ri_lw_in (pl := 747) (by decide +kernel)
theorem ml_X5_56 : Cond.methodLink RX5 56 m_X5_tryTwists.1 ∈ am_tbl := ri_lw_in (pl := 748) (by decide +kernel)
theorem k_X5_tryTwists_v2 {k r wt : Int} {F A : gs_F} (hI : gs_I F A) (hk : 0 ≤ k ∧ k ≤ 3) (hr0 : -2147483648 ≤ r ∧ r ≤ 2147483647) (hwt : -2147483648 ≤ wt ∧ wt ≤ 2147483647) : ∀ nN : Nat, (∀ (lt : Int) (sz : Int) (u : Int)  (F1 A1 : gs_F), gs_I F1 A1 → gs_fr (fun c j => (c = 30 ∧ j = 5) ∨ (35 ≤ c ∧ c < 43 ∧ j = 1)) (fun c => c = 7 ∨ (35 ≤ c ∧ c < 43)) F A F1 A1 → 0 ≤ u ∧ u ≤ 16 → -2147483648 ≤ sz ∧ sz ≤ 2147483647 → lt = 0 ∨ lt = 1 → 2 < k → 16 - u < (nN : Int) → sA m_X5_tryTwists 4 (fun rv F' A' => rv = none ∧ gs_I F' A' ∧ gs_fr (fun c j => (c = 30 ∧ j = 5) ∨ (35 ≤ c ∧ c < 43 ∧ j = 1)) (fun c => c = 7 ∨ (35 ≤ c ∧ c < 43)) F A F' A' ∧ (True)) 47 [(7, gs_iv u), (6, gs_iv sz), (5, gs_iv lt), (0, .ref 30), (1, gs_iv 2), (2, gs_iv k), (3, gs_iv r), (4, gs_iv wt)] [] F1 A1) := by
  intro nN
  induction nN with
  | zero =>
    exact fun a0 a1 a2 a3 a4 a5 a6 i0 i1 i2 i3 hm => by exfalso; omega
  | succ nN ih =>
    intro lt sz u F1 A1 hI1 hf1 i0 i1 i2 i3 hm
    refine sA_iload dd_X5_tryTwists_47 (.head _) ?_
    refine sA_iconst (z := 2) dd_X5_tryTwists_49 ?_
    refine sA_aload_n dd_X5_tryTwists_50 rfl (.tail _ (.tail _ (.tail _ (.head _)))) ?_
    refine sA_getr (ci := 5) (j := 0) (q := (RX5, TX5, 6)) dd_X5_tryTwists_51 rfl (by decide) fl_X5_28 (by decide) gs_s30 rfl ?_
    refine sA_geti (ci := 7) (j := 0) (q := (RX7, TX7, 5)) dd_X5_tryTwists_54 rfl (by decide) fl_X5_64 (by decide) gs_s5 rfl ?_
    have b1 : (1 : Int) ≤ F1 5 0 ∧ F1 5 0 ≤ 8 := hI1.1 5 0
    refine sA_imul dd_X5_tryTwists_57 ?_
    refine sA_icmp_ge (tgt := 216) dd_X5_tryTwists_58 (by decide) (by omega) (by omega) (fun q2 => ?_) (fun q2 => ?_)
    · skip
      refine sA_vret dd_X5_tryTwists_216 rfl ?_
      exact ⟨rfl, hI1, hf1, trivial⟩
    · skip
      refine sA_iload_n dd_X5_tryTwists_61 rfl (.tail _ (.tail _ (.tail _ (.tail _ (.tail _ (.tail _ (.head _))))))) ?_
      refine sA_iload dd_X5_tryTwists_62 (.head _) ?_
      refine sA_iload dd_X5_tryTwists_64 (.tail _ (.tail _ (.tail _ (.tail _ (.tail _ (.tail _ (.tail _ (.head _)))))))) ?_
      refine sA_imul dd_X5_tryTwists_66 ?_
      refine sA_iadd dd_X5_tryTwists_67 ?_
      refine sA_wrap ?_
      have b4 := gs_w_rng (r + (u * wt))
      generalize gs_w (r + (u * wt)) = w3 at b4 ⊢
      refine sA_istore (lv' := [(8, gs_iv w3), (7, gs_iv u), (6, gs_iv sz), (5, gs_iv lt), (0, .ref 30), (1, gs_iv 2), (2, gs_iv k), (3, gs_iv r), (4, gs_iv wt)]) dd_X5_tryTwists_68 (by decide) rfl ?_
      refine sA_iload dd_X5_tryTwists_70 (.tail _ (.tail _ (.tail _ (.head _)))) ?_
      refine sA_if_eq (tgt := 93) dd_X5_tryTwists_72 (by decide) (by omega) (fun q5 => ?_) (fun q5 => ?_)
      · skip
        refine sA_iload dd_X5_tryTwists_93 (.tail _ (.tail _ (.tail _ (.head _)))) ?_
        refine sA_if_eq (tgt := 124) dd_X5_tryTwists_95 (by decide) (by omega) (fun q6 => ?_) (fun q6 => absurd q6 (by omega))
        refine sA_aload_n dd_X5_tryTwists_124 rfl (.tail _ (.tail _ (.tail _ (.tail _ (.head _))))) ?_
        refine sA_getr (ci := 5) (j := 2) (q := (RX5, TX5, 6)) dd_X5_tryTwists_125 rfl (by decide) fl_X5_11 (by decide) gs_s30 rfl ?_
        refine sA_iload_n dd_X5_tryTwists_128 rfl (.tail _ (.tail _ (.tail _ (.tail _ (.tail _ (.head _)))))) ?_
        refine sA_iconst (z := 1) dd_X5_tryTwists_129 ?_
        refine sA_iadd dd_X5_tryTwists_130 ?_
        show sA _ _ _ _ _ (gs_iv 3 :: _) _ _
        refine sA_aald (n := 4) dd_X5_tryTwists_131 (by decide) (by decide) (by decide) gs_s31 (by omega) (by decide) ?_
        show sA _ _ _ _ _ (.ref 41 :: _) _ _
        refine sA_astore (lv' := [(9, .ref 41), (8, gs_iv w3), (7, gs_iv u), (6, gs_iv sz), (5, gs_iv lt), (0, .ref 30), (1, gs_iv 2), (2, gs_iv k), (3, gs_iv r), (4, gs_iv wt)]) dd_X5_tryTwists_132 (by decide) rfl ?_
        refine sA_aload dd_X5_tryTwists_134 (.head _) ?_
        refine sA_aload_n dd_X5_tryTwists_136 rfl (.tail _ (.tail _ (.tail _ (.tail _ (.tail _ (.head _)))))) ?_
        refine sA_getr (ci := 5) (j := 2) (q := (RX5, TX5, 6)) dd_X5_tryTwists_137 rfl (by decide) fl_X5_11 (by decide) gs_s30 rfl ?_
        refine sA_iload_n dd_X5_tryTwists_140 rfl (.tail _ (.tail _ (.tail _ (.tail _ (.tail _ (.tail _ (.head _))))))) ?_
        refine sA_aald (n := 4) dd_X5_tryTwists_141 (by decide) (by decide) (by decide) gs_s31 (by omega) (by decide) ?_
        show sA _ _ _ _ _ (.ref 39 :: _) _ _
        refine sA_callV (y2 := m_X4_copy) (n2 := 1) (d2 := 1) (a := 41) (ci := 4) (q := (RX4, TX4, 2)) (as := [.ref 39]) (rest := []) dd_X5_tryTwists_142 ok_X4_copy ml_X5_36 rfl rfl (Nat.lt_of_succ_lt gs_row_41.1) gs_row_41.2.1 rfl rfl (Nat.le_of_ble_eq_true rfl) (by decide) (c_X4_copy hI1 gs_row_41 gs_row_39) (fun r9 F10 A11 h12 => ?_)
        obtain ⟨e14, I15, f16, x13⟩ := h12
        subst e14
        have f17 := gs_fr_tr hf1 f16 (fun b j h => by first | exact False.elim h | omega | (dsimp only at h ⊢; omega)) (fun b h => by first | exact False.elim h | omega | (dsimp only at h ⊢; omega))
        show sA _ _ _ 145 _ [] _ _
        refine sA_aload_n dd_X5_tryTwists_145 rfl (.tail _ (.tail _ (.tail _ (.tail _ (.tail _ (.head _)))))) ?_
        refine sA_getr (ci := 5) (j := 0) (q := (RX5, TX5, 6)) dd_X5_tryTwists_146 rfl (by decide) fl_X5_28 (by decide) gs_s30 rfl ?_
        refine sA_iload dd_X5_tryTwists_149 (.tail _ (.tail _ (.head _))) ?_
        refine sA_aload dd_X5_tryTwists_151 (.head _) ?_
        refine sA_callV (y2 := m_X7_doTwist) (n2 := 2) (d2 := 2) (a := 5) (ci := 7) (q := (RX7, TX7, 5)) (as := [gs_iv u, .ref 41]) (rest := []) dd_X5_tryTwists_153 ok_X7_doTwist ml_X5_69 rfl rfl (by decide) gs_s5 rfl rfl (Nat.le_of_ble_eq_true rfl) (by decide) (c_X7_doTwist I15 (by omega) gs_row_41) (fun r18 F19 A20 h21 => ?_)
        obtain ⟨z24, e23, I25, f26, x22⟩ := h21
        subst e23
        have f27 := gs_fr_tr f17 f26 (fun b j h => by first | exact False.elim h | omega | (dsimp only at h ⊢; omega)) (fun b h => by first | exact False.elim h | omega | (dsimp only at h ⊢; omega))
        show sA _ _ _ 156 _ [gs_iv z24] _ _
        refine sA_if_ne (tgt := 162) dd_X5_tryTwists_156 (by decide) (by omega) (fun q28 => ?_) (fun q28 => ?_)
        · skip
          refine sA_iload dd_X5_tryTwists_162 (.tail _ (.tail _ (.tail _ (.tail _ (.head _))))) ?_
          refine sA_if_ne (tgt := 192) dd_X5_tryTwists_164 (by decide) (by omega) (fun q29 => absurd q29 (by omega)) (fun q29 => ?_)
          refine sA_aload_n dd_X5_tryTwists_167 rfl (.tail _ (.tail _ (.tail _ (.tail _ (.tail _ (.head _)))))) ?_
          refine sA_iload_n dd_X5_tryTwists_168 rfl (.tail _ (.tail _ (.tail _ (.tail _ (.tail _ (.tail _ (.head _))))))) ?_
          refine sA_iconst (z := 1) dd_X5_tryTwists_169 ?_
          refine sA_iadd dd_X5_tryTwists_170 ?_
          show sA _ _ _ _ _ (gs_iv 3 :: _) _ _
          refine sA_iload_n dd_X5_tryTwists_171 rfl (.tail _ (.tail _ (.tail _ (.tail _ (.tail _ (.tail _ (.tail _ (.head _)))))))) ?_
          refine sA_iload dd_X5_tryTwists_172 (.tail _ (.head _)) ?_
          refine sA_iload dd_X5_tryTwists_174 (.tail _ (.tail _ (.tail _ (.tail _ (.tail _ (.tail _ (.tail _ (.tail _ (.tail _ (.head _)))))))))) ?_
          refine sA_iconst (z := 2) dd_X5_tryTwists_176 ?_
          refine sA_imul dd_X5_tryTwists_177 ?_
          refine sA_aload_n dd_X5_tryTwists_178 rfl (.tail _ (.tail _ (.tail _ (.tail _ (.tail _ (.head _)))))) ?_
          refine sA_getr (ci := 5) (j := 0) (q := (RX5, TX5, 6)) dd_X5_tryTwists_179 rfl (by decide) fl_X5_28 (by decide) gs_s30 rfl ?_
          refine sA_geti (ci := 7) (j := 0) (q := (RX7, TX7, 5)) dd_X5_tryTwists_182 rfl (by decide) fl_X5_64 (by decide) gs_s5 rfl ?_
          have b30 : (1 : Int) ≤ F19 5 0 ∧ F19 5 0 ≤ 8 := I25.1 5 0
          refine sA_imul dd_X5_tryTwists_185 ?_
          refine sA_wrap ?_
          have b32 := gs_w_rng ((wt * 2) * (F19 5 0))
          generalize gs_w ((wt * 2) * (F19 5 0)) = w31 at b32 ⊢
          refine sA_callV (y2 := m_X5_tryTwists) (n2 := 4) (d2 := 3) (a := 30) (ci := 5) (q := (RX5, TX5, 6)) (as := [gs_iv 3, gs_iv k, gs_iv w3, gs_iv w31]) (rest := []) dd_X5_tryTwists_186 ok_X5_tryTwists ml_X5_56 rfl rfl (by decide) gs_s30 rfl rfl (Nat.le_of_ble_eq_true rfl) (by decide) (c_X5_tryTwists_v3 I25 (by omega) (by omega) (by omega)) (fun r33 F34 A35 h36 => ?_)
          obtain ⟨e38, I39, f40, x37⟩ := h36
          subst e38
          have f41 := gs_fr_tr f27 f40 (fun b j h => by first | exact False.elim h | omega | (dsimp only at h ⊢; omega)) (fun b h => by first | exact False.elim h | omega | (dsimp only at h ⊢; omega))
          show sA _ _ _ 189 _ [] _ _
          refine sA_goto (tgt := 210) dd_X5_tryTwists_189 (by decide) ?_
          refine sA_iinc (lv' := [(7, gs_iv (u + 1)), (9, .ref 41), (8, gs_iv w3), (6, gs_iv sz), (5, gs_iv lt), (0, .ref 30), (1, gs_iv 2), (2, gs_iv k), (3, gs_iv r), (4, gs_iv wt)]) dd_X5_tryTwists_210 (.tail _ (.tail _ (.head _))) (by decide) rfl ?_
          refine sA_goto (tgt := 47) dd_X5_tryTwists_213 (by decide) ?_
          refine sA_sub (lv2 := [(7, gs_iv (u + 1)), (6, gs_iv sz), (5, gs_iv lt), (0, .ref 30), (1, gs_iv 2), (2, gs_iv k), (3, gs_iv r), (4, gs_iv wt)]) (List.forall_mem_cons.mpr ⟨(.head _), (List.forall_mem_cons.mpr ⟨(.tail _ (.tail _ (.tail _ (.head _)))), (List.forall_mem_cons.mpr ⟨(.tail _ (.tail _ (.tail _ (.tail _ (.head _))))), (List.forall_mem_cons.mpr ⟨(.tail _ (.tail _ (.tail _ (.tail _ (.tail _ (.head _)))))), (List.forall_mem_cons.mpr ⟨(.tail _ (.tail _ (.tail _ (.tail _ (.tail _ (.tail _ (.head _))))))), (List.forall_mem_cons.mpr ⟨(.tail _ (.tail _ (.tail _ (.tail _ (.tail _ (.tail _ (.tail _ (.head _)))))))), (List.forall_mem_cons.mpr ⟨(.tail _ (.tail _ (.tail _ (.tail _ (.tail _ (.tail _ (.tail _ (.tail _ (.head _))))))))), (List.forall_mem_cons.mpr ⟨(.tail _ (.tail _ (.tail _ (.tail _ (.tail _ (.tail _ (.tail _ (.tail _ (.tail _ (.head _)))))))))), (fun _ h => absurd h List.not_mem_nil)⟩)⟩)⟩)⟩)⟩)⟩)⟩)⟩) ?_
          exact ih lt sz (u + 1) F34 A35 I39 f41 (by omega) (by omega) (by omega) (by omega) (by omega)
        · skip
          refine sA_goto (tgt := 210) dd_X5_tryTwists_159 (by decide) ?_
          refine sA_iinc (lv' := [(7, gs_iv (u + 1)), (9, .ref 41), (8, gs_iv w3), (6, gs_iv sz), (5, gs_iv lt), (0, .ref 30), (1, gs_iv 2), (2, gs_iv k), (3, gs_iv r), (4, gs_iv wt)]) dd_X5_tryTwists_210 (.tail _ (.tail _ (.head _))) (by decide) rfl ?_
          refine sA_goto (tgt := 47) dd_X5_tryTwists_213 (by decide) ?_
          refine sA_sub (lv2 := [(7, gs_iv (u + 1)), (6, gs_iv sz), (5, gs_iv lt), (0, .ref 30), (1, gs_iv 2), (2, gs_iv k), (3, gs_iv r), (4, gs_iv wt)]) (List.forall_mem_cons.mpr ⟨(.head _), (List.forall_mem_cons.mpr ⟨(.tail _ (.tail _ (.tail _ (.head _)))), (List.forall_mem_cons.mpr ⟨(.tail _ (.tail _ (.tail _ (.tail _ (.head _))))), (List.forall_mem_cons.mpr ⟨(.tail _ (.tail _ (.tail _ (.tail _ (.tail _ (.head _)))))), (List.forall_mem_cons.mpr ⟨(.tail _ (.tail _ (.tail _ (.tail _ (.tail _ (.tail _ (.head _))))))), (List.forall_mem_cons.mpr ⟨(.tail _ (.tail _ (.tail _ (.tail _ (.tail _ (.tail _ (.tail _ (.head _)))))))), (List.forall_mem_cons.mpr ⟨(.tail _ (.tail _ (.tail _ (.tail _ (.tail _ (.tail _ (.tail _ (.tail _ (.head _))))))))), (List.forall_mem_cons.mpr ⟨(.tail _ (.tail _ (.tail _ (.tail _ (.tail _ (.tail _ (.tail _ (.tail _ (.tail _ (.head _)))))))))), (fun _ h => absurd h List.not_mem_nil)⟩)⟩)⟩)⟩)⟩)⟩)⟩)⟩) ?_
          exact ih lt sz (u + 1) F19 A20 I25 f27 (by omega) (by omega) (by omega) (by omega) (by omega)
      · skip
        refine sA_aload_n dd_X5_tryTwists_75 rfl (.tail _ (.tail _ (.tail _ (.tail _ (.head _))))) ?_
        refine sA_geti (ci := 5) (j := 5) (q := (RX5, TX5, 6)) dd_X5_tryTwists_76 rfl (by decide) fl_X5_53 (by decide) gs_s30 rfl ?_
        have b42 : (-2147483648 : Int) ≤ F1 30 5 ∧ F1 30 5 ≤ 2147483647 := hI1.1 30 5
        refine sA_iconst (z := (-1)) dd_X5_tryTwists_79 ?_
        refine sA_icmp_eq (tgt := 93) dd_X5_tryTwists_80 (by decide) (by omega) (by omega) (fun q43 => ?_) (fun q43 => ?_)
        · skip
          refine sA_iload dd_X5_tryTwists_93 (.tail _ (.tail _ (.tail _ (.head _)))) ?_
          refine sA_if_eq (tgt := 124) dd_X5_tryTwists_95 (by decide) (by omega) (fun q44 => absurd q44 (by omega)) (fun q44 => ?_)
          refine sA_aload_n dd_X5_tryTwists_98 rfl (.tail _ (.tail _ (.tail _ (.tail _ (.head _))))) ?_
          refine sA_getr (ci := 5) (j := 3) (q := (RX5, TX5, 6)) dd_X5_tryTwists_99 rfl (by decide) fl_X5_17 (by decide) gs_s30 rfl ?_
          refine sA_iload dd_X5_tryTwists_102 (.tail _ (.head _)) ?_
          refine sA_iald (n := 16) dd_X5_tryTwists_104 (by decide) gs_s32 (by omega) (by decide) ?_
          have b45 : (-2147483648 : Int) ≤ A1 32 u.toNat ∧ A1 32 u.toNat ≤ 2147483647 := hI1.2 32 u.toNat
          refine sA_iconst (z := (-1)) dd_X5_tryTwists_105 ?_
          refine sA_icmp_eq (tgt := 124) dd_X5_tryTwists_106 (by decide) (by omega) (by omega) (fun q46 => ?_) (fun q46 => ?_)
          · skip
            refine sA_aload_n dd_X5_tryTwists_124 rfl (.tail _ (.tail _ (.tail _ (.tail _ (.head _))))) ?_
            refine sA_getr (ci := 5) (j := 2) (q := (RX5, TX5, 6)) dd_X5_tryTwists_125 rfl (by decide) fl_X5_11 (by decide) gs_s30 rfl ?_
            refine sA_iload_n dd_X5_tryTwists_128 rfl (.tail _ (.tail _ (.tail _ (.tail _ (.tail _ (.head _)))))) ?_
            refine sA_iconst (z := 1) dd_X5_tryTwists_129 ?_
            refine sA_iadd dd_X5_tryTwists_130 ?_
            show sA _ _ _ _ _ (gs_iv 3 :: _) _ _
            refine sA_aald (n := 4) dd_X5_tryTwists_131 (by decide) (by decide) (by decide) gs_s31 (by omega) (by decide) ?_
            show sA _ _ _ _ _ (.ref 41 :: _) _ _
            refine sA_astore (lv' := [(9, .ref 41), (8, gs_iv w3), (7, gs_iv u), (6, gs_iv sz), (5, gs_iv lt), (0, .ref 30), (1, gs_iv 2), (2, gs_iv k), (3, gs_iv r), (4, gs_iv wt)]) dd_X5_tryTwists_132 (by decide) rfl ?_
            refine sA_aload dd_X5_tryTwists_134 (.head _) ?_
            refine sA_aload_n dd_X5_tryTwists_136 rfl (.tail _ (.tail _ (.tail _ (.tail _ (.tail _ (.head _)))))) ?_
            refine sA_getr (ci := 5) (j := 2) (q := (RX5, TX5, 6)) dd_X5_tryTwists_137 rfl (by decide) fl_X5_11 (by decide) gs_s30 rfl ?_
            refine sA_iload_n dd_X5_tryTwists_140 rfl (.tail _ (.tail _ (.tail _ (.tail _ (.tail _ (.tail _ (.head _))))))) ?_
            refine sA_aald (n := 4) dd_X5_tryTwists_141 (by decide) (by decide) (by decide) gs_s31 (by omega) (by decide) ?_
            show sA _ _ _ _ _ (.ref 39 :: _) _ _
            refine sA_callV (y2 := m_X4_copy) (n2 := 1) (d2 := 1) (a := 41) (ci := 4) (q := (RX4, TX4, 2)) (as := [.ref 39]) (rest := []) dd_X5_tryTwists_142 ok_X4_copy ml_X5_36 rfl rfl (Nat.lt_of_succ_lt gs_row_41.1) gs_row_41.2.1 rfl rfl (Nat.le_of_ble_eq_true rfl) (by decide) (c_X4_copy hI1 gs_row_41 gs_row_39) (fun r49 F50 A51 h52 => ?_)
            obtain ⟨e54, I55, f56, x53⟩ := h52
            subst e54
            have f57 := gs_fr_tr hf1 f56 (fun b j h => by first | exact False.elim h | omega | (dsimp only at h ⊢; omega)) (fun b h => by first | exact False.elim h | omega | (dsimp only at h ⊢; omega))
            show sA _ _ _ 145 _ [] _ _
            refine sA_aload_n dd_X5_tryTwists_145 rfl (.tail _ (.tail _ (.tail _ (.tail _ (.tail _ (.head _)))))) ?_
            refine sA_getr (ci := 5) (j := 0) (q := (RX5, TX5, 6)) dd_X5_tryTwists_146 rfl (by decide) fl_X5_28 (by decide) gs_s30 rfl ?_
            refine sA_iload dd_X5_tryTwists_149 (.tail _ (.tail _ (.head _))) ?_
            refine sA_aload dd_X5_tryTwists_151 (.head _) ?_
            refine sA_callV (y2 := m_X7_doTwist) (n2 := 2) (d2 := 2) (a := 5) (ci := 7) (q := (RX7, TX7, 5)) (as := [gs_iv u, .ref 41]) (rest := []) dd_X5_tryTwists_153 ok_X7_doTwist ml_X5_69 rfl rfl (by decide) gs_s5 rfl rfl (Nat.le_of_ble_eq_true rfl) (by decide) (c_X7_doTwist I55 (by omega) gs_row_41) (fun r58 F59 A60 h61 => ?_)
            obtain ⟨z64, e63, I65, f66, x62⟩ := h61
            subst e63
            have f67 := gs_fr_tr f57 f66 (fun b j h => by first | exact False.elim h | omega | (dsimp only at h ⊢; omega)) (fun b h => by first | exact False.elim h | omega | (dsimp only at h ⊢; omega))
            show sA _ _ _ 156 _ [gs_iv z64] _ _
            refine sA_if_ne (tgt := 162) dd_X5_tryTwists_156 (by decide) (by omega) (fun q68 => ?_) (fun q68 => ?_)
            · skip
              refine sA_iload dd_X5_tryTwists_162 (.tail _ (.tail _ (.tail _ (.tail _ (.head _))))) ?_
              refine sA_if_ne (tgt := 192) dd_X5_tryTwists_164 (by decide) (by omega) (fun q69 => ?_) (fun q69 => absurd q69 (by omega))
              refine sA_aload dd_X5_tryTwists_192 (.head _) ?_
              refine sA_aload_n dd_X5_tryTwists_194 rfl (.tail _ (.tail _ (.tail _ (.tail _ (.tail _ (.head _)))))) ?_
              refine sA_getr (ci := 5) (j := 4) (q := (RX5, TX5, 6)) dd_X5_tryTwists_195 rfl (by decide) fl_X5_24 (by decide) gs_s30 rfl ?_
              refine sA_callV (y2 := m_X4_isOneWith) (n2 := 1) (d2 := 2) (a := 41) (ci := 4) (q := (RX4, TX4, 2)) (as := [.ref 33]) (rest := []) dd_X5_tryTwists_198 ok_X4_isOneWith ml_X5_43 rfl rfl (Nat.lt_of_succ_lt gs_row_41.1) gs_row_41.2.1 rfl rfl (Nat.le_of_ble_eq_true rfl) (by decide) (c_X4_isOneWith I65 gs_row_41 gs_row_33) (fun r70 F71 A72 h73 => ?_)
              obtain ⟨z76, e75, e77, e78, x74⟩ := h73
              subst e75 e77 e78
              show sA _ _ _ 201 _ [gs_iv z76] _ _
              refine sA_if_eq (tgt := 210) dd_X5_tryTwists_201 (by decide) (by omega) (fun q79 => ?_) (fun q79 => ?_)
              · skip
                refine sA_iinc (lv' := [(7, gs_iv (u + 1)), (9, .ref 41), (8, gs_iv w3), (6, gs_iv sz), (5, gs_iv lt), (0, .ref 30), (1, gs_iv 2), (2, gs_iv k), (3, gs_iv r), (4, gs_iv wt)]) dd_X5_tryTwists_210 (.tail _ (.tail _ (.head _))) (by decide) rfl ?_
                refine sA_goto (tgt := 47) dd_X5_tryTwists_213 (by decide) ?_
                refine sA_sub (lv2 := [(7, gs_iv (u + 1)), (6, gs_iv sz), (5, gs_iv lt), (0, .ref 30), (1, gs_iv 2), (2, gs_iv k), (3, gs_iv r), (4, gs_iv wt)]) (List.forall_mem_cons.mpr ⟨(.head _), (List.forall_mem_cons.mpr ⟨(.tail _ (.tail _ (.tail _ (.head _)))), (List.forall_mem_cons.mpr ⟨(.tail _ (.tail _ (.tail _ (.tail _ (.head _))))), (List.forall_mem_cons.mpr ⟨(.tail _ (.tail _ (.tail _ (.tail _ (.tail _ (.head _)))))), (List.forall_mem_cons.mpr ⟨(.tail _ (.tail _ (.tail _ (.tail _ (.tail _ (.tail _ (.head _))))))), (List.forall_mem_cons.mpr ⟨(.tail _ (.tail _ (.tail _ (.tail _ (.tail _ (.tail _ (.tail _ (.head _)))))))), (List.forall_mem_cons.mpr ⟨(.tail _ (.tail _ (.tail _ (.tail _ (.tail _ (.tail _ (.tail _ (.tail _ (.head _))))))))), (List.forall_mem_cons.mpr ⟨(.tail _ (.tail _ (.tail _ (.tail _ (.tail _ (.tail _ (.tail _ (.tail _ (.tail _ (.head _)))))))))), (fun _ h => absurd h List.not_mem_nil)⟩)⟩)⟩)⟩)⟩)⟩)⟩)⟩) ?_
                exact ih lt sz (u + 1) F59 A60 I65 f67 (by omega) (by omega) (by omega) (by omega) (by omega)
              · skip
                refine sA_aload_n dd_X5_tryTwists_204 rfl (.tail _ (.tail _ (.tail _ (.tail _ (.tail _ (.head _)))))) ?_
                refine sA_iload dd_X5_tryTwists_205 (.tail _ (.head _)) ?_
                refine sA_put (ci := 5) (j := 5) (q := (RX5, TX5, 6)) (ty := .int) dd_X5_tryTwists_207 rfl (by decide) fl_X5_53 rfl (tyX5_ok 5 (by decide)) rfl rfl (by decide) gs_s30 rfl ?_
                have I81 : gs_I (gs_up F59 30 5 w3) A60 := gs_I_put I65 (show (-2147483648 : Int) ≤ w3 ∧ w3 ≤ 2147483647 by omega)
                have f82 := gs_fr_put f67 (a := 30) (z := w3) (j := 5) (by first | omega | (dsimp only; omega) | (dsimp only))
                have v83 : gs_up F59 30 5 w3 30 5 = w3 := gs_up_self _ _ _ _
                generalize gs_up F59 30 5 w3 = F80 at I81 f82 v83 ⊢
                refine sA_iinc (lv' := [(7, gs_iv (u + 1)), (9, .ref 41), (8, gs_iv w3), (6, gs_iv sz), (5, gs_iv lt), (0, .ref 30), (1, gs_iv 2), (2, gs_iv k), (3, gs_iv r), (4, gs_iv wt)]) dd_X5_tryTwists_210 (.tail _ (.tail _ (.head _))) (by decide) rfl ?_
                refine sA_goto (tgt := 47) dd_X5_tryTwists_213 (by decide) ?_
                refine sA_sub (lv2 := [(7, gs_iv (u + 1)), (6, gs_iv sz), (5, gs_iv lt), (0, .ref 30), (1, gs_iv 2), (2, gs_iv k), (3, gs_iv r), (4, gs_iv wt)]) (List.forall_mem_cons.mpr ⟨(.head _), (List.forall_mem_cons.mpr ⟨(.tail _ (.tail _ (.tail _ (.head _)))), (List.forall_mem_cons.mpr ⟨(.tail _ (.tail _ (.tail _ (.tail _ (.head _))))), (List.forall_mem_cons.mpr ⟨(.tail _ (.tail _ (.tail _ (.tail _ (.tail _ (.head _)))))), (List.forall_mem_cons.mpr ⟨(.tail _ (.tail _ (.tail _ (.tail _ (.tail _ (.tail _ (.head _))))))), (List.forall_mem_cons.mpr ⟨(.tail _ (.tail _ (.tail _ (.tail _ (.tail _ (.tail _ (.tail _ (.head _)))))))), (List.forall_mem_cons.mpr ⟨(.tail _ (.tail _ (.tail _ (.tail _ (.tail _ (.tail _ (.tail _ (.tail _ (.head _))))))))), (List.forall_mem_cons.mpr ⟨(.tail _ (.tail _ (.tail _ (.tail _ (.tail _ (.tail _ (.tail _ (.tail _ (.tail _ (.head _)))))))))), (fun _ h => absurd h List.not_mem_nil)⟩)⟩)⟩)⟩)⟩)⟩)⟩)⟩) ?_
                exact ih lt sz (u + 1) F80 A60 I81 f82 (by omega) (by omega) (by omega) (by omega) (by omega)
            · skip
              refine sA_goto (tgt := 210) dd_X5_tryTwists_159 (by decide) ?_
              refine sA_iinc (lv' := [(7, gs_iv (u + 1)), (9, .ref 41), (8, gs_iv w3), (6, gs_iv sz), (5, gs_iv lt), (0, .ref 30), (1, gs_iv 2), (2, gs_iv k), (3, gs_iv r), (4, gs_iv wt)]) dd_X5_tryTwists_210 (.tail _ (.tail _ (.head _))) (by decide) rfl ?_
              refine sA_goto (tgt := 47) dd_X5_tryTwists_213 (by decide) ?_
              refine sA_sub (lv2 := [(7, gs_iv (u + 1)), (6, gs_iv sz), (5, gs_iv lt), (0, .ref 30), (1, gs_iv 2), (2, gs_iv k), (3, gs_iv r), (4, gs_iv wt)]) (List.forall_mem_cons.mpr ⟨(.head _), (List.forall_mem_cons.mpr ⟨(.tail _ (.tail _ (.tail _ (.head _)))), (List.forall_mem_cons.mpr ⟨(.tail _ (.tail _ (.tail _ (.tail _ (.head _))))), (List.forall_mem_cons.mpr ⟨(.tail _ (.tail _ (.tail _ (.tail _ (.tail _ (.head _)))))), (List.forall_mem_cons.mpr ⟨(.tail _ (.tail _ (.tail _ (.tail _ (.tail _ (.tail _ (.head _))))))), (List.forall_mem_cons.mpr ⟨(.tail _ (.tail _ (.tail _ (.tail _ (.tail _ (.tail _ (.tail _ (.head _)))))))), (List.forall_mem_cons.mpr ⟨(.tail _ (.tail _ (.tail _ (.tail _ (.tail _ (.tail _ (.tail _ (.tail _ (.head _))))))))), (List.forall_mem_cons.mpr ⟨(.tail _ (.tail _ (.tail _ (.tail _ (.tail _ (.tail _ (.tail _ (.tail _ (.tail _ (.head _)))))))))), (fun _ h => absurd h List.not_mem_nil)⟩)⟩)⟩)⟩)⟩)⟩)⟩)⟩) ?_
              exact ih lt sz (u + 1) F59 A60 I65 f67 (by omega) (by omega) (by omega) (by omega) (by omega)
          · skip
            refine sA_aload_n dd_X5_tryTwists_109 rfl (.tail _ (.tail _ (.tail _ (.tail _ (.head _))))) ?_
            refine sA_getr (ci := 5) (j := 3) (q := (RX5, TX5, 6)) dd_X5_tryTwists_110 rfl (by decide) fl_X5_17 (by decide) gs_s30 rfl ?_
            refine sA_iload dd_X5_tryTwists_113 (.tail _ (.head _)) ?_
            refine sA_iald (n := 16) dd_X5_tryTwists_115 (by decide) gs_s32 (by omega) (by decide) ?_
            refine sA_iload dd_X5_tryTwists_116 (.tail _ (.tail _ (.head _))) ?_
            refine sA_icmp_eq (tgt := 124) dd_X5_tryTwists_118 (by decide) (by omega) (by omega) (fun q84 => ?_) (fun q84 => ?_)
            · skip
              refine sA_aload_n dd_X5_tryTwists_124 rfl (.tail _ (.tail _ (.tail _ (.tail _ (.head _))))) ?_
              refine sA_getr (ci := 5) (j := 2) (q := (RX5, TX5, 6)) dd_X5_tryTwists_125 rfl (by decide) fl_X5_11 (by decide) gs_s30 rfl ?_
              refine sA_iload_n dd_X5_tryTwists_128 rfl (.tail _ (.tail _ (.tail _ (.tail _ (.tail _ (.head _)))))) ?_
              refine sA_iconst (z := 1) dd_X5_tryTwists_129 ?_
              refine sA_iadd dd_X5_tryTwists_130 ?_
              show sA _ _ _ _ _ (gs_iv 3 :: _) _ _
              refine sA_aald (n := 4) dd_X5_tryTwists_131 (by decide) (by decide) (by decide) gs_s31 (by omega) (by decide) ?_
              show sA _ _ _ _ _ (.ref 41 :: _) _ _
              refine sA_astore (lv' := [(9, .ref 41), (8, gs_iv w3), (7, gs_iv u), (6, gs_iv sz), (5, gs_iv lt), (0, .ref 30), (1, gs_iv 2), (2, gs_iv k), (3, gs_iv r), (4, gs_iv wt)]) dd_X5_tryTwists_132 (by decide) rfl ?_
              refine sA_aload dd_X5_tryTwists_134 (.head _) ?_
              refine sA_aload_n dd_X5_tryTwists_136 rfl (.tail _ (.tail _ (.tail _ (.tail _ (.tail _ (.head _)))))) ?_
              refine sA_getr (ci := 5) (j := 2) (q := (RX5, TX5, 6)) dd_X5_tryTwists_137 rfl (by decide) fl_X5_11 (by decide) gs_s30 rfl ?_
              refine sA_iload_n dd_X5_tryTwists_140 rfl (.tail _ (.tail _ (.tail _ (.tail _ (.tail _ (.tail _ (.head _))))))) ?_
              refine sA_aald (n := 4) dd_X5_tryTwists_141 (by decide) (by decide) (by decide) gs_s31 (by omega) (by decide) ?_
              show sA _ _ _ _ _ (.ref 39 :: _) _ _
              refine sA_callV (y2 := m_X4_copy) (n2 := 1) (d2 := 1) (a := 41) (ci := 4) (q := (RX4, TX4, 2)) (as := [.ref 39]) (rest := []) dd_X5_tryTwists_142 ok_X4_copy ml_X5_36 rfl rfl (Nat.lt_of_succ_lt gs_row_41.1) gs_row_41.2.1 rfl rfl (Nat.le_of_ble_eq_true rfl) (by decide) (c_X4_copy hI1 gs_row_41 gs_row_39) (fun r87 F88 A89 h90 => ?_)
              obtain ⟨e92, I93, f94, x91⟩ := h90
              subst e92
              have f95 := gs_fr_tr hf1 f94 (fun b j h => by first | exact False.elim h | omega | (dsimp only at h ⊢; omega)) (fun b h => by first | exact False.elim h | omega | (dsimp only at h ⊢; omega))
              show sA _ _ _ 145 _ [] _ _
              refine sA_aload_n dd_X5_tryTwists_145 rfl (.tail _ (.tail _ (.tail _ (.tail _ (.tail _ (.head _)))))) ?_
              refine sA_getr (ci := 5) (j := 0) (q := (RX5, TX5, 6)) dd_X5_tryTwists_146 rfl (by decide) fl_X5_28 (by decide) gs_s30 rfl ?_
              refine sA_iload dd_X5_tryTwists_149 (.tail _ (.tail _ (.head _))) ?_
              refine sA_aload dd_X5_tryTwists_151 (.head _) ?_
              refine sA_callV (y2 := m_X7_doTwist) (n2 := 2) (d2 := 2) (a := 5) (ci := 7) (q := (RX7, TX7, 5)) (as := [gs_iv u, .ref 41]) (rest := []) dd_X5_tryTwists_153 ok_X7_doTwist ml_X5_69 rfl rfl (by decide) gs_s5 rfl rfl (Nat.le_of_ble_eq_true rfl) (by decide) (c_X7_doTwist I93 (by omega) gs_row_41) (fun r96 F97 A98 h99 => ?_)
              obtain ⟨z102, e101, I103, f104, x100⟩ := h99
              subst e101
              have f105 := gs_fr_tr f95 f104 (fun b j h => by first | exact False.elim h | omega | (dsimp only at h ⊢; omega)) (fun b h => by first | exact False.elim h | omega | (dsimp only at h ⊢; omega))
              show sA _ _ _ 156 _ [gs_iv z102] _ _
              refine sA_if_ne (tgt := 162) dd_X5_tryTwists_156 (by decide) (by omega) (fun q106 => ?_) (fun q106 => ?_)
              · skip
                refine sA_iload dd_X5_tryTwists_162 (.tail _ (.tail _ (.tail _ (.tail _ (.head _))))) ?_
                refine sA_if_ne (tgt := 192) dd_X5_tryTwists_164 (by decide) (by omega) (fun q107 => ?_) (fun q107 => absurd q107 (by omega))
                refine sA_aload dd_X5_tryTwists_192 (.head _) ?_
                refine sA_aload_n dd_X5_tryTwists_194 rfl (.tail _ (.tail _ (.tail _ (.tail _ (.tail _ (.head _)))))) ?_
                refine sA_getr (ci := 5) (j := 4) (q := (RX5, TX5, 6)) dd_X5_tryTwists_195 rfl (by decide) fl_X5_24 (by decide) gs_s30 rfl ?_
                refine sA_callV (y2 := m_X4_isOneWith) (n2 := 1) (d2 := 2) (a := 41) (ci := 4) (q := (RX4, TX4, 2)) (as := [.ref 33]) (rest := []) dd_X5_tryTwists_198 ok_X4_isOneWith ml_X5_43 rfl rfl (Nat.lt_of_succ_lt gs_row_41.1) gs_row_41.2.1 rfl rfl (Nat.le_of_ble_eq_true rfl) (by decide) (c_X4_isOneWith I103 gs_row_41 gs_row_33) (fun r108 F109 A110 h111 => ?_)
                obtain ⟨z114, e113, e115, e116, x112⟩ := h111
                subst e113 e115 e116
                show sA _ _ _ 201 _ [gs_iv z114] _ _
                refine sA_if_eq (tgt := 210) dd_X5_tryTwists_201 (by decide) (by omega) (fun q117 => ?_) (fun q117 => ?_)
                · skip
                  refine sA_iinc (lv' := [(7, gs_iv (u + 1)), (9, .ref 41), (8, gs_iv w3), (6, gs_iv sz), (5, gs_iv lt), (0, .ref 30), (1, gs_iv 2), (2, gs_iv k), (3, gs_iv r), (4, gs_iv wt)]) dd_X5_tryTwists_210 (.tail _ (.tail _ (.head _))) (by decide) rfl ?_
                  refine sA_goto (tgt := 47) dd_X5_tryTwists_213 (by decide) ?_
                  refine sA_sub (lv2 := [(7, gs_iv (u + 1)), (6, gs_iv sz), (5, gs_iv lt), (0, .ref 30), (1, gs_iv 2), (2, gs_iv k), (3, gs_iv r), (4, gs_iv wt)]) (List.forall_mem_cons.mpr ⟨(.head _), (List.forall_mem_cons.mpr ⟨(.tail _ (.tail _ (.tail _ (.head _)))), (List.forall_mem_cons.mpr ⟨(.tail _ (.tail _ (.tail _ (.tail _ (.head _))))), (List.forall_mem_cons.mpr ⟨(.tail _ (.tail _ (.tail _ (.tail _ (.tail _ (.head _)))))), (List.forall_mem_cons.mpr ⟨(.tail _ (.tail _ (.tail _ (.tail _ (.tail _ (.tail _ (.head _))))))), (List.forall_mem_cons.mpr ⟨(.tail _ (.tail _ (.tail _ (.tail _ (.tail _ (.tail _ (.tail _ (.head _)))))))), (List.forall_mem_cons.mpr ⟨(.tail _ (.tail _ (.tail _ (.tail _ (.tail _ (.tail _ (.tail _ (.tail _ (.head _))))))))), (List.forall_mem_cons.mpr ⟨(.tail _ (.tail _ (.tail _ (.tail _ (.tail _ (.tail _ (.tail _ (.tail _ (.tail _ (.head _)))))))))), (fun _ h => absurd h List.not_mem_nil)⟩)⟩)⟩)⟩)⟩)⟩)⟩)⟩) ?_
                  exact ih lt sz (u + 1) F97 A98 I103 f105 (by omega) (by omega) (by omega) (by omega) (by omega)
                · skip
                  refine sA_aload_n dd_X5_tryTwists_204 rfl (.tail _ (.tail _ (.tail _ (.tail _ (.tail _ (.head _)))))) ?_
                  refine sA_iload dd_X5_tryTwists_205 (.tail _ (.head _)) ?_
                  refine sA_put (ci := 5) (j := 5) (q := (RX5, TX5, 6)) (ty := .int) dd_X5_tryTwists_207 rfl (by decide) fl_X5_53 rfl (tyX5_ok 5 (by decide)) rfl rfl (by decide) gs_s30 rfl ?_
                  have I119 : gs_I (gs_up F97 30 5 w3) A98 := gs_I_put I103 (show (-2147483648 : Int) ≤ w3 ∧ w3 ≤ 2147483647 by omega)
                  have f120 := gs_fr_put f105 (a := 30) (z := w3) (j := 5) (by first | omega | (dsimp only; omega) | (dsimp only))
                  have v121 : gs_up F97 30 5 w3 30 5 = w3 := gs_up_self _ _ _ _
                  generalize gs_up F97 30 5 w3 = F118 at I119 f120 v121 ⊢
                  refine sA_iinc (lv' := [(7, gs_iv (u + 1)), (9, .ref 41), (8, gs_iv w3), (6, gs_iv sz), (5, gs_iv lt), (0, .ref 30), (1, gs_iv 2), (2, gs_iv k), (3, gs_iv r), (4, gs_iv wt)]) dd_X5_tryTwists_210 (.tail _ (.tail _ (.head _))) (by decide) rfl ?_
                  refine sA_goto (tgt := 47) dd_X5_tryTwists_213 (by decide) ?_
                  refine sA_sub (lv2 := [(7, gs_iv (u + 1)), (6, gs_iv sz), (5, gs_iv lt), (0, .ref 30), (1, gs_iv 2), (2, gs_iv k), (3, gs_iv r), (4, gs_iv wt)]) (List.forall_mem_cons.mpr ⟨(.head _), (List.forall_mem_cons.mpr ⟨(.tail _ (.tail _ (.tail _ (.head _)))), (List.forall_mem_cons.mpr ⟨(.tail _ (.tail _ (.tail _ (.tail _ (.head _))))), (List.forall_mem_cons.mpr ⟨(.tail _ (.tail _ (.tail _ (.tail _ (.tail _ (.head _)))))), (List.forall_mem_cons.mpr ⟨(.tail _ (.tail _ (.tail _ (.tail _ (.tail _ (.tail _ (.head _))))))), (List.forall_mem_cons.mpr ⟨(.tail _ (.tail _ (.tail _ (.tail _ (.tail _ (.tail _ (.tail _ (.head _)))))))), (List.forall_mem_cons.mpr ⟨(.tail _ (.tail _ (.tail _ (.tail _ (.tail _ (.tail _ (.tail _ (.tail _ (.head _))))))))), (List.forall_mem_cons.mpr ⟨(.tail _ (.tail _ (.tail _ (.tail _ (.tail _ (.tail _ (.tail _ (.tail _ (.tail _ (.head _)))))))))), (fun _ h => absurd h List.not_mem_nil)⟩)⟩)⟩)⟩)⟩)⟩)⟩)⟩) ?_
                  exact ih lt sz (u + 1) F118 A98 I119 f120 (by omega) (by omega) (by omega) (by omega) (by omega)
              · skip
                refine sA_goto (tgt := 210) dd_X5_tryTwists_159 (by decide) ?_
                refine sA_iinc (lv' := [(7, gs_iv (u + 1)), (9, .ref 41), (8, gs_iv w3), (6, gs_iv sz), (5, gs_iv lt), (0, .ref 30), (1, gs_iv 2), (2, gs_iv k), (3, gs_iv r), (4, gs_iv wt)]) dd_X5_tryTwists_210 (.tail _ (.tail _ (.head _))) (by decide) rfl ?_
                refine sA_goto (tgt := 47) dd_X5_tryTwists_213 (by decide) ?_
                refine sA_sub (lv2 := [(7, gs_iv (u + 1)), (6, gs_iv sz), (5, gs_iv lt), (0, .ref 30), (1, gs_iv 2), (2, gs_iv k), (3, gs_iv r), (4, gs_iv wt)]) (List.forall_mem_cons.mpr ⟨(.head _), (List.forall_mem_cons.mpr ⟨(.tail _ (.tail _ (.tail _ (.head _)))), (List.forall_mem_cons.mpr ⟨(.tail _ (.tail _ (.tail _ (.tail _ (.head _))))), (List.forall_mem_cons.mpr ⟨(.tail _ (.tail _ (.tail _ (.tail _ (.tail _ (.head _)))))), (List.forall_mem_cons.mpr ⟨(.tail _ (.tail _ (.tail _ (.tail _ (.tail _ (.tail _ (.head _))))))), (List.forall_mem_cons.mpr ⟨(.tail _ (.tail _ (.tail _ (.tail _ (.tail _ (.tail _ (.tail _ (.head _)))))))), (List.forall_mem_cons.mpr ⟨(.tail _ (.tail _ (.tail _ (.tail _ (.tail _ (.tail _ (.tail _ (.tail _ (.head _))))))))), (List.forall_mem_cons.mpr ⟨(.tail _ (.tail _ (.tail _ (.tail _ (.tail _ (.tail _ (.tail _ (.tail _ (.tail _ (.head _)))))))))), (fun _ h => absurd h List.not_mem_nil)⟩)⟩)⟩)⟩)⟩)⟩)⟩)⟩) ?_
                exact ih lt sz (u + 1) F97 A98 I103 f105 (by omega) (by omega) (by omega) (by omega) (by omega)
            · skip
              refine sA_goto (tgt := 210) dd_X5_tryTwists_121 (by decide) ?_
              refine sA_iinc (lv' := [(7, gs_iv (u + 1)), (8, gs_iv w3), (6, gs_iv sz), (5, gs_iv lt), (0, .ref 30), (1, gs_iv 2), (2, gs_iv k), (3, gs_iv r), (4, gs_iv wt)]) dd_X5_tryTwists_210 (.tail _ (.head _)) (by decide) rfl ?_
              refine sA_goto (tgt := 47) dd_X5_tryTwists_213 (by decide) ?_
              refine sA_sub (lv2 := [(7, gs_iv (u + 1)), (6, gs_iv sz), (5, gs_iv lt), (0, .ref 30), (1, gs_iv 2), (2, gs_iv k), (3, gs_iv r), (4, gs_iv wt)]) (List.forall_mem_cons.mpr ⟨(.head _), (List.forall_mem_cons.mpr ⟨(.tail _ (.tail _ (.head _))), (List.forall_mem_cons.mpr ⟨(.tail _ (.tail _ (.tail _ (.head _)))), (List.forall_mem_cons.mpr ⟨(.tail _ (.tail _ (.tail _ (.tail _ (.head _))))), (List.forall_mem_cons.mpr ⟨(.tail _ (.tail _ (.tail _ (.tail _ (.tail _ (.head _)))))), (List.forall_mem_cons.mpr ⟨(.tail _ (.tail _ (.tail _ (.tail _ (.tail _ (.tail _ (.head _))))))), (List.forall_mem_cons.mpr ⟨(.tail _ (.tail _ (.tail _ (.tail _ (.tail _ (.tail _ (.tail _ (.head _)))))))), (List.forall_mem_cons.mpr ⟨(.tail _ (.tail _ (.tail _ (.tail _ (.tail _ (.tail _ (.tail _ (.tail _ (.head _))))))))), (fun _ h => absurd h List.not_mem_nil)⟩)⟩)⟩)⟩)⟩)⟩)⟩)⟩) ?_
              exact ih lt sz (u + 1) F1 A1 hI1 hf1 (by omega) (by omega) (by omega) (by omega) (by omega)
        · skip
          refine sA_iload dd_X5_tryTwists_83 (.head _) ?_
          refine sA_aload_n dd_X5_tryTwists_85 rfl (.tail _ (.tail _ (.tail _ (.tail _ (.head _))))) ?_
          refine sA_geti (ci := 5) (j := 5) (q := (RX5, TX5, 6)) dd_X5_tryTwists_86 rfl (by decide) fl_X5_53 (by decide) gs_s30 rfl ?_
          refine sA_icmp_lt (tgt := 93) dd_X5_tryTwists_89 (by decide) (by omega) (by omega) (fun q122 => ?_) (fun q122 => ?_)
          · skip
            refine sA_iload dd_X5_tryTwists_93 (.tail _ (.tail _ (.tail _ (.head _)))) ?_
            refine sA_if_eq (tgt := 124) dd_X5_tryTwists_95 (by decide) (by omega) (fun q123 => absurd q123 (by omega)) (fun q123 => ?_)
            refine sA_aload_n dd_X5_tryTwists_98 rfl (.tail _ (.tail _ (.tail _ (.tail _ (.head _))))) ?_
            refine sA_getr (ci := 5) (j := 3) (q := (RX5, TX5, 6)) dd_X5_tryTwists_99 rfl (by decide) fl_X5_17 (by decide) gs_s30 rfl ?_
            refine sA_iload dd_X5_tryTwists_102 (.tail _ (.head _)) ?_
            refine sA_iald (n := 16) dd_X5_tryTwists_104 (by decide) gs_s32 (by omega) (by decide) ?_
            have b124 : (-2147483648 : Int) ≤ A1 32 u.toNat ∧ A1 32 u.toNat ≤ 2147483647 := hI1.2 32 u.toNat
            refine sA_iconst (z := (-1)) dd_X5_tryTwists_105 ?_
            refine sA_icmp_eq (tgt := 124) dd_X5_tryTwists_106 (by decide) (by omega) (by omega) (fun q125 => ?_) (fun q125 => ?_)
            · skip
              refine sA_aload_n dd_X5_tryTwists_124 rfl (.tail _ (.tail _ (.tail _ (.tail _ (.head _))))) ?_
              refine sA_getr (ci := 5) (j := 2) (q := (RX5, TX5, 6)) dd_X5_tryTwists_125 rfl (by decide) fl_X5_11 (by decide) gs_s30 rfl ?_
              refine sA_iload_n dd_X5_tryTwists_128 rfl (.tail _ (.tail _ (.tail _ (.tail _ (.tail _ (.head _)))))) ?_
              refine sA_iconst (z := 1) dd_X5_tryTwists_129 ?_
              refine sA_iadd dd_X5_tryTwists_130 ?_
              show sA _ _ _ _ _ (gs_iv 3 :: _) _ _
              refine sA_aald (n := 4) dd_X5_tryTwists_131 (by decide) (by decide) (by decide) gs_s31 (by omega) (by decide) ?_
              show sA _ _ _ _ _ (.ref 41 :: _) _ _
              refine sA_astore (lv' := [(9, .ref 41), (8, gs_iv w3), (7, gs_iv u), (6, gs_iv sz), (5, gs_iv lt), (0, .ref 30), (1, gs_iv 2), (2, gs_iv k), (3, gs_iv r), (4, gs_iv wt)]) dd_X5_tryTwists_132 (by decide) rfl ?_
              refine sA_aload dd_X5_tryTwists_134 (.head _) ?_
              refine sA_aload_n dd_X5_tryTwists_136 rfl (.tail _ (.tail _ (.tail _ (.tail _ (.tail _ (.head _)))))) ?_
              refine sA_getr (ci := 5) (j := 2) (q := (RX5, TX5, 6)) dd_X5_tryTwists_137 rfl (by decide) fl_X5_11 (by decide) gs_s30 rfl ?_
              refine sA_iload_n dd_X5_tryTwists_140 rfl (.tail _ (.tail _ (.tail _ (.tail _ (.tail _ (.tail _ (.head _))))))) ?_
              refine sA_aald (n := 4) dd_X5_tryTwists_141 (by decide) (by decide) (by decide) gs_s31 (by omega) (by decide) ?_
              show sA _ _ _ _ _ (.ref 39 :: _) _ _
              refine sA_callV (y2 := m_X4_copy) (n2 := 1) (d2 := 1) (a := 41) (ci := 4) (q := (RX4, TX4, 2)) (as := [.ref 39]) (rest := []) dd_X5_tryTwists_142 ok_X4_copy ml_X5_36 rfl rfl (Nat.lt_of_succ_lt gs_row_41.1) gs_row_41.2.1 rfl rfl (Nat.le_of_ble_eq_true rfl) (by decide) (c_X4_copy hI1 gs_row_41 gs_row_39) (fun r128 F129 A130 h131 => ?_)
              obtain ⟨e133, I134, f135, x132⟩ := h131
              subst e133
              have f136 := gs_fr_tr hf1 f135 (fun b j h => by first | exact False.elim h | omega | (dsimp only at h ⊢; omega)) (fun b h => by first | exact False.elim h | omega | (dsimp only at h ⊢; omega))
              show sA _ _ _ 145 _ [] _ _
              refine sA_aload_n dd_X5_tryTwists_145 rfl (.tail _ (.tail _ (.tail _ (.tail _ (.tail _ (.head _)))))) ?_
              refine sA_getr (ci := 5) (j := 0) (q := (RX5, TX5, 6)) dd_X5_tryTwists_146 rfl (by decide) fl_X5_28 (by decide) gs_s30 rfl ?_
              refine sA_iload dd_X5_tryTwists_149 (.tail _ (.tail _ (.head _))) ?_
              refine sA_aload dd_X5_tryTwists_151 (.head _) ?_
              refine sA_callV (y2 := m_X7_doTwist) (n2 := 2) (d2 := 2) (a := 5) (ci := 7) (q := (RX7, TX7, 5)) (as := [gs_iv u, .ref 41]) (rest := []) dd_X5_tryTwists_153 ok_X7_doTwist ml_X5_69 rfl rfl (by decide) gs_s5 rfl rfl (Nat.le_of_ble_eq_true rfl) (by decide) (c_X7_doTwist I134 (by omega) gs_row_41) (fun r137 F138 A139 h140 => ?_)
              obtain ⟨z143, e142, I144, f145, x141⟩ := h140
              subst e142
              have f146 := gs_fr_tr f136 f145 (fun b j h => by first | exact False.elim h | omega | (dsimp only at h ⊢; omega)) (fun b h => by first | exact False.elim h | omega | (dsimp only at h ⊢; omega))
              show sA _ _ _ 156 _ [gs_iv z143] _ _
              refine sA_if_ne (tgt := 162) dd_X5_tryTwists_156 (by decide) (by omega) (fun q147 => ?_) (fun q147 => ?_)
              · skip
                refine sA_iload dd_X5_tryTwists_162 (.tail _ (.tail _ (.tail _ (.tail _ (.head _))))) ?_
                refine sA_if_ne (tgt := 192) dd_X5_tryTwists_164 (by decide) (by omega) (fun q148 => ?_) (fun q148 => absurd q148 (by omega))
                refine sA_aload dd_X5_tryTwists_192 (.head _) ?_
                refine sA_aload_n dd_X5_tryTwists_194 rfl (.tail _ (.tail _ (.tail _ (.tail _ (.tail _ (.head _)))))) ?_
                refine sA_getr (ci := 5) (j := 4) (q := (RX5, TX5, 6)) dd_X5_tryTwists_195 rfl (by decide) fl_X5_24 (by decide) gs_s30 rfl ?_
                refine sA_callV (y2 := m_X4_isOneWith) (n2 := 1) (d2 := 2) (a := 41) (ci := 4) (q := (RX4, TX4, 2)) (as := [.ref 33]) (rest := []) dd_X5_tryTwists_198 ok_X4_isOneWith ml_X5_43 rfl rfl (Nat.lt_of_succ_lt gs_row_41.1) gs_row_41.2.1 rfl rfl (Nat.le_of_ble_eq_true rfl) (by decide) (c_X4_isOneWith I144 gs_row_41 gs_row_33) (fun r149 F150 A151 h152 => ?_)
                obtain ⟨z155, e154, e156, e157, x153⟩ := h152
                subst e154 e156 e157
                show sA _ _ _ 201 _ [gs_iv z155] _ _
                refine sA_if_eq (tgt := 210) dd_X5_tryTwists_201 (by decide) (by omega) (fun q158 => ?_) (fun q158 => ?_)
                · skip
                  refine sA_iinc (lv' := [(7, gs_iv (u + 1)), (9, .ref 41), (8, gs_iv w3), (6, gs_iv sz), (5, gs_iv lt), (0, .ref 30), (1, gs_iv 2), (2, gs_iv k), (3, gs_iv r), (4, gs_iv wt)]) dd_X5_tryTwists_210 (.tail _ (.tail _ (.head _))) (by decide) rfl ?_
                  refine sA_goto (tgt := 47) dd_X5_tryTwists_213 (by decide) ?_
                  refine sA_sub (lv2 := [(7, gs_iv (u + 1)), (6, gs_iv sz), (5, gs_iv lt), (0, .ref 30), (1, gs_iv 2), (2, gs_iv k), (3, gs_iv r), (4, gs_iv wt)]) (List.forall_mem_cons.mpr ⟨(.head _), (List.forall_mem_cons.mpr ⟨(.tail _ (.tail _ (.tail _ (.head _)))), (List.forall_mem_cons.mpr ⟨(.tail _ (.tail _ (.tail _ (.tail _ (.head _))))), (List.forall_mem_cons.mpr ⟨(.tail _ (.tail _ (.tail _ (.tail _ (.tail _ (.head _)))))), (List.forall_mem_cons.mpr ⟨(.tail _ (.tail _ (.tail _ (.tail _ (.tail _ (.tail _ (.head _))))))), (List.forall_mem_cons.mpr ⟨(.tail _ (.tail _ (.tail _ (.tail _ (.tail _ (.tail _ (.tail _ (.head _)))))))), (List.forall_mem_cons.mpr ⟨(.tail _ (.tail _ (.tail _ (.tail _ (.tail _ (.tail _ (.tail _ (.tail _ (.head _))))))))), (List.forall_mem_cons.mpr ⟨(.tail _ (.tail _ (.tail _ (.tail _ (.tail _ (.tail _ (.tail _ (.tail _ (.tail _ (.head _)))))))))), (fun _ h => absurd h List.not_mem_nil)⟩)⟩)⟩)⟩)⟩)⟩)⟩)⟩) ?_
                  exact ih lt sz (u + 1) F138 A139 I144 f146 (by omega) (by omega) (by omega) (by omega) (by omega)
                · skip
                  refine sA_aload_n dd_X5_tryTwists_204 rfl (.tail _ (.tail _ (.tail _ (.tail _ (.tail _ (.head _)))))) ?_
                  refine sA_iload dd_X5_tryTwists_205 (.tail _ (.head _)) ?_
                  refine sA_put (ci := 5) (j := 5) (q := (RX5, TX5, 6)) (ty := .int) dd_X5_tryTwists_207 rfl (by decide) fl_X5_53 rfl (tyX5_ok 5 (by decide)) rfl rfl (by decide) gs_s30 rfl ?_
                  have I160 : gs_I (gs_up F138 30 5 w3) A139 := gs_I_put I144 (show (-2147483648 : Int) ≤ w3 ∧ w3 ≤ 2147483647 by omega)
                  have f161 := gs_fr_put f146 (a := 30) (z := w3) (j := 5) (by first | omega | (dsimp only; omega) | (dsimp only))
                  have v162 : gs_up F138 30 5 w3 30 5 = w3 := gs_up_self _ _ _ _
                  generalize gs_up F138 30 5 w3 = F159 at I160 f161 v162 ⊢
                  refine sA_iinc (lv' := [(7, gs_iv (u + 1)), (9, .ref 41), (8, gs_iv w3), (6, gs_iv sz), (5, gs_iv lt), (0, .ref 30), (1, gs_iv 2), (2, gs_iv k), (3, gs_iv r), (4, gs_iv wt)]) dd_X5_tryTwists_210 (.tail _ (.tail _ (.head _))) (by decide) rfl ?_
                  refine sA_goto (tgt := 47) dd_X5_tryTwists_213 (by decide) ?_
                  refine sA_sub (lv2 := [(7, gs_iv (u + 1)), (6, gs_iv sz), (5, gs_iv lt), (0, .ref 30), (1, gs_iv 2), (2, gs_iv k), (3, gs_iv r), (4, gs_iv wt)]) (List.forall_mem_cons.mpr ⟨(.head _), (List.forall_mem_cons.mpr ⟨(.tail _ (.tail _ (.tail _ (.head _)))), (List.forall_mem_cons.mpr ⟨(.tail _ (.tail _ (.tail _ (.tail _ (.head _))))), (List.forall_mem_cons.mpr ⟨(.tail _ (.tail _ (.tail _ (.tail _ (.tail _ (.head _)))))), (List.forall_mem_cons.mpr ⟨(.tail _ (.tail _ (.tail _ (.tail _ (.tail _ (.tail _ (.head _))))))), (List.forall_mem_cons.mpr ⟨(.tail _ (.tail _ (.tail _ (.tail _ (.tail _ (.tail _ (.tail _ (.head _)))))))), (List.forall_mem_cons.mpr ⟨(.tail _ (.tail _ (.tail _ (.tail _ (.tail _ (.tail _ (.tail _ (.tail _ (.head _))))))))), (List.forall_mem_cons.mpr ⟨(.tail _ (.tail _ (.tail _ (.tail _ (.tail _ (.tail _ (.tail _ (.tail _ (.tail _ (.head _)))))))))), (fun _ h => absurd h List.not_mem_nil)⟩)⟩)⟩)⟩)⟩)⟩)⟩)⟩) ?_
                  exact ih lt sz (u + 1) F159 A139 I160 f161 (by omega) (by omega) (by omega) (by omega) (by omega)
              · skip
                refine sA_goto (tgt := 210) dd_X5_tryTwists_159 (by decide) ?_
                refine sA_iinc (lv' := [(7, gs_iv (u + 1)), (9, .ref 41), (8, gs_iv w3), (6, gs_iv sz), (5, gs_iv lt), (0, .ref 30), (1, gs_iv 2), (2, gs_iv k), (3, gs_iv r), (4, gs_iv wt)]) dd_X5_tryTwists_210 (.tail _ (.tail _ (.head _))) (by decide) rfl ?_
                refine sA_goto (tgt := 47) dd_X5_tryTwists_213 (by decide) ?_
                refine sA_sub (lv2 := [(7, gs_iv (u + 1)), (6, gs_iv sz), (5, gs_iv lt), (0, .ref 30), (1, gs_iv 2), (2, gs_iv k), (3, gs_iv r), (4, gs_iv wt)]) (List.forall_mem_cons.mpr ⟨(.head _), (List.forall_mem_cons.mpr ⟨(.tail _ (.tail _ (.tail _ (.head _)))), (List.forall_mem_cons.mpr ⟨(.tail _ (.tail _ (.tail _ (.tail _ (.head _))))), (List.forall_mem_cons.mpr ⟨(.tail _ (.tail _ (.tail _ (.tail _ (.tail _ (.head _)))))), (List.forall_mem_cons.mpr ⟨(.tail _ (.tail _ (.tail _ (.tail _ (.tail _ (.tail _ (.head _))))))), (List.forall_mem_cons.mpr ⟨(.tail _ (.tail _ (.tail _ (.tail _ (.tail _ (.tail _ (.tail _ (.head _)))))))), (List.forall_mem_cons.mpr ⟨(.tail _ (.tail _ (.tail _ (.tail _ (.tail _ (.tail _ (.tail _ (.tail _ (.head _))))))))), (List.forall_mem_cons.mpr ⟨(.tail _ (.tail _ (.tail _ (.tail _ (.tail _ (.tail _ (.tail _ (.tail _ (.tail _ (.head _)))))))))), (fun _ h => absurd h List.not_mem_nil)⟩)⟩)⟩)⟩)⟩)⟩)⟩)⟩) ?_
                exact ih lt sz (u + 1) F138 A139 I144 f146 (by omega) (by omega) (by omega) (by omega) (by omega)
            · skip
              refine sA_aload_n dd_X5_tryTwists_109 rfl (.tail _ (.tail _ (.tail _ (.tail _ (.head _))))) ?_
              refine sA_getr (ci := 5) (j := 3) (q := (RX5, TX5, 6)) dd_X5_tryTwists_110 rfl (by decide) fl_X5_17 (by decide) gs_s30 rfl ?_
              refine sA_iload dd_X5_tryTwists_113 (.tail _ (.head _)) ?_
              refine sA_iald (n := 16) dd_X5_tryTwists_115 (by decide) gs_s32 (by omega) (by decide) ?_
              refine sA_iload dd_X5_tryTwists_116 (.tail _ (.tail _ (.head _))) ?_
              refine sA_icmp_eq (tgt := 124) dd_X5_tryTwists_118 (by decide) (by omega) (by omega) (fun q163 => ?_) (fun q163 => ?_)
              · skip
                refine sA_aload_n dd_X5_tryTwists_124 rfl (.tail _ (.tail _ (.tail _ (.tail _ (.head _))))) ?_
                refine sA_getr (ci := 5) (j := 2) (q := (RX5, TX5, 6)) dd_X5_tryTwists_125 rfl (by decide) fl_X5_11 (by decide) gs_s30 rfl ?_
                refine sA_iload_n dd_X5_tryTwists_128 rfl (.tail _ (.tail _ (.tail _ (.tail _ (.tail _ (.head _)))))) ?_
                refine sA_iconst (z := 1) dd_X5_tryTwists_129 ?_
                refine sA_iadd dd_X5_tryTwists_130 ?_
                show sA _ _ _ _ _ (gs_iv 3 :: _) _ _
                refine sA_aald (n := 4) dd_X5_tryTwists_131 (by decide) (by decide) (by decide) gs_s31 (by omega) (by decide) ?_
                show sA _ _ _ _ _ (.ref 41 :: _) _ _
                refine sA_astore (lv' := [(9, .ref 41), (8, gs_iv w3), (7, gs_iv u), (6, gs_iv sz), (5, gs_iv lt), (0, .ref 30), (1, gs_iv 2), (2, gs_iv k), (3, gs_iv r), (4, gs_iv wt)]) dd_X5_tryTwists_132 (by decide) rfl ?_
                refine sA_aload dd_X5_tryTwists_134 (.head _) ?_
                refine sA_aload_n dd_X5_tryTwists_136 rfl (.tail _ (.tail _ (.tail _ (.tail _ (.tail _ (.head _)))))) ?_
                refine sA_getr (ci := 5) (j := 2) (q := (RX5, TX5, 6)) dd_X5_tryTwists_137 rfl (by decide) fl_X5_11 (by decide) gs_s30 rfl ?_
                refine sA_iload_n dd_X5_tryTwists_140 rfl (.tail _ (.tail _ (.tail _ (.tail _ (.tail _ (.tail _ (.head _))))))) ?_
                refine sA_aald (n := 4) dd_X5_tryTwists_141 (by decide) (by decide) (by decide) gs_s31 (by omega) (by decide) ?_
                show sA _ _ _ _ _ (.ref 39 :: _) _ _
                refine sA_callV (y2 := m_X4_copy) (n2 := 1) (d2 := 1) (a := 41) (ci := 4) (q := (RX4, TX4, 2)) (as := [.ref 39]) (rest := []) dd_X5_tryTwists_142 ok_X4_copy ml_X5_36 rfl rfl (Nat.lt_of_succ_lt gs_row_41.1) gs_row_41.2.1 rfl rfl (Nat.le_of_ble_eq_true rfl) (by decide) (c_X4_copy hI1 gs_row_41 gs_row_39) (fun r166 F167 A168 h169 => ?_)
                obtain ⟨e171, I172, f173, x170⟩ := h169
                subst e171
                have f174 := gs_fr_tr hf1 f173 (fun b j h => by first | exact False.elim h | omega | (dsimp only at h ⊢; omega)) (fun b h => by first | exact False.elim h | omega | (dsimp only at h ⊢; omega))
                show sA _ _ _ 145 _ [] _ _
                refine sA_aload_n dd_X5_tryTwists_145 rfl (.tail _ (.tail _ (.tail _ (.tail _ (.tail _ (.head _)))))) ?_
                refine sA_getr (ci := 5) (j := 0) (q := (RX5, TX5, 6)) dd_X5_tryTwists_146 rfl (by decide) fl_X5_28 (by decide) gs_s30 rfl ?_
                refine sA_iload dd_X5_tryTwists_149 (.tail _ (.tail _ (.head _))) ?_
                refine sA_aload dd_X5_tryTwists_151 (.head _) ?_
                refine sA_callV (y2 := m_X7_doTwist) (n2 := 2) (d2 := 2) (a := 5) (ci := 7) (q := (RX7, TX7, 5)) (as := [gs_iv u, .ref 41]) (rest := []) dd_X5_tryTwists_153 ok_X7_doTwist ml_X5_69 rfl rfl (by decide) gs_s5 rfl rfl (Nat.le_of_ble_eq_true rfl) (by decide) (c_X7_doTwist I172 (by omega) gs_row_41) (fun r175 F176 A177 h178 => ?_)
                obtain ⟨z181, e180, I182, f183, x179⟩ := h178
                subst e180
                have f184 := gs_fr_tr f174 f183 (fun b j h => by first | exact False.elim h | omega | (dsimp only at h ⊢; omega)) (fun b h => by first | exact False.elim h | omega | (dsimp only at h ⊢; omega))
                show sA _ _ _ 156 _ [gs_iv z181] _ _
                refine sA_if_ne (tgt := 162) dd_X5_tryTwists_156 (by decide) (by omega) (fun q185 => ?_) (fun q185 => ?_)
                · skip
                  refine sA_iload dd_X5_tryTwists_162 (.tail _ (.tail _ (.tail _ (.tail _ (.head _))))) ?_
                  refine sA_if_ne (tgt := 192) dd_X5_tryTwists_164 (by decide) (by omega) (fun q186 => ?_) (fun q186 => absurd q186 (by omega))
                  refine sA_aload dd_X5_tryTwists_192 (.head _) ?_
                  refine sA_aload_n dd_X5_tryTwists_194 rfl (.tail _ (.tail _ (.tail _ (.tail _ (.tail _ (.head _)))))) ?_
                  refine sA_getr (ci := 5) (j := 4) (q := (RX5, TX5, 6)) dd_X5_tryTwists_195 rfl (by decide) fl_X5_24 (by decide) gs_s30 rfl ?_
                  refine sA_callV (y2 := m_X4_isOneWith) (n2 := 1) (d2 := 2) (a := 41) (ci := 4) (q := (RX4, TX4, 2)) (as := [.ref 33]) (rest := []) dd_X5_tryTwists_198 ok_X4_isOneWith ml_X5_43 rfl rfl (Nat.lt_of_succ_lt gs_row_41.1) gs_row_41.2.1 rfl rfl (Nat.le_of_ble_eq_true rfl) (by decide) (c_X4_isOneWith I182 gs_row_41 gs_row_33) (fun r187 F188 A189 h190 => ?_)
                  obtain ⟨z193, e192, e194, e195, x191⟩ := h190
                  subst e192 e194 e195
                  show sA _ _ _ 201 _ [gs_iv z193] _ _
                  refine sA_if_eq (tgt := 210) dd_X5_tryTwists_201 (by decide) (by omega) (fun q196 => ?_) (fun q196 => ?_)
                  · skip
                    refine sA_iinc (lv' := [(7, gs_iv (u + 1)), (9, .ref 41), (8, gs_iv w3), (6, gs_iv sz), (5, gs_iv lt), (0, .ref 30), (1, gs_iv 2), (2, gs_iv k), (3, gs_iv r), (4, gs_iv wt)]) dd_X5_tryTwists_210 (.tail _ (.tail _ (.head _))) (by decide) rfl ?_
                    refine sA_goto (tgt := 47) dd_X5_tryTwists_213 (by decide) ?_
                    refine sA_sub (lv2 := [(7, gs_iv (u + 1)), (6, gs_iv sz), (5, gs_iv lt), (0, .ref 30), (1, gs_iv 2), (2, gs_iv k), (3, gs_iv r), (4, gs_iv wt)]) (List.forall_mem_cons.mpr ⟨(.head _), (List.forall_mem_cons.mpr ⟨(.tail _ (.tail _ (.tail _ (.head _)))), (List.forall_mem_cons.mpr ⟨(.tail _ (.tail _ (.tail _ (.tail _ (.head _))))), (List.forall_mem_cons.mpr ⟨(.tail _ (.tail _ (.tail _ (.tail _ (.tail _ (.head _)))))), (List.forall_mem_cons.mpr ⟨(.tail _ (.tail _ (.tail _ (.tail _ (.tail _ (.tail _ (.head _))))))), (List.forall_mem_cons.mpr ⟨(.tail _ (.tail _ (.tail _ (.tail _ (.tail _ (.tail _ (.tail _ (.head _)))))))), (List.forall_mem_cons.mpr ⟨(.tail _ (.tail _ (.tail _ (.tail _ (.tail _ (.tail _ (.tail _ (.tail _ (.head _))))))))), (List.forall_mem_cons.mpr ⟨(.tail _ (.tail _ (.tail _ (.tail _ (.tail _ (.tail _ (.tail _ (.tail _ (.tail _ (.head _)))))))))), (fun _ h => absurd h List.not_mem_nil)⟩)⟩)⟩)⟩)⟩)⟩)⟩)⟩) ?_
                    exact ih lt sz (u + 1) F176 A177 I182 f184 (by omega) (by omega) (by omega) (by omega) (by omega)
                  · skip
                    refine sA_aload_n dd_X5_tryTwists_204 rfl (.tail _ (.tail _ (.tail _ (.tail _ (.tail _ (.head _)))))) ?_
                    refine sA_iload dd_X5_tryTwists_205 (.tail _ (.head _)) ?_
                    refine sA_put (ci := 5) (j := 5) (q := (RX5, TX5, 6)) (ty := .int) dd_X5_tryTwists_207 rfl (by decide) fl_X5_53 rfl (tyX5_ok 5 (by decide)) rfl rfl (by decide) gs_s30 rfl ?_
                    have I198 : gs_I (gs_up F176 30 5 w3) A177 := gs_I_put I182 (show (-2147483648 : Int) ≤ w3 ∧ w3 ≤ 2147483647 by omega)
                    have f199 := gs_fr_put f184 (a := 30) (z := w3) (j := 5) (by first | omega | (dsimp only; omega) | (dsimp only))
                    have v200 : gs_up F176 30 5 w3 30 5 = w3 := gs_up_self _ _ _ _
                    generalize gs_up F176 30 5 w3 = F197 at I198 f199 v200 ⊢
                    refine sA_iinc (lv' := [(7, gs_iv (u + 1)), (9, .ref 41), (8, gs_iv w3), (6, gs_iv sz), (5, gs_iv lt), (0, .ref 30), (1, gs_iv 2), (2, gs_iv k), (3, gs_iv r), (4, gs_iv wt)]) dd_X5_tryTwists_210 (.tail _ (.tail _ (.head _))) (by decide) rfl ?_
                    refine sA_goto (tgt := 47) dd_X5_tryTwists_213 (by decide) ?_
                    refine sA_sub (lv2 := [(7, gs_iv (u + 1)), (6, gs_iv sz), (5, gs_iv lt), (0, .ref 30), (1, gs_iv 2), (2, gs_iv k), (3, gs_iv r), (4, gs_iv wt)]) (List.forall_mem_cons.mpr ⟨(.head _), (List.forall_mem_cons.mpr ⟨(.tail _ (.tail _ (.tail _ (.head _)))), (List.forall_mem_cons.mpr ⟨(.tail _ (.tail _ (.tail _ (.tail _ (.head _))))), (List.forall_mem_cons.mpr ⟨(.tail _ (.tail _ (.tail _ (.tail _ (.tail _ (.head _)))))), (List.forall_mem_cons.mpr ⟨(.tail _ (.tail _ (.tail _ (.tail _ (.tail _ (.tail _ (.head _))))))), (List.forall_mem_cons.mpr ⟨(.tail _ (.tail _ (.tail _ (.tail _ (.tail _ (.tail _ (.tail _ (.head _)))))))), (List.forall_mem_cons.mpr ⟨(.tail _ (.tail _ (.tail _ (.tail _ (.tail _ (.tail _ (.tail _ (.tail _ (.head _))))))))), (List.forall_mem_cons.mpr ⟨(.tail _ (.tail _ (.tail _ (.tail _ (.tail _ (.tail _ (.tail _ (.tail _ (.tail _ (.head _)))))))))), (fun _ h => absurd h List.not_mem_nil)⟩)⟩)⟩)⟩)⟩)⟩)⟩)⟩) ?_
                    exact ih lt sz (u + 1) F197 A177 I198 f199 (by omega) (by omega) (by omega) (by omega) (by omega)
                · skip
                  refine sA_goto (tgt := 210) dd_X5_tryTwists_159 (by decide) ?_
                  refine sA_iinc (lv' := [(7, gs_iv (u + 1)), (9, .ref 41), (8, gs_iv w3), (6, gs_iv sz), (5, gs_iv lt), (0, .ref 30), (1, gs_iv 2), (2, gs_iv k), (3, gs_iv r), (4, gs_iv wt)]) dd_X5_tryTwists_210 (.tail _ (.tail _ (.head _))) (by decide) rfl ?_
                  refine sA_goto (tgt := 47) dd_X5_tryTwists_213 (by decide) ?_
                  refine sA_sub (lv2 := [(7, gs_iv (u + 1)), (6, gs_iv sz), (5, gs_iv lt), (0, .ref 30), (1, gs_iv 2), (2, gs_iv k), (3, gs_iv r), (4, gs_iv wt)]) (List.forall_mem_cons.mpr ⟨(.head _), (List.forall_mem_cons.mpr ⟨(.tail _ (.tail _ (.tail _ (.head _)))), (List.forall_mem_cons.mpr ⟨(.tail _ (.tail _ (.tail _ (.tail _ (.head _))))), (List.forall_mem_cons.mpr ⟨(.tail _ (.tail _ (.tail _ (.tail _ (.tail _ (.head _)))))), (List.forall_mem_cons.mpr ⟨(.tail _ (.tail _ (.tail _ (.tail _ (.tail _ (.tail _ (.head _))))))), (List.forall_mem_cons.mpr ⟨(.tail _ (.tail _ (.tail _ (.tail _ (.tail _ (.tail _ (.tail _ (.head _)))))))), (List.forall_mem_cons.mpr ⟨(.tail _ (.tail _ (.tail _ (.tail _ (.tail _ (.tail _ (.tail _ (.tail _ (.head _))))))))), (List.forall_mem_cons.mpr ⟨(.tail _ (.tail _ (.tail _ (.tail _ (.tail _ (.tail _ (.tail _ (.tail _ (.tail _ (.head _)))))))))), (fun _ h => absurd h List.not_mem_nil)⟩)⟩)⟩)⟩)⟩)⟩)⟩)⟩) ?_
                  exact ih lt sz (u + 1) F176 A177 I182 f184 (by omega) (by omega) (by omega) (by omega) (by omega)
              · skip
                refine sA_goto (tgt := 210) dd_X5_tryTwists_121 (by decide) ?_
                refine sA_iinc (lv' := [(7, gs_iv (u + 1)), (8, gs_iv w3), (6, gs_iv sz), (5, gs_iv lt), (0, .ref 30), (1, gs_iv 2), (2, gs_iv k), (3, gs_iv r), (4, gs_iv wt)]) dd_X5_tryTwists_210 (.tail _ (.head _)) (by decide) rfl ?_
                refine sA_goto (tgt := 47) dd_X5_tryTwists_213 (by decide) ?_
                refine sA_sub (lv2 := [(7, gs_iv (u + 1)), (6, gs_iv sz), (5, gs_iv lt), (0, .ref 30), (1, gs_iv 2), (2, gs_iv k), (3, gs_iv r), (4, gs_iv wt)]) (List.forall_mem_cons.mpr ⟨(.head _), (List.forall_mem_cons.mpr ⟨(.tail _ (.tail _ (.head _))), (List.forall_mem_cons.mpr ⟨(.tail _ (.tail _ (.tail _ (.head _)))), (List.forall_mem_cons.mpr ⟨(.tail _ (.tail _ (.tail _ (.tail _ (.head _))))), (List.forall_mem_cons.mpr ⟨(.tail _ (.tail _ (.tail _ (.tail _ (.tail _ (.head _)))))), (List.forall_mem_cons.mpr ⟨(.tail _ (.tail _ (.tail _ (.tail _ (.tail _ (.tail _ (.head _))))))), (List.forall_mem_cons.mpr ⟨(.tail _ (.tail _ (.tail _ (.tail _ (.tail _ (.tail _ (.tail _ (.head _)))))))), (List.forall_mem_cons.mpr ⟨(.tail _ (.tail _ (.tail _ (.tail _ (.tail _ (.tail _ (.tail _ (.tail _ (.head _))))))))), (fun _ h => absurd h List.not_mem_nil)⟩)⟩)⟩)⟩)⟩)⟩)⟩)⟩) ?_
                exact ih lt sz (u + 1) F1 A1 hI1 hf1 (by omega) (by omega) (by omega) (by omega) (by omega)
          · skip
            refine sA_vret dd_X5_tryTwists_92 rfl ?_
            exact ⟨rfl, hI1, hf1, trivial⟩
theorem c_X5_tryTwists_v2 {k r wt : Int} {F A : gs_F} (hI : gs_I F A) (hk : 0 ≤ k ∧ k ≤ 3) (hr0 : -2147483648 ≤ r ∧ r ≤ 2147483647) (hwt : -2147483648 ≤ wt ∧ wt ≤ 2147483647) : sC m_X5_tryTwists 4 [.ref 30, gs_iv 2, gs_iv k, gs_iv r, gs_iv wt] F A (fun rv F' A' => rv = none ∧ gs_I F' A' ∧ gs_fr (fun c j => (c = 30 ∧ j = 5) ∨ (35 ≤ c ∧ c < 43 ∧ j = 1)) (fun c => c = 7 ∨ (35 ≤ c ∧ c < 43)) F A F' A' ∧ (True)) := by
  refine sC_of ok_X5_tryTwists.1 (Nat.le_of_ble_eq_true rfl) ?_
  show sA _ _ _ 0 [(0, .ref 30), (1, gs_iv 2), (2, gs_iv k), (3, gs_iv r), (4, gs_iv wt)] [] F A
  have hf : gs_fr (fun c j => (c = 30 ∧ j = 5) ∨ (35 ≤ c ∧ c < 43 ∧ j = 1)) (fun c => c = 7 ∨ (35 ≤ c ∧ c < 43)) F A F A := gs_fr_refl _ _ _ _
  refine sA_iload_n dd_X5_tryTwists_0 rfl (.tail _ (.head _)) ?_
  refine sA_if_lt (tgt := 18) dd_X5_tryTwists_1 (by decide) (by omega) (fun q201 => absurd q201 (by omega)) (fun q201 => ?_)
  refine sA_iload_n dd_X5_tryTwists_4 rfl (.tail _ (.head _)) ?_
  refine sA_iload_n dd_X5_tryTwists_5 rfl (.tail _ (.tail _ (.head _))) ?_
  refine sA_icmp_ge (tgt := 18) dd_X5_tryTwists_6 (by decide) (by omega) (by omega) (fun q202 => ?_) (fun q202 => ?_)
  · skip
    refine sA_vret dd_X5_tryTwists_18 rfl ?_
    exact ⟨rfl, hI, hf, trivial⟩
  · skip
    refine sA_iload_n dd_X5_tryTwists_9 rfl (.tail _ (.tail _ (.head _))) ?_
    refine sA_aload_n dd_X5_tryTwists_10 rfl (.head _) ?_
    refine sA_getr (ci := 5) (j := 2) (q := (RX5, TX5, 6)) dd_X5_tryTwists_11 rfl (by decide) fl_X5_11 (by decide) gs_s30 rfl ?_
    refine sA_alenq (n := 4) dd_X5_tryTwists_14 (by decide) (by decide) gs_s31 ?_
    refine sA_icmp_lt (tgt := 19) dd_X5_tryTwists_15 (by decide) (by omega) (by omega) (fun q203 => ?_) (fun q203 => ?_)
    · skip
      refine sA_iload_n dd_X5_tryTwists_19 rfl (.tail _ (.head _)) ?_
      refine sA_iconst (z := 1) dd_X5_tryTwists_20 ?_
      refine sA_iadd dd_X5_tryTwists_21 ?_
      show sA _ _ _ _ _ (gs_iv 3 :: _) _ _
      refine sA_iload_n dd_X5_tryTwists_22 rfl (.tail _ (.tail _ (.head _))) ?_
      refine sA_icmp_ne (tgt := 30) dd_X5_tryTwists_23 (by decide) (by omega) (by omega) (fun q204 => ?_) (fun q204 => ?_)
      · skip
        refine sA_iconst (z := 0) dd_X5_tryTwists_30 ?_
        refine sA_istore (lv' := [(5, gs_iv 0), (0, .ref 30), (1, gs_iv 2), (2, gs_iv k), (3, gs_iv r), (4, gs_iv wt)]) dd_X5_tryTwists_31 (by decide) rfl ?_
        refine sA_aload_n dd_X5_tryTwists_33 rfl (.tail _ (.head _)) ?_
        refine sA_getr (ci := 5) (j := 2) (q := (RX5, TX5, 6)) dd_X5_tryTwists_34 rfl (by decide) fl_X5_11 (by decide) gs_s30 rfl ?_
        refine sA_iload_n dd_X5_tryTwists_37 rfl (.tail _ (.tail _ (.head _))) ?_
        refine sA_aald (n := 4) dd_X5_tryTwists_38 (by decide) (by decide) (by decide) gs_s31 (by omega) (by decide) ?_
        show sA _ _ _ _ _ (.ref 39 :: _) _ _
        refine sA_callV (y2 := m_X4_closedSize) (n2 := 0) (d2 := 2) (a := 39) (ci := 4) (q := (RX4, TX4, 2)) (as := []) (rest := []) dd_X5_tryTwists_39 ok_X4_closedSize ml_X5_73 rfl rfl (Nat.lt_of_succ_lt gs_row_39.1) gs_row_39.2.1 rfl rfl (Nat.le_of_ble_eq_true rfl) (by decide) (c_X4_closedSize hI gs_row_39) (fun r206 F207 A208 h209 => ?_)
        obtain ⟨z212, e211, e213, e214, x210⟩ := h209
        subst e211 e213 e214
        show sA _ _ _ 42 _ [gs_iv z212] _ _
        refine sA_istore (lv' := [(6, gs_iv z212), (5, gs_iv 0), (0, .ref 30), (1, gs_iv 2), (2, gs_iv k), (3, gs_iv r), (4, gs_iv wt)]) dd_X5_tryTwists_42 (by decide) rfl ?_
        refine sA_iconst (z := 0) dd_X5_tryTwists_44 ?_
        refine sA_istore (lv' := [(7, gs_iv 0), (6, gs_iv z212), (5, gs_iv 0), (0, .ref 30), (1, gs_iv 2), (2, gs_iv k), (3, gs_iv r), (4, gs_iv wt)]) dd_X5_tryTwists_45 (by decide) rfl ?_
        refine sA_sub (lv2 := [(7, gs_iv 0), (6, gs_iv z212), (5, gs_iv 0), (0, .ref 30), (1, gs_iv 2), (2, gs_iv k), (3, gs_iv r), (4, gs_iv wt)]) (List.forall_mem_cons.mpr ⟨(.head _), (List.forall_mem_cons.mpr ⟨(.tail _ (.head _)), (List.forall_mem_cons.mpr ⟨(.tail _ (.tail _ (.head _))), (List.forall_mem_cons.mpr ⟨(.tail _ (.tail _ (.tail _ (.head _)))), (List.forall_mem_cons.mpr ⟨(.tail _ (.tail _ (.tail _ (.tail _ (.head _))))), (List.forall_mem_cons.mpr ⟨(.tail _ (.tail _ (.tail _ (.tail _ (.tail _ (.head _)))))), (List.forall_mem_cons.mpr ⟨(.tail _ (.tail _ (.tail _ (.tail _ (.tail _ (.tail _ (.head _))))))), (List.forall_mem_cons.mpr ⟨(.tail _ (.tail _ (.tail _ (.tail _ (.tail _ (.tail _ (.tail _ (.head _)))))))), (fun _ h => absurd h List.not_mem_nil)⟩)⟩)⟩)⟩)⟩)⟩)⟩)⟩) ?_
        exact (k_X5_tryTwists_v2 hI hk hr0 hwt (16 - 0 : Int).toNat.succ) 0 z212 0 F A hI hf (by omega) (by omega) (by omega) (by omega) (by omega)
      · skip
        refine sA_iconst (z := 1) dd_X5_tryTwists_26 ?_
        refine sA_goto (tgt := 31) dd_X5_tryTwists_27 (by decide) ?_
        refine sA_istore (lv' := [(5, gs_iv 1), (0, .ref 30), (1, gs_iv 2), (2, gs_iv k), (3, gs_iv r), (4, gs_iv wt)]) dd_X5_tryTwists_31 (by decide) rfl ?_
        refine sA_aload_n dd_X5_tryTwists_33 rfl (.tail _ (.head _)) ?_
        refine sA_getr (ci := 5) (j := 2) (q := (RX5, TX5, 6)) dd_X5_tryTwists_34 rfl (by decide) fl_X5_11 (by decide) gs_s30 rfl ?_
        refine sA_iload_n dd_X5_tryTwists_37 rfl (.tail _ (.tail _ (.head _))) ?_
        refine sA_aald (n := 4) dd_X5_tryTwists_38 (by decide) (by decide) (by decide) gs_s31 (by omega) (by decide) ?_
        show sA _ _ _ _ _ (.ref 39 :: _) _ _
        refine sA_callV (y2 := m_X4_closedSize) (n2 := 0) (d2 := 2) (a := 39) (ci := 4) (q := (RX4, TX4, 2)) (as := []) (rest := []) dd_X5_tryTwists_39 ok_X4_closedSize ml_X5_73 rfl rfl (Nat.lt_of_succ_lt gs_row_39.1) gs_row_39.2.1 rfl rfl (Nat.le_of_ble_eq_true rfl) (by decide) (c_X4_closedSize hI gs_row_39) (fun r216 F217 A218 h219 => ?_)
        obtain ⟨z222, e221, e223, e224, x220⟩ := h219
        subst e221 e223 e224
        show sA _ _ _ 42 _ [gs_iv z222] _ _
        refine sA_istore (lv' := [(6, gs_iv z222), (5, gs_iv 1), (0, .ref 30), (1, gs_iv 2), (2, gs_iv k), (3, gs_iv r), (4, gs_iv wt)]) dd_X5_tryTwists_42 (by decide) rfl ?_
        refine sA_iconst (z := 0) dd_X5_tryTwists_44 ?_
        refine sA_istore (lv' := [(7, gs_iv 0), (6, gs_iv z222), (5, gs_iv 1), (0, .ref 30), (1, gs_iv 2), (2, gs_iv k), (3, gs_iv r), (4, gs_iv wt)]) dd_X5_tryTwists_45 (by decide) rfl ?_
        refine sA_sub (lv2 := [(7, gs_iv 0), (6, gs_iv z222), (5, gs_iv 1), (0, .ref 30), (1, gs_iv 2), (2, gs_iv k), (3, gs_iv r), (4, gs_iv wt)]) (List.forall_mem_cons.mpr ⟨(.head _), (List.forall_mem_cons.mpr ⟨(.tail _ (.head _)), (List.forall_mem_cons.mpr ⟨(.tail _ (.tail _ (.head _))), (List.forall_mem_cons.mpr ⟨(.tail _ (.tail _ (.tail _ (.head _)))), (List.forall_mem_cons.mpr ⟨(.tail _ (.tail _ (.tail _ (.tail _ (.head _))))), (List.forall_mem_cons.mpr ⟨(.tail _ (.tail _ (.tail _ (.tail _ (.tail _ (.head _)))))), (List.forall_mem_cons.mpr ⟨(.tail _ (.tail _ (.tail _ (.tail _ (.tail _ (.tail _ (.head _))))))), (List.forall_mem_cons.mpr ⟨(.tail _ (.tail _ (.tail _ (.tail _ (.tail _ (.tail _ (.tail _ (.head _)))))))), (fun _ h => absurd h List.not_mem_nil)⟩)⟩)⟩)⟩)⟩)⟩)⟩)⟩) ?_
        exact (k_X5_tryTwists_v2 hI hk hr0 hwt (16 - 0 : Int).toNat.succ) 1 z222 0 F A hI hf (by omega) (by omega) (by omega) (by omega) (by omega)
    · skip
      refine sA_vret dd_X5_tryTwists_18 rfl ?_
      exact ⟨rfl, hI, hf, trivial⟩
theorem k_X5_tryTwists_v1 {k r wt : Int} {F A : gs_F} (hI : gs_I F A) (hk : 0 ≤ k ∧ k ≤ 3) (hr0 : -2147483648 ≤ r ∧ r ≤ 2147483647) (hwt : -2147483648 ≤ wt ∧ wt ≤ 2147483647) : ∀ nN : Nat, (∀ (lt : Int) (sz : Int) (u : Int)  (F1 A1 : gs_F), gs_I F1 A1 → gs_fr (fun c j => (c = 30 ∧ j = 5) ∨ (35 ≤ c ∧ c < 43 ∧ j = 1)) (fun c => c = 7 ∨ (35 ≤ c ∧ c < 43)) F A F1 A1 → 0 ≤ u ∧ u ≤ 16 → -2147483648 ≤ sz ∧ sz ≤ 2147483647 → lt = 0 ∨ lt = 1 → 1 < k → 16 - u < (nN : Int) → sA m_X5_tryTwists 5 (fun rv F' A' => rv = none ∧ gs_I F' A' ∧ gs_fr (fun c j => (c = 30 ∧ j = 5) ∨ (35 ≤ c ∧ c < 43 ∧ j = 1)) (fun c => c = 7 ∨ (35 ≤ c ∧ c < 43)) F A F' A' ∧ (True)) 47 [(7, gs_iv u), (6, gs_iv sz), (5, gs_iv lt), (0, .ref 30), (1, gs_iv 1), (2, gs_iv k), (3, gs_iv r), (4, gs_iv wt)] [] F1 A1) := by
  intro nN
  induction nN with
  | zero =>
    exact fun a0 a1 a2 a3 a4 a5 a6 i0 i1 i2 i3 hm => by exfalso; omega
  | succ nN ih =>
    intro lt sz u F1 A1 hI1 hf1 i0 i1 i2 i3 hm
    refine sA_iload dd_X5_tryTwists_47 (.head _) ?_
    refine sA_iconst (z := 2) dd_X5_tryTwists_49 ?_
    refine sA_aload_n dd_X5_tryTwists_50 rfl (.tail _ (.tail _ (.tail _ (.head _)))) ?_
    refine sA_getr (ci := 5) (j := 0) (q := (RX5, TX5, 6)) dd_X5_tryTwists_51 rfl (by decide) fl_X5_28 (by decide) gs_s30 rfl ?_
    refine sA_geti (ci := 7) (j := 0) (q := (RX7, TX7, 5)) dd_X5_tryTwists_54 rfl (by decide) fl_X5_64 (by decide) gs_s5 rfl ?_
    have b1 : (1 : Int) ≤ F1 5 0 ∧ F1 5 0 ≤ 8 := hI1.1 5 0
    refine sA_imul dd_X5_tryTwists_57 ?_
    refine sA_icmp_ge (tgt := 216) dd_X5_tryTwists_58 (by decide) (by omega) (by omega) (fun q2 => ?_) (fun q2 => ?_)
    · skip
      refine sA_vret dd_X5_tryTwists_216 rfl ?_
      exact ⟨rfl, hI1, hf1, trivial⟩
    · skip
      refine sA_iload_n dd_X5_tryTwists_61 rfl (.tail _ (.tail _ (.tail _ (.tail _ (.tail _ (.tail _ (.head _))))))) ?_
      refine sA_iload dd_X5_tryTwists_62 (.head _) ?_
      refine sA_iload dd_X5_tryTwists_64 (.tail _ (.tail _ (.tail _ (.tail _ (.tail _ (.tail _ (.tail _ (.head _)))))))) ?_
      refine sA_imul dd_X5_tryTwists_66 ?_
      refine sA_iadd dd_X5_tryTwists_67 ?_
      refine sA_wrap ?_
      have b4 := gs_w_rng (r + (u * wt))
      generalize gs_w (r + (u * wt)) = w3 at b4 ⊢
      refine sA_istore (lv' := [(8, gs_iv w3), (7, gs_iv u), (6, gs_iv sz), (5, gs_iv lt), (0, .ref 30), (1, gs_iv 1), (2, gs_iv k), (3, gs_iv r), (4, gs_iv wt)]) dd_X5_tryTwists_68 (by decide) rfl ?_
      refine sA_iload dd_X5_tryTwists_70 (.tail _ (.tail _ (.tail _ (.head _)))) ?_
      refine sA_if_eq (tgt := 93) dd_X5_tryTwists_72 (by decide) (by omega) (fun q5 => ?_) (fun q5 => ?_)
      · skip
        refine sA_iload dd_X5_tryTwists_93 (.tail _ (.tail _ (.tail _ (.head _)))) ?_
        refine sA_if_eq (tgt := 124) dd_X5_tryTwists_95 (by decide) (by omega) (fun q6 => ?_) (fun q6 => absurd q6 (by omega))
        refine sA_aload_n dd_X5_tryTwists_124 rfl (.tail _ (.tail _ (.tail _ (.tail _ (.head _))))) ?_
        refine sA_getr (ci := 5) (j := 2) (q := (RX5, TX5, 6)) dd_X5_tryTwists_125 rfl (by decide) fl_X5_11 (by decide) gs_s30 rfl ?_
        refine sA_iload_n dd_X5_tryTwists_128 rfl (.tail _ (.tail _ (.tail _ (.tail _ (.tail _ (.head _)))))) ?_
        refine sA_iconst (z := 1) dd_X5_tryTwists_129 ?_
        refine sA_iadd dd_X5_tryTwists_130 ?_
        show sA _ _ _ _ _ (gs_iv 2 :: _) _ _
        refine sA_aald (n := 4) dd_X5_tryTwists_131 (by decide) (by decide) (by decide) gs_s31 (by omega) (by decide) ?_
        show sA _ _ _ _ _ (.ref 39 :: _) _ _
        refine sA_astore (lv' := [(9, .ref 39), (8, gs_iv w3), (7, gs_iv u), (6, gs_iv sz), (5, gs_iv lt), (0, .ref 30), (1, gs_iv 1), (2, gs_iv k), (3, gs_iv r), (4, gs_iv wt)]) dd_X5_tryTwists_132 (by decide) rfl ?_
        refine sA_aload dd_X5_tryTwists_134 (.head _) ?_
        refine sA_aload_n dd_X5_tryTwists_136 rfl (.tail _ (.tail _ (.tail _ (.tail _ (.tail _ (.head _)))))) ?_
        refine sA_getr (ci := 5) (j := 2) (q := (RX5, TX5, 6)) dd_X5_tryTwists_137 rfl (by decide) fl_X5_11 (by decide) gs_s30 rfl ?_
        refine sA_iload_n dd_X5_tryTwists_140 rfl (.tail _ (.tail _ (.tail _ (.tail _ (.tail _ (.tail _ (.head _))))))) ?_
        refine sA_aald (n := 4) dd_X5_tryTwists_141 (by decide) (by decide) (by decide) gs_s31 (by omega) (by decide) ?_
        show sA _ _ _ _ _ (.ref 37 :: _) _ _
        refine sA_callV (y2 := m_X4_copy) (n2 := 1) (d2 := 1) (a := 39) (ci := 4) (q := (RX4, TX4, 2)) (as := [.ref 37]) (rest := []) dd_X5_tryTwists_142 ok_X4_copy ml_X5_36 rfl rfl (Nat.lt_of_succ_lt gs_row_39.1) gs_row_39.2.1 rfl rfl (Nat.le_of_ble_eq_true rfl) (by decide) (c_X4_copy hI1 gs_row_39 gs_row_37) (fun r9 F10 A11 h12 => ?_)
        obtain ⟨e14, I15, f16, x13⟩ := h12
        subst e14
        have f17 := gs_fr_tr hf1 f16 (fun b j h => by first | exact False.elim h | omega | (dsimp only at h ⊢; omega)) (fun b h => by first | exact False.elim h | omega | (dsimp only at h ⊢; omega))
        show sA _ _ _ 145 _ [] _ _
        refine sA_aload_n dd_X5_tryTwists_145 rfl (.tail _ (.tail _ (.tail _ (.tail _ (.tail _ (.head _)))))) ?_
        refine sA_getr (ci := 5) (j := 0) (q := (RX5, TX5, 6)) dd_X5_tryTwists_146 rfl (by decide) fl_X5_28 (by decide) gs_s30 rfl ?_
        refine sA_iload dd_X5_tryTwists_149 (.tail _ (.tail _ (.head _))) ?_
        refine sA_aload dd_X5_tryTwists_151 (.head _) ?_
        refine sA_callV (y2 := m_X7_doTwist) (n2 := 2) (d2 := 2) (a := 5) (ci := 7) (q := (RX7, TX7, 5)) (as := [gs_iv u, .ref 39]) (rest := []) dd_X5_tryTwists_153 ok_X7_doTwist ml_X5_69 rfl rfl (by decide) gs_s5 rfl rfl (Nat.le_of_ble_eq_true rfl) (by decide) (c_X7_doTwist I15 (by omega) gs_row_39) (fun r18 F19 A20 h21 => ?_)
        obtain ⟨z24, e23, I25, f26, x22⟩ := h21
        subst e23
        have f27 := gs_fr_tr f17 f26 (fun b j h => by first | exact False.elim h | omega | (dsimp only at h ⊢; omega)) (fun b h => by first | exact False.elim h | omega | (dsimp only at h ⊢; omega))
        show sA _ _ _ 156 _ [gs_iv z24] _ _
        refine sA_if_ne (tgt := 162) dd_X5_tryTwists_156 (by decide) (by omega) (fun q28 => ?_) (fun q28 => ?_)
        · skip
          refine sA_iload dd_X5_tryTwists_162 (.tail _ (.tail _ (.tail _ (.tail _ (.head _))))) ?_
          refine sA_if_ne (tgt := 192) dd_X5_tryTwists_164 (by decide) (by omega) (fun q29 => absurd q29 (by omega)) (fun q29 => ?_)
          refine sA_aload_n dd_X5_tryTwists_167 rfl (.tail _ (.tail _ (.tail _ (.tail _ (.tail _ (.head _)))))) ?_
          refine sA_iload_n dd_X5_tryTwists_168 rfl (.tail _ (.tail _ (.tail _ (.tail _ (.tail _ (.tail _ (.head _))))))) ?_
          refine sA_iconst (z := 1) dd_X5_tryTwists_169 ?_
          refine sA_iadd dd_X5_tryTwists_170 ?_
          show sA _ _ _ _ _ (gs_iv 2 :: _) _ _
          refine sA_iload_n dd_X5_tryTwists_171 rfl (.tail _ (.tail _ (.tail _ (.tail _ (.tail _ (.tail _ (.tail _ (.head _)))))))) ?_
          refine sA_iload dd_X5_tryTwists_172 (.tail _ (.head _)) ?_
          refine sA_iload dd_X5_tryTwists_174 (.tail _ (.tail _ (.tail _ (.tail _ (.tail _ (.tail _ (.tail _ (.tail _ (.tail _ (.head _)))))))))) ?_
          refine sA_iconst (z := 2) dd_X5_tryTwists_176 ?_
          refine sA_imul dd_X5_tryTwists_177 ?_
          refine sA_aload_n dd_X5_tryTwists_178 rfl (.tail _ (.tail _ (.tail _ (.tail _ (.tail _ (.head _)))))) ?_
          refine sA_getr (ci := 5) (j := 0) (q := (RX5, TX5, 6)) dd_X5_tryTwists_179 rfl (by decide) fl_X5_28 (by decide) gs_s30 rfl ?_
          refine sA_geti (ci := 7) (j := 0) (q := (RX7, TX7, 5)) dd_X5_tryTwists_182 rfl (by decide) fl_X5_64 (by decide) gs_s5 rfl ?_
          have b30 : (1 : Int) ≤ F19 5 0 ∧ F19 5 0 ≤ 8 := I25.1 5 0
          refine sA_imul dd_X5_tryTwists_185 ?_
          refine sA_wrap ?_
          have b32 := gs_w_rng ((wt * 2) * (F19 5 0))
          generalize gs_w ((wt * 2) * (F19 5 0)) = w31 at b32 ⊢
          refine sA_callV (y2 := m_X5_tryTwists) (n2 := 4) (d2 := 4) (a := 30) (ci := 5) (q := (RX5, TX5, 6)) (as := [gs_iv 2, gs_iv k, gs_iv w3, gs_iv w31]) (rest := []) dd_X5_tryTwists_186 ok_X5_tryTwists ml_X5_56 rfl rfl (by decide) gs_s30 rfl rfl (Nat.le_of_ble_eq_true rfl) (by decide) (c_X5_tryTwists_v2 I25 (by omega) (by omega) (by omega)) (fun r33 F34 A35 h36 => ?_)
          obtain ⟨e38, I39, f40, x37⟩ := h36
          subst e38
          have f41 := gs_fr_tr f27 f40 (fun b j h => by first | exact False.elim h | omega | (dsimp only at h ⊢; omega)) (fun b h => by first | exact False.elim h | omega | (dsimp only at h ⊢; omega))
          show sA _ _ _ 189 _ [] _ _
          refine sA_goto (tgt := 210) dd_X5_tryTwists_189 (by decide) ?_
          refine sA_iinc (lv' := [(7, gs_iv (u + 1)), (9, .ref 39), (8, gs_iv w3), (6, gs_iv sz), (5, gs_iv lt), (0, .ref 30), (1, gs_iv 1), (2, gs_iv k), (3, gs_iv r), (4, gs_iv wt)]) dd_X5_tryTwists_210 (.tail _ (.tail _ (.head _))) (by decide) rfl ?_
          refine sA_goto (tgt := 47) dd_X5_tryTwists_213 (by decide) ?_
          refine sA_sub (lv2 := [(7, gs_iv (u + 1)), (6, gs_iv sz), (5, gs_iv lt), (0, .ref 30), (1, gs_iv 1), (2, gs_iv k), (3, gs_iv r), (4, gs_iv wt)]) (List.forall_mem_cons.mpr ⟨(.head _), (List.forall_mem_cons.mpr ⟨(.tail _ (.tail _ (.tail _ (.head _)))), (List.forall_mem_cons.mpr ⟨(.tail _ (.tail _ (.tail _ (.tail _ (.head _))))), (List.forall_mem_cons.mpr ⟨(.tail _ (.tail _ (.tail _ (.tail _ (.tail _ (.head _)))))), (List.forall_mem_cons.mpr ⟨(.tail _ (.tail _ (.tail _ (.tail _ (.tail _ (.tail _ (.head _))))))), (List.forall_mem_cons.mpr ⟨(.tail _ (.tail _ (.tail _ (.tail _ (.tail _ (.tail _ (.tail _ (.head _)))))))), (List.forall_mem_cons.mpr ⟨(.tail _ (.tail _ (.tail _ (.tail _ (.tail _ (.tail _ (.tail _ (.tail _ (.head _))))))))), (List.forall_mem_cons.mpr ⟨(.tail _ (.tail _ (.tail _ (.tail _ (.tail _ (.tail _ (.tail _ (.tail _ (.tail _ (.head _)))))))))), (fun _ h => absurd h List.not_mem_nil)⟩)⟩)⟩)⟩)⟩)⟩)⟩)⟩) ?_
          exact ih lt sz (u + 1) F34 A35 I39 f41 (by omega) (by omega) (by omega) (by omega) (by omega)
        · skip
          refine sA_goto (tgt := 210) dd_X5_tryTwists_159 (by decide) ?_
          refine sA_iinc (lv' := [(7, gs_iv (u + 1)), (9, .ref 39), (8, gs_iv w3), (6, gs_iv sz), (5, gs_iv lt), (0, .ref 30), (1, gs_iv 1), (2, gs_iv k), (3, gs_iv r), (4, gs_iv wt)]) dd_X5_tryTwists_210 (.tail _ (.tail _ (.head _))) (by decide) rfl ?_
          refine sA_goto (tgt := 47) dd_X5_tryTwists_213 (by decide) ?_
          refine sA_sub (lv2 := [(7, gs_iv (u + 1)), (6, gs_iv sz), (5, gs_iv lt), (0, .ref 30), (1, gs_iv 1), (2, gs_iv k), (3, gs_iv r), (4, gs_iv wt)]) (List.forall_mem_cons.mpr ⟨(.head _), (List.forall_mem_cons.mpr ⟨(.tail _ (.tail _ (.tail _ (.head _)))), (List.forall_mem_cons.mpr ⟨(.tail _ (.tail _ (.tail _ (.tail _ (.head _))))), (List.forall_mem_cons.mpr ⟨(.tail _ (.tail _ (.tail _ (.tail _ (.tail _ (.head _)))))), (List.forall_mem_cons.mpr ⟨(.tail _ (.tail _ (.tail _ (.tail _ (.tail _ (.tail _ (.head _))))))), (List.forall_mem_cons.mpr ⟨(.tail _ (.tail _ (.tail _ (.tail _ (.tail _ (.tail _ (.tail _ (.head _)))))))), (List.forall_mem_cons.mpr ⟨(.tail _ (.tail _ (.tail _ (.tail _ (.tail _ (.tail _ (.tail _ (.tail _ (.head _))))))))), (List.forall_mem_cons.mpr ⟨(.tail _ (.tail _ (.tail _ (.tail _ (.tail _ (.tail _ (.tail _ (.tail _ (.tail _ (.head _)))))))))), (fun _ h => absurd h List.not_mem_nil)⟩)⟩)⟩)⟩)⟩)⟩)⟩)⟩) ?_
          exact ih lt sz (u + 1) F19 A20 I25 f27 (by omega) (by omega) (by omega) (by omega) (by omega)
      · skip
        refine sA_aload_n dd_X5_tryTwists_75 rfl (.tail _ (.tail _ (.tail _ (.tail _ (.head _))))) ?_
        refine sA_geti (ci := 5) (j := 5) (q := (RX5, TX5, 6)) dd_X5_tryTwists_76 rfl (by decide) fl_X5_53 (by decide) gs_s30 rfl ?_
        have b42 : (-2147483648 : Int) ≤ F1 30 5 ∧ F1 30 5 ≤ 2147483647 := hI1.1 30 5
        refine sA_iconst (z := (-1)) dd_X5_tryTwists_79 ?_
        refine sA_icmp_eq (tgt := 93) dd_X5_tryTwists_80 (by decide) (by omega) (by omega) (fun q43 => ?_) (fun q43 => ?_)
        · skip
          refine sA_iload dd_X5_tryTwists_93 (.tail _ (.tail _ (.tail _ (.head _)))) ?_
          refine sA_if_eq (tgt := 124) dd_X5_tryTwists_95 (by decide) (by omega) (fun q44 => absurd q44 (by omega)) (fun q44 => ?_)
          refine sA_aload_n dd_X5_tryTwists_98 rfl (.tail _ (.tail _ (.tail _ (.tail _ (.head _))))) ?_
          refine sA_getr (ci := 5) (j := 3) (q := (RX5, TX5, 6)) dd_X5_tryTwists_99 rfl (by decide) fl_X5_17 (by decide) gs_s30 rfl ?_
          refine sA_iload dd_X5_tryTwists_102 (.tail _ (.head _)) ?_
          refine sA_iald (n := 16) dd_X5_tryTwists_104 (by decide) gs_s32 (by omega) (by decide) ?_
          have b45 : (-2147483648 : Int) ≤ A1 32 u.toNat ∧ A1 32 u.toNat ≤ 2147483647 := hI1.2 32 u.toNat
          refine sA_iconst (z := (-1)) dd_X5_tryTwists_105 ?_
          refine sA_icmp_eq (tgt := 124) dd_X5_tryTwists_106 (by decide) (by omega) (by omega) (fun q46 => ?_) (fun q46 => ?_)
          · skip
            refine sA_aload_n dd_X5_tryTwists_124 rfl (.tail _ (.tail _ (.tail _ (.tail _ (.head _))))) ?_
            refine sA_getr (ci := 5) (j := 2) (q := (RX5, TX5, 6)) dd_X5_tryTwists_125 rfl (by decide) fl_X5_11 (by decide) gs_s30 rfl ?_
            refine sA_iload_n dd_X5_tryTwists_128 rfl (.tail _ (.tail _ (.tail _ (.tail _ (.tail _ (.head _)))))) ?_
            refine sA_iconst (z := 1) dd_X5_tryTwists_129 ?_
            refine sA_iadd dd_X5_tryTwists_130 ?_
            show sA _ _ _ _ _ (gs_iv 2 :: _) _ _
            refine sA_aald (n := 4) dd_X5_tryTwists_131 (by decide) (by decide) (by decide) gs_s31 (by omega) (by decide) ?_
            show sA _ _ _ _ _ (.ref 39 :: _) _ _
            refine sA_astore (lv' := [(9, .ref 39), (8, gs_iv w3), (7, gs_iv u), (6, gs_iv sz), (5, gs_iv lt), (0, .ref 30), (1, gs_iv 1), (2, gs_iv k), (3, gs_iv r), (4, gs_iv wt)]) dd_X5_tryTwists_132 (by decide) rfl ?_
            refine sA_aload dd_X5_tryTwists_134 (.head _) ?_
            refine sA_aload_n dd_X5_tryTwists_136 rfl (.tail _ (.tail _ (.tail _ (.tail _ (.tail _ (.head _)))))) ?_
            refine sA_getr (ci := 5) (j := 2) (q := (RX5, TX5, 6)) dd_X5_tryTwists_137 rfl (by decide) fl_X5_11 (by decide) gs_s30 rfl ?_
            refine sA_iload_n dd_X5_tryTwists_140 rfl (.tail _ (.tail _ (.tail _ (.tail _ (.tail _ (.tail _ (.head _))))))) ?_
            refine sA_aald (n := 4) dd_X5_tryTwists_141 (by decide) (by decide) (by decide) gs_s31 (by omega) (by decide) ?_
            show sA _ _ _ _ _ (.ref 37 :: _) _ _
            refine sA_callV (y2 := m_X4_copy) (n2 := 1) (d2 := 1) (a := 39) (ci := 4) (q := (RX4, TX4, 2)) (as := [.ref 37]) (rest := []) dd_X5_tryTwists_142 ok_X4_copy ml_X5_36 rfl rfl (Nat.lt_of_succ_lt gs_row_39.1) gs_row_39.2.1 rfl rfl (Nat.le_of_ble_eq_true rfl) (by decide) (c_X4_copy hI1 gs_row_39 gs_row_37) (fun r49 F50 A51 h52 => ?_)
            obtain ⟨e54, I55, f56, x53⟩ := h52
            subst e54
            have f57 := gs_fr_tr hf1 f56 (fun b j h => by first | exact False.elim h | omega | (dsimp only at h ⊢; omega)) (fun b h => by first | exact False.elim h | omega | (dsimp only at h ⊢; omega))
            show sA _ _ _ 145 _ [] _ _
            refine sA_aload_n dd_X5_tryTwists_145 rfl (.tail _ (.tail _ (.tail _ (.tail _ (.tail _ (.head _)))))) ?_
            refine sA_getr (ci := 5) (j := 0) (q := (RX5, TX5, 6)) dd_X5_tryTwists_146 rfl (by decide) fl_X5_28 (by decide) gs_s30 rfl ?_
            refine sA_iload dd_X5_tryTwists_149 (.tail _ (.tail _ (.head _))) ?_
            refine sA_aload dd_X5_tryTwists_151 (.head _) ?_
            refine sA_callV (y2 := m_X7_doTwist) (n2 := 2) (d2 := 2) (a := 5) (ci := 7) (q := (RX7, TX7, 5)) (as := [gs_iv u, .ref 39]) (rest := []) dd_X5_tryTwists_153 ok_X7_doTwist ml_X5_69 rfl rfl (by decide) gs_s5 rfl rfl (Nat.le_of_ble_eq_true rfl) (by decide) (c_X7_doTwist I55 (by omega) gs_row_39) (fun r58 F59 A60 h61 => ?_)
            obtain ⟨z64, e63, I65, f66, x62⟩ := h61
            subst e63
            have f67 := gs_fr_tr f57 f66 (fun b j h => by first | exact False.elim h | omega | (dsimp only at h ⊢; omega)) (fun b h => by first | exact False.elim h | omega | (dsimp only at h ⊢; omega))
            show sA _ _ _ 156 _ [gs_iv z64] _ _
            refine sA_if_ne (tgt := 162) dd_X5_tryTwists_156 (by decide) (by omega) (fun q68 => ?_) (fun q68 => ?_)
            · skip
              refine sA_iload dd_X5_tryTwists_162 (.tail _ (.tail _ (.tail _ (.tail _ (.head _))))) ?_
              refine sA_if_ne (tgt := 192) dd_X5_tryTwists_164 (by decide) (by omega) (fun q69 => ?_) (fun q69 => absurd q69 (by omega))
              refine sA_aload dd_X5_tryTwists_192 (.head _) ?_
              refine sA_aload_n dd_X5_tryTwists_194 rfl (.tail _ (.tail _ (.tail _ (.tail _ (.tail _ (.head _)))))) ?_
              refine sA_getr (ci := 5) (j := 4) (q := (RX5, TX5, 6)) dd_X5_tryTwists_195 rfl (by decide) fl_X5_24 (by decide) gs_s30 rfl ?_
              refine sA_callV (y2 := m_X4_isOneWith) (n2 := 1) (d2 := 2) (a := 39) (ci := 4) (q := (RX4, TX4, 2)) (as := [.ref 33]) (rest := []) dd_X5_tryTwists_198 ok_X4_isOneWith ml_X5_43 rfl rfl (Nat.lt_of_succ_lt gs_row_39.1) gs_row_39.2.1 rfl rfl (Nat.le_of_ble_eq_true rfl) (by decide) (c_X4_isOneWith I65 gs_row_39 gs_row_33) (fun r70 F71 A72 h73 => ?_)
              obtain ⟨z76, e75, e77, e78, x74⟩ := h73
              subst e75 e77 e78
              show sA _ _ _ 201 _ [gs_iv z76] _ _
              refine sA_if_eq (tgt := 210) dd_X5_tryTwists_201 (by decide) (by omega) (fun q79 => ?_) (fun q79 => ?_)
              · skip
                refine sA_iinc (lv' := [(7, gs_iv (u + 1)), (9, .ref 39), (8, gs_iv w3), (6, gs_iv sz), (5, gs_iv lt), (0, .ref 30), (1, gs_iv 1), (2, gs_iv k), (3, gs_iv r), (4, gs_iv wt)]) dd_X5_tryTwists_210 (.tail _ (.tail _ (.head _))) (by decide) rfl ?_
                refine sA_goto (tgt := 47) dd_X5_tryTwists_213 (by decide) ?_
                refine sA_sub (lv2 := [(7, gs_iv (u + 1)), (6, gs_iv sz), (5, gs_iv lt), (0, .ref 30), (1, gs_iv 1), (2, gs_iv k), (3, gs_iv r), (4, gs_iv wt)]) (List.forall_mem_cons.mpr ⟨(.head _), (List.forall_mem_cons.mpr ⟨(.tail _ (.tail _ (.tail _ (.head _)))), (List.forall_mem_cons.mpr ⟨(.tail _ (.tail _ (.tail _ (.tail _ (.head _))))), (List.forall_mem_cons.mpr ⟨(.tail _ (.tail _ (.tail _ (.tail _ (.tail _ (.head _)))))), (List.forall_mem_cons.mpr ⟨(.tail _ (.tail _ (.tail _ (.tail _ (.tail _ (.tail _ (.head _))))))), (List.forall_mem_cons.mpr ⟨(.tail _ (.tail _ (.tail _ (.tail _ (.tail _ (.tail _ (.tail _ (.head _)))))))), (List.forall_mem_cons.mpr ⟨(.tail _ (.tail _ (.tail _ (.tail _ (.tail _ (.tail _ (.tail _ (.tail _ (.head _))))))))), (List.forall_mem_cons.mpr ⟨(.tail _ (.tail _ (.tail _ (.tail _ (.tail _ (.tail _ (.tail _ (.tail _ (.tail _ (.head _)))))))))), (fun _ h => absurd h List.not_mem_nil)⟩)⟩)⟩)⟩)⟩)⟩)⟩)⟩) ?_
                exact ih lt sz (u + 1) F59 A60 I65 f67 (by omega) (by omega) (by omega) (by omega) (by omega)
              · skip
                refine sA_aload_n dd_X5_tryTwists_204 rfl (.tail _ (.tail _ (.tail _ (.tail _ (.tail _ (.head _)))))) ?_
                refine sA_iload dd_X5_tryTwists_205 (.tail _ (.head _)) ?_
                refine sA_put (ci := 5) (j := 5) (q := (RX5, TX5, 6)) (ty := .int) dd_X5_tryTwists_207 rfl (by decide) fl_X5_53 rfl (tyX5_ok 5 (by decide)) rfl rfl (by decide) gs_s30 rfl ?_
                have I81 : gs_I (gs_up F59 30 5 w3) A60 := gs_I_put I65 (show (-2147483648 : Int) ≤ w3 ∧ w3 ≤ 2147483647 by omega)
                have f82 := gs_fr_put f67 (a := 30) (z := w3) (j := 5) (by first | omega | (dsimp only; omega) | (dsimp only))
                have v83 : gs_up F59 30 5 w3 30 5 = w3 := gs_up_self _ _ _ _
                generalize gs_up F59 30 5 w3 = F80 at I81 f82 v83 ⊢
                refine sA_iinc (lv' := [(7, gs_iv (u + 1)), (9, .ref 39), (8, gs_iv w3), (6, gs_iv sz), (5, gs_iv lt), (0, .ref 30), (1, gs_iv 1), (2, gs_iv k), (3, gs_iv r), (4, gs_iv wt)]) dd_X5_tryTwists_210 (.tail _ (.tail _ (.head _))) (by decide) rfl ?_
                refine sA_goto (tgt := 47) dd_X5_tryTwists_213 (by decide) ?_
                refine sA_sub (lv2 := [(7, gs_iv (u + 1)), (6, gs_iv sz), (5, gs_iv lt), (0, .ref 30), (1, gs_iv 1), (2, gs_iv k), (3, gs_iv r), (4, gs_iv wt)]) (List.forall_mem_cons.mpr ⟨(.head _), (List.forall_mem_cons.mpr ⟨(.tail _ (.tail _ (.tail _ (.head _)))), (List.forall_mem_cons.mpr ⟨(.tail _ (.tail _ (.tail _ (.tail _ (.head _))))), (List.forall_mem_cons.mpr ⟨(.tail _ (.tail _ (.tail _ (.tail _ (.tail _ (.head _)))))), (List.forall_mem_cons.mpr ⟨(.tail _ (.tail _ (.tail _ (.tail _ (.tail _ (.tail _ (.head _))))))), (List.forall_mem_cons.mpr ⟨(.tail _ (.tail _ (.tail _ (.tail _ (.tail _ (.tail _ (.tail _ (.head _)))))))), (List.forall_mem_cons.mpr ⟨(.tail _ (.tail _ (.tail _ (.tail _ (.tail _ (.tail _ (.tail _ (.tail _ (.head _))))))))), (List.forall_mem_cons.mpr ⟨(.tail _ (.tail _ (.tail _ (.tail _ (.tail _ (.tail _ (.tail _ (.tail _ (.tail _ (.head _)))))))))), (fun _ h => absurd h List.not_mem_nil)⟩)⟩)⟩)⟩)⟩)⟩)⟩)⟩) ?_
                exact ih lt sz (u + 1) F80 A60 I81 f82 (by omega) (by omega) (by omega) (by omega) (by omega)
            · skip
              refine sA_goto (tgt := 210) dd_X5_tryTwists_159 (by decide) ?_
              refine sA_iinc (lv' := [(7, gs_iv (u + 1)), (9, .ref 39), (8, gs_iv w3), (6, gs_iv sz), (5, gs_iv lt), (0, .ref 30), (1, gs_iv 1), (2, gs_iv k), (3, gs_iv r), (4, gs_iv wt)]) dd_X5_tryTwists_210 (.tail _ (.tail _ (.head _))) (by decide) rfl ?_
              refine sA_goto (tgt := 47) dd_X5_tryTwists_213 (by decide) ?_
              refine sA_sub (lv2 := [(7, gs_iv (u + 1)), (6, gs_iv sz), (5, gs_iv lt), (0, .ref 30), (1, gs_iv 1), (2, gs_iv k), (3, gs_iv r), (4, gs_iv wt)]) (List.forall_mem_cons.mpr ⟨(.head _), (List.forall_mem_cons.mpr ⟨(.tail _ (.tail _ (.tail _ (.head _)))), (List.forall_mem_cons.mpr ⟨(.tail _ (.tail _ (.tail _ (.tail _ (.head _))))), (List.forall_mem_cons.mpr ⟨(.tail _ (.tail _ (.tail _ (.tail _ (.tail _ (.head _)))))), (List.forall_mem_cons.mpr ⟨(.tail _ (.tail _ (.tail _ (.tail _ (.tail _ (.tail _ (.head _))))))), (List.forall_mem_cons.mpr ⟨(.tail _ (.tail _ (.tail _ (.tail _ (.tail _ (.tail _ (.tail _ (.head _)))))))), (List.forall_mem_cons.mpr ⟨(.tail _ (.tail _ (.tail _ (.tail _ (.tail _ (.tail _ (.tail _ (.tail _ (.head _))))))))), (List.forall_mem_cons.mpr ⟨(.tail _ (.tail _ (.tail _ (.tail _ (.tail _ (.tail _ (.tail _ (.tail _ (.tail _ (.head _)))))))))), (fun _ h => absurd h List.not_mem_nil)⟩)⟩)⟩)⟩)⟩)⟩)⟩)⟩) ?_
              exact ih lt sz (u + 1) F59 A60 I65 f67 (by omega) (by omega) (by omega) (by omega) (by omega)
          · skip
            refine sA_aload_n dd_X5_tryTwists_109 rfl (.tail _ (.tail _ (.tail _ (.tail _ (.head _))))) ?_
            refine sA_getr (ci := 5) (j := 3) (q := (RX5, TX5, 6)) dd_X5_tryTwists_110 rfl (by decide) fl_X5_17 (by decide) gs_s30 rfl ?_
            refine sA_iload dd_X5_tryTwists_113 (.tail _ (.head _)) ?_
            refine sA_iald (n := 16) dd_X5_tryTwists_115 (by decide) gs_s32 (by omega) (by decide) ?_
            refine sA_iload dd_X5_tryTwists_116 (.tail _ (.tail _ (.head _))) ?_
            refine sA_icmp_eq (tgt := 124) dd_X5_tryTwists_118 (by decide) (by omega) (by omega) (fun q84 => ?_) (fun q84 => ?_)
            · skip
              refine sA_aload_n dd_X5_tryTwists_124 rfl (.tail _ (.tail _ (.tail _ (.tail _ (.head _))))) ?_
              refine sA_getr (ci := 5) (j := 2) (q := (RX5, TX5, 6)) dd_X5_tryTwists_125 rfl (by decide) fl_X5_11 (by decide) gs_s30 rfl ?_
              refine sA_iload_n dd_X5_tryTwists_128 rfl (.tail _ (.tail _ (.tail _ (.tail _ (.tail _ (.head _)))))) ?_
              refine sA_iconst (z := 1) dd_X5_tryTwists_129 ?_
              refine sA_iadd dd_X5_tryTwists_130 ?_
              show sA _ _ _ _ _ (gs_iv 2 :: _) _ _
              refine sA_aald (n := 4) dd_X5_tryTwists_131 (by decide) (by decide) (by decide) gs_s31 (by omega) (by decide) ?_
              show sA _ _ _ _ _ (.ref 39 :: _) _ _
              refine sA_astore (lv' := [(9, .ref 39), (8, gs_iv w3), (7, gs_iv u), (6, gs_iv sz), (5, gs_iv lt), (0, .ref 30), (1, gs_iv 1), (2, gs_iv k), (3, gs_iv r), (4, gs_iv wt)]) dd_X5_tryTwists_132 (by decide) rfl ?_
              refine sA_aload dd_X5_tryTwists_134 (.head _) ?_
              refine sA_aload_n dd_X5_tryTwists_136 rfl (.tail _ (.tail _ (.tail _ (.tail _ (.tail _ (.head _)))))) ?_
              refine sA_getr (ci := 5) (j := 2) (q := (RX5, TX5, 6)) dd_X5_tryTwists_137 rfl (by decide) fl_X5_11 (by decide) gs_s30 rfl ?_
              refine sA_iload_n dd_X5_tryTwists_140 rfl (.tail _ (.tail _ (.tail _ (.tail _ (.tail _ (.tail _ (.head _))))))) ?_
              refine sA_aald (n := 4) dd_X5_tryTwists_141 (by decide) (by decide) (by decide) gs_s31 (by omega) (by decide) ?_
              show sA _ _ _ _ _ (.ref 37 :: _) _ _
              refine sA_callV (y2 := m_X4_copy) (n2 := 1) (d2 := 1) (a := 39) (ci := 4) (q := (RX4, TX4, 2)) (as := [.ref 37]) (rest := []) dd_X5_tryTwists_142 ok_X4_copy ml_X5_36 rfl rfl (Nat.lt_of_succ_lt gs_row_39.1) gs_row_39.2.1 rfl rfl (Nat.le_of_ble_eq_true rfl) (by decide) (c_X4_copy hI1 gs_row_39 gs_row_37) (fun r87 F88 A89 h90 => ?_)
              obtain ⟨e92, I93, f94, x91⟩ := h90
              subst e92
              have f95 := gs_fr_tr hf1 f94 (fun b j h => by first | exact False.elim h | omega | (dsimp only at h ⊢; omega)) (fun b h => by first | exact False.elim h | omega | (dsimp only at h ⊢; omega))
              show sA _ _ _ 145 _ [] _ _
              refine sA_aload_n dd_X5_tryTwists_145 rfl (.tail _ (.tail _ (.tail _ (.tail _ (.tail _ (.head _)))))) ?_
              refine sA_getr (ci := 5) (j := 0) (q := (RX5, TX5, 6)) dd_X5_tryTwists_146 rfl (by decide) fl_X5_28 (by decide) gs_s30 rfl ?_
              refine sA_iload dd_X5_tryTwists_149 (.tail _ (.tail _ (.head _))) ?_
              refine sA_aload dd_X5_tryTwists_151 (.head _) ?_
              refine sA_callV (y2 := m_X7_doTwist) (n2 := 2) (d2 := 2) (a := 5) (ci := 7) (q := (RX7, TX7, 5)) (as := [gs_iv u, .ref 39]) (rest := []) dd_X5_tryTwists_153 ok_X7_doTwist ml_X5_69 rfl rfl (by decide) gs_s5 rfl rfl (Nat.le_of_ble_eq_true rfl) (by decide) (c_X7_doTwist I93 (by omega) gs_row_39) (fun r96 F97 A98 h99 => ?_)
              obtain ⟨z102, e101, I103, f104, x100⟩ := h99
              subst e101
              have f105 := gs_fr_tr f95 f104 (fun b j h => by first | exact False.elim h | omega | (dsimp only at h ⊢; omega)) (fun b h => by first | exact False.elim h | omega | (dsimp only at h ⊢; omega))
              show sA _ _ _ 156 _ [gs_iv z102] _ _
              refine sA_if_ne (tgt := 162) dd_X5_tryTwists_156 (by decide) (by omega) (fun q106 => ?_) (fun q106 => ?_)
              · skip
                refine sA_iload dd_X5_tryTwists_162 (.tail _ (.tail _ (.tail _ (.tail _ (.head _))))) ?_
                refine sA_if_ne (tgt := 192) dd_X5_tryTwists_164 (by decide) (by omega) (fun q107 => ?_) (fun q107 => absurd q107 (by omega))
                refine sA_aload dd_X5_tryTwists_192 (.head _) ?_
                refine sA_aload_n dd_X5_tryTwists_194 rfl (.tail _ (.tail _ (.tail _ (.tail _ (.tail _ (.head _)))))) ?_
                refine sA_getr (ci := 5) (j := 4) (q := (RX5, TX5, 6)) dd_X5_tryTwists_195 rfl (by decide) fl_X5_24 (by decide) gs_s30 rfl ?_
                refine sA_callV (y2 := m_X4_isOneWith) (n2 := 1) (d2 := 2) (a := 39) (ci := 4) (q := (RX4, TX4, 2)) (as := [.ref 33]) (rest := []) dd_X5_tryTwists_198 ok_X4_isOneWith ml_X5_43 rfl rfl (Nat.lt_of_succ_lt gs_row_39.1) gs_row_39.2.1 rfl rfl (Nat.le_of_ble_eq_true rfl) (by decide) (c_X4_isOneWith I103 gs_row_39 gs_row_33) (fun r108 F109 A110 h111 => ?_)
                obtain ⟨z114, e113, e115, e116, x112⟩ := h111
                subst e113 e115 e116
                show sA _ _ _ 201 _ [gs_iv z114] _ _
                refine sA_if_eq (tgt := 210) dd_X5_tryTwists_201 (by decide) (by omega) (fun q117 => ?_) (fun q117 => ?_)
                · skip
                  refine sA_iinc (lv' := [(7, gs_iv (u + 1)), (9, .ref 39), (8, gs_iv w3), (6, gs_iv sz), (5, gs_iv lt), (0, .ref 30), (1, gs_iv 1), (2, gs_iv k), (3, gs_iv r), (4, gs_iv wt)]) dd_X5_tryTwists_210 (.tail _ (.tail _ (.head _))) (by decide) rfl ?_
                  refine sA_goto (tgt := 47) dd_X5_tryTwists_213 (by decide) ?_
                  refine sA_sub (lv2 := [(7, gs_iv (u + 1)), (6, gs_iv sz), (5, gs_iv lt), (0, .ref 30), (1, gs_iv 1), (2, gs_iv k), (3, gs_iv r), (4, gs_iv wt)]) (List.forall_mem_cons.mpr ⟨(.head _), (List.forall_mem_cons.mpr ⟨(.tail _ (.tail _ (.tail _ (.head _)))), (List.forall_mem_cons.mpr ⟨(.tail _ (.tail _ (.tail _ (.tail _ (.head _))))), (List.forall_mem_cons.mpr ⟨(.tail _ (.tail _ (.tail _ (.tail _ (.tail _ (.head _)))))), (List.forall_mem_cons.mpr ⟨(.tail _ (.tail _ (.tail _ (.tail _ (.tail _ (.tail _ (.head _))))))), (List.forall_mem_cons.mpr ⟨(.tail _ (.tail _ (.tail _ (.tail _ (.tail _ (.tail _ (.tail _ (.head _)))))))), (List.forall_mem_cons.mpr ⟨(.tail _ (.tail _ (.tail _ (.tail _ (.tail _ (.tail _ (.tail _ (.tail _ (.head _))))))))), (List.forall_mem_cons.mpr ⟨(.tail _ (.tail _ (.tail _ (.tail _ (.tail _ (.tail _ (.tail _ (.tail _ (.tail _ (.head _)))))))))), (fun _ h => absurd h List.not_mem_nil)⟩)⟩)⟩)⟩)⟩)⟩)⟩)⟩) ?_
                  exact ih lt sz (u + 1) F97 A98 I103 f105 (by omega) (by omega) (by omega) (by omega) (by omega)
                · skip
                  refine sA_aload_n dd_X5_tryTwists_204 rfl (.tail _ (.tail _ (.tail _ (.tail _ (.tail _ (.head _)))))) ?_
                  refine sA_iload dd_X5_tryTwists_205 (.tail _ (.head _)) ?_
                  refine sA_put (ci := 5) (j := 5) (q := (RX5, TX5, 6)) (ty := .int) dd_X5_tryTwists_207 rfl (by decide) fl_X5_53 rfl (tyX5_ok 5 (by decide)) rfl rfl (by decide) gs_s30 rfl ?_
                  have I119 : gs_I (gs_up F97 30 5 w3) A98 := gs_I_put I103 (show (-2147483648 : Int) ≤ w3 ∧ w3 ≤ 2147483647 by omega)
                  have f120 := gs_fr_put f105 (a := 30) (z := w3) (j := 5) (by first | omega | (dsimp only; omega) | (dsimp only))
                  have v121 : gs_up F97 30 5 w3 30 5 = w3 := gs_up_self _ _ _ _
                  generalize gs_up F97 30 5 w3 = F118 at I119 f120 v121 ⊢
                  refine sA_iinc (lv' := [(7, gs_iv (u + 1)), (9, .ref 39), (8, gs_iv w3), (6, gs_iv sz), (5, gs_iv lt), (0, .ref 30), (1, gs_iv 1), (2, gs_iv k), (3, gs_iv r), (4, gs_iv wt)]) dd_X5_tryTwists_210 (.tail _ (.tail _ (.head _))) (by decide) rfl ?_
                  refine sA_goto (tgt := 47) dd_X5_tryTwists_213 (by decide) ?_
                  refine sA_sub (lv2 := [(7, gs_iv (u + 1)), (6, gs_iv sz), (5, gs_iv lt), (0, .ref 30), (1, gs_iv 1), (2, gs_iv k), (3, gs_iv r), (4, gs_iv wt)]) (List.forall_mem_cons.mpr ⟨(.head _), (List.forall_mem_cons.mpr ⟨(.tail _ (.tail _ (.tail _ (.head _)))), (List.forall_mem_cons.mpr ⟨(.tail _ (.tail _ (.tail _ (.tail _ (.head _))))), (List.forall_mem_cons.mpr ⟨(.tail _ (.tail _ (.tail _ (.tail _ (.tail _ (.head _)))))), (List.forall_mem_cons.mpr ⟨(.tail _ (.tail _ (.tail _ (.tail _ (.tail _ (.tail _ (.head _))))))), (List.forall_mem_cons.mpr ⟨(.tail _ (.tail _ (.tail _ (.tail _ (.tail _ (.tail _ (.tail _ (.head _)))))))), (List.forall_mem_cons.mpr ⟨(.tail _ (.tail _ (.tail _ (.tail _ (.tail _ (.tail _ (.tail _ (.tail _ (.head _))))))))), (List.forall_mem_cons.mpr ⟨(.tail _ (.tail _ (.tail _ (.tail _ (.tail _ (.tail _ (.tail _ (.tail _ (.tail _ (.head _)))))))))), (fun _ h => absurd h List.not_mem_nil)⟩)⟩)⟩)⟩)⟩)⟩)⟩)⟩) ?_
                  exact ih lt sz (u + 1) F118 A98 I119 f120 (by omega) (by omega) (by omega) (by omega) (by omega)
              · skip
                refine sA_goto (tgt := 210) dd_X5_tryTwists_159 (by decide) ?_
                refine sA_iinc (lv' := [(7, gs_iv (u + 1)), (9, .ref 39), (8, gs_iv w3), (6, gs_iv sz), (5, gs_iv lt), (0, .ref 30), (1, gs_iv 1), (2, gs_iv k), (3, gs_iv r), (4, gs_iv wt)]) dd_X5_tryTwists_210 (.tail _ (.tail _ (.head _))) (by decide) rfl ?_
                refine sA_goto (tgt := 47) dd_X5_tryTwists_213 (by decide) ?_
                refine sA_sub (lv2 := [(7, gs_iv (u + 1)), (6, gs_iv sz), (5, gs_iv lt), (0, .ref 30), (1, gs_iv 1), (2, gs_iv k), (3, gs_iv r), (4, gs_iv wt)]) (List.forall_mem_cons.mpr ⟨(.head _), (List.forall_mem_cons.mpr ⟨(.tail _ (.tail _ (.tail _ (.head _)))), (List.forall_mem_cons.mpr ⟨(.tail _ (.tail _ (.tail _ (.tail _ (.head _))))), (List.forall_mem_cons.mpr ⟨(.tail _ (.tail _ (.tail _ (.tail _ (.tail _ (.head _)))))), (List.forall_mem_cons.mpr ⟨(.tail _ (.tail _ (.tail _ (.tail _ (.tail _ (.tail _ (.head _))))))), (List.forall_mem_cons.mpr ⟨(.tail _ (.tail _ (.tail _ (.tail _ (.tail _ (.tail _ (.tail _ (.head _)))))))), (List.forall_mem_cons.mpr ⟨(.tail _ (.tail _ (.tail _ (.tail _ (.tail _ (.tail _ (.tail _ (.tail _ (.head _))))))))), (List.forall_mem_cons.mpr ⟨(.tail _ (.tail _ (.tail _ (.tail _ (.tail _ (.tail _ (.tail _ (.tail _ (.tail _ (.head _)))))))))), (fun _ h => absurd h List.not_mem_nil)⟩)⟩)⟩)⟩)⟩)⟩)⟩)⟩) ?_
                exact ih lt sz (u + 1) F97 A98 I103 f105 (by omega) (by omega) (by omega) (by omega) (by omega)
            · skip
              refine sA_goto (tgt := 210) dd_X5_tryTwists_121 (by decide) ?_
              refine sA_iinc (lv' := [(7, gs_iv (u + 1)), (8, gs_iv w3), (6, gs_iv sz), (5, gs_iv lt), (0, .ref 30), (1, gs_iv 1), (2, gs_iv k), (3, gs_iv r), (4, gs_iv wt)]) dd_X5_tryTwists_210 (.tail _ (.head _)) (by decide) rfl ?_
              refine sA_goto (tgt := 47) dd_X5_tryTwists_213 (by decide) ?_
              refine sA_sub (lv2 := [(7, gs_iv (u + 1)), (6, gs_iv sz), (5, gs_iv lt), (0, .ref 30), (1, gs_iv 1), (2, gs_iv k), (3, gs_iv r), (4, gs_iv wt)]) (List.forall_mem_cons.mpr ⟨(.head _), (List.forall_mem_cons.mpr ⟨(.tail _ (.tail _ (.head _))), (List.forall_mem_cons.mpr ⟨(.tail _ (.tail _ (.tail _ (.head _)))), (List.forall_mem_cons.mpr ⟨(.tail _ (.tail _ (.tail _ (.tail _ (.head _))))), (List.forall_mem_cons.mpr ⟨(.tail _ (.tail _ (.tail _ (.tail _ (.tail _ (.head _)))))), (List.forall_mem_cons.mpr ⟨(.tail _ (.tail _ (.tail _ (.tail _ (.tail _ (.tail _ (.head _))))))), (List.forall_mem_cons.mpr ⟨(.tail _ (.tail _ (.tail _ (.tail _ (.tail _ (.tail _ (.tail _ (.head _)))))))), (List.forall_mem_cons.mpr ⟨(.tail _ (.tail _ (.tail _ (.tail _ (.tail _ (.tail _ (.tail _ (.tail _ (.head _))))))))), (fun _ h => absurd h List.not_mem_nil)⟩)⟩)⟩)⟩)⟩)⟩)⟩)⟩) ?_
              exact ih lt sz (u + 1) F1 A1 hI1 hf1 (by omega) (by omega) (by omega) (by omega) (by omega)
        · skip
          refine sA_iload dd_X5_tryTwists_83 (.head _) ?_
          refine sA_aload_n dd_X5_tryTwists_85 rfl (.tail _ (.tail _ (.tail _ (.tail _ (.head _))))) ?_
          refine sA_geti (ci := 5) (j := 5) (q := (RX5, TX5, 6)) dd_X5_tryTwists_86 rfl (by decide) fl_X5_53 (by decide) gs_s30 rfl ?_
          refine sA_icmp_lt (tgt := 93) dd_X5_tryTwists_89 (by decide) (by omega) (by omega) (fun q122 => ?_) (fun q122 => ?_)
          · skip
            refine sA_iload dd_X5_tryTwists_93 (.tail _ (.tail _ (.tail _ (.head _)))) ?_
            refine sA_if_eq (tgt := 124) dd_X5_tryTwists_95 (by decide) (by omega) (fun q123 => absurd q123 (by omega)) (fun q123 => ?_)
            refine sA_aload_n dd_X5_tryTwists_98 rfl (.tail _ (.tail _ (.tail _ (.tail _ (.head _))))) ?_
            refine sA_getr (ci := 5) (j := 3) (q := (RX5, TX5, 6)) dd_X5_tryTwists_99 rfl (by decide) fl_X5_17 (by decide) gs_s30 rfl ?_
            refine sA_iload dd_X5_tryTwists_102 (.tail _ (.head _)) ?_
            refine sA_iald (n := 16) dd_X5_tryTwists_104 (by decide) gs_s32 (by omega) (by decide) ?_
            have b124 : (-2147483648 : Int) ≤ A1 32 u.toNat ∧ A1 32 u.toNat ≤ 2147483647 := hI1.2 32 u.toNat
            refine sA_iconst (z := (-1)) dd_X5_tryTwists_105 ?_
            refine sA_icmp_eq (tgt := 124) dd_X5_tryTwists_106 (by decide) (by omega) (by omega) (fun q125 => ?_) (fun q125 => ?_)
            · skip
              refine sA_aload_n dd_X5_tryTwists_124 rfl (.tail _ (.tail _ (.tail _ (.tail _ (.head _))))) ?_
              refine sA_getr (ci := 5) (j := 2) (q := (RX5, TX5, 6)) dd_X5_tryTwists_125 rfl (by decide) fl_X5_11 (by decide) gs_s30 rfl ?_
              refine sA_iload_n dd_X5_tryTwists_128 rfl (.tail _ (.tail _ (.tail _ (.tail _ (.tail _ (.head _)))))) ?_
              refine sA_iconst (z := 1) dd_X5_tryTwists_129 ?_
              refine sA_iadd dd_X5_tryTwists_130 ?_
              show sA _ _ _ _ _ (gs_iv 2 :: _) _ _
              refine sA_aald (n := 4) dd_X5_tryTwists_131 (by decide) (by decide) (by decide) gs_s31 (by omega) (by decide) ?_
              show sA _ _ _ _ _ (.ref 39 :: _) _ _
              refine sA_astore (lv' := [(9, .ref 39), (8, gs_iv w3), (7, gs_iv u), (6, gs_iv sz), (5, gs_iv lt), (0, .ref 30), (1, gs_iv 1), (2, gs_iv k), (3, gs_iv r), (4, gs_iv wt)]) dd_X5_tryTwists_132 (by decide) rfl ?_
              refine sA_aload dd_X5_tryTwists_134 (.head _) ?_
              refine sA_aload_n dd_X5_tryTwists_136 rfl (.tail _ (.tail _ (.tail _ (.tail _ (.tail _ (.head _)))))) ?_
              refine sA_getr (ci := 5) (j := 2) (q := (RX5, TX5, 6)) dd_X5_tryTwists_137 rfl (by decide) fl_X5_11 (by decide) gs_s30 rfl ?_
              refine sA_iload_n dd_X5_tryTwists_140 rfl (.tail _ (.tail _ (.tail _ (.tail _ (.tail _ (.tail _ (.head _))))))) ?_
              refine sA_aald (n := 4) dd_X5_tryTwists_141 (by decide) (by decide) (by decide) gs_s31 (by omega) (by decide) ?_
              show sA _ _ _ _ _ (.ref 37 :: _) _ _
              refine sA_callV (y2 := m_X4_copy) (n2 := 1) (d2 := 1) (a := 39) (ci := 4) (q := (RX4, TX4, 2)) (as := [.ref 37]) (rest := []) dd_X5_tryTwists_142 ok_X4_copy ml_X5_36 rfl rfl (Nat.lt_of_succ_lt gs_row_39.1) gs_row_39.2.1 rfl rfl (Nat.le_of_ble_eq_true rfl) (by decide) (c_X4_copy hI1 gs_row_39 gs_row_37) (fun r128 F129 A130 h131 => ?_)
              obtain ⟨e133, I134, f135, x132⟩ := h131
              subst e133
              have f136 := gs_fr_tr hf1 f135 (fun b j h => by first | exact False.elim h | omega | (dsimp only at h ⊢; omega)) (fun b h => by first | exact False.elim h | omega | (dsimp only at h ⊢; omega))
              show sA _ _ _ 145 _ [] _ _
              refine sA_aload_n dd_X5_tryTwists_145 rfl (.tail _ (.tail _ (.tail _ (.tail _ (.tail _ (.head _)))))) ?_
              refine sA_getr (ci := 5) (j := 0) (q := (RX5, TX5, 6)) dd_X5_tryTwists_146 rfl (by decide) fl_X5_28 (by decide) gs_s30 rfl ?_
              refine sA_iload dd_X5_tryTwists_149 (.tail _ (.tail _ (.head _))) ?_
              refine sA_aload dd_X5_tryTwists_151 (.head _) ?_
              refine sA_callV (y2 := m_X7_doTwist) (n2 := 2) (d2 := 2) (a := 5) (ci := 7) (q := (RX7, TX7, 5)) (as := [gs_iv u, .ref 39]) (rest := []) dd_X5_tryTwists_153 ok_X7_doTwist ml_X5_69 rfl rfl (by decide) gs_s5 rfl rfl (Nat.le_of_ble_eq_true rfl) (by decide) (c_X7_doTwist I134 (by omega) gs_row_39) (fun r137 F138 A139 h140 => ?_)
              obtain ⟨z143, e142, I144, f145, x141⟩ := h140
              subst e142
              have f146 := gs_fr_tr f136 f145 (fun b j h => by first | exact False.elim h | omega | (dsimp only at h ⊢; omega)) (fun b h => by first | exact False.elim h | omega | (dsimp only at h ⊢; omega))
              show sA _ _ _ 156 _ [gs_iv z143] _ _
              refine sA_if_ne (tgt := 162) dd_X5_tryTwists_156 (by decide) (by omega) (fun q147 => ?_) (fun q147 => ?_)
              · skip
                refine sA_iload dd_X5_tryTwists_162 (.tail _ (.tail _ (.tail _ (.tail _ (.head _))))) ?_
                refine sA_if_ne (tgt := 192) dd_X5_tryTwists_164 (by decide) (by omega) (fun q148 => ?_) (fun q148 => absurd q148 (by omega))
                refine sA_aload dd_X5_tryTwists_192 (.head _) ?_
                refine sA_aload_n dd_X5_tryTwists_194 rfl (.tail _ (.tail _ (.tail _ (.tail _ (.tail _ (.head _)))))) ?_
                refine sA_getr (ci := 5) (j := 4) (q := (RX5, TX5, 6)) dd_X5_tryTwists_195 rfl (by decide) fl_X5_24 (by decide) gs_s30 rfl ?_
                refine sA_callV (y2 := m_X4_isOneWith) (n2 := 1) (d2 := 2) (a := 39) (ci := 4) (q := (RX4, TX4, 2)) (as := [.ref 33]) (rest := []) dd_X5_tryTwists_198 ok_X4_isOneWith ml_X5_43 rfl rfl (Nat.lt_of_succ_lt gs_row_39.1) gs_row_39.2.1 rfl rfl (Nat.le_of_ble_eq_true rfl) (by decide) (c_X4_isOneWith I144 gs_row_39 gs_row_33) (fun r149 F150 A151 h152 => ?_)
                obtain ⟨z155, e154, e156, e157, x153⟩ := h152
                subst e154 e156 e157
                show sA _ _ _ 201 _ [gs_iv z155] _ _
                refine sA_if_eq (tgt := 210) dd_X5_tryTwists_201 (by decide) (by omega) (fun q158 => ?_) (fun q158 => ?_)
                · skip
                  refine sA_iinc (lv' := [(7, gs_iv (u + 1)), (9, .ref 39), (8, gs_iv w3), (6, gs_iv sz), (5, gs_iv lt), (0, .ref 30), (1, gs_iv 1), (2, gs_iv k), (3, gs_iv r), (4, gs_iv wt)]) dd_X5_tryTwists_210 (.tail _ (.tail _ (.head _))) (by decide) rfl ?_
                  refine sA_goto (tgt := 47) dd_X5_tryTwists_213 (by decide) ?_
                  refine sA_sub (lv2 := [(7, gs_iv (u + 1)), (6, gs_iv sz), (5, gs_iv lt), (0, .ref 30), (1, gs_iv 1), (2, gs_iv k), (3, gs_iv r), (4, gs_iv wt)]) (List.forall_mem_cons.mpr ⟨(.head _), (List.forall_mem_cons.mpr ⟨(.tail _ (.tail _ (.tail _ (.head _)))), (List.forall_mem_cons.mpr ⟨(.tail _ (.tail _ (.tail _ (.tail _ (.head _))))), (List.forall_mem_cons.mpr ⟨(.tail _ (.tail _ (.tail _ (.tail _ (.tail _ (.head _)))))), (List.forall_mem_cons.mpr ⟨(.tail _ (.tail _ (.tail _ (.tail _ (.tail _ (.tail _ (.head _))))))), (List.forall_mem_cons.mpr ⟨(.tail _ (.tail _ (.tail _ (.tail _ (.tail _ (.tail _ (.tail _ (.head _)))))))), (List.forall_mem_cons.mpr ⟨(.tail _ (.tail _ (.tail _ (.tail _ (.tail _ (.tail _ (.tail _ (.tail _ (.head _))))))))), (List.forall_mem_cons.mpr ⟨(.tail _ (.tail _ (.tail _ (.tail _ (.tail _ (.tail _ (.tail _ (.tail _ (.tail _ (.head _)))))))))), (fun _ h => absurd h List.not_mem_nil)⟩)⟩)⟩)⟩)⟩)⟩)⟩)⟩) ?_
                  exact ih lt sz (u + 1) F138 A139 I144 f146 (by omega) (by omega) (by omega) (by omega) (by omega)
                · skip
                  refine sA_aload_n dd_X5_tryTwists_204 rfl (.tail _ (.tail _ (.tail _ (.tail _ (.tail _ (.head _)))))) ?_
                  refine sA_iload dd_X5_tryTwists_205 (.tail _ (.head _)) ?_
                  refine sA_put (ci := 5) (j := 5) (q := (RX5, TX5, 6)) (ty := .int) dd_X5_tryTwists_207 rfl (by decide) fl_X5_53 rfl (tyX5_ok 5 (by decide)) rfl rfl (by decide) gs_s30 rfl ?_
                  have I160 : gs_I (gs_up F138 30 5 w3) A139 := gs_I_put I144 (show (-2147483648 : Int) ≤ w3 ∧ w3 ≤ 2147483647 by omega)
                  have f161 := gs_fr_put f146 (a := 30) (z := w3) (j := 5) (by first | omega | (dsimp only; omega) | (dsimp only))
                  have v162 : gs_up F138 30 5 w3 30 5 = w3 := gs_up_self _ _ _ _
                  generalize gs_up F138 30 5 w3 = F159 at I160 f161 v162 ⊢
                  refine sA_iinc (lv' := [(7, gs_iv (u + 1)), (9, .ref 39), (8, gs_iv w3), (6, gs_iv sz), (5, gs_iv lt), (0, .ref 30), (1, gs_iv 1), (2, gs_iv k), (3, gs_iv r), (4, gs_iv wt)]) dd_X5_tryTwists_210 (.tail _ (.tail _ (.head _))) (by decide) rfl ?_
                  refine sA_goto (tgt := 47) dd_X5_tryTwists_213 (by decide) ?_
                  refine sA_sub (lv2 := [(7, gs_iv (u + 1)), (6, gs_iv sz), (5, gs_iv lt), (0, .ref 30), (1, gs_iv 1), (2, gs_iv k), (3, gs_iv r), (4, gs_iv wt)]) (List.forall_mem_cons.mpr ⟨(.head _), (List.forall_mem_cons.mpr ⟨(.tail _ (.tail _ (.tail _ (.head _)))), (List.forall_mem_cons.mpr ⟨(.tail _ (.tail _ (.tail _ (.tail _ (.head _))))), (List.forall_mem_cons.mpr ⟨(.tail _ (.tail _ (.tail _ (.tail _ (.tail _ (.head _)))))), (List.forall_mem_cons.mpr ⟨(.tail _ (.tail _ (.tail _ (.tail _ (.tail _ (.tail _ (.head _))))))), (List.forall_mem_cons.mpr ⟨(.tail _ (.tail _ (.tail _ (.tail _ (.tail _ (.tail _ (.tail _ (.head _)))))))), (List.forall_mem_cons.mpr ⟨(.tail _ (.tail _ (.tail _ (.tail _ (.tail _ (.tail _ (.tail _ (.tail _ (.head _))))))))), (List.forall_mem_cons.mpr ⟨(.tail _ (.tail _ (.tail _ (.tail _ (.tail _ (.tail _ (.tail _ (.tail _ (.tail _ (.head _)))))))))), (fun _ h => absurd h List.not_mem_nil)⟩)⟩)⟩)⟩)⟩)⟩)⟩)⟩) ?_
                  exact ih lt sz (u + 1) F159 A139 I160 f161 (by omega) (by omega) (by omega) (by omega) (by omega)
              · skip
                refine sA_goto (tgt := 210) dd_X5_tryTwists_159 (by decide) ?_
                refine sA_iinc (lv' := [(7, gs_iv (u + 1)), (9, .ref 39), (8, gs_iv w3), (6, gs_iv sz), (5, gs_iv lt), (0, .ref 30), (1, gs_iv 1), (2, gs_iv k), (3, gs_iv r), (4, gs_iv wt)]) dd_X5_tryTwists_210 (.tail _ (.tail _ (.head _))) (by decide) rfl ?_
                refine sA_goto (tgt := 47) dd_X5_tryTwists_213 (by decide) ?_
                refine sA_sub (lv2 := [(7, gs_iv (u + 1)), (6, gs_iv sz), (5, gs_iv lt), (0, .ref 30), (1, gs_iv 1), (2, gs_iv k), (3, gs_iv r), (4, gs_iv wt)]) (List.forall_mem_cons.mpr ⟨(.head _), (List.forall_mem_cons.mpr ⟨(.tail _ (.tail _ (.tail _ (.head _)))), (List.forall_mem_cons.mpr ⟨(.tail _ (.tail _ (.tail _ (.tail _ (.head _))))), (List.forall_mem_cons.mpr ⟨(.tail _ (.tail _ (.tail _ (.tail _ (.tail _ (.head _)))))), (List.forall_mem_cons.mpr ⟨(.tail _ (.tail _ (.tail _ (.tail _ (.tail _ (.tail _ (.head _))))))), (List.forall_mem_cons.mpr ⟨(.tail _ (.tail _ (.tail _ (.tail _ (.tail _ (.tail _ (.tail _ (.head _)))))))), (List.forall_mem_cons.mpr ⟨(.tail _ (.tail _ (.tail _ (.tail _ (.tail _ (.tail _ (.tail _ (.tail _ (.head _))))))))), (List.forall_mem_cons.mpr ⟨(.tail _ (.tail _ (.tail _ (.tail _ (.tail _ (.tail _ (.tail _ (.tail _ (.tail _ (.head _)))))))))), (fun _ h => absurd h List.not_mem_nil)⟩)⟩)⟩)⟩)⟩)⟩)⟩)⟩) ?_
                exact ih lt sz (u + 1) F138 A139 I144 f146 (by omega) (by omega) (by omega) (by omega) (by omega)
            · skip
              refine sA_aload_n dd_X5_tryTwists_109 rfl (.tail _ (.tail _ (.tail _ (.tail _ (.head _))))) ?_
              refine sA_getr (ci := 5) (j := 3) (q := (RX5, TX5, 6)) dd_X5_tryTwists_110 rfl (by decide) fl_X5_17 (by decide) gs_s30 rfl ?_
              refine sA_iload dd_X5_tryTwists_113 (.tail _ (.head _)) ?_
              refine sA_iald (n := 16) dd_X5_tryTwists_115 (by decide) gs_s32 (by omega) (by decide) ?_
              refine sA_iload dd_X5_tryTwists_116 (.tail _ (.tail _ (.head _))) ?_
              refine sA_icmp_eq (tgt := 124) dd_X5_tryTwists_118 (by decide) (by omega) (by omega) (fun q163 => ?_) (fun q163 => ?_)
              · skip
                refine sA_aload_n dd_X5_tryTwists_124 rfl (.tail _ (.tail _ (.tail _ (.tail _ (.head _))))) ?_
                refine sA_getr (ci := 5) (j := 2) (q := (RX5, TX5, 6)) dd_X5_tryTwists_125 rfl (by decide) fl_X5_11 (by decide) gs_s30 rfl ?_
                refine sA_iload_n dd_X5_tryTwists_128 rfl (.tail _ (.tail _ (.tail _ (.tail _ (.tail _ (.head _)))))) ?_
                refine sA_iconst (z := 1) dd_X5_tryTwists_129 ?_
                refine sA_iadd dd_X5_tryTwists_130 ?_
                show sA _ _ _ _ _ (gs_iv 2 :: _) _ _
                refine sA_aald (n := 4) dd_X5_tryTwists_131 (by decide) (by decide) (by decide) gs_s31 (by omega) (by decide) ?_
                show sA _ _ _ _ _ (.ref 39 :: _) _ _
                refine sA_astore (lv' := [(9, .ref 39), (8, gs_iv w3), (7, gs_iv u), (6, gs_iv sz), (5, gs_iv lt), (0, .ref 30), (1, gs_iv 1), (2, gs_iv k), (3, gs_iv r), (4, gs_iv wt)]) dd_X5_tryTwists_132 (by decide) rfl ?_
                refine sA_aload dd_X5_tryTwists_134 (.head _) ?_
                refine sA_aload_n dd_X5_tryTwists_136 rfl (.tail _ (.tail _ (.tail _ (.tail _ (.tail _ (.head _)))))) ?_
                refine sA_getr (ci := 5) (j := 2) (q := (RX5, TX5, 6)) dd_X5_tryTwists_137 rfl (by decide) fl_X5_11 (by decide) gs_s30 rfl ?_
                refine sA_iload_n dd_X5_tryTwists_140 rfl (.tail _ (.tail _ (.tail _ (.tail _ (.tail _ (.tail _ (.head _))))))) ?_
                refine sA_aald (n := 4) dd_X5_tryTwists_141 (by decide) (by decide) (by decide) gs_s31 (by omega) (by decide) ?_
                show sA _ _ _ _ _ (.ref 37 :: _) _ _
                refine sA_callV (y2 := m_X4_copy) (n2 := 1) (d2 := 1) (a := 39) (ci := 4) (q := (RX4, TX4, 2)) (as := [.ref 37]) (rest := []) dd_X5_tryTwists_142 ok_X4_copy ml_X5_36 rfl rfl (Nat.lt_of_succ_lt gs_row_39.1) gs_row_39.2.1 rfl rfl (Nat.le_of_ble_eq_true rfl) (by decide) (c_X4_copy hI1 gs_row_39 gs_row_37) (fun r166 F167 A168 h169 => ?_)
                obtain ⟨e171, I172, f173, x170⟩ := h169
                subst e171
                have f174 := gs_fr_tr hf1 f173 (fun b j h => by first | exact False.elim h | omega | (dsimp only at h ⊢; omega)) (fun b h => by first | exact False.elim h | omega | (dsimp only at h ⊢; omega))
                show sA _ _ _ 145 _ [] _ _
                refine sA_aload_n dd_X5_tryTwists_145 rfl (.tail _ (.tail _ (.tail _ (.tail _ (.tail _ (.head _)))))) ?_
                refine sA_getr (ci := 5) (j := 0) (q := (RX5, TX5, 6)) dd_X5_tryTwists_146 rfl (by decide) fl_X5_28 (by decide) gs_s30 rfl ?_
                refine sA_iload dd_X5_tryTwists_149 (.tail _ (.tail _ (.head _))) ?_
                refine sA_aload dd_X5_tryTwists_151 (.head _) ?_
                refine sA_callV (y2 := m_X7_doTwist) (n2 := 2) (d2 := 2) (a := 5) (ci := 7) (q := (RX7, TX7, 5)) (as := [gs_iv u, .ref 39]) (rest := []) dd_X5_tryTwists_153 ok_X7_doTwist ml_X5_69 rfl rfl (by decide) gs_s5 rfl rfl (Nat.le_of_ble_eq_true rfl) (by decide) (c_X7_doTwist I172 (by omega) gs_row_39) (fun r175 F176 A177 h178 => ?_)
                obtain ⟨z181, e180, I182, f183, x179⟩ := h178
                subst e180
                have f184 := gs_fr_tr f174 f183 (fun b j h => by first | exact False.elim h | omega | (dsimp only at h ⊢; omega)) (fun b h => by first | exact False.elim h | omega | (dsimp only at h ⊢; omega))
                show sA _ _ _ 156 _ [gs_iv z181] _ _
                refine sA_if_ne (tgt := 162) dd_X5_tryTwists_156 (by decide) (by omega) (fun q185 => ?_) (fun q185 => ?_)
                · skip
                  refine sA_iload dd_X5_tryTwists_162 (.tail _ (.tail _ (.tail _ (.tail _ (.head _))))) ?_
                  refine sA_if_ne (tgt := 192) dd_X5_tryTwists_164 (by decide) (by omega) (fun q186 => ?_) (fun q186 => absurd q186 (by omega))
                  refine sA_aload dd_X5_tryTwists_192 (.head _) ?_
                  refine sA_aload_n dd_X5_tryTwists_194 rfl (.tail _ (.tail _ (.tail _ (.tail _ (.tail _ (.head _)))))) ?_
                  refine sA_getr (ci := 5) (j := 4) (q := (RX5, TX5, 6)) dd_X5_tryTwists_195 rfl (by decide) fl_X5_24 (by decide) gs_s30 rfl ?_
                  refine sA_callV (y2 := m_X4_isOneWith) (n2 := 1) (d2 := 2) (a := 39) (ci := 4) (q := (RX4, TX4, 2)) (as := [.ref 33]) (rest := []) dd_X5_tryTwists_198 ok_X4_isOneWith ml_X5_43 rfl rfl (Nat.lt_of_succ_lt gs_row_39.1) gs_row_39.2.1 rfl rfl (Nat.le_of_ble_eq_true rfl) (by decide) (c_X4_isOneWith I182 gs_row_39 gs_row_33) (fun r187 F188 A189 h190 => ?_)
                  obtain ⟨z193, e192, e194, e195, x191⟩ := h190
                  subst e192 e194 e195
                  show sA _ _ _ 201 _ [gs_iv z193] _ _
                  refine sA_if_eq (tgt := 210) dd_X5_tryTwists_201 (by decide) (by omega) (fun q196 => ?_) (fun q196 => ?_)
                  · skip
                    refine sA_iinc (lv' := [(7, gs_iv (u + 1)), (9, .ref 39), (8, gs_iv w3), (6, gs_iv sz), (5, gs_iv lt), (0, .ref 30), (1, gs_iv 1), (2, gs_iv k), (3, gs_iv r), (4, gs_iv wt)]) dd_X5_tryTwists_210 (.tail _ (.tail _ (.head _))) (by decide) rfl ?_
                    refine sA_goto (tgt := 47) dd_X5_tryTwists_213 (by decide) ?_
                    refine sA_sub (lv2 := [(7, gs_iv (u + 1)), (6, gs_iv sz), (5, gs_iv lt), (0, .ref 30), (1, gs_iv 1), (2, gs_iv k), (3, gs_iv r), (4, gs_iv wt)]) (List.forall_mem_cons.mpr ⟨(.head _), (List.forall_mem_cons.mpr ⟨(.tail _ (.tail _ (.tail _ (.head _)))), (List.forall_mem_cons.mpr ⟨(.tail _ (.tail _ (.tail _ (.tail _ (.head _))))), (List.forall_mem_cons.mpr ⟨(.tail _ (.tail _ (.tail _ (.tail _ (.tail _ (.head _)))))), (List.forall_mem_cons.mpr ⟨(.tail _ (.tail _ (.tail _ (.tail _ (.tail _ (.tail _ (.head _))))))), (List.forall_mem_cons.mpr ⟨(.tail _ (.tail _ (.tail _ (.tail _ (.tail _ (.tail _ (.tail _ (.head _)))))))), (List.forall_mem_cons.mpr ⟨(.tail _ (.tail _ (.tail _ (.tail _ (.tail _ (.tail _ (.tail _ (.tail _ (.head _))))))))), (List.forall_mem_cons.mpr ⟨(.tail _ (.tail _ (.tail _ (.tail _ (.tail _ (.tail _ (.tail _ (.tail _ (.tail _ (.head _)))))))))), (fun _ h => absurd h List.not_mem_nil)⟩)⟩)⟩)⟩)⟩)⟩)⟩)⟩) ?_
                    exact ih lt sz (u + 1) F176 A177 I182 f184 (by omega) (by omega) (by omega) (by omega) (by omega)
                  · skip
                    refine sA_aload_n dd_X5_tryTwists_204 rfl (.tail _ (.tail _ (.tail _ (.tail _ (.tail _ (.head _)))))) ?_
                    refine sA_iload dd_X5_tryTwists_205 (.tail _ (.head _)) ?_
                    refine sA_put (ci := 5) (j := 5) (q := (RX5, TX5, 6)) (ty := .int) dd_X5_tryTwists_207 rfl (by decide) fl_X5_53 rfl (tyX5_ok 5 (by decide)) rfl rfl (by decide) gs_s30 rfl ?_
                    have I198 : gs_I (gs_up F176 30 5 w3) A177 := gs_I_put I182 (show (-2147483648 : Int) ≤ w3 ∧ w3 ≤ 2147483647 by omega)
                    have f199 := gs_fr_put f184 (a := 30) (z := w3) (j := 5) (by first | omega | (dsimp only; omega) | (dsimp only))
                    have v200 : gs_up F176 30 5 w3 30 5 = w3 := gs_up_self _ _ _ _
                    generalize gs_up F176 30 5 w3 = F197 at I198 f199 v200 ⊢
                    refine sA_iinc (lv' := [(7, gs_iv (u + 1)), (9, .ref 39), (8, gs_iv w3), (6, gs_iv sz), (5, gs_iv lt), (0, .ref 30), (1, gs_iv 1), (2, gs_iv k), (3, gs_iv r), (4, gs_iv wt)]) dd_X5_tryTwists_210 (.tail _ (.tail _ (.head _))) (by decide) rfl ?_
                    refine sA_goto (tgt := 47) dd_X5_tryTwists_213 (by decide) ?_
                    refine sA_sub (lv2 := [(7, gs_iv (u + 1)), (6, gs_iv sz), (5, gs_iv lt), (0, .ref 30), (1, gs_iv 1), (2, gs_iv k), (3, gs_iv r), (4, gs_iv wt)]) (List.forall_mem_cons.mpr ⟨(.head _), (List.forall_mem_cons.mpr ⟨(.tail _ (.tail _ (.tail _ (.head _)))), (List.forall_mem_cons.mpr ⟨(.tail _ (.tail _ (.tail _ (.tail _ (.head _))))), (List.forall_mem_cons.mpr ⟨(.tail _ (.tail _ (.tail _ (.tail _ (.tail _ (.head _)))))), (List.forall_mem_cons.mpr ⟨(.tail _ (.tail _ (.tail _ (.tail _ (.tail _ (.tail _ (.head _))))))), (List.forall_mem_cons.mpr ⟨(.tail _ (.tail _ (.tail _ (.tail _ (.tail _ (.tail _ (.tail _ (.head _)))))))), (List.forall_mem_cons.mpr ⟨(.tail _ (.tail _ (.tail _ (.tail _ (.tail _ (.tail _ (.tail _ (.tail _ (.head _))))))))), (List.forall_mem_cons.mpr ⟨(.tail _ (.tail _ (.tail _ (.tail _ (.tail _ (.tail _ (.tail _ (.tail _ (.tail _ (.head _)))))))))), (fun _ h => absurd h List.not_mem_nil)⟩)⟩)⟩)⟩)⟩)⟩)⟩)⟩) ?_
                    exact ih lt sz (u + 1) F197 A177 I198 f199 (by omega) (by omega) (by omega) (by omega) (by omega)
                · skip
                  refine sA_goto (tgt := 210) dd_X5_tryTwists_159 (by decide) ?_
                  refine sA_iinc (lv' := [(7, gs_iv (u + 1)), (9, .ref 39), (8, gs_iv w3), (6, gs_iv sz), (5, gs_iv lt), (0, .ref 30), (1, gs_iv 1), (2, gs_iv k), (3, gs_iv r), (4, gs_iv wt)]) dd_X5_tryTwists_210 (.tail _ (.tail _ (.head _))) (by decide) rfl ?_
                  refine sA_goto (tgt := 47) dd_X5_tryTwists_213 (by decide) ?_
                  refine sA_sub (lv2 := [(7, gs_iv (u + 1)), (6, gs_iv sz), (5, gs_iv lt), (0, .ref 30), (1, gs_iv 1), (2, gs_iv k), (3, gs_iv r), (4, gs_iv wt)]) (List.forall_mem_cons.mpr ⟨(.head _), (List.forall_mem_cons.mpr ⟨(.tail _ (.tail _ (.tail _ (.head _)))), (List.forall_mem_cons.mpr ⟨(.tail _ (.tail _ (.tail _ (.tail _ (.head _))))), (List.forall_mem_cons.mpr ⟨(.tail _ (.tail _ (.tail _ (.tail _ (.tail _ (.head _)))))), (List.forall_mem_cons.mpr ⟨(.tail _ (.tail _ (.tail _ (.tail _ (.tail _ (.tail _ (.head _))))))), (List.forall_mem_cons.mpr ⟨(.tail _ (.tail _ (.tail _ (.tail _ (.tail _ (.tail _ (.tail _ (.head _)))))))), (List.forall_mem_cons.mpr ⟨(.tail _ (.tail _ (.tail _ (.tail _ (.tail _ (.tail _ (.tail _ (.tail _ (.head _))))))))), (List.forall_mem_cons.mpr ⟨(.tail _ (.tail _ (.tail _ (.tail _ (.tail _ (.tail _ (.tail _ (.tail _ (.tail _ (.head _)))))))))), (fun _ h => absurd h List.not_mem_nil)⟩)⟩)⟩)⟩)⟩)⟩)⟩)⟩) ?_
                  exact ih lt sz (u + 1) F176 A177 I182 f184 (by omega) (by omega) (by omega) (by omega) (by omega)
              · skip
                refine sA_goto (tgt := 210) dd_X5_tryTwists_121 (by decide) ?_
                refine sA_iinc (lv' := [(7, gs_iv (u + 1)), (8, gs_iv w3), (6, gs_iv sz), (5, gs_iv lt), (0, .ref 30), (1, gs_iv 1), (2, gs_iv k), (3, gs_iv r), (4, gs_iv wt)]) dd_X5_tryTwists_210 (.tail _ (.head _)) (by decide) rfl ?_
                refine sA_goto (tgt := 47) dd_X5_tryTwists_213 (by decide) ?_
                refine sA_sub (lv2 := [(7, gs_iv (u + 1)), (6, gs_iv sz), (5, gs_iv lt), (0, .ref 30), (1, gs_iv 1), (2, gs_iv k), (3, gs_iv r), (4, gs_iv wt)]) (List.forall_mem_cons.mpr ⟨(.head _), (List.forall_mem_cons.mpr ⟨(.tail _ (.tail _ (.head _))), (List.forall_mem_cons.mpr ⟨(.tail _ (.tail _ (.tail _ (.head _)))), (List.forall_mem_cons.mpr ⟨(.tail _ (.tail _ (.tail _ (.tail _ (.head _))))), (List.forall_mem_cons.mpr ⟨(.tail _ (.tail _ (.tail _ (.tail _ (.tail _ (.head _)))))), (List.forall_mem_cons.mpr ⟨(.tail _ (.tail _ (.tail _ (.tail _ (.tail _ (.tail _ (.head _))))))), (List.forall_mem_cons.mpr ⟨(.tail _ (.tail _ (.tail _ (.tail _ (.tail _ (.tail _ (.tail _ (.head _)))))))), (List.forall_mem_cons.mpr ⟨(.tail _ (.tail _ (.tail _ (.tail _ (.tail _ (.tail _ (.tail _ (.tail _ (.head _))))))))), (fun _ h => absurd h List.not_mem_nil)⟩)⟩)⟩)⟩)⟩)⟩)⟩)⟩) ?_
                exact ih lt sz (u + 1) F1 A1 hI1 hf1 (by omega) (by omega) (by omega) (by omega) (by omega)
          · skip
            refine sA_vret dd_X5_tryTwists_92 rfl ?_
            exact ⟨rfl, hI1, hf1, trivial⟩
theorem c_X5_tryTwists_v1 {k r wt : Int} {F A : gs_F} (hI : gs_I F A) (hk : 0 ≤ k ∧ k ≤ 3) (hr0 : -2147483648 ≤ r ∧ r ≤ 2147483647) (hwt : -2147483648 ≤ wt ∧ wt ≤ 2147483647) : sC m_X5_tryTwists 5 [.ref 30, gs_iv 1, gs_iv k, gs_iv r, gs_iv wt] F A (fun rv F' A' => rv = none ∧ gs_I F' A' ∧ gs_fr (fun c j => (c = 30 ∧ j = 5) ∨ (35 ≤ c ∧ c < 43 ∧ j = 1)) (fun c => c = 7 ∨ (35 ≤ c ∧ c < 43)) F A F' A' ∧ (True)) := by
  refine sC_of ok_X5_tryTwists.1 (Nat.le_of_ble_eq_true rfl) ?_
  show sA _ _ _ 0 [(0, .ref 30), (1, gs_iv 1), (2, gs_iv k), (3, gs_iv r), (4, gs_iv wt)] [] F A
  have hf : gs_fr (fun c j => (c = 30 ∧ j = 5) ∨ (35 ≤ c ∧ c < 43 ∧ j = 1)) (fun c => c = 7 ∨ (35 ≤ c ∧ c < 43)) F A F A := gs_fr_refl _ _ _ _
  refine sA_iload_n dd_X5_tryTwists_0 rfl (.tail _ (.head _)) ?_
  refine sA_if_lt (tgt := 18) dd_X5_tryTwists_1 (by decide) (by omega) (fun q201 => absurd q201 (by omega)) (fun q201 => ?_)
  refine sA_iload_n dd_X5_tryTwists_4 rfl (.tail _ (.head _)) ?_
  refine sA_iload_n dd_X5_tryTwists_5 rfl (.tail _ (.tail _ (.head _))) ?_
  refine sA_icmp_ge (tgt := 18) dd_X5_tryTwists_6 (by decide) (by omega) (by omega) (fun q202 => ?_) (fun q202 => ?_)
  · skip
    refine sA_vret dd_X5_tryTwists_18 rfl ?_
    exact ⟨rfl, hI, hf, trivial⟩
  · skip
    refine sA_iload_n dd_X5_tryTwists_9 rfl (.tail _ (.tail _ (.head _))) ?_
    refine sA_aload_n dd_X5_tryTwists_10 rfl (.head _) ?_
    refine sA_getr (ci := 5) (j := 2) (q := (RX5, TX5, 6)) dd_X5_tryTwists_11 rfl (by decide) fl_X5_11 (by decide) gs_s30 rfl ?_
    refine sA_alenq (n := 4) dd_X5_tryTwists_14 (by decide) (by decide) gs_s31 ?_
    refine sA_icmp_lt (tgt := 19) dd_X5_tryTwists_15 (by decide) (by omega) (by omega) (fun q203 => ?_) (fun q203 => ?_)
    · skip
      refine sA_iload_n dd_X5_tryTwists_19 rfl (.tail _ (.head _)) ?_
      refine sA_iconst (z := 1) dd_X5_tryTwists_20 ?_
      refine sA_iadd dd_X5_tryTwists_21 ?_
      show sA _ _ _ _ _ (gs_iv 2 :: _) _ _
      refine sA_iload_n dd_X5_tryTwists_22 rfl (.tail _ (.tail _ (.head _))) ?_
      refine sA_icmp_ne (tgt := 30) dd_X5_tryTwists_23 (by decide) (by omega) (by omega) (fun q204 => ?_) (fun q204 => ?_)
      · skip
        refine sA_iconst (z := 0) dd_X5_tryTwists_30 ?_
        refine sA_istore (lv' := [(5, gs_iv 0), (0, .ref 30), (1, gs_iv 1), (2, gs_iv k), (3, gs_iv r), (4, gs_iv wt)]) dd_X5_tryTwists_31 (by decide) rfl ?_
        refine sA_aload_n dd_X5_tryTwists_33 rfl (.tail _ (.head _)) ?_
        refine sA_getr (ci := 5) (j := 2) (q := (RX5, TX5, 6)) dd_X5_tryTwists_34 rfl (by decide) fl_X5_11 (by decide) gs_s30 rfl ?_
        refine sA_iload_n dd_X5_tryTwists_37 rfl (.tail _ (.tail _ (.head _))) ?_
        refine sA_aald (n := 4) dd_X5_tryTwists_38 (by decide) (by decide) (by decide) gs_s31 (by omega) (by decide) ?_
        show sA _ _ _ _ _ (.ref 37 :: _) _ _
        refine sA_callV (y2 := m_X4_closedSize) (n2 := 0) (d2 := 2) (a := 37) (ci := 4) (q := (RX4, TX4, 2)) (as := []) (rest := []) dd_X5_tryTwists_39 ok_X4_closedSize ml_X5_73 rfl rfl (Nat.lt_of_succ_lt gs_row_37.1) gs_row_37.2.1 rfl rfl (Nat.le_of_ble_eq_true rfl) (by decide) (c_X4_closedSize hI gs_row_37) (fun r206 F207 A208 h209 => ?_)
        obtain ⟨z212, e211, e213, e214, x210⟩ := h209
        subst e211 e213 e214
        show sA _ _ _ 42 _ [gs_iv z212] _ _
        refine sA_istore (lv' := [(6, gs_iv z212), (5, gs_iv 0), (0, .ref 30), (1, gs_iv 1), (2, gs_iv k), (3, gs_iv r), (4, gs_iv wt)]) dd_X5_tryTwists_42 (by decide) rfl ?_
        refine sA_iconst (z := 0) dd_X5_tryTwists_44 ?_
        refine sA_istore (lv' := [(7, gs_iv 0), (6, gs_iv z212), (5, gs_iv 0), (0, .ref 30), (1, gs_iv 1), (2, gs_iv k), (3, gs_iv r), (4, gs_iv wt)]) dd_X5_tryTwists_45 (by decide) rfl ?_
        refine sA_sub (lv2 := [(7, gs_iv 0), (6, gs_iv z212), (5, gs_iv 0), (0, .ref 30), (1, gs_iv 1), (2, gs_iv k), (3, gs_iv r), (4, gs_iv wt)]) (List.forall_mem_cons.mpr ⟨(.head _), (List.forall_mem_cons.mpr ⟨(.tail _ (.head _)), (List.forall_mem_cons.mpr ⟨(.tail _ (.tail _ (.head _))), (List.forall_mem_cons.mpr ⟨(.tail _ (.tail _ (.tail _ (.head _)))), (List.forall_mem_cons.mpr ⟨(.tail _ (.tail _ (.tail _ (.tail _ (.head _))))), (List.forall_mem_cons.mpr ⟨(.tail _ (.tail _ (.tail _ (.tail _ (.tail _ (.head _)))))), (List.forall_mem_cons.mpr ⟨(.tail _ (.tail _ (.tail _ (.tail _ (.tail _ (.tail _ (.head _))))))), (List.forall_mem_cons.mpr ⟨(.tail _ (.tail _ (.tail _ (.tail _ (.tail _ (.tail _ (.tail _ (.head _)))))))), (fun _ h => absurd h List.not_mem_nil)⟩)⟩)⟩)⟩)⟩)⟩)⟩)⟩) ?_
        exact (k_X5_tryTwists_v1 hI hk hr0 hwt (16 - 0 : Int).toNat.succ) 0 z212 0 F A hI hf (by omega) (by omega) (by omega) (by omega) (by omega)
      · skip
        refine sA_iconst (z := 1) dd_X5_tryTwists_26 ?_
        refine sA_goto (tgt := 31) dd_X5_tryTwists_27 (by decide) ?_
        refine sA_istore (lv' := [(5, gs_iv 1), (0, .ref 30), (1, gs_iv 1), (2, gs_iv k), (3, gs_iv r), (4, gs_iv wt)]) dd_X5_tryTwists_31 (by decide) rfl ?_
        refine sA_aload_n dd_X5_tryTwists_33 rfl (.tail _ (.head _)) ?_
        refine sA_getr (ci := 5) (j := 2) (q := (RX5, TX5, 6)) dd_X5_tryTwists_34 rfl (by decide) fl_X5_11 (by decide) gs_s30 rfl ?_
        refine sA_iload_n dd_X5_tryTwists_37 rfl (.tail _ (.tail _ (.head _))) ?_
        refine sA_aald (n := 4) dd_X5_tryTwists_38 (by decide) (by decide) (by decide) gs_s31 (by omega) (by decide) ?_
        show sA _ _ _ _ _ (.ref 37 :: _) _ _
        refine sA_callV (y2 := m_X4_closedSize) (n2 := 0) (d2 := 2) (a := 37) (ci := 4) (q := (RX4, TX4, 2)) (as := []) (rest := []) dd_X5_tryTwists_39 ok_X4_closedSize ml_X5_73 rfl rfl (Nat.lt_of_succ_lt gs_row_37.1) gs_row_37.2.1 rfl rfl (Nat.le_of_ble_eq_true rfl) (by decide) (c_X4_closedSize hI gs_row_37) (fun r216 F217 A218 h219 => ?_)
        obtain ⟨z222, e221, e223, e224, x220⟩ := h219
        subst e221 e223 e224
        show sA _ _ _ 42 _ [gs_iv z222] _ _
        refine sA_istore (lv' := [(6, gs_iv z222), (5, gs_iv 1), (0, .ref 30), (1, gs_iv 1), (2, gs_iv k), (3, gs_iv r), (4, gs_iv wt)]) dd_X5_tryTwists_42 (by decide) rfl ?_
        refine sA_iconst (z := 0) dd_X5_tryTwists_44 ?_
        refine sA_istore (lv' := [(7, gs_iv 0), (6, gs_iv z222), (5, gs_iv 1), (0, .ref 30), (1, gs_iv 1), (2, gs_iv k), (3, gs_iv r), (4, gs_iv wt)]) dd_X5_tryTwists_45 (by decide) rfl ?_
        refine sA_sub (lv2 := [(7, gs_iv 0), (6, gs_iv z222), (5, gs_iv 1), (0, .ref 30), (1, gs_iv 1), (2, gs_iv k), (3, gs_iv r), (4, gs_iv wt)]) (List.forall_mem_cons.mpr ⟨(.head _), (List.forall_mem_cons.mpr ⟨(.tail _ (.head _)), (List.forall_mem_cons.mpr ⟨(.tail _ (.tail _ (.head _))), (List.forall_mem_cons.mpr ⟨(.tail _ (.tail _ (.tail _ (.head _)))), (List.forall_mem_cons.mpr ⟨(.tail _ (.tail _ (.tail _ (.tail _ (.head _))))), (List.forall_mem_cons.mpr ⟨(.tail _ (.tail _ (.tail _ (.tail _ (.tail _ (.head _)))))), (List.forall_mem_cons.mpr ⟨(.tail _ (.tail _ (.tail _ (.tail _ (.tail _ (.tail _ (.head _))))))), (List.forall_mem_cons.mpr ⟨(.tail _ (.tail _ (.tail _ (.tail _ (.tail _ (.tail _ (.tail _ (.head _)))))))), (fun _ h => absurd h List.not_mem_nil)⟩)⟩)⟩)⟩)⟩)⟩)⟩)⟩) ?_
        exact (k_X5_tryTwists_v1 hI hk hr0 hwt (16 - 0 : Int).toNat.succ) 1 z222 0 F A hI hf (by omega) (by omega) (by omega) (by omega) (by omega)
    · skip
      refine sA_vret dd_X5_tryTwists_18 rfl ?_
      exact ⟨rfl, hI, hf, trivial⟩
theorem k_X5_tryTwists_v0 {k r wt : Int} {F A : gs_F} (hI : gs_I F A) (hk : 0 ≤ k ∧ k ≤ 3) (hr0 : -2147483648 ≤ r ∧ r ≤ 2147483647) (hwt : -2147483648 ≤ wt ∧ wt ≤ 2147483647) : ∀ nN : Nat, (∀ (lt : Int) (sz : Int) (u : Int)  (F1 A1 : gs_F), gs_I F1 A1 → gs_fr (fun c j => (c = 30 ∧ j = 5) ∨ (35 ≤ c ∧ c < 43 ∧ j = 1)) (fun c => c = 7 ∨ (35 ≤ c ∧ c < 43)) F A F1 A1 → 0 ≤ u ∧ u ≤ 16 → -2147483648 ≤ sz ∧ sz ≤ 2147483647 → lt = 0 ∨ lt = 1 → 0 < k → 16 - u < (nN : Int) → sA m_X5_tryTwists 6 (fun rv F' A' => rv = none ∧ gs_I F' A' ∧ gs_fr (fun c j => (c = 30 ∧ j = 5) ∨ (35 ≤ c ∧ c < 43 ∧ j = 1)) (fun c => c = 7 ∨ (35 ≤ c ∧ c < 43)) F A F' A' ∧ (True)) 47 [(7, gs_iv u), (6, gs_iv sz), (5, gs_iv lt), (0, .ref 30), (1, gs_iv 0), (2, gs_iv k), (3, gs_iv r), (4, gs_iv wt)] [] F1 A1) := by
  intro nN
  induction nN with
  | zero =>
    exact fun a0 a1 a2 a3 a4 a5 a6 i0 i1 i2 i3 hm => by exfalso; omega
  | succ nN ih =>
    intro lt sz u F1 A1 hI1 hf1 i0 i1 i2 i3 hm
    refine sA_iload dd_X5_tryTwists_47 (.head _) ?_
    refine sA_iconst (z := 2) dd_X5_tryTwists_49 ?_
    refine sA_aload_n dd_X5_tryTwists_50 rfl (.tail _ (.tail _ (.tail _ (.head _)))) ?_
    refine sA_getr (ci := 5) (j := 0) (q := (RX5, TX5, 6)) dd_X5_tryTwists_51 rfl (by decide) fl_X5_28 (by decide) gs_s30 rfl ?_
    refine sA_geti (ci := 7) (j := 0) (q := (RX7, TX7, 5)) dd_X5_tryTwists_54 rfl (by decide) fl_X5_64 (by decide) gs_s5 rfl ?_
    have b1 : (1 : Int) ≤ F1 5 0 ∧ F1 5 0 ≤ 8 := hI1.1 5 0
    refine sA_imul dd_X5_tryTwists_57 ?_
    refine sA_icmp_ge (tgt := 216) dd_X5_tryTwists_58 (by decide) (by omega) (by omega) (fun q2 => ?_) (fun q2 => ?_)
    · skip
      refine sA_vret dd_X5_tryTwists_216 rfl ?_
      exact ⟨rfl, hI1, hf1, trivial⟩
    · skip
      refine sA_iload_n dd_X5_tryTwists_61 rfl (.tail _ (.tail _ (.tail _ (.tail _ (.tail _ (.tail _ (.head _))))))) ?_
      refine sA_iload dd_X5_tryTwists_62 (.head _) ?_
      refine sA_iload dd_X5_tryTwists_64 (.tail _ (.tail _ (.tail _ (.tail _ (.tail _ (.tail _ (.tail _ (.head _)))))))) ?_
      refine sA_imul dd_X5_tryTwists_66 ?_
      refine sA_iadd dd_X5_tryTwists_67 ?_
      refine sA_wrap ?_
      have b4 := gs_w_rng (r + (u * wt))
      generalize gs_w (r + (u * wt)) = w3 at b4 ⊢
      refine sA_istore (lv' := [(8, gs_iv w3), (7, gs_iv u), (6, gs_iv sz), (5, gs_iv lt), (0, .ref 30), (1, gs_iv 0), (2, gs_iv k), (3, gs_iv r), (4, gs_iv wt)]) dd_X5_tryTwists_68 (by decide) rfl ?_
      refine sA_iload dd_X5_tryTwists_70 (.tail _ (.tail _ (.tail _ (.head _)))) ?_
      refine sA_if_eq (tgt := 93) dd_X5_tryTwists_72 (by decide) (by omega) (fun q5 => ?_) (fun q5 => ?_)
      · skip
        refine sA_iload dd_X5_tryTwists_93 (.tail _ (.tail _ (.tail _ (.head _)))) ?_
        refine sA_if_eq (tgt := 124) dd_X5_tryTwists_95 (by decide) (by omega) (fun q6 => ?_) (fun q6 => absurd q6 (by omega))
        refine sA_aload_n dd_X5_tryTwists_124 rfl (.tail _ (.tail _ (.tail _ (.tail _ (.head _))))) ?_
        refine sA_getr (ci := 5) (j := 2) (q := (RX5, TX5, 6)) dd_X5_tryTwists_125 rfl (by decide) fl_X5_11 (by decide) gs_s30 rfl ?_
        refine sA_iload_n dd_X5_tryTwists_128 rfl (.tail _ (.tail _ (.tail _ (.tail _ (.tail _ (.head _)))))) ?_
        refine sA_iconst (z := 1) dd_X5_tryTwists_129 ?_
        refine sA_iadd dd_X5_tryTwists_130 ?_
        show sA _ _ _ _ _ (gs_iv 1 :: _) _ _
        refine sA_aald (n := 4) dd_X5_tryTwists_131 (by decide) (by decide) (by decide) gs_s31 (by omega) (by decide) ?_
        show sA _ _ _ _ _ (.ref 37 :: _) _ _
        refine sA_astore (lv' := [(9, .ref 37), (8, gs_iv w3), (7, gs_iv u), (6, gs_iv sz), (5, gs_iv lt), (0, .ref 30), (1, gs_iv 0), (2, gs_iv k), (3, gs_iv r), (4, gs_iv wt)]) dd_X5_tryTwists_132 (by decide) rfl ?_
        refine sA_aload dd_X5_tryTwists_134 (.head _) ?_
        refine sA_aload_n dd_X5_tryTwists_136 rfl (.tail _ (.tail _ (.tail _ (.tail _ (.tail _ (.head _)))))) ?_
        refine sA_getr (ci := 5) (j := 2) (q := (RX5, TX5, 6)) dd_X5_tryTwists_137 rfl (by decide) fl_X5_11 (by decide) gs_s30 rfl ?_
        refine sA_iload_n dd_X5_tryTwists_140 rfl (.tail _ (.tail _ (.tail _ (.tail _ (.tail _ (.tail _ (.head _))))))) ?_
        refine sA_aald (n := 4) dd_X5_tryTwists_141 (by decide) (by decide) (by decide) gs_s31 (by omega) (by decide) ?_
        show sA _ _ _ _ _ (.ref 35 :: _) _ _
        refine sA_callV (y2 := m_X4_copy) (n2 := 1) (d2 := 1) (a := 37) (ci := 4) (q := (RX4, TX4, 2)) (as := [.ref 35]) (rest := []) dd_X5_tryTwists_142 ok_X4_copy ml_X5_36 rfl rfl (Nat.lt_of_succ_lt gs_row_37.1) gs_row_37.2.1 rfl rfl (Nat.le_of_ble_eq_true rfl) (by decide) (c_X4_copy hI1 gs_row_37 gs_row_35) (fun r9 F10 A11 h12 => ?_)
        obtain ⟨e14, I15, f16, x13⟩ := h12
        subst e14
        have f17 := gs_fr_tr hf1 f16 (fun b j h => by first | exact False.elim h | omega | (dsimp only at h ⊢; omega)) (fun b h => by first | exact False.elim h | omega | (dsimp only at h ⊢; omega))
        show sA _ _ _ 145 _ [] _ _
        refine sA_aload_n dd_X5_tryTwists_145 rfl (.tail _ (.tail _ (.tail _ (.tail _ (.tail _ (.head _)))))) ?_
        refine sA_getr (ci := 5) (j := 0) (q := (RX5, TX5, 6)) dd_X5_tryTwists_146 rfl (by decide) fl_X5_28 (by decide) gs_s30 rfl ?_
        refine sA_iload dd_X5_tryTwists_149 (.tail _ (.tail _ (.head _))) ?_
        refine sA_aload dd_X5_tryTwists_151 (.head _) ?_
        refine sA_callV (y2 := m_X7_doTwist) (n2 := 2) (d2 := 2) (a := 5) (ci := 7) (q := (RX7, TX7, 5)) (as := [gs_iv u, .ref 37]) (rest := []) dd_X5_tryTwists_153 ok_X7_doTwist ml_X5_69 rfl rfl (by decide) gs_s5 rfl rfl (Nat.le_of_ble_eq_true rfl) (by decide) (c_X7_doTwist I15 (by omega) gs_row_37) (fun r18 F19 A20 h21 => ?_)
        obtain ⟨z24, e23, I25, f26, x22⟩ := h21
        subst e23
        have f27 := gs_fr_tr f17 f26 (fun b j h => by first | exact False.elim h | omega | (dsimp only at h ⊢; omega)) (fun b h => by first | exact False.elim h | omega | (dsimp only at h ⊢; omega))
        show sA _ _ _ 156 _ [gs_iv z24] _ _
        refine sA_if_ne (tgt := 162) dd_X5_tryTwists_156 (by decide) (by omega) (fun q28 => ?_) (fun q28 => ?_)
        · skip
          refine sA_iload dd_X5_tryTwists_162 (.tail _ (.tail _ (.tail _ (.tail _ (.head _))))) ?_
          refine sA_if_ne (tgt := 192) dd_X5_tryTwists_164 (by decide) (by omega) (fun q29 => absurd q29 (by omega)) (fun q29 => ?_)
          refine sA_aload_n dd_X5_tryTwists_167 rfl (.tail _ (.tail _ (.tail _ (.tail _ (.tail _ (.head _)))))) ?_
          refine sA_iload_n dd_X5_tryTwists_168 rfl (.tail _ (.tail _ (.tail _ (.tail _ (.tail _ (.tail _ (.head _))))))) ?_
          refine sA_iconst (z := 1) dd_X5_tryTwists_169 ?_
          refine sA_iadd dd_X5_tryTwists_170 ?_
          show sA _ _ _ _ _ (gs_iv 1 :: _) _ _
          refine sA_iload_n dd_X5_tryTwists_171 rfl (.tail _ (.tail _ (.tail _ (.tail _ (.tail _ (.tail _ (.tail _ (.head _)))))))) ?_
          refine sA_iload dd_X5_tryTwists_172 (.tail _ (.head _)) ?_
          refine sA_iload dd_X5_tryTwists_174 (.tail _ (.tail _ (.tail _ (.tail _ (.tail _ (.tail _ (.tail _ (.tail _ (.tail _ (.head _)))))))))) ?_
          refine sA_iconst (z := 2) dd_X5_tryTwists_176 ?_
          refine sA_imul dd_X5_tryTwists_177 ?_
          refine sA_aload_n dd_X5_tryTwists_178 rfl (.tail _ (.tail _ (.tail _ (.tail _ (.tail _ (.head _)))))) ?_
          refine sA_getr (ci := 5) (j := 0) (q := (RX5, TX5, 6)) dd_X5_tryTwists_179 rfl (by decide) fl_X5_28 (by decide) gs_s30 rfl ?_
          refine sA_geti (ci := 7) (j := 0) (q := (RX7, TX7, 5)) dd_X5_tryTwists_182 rfl (by decide) fl_X5_64 (by decide) gs_s5 rfl ?_
          have b30 : (1 : Int) ≤ F19 5 0 ∧ F19 5 0 ≤ 8 := I25.1 5 0
          refine sA_imul dd_X5_tryTwists_185 ?_
          refine sA_wrap ?_
          have b32 := gs_w_rng ((wt * 2) * (F19 5 0))
          generalize gs_w ((wt * 2) * (F19 5 0)) = w31 at b32 ⊢
          refine sA_callV (y2 := m_X5_tryTwists) (n2 := 4) (d2 := 5) (a := 30) (ci := 5) (q := (RX5, TX5, 6)) (as := [gs_iv 1, gs_iv k, gs_iv w3, gs_iv w31]) (rest := []) dd_X5_tryTwists_186 ok_X5_tryTwists ml_X5_56 rfl rfl (by decide) gs_s30 rfl rfl (Nat.le_of_ble_eq_true rfl) (by decide) (c_X5_tryTwists_v1 I25 (by omega) (by omega) (by omega)) (fun r33 F34 A35 h36 => ?_)
          obtain ⟨e38, I39, f40, x37⟩ := h36
          subst e38
          have f41 := gs_fr_tr f27 f40 (fun b j h => by first | exact False.elim h | omega | (dsimp only at h ⊢; omega)) (fun b h => by first | exact False.elim h | omega | (dsimp only at h ⊢; omega))
          show sA _ _ _ 189 _ [] _ _
          refine sA_goto (tgt := 210) dd_X5_tryTwists_189 (by decide) ?_
          refine sA_iinc (lv' := [(7, gs_iv (u + 1)), (9, .ref 37), (8, gs_iv w3), (6, gs_iv sz), (5, gs_iv lt), (0, .ref 30), (1, gs_iv 0), (2, gs_iv k), (3, gs_iv r), (4, gs_iv wt)]) dd_X5_tryTwists_210 (.tail _ (.tail _ (.head _))) (by decide) rfl ?_
          refine sA_goto (tgt := 47) dd_X5_tryTwists_213 (by decide) ?_
          refine sA_sub (lv2 := [(7, gs_iv (u + 1)), (6, gs_iv sz), (5, gs_iv lt), (0, .ref 30), (1, gs_iv 0), (2, gs_iv k), (3, gs_iv r), (4, gs_iv wt)]) (List.forall_mem_cons.mpr ⟨(.head _), (List.forall_mem_cons.mpr ⟨(.tail _ (.tail _ (.tail _ (.head _)))), (List.forall_mem_cons.mpr ⟨(.tail _ (.tail _ (.tail _ (.tail _ (.head _))))), (List.forall_mem_cons.mpr ⟨(.tail _ (.tail _ (.tail _ (.tail _ (.tail _ (.head _)))))), (List.forall_mem_cons.mpr ⟨(.tail _ (.tail _ (.tail _ (.tail _ (.tail _ (.tail _ (.head _))))))), (List.forall_mem_cons.mpr ⟨(.tail _ (.tail _ (.tail _ (.tail _ (.tail _ (.tail _ (.tail _ (.head _)))))))), (List.forall_mem_cons.mpr ⟨(.tail _ (.tail _ (.tail _ (.tail _ (.tail _ (.tail _ (.tail _ (.tail _ (.head _))))))))), (List.forall_mem_cons.mpr ⟨(.tail _ (.tail _ (.tail _ (.tail _ (.tail _ (.tail _ (.tail _ (.tail _ (.tail _ (.head _)))))))))), (fun _ h => absurd h List.not_mem_nil)⟩)⟩)⟩)⟩)⟩)⟩)⟩)⟩) ?_
          exact ih lt sz (u + 1) F34 A35 I39 f41 (by omega) (by omega) (by omega) (by omega) (by omega)
        · skip
          refine sA_goto (tgt := 210) dd_X5_tryTwists_159 (by decide) ?_
          refine sA_iinc (lv' := [(7, gs_iv (u + 1)), (9, .ref 37), (8, gs_iv w3), (6, gs_iv sz), (5, gs_iv lt), (0, .ref 30), (1, gs_iv 0), (2, gs_iv k), (3, gs_iv r), (4, gs_iv wt)]) dd_X5_tryTwists_210 (.tail _ (.tail _ (.head _))) (by decide) rfl ?_
          refine sA_goto (tgt := 47) dd_X5_tryTwists_213 (by decide) ?_
          refine sA_sub (lv2 := [(7, gs_iv (u + 1)), (6, gs_iv sz), (5, gs_iv lt), (0, .ref 30), (1, gs_iv 0), (2, gs_iv k), (3, gs_iv r), (4, gs_iv wt)]) (List.forall_mem_cons.mpr ⟨(.head _), (List.forall_mem_cons.mpr ⟨(.tail _ (.tail _ (.tail _ (.head _)))), (List.forall_mem_cons.mpr ⟨(.tail _ (.tail _ (.tail _ (.tail _ (.head _))))), (List.forall_mem_cons.mpr ⟨(.tail _ (.tail _ (.tail _ (.tail _ (.tail _ (.head _)))))), (List.forall_mem_cons.mpr ⟨(.tail _ (.tail _ (.tail _ (.tail _ (.tail _ (.tail _ (.head _))))))), (List.forall_mem_cons.mpr ⟨(.tail _ (.tail _ (.tail _ (.tail _ (.tail _ (.tail _ (.tail _ (.head _)))))))), (List.forall_mem_cons.mpr ⟨(.tail _ (.tail _ (.tail _ (.tail _ (.tail _ (.tail _ (.tail _ (.tail _ (.head _))))))))), (List.forall_mem_cons.mpr ⟨(.tail _ (.tail _ (.tail _ (.tail _ (.tail _ (.tail _ (.tail _ (.tail _ (.tail _ (.head _)))))))))), (fun _ h => absurd h List.not_mem_nil)⟩)⟩)⟩)⟩)⟩)⟩)⟩)⟩) ?_
          exact ih lt sz (u + 1) F19 A20 I25 f27 (by omega) (by omega) (by omega) (by omega) (by omega)
      · skip
        refine sA_aload_n dd_X5_tryTwists_75 rfl (.tail _ (.tail _ (.tail _ (.tail _ (.head _))))) ?_
        refine sA_geti (ci := 5) (j := 5) (q := (RX5, TX5, 6)) dd_X5_tryTwists_76 rfl (by decide) fl_X5_53 (by decide) gs_s30 rfl ?_
        have b42 : (-2147483648 : Int) ≤ F1 30 5 ∧ F1 30 5 ≤ 2147483647 := hI1.1 30 5
        refine sA_iconst (z := (-1)) dd_X5_tryTwists_79 ?_
        refine sA_icmp_eq (tgt := 93) dd_X5_tryTwists_80 (by decide) (by omega) (by omega) (fun q43 => ?_) (fun q43 => ?_)
        · skip
          refine sA_iload dd_X5_tryTwists_93 (.tail _ (.tail _ (.tail _ (.head _)))) ?_
          refine sA_if_eq (tgt := 124) dd_X5_tryTwists_95 (by decide) (by omega) (fun q44 => absurd q44 (by omega)) (fun q44 => ?_)
          refine sA_aload_n dd_X5_tryTwists_98 rfl (.tail _ (.tail _ (.tail _ (.tail _ (.head _))))) ?_
          refine sA_getr (ci := 5) (j := 3) (q := (RX5, TX5, 6)) dd_X5_tryTwists_99 rfl (by decide) fl_X5_17 (by decide) gs_s30 rfl ?_
          refine sA_iload dd_X5_tryTwists_102 (.tail _ (.head _)) ?_
          refine sA_iald (n := 16) dd_X5_tryTwists_104 (by decide) gs_s32 (by omega) (by decide) ?_
          have b45 : (-2147483648 : Int) ≤ A1 32 u.toNat ∧ A1 32 u.toNat ≤ 2147483647 := hI1.2 32 u.toNat
          refine sA_iconst (z := (-1)) dd_X5_tryTwists_105 ?_
          refine sA_icmp_eq (tgt := 124) dd_X5_tryTwists_106 (by decide) (by omega) (by omega) (fun q46 => ?_) (fun q46 => ?_)
          · skip
            refine sA_aload_n dd_X5_tryTwists_124 rfl (.tail _ (.tail _ (.tail _ (.tail _ (.head _))))) ?_
            refine sA_getr (ci := 5) (j := 2) (q := (RX5, TX5, 6)) dd_X5_tryTwists_125 rfl (by decide) fl_X5_11 (by decide) gs_s30 rfl ?_
            refine sA_iload_n dd_X5_tryTwists_128 rfl (.tail _ (.tail _ (.tail _ (.tail _ (.tail _ (.head _)))))) ?_
            refine sA_iconst (z := 1) dd_X5_tryTwists_129 ?_
            refine sA_iadd dd_X5_tryTwists_130 ?_
            show sA _ _ _ _ _ (gs_iv 1 :: _) _ _
            refine sA_aald (n := 4) dd_X5_tryTwists_131 (by decide) (by decide) (by decide) gs_s31 (by omega) (by decide) ?_
            show sA _ _ _ _ _ (.ref 37 :: _) _ _
            refine sA_astore (lv' := [(9, .ref 37), (8, gs_iv w3), (7, gs_iv u), (6, gs_iv sz), (5, gs_iv lt), (0, .ref 30), (1, gs_iv 0), (2, gs_iv k), (3, gs_iv r), (4, gs_iv wt)]) dd_X5_tryTwists_132 (by decide) rfl ?_
            refine sA_aload dd_X5_tryTwists_134 (.head _) ?_
            refine sA_aload_n dd_X5_tryTwists_136 rfl (.tail _ (.tail _ (.tail _ (.tail _ (.tail _ (.head _)))))) ?_
            refine sA_getr (ci := 5) (j := 2) (q := (RX5, TX5, 6)) dd_X5_tryTwists_137 rfl (by decide) fl_X5_11 (by decide) gs_s30 rfl ?_
            refine sA_iload_n dd_X5_tryTwists_140 rfl (.tail _ (.tail _ (.tail _ (.tail _ (.tail _ (.tail _ (.head _))))))) ?_
            refine sA_aald (n := 4) dd_X5_tryTwists_141 (by decide) (by decide) (by decide) gs_s31 (by omega) (by decide) ?_
            show sA _ _ _ _ _ (.ref 35 :: _) _ _
            refine sA_callV (y2 := m_X4_copy) (n2 := 1) (d2 := 1) (a := 37) (ci := 4) (q := (RX4, TX4, 2)) (as := [.ref 35]) (rest := []) dd_X5_tryTwists_142 ok_X4_copy ml_X5_36 rfl rfl (Nat.lt_of_succ_lt gs_row_37.1) gs_row_37.2.1 rfl rfl (Nat.le_of_ble_eq_true rfl) (by decide) (c_X4_copy hI1 gs_row_37 gs_row_35) (fun r49 F50 A51 h52 => ?_)
            obtain ⟨e54, I55, f56, x53⟩ := h52
            subst e54
            have f57 := gs_fr_tr hf1 f56 (fun b j h => by first | exact False.elim h | omega | (dsimp only at h ⊢; omega)) (fun b h => by first | exact False.elim h | omega | (dsimp only at h ⊢; omega))
            show sA _ _ _ 145 _ [] _ _
            refine sA_aload_n dd_X5_tryTwists_145 rfl (.tail _ (.tail _ (.tail _ (.tail _ (.tail _ (.head _)))))) ?_
            refine sA_getr (ci := 5) (j := 0) (q := (RX5, TX5, 6)) dd_X5_tryTwists_146 rfl (by decide) fl_X5_28 (by decide) gs_s30 rfl ?_
            refine sA_iload dd_X5_tryTwists_149 (.tail _ (.tail _ (.head _))) ?_
            refine sA_aload dd_X5_tryTwists_151 (.head _) ?_
            refine sA_callV (y2 := m_X7_doTwist) (n2 := 2) (d2 := 2) (a := 5) (ci := 7) (q := (RX7, TX7, 5)) (as := [gs_iv u, .ref 37]) (rest := []) dd_X5_tryTwists_153 ok_X7_doTwist ml_X5_69 rfl rfl (by decide) gs_s5 rfl rfl (Nat.le_of_ble_eq_true rfl) (by decide) (c_X7_doTwist I55 (by omega) gs_row_37) (fun r58 F59 A60 h61 => ?_)
            obtain ⟨z64, e63, I65, f66, x62⟩ := h61
            subst e63
            have f67 := gs_fr_tr f57 f66 (fun b j h => by first | exact False.elim h | omega | (dsimp only at h ⊢; omega)) (fun b h => by first | exact False.elim h | omega | (dsimp only at h ⊢; omega))
            show sA _ _ _ 156 _ [gs_iv z64] _ _
            refine sA_if_ne (tgt := 162) dd_X5_tryTwists_156 (by decide) (by omega) (fun q68 => ?_) (fun q68 => ?_)
            · skip
              refine sA_iload dd_X5_tryTwists_162 (.tail _ (.tail _ (.tail _ (.tail _ (.head _))))) ?_
              refine sA_if_ne (tgt := 192) dd_X5_tryTwists_164 (by decide) (by omega) (fun q69 => ?_) (fun q69 => absurd q69 (by omega))
              refine sA_aload dd_X5_tryTwists_192 (.head _) ?_
              refine sA_aload_n dd_X5_tryTwists_194 rfl (.tail _ (.tail _ (.tail _ (.tail _ (.tail _ (.head _)))))) ?_
              refine sA_getr (ci := 5) (j := 4) (q := (RX5, TX5, 6)) dd_X5_tryTwists_195 rfl (by decide) fl_X5_24 (by decide) gs_s30 rfl ?_
              refine sA_callV (y2 := m_X4_isOneWith) (n2 := 1) (d2 := 2) (a := 37) (ci := 4) (q := (RX4, TX4, 2)) (as := [.ref 33]) (rest := []) dd_X5_tryTwists_198 ok_X4_isOneWith ml_X5_43 rfl rfl (Nat.lt_of_succ_lt gs_row_37.1) gs_row_37.2.1 rfl rfl (Nat.le_of_ble_eq_true rfl) (by decide) (c_X4_isOneWith I65 gs_row_37 gs_row_33) (fun r70 F71 A72 h73 => ?_)
              obtain ⟨z76, e75, e77, e78, x74⟩ := h73
              subst e75 e77 e78
              show sA _ _ _ 201 _ [gs_iv z76] _ _
              refine sA_if_eq (tgt := 210) dd_X5_tryTwists_201 (by decide) (by omega) (fun q79 => ?_) (fun q79 => ?_)
              · skip
                refine sA_iinc (lv' := [(7, gs_iv (u + 1)), (9, .ref 37), (8, gs_iv w3), (6, gs_iv sz), (5, gs_iv lt), (0, .ref 30), (1, gs_iv 0), (2, gs_iv k), (3, gs_iv r), (4, gs_iv wt)]) dd_X5_tryTwists_210 (.tail _ (.tail _ (.head _))) (by decide) rfl ?_
                refine sA_goto (tgt := 47) dd_X5_tryTwists_213 (by decide) ?_
                refine sA_sub (lv2 := [(7, gs_iv (u + 1)), (6, gs_iv sz), (5, gs_iv lt), (0, .ref 30), (1, gs_iv 0), (2, gs_iv k), (3, gs_iv r), (4, gs_iv wt)]) (List.forall_mem_cons.mpr ⟨(.head _), (List.forall_mem_cons.mpr ⟨(.tail _ (.tail _ (.tail _ (.head _)))), (List.forall_mem_cons.mpr ⟨(.tail _ (.tail _ (.tail _ (.tail _ (.head _))))), (List.forall_mem_cons.mpr ⟨(.tail _ (.tail _ (.tail _ (.tail _ (.tail _ (.head _)))))), (List.forall_mem_cons.mpr ⟨(.tail _ (.tail _ (.tail _ (.tail _ (.tail _ (.tail _ (.head _))))))), (List.forall_mem_cons.mpr ⟨(.tail _ (.tail _ (.tail _ (.tail _ (.tail _ (.tail _ (.tail _ (.head _)))))))), (List.forall_mem_cons.mpr ⟨(.tail _ (.tail _ (.tail _ (.tail _ (.tail _ (.tail _ (.tail _ (.tail _ (.head _))))))))), (List.forall_mem_cons.mpr ⟨(.tail _ (.tail _ (.tail _ (.tail _ (.tail _ (.tail _ (.tail _ (.tail _ (.tail _ (.head _)))))))))), (fun _ h => absurd h List.not_mem_nil)⟩)⟩)⟩)⟩)⟩)⟩)⟩)⟩) ?_
                exact ih lt sz (u + 1) F59 A60 I65 f67 (by omega) (by omega) (by omega) (by omega) (by omega)
              · skip
                refine sA_aload_n dd_X5_tryTwists_204 rfl (.tail _ (.tail _ (.tail _ (.tail _ (.tail _ (.head _)))))) ?_
                refine sA_iload dd_X5_tryTwists_205 (.tail _ (.head _)) ?_
                refine sA_put (ci := 5) (j := 5) (q := (RX5, TX5, 6)) (ty := .int) dd_X5_tryTwists_207 rfl (by decide) fl_X5_53 rfl (tyX5_ok 5 (by decide)) rfl rfl (by decide) gs_s30 rfl ?_
                have I81 : gs_I (gs_up F59 30 5 w3) A60 := gs_I_put I65 (show (-2147483648 : Int) ≤ w3 ∧ w3 ≤ 2147483647 by omega)
                have f82 := gs_fr_put f67 (a := 30) (z := w3) (j := 5) (by first | omega | (dsimp only; omega) | (dsimp only))
                have v83 : gs_up F59 30 5 w3 30 5 = w3 := gs_up_self _ _ _ _
                generalize gs_up F59 30 5 w3 = F80 at I81 f82 v83 ⊢
                refine sA_iinc (lv' := [(7, gs_iv (u + 1)), (9, .ref 37), (8, gs_iv w3), (6, gs_iv sz), (5, gs_iv lt), (0, .ref 30), (1, gs_iv 0), (2, gs_iv k), (3, gs_iv r), (4, gs_iv wt)]) dd_X5_tryTwists_210 (.tail _ (.tail _ (.head _))) (by decide) rfl ?_
                refine sA_goto (tgt := 47) dd_X5_tryTwists_213 (by decide) ?_
                refine sA_sub (lv2 := [(7, gs_iv (u + 1)), (6, gs_iv sz), (5, gs_iv lt), (0, .ref 30), (1, gs_iv 0), (2, gs_iv k), (3, gs_iv r), (4, gs_iv wt)]) (List.forall_mem_cons.mpr ⟨(.head _), (List.forall_mem_cons.mpr ⟨(.tail _ (.tail _ (.tail _ (.head _)))), (List.forall_mem_cons.mpr ⟨(.tail _ (.tail _ (.tail _ (.tail _ (.head _))))), (List.forall_mem_cons.mpr ⟨(.tail _ (.tail _ (.tail _ (.tail _ (.tail _ (.head _)))))), (List.forall_mem_cons.mpr ⟨(.tail _ (.tail _ (.tail _ (.tail _ (.tail _ (.tail _ (.head _))))))), (List.forall_mem_cons.mpr ⟨(.tail _ (.tail _ (.tail _ (.tail _ (.tail _ (.tail _ (.tail _ (.head _)))))))), (List.forall_mem_cons.mpr ⟨(.tail _ (.tail _ (.tail _ (.tail _ (.tail _ (.tail _ (.tail _ (.tail _ (.head _))))))))), (List.forall_mem_cons.mpr ⟨(.tail _ (.tail _ (.tail _ (.tail _ (.tail _ (.tail _ (.tail _ (.tail _ (.tail _ (.head _)))))))))), (fun _ h => absurd h List.not_mem_nil)⟩)⟩)⟩)⟩)⟩)⟩)⟩)⟩) ?_
                exact ih lt sz (u + 1) F80 A60 I81 f82 (by omega) (by omega) (by omega) (by omega) (by omega)
            · skip
              refine sA_goto (tgt := 210) dd_X5_tryTwists_159 (by decide) ?_
              refine sA_iinc (lv' := [(7, gs_iv (u + 1)), (9, .ref 37), (8, gs_iv w3), (6, gs_iv sz), (5, gs_iv lt), (0, .ref 30), (1, gs_iv 0), (2, gs_iv k), (3, gs_iv r), (4, gs_iv wt)]) dd_X5_tryTwists_210 (.tail _ (.tail _ (.head _))) (by decide) rfl ?_
              refine sA_goto (tgt := 47) dd_X5_tryTwists_213 (by decide) ?_
              refine sA_sub (lv2 := [(7, gs_iv (u + 1)), (6, gs_iv sz), (5, gs_iv lt), (0, .ref 30), (1, gs_iv 0), (2, gs_iv k), (3, gs_iv r), (4, gs_iv wt)]) (List.forall_mem_cons.mpr ⟨(.head _), (List.forall_mem_cons.mpr ⟨(.tail _ (.tail _ (.tail _ (.head _)))), (List.forall_mem_cons.mpr ⟨(.tail _ (.tail _ (.tail _ (.tail _ (.head _))))), (List.forall_mem_cons.mpr ⟨(.tail _ (.tail _ (.tail _ (.tail _ (.tail _ (.head _)))))), (List.forall_mem_cons.mpr ⟨(.tail _ (.tail _ (.tail _ (.tail _ (.tail _ (.tail _ (.head _))))))), (List.forall_mem_cons.mpr ⟨(.tail _ (.tail _ (.tail _ (.tail _ (.tail _ (.tail _ (.tail _ (.head _)))))))), (List.forall_mem_cons.mpr ⟨(.tail _ (.tail _ (.tail _ (.tail _ (.tail _ (.tail _ (.tail _ (.tail _ (.head _))))))))), (List.forall_mem_cons.mpr ⟨(.tail _ (.tail _ (.tail _ (.tail _ (.tail _ (.tail _ (.tail _ (.tail _ (.tail _ (.head _)))))))))), (fun _ h => absurd h List.not_mem_nil)⟩)⟩)⟩)⟩)⟩)⟩)⟩)⟩) ?_
              exact ih lt sz (u + 1) F59 A60 I65 f67 (by omega) (by omega) (by omega) (by omega) (by omega)
          · skip
            refine sA_aload_n dd_X5_tryTwists_109 rfl (.tail _ (.tail _ (.tail _ (.tail _ (.head _))))) ?_
            refine sA_getr (ci := 5) (j := 3) (q := (RX5, TX5, 6)) dd_X5_tryTwists_110 rfl (by decide) fl_X5_17 (by decide) gs_s30 rfl ?_
            refine sA_iload dd_X5_tryTwists_113 (.tail _ (.head _)) ?_
            refine sA_iald (n := 16) dd_X5_tryTwists_115 (by decide) gs_s32 (by omega) (by decide) ?_
            refine sA_iload dd_X5_tryTwists_116 (.tail _ (.tail _ (.head _))) ?_
            refine sA_icmp_eq (tgt := 124) dd_X5_tryTwists_118 (by decide) (by omega) (by omega) (fun q84 => ?_) (fun q84 => ?_)
            · skip
              refine sA_aload_n dd_X5_tryTwists_124 rfl (.tail _ (.tail _ (.tail _ (.tail _ (.head _))))) ?_
              refine sA_getr (ci := 5) (j := 2) (q := (RX5, TX5, 6)) dd_X5_tryTwists_125 rfl (by decide) fl_X5_11 (by decide) gs_s30 rfl ?_
              refine sA_iload_n dd_X5_tryTwists_128 rfl (.tail _ (.tail _ (.tail _ (.tail _ (.tail _ (.head _)))))) ?_
              refine sA_iconst (z := 1) dd_X5_tryTwists_129 ?_
              refine sA_iadd dd_X5_tryTwists_130 ?_
              show sA _ _ _ _ _ (gs_iv 1 :: _) _ _
              refine sA_aald (n := 4) dd_X5_tryTwists_131 (by decide) (by decide) (by decide) gs_s31 (by omega) (by decide) ?_
              show sA _ _ _ _ _ (.ref 37 :: _) _ _
              refine sA_astore (lv' := [(9, .ref 37), (8, gs_iv w3), (7, gs_iv u), (6, gs_iv sz), (5, gs_iv lt), (0, .ref 30), (1, gs_iv 0), (2, gs_iv k), (3, gs_iv r), (4, gs_iv wt)]) dd_X5_tryTwists_132 (by decide) rfl ?_
              refine sA_aload dd_X5_tryTwists_134 (.head _) ?_
              refine sA_aload_n dd_X5_tryTwists_136 rfl (.tail _ (.tail _ (.tail _ (.tail _ (.tail _ (.head _)))))) ?_
              refine sA_getr (ci := 5) (j := 2) (q := (RX5, TX5, 6)) dd_X5_tryTwists_137 rfl (by decide) fl_X5_11 (by decide) gs_s30 rfl ?_
              refine sA_iload_n dd_X5_tryTwists_140 rfl (.tail _ (.tail _ (.tail _ (.tail _ (.tail _ (.tail _ (.head _))))))) ?_
              refine sA_aald (n := 4) dd_X5_tryTwists_141 (by decide) (by decide) (by decide) gs_s31 (by omega) (by decide) ?_
              show sA _ _ _ _ _ (.ref 35 :: _) _ _
              refine sA_callV (y2 := m_X4_copy) (n2 := 1) (d2 := 1) (a := 37) (ci := 4) (q := (RX4, TX4, 2)) (as := [.ref 35]) (rest := []) dd_X5_tryTwists_142 ok_X4_copy ml_X5_36 rfl rfl (Nat.lt_of_succ_lt gs_row_37.1) gs_row_37.2.1 rfl rfl (Nat.le_of_ble_eq_true rfl) (by decide) (c_X4_copy hI1 gs_row_37 gs_row_35) (fun r87 F88 A89 h90 => ?_)
              obtain ⟨e92, I93, f94, x91⟩ := h90
              subst e92
              have f95 := gs_fr_tr hf1 f94 (fun b j h => by first | exact False.elim h | omega | (dsimp only at h ⊢; omega)) (fun b h => by first | exact False.elim h | omega | (dsimp only at h ⊢; omega))
              show sA _ _ _ 145 _ [] _ _
              refine sA_aload_n dd_X5_tryTwists_145 rfl (.tail _ (.tail _ (.tail _ (.tail _ (.tail _ (.head _)))))) ?_
              refine sA_getr (ci := 5) (j := 0) (q := (RX5, TX5, 6)) dd_X5_tryTwists_146 rfl (by decide) fl_X5_28 (by decide) gs_s30 rfl ?_
              refine sA_iload dd_X5_tryTwists_149 (.tail _ (.tail _ (.head _))) ?_
              refine sA_aload dd_X5_tryTwists_151 (.head _) ?_
              refine sA_callV (y2 := m_X7_doTwist) (n2 := 2) (d2 := 2) (a := 5) (ci := 7) (q := (RX7, TX7, 5)) (as := [gs_iv u, .ref 37]) (rest := []) dd_X5_tryTwists_153 ok_X7_doTwist ml_X5_69 rfl rfl (by decide) gs_s5 rfl rfl (Nat.le_of_ble_eq_true rfl) (by decide) (c_X7_doTwist I93 (by omega) gs_row_37) (fun r96 F97 A98 h99 => ?_)
              obtain ⟨z102, e101, I103, f104, x100⟩ := h99
              subst e101
              have f105 := gs_fr_tr f95 f104 (fun b j h => by first | exact False.elim h | omega | (dsimp only at h ⊢; omega)) (fun b h => by first | exact False.elim h | omega | (dsimp only at h ⊢; omega))
              show sA _ _ _ 156 _ [gs_iv z102] _ _
              refine sA_if_ne (tgt := 162) dd_X5_tryTwists_156 (by decide) (by omega) (fun q106 => ?_) (fun q106 => ?_)
              · skip
                refine sA_iload dd_X5_tryTwists_162 (.tail _ (.tail _ (.tail _ (.tail _ (.head _))))) ?_
                refine sA_if_ne (tgt := 192) dd_X5_tryTwists_164 (by decide) (by omega) (fun q107 => ?_) (fun q107 => absurd q107 (by omega))
                refine sA_aload dd_X5_tryTwists_192 (.head _) ?_
                refine sA_aload_n dd_X5_tryTwists_194 rfl (.tail _ (.tail _ (.tail _ (.tail _ (.tail _ (.head _)))))) ?_
                refine sA_getr (ci := 5) (j := 4) (q := (RX5, TX5, 6)) dd_X5_tryTwists_195 rfl (by decide) fl_X5_24 (by decide) gs_s30 rfl ?_
                refine sA_callV (y2 := m_X4_isOneWith) (n2 := 1) (d2 := 2) (a := 37) (ci := 4) (q := (RX4, TX4, 2)) (as := [.ref 33]) (rest := []) dd_X5_tryTwists_198 ok_X4_isOneWith ml_X5_43 rfl rfl (Nat.lt_of_succ_lt gs_row_37.1) gs_row_37.2.1 rfl rfl (Nat.le_of_ble_eq_true rfl) (by decide) (c_X4_isOneWith I103 gs_row_37 gs_row_33) (fun r108 F109 A110 h111 => ?_)
                obtain ⟨z114, e113, e115, e116, x112⟩ := h111
                subst e113 e115 e116
                show sA _ _ _ 201 _ [gs_iv z114] _ _
                refine sA_if_eq (tgt := 210) dd_X5_tryTwists_201 (by decide) (by omega) (fun q117 => ?_) (fun q117 => ?_)
                · skip
                  refine sA_iinc (lv' := [(7, gs_iv (u + 1)), (9, .ref 37), (8, gs_iv w3), (6, gs_iv sz), (5, gs_iv lt), (0, .ref 30), (1, gs_iv 0), (2, gs_iv k), (3, gs_iv r), (4, gs_iv wt)]) dd_X5_tryTwists_210 (.tail _ (.tail _ (.head _))) (by decide) rfl ?_
                  refine sA_goto (tgt := 47) dd_X5_tryTwists_213 (by decide) ?_
                  refine sA_sub (lv2 := [(7, gs_iv (u + 1)), (6, gs_iv sz), (5, gs_iv lt), (0, .ref 30), (1, gs_iv 0), (2, gs_iv k), (3, gs_iv r), (4, gs_iv wt)]) (List.forall_mem_cons.mpr ⟨(.head _), (List.forall_mem_cons.mpr ⟨(.tail _ (.tail _ (.tail _ (.head _)))), (List.forall_mem_cons.mpr ⟨(.tail _ (.tail _ (.tail _ (.tail _ (.head _))))), (List.forall_mem_cons.mpr ⟨(.tail _ (.tail _ (.tail _ (.tail _ (.tail _ (.head _)))))), (List.forall_mem_cons.mpr ⟨(.tail _ (.tail _ (.tail _ (.tail _ (.tail _ (.tail _ (.head _))))))), (List.forall_mem_cons.mpr ⟨(.tail _ (.tail _ (.tail _ (.tail _ (.tail _ (.tail _ (.tail _ (.head _)))))))), (List.forall_mem_cons.mpr ⟨(.tail _ (.tail _ (.tail _ (.tail _ (.tail _ (.tail _ (.tail _ (.tail _ (.head _))))))))), (List.forall_mem_cons.mpr ⟨(.tail _ (.tail _ (.tail _ (.tail _ (.tail _ (.tail _ (.tail _ (.tail _ (.tail _ (.head _)))))))))), (fun _ h => absurd h List.not_mem_nil)⟩)⟩)⟩)⟩)⟩)⟩)⟩)⟩) ?_
                  exact ih lt sz (u + 1) F97 A98 I103 f105 (by omega) (by omega) (by omega) (by omega) (by omega)
                · skip
                  refine sA_aload_n dd_X5_tryTwists_204 rfl (.tail _ (.tail _ (.tail _ (.tail _ (.tail _ (.head _)))))) ?_
                  refine sA_iload dd_X5_tryTwists_205 (.tail _ (.head _)) ?_
                  refine sA_put (ci := 5) (j := 5) (q := (RX5, TX5, 6)) (ty := .int) dd_X5_tryTwists_207 rfl (by decide) fl_X5_53 rfl (tyX5_ok 5 (by decide)) rfl rfl (by decide) gs_s30 rfl ?_
                  have I119 : gs_I (gs_up F97 30 5 w3) A98 := gs_I_put I103 (show (-2147483648 : Int) ≤ w3 ∧ w3 ≤ 2147483647 by omega)
                  have f120 := gs_fr_put f105 (a := 30) (z := w3) (j := 5) (by first | omega | (dsimp only; omega) | (dsimp only))
                  have v121 : gs_up F97 30 5 w3 30 5 = w3 := gs_up_self _ _ _ _
                  generalize gs_up F97 30 5 w3 = F118 at I119 f120 v121 ⊢
                  refine sA_iinc (lv' := [(7, gs_iv (u + 1)), (9, .ref 37), (8, gs_iv w3), (6, gs_iv sz), (5, gs_iv lt), (0, .ref 30), (1, gs_iv 0), (2, gs_iv k), (3, gs_iv r), (4, gs_iv wt)]) dd_X5_tryTwists_210 (.tail _ (.tail _ (.head _))) (by decide) rfl ?_
                  refine sA_goto (tgt := 47) dd_X5_tryTwists_213 (by decide) ?_
                  refine sA_sub (lv2 := [(7, gs_iv (u + 1)), (6, gs_iv sz), (5, gs_iv lt), (0, .ref 30), (1, gs_iv 0), (2, gs_iv k), (3, gs_iv r), (4, gs_iv wt)]) (List.forall_mem_cons.mpr ⟨(.head _), (List.forall_mem_cons.mpr ⟨(.tail _ (.tail _ (.tail _ (.head _)))), (List.forall_mem_cons.mpr ⟨(.tail _ (.tail _ (.tail _ (.tail _ (.head _))))), (List.forall_mem_cons.mpr ⟨(.tail _ (.tail _ (.tail _ (.tail _ (.tail _ (.head _)))))), (List.forall_mem_cons.mpr ⟨(.tail _ (.tail _ (.tail _ (.tail _ (.tail _ (.tail _ (.head _))))))), (List.forall_mem_cons.mpr ⟨(.tail _ (.tail _ (.tail _ (.tail _ (.tail _ (.tail _ (.tail _ (.head _)))))))), (List.forall_mem_cons.mpr ⟨(.tail _ (.tail _ (.tail _ (.tail _ (.tail _ (.tail _ (.tail _ (.tail _ (.head _))))))))), (List.forall_mem_cons.mpr ⟨(.tail _ (.tail _ (.tail _ (.tail _ (.tail _ (.tail _ (.tail _ (.tail _ (.tail _ (.head _)))))))))), (fun _ h => absurd h List.not_mem_nil)⟩)⟩)⟩)⟩)⟩)⟩)⟩)⟩) ?_
                  exact ih lt sz (u + 1) F118 A98 I119 f120 (by omega) (by omega) (by omega) (by omega) (by omega)
              · skip
                refine sA_goto (tgt := 210) dd_X5_tryTwists_159 (by decide) ?_
                refine sA_iinc (lv' := [(7, gs_iv (u + 1)), (9, .ref 37), (8, gs_iv w3), (6, gs_iv sz), (5, gs_iv lt), (0, .ref 30), (1, gs_iv 0), (2, gs_iv k), (3, gs_iv r), (4, gs_iv wt)]) dd_X5_tryTwists_210 (.tail _ (.tail _ (.head _))) (by decide) rfl ?_
                refine sA_goto (tgt := 47) dd_X5_tryTwists_213 (by decide) ?_
                refine sA_sub (lv2 := [(7, gs_iv (u + 1)), (6, gs_iv sz), (5, gs_iv lt), (0, .ref 30), (1, gs_iv 0), (2, gs_iv k), (3, gs_iv r), (4, gs_iv wt)]) (List.forall_mem_cons.mpr ⟨(.head _), (List.forall_mem_cons.mpr ⟨(.tail _ (.tail _ (.tail _ (.head _)))), (List.forall_mem_cons.mpr ⟨(.tail _ (.tail _ (.tail _ (.tail _ (.head _))))), (List.forall_mem_cons.mpr ⟨(.tail _ (.tail _ (.tail _ (.tail _ (.tail _ (.head _)))))), (List.forall_mem_cons.mpr ⟨(.tail _ (.tail _ (.tail _ (.tail _ (.tail _ (.tail _ (.head _))))))), (List.forall_mem_cons.mpr ⟨(.tail _ (.tail _ (.tail _ (.tail _ (.tail _ (.tail _ (.tail _ (.head _)))))))), (List.forall_mem_cons.mpr ⟨(.tail _ (.tail _ (.tail _ (.tail _ (.tail _ (.tail _ (.tail _ (.tail _ (.head _))))))))), (List.forall_mem_cons.mpr ⟨(.tail _ (.tail _ (.tail _ (.tail _ (.tail _ (.tail _ (.tail _ (.tail _ (.tail _ (.head _)))))))))), (fun _ h => absurd h List.not_mem_nil)⟩)⟩)⟩)⟩)⟩)⟩)⟩)⟩) ?_
                exact ih lt sz (u + 1) F97 A98 I103 f105 (by omega) (by omega) (by omega) (by omega) (by omega)
            · skip
              refine sA_goto (tgt := 210) dd_X5_tryTwists_121 (by decide) ?_
              refine sA_iinc (lv' := [(7, gs_iv (u + 1)), (8, gs_iv w3), (6, gs_iv sz), (5, gs_iv lt), (0, .ref 30), (1, gs_iv 0), (2, gs_iv k), (3, gs_iv r), (4, gs_iv wt)]) dd_X5_tryTwists_210 (.tail _ (.head _)) (by decide) rfl ?_
              refine sA_goto (tgt := 47) dd_X5_tryTwists_213 (by decide) ?_
              refine sA_sub (lv2 := [(7, gs_iv (u + 1)), (6, gs_iv sz), (5, gs_iv lt), (0, .ref 30), (1, gs_iv 0), (2, gs_iv k), (3, gs_iv r), (4, gs_iv wt)]) (List.forall_mem_cons.mpr ⟨(.head _), (List.forall_mem_cons.mpr ⟨(.tail _ (.tail _ (.head _))), (List.forall_mem_cons.mpr ⟨(.tail _ (.tail _ (.tail _ (.head _)))), (List.forall_mem_cons.mpr ⟨(.tail _ (.tail _ (.tail _ (.tail _ (.head _))))), (List.forall_mem_cons.mpr ⟨(.tail _ (.tail _ (.tail _ (.tail _ (.tail _ (.head _)))))), (List.forall_mem_cons.mpr ⟨(.tail _ (.tail _ (.tail _ (.tail _ (.tail _ (.tail _ (.head _))))))), (List.forall_mem_cons.mpr ⟨(.tail _ (.tail _ (.tail _ (.tail _ (.tail _ (.tail _ (.tail _ (.head _)))))))), (List.forall_mem_cons.mpr ⟨(.tail _ (.tail _ (.tail _ (.tail _ (.tail _ (.tail _ (.tail _ (.tail _ (.head _))))))))), (fun _ h => absurd h List.not_mem_nil)⟩)⟩)⟩)⟩)⟩)⟩)⟩)⟩) ?_
              exact ih lt sz (u + 1) F1 A1 hI1 hf1 (by omega) (by omega) (by omega) (by omega) (by omega)
        · skip
          refine sA_iload dd_X5_tryTwists_83 (.head _) ?_
          refine sA_aload_n dd_X5_tryTwists_85 rfl (.tail _ (.tail _ (.tail _ (.tail _ (.head _))))) ?_
          refine sA_geti (ci := 5) (j := 5) (q := (RX5, TX5, 6)) dd_X5_tryTwists_86 rfl (by decide) fl_X5_53 (by decide) gs_s30 rfl ?_
          refine sA_icmp_lt (tgt := 93) dd_X5_tryTwists_89 (by decide) (by omega) (by omega) (fun q122 => ?_) (fun q122 => ?_)
          · skip
            refine sA_iload dd_X5_tryTwists_93 (.tail _ (.tail _ (.tail _ (.head _)))) ?_
            refine sA_if_eq (tgt := 124) dd_X5_tryTwists_95 (by decide) (by omega) (fun q123 => absurd q123 (by omega)) (fun q123 => ?_)
            refine sA_aload_n dd_X5_tryTwists_98 rfl (.tail _ (.tail _ (.tail _ (.tail _ (.head _))))) ?_
            refine sA_getr (ci := 5) (j := 3) (q := (RX5, TX5, 6)) dd_X5_tryTwists_99 rfl (by decide) fl_X5_17 (by decide) gs_s30 rfl ?_
            refine sA_iload dd_X5_tryTwists_102 (.tail _ (.head _)) ?_
            refine sA_iald (n := 16) dd_X5_tryTwists_104 (by decide) gs_s32 (by omega) (by decide) ?_
            have b124 : (-2147483648 : Int) ≤ A1 32 u.toNat ∧ A1 32 u.toNat ≤ 2147483647 := hI1.2 32 u.toNat
            refine sA_iconst (z := (-1)) dd_X5_tryTwists_105 ?_
            refine sA_icmp_eq (tgt := 124) dd_X5_tryTwists_106 (by decide) (by omega) (by omega) (fun q125 => ?_) (fun q125 => ?_)
            · skip
              refine sA_aload_n dd_X5_tryTwists_124 rfl (.tail _ (.tail _ (.tail _ (.tail _ (.head _))))) ?_
              refine sA_getr (ci := 5) (j := 2) (q := (RX5, TX5, 6)) dd_X5_tryTwists_125 rfl (by decide) fl_X5_11 (by decide) gs_s30 rfl ?_
              refine sA_iload_n dd_X5_tryTwists_128 rfl (.tail _ (.tail _ (.tail _ (.tail _ (.tail _ (.head _)))))) ?_
              refine sA_iconst (z := 1) dd_X5_tryTwists_129 ?_
              refine sA_iadd dd_X5_tryTwists_130 ?_
              show sA _ _ _ _ _ (gs_iv 1 :: _) _ _
              refine sA_aald (n := 4) dd_X5_tryTwists_131 (by decide) (by decide) (by decide) gs_s31 (by omega) (by decide) ?_
              show sA _ _ _ _ _ (.ref 37 :: _) _ _
              refine sA_astore (lv' := [(9, .ref 37), (8, gs_iv w3), (7, gs_iv u), (6, gs_iv sz), (5, gs_iv lt), (0, .ref 30), (1, gs_iv 0), (2, gs_iv k), (3, gs_iv r), (4, gs_iv wt)]) dd_X5_tryTwists_132 (by decide) rfl ?_
              refine sA_aload dd_X5_tryTwists_134 (.head _) ?_
              refine sA_aload_n dd_X5_tryTwists_136 rfl (.tail _ (.tail _ (.tail _ (.tail _ (.tail _ (.head _)))))) ?_
              refine sA_getr (ci := 5) (j := 2) (q := (RX5, TX5, 6)) dd_X5_tryTwists_137 rfl (by decide) fl_X5_11 (by decide) gs_s30 rfl ?_
              refine sA_iload_n dd_X5_tryTwists_140 rfl (.tail _ (.tail _ (.tail _ (.tail _ (.tail _ (.tail _ (.head _))))))) ?_
              refine sA_aald (n := 4) dd_X5_tryTwists_141 (by decide) (by decide) (by decide) gs_s31 (by omega) (by decide) ?_
              show sA _ _ _ _ _ (.ref 35 :: _) _ _
              refine sA_callV (y2 := m_X4_copy) (n2 := 1) (d2 := 1) (a := 37) (ci := 4) (q := (RX4, TX4, 2)) (as := [.ref 35]) (rest := []) dd_X5_tryTwists_142 ok_X4_copy ml_X5_36 rfl rfl (Nat.lt_of_succ_lt gs_row_37.1) gs_row_37.2.1 rfl rfl (Nat.le_of_ble_eq_true rfl) (by decide) (c_X4_copy hI1 gs_row_37 gs_row_35) (fun r128 F129 A130 h131 => ?_)
              obtain ⟨e133, I134, f135, x132⟩ := h131
              subst e133
              have f136 := gs_fr_tr hf1 f135 (fun b j h => by first | exact False.elim h | omega | (dsimp only at h ⊢; omega)) (fun b h => by first | exact False.elim h | omega | (dsimp only at h ⊢; omega))
              show sA _ _ _ 145 _ [] _ _
              refine sA_aload_n dd_X5_tryTwists_145 rfl (.tail _ (.tail _ (.tail _ (.tail _ (.tail _ (.head _)))))) ?_
              refine sA_getr (ci := 5) (j := 0) (q := (RX5, TX5, 6)) dd_X5_tryTwists_146 rfl (by decide) fl_X5_28 (by decide) gs_s30 rfl ?_
              refine sA_iload dd_X5_tryTwists_149 (.tail _ (.tail _ (.head _))) ?_
              refine sA_aload dd_X5_tryTwists_151 (.head _) ?_
              refine sA_callV (y2 := m_X7_doTwist) (n2 := 2) (d2 := 2) (a := 5) (ci := 7) (q := (RX7, TX7, 5)) (as := [gs_iv u, .ref 37]) (rest := []) dd_X5_tryTwists_153 ok_X7_doTwist ml_X5_69 rfl rfl (by decide) gs_s5 rfl rfl (Nat.le_of_ble_eq_true rfl) (by decide) (c_X7_doTwist I134 (by omega) gs_row_37) (fun r137 F138 A139 h140 => ?_)
              obtain ⟨z143, e142, I144, f145, x141⟩ := h140
              subst e142
              have f146 := gs_fr_tr f136 f145 (fun b j h => by first | exact False.elim h | omega | (dsimp only at h ⊢; omega)) (fun b h => by first | exact False.elim h | omega | (dsimp only at h ⊢; omega))
              show sA _ _ _ 156 _ [gs_iv z143] _ _
              refine sA_if_ne (tgt := 162) dd_X5_tryTwists_156 (by decide) (by omega) (fun q147 => ?_) (fun q147 => ?_)
              · skip
                refine sA_iload dd_X5_tryTwists_162 (.tail _ (.tail _ (.tail _ (.tail _ (.head _))))) ?_
                refine sA_if_ne (tgt := 192) dd_X5_tryTwists_164 (by decide) (by omega) (fun q148 => ?_) (fun q148 => absurd q148 (by omega))
                refine sA_aload dd_X5_tryTwists_192 (.head _) ?_
                refine sA_aload_n dd_X5_tryTwists_194 rfl (.tail _ (.tail _ (.tail _ (.tail _ (.tail _ (.head _)))))) ?_
                refine sA_getr (ci := 5) (j := 4) (q := (RX5, TX5, 6)) dd_X5_tryTwists_195 rfl (by decide) fl_X5_24 (by decide) gs_s30 rfl ?_
                refine sA_callV (y2 := m_X4_isOneWith) (n2 := 1) (d2 := 2) (a := 37) (ci := 4) (q := (RX4, TX4, 2)) (as := [.ref 33]) (rest := []) dd_X5_tryTwists_198 ok_X4_isOneWith ml_X5_43 rfl rfl (Nat.lt_of_succ_lt gs_row_37.1) gs_row_37.2.1 rfl rfl (Nat.le_of_ble_eq_true rfl) (by decide) (c_X4_isOneWith I144 gs_row_37 gs_row_33) (fun r149 F150 A151 h152 => ?_)
                obtain ⟨z155, e154, e156, e157, x153⟩ := h152
                subst e154 e156 e157
                show sA _ _ _ 201 _ [gs_iv z155] _ _
                refine sA_if_eq (tgt := 210) dd_X5_tryTwists_201 (by decide) (by omega) (fun q158 => ?_) (fun q158 => ?_)
                · skip
                  refine sA_iinc (lv' := [(7, gs_iv (u + 1)), (9, .ref 37), (8, gs_iv w3), (6, gs_iv sz), (5, gs_iv lt), (0, .ref 30), (1, gs_iv 0), (2, gs_iv k), (3, gs_iv r), (4, gs_iv wt)]) dd_X5_tryTwists_210 (.tail _ (.tail _ (.head _))) (by decide) rfl ?_
                  refine sA_goto (tgt := 47) dd_X5_tryTwists_213 (by decide) ?_
                  refine sA_sub (lv2 := [(7, gs_iv (u + 1)), (6, gs_iv sz), (5, gs_iv lt), (0, .ref 30), (1, gs_iv 0), (2, gs_iv k), (3, gs_iv r), (4, gs_iv wt)]) (List.forall_mem_cons.mpr ⟨(.head _), (List.forall_mem_cons.mpr ⟨(.tail _ (.tail _ (.tail _ (.head _)))), (List.forall_mem_cons.mpr ⟨(.tail _ (.tail _ (.tail _ (.tail _ (.head _))))), (List.forall_mem_cons.mpr ⟨(.tail _ (.tail _ (.tail _ (.tail _ (.tail _ (.head _)))))), (List.forall_mem_cons.mpr ⟨(.tail _ (.tail _ (.tail _ (.tail _ (.tail _ (.tail _ (.head _))))))), (List.forall_mem_cons.mpr ⟨(.tail _ (.tail _ (.tail _ (.tail _ (.tail _ (.tail _ (.tail _ (.head _)))))))), (List.forall_mem_cons.mpr ⟨(.tail _ (.tail _ (.tail _ (.tail _ (.tail _ (.tail _ (.tail _ (.tail _ (.head _))))))))), (List.forall_mem_cons.mpr ⟨(.tail _ (.tail _ (.tail _ (.tail _ (.tail _ (.tail _ (.tail _ (.tail _ (.tail _ (.head _)))))))))), (fun _ h => absurd h List.not_mem_nil)⟩)⟩)⟩)⟩)⟩)⟩)⟩)⟩) ?_
                  exact ih lt sz (u + 1) F138 A139 I144 f146 (by omega) (by omega) (by omega) (by omega) (by omega)
                · skip
                  refine sA_aload_n dd_X5_tryTwists_204 rfl (.tail _ (.tail _ (.tail _ (.tail _ (.tail _ (.head _)))))) ?_
                  refine sA_iload dd_X5_tryTwists_205 (.tail _ (.head _)) ?_
                  refine sA_put (ci := 5) (j := 5) (q := (RX5, TX5, 6)) (ty := .int) dd_X5_tryTwists_207 rfl (by decide) fl_X5_53 rfl (tyX5_ok 5 (by decide)) rfl rfl (by decide) gs_s30 rfl ?_
                  have I160 : gs_I (gs_up F138 30 5 w3) A139 := gs_I_put I144 (show (-2147483648 : Int) ≤ w3 ∧ w3 ≤ 2147483647 by omega)
                  have f161 := gs_fr_put f146 (a := 30) (z := w3) (j := 5) (by first | omega | (dsimp only; omega) | (dsimp only))
                  have v162 : gs_up F138 30 5 w3 30 5 = w3 := gs_up_self _ _ _ _
                  generalize gs_up F138 30 5 w3 = F159 at I160 f161 v162 ⊢
                  refine sA_iinc (lv' := [(7, gs_iv (u + 1)), (9, .ref 37), (8, gs_iv w3), (6, gs_iv sz), (5, gs_iv lt), (0, .ref 30), (1, gs_iv 0), (2, gs_iv k), (3, gs_iv r), (4, gs_iv wt)]) dd_X5_tryTwists_210 (.tail _ (.tail _ (.head _))) (by decide) rfl ?_
                  refine sA_goto (tgt := 47) dd_X5_tryTwists_213 (by decide) ?_
                  refine sA_sub (lv2 := [(7, gs_iv (u + 1)), (6, gs_iv sz), (5, gs_iv lt), (0, .ref 30), (1, gs_iv 0), (2, gs_iv k), (3, gs_iv r), (4, gs_iv wt)]) (List.forall_mem_cons.mpr ⟨(.head _), (List.forall_mem_cons.mpr ⟨(.tail _ (.tail _ (.tail _ (.head _)))), (List.forall_mem_cons.mpr ⟨(.tail _ (.tail _ (.tail _ (.tail _ (.head _))))), (List.forall_mem_cons.mpr ⟨(.tail _ (.tail _ (.tail _ (.tail _ (.tail _ (.head _)))))), (List.forall_mem_cons.mpr ⟨(.tail _ (.tail _ (.tail _ (.tail _ (.tail _ (.tail _ (.head _))))))), (List.forall_mem_cons.mpr ⟨(.tail _ (.tail _ (.tail _ (.tail _ (.tail _ (.tail _ (.tail _ (.head _)))))))), (List.forall_mem_cons.mpr ⟨(.tail _ (.tail _ (.tail _ (.tail _ (.tail _ (.tail _ (.tail _ (.tail _ (.head _))))))))), (List.forall_mem_cons.mpr ⟨(.tail _ (.tail _ (.tail _ (.tail _ (.tail _ (.tail _ (.tail _ (.tail _ (.tail _ (.head _)))))))))), (fun _ h => absurd h List.not_mem_nil)⟩)⟩)⟩)⟩)⟩)⟩)⟩)⟩) ?_
                  exact ih lt sz (u + 1) F159 A139 I160 f161 (by omega) (by omega) (by omega) (by omega) (by omega)
              · skip
                refine sA_goto (tgt := 210) dd_X5_tryTwists_159 (by decide) ?_
                refine sA_iinc (lv' := [(7, gs_iv (u + 1)), (9, .ref 37), (8, gs_iv w3), (6, gs_iv sz), (5, gs_iv lt), (0, .ref 30), (1, gs_iv 0), (2, gs_iv k), (3, gs_iv r), (4, gs_iv wt)]) dd_X5_tryTwists_210 (.tail _ (.tail _ (.head _))) (by decide) rfl ?_
                refine sA_goto (tgt := 47) dd_X5_tryTwists_213 (by decide) ?_
                refine sA_sub (lv2 := [(7, gs_iv (u + 1)), (6, gs_iv sz), (5, gs_iv lt), (0, .ref 30), (1, gs_iv 0), (2, gs_iv k), (3, gs_iv r), (4, gs_iv wt)]) (List.forall_mem_cons.mpr ⟨(.head _), (List.forall_mem_cons.mpr ⟨(.tail _ (.tail _ (.tail _ (.head _)))), (List.forall_mem_cons.mpr ⟨(.tail _ (.tail _ (.tail _ (.tail _ (.head _))))), (List.forall_mem_cons.mpr ⟨(.tail _ (.tail _ (.tail _ (.tail _ (.tail _ (.head _)))))), (List.forall_mem_cons.mpr ⟨(.tail _ (.tail _ (.tail _ (.tail _ (.tail _ (.tail _ (.head _))))))), (List.forall_mem_cons.mpr ⟨(.tail _ (.tail _ (.tail _ (.tail _ (.tail _ (.tail _ (.tail _ (.head _)))))))), (List.forall_mem_cons.mpr ⟨(.tail _ (.tail _ (.tail _ (.tail _ (.tail _ (.tail _ (.tail _ (.tail _ (.head _))))))))), (List.forall_mem_cons.mpr ⟨(.tail _ (.tail _ (.tail _ (.tail _ (.tail _ (.tail _ (.tail _ (.tail _ (.tail _ (.head _)))))))))), (fun _ h => absurd h List.not_mem_nil)⟩)⟩)⟩)⟩)⟩)⟩)⟩)⟩) ?_
                exact ih lt sz (u + 1) F138 A139 I144 f146 (by omega) (by omega) (by omega) (by omega) (by omega)
            · skip
              refine sA_aload_n dd_X5_tryTwists_109 rfl (.tail _ (.tail _ (.tail _ (.tail _ (.head _))))) ?_
              refine sA_getr (ci := 5) (j := 3) (q := (RX5, TX5, 6)) dd_X5_tryTwists_110 rfl (by decide) fl_X5_17 (by decide) gs_s30 rfl ?_
              refine sA_iload dd_X5_tryTwists_113 (.tail _ (.head _)) ?_
              refine sA_iald (n := 16) dd_X5_tryTwists_115 (by decide) gs_s32 (by omega) (by decide) ?_
              refine sA_iload dd_X5_tryTwists_116 (.tail _ (.tail _ (.head _))) ?_
              refine sA_icmp_eq (tgt := 124) dd_X5_tryTwists_118 (by decide) (by omega) (by omega) (fun q163 => ?_) (fun q163 => ?_)
              · skip
                refine sA_aload_n dd_X5_tryTwists_124 rfl (.tail _ (.tail _ (.tail _ (.tail _ (.head _))))) ?_
                refine sA_getr (ci := 5) (j := 2) (q := (RX5, TX5, 6)) dd_X5_tryTwists_125 rfl (by decide) fl_X5_11 (by decide) gs_s30 rfl ?_
                refine sA_iload_n dd_X5_tryTwists_128 rfl (.tail _ (.tail _ (.tail _ (.tail _ (.tail _ (.head _)))))) ?_
                refine sA_iconst (z := 1) dd_X5_tryTwists_129 ?_
                refine sA_iadd dd_X5_tryTwists_130 ?_
                show sA _ _ _ _ _ (gs_iv 1 :: _) _ _
                refine sA_aald (n := 4) dd_X5_tryTwists_131 (by decide) (by decide) (by decide) gs_s31 (by omega) (by decide) ?_
                show sA _ _ _ _ _ (.ref 37 :: _) _ _
                refine sA_astore (lv' := [(9, .ref 37), (8, gs_iv w3), (7, gs_iv u), (6, gs_iv sz), (5, gs_iv lt), (0, .ref 30), (1, gs_iv 0), (2, gs_iv k), (3, gs_iv r), (4, gs_iv wt)]) dd_X5_tryTwists_132 (by decide) rfl ?_
                refine sA_aload dd_X5_tryTwists_134 (.head _) ?_
                refine sA_aload_n dd_X5_tryTwists_136 rfl (.tail _ (.tail _ (.tail _ (.tail _ (.tail _ (.head _)))))) ?_
                refine sA_getr (ci := 5) (j := 2) (q := (RX5, TX5, 6)) dd_X5_tryTwists_137 rfl (by decide) fl_X5_11 (by decide) gs_s30 rfl ?_
                refine sA_iload_n dd_X5_tryTwists_140 rfl (.tail _ (.tail _ (.tail _ (.tail _ (.tail _ (.tail _ (.head _))))))) ?_
                refine sA_aald (n := 4) dd_X5_tryTwists_141 (by decide) (by decide) (by decide) gs_s31 (by omega) (by decide) ?_
                show sA _ _ _ _ _ (.ref 35 :: _) _ _
                refine sA_callV (y2 := m_X4_copy) (n2 := 1) (d2 := 1) (a := 37) (ci := 4) (q := (RX4, TX4, 2)) (as := [.ref 35]) (rest := []) dd_X5_tryTwists_142 ok_X4_copy ml_X5_36 rfl rfl (Nat.lt_of_succ_lt gs_row_37.1) gs_row_37.2.1 rfl rfl (Nat.le_of_ble_eq_true rfl) (by decide) (c_X4_copy hI1 gs_row_37 gs_row_35) (fun r166 F167 A168 h169 => ?_)
                obtain ⟨e171, I172, f173, x170⟩ := h169
                subst e171
                have f174 := gs_fr_tr hf1 f173 (fun b j h => by first | exact False.elim h | omega | (dsimp only at h ⊢; omega)) (fun b h => by first | exact False.elim h | omega | (dsimp only at h ⊢; omega))
                show sA _ _ _ 145 _ [] _ _
                refine sA_aload_n dd_X5_tryTwists_145 rfl (.tail _ (.tail _ (.tail _ (.tail _ (.tail _ (.head _)))))) ?_
                refine sA_getr (ci := 5) (j := 0) (q := (RX5, TX5, 6)) dd_X5_tryTwists_146 rfl (by decide) fl_X5_28 (by decide) gs_s30 rfl ?_
                refine sA_iload dd_X5_tryTwists_149 (.tail _ (.tail _ (.head _))) ?_
                refine sA_aload dd_X5_tryTwists_151 (.head _) ?_
                refine sA_callV (y2 := m_X7_doTwist) (n2 := 2) (d2 := 2) (a := 5) (ci := 7) (q := (RX7, TX7, 5)) (as := [gs_iv u, .ref 37]) (rest := []) dd_X5_tryTwists_153 ok_X7_doTwist ml_X5_69 rfl rfl (by decide) gs_s5 rfl rfl (Nat.le_of_ble_eq_true rfl) (by decide) (c_X7_doTwist I172 (by omega) gs_row_37) (fun r175 F176 A177 h178 => ?_)
                obtain ⟨z181, e180, I182, f183, x179⟩ := h178
                subst e180
                have f184 := gs_fr_tr f174 f183 (fun b j h => by first | exact False.elim h | omega | (dsimp only at h ⊢; omega)) (fun b h => by first | exact False.elim h | omega | (dsimp only at h ⊢; omega))
                show sA _ _ _ 156 _ [gs_iv z181] _ _
                refine sA_if_ne (tgt := 162) dd_X5_tryTwists_156 (by decide) (by omega) (fun q185 => ?_) (fun q185 => ?_)
                · skip
                  refine sA_iload dd_X5_tryTwists_162 (.tail _ (.tail _ (.tail _ (.tail _ (.head _))))) ?_
                  refine sA_if_ne (tgt := 192) dd_X5_tryTwists_164 (by decide) (by omega) (fun q186 => ?_) (fun q186 => absurd q186 (by omega))
                  refine sA_aload dd_X5_tryTwists_192 (.head _) ?_
                  refine sA_aload_n dd_X5_tryTwists_194 rfl (.tail _ (.tail _ (.tail _ (.tail _ (.tail _ (.head _)))))) ?_
                  refine sA_getr (ci := 5) (j := 4) (q := (RX5, TX5, 6)) dd_X5_tryTwists_195 rfl (by decide) fl_X5_24 (by decide) gs_s30 rfl ?_
                  refine sA_callV (y2 := m_X4_isOneWith) (n2 := 1) (d2 := 2) (a := 37) (ci := 4) (q := (RX4, TX4, 2)) (as := [.ref 33]) (rest := []) dd_X5_tryTwists_198 ok_X4_isOneWith ml_X5_43 rfl rfl (Nat.lt_of_succ_lt gs_row_37.1) gs_row_37.2.1 rfl rfl (Nat.le_of_ble_eq_true rfl) (by decide) (c_X4_isOneWith I182 gs_row_37 gs_row_33) (fun r187 F188 A189 h190 => ?_)
                  obtain ⟨z193, e192, e194, e195, x191⟩ := h190
                  subst e192 e194 e195
                  show sA _ _ _ 201 _ [gs_iv z193] _ _
                  refine sA_if_eq (tgt := 210) dd_X5_tryTwists_201 (by decide) (by omega) (fun q196 => ?_) (fun q196 => ?_)
                  · skip
                    refine sA_iinc (lv' := [(7, gs_iv (u + 1)), (9, .ref 37), (8, gs_iv w3), (6, gs_iv sz), (5, gs_iv lt), (0, .ref 30), (1, gs_iv 0), (2, gs_iv k), (3, gs_iv r), (4, gs_iv wt)]) dd_X5_tryTwists_210 (.tail _ (.tail _ (.head _))) (by decide) rfl ?_
                    refine sA_goto (tgt := 47) dd_X5_tryTwists_213 (by decide) ?_
                    refine sA_sub (lv2 := [(7, gs_iv (u + 1)), (6, gs_iv sz), (5, gs_iv lt), (0, .ref 30), (1, gs_iv 0), (2, gs_iv k), (3, gs_iv r), (4, gs_iv wt)]) (List.forall_mem_cons.mpr ⟨(.head _), (List.forall_mem_cons.mpr ⟨(.tail _ (.tail _ (.tail _ (.head _)))), (List.forall_mem_cons.mpr ⟨(.tail _ (.tail _ (.tail _ (.tail _ (.head _))))), (List.forall_mem_cons.mpr ⟨(.tail _ (.tail _ (.tail _ (.tail _ (.tail _ (.head _)))))), (List.forall_mem_cons.mpr ⟨(.tail _ (.tail _ (.tail _ (.tail _ (.tail _ (.tail _ (.head _))))))), (List.forall_mem_cons.mpr ⟨(.tail _ (.tail _ (.tail _ (.tail _ (.tail _ (.tail _ (.tail _ (.head _)))))))), (List.forall_mem_cons.mpr ⟨(.tail _ (.tail _ (.tail _ (.tail _ (.tail _ (.tail _ (.tail _ (.tail _ (.head _))))))))), (List.forall_mem_cons.mpr ⟨(.tail _ (.tail _ (.tail _ (.tail _ (.tail _ (.tail _ (.tail _ (.tail _ (.tail _ (.head _)))))))))), (fun _ h => absurd h List.not_mem_nil)⟩)⟩)⟩)⟩)⟩)⟩)⟩)⟩) ?_
                    exact ih lt sz (u + 1) F176 A177 I182 f184 (by omega) (by omega) (by omega) (by omega) (by omega)
                  · skip
                    refine sA_aload_n dd_X5_tryTwists_204 rfl (.tail _ (.tail _ (.tail _ (.tail _ (.tail _ (.head _)))))) ?_
                    refine sA_iload dd_X5_tryTwists_205 (.tail _ (.head _)) ?_
                    refine sA_put (ci := 5) (j := 5) (q := (RX5, TX5, 6)) (ty := .int) dd_X5_tryTwists_207 rfl (by decide) fl_X5_53 rfl (tyX5_ok 5 (by decide)) rfl rfl (by decide) gs_s30 rfl ?_
                    have I198 : gs_I (gs_up F176 30 5 w3) A177 := gs_I_put I182 (show (-2147483648 : Int) ≤ w3 ∧ w3 ≤ 2147483647 by omega)
                    have f199 := gs_fr_put f184 (a := 30) (z := w3) (j := 5) (by first | omega | (dsimp only; omega) | (dsimp only))
                    have v200 : gs_up F176 30 5 w3 30 5 = w3 := gs_up_self _ _ _ _
                    generalize gs_up F176 30 5 w3 = F197 at I198 f199 v200 ⊢
                    refine sA_iinc (lv' := [(7, gs_iv (u + 1)), (9, .ref 37), (8, gs_iv w3), (6, gs_iv sz), (5, gs_iv lt), (0, .ref 30), (1, gs_iv 0), (2, gs_iv k), (3, gs_iv r), (4, gs_iv wt)]) dd_X5_tryTwists_210 (.tail _ (.tail _ (.head _))) (by decide) rfl ?_
                    refine sA_goto (tgt := 47) dd_X5_tryTwists_213 (by decide) ?_
                    refine sA_sub (lv2 := [(7, gs_iv (u + 1)), (6, gs_iv sz), (5, gs_iv lt), (0, .ref 30), (1, gs_iv 0), (2, gs_iv k), (3, gs_iv r), (4, gs_iv wt)]) (List.forall_mem_cons.mpr ⟨(.head _), (List.forall_mem_cons.mpr ⟨(.tail _ (.tail _ (.tail _ (.head _)))), (List.forall_mem_cons.mpr ⟨(.tail _ (.tail _ (.tail _ (.tail _ (.head _))))), (List.forall_mem_cons.mpr ⟨(.tail _ (.tail _ (.tail _ (.tail _ (.tail _ (.head _)))))), (List.forall_mem_cons.mpr ⟨(.tail _ (.tail _ (.tail _ (.tail _ (.tail _ (.tail _ (.head _))))))), (List.forall_mem_cons.mpr ⟨(.tail _ (.tail _ (.tail _ (.tail _ (.tail _ (.tail _ (.tail _ (.head _)))))))), (List.forall_mem_cons.mpr ⟨(.tail _ (.tail _ (.tail _ (.tail _ (.tail _ (.tail _ (.tail _ (.tail _ (.head _))))))))), (List.forall_mem_cons.mpr ⟨(.tail _ (.tail _ (.tail _ (.tail _ (.tail _ (.tail _ (.tail _ (.tail _ (.tail _ (.head _)))))))))), (fun _ h => absurd h List.not_mem_nil)⟩)⟩)⟩)⟩)⟩)⟩)⟩)⟩) ?_
                    exact ih lt sz (u + 1) F197 A177 I198 f199 (by omega) (by omega) (by omega) (by omega) (by omega)
                · skip
                  refine sA_goto (tgt := 210) dd_X5_tryTwists_159 (by decide) ?_
                  refine sA_iinc (lv' := [(7, gs_iv (u + 1)), (9, .ref 37), (8, gs_iv w3), (6, gs_iv sz), (5, gs_iv lt), (0, .ref 30), (1, gs_iv 0), (2, gs_iv k), (3, gs_iv r), (4, gs_iv wt)]) dd_X5_tryTwists_210 (.tail _ (.tail _ (.head _))) (by decide) rfl ?_
                  refine sA_goto (tgt := 47) dd_X5_tryTwists_213 (by decide) ?_
                  refine sA_sub (lv2 := [(7, gs_iv (u + 1)), (6, gs_iv sz), (5, gs_iv lt), (0, .ref 30), (1, gs_iv 0), (2, gs_iv k), (3, gs_iv r), (4, gs_iv wt)]) (List.forall_mem_cons.mpr ⟨(.head _), (List.forall_mem_cons.mpr ⟨(.tail _ (.tail _ (.tail _ (.head _)))), (List.forall_mem_cons.mpr ⟨(.tail _ (.tail _ (.tail _ (.tail _ (.head _))))), (List.forall_mem_cons.mpr ⟨(.tail _ (.tail _ (.tail _ (.tail _ (.tail _ (.head _)))))), (List.forall_mem_cons.mpr ⟨(.tail _ (.tail _ (.tail _ (.tail _ (.tail _ (.tail _ (.head _))))))), (List.forall_mem_cons.mpr ⟨(.tail _ (.tail _ (.tail _ (.tail _ (.tail _ (.tail _ (.tail _ (.head _)))))))), (List.forall_mem_cons.mpr ⟨(.tail _ (.tail _ (.tail _ (.tail _ (.tail _ (.tail _ (.tail _ (.tail _ (.head _))))))))), (List.forall_mem_cons.mpr ⟨(.tail _ (.tail _ (.tail _ (.tail _ (.tail _ (.tail _ (.tail _ (.tail _ (.tail _ (.head _)))))))))), (fun _ h => absurd h List.not_mem_nil)⟩)⟩)⟩)⟩)⟩)⟩)⟩)⟩) ?_
                  exact ih lt sz (u + 1) F176 A177 I182 f184 (by omega) (by omega) (by omega) (by omega) (by omega)
              · skip
                refine sA_goto (tgt := 210) dd_X5_tryTwists_121 (by decide) ?_
                refine sA_iinc (lv' := [(7, gs_iv (u + 1)), (8, gs_iv w3), (6, gs_iv sz), (5, gs_iv lt), (0, .ref 30), (1, gs_iv 0), (2, gs_iv k), (3, gs_iv r), (4, gs_iv wt)]) dd_X5_tryTwists_210 (.tail _ (.head _)) (by decide) rfl ?_
                refine sA_goto (tgt := 47) dd_X5_tryTwists_213 (by decide) ?_
                refine sA_sub (lv2 := [(7, gs_iv (u + 1)), (6, gs_iv sz), (5, gs_iv lt), (0, .ref 30), (1, gs_iv 0), (2, gs_iv k), (3, gs_iv r), (4, gs_iv wt)]) (List.forall_mem_cons.mpr ⟨(.head _), (List.forall_mem_cons.mpr ⟨(.tail _ (.tail _ (.head _))), (List.forall_mem_cons.mpr ⟨(.tail _ (.tail _ (.tail _ (.head _)))), (List.forall_mem_cons.mpr ⟨(.tail _ (.tail _ (.tail _ (.tail _ (.head _))))), (List.forall_mem_cons.mpr ⟨(.tail _ (.tail _ (.tail _ (.tail _ (.tail _ (.head _)))))), (List.forall_mem_cons.mpr ⟨(.tail _ (.tail _ (.tail _ (.tail _ (.tail _ (.tail _ (.head _))))))), (List.forall_mem_cons.mpr ⟨(.tail _ (.tail _ (.tail _ (.tail _ (.tail _ (.tail _ (.tail _ (.head _)))))))), (List.forall_mem_cons.mpr ⟨(.tail _ (.tail _ (.tail _ (.tail _ (.tail _ (.tail _ (.tail _ (.tail _ (.head _))))))))), (fun _ h => absurd h List.not_mem_nil)⟩)⟩)⟩)⟩)⟩)⟩)⟩)⟩) ?_
                exact ih lt sz (u + 1) F1 A1 hI1 hf1 (by omega) (by omega) (by omega) (by omega) (by omega)
          · skip
            refine sA_vret dd_X5_tryTwists_92 rfl ?_
            exact ⟨rfl, hI1, hf1, trivial⟩
theorem c_X5_tryTwists_v0 {k r wt : Int} {F A : gs_F} (hI : gs_I F A) (hk : 0 ≤ k ∧ k ≤ 3) (hr0 : -2147483648 ≤ r ∧ r ≤ 2147483647) (hwt : -2147483648 ≤ wt ∧ wt ≤ 2147483647) : sC m_X5_tryTwists 6 [.ref 30, gs_iv 0, gs_iv k, gs_iv r, gs_iv wt] F A (fun rv F' A' => rv = none ∧ gs_I F' A' ∧ gs_fr (fun c j => (c = 30 ∧ j = 5) ∨ (35 ≤ c ∧ c < 43 ∧ j = 1)) (fun c => c = 7 ∨ (35 ≤ c ∧ c < 43)) F A F' A' ∧ (True)) := by
  refine sC_of ok_X5_tryTwists.1 (Nat.le_of_ble_eq_true rfl) ?_
  show sA _ _ _ 0 [(0, .ref 30), (1, gs_iv 0), (2, gs_iv k), (3, gs_iv r), (4, gs_iv wt)] [] F A
  have hf : gs_fr (fun c j => (c = 30 ∧ j = 5) ∨ (35 ≤ c ∧ c < 43 ∧ j = 1)) (fun c => c = 7 ∨ (35 ≤ c ∧ c < 43)) F A F A := gs_fr_refl _ _ _ _
  refine sA_iload_n dd_X5_tryTwists_0 rfl (.tail _ (.head _)) ?_
  refine sA_if_lt (tgt := 18) dd_X5_tryTwists_1 (by decide) (by omega) (fun q201 => absurd q201 (by omega)) (fun q201 => ?_)
  refine sA_iload_n dd_X5_tryTwists_4 rfl (.tail _ (.head _)) ?_
  refine sA_iload_n dd_X5_tryTwists_5 rfl (.tail _ (.tail _ (.head _))) ?_
  refine sA_icmp_ge (tgt := 18) dd_X5_tryTwists_6 (by decide) (by omega) (by omega) (fun q202 => ?_) (fun q202 => ?_)
  · skip
    refine sA_vret dd_X5_tryTwists_18 rfl ?_
    exact ⟨rfl, hI, hf, trivial⟩
  · skip
    refine sA_iload_n dd_X5_tryTwists_9 rfl (.tail _ (.tail _ (.head _))) ?_
    refine sA_aload_n dd_X5_tryTwists_10 rfl (.head _) ?_
    refine sA_getr (ci := 5) (j := 2) (q := (RX5, TX5, 6)) dd_X5_tryTwists_11 rfl (by decide) fl_X5_11 (by decide) gs_s30 rfl ?_
    refine sA_alenq (n := 4) dd_X5_tryTwists_14 (by decide) (by decide) gs_s31 ?_
    refine sA_icmp_lt (tgt := 19) dd_X5_tryTwists_15 (by decide) (by omega) (by omega) (fun q203 => ?_) (fun q203 => ?_)
    · skip
      refine sA_iload_n dd_X5_tryTwists_19 rfl (.tail _ (.head _)) ?_
      refine sA_iconst (z := 1) dd_X5_tryTwists_20 ?_
      refine sA_iadd dd_X5_tryTwists_21 ?_
      show sA _ _ _ _ _ (gs_iv 1 :: _) _ _
      refine sA_iload_n dd_X5_tryTwists_22 rfl (.tail _ (.tail _ (.head _))) ?_
      refine sA_icmp_ne (tgt := 30) dd_X5_tryTwists_23 (by decide) (by omega) (by omega) (fun q204 => ?_) (fun q204 => ?_)
      · skip
        refine sA_iconst (z := 0) dd_X5_tryTwists_30 ?_
        refine sA_istore (lv' := [(5, gs_iv 0), (0, .ref 30), (1, gs_iv 0), (2, gs_iv k), (3, gs_iv r), (4, gs_iv wt)]) dd_X5_tryTwists_31 (by decide) rfl ?_
        refine sA_aload_n dd_X5_tryTwists_33 rfl (.tail _ (.head _)) ?_
        refine sA_getr (ci := 5) (j := 2) (q := (RX5, TX5, 6)) dd_X5_tryTwists_34 rfl (by decide) fl_X5_11 (by decide) gs_s30 rfl ?_
        refine sA_iload_n dd_X5_tryTwists_37 rfl (.tail _ (.tail _ (.head _))) ?_
        refine sA_aald (n := 4) dd_X5_tryTwists_38 (by decide) (by decide) (by decide) gs_s31 (by omega) (by decide) ?_
        show sA _ _ _ _ _ (.ref 35 :: _) _ _
        refine sA_callV (y2 := m_X4_closedSize) (n2 := 0) (d2 := 2) (a := 35) (ci := 4) (q := (RX4, TX4, 2)) (as := []) (rest := []) dd_X5_tryTwists_39 ok_X4_closedSize ml_X5_73 rfl rfl (Nat.lt_of_succ_lt gs_row_35.1) gs_row_35.2.1 rfl rfl (Nat.le_of_ble_eq_true rfl) (by decide) (c_X4_closedSize hI gs_row_35) (fun r206 F207 A208 h209 => ?_)
        obtain ⟨z212, e211, e213, e214, x210⟩ := h209
        subst e211 e213 e214
        show sA _ _ _ 42 _ [gs_iv z212] _ _
        refine sA_istore (lv' := [(6, gs_iv z212), (5, gs_iv 0), (0, .ref 30), (1, gs_iv 0), (2, gs_iv k), (3, gs_iv r), (4, gs_iv wt)]) dd_X5_tryTwists_42 (by decide) rfl ?_
        refine sA_iconst (z := 0) dd_X5_tryTwists_44 ?_
        refine sA_istore (lv' := [(7, gs_iv 0), (6, gs_iv z212), (5, gs_iv 0), (0, .ref 30), (1, gs_iv 0), (2, gs_iv k), (3, gs_iv r), (4, gs_iv wt)]) dd_X5_tryTwists_45 (by decide) rfl ?_
        refine sA_sub (lv2 := [(7, gs_iv 0), (6, gs_iv z212), (5, gs_iv 0), (0, .ref 30), (1, gs_iv 0), (2, gs_iv k), (3, gs_iv r), (4, gs_iv wt)]) (List.forall_mem_cons.mpr ⟨(.head _), (List.forall_mem_cons.mpr ⟨(.tail _ (.head _)), (List.forall_mem_cons.mpr ⟨(.tail _ (.tail _ (.head _))), (List.forall_mem_cons.mpr ⟨(.tail _ (.tail _ (.tail _ (.head _)))), (List.forall_mem_cons.mpr ⟨(.tail _ (.tail _ (.tail _ (.tail _ (.head _))))), (List.forall_mem_cons.mpr ⟨(.tail _ (.tail _ (.tail _ (.tail _ (.tail _ (.head _)))))), (List.forall_mem_cons.mpr ⟨(.tail _ (.tail _ (.tail _ (.tail _ (.tail _ (.tail _ (.head _))))))), (List.forall_mem_cons.mpr ⟨(.tail _ (.tail _ (.tail _ (.tail _ (.tail _ (.tail _ (.tail _ (.head _)))))))), (fun _ h => absurd h List.not_mem_nil)⟩)⟩)⟩)⟩)⟩)⟩)⟩)⟩) ?_
        exact (k_X5_tryTwists_v0 hI hk hr0 hwt (16 - 0 : Int).toNat.succ) 0 z212 0 F A hI hf (by omega) (by omega) (by omega) (by omega) (by omega)
      · skip
        refine sA_iconst (z := 1) dd_X5_tryTwists_26 ?_
        refine sA_goto (tgt := 31) dd_X5_tryTwists_27 (by decide) ?_
        refine sA_istore (lv' := [(5, gs_iv 1), (0, .ref 30), (1, gs_iv 0), (2, gs_iv k), (3, gs_iv r), (4, gs_iv wt)]) dd_X5_tryTwists_31 (by decide) rfl ?_
        refine sA_aload_n dd_X5_tryTwists_33 rfl (.tail _ (.head _)) ?_
        refine sA_getr (ci := 5) (j := 2) (q := (RX5, TX5, 6)) dd_X5_tryTwists_34 rfl (by decide) fl_X5_11 (by decide) gs_s30 rfl ?_
        refine sA_iload_n dd_X5_tryTwists_37 rfl (.tail _ (.tail _ (.head _))) ?_
        refine sA_aald (n := 4) dd_X5_tryTwists_38 (by decide) (by decide) (by decide) gs_s31 (by omega) (by decide) ?_
        show sA _ _ _ _ _ (.ref 35 :: _) _ _
        refine sA_callV (y2 := m_X4_closedSize) (n2 := 0) (d2 := 2) (a := 35) (ci := 4) (q := (RX4, TX4, 2)) (as := []) (rest := []) dd_X5_tryTwists_39 ok_X4_closedSize ml_X5_73 rfl rfl (Nat.lt_of_succ_lt gs_row_35.1) gs_row_35.2.1 rfl rfl (Nat.le_of_ble_eq_true rfl) (by decide) (c_X4_closedSize hI gs_row_35) (fun r216 F217 A218 h219 => ?_)
        obtain ⟨z222, e221, e223, e224, x220⟩ := h219
        subst e221 e223 e224
        show sA _ _ _ 42 _ [gs_iv z222] _ _
        refine sA_istore (lv' := [(6, gs_iv z222), (5, gs_iv 1), (0, .ref 30), (1, gs_iv 0), (2, gs_iv k), (3, gs_iv r), (4, gs_iv wt)]) dd_X5_tryTwists_42 (by decide) rfl ?_
        refine sA_iconst (z := 0) dd_X5_tryTwists_44 ?_
        refine sA_istore (lv' := [(7, gs_iv 0), (6, gs_iv z222), (5, gs_iv 1), (0, .ref 30), (1, gs_iv 0), (2, gs_iv k), (3, gs_iv r), (4, gs_iv wt)]) dd_X5_tryTwists_45 (by decide) rfl ?_
        refine sA_sub (lv2 := [(7, gs_iv 0), (6, gs_iv z222), (5, gs_iv 1), (0, .ref 30), (1, gs_iv 0), (2, gs_iv k), (3, gs_iv r), (4, gs_iv wt)]) (List.forall_mem_cons.mpr ⟨(.head _), (List.forall_mem_cons.mpr ⟨(.tail _ (.head _)), (List.forall_mem_cons.mpr ⟨(.tail _ (.tail _ (.head _))), (List.forall_mem_cons.mpr ⟨(.tail _ (.tail _ (.tail _ (.head _)))), (List.forall_mem_cons.mpr ⟨(.tail _ (.tail _ (.tail _ (.tail _ (.head _))))), (List.forall_mem_cons.mpr ⟨(.tail _ (.tail _ (.tail _ (.tail _ (.tail _ (.head _)))))), (List.forall_mem_cons.mpr ⟨(.tail _ (.tail _ (.tail _ (.tail _ (.tail _ (.tail _ (.head _))))))), (List.forall_mem_cons.mpr ⟨(.tail _ (.tail _ (.tail _ (.tail _ (.tail _ (.tail _ (.tail _ (.head _)))))))), (fun _ h => absurd h List.not_mem_nil)⟩)⟩)⟩)⟩)⟩)⟩)⟩)⟩) ?_
        exact (k_X5_tryTwists_v0 hI hk hr0 hwt (16 - 0 : Int).toNat.succ) 1 z222 0 F A hI hf (by omega) (by omega) (by omega) (by omega) (by omega)
    · skip
      refine sA_vret dd_X5_tryTwists_18 rfl ?_
      exact ⟨rfl, hI, hf, trivial⟩
theorem dd_X5_forCarrying_0 : decode cX5_forCarrying 0 = .ok (.aload_n 0, 1) := by decide +kernel
theorem dd_X5_forCarrying_1 : decode cX5_forCarrying 1 = .ok (.getfield 24, 3) := by decide +kernel
theorem dd_X5_forCarrying_4 : decode cX5_forCarrying 4 = .ok (.aload_n 2, 1) := by decide +kernel
theorem dd_X5_forCarrying_5 : decode cX5_forCarrying 5 = .ok (.invokevirtual 36, 3) := by decide +kernel
theorem dd_X5_forCarrying_8 : decode cX5_forCarrying 8 = .ok (.aload_n 0, 1) := by decide +kernel
theorem dd_X5_forCarrying_9 : decode cX5_forCarrying 9 = .ok (.invokevirtual 40, 3) := by decide +kernel
theorem dd_X5_forCarrying_12 : decode cX5_forCarrying 12 = .ok (.aload_n 0, 1) := by decide +kernel
theorem dd_X5_forCarrying_13 : decode cX5_forCarrying 13 = .ok (.getfield 11, 3) := by decide +kernel
theorem dd_X5_forCarrying_16 : decode cX5_forCarrying 16 = .ok (.iconst 0, 1) := by decide +kernel
theorem dd_X5_forCarrying_17 : decode cX5_forCarrying 17 = .ok (.aaload, 1) := by decide +kernel
theorem dd_X5_forCarrying_18 : decode cX5_forCarrying 18 = .ok (.aload_n 1, 1) := by decide +kernel
theorem dd_X5_forCarrying_19 : decode cX5_forCarrying 19 = .ok (.invokevirtual 36, 3) := by decide +kernel
theorem dd_X5_forCarrying_22 : decode cX5_forCarrying 22 = .ok (.aload_n 1, 1) := by decide +kernel
theorem dd_X5_forCarrying_23 : decode cX5_forCarrying 23 = .ok (.aload_n 2, 1) := by decide +kernel
theorem dd_X5_forCarrying_24 : decode cX5_forCarrying 24 = .ok (.invokevirtual 43, 3) := by decide +kernel
theorem dd_X5_forCarrying_27 : decode cX5_forCarrying 27 = .ok (.ifCond .eq 11, 3) := by decide +kernel
theorem dd_X5_forCarrying_30 : decode cX5_forCarrying 30 = .ok (.aload 4, 2) := by decide +kernel
theorem dd_X5_forCarrying_32 : decode cX5_forCarrying 32 = .ok (.iconst 0, 1) := by decide +kernel
theorem dd_X5_forCarrying_33 : decode cX5_forCarrying 33 = .ok (.putfield 47, 3) := by decide +kernel
theorem dd_X5_forCarrying_36 : decode cX5_forCarrying 36 = .ok (.iconst 1, 1) := by decide +kernel
theorem dd_X5_forCarrying_37 : decode cX5_forCarrying 37 = .ok (.ireturn, 1) := by decide +kernel
theorem dd_X5_forCarrying_38 : decode cX5_forCarrying 38 = .ok (.iconst 1, 1) := by decide +kernel
theorem dd_X5_forCarrying_39 : decode cX5_forCarrying 39 = .ok (.istore 5, 2) := by decide +kernel
theorem dd_X5_forCarrying_41 : decode cX5_forCarrying 41 = .ok (.iload 5, 2) := by decide +kernel
theorem dd_X5_forCarrying_43 : decode cX5_forCarrying 43 = .ok (.iload_n 3, 1) := by decide +kernel
theorem dd_X5_forCarrying_44 : decode cX5_forCarrying 44 = .ok (.if_icmp .gt 45, 3) := by decide +kernel
theorem dd_X5_forCarrying_47 : decode cX5_forCarrying 47 = .ok (.aload_n 0, 1) := by decide +kernel
theorem dd_X5_forCarrying_48 : decode cX5_forCarrying 48 = .ok (.iconst (-1), 1) := by decide +kernel
theorem dd_X5_forCarrying_49 : decode cX5_forCarrying 49 = .ok (.putfield 53, 3) := by decide +kernel
theorem dd_X5_forCarrying_52 : decode cX5_forCarrying 52 = .ok (.aload_n 0, 1) := by decide +kernel
theorem dd_X5_forCarrying_53 : decode cX5_forCarrying 53 = .ok (.iconst 0, 1) := by decide +kernel
theorem dd_X5_forCarrying_54 : decode cX5_forCarrying 54 = .ok (.iload 5, 2) := by decide +kernel
theorem dd_X5_forCarrying_56 : decode cX5_forCarrying 56 = .ok (.iconst 0, 1) := by decide +kernel
theorem dd_X5_forCarrying_57 : decode cX5_forCarrying 57 = .ok (.iconst 1, 1) := by decide +kernel
theorem dd_X5_forCarrying_58 : decode cX5_forCarrying 58 = .ok (.invokevirtual 56, 3) := by decide +kernel
theorem dd_X5_forCarrying_61 : decode cX5_forCarrying 61 = .ok (.aload_n 0, 1) := by decide +kernel
theorem dd_X5_forCarrying_62 : decode cX5_forCarrying 62 = .ok (.getfield 53, 3) := by decide +kernel
theorem dd_X5_forCarrying_65 : decode cX5_forCarrying 65 = .ok (.iconst (-1), 1) := by decide +kernel
theorem dd_X5_forCarrying_66 : decode cX5_forCarrying 66 = .ok (.if_icmp .eq 17, 3) := by decide +kernel
theorem dd_X5_forCarrying_69 : decode cX5_forCarrying 69 = .ok (.aload_n 0, 1) := by decide +kernel
theorem dd_X5_forCarrying_70 : decode cX5_forCarrying 70 = .ok (.aload_n 0, 1) := by decide +kernel
theorem dd_X5_forCarrying_71 : decode cX5_forCarrying 71 = .ok (.getfield 53, 3) := by decide +kernel
theorem dd_X5_forCarrying_74 : decode cX5_forCarrying 74 = .ok (.iload 5, 2) := by decide +kernel
theorem dd_X5_forCarrying_76 : decode cX5_forCarrying 76 = .ok (.aload 4, 2) := by decide +kernel
theorem dd_X5_forCarrying_78 : decode cX5_forCarrying 78 = .ok (.invokevirtual 60, 3) := by decide +kernel
theorem dd_X5_forCarrying_81 : decode cX5_forCarrying 81 = .ok (.iconst 1, 1) := by decide +kernel
theorem dd_X5_forCarrying_82 : decode cX5_forCarrying 82 = .ok (.ireturn, 1) := by decide +kernel
theorem dd_X5_forCarrying_83 : decode cX5_forCarrying 83 = .ok (.iinc 5 1, 3) := by decide +kernel
theorem dd_X5_forCarrying_86 : decode cX5_forCarrying 86 = .ok (.goto (-45), 3) := by decide +kernel
theorem dd_X5_forCarrying_89 : decode cX5_forCarrying 89 = .ok (.iconst 0, 1) := by decide +kernel
theorem dd_X5_forCarrying_90 : decode cX5_forCarrying 90 = .ok (.ireturn, 1) := by decide +kernel
theorem ml_X5_40 : Cond.methodLink RX5 40 m_X5_measureAhead.1 ∈ am_tbl := ri_lw_in (pl := 738) (by decide +kernel)
theorem ml_X5_60 : Cond.methodLink RX5 60 m_X5_spell.1 ∈ am_tbl := ri_lw_in (pl := 752) (by decide +kernel)
theorem ok_X5_forCarrying : am_okM m_X5_forCarrying 4 ∧ Cond.instanceMethod m_X5_forCarrying.1 ∈ am_tbl ∧ Cond.selects m_X5_forCarrying.1.cls m_X5_forCarrying.1 m_X5_forCarrying.1 ∈ am_tbl := ri_mk1 736 88 734 735 (by decide +kernel)
theorem k_X5_forCarrying {a L b M p : Nat} {n : Int} {F A : gs_F} (hI : gs_I F A) (hr : gs_row a L) (ho : gs_row b M) (hn : 0 ≤ n ∧ n ≤ 3) (hp : gs_plan p) : ∀ nN : Nat, (∀ (k : Int)  (F1 A1 : gs_F), gs_I F1 A1 → gs_fr (fun c j => (c = 33 ∧ j = 1) ∨ (c = 30 ∧ j = 5) ∨ (35 ≤ c ∧ c < 43 ∧ j = 1) ∨ (c = p ∧ j = 1)) (fun c => c = 34 ∨ c = 7 ∨ c = 32 ∨ (35 ≤ c ∧ c < 43) ∨ c = p + 1) F A F1 A1 → 1 ≤ k ∧ k ≤ n + 1 → 4 - k < (nN : Int) → sA m_X5_forCarrying 7 (fun rv F' A' => ∃ z : Int, rv = some (gs_iv z) ∧ gs_I F' A' ∧ gs_fr (fun c j => (c = 33 ∧ j = 1) ∨ (c = 30 ∧ j = 5) ∨ (35 ≤ c ∧ c < 43 ∧ j = 1) ∨ (c = p ∧ j = 1)) (fun c => c = 34 ∨ c = 7 ∨ c = 32 ∨ (35 ≤ c ∧ c < 43) ∨ c = p + 1) F A F' A' ∧ (z = 0 ∨ z = 1)) 41 [(5, gs_iv k), (0, .ref 30), (3, gs_iv n), (4, .ref p)] [] F1 A1) := by
  intro nN
  induction nN with
  | zero =>
    exact fun a0 a1 a2 a3 a4 i0 hm => by exfalso; omega
  | succ nN ih =>
    intro k F1 A1 hI1 hf1 i0 hm
    have b1 := gs_row_sz hr hI1
    have b2 := gs_row_sz ho hI1
    have b3 := gs_plan_sz hp hI1
    refine sA_iload dd_X5_forCarrying_41 (.head _) ?_
    refine sA_iload_n dd_X5_forCarrying_43 rfl (.tail _ (.tail _ (.head _))) ?_
    refine sA_icmp_gt (tgt := 89) dd_X5_forCarrying_44 (by decide) (by omega) (by omega) (fun q4 => ?_) (fun q4 => ?_)
    · skip
      refine sA_iconst (z := 0) dd_X5_forCarrying_89 ?_
      refine sA_bret (z := 0) dd_X5_forCarrying_90 rfl (by omega) ?_
      exact ⟨_, rfl, hI1, hf1, by omega⟩
    · skip
      refine sA_aload_n dd_X5_forCarrying_47 rfl (.tail _ (.head _)) ?_
      refine sA_iconst (z := (-1)) dd_X5_forCarrying_48 ?_
      refine sA_put (ci := 5) (j := 5) (q := (RX5, TX5, 6)) (ty := .int) dd_X5_forCarrying_49 rfl (by decide) fl_X5_53 rfl (tyX5_ok 5 (by decide)) rfl rfl (by decide) gs_s30 rfl ?_
      have I6 : gs_I (gs_up F1 30 5 (-1)) A1 := gs_I_put hI1 (show (-2147483648 : Int) ≤ -1 ∧ -1 ≤ 2147483647 by omega)
      have f7 := gs_fr_put hf1 (a := 30) (z := -1) (j := 5) (by first | omega | (dsimp only; omega) | (dsimp only))
      have v8 : gs_up F1 30 5 (-1) 30 5 = -1 := gs_up_self _ _ _ _
      generalize gs_up F1 30 5 (-1) = F5 at I6 f7 v8 ⊢
      refine sA_aload_n dd_X5_forCarrying_52 rfl (.tail _ (.head _)) ?_
      refine sA_iconst (z := 0) dd_X5_forCarrying_53 ?_
      refine sA_iload dd_X5_forCarrying_54 (.head _) ?_
      refine sA_iconst (z := 0) dd_X5_forCarrying_56 ?_
      refine sA_iconst (z := 1) dd_X5_forCarrying_57 ?_
      refine sA_callV (y2 := m_X5_tryTwists) (n2 := 4) (d2 := 6) (a := 30) (ci := 5) (q := (RX5, TX5, 6)) (as := [gs_iv 0, gs_iv k, gs_iv 0, gs_iv 1]) (rest := []) dd_X5_forCarrying_58 ok_X5_tryTwists ml_X5_56 rfl rfl (by decide) gs_s30 rfl rfl (Nat.le_of_ble_eq_true rfl) (by decide) (c_X5_tryTwists_v0 I6 (by omega) (by omega) (by omega)) (fun r9 F10 A11 h12 => ?_)
      obtain ⟨e14, I15, f16, x13⟩ := h12
      subst e14
      have f17 := gs_fr_tr f7 f16 (fun b j h => by first | exact False.elim h | omega | (dsimp only at h ⊢; omega)) (fun b h => by first | exact False.elim h | omega | (dsimp only at h ⊢; omega))
      show sA _ _ _ 61 _ [] _ _
      refine sA_aload_n dd_X5_forCarrying_61 rfl (.tail _ (.head _)) ?_
      refine sA_geti (ci := 5) (j := 5) (q := (RX5, TX5, 6)) dd_X5_forCarrying_62 rfl (by decide) fl_X5_53 (by decide) gs_s30 rfl ?_
      have b18 : (-2147483648 : Int) ≤ F10 30 5 ∧ F10 30 5 ≤ 2147483647 := I15.1 30 5
      refine sA_iconst (z := (-1)) dd_X5_forCarrying_65 ?_
      refine sA_icmp_eq (tgt := 83) dd_X5_forCarrying_66 (by decide) (by omega) (by omega) (fun q19 => ?_) (fun q19 => ?_)
      · skip
        refine sA_iinc (lv' := [(5, gs_iv (k + 1)), (0, .ref 30), (3, gs_iv n), (4, .ref p)]) dd_X5_forCarrying_83 (.head _) (by decide) rfl ?_
        refine sA_goto (tgt := 41) dd_X5_forCarrying_86 (by decide) ?_
        have b20 := gs_row_sz hr I15
        have b21 := gs_row_sz ho I15
        have b22 := gs_plan_sz hp I15
        refine sA_sub (lv2 := [(5, gs_iv (k + 1)), (0, .ref 30), (3, gs_iv n), (4, .ref p)]) (List.forall_mem_cons.mpr ⟨(.head _), (List.forall_mem_cons.mpr ⟨(.tail _ (.head _)), (List.forall_mem_cons.mpr ⟨(.tail _ (.tail _ (.head _))), (List.forall_mem_cons.mpr ⟨(.tail _ (.tail _ (.tail _ (.head _)))), (fun _ h => absurd h List.not_mem_nil)⟩)⟩)⟩)⟩) ?_
        exact ih (k + 1) F10 A11 I15 f17 (by omega) (by omega)
      · skip
        refine sA_aload_n dd_X5_forCarrying_69 rfl (.tail _ (.head _)) ?_
        refine sA_aload_n dd_X5_forCarrying_70 rfl (.tail _ (.head _)) ?_
        refine sA_geti (ci := 5) (j := 5) (q := (RX5, TX5, 6)) dd_X5_forCarrying_71 rfl (by decide) fl_X5_53 (by decide) gs_s30 rfl ?_
        refine sA_iload dd_X5_forCarrying_74 (.head _) ?_
        refine sA_aload dd_X5_forCarrying_76 (.tail _ (.tail _ (.tail _ (.head _)))) ?_
        refine sA_callV (y2 := m_X5_spell) (n2 := 3) (d2 := 1) (a := 30) (ci := 5) (q := (RX5, TX5, 6)) (as := [gs_iv (F10 30 5), gs_iv k, .ref p]) (rest := []) dd_X5_forCarrying_78 ok_X5_spell ml_X5_60 rfl rfl (by decide) gs_s30 rfl rfl (Nat.le_of_ble_eq_true rfl) (by decide) (c_X5_spell I15 (by omega) (by omega) hp) (fun r23 F24 A25 h26 => ?_)
        obtain ⟨e28, I29, f30, x27⟩ := h26
        subst e28
        have f31 := gs_fr_tr f17 f30 (fun b j h => by first | exact False.elim h | omega | (dsimp only at h ⊢; omega)) (fun b h => by first | exact False.elim h | omega | (dsimp only at h ⊢; omega))
        show sA _ _ _ 81 _ [] _ _
        refine sA_iconst (z := 1) dd_X5_forCarrying_81 ?_
        refine sA_bret (z := 1) dd_X5_forCarrying_82 rfl (by omega) ?_
        exact ⟨_, rfl, I29, f31, by omega⟩
theorem c_X5_forCarrying {a L b M p : Nat} {n : Int} {F A : gs_F} (hI : gs_I F A) (hr : gs_row a L) (ho : gs_row b M) (hn : 0 ≤ n ∧ n ≤ 3) (hp : gs_plan p) : sC m_X5_forCarrying 7 [.ref 30, .ref a, .ref b, gs_iv n, .ref p] F A (fun rv F' A' => ∃ z : Int, rv = some (gs_iv z) ∧ gs_I F' A' ∧ gs_fr (fun c j => (c = 33 ∧ j = 1) ∨ (c = 30 ∧ j = 5) ∨ (35 ≤ c ∧ c < 43 ∧ j = 1) ∨ (c = p ∧ j = 1)) (fun c => c = 34 ∨ c = 7 ∨ c = 32 ∨ (35 ≤ c ∧ c < 43) ∨ c = p + 1) F A F' A' ∧ (z = 0 ∨ z = 1)) := by
  refine sC_of ok_X5_forCarrying.1 (Nat.le_of_ble_eq_true rfl) ?_
  show sA _ _ _ 0 [(0, .ref 30), (1, .ref a), (2, .ref b), (3, gs_iv n), (4, .ref p)] [] F A
  have hf : gs_fr (fun c j => (c = 33 ∧ j = 1) ∨ (c = 30 ∧ j = 5) ∨ (35 ≤ c ∧ c < 43 ∧ j = 1) ∨ (c = p ∧ j = 1)) (fun c => c = 34 ∨ c = 7 ∨ c = 32 ∨ (35 ≤ c ∧ c < 43) ∨ c = p + 1) F A F A := gs_fr_refl _ _ _ _
  have b32 := gs_row_sz hr hI
  have b33 := gs_row_sz ho hI
  have b34 := gs_plan_sz hp hI
  refine sA_aload_n dd_X5_forCarrying_0 rfl (.head _) ?_
  refine sA_getr (ci := 5) (j := 4) (q := (RX5, TX5, 6)) dd_X5_forCarrying_1 rfl (by decide) fl_X5_24 (by decide) gs_s30 rfl ?_
  refine sA_aload_n dd_X5_forCarrying_4 rfl (.tail _ (.tail _ (.head _))) ?_
  refine sA_callV (y2 := m_X4_copy) (n2 := 1) (d2 := 1) (a := 33) (ci := 4) (q := (RX4, TX4, 2)) (as := [.ref b]) (rest := []) dd_X5_forCarrying_5 ok_X4_copy ml_X5_36 rfl rfl (Nat.lt_of_succ_lt gs_row_33.1) gs_row_33.2.1 rfl rfl (Nat.le_of_ble_eq_true rfl) (by decide) (c_X4_copy hI gs_row_33 ho) (fun r35 F36 A37 h38 => ?_)
  obtain ⟨e40, I41, f42, x39⟩ := h38
  subst e40
  have f43 := gs_fr_tr hf f42 (fun b j h => by first | exact False.elim h | omega | (dsimp only at h ⊢; omega)) (fun b h => by first | exact False.elim h | omega | (dsimp only at h ⊢; omega))
  show sA _ _ _ 8 _ [] _ _
  refine sA_aload_n dd_X5_forCarrying_8 rfl (.head _) ?_
  refine sA_callV (y2 := m_X5_measureAhead) (n2 := 0) (d2 := 3) (a := 30) (ci := 5) (q := (RX5, TX5, 6)) (as := []) (rest := []) dd_X5_forCarrying_9 ok_X5_measureAhead ml_X5_40 rfl rfl (by decide) gs_s30 rfl rfl (Nat.le_of_ble_eq_true rfl) (by decide) (c_X5_measureAhead I41 ) (fun r44 F45 A46 h47 => ?_)
  obtain ⟨e49, I50, f51, x48⟩ := h47
  subst e49
  have f52 := gs_fr_tr f43 f51 (fun b j h => by first | exact False.elim h | omega | (dsimp only at h ⊢; omega)) (fun b h => by first | exact False.elim h | omega | (dsimp only at h ⊢; omega))
  show sA _ _ _ 12 _ [] _ _
  refine sA_aload_n dd_X5_forCarrying_12 rfl (.head _) ?_
  refine sA_getr (ci := 5) (j := 2) (q := (RX5, TX5, 6)) dd_X5_forCarrying_13 rfl (by decide) fl_X5_11 (by decide) gs_s30 rfl ?_
  refine sA_iconst (z := 0) dd_X5_forCarrying_16 ?_
  refine sA_aald (n := 4) dd_X5_forCarrying_17 (by decide) (by decide) (by decide) gs_s31 (by omega) (by decide) ?_
  show sA _ _ _ _ _ (.ref 35 :: _) _ _
  refine sA_aload_n dd_X5_forCarrying_18 rfl (.tail _ (.head _)) ?_
  refine sA_callV (y2 := m_X4_copy) (n2 := 1) (d2 := 1) (a := 35) (ci := 4) (q := (RX4, TX4, 2)) (as := [.ref a]) (rest := []) dd_X5_forCarrying_19 ok_X4_copy ml_X5_36 rfl rfl (Nat.lt_of_succ_lt gs_row_35.1) gs_row_35.2.1 rfl rfl (Nat.le_of_ble_eq_true rfl) (by decide) (c_X4_copy I50 gs_row_35 hr) (fun r54 F55 A56 h57 => ?_)
  obtain ⟨e59, I60, f61, x58⟩ := h57
  subst e59
  have f62 := gs_fr_tr f52 f61 (fun b j h => by first | exact False.elim h | omega | (dsimp only at h ⊢; omega)) (fun b h => by first | exact False.elim h | omega | (dsimp only at h ⊢; omega))
  show sA _ _ _ 22 _ [] _ _
  refine sA_aload_n dd_X5_forCarrying_22 rfl (.tail _ (.head _)) ?_
  refine sA_aload_n dd_X5_forCarrying_23 rfl (.tail _ (.tail _ (.head _))) ?_
  refine sA_callV (y2 := m_X4_isOneWith) (n2 := 1) (d2 := 2) (a := a) (ci := 4) (q := (RX4, TX4, 2)) (as := [.ref b]) (rest := []) dd_X5_forCarrying_24 ok_X4_isOneWith ml_X5_43 rfl rfl (Nat.lt_of_succ_lt hr.1) hr.2.1 rfl rfl (Nat.le_of_ble_eq_true rfl) (by decide) (c_X4_isOneWith I60 hr ho) (fun r63 F64 A65 h66 => ?_)
  obtain ⟨z69, e68, e70, e71, x67⟩ := h66
  subst e68 e70 e71
  show sA _ _ _ 27 _ [gs_iv z69] _ _
  refine sA_if_eq (tgt := 38) dd_X5_forCarrying_27 (by decide) (by omega) (fun q72 => ?_) (fun q72 => ?_)
  · skip
    refine sA_iconst (z := 1) dd_X5_forCarrying_38 ?_
    refine sA_istore (lv' := [(5, gs_iv 1), (0, .ref 30), (1, .ref a), (2, .ref b), (3, gs_iv n), (4, .ref p)]) dd_X5_forCarrying_39 (by decide) rfl ?_
    have b73 := gs_row_sz hr I60
    have b74 := gs_row_sz ho I60
    have b75 := gs_plan_sz hp I60
    refine sA_sub (lv2 := [(5, gs_iv 1), (0, .ref 30), (3, gs_iv n), (4, .ref p)]) (List.forall_mem_cons.mpr ⟨(.head _), (List.forall_mem_cons.mpr ⟨(.tail _ (.head _)), (List.forall_mem_cons.mpr ⟨(.tail _ (.tail _ (.tail _ (.tail _ (.head _))))), (List.forall_mem_cons.mpr ⟨(.tail _ (.tail _ (.tail _ (.tail _ (.tail _ (.head _)))))), (fun _ h => absurd h List.not_mem_nil)⟩)⟩)⟩)⟩) ?_
    exact (k_X5_forCarrying hI hr ho hn hp (4 - 1 : Int).toNat.succ) 1 F55 A56 I60 f62 (by omega) (by omega)
  · skip
    refine sA_aload dd_X5_forCarrying_30 (.tail _ (.tail _ (.tail _ (.tail _ (.head _))))) ?_
    refine sA_iconst (z := 0) dd_X5_forCarrying_32 ?_
    refine sA_put (ci := 2) (j := 1) (q := (RX2, TX2, 2)) (ty := .int) dd_X5_forCarrying_33 rfl (by decide) fl_X5_47 rfl (tyX2_ok 1 (by decide)) rfl rfl (Nat.lt_of_succ_lt hp.1) hp.2.1 rfl ?_
    have I77 : gs_I (gs_up F55 p 1 0) A56 := gs_plan_put hp I60 (by omega)
    have f78 := gs_fr_put f62 (a := p) (z := 0) (j := 1) (by first | omega | (dsimp only; omega) | (dsimp only))
    have v79 : gs_up F55 p 1 0 p 1 = 0 := gs_up_self _ _ _ _
    generalize gs_up F55 p 1 0 = F76 at I77 f78 v79 ⊢
    refine sA_iconst (z := 1) dd_X5_forCarrying_36 ?_
    refine sA_bret (z := 1) dd_X5_forCarrying_37 rfl (by omega) ?_
    exact ⟨_, rfl, I77, f78, by omega⟩
theorem dd_X5_doesAsImages_0 : decode cX5_doesAsImages 0 = .ok (.aload_n 0, 1) := by decide +kernel
theorem dd_X5_doesAsImages_1 : decode cX5_doesAsImages 1 = .ok (.getfield 11, 3) := by decide +kernel
theorem dd_X5_doesAsImages_4 : decode cX5_doesAsImages 4 = .ok (.iconst 0, 1) := by decide +kernel
theorem dd_X5_doesAsImages_5 : decode cX5_doesAsImages 5 = .ok (.aaload, 1) := by decide +kernel
theorem dd_X5_doesAsImages_6 : decode cX5_doesAsImages 6 = .ok (.astore_n 2, 1) := by decide +kernel
theorem dd_X5_doesAsImages_7 : decode cX5_doesAsImages 7 = .ok (.iconst 1, 1) := by decide +kernel
theorem dd_X5_doesAsImages_8 : decode cX5_doesAsImages 8 = .ok (.istore_n 3, 1) := by decide +kernel
theorem dd_X5_doesAsImages_9 : decode cX5_doesAsImages 9 = .ok (.iload_n 3, 1) := by decide +kernel
theorem dd_X5_doesAsImages_10 : decode cX5_doesAsImages 10 = .ok (.aload_n 0, 1) := by decide +kernel
theorem dd_X5_doesAsImages_11 : decode cX5_doesAsImages 11 = .ok (.getfield 32, 3) := by decide +kernel
theorem dd_X5_doesAsImages_14 : decode cX5_doesAsImages 14 = .ok (.getfield 90, 3) := by decide +kernel
theorem dd_X5_doesAsImages_17 : decode cX5_doesAsImages 17 = .ok (.if_icmp .gt 46, 3) := by decide +kernel
theorem dd_X5_doesAsImages_20 : decode cX5_doesAsImages 20 = .ok (.aload_n 2, 1) := by decide +kernel
theorem dd_X5_doesAsImages_21 : decode cX5_doesAsImages 21 = .ok (.iload_n 3, 1) := by decide +kernel
theorem dd_X5_doesAsImages_22 : decode cX5_doesAsImages 22 = .ok (.invokevirtual 95, 3) := by decide +kernel
theorem dd_X5_doesAsImages_25 : decode cX5_doesAsImages 25 = .ok (.aload_n 0, 1) := by decide +kernel
theorem dd_X5_doesAsImages_26 : decode cX5_doesAsImages 26 = .ok (.getfield 28, 3) := by decide +kernel
theorem dd_X5_doesAsImages_29 : decode cX5_doesAsImages 29 = .ok (.aload_n 1, 1) := by decide +kernel
theorem dd_X5_doesAsImages_30 : decode cX5_doesAsImages 30 = .ok (.aload_n 2, 1) := by decide +kernel
theorem dd_X5_doesAsImages_31 : decode cX5_doesAsImages 31 = .ok (.invokevirtual 98, 3) := by decide +kernel
theorem dd_X5_doesAsImages_34 : decode cX5_doesAsImages 34 = .ok (.ifCond .eq 21, 3) := by decide +kernel
theorem dd_X5_doesAsImages_37 : decode cX5_doesAsImages 37 = .ok (.aload_n 2, 1) := by decide +kernel
theorem dd_X5_doesAsImages_38 : decode cX5_doesAsImages 38 = .ok (.aload_n 0, 1) := by decide +kernel
theorem dd_X5_doesAsImages_39 : decode cX5_doesAsImages 39 = .ok (.getfield 32, 3) := by decide +kernel
theorem dd_X5_doesAsImages_42 : decode cX5_doesAsImages 42 = .ok (.getfield 102, 3) := by decide +kernel
theorem dd_X5_doesAsImages_45 : decode cX5_doesAsImages 45 = .ok (.iload_n 3, 1) := by decide +kernel
theorem dd_X5_doesAsImages_46 : decode cX5_doesAsImages 46 = .ok (.iconst 1, 1) := by decide +kernel
theorem dd_X5_doesAsImages_47 : decode cX5_doesAsImages 47 = .ok (.isub, 1) := by decide +kernel
theorem dd_X5_doesAsImages_48 : decode cX5_doesAsImages 48 = .ok (.aaload, 1) := by decide +kernel
theorem dd_X5_doesAsImages_49 : decode cX5_doesAsImages 49 = .ok (.invokevirtual 105, 3) := by decide +kernel
theorem dd_X5_doesAsImages_52 : decode cX5_doesAsImages 52 = .ok (.ifCond .ne 5, 3) := by decide +kernel
theorem dd_X5_doesAsImages_55 : decode cX5_doesAsImages 55 = .ok (.iconst 0, 1) := by decide +kernel
theorem dd_X5_doesAsImages_56 : decode cX5_doesAsImages 56 = .ok (.ireturn, 1) := by decide +kernel
theorem dd_X5_doesAsImages_57 : decode cX5_doesAsImages 57 = .ok (.iinc 3 1, 3) := by decide +kernel
theorem dd_X5_doesAsImages_60 : decode cX5_doesAsImages 60 = .ok (.goto (-51), 3) := by decide +kernel
theorem dd_X5_doesAsImages_63 : decode cX5_doesAsImages 63 = .ok (.iconst 1, 1) := by decide +kernel
theorem dd_X5_doesAsImages_64 : decode cX5_doesAsImages 64 = .ok (.ireturn, 1) := by decide +kernel
theorem fl_X5_102 : Cond.fieldLink RX5 102 (TX0 0).1 (TX0 0).2.1 (TX0 0).2.2.1 ∈ am_tbl := ri_lw_in (pl := 179) (by decide +kernel)
theorem fl_X5_32 : Cond.fieldLink RX5 32 (TX5 1).1 (TX5 1).2.1 (TX5 1).2.2.1 ∈ am_tbl := ri_lw_in (pl := 203) (by decide +kernel)
theorem fl_X5_90 : Cond.fieldLink RX5 90 (TX0 1).1 (TX0 1).2.1 (TX0 1).2.2.1 ∈ am_tbl := ri_lw_in (pl := 182) (by decide +kernel)
theorem ml_X5_105 : Cond.methodLink RX5 105 m_X4_isLike.1 ∈ am_tbl := ri_lw_in (pl := 771) (by decide +kernel)
theorem ml_X5_95 : Cond.methodLink RX5 95 m_X4_becomeLetter.1 ∈ am_tbl := ri_lw_in (pl := 769) (by decide +kernel)
theorem ml_X5_98 : Cond.methodLink RX5 98 m_X7_doPlan.1 ∈ am_tbl := ri_lw_in (pl := 770) (by decide +kernel)
theorem ok_X5_doesAsImages : am_okM m_X5_doesAsImages 1 ∧ Cond.instanceMethod m_X5_doesAsImages.1 ∈ am_tbl ∧ Cond.selects m_X5_doesAsImages.1.cls m_X5_doesAsImages.1 m_X5_doesAsImages.1 ∈ am_tbl := ri_mk1 768 88 767 28 (by decide +kernel)
theorem k_X5_doesAsImages {b : Nat} {F A : gs_F} (hI : gs_I F A) (ho : gs_plan b) : ∀ nN : Nat, (∀ (x : Int)  (F1 A1 : gs_F), gs_I F1 A1 → gs_fr (fun c j => c = 35 ∧ j = 1) (fun c => c = 36 ∨ c = 7) F A F1 A1 → 1 ≤ x ∧ x ≤ 7 → 7 - x < (nN : Int) → sA m_X5_doesAsImages 4 (fun rv F' A' => ∃ z : Int, rv = some (gs_iv z) ∧ gs_I F' A' ∧ gs_fr (fun c j => c = 35 ∧ j = 1) (fun c => c = 36 ∨ c = 7) F A F' A' ∧ (z = 0 ∨ z = 1)) 9 [(3, gs_iv x), (0, .ref 30), (1, .ref b), (2, .ref 35)] [] F1 A1) := by
  intro nN
  induction nN with
  | zero =>
    exact fun a0 a1 a2 a3 a4 i0 hm => by exfalso; omega
  | succ nN ih =>
    intro x F1 A1 hI1 hf1 i0 hm
    have b1 := gs_plan_sz ho hI1
    refine sA_iload_n dd_X5_doesAsImages_9 rfl (.head _) ?_
    refine sA_aload_n dd_X5_doesAsImages_10 rfl (.tail _ (.head _)) ?_
    refine sA_getr (ci := 5) (j := 1) (q := (RX5, TX5, 6)) dd_X5_doesAsImages_11 rfl (by decide) fl_X5_32 (by decide) gs_s30 rfl ?_
    refine sA_geti (ci := 0) (j := 1) (q := (RX0, TX0, 4)) dd_X5_doesAsImages_14 rfl (by decide) fl_X5_90 (by decide) gs_s15 rfl ?_
    have b2 : (0 : Int) ≤ F1 15 1 ∧ F1 15 1 ≤ 6 := hI1.1 15 1
    refine sA_icmp_gt (tgt := 63) dd_X5_doesAsImages_17 (by decide) (by omega) (by omega) (fun q3 => ?_) (fun q3 => ?_)
    · skip
      refine sA_iconst (z := 1) dd_X5_doesAsImages_63 ?_
      refine sA_bret (z := 1) dd_X5_doesAsImages_64 rfl (by omega) ?_
      exact ⟨_, rfl, hI1, hf1, by omega⟩
    · skip
      refine sA_aload_n dd_X5_doesAsImages_20 rfl (.tail _ (.tail _ (.tail _ (.head _)))) ?_
      refine sA_iload_n dd_X5_doesAsImages_21 rfl (.head _) ?_
      refine sA_callV (y2 := m_X4_becomeLetter) (n2 := 1) (d2 := 1) (a := 35) (ci := 4) (q := (RX4, TX4, 2)) (as := [gs_iv x]) (rest := []) dd_X5_doesAsImages_22 ok_X4_becomeLetter ml_X5_95 rfl rfl (Nat.lt_of_succ_lt gs_row_35.1) gs_row_35.2.1 rfl rfl (Nat.le_of_ble_eq_true rfl) (by decide) (c_X4_becomeLetter hI1 gs_row_35 (by omega)) (fun r4 F5 A6 h7 => ?_)
      obtain ⟨e9, I10, f11, x8⟩ := h7
      subst e9
      have f12 := gs_fr_tr hf1 f11 (fun b j h => by first | exact False.elim h | omega | (dsimp only at h ⊢; omega)) (fun b h => by first | exact False.elim h | omega | (dsimp only at h ⊢; omega))
      show sA _ _ _ 25 _ [] _ _
      refine sA_aload_n dd_X5_doesAsImages_25 rfl (.tail _ (.head _)) ?_
      refine sA_getr (ci := 5) (j := 0) (q := (RX5, TX5, 6)) dd_X5_doesAsImages_26 rfl (by decide) fl_X5_28 (by decide) gs_s30 rfl ?_
      refine sA_aload_n dd_X5_doesAsImages_29 rfl (.tail _ (.tail _ (.head _))) ?_
      refine sA_aload_n dd_X5_doesAsImages_30 rfl (.tail _ (.tail _ (.tail _ (.head _)))) ?_
      refine sA_callV (y2 := m_X7_doPlan) (n2 := 2) (d2 := 3) (a := 5) (ci := 7) (q := (RX7, TX7, 5)) (as := [.ref b, .ref 35]) (rest := []) dd_X5_doesAsImages_31 ok_X7_doPlan ml_X5_98 rfl rfl (by decide) gs_s5 rfl rfl (Nat.le_of_ble_eq_true rfl) (by decide) (c_X7_doPlan I10 ho gs_row_35) (fun r13 F14 A15 h16 => ?_)
      obtain ⟨z19, e18, I20, f21, x17⟩ := h16
      subst e18
      have f22 := gs_fr_tr f12 f21 (fun b j h => by first | exact False.elim h | omega | (dsimp only at h ⊢; omega)) (fun b h => by first | exact False.elim h | omega | (dsimp only at h ⊢; omega))
      show sA _ _ _ 34 _ [gs_iv z19] _ _
      refine sA_if_eq (tgt := 55) dd_X5_doesAsImages_34 (by decide) (by omega) (fun q23 => ?_) (fun q23 => ?_)
      · skip
        refine sA_iconst (z := 0) dd_X5_doesAsImages_55 ?_
        refine sA_bret (z := 0) dd_X5_doesAsImages_56 rfl (by omega) ?_
        exact ⟨_, rfl, I20, f22, by omega⟩
      · skip
        refine sA_aload_n dd_X5_doesAsImages_37 rfl (.tail _ (.tail _ (.tail _ (.head _)))) ?_
        refine sA_aload_n dd_X5_doesAsImages_38 rfl (.tail _ (.head _)) ?_
        refine sA_getr (ci := 5) (j := 1) (q := (RX5, TX5, 6)) dd_X5_doesAsImages_39 rfl (by decide) fl_X5_32 (by decide) gs_s30 rfl ?_
        refine sA_getr (ci := 0) (j := 0) (q := (RX0, TX0, 4)) dd_X5_doesAsImages_42 rfl (by decide) fl_X5_102 (by decide) gs_s15 rfl ?_
        refine sA_iload_n dd_X5_doesAsImages_45 rfl (.head _) ?_
        refine sA_iconst (z := 1) dd_X5_doesAsImages_46 ?_
        refine sA_isub dd_X5_doesAsImages_47 ?_
        refine sA_aald (n := 6) dd_X5_doesAsImages_48 (by decide) (by decide) (by decide) gs_s16 (by omega) (by decide) ?_
        have g24 := gs_row_im (k := (x - 1).toNat) (by omega)
        refine sA_callV (y2 := m_X4_isLike) (n2 := 1) (d2 := 1) (a := 35) (ci := 4) (q := (RX4, TX4, 2)) (as := [.ref (18 + 2 * (x - 1).toNat)]) (rest := []) dd_X5_doesAsImages_49 ok_X4_isLike ml_X5_105 rfl rfl (Nat.lt_of_succ_lt gs_row_35.1) gs_row_35.2.1 rfl rfl (Nat.le_of_ble_eq_true rfl) (by decide) (c_X4_isLike I20 gs_row_35 g24) (fun r25 F26 A27 h28 => ?_)
        obtain ⟨z31, e30, e32, e33, x29⟩ := h28
        subst e30 e32 e33
        show sA _ _ _ 52 _ [gs_iv z31] _ _
        refine sA_if_ne (tgt := 57) dd_X5_doesAsImages_52 (by decide) (by omega) (fun q34 => ?_) (fun q34 => ?_)
        · skip
          refine sA_iinc (lv' := [(3, gs_iv (x + 1)), (0, .ref 30), (1, .ref b), (2, .ref 35)]) dd_X5_doesAsImages_57 (.head _) (by decide) rfl ?_
          refine sA_goto (tgt := 9) dd_X5_doesAsImages_60 (by decide) ?_
          have b35 := gs_plan_sz ho I20
          refine sA_sub (lv2 := [(3, gs_iv (x + 1)), (0, .ref 30), (1, .ref b), (2, .ref 35)]) (List.forall_mem_cons.mpr ⟨(.head _), (List.forall_mem_cons.mpr ⟨(.tail _ (.head _)), (List.forall_mem_cons.mpr ⟨(.tail _ (.tail _ (.head _))), (List.forall_mem_cons.mpr ⟨(.tail _ (.tail _ (.tail _ (.head _)))), (fun _ h => absurd h List.not_mem_nil)⟩)⟩)⟩)⟩) ?_
          exact ih (x + 1) F14 A15 I20 f22 (by omega) (by omega)
        · skip
          refine sA_iconst (z := 0) dd_X5_doesAsImages_55 ?_
          refine sA_bret (z := 0) dd_X5_doesAsImages_56 rfl (by omega) ?_
          exact ⟨_, rfl, I20, f22, by omega⟩
theorem c_X5_doesAsImages {b : Nat} {F A : gs_F} (hI : gs_I F A) (ho : gs_plan b) : sC m_X5_doesAsImages 4 [.ref 30, .ref b] F A (fun rv F' A' => ∃ z : Int, rv = some (gs_iv z) ∧ gs_I F' A' ∧ gs_fr (fun c j => c = 35 ∧ j = 1) (fun c => c = 36 ∨ c = 7) F A F' A' ∧ (z = 0 ∨ z = 1)) := by
  refine sC_of ok_X5_doesAsImages.1 (Nat.le_of_ble_eq_true rfl) ?_
  show sA _ _ _ 0 [(0, .ref 30), (1, .ref b)] [] F A
  have hf : gs_fr (fun c j => c = 35 ∧ j = 1) (fun c => c = 36 ∨ c = 7) F A F A := gs_fr_refl _ _ _ _
  have b36 := gs_plan_sz ho hI
  refine sA_aload_n dd_X5_doesAsImages_0 rfl (.head _) ?_
  refine sA_getr (ci := 5) (j := 2) (q := (RX5, TX5, 6)) dd_X5_doesAsImages_1 rfl (by decide) fl_X5_11 (by decide) gs_s30 rfl ?_
  refine sA_iconst (z := 0) dd_X5_doesAsImages_4 ?_
  refine sA_aald (n := 4) dd_X5_doesAsImages_5 (by decide) (by decide) (by decide) gs_s31 (by omega) (by decide) ?_
  show sA _ _ _ _ _ (.ref 35 :: _) _ _
  refine sA_astore_n (lv' := [(2, .ref 35), (0, .ref 30), (1, .ref b)]) dd_X5_doesAsImages_6 rfl (by decide) rfl ?_
  refine sA_iconst (z := 1) dd_X5_doesAsImages_7 ?_
  refine sA_istore_n (lv' := [(3, gs_iv 1), (2, .ref 35), (0, .ref 30), (1, .ref b)]) dd_X5_doesAsImages_8 rfl (by decide) rfl ?_
  refine sA_sub (lv2 := [(3, gs_iv 1), (0, .ref 30), (1, .ref b), (2, .ref 35)]) (List.forall_mem_cons.mpr ⟨(.head _), (List.forall_mem_cons.mpr ⟨(.tail _ (.tail _ (.head _))), (List.forall_mem_cons.mpr ⟨(.tail _ (.tail _ (.tail _ (.head _)))), (List.forall_mem_cons.mpr ⟨(.tail _ (.head _)), (fun _ h => absurd h List.not_mem_nil)⟩)⟩)⟩)⟩) ?_
  exact (k_X5_doesAsImages hI ho (7 - 1 : Int).toNat.succ) 1 F A hI hf (by omega) (by omega)
theorem dd_X5_forImages_0 : decode cX5_forImages 0 = .ok (.iconst 1, 1) := by decide +kernel
theorem dd_X5_forImages_1 : decode cX5_forImages 1 = .ok (.istore_n 3, 1) := by decide +kernel
theorem dd_X5_forImages_2 : decode cX5_forImages 2 = .ok (.iconst 0, 1) := by decide +kernel
theorem dd_X5_forImages_3 : decode cX5_forImages 3 = .ok (.istore 4, 2) := by decide +kernel
theorem dd_X5_forImages_5 : decode cX5_forImages 5 = .ok (.iload 4, 2) := by decide +kernel
theorem dd_X5_forImages_7 : decode cX5_forImages 7 = .ok (.iload_n 1, 1) := by decide +kernel
theorem dd_X5_forImages_8 : decode cX5_forImages 8 = .ok (.if_icmp .gt 55, 3) := by decide +kernel
theorem dd_X5_forImages_11 : decode cX5_forImages 11 = .ok (.iconst 0, 1) := by decide +kernel
theorem dd_X5_forImages_12 : decode cX5_forImages 12 = .ok (.istore 5, 2) := by decide +kernel
theorem dd_X5_forImages_14 : decode cX5_forImages 14 = .ok (.iload 5, 2) := by decide +kernel
theorem dd_X5_forImages_16 : decode cX5_forImages 16 = .ok (.iload_n 3, 1) := by decide +kernel
theorem dd_X5_forImages_17 : decode cX5_forImages 17 = .ok (.if_icmp .ge 28, 3) := by decide +kernel
theorem dd_X5_forImages_20 : decode cX5_forImages 20 = .ok (.aload_n 0, 1) := by decide +kernel
theorem dd_X5_forImages_21 : decode cX5_forImages 21 = .ok (.iload 5, 2) := by decide +kernel
theorem dd_X5_forImages_23 : decode cX5_forImages 23 = .ok (.iload 4, 2) := by decide +kernel
theorem dd_X5_forImages_25 : decode cX5_forImages 25 = .ok (.aload_n 2, 1) := by decide +kernel
theorem dd_X5_forImages_26 : decode cX5_forImages 26 = .ok (.invokevirtual 60, 3) := by decide +kernel
theorem dd_X5_forImages_29 : decode cX5_forImages 29 = .ok (.aload_n 0, 1) := by decide +kernel
theorem dd_X5_forImages_30 : decode cX5_forImages 30 = .ok (.aload_n 2, 1) := by decide +kernel
theorem dd_X5_forImages_31 : decode cX5_forImages 31 = .ok (.invokevirtual 86, 3) := by decide +kernel
theorem dd_X5_forImages_34 : decode cX5_forImages 34 = .ok (.ifCond .eq 5, 3) := by decide +kernel
theorem dd_X5_forImages_37 : decode cX5_forImages 37 = .ok (.iconst 1, 1) := by decide +kernel
theorem dd_X5_forImages_38 : decode cX5_forImages 38 = .ok (.ireturn, 1) := by decide +kernel
theorem dd_X5_forImages_39 : decode cX5_forImages 39 = .ok (.iinc 5 1, 3) := by decide +kernel
theorem dd_X5_forImages_42 : decode cX5_forImages 42 = .ok (.goto (-28), 3) := by decide +kernel
theorem dd_X5_forImages_45 : decode cX5_forImages 45 = .ok (.iload_n 3, 1) := by decide +kernel
theorem dd_X5_forImages_46 : decode cX5_forImages 46 = .ok (.iconst 2, 1) := by decide +kernel
theorem dd_X5_forImages_47 : decode cX5_forImages 47 = .ok (.aload_n 0, 1) := by decide +kernel
theorem dd_X5_forImages_48 : decode cX5_forImages 48 = .ok (.getfield 28, 3) := by decide +kernel
theorem dd_X5_forImages_51 : decode cX5_forImages 51 = .ok (.getfield 64, 3) := by decide +kernel
theorem dd_X5_forImages_54 : decode cX5_forImages 54 = .ok (.imul, 1) := by decide +kernel
theorem dd_X5_forImages_55 : decode cX5_forImages 55 = .ok (.imul, 1) := by decide +kernel
theorem dd_X5_forImages_56 : decode cX5_forImages 56 = .ok (.istore_n 3, 1) := by decide +kernel
theorem dd_X5_forImages_57 : decode cX5_forImages 57 = .ok (.iinc 4 1, 3) := by decide +kernel
theorem dd_X5_forImages_60 : decode cX5_forImages 60 = .ok (.goto (-55), 3) := by decide +kernel
theorem dd_X5_forImages_63 : decode cX5_forImages 63 = .ok (.iconst 0, 1) := by decide +kernel
theorem dd_X5_forImages_64 : decode cX5_forImages 64 = .ok (.ireturn, 1) := by decide +kernel
theorem ml_X5_86 : Cond.methodLink RX5 86 m_X5_doesAsImages.1 ∈ am_tbl := ri_lw_in (pl := 765) (by decide +kernel)
theorem ok_X5_forImages : am_okM m_X5_forImages 2 ∧ Cond.instanceMethod m_X5_forImages.1 ∈ am_tbl ∧ Cond.selects m_X5_forImages.1.cls m_X5_forImages.1 m_X5_forImages.1 ∈ am_tbl := ri_mk1 764 88 762 763 (by decide +kernel)
theorem k_X5_forImages {b : Nat} {n : Int} {F A : gs_F} (hI : gs_I F A) (hn : 0 ≤ n ∧ n ≤ 3) (ho : gs_plan b) : ∀ nN : Nat, (∀ (m : Int) (k : Int)  (F1 A1 : gs_F), gs_I F1 A1 → gs_fr (fun c j => (c = 35 ∧ j = 1) ∨ (c = b ∧ j = 1)) (fun c => c = 36 ∨ c = 7 ∨ c = b + 1) F A F1 A1 → -2147483648 ≤ m ∧ m ≤ 2147483647 → 0 ≤ k ∧ k ≤ n + 1 → (4 - k) * 4294967296 + 1 < (nN : Int) → sA m_X5_forImages 5 (fun rv F' A' => ∃ z : Int, rv = some (gs_iv z) ∧ gs_I F' A' ∧ gs_fr (fun c j => (c = 35 ∧ j = 1) ∨ (c = b ∧ j = 1)) (fun c => c = 36 ∨ c = 7 ∨ c = b + 1) F A F' A' ∧ (z = 0 ∨ z = 1)) 5 [(4, gs_iv k), (3, gs_iv m), (0, .ref 30), (1, gs_iv n), (2, .ref b)] [] F1 A1) ∧ (∀ (m : Int) (k : Int) (r : Int)  (F1 A1 : gs_F), gs_I F1 A1 → gs_fr (fun c j => (c = 35 ∧ j = 1) ∨ (c = b ∧ j = 1)) (fun c => c = 36 ∨ c = 7 ∨ c = b + 1) F A F1 A1 → -2147483648 ≤ m ∧ m ≤ 2147483647 → 0 ≤ k ∧ k ≤ n → 0 ≤ r ∧ r ≤ 2147483647 → (4 - k) * 4294967296 - r < (nN : Int) → sA m_X5_forImages 5 (fun rv F' A' => ∃ z : Int, rv = some (gs_iv z) ∧ gs_I F' A' ∧ gs_fr (fun c j => (c = 35 ∧ j = 1) ∨ (c = b ∧ j = 1)) (fun c => c = 36 ∨ c = 7 ∨ c = b + 1) F A F' A' ∧ (z = 0 ∨ z = 1)) 14 [(5, gs_iv r), (4, gs_iv k), (3, gs_iv m), (0, .ref 30), (1, gs_iv n), (2, .ref b)] [] F1 A1) := by
  intro nN
  induction nN with
  | zero =>
    exact ⟨fun a0 a1 a2 a3 a4 a5 i0 i1 hm => by exfalso; omega, fun a0 a1 a2 a3 a4 a5 a6 i0 i1 i2 hm => by exfalso; omega⟩
  | succ nN ih =>
    refine ⟨?_, ?_⟩
    · skip
      intro m k F1 A1 hI1 hf1 i0 i1 hm
      have b1 := gs_plan_sz ho hI1
      refine sA_iload dd_X5_forImages_5 (.head _) ?_
      refine sA_iload_n dd_X5_forImages_7 rfl (.tail _ (.tail _ (.tail _ (.head _)))) ?_
      refine sA_icmp_gt (tgt := 63) dd_X5_forImages_8 (by decide) (by omega) (by omega) (fun q2 => ?_) (fun q2 => ?_)
      · skip
        refine sA_iconst (z := 0) dd_X5_forImages_63 ?_
        refine sA_bret (z := 0) dd_X5_forImages_64 rfl (by omega) ?_
        exact ⟨_, rfl, hI1, hf1, by omega⟩
      · skip
        refine sA_iconst (z := 0) dd_X5_forImages_11 ?_
        refine sA_istore (lv' := [(5, gs_iv 0), (4, gs_iv k), (3, gs_iv m), (0, .ref 30), (1, gs_iv n), (2, .ref b)]) dd_X5_forImages_12 (by decide) rfl ?_
        refine sA_sub (lv2 := [(5, gs_iv 0), (4, gs_iv k), (3, gs_iv m), (0, .ref 30), (1, gs_iv n), (2, .ref b)]) (List.forall_mem_cons.mpr ⟨(.head _), (List.forall_mem_cons.mpr ⟨(.tail _ (.head _)), (List.forall_mem_cons.mpr ⟨(.tail _ (.tail _ (.head _))), (List.forall_mem_cons.mpr ⟨(.tail _ (.tail _ (.tail _ (.head _)))), (List.forall_mem_cons.mpr ⟨(.tail _ (.tail _ (.tail _ (.tail _ (.head _))))), (List.forall_mem_cons.mpr ⟨(.tail _ (.tail _ (.tail _ (.tail _ (.tail _ (.head _)))))), (fun _ h => absurd h List.not_mem_nil)⟩)⟩)⟩)⟩)⟩)⟩) ?_
        exact ih.2 m k 0 F1 A1 hI1 hf1 (by omega) (by omega) (by omega) (by omega)
    · skip
      intro m k r F1 A1 hI1 hf1 i0 i1 i2 hm
      have b3 := gs_plan_sz ho hI1
      refine sA_iload dd_X5_forImages_14 (.head _) ?_
      refine sA_iload_n dd_X5_forImages_16 rfl (.tail _ (.tail _ (.head _))) ?_
      refine sA_icmp_ge (tgt := 45) dd_X5_forImages_17 (by decide) (by omega) (by omega) (fun q4 => ?_) (fun q4 => ?_)
      · skip
        refine sA_iload_n dd_X5_forImages_45 rfl (.tail _ (.tail _ (.head _))) ?_
        refine sA_iconst (z := 2) dd_X5_forImages_46 ?_
        refine sA_aload_n dd_X5_forImages_47 rfl (.tail _ (.tail _ (.tail _ (.head _)))) ?_
        refine sA_getr (ci := 5) (j := 0) (q := (RX5, TX5, 6)) dd_X5_forImages_48 rfl (by decide) fl_X5_28 (by decide) gs_s30 rfl ?_
        refine sA_geti (ci := 7) (j := 0) (q := (RX7, TX7, 5)) dd_X5_forImages_51 rfl (by decide) fl_X5_64 (by decide) gs_s5 rfl ?_
        have b5 : (1 : Int) ≤ F1 5 0 ∧ F1 5 0 ≤ 8 := hI1.1 5 0
        refine sA_imul dd_X5_forImages_54 ?_
        refine sA_imul dd_X5_forImages_55 ?_
        refine sA_wrap ?_
        have b7 := gs_w_rng (m * (2 * (F1 5 0)))
        generalize gs_w (m * (2 * (F1 5 0))) = w6 at b7 ⊢
        refine sA_istore_n (lv' := [(3, gs_iv w6), (5, gs_iv r), (4, gs_iv k), (0, .ref 30), (1, gs_iv n), (2, .ref b)]) dd_X5_forImages_56 rfl (by decide) rfl ?_
        refine sA_iinc (lv' := [(4, gs_iv (k + 1)), (3, gs_iv w6), (5, gs_iv r), (0, .ref 30), (1, gs_iv n), (2, .ref b)]) dd_X5_forImages_57 (.tail _ (.tail _ (.head _))) (by decide) rfl ?_
        refine sA_goto (tgt := 5) dd_X5_forImages_60 (by decide) ?_
        refine sA_sub (lv2 := [(4, gs_iv (k + 1)), (3, gs_iv w6), (0, .ref 30), (1, gs_iv n), (2, .ref b)]) (List.forall_mem_cons.mpr ⟨(.head _), (List.forall_mem_cons.mpr ⟨(.tail _ (.head _)), (List.forall_mem_cons.mpr ⟨(.tail _ (.tail _ (.tail _ (.head _)))), (List.forall_mem_cons.mpr ⟨(.tail _ (.tail _ (.tail _ (.tail _ (.head _))))), (List.forall_mem_cons.mpr ⟨(.tail _ (.tail _ (.tail _ (.tail _ (.tail _ (.head _)))))), (fun _ h => absurd h List.not_mem_nil)⟩)⟩)⟩)⟩)⟩) ?_
        exact ih.1 w6 (k + 1) F1 A1 hI1 hf1 (by omega) (by omega) (by omega)
      · skip
        refine sA_aload_n dd_X5_forImages_20 rfl (.tail _ (.tail _ (.tail _ (.head _)))) ?_
        refine sA_iload dd_X5_forImages_21 (.head _) ?_
        refine sA_iload dd_X5_forImages_23 (.tail _ (.head _)) ?_
        refine sA_aload_n dd_X5_forImages_25 rfl (.tail _ (.tail _ (.tail _ (.tail _ (.tail _ (.head _)))))) ?_
        refine sA_callV (y2 := m_X5_spell) (n2 := 3) (d2 := 1) (a := 30) (ci := 5) (q := (RX5, TX5, 6)) (as := [gs_iv r, gs_iv k, .ref b]) (rest := []) dd_X5_forImages_26 ok_X5_spell ml_X5_60 rfl rfl (by decide) gs_s30 rfl rfl (Nat.le_of_ble_eq_true rfl) (by decide) (c_X5_spell hI1 (by omega) (by omega) ho) (fun r8 F9 A10 h11 => ?_)
        obtain ⟨e13, I14, f15, x12⟩ := h11
        subst e13
        have f16 := gs_fr_tr hf1 f15 (fun b j h => by first | exact False.elim h | omega | (dsimp only at h ⊢; omega)) (fun b h => by first | exact False.elim h | omega | (dsimp only at h ⊢; omega))
        show sA _ _ _ 29 _ [] _ _
        refine sA_aload_n dd_X5_forImages_29 rfl (.tail _ (.tail _ (.tail _ (.head _)))) ?_
        refine sA_aload_n dd_X5_forImages_30 rfl (.tail _ (.tail _ (.tail _ (.tail _ (.tail _ (.head _)))))) ?_
        refine sA_callV (y2 := m_X5_doesAsImages) (n2 := 1) (d2 := 4) (a := 30) (ci := 5) (q := (RX5, TX5, 6)) (as := [.ref b]) (rest := []) dd_X5_forImages_31 ok_X5_doesAsImages ml_X5_86 rfl rfl (by decide) gs_s30 rfl rfl (Nat.le_of_ble_eq_true rfl) (by decide) (c_X5_doesAsImages I14 ho) (fun r17 F18 A19 h20 => ?_)
        obtain ⟨z23, e22, I24, f25, x21⟩ := h20
        subst e22
        have f26 := gs_fr_tr f16 f25 (fun b j h => by first | exact False.elim h | omega | (dsimp only at h ⊢; omega)) (fun b h => by first | exact False.elim h | omega | (dsimp only at h ⊢; omega))
        show sA _ _ _ 34 _ [gs_iv z23] _ _
        refine sA_if_eq (tgt := 39) dd_X5_forImages_34 (by decide) (by omega) (fun q27 => ?_) (fun q27 => ?_)
        · skip
          refine sA_iinc (lv' := [(5, gs_iv (r + 1)), (4, gs_iv k), (3, gs_iv m), (0, .ref 30), (1, gs_iv n), (2, .ref b)]) dd_X5_forImages_39 (.head _) (by decide) rfl ?_
          refine sA_goto (tgt := 14) dd_X5_forImages_42 (by decide) ?_
          have b28 := gs_plan_sz ho I24
          refine sA_sub (lv2 := [(5, gs_iv (r + 1)), (4, gs_iv k), (3, gs_iv m), (0, .ref 30), (1, gs_iv n), (2, .ref b)]) (List.forall_mem_cons.mpr ⟨(.head _), (List.forall_mem_cons.mpr ⟨(.tail _ (.head _)), (List.forall_mem_cons.mpr ⟨(.tail _ (.tail _ (.head _))), (List.forall_mem_cons.mpr ⟨(.tail _ (.tail _ (.tail _ (.head _)))), (List.forall_mem_cons.mpr ⟨(.tail _ (.tail _ (.tail _ (.tail _ (.head _))))), (List.forall_mem_cons.mpr ⟨(.tail _ (.tail _ (.tail _ (.tail _ (.tail _ (.head _)))))), (fun _ h => absurd h List.not_mem_nil)⟩)⟩)⟩)⟩)⟩)⟩) ?_
          exact ih.2 m k (r + 1) F18 A19 I24 f26 (by omega) (by omega) (by omega) (by omega)
        · skip
          refine sA_iconst (z := 1) dd_X5_forImages_37 ?_
          refine sA_bret (z := 1) dd_X5_forImages_38 rfl (by omega) ?_
          exact ⟨_, rfl, I24, f26, by omega⟩
theorem c_X5_forImages {b : Nat} {n : Int} {F A : gs_F} (hI : gs_I F A) (hn : 0 ≤ n ∧ n ≤ 3) (ho : gs_plan b) : sC m_X5_forImages 5 [.ref 30, gs_iv n, .ref b] F A (fun rv F' A' => ∃ z : Int, rv = some (gs_iv z) ∧ gs_I F' A' ∧ gs_fr (fun c j => (c = 35 ∧ j = 1) ∨ (c = b ∧ j = 1)) (fun c => c = 36 ∨ c = 7 ∨ c = b + 1) F A F' A' ∧ (z = 0 ∨ z = 1)) := by
  refine sC_of ok_X5_forImages.1 (Nat.le_of_ble_eq_true rfl) ?_
  show sA _ _ _ 0 [(0, .ref 30), (1, gs_iv n), (2, .ref b)] [] F A
  have hf : gs_fr (fun c j => (c = 35 ∧ j = 1) ∨ (c = b ∧ j = 1)) (fun c => c = 36 ∨ c = 7 ∨ c = b + 1) F A F A := gs_fr_refl _ _ _ _
  have b29 := gs_plan_sz ho hI
  refine sA_iconst (z := 1) dd_X5_forImages_0 ?_
  refine sA_istore_n (lv' := [(3, gs_iv 1), (0, .ref 30), (1, gs_iv n), (2, .ref b)]) dd_X5_forImages_1 rfl (by decide) rfl ?_
  refine sA_iconst (z := 0) dd_X5_forImages_2 ?_
  refine sA_istore (lv' := [(4, gs_iv 0), (3, gs_iv 1), (0, .ref 30), (1, gs_iv n), (2, .ref b)]) dd_X5_forImages_3 (by decide) rfl ?_
  refine sA_sub (lv2 := [(4, gs_iv 0), (3, gs_iv 1), (0, .ref 30), (1, gs_iv n), (2, .ref b)]) (List.forall_mem_cons.mpr ⟨(.head _), (List.forall_mem_cons.mpr ⟨(.tail _ (.head _)), (List.forall_mem_cons.mpr ⟨(.tail _ (.tail _ (.head _))), (List.forall_mem_cons.mpr ⟨(.tail _ (.tail _ (.tail _ (.head _)))), (List.forall_mem_cons.mpr ⟨(.tail _ (.tail _ (.tail _ (.tail _ (.head _))))), (fun _ h => absurd h List.not_mem_nil)⟩)⟩)⟩)⟩)⟩) ?_
  exact (k_X5_forImages hI hn ho ((4 - 0) * 4294967296 + 1 : Int).toNat.succ).1 1 0 F A hI hf (by omega) (by omega) (by omega)
end
