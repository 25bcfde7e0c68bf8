noncomputable section
theorem k_X8_keepsRing_vf {a b M : Nat} {n : Int} {F A : gs_F} (hI : gs_I F A) (hr : gs_plan a) (hn : 0 ≤ n ∧ n ≤ 100) (ho : gs_row b M) (hM : (M : Int) ≤ 60) (hb54 : 54 ≤ b ∧ b < 90) (ha90 : 90 ≤ a) (hW : gs_W (A 6) (F 0 11)) (hcd : ∀ i : Int, 0 ≤ i → i < F a 1 → 0 ≤ A (a + 1) i.toNat ∧ A (a + 1) i.toNat < 6 * F 0 11 - 2) (hV : sp_val (F 0 11) (gs_stk (A (b + 1)) (F b 1).toNat)) : ∀ nN : Nat, (∀ (k : Int)  (F1 A1 : gs_F), gs_I F1 A1 → gs_fr (fun c j => c = 48 ∧ j = 1) (fun c => c = 49 ∨ c = 7) F A F1 A1 → 1 ≤ k ∧ k ≤ n + 1 → gs_it (gs_plc F A (F 0 11) a) (k - 1).toNat (gs_stk (A (b + 1)) (F b 1).toNat) = some (gs_stk (A1 49) (F1 48 1).toNat) → sp_val (F 0 11) (gs_stk (A1 49) (F1 48 1).toNat) → (∀ j : Int, 1 ≤ j → j < k → ∀ s : List Int, gs_it (gs_plc F A (F 0 11) a) j.toNat (gs_stk (A (b + 1)) (F b 1).toNat) = some s → ¬ st_on s (A (b + 1)) (F b 1)) → n + 1 - k < (nN : Int) → sA m_X8_keepsRing 4 (fun rv F' A' => ∃ z : Int, rv = some (gs_iv z) ∧ gs_I F' A' ∧ gs_fr (fun c j => c = 48 ∧ j = 1) (fun c => c = 49 ∨ c = 7) F A F' A' ∧ ((z = 1 ∧ (st_kp (gs_plc F A (F 0 11) a) (gs_stk (A (b + 1)) (F b 1).toNat) n (fun s => st_on s (A (b + 1)) (F b 1)))) ∨ (z = 0 ∧ ¬ (st_kp (gs_plc F A (F 0 11) a) (gs_stk (A (b + 1)) (F b 1).toNat) n (fun s => st_on s (A (b + 1)) (F b 1)))))) 11 [(4, gs_iv k), (0, .ref 0), (1, .ref a), (2, gs_iv n), (3, .ref b)] [] F1 A1) := by
  intro nN
  induction nN with
  | zero =>
    exact fun a0 a1 a2 a3 a4 i0 i1 i2 i3 hm => by exfalso; omega
  | succ nN ih =>
    intro k F1 A1 hI1 hf1 i0 i1 i2 i3 hm
    have b1 := gs_plan_sz hr hI1
    have b2 := gs_row_sz ho hI1
    refine sA_iload dd_X8_keepsRing_11 (.head _) ?_
    refine sA_iload_n dd_X8_keepsRing_13 rfl (.tail _ (.tail _ (.tail _ (.head _)))) ?_
    refine sA_icmp_gt (tgt := 53) dd_X8_keepsRing_14 (by decide) (by omega) (by omega) (fun q3 => ?_) (fun q3 => ?_)
    · skip
      refine sA_iconst (z := 0) dd_X8_keepsRing_53 ?_
      refine sA_bret (z := 0) dd_X8_keepsRing_54 rfl (by omega) ?_
      refine ⟨_, rfl, hI1, hf1, ?_⟩
      exact .inr ⟨rfl, st_kp_no (k := k) i3 (.inl (by omega)) (by omega)⟩
    · skip
      refine sA_aload_n dd_X8_keepsRing_17 rfl (.tail _ (.head _)) ?_
      refine sA_getr (ci := 8) (j := 3) (q := (RX8, TX8, 13)) dd_X8_keepsRing_18 rfl (by decide) fl_X8_33 (by decide) gs_s0 rfl ?_
      refine sA_aload_n dd_X8_keepsRing_21 rfl (.tail _ (.tail _ (.head _))) ?_
      refine sA_aload_n dd_X8_keepsRing_22 rfl (.tail _ (.head _)) ?_
      refine sA_getr (ci := 8) (j := 8) (q := (RX8, TX8, 13)) dd_X8_keepsRing_23 rfl (by decide) fl_X8_69 (by decide) gs_s0 rfl ?_
      have hg : (1 : Int) ≤ F 0 11 ∧ F 0 11 ≤ 3 := hI.1 0 11
      have ha1 : A1 (a + 1) = A (a + 1) := hf1.2 (a + 1) (by dsimp only; omega)
      have han : F1 a 1 = F a 1 := hf1.1 a 1 (by dsimp only; omega)
      have hW1 : gs_W (A1 6) (F 0 11) := by rw [hf1.2 6 (by dsimp only; omega)]; exact hW
      have hcd1 : ∀ i : Int, 0 ≤ i → i < F1 a 1 → 0 ≤ A1 (a + 1) i.toNat ∧ A1 (a + 1) i.toNat < 6 * F 0 11 - 2 := by rw [ha1, han]; exact hcd
      have hL : (400 : Nat) = 400 := rfl
      have hV1 := i2
      refine sA_callV (y2 := m_X7_doPlan) (n2 := 2) (d2 := 3) (a := 5) (ci := 7) (q := (RX7, TX7, 5)) (as := [.ref a, .ref 48]) (rest := []) dd_X8_keepsRing_26 ok_X7_doPlan ml_X8_181 rfl rfl (by decide) gs_s5 rfl rfl (Nat.le_of_ble_eq_true rfl) (by decide) (c_X7_doPlan_vf hI1 hr gs_row_48 hg hcd1 hW1 hV1 hL (by omega) (by omega) (by omega)) (fun r4 F5 A6 h7 => ?_)
      obtain ⟨z10, e9, I11, f12, x8⟩ := h7
      subst e9
      have f13 := gs_fr_tr hf1 f12 (fun b j h => by first | exact False.elim h | omega | (dsimp only at h ⊢; omega) | fail) (fun b h => by first | exact False.elim h | omega | (dsimp only at h ⊢; omega) | fail)
      have y14 : (z10 = 1 ∧ sp_pl (fun u => sp_tw (sp_w (F 0 11) u)) (A1 (a + 1)) (F1 a 1).toNat (gs_stk (A1 49) (F1 48 1).toNat) = some (gs_stk (A6 49) (F5 48 1).toNat)) ∨ (z10 = 0 ∧ sp_pl (fun u => sp_tw (sp_w (F 0 11) u)) (A1 (a + 1)) (F1 a 1).toNat (gs_stk (A1 49) (F1 48 1).toNat) = none) := x8
      clear x8
      show sA _ _ _ 29 _ [gs_iv z10] _ _
      refine sA_if_ne (tgt := 34) dd_X8_keepsRing_29 (by decide) (by omega) (fun q15 => ?_) (fun q15 => ?_)
      · skip
        have hst0 : (gs_plc F A (F 0 11) a) (gs_stk (A1 49) (F1 48 1).toNat) = some (gs_stk (A6 49) (F5 48 1).toNat) := by
          rcases y14 with y | y
          · have y2 := y.2
            rw [ha1, han] at y2
            exact y2
          · exfalso
            omega
        have hst := st_it_next (by omega) i1 hst0
        have eb1 : A6 (b + 1) = A (b + 1) := f13.2 (b + 1) (by dsimp only; omega)
        have eb2 : F5 b 1 = F b 1 := f13.1 b 1 (by dsimp only; omega)
        have hb48 : (0 : Int) ≤ F5 48 1 ∧ F5 48 1 ≤ 400 := I11.1 48 1
        have hon : st_on (gs_stk (A6 49) (F5 48 1).toNat) (A (b + 1)) (F b 1) ↔ gs_on (A6 49) (F5 48 1) (A6 (b + 1)) (F5 b 1) := by
          rw [eb1, eb2]
          exact st_on_mk hb48.1
        refine sA_aload_n dd_X8_keepsRing_34 rfl (.tail _ (.head _)) ?_
        refine sA_getr (ci := 8) (j := 8) (q := (RX8, TX8, 13)) dd_X8_keepsRing_35 rfl (by decide) fl_X8_69 (by decide) gs_s0 rfl ?_
        refine sA_aload_n dd_X8_keepsRing_38 rfl (.tail _ (.tail _ (.tail _ (.tail _ (.head _))))) ?_
        refine sA_callV (y2 := m_X4_isOneWith) (n2 := 1) (d2 := 2) (a := 48) (ci := 4) (q := (RX4, TX4, 2)) (as := [.ref b]) (rest := []) dd_X8_keepsRing_39 ok_X4_isOneWith ml_X8_131 rfl rfl (Nat.lt_of_succ_lt gs_row_48.1) gs_row_48.2.1 rfl rfl (Nat.le_of_ble_eq_true rfl) (by decide) (c_X4_isOneWith_vf I11 gs_row_48 ho) (fun r16 F17 A18 h19 => ?_)
        obtain ⟨z22, e21, e23, e24, x20⟩ := h19
        subst e21 e23 e24
        have y25 : (z22 = 1 ∧ gs_on (A6 49) (F5 48 1) (A6 (b + 1)) (F5 b 1)) ∨ (z22 = 0 ∧ ¬ gs_on (A6 49) (F5 48 1) (A6 (b + 1)) (F5 b 1)) := x20
        clear x20
        show sA _ _ _ 42 _ [gs_iv z22] _ _
        have hz39 : z22 = 0 ∨ z22 = 1 := by omega
        refine sA_if_eq (tgt := 47) dd_X8_keepsRing_42 (by decide) (by omega) (fun q26 => ?_) (fun q26 => ?_)
        · skip
          refine sA_iinc (lv' := [(4, gs_iv (k + 1)), (0, .ref 0), (1, .ref a), (2, gs_iv n), (3, .ref b)]) dd_X8_keepsRing_47 (.head _) (by decide) rfl ?_
          refine sA_goto (tgt := 11) dd_X8_keepsRing_50 (by decide) ?_
          have b27 := gs_plan_sz hr I11
          have b28 := gs_row_sz ho I11
          refine sA_sub (lv2 := [(4, gs_iv (k + 1)), (0, .ref 0), (1, .ref a), (2, gs_iv n), (3, .ref b)]) (List.forall_mem_cons.mpr ⟨(.head _), (List.forall_mem_cons.mpr ⟨(.tail _ (.head _)), (List.forall_mem_cons.mpr ⟨(.tail _ (.tail _ (.head _))), (List.forall_mem_cons.mpr ⟨(.tail _ (.tail _ (.tail _ (.head _)))), (List.forall_mem_cons.mpr ⟨(.tail _ (.tail _ (.tail _ (.tail _ (.head _))))), (fun _ h => absurd h List.not_mem_nil)⟩)⟩)⟩)⟩)⟩) ?_
          exact ih (k + 1) F5 A6 I11 f13 (by omega) (by rw [show (k + 1 - 1).toNat = k.toNat by omega]; exact hst) (gs_plc_val hg hcd i2 hst0) (st_kp_ext (On := fun s => st_on s (A (b + 1)) (F b 1)) i3 hst (fun w => by rcases y25 with y | y <;> first | (exfalso; omega) | exact y.2 (hon.mp w) | fail)) (by omega)
        · skip
          refine sA_iconst (z := 1) dd_X8_keepsRing_45 ?_
          refine sA_bret (z := 1) dd_X8_keepsRing_46 rfl (by omega) ?_
          refine ⟨_, rfl, I11, f13, ?_⟩
          refine .inl ⟨rfl, k, by omega, by omega, _, hst, hon.mpr ?_⟩
          rcases y25 with y | y
          · exact y.2
          · exfalso
            omega
      · skip
        refine sA_iconst (z := 0) dd_X8_keepsRing_32 ?_
        refine sA_bret (z := 0) dd_X8_keepsRing_33 rfl (by omega) ?_
        refine ⟨_, rfl, I11, f13, ?_⟩
        refine .inr ⟨rfl, st_kp_no i3 (.inr (st_it_next (by omega) i1 ?_)) (by omega)⟩
        rcases y14 with y | y
        · exfalso
          omega
        · have y2 := y.2
          rw [ha1, han] at y2
          exact y2
theorem c_X8_keepsRing_vf {a b M : Nat} {n : Int} {F A : gs_F} (hI : gs_I F A) (hr : gs_plan a) (hn : 0 ≤ n ∧ n ≤ 100) (ho : gs_row b M) (hM : (M : Int) ≤ 60) (hb54 : 54 ≤ b ∧ b < 90) (ha90 : 90 ≤ a) (hW : gs_W (A 6) (F 0 11)) (hcd : ∀ i : Int, 0 ≤ i → i < F a 1 → 0 ≤ A (a + 1) i.toNat ∧ A (a + 1) i.toNat < 6 * F 0 11 - 2) (hV : sp_val (F 0 11) (gs_stk (A (b + 1)) (F b 1).toNat)) : sC m_X8_keepsRing 4 [.ref 0, .ref a, gs_iv n, .ref b] F A (fun rv F' A' => ∃ z : Int, rv = some (gs_iv z) ∧ gs_I F' A' ∧ gs_fr (fun c j => c = 48 ∧ j = 1) (fun c => c = 49 ∨ c = 7) F A F' A' ∧ ((z = 1 ∧ (st_kp (gs_plc F A (F 0 11) a) (gs_stk (A (b + 1)) (F b 1).toNat) n (fun s => st_on s (A (b + 1)) (F b 1)))) ∨ (z = 0 ∧ ¬ (st_kp (gs_plc F A (F 0 11) a) (gs_stk (A (b + 1)) (F b 1).toNat) n (fun s => st_on s (A (b + 1)) (F b 1)))))) := by
  refine sC_of ok_X8_keepsRing.1 (Nat.le_of_ble_eq_true rfl) ?_
  show sA _ _ _ 0 [(0, .ref 0), (1, .ref a), (2, gs_iv n), (3, .ref b)] [] F A
  have hf : gs_fr (fun c j => c = 48 ∧ j = 1) (fun c => c = 49 ∨ c = 7) F A F A := gs_fr_refl _ _ _ _
  have b29 := gs_plan_sz hr hI
  have b30 := gs_row_sz ho hI
  refine sA_aload_n dd_X8_keepsRing_0 rfl (.head _) ?_
  refine sA_getr (ci := 8) (j := 8) (q := (RX8, TX8, 13)) dd_X8_keepsRing_1 rfl (by decide) fl_X8_69 (by decide) gs_s0 rfl ?_
  refine sA_aload_n dd_X8_keepsRing_4 rfl (.tail _ (.tail _ (.tail _ (.head _)))) ?_
  refine sA_callV (y2 := m_X4_copy) (n2 := 1) (d2 := 1) (a := 48) (ci := 4) (q := (RX4, TX4, 2)) (as := [.ref b]) (rest := []) dd_X8_keepsRing_5 ok_X4_copy ml_X8_240 rfl rfl (Nat.lt_of_succ_lt gs_row_48.1) gs_row_48.2.1 rfl rfl (Nat.le_of_ble_eq_true rfl) (by decide) (c_X4_copy_vf hI gs_row_48 ho) (fun r31 F32 A33 h34 => ?_)
  obtain ⟨e36, I37, f38, x35⟩ := h34
  subst e36
  have f39 := gs_fr_tr hf f38 (fun b j h => by first | exact False.elim h | omega | (dsimp only at h ⊢; omega) | fail) (fun b h => by first | exact False.elim h | omega | (dsimp only at h ⊢; omega) | fail)
  have y40 : F b 1 ≤ (400 : Int) → (F32 48 1 = F b 1 ∧ A33 49 = gs_cc (A (b + 1)) (A 49) 0 0 (F b 1).toNat) := x35
  clear x35
  show sA _ _ _ 8 _ [] _ _
  have hbr := gs_row_sz ho hI
  obtain ⟨c1, c2⟩ := y40 (by omega)
  have hstk : gs_stk (A33 49) (F32 48 1).toNat = (gs_stk (A (b + 1)) (F b 1).toNat) := by
    rw [c1, c2]
    refine gs_stk_cg _ (fun i hi => ?_)
    unfold gs_cc
    rw [if_pos (by omega)]
    congr 1
    omega
  refine sA_iconst (z := 1) dd_X8_keepsRing_8 ?_
  refine sA_istore (lv' := [(4, gs_iv 1), (0, .ref 0), (1, .ref a), (2, gs_iv n), (3, .ref b)]) dd_X8_keepsRing_9 (by decide) rfl ?_
  have b41 := gs_plan_sz hr I37
  have b42 := gs_row_sz ho I37
  refine sA_sub (lv2 := [(4, gs_iv 1), (0, .ref 0), (1, .ref a), (2, gs_iv n), (3, .ref b)]) (List.forall_mem_cons.mpr ⟨(.head _), (List.forall_mem_cons.mpr ⟨(.tail _ (.head _)), (List.forall_mem_cons.mpr ⟨(.tail _ (.tail _ (.head _))), (List.forall_mem_cons.mpr ⟨(.tail _ (.tail _ (.tail _ (.head _)))), (List.forall_mem_cons.mpr ⟨(.tail _ (.tail _ (.tail _ (.tail _ (.head _))))), (fun _ h => absurd h List.not_mem_nil)⟩)⟩)⟩)⟩)⟩) ?_
  exact (k_X8_keepsRing_vf hI hr hn ho hM hb54 ha90 hW hcd hV (n + 1 - 1 : Int).toNat.succ) 1 F32 A33 I37 f39 (by omega) (by rw [hstk]; rfl) (by rw [hstk]; exact hV) (fun j h1 h2 => by exfalso; omega) (by omega)
theorem k_X8_keepsSomeRing_vf {a : Nat} {n : Int} {F A : gs_F} (hI : gs_I F A) (hr : gs_plan a) (hn : 0 ≤ n ∧ n ≤ 100) (ha90 : 90 ≤ a) (hW : gs_W (A 6) (F 0 11)) (hcd : ∀ i : Int, 0 ≤ i → i < F a 1 → 0 ≤ A (a + 1) i.toNat ∧ A (a + 1) i.toNat < 6 * F 0 11 - 2) (hVs : ∀ r : Nat, (r : Int) < F 0 12 → sp_val (F 0 11) (gs_stk (A (54 + 3 * r + 1 + 1)) (F (54 + 3 * r + 1) 1).toNat)) : ∀ nN : Nat, (∀ (r : Int)  (F1 A1 : gs_F), gs_I F1 A1 → gs_fr (fun c j => c = 48 ∧ j = 1) (fun c => c = 49 ∨ c = 7) F A F1 A1 → 0 ≤ r ∧ r ≤ 12 → F1 0 12 = F 0 12 → (∀ q : Nat, (q : Int) < r → ¬ st_k8 F A a n q) → 12 - r < (nN : Int) → sA m_X8_keepsSomeRing 5 (fun rv F' A' => ∃ z : Int, rv = some (gs_iv z) ∧ gs_I F' A' ∧ gs_fr (fun c j => c = 48 ∧ j = 1) (fun c => c = 49 ∨ c = 7) F A F' A' ∧ ((z = 1 ∧ st_K8 F A a n) ∨ (z = 0 ∧ ¬ st_K8 F A a n))) 2 [(3, gs_iv r), (0, .ref 0), (1, .ref a), (2, gs_iv n)] [] F1 A1) := by
  intro nN
  induction nN with
  | zero =>
    exact fun a0 a1 a2 a3 a4 i0 i1 i2 hm => by exfalso; omega
  | succ nN ih =>
    intro r F1 A1 hI1 hf1 i0 i1 i2 hm
    have b1 := gs_plan_sz hr hI1
    have b2 : (0 : Int) ≤ F1 0 12 ∧ F1 0 12 ≤ 12 := hI1.1 0 12
    refine sA_iload_n dd_X8_keepsSomeRing_2 rfl (.head _) ?_
    refine sA_aload_n dd_X8_keepsSomeRing_3 rfl (.tail _ (.head _)) ?_
    refine sA_geti (ci := 8) (j := 12) (q := (RX8, TX8, 13)) dd_X8_keepsSomeRing_4 rfl (by decide) fl_X8_94 (by decide) gs_s0 rfl ?_
    refine sA_icmp_ge (tgt := 48) dd_X8_keepsSomeRing_7 (by decide) (by omega) (by omega) (fun q3 => ?_) (fun q3 => ?_)
    · skip
      refine sA_iconst (z := 0) dd_X8_keepsSomeRing_48 ?_
      refine sA_bret (z := 0) dd_X8_keepsSomeRing_49 rfl (by omega) ?_
      refine ⟨_, rfl, hI1, hf1, ?_⟩
      refine .inr ⟨rfl, fun w => ?_⟩
      obtain ⟨q, q1, q2⟩ := w
      exact i2 q (by omega) q2
    · skip
      have hF54 : ∀ c j, 54 ≤ c → F1 c j = F c j := fun c j q => hf1.1 c j (by dsimp only; omega)
      have hA54 : ∀ c, 54 ≤ c → A1 c = A c := fun c q => hf1.2 c (by dsimp only; omega)
      have h011 : F1 0 11 = F 0 11 := hf1.1 0 11 (by dsimp only; omega)
      have hk8 : st_k8 F1 A1 a n r.toNat ↔ st_k8 F A a n r.toNat := st_k8_fr h011 hF54 hA54 (by omega)
      refine sA_aload_n dd_X8_keepsSomeRing_10 rfl (.tail _ (.head _)) ?_
      refine sA_getr (ci := 8) (j := 0) (q := (RX8, TX8, 13)) dd_X8_keepsSomeRing_11 rfl (by decide) fl_X8_11 (by decide) gs_s0 rfl ?_
      refine sA_iload_n dd_X8_keepsSomeRing_14 rfl (.head _) ?_
      refine sA_aald (n := 12) dd_X8_keepsSomeRing_15 (by decide) (by decide) (by decide) gs_s1 (by omega) (by decide) ?_
      have g4 := gs_ring_at (k := r.toNat) (by omega)
      refine sA_callV (y2 := m_X3_isSimple) (n2 := 0) (d2 := 1) (a := (54 + 3 * r.toNat)) (ci := 3) (q := (RX3, TX3, 3)) (as := []) (rest := []) dd_X8_keepsSomeRing_16 ok_X3_isSimple ml_X8_119 rfl rfl (Nat.lt_of_succ_lt g4.1) g4.2.1 rfl rfl (Nat.le_of_ble_eq_true rfl) (by decide) (c_X3_isSimple_vf hI1 g4) (fun r5 F6 A7 h8 => ?_)
      obtain ⟨z11, e10, e12, e13, x9⟩ := h8
      subst e10 e12 e13
      have y14 : (z11 = 1 ∧ F1 (54 + 3 * r.toNat) 2 = 0) ∨ (z11 = 0 ∧ F1 (54 + 3 * r.toNat) 2 ≠ 0) := x9
      clear x9
      show sA _ _ _ 19 _ [gs_iv z11] _ _
      refine sA_if_eq (tgt := 42) dd_X8_keepsSomeRing_19 (by decide) (by omega) (fun q15 => ?_) (fun q15 => ?_)
      · skip
        refine sA_iinc (lv' := [(3, gs_iv (r + 1)), (0, .ref 0), (1, .ref a), (2, gs_iv n)]) dd_X8_keepsSomeRing_42 (.head _) (by decide) rfl ?_
        refine sA_goto (tgt := 2) dd_X8_keepsSomeRing_45 (by decide) ?_
        refine sA_sub (lv2 := [(3, gs_iv (r + 1)), (0, .ref 0), (1, .ref a), (2, gs_iv n)]) (List.forall_mem_cons.mpr ⟨(.head _), (List.forall_mem_cons.mpr ⟨(.tail _ (.head _)), (List.forall_mem_cons.mpr ⟨(.tail _ (.tail _ (.head _))), (List.forall_mem_cons.mpr ⟨(.tail _ (.tail _ (.tail _ (.head _)))), (fun _ h => absurd h List.not_mem_nil)⟩)⟩)⟩)⟩) ?_
        exact ih (r + 1) F1 A1 hI1 hf1 (by omega) (by omega) (fun q hq => by by_cases h : (q : Int) < r <;> first | exact i2 q h | (rw [show q = r.toNat by omega]; intro w; (have w1 := w.1; have e5 := hF54 (54 + 3 * r.toNat) 2 (by omega); omega)) | fail) (by omega)
      · skip
        refine sA_aload_n dd_X8_keepsSomeRing_22 rfl (.tail _ (.head _)) ?_
        refine sA_aload_n dd_X8_keepsSomeRing_23 rfl (.tail _ (.tail _ (.head _))) ?_
        refine sA_iload_n dd_X8_keepsSomeRing_24 rfl (.tail _ (.tail _ (.tail _ (.head _)))) ?_
        refine sA_aload_n dd_X8_keepsSomeRing_25 rfl (.tail _ (.head _)) ?_
        refine sA_getr (ci := 8) (j := 0) (q := (RX8, TX8, 13)) dd_X8_keepsSomeRing_26 rfl (by decide) fl_X8_11 (by decide) gs_s0 rfl ?_
        refine sA_iload_n dd_X8_keepsSomeRing_29 rfl (.head _) ?_
        refine sA_aald (n := 12) dd_X8_keepsSomeRing_30 (by decide) (by decide) (by decide) gs_s1 (by omega) (by decide) ?_
        have g16 := gs_ring_at (k := r.toNat) (by omega)
        refine sA_getr (ci := 3) (j := 0) (q := (RX3, TX3, 3)) dd_X8_keepsSomeRing_31 rfl (by decide) fl_X8_105 (Nat.lt_of_succ_lt g16.1) g16.2.1 rfl ?_
        have hW1 : gs_W (A1 6) (F1 0 11) := by rw [hf1.2 6 (by dsimp only; omega), h011]; exact hW
        have hcd1 : ∀ i : Int, 0 ≤ i → i < F1 a 1 → 0 ≤ A1 (a + 1) i.toNat ∧ A1 (a + 1) i.toNat < 6 * F1 0 11 - 2 := by rw [hF54 a 1 (by omega), hA54 (a + 1) (by omega), h011]; exact hcd
        have hV1 : sp_val (F1 0 11) (gs_stk (A1 (54 + 3 * r.toNat + 1 + 1)) (F1 (54 + 3 * r.toNat + 1) 1).toNat) := by rw [hF54 (54 + 3 * r.toNat + 1) 1 (by omega), hA54 (54 + 3 * r.toNat + 1 + 1) (by omega), h011]; exact hVs r.toNat (by omega)
        refine sA_callV (y2 := m_X8_keepsRing) (n2 := 3) (d2 := 4) (a := 0) (ci := 8) (q := (RX8, TX8, 13)) (as := [.ref a, gs_iv n, .ref (54 + 3 * r.toNat + 1)]) (rest := []) dd_X8_keepsSomeRing_34 ok_X8_keepsRing ml_X8_253 rfl rfl (by decide) gs_s0 rfl rfl (Nat.le_of_ble_eq_true rfl) (by decide) (c_X8_keepsRing_vf hI1 hr (by omega) g16.2.2.1 (by omega) (by omega) (by omega) hW1 hcd1 hV1) (fun r17 F18 A19 h20 => ?_)
        obtain ⟨z23, e22, I24, f25, x21⟩ := h20
        subst e22
        have v26 : F18 0 12 = F1 0 12 := f25.1 0 12 (by first | exact id | omega | (dsimp only; omega) | (dsimp only) | fail)
        have f27 := gs_fr_tr hf1 f25 (fun b j h => by first | exact False.elim h | omega | (dsimp only at h ⊢; omega) | fail) (fun b h => by first | exact False.elim h | omega | (dsimp only at h ⊢; omega) | fail)
        have y28 : (z23 = 1 ∧ (st_kp (gs_plc F1 A1 (F1 0 11) a) (gs_stk (A1 ((54 + 3 * r.toNat + 1) + 1)) (F1 (54 + 3 * r.toNat + 1) 1).toNat) n (fun s => st_on s (A1 ((54 + 3 * r.toNat + 1) + 1)) (F1 (54 + 3 * r.toNat + 1) 1)))) ∨ (z23 = 0 ∧ ¬ (st_kp (gs_plc F1 A1 (F1 0 11) a) (gs_stk (A1 ((54 + 3 * r.toNat + 1) + 1)) (F1 (54 + 3 * r.toNat + 1) 1).toNat) n (fun s => st_on s (A1 ((54 + 3 * r.toNat + 1) + 1)) (F1 (54 + 3 * r.toNat + 1) 1)))) := x21
        clear x21
        show sA _ _ _ 37 _ [gs_iv z23] _ _
        refine sA_if_eq (tgt := 42) dd_X8_keepsSomeRing_37 (by decide) (by omega) (fun q29 => ?_) (fun q29 => ?_)
        · skip
          refine sA_iinc (lv' := [(3, gs_iv (r + 1)), (0, .ref 0), (1, .ref a), (2, gs_iv n)]) dd_X8_keepsSomeRing_42 (.head _) (by decide) rfl ?_
          refine sA_goto (tgt := 2) dd_X8_keepsSomeRing_45 (by decide) ?_
          have b30 := gs_plan_sz hr I24
          have b31 : (0 : Int) ≤ F18 0 12 ∧ F18 0 12 ≤ 12 := I24.1 0 12
          refine sA_sub (lv2 := [(3, gs_iv (r + 1)), (0, .ref 0), (1, .ref a), (2, gs_iv n)]) (List.forall_mem_cons.mpr ⟨(.head _), (List.forall_mem_cons.mpr ⟨(.tail _ (.head _)), (List.forall_mem_cons.mpr ⟨(.tail _ (.tail _ (.head _))), (List.forall_mem_cons.mpr ⟨(.tail _ (.tail _ (.tail _ (.head _)))), (fun _ h => absurd h List.not_mem_nil)⟩)⟩)⟩)⟩) ?_
          exact ih (r + 1) F18 A19 I24 f27 (by omega) (by omega) (fun q hq => by by_cases h : (q : Int) < r <;> first | exact i2 q h | (rw [show q = r.toNat by omega]; intro w; exact (by rcases y28 with y | y <;> first | (exfalso; omega) | exact y.2 ((hk8.mpr w).2) | fail)) | fail) (by omega)
        · skip
          refine sA_iconst (z := 1) dd_X8_keepsSomeRing_40 ?_
          refine sA_bret (z := 1) dd_X8_keepsSomeRing_41 rfl (by omega) ?_
          refine ⟨_, rfl, I24, f27, ?_⟩
          refine .inl ⟨rfl, r.toNat, by omega, hk8.mp ⟨by omega, ?_⟩⟩
          rcases y28 with y | y
          · exact y.2
          · exfalso
            omega
theorem c_X8_keepsSomeRing_vf {a : Nat} {n : Int} {F A : gs_F} (hI : gs_I F A) (hr : gs_plan a) (hn : 0 ≤ n ∧ n ≤ 100) (ha90 : 90 ≤ a) (hW : gs_W (A 6) (F 0 11)) (hcd : ∀ i : Int, 0 ≤ i → i < F a 1 → 0 ≤ A (a + 1) i.toNat ∧ A (a + 1) i.toNat < 6 * F 0 11 - 2) (hVs : ∀ r : Nat, (r : Int) < F 0 12 → sp_val (F 0 11) (gs_stk (A (54 + 3 * r + 1 + 1)) (F (54 + 3 * r + 1) 1).toNat)) : sC m_X8_keepsSomeRing 5 [.ref 0, .ref a, gs_iv n] F A (fun rv F' A' => ∃ z : Int, rv = some (gs_iv z) ∧ gs_I F' A' ∧ gs_fr (fun c j => c = 48 ∧ j = 1) (fun c => c = 49 ∨ c = 7) F A F' A' ∧ ((z = 1 ∧ st_K8 F A a n) ∨ (z = 0 ∧ ¬ st_K8 F A a n))) := by
  refine sC_of ok_X8_keepsSomeRing.1 (Nat.le_of_ble_eq_true rfl) ?_
  show sA _ _ _ 0 [(0, .ref 0), (1, .ref a), (2, gs_iv n)] [] F A
  have hf : gs_fr (fun c j => c = 48 ∧ j = 1) (fun c => c = 49 ∨ c = 7) F A F A := gs_fr_refl _ _ _ _
  have b32 := gs_plan_sz hr hI
  have b33 : (0 : Int) ≤ F 0 12 ∧ F 0 12 ≤ 12 := hI.1 0 12
  refine sA_iconst (z := 0) dd_X8_keepsSomeRing_0 ?_
  refine sA_istore_n (lv' := [(3, gs_iv 0), (0, .ref 0), (1, .ref a), (2, gs_iv n)]) dd_X8_keepsSomeRing_1 rfl (by decide) rfl ?_
  refine sA_sub (lv2 := [(3, gs_iv 0), (0, .ref 0), (1, .ref a), (2, gs_iv n)]) (List.forall_mem_cons.mpr ⟨(.head _), (List.forall_mem_cons.mpr ⟨(.tail _ (.head _)), (List.forall_mem_cons.mpr ⟨(.tail _ (.tail _ (.head _))), (List.forall_mem_cons.mpr ⟨(.tail _ (.tail _ (.tail _ (.head _)))), (fun _ h => absurd h List.not_mem_nil)⟩)⟩)⟩)⟩) ?_
  exact (k_X8_keepsSomeRing_vf hI hr hn ha90 hW hcd hVs (12 - 0 : Int).toNat.succ) 0 F A hI hf (by omega) (by omega) (fun q hq => by exfalso; omega) (by omega)
theorem k_X8_sort_vf {p n : Int} {F A : gs_F} (hI : gs_I F A) (hp : -2147483648 ≤ p ∧ p ≤ 2147483647) (hn : -2147483648 ≤ n ∧ n ≤ 2147483647) (hW : gs_W (A 6) (F 0 11)) (hcd : 0 ≤ p → p ≤ 7 → ∀ i : Int, 0 ≤ i → i < F (90 + 2 * p.toNat) 1 → 0 ≤ A (90 + 2 * p.toNat + 1) i.toNat ∧ A (90 + 2 * p.toNat + 1) i.toNat < 6 * F 0 11 - 2) (hVs : ∀ r : Nat, (r : Int) < F 0 12 → sp_val (F 0 11) (gs_stk (A (54 + 3 * r + 1 + 1)) (F (54 + 3 * r + 1) 1).toNat)) : ∀ nN : Nat, (∀ (ri : Int) (bf : Int) (k : Int)  (F1 A1 : gs_F), gs_I F1 A1 → gs_fr (fun c j => (c = 15 ∧ j = 1) ∨ (18 ≤ c ∧ c < 30 ∧ j = 1) ∨ (c = 48 ∧ j = 1)) (fun c => c = 7 ∨ (18 ≤ c ∧ c < 30) ∨ c = 49) F A F1 A1 → 1 ≤ k ∧ k ≤ n + 1 → 0 ≤ p ∧ p ≤ 7 → 1 ≤ n ∧ n ≤ 12 → ri = 0 ∨ ri = 1 → -2147483648 ≤ bf ∧ bf ≤ 2147483647 → (∀ ii : Nat, (ii : Int) < 2 * F 0 11 → gs_it (gs_plc F A (F 0 11) (90 + 2 * p.toNat)) (k - 1).toNat [(ii : Int) + 1] = some (gs_ic F1 A1 ii)) → F1 15 1 = 2 * F 0 11 → (∀ ii : Nat, (ii : Int) < 2 * F 0 11 → sp_val (F 0 11) (gs_ic F1 A1 ii)) → (∀ j : Int, 1 ≤ j → j < k → gs_tk (gs_plc F A (F 0 11) (90 + 2 * p.toNat)) (F 0 11) j.toNat 99) → (ri = 1 ∧ st_rise (gs_plc F A (F 0 11) (90 + 2 * p.toNat)) (F 0 11) (k - 1)) ∨ (ri = 0 ∧ ¬ st_rise (gs_plc F A (F 0 11) (90 + 2 * p.toNat)) (F 0 11) (k - 1)) → (k = 1 ∧ bf = 0) ∨ (2 ≤ k ∧ st_len (gs_plc F A (F 0 11) (90 + 2 * p.toNat)) (F 0 11) (k - 1).toNat bf) → n + 1 - k < (nN : Int) → sA m_X8_sort 6 (fun rv F' A' => ∃ z : Int, rv = some (gs_iv z) ∧ gs_I F' A' ∧ gs_fr (fun c j => (c = 15 ∧ j = 1) ∨ (18 ≤ c ∧ c < 30 ∧ j = 1) ∨ (c = 48 ∧ j = 1)) (fun c => c = 7 ∨ (18 ≤ c ∧ c < 30) ∨ c = 49) F A F' A' ∧ (((p < 0 ∨ 7 < p) ∧ z = -1001) ∨ (0 ≤ p ∧ p ≤ 7 ∧ (n < 1 ∨ 12 < n) ∧ z = -1002) ∨ (0 ≤ p ∧ p ≤ 7 ∧ 1 ≤ n ∧ n ≤ 12 ∧ st_ans (gs_plc F A (F 0 11) (90 + 2 * p.toNat)) (F 0 11) n (st_K8 F A (90 + 2 * p.toNat) n) z))) 45 [(5, gs_iv k), (4, gs_iv bf), (3, gs_iv ri), (0, .ref 0), (1, gs_iv p), (2, gs_iv n)] [] F1 A1) := by
  intro nN
  induction nN with
  | zero =>
    exact fun a0 a1 a2 a3 a4 a5 a6 i0 i1 i2 i3 i4 i5 i6 i7 i8 i9 i10 hm => by exfalso; omega
  | succ nN ih =>
    intro ri bf k F1 A1 hI1 hf1 i0 i1 i2 i3 i4 i5 i6 i7 i8 i9 i10 hm
    have b1 : (0 : Int) ≤ F1 15 1 ∧ F1 15 1 ≤ 6 := hI1.1 15 1
    have hg : (1 : Int) ≤ F 0 11 ∧ F 0 11 ≤ 3 := hI.1 0 11
    refine sA_iload dd_X8_sort_45 (.head _) ?_
    refine sA_iload_n dd_X8_sort_47 rfl (.tail _ (.tail _ (.tail _ (.tail _ (.tail _ (.head _)))))) ?_
    refine sA_icmp_gt (tgt := 125) dd_X8_sort_48 (by decide) (by omega) (by omega) (fun q2 => ?_) (fun q2 => ?_)
    · skip
      refine sA_aload_n dd_X8_sort_125 rfl (.tail _ (.tail _ (.tail _ (.head _)))) ?_
      refine sA_aload_n dd_X8_sort_126 rfl (.tail _ (.tail _ (.tail _ (.head _)))) ?_
      refine sA_getr (ci := 8) (j := 1) (q := (RX8, TX8, 13)) dd_X8_sort_127 rfl (by decide) fl_X8_17 (by decide) gs_s0 rfl ?_
      refine sA_iload_n dd_X8_sort_130 rfl (.tail _ (.tail _ (.tail _ (.tail _ (.head _))))) ?_
      refine sA_aald (n := 8) dd_X8_sort_131 (by decide) (by decide) (by decide) gs_s2 (by omega) (by decide) ?_
      have g3 := gs_plan_at (k := p.toNat) (by omega)
      refine sA_iload_n dd_X8_sort_132 rfl (.tail _ (.tail _ (.tail _ (.tail _ (.tail _ (.head _)))))) ?_
      have hF54 : ∀ c j, 54 ≤ c → F1 c j = F c j := fun c j q => hf1.1 c j (by dsimp only; omega)
      have hA54 : ∀ c, 54 ≤ c → A1 c = A c := fun c q => hf1.2 c (by dsimp only; omega)
      have h011 : F1 0 11 = F 0 11 := hf1.1 0 11 (by dsimp only; omega)
      have h012 : F1 0 12 = F 0 12 := hf1.1 0 12 (by dsimp only; omega)
      have hW1 : gs_W (A1 6) (F1 0 11) := by rw [hf1.2 6 (by dsimp only; omega), h011]; exact hW
      have hcd1 : ∀ i : Int, 0 ≤ i → i < F1 (90 + 2 * p.toNat) 1 → 0 ≤ A1 (90 + 2 * p.toNat + 1) i.toNat ∧ A1 (90 + 2 * p.toNat + 1) i.toNat < 6 * F1 0 11 - 2 := by rw [hF54 (90 + 2 * p.toNat) 1 (by omega), hA54 (90 + 2 * p.toNat + 1) (by omega), h011]; exact hcd (by omega) (by omega)
      have hVs1 : ∀ r : Nat, (r : Int) < F1 0 12 → sp_val (F1 0 11) (gs_stk (A1 (54 + 3 * r + 1 + 1)) (F1 (54 + 3 * r + 1) 1).toNat) := fun r hr => by rw [hF54 (54 + 3 * r + 1) 1 (by omega), hA54 (54 + 3 * r + 1 + 1) (by omega), h011]; exact hVs r (by omega)
      have hK : st_K8 F1 A1 (90 + 2 * p.toNat) n ↔ st_K8 F A (90 + 2 * p.toNat) n := by
        unfold st_K8
        rw [h012]
        exact ⟨fun ⟨r, r1, r2⟩ => ⟨r, r1, (st_k8_fr h011 hF54 hA54 (by omega)).mp r2⟩, fun ⟨r, r1, r2⟩ => ⟨r, r1, (st_k8_fr h011 hF54 hA54 (by omega)).mpr r2⟩⟩
      have hor : gs_or (gs_plc F A (F 0 11) (90 + 2 * p.toNat)) (F 0 11) n (-1) := .inr ⟨fun j h1 h2 => i8 j h1 (by omega), rfl⟩
      refine sA_callV (y2 := m_X8_keepsSomeRing) (n2 := 2) (d2 := 5) (a := 0) (ci := 8) (q := (RX8, TX8, 13)) (as := [.ref (90 + 2 * p.toNat), gs_iv n]) (rest := []) dd_X8_sort_133 ok_X8_keepsSomeRing ml_X8_220 rfl rfl (by decide) gs_s0 rfl rfl (Nat.le_of_ble_eq_true rfl) (by decide) (c_X8_keepsSomeRing_vf hI1 g3 (by omega) (by omega) hW1 hcd1 hVs1) (fun r4 F5 A6 h7 => ?_)
      obtain ⟨z10, e9, I11, f12, x8⟩ := h7
      subst e9
      have v13 : F5 15 1 = F1 15 1 := f12.1 15 1 (by first | exact id | omega | (dsimp only; omega) | (dsimp only) | fail)
      have f14 := gs_fr_tr hf1 f12 (fun b j h => by first | exact False.elim h | omega | (dsimp only at h ⊢; omega) | fail) (fun b h => by first | exact False.elim h | omega | (dsimp only at h ⊢; omega) | fail)
      have y15 : (z10 = 1 ∧ st_K8 F1 A1 (90 + 2 * p.toNat) n) ∨ (z10 = 0 ∧ ¬ st_K8 F1 A1 (90 + 2 * p.toNat) n) := x8
      clear x8
      show sA _ _ _ 136 _ [gs_iv z10] _ _
      refine sA_if_eq (tgt := 141) dd_X8_sort_136 (by decide) (by omega) (fun q16 => ?_) (fun q16 => ?_)
      · skip
        refine sA_iload_n dd_X8_sort_141 rfl (.tail _ (.tail _ (.head _))) ?_
        refine sA_if_eq (tgt := 149) dd_X8_sort_142 (by decide) (by omega) (fun q17 => ?_) (fun q17 => ?_)
        · skip
          refine sA_iconst (z := 3) dd_X8_sort_149 ?_
          refine sA_iret (z := 3) dd_X8_sort_150 rfl ?_
          refine ⟨_, rfl, I11, f14, ?_⟩
          rcases y15 with y | y
          · exfalso
            omega
          · have hnk := fun w => y.2 (hK.mpr w)
            rcases i9 with q | q
            · rw [show k - 1 = n by omega] at q
              first
                | exact .inr (.inr ⟨by omega, by omega, by omega, by omega, .inr (.inr ⟨hor, .inr ⟨hnk, .inl ⟨q.2, by omega⟩⟩⟩)⟩)
                | (exfalso; omega)
                | fail
            · rw [show k - 1 = n by omega] at q
              first
                | exact .inr (.inr ⟨by omega, by omega, by omega, by omega, .inr (.inr ⟨hor, .inr ⟨hnk, .inr ⟨q.2, by omega⟩⟩⟩)⟩)
                | (exfalso; omega)
                | fail
        · skip
          refine sA_iconst (z := 2) dd_X8_sort_145 ?_
          refine sA_goto (tgt := 150) dd_X8_sort_146 (by decide) ?_
          refine sA_iret (z := 2) dd_X8_sort_150 rfl ?_
          refine ⟨_, rfl, I11, f14, ?_⟩
          rcases y15 with y | y
          · exfalso
            omega
          · have hnk := fun w => y.2 (hK.mpr w)
            rcases i9 with q | q
            · rw [show k - 1 = n by omega] at q
              first
                | exact .inr (.inr ⟨by omega, by omega, by omega, by omega, .inr (.inr ⟨hor, .inr ⟨hnk, .inl ⟨q.2, by omega⟩⟩⟩)⟩)
                | (exfalso; omega)
                | fail
            · rw [show k - 1 = n by omega] at q
              first
                | exact .inr (.inr ⟨by omega, by omega, by omega, by omega, .inr (.inr ⟨hor, .inr ⟨hnk, .inr ⟨q.2, by omega⟩⟩⟩)⟩)
                | (exfalso; omega)
                | fail
      · skip
        refine sA_iconst (z := 1) dd_X8_sort_139 ?_
        refine sA_iret (z := 1) dd_X8_sort_140 rfl ?_
        refine ⟨_, rfl, I11, f14, ?_⟩
        rcases y15 with y | y
        · exact .inr (.inr ⟨by omega, by omega, by omega, by omega, .inr (.inr ⟨hor, .inl ⟨hK.mp y.2, rfl⟩⟩)⟩)
        · exfalso
          omega
    · skip
      refine sA_aload_n dd_X8_sort_51 rfl (.tail _ (.tail _ (.tail _ (.head _)))) ?_
      refine sA_getr (ci := 8) (j := 5) (q := (RX8, TX8, 13)) dd_X8_sort_52 rfl (by decide) fl_X8_49 (by decide) gs_s0 rfl ?_
      refine sA_aload_n dd_X8_sort_55 rfl (.tail _ (.tail _ (.tail _ (.head _)))) ?_
      refine sA_getr (ci := 8) (j := 1) (q := (RX8, TX8, 13)) dd_X8_sort_56 rfl (by decide) fl_X8_17 (by decide) gs_s0 rfl ?_
      refine sA_iload_n dd_X8_sort_59 rfl (.tail _ (.tail _ (.tail _ (.tail _ (.head _))))) ?_
      refine sA_aald (n := 8) dd_X8_sort_60 (by decide) (by decide) (by decide) gs_s2 (by omega) (by decide) ?_
      have g18 := gs_plan_at (k := p.toNat) (by omega)
      have hp1 : A1 (90 + 2 * p.toNat + 1) = A (90 + 2 * p.toNat + 1) := hf1.2 (90 + 2 * p.toNat + 1) (by dsimp only; omega)
      have hpn : F1 (90 + 2 * p.toNat) 1 = F (90 + 2 * p.toNat) 1 := hf1.1 (90 + 2 * p.toNat) 1 (by dsimp only; omega)
      have hW1 : gs_W (A1 6) (F 0 11) := by rw [hf1.2 6 (by dsimp only; omega)]; exact hW
      have hcd1 : ∀ i : Int, 0 ≤ i → i < F1 (90 + 2 * p.toNat) 1 → 0 ≤ A1 (90 + 2 * p.toNat + 1) i.toNat ∧ A1 (90 + 2 * p.toNat + 1) i.toNat < 6 * F 0 11 - 2 := by rw [hp1, hpn]; exact (hcd (by omega) (by omega))
      have hPe : ∀ r, gs_plc F1 A1 (F 0 11) (90 + 2 * p.toNat) r = gs_plc F A (F 0 11) (90 + 2 * p.toNat) r := fun r => by
        unfold gs_plc
        rw [hp1, hpn]
      have hVI1 : ∀ ii : Nat, (ii : Int) < F1 15 1 → sp_val (F 0 11) (gs_ic F1 A1 ii) := fun ii hi => i7 ii (by omega)
      refine sA_callV (y2 := m_X0_doPlan) (n2 := 1) (d2 := 4) (a := 15) (ci := 0) (q := (RX0, TX0, 4)) (as := [.ref (90 + 2 * p.toNat)]) (rest := []) dd_X8_sort_61 ok_X0_doPlan ml_X8_196 rfl rfl (by decide) gs_s15 rfl rfl (Nat.le_of_ble_eq_true rfl) (by decide) (c_X0_doPlan_vf hI1 g18 hg hcd1 hW1 hVI1 (by omega)) (fun r19 F20 A21 h22 => ?_)
      obtain ⟨z25, e24, I26, f27, x23⟩ := h22
      subst e24
      have v28 : F20 15 1 = F1 15 1 := f27.1 15 1 (by first | exact id | omega | (dsimp only; omega) | (dsimp only) | fail)
      have f29 := gs_fr_tr hf1 f27 (fun b j h => by first | exact False.elim h | omega | (dsimp only at h ⊢; omega) | fail) (fun b h => by first | exact False.elim h | omega | (dsimp only at h ⊢; omega) | fail)
      have y30 : (z25 = 1 ∧ ∀ ii : Nat, (ii : Int) < F1 15 1 → gs_plc F1 A1 (F 0 11) (90 + 2 * p.toNat) (gs_ic F1 A1 ii) = some (gs_ic F20 A21 ii)) ∨ (z25 = 0 ∧ ∃ ii : Nat, (ii : Int) < F1 15 1 ∧ gs_plc F1 A1 (F 0 11) (90 + 2 * p.toNat) (gs_ic F1 A1 ii) = none) := x23
      clear x23
      show sA _ _ _ 64 _ [gs_iv z25] _ _
      refine sA_if_ne (tgt := 71) dd_X8_sort_64 (by decide) (by omega) (fun q31 => ?_) (fun q31 => ?_)
      · skip
        have hst0 : ∀ ii : Nat, (ii : Int) < 2 * F 0 11 → gs_plc F A (F 0 11) (90 + 2 * p.toNat) (gs_ic F1 A1 ii) = some (gs_ic F20 A21 ii) := by
          rcases y30 with y | y
          · intro ii hi
            have w := y.2 ii (by omega)
            rw [hPe] at w
            exact w
          · exfalso
            omega
        have hst : ∀ ii : Nat, (ii : Int) < 2 * F 0 11 → gs_it (gs_plc F A (F 0 11) (90 + 2 * p.toNat)) k.toNat [(ii : Int) + 1] = some (gs_ic F20 A21 ii) := by
          rw [show k.toNat = (k - 1).toNat + 1 by omega]
          exact gs_it_step i5 hst0
        clear y30
        refine sA_aload_n dd_X8_sort_71 rfl (.tail _ (.tail _ (.tail _ (.head _)))) ?_
        refine sA_getr (ci := 8) (j := 5) (q := (RX8, TX8, 13)) dd_X8_sort_72 rfl (by decide) fl_X8_49 (by decide) gs_s0 rfl ?_
        refine sA_aload_n dd_X8_sort_75 rfl (.tail _ (.tail _ (.tail _ (.head _)))) ?_
        refine sA_getr (ci := 8) (j := 8) (q := (RX8, TX8, 13)) dd_X8_sort_76 rfl (by decide) fl_X8_69 (by decide) gs_s0 rfl ?_
        refine sA_callV (y2 := m_X0_fullTurns) (n2 := 1) (d2 := 4) (a := 15) (ci := 0) (q := (RX0, TX0, 4)) (as := [.ref 48]) (rest := []) dd_X8_sort_79 ok_X0_fullTurns ml_X8_199 rfl rfl (by decide) gs_s15 rfl rfl (Nat.le_of_ble_eq_true rfl) (by decide) (c_X0_fullTurns_vf I26 gs_row_48 (by omega) (by omega) hg (by omega)) (fun r32 F33 A34 h35 => ?_)
        obtain ⟨z38, e37, I39, f40, x36⟩ := h35
        subst e37
        have v41 : F33 15 1 = F20 15 1 := f40.1 15 1 (by first | exact id | omega | (dsimp only; omega) | (dsimp only) | fail)
        have f42 := gs_fr_tr f29 f40 (fun b j h => by first | exact False.elim h | omega | (dsimp only at h ⊢; omega) | fail) (fun b h => by first | exact False.elim h | omega | (dsimp only at h ⊢; omega) | fail)
        have y43 : (-100 ≤ z38 ∧ z38 ≤ 100) ∧ gs_ft (fun j => gs_tn F20 A21 (F 0 11) j) z38 := x36
        clear x36
        show sA _ _ _ 82 _ [gs_iv z38] _ _
        refine sA_bipush (z := 99) dd_X8_sort_82 (by decide) ?_
        refine sA_icmp_eq (tgt := 89) dd_X8_sort_84 (by decide) (by omega) (by omega) (fun q44 => ?_) (fun q44 => ?_)
        · skip
          have hic79 : ∀ ii : Nat, ii < 6 → gs_ic F33 A34 ii = gs_ic F20 A21 ii := fun ii hi => gs_ic_fr hi (fun c h1 h2 => f40.1 c 1 (by dsimp only; omega)) (fun c h1 h2 => f40.2 c (by dsimp only; omega))
          refine sA_aload_n dd_X8_sort_89 rfl (.tail _ (.tail _ (.tail _ (.head _)))) ?_
          refine sA_getr (ci := 8) (j := 5) (q := (RX8, TX8, 13)) dd_X8_sort_90 rfl (by decide) fl_X8_49 (by decide) gs_s0 rfl ?_
          refine sA_callV (y2 := m_X0_lettersTogether) (n2 := 0) (d2 := 1) (a := 15) (ci := 0) (q := (RX0, TX0, 4)) (as := []) (rest := []) dd_X8_sort_93 ok_X0_lettersTogether ml_X8_216 rfl rfl (by decide) gs_s15 rfl rfl (Nat.le_of_ble_eq_true rfl) (by decide) (c_X0_lettersTogether_vf I39 ) (fun r45 F46 A47 h48 => ?_)
          obtain ⟨z51, e50, e52, e53, x49⟩ := h48
          subst e50 e52 e53
          have y54 : (0 ≤ z51 ∧ z51 ≤ 2400) ∧ z51 = gs_sum (fun i => F33 (18 + 2 * i) 1) (F33 15 1).toNat := x49
          clear x49
          show sA _ _ _ 96 _ [gs_iv z51] _ _
          have hnow : st_len (gs_plc F A (F 0 11) (90 + 2 * p.toNat)) (F 0 11) k.toNat z51 := by
            refine ⟨gs_ic F33 A34, fun ii hi => by rw [hic79 ii (by omega)]; exact hst ii hi, ?_⟩
            rw [y54.2, show F33 15 1 = 2 * F 0 11 by omega]
            refine gs_sum_cg _ (fun i hi => ?_)
            show F33 (18 + 2 * i) 1 = ((gs_stk (A34 (18 + 2 * i + 1)) (F33 (18 + 2 * i) 1).toNat).length : Int)
            rw [gs_stk_len]
            have hb := gs_row_sz (gs_row_im (k := i) (by omega)) I39
            omega
          have hpos : 0 < z51 := st_len_pos hg.1 (gs_plc_good hg (hcd (by omega) (by omega))) hnow
          refine sA_istore (lv' := [(6, gs_iv z51), (5, gs_iv k), (4, gs_iv bf), (3, gs_iv ri), (0, .ref 0), (1, gs_iv p), (2, gs_iv n)]) dd_X8_sort_96 (by decide) rfl ?_
          refine sA_iload_n dd_X8_sort_98 rfl (.tail _ (.tail _ (.tail _ (.head _)))) ?_
          refine sA_if_eq (tgt := 113) dd_X8_sort_99 (by decide) (by omega) (fun q55 => ?_) (fun q55 => ?_)
          · skip
            refine sA_iconst (z := 0) dd_X8_sort_113 ?_
            refine sA_istore_n (lv' := [(3, gs_iv 0), (6, gs_iv z51), (5, gs_iv k), (4, gs_iv bf), (0, .ref 0), (1, gs_iv p), (2, gs_iv n)]) dd_X8_sort_114 rfl (by decide) rfl ?_
            refine sA_iload dd_X8_sort_115 (.tail _ (.head _)) ?_
            refine sA_istore (lv' := [(4, gs_iv z51), (3, gs_iv 0), (6, gs_iv z51), (5, gs_iv k), (0, .ref 0), (1, gs_iv p), (2, gs_iv n)]) dd_X8_sort_117 (by decide) rfl ?_
            refine sA_iinc (lv' := [(5, gs_iv (k + 1)), (4, gs_iv z51), (3, gs_iv 0), (6, gs_iv z51), (0, .ref 0), (1, gs_iv p), (2, gs_iv n)]) dd_X8_sort_119 (.tail _ (.tail _ (.tail _ (.head _)))) (by decide) rfl ?_
            refine sA_goto (tgt := 45) dd_X8_sort_122 (by decide) ?_
            have b56 : (0 : Int) ≤ F33 15 1 ∧ F33 15 1 ≤ 6 := I39.1 15 1
            refine sA_sub (lv2 := [(5, gs_iv (k + 1)), (4, gs_iv z51), (3, gs_iv 0), (0, .ref 0), (1, gs_iv p), (2, gs_iv n)]) (List.forall_mem_cons.mpr ⟨(.head _), (List.forall_mem_cons.mpr ⟨(.tail _ (.head _)), (List.forall_mem_cons.mpr ⟨(.tail _ (.tail _ (.head _))), (List.forall_mem_cons.mpr ⟨(.tail _ (.tail _ (.tail _ (.tail _ (.head _))))), (List.forall_mem_cons.mpr ⟨(.tail _ (.tail _ (.tail _ (.tail _ (.tail _ (.head _)))))), (List.forall_mem_cons.mpr ⟨(.tail _ (.tail _ (.tail _ (.tail _ (.tail _ (.tail _ (.head _))))))), (fun _ h => absurd h List.not_mem_nil)⟩)⟩)⟩)⟩)⟩)⟩) ?_
            exact ih 0 z51 (k + 1) F33 A34 I39 f42 (by omega) (by omega) (by omega) (by omega) (by omega) (fun ii hi => by rw [show (k + 1 - 1).toNat = k.toNat by omega, hic79 ii (by omega)]; exact hst ii hi) (by omega) (fun ii hi => by rw [hic79 ii (by omega)]; exact gs_plc_val hg (hcd (by omega) (by omega)) (i7 ii hi) (hst0 ii hi)) (gs_tk_ext i8 (by have y := y43.2; rw [show z38 = 99 by omega] at y; exact gs_tk_mk (F := F20) (A := A21) (by omega) hst y)) (st_flag (bf := bf) (by omega) i9 (by rcases i10 with q | q <;> first | exact .inl ⟨q.1, by have q2 := q.2; omega⟩ | exact .inr q | fail) hnow (by omega)) (.inr ⟨by omega, by rw [show (k + 1 - 1).toNat = k.toNat by omega]; exact hnow⟩) (by omega)
          · skip
            refine sA_iload dd_X8_sort_102 (.head _) ?_
            refine sA_iload dd_X8_sort_104 (.tail _ (.tail _ (.head _))) ?_
            refine sA_icmp_le (tgt := 113) dd_X8_sort_106 (by decide) (by omega) (by omega) (fun q57 => ?_) (fun q57 => ?_)
            · skip
              refine sA_iconst (z := 0) dd_X8_sort_113 ?_
              refine sA_istore_n (lv' := [(3, gs_iv 0), (6, gs_iv z51), (5, gs_iv k), (4, gs_iv bf), (0, .ref 0), (1, gs_iv p), (2, gs_iv n)]) dd_X8_sort_114 rfl (by decide) rfl ?_
              refine sA_iload dd_X8_sort_115 (.tail _ (.head _)) ?_
              refine sA_istore (lv' := [(4, gs_iv z51), (3, gs_iv 0), (6, gs_iv z51), (5, gs_iv k), (0, .ref 0), (1, gs_iv p), (2, gs_iv n)]) dd_X8_sort_117 (by decide) rfl ?_
              refine sA_iinc (lv' := [(5, gs_iv (k + 1)), (4, gs_iv z51), (3, gs_iv 0), (6, gs_iv z51), (0, .ref 0), (1, gs_iv p), (2, gs_iv n)]) dd_X8_sort_119 (.tail _ (.tail _ (.tail _ (.head _)))) (by decide) rfl ?_
              refine sA_goto (tgt := 45) dd_X8_sort_122 (by decide) ?_
              have b58 : (0 : Int) ≤ F33 15 1 ∧ F33 15 1 ≤ 6 := I39.1 15 1
              refine sA_sub (lv2 := [(5, gs_iv (k + 1)), (4, gs_iv z51), (3, gs_iv 0), (0, .ref 0), (1, gs_iv p), (2, gs_iv n)]) (List.forall_mem_cons.mpr ⟨(.head _), (List.forall_mem_cons.mpr ⟨(.tail _ (.head _)), (List.forall_mem_cons.mpr ⟨(.tail _ (.tail _ (.head _))), (List.forall_mem_cons.mpr ⟨(.tail _ (.tail _ (.tail _ (.tail _ (.head _))))), (List.forall_mem_cons.mpr ⟨(.tail _ (.tail _ (.tail _ (.tail _ (.tail _ (.head _)))))), (List.forall_mem_cons.mpr ⟨(.tail _ (.tail _ (.tail _ (.tail _ (.tail _ (.tail _ (.head _))))))), (fun _ h => absurd h List.not_mem_nil)⟩)⟩)⟩)⟩)⟩)⟩) ?_
              exact ih 0 z51 (k + 1) F33 A34 I39 f42 (by omega) (by omega) (by omega) (by omega) (by omega) (fun ii hi => by rw [show (k + 1 - 1).toNat = k.toNat by omega, hic79 ii (by omega)]; exact hst ii hi) (by omega) (fun ii hi => by rw [hic79 ii (by omega)]; exact gs_plc_val hg (hcd (by omega) (by omega)) (i7 ii hi) (hst0 ii hi)) (gs_tk_ext i8 (by have y := y43.2; rw [show z38 = 99 by omega] at y; exact gs_tk_mk (F := F20) (A := A21) (by omega) hst y)) (st_flag (bf := bf) (by omega) i9 (by rcases i10 with q | q <;> first | exact .inl ⟨q.1, by have q2 := q.2; omega⟩ | exact .inr q | fail) hnow (by omega)) (.inr ⟨by omega, by rw [show (k + 1 - 1).toNat = k.toNat by omega]; exact hnow⟩) (by omega)
            · skip
              refine sA_iconst (z := 1) dd_X8_sort_109 ?_
              refine sA_goto (tgt := 114) dd_X8_sort_110 (by decide) ?_
              refine sA_istore_n (lv' := [(3, gs_iv 1), (6, gs_iv z51), (5, gs_iv k), (4, gs_iv bf), (0, .ref 0), (1, gs_iv p), (2, gs_iv n)]) dd_X8_sort_114 rfl (by decide) rfl ?_
              refine sA_iload dd_X8_sort_115 (.tail _ (.head _)) ?_
              refine sA_istore (lv' := [(4, gs_iv z51), (3, gs_iv 1), (6, gs_iv z51), (5, gs_iv k), (0, .ref 0), (1, gs_iv p), (2, gs_iv n)]) dd_X8_sort_117 (by decide) rfl ?_
              refine sA_iinc (lv' := [(5, gs_iv (k + 1)), (4, gs_iv z51), (3, gs_iv 1), (6, gs_iv z51), (0, .ref 0), (1, gs_iv p), (2, gs_iv n)]) dd_X8_sort_119 (.tail _ (.tail _ (.tail _ (.head _)))) (by decide) rfl ?_
              refine sA_goto (tgt := 45) dd_X8_sort_122 (by decide) ?_
              have b59 : (0 : Int) ≤ F33 15 1 ∧ F33 15 1 ≤ 6 := I39.1 15 1
              refine sA_sub (lv2 := [(5, gs_iv (k + 1)), (4, gs_iv z51), (3, gs_iv 1), (0, .ref 0), (1, gs_iv p), (2, gs_iv n)]) (List.forall_mem_cons.mpr ⟨(.head _), (List.forall_mem_cons.mpr ⟨(.tail _ (.head _)), (List.forall_mem_cons.mpr ⟨(.tail _ (.tail _ (.head _))), (List.forall_mem_cons.mpr ⟨(.tail _ (.tail _ (.tail _ (.tail _ (.head _))))), (List.forall_mem_cons.mpr ⟨(.tail _ (.tail _ (.tail _ (.tail _ (.tail _ (.head _)))))), (List.forall_mem_cons.mpr ⟨(.tail _ (.tail _ (.tail _ (.tail _ (.tail _ (.tail _ (.head _))))))), (fun _ h => absurd h List.not_mem_nil)⟩)⟩)⟩)⟩)⟩)⟩) ?_
              exact ih 1 z51 (k + 1) F33 A34 I39 f42 (by omega) (by omega) (by omega) (by omega) (by omega) (fun ii hi => by rw [show (k + 1 - 1).toNat = k.toNat by omega, hic79 ii (by omega)]; exact hst ii hi) (by omega) (fun ii hi => by rw [hic79 ii (by omega)]; exact gs_plc_val hg (hcd (by omega) (by omega)) (i7 ii hi) (hst0 ii hi)) (gs_tk_ext i8 (by have y := y43.2; rw [show z38 = 99 by omega] at y; exact gs_tk_mk (F := F20) (A := A21) (by omega) hst y)) (st_flag (bf := bf) (by omega) i9 (by rcases i10 with q | q <;> first | exact .inl ⟨q.1, by have q2 := q.2; omega⟩ | exact .inr q | fail) hnow (by omega)) (.inr ⟨by omega, by rw [show (k + 1 - 1).toNat = k.toNat by omega]; exact hnow⟩) (by omega)
        · skip
          refine sA_iconst (z := 0) dd_X8_sort_87 ?_
          refine sA_iret (z := 0) dd_X8_sort_88 rfl ?_
          refine ⟨_, rfl, I39, f42, ?_⟩
          exact .inr (.inr ⟨by omega, by omega, by omega, by omega, .inr (.inl ⟨k, by omega, .inl ⟨k, by omega, by omega, i8, .inr ⟨z38, by omega, gs_tk_mk (F := F20) (A := A21) (by omega) hst y43.2, rfl⟩⟩, rfl⟩)⟩)
      · skip
        refine sA_sipush (z := (-1005)) dd_X8_sort_67 (by decide) ?_
        refine sA_iret (z := -1005) dd_X8_sort_70 rfl ?_
        refine ⟨_, rfl, I26, f29, ?_⟩
        rcases y30 with y | y
        · exfalso
          omega
        · obtain ⟨y1, ii, hi, y2⟩ := y
          rw [hPe] at y2
          refine .inr (.inr ⟨by omega, by omega, by omega, by omega, .inl ⟨.inl ⟨k, by omega, by omega, i8, .inl ⟨?_, rfl⟩⟩, rfl⟩⟩)
          rw [show k.toNat = (k - 1).toNat + 1 by omega]
          exact gs_big_mk i5 ⟨ii, by omega, y2⟩
theorem c_X8_sort_vf {p n : Int} {F A : gs_F} (hI : gs_I F A) (hp : -2147483648 ≤ p ∧ p ≤ 2147483647) (hn : -2147483648 ≤ n ∧ n ≤ 2147483647) (hW : gs_W (A 6) (F 0 11)) (hcd : 0 ≤ p → p ≤ 7 → ∀ i : Int, 0 ≤ i → i < F (90 + 2 * p.toNat) 1 → 0 ≤ A (90 + 2 * p.toNat + 1) i.toNat ∧ A (90 + 2 * p.toNat + 1) i.toNat < 6 * F 0 11 - 2) (hVs : ∀ r : Nat, (r : Int) < F 0 12 → sp_val (F 0 11) (gs_stk (A (54 + 3 * r + 1 + 1)) (F (54 + 3 * r + 1) 1).toNat)) : sC m_X8_sort 6 [.ref 0, gs_iv p, gs_iv n] F A (fun rv F' A' => ∃ z : Int, rv = some (gs_iv z) ∧ gs_I F' A' ∧ gs_fr (fun c j => (c = 15 ∧ j = 1) ∨ (18 ≤ c ∧ c < 30 ∧ j = 1) ∨ (c = 48 ∧ j = 1)) (fun c => c = 7 ∨ (18 ≤ c ∧ c < 30) ∨ c = 49) F A F' A' ∧ (((p < 0 ∨ 7 < p) ∧ z = -1001) ∨ (0 ≤ p ∧ p ≤ 7 ∧ (n < 1 ∨ 12 < n) ∧ z = -1002) ∨ (0 ≤ p ∧ p ≤ 7 ∧ 1 ≤ n ∧ n ≤ 12 ∧ st_ans (gs_plc F A (F 0 11) (90 + 2 * p.toNat)) (F 0 11) n (st_K8 F A (90 + 2 * p.toNat) n) z))) := by
  refine sC_of ok_X8_sort.1 (Nat.le_of_ble_eq_true rfl) ?_
  show sA _ _ _ 0 [(0, .ref 0), (1, gs_iv p), (2, gs_iv n)] [] F A
  have hf : gs_fr (fun c j => (c = 15 ∧ j = 1) ∨ (18 ≤ c ∧ c < 30 ∧ j = 1) ∨ (c = 48 ∧ j = 1)) (fun c => c = 7 ∨ (18 ≤ c ∧ c < 30) ∨ c = 49) F A F A := gs_fr_refl _ _ _ _
  have b60 : (0 : Int) ≤ F 15 1 ∧ F 15 1 ≤ 6 := hI.1 15 1
  have hg : (1 : Int) ≤ F 0 11 ∧ F 0 11 ≤ 3 := hI.1 0 11
  refine sA_iload_n dd_X8_sort_0 rfl (.tail _ (.head _)) ?_
  refine sA_callS (y2 := m_X8_isPlan) (n2 := 1) (d2 := 1) (as := [gs_iv p]) (rest := []) dd_X8_sort_1 ok_X8_isPlan ml_X8_148 rfl rfl (Nat.le_of_ble_eq_true rfl) (by decide) (c_X8_isPlan (by omega)) (fun r61 F62 A63 h64 => ?_)
  obtain ⟨z67, e66, e68, e69, x65⟩ := h64
  subst e66 e68 e69
  show sA _ _ _ 4 _ [gs_iv z67] _ _
  refine sA_if_ne (tgt := 11) dd_X8_sort_4 (by decide) (by omega) (fun q70 => ?_) (fun q70 => ?_)
  · skip
    refine sA_iload_n dd_X8_sort_11 rfl (.tail _ (.tail _ (.head _))) ?_
    refine sA_iconst (z := 1) dd_X8_sort_12 ?_
    refine sA_icmp_lt (tgt := 22) dd_X8_sort_13 (by decide) (by omega) (by omega) (fun q71 => ?_) (fun q71 => ?_)
    · skip
      refine sA_sipush (z := (-1002)) dd_X8_sort_22 (by decide) ?_
      refine sA_iret (z := -1002) dd_X8_sort_25 rfl ?_
      refine ⟨_, rfl, hI, hf, ?_⟩
      exact .inr (.inl ⟨by omega, by omega, by omega, rfl⟩)
    · skip
      refine sA_iload_n dd_X8_sort_16 rfl (.tail _ (.tail _ (.head _))) ?_
      refine sA_bipush (z := 12) dd_X8_sort_17 (by decide) ?_
      refine sA_icmp_le (tgt := 26) dd_X8_sort_19 (by decide) (by omega) (by omega) (fun q72 => ?_) (fun q72 => ?_)
      · skip
        refine sA_iconst (z := 1) dd_X8_sort_26 ?_
        refine sA_istore_n (lv' := [(3, gs_iv 1), (0, .ref 0), (1, gs_iv p), (2, gs_iv n)]) dd_X8_sort_27 rfl (by decide) rfl ?_
        refine sA_iconst (z := 0) dd_X8_sort_28 ?_
        refine sA_istore (lv' := [(4, gs_iv 0), (3, gs_iv 1), (0, .ref 0), (1, gs_iv p), (2, gs_iv n)]) dd_X8_sort_29 (by decide) rfl ?_
        refine sA_aload_n dd_X8_sort_31 rfl (.tail _ (.tail _ (.head _))) ?_
        refine sA_getr (ci := 8) (j := 5) (q := (RX8, TX8, 13)) dd_X8_sort_32 rfl (by decide) fl_X8_49 (by decide) gs_s0 rfl ?_
        refine sA_aload_n dd_X8_sort_35 rfl (.tail _ (.tail _ (.head _))) ?_
        refine sA_geti (ci := 8) (j := 11) (q := (RX8, TX8, 13)) dd_X8_sort_36 rfl (by decide) fl_X8_84 (by decide) gs_s0 rfl ?_
        have b73 : (1 : Int) ≤ F 0 11 ∧ F 0 11 ≤ 3 := hI.1 0 11
        refine sA_callV (y2 := m_X0_begin) (n2 := 1) (d2 := 2) (a := 15) (ci := 0) (q := (RX0, TX0, 4)) (as := [gs_iv (F 0 11)]) (rest := []) dd_X8_sort_39 ok_X0_begin ml_X8_193 rfl rfl (by decide) gs_s15 rfl rfl (Nat.le_of_ble_eq_true rfl) (by decide) (c_X0_begin_vf hI (by omega)) (fun r74 F75 A76 h77 => ?_)
        obtain ⟨e79, I80, f81, x78⟩ := h77
        subst e79
        have f83 := gs_fr_tr hf f81 (fun b j h => by first | exact False.elim h | omega | (dsimp only at h ⊢; omega) | fail) (fun b h => by first | exact False.elim h | omega | (dsimp only at h ⊢; omega) | fail)
        have y84 : F75 15 1 = 2 * (F 0 11) ∧ ∀ ii : Nat, (ii : Int) < 2 * (F 0 11) → gs_ic F75 A76 ii = [(ii : Int) + 1] := x78
        clear x78
        show sA _ _ _ 42 _ [] _ _
        have y39a := y84.1
        refine sA_iconst (z := 1) dd_X8_sort_42 ?_
        refine sA_istore (lv' := [(5, gs_iv 1), (4, gs_iv 0), (3, gs_iv 1), (0, .ref 0), (1, gs_iv p), (2, gs_iv n)]) dd_X8_sort_43 (by decide) rfl ?_
        have b85 : (0 : Int) ≤ F75 15 1 ∧ F75 15 1 ≤ 6 := I80.1 15 1
        refine sA_sub (lv2 := [(5, gs_iv 1), (4, gs_iv 0), (3, gs_iv 1), (0, .ref 0), (1, gs_iv p), (2, gs_iv n)]) (List.forall_mem_cons.mpr ⟨(.head _), (List.forall_mem_cons.mpr ⟨(.tail _ (.head _)), (List.forall_mem_cons.mpr ⟨(.tail _ (.tail _ (.head _))), (List.forall_mem_cons.mpr ⟨(.tail _ (.tail _ (.tail _ (.head _)))), (List.forall_mem_cons.mpr ⟨(.tail _ (.tail _ (.tail _ (.tail _ (.head _))))), (List.forall_mem_cons.mpr ⟨(.tail _ (.tail _ (.tail _ (.tail _ (.tail _ (.head _)))))), (fun _ h => absurd h List.not_mem_nil)⟩)⟩)⟩)⟩)⟩)⟩) ?_
        exact (k_X8_sort_vf hI hp hn hW hcd hVs (n + 1 - 1 : Int).toNat.succ) 1 0 1 F75 A76 I80 f83 (by omega) (by omega) (by omega) (by omega) (by omega) (fun ii hi => by rw [y84.2 ii (by omega)]; rfl) (by omega) (fun ii hi => by rw [y84.2 ii (by omega)]; exact gs_val1 (by omega)) (fun j h1 h2 => by exfalso; omega) (.inl ⟨rfl, st_rise_1 (by omega)⟩) (.inl ⟨rfl, rfl⟩) (by omega)
      · skip
        refine sA_sipush (z := (-1002)) dd_X8_sort_22 (by decide) ?_
        refine sA_iret (z := -1002) dd_X8_sort_25 rfl ?_
        refine ⟨_, rfl, hI, hf, ?_⟩
        exact .inr (.inl ⟨by omega, by omega, by omega, rfl⟩)
  · skip
    refine sA_sipush (z := (-1001)) dd_X8_sort_7 (by decide) ?_
    refine sA_iret (z := -1001) dd_X8_sort_10 rfl ?_
    refine ⟨_, rfl, hI, hf, ?_⟩
    exact .inl ⟨by omega, rfl⟩
theorem k_X9_comesBack_vf {r p n : Int} {F A : gs_F} (hI : gs_I F A) (hr : 0 ≤ r ∧ r < 12) (hp : 0 ≤ p ∧ p ≤ 7) (hn : 1 ≤ n ∧ n ≤ 24) (h1 : 1 ≤ A 108 r.toNat) (hcd : ∀ i : Int, 0 ≤ i → i < A 110 p.toNat → 0 ≤ A 111 (60 * p + i).toNat ∧ A 111 (60 * p + i).toNat ≤ 15) : ∀ nN : Nat, (∀ (k : Int)  (F1 A1 : gs_F), gs_I F1 A1 → gs_fr (fun c j => c = 106 ∧ (j = 9 ∨ j = 11 ∨ j = 13 ∨ j = 15)) (fun c => c = 112 ∨ c = 113 ∨ c = 114 ∨ c = 115) F A F1 A1 → 1 ≤ k ∧ k ≤ n + 1 → 1 ≤ A1 108 r.toNat → gs_it (gs_plm F A p) (k - 1).toNat (gs_stk (fun i => A 109 (60 * r.toNat + i)) (A 108 r.toNat).toNat) = some (gs_stk (A1 114) (F1 106 13).toNat) → (∀ j : Int, 1 ≤ j → j < k → ∀ s : List Int, gs_it (gs_plm F A p) j.toNat (gs_stk (fun i => A 109 (60 * r.toNat + i)) (A 108 r.toNat).toNat) = some s → ¬ st_ao s (fun i => A 109 (60 * r.toNat + i)) (A 108 r.toNat)) → n + 1 - k < (nN : Int) → sA m_X9_comesBack 6 (fun rv F' A' => ∃ z : Int, rv = some (gs_iv z) ∧ gs_I F' A' ∧ gs_fr (fun c j => c = 106 ∧ (j = 9 ∨ j = 11 ∨ j = 13 ∨ j = 15)) (fun c => c = 112 ∨ c = 113 ∨ c = 114 ∨ c = 115) F A F' A' ∧ ((z = 1 ∧ (st_kp (gs_plm F A p) (gs_stk (fun i => A 109 (60 * r.toNat + i)) (A 108 r.toNat).toNat) n (fun s => st_ao s (fun i => A 109 (60 * r.toNat + i)) (A 108 r.toNat)))) ∨ (z = 0 ∧ ¬ (st_kp (gs_plm F A p) (gs_stk (fun i => A 109 (60 * r.toNat + i)) (A 108 r.toNat).toNat) n (fun s => st_ao s (fun i => A 109 (60 * r.toNat + i)) (A 108 r.toNat)))))) 8 [(4, gs_iv k), (0, .ref 106), (1, gs_iv r), (2, gs_iv p), (3, gs_iv n)] [] F1 A1) := by
  intro nN
  induction nN with
  | zero =>
    exact fun a0 a1 a2 a3 a4 i0 i1 i2 i3 hm => by exfalso; omega
  | succ nN ih =>
    intro k F1 A1 hI1 hf1 i0 i1 i2 i3 hm
    have b1 : (0 : Int) ≤ F1 106 9 ∧ F1 106 9 ≤ 400 := hI1.1 106 9
    have b2 : (0 : Int) ≤ F1 106 11 ∧ F1 106 11 ≤ 60 := hI1.1 106 11
    have b3 : (0 : Int) ≤ F1 106 13 ∧ F1 106 13 ≤ 400 := hI1.1 106 13
    have b4 : (1 : Int) ≤ F1 106 0 ∧ F1 106 0 ≤ 3 := hI1.1 106 0
    refine sA_iload dd_X9_comesBack_8 (.head _) ?_
    refine sA_iload_n dd_X9_comesBack_10 rfl (.tail _ (.tail _ (.tail _ (.tail _ (.head _))))) ?_
    refine sA_icmp_gt (tgt := 48) dd_X9_comesBack_11 (by decide) (by omega) (by omega) (fun q5 => ?_) (fun q5 => ?_)
    · skip
      refine sA_iconst (z := 0) dd_X9_comesBack_48 ?_
      refine sA_bret (z := 0) dd_X9_comesBack_49 rfl (by omega) ?_
      refine ⟨_, rfl, hI1, hf1, ?_⟩
      exact .inr ⟨rfl, st_kp_no (k := k) i3 (.inl (by omega)) (by omega)⟩
    · skip
      refine sA_aload_n dd_X9_comesBack_14 rfl (.tail _ (.head _)) ?_
      refine sA_iload_n dd_X9_comesBack_15 rfl (.tail _ (.tail _ (.tail _ (.head _)))) ?_
      have h110 : A1 110 = A 110 := hf1.2 110 (by dsimp only; omega)
      have h111 : A1 111 = A 111 := hf1.2 111 (by dsimp only; omega)
      have hg0 : F1 106 0 = F 106 0 := hf1.1 106 0 (by dsimp only; omega)
      have hcd1 : ∀ i : Int, 0 ≤ i → i < A1 110 p.toNat → 0 ≤ A1 111 (60 * p + i).toNat ∧ A1 111 (60 * p + i).toNat ≤ 15 := by rw [h110, h111]; exact hcd
      refine sA_callV (y2 := m_X9_imageRow) (n2 := 1) (d2 := 5) (a := 106) (ci := 9) (q := (RX9, TX9, 28)) (as := [gs_iv p]) (rest := []) dd_X9_comesBack_16 ok_X9_imageRow ml_X9_227 rfl rfl (by decide) gs_s106 rfl rfl (Nat.le_of_ble_eq_true rfl) (by decide) (c_X9_imageRow_vf hI1 (by omega) hcd1) (fun r6 F7 A8 h9 => ?_)
      obtain ⟨z12, e11, I13, f14, x10⟩ := h9
      subst e11
      have v15 : F7 106 9 = F1 106 9 := f14.1 106 9 (by first | exact id | omega | (dsimp only; omega) | (dsimp only) | fail)
      have v16 : F7 106 11 = F1 106 11 := f14.1 106 11 (by first | exact id | omega | (dsimp only; omega) | (dsimp only) | fail)
      have v18 : F7 106 0 = F1 106 0 := f14.1 106 0 (by first | exact id | omega | (dsimp only; omega) | (dsimp only) | fail)
      have v19 : A8 108 r.toNat = A1 108 r.toNat := congrFun (f14.2 108 (by first | exact id | omega | (dsimp only; omega) | (dsimp only) | fail)) _
      have f20 := gs_fr_tr hf1 f14 (fun b j h => by first | exact False.elim h | omega | (dsimp only at h ⊢; omega) | fail) (fun b h => by first | exact False.elim h | omega | (dsimp only at h ⊢; omega) | fail)
      have y21 : (z12 = 1 ∧ sp_pl (fun u => sp_tw (sp_m (F1 106 0) u)) (fun i => A1 111 (60 * p.toNat + i)) (A1 110 p.toNat).toNat (gs_stk (A1 114) (F1 106 13).toNat) = some (gs_stk (A8 114) (F7 106 13).toNat)) ∨ (z12 = 0 ∧ sp_pl (fun u => sp_tw (sp_m (F1 106 0) u)) (fun i => A1 111 (60 * p.toNat + i)) (A1 110 p.toNat).toNat (gs_stk (A1 114) (F1 106 13).toNat) = none) := x10
      clear x10
      show sA _ _ _ 19 _ [gs_iv z12] _ _
      refine sA_if_ne (tgt := 24) dd_X9_comesBack_19 (by decide) (by omega) (fun q22 => ?_) (fun q22 => ?_)
      · skip
        have hst : gs_it (gs_plm F A p) k.toNat (gs_stk (fun i => A 109 (60 * r.toNat + i)) (A 108 r.toNat).toNat) = some (gs_stk (A8 114) (F7 106 13).toNat) := by
          refine st_it_next (by omega) i2 ?_
          rcases y21 with y | y
          · have y2 := y.2
            rw [h110, h111, hg0] at y2
            exact y2
          · exfalso
            omega
        refine sA_aload_n dd_X9_comesBack_24 rfl (.tail _ (.head _)) ?_
        refine sA_callV (y2 := m_X9_closeToU) (n2 := 0) (d2 := 1) (a := 106) (ci := 9) (q := (RX9, TX9, 28)) (as := []) (rest := []) dd_X9_comesBack_25 ok_X9_closeToU ml_X9_233 rfl rfl (by decide) gs_s106 rfl rfl (Nat.le_of_ble_eq_true rfl) (by decide) (c_X9_closeToU_vf I13 ) (fun r23 F24 A25 h26 => ?_)
        obtain ⟨e28, I29, f30, x27⟩ := h26
        subst e28
        have v32 : F24 106 11 = F7 106 11 := f30.1 106 11 (by first | exact id | omega | (dsimp only; omega) | (dsimp only) | fail)
        have v33 : F24 106 13 = F7 106 13 := f30.1 106 13 (by first | exact id | omega | (dsimp only; omega) | (dsimp only) | fail)
        have v34 : F24 106 0 = F7 106 0 := f30.1 106 0 (by first | exact id | omega | (dsimp only; omega) | (dsimp only) | fail)
        have v35 : A25 108 r.toNat = A8 108 r.toNat := congrFun (f30.2 108 (by first | exact id | omega | (dsimp only; omega) | (dsimp only) | fail)) _
        have f36 := gs_fr_tr f20 f30 (fun b j h => by first | exact False.elim h | omega | (dsimp only at h ⊢; omega) | fail) (fun b h => by first | exact False.elim h | omega | (dsimp only at h ⊢; omega) | fail)
        have y37 : ∃ k : Int, gs_lo (A8 114) (F7 106 13) k ∧ F24 106 9 = F7 106 13 - 2 * k ∧ ∀ i : Int, 0 ≤ i → i < F7 106 13 - 2 * k → A25 112 i.toNat = A8 114 (k + i).toNat := x27
        clear x27
        show sA _ _ _ 28 _ [] _ _
        have c2 : gs_cls (gs_stk (A8 114) (F7 106 13).toNat) (A25 112) (F24 106 9) := by
          obtain ⟨k0, k1, k2, k3⟩ := y37
          have hb13 : (0 : Int) ≤ F7 106 13 ∧ F7 106 13 ≤ 400 := I13.1 106 13
          exact ⟨_, _, k0, hb13.1, rfl, k1, k2, fun i h1 h2 => k3 i h1 (by omega)⟩
        refine sA_aload_n dd_X9_comesBack_28 rfl (.tail _ (.head _)) ?_
        refine sA_iload_n dd_X9_comesBack_29 rfl (.tail _ (.tail _ (.head _))) ?_
        refine sA_callV (y2 := m_X9_takeV) (n2 := 1) (d2 := 1) (a := 106) (ci := 9) (q := (RX9, TX9, 28)) (as := [gs_iv r]) (rest := []) dd_X9_comesBack_30 ok_X9_takeV ml_X9_106 rfl rfl (by decide) gs_s106 rfl rfl (Nat.le_of_ble_eq_true rfl) (by decide) (c_X9_takeV_vf I29 (by omega)) (fun r38 F39 A40 h41 => ?_)
        obtain ⟨e43, I44, f45, x42⟩ := h41
        subst e43
        have v46 : F39 106 9 = F24 106 9 := f45.1 106 9 (by first | exact id | omega | (dsimp only; omega) | (dsimp only) | fail)
        have v48 : F39 106 13 = F24 106 13 := f45.1 106 13 (by first | exact id | omega | (dsimp only; omega) | (dsimp only) | fail)
        have v49 : F39 106 0 = F24 106 0 := f45.1 106 0 (by first | exact id | omega | (dsimp only; omega) | (dsimp only) | fail)
        have v50 : A40 108 r.toNat = A25 108 r.toNat := congrFun (f45.2 108 (by first | exact id | omega | (dsimp only; omega) | (dsimp only) | fail)) _
        have f51 := gs_fr_tr f36 f45 (fun b j h => by first | exact False.elim h | omega | (dsimp only at h ⊢; omega) | fail) (fun b h => by first | exact False.elim h | omega | (dsimp only at h ⊢; omega) | fail)
        have y52 : F39 106 11 = A25 108 r.toNat ∧ ∀ k : Int, 0 ≤ k → k < A25 108 r.toNat → A40 113 k.toNat = A25 109 (60 * r + k).toNat := x42
        clear x42
        show sA _ _ _ 33 _ [] _ _
        refine sA_aload_n dd_X9_comesBack_33 rfl (.tail _ (.head _)) ?_
        have tv := y52
        have e108 : A25 108 = A 108 := (f30.2 108 (by dsimp only; omega)).trans ((f14.2 108 (by dsimp only; omega)).trans (hf1.2 108 (by dsimp only; omega)))
        have e109 : A25 109 = A 109 := (f30.2 109 (by dsimp only; omega)).trans ((f14.2 109 (by dsimp only; omega)).trans (hf1.2 109 (by dsimp only; omega)))
        rw [e108, e109] at tv
        have hv := mt_row_of (f := A 109) (r := r) (by omega) tv.2
        have e112 : A40 112 = A25 112 := f45.2 112 (by dsimp only; omega)
        have e9 : F39 106 9 = F24 106 9 := by omega
        have e11 : F39 106 11 = A 108 r.toNat := by omega
        have hx_r : 1 ≤ A 108 r.toNat := h1
        refine sA_callV (y2 := m_X9_areOne) (n2 := 0) (d2 := 3) (a := 106) (ci := 9) (q := (RX9, TX9, 28)) (as := []) (rest := []) dd_X9_comesBack_34 ok_X9_areOne ml_X9_109 rfl rfl (by decide) gs_s106 rfl rfl (Nat.le_of_ble_eq_true rfl) (by decide) (c_X9_areOne_vf I44 (by omega)) (fun r53 F54 A55 h56 => ?_)
        obtain ⟨z59, e58, I60, f61, x57⟩ := h56
        subst e58
        have v62 : F54 106 9 = F39 106 9 := f61.1 106 9 (by first | exact id | omega | (dsimp only; omega) | (dsimp only) | fail)
        have v63 : F54 106 11 = F39 106 11 := f61.1 106 11 (by first | exact id | omega | (dsimp only; omega) | (dsimp only) | fail)
        have v64 : F54 106 13 = F39 106 13 := f61.1 106 13 (by first | exact id | omega | (dsimp only; omega) | (dsimp only) | fail)
        have v65 : F54 106 0 = F39 106 0 := f61.1 106 0 (by first | exact id | omega | (dsimp only; omega) | (dsimp only) | fail)
        have v66 : A55 108 r.toNat = A40 108 r.toNat := congrFun (f61.2 108 (by first | exact id | omega | (dsimp only; omega) | (dsimp only) | fail)) _
        have f67 := gs_fr_tr f51 f61 (fun b j h => by first | exact False.elim h | omega | (dsimp only at h ⊢; omega) | fail) (fun b h => by first | exact False.elim h | omega | (dsimp only at h ⊢; omega) | fail)
        have y68 : (z59 = 1 ∧ gs_ao (A40 112) (F39 106 9) (A40 113) (F39 106 11)) ∨ (z59 = 0 ∧ ¬ gs_ao (A40 112) (F39 106 9) (A40 113) (F39 106 11)) := x57
        clear x57
        show sA _ _ _ 37 _ [gs_iv z59] _ _
        have hz34 : z59 = 0 ∨ z59 = 1 := by omega
        have y34 : (z59 = 1 ∧ gs_ao (A25 112) (F24 106 9) (fun i => A 109 (60 * r.toNat + i)) (A 108 r.toNat)) ∨ (z59 = 0 ∧ ¬ gs_ao (A25 112) (F24 106 9) (fun i => A 109 (60 * r.toNat + i)) (A 108 r.toNat)) := by
          have hcg := gs_ao_cg (u := A25 112) (u2 := A25 112) (n := F24 106 9) (m := A 108 r.toNat) (fun _ _ => rfl) hv
          have hy := y68
          rw [e9, e11, e112] at hy
          rcases hy with h | h
          · exact .inl ⟨h.1, hcg.mp h.2⟩
          · exact .inr ⟨h.1, fun q => h.2 (hcg.mpr q)⟩
        have e114 : A55 114 = A8 114 := (f61.2 114 (by dsimp only; omega)).trans ((f45.2 114 (by dsimp only; omega)).trans (f30.2 114 (by dsimp only; omega)))
        refine sA_if_eq (tgt := 42) dd_X9_comesBack_37 (by decide) (by omega) (fun q69 => ?_) (fun q69 => ?_)
        · skip
          refine sA_iinc (lv' := [(4, gs_iv (k + 1)), (0, .ref 106), (1, gs_iv r), (2, gs_iv p), (3, gs_iv n)]) dd_X9_comesBack_42 (.head _) (by decide) rfl ?_
          refine sA_goto (tgt := 8) dd_X9_comesBack_45 (by decide) ?_
          have b70 : (0 : Int) ≤ F54 106 9 ∧ F54 106 9 ≤ 400 := I60.1 106 9
          have b71 : (0 : Int) ≤ F54 106 11 ∧ F54 106 11 ≤ 60 := I60.1 106 11
          have b72 : (0 : Int) ≤ F54 106 13 ∧ F54 106 13 ≤ 400 := I60.1 106 13
          have b73 : (1 : Int) ≤ F54 106 0 ∧ F54 106 0 ≤ 3 := I60.1 106 0
          refine sA_sub (lv2 := [(4, gs_iv (k + 1)), (0, .ref 106), (1, gs_iv r), (2, gs_iv p), (3, gs_iv n)]) (List.forall_mem_cons.mpr ⟨(.head _), (List.forall_mem_cons.mpr ⟨(.tail _ (.head _)), (List.forall_mem_cons.mpr ⟨(.tail _ (.tail _ (.head _))), (List.forall_mem_cons.mpr ⟨(.tail _ (.tail _ (.tail _ (.head _)))), (List.forall_mem_cons.mpr ⟨(.tail _ (.tail _ (.tail _ (.tail _ (.head _))))), (fun _ h => absurd h List.not_mem_nil)⟩)⟩)⟩)⟩)⟩) ?_
          exact ih (k + 1) F54 A55 I60 f67 (by omega) (by omega) (by rw [show (k + 1 - 1).toNat = k.toNat by omega]; refine hst.trans ?_; rw [show F54 106 13 = F7 106 13 by omega, e114]) (st_kp_ext (On := fun s => st_ao s (fun i => A 109 (60 * r.toNat + i)) (A 108 r.toNat)) i3 hst (fun w => by rcases y34 with y | y <;> first | (exfalso; omega) | exact y.2 ((st_ao_mk c2).mp w) | fail)) (by omega)
        · skip
          refine sA_iconst (z := 1) dd_X9_comesBack_40 ?_
          refine sA_bret (z := 1) dd_X9_comesBack_41 rfl (by omega) ?_
          refine ⟨_, rfl, I60, f67, ?_⟩
          refine .inl ⟨rfl, k, by omega, by omega, _, hst, (st_ao_mk c2).mpr ?_⟩
          rcases y34 with y | y
          · exact y.2
          · exfalso
            omega
      · skip
        refine sA_iconst (z := 0) dd_X9_comesBack_22 ?_
        refine sA_bret (z := 0) dd_X9_comesBack_23 rfl (by omega) ?_
        refine ⟨_, rfl, I13, f20, ?_⟩
        refine .inr ⟨rfl, st_kp_no i3 (.inr (st_it_next (by omega) i2 ?_)) (by omega)⟩
        rcases y21 with y | y
        · exfalso
          omega
        · have y2 := y.2
          rw [h110, h111, hg0] at y2
          exact y2
theorem c_X9_comesBack_vf {r p n : Int} {F A : gs_F} (hI : gs_I F A) (hr : 0 ≤ r ∧ r < 12) (hp : 0 ≤ p ∧ p ≤ 7) (hn : 1 ≤ n ∧ n ≤ 24) (h1 : 1 ≤ A 108 r.toNat) (hcd : ∀ i : Int, 0 ≤ i → i < A 110 p.toNat → 0 ≤ A 111 (60 * p + i).toNat ∧ A 111 (60 * p + i).toNat ≤ 15) : sC m_X9_comesBack 6 [.ref 106, gs_iv r, gs_iv p, gs_iv n] F A (fun rv F' A' => ∃ z : Int, rv = some (gs_iv z) ∧ gs_I F' A' ∧ gs_fr (fun c j => c = 106 ∧ (j = 9 ∨ j = 11 ∨ j = 13 ∨ j = 15)) (fun c => c = 112 ∨ c = 113 ∨ c = 114 ∨ c = 115) F A F' A' ∧ ((z = 1 ∧ (st_kp (gs_plm F A p) (gs_stk (fun i => A 109 (60 * r.toNat + i)) (A 108 r.toNat).toNat) n (fun s => st_ao s (fun i => A 109 (60 * r.toNat + i)) (A 108 r.toNat)))) ∨ (z = 0 ∧ ¬ (st_kp (gs_plm F A p) (gs_stk (fun i => A 109 (60 * r.toNat + i)) (A 108 r.toNat).toNat) n (fun s => st_ao s (fun i => A 109 (60 * r.toNat + i)) (A 108 r.toNat)))))) := by
  refine sC_of ok_X9_comesBack.1 (Nat.le_of_ble_eq_true rfl) ?_
  show sA _ _ _ 0 [(0, .ref 106), (1, gs_iv r), (2, gs_iv p), (3, gs_iv n)] [] F A
  have hf : gs_fr (fun c j => c = 106 ∧ (j = 9 ∨ j = 11 ∨ j = 13 ∨ j = 15)) (fun c => c = 112 ∨ c = 113 ∨ c = 114 ∨ c = 115) F A F A := gs_fr_refl _ _ _ _
  have b74 : (0 : Int) ≤ F 106 9 ∧ F 106 9 ≤ 400 := hI.1 106 9
  have b75 : (0 : Int) ≤ F 106 11 ∧ F 106 11 ≤ 60 := hI.1 106 11
  have b76 : (0 : Int) ≤ F 106 13 ∧ F 106 13 ≤ 400 := hI.1 106 13
  have b77 : (1 : Int) ≤ F 106 0 ∧ F 106 0 ≤ 3 := hI.1 106 0
  refine sA_aload_n dd_X9_comesBack_0 rfl (.head _) ?_
  refine sA_iload_n dd_X9_comesBack_1 rfl (.tail _ (.head _)) ?_
  refine sA_callV (y2 := m_X9_takeRing) (n2 := 1) (d2 := 1) (a := 106) (ci := 9) (q := (RX9, TX9, 28)) (as := [gs_iv r]) (rest := []) dd_X9_comesBack_2 ok_X9_takeRing ml_X9_230 rfl rfl (by decide) gs_s106 rfl rfl (Nat.le_of_ble_eq_true rfl) (by decide) (c_X9_takeRing_vf hI (by omega)) (fun r78 F79 A80 h81 => ?_)
  obtain ⟨e83, I84, f85, x82⟩ := h81
  subst e83
  have v86 : F79 106 9 = F 106 9 := f85.1 106 9 (by first | exact id | omega | (dsimp only; omega) | (dsimp only) | fail)
  have v87 : F79 106 11 = F 106 11 := f85.1 106 11 (by first | exact id | omega | (dsimp only; omega) | (dsimp only) | fail)
  have v89 : F79 106 0 = F 106 0 := f85.1 106 0 (by first | exact id | omega | (dsimp only; omega) | (dsimp only) | fail)
  have v90 : A80 108 r.toNat = A 108 r.toNat := congrFun (f85.2 108 (by first | exact id | omega | (dsimp only; omega) | (dsimp only) | fail)) _
  have f91 := gs_fr_tr hf f85 (fun b j h => by first | exact False.elim h | omega | (dsimp only at h ⊢; omega) | fail) (fun b h => by first | exact False.elim h | omega | (dsimp only at h ⊢; omega) | fail)
  have y92 : F79 106 13 = A 108 r.toNat ∧ ∀ k : Int, 0 ≤ k → k < A 108 r.toNat → A80 114 k.toNat = A 109 (60 * r + k).toNat := x82
  clear x82
  show sA _ _ _ 5 _ [] _ _
  have tr := y92
  have hstk : gs_stk (A80 114) (F79 106 13).toNat = (gs_stk (fun i => A 109 (60 * r.toNat + i)) (A 108 r.toNat).toNat) := by
    rw [tr.1]
    refine gs_stk_cg _ (fun i hi => ?_)
    show A80 114 i = A 109 (60 * r.toNat + i)
    have w := tr.2 i (by omega) (by omega)
    rw [Int.toNat_natCast, show (60 * r + (i : Int)).toNat = 60 * r.toNat + i by omega] at w
    exact w
  refine sA_iconst (z := 1) dd_X9_comesBack_5 ?_
  refine sA_istore (lv' := [(4, gs_iv 1), (0, .ref 106), (1, gs_iv r), (2, gs_iv p), (3, gs_iv n)]) dd_X9_comesBack_6 (by decide) rfl ?_
  have b93 : (0 : Int) ≤ F79 106 9 ∧ F79 106 9 ≤ 400 := I84.1 106 9
  have b94 : (0 : Int) ≤ F79 106 11 ∧ F79 106 11 ≤ 60 := I84.1 106 11
  have b95 : (0 : Int) ≤ F79 106 13 ∧ F79 106 13 ≤ 400 := I84.1 106 13
  have b96 : (1 : Int) ≤ F79 106 0 ∧ F79 106 0 ≤ 3 := I84.1 106 0
  refine sA_sub (lv2 := [(4, gs_iv 1), (0, .ref 106), (1, gs_iv r), (2, gs_iv p), (3, gs_iv n)]) (List.forall_mem_cons.mpr ⟨(.head _), (List.forall_mem_cons.mpr ⟨(.tail _ (.head _)), (List.forall_mem_cons.mpr ⟨(.tail _ (.tail _ (.head _))), (List.forall_mem_cons.mpr ⟨(.tail _ (.tail _ (.tail _ (.head _)))), (List.forall_mem_cons.mpr ⟨(.tail _ (.tail _ (.tail _ (.tail _ (.head _))))), (fun _ h => absurd h List.not_mem_nil)⟩)⟩)⟩)⟩)⟩) ?_
  exact (k_X9_comesBack_vf hI hr hp hn h1 hcd (n + 1 - 1 : Int).toNat.succ) 1 F79 A80 I84 f91 (by omega) (by omega) (by rw [hstk]; rfl) (fun j h1 h2 => by exfalso; omega) (by omega)
theorem k_X9_sort_vf {p n : Int} {F A : gs_F} (hI : gs_I F A) (hp : -2147483648 ≤ p ∧ p ≤ 2147483647) (hn : -2147483648 ≤ n ∧ n ≤ 2147483647) (hX : ∀ r : Nat, (r : Int) < F 106 3 → 1 ≤ A 108 r) (hcd : 0 ≤ p → p ≤ 7 → ∀ i : Int, 0 ≤ i → i < A 110 p.toNat → 0 ≤ A 111 (60 * p + i).toNat ∧ A 111 (60 * p + i).toNat ≤ 15) (hVa : ∀ r : Nat, (r : Int) < F 106 3 → gs_vl 3 (A 108 r) (fun i => A 109 (60 * r + i))) : ∀ nN : Nat, (∀ (ri : Int) (la : Int) (k : Int)  (F1 A1 : gs_F), gs_I F1 A1 → gs_fr (fun c j => c = 106 ∧ (j = 9 ∨ j = 11 ∨ j = 13 ∨ j = 15)) (fun c => c = 112 ∨ c = 113 ∨ c = 114 ∨ c = 115 ∨ c = 119 ∨ c = 120) F A F1 A1 → 0 ≤ p ∧ p ≤ 7 → 1 ≤ n ∧ n ≤ 12 → 1 ≤ k ∧ k ≤ n + 1 → ri = 0 ∨ ri = 1 → -2147483648 ≤ la ∧ la ≤ 2147483647 → (∀ ii : Nat, (ii : Int) < 2 * F 106 0 → gs_it (gs_plm F A p) (k - 1).toNat [(ii : Int) + 1] = some (gs_im A1 ii)) → (ri = 1 ∧ st_rise (gs_plm F A p) (F 106 0) (k - 1)) ∨ (ri = 0 ∧ ¬ st_rise (gs_plm F A p) (F 106 0) (k - 1)) → k = 1 ∨ (2 ≤ k ∧ st_len (gs_plm F A p) (F 106 0) (k - 1).toNat la) → gs_or (gs_plm F A p) (F 106 0) n (-1) → n + 1 - k + 100 < (nN : Int) → sA m_X9_sort 9 (fun rv F' A' => ∃ z : Int, rv = some (gs_iv z) ∧ gs_I F' A' ∧ gs_fr (fun c j => c = 106 ∧ (j = 9 ∨ j = 11 ∨ j = 13 ∨ j = 15)) (fun c => c = 112 ∨ c = 113 ∨ c = 114 ∨ c = 115 ∨ c = 119 ∨ c = 120) F A F' A' ∧ (((p < 0 ∨ 7 < p) ∧ z = -1001) ∨ (0 ≤ p ∧ p ≤ 7 ∧ (n < 1 ∨ 12 < n) ∧ z = -1002) ∨ (0 ≤ p ∧ p ≤ 7 ∧ 1 ≤ n ∧ n ≤ 12 ∧ st_ans (gs_plm F A p) (F 106 0) n (st_K9 F A p n) z))) 68 [(6, gs_iv k), (5, gs_iv la), (4, gs_iv ri), (0, .ref 106), (1, gs_iv p), (2, gs_iv n)] [] F1 A1) ∧ (∀ (ri : Int) (r : Int)  (F1 A1 : gs_F), gs_I F1 A1 → gs_fr (fun c j => c = 106 ∧ (j = 9 ∨ j = 11 ∨ j = 13 ∨ j = 15)) (fun c => c = 112 ∨ c = 113 ∨ c = 114 ∨ c = 115 ∨ c = 119 ∨ c = 120) F A F1 A1 → 0 ≤ p ∧ p ≤ 7 → 1 ≤ n ∧ n ≤ 12 → ri = 0 ∨ ri = 1 → 0 ≤ r ∧ r ≤ F1 106 3 ∧ F1 106 3 ≤ 12 → (ri = 1 ∧ st_rise (gs_plm F A p) (F 106 0) n) ∨ (ri = 0 ∧ ¬ st_rise (gs_plm F A p) (F 106 0) n) → gs_or (gs_plm F A p) (F 106 0) n (-1) → (∀ q : Nat, (q : Int) < r → ¬ st_k9 F A p n q) → 13 - r < (nN : Int) → sA m_X9_sort 9 (fun rv F' A' => ∃ z : Int, rv = some (gs_iv z) ∧ gs_I F' A' ∧ gs_fr (fun c j => c = 106 ∧ (j = 9 ∨ j = 11 ∨ j = 13 ∨ j = 15)) (fun c => c = 112 ∨ c = 113 ∨ c = 114 ∨ c = 115 ∨ c = 119 ∨ c = 120) F A F' A' ∧ (((p < 0 ∨ 7 < p) ∧ z = -1001) ∨ (0 ≤ p ∧ p ≤ 7 ∧ (n < 1 ∨ 12 < n) ∧ z = -1002) ∨ (0 ≤ p ∧ p ≤ 7 ∧ 1 ≤ n ∧ n ≤ 12 ∧ st_ans (gs_plm F A p) (F 106 0) n (st_K9 F A p n) z))) 123 [(6, gs_iv r), (4, gs_iv ri), (0, .ref 106), (1, gs_iv p), (2, gs_iv n)] [] F1 A1) := by
  intro nN
  induction nN with
  | zero =>
    exact ⟨fun a0 a1 a2 a3 a4 a5 a6 i0 i1 i2 i3 i4 i5 i6 i7 i8 hm => by exfalso; omega, fun a0 a1 a2 a3 a4 a5 i0 i1 i2 i3 i4 i5 i6 hm => by exfalso; omega⟩
  | succ nN ih =>
    refine ⟨?_, ?_⟩
    · skip
      intro ri la k F1 A1 hI1 hf1 i0 i1 i2 i3 i4 i5 i6 i7 i8 hm
      have b1 : (0 : Int) ≤ F1 106 3 ∧ F1 106 3 ≤ 12 := hI1.1 106 3
      have b2 : (1 : Int) ≤ F1 106 0 ∧ F1 106 0 ≤ 3 := hI1.1 106 0
      refine sA_iload dd_X9_sort_68 (.head _) ?_
      refine sA_iload_n dd_X9_sort_70 rfl (.tail _ (.tail _ (.tail _ (.tail _ (.tail _ (.head _)))))) ?_
      refine sA_icmp_gt (tgt := 120) dd_X9_sort_71 (by decide) (by omega) (by omega) (fun q3 => ?_) (fun q3 => ?_)
      · skip
        have hb3 : (0 : Int) ≤ F1 106 3 ∧ F1 106 3 ≤ 12 := hI1.1 106 3
        refine sA_iconst (z := 0) dd_X9_sort_120 ?_
        refine sA_istore (lv' := [(6, gs_iv 0), (5, gs_iv la), (4, gs_iv ri), (0, .ref 106), (1, gs_iv p), (2, gs_iv n)]) dd_X9_sort_121 (by decide) rfl ?_
        refine sA_sub (lv2 := [(6, gs_iv 0), (4, gs_iv ri), (0, .ref 106), (1, gs_iv p), (2, gs_iv n)]) (List.forall_mem_cons.mpr ⟨(.head _), (List.forall_mem_cons.mpr ⟨(.tail _ (.tail _ (.head _))), (List.forall_mem_cons.mpr ⟨(.tail _ (.tail _ (.tail _ (.head _)))), (List.forall_mem_cons.mpr ⟨(.tail _ (.tail _ (.tail _ (.tail _ (.head _))))), (List.forall_mem_cons.mpr ⟨(.tail _ (.tail _ (.tail _ (.tail _ (.tail _ (.head _)))))), (fun _ h => absurd h List.not_mem_nil)⟩)⟩)⟩)⟩)⟩) ?_
        exact ih.2 ri 0 F1 A1 hI1 hf1 (by omega) (by omega) (by omega) (by omega) (by rw [show k - 1 = n by omega] at i6; exact i6) i8 (fun q hq => by exfalso; omega) (by omega)
      · skip
        refine sA_aload_n dd_X9_sort_74 rfl (.tail _ (.tail _ (.tail _ (.head _)))) ?_
        refine sA_iload_n dd_X9_sort_75 rfl (.tail _ (.tail _ (.tail _ (.tail _ (.head _))))) ?_
        have h110 : A1 110 = A 110 := hf1.2 110 (by dsimp only; omega)
        have h111 : A1 111 = A 111 := hf1.2 111 (by dsimp only; omega)
        have hg0 : F1 106 0 = F 106 0 := hf1.1 106 0 (by dsimp only; omega)
        have hcd1 : ∀ i : Int, 0 ≤ i → i < A1 110 p.toNat → 0 ≤ A1 111 (60 * p + i).toNat ∧ A1 111 (60 * p + i).toNat ≤ 15 := by rw [h110, h111]; exact (hcd (by omega) (by omega))
        have hPe : ∀ r, gs_plm F1 A1 p r = gs_plm F A p r := fun r => by
          unfold gs_plm
          rw [h110, h111, hg0]
        refine sA_callV (y2 := m_X9_goOn) (n2 := 1) (d2 := 6) (a := 106) (ci := 9) (q := (RX9, TX9, 28)) (as := [gs_iv p]) (rest := []) dd_X9_sort_76 ok_X9_goOn ml_X9_239 rfl rfl (by decide) gs_s106 rfl rfl (Nat.le_of_ble_eq_true rfl) (by decide) (c_X9_goOn_vf hI1 (by omega) hcd1) (fun r4 F5 A6 h7 => ?_)
        obtain ⟨z10, e9, I11, f12, x8⟩ := h7
        subst e9
        have v13 : F5 106 3 = F1 106 3 := f12.1 106 3 (by first | exact id | omega | (dsimp only; omega) | (dsimp only) | fail)
        have v14 : F5 106 0 = F1 106 0 := f12.1 106 0 (by first | exact id | omega | (dsimp only; omega) | (dsimp only) | fail)
        have f15 := gs_fr_tr hf1 f12 (fun b j h => by first | exact False.elim h | omega | (dsimp only at h ⊢; omega) | fail) (fun b h => by first | exact False.elim h | omega | (dsimp only at h ⊢; omega) | fail)
        have y16 : (z10 = 1 ∧ ∀ ii : Nat, (ii : Int) < 2 * F1 106 0 → gs_plm F1 A1 p (gs_im A1 ii) = some (gs_im A6 ii)) ∨ (z10 = 0 ∧ ∃ ii : Nat, (ii : Int) < 2 * F1 106 0 ∧ gs_plm F1 A1 p (gs_im A1 ii) = none) := x8
        clear x8
        show sA _ _ _ 79 _ [gs_iv z10] _ _
        have hst : ∀ ii : Nat, (ii : Int) < 2 * F 106 0 → gs_it (gs_plm F A p) k.toNat [(ii : Int) + 1] = some (gs_im A6 ii) := by
          rw [show k.toNat = (k - 1).toNat + 1 by omega]
          refine gs_it_step i5 ?_
          rcases y16 with y | y
          · intro ii hi
            have w := y.2 ii (by omega)
            rw [hPe] at w
            exact w
          · exfalso
            obtain ⟨y1, ii, hi, y2⟩ := y
            rw [hPe] at y2
            have b := gs_big_mk (g := F 106 0) i5 ⟨ii, by omega, y2⟩
            rw [show (k - 1).toNat + 1 = k.toNat by omega] at b
            exact gs_tk_big (gs_or_all i8 k (by omega) (by omega)) b
        clear y16
        have hg79 : F5 106 0 = F 106 0 := f15.1 106 0 (by dsimp only; omega)
        have hlen : ∀ z, z = gs_sum (A6 120) (2 * F5 106 0).toNat → st_len (gs_plm F A p) (F 106 0) k.toNat z := fun z e => by
          refine ⟨gs_im A6, hst, ?_⟩
          rw [e, hg79]
          refine gs_sum_cg _ (fun i hi => ?_)
          show A6 120 i = ((gs_stk (fun j => A6 119 (400 * i + j)) (A6 120 i).toNat).length : Int)
          rw [gs_stk_len]
          have hb : (0 : Int) ≤ A6 120 i ∧ A6 120 i ≤ 400 := I11.2 120 i
          omega
        refine sA_istore (lv' := [(7, gs_iv z10), (6, gs_iv k), (5, gs_iv la), (4, gs_iv ri), (0, .ref 106), (1, gs_iv p), (2, gs_iv n)]) dd_X9_sort_79 (by decide) rfl ?_
        refine sA_iload dd_X9_sort_81 (.tail _ (.tail _ (.tail _ (.head _)))) ?_
        refine sA_if_eq (tgt := 105) dd_X9_sort_83 (by decide) (by omega) (fun q17 => ?_) (fun q17 => ?_)
        · skip
          refine sA_iconst (z := 0) dd_X9_sort_105 ?_
          refine sA_istore (lv' := [(4, gs_iv 0), (7, gs_iv z10), (6, gs_iv k), (5, gs_iv la), (0, .ref 106), (1, gs_iv p), (2, gs_iv n)]) dd_X9_sort_106 (by decide) rfl ?_
          refine sA_aload_n dd_X9_sort_108 rfl (.tail _ (.tail _ (.tail _ (.tail _ (.head _))))) ?_
          refine sA_callV (y2 := m_X9_lengthNow) (n2 := 0) (d2 := 1) (a := 106) (ci := 9) (q := (RX9, TX9, 28)) (as := []) (rest := []) dd_X9_sort_109 ok_X9_lengthNow ml_X9_281 rfl rfl (by decide) gs_s106 rfl rfl (Nat.le_of_ble_eq_true rfl) (by decide) (c_X9_lengthNow_vf I11 ) (fun r18 F19 A20 h21 => ?_)
          obtain ⟨z24, e23, e25, e26, x22⟩ := h21
          subst e23 e25 e26
          have y27 : (0 ≤ z24 ∧ z24 ≤ 2400) ∧ z24 = gs_sum (A6 120) (2 * F5 106 0).toNat := x22
          clear x22
          show sA _ _ _ 112 _ [gs_iv z24] _ _
          have hnow := hlen _ y27.2
          refine sA_istore (lv' := [(5, gs_iv z24), (4, gs_iv 0), (7, gs_iv z10), (6, gs_iv k), (0, .ref 106), (1, gs_iv p), (2, gs_iv n)]) dd_X9_sort_112 (by decide) rfl ?_
          refine sA_iinc (lv' := [(6, gs_iv (k + 1)), (5, gs_iv z24), (4, gs_iv 0), (7, gs_iv z10), (0, .ref 106), (1, gs_iv p), (2, gs_iv n)]) dd_X9_sort_114 (.tail _ (.tail _ (.tail _ (.head _)))) (by decide) rfl ?_
          refine sA_goto (tgt := 68) dd_X9_sort_117 (by decide) ?_
          have b28 : (0 : Int) ≤ F5 106 3 ∧ F5 106 3 ≤ 12 := I11.1 106 3
          have b29 : (1 : Int) ≤ F5 106 0 ∧ F5 106 0 ≤ 3 := I11.1 106 0
          refine sA_sub (lv2 := [(6, gs_iv (k + 1)), (5, gs_iv z24), (4, gs_iv 0), (0, .ref 106), (1, gs_iv p), (2, gs_iv n)]) (List.forall_mem_cons.mpr ⟨(.head _), (List.forall_mem_cons.mpr ⟨(.tail _ (.head _)), (List.forall_mem_cons.mpr ⟨(.tail _ (.tail _ (.head _))), (List.forall_mem_cons.mpr ⟨(.tail _ (.tail _ (.tail _ (.tail _ (.head _))))), (List.forall_mem_cons.mpr ⟨(.tail _ (.tail _ (.tail _ (.tail _ (.tail _ (.head _)))))), (List.forall_mem_cons.mpr ⟨(.tail _ (.tail _ (.tail _ (.tail _ (.tail _ (.tail _ (.head _))))))), (fun _ h => absurd h List.not_mem_nil)⟩)⟩)⟩)⟩)⟩)⟩) ?_
          exact ih.1 0 z24 (k + 1) F5 A6 I11 f15 (by omega) (by omega) (by omega) (by omega) (by omega) (fun ii hi => by rw [show (k + 1 - 1).toNat = k.toNat by omega]; exact hst ii hi) (by rcases (show k = 1 ∨ 2 ≤ k by omega) with q | q <;> first | exact st_flag (bf := z24 - 1) (by omega) i6 (.inl ⟨q, by omega⟩) hnow (by omega) | exact st_flag (bf := la) (by omega) i6 (by rcases i7 with w | w <;> first | (exfalso; omega) | exact .inr w | fail) hnow (by omega) | fail) (.inr ⟨by omega, by rw [show (k + 1 - 1).toNat = k.toNat by omega]; exact hnow⟩) i8 (by omega)
        · skip
          refine sA_iload dd_X9_sort_86 (.tail _ (.head _)) ?_
          refine sA_iconst (z := 1) dd_X9_sort_88 ?_
          refine sA_icmp_eq (tgt := 101) dd_X9_sort_89 (by decide) (by omega) (by omega) (fun q30 => ?_) (fun q30 => ?_)
          · skip
            refine sA_iconst (z := 1) dd_X9_sort_101 ?_
            refine sA_goto (tgt := 106) dd_X9_sort_102 (by decide) ?_
            refine sA_istore (lv' := [(4, gs_iv 1), (7, gs_iv z10), (6, gs_iv k), (5, gs_iv la), (0, .ref 106), (1, gs_iv p), (2, gs_iv n)]) dd_X9_sort_106 (by decide) rfl ?_
            refine sA_aload_n dd_X9_sort_108 rfl (.tail _ (.tail _ (.tail _ (.tail _ (.head _))))) ?_
            refine sA_callV (y2 := m_X9_lengthNow) (n2 := 0) (d2 := 1) (a := 106) (ci := 9) (q := (RX9, TX9, 28)) (as := []) (rest := []) dd_X9_sort_109 ok_X9_lengthNow ml_X9_281 rfl rfl (by decide) gs_s106 rfl rfl (Nat.le_of_ble_eq_true rfl) (by decide) (c_X9_lengthNow_vf I11 ) (fun r31 F32 A33 h34 => ?_)
            obtain ⟨z37, e36, e38, e39, x35⟩ := h34
            subst e36 e38 e39
            have y40 : (0 ≤ z37 ∧ z37 ≤ 2400) ∧ z37 = gs_sum (A6 120) (2 * F5 106 0).toNat := x35
            clear x35
            show sA _ _ _ 112 _ [gs_iv z37] _ _
            have hnow := hlen _ y40.2
            refine sA_istore (lv' := [(5, gs_iv z37), (4, gs_iv 1), (7, gs_iv z10), (6, gs_iv k), (0, .ref 106), (1, gs_iv p), (2, gs_iv n)]) dd_X9_sort_112 (by decide) rfl ?_
            refine sA_iinc (lv' := [(6, gs_iv (k + 1)), (5, gs_iv z37), (4, gs_iv 1), (7, gs_iv z10), (0, .ref 106), (1, gs_iv p), (2, gs_iv n)]) dd_X9_sort_114 (.tail _ (.tail _ (.tail _ (.head _)))) (by decide) rfl ?_
            refine sA_goto (tgt := 68) dd_X9_sort_117 (by decide) ?_
            have b41 : (0 : Int) ≤ F5 106 3 ∧ F5 106 3 ≤ 12 := I11.1 106 3
            have b42 : (1 : Int) ≤ F5 106 0 ∧ F5 106 0 ≤ 3 := I11.1 106 0
            refine sA_sub (lv2 := [(6, gs_iv (k + 1)), (5, gs_iv z37), (4, gs_iv 1), (0, .ref 106), (1, gs_iv p), (2, gs_iv n)]) (List.forall_mem_cons.mpr ⟨(.head _), (List.forall_mem_cons.mpr ⟨(.tail _ (.head _)), (List.forall_mem_cons.mpr ⟨(.tail _ (.tail _ (.head _))), (List.forall_mem_cons.mpr ⟨(.tail _ (.tail _ (.tail _ (.tail _ (.head _))))), (List.forall_mem_cons.mpr ⟨(.tail _ (.tail _ (.tail _ (.tail _ (.tail _ (.head _)))))), (List.forall_mem_cons.mpr ⟨(.tail _ (.tail _ (.tail _ (.tail _ (.tail _ (.tail _ (.head _))))))), (fun _ h => absurd h List.not_mem_nil)⟩)⟩)⟩)⟩)⟩)⟩) ?_
            exact ih.1 1 z37 (k + 1) F5 A6 I11 f15 (by omega) (by omega) (by omega) (by omega) (by omega) (fun ii hi => by rw [show (k + 1 - 1).toNat = k.toNat by omega]; exact hst ii hi) (by rcases (show k = 1 ∨ 2 ≤ k by omega) with q | q <;> first | exact st_flag (bf := z37 - 1) (by omega) i6 (.inl ⟨q, by omega⟩) hnow (by omega) | exact st_flag (bf := la) (by omega) i6 (by rcases i7 with w | w <;> first | (exfalso; omega) | exact .inr w | fail) hnow (by omega) | fail) (.inr ⟨by omega, by rw [show (k + 1 - 1).toNat = k.toNat by omega]; exact hnow⟩) i8 (by omega)
          · skip
            refine sA_aload_n dd_X9_sort_92 rfl (.tail _ (.tail _ (.tail _ (.tail _ (.head _))))) ?_
            refine sA_callV (y2 := m_X9_lengthNow) (n2 := 0) (d2 := 1) (a := 106) (ci := 9) (q := (RX9, TX9, 28)) (as := []) (rest := []) dd_X9_sort_93 ok_X9_lengthNow ml_X9_281 rfl rfl (by decide) gs_s106 rfl rfl (Nat.le_of_ble_eq_true rfl) (by decide) (c_X9_lengthNow_vf I11 ) (fun r43 F44 A45 h46 => ?_)
            obtain ⟨z49, e48, e50, e51, x47⟩ := h46
            subst e48 e50 e51
            have y52 : (0 ≤ z49 ∧ z49 ≤ 2400) ∧ z49 = gs_sum (A6 120) (2 * F5 106 0).toNat := x47
            clear x47
            show sA _ _ _ 96 _ [gs_iv z49] _ _
            refine sA_iload dd_X9_sort_96 (.tail _ (.tail _ (.head _))) ?_
            refine sA_icmp_le (tgt := 105) dd_X9_sort_98 (by decide) (by omega) (by omega) (fun q53 => ?_) (fun q53 => ?_)
            · skip
              refine sA_iconst (z := 0) dd_X9_sort_105 ?_
              refine sA_istore (lv' := [(4, gs_iv 0), (7, gs_iv z10), (6, gs_iv k), (5, gs_iv la), (0, .ref 106), (1, gs_iv p), (2, gs_iv n)]) dd_X9_sort_106 (by decide) rfl ?_
              refine sA_aload_n dd_X9_sort_108 rfl (.tail _ (.tail _ (.tail _ (.tail _ (.head _))))) ?_
              refine sA_callV (y2 := m_X9_lengthNow) (n2 := 0) (d2 := 1) (a := 106) (ci := 9) (q := (RX9, TX9, 28)) (as := []) (rest := []) dd_X9_sort_109 ok_X9_lengthNow ml_X9_281 rfl rfl (by decide) gs_s106 rfl rfl (Nat.le_of_ble_eq_true rfl) (by decide) (c_X9_lengthNow_vf I11 ) (fun r54 F55 A56 h57 => ?_)
              obtain ⟨z60, e59, e61, e62, x58⟩ := h57
              subst e59 e61 e62
              have y63 : (0 ≤ z60 ∧ z60 ≤ 2400) ∧ z60 = gs_sum (A6 120) (2 * F5 106 0).toNat := x58
              clear x58
              show sA _ _ _ 112 _ [gs_iv z60] _ _
              have hnow := hlen _ y63.2
              refine sA_istore (lv' := [(5, gs_iv z60), (4, gs_iv 0), (7, gs_iv z10), (6, gs_iv k), (0, .ref 106), (1, gs_iv p), (2, gs_iv n)]) dd_X9_sort_112 (by decide) rfl ?_
              refine sA_iinc (lv' := [(6, gs_iv (k + 1)), (5, gs_iv z60), (4, gs_iv 0), (7, gs_iv z10), (0, .ref 106), (1, gs_iv p), (2, gs_iv n)]) dd_X9_sort_114 (.tail _ (.tail _ (.tail _ (.head _)))) (by decide) rfl ?_
              refine sA_goto (tgt := 68) dd_X9_sort_117 (by decide) ?_
              have b64 : (0 : Int) ≤ F5 106 3 ∧ F5 106 3 ≤ 12 := I11.1 106 3
              have b65 : (1 : Int) ≤ F5 106 0 ∧ F5 106 0 ≤ 3 := I11.1 106 0
              refine sA_sub (lv2 := [(6, gs_iv (k + 1)), (5, gs_iv z60), (4, gs_iv 0), (0, .ref 106), (1, gs_iv p), (2, gs_iv n)]) (List.forall_mem_cons.mpr ⟨(.head _), (List.forall_mem_cons.mpr ⟨(.tail _ (.head _)), (List.forall_mem_cons.mpr ⟨(.tail _ (.tail _ (.head _))), (List.forall_mem_cons.mpr ⟨(.tail _ (.tail _ (.tail _ (.tail _ (.head _))))), (List.forall_mem_cons.mpr ⟨(.tail _ (.tail _ (.tail _ (.tail _ (.tail _ (.head _)))))), (List.forall_mem_cons.mpr ⟨(.tail _ (.tail _ (.tail _ (.tail _ (.tail _ (.tail _ (.head _))))))), (fun _ h => absurd h List.not_mem_nil)⟩)⟩)⟩)⟩)⟩)⟩) ?_
              exact ih.1 0 z60 (k + 1) F5 A6 I11 f15 (by omega) (by omega) (by omega) (by omega) (by omega) (fun ii hi => by rw [show (k + 1 - 1).toNat = k.toNat by omega]; exact hst ii hi) (by rcases (show k = 1 ∨ 2 ≤ k by omega) with q | q <;> first | exact st_flag (bf := z60 - 1) (by omega) i6 (.inl ⟨q, by omega⟩) hnow (by omega) | exact st_flag (bf := la) (by omega) i6 (by rcases i7 with w | w <;> first | (exfalso; omega) | exact .inr w | fail) hnow (by omega) | fail) (.inr ⟨by omega, by rw [show (k + 1 - 1).toNat = k.toNat by omega]; exact hnow⟩) i8 (by omega)
            · skip
              refine sA_iconst (z := 1) dd_X9_sort_101 ?_
              refine sA_goto (tgt := 106) dd_X9_sort_102 (by decide) ?_
              refine sA_istore (lv' := [(4, gs_iv 1), (7, gs_iv z10), (6, gs_iv k), (5, gs_iv la), (0, .ref 106), (1, gs_iv p), (2, gs_iv n)]) dd_X9_sort_106 (by decide) rfl ?_
              refine sA_aload_n dd_X9_sort_108 rfl (.tail _ (.tail _ (.tail _ (.tail _ (.head _))))) ?_
              refine sA_callV (y2 := m_X9_lengthNow) (n2 := 0) (d2 := 1) (a := 106) (ci := 9) (q := (RX9, TX9, 28)) (as := []) (rest := []) dd_X9_sort_109 ok_X9_lengthNow ml_X9_281 rfl rfl (by decide) gs_s106 rfl rfl (Nat.le_of_ble_eq_true rfl) (by decide) (c_X9_lengthNow_vf I11 ) (fun r66 F67 A68 h69 => ?_)
              obtain ⟨z72, e71, e73, e74, x70⟩ := h69
              subst e71 e73 e74
              have y75 : (0 ≤ z72 ∧ z72 ≤ 2400) ∧ z72 = gs_sum (A6 120) (2 * F5 106 0).toNat := x70
              clear x70
              show sA _ _ _ 112 _ [gs_iv z72] _ _
              have hnow := hlen _ y75.2
              refine sA_istore (lv' := [(5, gs_iv z72), (4, gs_iv 1), (7, gs_iv z10), (6, gs_iv k), (0, .ref 106), (1, gs_iv p), (2, gs_iv n)]) dd_X9_sort_112 (by decide) rfl ?_
              refine sA_iinc (lv' := [(6, gs_iv (k + 1)), (5, gs_iv z72), (4, gs_iv 1), (7, gs_iv z10), (0, .ref 106), (1, gs_iv p), (2, gs_iv n)]) dd_X9_sort_114 (.tail _ (.tail _ (.tail _ (.head _)))) (by decide) rfl ?_
              refine sA_goto (tgt := 68) dd_X9_sort_117 (by decide) ?_
              have b76 : (0 : Int) ≤ F5 106 3 ∧ F5 106 3 ≤ 12 := I11.1 106 3
              have b77 : (1 : Int) ≤ F5 106 0 ∧ F5 106 0 ≤ 3 := I11.1 106 0
              refine sA_sub (lv2 := [(6, gs_iv (k + 1)), (5, gs_iv z72), (4, gs_iv 1), (0, .ref 106), (1, gs_iv p), (2, gs_iv n)]) (List.forall_mem_cons.mpr ⟨(.head _), (List.forall_mem_cons.mpr ⟨(.tail _ (.head _)), (List.forall_mem_cons.mpr ⟨(.tail _ (.tail _ (.head _))), (List.forall_mem_cons.mpr ⟨(.tail _ (.tail _ (.tail _ (.tail _ (.head _))))), (List.forall_mem_cons.mpr ⟨(.tail _ (.tail _ (.tail _ (.tail _ (.tail _ (.head _)))))), (List.forall_mem_cons.mpr ⟨(.tail _ (.tail _ (.tail _ (.tail _ (.tail _ (.tail _ (.head _))))))), (fun _ h => absurd h List.not_mem_nil)⟩)⟩)⟩)⟩)⟩)⟩) ?_
              exact ih.1 1 z72 (k + 1) F5 A6 I11 f15 (by omega) (by omega) (by omega) (by omega) (by omega) (fun ii hi => by rw [show (k + 1 - 1).toNat = k.toNat by omega]; exact hst ii hi) (by rcases (show k = 1 ∨ 2 ≤ k by omega) with q | q <;> first | exact st_flag (bf := z72 - 1) (by omega) i6 (.inl ⟨q, by omega⟩) hnow (by omega) | exact st_flag (bf := la) (by omega) i6 (by rcases i7 with w | w <;> first | (exfalso; omega) | exact .inr w | fail) hnow (by omega) | fail) (.inr ⟨by omega, by rw [show (k + 1 - 1).toNat = k.toNat by omega]; exact hnow⟩) i8 (by omega)
    · skip
      intro ri r F1 A1 hI1 hf1 i0 i1 i2 i3 i4 i5 i6 hm
      have b78 : (0 : Int) ≤ F1 106 3 ∧ F1 106 3 ≤ 12 := hI1.1 106 3
      have b79 : (1 : Int) ≤ F1 106 0 ∧ F1 106 0 ≤ 3 := hI1.1 106 0
      have hF3 := hf1.1 106 3 (by dsimp only; omega)
      have hA8 := hf1.2 108 (by dsimp only; omega)
      have hX1 : ∀ r : Nat, (r : Int) < F1 106 3 → 1 ≤ A1 108 r := fun r h => by rw [hA8]; exact hX r (by omega)
      refine sA_iload dd_X9_sort_123 (.head _) ?_
      refine sA_aload_n dd_X9_sort_125 rfl (.tail _ (.tail _ (.head _))) ?_
      refine sA_geti (ci := 9) (j := 3) (q := (RX9, TX9, 28)) dd_X9_sort_126 rfl (by decide) fl_X9_70 (by decide) gs_s106 rfl ?_
      refine sA_icmp_ge (tgt := 160) dd_X9_sort_129 (by decide) (by omega) (by omega) (fun q80 => ?_) (fun q80 => ?_)
      · skip
        refine sA_iload dd_X9_sort_160 (.tail _ (.head _)) ?_
        refine sA_if_eq (tgt := 169) dd_X9_sort_162 (by decide) (by omega) (fun q81 => ?_) (fun q81 => ?_)
        · skip
          refine sA_iconst (z := 3) dd_X9_sort_169 ?_
          refine sA_iret (z := 3) dd_X9_sort_170 rfl ?_
          refine ⟨_, rfl, hI1, hf1, ?_⟩
          have hnk : ¬ (st_K9 F A p n) := fun w => by
            obtain ⟨q, q1, q2⟩ := w
            exact i6 q (by omega) q2
          rcases i4 with q | q
          · first
              | exact .inr (.inr ⟨by omega, by omega, by omega, by omega, .inr (.inr ⟨i5, .inr ⟨hnk, .inl ⟨q.2, by omega⟩⟩⟩)⟩)
              | (exfalso; omega)
              | fail
          · first
              | exact .inr (.inr ⟨by omega, by omega, by omega, by omega, .inr (.inr ⟨i5, .inr ⟨hnk, .inr ⟨q.2, by omega⟩⟩⟩)⟩)
              | (exfalso; omega)
              | fail
        · skip
          refine sA_iconst (z := 2) dd_X9_sort_165 ?_
          refine sA_goto (tgt := 170) dd_X9_sort_166 (by decide) ?_
          refine sA_iret (z := 2) dd_X9_sort_170 rfl ?_
          refine ⟨_, rfl, hI1, hf1, ?_⟩
          have hnk : ¬ (st_K9 F A p n) := fun w => by
            obtain ⟨q, q1, q2⟩ := w
            exact i6 q (by omega) q2
          rcases i4 with q | q
          · first
              | exact .inr (.inr ⟨by omega, by omega, by omega, by omega, .inr (.inr ⟨i5, .inr ⟨hnk, .inl ⟨q.2, by omega⟩⟩⟩)⟩)
              | (exfalso; omega)
              | fail
          · first
              | exact .inr (.inr ⟨by omega, by omega, by omega, by omega, .inr (.inr ⟨i5, .inr ⟨hnk, .inr ⟨q.2, by omega⟩⟩⟩)⟩)
              | (exfalso; omega)
              | fail
      · skip
        have hx_r := hX1 r.toNat (by omega)
        have e0 : F1 106 0 = F 106 0 := hf1.1 106 0 (by dsimp only; omega)
        have e108 : A1 108 = A 108 := hf1.2 108 (by dsimp only; omega)
        have e109 : A1 109 = A 109 := hf1.2 109 (by dsimp only; omega)
        have eS := hp_S9_fr e0 e108 e109
        have eM := hp_M9_fr e0 e108 e109
        have hVr : gs_vl 3 (A1 108 r.toNat) (fun i => A1 109 (60 * r.toNat + i)) := by rw [hf1.2 108 (by dsimp only; omega), hf1.2 109 (by dsimp only; omega)]; exact hVa r.toNat (by omega)
        refine sA_aload_n dd_X9_sort_132 rfl (.tail _ (.tail _ (.head _))) ?_
        refine sA_iload dd_X9_sort_133 (.head _) ?_
        refine sA_callV (y2 := m_X9_isSimple) (n2 := 1) (d2 := 8) (a := 106) (ci := 9) (q := (RX9, TX9, 28)) (as := [gs_iv r]) (rest := []) dd_X9_sort_135 ok_X9_isSimple ml_X9_151 rfl rfl (by decide) gs_s106 rfl rfl (Nat.le_of_ble_eq_true rfl) (by decide) (c_X9_isSimple_vf hI1 (by omega) (by omega) hVr) (fun r82 F83 A84 h85 => ?_)
        obtain ⟨z88, e87, I89, f90, x86⟩ := h85
        subst e87
        have v91 : F83 106 3 = F1 106 3 := f90.1 106 3 (by first | exact id | omega | (dsimp only; omega) | (dsimp only) | fail)
        have v92 : F83 106 0 = F1 106 0 := f90.1 106 0 (by first | exact id | omega | (dsimp only; omega) | (dsimp only) | fail)
        have v93 : A84 108 r.toNat = A1 108 r.toNat := congrFun (f90.2 108 (by first | exact id | omega | (dsimp only; omega) | (dsimp only) | fail)) _
        have f94 := gs_fr_tr hf1 f90 (fun b j h => by first | exact False.elim h | omega | (dsimp only at h ⊢; omega) | fail) (fun b h => by first | exact False.elim h | omega | (dsimp only at h ⊢; omega) | fail)
        have y95 : (z88 = 1 ∧ (¬ gs_pow (fun i => A1 109 (60 * r.toNat + i)) (A1 108 r.toNat) ∧ mt_m9 (4 * F1 106 0) (fun i => A1 109 (60 * r.toNat + i)) (A1 108 r.toNat) (fun i => A1 109 (60 * r.toNat + i)) (A1 108 r.toNat) = 0)) ∨ (z88 = 0 ∧ ¬ (¬ gs_pow (fun i => A1 109 (60 * r.toNat + i)) (A1 108 r.toNat) ∧ mt_m9 (4 * F1 106 0) (fun i => A1 109 (60 * r.toNat + i)) (A1 108 r.toNat) (fun i => A1 109 (60 * r.toNat + i)) (A1 108 r.toNat) = 0)) := x86
        clear x86
        show sA _ _ _ 138 _ [gs_iv z88] _ _
        have y135 := y95
        rw [show ((¬ gs_pow (fun i => A1 109 (60 * r.toNat + i)) (A1 108 r.toNat) ∧ mt_m9 (4 * F1 106 0) (fun i => A1 109 (60 * r.toNat + i)) (A1 108 r.toNat) (fun i => A1 109 (60 * r.toNat + i)) (A1 108 r.toNat) = 0) = hp_S9 F1 A1 r) from rfl, eS] at y135
        refine sA_if_eq (tgt := 154) dd_X9_sort_138 (by decide) (by omega) (fun q96 => ?_) (fun q96 => ?_)
        · skip
          refine sA_iinc (lv' := [(6, gs_iv (r + 1)), (4, gs_iv ri), (0, .ref 106), (1, gs_iv p), (2, gs_iv n)]) dd_X9_sort_154 (.head _) (by decide) rfl ?_
          refine sA_goto (tgt := 123) dd_X9_sort_157 (by decide) ?_
          have b97 : (0 : Int) ≤ F83 106 3 ∧ F83 106 3 ≤ 12 := I89.1 106 3
          have b98 : (1 : Int) ≤ F83 106 0 ∧ F83 106 0 ≤ 3 := I89.1 106 0
          refine sA_sub (lv2 := [(6, gs_iv (r + 1)), (4, gs_iv ri), (0, .ref 106), (1, gs_iv p), (2, gs_iv n)]) (List.forall_mem_cons.mpr ⟨(.head _), (List.forall_mem_cons.mpr ⟨(.tail _ (.head _)), (List.forall_mem_cons.mpr ⟨(.tail _ (.tail _ (.head _))), (List.forall_mem_cons.mpr ⟨(.tail _ (.tail _ (.tail _ (.head _)))), (List.forall_mem_cons.mpr ⟨(.tail _ (.tail _ (.tail _ (.tail _ (.head _))))), (fun _ h => absurd h List.not_mem_nil)⟩)⟩)⟩)⟩)⟩) ?_
          exact ih.2 ri (r + 1) F83 A84 I89 f94 (by omega) (by omega) (by omega) (by omega) i4 i5 (fun q hq => by by_cases h : (q : Int) < r <;> first | exact i6 q h | (rw [show q = r.toNat by omega]; intro w; rcases y135 with y | y <;> first | (exfalso; omega) | exact y.2 (by have w1 := w.1; rw [show ((r.toNat : Nat) : Int) = r by omega] at w1; exact w1) | fail) | fail) (by omega)
        · skip
          refine sA_aload_n dd_X9_sort_141 rfl (.tail _ (.tail _ (.head _))) ?_
          refine sA_iload dd_X9_sort_142 (.head _) ?_
          refine sA_iload_n dd_X9_sort_144 rfl (.tail _ (.tail _ (.tail _ (.head _)))) ?_
          refine sA_iload_n dd_X9_sort_145 rfl (.tail _ (.tail _ (.tail _ (.tail _ (.head _))))) ?_
          have ep146 : gs_plm F83 A84 = gs_plm F A := gs_plm_fr (f94.1 106 0 (by dsimp only; omega)) (f94.2 110 (by dsimp only; omega)) (f94.2 111 (by dsimp only; omega))
          have e108b : A84 108 = A 108 := f94.2 108 (by dsimp only; omega)
          have e109b : A84 109 = A 109 := f94.2 109 (by dsimp only; omega)
          have h110 : A84 110 = A 110 := f94.2 110 (by dsimp only; omega)
          have h111 : A84 111 = A 111 := f94.2 111 (by dsimp only; omega)
          have hg0 : F83 106 0 = F 106 0 := f94.1 106 0 (by dsimp only; omega)
          have hcd1 : ∀ i : Int, 0 ≤ i → i < A84 110 p.toNat → 0 ≤ A84 111 (60 * p + i).toNat ∧ A84 111 (60 * p + i).toNat ≤ 15 := by rw [h110, h111]; exact (hcd (by omega) (by omega))
          refine sA_callV (y2 := m_X9_comesBack) (n2 := 3) (d2 := 6) (a := 106) (ci := 9) (q := (RX9, TX9, 28)) (as := [gs_iv r, gs_iv p, gs_iv n]) (rest := []) dd_X9_sort_146 ok_X9_comesBack ml_X9_286 rfl rfl (by decide) gs_s106 rfl rfl (Nat.le_of_ble_eq_true rfl) (by decide) (c_X9_comesBack_vf I89 (by omega) (by omega) (by omega) (by omega) hcd1) (fun r99 F100 A101 h102 => ?_)
          obtain ⟨z105, e104, I106, f107, x103⟩ := h102
          subst e104
          have v108 : F100 106 3 = F83 106 3 := f107.1 106 3 (by first | exact id | omega | (dsimp only; omega) | (dsimp only) | fail)
          have v109 : F100 106 0 = F83 106 0 := f107.1 106 0 (by first | exact id | omega | (dsimp only; omega) | (dsimp only) | fail)
          have v110 : A101 108 r.toNat = A84 108 r.toNat := congrFun (f107.2 108 (by first | exact id | omega | (dsimp only; omega) | (dsimp only) | fail)) _
          have f111 := gs_fr_tr f94 f107 (fun b j h => by first | exact False.elim h | omega | (dsimp only at h ⊢; omega) | fail) (fun b h => by first | exact False.elim h | omega | (dsimp only at h ⊢; omega) | fail)
          have y112 : (z105 = 1 ∧ (st_kp (gs_plm F83 A84 p) (gs_stk (fun i => A84 109 (60 * r.toNat + i)) (A84 108 r.toNat).toNat) n (fun s => st_ao s (fun i => A84 109 (60 * r.toNat + i)) (A84 108 r.toNat)))) ∨ (z105 = 0 ∧ ¬ (st_kp (gs_plm F83 A84 p) (gs_stk (fun i => A84 109 (60 * r.toNat + i)) (A84 108 r.toNat).toNat) n (fun s => st_ao s (fun i => A84 109 (60 * r.toNat + i)) (A84 108 r.toNat)))) := x103
          clear x103
          show sA _ _ _ 149 _ [gs_iv z105] _ _
          refine sA_if_eq (tgt := 154) dd_X9_sort_149 (by decide) (by omega) (fun q113 => ?_) (fun q113 => ?_)
          · skip
            refine sA_iinc (lv' := [(6, gs_iv (r + 1)), (4, gs_iv ri), (0, .ref 106), (1, gs_iv p), (2, gs_iv n)]) dd_X9_sort_154 (.head _) (by decide) rfl ?_
            refine sA_goto (tgt := 123) dd_X9_sort_157 (by decide) ?_
            have b114 : (0 : Int) ≤ F100 106 3 ∧ F100 106 3 ≤ 12 := I106.1 106 3
            have b115 : (1 : Int) ≤ F100 106 0 ∧ F100 106 0 ≤ 3 := I106.1 106 0
            refine sA_sub (lv2 := [(6, gs_iv (r + 1)), (4, gs_iv ri), (0, .ref 106), (1, gs_iv p), (2, gs_iv n)]) (List.forall_mem_cons.mpr ⟨(.head _), (List.forall_mem_cons.mpr ⟨(.tail _ (.head _)), (List.forall_mem_cons.mpr ⟨(.tail _ (.tail _ (.head _))), (List.forall_mem_cons.mpr ⟨(.tail _ (.tail _ (.tail _ (.head _)))), (List.forall_mem_cons.mpr ⟨(.tail _ (.tail _ (.tail _ (.tail _ (.head _))))), (fun _ h => absurd h List.not_mem_nil)⟩)⟩)⟩)⟩)⟩) ?_
            exact ih.2 ri (r + 1) F100 A101 I106 f111 (by omega) (by omega) (by omega) (by omega) i4 i5 (fun q hq => by by_cases h : (q : Int) < r <;> first | exact i6 q h | (rw [show q = r.toNat by omega]; intro w; rcases y112 with y | y <;> first | (exfalso; omega) | (have y2 := y.2; rw [ep146, e108b, e109b] at y2; exact y2 w.2) | fail) | fail) (by omega)
          · skip
            refine sA_iconst (z := 1) dd_X9_sort_152 ?_
            refine sA_iret (z := 1) dd_X9_sort_153 rfl ?_
            refine ⟨_, rfl, I106, f111, ?_⟩
            rcases y112 with y | y
            · have y2 := y.2
              rw [ep146, e108b, e109b] at y2
              have hs : hp_S9 F A r := by rcases y135 with q | q <;> first | exact q.2 | (exfalso; omega) | fail
              refine .inr (.inr ⟨by omega, by omega, by omega, by omega, .inr (.inr ⟨i5, .inl ⟨⟨r.toNat, by omega, ?_, y2⟩, rfl⟩⟩)⟩)
              rw [show ((r.toNat : Nat) : Int) = r by omega]
              exact hs
            · exfalso
              omega
theorem c_X9_sort_vf {p n : Int} {F A : gs_F} (hI : gs_I F A) (hp : -2147483648 ≤ p ∧ p ≤ 2147483647) (hn : -2147483648 ≤ n ∧ n ≤ 2147483647) (hX : ∀ r : Nat, (r : Int) < F 106 3 → 1 ≤ A 108 r) (hcd : 0 ≤ p → p ≤ 7 → ∀ i : Int, 0 ≤ i → i < A 110 p.toNat → 0 ≤ A 111 (60 * p + i).toNat ∧ A 111 (60 * p + i).toNat ≤ 15) (hVa : ∀ r : Nat, (r : Int) < F 106 3 → gs_vl 3 (A 108 r) (fun i => A 109 (60 * r + i))) : sC m_X9_sort 9 [.ref 106, gs_iv p, gs_iv n] F A (fun rv F' A' => ∃ z : Int, rv = some (gs_iv z) ∧ gs_I F' A' ∧ gs_fr (fun c j => c = 106 ∧ (j = 9 ∨ j = 11 ∨ j = 13 ∨ j = 15)) (fun c => c = 112 ∨ c = 113 ∨ c = 114 ∨ c = 115 ∨ c = 119 ∨ c = 120) F A F' A' ∧ (((p < 0 ∨ 7 < p) ∧ z = -1001) ∨ (0 ≤ p ∧ p ≤ 7 ∧ (n < 1 ∨ 12 < n) ∧ z = -1002) ∨ (0 ≤ p ∧ p ≤ 7 ∧ 1 ≤ n ∧ n ≤ 12 ∧ st_ans (gs_plm F A p) (F 106 0) n (st_K9 F A p n) z))) := by
  refine sC_of ok_X9_sort.1 (Nat.le_of_ble_eq_true rfl) ?_
  show sA _ _ _ 0 [(0, .ref 106), (1, gs_iv p), (2, gs_iv n)] [] F A
  have hf : gs_fr (fun c j => c = 106 ∧ (j = 9 ∨ j = 11 ∨ j = 13 ∨ j = 15)) (fun c => c = 112 ∨ c = 113 ∨ c = 114 ∨ c = 115 ∨ c = 119 ∨ c = 120) F A F A := gs_fr_refl _ _ _ _
  have b116 : (0 : Int) ≤ F 106 3 ∧ F 106 3 ≤ 12 := hI.1 106 3
  have b117 : (1 : Int) ≤ F 106 0 ∧ F 106 0 ≤ 3 := hI.1 106 0
  refine sA_aload_n dd_X9_sort_0 rfl (.head _) ?_
  refine sA_iload_n dd_X9_sort_1 rfl (.tail _ (.head _)) ?_
  refine sA_callV (y2 := m_X9_noPlan) (n2 := 1) (d2 := 2) (a := 106) (ci := 9) (q := (RX9, TX9, 28)) (as := [gs_iv p]) (rest := []) dd_X9_sort_2 ok_X9_noPlan ml_X9_218 rfl rfl (by decide) gs_s106 rfl rfl (Nat.le_of_ble_eq_true rfl) (by decide) (c_X9_noPlan hI (by omega)) (fun r118 F119 A120 h121 => ?_)
  obtain ⟨z124, e123, e125, e126, x122⟩ := h121
  subst e123 e125 e126
  show sA _ _ _ 5 _ [gs_iv z124] _ _
  refine sA_if_eq (tgt := 12) dd_X9_sort_5 (by decide) (by omega) (fun q127 => ?_) (fun q127 => ?_)
  · skip
    refine sA_iload_n dd_X9_sort_12 rfl (.tail _ (.tail _ (.head _))) ?_
    refine sA_i2l dd_X9_sort_13 (by omega) ?_
    refine sA_lconst (z := 1) dd_X9_sort_14 (by decide) ?_
    refine sA_ldc2 (z := 12) dd_X9_sort_15 (ri_lw_in (pl := 1168) (by decide +kernel)) ?_
    refine sA_callS (y2 := m_X9_in) (n2 := 3) (d2 := 1) (as := [gs_lv n, gs_lv 1, gs_lv 12]) (rest := []) dd_X9_sort_18 ok_X9_in ml_X9_75 rfl rfl (Nat.le_of_ble_eq_true rfl) (by decide) (c_X9_in (by omega) (by omega) (by omega)) (fun r128 F129 A130 h131 => ?_)
    obtain ⟨z134, e133, e135, e136, x132⟩ := h131
    subst e133 e135 e136
    show sA _ _ _ 21 _ [gs_iv z134] _ _
    refine sA_if_ne (tgt := 28) dd_X9_sort_21 (by decide) (by omega) (fun q137 => ?_) (fun q137 => ?_)
    · skip
      refine sA_aload_n dd_X9_sort_28 rfl (.head _) ?_
      refine sA_iload_n dd_X9_sort_29 rfl (.tail _ (.head _)) ?_
      refine sA_iload_n dd_X9_sort_30 rfl (.tail _ (.tail _ (.head _))) ?_
      have hcd1 := hcd (by omega) (by omega)
      refine sA_callV (y2 := m_X9_findOrder) (n2 := 2) (d2 := 7) (a := 106) (ci := 9) (q := (RX9, TX9, 28)) (as := [gs_iv p, gs_iv n]) (rest := []) dd_X9_sort_31 ok_X9_findOrder ml_X9_260 rfl rfl (by decide) gs_s106 rfl rfl (Nat.le_of_ble_eq_true rfl) (by decide) (c_X9_findOrder_vf hI (by omega) (by omega) hcd1) (fun r138 F139 A140 h141 => ?_)
      obtain ⟨z144, e143, I145, f146, x142⟩ := h141
      subst e143
      have v147 : F139 106 3 = F 106 3 := f146.1 106 3 (by first | exact id | omega | (dsimp only; omega) | (dsimp only) | fail)
      have v148 : F139 106 0 = F 106 0 := f146.1 106 0 (by first | exact id | omega | (dsimp only; omega) | (dsimp only) | fail)
      have f149 := gs_fr_tr hf f146 (fun b j h => by first | exact False.elim h | omega | (dsimp only at h ⊢; omega) | fail) (fun b h => by first | exact False.elim h | omega | (dsimp only at h ⊢; omega) | fail)
      have y150 : (-1005 ≤ z144 ∧ z144 ≤ 24) ∧ gs_or (gs_plm F A p) (F 106 0) n z144 := x142
      clear x142
      show sA _ _ _ 34 _ [gs_iv z144] _ _
      refine sA_istore_n (lv' := [(3, gs_iv z144), (0, .ref 106), (1, gs_iv p), (2, gs_iv n)]) dd_X9_sort_34 rfl (by decide) rfl ?_
      refine sA_iload_n dd_X9_sort_35 rfl (.head _) ?_
      refine sA_iconst (z := (-1)) dd_X9_sort_36 ?_
      refine sA_icmp_eq (tgt := 55) dd_X9_sort_37 (by decide) (by omega) (by omega) (fun q151 => ?_) (fun q151 => ?_)
      · skip
        have hor : gs_or (gs_plm F A p) (F 106 0) n (-1) := by
          have y := y150.2
          rw [show z144 = -1 by omega] at y
          exact y
        refine sA_aload_n dd_X9_sort_55 rfl (.tail _ (.head _)) ?_
        refine sA_callV (y2 := m_X9_startImages) (n2 := 0) (d2 := 1) (a := 106) (ci := 9) (q := (RX9, TX9, 28)) (as := []) (rest := []) dd_X9_sort_56 ok_X9_startImages ml_X9_236 rfl rfl (by decide) gs_s106 rfl rfl (Nat.le_of_ble_eq_true rfl) (by decide) (c_X9_startImages_vf I145 ) (fun r152 F153 A154 h155 => ?_)
        obtain ⟨e157, I158, f159, x156⟩ := h155
        subst e157
        have v160 : F153 106 3 = F139 106 3 := f159.1 106 3 (by first | exact id | omega | (dsimp only; omega) | (dsimp only) | fail)
        have v161 : F153 106 0 = F139 106 0 := f159.1 106 0 (by first | exact id | omega | (dsimp only; omega) | (dsimp only) | fail)
        have f162 := gs_fr_tr f149 f159 (fun b j h => by first | exact False.elim h | omega | (dsimp only at h ⊢; omega) | fail) (fun b h => by first | exact False.elim h | omega | (dsimp only at h ⊢; omega) | fail)
        have y163 : ∀ ii : Nat, (ii : Int) < 2 * F139 106 0 → gs_im A154 ii = [(ii : Int) + 1] := x156
        clear x156
        show sA _ _ _ 59 _ [] _ _
        refine sA_iconst (z := 1) dd_X9_sort_59 ?_
        refine sA_istore (lv' := [(4, gs_iv 1), (3, gs_iv z144), (0, .ref 106), (1, gs_iv p), (2, gs_iv n)]) dd_X9_sort_60 (by decide) rfl ?_
        refine sA_iconst (z := 0) dd_X9_sort_62 ?_
        refine sA_istore (lv' := [(5, gs_iv 0), (4, gs_iv 1), (3, gs_iv z144), (0, .ref 106), (1, gs_iv p), (2, gs_iv n)]) dd_X9_sort_63 (by decide) rfl ?_
        refine sA_iconst (z := 1) dd_X9_sort_65 ?_
        refine sA_istore (lv' := [(6, gs_iv 1), (5, gs_iv 0), (4, gs_iv 1), (3, gs_iv z144), (0, .ref 106), (1, gs_iv p), (2, gs_iv n)]) dd_X9_sort_66 (by decide) rfl ?_
        have b164 : (0 : Int) ≤ F153 106 3 ∧ F153 106 3 ≤ 12 := I158.1 106 3
        have b165 : (1 : Int) ≤ F153 106 0 ∧ F153 106 0 ≤ 3 := I158.1 106 0
        refine sA_sub (lv2 := [(6, gs_iv 1), (5, gs_iv 0), (4, gs_iv 1), (0, .ref 106), (1, gs_iv p), (2, gs_iv n)]) (List.forall_mem_cons.mpr ⟨(.head _), (List.forall_mem_cons.mpr ⟨(.tail _ (.head _)), (List.forall_mem_cons.mpr ⟨(.tail _ (.tail _ (.head _))), (List.forall_mem_cons.mpr ⟨(.tail _ (.tail _ (.tail _ (.tail _ (.head _))))), (List.forall_mem_cons.mpr ⟨(.tail _ (.tail _ (.tail _ (.tail _ (.tail _ (.head _)))))), (List.forall_mem_cons.mpr ⟨(.tail _ (.tail _ (.tail _ (.tail _ (.tail _ (.tail _ (.head _))))))), (fun _ h => absurd h List.not_mem_nil)⟩)⟩)⟩)⟩)⟩)⟩) ?_
        exact (k_X9_sort_vf hI hp hn hX hcd hVa (n + 1 - 1 + 100 : Int).toNat.succ).1 1 0 1 F153 A154 I158 f162 (by omega) (by omega) (by omega) (by omega) (by omega) (fun ii hi => by rw [y163 ii (by omega)]; rfl) (.inl ⟨rfl, st_rise_1 (by omega)⟩) (.inl rfl) hor (by omega)
      · skip
        refine sA_iload_n dd_X9_sort_40 rfl (.head _) ?_
        refine sA_sipush (z := (-1005)) dd_X9_sort_41 (by decide) ?_
        refine sA_icmp_ne (tgt := 53) dd_X9_sort_44 (by decide) (by omega) (by omega) (fun q166 => ?_) (fun q166 => ?_)
        · skip
          refine sA_iconst (z := 0) dd_X9_sort_53 ?_
          refine sA_iret (z := 0) dd_X9_sort_54 rfl ?_
          refine ⟨_, rfl, I145, f149, ?_⟩
          have y := y150.2
          have hk1 : 1 ≤ z144 := by
            have y0 := y
            rcases y0 with ⟨k, k1, k2, k3, k4⟩ | ⟨_, e⟩
            · rcases k4 with ⟨_, e⟩ | ⟨w, _, _, e⟩
              · exfalso
                omega
              · omega
            · exfalso
              omega
          exact .inr (.inr ⟨by omega, by omega, by omega, by omega, .inr (.inl ⟨z144, hk1, y, rfl⟩)⟩)
        · skip
          refine sA_sipush (z := (-1005)) dd_X9_sort_47 (by decide) ?_
          refine sA_goto (tgt := 54) dd_X9_sort_50 (by decide) ?_
          refine sA_iret (z := -1005) dd_X9_sort_54 rfl ?_
          refine ⟨_, rfl, I145, f149, ?_⟩
          have y := y150.2
          rw [show z144 = -1005 by omega] at y
          exact .inr (.inr ⟨by omega, by omega, by omega, by omega, .inl ⟨y, rfl⟩⟩)
    · skip
      refine sA_sipush (z := (-1002)) dd_X9_sort_24 (by decide) ?_
      refine sA_iret (z := -1002) dd_X9_sort_27 rfl ?_
      refine ⟨_, rfl, hI, hf, ?_⟩
      exact .inr (.inl ⟨by omega, by omega, by omega, rfl⟩)
  · skip
    refine sA_sipush (z := (-1001)) dd_X9_sort_8 (by decide) ?_
    refine sA_iret (z := -1001) dd_X9_sort_11 rfl ?_
    refine ⟨_, rfl, hI, hf, ?_⟩
    exact .inl ⟨by omega, rfl⟩
end
