noncomputable section
theorem k_X9_onesOf_vf {x : Int} {F A : gs_F} (hx : 0 ≤ x ∧ x < 64) : ∀ nN : Nat, (∀ (n : Int) (k : Int),  0 ≤ n ∧ n ≤ 12 → 0 ≤ k ∧ k ≤ 12 → n ≤ k → n = (dt_c x.toNat k.toNat : Int) → 12 - k < (nN : Int) → sA m_X9_onesOf 1 (fun rv F' A' => ∃ z : Int, rv = some (gs_iv z) ∧ F = F' ∧ A = A' ∧ (z = (dt_c x.toNat 6 : Int) ∧ 0 ≤ z ∧ z ≤ 6)) 4 [(2, gs_iv k), (1, gs_iv n), (0, gs_iv x)] [] F A) := by
  intro nN
  induction nN with
  | zero =>
    exact fun a0 a1 i0 i1 i2 i3 hm => by exfalso; omega
  | succ nN ih =>
    intro n k i0 i1 i2 i3 hm
    refine sA_iload_n dd_X9_onesOf_4 rfl (.head _) ?_
    refine sA_bipush (z := 12) dd_X9_onesOf_5 (by decide) ?_
    refine sA_icmp_ge (tgt := 24) dd_X9_onesOf_7 (by decide) (by omega) (by omega) (fun q1 => ?_) (fun q1 => ?_)
    · skip
      refine sA_iload_n dd_X9_onesOf_24 rfl (.tail _ (.head _)) ?_
      refine sA_iret (z := n) dd_X9_onesOf_25 rfl ?_
      refine ⟨_, rfl, rfl, rfl, ?_⟩
      have h := dt_c_le ⟨x.toNat, by omega⟩
      obtain ⟨h1, h2, h3⟩ := h
      have h1 : dt_c x.toNat 6 ≤ 6 := h1
      have h2 : dt_c x.toNat 12 = dt_c x.toNat 6 := h2
      rw [show k.toNat = 12 by omega, h2] at i3
      omega
    · skip
      refine sA_iload_n dd_X9_onesOf_10 rfl (.tail _ (.head _)) ?_
      refine sA_iload_n dd_X9_onesOf_11 rfl (.tail _ (.tail _ (.head _))) ?_
      refine sA_iload_n dd_X9_onesOf_12 rfl (.head _) ?_
      refine sA_ishr dd_X9_onesOf_13 ?_
      have b2 := gs_t_rng (Int32.ofInt x >>> (Int32.ofInt k &&& 31))
      generalize hw3 : gs_t (Int32.ofInt x >>> (Int32.ofInt k &&& 31)) = w3 at b2 ⊢
      refine sA_iconst (z := 1) dd_X9_onesOf_14 ?_
      refine sA_iand dd_X9_onesOf_15 ?_
      have b4 := gs_t_rng (Int32.ofInt w3 &&& Int32.ofInt 1)
      have b6 := dt_b01 (w3)
      generalize hw5 : gs_t (Int32.ofInt w3 &&& Int32.ofInt 1) = w5 at b4 b6 ⊢
      have hbt : w5 = if x.toNat.testBit k.toNat then 1 else 0 := by
        have h := dt_hb_at (e := x) (k := k) (by omega) (by omega)
        unfold dt_hb at h
        rw [hw3] at h
        exact hw5.symm.trans h
      refine sA_iadd dd_X9_onesOf_16 ?_
      refine sA_istore_n (lv' := [(1, gs_iv (n + w5)), (2, gs_iv k), (0, gs_iv x)]) dd_X9_onesOf_17 rfl (by decide) rfl ?_
      refine sA_iinc (lv' := [(2, gs_iv (k + 1)), (1, gs_iv (n + w5)), (0, gs_iv x)]) dd_X9_onesOf_18 (.tail _ (.head _)) (by decide) rfl ?_
      refine sA_goto (tgt := 4) dd_X9_onesOf_21 (by decide) ?_
      refine sA_sub (lv2 := [(2, gs_iv (k + 1)), (1, gs_iv (n + w5)), (0, gs_iv x)]) (List.forall_mem_cons.mpr ⟨(.head _), (List.forall_mem_cons.mpr ⟨(.tail _ (.head _)), (List.forall_mem_cons.mpr ⟨(.tail _ (.tail _ (.head _))), (fun _ h => absurd h List.not_mem_nil)⟩)⟩)⟩) ?_
      exact ih (n + w5) (k + 1)  (by omega) (by omega) (by omega) (by rw [show (k + 1).toNat = k.toNat + 1 by omega]; by_cases h : x.toNat.testBit k.toNat = true <;> first | (rw [dt_c_1 h]; rw [if_pos h] at hbt; omega) | (rw [dt_c_0 h]; rw [if_neg h] at hbt; omega) | fail) (by omega)
theorem c_X9_onesOf_vf {x : Int} {F A : gs_F} (hx : 0 ≤ x ∧ x < 64) : sC m_X9_onesOf 1 [gs_iv x] F A (fun rv F' A' => ∃ z : Int, rv = some (gs_iv z) ∧ F = F' ∧ A = A' ∧ (z = (dt_c x.toNat 6 : Int) ∧ 0 ≤ z ∧ z ≤ 6)) := by
  refine sC_of ok_X9_onesOf.1 (Nat.le_of_ble_eq_true rfl) ?_
  show sA _ _ _ 0 [(0, gs_iv x)] [] F A
  refine sA_iconst (z := 0) dd_X9_onesOf_0 ?_
  refine sA_istore_n (lv' := [(1, gs_iv 0), (0, gs_iv x)]) dd_X9_onesOf_1 rfl (by decide) rfl ?_
  refine sA_iconst (z := 0) dd_X9_onesOf_2 ?_
  refine sA_istore_n (lv' := [(2, gs_iv 0), (1, gs_iv 0), (0, gs_iv x)]) dd_X9_onesOf_3 rfl (by decide) rfl ?_
  refine sA_sub (lv2 := [(2, gs_iv 0), (1, gs_iv 0), (0, gs_iv x)]) (List.forall_mem_cons.mpr ⟨(.head _), (List.forall_mem_cons.mpr ⟨(.tail _ (.head _)), (List.forall_mem_cons.mpr ⟨(.tail _ (.tail _ (.head _))), (fun _ h => absurd h List.not_mem_nil)⟩)⟩)⟩) ?_
  exact (k_X9_onesOf_vf hx (12 - 0 : Int).toNat.succ) 0 0  (by omega) (by omega) (by omega) (by rfl) (by omega)
theorem k_X9_tableOf_vf {x u : Int} {F A : gs_F} (hI : gs_I F A) (hx : 1 ≤ x ∧ x ≤ 6) (hu : 1 ≤ u ∧ u ≤ 6) : ∀ nN : Nat, (∀ (n : Int) (k : Int),  0 ≤ k ∧ k ≤ 400 → -k ≤ n ∧ n ≤ k → n = dt_bal u (gs_stk (fun i => A 119 (400 * (x - 1).toNat + i)) k.toNat) → k ≤ A 120 (x - 1).toNat → 400 - k < (nN : Int) → sA m_X9_tableOf 2 (fun rv F' A' => ∃ z : Int, rv = some (gs_iv z) ∧ F = F' ∧ A = A' ∧ ((-400 ≤ z ∧ z ≤ 400) ∧ z = dt_bal u (gs_im A (x - 1).toNat))) 5 [(4, gs_iv k), (3, gs_iv n), (0, .ref 106), (1, gs_iv x), (2, gs_iv u)] [] F A) := by
  intro nN
  induction nN with
  | zero =>
    exact fun a0 a1 i0 i1 i2 i3 hm => by exfalso; omega
  | succ nN ih =>
    intro n k i0 i1 i2 i3 hm
    have hb120 : (0 : Int) ≤ A 120 (x - 1).toNat ∧ A 120 (x - 1).toNat ≤ 400 := hI.2 120 (x - 1).toNat
    refine sA_iload dd_X9_tableOf_5 (.head _) ?_
    refine sA_aload_n dd_X9_tableOf_7 rfl (.tail _ (.tail _ (.head _))) ?_
    refine sA_getr (ci := 9) (j := 26) (q := (RX9, TX9, 28)) dd_X9_tableOf_8 rfl (by decide) fl_X9_53 (by decide) gs_s106 rfl ?_
    refine sA_iload_n dd_X9_tableOf_11 rfl (.tail _ (.tail _ (.tail _ (.head _)))) ?_
    refine sA_iconst (z := 1) dd_X9_tableOf_12 ?_
    refine sA_isub dd_X9_tableOf_13 ?_
    refine sA_iald (n := 6) dd_X9_tableOf_14 (by decide) gs_s120 (by omega) (by decide) ?_
    have b1 : (0 : Int) ≤ A 120 (x - 1).toNat ∧ A 120 (x - 1).toNat ≤ 400 := hI.2 120 (x - 1).toNat
    refine sA_icmp_ge (tgt := 75) dd_X9_tableOf_15 (by decide) (by omega) (by omega) (fun q2 => ?_) (fun q2 => ?_)
    · skip
      refine sA_iload_n dd_X9_tableOf_75 rfl (.tail _ (.head _)) ?_
      refine sA_iret (z := n) dd_X9_tableOf_76 rfl ?_
      refine ⟨_, rfl, rfl, rfl, ?_⟩
      refine ⟨by omega, ?_⟩
      unfold gs_im
      rw [show A 120 (x - 1).toNat = k by omega]
      exact i2
    · skip
      refine sA_aload_n dd_X9_tableOf_18 rfl (.tail _ (.tail _ (.head _))) ?_
      refine sA_getr (ci := 9) (j := 25) (q := (RX9, TX9, 28)) dd_X9_tableOf_19 rfl (by decide) fl_X9_50 (by decide) gs_s106 rfl ?_
      refine sA_sipush (z := 400) dd_X9_tableOf_22 (by decide) ?_
      refine sA_iload_n dd_X9_tableOf_25 rfl (.tail _ (.tail _ (.tail _ (.head _)))) ?_
      refine sA_iconst (z := 1) dd_X9_tableOf_26 ?_
      refine sA_isub dd_X9_tableOf_27 ?_
      refine sA_imul dd_X9_tableOf_28 ?_
      refine sA_iload dd_X9_tableOf_29 (.head _) ?_
      refine sA_iadd dd_X9_tableOf_31 ?_
      refine sA_iald (n := 2400) dd_X9_tableOf_32 (by decide) gs_s119 (by omega) (by decide) ?_
      have b3 : (-9 : Int) ≤ A 119 ((400 * (x - 1)) + k).toNat ∧ A 119 ((400 * (x - 1)) + k).toNat ≤ 9 := hI.2 119 ((400 * (x - 1)) + k).toNat
      refine sA_istore (lv' := [(5, gs_iv (A 119 ((400 * (x - 1)) + k).toNat)), (4, gs_iv k), (3, gs_iv n), (0, .ref 106), (1, gs_iv x), (2, gs_iv u)]) dd_X9_tableOf_33 (by decide) rfl ?_
      refine sA_iload_n dd_X9_tableOf_35 rfl (.tail _ (.tail _ (.head _))) ?_
      refine sA_iload dd_X9_tableOf_36 (.head _) ?_
      refine sA_iload_n dd_X9_tableOf_38 rfl (.tail _ (.tail _ (.tail _ (.tail _ (.tail _ (.head _)))))) ?_
      refine sA_icmp_ne (tgt := 46) dd_X9_tableOf_39 (by decide) (by omega) (by omega) (fun q4 => ?_) (fun q4 => ?_)
      · skip
        refine sA_iconst (z := 0) dd_X9_tableOf_46 ?_
        refine sA_callS (y2 := m_X9_bit) (n2 := 1) (d2 := 1) (as := [gs_iv 0]) (rest := [gs_iv n]) dd_X9_tableOf_47 ok_X9_bit ml_X9_112 rfl rfl (Nat.le_of_ble_eq_true rfl) (by decide) (c_X9_bit (by omega)) (fun r5 F6 A7 h8 => ?_)
        obtain ⟨z11, e10, e12, e13, x9⟩ := h8
        subst e10 e12 e13
        show sA _ _ _ 50 _ [gs_iv z11, gs_iv n] _ _
        refine sA_iload dd_X9_tableOf_50 (.head _) ?_
        refine sA_iconst (z := 0) dd_X9_tableOf_52 ?_
        refine sA_iload_n dd_X9_tableOf_53 rfl (.tail _ (.tail _ (.tail _ (.tail _ (.tail _ (.head _)))))) ?_
        refine sA_isub dd_X9_tableOf_54 ?_
        refine sA_icmp_ne (tgt := 62) dd_X9_tableOf_55 (by decide) (by omega) (by omega) (fun q14 => ?_) (fun q14 => ?_)
        · skip
          refine sA_iconst (z := 0) dd_X9_tableOf_62 ?_
          refine sA_callS (y2 := m_X9_bit) (n2 := 1) (d2 := 1) (as := [gs_iv 0]) (rest := [gs_iv z11, gs_iv n]) dd_X9_tableOf_63 ok_X9_bit ml_X9_112 rfl rfl (Nat.le_of_ble_eq_true rfl) (by decide) (c_X9_bit (by omega)) (fun r15 F16 A17 h18 => ?_)
          obtain ⟨z21, e20, e22, e23, x19⟩ := h18
          subst e20 e22 e23
          show sA _ _ _ 66 _ [gs_iv z21, gs_iv z11, gs_iv n] _ _
          refine sA_isub dd_X9_tableOf_66 ?_
          refine sA_iadd dd_X9_tableOf_67 ?_
          refine sA_istore_n (lv' := [(3, gs_iv (n + (z11 - z21))), (5, gs_iv (A 119 ((400 * (x - 1)) + k).toNat)), (4, gs_iv k), (0, .ref 106), (1, gs_iv x), (2, gs_iv u)]) dd_X9_tableOf_68 rfl (by decide) rfl ?_
          refine sA_iinc (lv' := [(4, gs_iv (k + 1)), (3, gs_iv (n + (z11 - z21))), (5, gs_iv (A 119 ((400 * (x - 1)) + k).toNat)), (0, .ref 106), (1, gs_iv x), (2, gs_iv u)]) dd_X9_tableOf_69 (.tail _ (.tail _ (.head _))) (by decide) rfl ?_
          refine sA_goto (tgt := 5) dd_X9_tableOf_72 (by decide) ?_
          refine sA_sub (lv2 := [(4, gs_iv (k + 1)), (3, gs_iv (n + (z11 - z21))), (0, .ref 106), (1, gs_iv x), (2, gs_iv u)]) (List.forall_mem_cons.mpr ⟨(.head _), (List.forall_mem_cons.mpr ⟨(.tail _ (.head _)), (List.forall_mem_cons.mpr ⟨(.tail _ (.tail _ (.tail _ (.head _)))), (List.forall_mem_cons.mpr ⟨(.tail _ (.tail _ (.tail _ (.tail _ (.head _))))), (List.forall_mem_cons.mpr ⟨(.tail _ (.tail _ (.tail _ (.tail _ (.tail _ (.head _)))))), (fun _ h => absurd h List.not_mem_nil)⟩)⟩)⟩)⟩)⟩) ?_
          exact ih (n + (z11 - z21)) (k + 1)  (by omega) (by omega) (by rw [show (k + 1).toNat = k.toNat + 1 by omega]; show _ = dt_bal u (gs_stk (fun i => A 119 (400 * (x - 1).toNat + i)) k.toNat) + (if A 119 (400 * (x - 1).toNat + k.toNat) = u then 1 else if A 119 (400 * (x - 1).toNat + k.toNat) = -u then -1 else 0); rw [show 400 * (x - 1).toNat + k.toNat = (400 * (x - 1) + k).toNat by omega]; (first | rw [if_pos (by omega)] | rw [if_neg (by omega), if_pos (by omega)] | rw [if_neg (by omega), if_neg (by omega)] | fail); omega) (by omega) (by omega)
        · skip
          refine sA_iconst (z := 1) dd_X9_tableOf_58 ?_
          refine sA_goto (tgt := 63) dd_X9_tableOf_59 (by decide) ?_
          refine sA_callS (y2 := m_X9_bit) (n2 := 1) (d2 := 1) (as := [gs_iv 1]) (rest := [gs_iv z11, gs_iv n]) dd_X9_tableOf_63 ok_X9_bit ml_X9_112 rfl rfl (Nat.le_of_ble_eq_true rfl) (by decide) (c_X9_bit (by omega)) (fun r24 F25 A26 h27 => ?_)
          obtain ⟨z30, e29, e31, e32, x28⟩ := h27
          subst e29 e31 e32
          show sA _ _ _ 66 _ [gs_iv z30, gs_iv z11, gs_iv n] _ _
          refine sA_isub dd_X9_tableOf_66 ?_
          refine sA_iadd dd_X9_tableOf_67 ?_
          refine sA_istore_n (lv' := [(3, gs_iv (n + (z11 - z30))), (5, gs_iv (A 119 ((400 * (x - 1)) + k).toNat)), (4, gs_iv k), (0, .ref 106), (1, gs_iv x), (2, gs_iv u)]) dd_X9_tableOf_68 rfl (by decide) rfl ?_
          refine sA_iinc (lv' := [(4, gs_iv (k + 1)), (3, gs_iv (n + (z11 - z30))), (5, gs_iv (A 119 ((400 * (x - 1)) + k).toNat)), (0, .ref 106), (1, gs_iv x), (2, gs_iv u)]) dd_X9_tableOf_69 (.tail _ (.tail _ (.head _))) (by decide) rfl ?_
          refine sA_goto (tgt := 5) dd_X9_tableOf_72 (by decide) ?_
          refine sA_sub (lv2 := [(4, gs_iv (k + 1)), (3, gs_iv (n + (z11 - z30))), (0, .ref 106), (1, gs_iv x), (2, gs_iv u)]) (List.forall_mem_cons.mpr ⟨(.head _), (List.forall_mem_cons.mpr ⟨(.tail _ (.head _)), (List.forall_mem_cons.mpr ⟨(.tail _ (.tail _ (.tail _ (.head _)))), (List.forall_mem_cons.mpr ⟨(.tail _ (.tail _ (.tail _ (.tail _ (.head _))))), (List.forall_mem_cons.mpr ⟨(.tail _ (.tail _ (.tail _ (.tail _ (.tail _ (.head _)))))), (fun _ h => absurd h List.not_mem_nil)⟩)⟩)⟩)⟩)⟩) ?_
          exact ih (n + (z11 - z30)) (k + 1)  (by omega) (by omega) (by rw [show (k + 1).toNat = k.toNat + 1 by omega]; show _ = dt_bal u (gs_stk (fun i => A 119 (400 * (x - 1).toNat + i)) k.toNat) + (if A 119 (400 * (x - 1).toNat + k.toNat) = u then 1 else if A 119 (400 * (x - 1).toNat + k.toNat) = -u then -1 else 0); rw [show 400 * (x - 1).toNat + k.toNat = (400 * (x - 1) + k).toNat by omega]; (first | rw [if_pos (by omega)] | rw [if_neg (by omega), if_pos (by omega)] | rw [if_neg (by omega), if_neg (by omega)] | fail); omega) (by omega) (by omega)
      · skip
        refine sA_iconst (z := 1) dd_X9_tableOf_42 ?_
        refine sA_goto (tgt := 47) dd_X9_tableOf_43 (by decide) ?_
        refine sA_callS (y2 := m_X9_bit) (n2 := 1) (d2 := 1) (as := [gs_iv 1]) (rest := [gs_iv n]) dd_X9_tableOf_47 ok_X9_bit ml_X9_112 rfl rfl (Nat.le_of_ble_eq_true rfl) (by decide) (c_X9_bit (by omega)) (fun r33 F34 A35 h36 => ?_)
        obtain ⟨z39, e38, e40, e41, x37⟩ := h36
        subst e38 e40 e41
        show sA _ _ _ 50 _ [gs_iv z39, gs_iv n] _ _
        refine sA_iload dd_X9_tableOf_50 (.head _) ?_
        refine sA_iconst (z := 0) dd_X9_tableOf_52 ?_
        refine sA_iload_n dd_X9_tableOf_53 rfl (.tail _ (.tail _ (.tail _ (.tail _ (.tail _ (.head _)))))) ?_
        refine sA_isub dd_X9_tableOf_54 ?_
        refine sA_icmp_ne (tgt := 62) dd_X9_tableOf_55 (by decide) (by omega) (by omega) (fun q42 => ?_) (fun q42 => ?_)
        · skip
          refine sA_iconst (z := 0) dd_X9_tableOf_62 ?_
          refine sA_callS (y2 := m_X9_bit) (n2 := 1) (d2 := 1) (as := [gs_iv 0]) (rest := [gs_iv z39, gs_iv n]) dd_X9_tableOf_63 ok_X9_bit ml_X9_112 rfl rfl (Nat.le_of_ble_eq_true rfl) (by decide) (c_X9_bit (by omega)) (fun r43 F44 A45 h46 => ?_)
          obtain ⟨z49, e48, e50, e51, x47⟩ := h46
          subst e48 e50 e51
          show sA _ _ _ 66 _ [gs_iv z49, gs_iv z39, gs_iv n] _ _
          refine sA_isub dd_X9_tableOf_66 ?_
          refine sA_iadd dd_X9_tableOf_67 ?_
          refine sA_istore_n (lv' := [(3, gs_iv (n + (z39 - z49))), (5, gs_iv (A 119 ((400 * (x - 1)) + k).toNat)), (4, gs_iv k), (0, .ref 106), (1, gs_iv x), (2, gs_iv u)]) dd_X9_tableOf_68 rfl (by decide) rfl ?_
          refine sA_iinc (lv' := [(4, gs_iv (k + 1)), (3, gs_iv (n + (z39 - z49))), (5, gs_iv (A 119 ((400 * (x - 1)) + k).toNat)), (0, .ref 106), (1, gs_iv x), (2, gs_iv u)]) dd_X9_tableOf_69 (.tail _ (.tail _ (.head _))) (by decide) rfl ?_
          refine sA_goto (tgt := 5) dd_X9_tableOf_72 (by decide) ?_
          refine sA_sub (lv2 := [(4, gs_iv (k + 1)), (3, gs_iv (n + (z39 - z49))), (0, .ref 106), (1, gs_iv x), (2, gs_iv u)]) (List.forall_mem_cons.mpr ⟨(.head _), (List.forall_mem_cons.mpr ⟨(.tail _ (.head _)), (List.forall_mem_cons.mpr ⟨(.tail _ (.tail _ (.tail _ (.head _)))), (List.forall_mem_cons.mpr ⟨(.tail _ (.tail _ (.tail _ (.tail _ (.head _))))), (List.forall_mem_cons.mpr ⟨(.tail _ (.tail _ (.tail _ (.tail _ (.tail _ (.head _)))))), (fun _ h => absurd h List.not_mem_nil)⟩)⟩)⟩)⟩)⟩) ?_
          exact ih (n + (z39 - z49)) (k + 1)  (by omega) (by omega) (by rw [show (k + 1).toNat = k.toNat + 1 by omega]; show _ = dt_bal u (gs_stk (fun i => A 119 (400 * (x - 1).toNat + i)) k.toNat) + (if A 119 (400 * (x - 1).toNat + k.toNat) = u then 1 else if A 119 (400 * (x - 1).toNat + k.toNat) = -u then -1 else 0); rw [show 400 * (x - 1).toNat + k.toNat = (400 * (x - 1) + k).toNat by omega]; (first | rw [if_pos (by omega)] | rw [if_neg (by omega), if_pos (by omega)] | rw [if_neg (by omega), if_neg (by omega)] | fail); omega) (by omega) (by omega)
        · skip
          refine sA_iconst (z := 1) dd_X9_tableOf_58 ?_
          refine sA_goto (tgt := 63) dd_X9_tableOf_59 (by decide) ?_
          refine sA_callS (y2 := m_X9_bit) (n2 := 1) (d2 := 1) (as := [gs_iv 1]) (rest := [gs_iv z39, gs_iv n]) dd_X9_tableOf_63 ok_X9_bit ml_X9_112 rfl rfl (Nat.le_of_ble_eq_true rfl) (by decide) (c_X9_bit (by omega)) (fun r52 F53 A54 h55 => ?_)
          obtain ⟨z58, e57, e59, e60, x56⟩ := h55
          subst e57 e59 e60
          show sA _ _ _ 66 _ [gs_iv z58, gs_iv z39, gs_iv n] _ _
          refine sA_isub dd_X9_tableOf_66 ?_
          refine sA_iadd dd_X9_tableOf_67 ?_
          refine sA_istore_n (lv' := [(3, gs_iv (n + (z39 - z58))), (5, gs_iv (A 119 ((400 * (x - 1)) + k).toNat)), (4, gs_iv k), (0, .ref 106), (1, gs_iv x), (2, gs_iv u)]) dd_X9_tableOf_68 rfl (by decide) rfl ?_
          refine sA_iinc (lv' := [(4, gs_iv (k + 1)), (3, gs_iv (n + (z39 - z58))), (5, gs_iv (A 119 ((400 * (x - 1)) + k).toNat)), (0, .ref 106), (1, gs_iv x), (2, gs_iv u)]) dd_X9_tableOf_69 (.tail _ (.tail _ (.head _))) (by decide) rfl ?_
          refine sA_goto (tgt := 5) dd_X9_tableOf_72 (by decide) ?_
          refine sA_sub (lv2 := [(4, gs_iv (k + 1)), (3, gs_iv (n + (z39 - z58))), (0, .ref 106), (1, gs_iv x), (2, gs_iv u)]) (List.forall_mem_cons.mpr ⟨(.head _), (List.forall_mem_cons.mpr ⟨(.tail _ (.head _)), (List.forall_mem_cons.mpr ⟨(.tail _ (.tail _ (.tail _ (.head _)))), (List.forall_mem_cons.mpr ⟨(.tail _ (.tail _ (.tail _ (.tail _ (.head _))))), (List.forall_mem_cons.mpr ⟨(.tail _ (.tail _ (.tail _ (.tail _ (.tail _ (.head _)))))), (fun _ h => absurd h List.not_mem_nil)⟩)⟩)⟩)⟩)⟩) ?_
          exact ih (n + (z39 - z58)) (k + 1)  (by omega) (by omega) (by rw [show (k + 1).toNat = k.toNat + 1 by omega]; show _ = dt_bal u (gs_stk (fun i => A 119 (400 * (x - 1).toNat + i)) k.toNat) + (if A 119 (400 * (x - 1).toNat + k.toNat) = u then 1 else if A 119 (400 * (x - 1).toNat + k.toNat) = -u then -1 else 0); rw [show 400 * (x - 1).toNat + k.toNat = (400 * (x - 1) + k).toNat by omega]; (first | rw [if_pos (by omega)] | rw [if_neg (by omega), if_pos (by omega)] | rw [if_neg (by omega), if_neg (by omega)] | fail); omega) (by omega) (by omega)
theorem c_X9_tableOf_vf {x u : Int} {F A : gs_F} (hI : gs_I F A) (hx : 1 ≤ x ∧ x ≤ 6) (hu : 1 ≤ u ∧ u ≤ 6) : sC m_X9_tableOf 2 [.ref 106, gs_iv x, gs_iv u] F A (fun rv F' A' => ∃ z : Int, rv = some (gs_iv z) ∧ F = F' ∧ A = A' ∧ ((-400 ≤ z ∧ z ≤ 400) ∧ z = dt_bal u (gs_im A (x - 1).toNat))) := by
  refine sC_of ok_X9_tableOf.1 (Nat.le_of_ble_eq_true rfl) ?_
  show sA _ _ _ 0 [(0, .ref 106), (1, gs_iv x), (2, gs_iv u)] [] F A
  have hb120 : (0 : Int) ≤ A 120 (x - 1).toNat ∧ A 120 (x - 1).toNat ≤ 400 := hI.2 120 (x - 1).toNat
  refine sA_iconst (z := 0) dd_X9_tableOf_0 ?_
  refine sA_istore_n (lv' := [(3, gs_iv 0), (0, .ref 106), (1, gs_iv x), (2, gs_iv u)]) dd_X9_tableOf_1 rfl (by decide) rfl ?_
  refine sA_iconst (z := 0) dd_X9_tableOf_2 ?_
  refine sA_istore (lv' := [(4, gs_iv 0), (3, gs_iv 0), (0, .ref 106), (1, gs_iv x), (2, gs_iv u)]) dd_X9_tableOf_3 (by decide) rfl ?_
  refine sA_sub (lv2 := [(4, gs_iv 0), (3, gs_iv 0), (0, .ref 106), (1, gs_iv x), (2, gs_iv u)]) (List.forall_mem_cons.mpr ⟨(.head _), (List.forall_mem_cons.mpr ⟨(.tail _ (.head _)), (List.forall_mem_cons.mpr ⟨(.tail _ (.tail _ (.head _))), (List.forall_mem_cons.mpr ⟨(.tail _ (.tail _ (.tail _ (.head _)))), (List.forall_mem_cons.mpr ⟨(.tail _ (.tail _ (.tail _ (.tail _ (.head _))))), (fun _ h => absurd h List.not_mem_nil)⟩)⟩)⟩)⟩)⟩) ?_
  exact (k_X9_tableOf_vf hI hx hu (400 - 0 : Int).toNat.succ) 0 0  (by omega) (by omega) (by rfl) (by omega) (by omega)
theorem k_X9_determinant_vf {e : Int} {F A : gs_F} (hI : gs_I F A) (he : 0 ≤ e ∧ e ≤ 63) (he2 : e.toNat < 2 ^ (2 * F 106 0).toNat) : ∀ nN : Nat, (∀ (r : Int) (c : Int)  (F1 A1 : gs_F), gs_I F1 A1 → gs_fr (fun _ _ => False) (fun c => c = 121) F A F1 A1 → 0 ≤ c ∧ c ≤ 64 → r = 0 → (∀ m : Nat, (m : Int) < c → A1 121 m = if m = 0 then 1 else 0) → F1 106 0 = F 106 0 → 100000 + (64 - c) < (nN : Int) → sA m_X9_determinant 3 (fun rv F' A' => ∃ z : Int64, rv = some (.long z) ∧ gs_I F' A' ∧ gs_fr (fun _ _ => False) (fun c => c = 121) F A F' A' ∧ (z = Int64.ofInt (dt_2 (dt_T9 A) (dt_rows e.toNat 6) e.toNat))) 4 [(3, gs_iv c), (2, gs_iv r), (0, .ref 106), (1, gs_iv e)] [] F1 A1) ∧ (∀ (r : Int) (x : Int)  (F1 A1 : gs_F), gs_I F1 A1 → gs_fr (fun _ _ => False) (fun c => c = 121) F A F1 A1 → 1 ≤ x ∧ x ≤ 7 → 0 ≤ r ∧ r < x → r = (dt_c e.toNat (x - 1).toNat : Int) → dt_mi (dt_T9 A) (A1 121) e.toNat r (dt_rows e.toNat (x - 1).toNat) → x ≤ 2 * F 106 0 + 1 → F1 106 0 = F 106 0 → (8 - x) * 10000 + 1 < (nN : Int) → sA m_X9_determinant 3 (fun rv F' A' => ∃ z : Int64, rv = some (.long z) ∧ gs_I F' A' ∧ gs_fr (fun _ _ => False) (fun c => c = 121) F A F' A' ∧ (z = Int64.ofInt (dt_2 (dt_T9 A) (dt_rows e.toNat 6) e.toNat))) 33 [(3, gs_iv x), (2, gs_iv r), (0, .ref 106), (1, gs_iv e)] [] F1 A1) ∧ (∀ (r : Int) (x : Int) (c : Int)  (F1 A1 : gs_F), gs_I F1 A1 → gs_fr (fun _ _ => False) (fun c => c = 121) F A F1 A1 → 1 ≤ x ∧ x ≤ 6 → 0 ≤ r ∧ r ≤ x → 0 ≤ c ∧ c ≤ 63 → r = (dt_c e.toNat (x - 1).toNat : Int) + 1 → e.toNat.testBit (x - 1).toNat = true → dt_mi (dt_T9 A) (A1 121) e.toNat (r - 1) (dt_rows e.toNat (x - 1).toNat) → (∀ m : Nat, m < 64 → c < (m : Int) → dt_sub m e.toNat = true → (dt_c m 6 : Int) = r → Int64.ofInt (A1 121 m) = Int64.ofInt (dt_2 (dt_T9 A) ((x - 1).toNat :: (dt_rows e.toNat (x - 1).toNat)) m)) → x ≤ 2 * F 106 0 → F1 106 0 = F 106 0 → (8 - x) * 10000 - 6400 + c * 100 < (nN : Int) → sA m_X9_determinant 3 (fun rv F' A' => ∃ z : Int64, rv = some (.long z) ∧ gs_I F' A' ∧ gs_fr (fun _ _ => False) (fun c => c = 121) F A F' A' ∧ (z = Int64.ofInt (dt_2 (dt_T9 A) (dt_rows e.toNat 6) e.toNat))) 61 [(4, gs_iv c), (3, gs_iv x), (2, gs_iv r), (0, .ref 106), (1, gs_iv e)] [] F1 A1) ∧ (∀ (r : Int) (x : Int) (c : Int) (s : Int64) (u : Int)  (F1 A1 : gs_F), gs_I F1 A1 → gs_fr (fun _ _ => False) (fun c => c = 121) F A F1 A1 → 1 ≤ x ∧ x ≤ 6 → 0 ≤ r ∧ r ≤ x → 1 ≤ c ∧ c ≤ 63 → 1 ≤ u ∧ u ≤ 7 → r = (dt_c e.toNat (x - 1).toNat : Int) + 1 → e.toNat.testBit (x - 1).toNat = true → x ≤ 2 * F 106 0 ∧ F1 106 0 = F 106 0 → u ≤ 2 * F 106 0 + 1 → dt_sub c.toNat e.toNat = true → dt_mi (dt_T9 A) (A1 121) e.toNat (r - 1) (dt_rows e.toNat (x - 1).toNat) → (∀ m : Nat, m < 64 → c < (m : Int) → dt_sub m e.toNat = true → (dt_c m 6 : Int) = r → Int64.ofInt (A1 121 m) = Int64.ofInt (dt_2 (dt_T9 A) ((x - 1).toNat :: (dt_rows e.toNat (x - 1).toNat)) m)) → (dt_c c.toNat 6 : Int) = r → s = Int64.ofInt (gs_sum (dt_tm2 (dt_T9 A) (x - 1).toNat (dt_rows e.toNat (x - 1).toNat) c.toNat) (u - 1).toNat) → (8 - x) * 10000 - 6400 + c * 100 - u < (nN : Int) → sA m_X9_determinant 3 (fun rv F' A' => ∃ z : Int64, rv = some (.long z) ∧ gs_I F' A' ∧ gs_fr (fun _ _ => False) (fun c => c = 121) F A F' A' ∧ (z = Int64.ofInt (dt_2 (dt_T9 A) (dt_rows e.toNat 6) e.toNat))) 90 [(7, gs_iv u), (5, .long s), (4, gs_iv c), (3, gs_iv x), (2, gs_iv r), (0, .ref 106), (1, gs_iv e)] [] F1 A1) := by
  intro nN
  induction nN with
  | zero =>
    exact ⟨fun a0 a1 a2 a3 a4 a5 i0 i1 i2 i3 hm => by exfalso; omega, fun a0 a1 a2 a3 a4 a5 i0 i1 i2 i3 i4 i5 hm => by exfalso; omega, fun a0 a1 a2 a3 a4 a5 a6 i0 i1 i2 i3 i4 i5 i6 i7 i8 hm => by exfalso; omega, fun a0 a1 a2 a3 a4 a5 a6 a7 a8 i0 i1 i2 i3 i4 i5 i6 i7 i8 i9 i10 i11 i12 hm => by exfalso; omega⟩
  | succ nN ih =>
    refine ⟨?_, ?_, ?_, ?_⟩
    · skip
      intro r c F1 A1 hI1 hf1 i0 i1 i2 i3 hm
      have b1 : (1 : Int) ≤ F1 106 0 ∧ F1 106 0 ≤ 3 := hI1.1 106 0
      have u2 : A1 121 = A1 121 := rfl
      have hb0g : (1 : Int) ≤ F 106 0 ∧ F 106 0 ≤ 3 := hI.1 106 0
      refine sA_iload_n dd_X9_determinant_4 rfl (.head _) ?_
      refine sA_bipush (z := 64) dd_X9_determinant_5 (by decide) ?_
      refine sA_icmp_ge (tgt := 31) dd_X9_determinant_7 (by decide) (by omega) (by omega) (fun q3 => ?_) (fun q3 => ?_)
      · skip
        refine sA_iconst (z := 1) dd_X9_determinant_31 ?_
        refine sA_istore_n (lv' := [(3, gs_iv 1), (2, gs_iv r), (0, .ref 106), (1, gs_iv e)]) dd_X9_determinant_32 rfl (by decide) rfl ?_
        refine sA_sub (lv2 := [(3, gs_iv 1), (2, gs_iv r), (0, .ref 106), (1, gs_iv e)]) (List.forall_mem_cons.mpr ⟨(.head _), (List.forall_mem_cons.mpr ⟨(.tail _ (.head _)), (List.forall_mem_cons.mpr ⟨(.tail _ (.tail _ (.head _))), (List.forall_mem_cons.mpr ⟨(.tail _ (.tail _ (.tail _ (.head _)))), (fun _ h => absurd h List.not_mem_nil)⟩)⟩)⟩)⟩) ?_
        exact ih.2.1 r 1 F1 A1 hI1 hf1 (by omega) (by omega) (by rw [i1]; rfl) (fun m hm hs hr => by have h0 := (dt_c_le ⟨m, hm⟩).2.2 (show dt_c m 6 = 0 by omega); have h0 : m = 0 := h0; subst h0; rw [i2 0 (by omega)]; rfl) (by omega) (by omega) (by omega)
      · skip
        refine sA_aload_n dd_X9_determinant_10 rfl (.tail _ (.tail _ (.head _))) ?_
        refine sA_getr (ci := 9) (j := 27) (q := (RX9, TX9, 28)) dd_X9_determinant_11 rfl (by decide) fl_X9_56 (by decide) gs_s106 rfl ?_
        refine sA_iload_n dd_X9_determinant_14 rfl (.head _) ?_
        refine sA_iload_n dd_X9_determinant_15 rfl (.head _) ?_
        refine sA_if_ne (tgt := 23) dd_X9_determinant_16 (by decide) (by omega) (fun q4 => ?_) (fun q4 => ?_)
        · skip
          refine sA_lconst (z := 0) dd_X9_determinant_23 (by decide) ?_
          refine sA_last (n := 64) dd_X9_determinant_24 (by decide) gs_s121 (by omega) (by decide) ?_
          have I6 : gs_I F1 (gs_up A1 121 c.toNat 0) := gs_I_ast hI1 (show (-9223372036854775808 : Int) ≤ 0 ∧ 0 ≤ 9223372036854775807 by omega)
          have f7 := gs_fr_ast hf1 (a := 121) (z := 0) (i := c.toNat) (by first | omega | (dsimp only; omega) | (dsimp only) | fail)
          have u8 : (gs_up A1 121 c.toNat 0) 121 = gs_u (A1 121) c.toNat 0 := (gs_up_u A1 121 c.toNat 0).trans (congrArg (fun f => gs_u f c.toNat 0) u2)
          generalize gs_up A1 121 c.toNat 0 = A5 at I6 f7 u8 ⊢
          refine sA_iinc (lv' := [(3, gs_iv (c + 1)), (2, gs_iv r), (0, .ref 106), (1, gs_iv e)]) dd_X9_determinant_25 (.head _) (by decide) rfl ?_
          refine sA_goto (tgt := 4) dd_X9_determinant_28 (by decide) ?_
          refine sA_sub (lv2 := [(3, gs_iv (c + 1)), (2, gs_iv r), (0, .ref 106), (1, gs_iv e)]) (List.forall_mem_cons.mpr ⟨(.head _), (List.forall_mem_cons.mpr ⟨(.tail _ (.head _)), (List.forall_mem_cons.mpr ⟨(.tail _ (.tail _ (.head _))), (List.forall_mem_cons.mpr ⟨(.tail _ (.tail _ (.tail _ (.head _)))), (fun _ h => absurd h List.not_mem_nil)⟩)⟩)⟩)⟩) ?_
          exact ih.1 r (c + 1) F1 A5 I6 f7 (by omega) (by omega) (fun m hm => by rw [u8]; by_cases h : m = c.toNat <;> first | (rw [h, gs_u_self]; first | rw [if_pos (by omega)] | rw [if_neg (by omega)] | fail) | (rw [gs_u_ne _ _ h]; exact i2 m (by omega)) | fail) (by omega) (by omega)
        · skip
          refine sA_lconst (z := 1) dd_X9_determinant_19 (by decide) ?_
          refine sA_goto (tgt := 24) dd_X9_determinant_20 (by decide) ?_
          refine sA_last (n := 64) dd_X9_determinant_24 (by decide) gs_s121 (by omega) (by decide) ?_
          have I10 : gs_I F1 (gs_up A1 121 c.toNat 1) := gs_I_ast hI1 (show (-9223372036854775808 : Int) ≤ 1 ∧ 1 ≤ 9223372036854775807 by omega)
          have f11 := gs_fr_ast hf1 (a := 121) (z := 1) (i := c.toNat) (by first | omega | (dsimp only; omega) | (dsimp only) | fail)
          have u12 : (gs_up A1 121 c.toNat 1) 121 = gs_u (A1 121) c.toNat 1 := (gs_up_u A1 121 c.toNat 1).trans (congrArg (fun f => gs_u f c.toNat 1) u2)
          generalize gs_up A1 121 c.toNat 1 = A9 at I10 f11 u12 ⊢
          refine sA_iinc (lv' := [(3, gs_iv (c + 1)), (2, gs_iv r), (0, .ref 106), (1, gs_iv e)]) dd_X9_determinant_25 (.head _) (by decide) rfl ?_
          refine sA_goto (tgt := 4) dd_X9_determinant_28 (by decide) ?_
          refine sA_sub (lv2 := [(3, gs_iv (c + 1)), (2, gs_iv r), (0, .ref 106), (1, gs_iv e)]) (List.forall_mem_cons.mpr ⟨(.head _), (List.forall_mem_cons.mpr ⟨(.tail _ (.head _)), (List.forall_mem_cons.mpr ⟨(.tail _ (.tail _ (.head _))), (List.forall_mem_cons.mpr ⟨(.tail _ (.tail _ (.tail _ (.head _)))), (fun _ h => absurd h List.not_mem_nil)⟩)⟩)⟩)⟩) ?_
          exact ih.1 r (c + 1) F1 A9 I10 f11 (by omega) (by omega) (fun m hm => by rw [u12]; by_cases h : m = c.toNat <;> first | (rw [h, gs_u_self]; first | rw [if_pos (by omega)] | rw [if_neg (by omega)] | fail) | (rw [gs_u_ne _ _ h]; exact i2 m (by omega)) | fail) (by omega) (by omega)
    · skip
      intro r x F1 A1 hI1 hf1 i0 i1 i2 i3 i4 i5 hm
      have b13 : (1 : Int) ≤ F1 106 0 ∧ F1 106 0 ≤ 3 := hI1.1 106 0
      have u14 : A1 121 = A1 121 := rfl
      have hb0g : (1 : Int) ≤ F 106 0 ∧ F 106 0 ≤ 3 := hI.1 106 0
      refine sA_iload_n dd_X9_determinant_33 rfl (.head _) ?_
      refine sA_iconst (z := 2) dd_X9_determinant_34 ?_
      refine sA_aload_n dd_X9_determinant_35 rfl (.tail _ (.tail _ (.head _))) ?_
      refine sA_geti (ci := 9) (j := 0) (q := (RX9, TX9, 28)) dd_X9_determinant_36 rfl (by decide) fl_X9_64 (by decide) gs_s106 rfl ?_
      refine sA_imul dd_X9_determinant_39 ?_
      refine sA_icmp_gt (tgt := 196) dd_X9_determinant_40 (by decide) (by omega) (by omega) (fun q15 => ?_) (fun q15 => ?_)
      · skip
        refine sA_aload_n dd_X9_determinant_196 rfl (.tail _ (.tail _ (.head _))) ?_
        refine sA_getr (ci := 9) (j := 27) (q := (RX9, TX9, 28)) dd_X9_determinant_197 rfl (by decide) fl_X9_56 (by decide) gs_s106 rfl ?_
        refine sA_iload_n dd_X9_determinant_200 rfl (.tail _ (.tail _ (.tail _ (.head _)))) ?_
        refine sA_lald (n := 64) dd_X9_determinant_201 (by decide) gs_s121 (by omega) (by decide) ?_
        have b16 : (-9223372036854775808 : Int) ≤ A1 121 e.toNat ∧ A1 121 e.toNat ≤ 9223372036854775807 := hI1.2 121 e.toNat
        refine sA_lret dd_X9_determinant_202 rfl ?_
        refine ⟨_, rfl, hI1, hf1, ?_⟩
        obtain ⟨w1, w2⟩ := dt_rowsb ⟨(2 * F 106 0).toNat, by omega⟩ ⟨e.toNat, by omega⟩ he2
        have w1 : dt_rows e.toNat (2 * F 106 0).toNat = dt_rows e.toNat 6 := w1
        have w2 : dt_c e.toNat (2 * F 106 0).toNat = dt_c e.toNat 6 := w2
        have ex : (x - 1).toNat = (2 * F 106 0).toNat := by omega
        rw [ex] at i2 i3
        rw [w1] at i3
        exact i3 e.toNat (by omega) (dt_sub_self ⟨e.toNat, by omega⟩) (by omega)
      · skip
        refine sA_iload_n dd_X9_determinant_43 rfl (.tail _ (.tail _ (.tail _ (.head _)))) ?_
        refine sA_iload_n dd_X9_determinant_44 rfl (.head _) ?_
        refine sA_iconst (z := 1) dd_X9_determinant_45 ?_
        refine sA_isub dd_X9_determinant_46 ?_
        refine sA_ishr dd_X9_determinant_47 ?_
        have b17 := gs_t_rng (Int32.ofInt e >>> (Int32.ofInt (x - 1) &&& 31))
        generalize hw18 : gs_t (Int32.ofInt e >>> (Int32.ofInt (x - 1) &&& 31)) = w18 at b17 ⊢
        refine sA_iconst (z := 1) dd_X9_determinant_48 ?_
        refine sA_iand dd_X9_determinant_49 ?_
        have b19 := gs_t_rng (Int32.ofInt w18 &&& Int32.ofInt 1)
        generalize hw20 : gs_t (Int32.ofInt w18 &&& Int32.ofInt 1) = w20 at b19 ⊢
        have hxv : w20 = if e.toNat.testBit (x - 1).toNat then 1 else 0 := by
          have h := dt_hb_at (e := e) (k := x - 1) (by omega) (by omega)
          unfold dt_hb at h
          rw [hw18] at h
          exact hw20.symm.trans h
        refine sA_iconst (z := 1) dd_X9_determinant_50 ?_
        refine sA_icmp_ne (tgt := 190) dd_X9_determinant_51 (by decide) (by omega) (by omega) (fun q21 => ?_) (fun q21 => ?_)
        · skip
          refine sA_iinc (lv' := [(3, gs_iv (x + 1)), (2, gs_iv r), (0, .ref 106), (1, gs_iv e)]) dd_X9_determinant_190 (.head _) (by decide) rfl ?_
          refine sA_goto (tgt := 33) dd_X9_determinant_193 (by decide) ?_
          refine sA_sub (lv2 := [(3, gs_iv (x + 1)), (2, gs_iv r), (0, .ref 106), (1, gs_iv e)]) (List.forall_mem_cons.mpr ⟨(.head _), (List.forall_mem_cons.mpr ⟨(.tail _ (.head _)), (List.forall_mem_cons.mpr ⟨(.tail _ (.tail _ (.head _))), (List.forall_mem_cons.mpr ⟨(.tail _ (.tail _ (.tail _ (.head _)))), (fun _ h => absurd h List.not_mem_nil)⟩)⟩)⟩)⟩) ?_
          exact ih.2.1 r (x + 1) F1 A1 hI1 hf1 (by omega) (by omega) (by rw [show (x + 1 - 1).toNat = (x - 1).toNat + 1 by omega, dt_c_0 (fun w => by rw [if_pos w] at hxv; omega)]; exact i2) (by rw [show (x + 1 - 1).toNat = (x - 1).toNat + 1 by omega, dt_rows_0 (fun w => by rw [if_pos w] at hxv; omega)]; exact i3) (by omega) (by omega) (by omega)
        · skip
          have hxt1 : e.toNat.testBit (x - 1).toNat = true := by
            by_cases q : e.toNat.testBit (x - 1).toNat = true
            · exact q
            · rw [if_neg q] at hxv
              omega
          refine sA_iinc (lv' := [(2, gs_iv (r + 1)), (3, gs_iv x), (0, .ref 106), (1, gs_iv e)]) dd_X9_determinant_54 (.tail _ (.head _)) (by decide) rfl ?_
          refine sA_bipush (z := 63) dd_X9_determinant_57 (by decide) ?_
          refine sA_istore (lv' := [(4, gs_iv 63), (2, gs_iv (r + 1)), (3, gs_iv x), (0, .ref 106), (1, gs_iv e)]) dd_X9_determinant_59 (by decide) rfl ?_
          refine sA_sub (lv2 := [(4, gs_iv 63), (3, gs_iv x), (2, gs_iv (r + 1)), (0, .ref 106), (1, gs_iv e)]) (List.forall_mem_cons.mpr ⟨(.head _), (List.forall_mem_cons.mpr ⟨(.tail _ (.tail _ (.head _))), (List.forall_mem_cons.mpr ⟨(.tail _ (.head _)), (List.forall_mem_cons.mpr ⟨(.tail _ (.tail _ (.tail _ (.head _)))), (List.forall_mem_cons.mpr ⟨(.tail _ (.tail _ (.tail _ (.tail _ (.head _))))), (fun _ h => absurd h List.not_mem_nil)⟩)⟩)⟩)⟩)⟩) ?_
          exact ih.2.2.1 (r + 1) x 63 F1 A1 hI1 hf1 (by omega) (by omega) (by omega) (by omega) hxt1 (by rw [show r + 1 - 1 = r by omega]; exact i3) (fun m hm hc => by exfalso; omega) (by omega) (by omega) (by omega)
    · skip
      intro r x c F1 A1 hI1 hf1 i0 i1 i2 i3 i4 i5 i6 i7 i8 hm
      have b22 : (1 : Int) ≤ F1 106 0 ∧ F1 106 0 ≤ 3 := hI1.1 106 0
      have u23 : A1 121 = A1 121 := rfl
      have hb0g : (1 : Int) ≤ F 106 0 ∧ F 106 0 ≤ 3 := hI.1 106 0
      refine sA_iload dd_X9_determinant_61 (.head _) ?_
      refine sA_if_le (tgt := 190) dd_X9_determinant_63 (by decide) (by omega) (fun q24 => ?_) (fun q24 => ?_)
      · skip
        refine sA_iinc (lv' := [(3, gs_iv (x + 1)), (4, gs_iv c), (2, gs_iv r), (0, .ref 106), (1, gs_iv e)]) dd_X9_determinant_190 (.tail _ (.head _)) (by decide) rfl ?_
        refine sA_goto (tgt := 33) dd_X9_determinant_193 (by decide) ?_
        refine sA_sub (lv2 := [(3, gs_iv (x + 1)), (2, gs_iv r), (0, .ref 106), (1, gs_iv e)]) (List.forall_mem_cons.mpr ⟨(.head _), (List.forall_mem_cons.mpr ⟨(.tail _ (.tail _ (.head _))), (List.forall_mem_cons.mpr ⟨(.tail _ (.tail _ (.tail _ (.head _)))), (List.forall_mem_cons.mpr ⟨(.tail _ (.tail _ (.tail _ (.tail _ (.head _))))), (fun _ h => absurd h List.not_mem_nil)⟩)⟩)⟩)⟩) ?_
        exact ih.2.1 r (x + 1) F1 A1 hI1 hf1 (by omega) (by omega) (by rw [show (x + 1 - 1).toNat = (x - 1).toNat + 1 by omega, dt_c_1 i4]; omega) (by rw [show (x + 1 - 1).toNat = (x - 1).toNat + 1 by omega, dt_rows_1 i4]; intro m hm hs hr; have h0 : m ≠ 0 := fun q => (by rw [q] at hr; have z : dt_c 0 6 = 0 := rfl; rw [z] at hr; omega); exact i6 m hm (by omega) hs hr) (by omega) (by omega) (by omega)
      · skip
        refine sA_iload dd_X9_determinant_66 (.head _) ?_
        refine sA_callS (y2 := m_X9_onesOf) (n2 := 1) (d2 := 1) (as := [gs_iv c]) (rest := []) dd_X9_determinant_68 ok_X9_onesOf ml_X9_266 rfl rfl (Nat.le_of_ble_eq_true rfl) (by decide) (c_X9_onesOf_vf (by omega)) (fun r25 F26 A27 h28 => ?_)
        obtain ⟨z31, e30, e32, e33, x29⟩ := h28
        subst e30 e32 e33
        have y34 : z31 = (dt_c c.toNat 6 : Int) ∧ 0 ≤ z31 ∧ z31 ≤ 6 := x29
        clear x29
        show sA _ _ _ 71 _ [gs_iv z31] _ _
        refine sA_iload_n dd_X9_determinant_71 rfl (.tail _ (.tail _ (.head _))) ?_
        refine sA_icmp_ne (tgt := 184) dd_X9_determinant_72 (by decide) (by omega) (by omega) (fun q35 => ?_) (fun q35 => ?_)
        · skip
          refine sA_iinc (lv' := [(4, gs_iv (c + (-1))), (3, gs_iv x), (2, gs_iv r), (0, .ref 106), (1, gs_iv e)]) dd_X9_determinant_184 (.head _) (by decide) rfl ?_
          refine sA_goto (tgt := 61) dd_X9_determinant_187 (by decide) ?_
          refine sA_sub (lv2 := [(4, gs_iv (c + (-1))), (3, gs_iv x), (2, gs_iv r), (0, .ref 106), (1, gs_iv e)]) (List.forall_mem_cons.mpr ⟨(.head _), (List.forall_mem_cons.mpr ⟨(.tail _ (.head _)), (List.forall_mem_cons.mpr ⟨(.tail _ (.tail _ (.head _))), (List.forall_mem_cons.mpr ⟨(.tail _ (.tail _ (.tail _ (.head _)))), (List.forall_mem_cons.mpr ⟨(.tail _ (.tail _ (.tail _ (.tail _ (.head _))))), (fun _ h => absurd h List.not_mem_nil)⟩)⟩)⟩)⟩)⟩) ?_
          exact ih.2.2.1 r x (c + (-1)) F1 A1 hI1 hf1 (by omega) (by omega) (by omega) (by omega) i4 i5 (fun m hm hc hs hr => by by_cases h : c < (m : Int) <;> first | exact i6 m hm h hs hr | (exfalso; have hmc : m = c.toNat := (by omega); subst hmc; first | (have w := y34.1; omega) | exact absurd (hst.mpr hs) (by rw [hsd]; omega) | fail) | fail) (by omega) (by omega) (by omega)
        · skip
          refine sA_iload dd_X9_determinant_75 (.head _) ?_
          refine sA_iload_n dd_X9_determinant_77 rfl (.tail _ (.tail _ (.tail _ (.tail _ (.head _))))) ?_
          refine sA_iconst (z := (-1)) dd_X9_determinant_78 ?_
          refine sA_ixor dd_X9_determinant_79 ?_
          have b36 := gs_t_rng (Int32.ofInt e ^^^ Int32.ofInt (-1))
          generalize hw37 : gs_t (Int32.ofInt e ^^^ Int32.ofInt (-1)) = w37 at b36 ⊢
          refine sA_iand dd_X9_determinant_80 ?_
          have b38 := gs_t_rng (Int32.ofInt c &&& Int32.ofInt w37)
          generalize hw39 : gs_t (Int32.ofInt c &&& Int32.ofInt w37) = w39 at b38 ⊢
          have hsd : dt_hs c e = w39 := by
            unfold dt_hs
            rw [hw37]
            exact hw39
          have hst := dt_hs_at (m := c) (e := e) (by omega) (by omega)
          refine sA_if_ne (tgt := 184) dd_X9_determinant_81 (by decide) (by omega) (fun q40 => ?_) (fun q40 => ?_)
          · skip
            refine sA_iinc (lv' := [(4, gs_iv (c + (-1))), (3, gs_iv x), (2, gs_iv r), (0, .ref 106), (1, gs_iv e)]) dd_X9_determinant_184 (.head _) (by decide) rfl ?_
            refine sA_goto (tgt := 61) dd_X9_determinant_187 (by decide) ?_
            refine sA_sub (lv2 := [(4, gs_iv (c + (-1))), (3, gs_iv x), (2, gs_iv r), (0, .ref 106), (1, gs_iv e)]) (List.forall_mem_cons.mpr ⟨(.head _), (List.forall_mem_cons.mpr ⟨(.tail _ (.head _)), (List.forall_mem_cons.mpr ⟨(.tail _ (.tail _ (.head _))), (List.forall_mem_cons.mpr ⟨(.tail _ (.tail _ (.tail _ (.head _)))), (List.forall_mem_cons.mpr ⟨(.tail _ (.tail _ (.tail _ (.tail _ (.head _))))), (fun _ h => absurd h List.not_mem_nil)⟩)⟩)⟩)⟩)⟩) ?_
            exact ih.2.2.1 r x (c + (-1)) F1 A1 hI1 hf1 (by omega) (by omega) (by omega) (by omega) i4 i5 (fun m hm hc hs hr => by by_cases h : c < (m : Int) <;> first | exact i6 m hm h hs hr | (exfalso; have hmc : m = c.toNat := (by omega); subst hmc; first | (have w := y34.1; omega) | exact absurd (hst.mpr hs) (by rw [hsd]; omega) | fail) | fail) (by omega) (by omega) (by omega)
          · skip
            have hys : dt_sub c.toNat e.toNat = true := hst.mp (by rw [hsd]; omega)
            refine sA_lconst (z := 0) dd_X9_determinant_84 (by decide) ?_
            refine sA_lstore (lv' := [(5, gs_lv 0), (4, gs_iv c), (3, gs_iv x), (2, gs_iv r), (0, .ref 106), (1, gs_iv e)]) dd_X9_determinant_85 (by decide) rfl ?_
            refine sA_iconst (z := 1) dd_X9_determinant_87 ?_
            refine sA_istore (lv' := [(7, gs_iv 1), (5, gs_lv 0), (4, gs_iv c), (3, gs_iv x), (2, gs_iv r), (0, .ref 106), (1, gs_iv e)]) dd_X9_determinant_88 (by decide) rfl ?_
            refine sA_sub (lv2 := [(7, gs_iv 1), (5, gs_lv 0), (4, gs_iv c), (3, gs_iv x), (2, gs_iv r), (0, .ref 106), (1, gs_iv e)]) (List.forall_mem_cons.mpr ⟨(.head _), (List.forall_mem_cons.mpr ⟨(.tail _ (.head _)), (List.forall_mem_cons.mpr ⟨(.tail _ (.tail _ (.head _))), (List.forall_mem_cons.mpr ⟨(.tail _ (.tail _ (.tail _ (.head _)))), (List.forall_mem_cons.mpr ⟨(.tail _ (.tail _ (.tail _ (.tail _ (.head _))))), (List.forall_mem_cons.mpr ⟨(.tail _ (.tail _ (.tail _ (.tail _ (.tail _ (.head _)))))), (List.forall_mem_cons.mpr ⟨(.tail _ (.tail _ (.tail _ (.tail _ (.tail _ (.tail _ (.head _))))))), (fun _ h => absurd h List.not_mem_nil)⟩)⟩)⟩)⟩)⟩)⟩)⟩) ?_
            exact ih.2.2.2 r x c (Int64.ofInt 0) 1 F1 A1 hI1 hf1 (by omega) (by omega) (by omega) (by omega) (by omega) i4 (by omega) (by omega) hys i5 i6 (by have w := y34.1; omega) (by rfl) (by omega)
    · skip
      intro r x c s u F1 A1 hI1 hf1 i0 i1 i2 i3 i4 i5 i6 i7 i8 i9 i10 i11 i12 hm
      have b41 : (1 : Int) ≤ F1 106 0 ∧ F1 106 0 ≤ 3 := hI1.1 106 0
      have u42 : A1 121 = A1 121 := rfl
      have hb0g : (1 : Int) ≤ F 106 0 ∧ F 106 0 ≤ 3 := hI.1 106 0
      refine sA_iload dd_X9_determinant_90 (.head _) ?_
      refine sA_iconst (z := 2) dd_X9_determinant_92 ?_
      refine sA_aload_n dd_X9_determinant_93 rfl (.tail _ (.tail _ (.tail _ (.tail _ (.tail _ (.head _)))))) ?_
      refine sA_geti (ci := 9) (j := 0) (q := (RX9, TX9, 28)) dd_X9_determinant_94 rfl (by decide) fl_X9_64 (by decide) gs_s106 rfl ?_
      refine sA_imul dd_X9_determinant_97 ?_
      refine sA_icmp_gt (tgt := 175) dd_X9_determinant_98 (by decide) (by omega) (by omega) (fun q43 => ?_) (fun q43 => ?_)
      · skip
        refine sA_aload_n dd_X9_determinant_175 rfl (.tail _ (.tail _ (.tail _ (.tail _ (.tail _ (.head _)))))) ?_
        refine sA_getr (ci := 9) (j := 27) (q := (RX9, TX9, 28)) dd_X9_determinant_176 rfl (by decide) fl_X9_56 (by decide) gs_s106 rfl ?_
        refine sA_iload dd_X9_determinant_179 (.tail _ (.tail _ (.head _))) ?_
        refine sA_lload dd_X9_determinant_181 (.tail _ (.head _)) ?_
        have hc2 : c.toNat < 2 ^ (2 * F 106 0).toNat := dt_subb ⟨(2 * F 106 0).toNat, by omega⟩ ⟨c.toNat, by omega⟩ ⟨e.toNat, by omega⟩ i8 he2
        have hz := dt_sum_end (f := (dt_tm2 (dt_T9 A) (x - 1).toNat (dt_rows e.toNat (x - 1).toNat) c.toNat)) (n := (u - 1).toNat) (6 - (u - 1).toNat) (fun i h1 h2 => if_neg (fun q => by have w := dt_lt (L := (2 * F 106 0).toNat) (by omega) (by omega) (by omega) hc2 q; omega))
        rw [show (u - 1).toNat + (6 - (u - 1).toNat) = 6 by omega] at hz
        have hfin : Int64.ofInt s.toInt = Int64.ofInt (dt_2 (dt_T9 A) ((x - 1).toNat :: (dt_rows e.toNat (x - 1).toNat)) c.toNat) := by
          rw [Int64.ofInt_toInt, i12]
          show _ = Int64.ofInt (gs_sum (dt_tm2 (dt_T9 A) (x - 1).toNat (dt_rows e.toNat (x - 1).toNat) c.toNat) 6)
          rw [hz]
        have b44 := gs_l_rng s
        refine sA_lastR (n := 64) dd_X9_determinant_183 (by decide) gs_s121 (by omega) (by decide) ?_
        have I46 : gs_I F1 (gs_up A1 121 c.toNat s.toInt) := gs_I_ast hI1 (show (-9223372036854775808 : Int) ≤ s.toInt ∧ s.toInt ≤ 9223372036854775807 by omega)
        have f47 := gs_fr_ast hf1 (a := 121) (z := s.toInt) (i := c.toNat) (by first | omega | (dsimp only; omega) | (dsimp only) | fail)
        have u48 : (gs_up A1 121 c.toNat s.toInt) 121 = gs_u (A1 121) c.toNat s.toInt := (gs_up_u A1 121 c.toNat s.toInt).trans (congrArg (fun f => gs_u f c.toNat s.toInt) u42)
        generalize gs_up A1 121 c.toNat s.toInt = A45 at I46 f47 u48 ⊢
        refine sA_iinc (lv' := [(4, gs_iv (c + (-1))), (7, gs_iv u), (5, .long s), (3, gs_iv x), (2, gs_iv r), (0, .ref 106), (1, gs_iv e)]) dd_X9_determinant_184 (.tail _ (.tail _ (.head _))) (by decide) rfl ?_
        refine sA_goto (tgt := 61) dd_X9_determinant_187 (by decide) ?_
        refine sA_sub (lv2 := [(4, gs_iv (c + (-1))), (3, gs_iv x), (2, gs_iv r), (0, .ref 106), (1, gs_iv e)]) (List.forall_mem_cons.mpr ⟨(.head _), (List.forall_mem_cons.mpr ⟨(.tail _ (.tail _ (.tail _ (.head _)))), (List.forall_mem_cons.mpr ⟨(.tail _ (.tail _ (.tail _ (.tail _ (.head _))))), (List.forall_mem_cons.mpr ⟨(.tail _ (.tail _ (.tail _ (.tail _ (.tail _ (.head _)))))), (List.forall_mem_cons.mpr ⟨(.tail _ (.tail _ (.tail _ (.tail _ (.tail _ (.tail _ (.head _))))))), (fun _ h => absurd h List.not_mem_nil)⟩)⟩)⟩)⟩)⟩) ?_
        exact ih.2.2.1 r x (c + (-1)) F1 A45 I46 f47 (by omega) (by omega) (by omega) (by omega) i5 (dt_mi_store i9 u48 (by omega)) (fun m hm hc hs hr => by by_cases h : m = c.toNat <;> first | (rw [u48, h, gs_u_self]; exact hfin) | (rw [u48, gs_u_ne _ _ h]; exact i10 m hm (by omega) hs hr) | fail) (by omega) (by omega) (by omega)
      · skip
        refine sA_iload dd_X9_determinant_101 (.tail _ (.tail _ (.head _))) ?_
        refine sA_iload dd_X9_determinant_103 (.head _) ?_
        refine sA_iconst (z := 1) dd_X9_determinant_105 ?_
        refine sA_isub dd_X9_determinant_106 ?_
        refine sA_ishr dd_X9_determinant_107 ?_
        have b49 := gs_t_rng (Int32.ofInt c >>> (Int32.ofInt (u - 1) &&& 31))
        generalize hw50 : gs_t (Int32.ofInt c >>> (Int32.ofInt (u - 1) &&& 31)) = w50 at b49 ⊢
        refine sA_iconst (z := 1) dd_X9_determinant_108 ?_
        refine sA_iand dd_X9_determinant_109 ?_
        have b51 := gs_t_rng (Int32.ofInt w50 &&& Int32.ofInt 1)
        generalize hw52 : gs_t (Int32.ofInt w50 &&& Int32.ofInt 1) = w52 at b51 ⊢
        have huv : w52 = if c.toNat.testBit (u - 1).toNat then 1 else 0 := by
          have h := dt_hb_at (e := c) (k := u - 1) (by omega) (by omega)
          unfold dt_hb at h
          rw [hw50] at h
          exact hw52.symm.trans h
        refine sA_iconst (z := 1) dd_X9_determinant_110 ?_
        refine sA_icmp_ne (tgt := 169) dd_X9_determinant_111 (by decide) (by omega) (by omega) (fun q53 => ?_) (fun q53 => ?_)
        · skip
          refine sA_iinc (lv' := [(7, gs_iv (u + 1)), (5, .long s), (4, gs_iv c), (3, gs_iv x), (2, gs_iv r), (0, .ref 106), (1, gs_iv e)]) dd_X9_determinant_169 (.head _) (by decide) rfl ?_
          refine sA_goto (tgt := 90) dd_X9_determinant_172 (by decide) ?_
          refine sA_sub (lv2 := [(7, gs_iv (u + 1)), (5, .long s), (4, gs_iv c), (3, gs_iv x), (2, gs_iv r), (0, .ref 106), (1, gs_iv e)]) (List.forall_mem_cons.mpr ⟨(.head _), (List.forall_mem_cons.mpr ⟨(.tail _ (.head _)), (List.forall_mem_cons.mpr ⟨(.tail _ (.tail _ (.head _))), (List.forall_mem_cons.mpr ⟨(.tail _ (.tail _ (.tail _ (.head _)))), (List.forall_mem_cons.mpr ⟨(.tail _ (.tail _ (.tail _ (.tail _ (.head _))))), (List.forall_mem_cons.mpr ⟨(.tail _ (.tail _ (.tail _ (.tail _ (.tail _ (.head _)))))), (List.forall_mem_cons.mpr ⟨(.tail _ (.tail _ (.tail _ (.tail _ (.tail _ (.tail _ (.head _))))))), (fun _ h => absurd h List.not_mem_nil)⟩)⟩)⟩)⟩)⟩)⟩)⟩) ?_
          exact ih.2.2.2 r x c s (u + 1) F1 A1 hI1 hf1 (by omega) (by omega) (by omega) (by omega) (by omega) i5 (by omega) (by omega) i8 i9 i10 i11 (by rw [show (u + 1 - 1).toNat = (u - 1).toNat + 1 by omega]; exact dt_keep i12 (if_neg (fun w => by rw [if_pos w] at huv; omega))) (by omega)
        · skip
          have hb1 : c.toNat.testBit (u - 1).toNat = true := by
            by_cases q : c.toNat.testBit (u - 1).toNat = true
            · exact q
            · rw [if_neg q] at huv
              omega
          obtain ⟨hq1, hq2, hq3⟩ := dt_sh_at (m := c) (u := u) (by omega) (by omega)
          refine sA_iload dd_X9_determinant_114 (.tail _ (.tail _ (.head _))) ?_
          refine sA_iload dd_X9_determinant_116 (.head _) ?_
          refine sA_ishr dd_X9_determinant_118 ?_
          have b54 := gs_t_rng (Int32.ofInt c >>> (Int32.ofInt u &&& 31))
          generalize hw55 : gs_t (Int32.ofInt c >>> (Int32.ofInt u &&& 31)) = w55 at b54 ⊢
          have hsh : dt_sh c u = w55 := hw55
          rw [hsh] at hq1 hq2 hq3
          refine sA_callS (y2 := m_X9_onesOf) (n2 := 1) (d2 := 1) (as := [gs_iv w55]) (rest := []) dd_X9_determinant_119 ok_X9_onesOf ml_X9_266 rfl rfl (Nat.le_of_ble_eq_true rfl) (by decide) (c_X9_onesOf_vf (by omega)) (fun r56 F57 A58 h59 => ?_)
          obtain ⟨z62, e61, e63, e64, x60⟩ := h59
          subst e61 e63 e64
          have y65 : z62 = (dt_c w55.toNat 6 : Int) ∧ 0 ≤ z62 ∧ z62 ≤ 6 := x60
          clear x60
          show sA _ _ _ 122 _ [gs_iv z62] _ _
          refine sA_istore (lv' := [(8, gs_iv z62), (7, gs_iv u), (5, .long s), (4, gs_iv c), (3, gs_iv x), (2, gs_iv r), (0, .ref 106), (1, gs_iv e)]) dd_X9_determinant_122 (by decide) rfl ?_
          refine sA_lload dd_X9_determinant_124 (.tail _ (.tail _ (.head _))) ?_
          refine sA_iload dd_X9_determinant_126 (.head _) ?_
          refine sA_iconst (z := 2) dd_X9_determinant_128 ?_
          refine sA_iremN dd_X9_determinant_129 (by omega) (by omega) (by omega) ?_
          refine sA_if_ne (tgt := 137) dd_X9_determinant_130 (by decide) (by omega) (fun q66 => ?_) (fun q66 => ?_)
          · skip
            refine sA_ldc2 (z := -1) dd_X9_determinant_137 (ri_lw_in (pl := 1155) (by decide +kernel)) ?_
            refine sA_aload_n dd_X9_determinant_140 rfl (.tail _ (.tail _ (.tail _ (.tail _ (.tail _ (.tail _ (.head _))))))) ?_
            refine sA_iload_n dd_X9_determinant_141 rfl (.tail _ (.tail _ (.tail _ (.tail _ (.head _))))) ?_
            refine sA_iload dd_X9_determinant_142 (.tail _ (.head _)) ?_
            refine sA_callV (y2 := m_X9_tableOf) (n2 := 2) (d2 := 2) (a := 106) (ci := 9) (q := (RX9, TX9, 28)) (as := [gs_iv x, gs_iv u]) (rest := [gs_lv (-1), .long s]) dd_X9_determinant_144 ok_X9_tableOf ml_X9_263 rfl rfl (by decide) gs_s106 rfl rfl (Nat.le_of_ble_eq_true rfl) (by decide) (c_X9_tableOf_vf hI1 (by omega) (by omega)) (fun r67 F68 A69 h70 => ?_)
            obtain ⟨z73, e72, e74, e75, x71⟩ := h70
            subst e72 e74 e75
            have y76 : (-400 ≤ z73 ∧ z73 ≤ 400) ∧ z73 = dt_bal u (gs_im A1 (x - 1).toNat) := x71
            clear x71
            show sA _ _ _ 147 _ [gs_iv z73, gs_lv (-1), .long s] _ _
            have him : gs_im A1 (x - 1).toNat = gs_im A (x - 1).toNat := gs_im_cg (hf1.2 119 (by dsimp only; omega)) (hf1.2 120 (by dsimp only; omega)) _
            have hTb : z73 = dt_bal u (gs_im A (x - 1).toNat) := by rw [← him]; exact y76.2
            have hsg := dt_sgn (e := c.toNat) (y := (u - 1).toNat) (z := z62) (by have w := y65.1; rw [hq3, show u.toNat = (u - 1).toNat + 1 by omega] at w; exact w)
            have hST : (-1) * z73 = dt_t c.toNat (u - 1).toNat * dt_bal u (gs_im A (x - 1).toNat) := by
              rw [hsg, hTb]
              first | rw [if_pos (by omega)] | rw [if_neg (by omega)] | fail
            refine sA_i2l dd_X9_determinant_147 (by omega) ?_
            refine sA_lmul dd_X9_determinant_148 ?_
            refine sA_aload_n dd_X9_determinant_149 rfl (.tail _ (.tail _ (.tail _ (.tail _ (.tail _ (.tail _ (.head _))))))) ?_
            refine sA_getr (ci := 9) (j := 27) (q := (RX9, TX9, 28)) dd_X9_determinant_150 rfl (by decide) fl_X9_56 (by decide) gs_s106 rfl ?_
            refine sA_iload dd_X9_determinant_153 (.tail _ (.tail _ (.tail _ (.head _)))) ?_
            refine sA_iconst (z := 1) dd_X9_determinant_155 ?_
            refine sA_iload dd_X9_determinant_156 (.tail _ (.head _)) ?_
            refine sA_iconst (z := 1) dd_X9_determinant_158 ?_
            refine sA_isub dd_X9_determinant_159 ?_
            refine sA_ishl dd_X9_determinant_160 ?_
            have b77 := gs_t_rng (Int32.ofInt 1 <<< (Int32.ofInt (u - 1) &&& 31))
            generalize hw78 : gs_t (Int32.ofInt 1 <<< (Int32.ofInt (u - 1) &&& 31)) = w78 at b77 ⊢
            refine sA_iconst (z := (-1)) dd_X9_determinant_161 ?_
            refine sA_ixor dd_X9_determinant_162 ?_
            have b79 := gs_t_rng (Int32.ofInt w78 ^^^ Int32.ofInt (-1))
            generalize hw80 : gs_t (Int32.ofInt w78 ^^^ Int32.ofInt (-1)) = w80 at b79 ⊢
            refine sA_iand dd_X9_determinant_163 ?_
            have b81 := gs_t_rng (Int32.ofInt c &&& Int32.ofInt w80)
            generalize hw82 : gs_t (Int32.ofInt c &&& Int32.ofInt w80) = w82 at b81 ⊢
            have hrm : dt_hr c (u - 1) = w82 := by
              unfold dt_hr
              rw [hw78, hw80]
              exact hw82
            have hrv : w82 = ((c.toNat - 2 ^ (u - 1).toNat : Nat) : Int) := hrm.symm.trans (dt_hr_at (by omega) (by omega) hb1)
            obtain ⟨hd1, hd2, hd3⟩ := dt_f1 ⟨c.toNat, by omega⟩ ⟨(u - 1).toNat, by omega⟩ hb1
            have hd1 : c.toNat - 2 ^ (u - 1).toNat < 64 := hd1
            have hd2 : dt_c (c.toNat - 2 ^ (u - 1).toNat) 6 + 1 = dt_c c.toNat 6 := hd2
            have hsb : dt_sub (c.toNat - 2 ^ (u - 1).toNat) e.toNat = true := (dt_sub_all ⟨c.toNat, by omega⟩ ⟨e.toNat, by omega⟩ ⟨(u - 1).toNat, by omega⟩ i8 hb1).2
            have hA : Int64.ofInt (A1 121 w82.toNat) = Int64.ofInt (dt_2 (dt_T9 A) (dt_rows e.toNat (x - 1).toNat) (c.toNat - 2 ^ (u - 1).toNat)) := by
              rw [hrv, Int.toNat_natCast]
              exact i9 _ hd1 hsb (by omega)
            have hlt : 0 ≤ w82 ∧ w82 < 64 := by omega
            refine sA_lald (n := 64) dd_X9_determinant_164 (by decide) gs_s121 (by omega) (by decide) ?_
            have b83 : (-9223372036854775808 : Int) ≤ A1 121 w82.toNat ∧ A1 121 w82.toNat ≤ 9223372036854775807 := hI1.2 121 w82.toNat
            refine sA_lmul dd_X9_determinant_165 ?_
            refine sA_laddR dd_X9_determinant_166 ?_
            refine sA_lstore (lv' := [(5, .long (s + (Int64.ofInt (((-1) * z73) * (A1 121 w82.toNat))))), (8, gs_iv z62), (7, gs_iv u), (4, gs_iv c), (3, gs_iv x), (2, gs_iv r), (0, .ref 106), (1, gs_iv e)]) dd_X9_determinant_167 (by decide) rfl ?_
            refine sA_iinc (lv' := [(7, gs_iv (u + 1)), (5, .long (s + (Int64.ofInt (((-1) * z73) * (A1 121 w82.toNat))))), (8, gs_iv z62), (4, gs_iv c), (3, gs_iv x), (2, gs_iv r), (0, .ref 106), (1, gs_iv e)]) dd_X9_determinant_169 (.tail _ (.tail _ (.head _))) (by decide) rfl ?_
            refine sA_goto (tgt := 90) dd_X9_determinant_172 (by decide) ?_
            refine sA_sub (lv2 := [(7, gs_iv (u + 1)), (5, .long (s + (Int64.ofInt (((-1) * z73) * (A1 121 w82.toNat))))), (4, gs_iv c), (3, gs_iv x), (2, gs_iv r), (0, .ref 106), (1, gs_iv e)]) (List.forall_mem_cons.mpr ⟨(.head _), (List.forall_mem_cons.mpr ⟨(.tail _ (.head _)), (List.forall_mem_cons.mpr ⟨(.tail _ (.tail _ (.tail _ (.head _)))), (List.forall_mem_cons.mpr ⟨(.tail _ (.tail _ (.tail _ (.tail _ (.head _))))), (List.forall_mem_cons.mpr ⟨(.tail _ (.tail _ (.tail _ (.tail _ (.tail _ (.head _)))))), (List.forall_mem_cons.mpr ⟨(.tail _ (.tail _ (.tail _ (.tail _ (.tail _ (.tail _ (.head _))))))), (List.forall_mem_cons.mpr ⟨(.tail _ (.tail _ (.tail _ (.tail _ (.tail _ (.tail _ (.tail _ (.head _)))))))), (fun _ h => absurd h List.not_mem_nil)⟩)⟩)⟩)⟩)⟩)⟩)⟩) ?_
            exact ih.2.2.2 r x c (s + (Int64.ofInt (((-1) * z73) * (A1 121 w82.toNat)))) (u + 1) F1 A1 hI1 hf1 (by omega) (by omega) (by omega) (by omega) (by omega) i5 (by omega) (by omega) i8 i9 i10 i11 (by rw [show (u + 1 - 1).toNat = (u - 1).toNat + 1 by omega]; exact dt_step i12 (d := dt_t c.toNat (u - 1).toNat * dt_bal u (gs_im A (x - 1).toNat) * dt_2 (dt_T9 A) (dt_rows e.toNat (x - 1).toNat) (c.toNat - 2 ^ (u - 1).toNat)) (by rw [Int64.ofInt_mul, hA, ← Int64.ofInt_mul, hST]) (by show (if c.toNat.testBit (u - 1).toNat then dt_t c.toNat (u - 1).toNat * dt_T9 A (x - 1).toNat (u - 1).toNat * dt_2 (dt_T9 A) (dt_rows e.toNat (x - 1).toNat) (c.toNat - 2 ^ (u - 1).toNat) else 0) = _; rw [if_pos hb1]; unfold dt_T9; rw [show (((u - 1).toNat : Nat) : Int) + 1 = u by omega])) (by omega)
          · skip
            refine sA_lconst (z := 1) dd_X9_determinant_133 (by decide) ?_
            refine sA_goto (tgt := 140) dd_X9_determinant_134 (by decide) ?_
            refine sA_aload_n dd_X9_determinant_140 rfl (.tail _ (.tail _ (.tail _ (.tail _ (.tail _ (.tail _ (.head _))))))) ?_
            refine sA_iload_n dd_X9_determinant_141 rfl (.tail _ (.tail _ (.tail _ (.tail _ (.head _))))) ?_
            refine sA_iload dd_X9_determinant_142 (.tail _ (.head _)) ?_
            refine sA_callV (y2 := m_X9_tableOf) (n2 := 2) (d2 := 2) (a := 106) (ci := 9) (q := (RX9, TX9, 28)) (as := [gs_iv x, gs_iv u]) (rest := [gs_lv 1, .long s]) dd_X9_determinant_144 ok_X9_tableOf ml_X9_263 rfl rfl (by decide) gs_s106 rfl rfl (Nat.le_of_ble_eq_true rfl) (by decide) (c_X9_tableOf_vf hI1 (by omega) (by omega)) (fun r84 F85 A86 h87 => ?_)
            obtain ⟨z90, e89, e91, e92, x88⟩ := h87
            subst e89 e91 e92
            have y93 : (-400 ≤ z90 ∧ z90 ≤ 400) ∧ z90 = dt_bal u (gs_im A1 (x - 1).toNat) := x88
            clear x88
            show sA _ _ _ 147 _ [gs_iv z90, gs_lv 1, .long s] _ _
            have him : gs_im A1 (x - 1).toNat = gs_im A (x - 1).toNat := gs_im_cg (hf1.2 119 (by dsimp only; omega)) (hf1.2 120 (by dsimp only; omega)) _
            have hTb : z90 = dt_bal u (gs_im A (x - 1).toNat) := by rw [← him]; exact y93.2
            have hsg := dt_sgn (e := c.toNat) (y := (u - 1).toNat) (z := z62) (by have w := y65.1; rw [hq3, show u.toNat = (u - 1).toNat + 1 by omega] at w; exact w)
            have hST : (1) * z90 = dt_t c.toNat (u - 1).toNat * dt_bal u (gs_im A (x - 1).toNat) := by
              rw [hsg, hTb]
              first | rw [if_pos (by omega)] | rw [if_neg (by omega)] | fail
            refine sA_i2l dd_X9_determinant_147 (by omega) ?_
            refine sA_lmul dd_X9_determinant_148 ?_
            refine sA_aload_n dd_X9_determinant_149 rfl (.tail _ (.tail _ (.tail _ (.tail _ (.tail _ (.tail _ (.head _))))))) ?_
            refine sA_getr (ci := 9) (j := 27) (q := (RX9, TX9, 28)) dd_X9_determinant_150 rfl (by decide) fl_X9_56 (by decide) gs_s106 rfl ?_
            refine sA_iload dd_X9_determinant_153 (.tail _ (.tail _ (.tail _ (.head _)))) ?_
            refine sA_iconst (z := 1) dd_X9_determinant_155 ?_
            refine sA_iload dd_X9_determinant_156 (.tail _ (.head _)) ?_
            refine sA_iconst (z := 1) dd_X9_determinant_158 ?_
            refine sA_isub dd_X9_determinant_159 ?_
            refine sA_ishl dd_X9_determinant_160 ?_
            have b94 := gs_t_rng (Int32.ofInt 1 <<< (Int32.ofInt (u - 1) &&& 31))
            generalize hw95 : gs_t (Int32.ofInt 1 <<< (Int32.ofInt (u - 1) &&& 31)) = w95 at b94 ⊢
            refine sA_iconst (z := (-1)) dd_X9_determinant_161 ?_
            refine sA_ixor dd_X9_determinant_162 ?_
            have b96 := gs_t_rng (Int32.ofInt w95 ^^^ Int32.ofInt (-1))
            generalize hw97 : gs_t (Int32.ofInt w95 ^^^ Int32.ofInt (-1)) = w97 at b96 ⊢
            refine sA_iand dd_X9_determinant_163 ?_
            have b98 := gs_t_rng (Int32.ofInt c &&& Int32.ofInt w97)
            generalize hw99 : gs_t (Int32.ofInt c &&& Int32.ofInt w97) = w99 at b98 ⊢
            have hrm : dt_hr c (u - 1) = w99 := by
              unfold dt_hr
              rw [hw95, hw97]
              exact hw99
            have hrv : w99 = ((c.toNat - 2 ^ (u - 1).toNat : Nat) : Int) := hrm.symm.trans (dt_hr_at (by omega) (by omega) hb1)
            obtain ⟨hd1, hd2, hd3⟩ := dt_f1 ⟨c.toNat, by omega⟩ ⟨(u - 1).toNat, by omega⟩ hb1
            have hd1 : c.toNat - 2 ^ (u - 1).toNat < 64 := hd1
            have hd2 : dt_c (c.toNat - 2 ^ (u - 1).toNat) 6 + 1 = dt_c c.toNat 6 := hd2
            have hsb : dt_sub (c.toNat - 2 ^ (u - 1).toNat) e.toNat = true := (dt_sub_all ⟨c.toNat, by omega⟩ ⟨e.toNat, by omega⟩ ⟨(u - 1).toNat, by omega⟩ i8 hb1).2
            have hA : Int64.ofInt (A1 121 w99.toNat) = Int64.ofInt (dt_2 (dt_T9 A) (dt_rows e.toNat (x - 1).toNat) (c.toNat - 2 ^ (u - 1).toNat)) := by
              rw [hrv, Int.toNat_natCast]
              exact i9 _ hd1 hsb (by omega)
            have hlt : 0 ≤ w99 ∧ w99 < 64 := by omega
            refine sA_lald (n := 64) dd_X9_determinant_164 (by decide) gs_s121 (by omega) (by decide) ?_
            have b100 : (-9223372036854775808 : Int) ≤ A1 121 w99.toNat ∧ A1 121 w99.toNat ≤ 9223372036854775807 := hI1.2 121 w99.toNat
            refine sA_lmul dd_X9_determinant_165 ?_
            refine sA_laddR dd_X9_determinant_166 ?_
            refine sA_lstore (lv' := [(5, .long (s + (Int64.ofInt ((1 * z90) * (A1 121 w99.toNat))))), (8, gs_iv z62), (7, gs_iv u), (4, gs_iv c), (3, gs_iv x), (2, gs_iv r), (0, .ref 106), (1, gs_iv e)]) dd_X9_determinant_167 (by decide) rfl ?_
            refine sA_iinc (lv' := [(7, gs_iv (u + 1)), (5, .long (s + (Int64.ofInt ((1 * z90) * (A1 121 w99.toNat))))), (8, gs_iv z62), (4, gs_iv c), (3, gs_iv x), (2, gs_iv r), (0, .ref 106), (1, gs_iv e)]) dd_X9_determinant_169 (.tail _ (.tail _ (.head _))) (by decide) rfl ?_
            refine sA_goto (tgt := 90) dd_X9_determinant_172 (by decide) ?_
            refine sA_sub (lv2 := [(7, gs_iv (u + 1)), (5, .long (s + (Int64.ofInt ((1 * z90) * (A1 121 w99.toNat))))), (4, gs_iv c), (3, gs_iv x), (2, gs_iv r), (0, .ref 106), (1, gs_iv e)]) (List.forall_mem_cons.mpr ⟨(.head _), (List.forall_mem_cons.mpr ⟨(.tail _ (.head _)), (List.forall_mem_cons.mpr ⟨(.tail _ (.tail _ (.tail _ (.head _)))), (List.forall_mem_cons.mpr ⟨(.tail _ (.tail _ (.tail _ (.tail _ (.head _))))), (List.forall_mem_cons.mpr ⟨(.tail _ (.tail _ (.tail _ (.tail _ (.tail _ (.head _)))))), (List.forall_mem_cons.mpr ⟨(.tail _ (.tail _ (.tail _ (.tail _ (.tail _ (.tail _ (.head _))))))), (List.forall_mem_cons.mpr ⟨(.tail _ (.tail _ (.tail _ (.tail _ (.tail _ (.tail _ (.tail _ (.head _)))))))), (fun _ h => absurd h List.not_mem_nil)⟩)⟩)⟩)⟩)⟩)⟩)⟩) ?_
            exact ih.2.2.2 r x c (s + (Int64.ofInt ((1 * z90) * (A1 121 w99.toNat)))) (u + 1) F1 A1 hI1 hf1 (by omega) (by omega) (by omega) (by omega) (by omega) i5 (by omega) (by omega) i8 i9 i10 i11 (by rw [show (u + 1 - 1).toNat = (u - 1).toNat + 1 by omega]; exact dt_step i12 (d := dt_t c.toNat (u - 1).toNat * dt_bal u (gs_im A (x - 1).toNat) * dt_2 (dt_T9 A) (dt_rows e.toNat (x - 1).toNat) (c.toNat - 2 ^ (u - 1).toNat)) (by rw [Int64.ofInt_mul, hA, ← Int64.ofInt_mul, hST]) (by show (if c.toNat.testBit (u - 1).toNat then dt_t c.toNat (u - 1).toNat * dt_T9 A (x - 1).toNat (u - 1).toNat * dt_2 (dt_T9 A) (dt_rows e.toNat (x - 1).toNat) (c.toNat - 2 ^ (u - 1).toNat) else 0) = _; rw [if_pos hb1]; unfold dt_T9; rw [show (((u - 1).toNat : Nat) : Int) + 1 = u by omega])) (by omega)
theorem c_X9_determinant_vf {e : Int} {F A : gs_F} (hI : gs_I F A) (he : 0 ≤ e ∧ e ≤ 63) (he2 : e.toNat < 2 ^ (2 * F 106 0).toNat) : sC m_X9_determinant 3 [.ref 106, gs_iv e] F A (fun rv F' A' => ∃ z : Int64, rv = some (.long z) ∧ gs_I F' A' ∧ gs_fr (fun _ _ => False) (fun c => c = 121) F A F' A' ∧ (z = Int64.ofInt (dt_2 (dt_T9 A) (dt_rows e.toNat 6) e.toNat))) := by
  refine sC_of ok_X9_determinant.1 (Nat.le_of_ble_eq_true rfl) ?_
  show sA _ _ _ 0 [(0, .ref 106), (1, gs_iv e)] [] F A
  have hf : gs_fr (fun _ _ => False) (fun c => c = 121) F A F A := gs_fr_refl _ _ _ _
  have b101 : (1 : Int) ≤ F 106 0 ∧ F 106 0 ≤ 3 := hI.1 106 0
  have u102 : A 121 = A 121 := rfl
  have hb0g : (1 : Int) ≤ F 106 0 ∧ F 106 0 ≤ 3 := hI.1 106 0
  refine sA_iconst (z := 0) dd_X9_determinant_0 ?_
  refine sA_istore_n (lv' := [(2, gs_iv 0), (0, .ref 106), (1, gs_iv e)]) dd_X9_determinant_1 rfl (by decide) rfl ?_
  refine sA_iconst (z := 0) dd_X9_determinant_2 ?_
  refine sA_istore_n (lv' := [(3, gs_iv 0), (2, gs_iv 0), (0, .ref 106), (1, gs_iv e)]) dd_X9_determinant_3 rfl (by decide) rfl ?_
  refine sA_sub (lv2 := [(3, gs_iv 0), (2, gs_iv 0), (0, .ref 106), (1, gs_iv e)]) (List.forall_mem_cons.mpr ⟨(.head _), (List.forall_mem_cons.mpr ⟨(.tail _ (.head _)), (List.forall_mem_cons.mpr ⟨(.tail _ (.tail _ (.head _))), (List.forall_mem_cons.mpr ⟨(.tail _ (.tail _ (.tail _ (.head _)))), (fun _ h => absurd h List.not_mem_nil)⟩)⟩)⟩)⟩) ?_
  exact (k_X9_determinant_vf hI he he2 (100000 + (64 - 0) : Int).toNat.succ).1 0 0 F A hI hf (by omega) (by omega) (fun m hm => by exfalso; omega) (by omega) (by omega)
theorem k_X9_character_vf {p k : Int} {F A : gs_F} (hI : gs_I F A) (hp : -2147483648 ≤ p ∧ p ≤ 2147483647) (hk : -2147483648 ≤ k ∧ k ≤ 2147483647) (hcd : 0 ≤ p → p ≤ 7 → ∀ i : Int, 0 ≤ i → i < A 110 p.toNat → 0 ≤ A 111 (60 * p + i).toNat ∧ A 111 (60 * p + i).toNat ≤ 15) : ∀ nN : Nat, (∀ (s : Int64) (e : Int)  (F1 A1 : gs_F), gs_I F1 A1 → gs_fr (fun c j => c = 106 ∧ (j = 13 ∨ j = 15)) (fun c => c = 114 ∨ c = 115 ∨ c = 119 ∨ c = 120 ∨ c = 121) F A F1 A1 → 0 ≤ e ∧ e ≤ 64 → (∀ ii : Nat, (ii : Int) < 2 * F 106 0 → gs_plm F A p [(ii : Int) + 1] = some (gs_im A1 ii)) → s = Int64.ofInt (gs_sum (dt_ch9 (dt_T9 A1) k) e.toNat) → e ≤ ((2 ^ (2 * F 106 0).toNat : Nat) : Int) → F1 106 0 = F 106 0 → 0 ≤ p ∧ p ≤ 7 ∧ 0 ≤ k ∧ k ≤ 2 * F 106 0 → 64 - e < (nN : Int) → sA m_X9_character 8 (fun rv F' A' => ∃ z : Int64, rv = some (.long z) ∧ gs_I F' A' ∧ gs_fr (fun c j => c = 106 ∧ (j = 13 ∨ j = 15)) (fun c => c = 114 ∨ c = 115 ∨ c = 119 ∨ c = 120 ∨ c = 121) F A F' A' ∧ (((p < 0 ∨ 7 < p) ∧ z = Int64.ofInt (-1001)) ∨ (0 ≤ p ∧ p ≤ 7 ∧ (k < 0 ∨ 2 * F 106 0 < k) ∧ z = Int64.ofInt (-1002)) ∨ (0 ≤ p ∧ p ≤ 7 ∧ 0 ≤ k ∧ k ≤ 2 * F 106 0 ∧ (((∃ ii : Nat, (ii : Int) < 2 * F 106 0 ∧ (gs_plm F A p) [(ii : Int) + 1] = none) ∧ z = Int64.ofInt (-1005)) ∨ (∃ im : Nat → List Int, (∀ ii : Nat, (ii : Int) < 2 * F 106 0 → (gs_plm F A p) [(ii : Int) + 1] = some (im ii)) ∧ z = Int64.ofInt (gs_sum (dt_ch9 (fun x y => dt_bal ((y : Int) + 1) (im x)) k) (2 ^ (2 * F 106 0).toNat))))))) 49 [(5, gs_iv e), (3, .long s), (0, .ref 106), (2, gs_iv k)] [] F1 A1) := by
  intro nN
  induction nN with
  | zero =>
    exact fun a0 a1 a2 a3 a4 a5 i0 i1 i2 i3 i4 i5 hm => by exfalso; omega
  | succ nN ih =>
    intro s e F1 A1 hI1 hf1 i0 i1 i2 i3 i4 i5 hm
    have b1 : (1 : Int) ≤ F1 106 0 ∧ F1 106 0 ≤ 3 := hI1.1 106 0
    have hb0g : (1 : Int) ≤ F 106 0 ∧ F 106 0 ≤ 3 := hI.1 106 0
    have hp6 := dt_p6 (L := (2 * F 106 0).toNat) (by omega)
    have hpos : (0 : Int) < ((2 ^ (2 * F 106 0).toNat : Nat) : Int) := Int.ofNat_lt.mpr (Nat.two_pow_pos _)
    refine sA_iload dd_X9_character_49 (.head _) ?_
    refine sA_iconst (z := 1) dd_X9_character_51 ?_
    refine sA_iconst (z := 2) dd_X9_character_52 ?_
    refine sA_aload_n dd_X9_character_53 rfl (.tail _ (.tail _ (.head _))) ?_
    refine sA_geti (ci := 9) (j := 0) (q := (RX9, TX9, 28)) dd_X9_character_54 rfl (by decide) fl_X9_64 (by decide) gs_s106 rfl ?_
    refine sA_imul dd_X9_character_57 ?_
    refine sA_ishl dd_X9_character_58 ?_
    have b2 := gs_t_rng (Int32.ofInt 1 <<< (Int32.ofInt (2 * (F1 106 0)) &&& 31))
    have b4 := gs_shl1 (x := (2 * (F1 106 0))) (by omega)
    generalize hw3 : gs_t (Int32.ofInt 1 <<< (Int32.ofInt (2 * (F1 106 0)) &&& 31)) = w3 at b2 b4 ⊢
    have h58 : w3 = ((2 ^ (2 * F 106 0).toNat : Nat) : Int) := by
      have h := dt_h1_at (k := 2 * F 106 0) (by omega)
      unfold dt_h1 at h
      rw [← h, ← i4]
      exact hw3.symm
    refine sA_icmp_ge (tgt := 90) dd_X9_character_59 (by decide) (by omega) (by omega) (fun q5 => ?_) (fun q5 => ?_)
    · skip
      refine sA_lload_n dd_X9_character_90 rfl (.tail _ (.head _)) ?_
      refine sA_lret dd_X9_character_91 rfl ?_
      refine ⟨_, rfl, hI1, hf1, ?_⟩
      refine .inr (.inr ⟨by omega, by omega, by omega, by omega, .inr ⟨gs_im A1, i1, ?_⟩⟩)
      rw [i2, show e.toNat = 2 ^ (2 * F 106 0).toNat by omega]
      rfl
    · skip
      refine sA_lload_n dd_X9_character_62 rfl (.tail _ (.head _)) ?_
      refine sA_iload dd_X9_character_63 (.head _) ?_
      refine sA_callS (y2 := m_X9_onesOf) (n2 := 1) (d2 := 1) (as := [gs_iv e]) (rest := [.long s]) dd_X9_character_65 ok_X9_onesOf ml_X9_266 rfl rfl (Nat.le_of_ble_eq_true rfl) (by decide) (c_X9_onesOf_vf (by omega)) (fun r6 F7 A8 h9 => ?_)
      obtain ⟨z12, e11, e13, e14, x10⟩ := h9
      subst e11 e13 e14
      have y15 : z12 = (dt_c e.toNat 6 : Int) ∧ 0 ≤ z12 ∧ z12 ≤ 6 := x10
      clear x10
      show sA _ _ _ 68 _ [gs_iv z12, .long s] _ _
      refine sA_iload_n dd_X9_character_68 rfl (.tail _ (.tail _ (.tail _ (.head _)))) ?_
      refine sA_icmp_ne (tgt := 81) dd_X9_character_69 (by decide) (by omega) (by omega) (fun q16 => ?_) (fun q16 => ?_)
      · skip
        refine sA_lconst (z := 0) dd_X9_character_81 (by decide) ?_
        refine sA_laddR dd_X9_character_82 ?_
        refine sA_lstore_n (lv' := [(3, .long (s + (Int64.ofInt 0))), (5, gs_iv e), (0, .ref 106), (2, gs_iv k)]) dd_X9_character_83 rfl (by decide) rfl ?_
        refine sA_iinc (lv' := [(5, gs_iv (e + 1)), (3, .long (s + (Int64.ofInt 0))), (0, .ref 106), (2, gs_iv k)]) dd_X9_character_84 (.tail _ (.head _)) (by decide) rfl ?_
        refine sA_goto (tgt := 49) dd_X9_character_87 (by decide) ?_
        refine sA_sub (lv2 := [(5, gs_iv (e + 1)), (3, .long (s + (Int64.ofInt 0))), (0, .ref 106), (2, gs_iv k)]) (List.forall_mem_cons.mpr ⟨(.head _), (List.forall_mem_cons.mpr ⟨(.tail _ (.head _)), (List.forall_mem_cons.mpr ⟨(.tail _ (.tail _ (.head _))), (List.forall_mem_cons.mpr ⟨(.tail _ (.tail _ (.tail _ (.head _)))), (fun _ h => absurd h List.not_mem_nil)⟩)⟩)⟩)⟩) ?_
        exact ih (s + (Int64.ofInt 0)) (e + 1) F1 A1 hI1 hf1 (by omega) i1 (by rw [show (e + 1).toNat = e.toNat + 1 by omega]; exact dt_step i2 (d := 0) rfl (if_neg (by have w := y15.1; omega))) (by omega) (by omega) (by omega) (by omega)
      · skip
        refine sA_aload_n dd_X9_character_72 rfl (.tail _ (.tail _ (.head _))) ?_
        refine sA_iload dd_X9_character_73 (.head _) ?_
        have hdet : e.toNat < 2 ^ (2 * F1 106 0).toNat := by
          rw [show F1 106 0 = F 106 0 by omega]
          omega
        refine sA_callV (y2 := m_X9_determinant) (n2 := 1) (d2 := 3) (a := 106) (ci := 9) (q := (RX9, TX9, 28)) (as := [gs_iv e]) (rest := [.long s]) dd_X9_character_75 ok_X9_determinant ml_X9_277 rfl rfl (by decide) gs_s106 rfl rfl (Nat.le_of_ble_eq_true rfl) (by decide) (c_X9_determinant_vf hI1 (by omega) hdet) (fun r17 F18 A19 h20 => ?_)
        obtain ⟨z23, e22, I24, f25, x21⟩ := h20
        subst e22
        have v26 : F18 106 0 = F1 106 0 := f25.1 106 0 (by first | exact id | omega | (dsimp only; omega) | (dsimp only) | fail)
        have f27 := gs_fr_tr hf1 f25 (fun b j h => by first | exact False.elim h | omega | (dsimp only at h ⊢; omega) | fail) (fun b h => by first | exact False.elim h | omega | (dsimp only at h ⊢; omega) | fail)
        have y28 : z23 = Int64.ofInt (dt_2 (dt_T9 A1) (dt_rows e.toNat 6) e.toNat) := x21
        clear x21
        show sA _ _ _ 78 _ [.long z23, .long s] _ _
        have him : ∀ ii : Nat, gs_im A19 ii = gs_im A1 ii := fun ii => gs_im_cg (f25.2 119 (by dsimp only; omega)) (f25.2 120 (by dsimp only; omega)) ii
        have hT75 : dt_T9 A19 = dt_T9 A1 := by
          unfold dt_T9
          funext x y
          rw [him x]
        refine sA_goto (tgt := 82) dd_X9_character_78 (by decide) ?_
        refine sA_laddR dd_X9_character_82 ?_
        refine sA_lstore_n (lv' := [(3, .long (s + z23)), (5, gs_iv e), (0, .ref 106), (2, gs_iv k)]) dd_X9_character_83 rfl (by decide) rfl ?_
        refine sA_iinc (lv' := [(5, gs_iv (e + 1)), (3, .long (s + z23)), (0, .ref 106), (2, gs_iv k)]) dd_X9_character_84 (.tail _ (.head _)) (by decide) rfl ?_
        refine sA_goto (tgt := 49) dd_X9_character_87 (by decide) ?_
        have b29 : (1 : Int) ≤ F18 106 0 ∧ F18 106 0 ≤ 3 := I24.1 106 0
        refine sA_sub (lv2 := [(5, gs_iv (e + 1)), (3, .long (s + z23)), (0, .ref 106), (2, gs_iv k)]) (List.forall_mem_cons.mpr ⟨(.head _), (List.forall_mem_cons.mpr ⟨(.tail _ (.head _)), (List.forall_mem_cons.mpr ⟨(.tail _ (.tail _ (.head _))), (List.forall_mem_cons.mpr ⟨(.tail _ (.tail _ (.tail _ (.head _)))), (fun _ h => absurd h List.not_mem_nil)⟩)⟩)⟩)⟩) ?_
        exact ih (s + z23) (e + 1) F18 A19 I24 f27 (by omega) (fun ii hi => by rw [him ii]; exact i1 ii hi) (by rw [hT75, show (e + 1).toNat = e.toNat + 1 by omega]; exact dt_step i2 y28 (by show (if (dt_c e.toNat 6 : Int) = k then dt_2 (dt_T9 A1) (dt_rows e.toNat 6) e.toNat else 0) = _; rw [if_pos (by have w := y15.1; omega)])) (by omega) (by omega) (by omega) (by omega)
theorem c_X9_character_vf {p k : Int} {F A : gs_F} (hI : gs_I F A) (hp : -2147483648 ≤ p ∧ p ≤ 2147483647) (hk : -2147483648 ≤ k ∧ k ≤ 2147483647) (hcd : 0 ≤ p → p ≤ 7 → ∀ i : Int, 0 ≤ i → i < A 110 p.toNat → 0 ≤ A 111 (60 * p + i).toNat ∧ A 111 (60 * p + i).toNat ≤ 15) : sC m_X9_character 8 [.ref 106, gs_iv p, gs_iv k] F A (fun rv F' A' => ∃ z : Int64, rv = some (.long z) ∧ gs_I F' A' ∧ gs_fr (fun c j => c = 106 ∧ (j = 13 ∨ j = 15)) (fun c => c = 114 ∨ c = 115 ∨ c = 119 ∨ c = 120 ∨ c = 121) F A F' A' ∧ (((p < 0 ∨ 7 < p) ∧ z = Int64.ofInt (-1001)) ∨ (0 ≤ p ∧ p ≤ 7 ∧ (k < 0 ∨ 2 * F 106 0 < k) ∧ z = Int64.ofInt (-1002)) ∨ (0 ≤ p ∧ p ≤ 7 ∧ 0 ≤ k ∧ k ≤ 2 * F 106 0 ∧ (((∃ ii : Nat, (ii : Int) < 2 * F 106 0 ∧ (gs_plm F A p) [(ii : Int) + 1] = none) ∧ z = Int64.ofInt (-1005)) ∨ (∃ im : Nat → List Int, (∀ ii : Nat, (ii : Int) < 2 * F 106 0 → (gs_plm F A p) [(ii : Int) + 1] = some (im ii)) ∧ z = Int64.ofInt (gs_sum (dt_ch9 (fun x y => dt_bal ((y : Int) + 1) (im x)) k) (2 ^ (2 * F 106 0).toNat))))))) := by
  refine sC_of ok_X9_character.1 (Nat.le_of_ble_eq_true rfl) ?_
  show sA _ _ _ 0 [(0, .ref 106), (1, gs_iv p), (2, gs_iv k)] [] F A
  have hf : gs_fr (fun c j => c = 106 ∧ (j = 13 ∨ j = 15)) (fun c => c = 114 ∨ c = 115 ∨ c = 119 ∨ c = 120 ∨ c = 121) F A F A := gs_fr_refl _ _ _ _
  have b30 : (1 : Int) ≤ F 106 0 ∧ F 106 0 ≤ 3 := hI.1 106 0
  have hb0g : (1 : Int) ≤ F 106 0 ∧ F 106 0 ≤ 3 := hI.1 106 0
  refine sA_aload_n dd_X9_character_0 rfl (.head _) ?_
  refine sA_iload_n dd_X9_character_1 rfl (.tail _ (.head _)) ?_
  refine sA_callV (y2 := m_X9_noPlan) (n2 := 1) (d2 := 2) (a := 106) (ci := 9) (q := (RX9, TX9, 28)) (as := [gs_iv p]) (rest := []) dd_X9_character_2 ok_X9_noPlan ml_X9_218 rfl rfl (by decide) gs_s106 rfl rfl (Nat.le_of_ble_eq_true rfl) (by decide) (c_X9_noPlan hI (by omega)) (fun r31 F32 A33 h34 => ?_)
  obtain ⟨z37, e36, e38, e39, x35⟩ := h34
  subst e36 e38 e39
  show sA _ _ _ 5 _ [gs_iv z37] _ _
  refine sA_if_eq (tgt := 12) dd_X9_character_5 (by decide) (by omega) (fun q40 => ?_) (fun q40 => ?_)
  · skip
    refine sA_iload_n dd_X9_character_12 rfl (.tail _ (.tail _ (.head _))) ?_
    refine sA_i2l dd_X9_character_13 (by omega) ?_
    refine sA_lconst (z := 0) dd_X9_character_14 (by decide) ?_
    refine sA_iconst (z := 2) dd_X9_character_15 ?_
    refine sA_aload_n dd_X9_character_16 rfl (.head _) ?_
    refine sA_geti (ci := 9) (j := 0) (q := (RX9, TX9, 28)) dd_X9_character_17 rfl (by decide) fl_X9_64 (by decide) gs_s106 rfl ?_
    refine sA_imul dd_X9_character_20 ?_
    refine sA_i2l dd_X9_character_21 (by omega) ?_
    refine sA_callS (y2 := m_X9_in) (n2 := 3) (d2 := 1) (as := [gs_lv k, gs_lv 0, gs_lv (2 * (F 106 0))]) (rest := []) dd_X9_character_22 ok_X9_in ml_X9_75 rfl rfl (Nat.le_of_ble_eq_true rfl) (by decide) (c_X9_in (by omega) (by omega) (by omega)) (fun r41 F42 A43 h44 => ?_)
    obtain ⟨z47, e46, e48, e49, x45⟩ := h44
    subst e46 e48 e49
    show sA _ _ _ 25 _ [gs_iv z47] _ _
    refine sA_if_ne (tgt := 32) dd_X9_character_25 (by decide) (by omega) (fun q50 => ?_) (fun q50 => ?_)
    · skip
      refine sA_aload_n dd_X9_character_32 rfl (.head _) ?_
      refine sA_iload_n dd_X9_character_33 rfl (.tail _ (.head _)) ?_
      have hcd1 := hcd (by omega) (by omega)
      refine sA_callV (y2 := m_X9_findImages) (n2 := 1) (d2 := 7) (a := 106) (ci := 9) (q := (RX9, TX9, 28)) (as := [gs_iv p]) (rest := []) dd_X9_character_34 ok_X9_findImages ml_X9_242 rfl rfl (by decide) gs_s106 rfl rfl (Nat.le_of_ble_eq_true rfl) (by decide) (c_X9_findImages_vf hI (by omega) hcd1) (fun r51 F52 A53 h54 => ?_)
      obtain ⟨z57, e56, I58, f59, x55⟩ := h54
      subst e56
      have v60 : F52 106 0 = F 106 0 := f59.1 106 0 (by first | exact id | omega | (dsimp only; omega) | (dsimp only) | fail)
      have f61 := gs_fr_tr hf f59 (fun b j h => by first | exact False.elim h | omega | (dsimp only at h ⊢; omega) | fail) (fun b h => by first | exact False.elim h | omega | (dsimp only at h ⊢; omega) | fail)
      have y62 : (z57 = 1 ∧ ∀ ii : Nat, (ii : Int) < 2 * F 106 0 → gs_plm F A p [(ii : Int) + 1] = some (gs_im A53 ii)) ∨ (z57 = 0 ∧ ∃ ii : Nat, (ii : Int) < 2 * F 106 0 ∧ gs_plm F A p [(ii : Int) + 1] = none) := x55
      clear x55
      show sA _ _ _ 37 _ [gs_iv z57] _ _
      refine sA_if_ne (tgt := 44) dd_X9_character_37 (by decide) (by omega) (fun q63 => ?_) (fun q63 => ?_)
      · skip
        have hP3 : ∀ ii : Nat, (ii : Int) < 2 * F 106 0 → gs_plm F A p [(ii : Int) + 1] = some (gs_im A53 ii) := by
          rcases y62 with y | y
          · exact y.2
          · exfalso
            omega
        have hF34 : F52 106 0 = F 106 0 := f61.1 106 0 (by dsimp only; omega)
        refine sA_lconst (z := 0) dd_X9_character_44 (by decide) ?_
        refine sA_lstore_n (lv' := [(3, gs_lv 0), (0, .ref 106), (1, gs_iv p), (2, gs_iv k)]) dd_X9_character_45 rfl (by decide) rfl ?_
        have hpos : (0 : Int) < ((2 ^ (2 * F 106 0).toNat : Nat) : Int) := Int.ofNat_lt.mpr (Nat.two_pow_pos _)
        refine sA_iconst (z := 0) dd_X9_character_46 ?_
        refine sA_istore (lv' := [(5, gs_iv 0), (3, gs_lv 0), (0, .ref 106), (1, gs_iv p), (2, gs_iv k)]) dd_X9_character_47 (by decide) rfl ?_
        have b64 : (1 : Int) ≤ F52 106 0 ∧ F52 106 0 ≤ 3 := I58.1 106 0
        refine sA_sub (lv2 := [(5, gs_iv 0), (3, gs_lv 0), (0, .ref 106), (2, gs_iv k)]) (List.forall_mem_cons.mpr ⟨(.head _), (List.forall_mem_cons.mpr ⟨(.tail _ (.head _)), (List.forall_mem_cons.mpr ⟨(.tail _ (.tail _ (.head _))), (List.forall_mem_cons.mpr ⟨(.tail _ (.tail _ (.tail _ (.tail _ (.head _))))), (fun _ h => absurd h List.not_mem_nil)⟩)⟩)⟩)⟩) ?_
        exact (k_X9_character_vf hI hp hk hcd (64 - 0 : Int).toNat.succ) (Int64.ofInt 0) 0 F52 A53 I58 f61 (by omega) hP3 (by rfl) (by omega) (by omega) (by omega) (by omega)
      · skip
        refine sA_ldc2 (z := -1005) dd_X9_character_40 (ri_lw_in (pl := 1147) (by decide +kernel)) ?_
        refine sA_lret dd_X9_character_43 rfl ?_
        refine ⟨_, rfl, I58, f61, ?_⟩
        rcases y62 with y | y
        · exfalso
          omega
        · obtain ⟨y1, ii, hi, y2⟩ := y
          exact .inr (.inr ⟨by omega, by omega, by omega, by omega, .inl ⟨⟨ii, by omega, y2⟩, rfl⟩⟩)
    · skip
      refine sA_ldc2 (z := -1002) dd_X9_character_28 (ri_lw_in (pl := 1146) (by decide +kernel)) ?_
      refine sA_lret dd_X9_character_31 rfl ?_
      refine ⟨_, rfl, hI, hf, ?_⟩
      exact .inr (.inl ⟨by omega, by omega, by omega, rfl⟩)
  · skip
    refine sA_ldc2 (z := -1001) dd_X9_character_8 (ri_lw_in (pl := 1145) (by decide +kernel)) ?_
    refine sA_lret dd_X9_character_11 rfl ?_
    refine ⟨_, rfl, hI, hf, ?_⟩
    exact .inl ⟨by omega, rfl⟩
end
