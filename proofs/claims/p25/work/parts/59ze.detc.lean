noncomputable section
theorem k_X4_balanceOf_vf {a L : Nat} {x : Int} {F A : gs_F} (hI : gs_I F A) (hr : gs_row a L) (hx : -100 ≤ x ∧ x ≤ 100) : ∀ nN : Nat, (∀ (s : Int) (k : Int),  0 ≤ k → k ≤ F a 1 → -k ≤ s → s ≤ k → s = dt_bal x (gs_stk (A (a + 1)) k.toNat) → F a 1 - k < (nN : Int) → sA m_X4_balanceOf 1 (fun rv F' A' => ∃ z : Int, rv = some (gs_iv z) ∧ F = F' ∧ A = A' ∧ ((-400 ≤ z ∧ z ≤ 400) ∧ z = dt_bal x (gs_stk (A (a + 1)) (F a 1).toNat))) 4 [(3, gs_iv k), (2, gs_iv s), (0, .ref a), (1, gs_iv x)] [] F A) := by
  intro nN
  induction nN with
  | zero =>
    exact fun a0 a1 i0 i1 i2 i3 i4 hm => by exfalso; omega
  | succ nN ih =>
    intro s k i0 i1 i2 i3 i4 hm
    have b1 := gs_row_sz hr hI
    refine sA_iload_n dd_X4_balanceOf_4 rfl (.head _) ?_
    refine sA_aload_n dd_X4_balanceOf_5 rfl (.tail _ (.tail _ (.head _))) ?_
    refine sA_geti (ci := 4) (j := 1) (q := (RX4, TX4, 2)) dd_X4_balanceOf_6 rfl (by decide) fl_X4_19 (Nat.lt_of_succ_lt hr.1) hr.2.1 rfl ?_
    refine sA_icmp_ge (tgt := 48) dd_X4_balanceOf_9 (by decide) (by omega) (by omega) (fun q2 => ?_) (fun q2 => ?_)
    · skip
      refine sA_iload_n dd_X4_balanceOf_48 rfl (.tail _ (.head _)) ?_
      refine sA_iret (z := s) dd_X4_balanceOf_49 rfl ?_
      refine ⟨_, rfl, rfl, rfl, ?_⟩
      refine ⟨by omega, ?_⟩
      rw [show F a 1 = k by omega]
      exact i4
    · skip
      refine sA_aload_n dd_X4_balanceOf_12 rfl (.tail _ (.tail _ (.head _))) ?_
      refine sA_getr (ci := 4) (j := 0) (q := (RX4, TX4, 2)) dd_X4_balanceOf_13 rfl (by decide) fl_X4_13 (Nat.lt_of_succ_lt hr.1) hr.2.1 rfl ?_
      refine sA_iload_n dd_X4_balanceOf_16 rfl (.head _) ?_
      refine sA_iald (n := L) dd_X4_balanceOf_17 hr.1 hr.2.2.1 (by omega) (Nat.le_trans hr.2.2.2.2.2.2 (by decide)) ?_
      have b3 := gs_row_el hr hI k.toNat
      refine sA_iload_n dd_X4_balanceOf_18 rfl (.tail _ (.tail _ (.tail _ (.head _)))) ?_
      refine sA_icmp_ne (tgt := 28) dd_X4_balanceOf_19 (by decide) (by omega) (by omega) (fun q4 => ?_) (fun q4 => ?_)
      · skip
        refine sA_aload_n dd_X4_balanceOf_28 rfl (.tail _ (.tail _ (.head _))) ?_
        refine sA_getr (ci := 4) (j := 0) (q := (RX4, TX4, 2)) dd_X4_balanceOf_29 rfl (by decide) fl_X4_13 (Nat.lt_of_succ_lt hr.1) hr.2.1 rfl ?_
        refine sA_iload_n dd_X4_balanceOf_32 rfl (.head _) ?_
        refine sA_iald (n := L) dd_X4_balanceOf_33 hr.1 hr.2.2.1 (by omega) (Nat.le_trans hr.2.2.2.2.2.2 (by decide)) ?_
        refine sA_iload_n dd_X4_balanceOf_34 rfl (.tail _ (.tail _ (.tail _ (.head _)))) ?_
        refine sA_ineg dd_X4_balanceOf_35 ?_
        refine sA_icmp_ne (tgt := 42) dd_X4_balanceOf_36 (by decide) (by omega) (by omega) (fun q5 => ?_) (fun q5 => ?_)
        · skip
          refine sA_iinc (lv' := [(3, gs_iv (k + 1)), (2, gs_iv s), (0, .ref a), (1, gs_iv x)]) dd_X4_balanceOf_42 (.head _) (by decide) rfl ?_
          refine sA_goto (tgt := 4) dd_X4_balanceOf_45 (by decide) ?_
          refine sA_sub (lv2 := [(3, gs_iv (k + 1)), (2, gs_iv s), (0, .ref a), (1, gs_iv x)]) (List.forall_mem_cons.mpr ⟨(.head _), (List.forall_mem_cons.mpr ⟨(.tail _ (.head _)), (List.forall_mem_cons.mpr ⟨(.tail _ (.tail _ (.head _))), (List.forall_mem_cons.mpr ⟨(.tail _ (.tail _ (.tail _ (.head _)))), (fun _ h => absurd h List.not_mem_nil)⟩)⟩)⟩)⟩) ?_
          exact ih s (k + 1)  (by omega) (by omega) (by omega) (by omega) (by rw [show (k + 1).toNat = k.toNat + 1 by omega]; show _ = dt_bal x (gs_stk (A (a + 1)) k.toNat) + (if A (a + 1) k.toNat = x then 1 else if A (a + 1) k.toNat = -x then -1 else 0); (first | rw [if_pos (by omega)] | rw [if_neg (by omega), if_pos (by omega)] | rw [if_neg (by omega), if_neg (by omega)] | fail); omega) (by omega)
        · skip
          refine sA_iinc (lv' := [(2, gs_iv (s + (-1))), (3, gs_iv k), (0, .ref a), (1, gs_iv x)]) dd_X4_balanceOf_39 (.tail _ (.head _)) (by decide) rfl ?_
          refine sA_iinc (lv' := [(3, gs_iv (k + 1)), (2, gs_iv (s + (-1))), (0, .ref a), (1, gs_iv x)]) dd_X4_balanceOf_42 (.tail _ (.head _)) (by decide) rfl ?_
          refine sA_goto (tgt := 4) dd_X4_balanceOf_45 (by decide) ?_
          refine sA_sub (lv2 := [(3, gs_iv (k + 1)), (2, gs_iv (s + (-1))), (0, .ref a), (1, gs_iv x)]) (List.forall_mem_cons.mpr ⟨(.head _), (List.forall_mem_cons.mpr ⟨(.tail _ (.head _)), (List.forall_mem_cons.mpr ⟨(.tail _ (.tail _ (.head _))), (List.forall_mem_cons.mpr ⟨(.tail _ (.tail _ (.tail _ (.head _)))), (fun _ h => absurd h List.not_mem_nil)⟩)⟩)⟩)⟩) ?_
          exact ih (s + (-1)) (k + 1)  (by omega) (by omega) (by omega) (by omega) (by rw [show (k + 1).toNat = k.toNat + 1 by omega]; show _ = dt_bal x (gs_stk (A (a + 1)) k.toNat) + (if A (a + 1) k.toNat = x then 1 else if A (a + 1) k.toNat = -x then -1 else 0); (first | rw [if_pos (by omega)] | rw [if_neg (by omega), if_pos (by omega)] | rw [if_neg (by omega), if_neg (by omega)] | fail); omega) (by omega)
      · skip
        refine sA_iinc (lv' := [(2, gs_iv (s + 1)), (3, gs_iv k), (0, .ref a), (1, gs_iv x)]) dd_X4_balanceOf_22 (.tail _ (.head _)) (by decide) rfl ?_
        refine sA_goto (tgt := 42) dd_X4_balanceOf_25 (by decide) ?_
        refine sA_iinc (lv' := [(3, gs_iv (k + 1)), (2, gs_iv (s + 1)), (0, .ref a), (1, gs_iv x)]) dd_X4_balanceOf_42 (.tail _ (.head _)) (by decide) rfl ?_
        refine sA_goto (tgt := 4) dd_X4_balanceOf_45 (by decide) ?_
        refine sA_sub (lv2 := [(3, gs_iv (k + 1)), (2, gs_iv (s + 1)), (0, .ref a), (1, gs_iv x)]) (List.forall_mem_cons.mpr ⟨(.head _), (List.forall_mem_cons.mpr ⟨(.tail _ (.head _)), (List.forall_mem_cons.mpr ⟨(.tail _ (.tail _ (.head _))), (List.forall_mem_cons.mpr ⟨(.tail _ (.tail _ (.tail _ (.head _)))), (fun _ h => absurd h List.not_mem_nil)⟩)⟩)⟩)⟩) ?_
        exact ih (s + 1) (k + 1)  (by omega) (by omega) (by omega) (by omega) (by rw [show (k + 1).toNat = k.toNat + 1 by omega]; show _ = dt_bal x (gs_stk (A (a + 1)) k.toNat) + (if A (a + 1) k.toNat = x then 1 else if A (a + 1) k.toNat = -x then -1 else 0); (first | rw [if_pos (by omega)] | rw [if_neg (by omega), if_pos (by omega)] | rw [if_neg (by omega), if_neg (by omega)] | fail); omega) (by omega)
theorem c_X4_balanceOf_vf {a L : Nat} {x : Int} {F A : gs_F} (hI : gs_I F A) (hr : gs_row a L) (hx : -100 ≤ x ∧ x ≤ 100) : sC m_X4_balanceOf 1 [.ref a, gs_iv x] F A (fun rv F' A' => ∃ z : Int, rv = some (gs_iv z) ∧ F = F' ∧ A = A' ∧ ((-400 ≤ z ∧ z ≤ 400) ∧ z = dt_bal x (gs_stk (A (a + 1)) (F a 1).toNat))) := by
  refine sC_of ok_X4_balanceOf.1 (Nat.le_of_ble_eq_true rfl) ?_
  show sA _ _ _ 0 [(0, .ref a), (1, gs_iv x)] [] F A
  have b6 := gs_row_sz hr hI
  refine sA_iconst (z := 0) dd_X4_balanceOf_0 ?_
  refine sA_istore_n (lv' := [(2, gs_iv 0), (0, .ref a), (1, gs_iv x)]) dd_X4_balanceOf_1 rfl (by decide) rfl ?_
  refine sA_iconst (z := 0) dd_X4_balanceOf_2 ?_
  refine sA_istore_n (lv' := [(3, gs_iv 0), (2, gs_iv 0), (0, .ref a), (1, gs_iv x)]) dd_X4_balanceOf_3 rfl (by decide) rfl ?_
  refine sA_sub (lv2 := [(3, gs_iv 0), (2, gs_iv 0), (0, .ref a), (1, gs_iv x)]) (List.forall_mem_cons.mpr ⟨(.head _), (List.forall_mem_cons.mpr ⟨(.tail _ (.head _)), (List.forall_mem_cons.mpr ⟨(.tail _ (.tail _ (.head _))), (List.forall_mem_cons.mpr ⟨(.tail _ (.tail _ (.tail _ (.head _)))), (fun _ h => absurd h List.not_mem_nil)⟩)⟩)⟩)⟩) ?_
  exact (k_X4_balanceOf_vf hI hr hx (F a 1 - 0 : Int).toNat.succ) 0 0  (by omega) (by omega) (by omega) (by omega) (by rfl) (by omega)
theorem c_X0_corner_v6f {rs cs : Int} {F A : gs_F} (hI : gs_I F A) (h1 : 0 ≤ rs ∧ rs < 64) (h2 : 0 ≤ cs ∧ cs < 64) : sC m_X0_corner 1 [.ref 17, gs_iv 6, gs_iv rs, gs_iv cs] F A (fun rv F' A' => ∃ z : Int64, rv = some (.long z) ∧ F = F' ∧ A = A' ∧ (z = Int64.ofInt (dt_1 (dt_T17 A) (dt_up rs.toNat 0) cs.toNat))) := by
  refine sC_of ok_X0_corner.1 (Nat.le_of_ble_eq_true rfl) ?_
  show sA _ _ _ 0 [(0, .ref 17), (1, gs_iv 6), (2, gs_iv rs), (3, gs_iv cs)] [] F A
  refine sA_iload_n dd_X0_corner_0 rfl (.tail _ (.head _)) ?_
  refine sA_bipush (z := 6) dd_X0_corner_1 (by decide) ?_
  refine sA_icmp_lt (tgt := 8) dd_X0_corner_3 (by decide) (by omega) (by omega) (fun q1 => absurd q1 (by omega)) (fun q1 => ?_)
  refine sA_lconst (z := 1) dd_X0_corner_6 (by decide) ?_
  refine sA_lret dd_X0_corner_7 rfl ?_
  refine ⟨_, rfl, rfl, rfl, ?_⟩
  rfl
theorem k_X0_corner_v5f {rs cs : Int} {F A : gs_F} (hI : gs_I F A) (h1 : 0 ≤ rs ∧ rs < 64) (h2 : 0 ≤ cs ∧ cs < 64) : ∀ nN : Nat, (∀ (s : Int64) (sg : Int) (y : Int),  0 ≤ y ∧ y ≤ 6 → sg = 1 ∨ sg = -1 → s = Int64.ofInt (gs_sum (dt_tm (dt_T17 A) 5 (dt_up rs.toNat 0) cs.toNat) y.toNat) → sg = dt_s cs.toNat y.toNat → rs.toNat.testBit 5 = true → 6 - y < (nN : Int) → sA m_X0_corner 2 (fun rv F' A' => ∃ z : Int64, rv = some (.long z) ∧ F = F' ∧ A = A' ∧ (z = Int64.ofInt (dt_1 (dt_T17 A) (dt_up rs.toNat 1) cs.toNat))) 35 [(7, gs_iv y), (6, gs_iv sg), (4, .long s), (0, .ref 17), (1, gs_iv 5), (2, gs_iv rs), (3, gs_iv cs)] [] F A) := by
  intro nN
  induction nN with
  | zero =>
    exact fun a0 a1 a2 i0 i1 i2 i3 i4 hm => by exfalso; omega
  | succ nN ih =>
    intro s sg y i0 i1 i2 i3 i4 hm
    refine sA_iload dd_X0_corner_35 (.head _) ?_
    refine sA_bipush (z := 6) dd_X0_corner_37 (by decide) ?_
    refine sA_icmp_ge (tgt := 107) dd_X0_corner_39 (by decide) (by omega) (by omega) (fun q1 => ?_) (fun q1 => ?_)
    · skip
      refine sA_lload dd_X0_corner_107 (.tail _ (.tail _ (.head _))) ?_
      refine sA_lret dd_X0_corner_109 rfl ?_
      refine ⟨_, rfl, rfl, rfl, ?_⟩
      have e : dt_up rs.toNat 1 = 5 :: dt_up rs.toNat 0 := dt_up_1 (j := 0) i4
      rw [e]
      show s = Int64.ofInt (gs_sum (dt_tm (dt_T17 A) 5 (dt_up rs.toNat 0) cs.toNat) 6)
      rw [i2, show y.toNat = 6 by omega]
    · skip
      refine sA_iload_n dd_X0_corner_42 rfl (.tail _ (.tail _ (.tail _ (.tail _ (.tail _ (.tail _ (.head _))))))) ?_
      refine sA_iload dd_X0_corner_43 (.head _) ?_
      refine sA_ishr dd_X0_corner_45 ?_
      have b2 := gs_t_rng (Int32.ofInt cs >>> (Int32.ofInt y &&& 31))
      generalize hw3 : gs_t (Int32.ofInt cs >>> (Int32.ofInt y &&& 31)) = w3 at b2 ⊢
      refine sA_iconst (z := 1) dd_X0_corner_46 ?_
      refine sA_iand dd_X0_corner_47 ?_
      have b4 := gs_t_rng (Int32.ofInt w3 &&& Int32.ofInt 1)
      generalize hw5 : gs_t (Int32.ofInt w3 &&& Int32.ofInt 1) = w5 at b4 ⊢
      have hcb : dt_hb cs y = w5 := by
        unfold dt_hb
        rw [hw3]
        exact hw5
      have hct := dt_hb_1 (e := cs) (k := y) (by omega) (by omega)
      have hT : dt_T17 A 5 y.toNat = A 17 (30 + y).toNat := by
        show A 17 (6 * 5 + y.toNat) = _
        congr 1
        omega
      refine sA_if_eq (tgt := 101) dd_X0_corner_48 (by decide) (by omega) (fun q6 => ?_) (fun q6 => ?_)
      · skip
        refine sA_iinc (lv' := [(7, gs_iv (y + 1)), (6, gs_iv sg), (4, .long s), (0, .ref 17), (1, gs_iv 5), (2, gs_iv rs), (3, gs_iv cs)]) dd_X0_corner_101 (.head _) (by decide) rfl ?_
        refine sA_goto (tgt := 35) dd_X0_corner_104 (by decide) ?_
        refine sA_sub (lv2 := [(7, gs_iv (y + 1)), (6, gs_iv sg), (4, .long s), (0, .ref 17), (1, gs_iv 5), (2, gs_iv rs), (3, gs_iv cs)]) (List.forall_mem_cons.mpr ⟨(.head _), (List.forall_mem_cons.mpr ⟨(.tail _ (.head _)), (List.forall_mem_cons.mpr ⟨(.tail _ (.tail _ (.head _))), (List.forall_mem_cons.mpr ⟨(.tail _ (.tail _ (.tail _ (.head _)))), (List.forall_mem_cons.mpr ⟨(.tail _ (.tail _ (.tail _ (.tail _ (.head _))))), (List.forall_mem_cons.mpr ⟨(.tail _ (.tail _ (.tail _ (.tail _ (.tail _ (.head _)))))), (List.forall_mem_cons.mpr ⟨(.tail _ (.tail _ (.tail _ (.tail _ (.tail _ (.tail _ (.head _))))))), (fun _ h => absurd h List.not_mem_nil)⟩)⟩)⟩)⟩)⟩)⟩)⟩) ?_
        exact ih s sg (y + 1)  (by omega) (by omega) (by rw [show (y + 1).toNat = y.toNat + 1 by omega]; exact dt_keep i2 (if_neg (fun w => (hct.mpr w) (by rw [hcb]; omega)))) (by rw [show (y + 1).toNat = y.toNat + 1 by omega]; rw [dt_s_0 (fun w => (hct.mpr w) (by rw [hcb]; omega))]; exact i3) i4 (by omega)
      · skip
        have hb1 : cs.toNat.testBit y.toNat = true := hct.mp (by rw [hcb]; omega)
        refine sA_aload_n dd_X0_corner_51 rfl (.tail _ (.tail _ (.tail _ (.head _)))) ?_
        refine sA_iload_n dd_X0_corner_52 rfl (.tail _ (.tail _ (.tail _ (.tail _ (.head _))))) ?_
        refine sA_bipush (z := 6) dd_X0_corner_53 (by decide) ?_
        refine sA_imul dd_X0_corner_55 ?_
        show sA _ _ _ _ _ (gs_iv 30 :: _) _ _
        refine sA_iload dd_X0_corner_56 (.head _) ?_
        refine sA_iadd dd_X0_corner_58 ?_
        refine sA_iald (n := 36) dd_X0_corner_59 (by decide) gs_s17 (by omega) (by decide) ?_
        have b7 : (-2147483648 : Int) ≤ A 17 (30 + y).toNat ∧ A 17 (30 + y).toNat ≤ 2147483647 := hI.2 17 (30 + y).toNat
        refine sA_istore (lv' := [(8, gs_iv (A 17 (30 + y).toNat)), (7, gs_iv y), (6, gs_iv sg), (4, .long s), (0, .ref 17), (1, gs_iv 5), (2, gs_iv rs), (3, gs_iv cs)]) dd_X0_corner_60 (by decide) rfl ?_
        refine sA_iload dd_X0_corner_62 (.head _) ?_
        refine sA_if_eq (tgt := 96) dd_X0_corner_64 (by decide) (by omega) (fun q8 => ?_) (fun q8 => ?_)
        · skip
          refine sA_iload dd_X0_corner_96 (.tail _ (.tail _ (.head _))) ?_
          refine sA_ineg dd_X0_corner_98 ?_
          refine sA_istore (lv' := [(6, gs_iv (-sg)), (8, gs_iv (A 17 (30 + y).toNat)), (7, gs_iv y), (4, .long s), (0, .ref 17), (1, gs_iv 5), (2, gs_iv rs), (3, gs_iv cs)]) dd_X0_corner_99 (by decide) rfl ?_
          refine sA_iinc (lv' := [(7, gs_iv (y + 1)), (6, gs_iv (-sg)), (8, gs_iv (A 17 (30 + y).toNat)), (4, .long s), (0, .ref 17), (1, gs_iv 5), (2, gs_iv rs), (3, gs_iv cs)]) dd_X0_corner_101 (.tail _ (.tail _ (.head _))) (by decide) rfl ?_
          refine sA_goto (tgt := 35) dd_X0_corner_104 (by decide) ?_
          refine sA_sub (lv2 := [(7, gs_iv (y + 1)), (6, gs_iv (-sg)), (4, .long s), (0, .ref 17), (1, gs_iv 5), (2, gs_iv rs), (3, gs_iv cs)]) (List.forall_mem_cons.mpr ⟨(.head _), (List.forall_mem_cons.mpr ⟨(.tail _ (.head _)), (List.forall_mem_cons.mpr ⟨(.tail _ (.tail _ (.tail _ (.head _)))), (List.forall_mem_cons.mpr ⟨(.tail _ (.tail _ (.tail _ (.tail _ (.head _))))), (List.forall_mem_cons.mpr ⟨(.tail _ (.tail _ (.tail _ (.tail _ (.tail _ (.head _)))))), (List.forall_mem_cons.mpr ⟨(.tail _ (.tail _ (.tail _ (.tail _ (.tail _ (.tail _ (.head _))))))), (List.forall_mem_cons.mpr ⟨(.tail _ (.tail _ (.tail _ (.tail _ (.tail _ (.tail _ (.tail _ (.head _)))))))), (fun _ h => absurd h List.not_mem_nil)⟩)⟩)⟩)⟩)⟩)⟩)⟩) ?_
          exact ih s (-sg) (y + 1)  (by omega) (by omega) (by rw [show (y + 1).toNat = y.toNat + 1 by omega]; exact dt_keep i2 (by show (if cs.toNat.testBit y.toNat then dt_s cs.toNat y.toNat * dt_T17 A 5 y.toNat * dt_1 (dt_T17 A) (dt_up rs.toNat 0) (cs.toNat - 2 ^ y.toNat) else 0) = 0; rw [if_pos hb1, hT, show A 17 (30 + y).toNat = 0 by omega, Int.mul_zero, Int.zero_mul])) (by rw [show (y + 1).toNat = y.toNat + 1 by omega]; rw [dt_s_1 hb1]; omega) i4 (by omega)
        · skip
          refine sA_lload dd_X0_corner_67 (.tail _ (.tail _ (.tail _ (.head _)))) ?_
          refine sA_iload dd_X0_corner_69 (.tail _ (.tail _ (.head _))) ?_
          refine sA_i2l dd_X0_corner_71 (by omega) ?_
          refine sA_iload dd_X0_corner_72 (.head _) ?_
          refine sA_i2l dd_X0_corner_74 (by omega) ?_
          refine sA_lmul dd_X0_corner_75 ?_
          refine sA_aload_n dd_X0_corner_76 rfl (.tail _ (.tail _ (.tail _ (.tail _ (.head _))))) ?_
          refine sA_iload_n dd_X0_corner_77 rfl (.tail _ (.tail _ (.tail _ (.tail _ (.tail _ (.head _)))))) ?_
          refine sA_iconst (z := 1) dd_X0_corner_78 ?_
          refine sA_iadd dd_X0_corner_79 ?_
          show sA _ _ _ _ _ (gs_iv 6 :: _) _ _
          refine sA_iload_n dd_X0_corner_80 rfl (.tail _ (.tail _ (.tail _ (.tail _ (.tail _ (.tail _ (.head _))))))) ?_
          refine sA_iload_n dd_X0_corner_81 rfl (.tail _ (.tail _ (.tail _ (.tail _ (.tail _ (.tail _ (.tail _ (.head _)))))))) ?_
          refine sA_iconst (z := 1) dd_X0_corner_82 ?_
          refine sA_iload dd_X0_corner_83 (.tail _ (.head _)) ?_
          refine sA_ishl dd_X0_corner_85 ?_
          have b9 := gs_t_rng (Int32.ofInt 1 <<< (Int32.ofInt y &&& 31))
          generalize hw10 : gs_t (Int32.ofInt 1 <<< (Int32.ofInt y &&& 31)) = w10 at b9 ⊢
          refine sA_iconst (z := (-1)) dd_X0_corner_86 ?_
          refine sA_ixor dd_X0_corner_87 ?_
          have b11 := gs_t_rng (Int32.ofInt w10 ^^^ Int32.ofInt (-1))
          generalize hw12 : gs_t (Int32.ofInt w10 ^^^ Int32.ofInt (-1)) = w12 at b11 ⊢
          refine sA_iand dd_X0_corner_88 ?_
          have b13 := gs_t_rng (Int32.ofInt cs &&& Int32.ofInt w12)
          generalize hw14 : gs_t (Int32.ofInt cs &&& Int32.ofInt w12) = w14 at b13 ⊢
          have hrm : dt_hr cs y = w14 := by
            unfold dt_hr
            rw [hw10, hw12]
            exact hw14
          have hrv : w14 = ((cs.toNat - 2 ^ y.toNat : Nat) : Int) := hrm.symm.trans (dt_hr_at (by omega) (by omega) hb1)
          have h64 : cs.toNat - 2 ^ y.toNat < 64 := Nat.lt_of_le_of_lt (Nat.sub_le _ _) (by omega)
          have hW88 : 0 ≤ w14 ∧ w14 < 64 := by
            rw [hrv]
            exact ⟨Int.natCast_nonneg _, Int.ofNat_lt.mpr h64⟩
          refine sA_callS (y2 := m_X0_corner) (n2 := 4) (d2 := 1) (as := [.ref 17, gs_iv 6, gs_iv rs, gs_iv w14]) (rest := [gs_lv (sg * (A 17 (30 + y).toNat)), .long s]) dd_X0_corner_89 ok_X0_corner ml_X0_76 rfl rfl (Nat.le_of_ble_eq_true rfl) (by decide) (c_X0_corner_v6f hI (by omega) (by omega)) (fun r15 F16 A17 h18 => ?_)
          obtain ⟨z21, e20, e22, e23, x19⟩ := h18
          subst e20 e22 e23
          have y24 : z21 = Int64.ofInt (dt_1 (dt_T17 A) (dt_up rs.toNat 0) w14.toNat) := x19
          clear x19
          show sA _ _ _ 92 _ [.long z21, gs_lv (sg * (A 17 (30 + y).toNat)), .long s] _ _
          have y89 := y24
          rw [hrv, Int.toNat_natCast] at y89
          refine sA_lmulR dd_X0_corner_92 ?_
          refine sA_laddR dd_X0_corner_93 ?_
          refine sA_lstore (lv' := [(4, .long (s + ((Int64.ofInt (sg * (A 17 (30 + y).toNat))) * z21))), (8, gs_iv (A 17 (30 + y).toNat)), (7, gs_iv y), (6, gs_iv sg), (0, .ref 17), (1, gs_iv 5), (2, gs_iv rs), (3, gs_iv cs)]) dd_X0_corner_94 (by decide) rfl ?_
          refine sA_iload dd_X0_corner_96 (.tail _ (.tail _ (.tail _ (.head _)))) ?_
          refine sA_ineg dd_X0_corner_98 ?_
          refine sA_istore (lv' := [(6, gs_iv (-sg)), (4, .long (s + ((Int64.ofInt (sg * (A 17 (30 + y).toNat))) * z21))), (8, gs_iv (A 17 (30 + y).toNat)), (7, gs_iv y), (0, .ref 17), (1, gs_iv 5), (2, gs_iv rs), (3, gs_iv cs)]) dd_X0_corner_99 (by decide) rfl ?_
          refine sA_iinc (lv' := [(7, gs_iv (y + 1)), (6, gs_iv (-sg)), (4, .long (s + ((Int64.ofInt (sg * (A 17 (30 + y).toNat))) * z21))), (8, gs_iv (A 17 (30 + y).toNat)), (0, .ref 17), (1, gs_iv 5), (2, gs_iv rs), (3, gs_iv cs)]) dd_X0_corner_101 (.tail _ (.tail _ (.tail _ (.head _)))) (by decide) rfl ?_
          refine sA_goto (tgt := 35) dd_X0_corner_104 (by decide) ?_
          refine sA_sub (lv2 := [(7, gs_iv (y + 1)), (6, gs_iv (-sg)), (4, .long (s + ((Int64.ofInt (sg * (A 17 (30 + y).toNat))) * z21))), (0, .ref 17), (1, gs_iv 5), (2, gs_iv rs), (3, gs_iv cs)]) (List.forall_mem_cons.mpr ⟨(.head _), (List.forall_mem_cons.mpr ⟨(.tail _ (.head _)), (List.forall_mem_cons.mpr ⟨(.tail _ (.tail _ (.head _))), (List.forall_mem_cons.mpr ⟨(.tail _ (.tail _ (.tail _ (.tail _ (.head _))))), (List.forall_mem_cons.mpr ⟨(.tail _ (.tail _ (.tail _ (.tail _ (.tail _ (.head _)))))), (List.forall_mem_cons.mpr ⟨(.tail _ (.tail _ (.tail _ (.tail _ (.tail _ (.tail _ (.head _))))))), (List.forall_mem_cons.mpr ⟨(.tail _ (.tail _ (.tail _ (.tail _ (.tail _ (.tail _ (.tail _ (.head _)))))))), (fun _ h => absurd h List.not_mem_nil)⟩)⟩)⟩)⟩)⟩)⟩)⟩) ?_
          exact ih (s + ((Int64.ofInt (sg * (A 17 (30 + y).toNat))) * z21)) (-sg) (y + 1)  (by omega) (by omega) (by rw [show (y + 1).toNat = y.toNat + 1 by omega]; exact dt_step i2 (d := sg * A 17 (30 + y).toNat * dt_1 (dt_T17 A) (dt_up rs.toNat 0) (cs.toNat - 2 ^ y.toNat)) (by rw [y89, ← Int64.ofInt_mul]) (by show (if cs.toNat.testBit y.toNat then dt_s cs.toNat y.toNat * dt_T17 A 5 y.toNat * dt_1 (dt_T17 A) (dt_up rs.toNat 0) (cs.toNat - 2 ^ y.toNat) else 0) = _; rw [if_pos hb1, hT, ← i3])) (by rw [show (y + 1).toNat = y.toNat + 1 by omega]; rw [dt_s_1 hb1]; omega) i4 (by omega)
theorem c_X0_corner_v5f {rs cs : Int} {F A : gs_F} (hI : gs_I F A) (h1 : 0 ≤ rs ∧ rs < 64) (h2 : 0 ≤ cs ∧ cs < 64) : sC m_X0_corner 2 [.ref 17, gs_iv 5, gs_iv rs, gs_iv cs] F A (fun rv F' A' => ∃ z : Int64, rv = some (.long z) ∧ F = F' ∧ A = A' ∧ (z = Int64.ofInt (dt_1 (dt_T17 A) (dt_up rs.toNat 1) cs.toNat))) := by
  refine sC_of ok_X0_corner.1 (Nat.le_of_ble_eq_true rfl) ?_
  show sA _ _ _ 0 [(0, .ref 17), (1, gs_iv 5), (2, gs_iv rs), (3, gs_iv cs)] [] F A
  refine sA_iload_n dd_X0_corner_0 rfl (.tail _ (.head _)) ?_
  refine sA_bipush (z := 6) dd_X0_corner_1 (by decide) ?_
  refine sA_icmp_lt (tgt := 8) dd_X0_corner_3 (by decide) (by omega) (by omega) (fun q25 => ?_) (fun q25 => absurd q25 (by omega))
  refine sA_iload_n dd_X0_corner_8 rfl (.tail _ (.tail _ (.head _))) ?_
  refine sA_iload_n dd_X0_corner_9 rfl (.tail _ (.head _)) ?_
  refine sA_ishr dd_X0_corner_10 ?_
  have b26 := gs_t_rng (Int32.ofInt rs >>> (Int32.ofInt 5 &&& 31))
  generalize hw27 : gs_t (Int32.ofInt rs >>> (Int32.ofInt 5 &&& 31)) = w27 at b26 ⊢
  refine sA_iconst (z := 1) dd_X0_corner_11 ?_
  refine sA_iand dd_X0_corner_12 ?_
  have b28 := gs_t_rng (Int32.ofInt w27 &&& Int32.ofInt 1)
  generalize hw29 : gs_t (Int32.ofInt w27 &&& Int32.ofInt 1) = w29 at b28 ⊢
  have hrb : dt_hb rs 5 = w29 := by
    unfold dt_hb
    rw [hw27]
    exact hw29
  have hrt : dt_hb rs 5 ≠ 0 ↔ rs.toNat.testBit 5 = true := dt_hb_1 (k := 5) (by omega) (by omega)
  refine sA_if_ne (tgt := 26) dd_X0_corner_13 (by decide) (by omega) (fun q30 => ?_) (fun q30 => ?_)
  · skip
    refine sA_lconst (z := 0) dd_X0_corner_26 (by decide) ?_
    refine sA_lstore (lv' := [(4, gs_lv 0), (0, .ref 17), (1, gs_iv 5), (2, gs_iv rs), (3, gs_iv cs)]) dd_X0_corner_27 (by decide) rfl ?_
    refine sA_iconst (z := 1) dd_X0_corner_29 ?_
    refine sA_istore (lv' := [(6, gs_iv 1), (4, gs_lv 0), (0, .ref 17), (1, gs_iv 5), (2, gs_iv rs), (3, gs_iv cs)]) dd_X0_corner_30 (by decide) rfl ?_
    refine sA_iconst (z := 0) dd_X0_corner_32 ?_
    refine sA_istore (lv' := [(7, gs_iv 0), (6, gs_iv 1), (4, gs_lv 0), (0, .ref 17), (1, gs_iv 5), (2, gs_iv rs), (3, gs_iv cs)]) dd_X0_corner_33 (by decide) rfl ?_
    refine sA_sub (lv2 := [(7, gs_iv 0), (6, gs_iv 1), (4, gs_lv 0), (0, .ref 17), (1, gs_iv 5), (2, gs_iv rs), (3, gs_iv cs)]) (List.forall_mem_cons.mpr ⟨(.head _), (List.forall_mem_cons.mpr ⟨(.tail _ (.head _)), (List.forall_mem_cons.mpr ⟨(.tail _ (.tail _ (.head _))), (List.forall_mem_cons.mpr ⟨(.tail _ (.tail _ (.tail _ (.head _)))), (List.forall_mem_cons.mpr ⟨(.tail _ (.tail _ (.tail _ (.tail _ (.head _))))), (List.forall_mem_cons.mpr ⟨(.tail _ (.tail _ (.tail _ (.tail _ (.tail _ (.head _)))))), (List.forall_mem_cons.mpr ⟨(.tail _ (.tail _ (.tail _ (.tail _ (.tail _ (.tail _ (.head _))))))), (fun _ h => absurd h List.not_mem_nil)⟩)⟩)⟩)⟩)⟩)⟩)⟩) ?_
    exact (k_X0_corner_v5f hI h1 h2 (6 - 0 : Int).toNat.succ) (Int64.ofInt 0) 1 0  (by omega) (by omega) (by rfl) (by rfl) (hrt.mp (by rw [hrb]; omega)) (by omega)
  · skip
    refine sA_aload_n dd_X0_corner_16 rfl (.head _) ?_
    refine sA_iload_n dd_X0_corner_17 rfl (.tail _ (.head _)) ?_
    refine sA_iconst (z := 1) dd_X0_corner_18 ?_
    refine sA_iadd dd_X0_corner_19 ?_
    show sA _ _ _ _ _ (gs_iv 6 :: _) _ _
    refine sA_iload_n dd_X0_corner_20 rfl (.tail _ (.tail _ (.head _))) ?_
    refine sA_iload_n dd_X0_corner_21 rfl (.tail _ (.tail _ (.tail _ (.head _)))) ?_
    refine sA_callS (y2 := m_X0_corner) (n2 := 4) (d2 := 1) (as := [.ref 17, gs_iv 6, gs_iv rs, gs_iv cs]) (rest := []) dd_X0_corner_22 ok_X0_corner ml_X0_76 rfl rfl (Nat.le_of_ble_eq_true rfl) (by decide) (c_X0_corner_v6f hI (by omega) (by omega)) (fun r31 F32 A33 h34 => ?_)
    obtain ⟨z37, e36, e38, e39, x35⟩ := h34
    subst e36 e38 e39
    have y40 : z37 = Int64.ofInt (dt_1 (dt_T17 A) (dt_up rs.toNat 0) cs.toNat) := x35
    clear x35
    show sA _ _ _ 25 _ [.long z37] _ _
    refine sA_lret dd_X0_corner_25 rfl ?_
    refine ⟨_, rfl, rfl, rfl, ?_⟩
    have hr0 : ¬ rs.toNat.testBit 5 = true := fun w => (hrt.mpr w) (by rw [hrb]; omega)
    have e : dt_up rs.toNat 1 = dt_up rs.toNat 0 := dt_up_0 (j := 0) hr0
    rw [e]
    exact y40
theorem k_X0_corner_v4f {rs cs : Int} {F A : gs_F} (hI : gs_I F A) (h1 : 0 ≤ rs ∧ rs < 64) (h2 : 0 ≤ cs ∧ cs < 64) : ∀ nN : Nat, (∀ (s : Int64) (sg : Int) (y : Int),  0 ≤ y ∧ y ≤ 6 → sg = 1 ∨ sg = -1 → s = Int64.ofInt (gs_sum (dt_tm (dt_T17 A) 4 (dt_up rs.toNat 1) cs.toNat) y.toNat) → sg = dt_s cs.toNat y.toNat → rs.toNat.testBit 4 = true → 6 - y < (nN : Int) → sA m_X0_corner 3 (fun rv F' A' => ∃ z : Int64, rv = some (.long z) ∧ F = F' ∧ A = A' ∧ (z = Int64.ofInt (dt_1 (dt_T17 A) (dt_up rs.toNat 2) cs.toNat))) 35 [(7, gs_iv y), (6, gs_iv sg), (4, .long s), (0, .ref 17), (1, gs_iv 4), (2, gs_iv rs), (3, gs_iv cs)] [] F A) := by
  intro nN
  induction nN with
  | zero =>
    exact fun a0 a1 a2 i0 i1 i2 i3 i4 hm => by exfalso; omega
  | succ nN ih =>
    intro s sg y i0 i1 i2 i3 i4 hm
    refine sA_iload dd_X0_corner_35 (.head _) ?_
    refine sA_bipush (z := 6) dd_X0_corner_37 (by decide) ?_
    refine sA_icmp_ge (tgt := 107) dd_X0_corner_39 (by decide) (by omega) (by omega) (fun q1 => ?_) (fun q1 => ?_)
    · skip
      refine sA_lload dd_X0_corner_107 (.tail _ (.tail _ (.head _))) ?_
      refine sA_lret dd_X0_corner_109 rfl ?_
      refine ⟨_, rfl, rfl, rfl, ?_⟩
      have e : dt_up rs.toNat 2 = 4 :: dt_up rs.toNat 1 := dt_up_1 (j := 1) i4
      rw [e]
      show s = Int64.ofInt (gs_sum (dt_tm (dt_T17 A) 4 (dt_up rs.toNat 1) cs.toNat) 6)
      rw [i2, show y.toNat = 6 by omega]
    · skip
      refine sA_iload_n dd_X0_corner_42 rfl (.tail _ (.tail _ (.tail _ (.tail _ (.tail _ (.tail _ (.head _))))))) ?_
      refine sA_iload dd_X0_corner_43 (.head _) ?_
      refine sA_ishr dd_X0_corner_45 ?_
      have b2 := gs_t_rng (Int32.ofInt cs >>> (Int32.ofInt y &&& 31))
      generalize hw3 : gs_t (Int32.ofInt cs >>> (Int32.ofInt y &&& 31)) = w3 at b2 ⊢
      refine sA_iconst (z := 1) dd_X0_corner_46 ?_
      refine sA_iand dd_X0_corner_47 ?_
      have b4 := gs_t_rng (Int32.ofInt w3 &&& Int32.ofInt 1)
      generalize hw5 : gs_t (Int32.ofInt w3 &&& Int32.ofInt 1) = w5 at b4 ⊢
      have hcb : dt_hb cs y = w5 := by
        unfold dt_hb
        rw [hw3]
        exact hw5
      have hct := dt_hb_1 (e := cs) (k := y) (by omega) (by omega)
      have hT : dt_T17 A 4 y.toNat = A 17 (24 + y).toNat := by
        show A 17 (6 * 4 + y.toNat) = _
        congr 1
        omega
      refine sA_if_eq (tgt := 101) dd_X0_corner_48 (by decide) (by omega) (fun q6 => ?_) (fun q6 => ?_)
      · skip
        refine sA_iinc (lv' := [(7, gs_iv (y + 1)), (6, gs_iv sg), (4, .long s), (0, .ref 17), (1, gs_iv 4), (2, gs_iv rs), (3, gs_iv cs)]) dd_X0_corner_101 (.head _) (by decide) rfl ?_
        refine sA_goto (tgt := 35) dd_X0_corner_104 (by decide) ?_
        refine sA_sub (lv2 := [(7, gs_iv (y + 1)), (6, gs_iv sg), (4, .long s), (0, .ref 17), (1, gs_iv 4), (2, gs_iv rs), (3, gs_iv cs)]) (List.forall_mem_cons.mpr ⟨(.head _), (List.forall_mem_cons.mpr ⟨(.tail _ (.head _)), (List.forall_mem_cons.mpr ⟨(.tail _ (.tail _ (.head _))), (List.forall_mem_cons.mpr ⟨(.tail _ (.tail _ (.tail _ (.head _)))), (List.forall_mem_cons.mpr ⟨(.tail _ (.tail _ (.tail _ (.tail _ (.head _))))), (List.forall_mem_cons.mpr ⟨(.tail _ (.tail _ (.tail _ (.tail _ (.tail _ (.head _)))))), (List.forall_mem_cons.mpr ⟨(.tail _ (.tail _ (.tail _ (.tail _ (.tail _ (.tail _ (.head _))))))), (fun _ h => absurd h List.not_mem_nil)⟩)⟩)⟩)⟩)⟩)⟩)⟩) ?_
        exact ih s sg (y + 1)  (by omega) (by omega) (by rw [show (y + 1).toNat = y.toNat + 1 by omega]; exact dt_keep i2 (if_neg (fun w => (hct.mpr w) (by rw [hcb]; omega)))) (by rw [show (y + 1).toNat = y.toNat + 1 by omega]; rw [dt_s_0 (fun w => (hct.mpr w) (by rw [hcb]; omega))]; exact i3) i4 (by omega)
      · skip
        have hb1 : cs.toNat.testBit y.toNat = true := hct.mp (by rw [hcb]; omega)
        refine sA_aload_n dd_X0_corner_51 rfl (.tail _ (.tail _ (.tail _ (.head _)))) ?_
        refine sA_iload_n dd_X0_corner_52 rfl (.tail _ (.tail _ (.tail _ (.tail _ (.head _))))) ?_
        refine sA_bipush (z := 6) dd_X0_corner_53 (by decide) ?_
        refine sA_imul dd_X0_corner_55 ?_
        show sA _ _ _ _ _ (gs_iv 24 :: _) _ _
        refine sA_iload dd_X0_corner_56 (.head _) ?_
        refine sA_iadd dd_X0_corner_58 ?_
        refine sA_iald (n := 36) dd_X0_corner_59 (by decide) gs_s17 (by omega) (by decide) ?_
        have b7 : (-2147483648 : Int) ≤ A 17 (24 + y).toNat ∧ A 17 (24 + y).toNat ≤ 2147483647 := hI.2 17 (24 + y).toNat
        refine sA_istore (lv' := [(8, gs_iv (A 17 (24 + y).toNat)), (7, gs_iv y), (6, gs_iv sg), (4, .long s), (0, .ref 17), (1, gs_iv 4), (2, gs_iv rs), (3, gs_iv cs)]) dd_X0_corner_60 (by decide) rfl ?_
        refine sA_iload dd_X0_corner_62 (.head _) ?_
        refine sA_if_eq (tgt := 96) dd_X0_corner_64 (by decide) (by omega) (fun q8 => ?_) (fun q8 => ?_)
        · skip
          refine sA_iload dd_X0_corner_96 (.tail _ (.tail _ (.head _))) ?_
          refine sA_ineg dd_X0_corner_98 ?_
          refine sA_istore (lv' := [(6, gs_iv (-sg)), (8, gs_iv (A 17 (24 + y).toNat)), (7, gs_iv y), (4, .long s), (0, .ref 17), (1, gs_iv 4), (2, gs_iv rs), (3, gs_iv cs)]) dd_X0_corner_99 (by decide) rfl ?_
          refine sA_iinc (lv' := [(7, gs_iv (y + 1)), (6, gs_iv (-sg)), (8, gs_iv (A 17 (24 + y).toNat)), (4, .long s), (0, .ref 17), (1, gs_iv 4), (2, gs_iv rs), (3, gs_iv cs)]) dd_X0_corner_101 (.tail _ (.tail _ (.head _))) (by decide) rfl ?_
          refine sA_goto (tgt := 35) dd_X0_corner_104 (by decide) ?_
          refine sA_sub (lv2 := [(7, gs_iv (y + 1)), (6, gs_iv (-sg)), (4, .long s), (0, .ref 17), (1, gs_iv 4), (2, gs_iv rs), (3, gs_iv cs)]) (List.forall_mem_cons.mpr ⟨(.head _), (List.forall_mem_cons.mpr ⟨(.tail _ (.head _)), (List.forall_mem_cons.mpr ⟨(.tail _ (.tail _ (.tail _ (.head _)))), (List.forall_mem_cons.mpr ⟨(.tail _ (.tail _ (.tail _ (.tail _ (.head _))))), (List.forall_mem_cons.mpr ⟨(.tail _ (.tail _ (.tail _ (.tail _ (.tail _ (.head _)))))), (List.forall_mem_cons.mpr ⟨(.tail _ (.tail _ (.tail _ (.tail _ (.tail _ (.tail _ (.head _))))))), (List.forall_mem_cons.mpr ⟨(.tail _ (.tail _ (.tail _ (.tail _ (.tail _ (.tail _ (.tail _ (.head _)))))))), (fun _ h => absurd h List.not_mem_nil)⟩)⟩)⟩)⟩)⟩)⟩)⟩) ?_
          exact ih s (-sg) (y + 1)  (by omega) (by omega) (by rw [show (y + 1).toNat = y.toNat + 1 by omega]; exact dt_keep i2 (by show (if cs.toNat.testBit y.toNat then dt_s cs.toNat y.toNat * dt_T17 A 4 y.toNat * dt_1 (dt_T17 A) (dt_up rs.toNat 1) (cs.toNat - 2 ^ y.toNat) else 0) = 0; rw [if_pos hb1, hT, show A 17 (24 + y).toNat = 0 by omega, Int.mul_zero, Int.zero_mul])) (by rw [show (y + 1).toNat = y.toNat + 1 by omega]; rw [dt_s_1 hb1]; omega) i4 (by omega)
        · skip
          refine sA_lload dd_X0_corner_67 (.tail _ (.tail _ (.tail _ (.head _)))) ?_
          refine sA_iload dd_X0_corner_69 (.tail _ (.tail _ (.head _))) ?_
          refine sA_i2l dd_X0_corner_71 (by omega) ?_
          refine sA_iload dd_X0_corner_72 (.head _) ?_
          refine sA_i2l dd_X0_corner_74 (by omega) ?_
          refine sA_lmul dd_X0_corner_75 ?_
          refine sA_aload_n dd_X0_corner_76 rfl (.tail _ (.tail _ (.tail _ (.tail _ (.head _))))) ?_
          refine sA_iload_n dd_X0_corner_77 rfl (.tail _ (.tail _ (.tail _ (.tail _ (.tail _ (.head _)))))) ?_
          refine sA_iconst (z := 1) dd_X0_corner_78 ?_
          refine sA_iadd dd_X0_corner_79 ?_
          show sA _ _ _ _ _ (gs_iv 5 :: _) _ _
          refine sA_iload_n dd_X0_corner_80 rfl (.tail _ (.tail _ (.tail _ (.tail _ (.tail _ (.tail _ (.head _))))))) ?_
          refine sA_iload_n dd_X0_corner_81 rfl (.tail _ (.tail _ (.tail _ (.tail _ (.tail _ (.tail _ (.tail _ (.head _)))))))) ?_
          refine sA_iconst (z := 1) dd_X0_corner_82 ?_
          refine sA_iload dd_X0_corner_83 (.tail _ (.head _)) ?_
          refine sA_ishl dd_X0_corner_85 ?_
          have b9 := gs_t_rng (Int32.ofInt 1 <<< (Int32.ofInt y &&& 31))
          generalize hw10 : gs_t (Int32.ofInt 1 <<< (Int32.ofInt y &&& 31)) = w10 at b9 ⊢
          refine sA_iconst (z := (-1)) dd_X0_corner_86 ?_
          refine sA_ixor dd_X0_corner_87 ?_
          have b11 := gs_t_rng (Int32.ofInt w10 ^^^ Int32.ofInt (-1))
          generalize hw12 : gs_t (Int32.ofInt w10 ^^^ Int32.ofInt (-1)) = w12 at b11 ⊢
          refine sA_iand dd_X0_corner_88 ?_
          have b13 := gs_t_rng (Int32.ofInt cs &&& Int32.ofInt w12)
          generalize hw14 : gs_t (Int32.ofInt cs &&& Int32.ofInt w12) = w14 at b13 ⊢
          have hrm : dt_hr cs y = w14 := by
            unfold dt_hr
            rw [hw10, hw12]
            exact hw14
          have hrv : w14 = ((cs.toNat - 2 ^ y.toNat : Nat) : Int) := hrm.symm.trans (dt_hr_at (by omega) (by omega) hb1)
          have h64 : cs.toNat - 2 ^ y.toNat < 64 := Nat.lt_of_le_of_lt (Nat.sub_le _ _) (by omega)
          have hW88 : 0 ≤ w14 ∧ w14 < 64 := by
            rw [hrv]
            exact ⟨Int.natCast_nonneg _, Int.ofNat_lt.mpr h64⟩
          refine sA_callS (y2 := m_X0_corner) (n2 := 4) (d2 := 2) (as := [.ref 17, gs_iv 5, gs_iv rs, gs_iv w14]) (rest := [gs_lv (sg * (A 17 (24 + y).toNat)), .long s]) dd_X0_corner_89 ok_X0_corner ml_X0_76 rfl rfl (Nat.le_of_ble_eq_true rfl) (by decide) (c_X0_corner_v5f hI (by omega) (by omega)) (fun r15 F16 A17 h18 => ?_)
          obtain ⟨z21, e20, e22, e23, x19⟩ := h18
          subst e20 e22 e23
          have y24 : z21 = Int64.ofInt (dt_1 (dt_T17 A) (dt_up rs.toNat 1) w14.toNat) := x19
          clear x19
          show sA _ _ _ 92 _ [.long z21, gs_lv (sg * (A 17 (24 + y).toNat)), .long s] _ _
          have y89 := y24
          rw [hrv, Int.toNat_natCast] at y89
          refine sA_lmulR dd_X0_corner_92 ?_
          refine sA_laddR dd_X0_corner_93 ?_
          refine sA_lstore (lv' := [(4, .long (s + ((Int64.ofInt (sg * (A 17 (24 + y).toNat))) * z21))), (8, gs_iv (A 17 (24 + y).toNat)), (7, gs_iv y), (6, gs_iv sg), (0, .ref 17), (1, gs_iv 4), (2, gs_iv rs), (3, gs_iv cs)]) dd_X0_corner_94 (by decide) rfl ?_
          refine sA_iload dd_X0_corner_96 (.tail _ (.tail _ (.tail _ (.head _)))) ?_
          refine sA_ineg dd_X0_corner_98 ?_
          refine sA_istore (lv' := [(6, gs_iv (-sg)), (4, .long (s + ((Int64.ofInt (sg * (A 17 (24 + y).toNat))) * z21))), (8, gs_iv (A 17 (24 + y).toNat)), (7, gs_iv y), (0, .ref 17), (1, gs_iv 4), (2, gs_iv rs), (3, gs_iv cs)]) dd_X0_corner_99 (by decide) rfl ?_
          refine sA_iinc (lv' := [(7, gs_iv (y + 1)), (6, gs_iv (-sg)), (4, .long (s + ((Int64.ofInt (sg * (A 17 (24 + y).toNat))) * z21))), (8, gs_iv (A 17 (24 + y).toNat)), (0, .ref 17), (1, gs_iv 4), (2, gs_iv rs), (3, gs_iv cs)]) dd_X0_corner_101 (.tail _ (.tail _ (.tail _ (.head _)))) (by decide) rfl ?_
          refine sA_goto (tgt := 35) dd_X0_corner_104 (by decide) ?_
          refine sA_sub (lv2 := [(7, gs_iv (y + 1)), (6, gs_iv (-sg)), (4, .long (s + ((Int64.ofInt (sg * (A 17 (24 + y).toNat))) * z21))), (0, .ref 17), (1, gs_iv 4), (2, gs_iv rs), (3, gs_iv cs)]) (List.forall_mem_cons.mpr ⟨(.head _), (List.forall_mem_cons.mpr ⟨(.tail _ (.head _)), (List.forall_mem_cons.mpr ⟨(.tail _ (.tail _ (.head _))), (List.forall_mem_cons.mpr ⟨(.tail _ (.tail _ (.tail _ (.tail _ (.head _))))), (List.forall_mem_cons.mpr ⟨(.tail _ (.tail _ (.tail _ (.tail _ (.tail _ (.head _)))))), (List.forall_mem_cons.mpr ⟨(.tail _ (.tail _ (.tail _ (.tail _ (.tail _ (.tail _ (.head _))))))), (List.forall_mem_cons.mpr ⟨(.tail _ (.tail _ (.tail _ (.tail _ (.tail _ (.tail _ (.tail _ (.head _)))))))), (fun _ h => absurd h List.not_mem_nil)⟩)⟩)⟩)⟩)⟩)⟩)⟩) ?_
          exact ih (s + ((Int64.ofInt (sg * (A 17 (24 + y).toNat))) * z21)) (-sg) (y + 1)  (by omega) (by omega) (by rw [show (y + 1).toNat = y.toNat + 1 by omega]; exact dt_step i2 (d := sg * A 17 (24 + y).toNat * dt_1 (dt_T17 A) (dt_up rs.toNat 1) (cs.toNat - 2 ^ y.toNat)) (by rw [y89, ← Int64.ofInt_mul]) (by show (if cs.toNat.testBit y.toNat then dt_s cs.toNat y.toNat * dt_T17 A 4 y.toNat * dt_1 (dt_T17 A) (dt_up rs.toNat 1) (cs.toNat - 2 ^ y.toNat) else 0) = _; rw [if_pos hb1, hT, ← i3])) (by rw [show (y + 1).toNat = y.toNat + 1 by omega]; rw [dt_s_1 hb1]; omega) i4 (by omega)
theorem c_X0_corner_v4f {rs cs : Int} {F A : gs_F} (hI : gs_I F A) (h1 : 0 ≤ rs ∧ rs < 64) (h2 : 0 ≤ cs ∧ cs < 64) : sC m_X0_corner 3 [.ref 17, gs_iv 4, gs_iv rs, gs_iv cs] F A (fun rv F' A' => ∃ z : Int64, rv = some (.long z) ∧ F = F' ∧ A = A' ∧ (z = Int64.ofInt (dt_1 (dt_T17 A) (dt_up rs.toNat 2) cs.toNat))) := by
  refine sC_of ok_X0_corner.1 (Nat.le_of_ble_eq_true rfl) ?_
  show sA _ _ _ 0 [(0, .ref 17), (1, gs_iv 4), (2, gs_iv rs), (3, gs_iv cs)] [] F A
  refine sA_iload_n dd_X0_corner_0 rfl (.tail _ (.head _)) ?_
  refine sA_bipush (z := 6) dd_X0_corner_1 (by decide) ?_
  refine sA_icmp_lt (tgt := 8) dd_X0_corner_3 (by decide) (by omega) (by omega) (fun q25 => ?_) (fun q25 => absurd q25 (by omega))
  refine sA_iload_n dd_X0_corner_8 rfl (.tail _ (.tail _ (.head _))) ?_
  refine sA_iload_n dd_X0_corner_9 rfl (.tail _ (.head _)) ?_
  refine sA_ishr dd_X0_corner_10 ?_
  have b26 := gs_t_rng (Int32.ofInt rs >>> (Int32.ofInt 4 &&& 31))
  generalize hw27 : gs_t (Int32.ofInt rs >>> (Int32.ofInt 4 &&& 31)) = w27 at b26 ⊢
  refine sA_iconst (z := 1) dd_X0_corner_11 ?_
  refine sA_iand dd_X0_corner_12 ?_
  have b28 := gs_t_rng (Int32.ofInt w27 &&& Int32.ofInt 1)
  generalize hw29 : gs_t (Int32.ofInt w27 &&& Int32.ofInt 1) = w29 at b28 ⊢
  have hrb : dt_hb rs 4 = w29 := by
    unfold dt_hb
    rw [hw27]
    exact hw29
  have hrt : dt_hb rs 4 ≠ 0 ↔ rs.toNat.testBit 4 = true := dt_hb_1 (k := 4) (by omega) (by omega)
  refine sA_if_ne (tgt := 26) dd_X0_corner_13 (by decide) (by omega) (fun q30 => ?_) (fun q30 => ?_)
  · skip
    refine sA_lconst (z := 0) dd_X0_corner_26 (by decide) ?_
    refine sA_lstore (lv' := [(4, gs_lv 0), (0, .ref 17), (1, gs_iv 4), (2, gs_iv rs), (3, gs_iv cs)]) dd_X0_corner_27 (by decide) rfl ?_
    refine sA_iconst (z := 1) dd_X0_corner_29 ?_
    refine sA_istore (lv' := [(6, gs_iv 1), (4, gs_lv 0), (0, .ref 17), (1, gs_iv 4), (2, gs_iv rs), (3, gs_iv cs)]) dd_X0_corner_30 (by decide) rfl ?_
    refine sA_iconst (z := 0) dd_X0_corner_32 ?_
    refine sA_istore (lv' := [(7, gs_iv 0), (6, gs_iv 1), (4, gs_lv 0), (0, .ref 17), (1, gs_iv 4), (2, gs_iv rs), (3, gs_iv cs)]) dd_X0_corner_33 (by decide) rfl ?_
    refine sA_sub (lv2 := [(7, gs_iv 0), (6, gs_iv 1), (4, gs_lv 0), (0, .ref 17), (1, gs_iv 4), (2, gs_iv rs), (3, gs_iv cs)]) (List.forall_mem_cons.mpr ⟨(.head _), (List.forall_mem_cons.mpr ⟨(.tail _ (.head _)), (List.forall_mem_cons.mpr ⟨(.tail _ (.tail _ (.head _))), (List.forall_mem_cons.mpr ⟨(.tail _ (.tail _ (.tail _ (.head _)))), (List.forall_mem_cons.mpr ⟨(.tail _ (.tail _ (.tail _ (.tail _ (.head _))))), (List.forall_mem_cons.mpr ⟨(.tail _ (.tail _ (.tail _ (.tail _ (.tail _ (.head _)))))), (List.forall_mem_cons.mpr ⟨(.tail _ (.tail _ (.tail _ (.tail _ (.tail _ (.tail _ (.head _))))))), (fun _ h => absurd h List.not_mem_nil)⟩)⟩)⟩)⟩)⟩)⟩)⟩) ?_
    exact (k_X0_corner_v4f hI h1 h2 (6 - 0 : Int).toNat.succ) (Int64.ofInt 0) 1 0  (by omega) (by omega) (by rfl) (by rfl) (hrt.mp (by rw [hrb]; omega)) (by omega)
  · skip
    refine sA_aload_n dd_X0_corner_16 rfl (.head _) ?_
    refine sA_iload_n dd_X0_corner_17 rfl (.tail _ (.head _)) ?_
    refine sA_iconst (z := 1) dd_X0_corner_18 ?_
    refine sA_iadd dd_X0_corner_19 ?_
    show sA _ _ _ _ _ (gs_iv 5 :: _) _ _
    refine sA_iload_n dd_X0_corner_20 rfl (.tail _ (.tail _ (.head _))) ?_
    refine sA_iload_n dd_X0_corner_21 rfl (.tail _ (.tail _ (.tail _ (.head _)))) ?_
    refine sA_callS (y2 := m_X0_corner) (n2 := 4) (d2 := 2) (as := [.ref 17, gs_iv 5, gs_iv rs, gs_iv cs]) (rest := []) dd_X0_corner_22 ok_X0_corner ml_X0_76 rfl rfl (Nat.le_of_ble_eq_true rfl) (by decide) (c_X0_corner_v5f hI (by omega) (by omega)) (fun r31 F32 A33 h34 => ?_)
    obtain ⟨z37, e36, e38, e39, x35⟩ := h34
    subst e36 e38 e39
    have y40 : z37 = Int64.ofInt (dt_1 (dt_T17 A) (dt_up rs.toNat 1) cs.toNat) := x35
    clear x35
    show sA _ _ _ 25 _ [.long z37] _ _
    refine sA_lret dd_X0_corner_25 rfl ?_
    refine ⟨_, rfl, rfl, rfl, ?_⟩
    have hr0 : ¬ rs.toNat.testBit 4 = true := fun w => (hrt.mpr w) (by rw [hrb]; omega)
    have e : dt_up rs.toNat 2 = dt_up rs.toNat 1 := dt_up_0 (j := 1) hr0
    rw [e]
    exact y40
theorem k_X0_corner_v3f {rs cs : Int} {F A : gs_F} (hI : gs_I F A) (h1 : 0 ≤ rs ∧ rs < 64) (h2 : 0 ≤ cs ∧ cs < 64) : ∀ nN : Nat, (∀ (s : Int64) (sg : Int) (y : Int),  0 ≤ y ∧ y ≤ 6 → sg = 1 ∨ sg = -1 → s = Int64.ofInt (gs_sum (dt_tm (dt_T17 A) 3 (dt_up rs.toNat 2) cs.toNat) y.toNat) → sg = dt_s cs.toNat y.toNat → rs.toNat.testBit 3 = true → 6 - y < (nN : Int) → sA m_X0_corner 4 (fun rv F' A' => ∃ z : Int64, rv = some (.long z) ∧ F = F' ∧ A = A' ∧ (z = Int64.ofInt (dt_1 (dt_T17 A) (dt_up rs.toNat 3) cs.toNat))) 35 [(7, gs_iv y), (6, gs_iv sg), (4, .long s), (0, .ref 17), (1, gs_iv 3), (2, gs_iv rs), (3, gs_iv cs)] [] F A) := by
  intro nN
  induction nN with
  | zero =>
    exact fun a0 a1 a2 i0 i1 i2 i3 i4 hm => by exfalso; omega
  | succ nN ih =>
    intro s sg y i0 i1 i2 i3 i4 hm
    refine sA_iload dd_X0_corner_35 (.head _) ?_
    refine sA_bipush (z := 6) dd_X0_corner_37 (by decide) ?_
    refine sA_icmp_ge (tgt := 107) dd_X0_corner_39 (by decide) (by omega) (by omega) (fun q1 => ?_) (fun q1 => ?_)
    · skip
      refine sA_lload dd_X0_corner_107 (.tail _ (.tail _ (.head _))) ?_
      refine sA_lret dd_X0_corner_109 rfl ?_
      refine ⟨_, rfl, rfl, rfl, ?_⟩
      have e : dt_up rs.toNat 3 = 3 :: dt_up rs.toNat 2 := dt_up_1 (j := 2) i4
      rw [e]
      show s = Int64.ofInt (gs_sum (dt_tm (dt_T17 A) 3 (dt_up rs.toNat 2) cs.toNat) 6)
      rw [i2, show y.toNat = 6 by omega]
    · skip
      refine sA_iload_n dd_X0_corner_42 rfl (.tail _ (.tail _ (.tail _ (.tail _ (.tail _ (.tail _ (.head _))))))) ?_
      refine sA_iload dd_X0_corner_43 (.head _) ?_
      refine sA_ishr dd_X0_corner_45 ?_
      have b2 := gs_t_rng (Int32.ofInt cs >>> (Int32.ofInt y &&& 31))
      generalize hw3 : gs_t (Int32.ofInt cs >>> (Int32.ofInt y &&& 31)) = w3 at b2 ⊢
      refine sA_iconst (z := 1) dd_X0_corner_46 ?_
      refine sA_iand dd_X0_corner_47 ?_
      have b4 := gs_t_rng (Int32.ofInt w3 &&& Int32.ofInt 1)
      generalize hw5 : gs_t (Int32.ofInt w3 &&& Int32.ofInt 1) = w5 at b4 ⊢
      have hcb : dt_hb cs y = w5 := by
        unfold dt_hb
        rw [hw3]
        exact hw5
      have hct := dt_hb_1 (e := cs) (k := y) (by omega) (by omega)
      have hT : dt_T17 A 3 y.toNat = A 17 (18 + y).toNat := by
        show A 17 (6 * 3 + y.toNat) = _
        congr 1
        omega
      refine sA_if_eq (tgt := 101) dd_X0_corner_48 (by decide) (by omega) (fun q6 => ?_) (fun q6 => ?_)
      · skip
        refine sA_iinc (lv' := [(7, gs_iv (y + 1)), (6, gs_iv sg), (4, .long s), (0, .ref 17), (1, gs_iv 3), (2, gs_iv rs), (3, gs_iv cs)]) dd_X0_corner_101 (.head _) (by decide) rfl ?_
        refine sA_goto (tgt := 35) dd_X0_corner_104 (by decide) ?_
        refine sA_sub (lv2 := [(7, gs_iv (y + 1)), (6, gs_iv sg), (4, .long s), (0, .ref 17), (1, gs_iv 3), (2, gs_iv rs), (3, gs_iv cs)]) (List.forall_mem_cons.mpr ⟨(.head _), (List.forall_mem_cons.mpr ⟨(.tail _ (.head _)), (List.forall_mem_cons.mpr ⟨(.tail _ (.tail _ (.head _))), (List.forall_mem_cons.mpr ⟨(.tail _ (.tail _ (.tail _ (.head _)))), (List.forall_mem_cons.mpr ⟨(.tail _ (.tail _ (.tail _ (.tail _ (.head _))))), (List.forall_mem_cons.mpr ⟨(.tail _ (.tail _ (.tail _ (.tail _ (.tail _ (.head _)))))), (List.forall_mem_cons.mpr ⟨(.tail _ (.tail _ (.tail _ (.tail _ (.tail _ (.tail _ (.head _))))))), (fun _ h => absurd h List.not_mem_nil)⟩)⟩)⟩)⟩)⟩)⟩)⟩) ?_
        exact ih s sg (y + 1)  (by omega) (by omega) (by rw [show (y + 1).toNat = y.toNat + 1 by omega]; exact dt_keep i2 (if_neg (fun w => (hct.mpr w) (by rw [hcb]; omega)))) (by rw [show (y + 1).toNat = y.toNat + 1 by omega]; rw [dt_s_0 (fun w => (hct.mpr w) (by rw [hcb]; omega))]; exact i3) i4 (by omega)
      · skip
        have hb1 : cs.toNat.testBit y.toNat = true := hct.mp (by rw [hcb]; omega)
        refine sA_aload_n dd_X0_corner_51 rfl (.tail _ (.tail _ (.tail _ (.head _)))) ?_
        refine sA_iload_n dd_X0_corner_52 rfl (.tail _ (.tail _ (.tail _ (.tail _ (.head _))))) ?_
        refine sA_bipush (z := 6) dd_X0_corner_53 (by decide) ?_
        refine sA_imul dd_X0_corner_55 ?_
        show sA _ _ _ _ _ (gs_iv 18 :: _) _ _
        refine sA_iload dd_X0_corner_56 (.head _) ?_
        refine sA_iadd dd_X0_corner_58 ?_
        refine sA_iald (n := 36) dd_X0_corner_59 (by decide) gs_s17 (by omega) (by decide) ?_
        have b7 : (-2147483648 : Int) ≤ A 17 (18 + y).toNat ∧ A 17 (18 + y).toNat ≤ 2147483647 := hI.2 17 (18 + y).toNat
        refine sA_istore (lv' := [(8, gs_iv (A 17 (18 + y).toNat)), (7, gs_iv y), (6, gs_iv sg), (4, .long s), (0, .ref 17), (1, gs_iv 3), (2, gs_iv rs), (3, gs_iv cs)]) dd_X0_corner_60 (by decide) rfl ?_
        refine sA_iload dd_X0_corner_62 (.head _) ?_
        refine sA_if_eq (tgt := 96) dd_X0_corner_64 (by decide) (by omega) (fun q8 => ?_) (fun q8 => ?_)
        · skip
          refine sA_iload dd_X0_corner_96 (.tail _ (.tail _ (.head _))) ?_
          refine sA_ineg dd_X0_corner_98 ?_
          refine sA_istore (lv' := [(6, gs_iv (-sg)), (8, gs_iv (A 17 (18 + y).toNat)), (7, gs_iv y), (4, .long s), (0, .ref 17), (1, gs_iv 3), (2, gs_iv rs), (3, gs_iv cs)]) dd_X0_corner_99 (by decide) rfl ?_
          refine sA_iinc (lv' := [(7, gs_iv (y + 1)), (6, gs_iv (-sg)), (8, gs_iv (A 17 (18 + y).toNat)), (4, .long s), (0, .ref 17), (1, gs_iv 3), (2, gs_iv rs), (3, gs_iv cs)]) dd_X0_corner_101 (.tail _ (.tail _ (.head _))) (by decide) rfl ?_
          refine sA_goto (tgt := 35) dd_X0_corner_104 (by decide) ?_
          refine sA_sub (lv2 := [(7, gs_iv (y + 1)), (6, gs_iv (-sg)), (4, .long s), (0, .ref 17), (1, gs_iv 3), (2, gs_iv rs), (3, gs_iv cs)]) (List.forall_mem_cons.mpr ⟨(.head _), (List.forall_mem_cons.mpr ⟨(.tail _ (.head _)), (List.forall_mem_cons.mpr ⟨(.tail _ (.tail _ (.tail _ (.head _)))), (List.forall_mem_cons.mpr ⟨(.tail _ (.tail _ (.tail _ (.tail _ (.head _))))), (List.forall_mem_cons.mpr ⟨(.tail _ (.tail _ (.tail _ (.tail _ (.tail _ (.head _)))))), (List.forall_mem_cons.mpr ⟨(.tail _ (.tail _ (.tail _ (.tail _ (.tail _ (.tail _ (.head _))))))), (List.forall_mem_cons.mpr ⟨(.tail _ (.tail _ (.tail _ (.tail _ (.tail _ (.tail _ (.tail _ (.head _)))))))), (fun _ h => absurd h List.not_mem_nil)⟩)⟩)⟩)⟩)⟩)⟩)⟩) ?_
          exact ih s (-sg) (y + 1)  (by omega) (by omega) (by rw [show (y + 1).toNat = y.toNat + 1 by omega]; exact dt_keep i2 (by show (if cs.toNat.testBit y.toNat then dt_s cs.toNat y.toNat * dt_T17 A 3 y.toNat * dt_1 (dt_T17 A) (dt_up rs.toNat 2) (cs.toNat - 2 ^ y.toNat) else 0) = 0; rw [if_pos hb1, hT, show A 17 (18 + y).toNat = 0 by omega, Int.mul_zero, Int.zero_mul])) (by rw [show (y + 1).toNat = y.toNat + 1 by omega]; rw [dt_s_1 hb1]; omega) i4 (by omega)
        · skip
          refine sA_lload dd_X0_corner_67 (.tail _ (.tail _ (.tail _ (.head _)))) ?_
          refine sA_iload dd_X0_corner_69 (.tail _ (.tail _ (.head _))) ?_
          refine sA_i2l dd_X0_corner_71 (by omega) ?_
          refine sA_iload dd_X0_corner_72 (.head _) ?_
          refine sA_i2l dd_X0_corner_74 (by omega) ?_
          refine sA_lmul dd_X0_corner_75 ?_
          refine sA_aload_n dd_X0_corner_76 rfl (.tail _ (.tail _ (.tail _ (.tail _ (.head _))))) ?_
          refine sA_iload_n dd_X0_corner_77 rfl (.tail _ (.tail _ (.tail _ (.tail _ (.tail _ (.head _)))))) ?_
          refine sA_iconst (z := 1) dd_X0_corner_78 ?_
          refine sA_iadd dd_X0_corner_79 ?_
          show sA _ _ _ _ _ (gs_iv 4 :: _) _ _
          refine sA_iload_n dd_X0_corner_80 rfl (.tail _ (.tail _ (.tail _ (.tail _ (.tail _ (.tail _ (.head _))))))) ?_
          refine sA_iload_n dd_X0_corner_81 rfl (.tail _ (.tail _ (.tail _ (.tail _ (.tail _ (.tail _ (.tail _ (.head _)))))))) ?_
          refine sA_iconst (z := 1) dd_X0_corner_82 ?_
          refine sA_iload dd_X0_corner_83 (.tail _ (.head _)) ?_
          refine sA_ishl dd_X0_corner_85 ?_
          have b9 := gs_t_rng (Int32.ofInt 1 <<< (Int32.ofInt y &&& 31))
          generalize hw10 : gs_t (Int32.ofInt 1 <<< (Int32.ofInt y &&& 31)) = w10 at b9 ⊢
          refine sA_iconst (z := (-1)) dd_X0_corner_86 ?_
          refine sA_ixor dd_X0_corner_87 ?_
          have b11 := gs_t_rng (Int32.ofInt w10 ^^^ Int32.ofInt (-1))
          generalize hw12 : gs_t (Int32.ofInt w10 ^^^ Int32.ofInt (-1)) = w12 at b11 ⊢
          refine sA_iand dd_X0_corner_88 ?_
          have b13 := gs_t_rng (Int32.ofInt cs &&& Int32.ofInt w12)
          generalize hw14 : gs_t (Int32.ofInt cs &&& Int32.ofInt w12) = w14 at b13 ⊢
          have hrm : dt_hr cs y = w14 := by
            unfold dt_hr
            rw [hw10, hw12]
            exact hw14
          have hrv : w14 = ((cs.toNat - 2 ^ y.toNat : Nat) : Int) := hrm.symm.trans (dt_hr_at (by omega) (by omega) hb1)
          have h64 : cs.toNat - 2 ^ y.toNat < 64 := Nat.lt_of_le_of_lt (Nat.sub_le _ _) (by omega)
          have hW88 : 0 ≤ w14 ∧ w14 < 64 := by
            rw [hrv]
            exact ⟨Int.natCast_nonneg _, Int.ofNat_lt.mpr h64⟩
          refine sA_callS (y2 := m_X0_corner) (n2 := 4) (d2 := 3) (as := [.ref 17, gs_iv 4, gs_iv rs, gs_iv w14]) (rest := [gs_lv (sg * (A 17 (18 + y).toNat)), .long s]) dd_X0_corner_89 ok_X0_corner ml_X0_76 rfl rfl (Nat.le_of_ble_eq_true rfl) (by decide) (c_X0_corner_v4f hI (by omega) (by omega)) (fun r15 F16 A17 h18 => ?_)
          obtain ⟨z21, e20, e22, e23, x19⟩ := h18
          subst e20 e22 e23
          have y24 : z21 = Int64.ofInt (dt_1 (dt_T17 A) (dt_up rs.toNat 2) w14.toNat) := x19
          clear x19
          show sA _ _ _ 92 _ [.long z21, gs_lv (sg * (A 17 (18 + y).toNat)), .long s] _ _
          have y89 := y24
          rw [hrv, Int.toNat_natCast] at y89
          refine sA_lmulR dd_X0_corner_92 ?_
          refine sA_laddR dd_X0_corner_93 ?_
          refine sA_lstore (lv' := [(4, .long (s + ((Int64.ofInt (sg * (A 17 (18 + y).toNat))) * z21))), (8, gs_iv (A 17 (18 + y).toNat)), (7, gs_iv y), (6, gs_iv sg), (0, .ref 17), (1, gs_iv 3), (2, gs_iv rs), (3, gs_iv cs)]) dd_X0_corner_94 (by decide) rfl ?_
          refine sA_iload dd_X0_corner_96 (.tail _ (.tail _ (.tail _ (.head _)))) ?_
          refine sA_ineg dd_X0_corner_98 ?_
          refine sA_istore (lv' := [(6, gs_iv (-sg)), (4, .long (s + ((Int64.ofInt (sg * (A 17 (18 + y).toNat))) * z21))), (8, gs_iv (A 17 (18 + y).toNat)), (7, gs_iv y), (0, .ref 17), (1, gs_iv 3), (2, gs_iv rs), (3, gs_iv cs)]) dd_X0_corner_99 (by decide) rfl ?_
          refine sA_iinc (lv' := [(7, gs_iv (y + 1)), (6, gs_iv (-sg)), (4, .long (s + ((Int64.ofInt (sg * (A 17 (18 + y).toNat))) * z21))), (8, gs_iv (A 17 (18 + y).toNat)), (0, .ref 17), (1, gs_iv 3), (2, gs_iv rs), (3, gs_iv cs)]) dd_X0_corner_101 (.tail _ (.tail _ (.tail _ (.head _)))) (by decide) rfl ?_
          refine sA_goto (tgt := 35) dd_X0_corner_104 (by decide) ?_
          refine sA_sub (lv2 := [(7, gs_iv (y + 1)), (6, gs_iv (-sg)), (4, .long (s + ((Int64.ofInt (sg * (A 17 (18 + y).toNat))) * z21))), (0, .ref 17), (1, gs_iv 3), (2, gs_iv rs), (3, gs_iv cs)]) (List.forall_mem_cons.mpr ⟨(.head _), (List.forall_mem_cons.mpr ⟨(.tail _ (.head _)), (List.forall_mem_cons.mpr ⟨(.tail _ (.tail _ (.head _))), (List.forall_mem_cons.mpr ⟨(.tail _ (.tail _ (.tail _ (.tail _ (.head _))))), (List.forall_mem_cons.mpr ⟨(.tail _ (.tail _ (.tail _ (.tail _ (.tail _ (.head _)))))), (List.forall_mem_cons.mpr ⟨(.tail _ (.tail _ (.tail _ (.tail _ (.tail _ (.tail _ (.head _))))))), (List.forall_mem_cons.mpr ⟨(.tail _ (.tail _ (.tail _ (.tail _ (.tail _ (.tail _ (.tail _ (.head _)))))))), (fun _ h => absurd h List.not_mem_nil)⟩)⟩)⟩)⟩)⟩)⟩)⟩) ?_
          exact ih (s + ((Int64.ofInt (sg * (A 17 (18 + y).toNat))) * z21)) (-sg) (y + 1)  (by omega) (by omega) (by rw [show (y + 1).toNat = y.toNat + 1 by omega]; exact dt_step i2 (d := sg * A 17 (18 + y).toNat * dt_1 (dt_T17 A) (dt_up rs.toNat 2) (cs.toNat - 2 ^ y.toNat)) (by rw [y89, ← Int64.ofInt_mul]) (by show (if cs.toNat.testBit y.toNat then dt_s cs.toNat y.toNat * dt_T17 A 3 y.toNat * dt_1 (dt_T17 A) (dt_up rs.toNat 2) (cs.toNat - 2 ^ y.toNat) else 0) = _; rw [if_pos hb1, hT, ← i3])) (by rw [show (y + 1).toNat = y.toNat + 1 by omega]; rw [dt_s_1 hb1]; omega) i4 (by omega)
theorem c_X0_corner_v3f {rs cs : Int} {F A : gs_F} (hI : gs_I F A) (h1 : 0 ≤ rs ∧ rs < 64) (h2 : 0 ≤ cs ∧ cs < 64) : sC m_X0_corner 4 [.ref 17, gs_iv 3, gs_iv rs, gs_iv cs] F A (fun rv F' A' => ∃ z : Int64, rv = some (.long z) ∧ F = F' ∧ A = A' ∧ (z = Int64.ofInt (dt_1 (dt_T17 A) (dt_up rs.toNat 3) cs.toNat))) := by
  refine sC_of ok_X0_corner.1 (Nat.le_of_ble_eq_true rfl) ?_
  show sA _ _ _ 0 [(0, .ref 17), (1, gs_iv 3), (2, gs_iv rs), (3, gs_iv cs)] [] F A
  refine sA_iload_n dd_X0_corner_0 rfl (.tail _ (.head _)) ?_
  refine sA_bipush (z := 6) dd_X0_corner_1 (by decide) ?_
  refine sA_icmp_lt (tgt := 8) dd_X0_corner_3 (by decide) (by omega) (by omega) (fun q25 => ?_) (fun q25 => absurd q25 (by omega))
  refine sA_iload_n dd_X0_corner_8 rfl (.tail _ (.tail _ (.head _))) ?_
  refine sA_iload_n dd_X0_corner_9 rfl (.tail _ (.head _)) ?_
  refine sA_ishr dd_X0_corner_10 ?_
  have b26 := gs_t_rng (Int32.ofInt rs >>> (Int32.ofInt 3 &&& 31))
  generalize hw27 : gs_t (Int32.ofInt rs >>> (Int32.ofInt 3 &&& 31)) = w27 at b26 ⊢
  refine sA_iconst (z := 1) dd_X0_corner_11 ?_
  refine sA_iand dd_X0_corner_12 ?_
  have b28 := gs_t_rng (Int32.ofInt w27 &&& Int32.ofInt 1)
  generalize hw29 : gs_t (Int32.ofInt w27 &&& Int32.ofInt 1) = w29 at b28 ⊢
  have hrb : dt_hb rs 3 = w29 := by
    unfold dt_hb
    rw [hw27]
    exact hw29
  have hrt : dt_hb rs 3 ≠ 0 ↔ rs.toNat.testBit 3 = true := dt_hb_1 (k := 3) (by omega) (by omega)
  refine sA_if_ne (tgt := 26) dd_X0_corner_13 (by decide) (by omega) (fun q30 => ?_) (fun q30 => ?_)
  · skip
    refine sA_lconst (z := 0) dd_X0_corner_26 (by decide) ?_
    refine sA_lstore (lv' := [(4, gs_lv 0), (0, .ref 17), (1, gs_iv 3), (2, gs_iv rs), (3, gs_iv cs)]) dd_X0_corner_27 (by decide) rfl ?_
    refine sA_iconst (z := 1) dd_X0_corner_29 ?_
    refine sA_istore (lv' := [(6, gs_iv 1), (4, gs_lv 0), (0, .ref 17), (1, gs_iv 3), (2, gs_iv rs), (3, gs_iv cs)]) dd_X0_corner_30 (by decide) rfl ?_
    refine sA_iconst (z := 0) dd_X0_corner_32 ?_
    refine sA_istore (lv' := [(7, gs_iv 0), (6, gs_iv 1), (4, gs_lv 0), (0, .ref 17), (1, gs_iv 3), (2, gs_iv rs), (3, gs_iv cs)]) dd_X0_corner_33 (by decide) rfl ?_
    refine sA_sub (lv2 := [(7, gs_iv 0), (6, gs_iv 1), (4, gs_lv 0), (0, .ref 17), (1, gs_iv 3), (2, gs_iv rs), (3, gs_iv cs)]) (List.forall_mem_cons.mpr ⟨(.head _), (List.forall_mem_cons.mpr ⟨(.tail _ (.head _)), (List.forall_mem_cons.mpr ⟨(.tail _ (.tail _ (.head _))), (List.forall_mem_cons.mpr ⟨(.tail _ (.tail _ (.tail _ (.head _)))), (List.forall_mem_cons.mpr ⟨(.tail _ (.tail _ (.tail _ (.tail _ (.head _))))), (List.forall_mem_cons.mpr ⟨(.tail _ (.tail _ (.tail _ (.tail _ (.tail _ (.head _)))))), (List.forall_mem_cons.mpr ⟨(.tail _ (.tail _ (.tail _ (.tail _ (.tail _ (.tail _ (.head _))))))), (fun _ h => absurd h List.not_mem_nil)⟩)⟩)⟩)⟩)⟩)⟩)⟩) ?_
    exact (k_X0_corner_v3f hI h1 h2 (6 - 0 : Int).toNat.succ) (Int64.ofInt 0) 1 0  (by omega) (by omega) (by rfl) (by rfl) (hrt.mp (by rw [hrb]; omega)) (by omega)
  · skip
    refine sA_aload_n dd_X0_corner_16 rfl (.head _) ?_
    refine sA_iload_n dd_X0_corner_17 rfl (.tail _ (.head _)) ?_
    refine sA_iconst (z := 1) dd_X0_corner_18 ?_
    refine sA_iadd dd_X0_corner_19 ?_
    show sA _ _ _ _ _ (gs_iv 4 :: _) _ _
    refine sA_iload_n dd_X0_corner_20 rfl (.tail _ (.tail _ (.head _))) ?_
    refine sA_iload_n dd_X0_corner_21 rfl (.tail _ (.tail _ (.tail _ (.head _)))) ?_
    refine sA_callS (y2 := m_X0_corner) (n2 := 4) (d2 := 3) (as := [.ref 17, gs_iv 4, gs_iv rs, gs_iv cs]) (rest := []) dd_X0_corner_22 ok_X0_corner ml_X0_76 rfl rfl (Nat.le_of_ble_eq_true rfl) (by decide) (c_X0_corner_v4f hI (by omega) (by omega)) (fun r31 F32 A33 h34 => ?_)
    obtain ⟨z37, e36, e38, e39, x35⟩ := h34
    subst e36 e38 e39
    have y40 : z37 = Int64.ofInt (dt_1 (dt_T17 A) (dt_up rs.toNat 2) cs.toNat) := x35
    clear x35
    show sA _ _ _ 25 _ [.long z37] _ _
    refine sA_lret dd_X0_corner_25 rfl ?_
    refine ⟨_, rfl, rfl, rfl, ?_⟩
    have hr0 : ¬ rs.toNat.testBit 3 = true := fun w => (hrt.mpr w) (by rw [hrb]; omega)
    have e : dt_up rs.toNat 3 = dt_up rs.toNat 2 := dt_up_0 (j := 2) hr0
    rw [e]
    exact y40
theorem k_X0_corner_v2f {rs cs : Int} {F A : gs_F} (hI : gs_I F A) (h1 : 0 ≤ rs ∧ rs < 64) (h2 : 0 ≤ cs ∧ cs < 64) : ∀ nN : Nat, (∀ (s : Int64) (sg : Int) (y : Int),  0 ≤ y ∧ y ≤ 6 → sg = 1 ∨ sg = -1 → s = Int64.ofInt (gs_sum (dt_tm (dt_T17 A) 2 (dt_up rs.toNat 3) cs.toNat) y.toNat) → sg = dt_s cs.toNat y.toNat → rs.toNat.testBit 2 = true → 6 - y < (nN : Int) → sA m_X0_corner 5 (fun rv F' A' => ∃ z : Int64, rv = some (.long z) ∧ F = F' ∧ A = A' ∧ (z = Int64.ofInt (dt_1 (dt_T17 A) (dt_up rs.toNat 4) cs.toNat))) 35 [(7, gs_iv y), (6, gs_iv sg), (4, .long s), (0, .ref 17), (1, gs_iv 2), (2, gs_iv rs), (3, gs_iv cs)] [] F A) := by
  intro nN
  induction nN with
  | zero =>
    exact fun a0 a1 a2 i0 i1 i2 i3 i4 hm => by exfalso; omega
  | succ nN ih =>
    intro s sg y i0 i1 i2 i3 i4 hm
    refine sA_iload dd_X0_corner_35 (.head _) ?_
    refine sA_bipush (z := 6) dd_X0_corner_37 (by decide) ?_
    refine sA_icmp_ge (tgt := 107) dd_X0_corner_39 (by decide) (by omega) (by omega) (fun q1 => ?_) (fun q1 => ?_)
    · skip
      refine sA_lload dd_X0_corner_107 (.tail _ (.tail _ (.head _))) ?_
      refine sA_lret dd_X0_corner_109 rfl ?_
      refine ⟨_, rfl, rfl, rfl, ?_⟩
      have e : dt_up rs.toNat 4 = 2 :: dt_up rs.toNat 3 := dt_up_1 (j := 3) i4
      rw [e]
      show s = Int64.ofInt (gs_sum (dt_tm (dt_T17 A) 2 (dt_up rs.toNat 3) cs.toNat) 6)
      rw [i2, show y.toNat = 6 by omega]
    · skip
      refine sA_iload_n dd_X0_corner_42 rfl (.tail _ (.tail _ (.tail _ (.tail _ (.tail _ (.tail _ (.head _))))))) ?_
      refine sA_iload dd_X0_corner_43 (.head _) ?_
      refine sA_ishr dd_X0_corner_45 ?_
      have b2 := gs_t_rng (Int32.ofInt cs >>> (Int32.ofInt y &&& 31))
      generalize hw3 : gs_t (Int32.ofInt cs >>> (Int32.ofInt y &&& 31)) = w3 at b2 ⊢
      refine sA_iconst (z := 1) dd_X0_corner_46 ?_
      refine sA_iand dd_X0_corner_47 ?_
      have b4 := gs_t_rng (Int32.ofInt w3 &&& Int32.ofInt 1)
      generalize hw5 : gs_t (Int32.ofInt w3 &&& Int32.ofInt 1) = w5 at b4 ⊢
      have hcb : dt_hb cs y = w5 := by
        unfold dt_hb
        rw [hw3]
        exact hw5
      have hct := dt_hb_1 (e := cs) (k := y) (by omega) (by omega)
      have hT : dt_T17 A 2 y.toNat = A 17 (12 + y).toNat := by
        show A 17 (6 * 2 + y.toNat) = _
        congr 1
        omega
      refine sA_if_eq (tgt := 101) dd_X0_corner_48 (by decide) (by omega) (fun q6 => ?_) (fun q6 => ?_)
      · skip
        refine sA_iinc (lv' := [(7, gs_iv (y + 1)), (6, gs_iv sg), (4, .long s), (0, .ref 17), (1, gs_iv 2), (2, gs_iv rs), (3, gs_iv cs)]) dd_X0_corner_101 (.head _) (by decide) rfl ?_
        refine sA_goto (tgt := 35) dd_X0_corner_104 (by decide) ?_
        refine sA_sub (lv2 := [(7, gs_iv (y + 1)), (6, gs_iv sg), (4, .long s), (0, .ref 17), (1, gs_iv 2), (2, gs_iv rs), (3, gs_iv cs)]) (List.forall_mem_cons.mpr ⟨(.head _), (List.forall_mem_cons.mpr ⟨(.tail _ (.head _)), (List.forall_mem_cons.mpr ⟨(.tail _ (.tail _ (.head _))), (List.forall_mem_cons.mpr ⟨(.tail _ (.tail _ (.tail _ (.head _)))), (List.forall_mem_cons.mpr ⟨(.tail _ (.tail _ (.tail _ (.tail _ (.head _))))), (List.forall_mem_cons.mpr ⟨(.tail _ (.tail _ (.tail _ (.tail _ (.tail _ (.head _)))))), (List.forall_mem_cons.mpr ⟨(.tail _ (.tail _ (.tail _ (.tail _ (.tail _ (.tail _ (.head _))))))), (fun _ h => absurd h List.not_mem_nil)⟩)⟩)⟩)⟩)⟩)⟩)⟩) ?_
        exact ih s sg (y + 1)  (by omega) (by omega) (by rw [show (y + 1).toNat = y.toNat + 1 by omega]; exact dt_keep i2 (if_neg (fun w => (hct.mpr w) (by rw [hcb]; omega)))) (by rw [show (y + 1).toNat = y.toNat + 1 by omega]; rw [dt_s_0 (fun w => (hct.mpr w) (by rw [hcb]; omega))]; exact i3) i4 (by omega)
      · skip
        have hb1 : cs.toNat.testBit y.toNat = true := hct.mp (by rw [hcb]; omega)
        refine sA_aload_n dd_X0_corner_51 rfl (.tail _ (.tail _ (.tail _ (.head _)))) ?_
        refine sA_iload_n dd_X0_corner_52 rfl (.tail _ (.tail _ (.tail _ (.tail _ (.head _))))) ?_
        refine sA_bipush (z := 6) dd_X0_corner_53 (by decide) ?_
        refine sA_imul dd_X0_corner_55 ?_
        show sA _ _ _ _ _ (gs_iv 12 :: _) _ _
        refine sA_iload dd_X0_corner_56 (.head _) ?_
        refine sA_iadd dd_X0_corner_58 ?_
        refine sA_iald (n := 36) dd_X0_corner_59 (by decide) gs_s17 (by omega) (by decide) ?_
        have b7 : (-2147483648 : Int) ≤ A 17 (12 + y).toNat ∧ A 17 (12 + y).toNat ≤ 2147483647 := hI.2 17 (12 + y).toNat
        refine sA_istore (lv' := [(8, gs_iv (A 17 (12 + y).toNat)), (7, gs_iv y), (6, gs_iv sg), (4, .long s), (0, .ref 17), (1, gs_iv 2), (2, gs_iv rs), (3, gs_iv cs)]) dd_X0_corner_60 (by decide) rfl ?_
        refine sA_iload dd_X0_corner_62 (.head _) ?_
        refine sA_if_eq (tgt := 96) dd_X0_corner_64 (by decide) (by omega) (fun q8 => ?_) (fun q8 => ?_)
        · skip
          refine sA_iload dd_X0_corner_96 (.tail _ (.tail _ (.head _))) ?_
          refine sA_ineg dd_X0_corner_98 ?_
          refine sA_istore (lv' := [(6, gs_iv (-sg)), (8, gs_iv (A 17 (12 + y).toNat)), (7, gs_iv y), (4, .long s), (0, .ref 17), (1, gs_iv 2), (2, gs_iv rs), (3, gs_iv cs)]) dd_X0_corner_99 (by decide) rfl ?_
          refine sA_iinc (lv' := [(7, gs_iv (y + 1)), (6, gs_iv (-sg)), (8, gs_iv (A 17 (12 + y).toNat)), (4, .long s), (0, .ref 17), (1, gs_iv 2), (2, gs_iv rs), (3, gs_iv cs)]) dd_X0_corner_101 (.tail _ (.tail _ (.head _))) (by decide) rfl ?_
          refine sA_goto (tgt := 35) dd_X0_corner_104 (by decide) ?_
          refine sA_sub (lv2 := [(7, gs_iv (y + 1)), (6, gs_iv (-sg)), (4, .long s), (0, .ref 17), (1, gs_iv 2), (2, gs_iv rs), (3, gs_iv cs)]) (List.forall_mem_cons.mpr ⟨(.head _), (List.forall_mem_cons.mpr ⟨(.tail _ (.head _)), (List.forall_mem_cons.mpr ⟨(.tail _ (.tail _ (.tail _ (.head _)))), (List.forall_mem_cons.mpr ⟨(.tail _ (.tail _ (.tail _ (.tail _ (.head _))))), (List.forall_mem_cons.mpr ⟨(.tail _ (.tail _ (.tail _ (.tail _ (.tail _ (.head _)))))), (List.forall_mem_cons.mpr ⟨(.tail _ (.tail _ (.tail _ (.tail _ (.tail _ (.tail _ (.head _))))))), (List.forall_mem_cons.mpr ⟨(.tail _ (.tail _ (.tail _ (.tail _ (.tail _ (.tail _ (.tail _ (.head _)))))))), (fun _ h => absurd h List.not_mem_nil)⟩)⟩)⟩)⟩)⟩)⟩)⟩) ?_
          exact ih s (-sg) (y + 1)  (by omega) (by omega) (by rw [show (y + 1).toNat = y.toNat + 1 by omega]; exact dt_keep i2 (by show (if cs.toNat.testBit y.toNat then dt_s cs.toNat y.toNat * dt_T17 A 2 y.toNat * dt_1 (dt_T17 A) (dt_up rs.toNat 3) (cs.toNat - 2 ^ y.toNat) else 0) = 0; rw [if_pos hb1, hT, show A 17 (12 + y).toNat = 0 by omega, Int.mul_zero, Int.zero_mul])) (by rw [show (y + 1).toNat = y.toNat + 1 by omega]; rw [dt_s_1 hb1]; omega) i4 (by omega)
        · skip
          refine sA_lload dd_X0_corner_67 (.tail _ (.tail _ (.tail _ (.head _)))) ?_
          refine sA_iload dd_X0_corner_69 (.tail _ (.tail _ (.head _))) ?_
          refine sA_i2l dd_X0_corner_71 (by omega) ?_
          refine sA_iload dd_X0_corner_72 (.head _) ?_
          refine sA_i2l dd_X0_corner_74 (by omega) ?_
          refine sA_lmul dd_X0_corner_75 ?_
          refine sA_aload_n dd_X0_corner_76 rfl (.tail _ (.tail _ (.tail _ (.tail _ (.head _))))) ?_
          refine sA_iload_n dd_X0_corner_77 rfl (.tail _ (.tail _ (.tail _ (.tail _ (.tail _ (.head _)))))) ?_
          refine sA_iconst (z := 1) dd_X0_corner_78 ?_
          refine sA_iadd dd_X0_corner_79 ?_
          show sA _ _ _ _ _ (gs_iv 3 :: _) _ _
          refine sA_iload_n dd_X0_corner_80 rfl (.tail _ (.tail _ (.tail _ (.tail _ (.tail _ (.tail _ (.head _))))))) ?_
          refine sA_iload_n dd_X0_corner_81 rfl (.tail _ (.tail _ (.tail _ (.tail _ (.tail _ (.tail _ (.tail _ (.head _)))))))) ?_
          refine sA_iconst (z := 1) dd_X0_corner_82 ?_
          refine sA_iload dd_X0_corner_83 (.tail _ (.head _)) ?_
          refine sA_ishl dd_X0_corner_85 ?_
          have b9 := gs_t_rng (Int32.ofInt 1 <<< (Int32.ofInt y &&& 31))
          generalize hw10 : gs_t (Int32.ofInt 1 <<< (Int32.ofInt y &&& 31)) = w10 at b9 ⊢
          refine sA_iconst (z := (-1)) dd_X0_corner_86 ?_
          refine sA_ixor dd_X0_corner_87 ?_
          have b11 := gs_t_rng (Int32.ofInt w10 ^^^ Int32.ofInt (-1))
          generalize hw12 : gs_t (Int32.ofInt w10 ^^^ Int32.ofInt (-1)) = w12 at b11 ⊢
          refine sA_iand dd_X0_corner_88 ?_
          have b13 := gs_t_rng (Int32.ofInt cs &&& Int32.ofInt w12)
          generalize hw14 : gs_t (Int32.ofInt cs &&& Int32.ofInt w12) = w14 at b13 ⊢
          have hrm : dt_hr cs y = w14 := by
            unfold dt_hr
            rw [hw10, hw12]
            exact hw14
          have hrv : w14 = ((cs.toNat - 2 ^ y.toNat : Nat) : Int) := hrm.symm.trans (dt_hr_at (by omega) (by omega) hb1)
          have h64 : cs.toNat - 2 ^ y.toNat < 64 := Nat.lt_of_le_of_lt (Nat.sub_le _ _) (by omega)
          have hW88 : 0 ≤ w14 ∧ w14 < 64 := by
            rw [hrv]
            exact ⟨Int.natCast_nonneg _, Int.ofNat_lt.mpr h64⟩
          refine sA_callS (y2 := m_X0_corner) (n2 := 4) (d2 := 4) (as := [.ref 17, gs_iv 3, gs_iv rs, gs_iv w14]) (rest := [gs_lv (sg * (A 17 (12 + y).toNat)), .long s]) dd_X0_corner_89 ok_X0_corner ml_X0_76 rfl rfl (Nat.le_of_ble_eq_true rfl) (by decide) (c_X0_corner_v3f hI (by omega) (by omega)) (fun r15 F16 A17 h18 => ?_)
          obtain ⟨z21, e20, e22, e23, x19⟩ := h18
          subst e20 e22 e23
          have y24 : z21 = Int64.ofInt (dt_1 (dt_T17 A) (dt_up rs.toNat 3) w14.toNat) := x19
          clear x19
          show sA _ _ _ 92 _ [.long z21, gs_lv (sg * (A 17 (12 + y).toNat)), .long s] _ _
          have y89 := y24
          rw [hrv, Int.toNat_natCast] at y89
          refine sA_lmulR dd_X0_corner_92 ?_
          refine sA_laddR dd_X0_corner_93 ?_
          refine sA_lstore (lv' := [(4, .long (s + ((Int64.ofInt (sg * (A 17 (12 + y).toNat))) * z21))), (8, gs_iv (A 17 (12 + y).toNat)), (7, gs_iv y), (6, gs_iv sg), (0, .ref 17), (1, gs_iv 2), (2, gs_iv rs), (3, gs_iv cs)]) dd_X0_corner_94 (by decide) rfl ?_
          refine sA_iload dd_X0_corner_96 (.tail _ (.tail _ (.tail _ (.head _)))) ?_
          refine sA_ineg dd_X0_corner_98 ?_
          refine sA_istore (lv' := [(6, gs_iv (-sg)), (4, .long (s + ((Int64.ofInt (sg * (A 17 (12 + y).toNat))) * z21))), (8, gs_iv (A 17 (12 + y).toNat)), (7, gs_iv y), (0, .ref 17), (1, gs_iv 2), (2, gs_iv rs), (3, gs_iv cs)]) dd_X0_corner_99 (by decide) rfl ?_
          refine sA_iinc (lv' := [(7, gs_iv (y + 1)), (6, gs_iv (-sg)), (4, .long (s + ((Int64.ofInt (sg * (A 17 (12 + y).toNat))) * z21))), (8, gs_iv (A 17 (12 + y).toNat)), (0, .ref 17), (1, gs_iv 2), (2, gs_iv rs), (3, gs_iv cs)]) dd_X0_corner_101 (.tail _ (.tail _ (.tail _ (.head _)))) (by decide) rfl ?_
          refine sA_goto (tgt := 35) dd_X0_corner_104 (by decide) ?_
          refine sA_sub (lv2 := [(7, gs_iv (y + 1)), (6, gs_iv (-sg)), (4, .long (s + ((Int64.ofInt (sg * (A 17 (12 + y).toNat))) * z21))), (0, .ref 17), (1, gs_iv 2), (2, gs_iv rs), (3, gs_iv cs)]) (List.forall_mem_cons.mpr ⟨(.head _), (List.forall_mem_cons.mpr ⟨(.tail _ (.head _)), (List.forall_mem_cons.mpr ⟨(.tail _ (.tail _ (.head _))), (List.forall_mem_cons.mpr ⟨(.tail _ (.tail _ (.tail _ (.tail _ (.head _))))), (List.forall_mem_cons.mpr ⟨(.tail _ (.tail _ (.tail _ (.tail _ (.tail _ (.head _)))))), (List.forall_mem_cons.mpr ⟨(.tail _ (.tail _ (.tail _ (.tail _ (.tail _ (.tail _ (.head _))))))), (List.forall_mem_cons.mpr ⟨(.tail _ (.tail _ (.tail _ (.tail _ (.tail _ (.tail _ (.tail _ (.head _)))))))), (fun _ h => absurd h List.not_mem_nil)⟩)⟩)⟩)⟩)⟩)⟩)⟩) ?_
          exact ih (s + ((Int64.ofInt (sg * (A 17 (12 + y).toNat))) * z21)) (-sg) (y + 1)  (by omega) (by omega) (by rw [show (y + 1).toNat = y.toNat + 1 by omega]; exact dt_step i2 (d := sg * A 17 (12 + y).toNat * dt_1 (dt_T17 A) (dt_up rs.toNat 3) (cs.toNat - 2 ^ y.toNat)) (by rw [y89, ← Int64.ofInt_mul]) (by show (if cs.toNat.testBit y.toNat then dt_s cs.toNat y.toNat * dt_T17 A 2 y.toNat * dt_1 (dt_T17 A) (dt_up rs.toNat 3) (cs.toNat - 2 ^ y.toNat) else 0) = _; rw [if_pos hb1, hT, ← i3])) (by rw [show (y + 1).toNat = y.toNat + 1 by omega]; rw [dt_s_1 hb1]; omega) i4 (by omega)
theorem c_X0_corner_v2f {rs cs : Int} {F A : gs_F} (hI : gs_I F A) (h1 : 0 ≤ rs ∧ rs < 64) (h2 : 0 ≤ cs ∧ cs < 64) : sC m_X0_corner 5 [.ref 17, gs_iv 2, gs_iv rs, gs_iv cs] F A (fun rv F' A' => ∃ z : Int64, rv = some (.long z) ∧ F = F' ∧ A = A' ∧ (z = Int64.ofInt (dt_1 (dt_T17 A) (dt_up rs.toNat 4) cs.toNat))) := by
  refine sC_of ok_X0_corner.1 (Nat.le_of_ble_eq_true rfl) ?_
  show sA _ _ _ 0 [(0, .ref 17), (1, gs_iv 2), (2, gs_iv rs), (3, gs_iv cs)] [] F A
  refine sA_iload_n dd_X0_corner_0 rfl (.tail _ (.head _)) ?_
  refine sA_bipush (z := 6) dd_X0_corner_1 (by decide) ?_
  refine sA_icmp_lt (tgt := 8) dd_X0_corner_3 (by decide) (by omega) (by omega) (fun q25 => ?_) (fun q25 => absurd q25 (by omega))
  refine sA_iload_n dd_X0_corner_8 rfl (.tail _ (.tail _ (.head _))) ?_
  refine sA_iload_n dd_X0_corner_9 rfl (.tail _ (.head _)) ?_
  refine sA_ishr dd_X0_corner_10 ?_
  have b26 := gs_t_rng (Int32.ofInt rs >>> (Int32.ofInt 2 &&& 31))
  generalize hw27 : gs_t (Int32.ofInt rs >>> (Int32.ofInt 2 &&& 31)) = w27 at b26 ⊢
  refine sA_iconst (z := 1) dd_X0_corner_11 ?_
  refine sA_iand dd_X0_corner_12 ?_
  have b28 := gs_t_rng (Int32.ofInt w27 &&& Int32.ofInt 1)
  generalize hw29 : gs_t (Int32.ofInt w27 &&& Int32.ofInt 1) = w29 at b28 ⊢
  have hrb : dt_hb rs 2 = w29 := by
    unfold dt_hb
    rw [hw27]
    exact hw29
  have hrt : dt_hb rs 2 ≠ 0 ↔ rs.toNat.testBit 2 = true := dt_hb_1 (k := 2) (by omega) (by omega)
  refine sA_if_ne (tgt := 26) dd_X0_corner_13 (by decide) (by omega) (fun q30 => ?_) (fun q30 => ?_)
  · skip
    refine sA_lconst (z := 0) dd_X0_corner_26 (by decide) ?_
    refine sA_lstore (lv' := [(4, gs_lv 0), (0, .ref 17), (1, gs_iv 2), (2, gs_iv rs), (3, gs_iv cs)]) dd_X0_corner_27 (by decide) rfl ?_
    refine sA_iconst (z := 1) dd_X0_corner_29 ?_
    refine sA_istore (lv' := [(6, gs_iv 1), (4, gs_lv 0), (0, .ref 17), (1, gs_iv 2), (2, gs_iv rs), (3, gs_iv cs)]) dd_X0_corner_30 (by decide) rfl ?_
    refine sA_iconst (z := 0) dd_X0_corner_32 ?_
    refine sA_istore (lv' := [(7, gs_iv 0), (6, gs_iv 1), (4, gs_lv 0), (0, .ref 17), (1, gs_iv 2), (2, gs_iv rs), (3, gs_iv cs)]) dd_X0_corner_33 (by decide) rfl ?_
    refine sA_sub (lv2 := [(7, gs_iv 0), (6, gs_iv 1), (4, gs_lv 0), (0, .ref 17), (1, gs_iv 2), (2, gs_iv rs), (3, gs_iv cs)]) (List.forall_mem_cons.mpr ⟨(.head _), (List.forall_mem_cons.mpr ⟨(.tail _ (.head _)), (List.forall_mem_cons.mpr ⟨(.tail _ (.tail _ (.head _))), (List.forall_mem_cons.mpr ⟨(.tail _ (.tail _ (.tail _ (.head _)))), (List.forall_mem_cons.mpr ⟨(.tail _ (.tail _ (.tail _ (.tail _ (.head _))))), (List.forall_mem_cons.mpr ⟨(.tail _ (.tail _ (.tail _ (.tail _ (.tail _ (.head _)))))), (List.forall_mem_cons.mpr ⟨(.tail _ (.tail _ (.tail _ (.tail _ (.tail _ (.tail _ (.head _))))))), (fun _ h => absurd h List.not_mem_nil)⟩)⟩)⟩)⟩)⟩)⟩)⟩) ?_
    exact (k_X0_corner_v2f hI h1 h2 (6 - 0 : Int).toNat.succ) (Int64.ofInt 0) 1 0  (by omega) (by omega) (by rfl) (by rfl) (hrt.mp (by rw [hrb]; omega)) (by omega)
  · skip
    refine sA_aload_n dd_X0_corner_16 rfl (.head _) ?_
    refine sA_iload_n dd_X0_corner_17 rfl (.tail _ (.head _)) ?_
    refine sA_iconst (z := 1) dd_X0_corner_18 ?_
    refine sA_iadd dd_X0_corner_19 ?_
    show sA _ _ _ _ _ (gs_iv 3 :: _) _ _
    refine sA_iload_n dd_X0_corner_20 rfl (.tail _ (.tail _ (.head _))) ?_
    refine sA_iload_n dd_X0_corner_21 rfl (.tail _ (.tail _ (.tail _ (.head _)))) ?_
    refine sA_callS (y2 := m_X0_corner) (n2 := 4) (d2 := 4) (as := [.ref 17, gs_iv 3, gs_iv rs, gs_iv cs]) (rest := []) dd_X0_corner_22 ok_X0_corner ml_X0_76 rfl rfl (Nat.le_of_ble_eq_true rfl) (by decide) (c_X0_corner_v3f hI (by omega) (by omega)) (fun r31 F32 A33 h34 => ?_)
    obtain ⟨z37, e36, e38, e39, x35⟩ := h34
    subst e36 e38 e39
    have y40 : z37 = Int64.ofInt (dt_1 (dt_T17 A) (dt_up rs.toNat 3) cs.toNat) := x35
    clear x35
    show sA _ _ _ 25 _ [.long z37] _ _
    refine sA_lret dd_X0_corner_25 rfl ?_
    refine ⟨_, rfl, rfl, rfl, ?_⟩
    have hr0 : ¬ rs.toNat.testBit 2 = true := fun w => (hrt.mpr w) (by rw [hrb]; omega)
    have e : dt_up rs.toNat 4 = dt_up rs.toNat 3 := dt_up_0 (j := 3) hr0
    rw [e]
    exact y40
theorem k_X0_corner_v1f {rs cs : Int} {F A : gs_F} (hI : gs_I F A) (h1 : 0 ≤ rs ∧ rs < 64) (h2 : 0 ≤ cs ∧ cs < 64) : ∀ nN : Nat, (∀ (s : Int64) (sg : Int) (y : Int),  0 ≤ y ∧ y ≤ 6 → sg = 1 ∨ sg = -1 → s = Int64.ofInt (gs_sum (dt_tm (dt_T17 A) 1 (dt_up rs.toNat 4) cs.toNat) y.toNat) → sg = dt_s cs.toNat y.toNat → rs.toNat.testBit 1 = true → 6 - y < (nN : Int) → sA m_X0_corner 6 (fun rv F' A' => ∃ z : Int64, rv = some (.long z) ∧ F = F' ∧ A = A' ∧ (z = Int64.ofInt (dt_1 (dt_T17 A) (dt_up rs.toNat 5) cs.toNat))) 35 [(7, gs_iv y), (6, gs_iv sg), (4, .long s), (0, .ref 17), (1, gs_iv 1), (2, gs_iv rs), (3, gs_iv cs)] [] F A) := by
  intro nN
  induction nN with
  | zero =>
    exact fun a0 a1 a2 i0 i1 i2 i3 i4 hm => by exfalso; omega
  | succ nN ih =>
    intro s sg y i0 i1 i2 i3 i4 hm
    refine sA_iload dd_X0_corner_35 (.head _) ?_
    refine sA_bipush (z := 6) dd_X0_corner_37 (by decide) ?_
    refine sA_icmp_ge (tgt := 107) dd_X0_corner_39 (by decide) (by omega) (by omega) (fun q1 => ?_) (fun q1 => ?_)
    · skip
      refine sA_lload dd_X0_corner_107 (.tail _ (.tail _ (.head _))) ?_
      refine sA_lret dd_X0_corner_109 rfl ?_
      refine ⟨_, rfl, rfl, rfl, ?_⟩
      have e : dt_up rs.toNat 5 = 1 :: dt_up rs.toNat 4 := dt_up_1 (j := 4) i4
      rw [e]
      show s = Int64.ofInt (gs_sum (dt_tm (dt_T17 A) 1 (dt_up rs.toNat 4) cs.toNat) 6)
      rw [i2, show y.toNat = 6 by omega]
    · skip
      refine sA_iload_n dd_X0_corner_42 rfl (.tail _ (.tail _ (.tail _ (.tail _ (.tail _ (.tail _ (.head _))))))) ?_
      refine sA_iload dd_X0_corner_43 (.head _) ?_
      refine sA_ishr dd_X0_corner_45 ?_
      have b2 := gs_t_rng (Int32.ofInt cs >>> (Int32.ofInt y &&& 31))
      generalize hw3 : gs_t (Int32.ofInt cs >>> (Int32.ofInt y &&& 31)) = w3 at b2 ⊢
      refine sA_iconst (z := 1) dd_X0_corner_46 ?_
      refine sA_iand dd_X0_corner_47 ?_
      have b4 := gs_t_rng (Int32.ofInt w3 &&& Int32.ofInt 1)
      generalize hw5 : gs_t (Int32.ofInt w3 &&& Int32.ofInt 1) = w5 at b4 ⊢
      have hcb : dt_hb cs y = w5 := by
        unfold dt_hb
        rw [hw3]
        exact hw5
      have hct := dt_hb_1 (e := cs) (k := y) (by omega) (by omega)
      have hT : dt_T17 A 1 y.toNat = A 17 (6 + y).toNat := by
        show A 17 (6 * 1 + y.toNat) = _
        congr 1
        omega
      refine sA_if_eq (tgt := 101) dd_X0_corner_48 (by decide) (by omega) (fun q6 => ?_) (fun q6 => ?_)
      · skip
        refine sA_iinc (lv' := [(7, gs_iv (y + 1)), (6, gs_iv sg), (4, .long s), (0, .ref 17), (1, gs_iv 1), (2, gs_iv rs), (3, gs_iv cs)]) dd_X0_corner_101 (.head _) (by decide) rfl ?_
        refine sA_goto (tgt := 35) dd_X0_corner_104 (by decide) ?_
        refine sA_sub (lv2 := [(7, gs_iv (y + 1)), (6, gs_iv sg), (4, .long s), (0, .ref 17), (1, gs_iv 1), (2, gs_iv rs), (3, gs_iv cs)]) (List.forall_mem_cons.mpr ⟨(.head _), (List.forall_mem_cons.mpr ⟨(.tail _ (.head _)), (List.forall_mem_cons.mpr ⟨(.tail _ (.tail _ (.head _))), (List.forall_mem_cons.mpr ⟨(.tail _ (.tail _ (.tail _ (.head _)))), (List.forall_mem_cons.mpr ⟨(.tail _ (.tail _ (.tail _ (.tail _ (.head _))))), (List.forall_mem_cons.mpr ⟨(.tail _ (.tail _ (.tail _ (.tail _ (.tail _ (.head _)))))), (List.forall_mem_cons.mpr ⟨(.tail _ (.tail _ (.tail _ (.tail _ (.tail _ (.tail _ (.head _))))))), (fun _ h => absurd h List.not_mem_nil)⟩)⟩)⟩)⟩)⟩)⟩)⟩) ?_
        exact ih s sg (y + 1)  (by omega) (by omega) (by rw [show (y + 1).toNat = y.toNat + 1 by omega]; exact dt_keep i2 (if_neg (fun w => (hct.mpr w) (by rw [hcb]; omega)))) (by rw [show (y + 1).toNat = y.toNat + 1 by omega]; rw [dt_s_0 (fun w => (hct.mpr w) (by rw [hcb]; omega))]; exact i3) i4 (by omega)
      · skip
        have hb1 : cs.toNat.testBit y.toNat = true := hct.mp (by rw [hcb]; omega)
        refine sA_aload_n dd_X0_corner_51 rfl (.tail _ (.tail _ (.tail _ (.head _)))) ?_
        refine sA_iload_n dd_X0_corner_52 rfl (.tail _ (.tail _ (.tail _ (.tail _ (.head _))))) ?_
        refine sA_bipush (z := 6) dd_X0_corner_53 (by decide) ?_
        refine sA_imul dd_X0_corner_55 ?_
        show sA _ _ _ _ _ (gs_iv 6 :: _) _ _
        refine sA_iload dd_X0_corner_56 (.head _) ?_
        refine sA_iadd dd_X0_corner_58 ?_
        refine sA_iald (n := 36) dd_X0_corner_59 (by decide) gs_s17 (by omega) (by decide) ?_
        have b7 : (-2147483648 : Int) ≤ A 17 (6 + y).toNat ∧ A 17 (6 + y).toNat ≤ 2147483647 := hI.2 17 (6 + y).toNat
        refine sA_istore (lv' := [(8, gs_iv (A 17 (6 + y).toNat)), (7, gs_iv y), (6, gs_iv sg), (4, .long s), (0, .ref 17), (1, gs_iv 1), (2, gs_iv rs), (3, gs_iv cs)]) dd_X0_corner_60 (by decide) rfl ?_
        refine sA_iload dd_X0_corner_62 (.head _) ?_
        refine sA_if_eq (tgt := 96) dd_X0_corner_64 (by decide) (by omega) (fun q8 => ?_) (fun q8 => ?_)
        · skip
          refine sA_iload dd_X0_corner_96 (.tail _ (.tail _ (.head _))) ?_
          refine sA_ineg dd_X0_corner_98 ?_
          refine sA_istore (lv' := [(6, gs_iv (-sg)), (8, gs_iv (A 17 (6 + y).toNat)), (7, gs_iv y), (4, .long s), (0, .ref 17), (1, gs_iv 1), (2, gs_iv rs), (3, gs_iv cs)]) dd_X0_corner_99 (by decide) rfl ?_
          refine sA_iinc (lv' := [(7, gs_iv (y + 1)), (6, gs_iv (-sg)), (8, gs_iv (A 17 (6 + y).toNat)), (4, .long s), (0, .ref 17), (1, gs_iv 1), (2, gs_iv rs), (3, gs_iv cs)]) dd_X0_corner_101 (.tail _ (.tail _ (.head _))) (by decide) rfl ?_
          refine sA_goto (tgt := 35) dd_X0_corner_104 (by decide) ?_
          refine sA_sub (lv2 := [(7, gs_iv (y + 1)), (6, gs_iv (-sg)), (4, .long s), (0, .ref 17), (1, gs_iv 1), (2, gs_iv rs), (3, gs_iv cs)]) (List.forall_mem_cons.mpr ⟨(.head _), (List.forall_mem_cons.mpr ⟨(.tail _ (.head _)), (List.forall_mem_cons.mpr ⟨(.tail _ (.tail _ (.tail _ (.head _)))), (List.forall_mem_cons.mpr ⟨(.tail _ (.tail _ (.tail _ (.tail _ (.head _))))), (List.forall_mem_cons.mpr ⟨(.tail _ (.tail _ (.tail _ (.tail _ (.tail _ (.head _)))))), (List.forall_mem_cons.mpr ⟨(.tail _ (.tail _ (.tail _ (.tail _ (.tail _ (.tail _ (.head _))))))), (List.forall_mem_cons.mpr ⟨(.tail _ (.tail _ (.tail _ (.tail _ (.tail _ (.tail _ (.tail _ (.head _)))))))), (fun _ h => absurd h List.not_mem_nil)⟩)⟩)⟩)⟩)⟩)⟩)⟩) ?_
          exact ih s (-sg) (y + 1)  (by omega) (by omega) (by rw [show (y + 1).toNat = y.toNat + 1 by omega]; exact dt_keep i2 (by show (if cs.toNat.testBit y.toNat then dt_s cs.toNat y.toNat * dt_T17 A 1 y.toNat * dt_1 (dt_T17 A) (dt_up rs.toNat 4) (cs.toNat - 2 ^ y.toNat) else 0) = 0; rw [if_pos hb1, hT, show A 17 (6 + y).toNat = 0 by omega, Int.mul_zero, Int.zero_mul])) (by rw [show (y + 1).toNat = y.toNat + 1 by omega]; rw [dt_s_1 hb1]; omega) i4 (by omega)
        · skip
          refine sA_lload dd_X0_corner_67 (.tail _ (.tail _ (.tail _ (.head _)))) ?_
          refine sA_iload dd_X0_corner_69 (.tail _ (.tail _ (.head _))) ?_
          refine sA_i2l dd_X0_corner_71 (by omega) ?_
          refine sA_iload dd_X0_corner_72 (.head _) ?_
          refine sA_i2l dd_X0_corner_74 (by omega) ?_
          refine sA_lmul dd_X0_corner_75 ?_
          refine sA_aload_n dd_X0_corner_76 rfl (.tail _ (.tail _ (.tail _ (.tail _ (.head _))))) ?_
          refine sA_iload_n dd_X0_corner_77 rfl (.tail _ (.tail _ (.tail _ (.tail _ (.tail _ (.head _)))))) ?_
          refine sA_iconst (z := 1) dd_X0_corner_78 ?_
          refine sA_iadd dd_X0_corner_79 ?_
          show sA _ _ _ _ _ (gs_iv 2 :: _) _ _
          refine sA_iload_n dd_X0_corner_80 rfl (.tail _ (.tail _ (.tail _ (.tail _ (.tail _ (.tail _ (.head _))))))) ?_
          refine sA_iload_n dd_X0_corner_81 rfl (.tail _ (.tail _ (.tail _ (.tail _ (.tail _ (.tail _ (.tail _ (.head _)))))))) ?_
          refine sA_iconst (z := 1) dd_X0_corner_82 ?_
          refine sA_iload dd_X0_corner_83 (.tail _ (.head _)) ?_
          refine sA_ishl dd_X0_corner_85 ?_
          have b9 := gs_t_rng (Int32.ofInt 1 <<< (Int32.ofInt y &&& 31))
          generalize hw10 : gs_t (Int32.ofInt 1 <<< (Int32.ofInt y &&& 31)) = w10 at b9 ⊢
          refine sA_iconst (z := (-1)) dd_X0_corner_86 ?_
          refine sA_ixor dd_X0_corner_87 ?_
          have b11 := gs_t_rng (Int32.ofInt w10 ^^^ Int32.ofInt (-1))
          generalize hw12 : gs_t (Int32.ofInt w10 ^^^ Int32.ofInt (-1)) = w12 at b11 ⊢
          refine sA_iand dd_X0_corner_88 ?_
          have b13 := gs_t_rng (Int32.ofInt cs &&& Int32.ofInt w12)
          generalize hw14 : gs_t (Int32.ofInt cs &&& Int32.ofInt w12) = w14 at b13 ⊢
          have hrm : dt_hr cs y = w14 := by
            unfold dt_hr
            rw [hw10, hw12]
            exact hw14
          have hrv : w14 = ((cs.toNat - 2 ^ y.toNat : Nat) : Int) := hrm.symm.trans (dt_hr_at (by omega) (by omega) hb1)
          have h64 : cs.toNat - 2 ^ y.toNat < 64 := Nat.lt_of_le_of_lt (Nat.sub_le _ _) (by omega)
          have hW88 : 0 ≤ w14 ∧ w14 < 64 := by
            rw [hrv]
            exact ⟨Int.natCast_nonneg _, Int.ofNat_lt.mpr h64⟩
          refine sA_callS (y2 := m_X0_corner) (n2 := 4) (d2 := 5) (as := [.ref 17, gs_iv 2, gs_iv rs, gs_iv w14]) (rest := [gs_lv (sg * (A 17 (6 + y).toNat)), .long s]) dd_X0_corner_89 ok_X0_corner ml_X0_76 rfl rfl (Nat.le_of_ble_eq_true rfl) (by decide) (c_X0_corner_v2f hI (by omega) (by omega)) (fun r15 F16 A17 h18 => ?_)
          obtain ⟨z21, e20, e22, e23, x19⟩ := h18
          subst e20 e22 e23
          have y24 : z21 = Int64.ofInt (dt_1 (dt_T17 A) (dt_up rs.toNat 4) w14.toNat) := x19
          clear x19
          show sA _ _ _ 92 _ [.long z21, gs_lv (sg * (A 17 (6 + y).toNat)), .long s] _ _
          have y89 := y24
          rw [hrv, Int.toNat_natCast] at y89
          refine sA_lmulR dd_X0_corner_92 ?_
          refine sA_laddR dd_X0_corner_93 ?_
          refine sA_lstore (lv' := [(4, .long (s + ((Int64.ofInt (sg * (A 17 (6 + y).toNat))) * z21))), (8, gs_iv (A 17 (6 + y).toNat)), (7, gs_iv y), (6, gs_iv sg), (0, .ref 17), (1, gs_iv 1), (2, gs_iv rs), (3, gs_iv cs)]) dd_X0_corner_94 (by decide) rfl ?_
          refine sA_iload dd_X0_corner_96 (.tail _ (.tail _ (.tail _ (.head _)))) ?_
          refine sA_ineg dd_X0_corner_98 ?_
          refine sA_istore (lv' := [(6, gs_iv (-sg)), (4, .long (s + ((Int64.ofInt (sg * (A 17 (6 + y).toNat))) * z21))), (8, gs_iv (A 17 (6 + y).toNat)), (7, gs_iv y), (0, .ref 17), (1, gs_iv 1), (2, gs_iv rs), (3, gs_iv cs)]) dd_X0_corner_99 (by decide) rfl ?_
          refine sA_iinc (lv' := [(7, gs_iv (y + 1)), (6, gs_iv (-sg)), (4, .long (s + ((Int64.ofInt (sg * (A 17 (6 + y).toNat))) * z21))), (8, gs_iv (A 17 (6 + y).toNat)), (0, .ref 17), (1, gs_iv 1), (2, gs_iv rs), (3, gs_iv cs)]) dd_X0_corner_101 (.tail _ (.tail _ (.tail _ (.head _)))) (by decide) rfl ?_
          refine sA_goto (tgt := 35) dd_X0_corner_104 (by decide) ?_
          refine sA_sub (lv2 := [(7, gs_iv (y + 1)), (6, gs_iv (-sg)), (4, .long (s + ((Int64.ofInt (sg * (A 17 (6 + y).toNat))) * z21))), (0, .ref 17), (1, gs_iv 1), (2, gs_iv rs), (3, gs_iv cs)]) (List.forall_mem_cons.mpr ⟨(.head _), (List.forall_mem_cons.mpr ⟨(.tail _ (.head _)), (List.forall_mem_cons.mpr ⟨(.tail _ (.tail _ (.head _))), (List.forall_mem_cons.mpr ⟨(.tail _ (.tail _ (.tail _ (.tail _ (.head _))))), (List.forall_mem_cons.mpr ⟨(.tail _ (.tail _ (.tail _ (.tail _ (.tail _ (.head _)))))), (List.forall_mem_cons.mpr ⟨(.tail _ (.tail _ (.tail _ (.tail _ (.tail _ (.tail _ (.head _))))))), (List.forall_mem_cons.mpr ⟨(.tail _ (.tail _ (.tail _ (.tail _ (.tail _ (.tail _ (.tail _ (.head _)))))))), (fun _ h => absurd h List.not_mem_nil)⟩)⟩)⟩)⟩)⟩)⟩)⟩) ?_
          exact ih (s + ((Int64.ofInt (sg * (A 17 (6 + y).toNat))) * z21)) (-sg) (y + 1)  (by omega) (by omega) (by rw [show (y + 1).toNat = y.toNat + 1 by omega]; exact dt_step i2 (d := sg * A 17 (6 + y).toNat * dt_1 (dt_T17 A) (dt_up rs.toNat 4) (cs.toNat - 2 ^ y.toNat)) (by rw [y89, ← Int64.ofInt_mul]) (by show (if cs.toNat.testBit y.toNat then dt_s cs.toNat y.toNat * dt_T17 A 1 y.toNat * dt_1 (dt_T17 A) (dt_up rs.toNat 4) (cs.toNat - 2 ^ y.toNat) else 0) = _; rw [if_pos hb1, hT, ← i3])) (by rw [show (y + 1).toNat = y.toNat + 1 by omega]; rw [dt_s_1 hb1]; omega) i4 (by omega)
theorem c_X0_corner_v1f {rs cs : Int} {F A : gs_F} (hI : gs_I F A) (h1 : 0 ≤ rs ∧ rs < 64) (h2 : 0 ≤ cs ∧ cs < 64) : sC m_X0_corner 6 [.ref 17, gs_iv 1, gs_iv rs, gs_iv cs] F A (fun rv F' A' => ∃ z : Int64, rv = some (.long z) ∧ F = F' ∧ A = A' ∧ (z = Int64.ofInt (dt_1 (dt_T17 A) (dt_up rs.toNat 5) cs.toNat))) := by
  refine sC_of ok_X0_corner.1 (Nat.le_of_ble_eq_true rfl) ?_
  show sA _ _ _ 0 [(0, .ref 17), (1, gs_iv 1), (2, gs_iv rs), (3, gs_iv cs)] [] F A
  refine sA_iload_n dd_X0_corner_0 rfl (.tail _ (.head _)) ?_
  refine sA_bipush (z := 6) dd_X0_corner_1 (by decide) ?_
  refine sA_icmp_lt (tgt := 8) dd_X0_corner_3 (by decide) (by omega) (by omega) (fun q25 => ?_) (fun q25 => absurd q25 (by omega))
  refine sA_iload_n dd_X0_corner_8 rfl (.tail _ (.tail _ (.head _))) ?_
  refine sA_iload_n dd_X0_corner_9 rfl (.tail _ (.head _)) ?_
  refine sA_ishr dd_X0_corner_10 ?_
  have b26 := gs_t_rng (Int32.ofInt rs >>> (Int32.ofInt 1 &&& 31))
  generalize hw27 : gs_t (Int32.ofInt rs >>> (Int32.ofInt 1 &&& 31)) = w27 at b26 ⊢
  refine sA_iconst (z := 1) dd_X0_corner_11 ?_
  refine sA_iand dd_X0_corner_12 ?_
  have b28 := gs_t_rng (Int32.ofInt w27 &&& Int32.ofInt 1)
  generalize hw29 : gs_t (Int32.ofInt w27 &&& Int32.ofInt 1) = w29 at b28 ⊢
  have hrb : dt_hb rs 1 = w29 := by
    unfold dt_hb
    rw [hw27]
    exact hw29
  have hrt : dt_hb rs 1 ≠ 0 ↔ rs.toNat.testBit 1 = true := dt_hb_1 (k := 1) (by omega) (by omega)
  refine sA_if_ne (tgt := 26) dd_X0_corner_13 (by decide) (by omega) (fun q30 => ?_) (fun q30 => ?_)
  · skip
    refine sA_lconst (z := 0) dd_X0_corner_26 (by decide) ?_
    refine sA_lstore (lv' := [(4, gs_lv 0), (0, .ref 17), (1, gs_iv 1), (2, gs_iv rs), (3, gs_iv cs)]) dd_X0_corner_27 (by decide) rfl ?_
    refine sA_iconst (z := 1) dd_X0_corner_29 ?_
    refine sA_istore (lv' := [(6, gs_iv 1), (4, gs_lv 0), (0, .ref 17), (1, gs_iv 1), (2, gs_iv rs), (3, gs_iv cs)]) dd_X0_corner_30 (by decide) rfl ?_
    refine sA_iconst (z := 0) dd_X0_corner_32 ?_
    refine sA_istore (lv' := [(7, gs_iv 0), (6, gs_iv 1), (4, gs_lv 0), (0, .ref 17), (1, gs_iv 1), (2, gs_iv rs), (3, gs_iv cs)]) dd_X0_corner_33 (by decide) rfl ?_
    refine sA_sub (lv2 := [(7, gs_iv 0), (6, gs_iv 1), (4, gs_lv 0), (0, .ref 17), (1, gs_iv 1), (2, gs_iv rs), (3, gs_iv cs)]) (List.forall_mem_cons.mpr ⟨(.head _), (List.forall_mem_cons.mpr ⟨(.tail _ (.head _)), (List.forall_mem_cons.mpr ⟨(.tail _ (.tail _ (.head _))), (List.forall_mem_cons.mpr ⟨(.tail _ (.tail _ (.tail _ (.head _)))), (List.forall_mem_cons.mpr ⟨(.tail _ (.tail _ (.tail _ (.tail _ (.head _))))), (List.forall_mem_cons.mpr ⟨(.tail _ (.tail _ (.tail _ (.tail _ (.tail _ (.head _)))))), (List.forall_mem_cons.mpr ⟨(.tail _ (.tail _ (.tail _ (.tail _ (.tail _ (.tail _ (.head _))))))), (fun _ h => absurd h List.not_mem_nil)⟩)⟩)⟩)⟩)⟩)⟩)⟩) ?_
    exact (k_X0_corner_v1f hI h1 h2 (6 - 0 : Int).toNat.succ) (Int64.ofInt 0) 1 0  (by omega) (by omega) (by rfl) (by rfl) (hrt.mp (by rw [hrb]; omega)) (by omega)
  · skip
    refine sA_aload_n dd_X0_corner_16 rfl (.head _) ?_
    refine sA_iload_n dd_X0_corner_17 rfl (.tail _ (.head _)) ?_
    refine sA_iconst (z := 1) dd_X0_corner_18 ?_
    refine sA_iadd dd_X0_corner_19 ?_
    show sA _ _ _ _ _ (gs_iv 2 :: _) _ _
    refine sA_iload_n dd_X0_corner_20 rfl (.tail _ (.tail _ (.head _))) ?_
    refine sA_iload_n dd_X0_corner_21 rfl (.tail _ (.tail _ (.tail _ (.head _)))) ?_
    refine sA_callS (y2 := m_X0_corner) (n2 := 4) (d2 := 5) (as := [.ref 17, gs_iv 2, gs_iv rs, gs_iv cs]) (rest := []) dd_X0_corner_22 ok_X0_corner ml_X0_76 rfl rfl (Nat.le_of_ble_eq_true rfl) (by decide) (c_X0_corner_v2f hI (by omega) (by omega)) (fun r31 F32 A33 h34 => ?_)
    obtain ⟨z37, e36, e38, e39, x35⟩ := h34
    subst e36 e38 e39
    have y40 : z37 = Int64.ofInt (dt_1 (dt_T17 A) (dt_up rs.toNat 4) cs.toNat) := x35
    clear x35
    show sA _ _ _ 25 _ [.long z37] _ _
    refine sA_lret dd_X0_corner_25 rfl ?_
    refine ⟨_, rfl, rfl, rfl, ?_⟩
    have hr0 : ¬ rs.toNat.testBit 1 = true := fun w => (hrt.mpr w) (by rw [hrb]; omega)
    have e : dt_up rs.toNat 5 = dt_up rs.toNat 4 := dt_up_0 (j := 4) hr0
    rw [e]
    exact y40
theorem k_X0_corner_v0f {rs cs : Int} {F A : gs_F} (hI : gs_I F A) (h1 : 0 ≤ rs ∧ rs < 64) (h2 : 0 ≤ cs ∧ cs < 64) : ∀ nN : Nat, (∀ (s : Int64) (sg : Int) (y : Int),  0 ≤ y ∧ y ≤ 6 → sg = 1 ∨ sg = -1 → s = Int64.ofInt (gs_sum (dt_tm (dt_T17 A) 0 (dt_up rs.toNat 5) cs.toNat) y.toNat) → sg = dt_s cs.toNat y.toNat → rs.toNat.testBit 0 = true → 6 - y < (nN : Int) → sA m_X0_corner 7 (fun rv F' A' => ∃ z : Int64, rv = some (.long z) ∧ F = F' ∧ A = A' ∧ (z = Int64.ofInt (dt_1 (dt_T17 A) (dt_up rs.toNat 6) cs.toNat))) 35 [(7, gs_iv y), (6, gs_iv sg), (4, .long s), (0, .ref 17), (1, gs_iv 0), (2, gs_iv rs), (3, gs_iv cs)] [] F A) := by
  intro nN
  induction nN with
  | zero =>
    exact fun a0 a1 a2 i0 i1 i2 i3 i4 hm => by exfalso; omega
  | succ nN ih =>
    intro s sg y i0 i1 i2 i3 i4 hm
    refine sA_iload dd_X0_corner_35 (.head _) ?_
    refine sA_bipush (z := 6) dd_X0_corner_37 (by decide) ?_
    refine sA_icmp_ge (tgt := 107) dd_X0_corner_39 (by decide) (by omega) (by omega) (fun q1 => ?_) (fun q1 => ?_)
    · skip
      refine sA_lload dd_X0_corner_107 (.tail _ (.tail _ (.head _))) ?_
      refine sA_lret dd_X0_corner_109 rfl ?_
      refine ⟨_, rfl, rfl, rfl, ?_⟩
      have e : dt_up rs.toNat 6 = 0 :: dt_up rs.toNat 5 := dt_up_1 (j := 5) i4
      rw [e]
      show s = Int64.ofInt (gs_sum (dt_tm (dt_T17 A) 0 (dt_up rs.toNat 5) cs.toNat) 6)
      rw [i2, show y.toNat = 6 by omega]
    · skip
      refine sA_iload_n dd_X0_corner_42 rfl (.tail _ (.tail _ (.tail _ (.tail _ (.tail _ (.tail _ (.head _))))))) ?_
      refine sA_iload dd_X0_corner_43 (.head _) ?_
      refine sA_ishr dd_X0_corner_45 ?_
      have b2 := gs_t_rng (Int32.ofInt cs >>> (Int32.ofInt y &&& 31))
      generalize hw3 : gs_t (Int32.ofInt cs >>> (Int32.ofInt y &&& 31)) = w3 at b2 ⊢
      refine sA_iconst (z := 1) dd_X0_corner_46 ?_
      refine sA_iand dd_X0_corner_47 ?_
      have b4 := gs_t_rng (Int32.ofInt w3 &&& Int32.ofInt 1)
      generalize hw5 : gs_t (Int32.ofInt w3 &&& Int32.ofInt 1) = w5 at b4 ⊢
      have hcb : dt_hb cs y = w5 := by
        unfold dt_hb
        rw [hw3]
        exact hw5
      have hct := dt_hb_1 (e := cs) (k := y) (by omega) (by omega)
      have hT : dt_T17 A 0 y.toNat = A 17 (0 + y).toNat := by
        show A 17 (6 * 0 + y.toNat) = _
        congr 1
        omega
      refine sA_if_eq (tgt := 101) dd_X0_corner_48 (by decide) (by omega) (fun q6 => ?_) (fun q6 => ?_)
      · skip
        refine sA_iinc (lv' := [(7, gs_iv (y + 1)), (6, gs_iv sg), (4, .long s), (0, .ref 17), (1, gs_iv 0), (2, gs_iv rs), (3, gs_iv cs)]) dd_X0_corner_101 (.head _) (by decide) rfl ?_
        refine sA_goto (tgt := 35) dd_X0_corner_104 (by decide) ?_
        refine sA_sub (lv2 := [(7, gs_iv (y + 1)), (6, gs_iv sg), (4, .long s), (0, .ref 17), (1, gs_iv 0), (2, gs_iv rs), (3, gs_iv cs)]) (List.forall_mem_cons.mpr ⟨(.head _), (List.forall_mem_cons.mpr ⟨(.tail _ (.head _)), (List.forall_mem_cons.mpr ⟨(.tail _ (.tail _ (.head _))), (List.forall_mem_cons.mpr ⟨(.tail _ (.tail _ (.tail _ (.head _)))), (List.forall_mem_cons.mpr ⟨(.tail _ (.tail _ (.tail _ (.tail _ (.head _))))), (List.forall_mem_cons.mpr ⟨(.tail _ (.tail _ (.tail _ (.tail _ (.tail _ (.head _)))))), (List.forall_mem_cons.mpr ⟨(.tail _ (.tail _ (.tail _ (.tail _ (.tail _ (.tail _ (.head _))))))), (fun _ h => absurd h List.not_mem_nil)⟩)⟩)⟩)⟩)⟩)⟩)⟩) ?_
        exact ih s sg (y + 1)  (by omega) (by omega) (by rw [show (y + 1).toNat = y.toNat + 1 by omega]; exact dt_keep i2 (if_neg (fun w => (hct.mpr w) (by rw [hcb]; omega)))) (by rw [show (y + 1).toNat = y.toNat + 1 by omega]; rw [dt_s_0 (fun w => (hct.mpr w) (by rw [hcb]; omega))]; exact i3) i4 (by omega)
      · skip
        have hb1 : cs.toNat.testBit y.toNat = true := hct.mp (by rw [hcb]; omega)
        refine sA_aload_n dd_X0_corner_51 rfl (.tail _ (.tail _ (.tail _ (.head _)))) ?_
        refine sA_iload_n dd_X0_corner_52 rfl (.tail _ (.tail _ (.tail _ (.tail _ (.head _))))) ?_
        refine sA_bipush (z := 6) dd_X0_corner_53 (by decide) ?_
        refine sA_imul dd_X0_corner_55 ?_
        show sA _ _ _ _ _ (gs_iv 0 :: _) _ _
        refine sA_iload dd_X0_corner_56 (.head _) ?_
        refine sA_iadd dd_X0_corner_58 ?_
        refine sA_iald (n := 36) dd_X0_corner_59 (by decide) gs_s17 (by omega) (by decide) ?_
        have b7 : (-2147483648 : Int) ≤ A 17 (0 + y).toNat ∧ A 17 (0 + y).toNat ≤ 2147483647 := hI.2 17 (0 + y).toNat
        refine sA_istore (lv' := [(8, gs_iv (A 17 (0 + y).toNat)), (7, gs_iv y), (6, gs_iv sg), (4, .long s), (0, .ref 17), (1, gs_iv 0), (2, gs_iv rs), (3, gs_iv cs)]) dd_X0_corner_60 (by decide) rfl ?_
        refine sA_iload dd_X0_corner_62 (.head _) ?_
        refine sA_if_eq (tgt := 96) dd_X0_corner_64 (by decide) (by omega) (fun q8 => ?_) (fun q8 => ?_)
        · skip
          refine sA_iload dd_X0_corner_96 (.tail _ (.tail _ (.head _))) ?_
          refine sA_ineg dd_X0_corner_98 ?_
          refine sA_istore (lv' := [(6, gs_iv (-sg)), (8, gs_iv (A 17 (0 + y).toNat)), (7, gs_iv y), (4, .long s), (0, .ref 17), (1, gs_iv 0), (2, gs_iv rs), (3, gs_iv cs)]) dd_X0_corner_99 (by decide) rfl ?_
          refine sA_iinc (lv' := [(7, gs_iv (y + 1)), (6, gs_iv (-sg)), (8, gs_iv (A 17 (0 + y).toNat)), (4, .long s), (0, .ref 17), (1, gs_iv 0), (2, gs_iv rs), (3, gs_iv cs)]) dd_X0_corner_101 (.tail _ (.tail _ (.head _))) (by decide) rfl ?_
          refine sA_goto (tgt := 35) dd_X0_corner_104 (by decide) ?_
          refine sA_sub (lv2 := [(7, gs_iv (y + 1)), (6, gs_iv (-sg)), (4, .long s), (0, .ref 17), (1, gs_iv 0), (2, gs_iv rs), (3, gs_iv cs)]) (List.forall_mem_cons.mpr ⟨(.head _), (List.forall_mem_cons.mpr ⟨(.tail _ (.head _)), (List.forall_mem_cons.mpr ⟨(.tail _ (.tail _ (.tail _ (.head _)))), (List.forall_mem_cons.mpr ⟨(.tail _ (.tail _ (.tail _ (.tail _ (.head _))))), (List.forall_mem_cons.mpr ⟨(.tail _ (.tail _ (.tail _ (.tail _ (.tail _ (.head _)))))), (List.forall_mem_cons.mpr ⟨(.tail _ (.tail _ (.tail _ (.tail _ (.tail _ (.tail _ (.head _))))))), (List.forall_mem_cons.mpr ⟨(.tail _ (.tail _ (.tail _ (.tail _ (.tail _ (.tail _ (.tail _ (.head _)))))))), (fun _ h => absurd h List.not_mem_nil)⟩)⟩)⟩)⟩)⟩)⟩)⟩) ?_
          exact ih s (-sg) (y + 1)  (by omega) (by omega) (by rw [show (y + 1).toNat = y.toNat + 1 by omega]; exact dt_keep i2 (by show (if cs.toNat.testBit y.toNat then dt_s cs.toNat y.toNat * dt_T17 A 0 y.toNat * dt_1 (dt_T17 A) (dt_up rs.toNat 5) (cs.toNat - 2 ^ y.toNat) else 0) = 0; rw [if_pos hb1, hT, show A 17 (0 + y).toNat = 0 by omega, Int.mul_zero, Int.zero_mul])) (by rw [show (y + 1).toNat = y.toNat + 1 by omega]; rw [dt_s_1 hb1]; omega) i4 (by omega)
        · skip
          refine sA_lload dd_X0_corner_67 (.tail _ (.tail _ (.tail _ (.head _)))) ?_
          refine sA_iload dd_X0_corner_69 (.tail _ (.tail _ (.head _))) ?_
          refine sA_i2l dd_X0_corner_71 (by omega) ?_
          refine sA_iload dd_X0_corner_72 (.head _) ?_
          refine sA_i2l dd_X0_corner_74 (by omega) ?_
          refine sA_lmul dd_X0_corner_75 ?_
          refine sA_aload_n dd_X0_corner_76 rfl (.tail _ (.tail _ (.tail _ (.tail _ (.head _))))) ?_
          refine sA_iload_n dd_X0_corner_77 rfl (.tail _ (.tail _ (.tail _ (.tail _ (.tail _ (.head _)))))) ?_
          refine sA_iconst (z := 1) dd_X0_corner_78 ?_
          refine sA_iadd dd_X0_corner_79 ?_
          show sA _ _ _ _ _ (gs_iv 1 :: _) _ _
          refine sA_iload_n dd_X0_corner_80 rfl (.tail _ (.tail _ (.tail _ (.tail _ (.tail _ (.tail _ (.head _))))))) ?_
          refine sA_iload_n dd_X0_corner_81 rfl (.tail _ (.tail _ (.tail _ (.tail _ (.tail _ (.tail _ (.tail _ (.head _)))))))) ?_
          refine sA_iconst (z := 1) dd_X0_corner_82 ?_
          refine sA_iload dd_X0_corner_83 (.tail _ (.head _)) ?_
          refine sA_ishl dd_X0_corner_85 ?_
          have b9 := gs_t_rng (Int32.ofInt 1 <<< (Int32.ofInt y &&& 31))
          generalize hw10 : gs_t (Int32.ofInt 1 <<< (Int32.ofInt y &&& 31)) = w10 at b9 ⊢
          refine sA_iconst (z := (-1)) dd_X0_corner_86 ?_
          refine sA_ixor dd_X0_corner_87 ?_
          have b11 := gs_t_rng (Int32.ofInt w10 ^^^ Int32.ofInt (-1))
          generalize hw12 : gs_t (Int32.ofInt w10 ^^^ Int32.ofInt (-1)) = w12 at b11 ⊢
          refine sA_iand dd_X0_corner_88 ?_
          have b13 := gs_t_rng (Int32.ofInt cs &&& Int32.ofInt w12)
          generalize hw14 : gs_t (Int32.ofInt cs &&& Int32.ofInt w12) = w14 at b13 ⊢
          have hrm : dt_hr cs y = w14 := by
            unfold dt_hr
            rw [hw10, hw12]
            exact hw14
          have hrv : w14 = ((cs.toNat - 2 ^ y.toNat : Nat) : Int) := hrm.symm.trans (dt_hr_at (by omega) (by omega) hb1)
          have h64 : cs.toNat - 2 ^ y.toNat < 64 := Nat.lt_of_le_of_lt (Nat.sub_le _ _) (by omega)
          have hW88 : 0 ≤ w14 ∧ w14 < 64 := by
            rw [hrv]
            exact ⟨Int.natCast_nonneg _, Int.ofNat_lt.mpr h64⟩
          refine sA_callS (y2 := m_X0_corner) (n2 := 4) (d2 := 6) (as := [.ref 17, gs_iv 1, gs_iv rs, gs_iv w14]) (rest := [gs_lv (sg * (A 17 (0 + y).toNat)), .long s]) dd_X0_corner_89 ok_X0_corner ml_X0_76 rfl rfl (Nat.le_of_ble_eq_true rfl) (by decide) (c_X0_corner_v1f hI (by omega) (by omega)) (fun r15 F16 A17 h18 => ?_)
          obtain ⟨z21, e20, e22, e23, x19⟩ := h18
          subst e20 e22 e23
          have y24 : z21 = Int64.ofInt (dt_1 (dt_T17 A) (dt_up rs.toNat 5) w14.toNat) := x19
          clear x19
          show sA _ _ _ 92 _ [.long z21, gs_lv (sg * (A 17 (0 + y).toNat)), .long s] _ _
          have y89 := y24
          rw [hrv, Int.toNat_natCast] at y89
          refine sA_lmulR dd_X0_corner_92 ?_
          refine sA_laddR dd_X0_corner_93 ?_
          refine sA_lstore (lv' := [(4, .long (s + ((Int64.ofInt (sg * (A 17 (0 + y).toNat))) * z21))), (8, gs_iv (A 17 (0 + y).toNat)), (7, gs_iv y), (6, gs_iv sg), (0, .ref 17), (1, gs_iv 0), (2, gs_iv rs), (3, gs_iv cs)]) dd_X0_corner_94 (by decide) rfl ?_
          refine sA_iload dd_X0_corner_96 (.tail _ (.tail _ (.tail _ (.head _)))) ?_
          refine sA_ineg dd_X0_corner_98 ?_
          refine sA_istore (lv' := [(6, gs_iv (-sg)), (4, .long (s + ((Int64.ofInt (sg * (A 17 (0 + y).toNat))) * z21))), (8, gs_iv (A 17 (0 + y).toNat)), (7, gs_iv y), (0, .ref 17), (1, gs_iv 0), (2, gs_iv rs), (3, gs_iv cs)]) dd_X0_corner_99 (by decide) rfl ?_
          refine sA_iinc (lv' := [(7, gs_iv (y + 1)), (6, gs_iv (-sg)), (4, .long (s + ((Int64.ofInt (sg * (A 17 (0 + y).toNat))) * z21))), (8, gs_iv (A 17 (0 + y).toNat)), (0, .ref 17), (1, gs_iv 0), (2, gs_iv rs), (3, gs_iv cs)]) dd_X0_corner_101 (.tail _ (.tail _ (.tail _ (.head _)))) (by decide) rfl ?_
          refine sA_goto (tgt := 35) dd_X0_corner_104 (by decide) ?_
          refine sA_sub (lv2 := [(7, gs_iv (y + 1)), (6, gs_iv (-sg)), (4, .long (s + ((Int64.ofInt (sg * (A 17 (0 + y).toNat))) * z21))), (0, .ref 17), (1, gs_iv 0), (2, gs_iv rs), (3, gs_iv cs)]) (List.forall_mem_cons.mpr ⟨(.head _), (List.forall_mem_cons.mpr ⟨(.tail _ (.head _)), (List.forall_mem_cons.mpr ⟨(.tail _ (.tail _ (.head _))), (List.forall_mem_cons.mpr ⟨(.tail _ (.tail _ (.tail _ (.tail _ (.head _))))), (List.forall_mem_cons.mpr ⟨(.tail _ (.tail _ (.tail _ (.tail _ (.tail _ (.head _)))))), (List.forall_mem_cons.mpr ⟨(.tail _ (.tail _ (.tail _ (.tail _ (.tail _ (.tail _ (.head _))))))), (List.forall_mem_cons.mpr ⟨(.tail _ (.tail _ (.tail _ (.tail _ (.tail _ (.tail _ (.tail _ (.head _)))))))), (fun _ h => absurd h List.not_mem_nil)⟩)⟩)⟩)⟩)⟩)⟩)⟩) ?_
          exact ih (s + ((Int64.ofInt (sg * (A 17 (0 + y).toNat))) * z21)) (-sg) (y + 1)  (by omega) (by omega) (by rw [show (y + 1).toNat = y.toNat + 1 by omega]; exact dt_step i2 (d := sg * A 17 (0 + y).toNat * dt_1 (dt_T17 A) (dt_up rs.toNat 5) (cs.toNat - 2 ^ y.toNat)) (by rw [y89, ← Int64.ofInt_mul]) (by show (if cs.toNat.testBit y.toNat then dt_s cs.toNat y.toNat * dt_T17 A 0 y.toNat * dt_1 (dt_T17 A) (dt_up rs.toNat 5) (cs.toNat - 2 ^ y.toNat) else 0) = _; rw [if_pos hb1, hT, ← i3])) (by rw [show (y + 1).toNat = y.toNat + 1 by omega]; rw [dt_s_1 hb1]; omega) i4 (by omega)
theorem c_X0_corner_v0f {rs cs : Int} {F A : gs_F} (hI : gs_I F A) (h1 : 0 ≤ rs ∧ rs < 64) (h2 : 0 ≤ cs ∧ cs < 64) : sC m_X0_corner 7 [.ref 17, gs_iv 0, gs_iv rs, gs_iv cs] F A (fun rv F' A' => ∃ z : Int64, rv = some (.long z) ∧ F = F' ∧ A = A' ∧ (z = Int64.ofInt (dt_1 (dt_T17 A) (dt_up rs.toNat 6) cs.toNat))) := by
  refine sC_of ok_X0_corner.1 (Nat.le_of_ble_eq_true rfl) ?_
  show sA _ _ _ 0 [(0, .ref 17), (1, gs_iv 0), (2, gs_iv rs), (3, gs_iv cs)] [] F A
  refine sA_iload_n dd_X0_corner_0 rfl (.tail _ (.head _)) ?_
  refine sA_bipush (z := 6) dd_X0_corner_1 (by decide) ?_
  refine sA_icmp_lt (tgt := 8) dd_X0_corner_3 (by decide) (by omega) (by omega) (fun q25 => ?_) (fun q25 => absurd q25 (by omega))
  refine sA_iload_n dd_X0_corner_8 rfl (.tail _ (.tail _ (.head _))) ?_
  refine sA_iload_n dd_X0_corner_9 rfl (.tail _ (.head _)) ?_
  refine sA_ishr dd_X0_corner_10 ?_
  have b26 := gs_t_rng (Int32.ofInt rs >>> (Int32.ofInt 0 &&& 31))
  generalize hw27 : gs_t (Int32.ofInt rs >>> (Int32.ofInt 0 &&& 31)) = w27 at b26 ⊢
  refine sA_iconst (z := 1) dd_X0_corner_11 ?_
  refine sA_iand dd_X0_corner_12 ?_
  have b28 := gs_t_rng (Int32.ofInt w27 &&& Int32.ofInt 1)
  generalize hw29 : gs_t (Int32.ofInt w27 &&& Int32.ofInt 1) = w29 at b28 ⊢
  have hrb : dt_hb rs 0 = w29 := by
    unfold dt_hb
    rw [hw27]
    exact hw29
  have hrt : dt_hb rs 0 ≠ 0 ↔ rs.toNat.testBit 0 = true := dt_hb_1 (k := 0) (by omega) (by omega)
  refine sA_if_ne (tgt := 26) dd_X0_corner_13 (by decide) (by omega) (fun q30 => ?_) (fun q30 => ?_)
  · skip
    refine sA_lconst (z := 0) dd_X0_corner_26 (by decide) ?_
    refine sA_lstore (lv' := [(4, gs_lv 0), (0, .ref 17), (1, gs_iv 0), (2, gs_iv rs), (3, gs_iv cs)]) dd_X0_corner_27 (by decide) rfl ?_
    refine sA_iconst (z := 1) dd_X0_corner_29 ?_
    refine sA_istore (lv' := [(6, gs_iv 1), (4, gs_lv 0), (0, .ref 17), (1, gs_iv 0), (2, gs_iv rs), (3, gs_iv cs)]) dd_X0_corner_30 (by decide) rfl ?_
    refine sA_iconst (z := 0) dd_X0_corner_32 ?_
    refine sA_istore (lv' := [(7, gs_iv 0), (6, gs_iv 1), (4, gs_lv 0), (0, .ref 17), (1, gs_iv 0), (2, gs_iv rs), (3, gs_iv cs)]) dd_X0_corner_33 (by decide) rfl ?_
    refine sA_sub (lv2 := [(7, gs_iv 0), (6, gs_iv 1), (4, gs_lv 0), (0, .ref 17), (1, gs_iv 0), (2, gs_iv rs), (3, gs_iv cs)]) (List.forall_mem_cons.mpr ⟨(.head _), (List.forall_mem_cons.mpr ⟨(.tail _ (.head _)), (List.forall_mem_cons.mpr ⟨(.tail _ (.tail _ (.head _))), (List.forall_mem_cons.mpr ⟨(.tail _ (.tail _ (.tail _ (.head _)))), (List.forall_mem_cons.mpr ⟨(.tail _ (.tail _ (.tail _ (.tail _ (.head _))))), (List.forall_mem_cons.mpr ⟨(.tail _ (.tail _ (.tail _ (.tail _ (.tail _ (.head _)))))), (List.forall_mem_cons.mpr ⟨(.tail _ (.tail _ (.tail _ (.tail _ (.tail _ (.tail _ (.head _))))))), (fun _ h => absurd h List.not_mem_nil)⟩)⟩)⟩)⟩)⟩)⟩)⟩) ?_
    exact (k_X0_corner_v0f hI h1 h2 (6 - 0 : Int).toNat.succ) (Int64.ofInt 0) 1 0  (by omega) (by omega) (by rfl) (by rfl) (hrt.mp (by rw [hrb]; omega)) (by omega)
  · skip
    refine sA_aload_n dd_X0_corner_16 rfl (.head _) ?_
    refine sA_iload_n dd_X0_corner_17 rfl (.tail _ (.head _)) ?_
    refine sA_iconst (z := 1) dd_X0_corner_18 ?_
    refine sA_iadd dd_X0_corner_19 ?_
    show sA _ _ _ _ _ (gs_iv 1 :: _) _ _
    refine sA_iload_n dd_X0_corner_20 rfl (.tail _ (.tail _ (.head _))) ?_
    refine sA_iload_n dd_X0_corner_21 rfl (.tail _ (.tail _ (.tail _ (.head _)))) ?_
    refine sA_callS (y2 := m_X0_corner) (n2 := 4) (d2 := 6) (as := [.ref 17, gs_iv 1, gs_iv rs, gs_iv cs]) (rest := []) dd_X0_corner_22 ok_X0_corner ml_X0_76 rfl rfl (Nat.le_of_ble_eq_true rfl) (by decide) (c_X0_corner_v1f hI (by omega) (by omega)) (fun r31 F32 A33 h34 => ?_)
    obtain ⟨z37, e36, e38, e39, x35⟩ := h34
    subst e36 e38 e39
    have y40 : z37 = Int64.ofInt (dt_1 (dt_T17 A) (dt_up rs.toNat 5) cs.toNat) := x35
    clear x35
    show sA _ _ _ 25 _ [.long z37] _ _
    refine sA_lret dd_X0_corner_25 rfl ?_
    refine ⟨_, rfl, rfl, rfl, ?_⟩
    have hr0 : ¬ rs.toNat.testBit 0 = true := fun w => (hrt.mpr w) (by rw [hrb]; omega)
    have e : dt_up rs.toNat 6 = dt_up rs.toNat 5 := dt_up_0 (j := 5) hr0
    rw [e]
    exact y40
theorem c_J6_bitCount_0f7a4_vf {x : Int} {F A : gs_F} (hx : 0 ≤ x ∧ x < 64) : sC m_J6_bitCount_0f7a4 1 [gs_iv x] F A (fun rv F' A' => ∃ z : Int, rv = some (gs_iv z) ∧ F = F' ∧ A = A' ∧ (z = (dt_c x.toNat 6 : Int) ∧ -2147483648 ≤ z ∧ z ≤ 2147483647)) := by
  refine sC_of ok_J6_bitCount_0f7a4.1 (Nat.le_of_ble_eq_true rfl) ?_
  show sA _ _ _ 0 [(0, gs_iv x)] [] F A
  refine sA_iload_n dd_J6_bitCount_0f7a4_0 rfl (.head _) ?_
  refine sA_iload_n dd_J6_bitCount_0f7a4_1 rfl (.head _) ?_
  refine sA_iconst (z := 1) dd_J6_bitCount_0f7a4_2 ?_
  refine sA_iushr dd_J6_bitCount_0f7a4_3 ?_
  have b1 := gs_t_rng (((Int32.ofInt x).toUInt32 >>> ((Int32.ofInt 1).toUInt32 &&& Int32.toUInt32 31)).toInt32)
  generalize hw2 : gs_t (((Int32.ofInt x).toUInt32 >>> ((Int32.ofInt 1).toUInt32 &&& Int32.toUInt32 31)).toInt32) = w2 at b1 ⊢
  refine sA_ldcw (z := 1431655765) dd_J6_bitCount_0f7a4_4 (ri_lw_in (pl := 690) (by decide +kernel)) ?_
  refine sA_iand dd_J6_bitCount_0f7a4_7 ?_
  have b3 := gs_t_rng (Int32.ofInt w2 &&& Int32.ofInt 1431655765)
  generalize hw4 : gs_t (Int32.ofInt w2 &&& Int32.ofInt 1431655765) = w4 at b3 ⊢
  refine sA_isub dd_J6_bitCount_0f7a4_8 ?_
  refine sA_istore_n (lv' := [(0, gs_iv (x - w4))]) dd_J6_bitCount_0f7a4_9 rfl (by decide) rfl ?_
  refine sA_iload_n dd_J6_bitCount_0f7a4_10 rfl (.head _) ?_
  refine sA_ldcw (z := 858993459) dd_J6_bitCount_0f7a4_11 (ri_lw_in (pl := 691) (by decide +kernel)) ?_
  refine sA_iand dd_J6_bitCount_0f7a4_14 ?_
  have b5 := gs_t_rng (Int32.ofInt (x - w4) &&& Int32.ofInt 858993459)
  generalize hw6 : gs_t (Int32.ofInt (x - w4) &&& Int32.ofInt 858993459) = w6 at b5 ⊢
  refine sA_iload_n dd_J6_bitCount_0f7a4_15 rfl (.head _) ?_
  refine sA_iconst (z := 2) dd_J6_bitCount_0f7a4_16 ?_
  refine sA_iushr dd_J6_bitCount_0f7a4_17 ?_
  have b7 := gs_t_rng (((Int32.ofInt (x - w4)).toUInt32 >>> ((Int32.ofInt 2).toUInt32 &&& Int32.toUInt32 31)).toInt32)
  generalize hw8 : gs_t (((Int32.ofInt (x - w4)).toUInt32 >>> ((Int32.ofInt 2).toUInt32 &&& Int32.toUInt32 31)).toInt32) = w8 at b7 ⊢
  refine sA_ldcw (z := 858993459) dd_J6_bitCount_0f7a4_18 (ri_lw_in (pl := 691) (by decide +kernel)) ?_
  refine sA_iand dd_J6_bitCount_0f7a4_21 ?_
  have b9 := gs_t_rng (Int32.ofInt w8 &&& Int32.ofInt 858993459)
  generalize hw10 : gs_t (Int32.ofInt w8 &&& Int32.ofInt 858993459) = w10 at b9 ⊢
  refine sA_iadd dd_J6_bitCount_0f7a4_22 ?_
  refine sA_istore_n (lv' := [(0, gs_iv (w6 + w10))]) dd_J6_bitCount_0f7a4_23 rfl (by decide) rfl ?_
  refine sA_iload_n dd_J6_bitCount_0f7a4_24 rfl (.head _) ?_
  refine sA_iload_n dd_J6_bitCount_0f7a4_25 rfl (.head _) ?_
  refine sA_iconst (z := 4) dd_J6_bitCount_0f7a4_26 ?_
  refine sA_iushr dd_J6_bitCount_0f7a4_27 ?_
  have b11 := gs_t_rng (((Int32.ofInt (w6 + w10)).toUInt32 >>> ((Int32.ofInt 4).toUInt32 &&& Int32.toUInt32 31)).toInt32)
  generalize hw12 : gs_t (((Int32.ofInt (w6 + w10)).toUInt32 >>> ((Int32.ofInt 4).toUInt32 &&& Int32.toUInt32 31)).toInt32) = w12 at b11 ⊢
  refine sA_iadd dd_J6_bitCount_0f7a4_28 ?_
  refine sA_ldcw (z := 252645135) dd_J6_bitCount_0f7a4_29 (ri_lw_in (pl := 692) (by decide +kernel)) ?_
  refine sA_iand dd_J6_bitCount_0f7a4_32 ?_
  have b13 := gs_t_rng (Int32.ofInt ((w6 + w10) + w12) &&& Int32.ofInt 252645135)
  generalize hw14 : gs_t (Int32.ofInt ((w6 + w10) + w12) &&& Int32.ofInt 252645135) = w14 at b13 ⊢
  refine sA_istore_n (lv' := [(0, gs_iv w14)]) dd_J6_bitCount_0f7a4_33 rfl (by decide) rfl ?_
  refine sA_iload_n dd_J6_bitCount_0f7a4_34 rfl (.head _) ?_
  refine sA_iload_n dd_J6_bitCount_0f7a4_35 rfl (.head _) ?_
  refine sA_bipush (z := 8) dd_J6_bitCount_0f7a4_36 (by decide) ?_
  refine sA_iushr dd_J6_bitCount_0f7a4_38 ?_
  have b15 := gs_t_rng (((Int32.ofInt w14).toUInt32 >>> ((Int32.ofInt 8).toUInt32 &&& Int32.toUInt32 31)).toInt32)
  generalize hw16 : gs_t (((Int32.ofInt w14).toUInt32 >>> ((Int32.ofInt 8).toUInt32 &&& Int32.toUInt32 31)).toInt32) = w16 at b15 ⊢
  refine sA_iadd dd_J6_bitCount_0f7a4_39 ?_
  refine sA_istore_n (lv' := [(0, gs_iv (w14 + w16))]) dd_J6_bitCount_0f7a4_40 rfl (by decide) rfl ?_
  refine sA_iload_n dd_J6_bitCount_0f7a4_41 rfl (.head _) ?_
  refine sA_iload_n dd_J6_bitCount_0f7a4_42 rfl (.head _) ?_
  refine sA_bipush (z := 16) dd_J6_bitCount_0f7a4_43 (by decide) ?_
  refine sA_iushr dd_J6_bitCount_0f7a4_45 ?_
  have b17 := gs_t_rng (((Int32.ofInt (w14 + w16)).toUInt32 >>> ((Int32.ofInt 16).toUInt32 &&& Int32.toUInt32 31)).toInt32)
  generalize hw18 : gs_t (((Int32.ofInt (w14 + w16)).toUInt32 >>> ((Int32.ofInt 16).toUInt32 &&& Int32.toUInt32 31)).toInt32) = w18 at b17 ⊢
  refine sA_iadd dd_J6_bitCount_0f7a4_46 ?_
  refine sA_istore_n (lv' := [(0, gs_iv ((w14 + w16) + w18))]) dd_J6_bitCount_0f7a4_47 rfl (by decide) rfl ?_
  refine sA_iload_n dd_J6_bitCount_0f7a4_48 rfl (.head _) ?_
  refine sA_bipush (z := 63) dd_J6_bitCount_0f7a4_49 (by decide) ?_
  refine sA_iand dd_J6_bitCount_0f7a4_51 ?_
  have b19 := gs_t_rng (Int32.ofInt ((w14 + w16) + w18) &&& Int32.ofInt 63)
  generalize hw20 : gs_t (Int32.ofInt ((w14 + w16) + w18) &&& Int32.ofInt 63) = w20 at b19 ⊢
  refine sA_iret (z := w20) dd_J6_bitCount_0f7a4_52 rfl ?_
  refine ⟨_, rfl, rfl, rfl, ?_⟩
  refine ⟨?_, by omega⟩
  have e1 : dt_b1 x = x - w4 := by
    unfold dt_b1 dt_us dt_an
    rw [hw2, hw4]
  have e2 : dt_b2 (x - w4) = w6 + w10 := by
    unfold dt_b2 dt_us dt_an
    rw [hw6, hw8, hw10]
  have e3 : dt_b3 (w6 + w10) = w14 := by
    unfold dt_b3 dt_us dt_an
    rw [hw12, hw14]
  have e4 : dt_b4 w14 = w14 + w16 := by
    unfold dt_b4 dt_us
    rw [hw16]
  have e5 : dt_b5 (w14 + w16) = w20 := by
    unfold dt_b5 dt_us dt_an
    rw [hw18, hw20]
  have h := dt_bc hx
  rw [e1, e2, e3, e4, e5] at h
  exact h
theorem k_X0_cornerSum_vf {k : Int} {F A : gs_F} (hI : gs_I F A) (hk : -2147483648 ≤ k ∧ k ≤ 2147483647) : ∀ nN : Nat, (∀ (x : Int)  (F1 A1 : gs_F), gs_I F1 A1 → gs_fr (fun _ _ => False) (fun c => c = 17) F A F1 A1 → 0 ≤ x ∧ x ≤ 6 → F1 15 1 = F 15 1 → (∀ i j : Nat, (i : Int) < x → (j : Int) < F 15 1 → A1 17 (6 * i + j) = dt_bal ((j : Int) + 1) (gs_ic F A i)) → (6 - x) * 10 + 101 < (nN : Int) → sA m_X0_cornerSum 8 (fun rv F' A' => ∃ z : Int64, rv = some (.long z) ∧ gs_I F' A' ∧ gs_fr (fun _ _ => False) (fun c => c = 17) F A F' A' ∧ (z = Int64.ofInt (gs_sum (dt_ch (dt_T8 F A) k) (2 ^ (F 15 1).toNat)))) 2 [(2, gs_iv x), (0, .ref 15), (1, gs_iv k)] [] F1 A1) ∧ (∀ (x : Int) (y : Int)  (F1 A1 : gs_F), gs_I F1 A1 → gs_fr (fun _ _ => False) (fun c => c = 17) F A F1 A1 → 0 ≤ x ∧ x < 6 → 0 ≤ y ∧ y ≤ 6 → x < F1 15 1 → F1 15 1 = F 15 1 → (∀ i j : Nat, ((i : Int) < x ∨ ((i : Int) = x ∧ (j : Int) < y)) → (j : Int) < F 15 1 → A1 17 (6 * i + j) = dt_bal ((j : Int) + 1) (gs_ic F A i)) → (6 - x) * 10 - y + 100 < (nN : Int) → sA m_X0_cornerSum 8 (fun rv F' A' => ∃ z : Int64, rv = some (.long z) ∧ gs_I F' A' ∧ gs_fr (fun _ _ => False) (fun c => c = 17) F A F' A' ∧ (z = Int64.ofInt (gs_sum (dt_ch (dt_T8 F A) k) (2 ^ (F 15 1).toNat)))) 12 [(3, gs_iv y), (2, gs_iv x), (0, .ref 15), (1, gs_iv k)] [] F1 A1) ∧ (∀ (s : Int64) (e : Int)  (F1 A1 : gs_F), gs_I F1 A1 → gs_fr (fun _ _ => False) (fun c => c = 17) F A F1 A1 → 0 ≤ e ∧ e ≤ 64 → F1 15 1 = F 15 1 → (∀ i j : Nat, (i : Int) < F 15 1 → (j : Int) < F 15 1 → A1 17 (6 * i + j) = dt_bal ((j : Int) + 1) (gs_ic F A i)) → s = Int64.ofInt (gs_sum (dt_ch (dt_T8 F A) k) e.toNat) → e ≤ ((2 ^ (F 15 1).toNat : Nat) : Int) → 64 - e < (nN : Int) → sA m_X0_cornerSum 8 (fun rv F' A' => ∃ z : Int64, rv = some (.long z) ∧ gs_I F' A' ∧ gs_fr (fun _ _ => False) (fun c => c = 17) F A F' A' ∧ (z = Int64.ofInt (gs_sum (dt_ch (dt_T8 F A) k) (2 ^ (F 15 1).toNat)))) 60 [(4, gs_iv e), (2, .long s), (0, .ref 15), (1, gs_iv k)] [] F1 A1) := by
  intro nN
  induction nN with
  | zero =>
    exact ⟨fun a0 a1 a2 a3 a4 i0 i1 i2 hm => by exfalso; omega, fun a0 a1 a2 a3 a4 a5 i0 i1 i2 i3 i4 hm => by exfalso; omega, fun a0 a1 a2 a3 a4 a5 i0 i1 i2 i3 i4 hm => by exfalso; omega⟩
  | succ nN ih =>
    refine ⟨?_, ?_, ?_⟩
    · skip
      intro x F1 A1 hI1 hf1 i0 i1 i2 hm
      have b1 : (0 : Int) ≤ F1 15 1 ∧ F1 15 1 ≤ 6 := hI1.1 15 1
      have u2 : A1 17 = A1 17 := rfl
      have hb15 : (0 : Int) ≤ F 15 1 ∧ F 15 1 ≤ 6 := hI.1 15 1
      refine sA_iload_n dd_X0_cornerSum_2 rfl (.head _) ?_
      refine sA_aload_n dd_X0_cornerSum_3 rfl (.tail _ (.head _)) ?_
      refine sA_geti (ci := 0) (j := 1) (q := (RX0, TX0, 4)) dd_X0_cornerSum_4 rfl (by decide) fl_X0_28 (by decide) gs_s15 rfl ?_
      refine sA_icmp_ge (tgt := 55) dd_X0_cornerSum_7 (by decide) (by omega) (by omega) (fun q3 => ?_) (fun q3 => ?_)
      · skip
        refine sA_lconst (z := 0) dd_X0_cornerSum_55 (by decide) ?_
        refine sA_lstore_n (lv' := [(2, gs_lv 0), (0, .ref 15), (1, gs_iv k)]) dd_X0_cornerSum_56 rfl (by decide) rfl ?_
        have hpos : (0 : Int) < ((2 ^ (F 15 1).toNat : Nat) : Int) := Int.ofNat_lt.mpr (Nat.two_pow_pos _)
        refine sA_iconst (z := 0) dd_X0_cornerSum_57 ?_
        refine sA_istore (lv' := [(4, gs_iv 0), (2, gs_lv 0), (0, .ref 15), (1, gs_iv k)]) dd_X0_cornerSum_58 (by decide) rfl ?_
        refine sA_sub (lv2 := [(4, gs_iv 0), (2, gs_lv 0), (0, .ref 15), (1, gs_iv k)]) (List.forall_mem_cons.mpr ⟨(.head _), (List.forall_mem_cons.mpr ⟨(.tail _ (.head _)), (List.forall_mem_cons.mpr ⟨(.tail _ (.tail _ (.head _))), (List.forall_mem_cons.mpr ⟨(.tail _ (.tail _ (.tail _ (.head _)))), (fun _ h => absurd h List.not_mem_nil)⟩)⟩)⟩)⟩) ?_
        exact ih.2.2 (Int64.ofInt 0) 0 F1 A1 hI1 hf1 (by omega) (by omega) (fun i j h1 h2 => i2 i j (by omega) h2) (by rfl) (by omega) (by omega)
      · skip
        refine sA_iconst (z := 0) dd_X0_cornerSum_10 ?_
        refine sA_istore_n (lv' := [(3, gs_iv 0), (2, gs_iv x), (0, .ref 15), (1, gs_iv k)]) dd_X0_cornerSum_11 rfl (by decide) rfl ?_
        refine sA_sub (lv2 := [(3, gs_iv 0), (2, gs_iv x), (0, .ref 15), (1, gs_iv k)]) (List.forall_mem_cons.mpr ⟨(.head _), (List.forall_mem_cons.mpr ⟨(.tail _ (.head _)), (List.forall_mem_cons.mpr ⟨(.tail _ (.tail _ (.head _))), (List.forall_mem_cons.mpr ⟨(.tail _ (.tail _ (.tail _ (.head _)))), (fun _ h => absurd h List.not_mem_nil)⟩)⟩)⟩)⟩) ?_
        exact ih.2.1 x 0 F1 A1 hI1 hf1 (by omega) (by omega) (by omega) (by omega) (fun i j h1 h2 => i2 i j (by omega) h2) (by omega)
    · skip
      intro x y F1 A1 hI1 hf1 i0 i1 i2 i3 i4 hm
      have b4 : (0 : Int) ≤ F1 15 1 ∧ F1 15 1 ≤ 6 := hI1.1 15 1
      have u5 : A1 17 = A1 17 := rfl
      have hb15 : (0 : Int) ≤ F 15 1 ∧ F 15 1 ≤ 6 := hI.1 15 1
      refine sA_iload_n dd_X0_cornerSum_12 rfl (.head _) ?_
      refine sA_aload_n dd_X0_cornerSum_13 rfl (.tail _ (.tail _ (.head _))) ?_
      refine sA_geti (ci := 0) (j := 1) (q := (RX0, TX0, 4)) dd_X0_cornerSum_14 rfl (by decide) fl_X0_28 (by decide) gs_s15 rfl ?_
      refine sA_icmp_ge (tgt := 49) dd_X0_cornerSum_17 (by decide) (by omega) (by omega) (fun q6 => ?_) (fun q6 => ?_)
      · skip
        refine sA_iinc (lv' := [(2, gs_iv (x + 1)), (3, gs_iv y), (0, .ref 15), (1, gs_iv k)]) dd_X0_cornerSum_49 (.tail _ (.head _)) (by decide) rfl ?_
        refine sA_goto (tgt := 2) dd_X0_cornerSum_52 (by decide) ?_
        refine sA_sub (lv2 := [(2, gs_iv (x + 1)), (0, .ref 15), (1, gs_iv k)]) (List.forall_mem_cons.mpr ⟨(.head _), (List.forall_mem_cons.mpr ⟨(.tail _ (.tail _ (.head _))), (List.forall_mem_cons.mpr ⟨(.tail _ (.tail _ (.tail _ (.head _)))), (fun _ h => absurd h List.not_mem_nil)⟩)⟩)⟩) ?_
        exact ih.1 (x + 1) F1 A1 hI1 hf1 (by omega) (by omega) (fun i j h1 h2 => i4 i j (by omega) h2) (by omega)
      · skip
        refine sA_aload_n dd_X0_cornerSum_20 rfl (.tail _ (.tail _ (.head _))) ?_
        refine sA_getr (ci := 0) (j := 2) (q := (RX0, TX0, 4)) dd_X0_cornerSum_21 rfl (by decide) fl_X0_17 (by decide) gs_s15 rfl ?_
        refine sA_iload_n dd_X0_cornerSum_24 rfl (.tail _ (.head _)) ?_
        refine sA_bipush (z := 6) dd_X0_cornerSum_25 (by decide) ?_
        refine sA_imul dd_X0_cornerSum_27 ?_
        refine sA_iload_n dd_X0_cornerSum_28 rfl (.head _) ?_
        refine sA_iadd dd_X0_cornerSum_29 ?_
        refine sA_aload_n dd_X0_cornerSum_30 rfl (.tail _ (.tail _ (.head _))) ?_
        refine sA_getr (ci := 0) (j := 0) (q := (RX0, TX0, 4)) dd_X0_cornerSum_31 rfl (by decide) fl_X0_11 (by decide) gs_s15 rfl ?_
        refine sA_iload_n dd_X0_cornerSum_34 rfl (.tail _ (.head _)) ?_
        refine sA_aald (n := 6) dd_X0_cornerSum_35 (by decide) (by decide) (by decide) gs_s16 (by omega) (by decide) ?_
        have g7 := gs_row_im (k := x.toNat) (by omega)
        refine sA_iload_n dd_X0_cornerSum_36 rfl (.head _) ?_
        refine sA_iconst (z := 1) dd_X0_cornerSum_37 ?_
        refine sA_iadd dd_X0_cornerSum_38 ?_
        have hic : ∀ ii : Nat, ii < 6 → gs_ic F1 A1 ii = gs_ic F A ii := fun ii hi => gs_ic_fr hi (fun c h1 h2 => hf1.1 c 1 (fun w => w)) (fun c h1 h2 => hf1.2 c (by dsimp only; omega))
        refine sA_callV (y2 := m_X4_balanceOf) (n2 := 1) (d2 := 1) (a := (18 + 2 * x.toNat)) (ci := 4) (q := (RX4, TX4, 2)) (as := [gs_iv (y + 1)]) (rest := [gs_iv ((x * 6) + y), .ref 17]) dd_X0_cornerSum_39 ok_X4_balanceOf ml_X0_68 rfl rfl (Nat.lt_of_succ_lt g7.1) g7.2.1 rfl rfl (Nat.le_of_ble_eq_true rfl) (by decide) (c_X4_balanceOf_vf hI1 g7 (by omega)) (fun r8 F9 A10 h11 => ?_)
        obtain ⟨z14, e13, e15, e16, x12⟩ := h11
        subst e13 e15 e16
        have y17 : (-400 ≤ z14 ∧ z14 ≤ 400) ∧ z14 = dt_bal (y + 1) (gs_stk (A1 ((18 + 2 * x.toNat) + 1)) (F1 (18 + 2 * x.toNat) 1).toNat) := x12
        clear x12
        show sA _ _ _ 42 _ [gs_iv z14, gs_iv ((x * 6) + y), .ref 17] _ _
        refine sA_iast (n := 36) dd_X0_cornerSum_42 (by decide) gs_s17 (by omega) (by decide) ?_
        have I19 : gs_I F1 (gs_up A1 17 (((x * 6) + y).toNat) z14) := gs_I_ast hI1 (show (-2147483648 : Int) ≤ z14 ∧ z14 ≤ 2147483647 by omega)
        have f20 := gs_fr_ast hf1 (a := 17) (z := z14) (i := ((x * 6) + y).toNat) (by first | omega | (dsimp only; omega) | (dsimp only) | fail)
        have u21 : (gs_up A1 17 (((x * 6) + y).toNat) z14) 17 = gs_u (A1 17) (((x * 6) + y).toNat) z14 := (gs_up_u A1 17 (((x * 6) + y).toNat) z14).trans (congrArg (fun f => gs_u f (((x * 6) + y).toNat) z14) u5)
        generalize gs_up A1 17 (((x * 6) + y).toNat) z14 = A18 at I19 f20 u21 ⊢
        refine sA_iinc (lv' := [(3, gs_iv (y + 1)), (2, gs_iv x), (0, .ref 15), (1, gs_iv k)]) dd_X0_cornerSum_43 (.head _) (by decide) rfl ?_
        refine sA_goto (tgt := 12) dd_X0_cornerSum_46 (by decide) ?_
        refine sA_sub (lv2 := [(3, gs_iv (y + 1)), (2, gs_iv x), (0, .ref 15), (1, gs_iv k)]) (List.forall_mem_cons.mpr ⟨(.head _), (List.forall_mem_cons.mpr ⟨(.tail _ (.head _)), (List.forall_mem_cons.mpr ⟨(.tail _ (.tail _ (.head _))), (List.forall_mem_cons.mpr ⟨(.tail _ (.tail _ (.tail _ (.head _)))), (fun _ h => absurd h List.not_mem_nil)⟩)⟩)⟩)⟩) ?_
        exact ih.2.1 x (y + 1) F1 A18 I19 f20 (by omega) (by omega) (by omega) (by omega) (fun i j h1 h2 => by rw [u21]; by_cases h : (i : Int) = x ∧ (j : Int) = y <;> first | (rw [show 6 * i + j = (x * 6 + y).toNat by omega, gs_u_self, y17.2, show (j : Int) + 1 = y + 1 by omega, show i = x.toNat by omega, ← hic x.toNat (by omega)]; rfl) | (rw [gs_u_ne _ _ (by omega)]; exact i4 i j (by omega) h2) | fail) (by omega)
    · skip
      intro s e F1 A1 hI1 hf1 i0 i1 i2 i3 i4 hm
      have b22 : (0 : Int) ≤ F1 15 1 ∧ F1 15 1 ≤ 6 := hI1.1 15 1
      have u23 : A1 17 = A1 17 := rfl
      have hb15 : (0 : Int) ≤ F 15 1 ∧ F 15 1 ≤ 6 := hI.1 15 1
      have hp6 := dt_p6 (L := (F 15 1).toNat) (by omega)
      have hpos : (0 : Int) < ((2 ^ (F 15 1).toNat : Nat) : Int) := Int.ofNat_lt.mpr (Nat.two_pow_pos _)
      refine sA_iload dd_X0_cornerSum_60 (.head _) ?_
      refine sA_iconst (z := 1) dd_X0_cornerSum_62 ?_
      refine sA_aload_n dd_X0_cornerSum_63 rfl (.tail _ (.tail _ (.head _))) ?_
      refine sA_geti (ci := 0) (j := 1) (q := (RX0, TX0, 4)) dd_X0_cornerSum_64 rfl (by decide) fl_X0_28 (by decide) gs_s15 rfl ?_
      refine sA_ishl dd_X0_cornerSum_67 ?_
      have b24 := gs_t_rng (Int32.ofInt 1 <<< (Int32.ofInt (F1 15 1) &&& 31))
      have b26 := gs_shl1 (x := (F1 15 1)) (by omega)
      generalize hw25 : gs_t (Int32.ofInt 1 <<< (Int32.ofInt (F1 15 1) &&& 31)) = w25 at b24 b26 ⊢
      have h67 : w25 = ((2 ^ (F 15 1).toNat : Nat) : Int) := by
        have h := dt_h1_at (k := F 15 1) (by omega)
        unfold dt_h1 at h
        rw [← h, ← i1]
        exact hw25.symm
      refine sA_icmp_ge (tgt := 101) dd_X0_cornerSum_68 (by decide) (by omega) (by omega) (fun q27 => ?_) (fun q27 => ?_)
      · skip
        refine sA_lload_n dd_X0_cornerSum_101 rfl (.tail _ (.head _)) ?_
        refine sA_lret dd_X0_cornerSum_102 rfl ?_
        refine ⟨_, rfl, hI1, hf1, ?_⟩
        rw [i3, show e.toNat = 2 ^ (F 15 1).toNat by omega]
      · skip
        refine sA_iload dd_X0_cornerSum_71 (.head _) ?_
        refine sA_callS (y2 := m_J6_bitCount_0f7a4) (n2 := 1) (d2 := 1) (as := [gs_iv e]) (rest := []) dd_X0_cornerSum_73 ok_J6_bitCount_0f7a4 ml_X0_71 rfl rfl (Nat.le_of_ble_eq_true rfl) (by decide) (c_J6_bitCount_0f7a4_vf (by omega)) (fun r28 F29 A30 h31 => ?_)
        obtain ⟨z34, e33, e35, e36, x32⟩ := h31
        subst e33 e35 e36
        have y37 : z34 = (dt_c e.toNat 6 : Int) ∧ -2147483648 ≤ z34 ∧ z34 ≤ 2147483647 := x32
        clear x32
        show sA _ _ _ 76 _ [gs_iv z34] _ _
        refine sA_iload_n dd_X0_cornerSum_76 rfl (.tail _ (.tail _ (.tail _ (.head _)))) ?_
        refine sA_icmp_ne (tgt := 95) dd_X0_cornerSum_77 (by decide) (by omega) (by omega) (fun q38 => ?_) (fun q38 => ?_)
        · skip
          refine sA_iinc (lv' := [(4, gs_iv (e + 1)), (2, .long s), (0, .ref 15), (1, gs_iv k)]) dd_X0_cornerSum_95 (.head _) (by decide) rfl ?_
          refine sA_goto (tgt := 60) dd_X0_cornerSum_98 (by decide) ?_
          refine sA_sub (lv2 := [(4, gs_iv (e + 1)), (2, .long s), (0, .ref 15), (1, gs_iv k)]) (List.forall_mem_cons.mpr ⟨(.head _), (List.forall_mem_cons.mpr ⟨(.tail _ (.head _)), (List.forall_mem_cons.mpr ⟨(.tail _ (.tail _ (.head _))), (List.forall_mem_cons.mpr ⟨(.tail _ (.tail _ (.tail _ (.head _)))), (fun _ h => absurd h List.not_mem_nil)⟩)⟩)⟩)⟩) ?_
          exact ih.2.2 s (e + 1) F1 A1 hI1 hf1 (by omega) (by omega) i2 (by rw [show (e + 1).toNat = e.toNat + 1 by omega]; exact dt_keep i3 (if_neg (by have w := y37.1; omega))) (by omega) (by omega)
        · skip
          refine sA_lload_n dd_X0_cornerSum_80 rfl (.tail _ (.head _)) ?_
          refine sA_aload_n dd_X0_cornerSum_81 rfl (.tail _ (.tail _ (.head _))) ?_
          refine sA_getr (ci := 0) (j := 2) (q := (RX0, TX0, 4)) dd_X0_cornerSum_82 rfl (by decide) fl_X0_17 (by decide) gs_s15 rfl ?_
          refine sA_iconst (z := 0) dd_X0_cornerSum_85 ?_
          refine sA_iload dd_X0_cornerSum_86 (.head _) ?_
          refine sA_iload dd_X0_cornerSum_88 (.head _) ?_
          have hTT : ∀ x y : Nat, x < (F 15 1).toNat → y < (F 15 1).toNat → dt_T17 A1 x y = dt_T8 F A x y := fun x y h1 h2 => i2 x y (by omega) (by omega)
          refine sA_callS (y2 := m_X0_corner) (n2 := 4) (d2 := 7) (as := [.ref 17, gs_iv 0, gs_iv e, gs_iv e]) (rest := [.long s]) dd_X0_cornerSum_90 ok_X0_corner ml_X0_76 rfl rfl (Nat.le_of_ble_eq_true rfl) (by decide) (c_X0_corner_v0f hI1 (by omega) (by omega)) (fun r39 F40 A41 h42 => ?_)
          obtain ⟨z45, e44, e46, e47, x43⟩ := h42
          subst e44 e46 e47
          have y48 : z45 = Int64.ofInt (dt_1 (dt_T17 A1) (dt_up e.toNat 6) e.toNat) := x43
          clear x43
          show sA _ _ _ 93 _ [.long z45, .long s] _ _
          refine sA_laddR dd_X0_cornerSum_93 ?_
          refine sA_lstore_n (lv' := [(2, .long (s + z45)), (4, gs_iv e), (0, .ref 15), (1, gs_iv k)]) dd_X0_cornerSum_94 rfl (by decide) rfl ?_
          refine sA_iinc (lv' := [(4, gs_iv (e + 1)), (2, .long (s + z45)), (0, .ref 15), (1, gs_iv k)]) dd_X0_cornerSum_95 (.tail _ (.head _)) (by decide) rfl ?_
          refine sA_goto (tgt := 60) dd_X0_cornerSum_98 (by decide) ?_
          refine sA_sub (lv2 := [(4, gs_iv (e + 1)), (2, .long (s + z45)), (0, .ref 15), (1, gs_iv k)]) (List.forall_mem_cons.mpr ⟨(.head _), (List.forall_mem_cons.mpr ⟨(.tail _ (.head _)), (List.forall_mem_cons.mpr ⟨(.tail _ (.tail _ (.head _))), (List.forall_mem_cons.mpr ⟨(.tail _ (.tail _ (.tail _ (.head _)))), (fun _ h => absurd h List.not_mem_nil)⟩)⟩)⟩)⟩) ?_
          exact ih.2.2 (s + z45) (e + 1) F1 A1 hI1 hf1 (by omega) (by omega) i2 (by rw [show (e + 1).toNat = e.toNat + 1 by omega]; exact dt_step i3 (d := dt_1 (dt_T17 A1) (dt_up e.toNat 6) e.toNat) y48 (by show (if (dt_c e.toNat 6 : Int) = k then dt_1 (dt_T8 F A) (dt_up e.toNat 6) e.toNat else 0) = _; rw [if_pos (by have w := y37.1; omega)]; exact (dt_1_N (L := (F 15 1).toNat) (by omega) (by omega) hTT).symm)) (by omega) (by omega)
theorem c_X0_cornerSum_vf {k : Int} {F A : gs_F} (hI : gs_I F A) (hk : -2147483648 ≤ k ∧ k ≤ 2147483647) : sC m_X0_cornerSum 8 [.ref 15, gs_iv k] F A (fun rv F' A' => ∃ z : Int64, rv = some (.long z) ∧ gs_I F' A' ∧ gs_fr (fun _ _ => False) (fun c => c = 17) F A F' A' ∧ (z = Int64.ofInt (gs_sum (dt_ch (dt_T8 F A) k) (2 ^ (F 15 1).toNat)))) := by
  refine sC_of ok_X0_cornerSum.1 (Nat.le_of_ble_eq_true rfl) ?_
  show sA _ _ _ 0 [(0, .ref 15), (1, gs_iv k)] [] F A
  have hf : gs_fr (fun _ _ => False) (fun c => c = 17) F A F A := gs_fr_refl _ _ _ _
  have b49 : (0 : Int) ≤ F 15 1 ∧ F 15 1 ≤ 6 := hI.1 15 1
  have u50 : A 17 = A 17 := rfl
  have hb15 : (0 : Int) ≤ F 15 1 ∧ F 15 1 ≤ 6 := hI.1 15 1
  refine sA_iconst (z := 0) dd_X0_cornerSum_0 ?_
  refine sA_istore_n (lv' := [(2, gs_iv 0), (0, .ref 15), (1, gs_iv k)]) dd_X0_cornerSum_1 rfl (by decide) rfl ?_
  refine sA_sub (lv2 := [(2, gs_iv 0), (0, .ref 15), (1, gs_iv k)]) (List.forall_mem_cons.mpr ⟨(.head _), (List.forall_mem_cons.mpr ⟨(.tail _ (.head _)), (List.forall_mem_cons.mpr ⟨(.tail _ (.tail _ (.head _))), (fun _ h => absurd h List.not_mem_nil)⟩)⟩)⟩) ?_
  exact (k_X0_cornerSum_vf hI hk ((6 - 0) * 10 + 101 : Int).toNat.succ).1 0 F A hI hf (by omega) (by omega) (fun i j h1 h2 => by exfalso; omega) (by omega)
theorem c_X8_character_vf {p k : Int} {F A : gs_F} (hI : gs_I F A) (hp : -2147483648 ≤ p ∧ p ≤ 2147483647) (hk : -2147483648 ≤ k ∧ k ≤ 2147483647) (hW : gs_W (A 6) (F 0 11)) (hcd : 0 ≤ p → p ≤ 7 → ∀ i : Int, 0 ≤ i → i < F (90 + 2 * p.toNat) 1 → 0 ≤ A (90 + 2 * p.toNat + 1) i.toNat ∧ A (90 + 2 * p.toNat + 1) i.toNat < 6 * F 0 11 - 2) : sC m_X8_character 9 [.ref 0, gs_iv p, gs_iv k] F A (fun rv F' A' => ∃ z : Int64, rv = some (.long z) ∧ gs_I F' A' ∧ gs_fr (fun c j => (c = 15 ∧ j = 1) ∨ (18 ≤ c ∧ c < 30 ∧ j = 1)) (fun c => c = 7 ∨ (18 ≤ c ∧ c < 30) ∨ c = 17) F A F' A' ∧ (((p < 0 ∨ 7 < p) ∧ z = Int64.ofInt (-1001)) ∨ (0 ≤ p ∧ p ≤ 7 ∧ (k < 0 ∨ 2 * F 0 11 < k) ∧ z = Int64.ofInt (-1002)) ∨ (0 ≤ p ∧ p ≤ 7 ∧ 0 ≤ k ∧ k ≤ 2 * F 0 11 ∧ (((∃ ii : Nat, (ii : Int) < 2 * F 0 11 ∧ (gs_plc F A (F 0 11) (90 + 2 * p.toNat)) [(ii : Int) + 1] = none) ∧ z = Int64.ofInt (-1005)) ∨ (∃ im : Nat → List Int, (∀ ii : Nat, (ii : Int) < 2 * F 0 11 → (gs_plc F A (F 0 11) (90 + 2 * p.toNat)) [(ii : Int) + 1] = some (im ii)) ∧ z = Int64.ofInt (gs_sum (dt_ch (fun x y => dt_bal ((y : Int) + 1) (im x)) k) (2 ^ (2 * F 0 11).toNat))))))) := by
  refine sC_of ok_X8_character.1 (Nat.le_of_ble_eq_true rfl) ?_
  show sA _ _ _ 0 [(0, .ref 0), (1, gs_iv p), (2, gs_iv k)] [] F A
  have hf : gs_fr (fun c j => (c = 15 ∧ j = 1) ∨ (18 ≤ c ∧ c < 30 ∧ j = 1)) (fun c => c = 7 ∨ (18 ≤ c ∧ c < 30) ∨ c = 17) F A F A := gs_fr_refl _ _ _ _
  have b1 : (0 : Int) ≤ F 15 1 ∧ F 15 1 ≤ 6 := hI.1 15 1
  have hg : (1 : Int) ≤ F 0 11 ∧ F 0 11 ≤ 3 := hI.1 0 11
  refine sA_iload_n dd_X8_character_0 rfl (.tail _ (.head _)) ?_
  refine sA_callS (y2 := m_X8_isPlan) (n2 := 1) (d2 := 1) (as := [gs_iv p]) (rest := []) dd_X8_character_1 ok_X8_isPlan ml_X8_148 rfl rfl (Nat.le_of_ble_eq_true rfl) (by decide) (c_X8_isPlan (by omega)) (fun r2 F3 A4 h5 => ?_)
  obtain ⟨z8, e7, e9, e10, x6⟩ := h5
  subst e7 e9 e10
  show sA _ _ _ 4 _ [gs_iv z8] _ _
  refine sA_if_ne (tgt := 11) dd_X8_character_4 (by decide) (by omega) (fun q11 => ?_) (fun q11 => ?_)
  · skip
    refine sA_iload_n dd_X8_character_11 rfl (.tail _ (.tail _ (.head _))) ?_
    refine sA_if_lt (tgt := 25) dd_X8_character_12 (by decide) (by omega) (fun q12 => ?_) (fun q12 => ?_)
    · skip
      refine sA_ldc2 (z := -1002) dd_X8_character_25 (ri_lw_in (pl := 681) (by decide +kernel)) ?_
      refine sA_lret dd_X8_character_28 rfl ?_
      refine ⟨_, rfl, hI, hf, ?_⟩
      exact .inr (.inl ⟨by omega, by omega, by omega, rfl⟩)
    · skip
      refine sA_iload_n dd_X8_character_15 rfl (.tail _ (.tail _ (.head _))) ?_
      refine sA_iconst (z := 2) dd_X8_character_16 ?_
      refine sA_aload_n dd_X8_character_17 rfl (.head _) ?_
      refine sA_geti (ci := 8) (j := 11) (q := (RX8, TX8, 13)) dd_X8_character_18 rfl (by decide) fl_X8_84 (by decide) gs_s0 rfl ?_
      have b13 : (1 : Int) ≤ F 0 11 ∧ F 0 11 ≤ 3 := hI.1 0 11
      refine sA_imul dd_X8_character_21 ?_
      refine sA_icmp_le (tgt := 29) dd_X8_character_22 (by decide) (by omega) (by omega) (fun q14 => ?_) (fun q14 => ?_)
      · skip
        refine sA_aload_n dd_X8_character_29 rfl (.head _) ?_
        refine sA_getr (ci := 8) (j := 5) (q := (RX8, TX8, 13)) dd_X8_character_30 rfl (by decide) fl_X8_49 (by decide) gs_s0 rfl ?_
        refine sA_aload_n dd_X8_character_33 rfl (.head _) ?_
        refine sA_geti (ci := 8) (j := 11) (q := (RX8, TX8, 13)) dd_X8_character_34 rfl (by decide) fl_X8_84 (by decide) gs_s0 rfl ?_
        refine sA_callV (y2 := m_X0_begin) (n2 := 1) (d2 := 2) (a := 15) (ci := 0) (q := (RX0, TX0, 4)) (as := [gs_iv (F 0 11)]) (rest := []) dd_X8_character_37 ok_X0_begin ml_X8_193 rfl rfl (by decide) gs_s15 rfl rfl (Nat.le_of_ble_eq_true rfl) (by decide) (c_X0_begin_vf hI (by omega)) (fun r15 F16 A17 h18 => ?_)
        obtain ⟨e20, I21, f22, x19⟩ := h18
        subst e20
        have f24 := gs_fr_tr hf f22 (fun b j h => by first | exact False.elim h | omega | (dsimp only at h ⊢; omega) | fail) (fun b h => by first | exact False.elim h | omega | (dsimp only at h ⊢; omega) | fail)
        have y25 : F16 15 1 = 2 * (F 0 11) ∧ ∀ ii : Nat, (ii : Int) < 2 * (F 0 11) → gs_ic F16 A17 ii = [(ii : Int) + 1] := x19
        clear x19
        show sA _ _ _ 40 _ [] _ _
        have y37a := y25.1
        refine sA_aload_n dd_X8_character_40 rfl (.head _) ?_
        refine sA_getr (ci := 8) (j := 5) (q := (RX8, TX8, 13)) dd_X8_character_41 rfl (by decide) fl_X8_49 (by decide) gs_s0 rfl ?_
        refine sA_aload_n dd_X8_character_44 rfl (.head _) ?_
        refine sA_getr (ci := 8) (j := 1) (q := (RX8, TX8, 13)) dd_X8_character_45 rfl (by decide) fl_X8_17 (by decide) gs_s0 rfl ?_
        refine sA_iload_n dd_X8_character_48 rfl (.tail _ (.head _)) ?_
        refine sA_aald (n := 8) dd_X8_character_49 (by decide) (by decide) (by decide) gs_s2 (by omega) (by decide) ?_
        have g26 := gs_plan_at (k := p.toNat) (by omega)
        have hp1 : A17 (90 + 2 * p.toNat + 1) = A (90 + 2 * p.toNat + 1) := f24.2 (90 + 2 * p.toNat + 1) (by dsimp only; omega)
        have hpn : F16 (90 + 2 * p.toNat) 1 = F (90 + 2 * p.toNat) 1 := f24.1 (90 + 2 * p.toNat) 1 (by dsimp only; omega)
        have hW1 : gs_W (A17 6) (F 0 11) := by rw [f24.2 6 (by dsimp only; omega)]; exact hW
        have hcd1 : ∀ i : Int, 0 ≤ i → i < F16 (90 + 2 * p.toNat) 1 → 0 ≤ A17 (90 + 2 * p.toNat + 1) i.toNat ∧ A17 (90 + 2 * p.toNat + 1) i.toNat < 6 * F 0 11 - 2 := by rw [hp1, hpn]; exact (hcd (by omega) (by omega))
        have y8a := y25.1
        have hVI1 : ∀ ii : Nat, (ii : Int) < F16 15 1 → sp_val (F 0 11) (gs_ic F16 A17 ii) := fun ii hi => by
          rw [y25.2 ii (by omega)]
          exact gs_val1 (by omega)
        have hPe : ∀ r, gs_plc F16 A17 (F 0 11) (90 + 2 * p.toNat) r = gs_plc F A (F 0 11) (90 + 2 * p.toNat) r := fun r => by
          unfold gs_plc
          rw [hp1, hpn]
        refine sA_callV (y2 := m_X0_doPlan) (n2 := 1) (d2 := 4) (a := 15) (ci := 0) (q := (RX0, TX0, 4)) (as := [.ref (90 + 2 * p.toNat)]) (rest := []) dd_X8_character_50 ok_X0_doPlan ml_X8_196 rfl rfl (by decide) gs_s15 rfl rfl (Nat.le_of_ble_eq_true rfl) (by decide) (c_X0_doPlan_vf I21 g26 hg hcd1 hW1 hVI1 (by omega)) (fun r27 F28 A29 h30 => ?_)
        obtain ⟨z33, e32, I34, f35, x31⟩ := h30
        subst e32
        have v36 : F28 15 1 = F16 15 1 := f35.1 15 1 (by first | exact id | omega | (dsimp only; omega) | (dsimp only) | fail)
        have f37 := gs_fr_tr f24 f35 (fun b j h => by first | exact False.elim h | omega | (dsimp only at h ⊢; omega) | fail) (fun b h => by first | exact False.elim h | omega | (dsimp only at h ⊢; omega) | fail)
        have y38 : (z33 = 1 ∧ ∀ ii : Nat, (ii : Int) < F16 15 1 → gs_plc F16 A17 (F 0 11) (90 + 2 * p.toNat) (gs_ic F16 A17 ii) = some (gs_ic F28 A29 ii)) ∨ (z33 = 0 ∧ ∃ ii : Nat, (ii : Int) < F16 15 1 ∧ gs_plc F16 A17 (F 0 11) (90 + 2 * p.toNat) (gs_ic F16 A17 ii) = none) := x31
        clear x31
        show sA _ _ _ 53 _ [gs_iv z33] _ _
        refine sA_if_eq (tgt := 67) dd_X8_character_53 (by decide) (by omega) (fun q39 => ?_) (fun q39 => ?_)
        · skip
          refine sA_ldc2 (z := -1005) dd_X8_character_67 (ri_lw_in (pl := 696) (by decide +kernel)) ?_
          refine sA_lret dd_X8_character_70 rfl ?_
          refine ⟨_, rfl, I34, f37, ?_⟩
          rcases y38 with y | y
          · exfalso
            omega
          · obtain ⟨y1, ii, hi, y2⟩ := y
            rw [hPe, y25.2 ii (by omega)] at y2
            exact .inr (.inr ⟨by omega, by omega, by omega, by omega, .inl ⟨⟨ii, by omega, y2⟩, rfl⟩⟩)
        · skip
          refine sA_aload_n dd_X8_character_56 rfl (.head _) ?_
          refine sA_getr (ci := 8) (j := 5) (q := (RX8, TX8, 13)) dd_X8_character_57 rfl (by decide) fl_X8_49 (by decide) gs_s0 rfl ?_
          refine sA_iload_n dd_X8_character_60 rfl (.tail _ (.tail _ (.head _))) ?_
          refine sA_callV (y2 := m_X0_cornerSum) (n2 := 1) (d2 := 8) (a := 15) (ci := 0) (q := (RX0, TX0, 4)) (as := [gs_iv k]) (rest := []) dd_X8_character_61 ok_X0_cornerSum ml_X8_210 rfl rfl (by decide) gs_s15 rfl rfl (Nat.le_of_ble_eq_true rfl) (by decide) (c_X0_cornerSum_vf I34 (by omega)) (fun r40 F41 A42 h43 => ?_)
          obtain ⟨z46, e45, I47, f48, x44⟩ := h43
          subst e45
          have v49 : F41 15 1 = F28 15 1 := f48.1 15 1 (by first | exact id | omega | (dsimp only; omega) | (dsimp only) | fail)
          have f50 := gs_fr_tr f37 f48 (fun b j h => by first | exact False.elim h | omega | (dsimp only at h ⊢; omega) | fail) (fun b h => by first | exact False.elim h | omega | (dsimp only at h ⊢; omega) | fail)
          have y51 : z46 = Int64.ofInt (gs_sum (dt_ch (dt_T8 F28 A29) k) (2 ^ (F28 15 1).toNat)) := x44
          clear x44
          show sA _ _ _ 64 _ [.long z46] _ _
          refine sA_goto (tgt := 70) dd_X8_character_64 (by decide) ?_
          refine sA_lret dd_X8_character_70 rfl ?_
          refine ⟨_, rfl, I47, f50, ?_⟩
          rcases y38 with y | y
          · refine .inr (.inr ⟨by omega, by omega, by omega, by omega, .inr ⟨gs_ic F28 A29, fun ii hi => ?_, ?_⟩⟩)
            · have w := y.2 ii (by omega)
              rw [hPe, y25.2 ii (by omega)] at w
              exact w
            · refine y51.trans ?_
              rw [show F28 15 1 = 2 * F 0 11 by omega]
              rfl
          · exfalso
            omega
      · skip
        refine sA_ldc2 (z := -1002) dd_X8_character_25 (ri_lw_in (pl := 681) (by decide +kernel)) ?_
        refine sA_lret dd_X8_character_28 rfl ?_
        refine ⟨_, rfl, hI, hf, ?_⟩
        exact .inr (.inl ⟨by omega, by omega, by omega, rfl⟩)
  · skip
    refine sA_ldc2 (z := -1001) dd_X8_character_7 (ri_lw_in (pl := 680) (by decide +kernel)) ?_
    refine sA_lret dd_X8_character_10 rfl ?_
    refine ⟨_, rfl, hI, hf, ?_⟩
    exact .inl ⟨by omega, rfl⟩
end
