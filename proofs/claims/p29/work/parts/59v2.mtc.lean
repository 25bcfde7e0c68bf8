noncomputable section
theorem c_X1_stepsRound_vf {x y : Int} {F A : gs_F} (hx : -6 ≤ x ∧ x ≤ 6 ∧ x ≠ 0) (hy : -6 ≤ y ∧ y ≤ 6 ∧ y ≠ 0) : sC m_X1_stepsRound 1 [gs_iv x, gs_iv y] F A (fun rv F' A' => ∃ z : Int, rv = some (gs_iv z) ∧ F = F' ∧ A = A' ∧ (z = mt_far 12 x y ∧ -100 ≤ z ∧ z ≤ 100)) := by
  refine sC_of ok_X1_stepsRound.1 (Nat.le_of_ble_eq_true rfl) ?_
  show sA _ _ _ 0 [(0, gs_iv x), (1, gs_iv y)] [] F A
  refine sA_iload_n dd_X1_stepsRound_0 rfl (.head _) ?_
  refine sA_bipush (z := 6) dd_X1_stepsRound_1 (by decide) ?_
  refine sA_iadd dd_X1_stepsRound_3 ?_
  refine sA_istore_n (lv' := [(2, gs_iv (x + 6)), (0, gs_iv x), (1, gs_iv y)]) dd_X1_stepsRound_4 rfl (by decide) rfl ?_
  refine sA_iload_n dd_X1_stepsRound_5 rfl (.tail _ (.tail _ (.head _))) ?_
  refine sA_bipush (z := 6) dd_X1_stepsRound_6 (by decide) ?_
  refine sA_iadd dd_X1_stepsRound_8 ?_
  refine sA_istore_n (lv' := [(3, gs_iv (y + 6)), (2, gs_iv (x + 6)), (0, gs_iv x), (1, gs_iv y)]) dd_X1_stepsRound_9 rfl (by decide) rfl ?_
  refine sA_iload_n dd_X1_stepsRound_10 rfl (.tail _ (.head _)) ?_
  refine sA_if_lt (tgt := 34) dd_X1_stepsRound_11 (by decide) (by omega) (fun q1 => ?_) (fun q1 => ?_)
  · skip
    refine sA_iconst (z := 0) dd_X1_stepsRound_34 ?_
    refine sA_iret (z := 0) dd_X1_stepsRound_35 rfl ?_
    refine ⟨_, rfl, rfl, rfl, ?_⟩
    exfalso
    omega
  · skip
    refine sA_iload_n dd_X1_stepsRound_14 rfl (.tail _ (.head _)) ?_
    refine sA_gets dd_X1_stepsRound_15 (ri_lw_in (pl := 446) (by decide +kernel)) ?_
    refine sA_plen dd_X1_stepsRound_18 ?_
    refine sA_icmp_ge (tgt := 34) dd_X1_stepsRound_19 (by decide) (by omega) (by omega) (fun q2 => ?_) (fun q2 => ?_)
    · skip
      refine sA_iconst (z := 0) dd_X1_stepsRound_34 ?_
      refine sA_iret (z := 0) dd_X1_stepsRound_35 rfl ?_
      refine ⟨_, rfl, rfl, rfl, ?_⟩
      exfalso
      omega
    · skip
      refine sA_iload_n dd_X1_stepsRound_22 rfl (.head _) ?_
      refine sA_if_lt (tgt := 34) dd_X1_stepsRound_23 (by decide) (by omega) (fun q3 => ?_) (fun q3 => ?_)
      · skip
        refine sA_iconst (z := 0) dd_X1_stepsRound_34 ?_
        refine sA_iret (z := 0) dd_X1_stepsRound_35 rfl ?_
        refine ⟨_, rfl, rfl, rfl, ?_⟩
        exfalso
        omega
      · skip
        refine sA_iload_n dd_X1_stepsRound_26 rfl (.head _) ?_
        refine sA_gets dd_X1_stepsRound_27 (ri_lw_in (pl := 446) (by decide +kernel)) ?_
        refine sA_plen dd_X1_stepsRound_30 ?_
        refine sA_icmp_lt (tgt := 36) dd_X1_stepsRound_31 (by decide) (by omega) (by omega) (fun q4 => ?_) (fun q4 => ?_)
        · skip
          refine sA_gets dd_X1_stepsRound_36 (ri_lw_in (pl := 446) (by decide +kernel)) ?_
          refine sA_iload_n dd_X1_stepsRound_39 rfl (.head _) ?_
          refine sA_plald dd_X1_stepsRound_40 (by omega) ?_
          have b5 := gs_pl_bd ((y + 6).toNat)
          generalize hw6 : gs_t (am_PL (y + 6).toNat) = w6 at b5 ⊢
          refine sA_gets dd_X1_stepsRound_41 (ri_lw_in (pl := 446) (by decide +kernel)) ?_
          refine sA_iload_n dd_X1_stepsRound_44 rfl (.tail _ (.head _)) ?_
          refine sA_plald dd_X1_stepsRound_45 (by omega) ?_
          have b7 := gs_pl_bd ((x + 6).toNat)
          generalize hw8 : gs_t (am_PL (x + 6).toNat) = w8 at b7 ⊢
          refine sA_isub dd_X1_stepsRound_46 ?_
          refine sA_istore (lv' := [(4, gs_iv (w6 - w8)), (3, gs_iv (y + 6)), (2, gs_iv (x + 6)), (0, gs_iv x), (1, gs_iv y)]) dd_X1_stepsRound_47 (by decide) rfl ?_
          refine sA_iload dd_X1_stepsRound_49 (.head _) ?_
          refine sA_if_ge (tgt := 62) dd_X1_stepsRound_51 (by decide) (by omega) (fun q9 => ?_) (fun q9 => ?_)
          · skip
            refine sA_iload dd_X1_stepsRound_62 (.head _) ?_
            refine sA_iret (z := w6 - w8) dd_X1_stepsRound_64 rfl ?_
            refine ⟨_, rfl, rfl, rfl, ?_⟩
            have p1 : w6 = mt_pc y := hw6.symm.trans (mt_pl (by omega) (by omega) (by omega))
            have p2 : w8 = mt_pc x := hw8.symm.trans (mt_pl (by omega) (by omega) (by omega))
            refine ⟨?_, by omega⟩
            unfold mt_far
            rw [← p1, ← p2]
            first | rw [if_pos (by omega)] | rw [if_neg (by omega)] | fail
          · skip
            refine sA_iload dd_X1_stepsRound_54 (.head _) ?_
            refine sA_bipush (z := 12) dd_X1_stepsRound_56 (by decide) ?_
            refine sA_iadd dd_X1_stepsRound_58 ?_
            refine sA_goto (tgt := 64) dd_X1_stepsRound_59 (by decide) ?_
            refine sA_iret (z := (w6 - w8) + 12) dd_X1_stepsRound_64 rfl ?_
            refine ⟨_, rfl, rfl, rfl, ?_⟩
            have p1 : w6 = mt_pc y := hw6.symm.trans (mt_pl (by omega) (by omega) (by omega))
            have p2 : w8 = mt_pc x := hw8.symm.trans (mt_pl (by omega) (by omega) (by omega))
            refine ⟨?_, by omega⟩
            unfold mt_far
            rw [← p1, ← p2]
            first | rw [if_pos (by omega)] | rw [if_neg (by omega)] | fail
        · skip
          refine sA_iconst (z := 0) dd_X1_stepsRound_34 ?_
          refine sA_iret (z := 0) dd_X1_stepsRound_35 rfl ?_
          refine ⟨_, rfl, rfl, rfl, ?_⟩
          exfalso
          omega
theorem c_X1_goRound_vf {x y u : Int} {F A : gs_F} (hx : -6 ≤ x ∧ x ≤ 6 ∧ x ≠ 0) (hy : -6 ≤ y ∧ y ≤ 6 ∧ y ≠ 0) (hu : -6 ≤ u ∧ u ≤ 6 ∧ u ≠ 0) : sC m_X1_goRound 2 [gs_iv x, gs_iv y, gs_iv u] F A (fun rv F' A' => ∃ z : Int, rv = some (gs_iv z) ∧ F = F' ∧ A = A' ∧ ((z = 1 ∧ mt_gr 12 x y u) ∨ (z = 0 ∧ ¬ mt_gr 12 x y u))) := by
  refine sC_of ok_X1_goRound.1 (Nat.le_of_ble_eq_true rfl) ?_
  show sA _ _ _ 0 [(0, gs_iv x), (1, gs_iv y), (2, gs_iv u)] [] F A
  refine sA_iload_n dd_X1_goRound_0 rfl (.head _) ?_
  refine sA_iload_n dd_X1_goRound_1 rfl (.tail _ (.head _)) ?_
  refine sA_callS (y2 := m_X1_stepsRound) (n2 := 2) (d2 := 1) (as := [gs_iv x, gs_iv y]) (rest := []) dd_X1_goRound_2 ok_X1_stepsRound ml_X1_48 rfl rfl (Nat.le_of_ble_eq_true rfl) (by decide) (c_X1_stepsRound_vf (by omega) (by omega)) (fun r1 F2 A3 h4 => ?_)
  obtain ⟨z7, e6, e8, e9, x5⟩ := h4
  subst e6 e8 e9
  have y10 : z7 = mt_far 12 x y ∧ -100 ≤ z7 ∧ z7 ≤ 100 := x5
  clear x5
  show sA _ _ _ 5 _ [gs_iv z7] _ _
  refine sA_iload_n dd_X1_goRound_5 rfl (.head _) ?_
  refine sA_iload_n dd_X1_goRound_6 rfl (.tail _ (.tail _ (.head _))) ?_
  refine sA_callS (y2 := m_X1_stepsRound) (n2 := 2) (d2 := 1) (as := [gs_iv x, gs_iv u]) (rest := [gs_iv z7]) dd_X1_goRound_7 ok_X1_stepsRound ml_X1_48 rfl rfl (Nat.le_of_ble_eq_true rfl) (by decide) (c_X1_stepsRound_vf (by omega) (by omega)) (fun r11 F12 A13 h14 => ?_)
  obtain ⟨z17, e16, e18, e19, x15⟩ := h14
  subst e16 e18 e19
  have y20 : z17 = mt_far 12 x u ∧ -100 ≤ z17 ∧ z17 ≤ 100 := x15
  clear x15
  show sA _ _ _ 10 _ [gs_iv z17, gs_iv z7] _ _
  refine sA_icmp_ge (tgt := 17) dd_X1_goRound_10 (by decide) (by omega) (by omega) (fun q21 => ?_) (fun q21 => ?_)
  · skip
    refine sA_iconst (z := 0) dd_X1_goRound_17 ?_
    refine sA_bret (z := 0) dd_X1_goRound_18 rfl (by omega) ?_
    refine ⟨_, rfl, rfl, rfl, ?_⟩
    have y1 := y10.1
    have y2 := y20.1
    unfold mt_gr
    rw [← y1, ← y2]
    omega
  · skip
    refine sA_iconst (z := 1) dd_X1_goRound_13 ?_
    refine sA_goto (tgt := 18) dd_X1_goRound_14 (by decide) ?_
    refine sA_bret (z := 1) dd_X1_goRound_18 rfl (by omega) ?_
    refine ⟨_, rfl, rfl, rfl, ?_⟩
    have y1 := y10.1
    have y2 := y20.1
    unfold mt_gr
    rw [← y1, ← y2]
    omega
theorem c_X1_cross_vf {x y u v : Int} {F A : gs_F} (hx : -6 ≤ x ∧ x ≤ 6 ∧ x ≠ 0) (hy : -6 ≤ y ∧ y ≤ 6 ∧ y ≠ 0) (hu : -6 ≤ u ∧ u ≤ 6 ∧ u ≠ 0) (hv : -6 ≤ v ∧ v ≤ 6 ∧ v ≠ 0) : sC m_X1_cross 3 [gs_iv x, gs_iv y, gs_iv u, gs_iv v] F A (fun rv F' A' => ∃ z : Int, rv = some (gs_iv z) ∧ F = F' ∧ A = A' ∧ ((z = 1 ∧ mt_cr 12 x y u v) ∨ (z = 0 ∧ ¬ mt_cr 12 x y u v))) := by
  refine sC_of ok_X1_cross.1 (Nat.le_of_ble_eq_true rfl) ?_
  show sA _ _ _ 0 [(0, gs_iv x), (1, gs_iv y), (2, gs_iv u), (3, gs_iv v)] [] F A
  refine sA_iload_n dd_X1_cross_0 rfl (.head _) ?_
  refine sA_iload_n dd_X1_cross_1 rfl (.tail _ (.tail _ (.head _))) ?_
  refine sA_icmp_eq (tgt := 15) dd_X1_cross_2 (by decide) (by omega) (by omega) (fun q1 => ?_) (fun q1 => ?_)
  · skip
    refine sA_iconst (z := 0) dd_X1_cross_15 ?_
    refine sA_bret (z := 0) dd_X1_cross_16 rfl (by omega) ?_
    refine ⟨_, rfl, rfl, rfl, ?_⟩
    exact .inr ⟨rfl, fun w => by have w1 := w.1; have w2 := w.2.1; have w3 := w.2.2.1; omega⟩
  · skip
    refine sA_iload_n dd_X1_cross_5 rfl (.head _) ?_
    refine sA_iload_n dd_X1_cross_6 rfl (.tail _ (.tail _ (.tail _ (.head _)))) ?_
    refine sA_icmp_eq (tgt := 15) dd_X1_cross_7 (by decide) (by omega) (by omega) (fun q2 => ?_) (fun q2 => ?_)
    · skip
      refine sA_iconst (z := 0) dd_X1_cross_15 ?_
      refine sA_bret (z := 0) dd_X1_cross_16 rfl (by omega) ?_
      refine ⟨_, rfl, rfl, rfl, ?_⟩
      exact .inr ⟨rfl, fun w => by have w1 := w.1; have w2 := w.2.1; have w3 := w.2.2.1; omega⟩
    · skip
      refine sA_iload_n dd_X1_cross_10 rfl (.tail _ (.head _)) ?_
      refine sA_iload_n dd_X1_cross_11 rfl (.tail _ (.tail _ (.head _))) ?_
      refine sA_icmp_ne (tgt := 17) dd_X1_cross_12 (by decide) (by omega) (by omega) (fun q3 => ?_) (fun q3 => ?_)
      · skip
        refine sA_iload_n dd_X1_cross_17 rfl (.head _) ?_
        refine sA_iload_n dd_X1_cross_18 rfl (.tail _ (.tail _ (.head _))) ?_
        refine sA_iload_n dd_X1_cross_19 rfl (.tail _ (.head _)) ?_
        refine sA_callS (y2 := m_X1_goRound) (n2 := 3) (d2 := 2) (as := [gs_iv x, gs_iv u, gs_iv y]) (rest := []) dd_X1_cross_20 ok_X1_goRound ml_X1_44 rfl rfl (Nat.le_of_ble_eq_true rfl) (by decide) (c_X1_goRound_vf (by omega) (by omega) (by omega)) (fun r4 F5 A6 h7 => ?_)
        obtain ⟨z10, e9, e11, e12, x8⟩ := h7
        subst e9 e11 e12
        have y13 : (z10 = 1 ∧ mt_gr 12 x u y) ∨ (z10 = 0 ∧ ¬ mt_gr 12 x u y) := x8
        clear x8
        show sA _ _ _ 23 _ [gs_iv z10] _ _
        refine sA_iload_n dd_X1_cross_23 rfl (.head _) ?_
        refine sA_iload_n dd_X1_cross_24 rfl (.tail _ (.tail _ (.tail _ (.head _)))) ?_
        refine sA_iload_n dd_X1_cross_25 rfl (.tail _ (.head _)) ?_
        refine sA_callS (y2 := m_X1_goRound) (n2 := 3) (d2 := 2) (as := [gs_iv x, gs_iv v, gs_iv y]) (rest := [gs_iv z10]) dd_X1_cross_26 ok_X1_goRound ml_X1_44 rfl rfl (Nat.le_of_ble_eq_true rfl) (by decide) (c_X1_goRound_vf (by omega) (by omega) (by omega)) (fun r14 F15 A16 h17 => ?_)
        obtain ⟨z20, e19, e21, e22, x18⟩ := h17
        subst e19 e21 e22
        have y23 : (z20 = 1 ∧ mt_gr 12 x v y) ∨ (z20 = 0 ∧ ¬ mt_gr 12 x v y) := x18
        clear x18
        show sA _ _ _ 29 _ [gs_iv z20, gs_iv z10] _ _
        refine sA_icmp_eq (tgt := 36) dd_X1_cross_29 (by decide) (by omega) (by omega) (fun q24 => ?_) (fun q24 => ?_)
        · skip
          refine sA_iconst (z := 0) dd_X1_cross_36 ?_
          refine sA_bret (z := 0) dd_X1_cross_37 rfl (by omega) ?_
          refine ⟨_, rfl, rfl, rfl, ?_⟩
          rcases y13 with p | p <;> rcases y23 with q | q <;> first | (exfalso; omega) | exact .inl ⟨rfl, by omega, by omega, by omega, fun w => absurd (w.mp p.2) q.2⟩ | exact .inl ⟨rfl, by omega, by omega, by omega, fun w => absurd (w.mpr q.2) p.2⟩ | exact .inr ⟨rfl, fun w => w.2.2.2 ⟨fun _ => q.2, fun _ => p.2⟩⟩ | exact .inr ⟨rfl, fun w => w.2.2.2 ⟨fun h => absurd h p.2, fun h => absurd h q.2⟩⟩ | fail
        · skip
          refine sA_iconst (z := 1) dd_X1_cross_32 ?_
          refine sA_goto (tgt := 37) dd_X1_cross_33 (by decide) ?_
          refine sA_bret (z := 1) dd_X1_cross_37 rfl (by omega) ?_
          refine ⟨_, rfl, rfl, rfl, ?_⟩
          rcases y13 with p | p <;> rcases y23 with q | q <;> first | (exfalso; omega) | exact .inl ⟨rfl, by omega, by omega, by omega, fun w => absurd (w.mp p.2) q.2⟩ | exact .inl ⟨rfl, by omega, by omega, by omega, fun w => absurd (w.mpr q.2) p.2⟩ | exact .inr ⟨rfl, fun w => w.2.2.2 ⟨fun _ => q.2, fun _ => p.2⟩⟩ | exact .inr ⟨rfl, fun w => w.2.2.2 ⟨fun h => absurd h p.2, fun h => absurd h q.2⟩⟩ | fail
      · skip
        refine sA_iconst (z := 0) dd_X1_cross_15 ?_
        refine sA_bret (z := 0) dd_X1_cross_16 rfl (by omega) ?_
        refine ⟨_, rfl, rfl, rfl, ?_⟩
        exact .inr ⟨rfl, fun w => by have w1 := w.1; have w2 := w.2.1; have w3 := w.2.2.1; omega⟩
theorem k_X1_changeSides_vf {a L b M : Nat} {i j : Int} {F A : gs_F} (hI : gs_I F A) (hr : gs_row a L) (hi : 0 ≤ i ∧ i < F a 1) (ho : gs_row b M) (hj : 0 ≤ j ∧ j < F b 1) (heq : A (a + 1) i.toNat = A (b + 1) j.toNat) (hVu : gs_vl 3 (F a 1) (A (a + 1))) (hVv : gs_vl 3 (F b 1) (A (b + 1))) : ∀ nN : Nat, (∀ (u : Int) (x : Int) (y : Int) (p : Int) (q : Int) (l : Int) (k : Int),  -6 ≤ u ∧ u ≤ 6 ∧ u ≠ 0 → -6 ≤ x ∧ x ≤ 6 ∧ x ≠ 0 → -6 ≤ y ∧ y ≤ 6 ∧ y ≠ 0 → -6 ≤ l ∧ l ≤ 6 ∧ l ≠ 0 → 0 ≤ p ∧ p < F a 1 → 0 ≤ q ∧ q < F b 1 → 0 ≤ k ∧ k ≤ F a 1 + F b 1 → u = mt_at (A (a + 1)) (F a 1) i 0 ∧ x = -(mt_at (A (a + 1)) (F a 1) i (-1)) ∧ y = -(mt_at (A (b + 1)) (F b 1) j (-1)) → p = (i + k) % F a 1 → q = (j + k) % F b 1 → (k = 0 ∧ l = u) ∨ (1 ≤ k ∧ l = mt_at (A (a + 1)) (F a 1) i (k - 1)) → (∀ s : Int, 0 ≤ s → s < k → mt_at (A (a + 1)) (F a 1) i s = mt_at (A (b + 1)) (F b 1) j s) → F a 1 + F b 1 - k < (nN : Int) → sA m_X1_changeSides 3 (fun rv F' A' => ∃ z : Int, rv = some (gs_iv z) ∧ F = F' ∧ A = A' ∧ ((z = 1 ∧ mt_cs 12 (A (a + 1)) (F a 1) (A (b + 1)) (F b 1) i j) ∨ (z = 0 ∧ ¬ mt_cs 12 (A (a + 1)) (F a 1) (A (b + 1)) (F b 1) i j))) 69 [(10, gs_iv k), (9, gs_iv l), (8, gs_iv q), (7, gs_iv p), (6, gs_iv y), (5, gs_iv x), (4, gs_iv u), (0, .ref a), (2, .ref b)] [] F A) := by
  intro nN
  induction nN with
  | zero =>
    exact fun a0 a1 a2 a3 a4 a5 a6 i0 i1 i2 i3 i4 i5 i6 i7 i8 i9 i10 i11 hm => by exfalso; omega
  | succ nN ih =>
    intro u x y p q l k i0 i1 i2 i3 i4 i5 i6 i7 i8 i9 i10 i11 hm
    have b1 := gs_row_sz hr hI
    have b2 := gs_row_sz ho hI
    refine sA_iload dd_X1_changeSides_69 (.head _) ?_
    refine sA_aload_n dd_X1_changeSides_71 rfl (.tail _ (.tail _ (.tail _ (.tail _ (.tail _ (.tail _ (.tail _ (.head _)))))))) ?_
    refine sA_geti (ci := 4) (j := 1) (q := (RX4, TX4, 2)) dd_X1_changeSides_72 rfl (by decide) fl_X1_28 (Nat.lt_of_succ_lt hr.1) hr.2.1 rfl ?_
    refine sA_aload_n dd_X1_changeSides_75 rfl (.tail _ (.tail _ (.tail _ (.tail _ (.tail _ (.tail _ (.tail _ (.tail _ (.head _))))))))) ?_
    refine sA_geti (ci := 4) (j := 1) (q := (RX4, TX4, 2)) dd_X1_changeSides_76 rfl (by decide) fl_X1_28 (Nat.lt_of_succ_lt ho.1) ho.2.1 rfl ?_
    refine sA_iadd dd_X1_changeSides_79 ?_
    refine sA_icmp_ge (tgt := 188) dd_X1_changeSides_80 (by decide) (by omega) (by omega) (fun q3 => ?_) (fun q3 => ?_)
    · skip
      refine sA_iconst (z := 0) dd_X1_changeSides_188 ?_
      refine sA_bret (z := 0) dd_X1_changeSides_189 rfl (by omega) ?_
      refine ⟨_, rfl, rfl, rfl, ?_⟩
      exact .inr ⟨rfl, mt_cs_no (by omega) (by omega) (fun s h1 h2 => i11 s h1 (by omega))⟩
    · skip
      have hl3 := hVu p.toNat (by omega)
      have hl4 := hVv q.toNat (by omega)
      have hck : A (a + 1) p.toNat = mt_at (A (a + 1)) (F a 1) i k := by rw [i8]; rfl
      have hdk : A (b + 1) q.toNat = mt_at (A (b + 1)) (F b 1) j k := by rw [i9]; rfl
      refine sA_aload_n dd_X1_changeSides_83 rfl (.tail _ (.tail _ (.tail _ (.tail _ (.tail _ (.tail _ (.tail _ (.head _)))))))) ?_
      refine sA_getr (ci := 4) (j := 0) (q := (RX4, TX4, 2)) dd_X1_changeSides_84 rfl (by decide) fl_X1_32 (Nat.lt_of_succ_lt hr.1) hr.2.1 rfl ?_
      refine sA_iload dd_X1_changeSides_87 (.tail _ (.tail _ (.tail _ (.head _)))) ?_
      refine sA_iald (n := L) dd_X1_changeSides_89 hr.1 hr.2.2.1 (by omega) (Nat.le_trans hr.2.2.2.2.2.2 (by decide)) ?_
      have b4 := gs_row_el hr hI p.toNat
      refine sA_istore (lv' := [(11, gs_iv (A (a + 1) p.toNat)), (10, gs_iv k), (9, gs_iv l), (8, gs_iv q), (7, gs_iv p), (6, gs_iv y), (5, gs_iv x), (4, gs_iv u), (0, .ref a), (2, .ref b)]) dd_X1_changeSides_90 (by decide) rfl ?_
      refine sA_aload_n dd_X1_changeSides_92 rfl (.tail _ (.tail _ (.tail _ (.tail _ (.tail _ (.tail _ (.tail _ (.tail _ (.tail _ (.head _)))))))))) ?_
      refine sA_getr (ci := 4) (j := 0) (q := (RX4, TX4, 2)) dd_X1_changeSides_93 rfl (by decide) fl_X1_32 (Nat.lt_of_succ_lt ho.1) ho.2.1 rfl ?_
      refine sA_iload dd_X1_changeSides_96 (.tail _ (.tail _ (.tail _ (.head _)))) ?_
      refine sA_iald (n := M) dd_X1_changeSides_98 ho.1 ho.2.2.1 (by omega) (Nat.le_trans ho.2.2.2.2.2.2 (by decide)) ?_
      have b5 := gs_row_el ho hI q.toNat
      refine sA_istore (lv' := [(12, gs_iv (A (b + 1) q.toNat)), (11, gs_iv (A (a + 1) p.toNat)), (10, gs_iv k), (9, gs_iv l), (8, gs_iv q), (7, gs_iv p), (6, gs_iv y), (5, gs_iv x), (4, gs_iv u), (0, .ref a), (2, .ref b)]) dd_X1_changeSides_99 (by decide) rfl ?_
      refine sA_iload dd_X1_changeSides_101 (.tail _ (.head _)) ?_
      refine sA_iload dd_X1_changeSides_103 (.head _) ?_
      refine sA_icmp_eq (tgt := 136) dd_X1_changeSides_105 (by decide) (by omega) (by omega) (fun q6 => ?_) (fun q6 => ?_)
      · skip
        refine sA_iload dd_X1_changeSides_136 (.tail _ (.head _)) ?_
        refine sA_istore (lv' := [(9, gs_iv (A (a + 1) p.toNat)), (12, gs_iv (A (b + 1) q.toNat)), (11, gs_iv (A (a + 1) p.toNat)), (10, gs_iv k), (8, gs_iv q), (7, gs_iv p), (6, gs_iv y), (5, gs_iv x), (4, gs_iv u), (0, .ref a), (2, .ref b)]) dd_X1_changeSides_138 (by decide) rfl ?_
        refine sA_iload dd_X1_changeSides_140 (.tail _ (.tail _ (.tail _ (.tail _ (.tail _ (.head _)))))) ?_
        refine sA_iconst (z := 1) dd_X1_changeSides_142 ?_
        refine sA_iadd dd_X1_changeSides_143 ?_
        refine sA_aload_n dd_X1_changeSides_144 rfl (.tail _ (.tail _ (.tail _ (.tail _ (.tail _ (.tail _ (.tail _ (.tail _ (.tail _ (.head _)))))))))) ?_
        refine sA_geti (ci := 4) (j := 1) (q := (RX4, TX4, 2)) dd_X1_changeSides_145 rfl (by decide) fl_X1_28 (Nat.lt_of_succ_lt hr.1) hr.2.1 rfl ?_
        refine sA_icmp_ne (tgt := 155) dd_X1_changeSides_148 (by decide) (by omega) (by omega) (fun q7 => ?_) (fun q7 => ?_)
        · skip
          refine sA_iload dd_X1_changeSides_155 (.tail _ (.tail _ (.tail _ (.tail _ (.tail _ (.head _)))))) ?_
          refine sA_iconst (z := 1) dd_X1_changeSides_157 ?_
          refine sA_iadd dd_X1_changeSides_158 ?_
          refine sA_istore (lv' := [(7, gs_iv (p + 1)), (9, gs_iv (A (a + 1) p.toNat)), (12, gs_iv (A (b + 1) q.toNat)), (11, gs_iv (A (a + 1) p.toNat)), (10, gs_iv k), (8, gs_iv q), (6, gs_iv y), (5, gs_iv x), (4, gs_iv u), (0, .ref a), (2, .ref b)]) dd_X1_changeSides_159 (by decide) rfl ?_
          refine sA_iload dd_X1_changeSides_161 (.tail _ (.tail _ (.tail _ (.tail _ (.tail _ (.head _)))))) ?_
          refine sA_iconst (z := 1) dd_X1_changeSides_163 ?_
          refine sA_iadd dd_X1_changeSides_164 ?_
          refine sA_aload_n dd_X1_changeSides_165 rfl (.tail _ (.tail _ (.tail _ (.tail _ (.tail _ (.tail _ (.tail _ (.tail _ (.tail _ (.tail _ (.head _))))))))))) ?_
          refine sA_geti (ci := 4) (j := 1) (q := (RX4, TX4, 2)) dd_X1_changeSides_166 rfl (by decide) fl_X1_28 (Nat.lt_of_succ_lt ho.1) ho.2.1 rfl ?_
          refine sA_icmp_ne (tgt := 176) dd_X1_changeSides_169 (by decide) (by omega) (by omega) (fun q8 => ?_) (fun q8 => ?_)
          · skip
            refine sA_iload dd_X1_changeSides_176 (.tail _ (.tail _ (.tail _ (.tail _ (.tail _ (.head _)))))) ?_
            refine sA_iconst (z := 1) dd_X1_changeSides_178 ?_
            refine sA_iadd dd_X1_changeSides_179 ?_
            refine sA_istore (lv' := [(8, gs_iv (q + 1)), (7, gs_iv (p + 1)), (9, gs_iv (A (a + 1) p.toNat)), (12, gs_iv (A (b + 1) q.toNat)), (11, gs_iv (A (a + 1) p.toNat)), (10, gs_iv k), (6, gs_iv y), (5, gs_iv x), (4, gs_iv u), (0, .ref a), (2, .ref b)]) dd_X1_changeSides_180 (by decide) rfl ?_
            refine sA_iinc (lv' := [(10, gs_iv (k + 1)), (8, gs_iv (q + 1)), (7, gs_iv (p + 1)), (9, gs_iv (A (a + 1) p.toNat)), (12, gs_iv (A (b + 1) q.toNat)), (11, gs_iv (A (a + 1) p.toNat)), (6, gs_iv y), (5, gs_iv x), (4, gs_iv u), (0, .ref a), (2, .ref b)]) dd_X1_changeSides_182 (.tail _ (.tail _ (.tail _ (.tail _ (.tail _ (.head _)))))) (by decide) rfl ?_
            refine sA_goto (tgt := 69) dd_X1_changeSides_185 (by decide) ?_
            refine sA_sub (lv2 := [(10, gs_iv (k + 1)), (9, gs_iv (A (a + 1) p.toNat)), (8, gs_iv (q + 1)), (7, gs_iv (p + 1)), (6, gs_iv y), (5, gs_iv x), (4, gs_iv u), (0, .ref a), (2, .ref b)]) (List.forall_mem_cons.mpr ⟨(.head _), (List.forall_mem_cons.mpr ⟨(.tail _ (.tail _ (.tail _ (.head _)))), (List.forall_mem_cons.mpr ⟨(.tail _ (.head _)), (List.forall_mem_cons.mpr ⟨(.tail _ (.tail _ (.head _))), (List.forall_mem_cons.mpr ⟨(.tail _ (.tail _ (.tail _ (.tail _ (.tail _ (.tail _ (.head _))))))), (List.forall_mem_cons.mpr ⟨(.tail _ (.tail _ (.tail _ (.tail _ (.tail _ (.tail _ (.tail _ (.head _)))))))), (List.forall_mem_cons.mpr ⟨(.tail _ (.tail _ (.tail _ (.tail _ (.tail _ (.tail _ (.tail _ (.tail _ (.head _))))))))), (List.forall_mem_cons.mpr ⟨(.tail _ (.tail _ (.tail _ (.tail _ (.tail _ (.tail _ (.tail _ (.tail _ (.tail _ (.head _)))))))))), (List.forall_mem_cons.mpr ⟨(.tail _ (.tail _ (.tail _ (.tail _ (.tail _ (.tail _ (.tail _ (.tail _ (.tail _ (.tail _ (.head _))))))))))), (fun _ h => absurd h List.not_mem_nil)⟩)⟩)⟩)⟩)⟩)⟩)⟩)⟩)⟩) ?_
            exact ih u x y (p + 1) (q + 1) (A (a + 1) p.toNat) (k + 1)  (by omega) (by omega) (by omega) (by omega) (by omega) (by omega) (by omega) i7 (by first | exact (mt_step i4 i8).1 (by omega) | exact (mt_step i4 i8).2 (by omega) | fail) (by first | exact (mt_step i5 i9).1 (by omega) | exact (mt_step i5 i9).2 (by omega) | fail) (.inr ⟨by omega, by rw [show k + 1 - 1 = k by omega]; exact hck⟩) (fun s h1 h2 => by by_cases h : s < k <;> first | exact i11 s h1 h | (rw [show s = k by omega, ← hck, ← hdk]; omega) | fail) (by omega)
          · skip
            refine sA_iconst (z := 0) dd_X1_changeSides_172 ?_
            refine sA_goto (tgt := 180) dd_X1_changeSides_173 (by decide) ?_
            refine sA_istore (lv' := [(8, gs_iv 0), (7, gs_iv (p + 1)), (9, gs_iv (A (a + 1) p.toNat)), (12, gs_iv (A (b + 1) q.toNat)), (11, gs_iv (A (a + 1) p.toNat)), (10, gs_iv k), (6, gs_iv y), (5, gs_iv x), (4, gs_iv u), (0, .ref a), (2, .ref b)]) dd_X1_changeSides_180 (by decide) rfl ?_
            refine sA_iinc (lv' := [(10, gs_iv (k + 1)), (8, gs_iv 0), (7, gs_iv (p + 1)), (9, gs_iv (A (a + 1) p.toNat)), (12, gs_iv (A (b + 1) q.toNat)), (11, gs_iv (A (a + 1) p.toNat)), (6, gs_iv y), (5, gs_iv x), (4, gs_iv u), (0, .ref a), (2, .ref b)]) dd_X1_changeSides_182 (.tail _ (.tail _ (.tail _ (.tail _ (.tail _ (.head _)))))) (by decide) rfl ?_
            refine sA_goto (tgt := 69) dd_X1_changeSides_185 (by decide) ?_
            refine sA_sub (lv2 := [(10, gs_iv (k + 1)), (9, gs_iv (A (a + 1) p.toNat)), (8, gs_iv 0), (7, gs_iv (p + 1)), (6, gs_iv y), (5, gs_iv x), (4, gs_iv u), (0, .ref a), (2, .ref b)]) (List.forall_mem_cons.mpr ⟨(.head _), (List.forall_mem_cons.mpr ⟨(.tail _ (.tail _ (.tail _ (.head _)))), (List.forall_mem_cons.mpr ⟨(.tail _ (.head _)), (List.forall_mem_cons.mpr ⟨(.tail _ (.tail _ (.head _))), (List.forall_mem_cons.mpr ⟨(.tail _ (.tail _ (.tail _ (.tail _ (.tail _ (.tail _ (.head _))))))), (List.forall_mem_cons.mpr ⟨(.tail _ (.tail _ (.tail _ (.tail _ (.tail _ (.tail _ (.tail _ (.head _)))))))), (List.forall_mem_cons.mpr ⟨(.tail _ (.tail _ (.tail _ (.tail _ (.tail _ (.tail _ (.tail _ (.tail _ (.head _))))))))), (List.forall_mem_cons.mpr ⟨(.tail _ (.tail _ (.tail _ (.tail _ (.tail _ (.tail _ (.tail _ (.tail _ (.tail _ (.head _)))))))))), (List.forall_mem_cons.mpr ⟨(.tail _ (.tail _ (.tail _ (.tail _ (.tail _ (.tail _ (.tail _ (.tail _ (.tail _ (.tail _ (.head _))))))))))), (fun _ h => absurd h List.not_mem_nil)⟩)⟩)⟩)⟩)⟩)⟩)⟩)⟩)⟩) ?_
            exact ih u x y (p + 1) 0 (A (a + 1) p.toNat) (k + 1)  (by omega) (by omega) (by omega) (by omega) (by omega) (by omega) (by omega) i7 (by first | exact (mt_step i4 i8).1 (by omega) | exact (mt_step i4 i8).2 (by omega) | fail) (by first | exact (mt_step i5 i9).1 (by omega) | exact (mt_step i5 i9).2 (by omega) | fail) (.inr ⟨by omega, by rw [show k + 1 - 1 = k by omega]; exact hck⟩) (fun s h1 h2 => by by_cases h : s < k <;> first | exact i11 s h1 h | (rw [show s = k by omega, ← hck, ← hdk]; omega) | fail) (by omega)
        · skip
          refine sA_iconst (z := 0) dd_X1_changeSides_151 ?_
          refine sA_goto (tgt := 159) dd_X1_changeSides_152 (by decide) ?_
          refine sA_istore (lv' := [(7, gs_iv 0), (9, gs_iv (A (a + 1) p.toNat)), (12, gs_iv (A (b + 1) q.toNat)), (11, gs_iv (A (a + 1) p.toNat)), (10, gs_iv k), (8, gs_iv q), (6, gs_iv y), (5, gs_iv x), (4, gs_iv u), (0, .ref a), (2, .ref b)]) dd_X1_changeSides_159 (by decide) rfl ?_
          refine sA_iload dd_X1_changeSides_161 (.tail _ (.tail _ (.tail _ (.tail _ (.tail _ (.head _)))))) ?_
          refine sA_iconst (z := 1) dd_X1_changeSides_163 ?_
          refine sA_iadd dd_X1_changeSides_164 ?_
          refine sA_aload_n dd_X1_changeSides_165 rfl (.tail _ (.tail _ (.tail _ (.tail _ (.tail _ (.tail _ (.tail _ (.tail _ (.tail _ (.tail _ (.head _))))))))))) ?_
          refine sA_geti (ci := 4) (j := 1) (q := (RX4, TX4, 2)) dd_X1_changeSides_166 rfl (by decide) fl_X1_28 (Nat.lt_of_succ_lt ho.1) ho.2.1 rfl ?_
          refine sA_icmp_ne (tgt := 176) dd_X1_changeSides_169 (by decide) (by omega) (by omega) (fun q9 => ?_) (fun q9 => ?_)
          · skip
            refine sA_iload dd_X1_changeSides_176 (.tail _ (.tail _ (.tail _ (.tail _ (.tail _ (.head _)))))) ?_
            refine sA_iconst (z := 1) dd_X1_changeSides_178 ?_
            refine sA_iadd dd_X1_changeSides_179 ?_
            refine sA_istore (lv' := [(8, gs_iv (q + 1)), (7, gs_iv 0), (9, gs_iv (A (a + 1) p.toNat)), (12, gs_iv (A (b + 1) q.toNat)), (11, gs_iv (A (a + 1) p.toNat)), (10, gs_iv k), (6, gs_iv y), (5, gs_iv x), (4, gs_iv u), (0, .ref a), (2, .ref b)]) dd_X1_changeSides_180 (by decide) rfl ?_
            refine sA_iinc (lv' := [(10, gs_iv (k + 1)), (8, gs_iv (q + 1)), (7, gs_iv 0), (9, gs_iv (A (a + 1) p.toNat)), (12, gs_iv (A (b + 1) q.toNat)), (11, gs_iv (A (a + 1) p.toNat)), (6, gs_iv y), (5, gs_iv x), (4, gs_iv u), (0, .ref a), (2, .ref b)]) dd_X1_changeSides_182 (.tail _ (.tail _ (.tail _ (.tail _ (.tail _ (.head _)))))) (by decide) rfl ?_
            refine sA_goto (tgt := 69) dd_X1_changeSides_185 (by decide) ?_
            refine sA_sub (lv2 := [(10, gs_iv (k + 1)), (9, gs_iv (A (a + 1) p.toNat)), (8, gs_iv (q + 1)), (7, gs_iv 0), (6, gs_iv y), (5, gs_iv x), (4, gs_iv u), (0, .ref a), (2, .ref b)]) (List.forall_mem_cons.mpr ⟨(.head _), (List.forall_mem_cons.mpr ⟨(.tail _ (.tail _ (.tail _ (.head _)))), (List.forall_mem_cons.mpr ⟨(.tail _ (.head _)), (List.forall_mem_cons.mpr ⟨(.tail _ (.tail _ (.head _))), (List.forall_mem_cons.mpr ⟨(.tail _ (.tail _ (.tail _ (.tail _ (.tail _ (.tail _ (.head _))))))), (List.forall_mem_cons.mpr ⟨(.tail _ (.tail _ (.tail _ (.tail _ (.tail _ (.tail _ (.tail _ (.head _)))))))), (List.forall_mem_cons.mpr ⟨(.tail _ (.tail _ (.tail _ (.tail _ (.tail _ (.tail _ (.tail _ (.tail _ (.head _))))))))), (List.forall_mem_cons.mpr ⟨(.tail _ (.tail _ (.tail _ (.tail _ (.tail _ (.tail _ (.tail _ (.tail _ (.tail _ (.head _)))))))))), (List.forall_mem_cons.mpr ⟨(.tail _ (.tail _ (.tail _ (.tail _ (.tail _ (.tail _ (.tail _ (.tail _ (.tail _ (.tail _ (.head _))))))))))), (fun _ h => absurd h List.not_mem_nil)⟩)⟩)⟩)⟩)⟩)⟩)⟩)⟩)⟩) ?_
            exact ih u x y 0 (q + 1) (A (a + 1) p.toNat) (k + 1)  (by omega) (by omega) (by omega) (by omega) (by omega) (by omega) (by omega) i7 (by first | exact (mt_step i4 i8).1 (by omega) | exact (mt_step i4 i8).2 (by omega) | fail) (by first | exact (mt_step i5 i9).1 (by omega) | exact (mt_step i5 i9).2 (by omega) | fail) (.inr ⟨by omega, by rw [show k + 1 - 1 = k by omega]; exact hck⟩) (fun s h1 h2 => by by_cases h : s < k <;> first | exact i11 s h1 h | (rw [show s = k by omega, ← hck, ← hdk]; omega) | fail) (by omega)
          · skip
            refine sA_iconst (z := 0) dd_X1_changeSides_172 ?_
            refine sA_goto (tgt := 180) dd_X1_changeSides_173 (by decide) ?_
            refine sA_istore (lv' := [(8, gs_iv 0), (7, gs_iv 0), (9, gs_iv (A (a + 1) p.toNat)), (12, gs_iv (A (b + 1) q.toNat)), (11, gs_iv (A (a + 1) p.toNat)), (10, gs_iv k), (6, gs_iv y), (5, gs_iv x), (4, gs_iv u), (0, .ref a), (2, .ref b)]) dd_X1_changeSides_180 (by decide) rfl ?_
            refine sA_iinc (lv' := [(10, gs_iv (k + 1)), (8, gs_iv 0), (7, gs_iv 0), (9, gs_iv (A (a + 1) p.toNat)), (12, gs_iv (A (b + 1) q.toNat)), (11, gs_iv (A (a + 1) p.toNat)), (6, gs_iv y), (5, gs_iv x), (4, gs_iv u), (0, .ref a), (2, .ref b)]) dd_X1_changeSides_182 (.tail _ (.tail _ (.tail _ (.tail _ (.tail _ (.head _)))))) (by decide) rfl ?_
            refine sA_goto (tgt := 69) dd_X1_changeSides_185 (by decide) ?_
            refine sA_sub (lv2 := [(10, gs_iv (k + 1)), (9, gs_iv (A (a + 1) p.toNat)), (8, gs_iv 0), (7, gs_iv 0), (6, gs_iv y), (5, gs_iv x), (4, gs_iv u), (0, .ref a), (2, .ref b)]) (List.forall_mem_cons.mpr ⟨(.head _), (List.forall_mem_cons.mpr ⟨(.tail _ (.tail _ (.tail _ (.head _)))), (List.forall_mem_cons.mpr ⟨(.tail _ (.head _)), (List.forall_mem_cons.mpr ⟨(.tail _ (.tail _ (.head _))), (List.forall_mem_cons.mpr ⟨(.tail _ (.tail _ (.tail _ (.tail _ (.tail _ (.tail _ (.head _))))))), (List.forall_mem_cons.mpr ⟨(.tail _ (.tail _ (.tail _ (.tail _ (.tail _ (.tail _ (.tail _ (.head _)))))))), (List.forall_mem_cons.mpr ⟨(.tail _ (.tail _ (.tail _ (.tail _ (.tail _ (.tail _ (.tail _ (.tail _ (.head _))))))))), (List.forall_mem_cons.mpr ⟨(.tail _ (.tail _ (.tail _ (.tail _ (.tail _ (.tail _ (.tail _ (.tail _ (.tail _ (.head _)))))))))), (List.forall_mem_cons.mpr ⟨(.tail _ (.tail _ (.tail _ (.tail _ (.tail _ (.tail _ (.tail _ (.tail _ (.tail _ (.tail _ (.head _))))))))))), (fun _ h => absurd h List.not_mem_nil)⟩)⟩)⟩)⟩)⟩)⟩)⟩)⟩)⟩) ?_
            exact ih u x y 0 0 (A (a + 1) p.toNat) (k + 1)  (by omega) (by omega) (by omega) (by omega) (by omega) (by omega) (by omega) i7 (by first | exact (mt_step i4 i8).1 (by omega) | exact (mt_step i4 i8).2 (by omega) | fail) (by first | exact (mt_step i5 i9).1 (by omega) | exact (mt_step i5 i9).2 (by omega) | fail) (.inr ⟨by omega, by rw [show k + 1 - 1 = k by omega]; exact hck⟩) (fun s h1 h2 => by by_cases h : s < k <;> first | exact i11 s h1 h | (rw [show s = k by omega, ← hck, ← hdk]; omega) | fail) (by omega)
      · skip
        refine sA_iload dd_X1_changeSides_108 (.tail _ (.tail _ (.tail _ (.tail _ (.tail _ (.tail _ (.tail _ (.tail _ (.head _))))))))) ?_
        refine sA_iload dd_X1_changeSides_110 (.tail _ (.tail _ (.tail _ (.tail _ (.tail _ (.tail _ (.tail _ (.head _)))))))) ?_
        refine sA_iload dd_X1_changeSides_112 (.tail _ (.tail _ (.tail _ (.tail _ (.tail _ (.tail _ (.head _))))))) ?_
        refine sA_callS (y2 := m_X1_goRound) (n2 := 3) (d2 := 2) (as := [gs_iv u, gs_iv x, gs_iv y]) (rest := []) dd_X1_changeSides_114 ok_X1_goRound ml_X1_44 rfl rfl (Nat.le_of_ble_eq_true rfl) (by decide) (c_X1_goRound_vf (by omega) (by omega) (by omega)) (fun r10 F11 A12 h13 => ?_)
        obtain ⟨z16, e15, e17, e18, x14⟩ := h13
        subst e15 e17 e18
        have y19 : (z16 = 1 ∧ mt_gr 12 u x y) ∨ (z16 = 0 ∧ ¬ mt_gr 12 u x y) := x14
        clear x14
        show sA _ _ _ 117 _ [gs_iv z16] _ _
        refine sA_iload dd_X1_changeSides_117 (.tail _ (.tail _ (.tail _ (.head _)))) ?_
        refine sA_ineg dd_X1_changeSides_119 ?_
        refine sA_iload dd_X1_changeSides_120 (.tail _ (.head _)) ?_
        refine sA_iload dd_X1_changeSides_122 (.head _) ?_
        refine sA_callS (y2 := m_X1_goRound) (n2 := 3) (d2 := 2) (as := [gs_iv (-l), gs_iv (A (a + 1) p.toNat), gs_iv (A (b + 1) q.toNat)]) (rest := [gs_iv z16]) dd_X1_changeSides_124 ok_X1_goRound ml_X1_44 rfl rfl (Nat.le_of_ble_eq_true rfl) (by decide) (c_X1_goRound_vf (by omega) (by omega) (by omega)) (fun r20 F21 A22 h23 => ?_)
        obtain ⟨z26, e25, e27, e28, x24⟩ := h23
        subst e25 e27 e28
        have y29 : (z26 = 1 ∧ mt_gr 12 (-l) (A (a + 1) p.toNat) (A (b + 1) q.toNat)) ∨ (z26 = 0 ∧ ¬ mt_gr 12 (-l) (A (a + 1) p.toNat) (A (b + 1) q.toNat)) := x24
        clear x24
        show sA _ _ _ 127 _ [gs_iv z26, gs_iv z16] _ _
        refine sA_icmp_ne (tgt := 134) dd_X1_changeSides_127 (by decide) (by omega) (by omega) (fun q30 => ?_) (fun q30 => ?_)
        · skip
          refine sA_iconst (z := 0) dd_X1_changeSides_134 ?_
          refine sA_bret (z := 0) dd_X1_changeSides_135 rfl (by omega) ?_
          refine ⟨_, rfl, rfl, rfl, ?_⟩
          have hk : k ≠ 0 := fun e => by
            rw [e, mt_at0 hi] at hck
            rw [e, mt_at0 hj] at hdk
            omega
          have hl : l = mt_at (A (a + 1)) (F a 1) i (k - 1) := by omega
          have y1 := y19
          have y2 := y29
          rw [i7.1, i7.2.1, i7.2.2] at y1
          rw [hl, hck, hdk] at y2
          have hcs := mt_cs_at (N := 12) (show 1 ≤ k by omega) i11 (by rw [← hck, ← hdk]; omega)
          rcases y1 with p1 | p1 <;> rcases y2 with p2 | p2 <;> first | (exfalso; omega) | exact .inl ⟨rfl, hcs.mpr ⟨fun _ => p2.2, fun _ => p1.2⟩⟩ | exact .inl ⟨rfl, hcs.mpr ⟨fun w => absurd w p1.2, fun w => absurd w p2.2⟩⟩ | exact .inr ⟨rfl, fun w => absurd ((hcs.mp w).mp p1.2) p2.2⟩ | exact .inr ⟨rfl, fun w => absurd ((hcs.mp w).mpr p2.2) p1.2⟩ | fail
        · skip
          refine sA_iconst (z := 1) dd_X1_changeSides_130 ?_
          refine sA_goto (tgt := 135) dd_X1_changeSides_131 (by decide) ?_
          refine sA_bret (z := 1) dd_X1_changeSides_135 rfl (by omega) ?_
          refine ⟨_, rfl, rfl, rfl, ?_⟩
          have hk : k ≠ 0 := fun e => by
            rw [e, mt_at0 hi] at hck
            rw [e, mt_at0 hj] at hdk
            omega
          have hl : l = mt_at (A (a + 1)) (F a 1) i (k - 1) := by omega
          have y1 := y19
          have y2 := y29
          rw [i7.1, i7.2.1, i7.2.2] at y1
          rw [hl, hck, hdk] at y2
          have hcs := mt_cs_at (N := 12) (show 1 ≤ k by omega) i11 (by rw [← hck, ← hdk]; omega)
          rcases y1 with p1 | p1 <;> rcases y2 with p2 | p2 <;> first | (exfalso; omega) | exact .inl ⟨rfl, hcs.mpr ⟨fun _ => p2.2, fun _ => p1.2⟩⟩ | exact .inl ⟨rfl, hcs.mpr ⟨fun w => absurd w p1.2, fun w => absurd w p2.2⟩⟩ | exact .inr ⟨rfl, fun w => absurd ((hcs.mp w).mp p1.2) p2.2⟩ | exact .inr ⟨rfl, fun w => absurd ((hcs.mp w).mpr p2.2) p1.2⟩ | fail
theorem c_X1_changeSides_vf {a L b M : Nat} {i j : Int} {F A : gs_F} (hI : gs_I F A) (hr : gs_row a L) (hi : 0 ≤ i ∧ i < F a 1) (ho : gs_row b M) (hj : 0 ≤ j ∧ j < F b 1) (heq : A (a + 1) i.toNat = A (b + 1) j.toNat) (hVu : gs_vl 3 (F a 1) (A (a + 1))) (hVv : gs_vl 3 (F b 1) (A (b + 1))) : sC m_X1_changeSides 3 [.ref a, gs_iv i, .ref b, gs_iv j] F A (fun rv F' A' => ∃ z : Int, rv = some (gs_iv z) ∧ F = F' ∧ A = A' ∧ ((z = 1 ∧ mt_cs 12 (A (a + 1)) (F a 1) (A (b + 1)) (F b 1) i j) ∨ (z = 0 ∧ ¬ mt_cs 12 (A (a + 1)) (F a 1) (A (b + 1)) (F b 1) i j))) := by
  refine sC_of ok_X1_changeSides.1 (Nat.le_of_ble_eq_true rfl) ?_
  show sA _ _ _ 0 [(0, .ref a), (1, gs_iv i), (2, .ref b), (3, gs_iv j)] [] F A
  have b31 := gs_row_sz hr hI
  have b32 := gs_row_sz ho hI
  refine sA_aload_n dd_X1_changeSides_0 rfl (.head _) ?_
  refine sA_getr (ci := 4) (j := 0) (q := (RX4, TX4, 2)) dd_X1_changeSides_1 rfl (by decide) fl_X1_32 (Nat.lt_of_succ_lt hr.1) hr.2.1 rfl ?_
  refine sA_iload_n dd_X1_changeSides_4 rfl (.tail _ (.head _)) ?_
  refine sA_iald (n := L) dd_X1_changeSides_5 hr.1 hr.2.2.1 (by omega) (Nat.le_trans hr.2.2.2.2.2.2 (by decide)) ?_
  have b33 := gs_row_el hr hI i.toNat
  have hl0 := hVu i.toNat (by omega)
  refine sA_istore (lv' := [(4, gs_iv (A (a + 1) i.toNat)), (0, .ref a), (1, gs_iv i), (2, .ref b), (3, gs_iv j)]) dd_X1_changeSides_6 (by decide) rfl ?_
  refine sA_aload_n dd_X1_changeSides_8 rfl (.tail _ (.head _)) ?_
  refine sA_getr (ci := 4) (j := 0) (q := (RX4, TX4, 2)) dd_X1_changeSides_9 rfl (by decide) fl_X1_32 (Nat.lt_of_succ_lt hr.1) hr.2.1 rfl ?_
  refine sA_iload_n dd_X1_changeSides_12 rfl (.tail _ (.tail _ (.head _))) ?_
  refine sA_if_ne (tgt := 25) dd_X1_changeSides_13 (by decide) (by omega) (fun q34 => ?_) (fun q34 => ?_)
  · skip
    refine sA_iload_n dd_X1_changeSides_25 rfl (.tail _ (.tail _ (.head _))) ?_
    refine sA_iconst (z := 1) dd_X1_changeSides_26 ?_
    refine sA_isub dd_X1_changeSides_27 ?_
    have hl1 := hVu (i - 1).toNat (by omega)
    refine sA_iald (n := L) dd_X1_changeSides_28 hr.1 hr.2.2.1 (by omega) (Nat.le_trans hr.2.2.2.2.2.2 (by decide)) ?_
    have b35 := gs_row_el hr hI (i - 1).toNat
    refine sA_ineg dd_X1_changeSides_29 ?_
    refine sA_istore (lv' := [(5, gs_iv (-(A (a + 1) (i - 1).toNat))), (4, gs_iv (A (a + 1) i.toNat)), (0, .ref a), (1, gs_iv i), (2, .ref b), (3, gs_iv j)]) dd_X1_changeSides_30 (by decide) rfl ?_
    refine sA_aload_n dd_X1_changeSides_32 rfl (.tail _ (.tail _ (.tail _ (.tail _ (.head _))))) ?_
    refine sA_getr (ci := 4) (j := 0) (q := (RX4, TX4, 2)) dd_X1_changeSides_33 rfl (by decide) fl_X1_32 (Nat.lt_of_succ_lt ho.1) ho.2.1 rfl ?_
    refine sA_iload_n dd_X1_changeSides_36 rfl (.tail _ (.tail _ (.tail _ (.tail _ (.tail _ (.head _)))))) ?_
    refine sA_if_ne (tgt := 49) dd_X1_changeSides_37 (by decide) (by omega) (fun q36 => ?_) (fun q36 => ?_)
    · skip
      refine sA_iload_n dd_X1_changeSides_49 rfl (.tail _ (.tail _ (.tail _ (.tail _ (.tail _ (.head _)))))) ?_
      refine sA_iconst (z := 1) dd_X1_changeSides_50 ?_
      refine sA_isub dd_X1_changeSides_51 ?_
      have hl2 := hVv (j - 1).toNat (by omega)
      refine sA_iald (n := M) dd_X1_changeSides_52 ho.1 ho.2.2.1 (by omega) (Nat.le_trans ho.2.2.2.2.2.2 (by decide)) ?_
      have b37 := gs_row_el ho hI (j - 1).toNat
      refine sA_ineg dd_X1_changeSides_53 ?_
      refine sA_istore (lv' := [(6, gs_iv (-(A (b + 1) (j - 1).toNat))), (5, gs_iv (-(A (a + 1) (i - 1).toNat))), (4, gs_iv (A (a + 1) i.toNat)), (0, .ref a), (1, gs_iv i), (2, .ref b), (3, gs_iv j)]) dd_X1_changeSides_54 (by decide) rfl ?_
      refine sA_iload_n dd_X1_changeSides_56 rfl (.tail _ (.tail _ (.tail _ (.tail _ (.head _))))) ?_
      refine sA_istore (lv' := [(7, gs_iv i), (6, gs_iv (-(A (b + 1) (j - 1).toNat))), (5, gs_iv (-(A (a + 1) (i - 1).toNat))), (4, gs_iv (A (a + 1) i.toNat)), (0, .ref a), (1, gs_iv i), (2, .ref b), (3, gs_iv j)]) dd_X1_changeSides_57 (by decide) rfl ?_
      refine sA_iload_n dd_X1_changeSides_59 rfl (.tail _ (.tail _ (.tail _ (.tail _ (.tail _ (.tail _ (.tail _ (.head _)))))))) ?_
      refine sA_istore (lv' := [(8, gs_iv j), (7, gs_iv i), (6, gs_iv (-(A (b + 1) (j - 1).toNat))), (5, gs_iv (-(A (a + 1) (i - 1).toNat))), (4, gs_iv (A (a + 1) i.toNat)), (0, .ref a), (1, gs_iv i), (2, .ref b), (3, gs_iv j)]) dd_X1_changeSides_60 (by decide) rfl ?_
      refine sA_iload dd_X1_changeSides_62 (.tail _ (.tail _ (.tail _ (.tail _ (.head _))))) ?_
      refine sA_istore (lv' := [(9, gs_iv (A (a + 1) i.toNat)), (8, gs_iv j), (7, gs_iv i), (6, gs_iv (-(A (b + 1) (j - 1).toNat))), (5, gs_iv (-(A (a + 1) (i - 1).toNat))), (4, gs_iv (A (a + 1) i.toNat)), (0, .ref a), (1, gs_iv i), (2, .ref b), (3, gs_iv j)]) dd_X1_changeSides_64 (by decide) rfl ?_
      refine sA_iconst (z := 0) dd_X1_changeSides_66 ?_
      refine sA_istore (lv' := [(10, gs_iv 0), (9, gs_iv (A (a + 1) i.toNat)), (8, gs_iv j), (7, gs_iv i), (6, gs_iv (-(A (b + 1) (j - 1).toNat))), (5, gs_iv (-(A (a + 1) (i - 1).toNat))), (4, gs_iv (A (a + 1) i.toNat)), (0, .ref a), (1, gs_iv i), (2, .ref b), (3, gs_iv j)]) dd_X1_changeSides_67 (by decide) rfl ?_
      refine sA_sub (lv2 := [(10, gs_iv 0), (9, gs_iv (A (a + 1) i.toNat)), (8, gs_iv j), (7, gs_iv i), (6, gs_iv (-(A (b + 1) (j - 1).toNat))), (5, gs_iv (-(A (a + 1) (i - 1).toNat))), (4, gs_iv (A (a + 1) i.toNat)), (0, .ref a), (2, .ref b)]) (List.forall_mem_cons.mpr ⟨(.head _), (List.forall_mem_cons.mpr ⟨(.tail _ (.head _)), (List.forall_mem_cons.mpr ⟨(.tail _ (.tail _ (.head _))), (List.forall_mem_cons.mpr ⟨(.tail _ (.tail _ (.tail _ (.head _)))), (List.forall_mem_cons.mpr ⟨(.tail _ (.tail _ (.tail _ (.tail _ (.head _))))), (List.forall_mem_cons.mpr ⟨(.tail _ (.tail _ (.tail _ (.tail _ (.tail _ (.head _)))))), (List.forall_mem_cons.mpr ⟨(.tail _ (.tail _ (.tail _ (.tail _ (.tail _ (.tail _ (.head _))))))), (List.forall_mem_cons.mpr ⟨(.tail _ (.tail _ (.tail _ (.tail _ (.tail _ (.tail _ (.tail _ (.head _)))))))), (List.forall_mem_cons.mpr ⟨(.tail _ (.tail _ (.tail _ (.tail _ (.tail _ (.tail _ (.tail _ (.tail _ (.tail _ (.head _)))))))))), (fun _ h => absurd h List.not_mem_nil)⟩)⟩)⟩)⟩)⟩)⟩)⟩)⟩)⟩) ?_
      exact (k_X1_changeSides_vf hI hr hi ho hj heq hVu hVv (F a 1 + F b 1 - 0 : Int).toNat.succ) (A (a + 1) i.toNat) (-(A (a + 1) (i - 1).toNat)) (-(A (b + 1) (j - 1).toNat)) i j (A (a + 1) i.toNat) 0  (by omega) (by omega) (by omega) (by omega) (by omega) (by omega) (by omega) ⟨(mt_at0 hi).symm, by first | rw [mt_atm0 (by omega) (by omega)] | rw [mt_atm1 (by omega) (by omega)], by first | rw [mt_atm0 (by omega) (by omega)] | rw [mt_atm1 (by omega) (by omega)] | fail⟩ (by rw [Int.add_zero]; exact (Int.emod_eq_of_lt hi.1 hi.2).symm) (by rw [Int.add_zero]; exact (Int.emod_eq_of_lt hj.1 hj.2).symm) (.inl ⟨rfl, rfl⟩) (fun s h1 h2 => by exfalso; omega) (by omega)
    · skip
      refine sA_aload_n dd_X1_changeSides_40 rfl (.tail _ (.tail _ (.tail _ (.tail _ (.head _))))) ?_
      refine sA_geti (ci := 4) (j := 1) (q := (RX4, TX4, 2)) dd_X1_changeSides_41 rfl (by decide) fl_X1_28 (Nat.lt_of_succ_lt ho.1) ho.2.1 rfl ?_
      refine sA_iconst (z := 1) dd_X1_changeSides_44 ?_
      refine sA_isub dd_X1_changeSides_45 ?_
      refine sA_goto (tgt := 52) dd_X1_changeSides_46 (by decide) ?_
      have hl2 := hVv ((F b 1) - 1).toNat (by omega)
      refine sA_iald (n := M) dd_X1_changeSides_52 ho.1 ho.2.2.1 (by omega) (Nat.le_trans ho.2.2.2.2.2.2 (by decide)) ?_
      have b38 := gs_row_el ho hI ((F b 1) - 1).toNat
      refine sA_ineg dd_X1_changeSides_53 ?_
      refine sA_istore (lv' := [(6, gs_iv (-(A (b + 1) ((F b 1) - 1).toNat))), (5, gs_iv (-(A (a + 1) (i - 1).toNat))), (4, gs_iv (A (a + 1) i.toNat)), (0, .ref a), (1, gs_iv i), (2, .ref b), (3, gs_iv j)]) dd_X1_changeSides_54 (by decide) rfl ?_
      refine sA_iload_n dd_X1_changeSides_56 rfl (.tail _ (.tail _ (.tail _ (.tail _ (.head _))))) ?_
      refine sA_istore (lv' := [(7, gs_iv i), (6, gs_iv (-(A (b + 1) ((F b 1) - 1).toNat))), (5, gs_iv (-(A (a + 1) (i - 1).toNat))), (4, gs_iv (A (a + 1) i.toNat)), (0, .ref a), (1, gs_iv i), (2, .ref b), (3, gs_iv j)]) dd_X1_changeSides_57 (by decide) rfl ?_
      refine sA_iload_n dd_X1_changeSides_59 rfl (.tail _ (.tail _ (.tail _ (.tail _ (.tail _ (.tail _ (.tail _ (.head _)))))))) ?_
      refine sA_istore (lv' := [(8, gs_iv j), (7, gs_iv i), (6, gs_iv (-(A (b + 1) ((F b 1) - 1).toNat))), (5, gs_iv (-(A (a + 1) (i - 1).toNat))), (4, gs_iv (A (a + 1) i.toNat)), (0, .ref a), (1, gs_iv i), (2, .ref b), (3, gs_iv j)]) dd_X1_changeSides_60 (by decide) rfl ?_
      refine sA_iload dd_X1_changeSides_62 (.tail _ (.tail _ (.tail _ (.tail _ (.head _))))) ?_
      refine sA_istore (lv' := [(9, gs_iv (A (a + 1) i.toNat)), (8, gs_iv j), (7, gs_iv i), (6, gs_iv (-(A (b + 1) ((F b 1) - 1).toNat))), (5, gs_iv (-(A (a + 1) (i - 1).toNat))), (4, gs_iv (A (a + 1) i.toNat)), (0, .ref a), (1, gs_iv i), (2, .ref b), (3, gs_iv j)]) dd_X1_changeSides_64 (by decide) rfl ?_
      refine sA_iconst (z := 0) dd_X1_changeSides_66 ?_
      refine sA_istore (lv' := [(10, gs_iv 0), (9, gs_iv (A (a + 1) i.toNat)), (8, gs_iv j), (7, gs_iv i), (6, gs_iv (-(A (b + 1) ((F b 1) - 1).toNat))), (5, gs_iv (-(A (a + 1) (i - 1).toNat))), (4, gs_iv (A (a + 1) i.toNat)), (0, .ref a), (1, gs_iv i), (2, .ref b), (3, gs_iv j)]) dd_X1_changeSides_67 (by decide) rfl ?_
      refine sA_sub (lv2 := [(10, gs_iv 0), (9, gs_iv (A (a + 1) i.toNat)), (8, gs_iv j), (7, gs_iv i), (6, gs_iv (-(A (b + 1) ((F b 1) - 1).toNat))), (5, gs_iv (-(A (a + 1) (i - 1).toNat))), (4, gs_iv (A (a + 1) i.toNat)), (0, .ref a), (2, .ref b)]) (List.forall_mem_cons.mpr ⟨(.head _), (List.forall_mem_cons.mpr ⟨(.tail _ (.head _)), (List.forall_mem_cons.mpr ⟨(.tail _ (.tail _ (.head _))), (List.forall_mem_cons.mpr ⟨(.tail _ (.tail _ (.tail _ (.head _)))), (List.forall_mem_cons.mpr ⟨(.tail _ (.tail _ (.tail _ (.tail _ (.head _))))), (List.forall_mem_cons.mpr ⟨(.tail _ (.tail _ (.tail _ (.tail _ (.tail _ (.head _)))))), (List.forall_mem_cons.mpr ⟨(.tail _ (.tail _ (.tail _ (.tail _ (.tail _ (.tail _ (.head _))))))), (List.forall_mem_cons.mpr ⟨(.tail _ (.tail _ (.tail _ (.tail _ (.tail _ (.tail _ (.tail _ (.head _)))))))), (List.forall_mem_cons.mpr ⟨(.tail _ (.tail _ (.tail _ (.tail _ (.tail _ (.tail _ (.tail _ (.tail _ (.tail _ (.head _)))))))))), (fun _ h => absurd h List.not_mem_nil)⟩)⟩)⟩)⟩)⟩)⟩)⟩)⟩)⟩) ?_
      exact (k_X1_changeSides_vf hI hr hi ho hj heq hVu hVv (F a 1 + F b 1 - 0 : Int).toNat.succ) (A (a + 1) i.toNat) (-(A (a + 1) (i - 1).toNat)) (-(A (b + 1) ((F b 1) - 1).toNat)) i j (A (a + 1) i.toNat) 0  (by omega) (by omega) (by omega) (by omega) (by omega) (by omega) (by omega) ⟨(mt_at0 hi).symm, by first | rw [mt_atm0 (by omega) (by omega)] | rw [mt_atm1 (by omega) (by omega)], by first | rw [mt_atm0 (by omega) (by omega)] | rw [mt_atm1 (by omega) (by omega)] | fail⟩ (by rw [Int.add_zero]; exact (Int.emod_eq_of_lt hi.1 hi.2).symm) (by rw [Int.add_zero]; exact (Int.emod_eq_of_lt hj.1 hj.2).symm) (.inl ⟨rfl, rfl⟩) (fun s h1 h2 => by exfalso; omega) (by omega)
  · skip
    refine sA_aload_n dd_X1_changeSides_16 rfl (.tail _ (.head _)) ?_
    refine sA_geti (ci := 4) (j := 1) (q := (RX4, TX4, 2)) dd_X1_changeSides_17 rfl (by decide) fl_X1_28 (Nat.lt_of_succ_lt hr.1) hr.2.1 rfl ?_
    refine sA_iconst (z := 1) dd_X1_changeSides_20 ?_
    refine sA_isub dd_X1_changeSides_21 ?_
    refine sA_goto (tgt := 28) dd_X1_changeSides_22 (by decide) ?_
    have hl1 := hVu ((F a 1) - 1).toNat (by omega)
    refine sA_iald (n := L) dd_X1_changeSides_28 hr.1 hr.2.2.1 (by omega) (Nat.le_trans hr.2.2.2.2.2.2 (by decide)) ?_
    have b39 := gs_row_el hr hI ((F a 1) - 1).toNat
    refine sA_ineg dd_X1_changeSides_29 ?_
    refine sA_istore (lv' := [(5, gs_iv (-(A (a + 1) ((F a 1) - 1).toNat))), (4, gs_iv (A (a + 1) i.toNat)), (0, .ref a), (1, gs_iv i), (2, .ref b), (3, gs_iv j)]) dd_X1_changeSides_30 (by decide) rfl ?_
    refine sA_aload_n dd_X1_changeSides_32 rfl (.tail _ (.tail _ (.tail _ (.tail _ (.head _))))) ?_
    refine sA_getr (ci := 4) (j := 0) (q := (RX4, TX4, 2)) dd_X1_changeSides_33 rfl (by decide) fl_X1_32 (Nat.lt_of_succ_lt ho.1) ho.2.1 rfl ?_
    refine sA_iload_n dd_X1_changeSides_36 rfl (.tail _ (.tail _ (.tail _ (.tail _ (.tail _ (.head _)))))) ?_
    refine sA_if_ne (tgt := 49) dd_X1_changeSides_37 (by decide) (by omega) (fun q40 => ?_) (fun q40 => ?_)
    · skip
      refine sA_iload_n dd_X1_changeSides_49 rfl (.tail _ (.tail _ (.tail _ (.tail _ (.tail _ (.head _)))))) ?_
      refine sA_iconst (z := 1) dd_X1_changeSides_50 ?_
      refine sA_isub dd_X1_changeSides_51 ?_
      have hl2 := hVv (j - 1).toNat (by omega)
      refine sA_iald (n := M) dd_X1_changeSides_52 ho.1 ho.2.2.1 (by omega) (Nat.le_trans ho.2.2.2.2.2.2 (by decide)) ?_
      have b41 := gs_row_el ho hI (j - 1).toNat
      refine sA_ineg dd_X1_changeSides_53 ?_
      refine sA_istore (lv' := [(6, gs_iv (-(A (b + 1) (j - 1).toNat))), (5, gs_iv (-(A (a + 1) ((F a 1) - 1).toNat))), (4, gs_iv (A (a + 1) i.toNat)), (0, .ref a), (1, gs_iv i), (2, .ref b), (3, gs_iv j)]) dd_X1_changeSides_54 (by decide) rfl ?_
      refine sA_iload_n dd_X1_changeSides_56 rfl (.tail _ (.tail _ (.tail _ (.tail _ (.head _))))) ?_
      refine sA_istore (lv' := [(7, gs_iv i), (6, gs_iv (-(A (b + 1) (j - 1).toNat))), (5, gs_iv (-(A (a + 1) ((F a 1) - 1).toNat))), (4, gs_iv (A (a + 1) i.toNat)), (0, .ref a), (1, gs_iv i), (2, .ref b), (3, gs_iv j)]) dd_X1_changeSides_57 (by decide) rfl ?_
      refine sA_iload_n dd_X1_changeSides_59 rfl (.tail _ (.tail _ (.tail _ (.tail _ (.tail _ (.tail _ (.tail _ (.head _)))))))) ?_
      refine sA_istore (lv' := [(8, gs_iv j), (7, gs_iv i), (6, gs_iv (-(A (b + 1) (j - 1).toNat))), (5, gs_iv (-(A (a + 1) ((F a 1) - 1).toNat))), (4, gs_iv (A (a + 1) i.toNat)), (0, .ref a), (1, gs_iv i), (2, .ref b), (3, gs_iv j)]) dd_X1_changeSides_60 (by decide) rfl ?_
      refine sA_iload dd_X1_changeSides_62 (.tail _ (.tail _ (.tail _ (.tail _ (.head _))))) ?_
      refine sA_istore (lv' := [(9, gs_iv (A (a + 1) i.toNat)), (8, gs_iv j), (7, gs_iv i), (6, gs_iv (-(A (b + 1) (j - 1).toNat))), (5, gs_iv (-(A (a + 1) ((F a 1) - 1).toNat))), (4, gs_iv (A (a + 1) i.toNat)), (0, .ref a), (1, gs_iv i), (2, .ref b), (3, gs_iv j)]) dd_X1_changeSides_64 (by decide) rfl ?_
      refine sA_iconst (z := 0) dd_X1_changeSides_66 ?_
      refine sA_istore (lv' := [(10, gs_iv 0), (9, gs_iv (A (a + 1) i.toNat)), (8, gs_iv j), (7, gs_iv i), (6, gs_iv (-(A (b + 1) (j - 1).toNat))), (5, gs_iv (-(A (a + 1) ((F a 1) - 1).toNat))), (4, gs_iv (A (a + 1) i.toNat)), (0, .ref a), (1, gs_iv i), (2, .ref b), (3, gs_iv j)]) dd_X1_changeSides_67 (by decide) rfl ?_
      refine sA_sub (lv2 := [(10, gs_iv 0), (9, gs_iv (A (a + 1) i.toNat)), (8, gs_iv j), (7, gs_iv i), (6, gs_iv (-(A (b + 1) (j - 1).toNat))), (5, gs_iv (-(A (a + 1) ((F a 1) - 1).toNat))), (4, gs_iv (A (a + 1) i.toNat)), (0, .ref a), (2, .ref b)]) (List.forall_mem_cons.mpr ⟨(.head _), (List.forall_mem_cons.mpr ⟨(.tail _ (.head _)), (List.forall_mem_cons.mpr ⟨(.tail _ (.tail _ (.head _))), (List.forall_mem_cons.mpr ⟨(.tail _ (.tail _ (.tail _ (.head _)))), (List.forall_mem_cons.mpr ⟨(.tail _ (.tail _ (.tail _ (.tail _ (.head _))))), (List.forall_mem_cons.mpr ⟨(.tail _ (.tail _ (.tail _ (.tail _ (.tail _ (.head _)))))), (List.forall_mem_cons.mpr ⟨(.tail _ (.tail _ (.tail _ (.tail _ (.tail _ (.tail _ (.head _))))))), (List.forall_mem_cons.mpr ⟨(.tail _ (.tail _ (.tail _ (.tail _ (.tail _ (.tail _ (.tail _ (.head _)))))))), (List.forall_mem_cons.mpr ⟨(.tail _ (.tail _ (.tail _ (.tail _ (.tail _ (.tail _ (.tail _ (.tail _ (.tail _ (.head _)))))))))), (fun _ h => absurd h List.not_mem_nil)⟩)⟩)⟩)⟩)⟩)⟩)⟩)⟩)⟩) ?_
      exact (k_X1_changeSides_vf hI hr hi ho hj heq hVu hVv (F a 1 + F b 1 - 0 : Int).toNat.succ) (A (a + 1) i.toNat) (-(A (a + 1) ((F a 1) - 1).toNat)) (-(A (b + 1) (j - 1).toNat)) i j (A (a + 1) i.toNat) 0  (by omega) (by omega) (by omega) (by omega) (by omega) (by omega) (by omega) ⟨(mt_at0 hi).symm, by first | rw [mt_atm0 (by omega) (by omega)] | rw [mt_atm1 (by omega) (by omega)], by first | rw [mt_atm0 (by omega) (by omega)] | rw [mt_atm1 (by omega) (by omega)] | fail⟩ (by rw [Int.add_zero]; exact (Int.emod_eq_of_lt hi.1 hi.2).symm) (by rw [Int.add_zero]; exact (Int.emod_eq_of_lt hj.1 hj.2).symm) (.inl ⟨rfl, rfl⟩) (fun s h1 h2 => by exfalso; omega) (by omega)
    · skip
      refine sA_aload_n dd_X1_changeSides_40 rfl (.tail _ (.tail _ (.tail _ (.tail _ (.head _))))) ?_
      refine sA_geti (ci := 4) (j := 1) (q := (RX4, TX4, 2)) dd_X1_changeSides_41 rfl (by decide) fl_X1_28 (Nat.lt_of_succ_lt ho.1) ho.2.1 rfl ?_
      refine sA_iconst (z := 1) dd_X1_changeSides_44 ?_
      refine sA_isub dd_X1_changeSides_45 ?_
      refine sA_goto (tgt := 52) dd_X1_changeSides_46 (by decide) ?_
      have hl2 := hVv ((F b 1) - 1).toNat (by omega)
      refine sA_iald (n := M) dd_X1_changeSides_52 ho.1 ho.2.2.1 (by omega) (Nat.le_trans ho.2.2.2.2.2.2 (by decide)) ?_
      have b42 := gs_row_el ho hI ((F b 1) - 1).toNat
      refine sA_ineg dd_X1_changeSides_53 ?_
      refine sA_istore (lv' := [(6, gs_iv (-(A (b + 1) ((F b 1) - 1).toNat))), (5, gs_iv (-(A (a + 1) ((F a 1) - 1).toNat))), (4, gs_iv (A (a + 1) i.toNat)), (0, .ref a), (1, gs_iv i), (2, .ref b), (3, gs_iv j)]) dd_X1_changeSides_54 (by decide) rfl ?_
      refine sA_iload_n dd_X1_changeSides_56 rfl (.tail _ (.tail _ (.tail _ (.tail _ (.head _))))) ?_
      refine sA_istore (lv' := [(7, gs_iv i), (6, gs_iv (-(A (b + 1) ((F b 1) - 1).toNat))), (5, gs_iv (-(A (a + 1) ((F a 1) - 1).toNat))), (4, gs_iv (A (a + 1) i.toNat)), (0, .ref a), (1, gs_iv i), (2, .ref b), (3, gs_iv j)]) dd_X1_changeSides_57 (by decide) rfl ?_
      refine sA_iload_n dd_X1_changeSides_59 rfl (.tail _ (.tail _ (.tail _ (.tail _ (.tail _ (.tail _ (.tail _ (.head _)))))))) ?_
      refine sA_istore (lv' := [(8, gs_iv j), (7, gs_iv i), (6, gs_iv (-(A (b + 1) ((F b 1) - 1).toNat))), (5, gs_iv (-(A (a + 1) ((F a 1) - 1).toNat))), (4, gs_iv (A (a + 1) i.toNat)), (0, .ref a), (1, gs_iv i), (2, .ref b), (3, gs_iv j)]) dd_X1_changeSides_60 (by decide) rfl ?_
      refine sA_iload dd_X1_changeSides_62 (.tail _ (.tail _ (.tail _ (.tail _ (.head _))))) ?_
      refine sA_istore (lv' := [(9, gs_iv (A (a + 1) i.toNat)), (8, gs_iv j), (7, gs_iv i), (6, gs_iv (-(A (b + 1) ((F b 1) - 1).toNat))), (5, gs_iv (-(A (a + 1) ((F a 1) - 1).toNat))), (4, gs_iv (A (a + 1) i.toNat)), (0, .ref a), (1, gs_iv i), (2, .ref b), (3, gs_iv j)]) dd_X1_changeSides_64 (by decide) rfl ?_
      refine sA_iconst (z := 0) dd_X1_changeSides_66 ?_
      refine sA_istore (lv' := [(10, gs_iv 0), (9, gs_iv (A (a + 1) i.toNat)), (8, gs_iv j), (7, gs_iv i), (6, gs_iv (-(A (b + 1) ((F b 1) - 1).toNat))), (5, gs_iv (-(A (a + 1) ((F a 1) - 1).toNat))), (4, gs_iv (A (a + 1) i.toNat)), (0, .ref a), (1, gs_iv i), (2, .ref b), (3, gs_iv j)]) dd_X1_changeSides_67 (by decide) rfl ?_
      refine sA_sub (lv2 := [(10, gs_iv 0), (9, gs_iv (A (a + 1) i.toNat)), (8, gs_iv j), (7, gs_iv i), (6, gs_iv (-(A (b + 1) ((F b 1) - 1).toNat))), (5, gs_iv (-(A (a + 1) ((F a 1) - 1).toNat))), (4, gs_iv (A (a + 1) i.toNat)), (0, .ref a), (2, .ref b)]) (List.forall_mem_cons.mpr ⟨(.head _), (List.forall_mem_cons.mpr ⟨(.tail _ (.head _)), (List.forall_mem_cons.mpr ⟨(.tail _ (.tail _ (.head _))), (List.forall_mem_cons.mpr ⟨(.tail _ (.tail _ (.tail _ (.head _)))), (List.forall_mem_cons.mpr ⟨(.tail _ (.tail _ (.tail _ (.tail _ (.head _))))), (List.forall_mem_cons.mpr ⟨(.tail _ (.tail _ (.tail _ (.tail _ (.tail _ (.head _)))))), (List.forall_mem_cons.mpr ⟨(.tail _ (.tail _ (.tail _ (.tail _ (.tail _ (.tail _ (.head _))))))), (List.forall_mem_cons.mpr ⟨(.tail _ (.tail _ (.tail _ (.tail _ (.tail _ (.tail _ (.tail _ (.head _)))))))), (List.forall_mem_cons.mpr ⟨(.tail _ (.tail _ (.tail _ (.tail _ (.tail _ (.tail _ (.tail _ (.tail _ (.tail _ (.head _)))))))))), (fun _ h => absurd h List.not_mem_nil)⟩)⟩)⟩)⟩)⟩)⟩)⟩)⟩)⟩) ?_
      exact (k_X1_changeSides_vf hI hr hi ho hj heq hVu hVv (F a 1 + F b 1 - 0 : Int).toNat.succ) (A (a + 1) i.toNat) (-(A (a + 1) ((F a 1) - 1).toNat)) (-(A (b + 1) ((F b 1) - 1).toNat)) i j (A (a + 1) i.toNat) 0  (by omega) (by omega) (by omega) (by omega) (by omega) (by omega) (by omega) ⟨(mt_at0 hi).symm, by first | rw [mt_atm0 (by omega) (by omega)] | rw [mt_atm1 (by omega) (by omega)], by first | rw [mt_atm0 (by omega) (by omega)] | rw [mt_atm1 (by omega) (by omega)] | fail⟩ (by rw [Int.add_zero]; exact (Int.emod_eq_of_lt hi.1 hi.2).symm) (by rw [Int.add_zero]; exact (Int.emod_eq_of_lt hj.1 hj.2).symm) (.inl ⟨rfl, rfl⟩) (fun s h1 h2 => by exfalso; omega) (by omega)
theorem k_X1_crossings_vf {a L b M : Nat} {g : Int} {F A : gs_F} (hI : gs_I F A) (hr : gs_row a L) (ho : gs_row b M) (hg : g = 0 ∨ g = 1) (hVu : gs_vl 3 (F a 1) (A (a + 1))) (hVv : gs_vl 3 (F b 1) (A (b + 1))) : ∀ nN : Nat, (∀ (s : Int) (i : Int),  0 ≤ i ∧ i ≤ F a 1 → 0 ≤ s ∧ s ≤ 400 * i → s = mt_s2 (mt_pr 12 g (A (a + 1)) (F a 1) (A (b + 1)) (F b 1)) (F b 1).toNat i.toNat → (F a 1 - i) * 402 + 1 < (nN : Int) → sA m_X1_crossings 4 (fun rv F' A' => ∃ z : Int, rv = some (gs_iv z) ∧ F = F' ∧ A = A' ∧ ((0 ≤ z ∧ z ≤ 160000) ∧ z = mt_ct 12 g (A (a + 1)) (F a 1) (A (b + 1)) (F b 1))) 5 [(4, gs_iv i), (3, gs_iv s), (0, .ref a), (1, .ref b), (2, gs_iv g)] [] F A) ∧ (∀ (s : Int) (i : Int) (u : Int) (x : Int) (j : Int),  0 ≤ i ∧ i < F a 1 → 0 ≤ j ∧ j ≤ F b 1 → 0 ≤ s ∧ s ≤ 400 * i + j → -6 ≤ u ∧ u ≤ 6 ∧ u ≠ 0 → -6 ≤ x ∧ x ≤ 6 ∧ x ≠ 0 → F b 1 ≤ 400 → s = mt_s2 (mt_pr 12 g (A (a + 1)) (F a 1) (A (b + 1)) (F b 1)) (F b 1).toNat i.toNat + mt_s1 (mt_pr 12 g (A (a + 1)) (F a 1) (A (b + 1)) (F b 1) i) j.toNat → u = A (a + 1) i.toNat → x = -(mt_at (A (a + 1)) (F a 1) i (-1)) → (F a 1 - i) * 402 - j < (nN : Int) → sA m_X1_crossings 4 (fun rv F' A' => ∃ z : Int, rv = some (gs_iv z) ∧ F = F' ∧ A = A' ∧ ((0 ≤ z ∧ z ≤ 160000) ∧ z = mt_ct 12 g (A (a + 1)) (F a 1) (A (b + 1)) (F b 1))) 52 [(7, gs_iv j), (6, gs_iv x), (5, gs_iv u), (4, gs_iv i), (3, gs_iv s), (0, .ref a), (1, .ref b), (2, gs_iv g)] [] F A) := by
  intro nN
  induction nN with
  | zero =>
    exact ⟨fun a0 a1 i0 i1 i2 hm => by exfalso; omega, fun a0 a1 a2 a3 a4 i0 i1 i2 i3 i4 i5 i6 i7 i8 hm => by exfalso; omega⟩
  | succ nN ih =>
    refine ⟨?_, ?_⟩
    · skip
      intro s i i0 i1 i2 hm
      have b1 := gs_row_sz hr hI
      have b2 := gs_row_sz ho hI
      have hLL := gs_row_sz hr hI
      have hMM := gs_row_sz ho hI
      refine sA_iload dd_X1_crossings_5 (.head _) ?_
      refine sA_aload_n dd_X1_crossings_7 rfl (.tail _ (.tail _ (.head _))) ?_
      refine sA_geti (ci := 4) (j := 1) (q := (RX4, TX4, 2)) dd_X1_crossings_8 rfl (by decide) fl_X1_28 (Nat.lt_of_succ_lt hr.1) hr.2.1 rfl ?_
      refine sA_icmp_ge (tgt := 168) dd_X1_crossings_11 (by decide) (by omega) (by omega) (fun q3 => ?_) (fun q3 => ?_)
      · skip
        refine sA_iload_n dd_X1_crossings_168 rfl (.tail _ (.head _)) ?_
        refine sA_iret (z := s) dd_X1_crossings_169 rfl ?_
        refine ⟨_, rfl, rfl, rfl, ?_⟩
        refine ⟨by omega, ?_⟩
        unfold mt_ct
        exact i2.trans (by rw [show i.toNat = (F a 1).toNat by omega])
      · skip
        refine sA_aload_n dd_X1_crossings_14 rfl (.tail _ (.tail _ (.head _))) ?_
        refine sA_getr (ci := 4) (j := 0) (q := (RX4, TX4, 2)) dd_X1_crossings_15 rfl (by decide) fl_X1_32 (Nat.lt_of_succ_lt hr.1) hr.2.1 rfl ?_
        refine sA_iload dd_X1_crossings_18 (.head _) ?_
        refine sA_iald (n := L) dd_X1_crossings_20 hr.1 hr.2.2.1 (by omega) (Nat.le_trans hr.2.2.2.2.2.2 (by decide)) ?_
        have b4 := gs_row_el hr hI i.toNat
        have hl0 := hVu i.toNat (by omega)
        refine sA_istore (lv' := [(5, gs_iv (A (a + 1) i.toNat)), (4, gs_iv i), (3, gs_iv s), (0, .ref a), (1, .ref b), (2, gs_iv g)]) dd_X1_crossings_21 (by decide) rfl ?_
        refine sA_aload_n dd_X1_crossings_23 rfl (.tail _ (.tail _ (.tail _ (.head _)))) ?_
        refine sA_getr (ci := 4) (j := 0) (q := (RX4, TX4, 2)) dd_X1_crossings_24 rfl (by decide) fl_X1_32 (Nat.lt_of_succ_lt hr.1) hr.2.1 rfl ?_
        refine sA_iload dd_X1_crossings_27 (.tail _ (.head _)) ?_
        refine sA_if_ne (tgt := 41) dd_X1_crossings_29 (by decide) (by omega) (fun q5 => ?_) (fun q5 => ?_)
        · skip
          refine sA_iload dd_X1_crossings_41 (.tail _ (.head _)) ?_
          refine sA_iconst (z := 1) dd_X1_crossings_43 ?_
          refine sA_isub dd_X1_crossings_44 ?_
          have hl1 := hVu (i - 1).toNat (by omega)
          refine sA_iald (n := L) dd_X1_crossings_45 hr.1 hr.2.2.1 (by omega) (Nat.le_trans hr.2.2.2.2.2.2 (by decide)) ?_
          have b6 := gs_row_el hr hI (i - 1).toNat
          refine sA_ineg dd_X1_crossings_46 ?_
          refine sA_istore (lv' := [(6, gs_iv (-(A (a + 1) (i - 1).toNat))), (5, gs_iv (A (a + 1) i.toNat)), (4, gs_iv i), (3, gs_iv s), (0, .ref a), (1, .ref b), (2, gs_iv g)]) dd_X1_crossings_47 (by decide) rfl ?_
          refine sA_iconst (z := 0) dd_X1_crossings_49 ?_
          refine sA_istore (lv' := [(7, gs_iv 0), (6, gs_iv (-(A (a + 1) (i - 1).toNat))), (5, gs_iv (A (a + 1) i.toNat)), (4, gs_iv i), (3, gs_iv s), (0, .ref a), (1, .ref b), (2, gs_iv g)]) dd_X1_crossings_50 (by decide) rfl ?_
          refine sA_sub (lv2 := [(7, gs_iv 0), (6, gs_iv (-(A (a + 1) (i - 1).toNat))), (5, gs_iv (A (a + 1) i.toNat)), (4, gs_iv i), (3, gs_iv s), (0, .ref a), (1, .ref b), (2, gs_iv g)]) (List.forall_mem_cons.mpr ⟨(.head _), (List.forall_mem_cons.mpr ⟨(.tail _ (.head _)), (List.forall_mem_cons.mpr ⟨(.tail _ (.tail _ (.head _))), (List.forall_mem_cons.mpr ⟨(.tail _ (.tail _ (.tail _ (.head _)))), (List.forall_mem_cons.mpr ⟨(.tail _ (.tail _ (.tail _ (.tail _ (.head _))))), (List.forall_mem_cons.mpr ⟨(.tail _ (.tail _ (.tail _ (.tail _ (.tail _ (.head _)))))), (List.forall_mem_cons.mpr ⟨(.tail _ (.tail _ (.tail _ (.tail _ (.tail _ (.tail _ (.head _))))))), (List.forall_mem_cons.mpr ⟨(.tail _ (.tail _ (.tail _ (.tail _ (.tail _ (.tail _ (.tail _ (.head _)))))))), (fun _ h => absurd h List.not_mem_nil)⟩)⟩)⟩)⟩)⟩)⟩)⟩)⟩) ?_
          exact ih.2 s i (A (a + 1) i.toNat) (-(A (a + 1) (i - 1).toNat)) 0  (by omega) (by omega) (by omega) (by omega) (by omega) (by omega) (by rw [show (0 : Int).toNat = 0 from rfl]; show _ = _ + (0 : Int); rw [Int.add_zero]; exact i2) rfl (by first | rw [mt_atm0 (by omega) (by omega)] | rw [mt_atm1 (by omega) (by omega)] | fail) (by omega)
        · skip
          refine sA_aload_n dd_X1_crossings_32 rfl (.tail _ (.tail _ (.tail _ (.head _)))) ?_
          refine sA_geti (ci := 4) (j := 1) (q := (RX4, TX4, 2)) dd_X1_crossings_33 rfl (by decide) fl_X1_28 (Nat.lt_of_succ_lt hr.1) hr.2.1 rfl ?_
          refine sA_iconst (z := 1) dd_X1_crossings_36 ?_
          refine sA_isub dd_X1_crossings_37 ?_
          refine sA_goto (tgt := 45) dd_X1_crossings_38 (by decide) ?_
          have hl1 := hVu ((F a 1) - 1).toNat (by omega)
          refine sA_iald (n := L) dd_X1_crossings_45 hr.1 hr.2.2.1 (by omega) (Nat.le_trans hr.2.2.2.2.2.2 (by decide)) ?_
          have b7 := gs_row_el hr hI ((F a 1) - 1).toNat
          refine sA_ineg dd_X1_crossings_46 ?_
          refine sA_istore (lv' := [(6, gs_iv (-(A (a + 1) ((F a 1) - 1).toNat))), (5, gs_iv (A (a + 1) i.toNat)), (4, gs_iv i), (3, gs_iv s), (0, .ref a), (1, .ref b), (2, gs_iv g)]) dd_X1_crossings_47 (by decide) rfl ?_
          refine sA_iconst (z := 0) dd_X1_crossings_49 ?_
          refine sA_istore (lv' := [(7, gs_iv 0), (6, gs_iv (-(A (a + 1) ((F a 1) - 1).toNat))), (5, gs_iv (A (a + 1) i.toNat)), (4, gs_iv i), (3, gs_iv s), (0, .ref a), (1, .ref b), (2, gs_iv g)]) dd_X1_crossings_50 (by decide) rfl ?_
          refine sA_sub (lv2 := [(7, gs_iv 0), (6, gs_iv (-(A (a + 1) ((F a 1) - 1).toNat))), (5, gs_iv (A (a + 1) i.toNat)), (4, gs_iv i), (3, gs_iv s), (0, .ref a), (1, .ref b), (2, gs_iv g)]) (List.forall_mem_cons.mpr ⟨(.head _), (List.forall_mem_cons.mpr ⟨(.tail _ (.head _)), (List.forall_mem_cons.mpr ⟨(.tail _ (.tail _ (.head _))), (List.forall_mem_cons.mpr ⟨(.tail _ (.tail _ (.tail _ (.head _)))), (List.forall_mem_cons.mpr ⟨(.tail _ (.tail _ (.tail _ (.tail _ (.head _))))), (List.forall_mem_cons.mpr ⟨(.tail _ (.tail _ (.tail _ (.tail _ (.tail _ (.head _)))))), (List.forall_mem_cons.mpr ⟨(.tail _ (.tail _ (.tail _ (.tail _ (.tail _ (.tail _ (.head _))))))), (List.forall_mem_cons.mpr ⟨(.tail _ (.tail _ (.tail _ (.tail _ (.tail _ (.tail _ (.tail _ (.head _)))))))), (fun _ h => absurd h List.not_mem_nil)⟩)⟩)⟩)⟩)⟩)⟩)⟩)⟩) ?_
          exact ih.2 s i (A (a + 1) i.toNat) (-(A (a + 1) ((F a 1) - 1).toNat)) 0  (by omega) (by omega) (by omega) (by omega) (by omega) (by omega) (by rw [show (0 : Int).toNat = 0 from rfl]; show _ = _ + (0 : Int); rw [Int.add_zero]; exact i2) rfl (by first | rw [mt_atm0 (by omega) (by omega)] | rw [mt_atm1 (by omega) (by omega)] | fail) (by omega)
    · skip
      intro s i u x j i0 i1 i2 i3 i4 i5 i6 i7 i8 hm
      have b8 := gs_row_sz hr hI
      have b9 := gs_row_sz ho hI
      have hLL := gs_row_sz hr hI
      have hMM := gs_row_sz ho hI
      refine sA_iload dd_X1_crossings_52 (.head _) ?_
      refine sA_aload_n dd_X1_crossings_54 rfl (.tail _ (.tail _ (.tail _ (.tail _ (.tail _ (.tail _ (.head _))))))) ?_
      refine sA_geti (ci := 4) (j := 1) (q := (RX4, TX4, 2)) dd_X1_crossings_55 rfl (by decide) fl_X1_28 (Nat.lt_of_succ_lt ho.1) ho.2.1 rfl ?_
      refine sA_icmp_ge (tgt := 162) dd_X1_crossings_58 (by decide) (by omega) (by omega) (fun q10 => ?_) (fun q10 => ?_)
      · skip
        refine sA_iinc (lv' := [(4, gs_iv (i + 1)), (7, gs_iv j), (6, gs_iv x), (5, gs_iv u), (3, gs_iv s), (0, .ref a), (1, .ref b), (2, gs_iv g)]) dd_X1_crossings_162 (.tail _ (.tail _ (.tail _ (.head _)))) (by decide) rfl ?_
        refine sA_goto (tgt := 5) dd_X1_crossings_165 (by decide) ?_
        refine sA_sub (lv2 := [(4, gs_iv (i + 1)), (3, gs_iv s), (0, .ref a), (1, .ref b), (2, gs_iv g)]) (List.forall_mem_cons.mpr ⟨(.head _), (List.forall_mem_cons.mpr ⟨(.tail _ (.tail _ (.tail _ (.tail _ (.head _))))), (List.forall_mem_cons.mpr ⟨(.tail _ (.tail _ (.tail _ (.tail _ (.tail _ (.head _)))))), (List.forall_mem_cons.mpr ⟨(.tail _ (.tail _ (.tail _ (.tail _ (.tail _ (.tail _ (.head _))))))), (List.forall_mem_cons.mpr ⟨(.tail _ (.tail _ (.tail _ (.tail _ (.tail _ (.tail _ (.tail _ (.head _)))))))), (fun _ h => absurd h List.not_mem_nil)⟩)⟩)⟩)⟩)⟩) ?_
        exact ih.1 s (i + 1)  (by omega) (by omega) (mt_row (by omega) (i6.trans (by rw [show j.toNat = (F b 1).toNat by omega]))) (by omega)
      · skip
        refine sA_aload_n dd_X1_crossings_61 rfl (.tail _ (.tail _ (.tail _ (.tail _ (.tail _ (.tail _ (.head _))))))) ?_
        refine sA_getr (ci := 4) (j := 0) (q := (RX4, TX4, 2)) dd_X1_crossings_62 rfl (by decide) fl_X1_32 (Nat.lt_of_succ_lt ho.1) ho.2.1 rfl ?_
        refine sA_iload dd_X1_crossings_65 (.head _) ?_
        refine sA_iald (n := M) dd_X1_crossings_67 ho.1 ho.2.2.1 (by omega) (Nat.le_trans ho.2.2.2.2.2.2 (by decide)) ?_
        have b11 := gs_row_el ho hI j.toNat
        have hl2 := hVv j.toNat (by omega)
        refine sA_istore (lv' := [(8, gs_iv (A (b + 1) j.toNat)), (7, gs_iv j), (6, gs_iv x), (5, gs_iv u), (4, gs_iv i), (3, gs_iv s), (0, .ref a), (1, .ref b), (2, gs_iv g)]) dd_X1_crossings_68 (by decide) rfl ?_
        refine sA_iload dd_X1_crossings_70 (.tail _ (.tail _ (.tail _ (.head _)))) ?_
        refine sA_iload dd_X1_crossings_72 (.head _) ?_
        refine sA_icmp_eq (tgt := 84) dd_X1_crossings_74 (by decide) (by omega) (by omega) (fun q12 => ?_) (fun q12 => ?_)
        · skip
          refine sA_aload_n dd_X1_crossings_84 rfl (.tail _ (.tail _ (.tail _ (.tail _ (.tail _ (.tail _ (.tail _ (.head _)))))))) ?_
          refine sA_getr (ci := 4) (j := 0) (q := (RX4, TX4, 2)) dd_X1_crossings_85 rfl (by decide) fl_X1_32 (Nat.lt_of_succ_lt ho.1) ho.2.1 rfl ?_
          refine sA_iload dd_X1_crossings_88 (.tail _ (.head _)) ?_
          refine sA_if_ne (tgt := 102) dd_X1_crossings_90 (by decide) (by omega) (fun q13 => ?_) (fun q13 => ?_)
          · skip
            refine sA_iload dd_X1_crossings_102 (.tail _ (.head _)) ?_
            refine sA_iconst (z := 1) dd_X1_crossings_104 ?_
            refine sA_isub dd_X1_crossings_105 ?_
            have hl3 := hVv (j - 1).toNat (by omega)
            refine sA_iald (n := M) dd_X1_crossings_106 ho.1 ho.2.2.1 (by omega) (Nat.le_trans ho.2.2.2.2.2.2 (by decide)) ?_
            have b14 := gs_row_el ho hI (j - 1).toNat
            refine sA_ineg dd_X1_crossings_107 ?_
            have hy9 : -(A (b + 1) (j - 1).toNat) = -(mt_at (A (b + 1)) (F b 1) j (-1)) := by first | rw [mt_atm0 (by omega) (by omega)] | rw [mt_atm1 (by omega) (by omega)] | fail
            refine sA_istore (lv' := [(9, gs_iv (-(A (b + 1) (j - 1).toNat))), (8, gs_iv (A (b + 1) j.toNat)), (7, gs_iv j), (6, gs_iv x), (5, gs_iv u), (4, gs_iv i), (3, gs_iv s), (0, .ref a), (1, .ref b), (2, gs_iv g)]) dd_X1_crossings_108 (by decide) rfl ?_
            refine sA_iload dd_X1_crossings_110 (.tail _ (.tail _ (.tail _ (.tail _ (.head _))))) ?_
            refine sA_iload dd_X1_crossings_112 (.tail _ (.head _)) ?_
            refine sA_icmp_ne (tgt := 139) dd_X1_crossings_114 (by decide) (by omega) (by omega) (fun q15 => absurd q15 (by omega)) (fun q15 => ?_)
            refine sA_iload dd_X1_crossings_117 (.tail _ (.tail _ (.tail _ (.head _)))) ?_
            refine sA_iload dd_X1_crossings_119 (.head _) ?_
            refine sA_icmp_eq (tgt := 156) dd_X1_crossings_121 (by decide) (by omega) (by omega) (fun q16 => ?_) (fun q16 => ?_)
            · skip
              refine sA_iinc (lv' := [(7, gs_iv (j + 1)), (9, gs_iv (-(A (b + 1) (j - 1).toNat))), (8, gs_iv (A (b + 1) j.toNat)), (6, gs_iv x), (5, gs_iv u), (4, gs_iv i), (3, gs_iv s), (0, .ref a), (1, .ref b), (2, gs_iv g)]) dd_X1_crossings_156 (.tail _ (.tail _ (.head _))) (by decide) rfl ?_
              refine sA_goto (tgt := 52) dd_X1_crossings_159 (by decide) ?_
              refine sA_sub (lv2 := [(7, gs_iv (j + 1)), (6, gs_iv x), (5, gs_iv u), (4, gs_iv i), (3, gs_iv s), (0, .ref a), (1, .ref b), (2, gs_iv g)]) (List.forall_mem_cons.mpr ⟨(.head _), (List.forall_mem_cons.mpr ⟨(.tail _ (.tail _ (.tail _ (.head _)))), (List.forall_mem_cons.mpr ⟨(.tail _ (.tail _ (.tail _ (.tail _ (.head _))))), (List.forall_mem_cons.mpr ⟨(.tail _ (.tail _ (.tail _ (.tail _ (.tail _ (.head _)))))), (List.forall_mem_cons.mpr ⟨(.tail _ (.tail _ (.tail _ (.tail _ (.tail _ (.tail _ (.head _))))))), (List.forall_mem_cons.mpr ⟨(.tail _ (.tail _ (.tail _ (.tail _ (.tail _ (.tail _ (.tail _ (.head _)))))))), (List.forall_mem_cons.mpr ⟨(.tail _ (.tail _ (.tail _ (.tail _ (.tail _ (.tail _ (.tail _ (.tail _ (.head _))))))))), (List.forall_mem_cons.mpr ⟨(.tail _ (.tail _ (.tail _ (.tail _ (.tail _ (.tail _ (.tail _ (.tail _ (.tail _ (.head _)))))))))), (fun _ h => absurd h List.not_mem_nil)⟩)⟩)⟩)⟩)⟩)⟩)⟩)⟩) ?_
              exact ih.2 s i u x (j + 1)  (by omega) (by omega) (by omega) (by omega) (by omega) (by omega) (mt_st0 (by omega) i6 (fun w => by rcases w with w | w <;> (have w1 := w.1; have w2 := w.2.1; omega))) i7 i8 (by omega)
            · skip
              refine sA_aload_n dd_X1_crossings_124 rfl (.tail _ (.tail _ (.tail _ (.tail _ (.tail _ (.tail _ (.tail _ (.head _)))))))) ?_
              refine sA_iload dd_X1_crossings_125 (.tail _ (.tail _ (.tail _ (.tail _ (.tail _ (.head _)))))) ?_
              refine sA_aload_n dd_X1_crossings_127 rfl (.tail _ (.tail _ (.tail _ (.tail _ (.tail _ (.tail _ (.tail _ (.tail _ (.head _))))))))) ?_
              refine sA_iload dd_X1_crossings_128 (.tail _ (.tail _ (.head _))) ?_
              refine sA_callS (y2 := m_X1_changeSides) (n2 := 4) (d2 := 3) (as := [.ref a, gs_iv i, .ref b, gs_iv j]) (rest := []) dd_X1_crossings_130 ok_X1_changeSides ml_X1_36 rfl rfl (Nat.le_of_ble_eq_true rfl) (by decide) (c_X1_changeSides_vf hI hr (by omega) ho (by omega) (by omega) hVu hVv) (fun r17 F18 A19 h20 => ?_)
              obtain ⟨z23, e22, e24, e25, x21⟩ := h20
              subst e22 e24 e25
              have y26 : (z23 = 1 ∧ mt_cs 12 (A (a + 1)) (F a 1) (A (b + 1)) (F b 1) i j) ∨ (z23 = 0 ∧ ¬ mt_cs 12 (A (a + 1)) (F a 1) (A (b + 1)) (F b 1) i j) := x21
              clear x21
              show sA _ _ _ 133 _ [gs_iv z23] _ _
              refine sA_if_eq (tgt := 156) dd_X1_crossings_133 (by decide) (by omega) (fun q27 => ?_) (fun q27 => ?_)
              · skip
                refine sA_iinc (lv' := [(7, gs_iv (j + 1)), (9, gs_iv (-(A (b + 1) (j - 1).toNat))), (8, gs_iv (A (b + 1) j.toNat)), (6, gs_iv x), (5, gs_iv u), (4, gs_iv i), (3, gs_iv s), (0, .ref a), (1, .ref b), (2, gs_iv g)]) dd_X1_crossings_156 (.tail _ (.tail _ (.head _))) (by decide) rfl ?_
                refine sA_goto (tgt := 52) dd_X1_crossings_159 (by decide) ?_
                refine sA_sub (lv2 := [(7, gs_iv (j + 1)), (6, gs_iv x), (5, gs_iv u), (4, gs_iv i), (3, gs_iv s), (0, .ref a), (1, .ref b), (2, gs_iv g)]) (List.forall_mem_cons.mpr ⟨(.head _), (List.forall_mem_cons.mpr ⟨(.tail _ (.tail _ (.tail _ (.head _)))), (List.forall_mem_cons.mpr ⟨(.tail _ (.tail _ (.tail _ (.tail _ (.head _))))), (List.forall_mem_cons.mpr ⟨(.tail _ (.tail _ (.tail _ (.tail _ (.tail _ (.head _)))))), (List.forall_mem_cons.mpr ⟨(.tail _ (.tail _ (.tail _ (.tail _ (.tail _ (.tail _ (.head _))))))), (List.forall_mem_cons.mpr ⟨(.tail _ (.tail _ (.tail _ (.tail _ (.tail _ (.tail _ (.tail _ (.head _)))))))), (List.forall_mem_cons.mpr ⟨(.tail _ (.tail _ (.tail _ (.tail _ (.tail _ (.tail _ (.tail _ (.tail _ (.head _))))))))), (List.forall_mem_cons.mpr ⟨(.tail _ (.tail _ (.tail _ (.tail _ (.tail _ (.tail _ (.tail _ (.tail _ (.tail _ (.head _)))))))))), (fun _ h => absurd h List.not_mem_nil)⟩)⟩)⟩)⟩)⟩)⟩)⟩)⟩) ?_
                exact ih.2 s i u x (j + 1)  (by omega) (by omega) (by omega) (by omega) (by omega) (by omega) (mt_st0 (by omega) i6 (fun w => by rcases w with w | w <;> first | (have w1 := w.1; exfalso; omega) | (rcases y26 with y | y <;> first | exact y.2 w.2.2 | (exfalso; omega) | fail) | fail)) i7 i8 (by omega)
              · skip
                refine sA_goto (tgt := 153) dd_X1_crossings_136 (by decide) ?_
                refine sA_iinc (lv' := [(3, gs_iv (s + 1)), (9, gs_iv (-(A (b + 1) (j - 1).toNat))), (8, gs_iv (A (b + 1) j.toNat)), (7, gs_iv j), (6, gs_iv x), (5, gs_iv u), (4, gs_iv i), (0, .ref a), (1, .ref b), (2, gs_iv g)]) dd_X1_crossings_153 (.tail _ (.tail _ (.tail _ (.tail _ (.tail _ (.tail _ (.head _))))))) (by decide) rfl ?_
                refine sA_iinc (lv' := [(7, gs_iv (j + 1)), (3, gs_iv (s + 1)), (9, gs_iv (-(A (b + 1) (j - 1).toNat))), (8, gs_iv (A (b + 1) j.toNat)), (6, gs_iv x), (5, gs_iv u), (4, gs_iv i), (0, .ref a), (1, .ref b), (2, gs_iv g)]) dd_X1_crossings_156 (.tail _ (.tail _ (.tail _ (.head _)))) (by decide) rfl ?_
                refine sA_goto (tgt := 52) dd_X1_crossings_159 (by decide) ?_
                refine sA_sub (lv2 := [(7, gs_iv (j + 1)), (6, gs_iv x), (5, gs_iv u), (4, gs_iv i), (3, gs_iv (s + 1)), (0, .ref a), (1, .ref b), (2, gs_iv g)]) (List.forall_mem_cons.mpr ⟨(.head _), (List.forall_mem_cons.mpr ⟨(.tail _ (.tail _ (.tail _ (.tail _ (.head _))))), (List.forall_mem_cons.mpr ⟨(.tail _ (.tail _ (.tail _ (.tail _ (.tail _ (.head _)))))), (List.forall_mem_cons.mpr ⟨(.tail _ (.tail _ (.tail _ (.tail _ (.tail _ (.tail _ (.head _))))))), (List.forall_mem_cons.mpr ⟨(.tail _ (.head _)), (List.forall_mem_cons.mpr ⟨(.tail _ (.tail _ (.tail _ (.tail _ (.tail _ (.tail _ (.tail _ (.head _)))))))), (List.forall_mem_cons.mpr ⟨(.tail _ (.tail _ (.tail _ (.tail _ (.tail _ (.tail _ (.tail _ (.tail _ (.head _))))))))), (List.forall_mem_cons.mpr ⟨(.tail _ (.tail _ (.tail _ (.tail _ (.tail _ (.tail _ (.tail _ (.tail _ (.tail _ (.head _)))))))))), (fun _ h => absurd h List.not_mem_nil)⟩)⟩)⟩)⟩)⟩)⟩)⟩)⟩) ?_
                exact ih.2 (s + 1) i u x (j + 1)  (by omega) (by omega) (by omega) (by omega) (by omega) (by omega) (mt_st1 (by omega) i6 (.inr ⟨by omega, by omega, by rcases y26 with y | y <;> first | exact y.2 | (exfalso; omega) | fail⟩)) i7 i8 (by omega)
          · skip
            refine sA_aload_n dd_X1_crossings_93 rfl (.tail _ (.tail _ (.tail _ (.tail _ (.tail _ (.tail _ (.tail _ (.head _)))))))) ?_
            refine sA_geti (ci := 4) (j := 1) (q := (RX4, TX4, 2)) dd_X1_crossings_94 rfl (by decide) fl_X1_28 (Nat.lt_of_succ_lt ho.1) ho.2.1 rfl ?_
            refine sA_iconst (z := 1) dd_X1_crossings_97 ?_
            refine sA_isub dd_X1_crossings_98 ?_
            refine sA_goto (tgt := 106) dd_X1_crossings_99 (by decide) ?_
            have hl3 := hVv ((F b 1) - 1).toNat (by omega)
            refine sA_iald (n := M) dd_X1_crossings_106 ho.1 ho.2.2.1 (by omega) (Nat.le_trans ho.2.2.2.2.2.2 (by decide)) ?_
            have b28 := gs_row_el ho hI ((F b 1) - 1).toNat
            refine sA_ineg dd_X1_crossings_107 ?_
            have hy9 : -(A (b + 1) ((F b 1) - 1).toNat) = -(mt_at (A (b + 1)) (F b 1) j (-1)) := by first | rw [mt_atm0 (by omega) (by omega)] | rw [mt_atm1 (by omega) (by omega)] | fail
            refine sA_istore (lv' := [(9, gs_iv (-(A (b + 1) ((F b 1) - 1).toNat))), (8, gs_iv (A (b + 1) j.toNat)), (7, gs_iv j), (6, gs_iv x), (5, gs_iv u), (4, gs_iv i), (3, gs_iv s), (0, .ref a), (1, .ref b), (2, gs_iv g)]) dd_X1_crossings_108 (by decide) rfl ?_
            refine sA_iload dd_X1_crossings_110 (.tail _ (.tail _ (.tail _ (.tail _ (.head _))))) ?_
            refine sA_iload dd_X1_crossings_112 (.tail _ (.head _)) ?_
            refine sA_icmp_ne (tgt := 139) dd_X1_crossings_114 (by decide) (by omega) (by omega) (fun q29 => absurd q29 (by omega)) (fun q29 => ?_)
            refine sA_iload dd_X1_crossings_117 (.tail _ (.tail _ (.tail _ (.head _)))) ?_
            refine sA_iload dd_X1_crossings_119 (.head _) ?_
            refine sA_icmp_eq (tgt := 156) dd_X1_crossings_121 (by decide) (by omega) (by omega) (fun q30 => ?_) (fun q30 => ?_)
            · skip
              refine sA_iinc (lv' := [(7, gs_iv (j + 1)), (9, gs_iv (-(A (b + 1) ((F b 1) - 1).toNat))), (8, gs_iv (A (b + 1) j.toNat)), (6, gs_iv x), (5, gs_iv u), (4, gs_iv i), (3, gs_iv s), (0, .ref a), (1, .ref b), (2, gs_iv g)]) dd_X1_crossings_156 (.tail _ (.tail _ (.head _))) (by decide) rfl ?_
              refine sA_goto (tgt := 52) dd_X1_crossings_159 (by decide) ?_
              refine sA_sub (lv2 := [(7, gs_iv (j + 1)), (6, gs_iv x), (5, gs_iv u), (4, gs_iv i), (3, gs_iv s), (0, .ref a), (1, .ref b), (2, gs_iv g)]) (List.forall_mem_cons.mpr ⟨(.head _), (List.forall_mem_cons.mpr ⟨(.tail _ (.tail _ (.tail _ (.head _)))), (List.forall_mem_cons.mpr ⟨(.tail _ (.tail _ (.tail _ (.tail _ (.head _))))), (List.forall_mem_cons.mpr ⟨(.tail _ (.tail _ (.tail _ (.tail _ (.tail _ (.head _)))))), (List.forall_mem_cons.mpr ⟨(.tail _ (.tail _ (.tail _ (.tail _ (.tail _ (.tail _ (.head _))))))), (List.forall_mem_cons.mpr ⟨(.tail _ (.tail _ (.tail _ (.tail _ (.tail _ (.tail _ (.tail _ (.head _)))))))), (List.forall_mem_cons.mpr ⟨(.tail _ (.tail _ (.tail _ (.tail _ (.tail _ (.tail _ (.tail _ (.tail _ (.head _))))))))), (List.forall_mem_cons.mpr ⟨(.tail _ (.tail _ (.tail _ (.tail _ (.tail _ (.tail _ (.tail _ (.tail _ (.tail _ (.head _)))))))))), (fun _ h => absurd h List.not_mem_nil)⟩)⟩)⟩)⟩)⟩)⟩)⟩)⟩) ?_
              exact ih.2 s i u x (j + 1)  (by omega) (by omega) (by omega) (by omega) (by omega) (by omega) (mt_st0 (by omega) i6 (fun w => by rcases w with w | w <;> (have w1 := w.1; have w2 := w.2.1; omega))) i7 i8 (by omega)
            · skip
              refine sA_aload_n dd_X1_crossings_124 rfl (.tail _ (.tail _ (.tail _ (.tail _ (.tail _ (.tail _ (.tail _ (.head _)))))))) ?_
              refine sA_iload dd_X1_crossings_125 (.tail _ (.tail _ (.tail _ (.tail _ (.tail _ (.head _)))))) ?_
              refine sA_aload_n dd_X1_crossings_127 rfl (.tail _ (.tail _ (.tail _ (.tail _ (.tail _ (.tail _ (.tail _ (.tail _ (.head _))))))))) ?_
              refine sA_iload dd_X1_crossings_128 (.tail _ (.tail _ (.head _))) ?_
              refine sA_callS (y2 := m_X1_changeSides) (n2 := 4) (d2 := 3) (as := [.ref a, gs_iv i, .ref b, gs_iv j]) (rest := []) dd_X1_crossings_130 ok_X1_changeSides ml_X1_36 rfl rfl (Nat.le_of_ble_eq_true rfl) (by decide) (c_X1_changeSides_vf hI hr (by omega) ho (by omega) (by omega) hVu hVv) (fun r31 F32 A33 h34 => ?_)
              obtain ⟨z37, e36, e38, e39, x35⟩ := h34
              subst e36 e38 e39
              have y40 : (z37 = 1 ∧ mt_cs 12 (A (a + 1)) (F a 1) (A (b + 1)) (F b 1) i j) ∨ (z37 = 0 ∧ ¬ mt_cs 12 (A (a + 1)) (F a 1) (A (b + 1)) (F b 1) i j) := x35
              clear x35
              show sA _ _ _ 133 _ [gs_iv z37] _ _
              refine sA_if_eq (tgt := 156) dd_X1_crossings_133 (by decide) (by omega) (fun q41 => ?_) (fun q41 => ?_)
              · skip
                refine sA_iinc (lv' := [(7, gs_iv (j + 1)), (9, gs_iv (-(A (b + 1) ((F b 1) - 1).toNat))), (8, gs_iv (A (b + 1) j.toNat)), (6, gs_iv x), (5, gs_iv u), (4, gs_iv i), (3, gs_iv s), (0, .ref a), (1, .ref b), (2, gs_iv g)]) dd_X1_crossings_156 (.tail _ (.tail _ (.head _))) (by decide) rfl ?_
                refine sA_goto (tgt := 52) dd_X1_crossings_159 (by decide) ?_
                refine sA_sub (lv2 := [(7, gs_iv (j + 1)), (6, gs_iv x), (5, gs_iv u), (4, gs_iv i), (3, gs_iv s), (0, .ref a), (1, .ref b), (2, gs_iv g)]) (List.forall_mem_cons.mpr ⟨(.head _), (List.forall_mem_cons.mpr ⟨(.tail _ (.tail _ (.tail _ (.head _)))), (List.forall_mem_cons.mpr ⟨(.tail _ (.tail _ (.tail _ (.tail _ (.head _))))), (List.forall_mem_cons.mpr ⟨(.tail _ (.tail _ (.tail _ (.tail _ (.tail _ (.head _)))))), (List.forall_mem_cons.mpr ⟨(.tail _ (.tail _ (.tail _ (.tail _ (.tail _ (.tail _ (.head _))))))), (List.forall_mem_cons.mpr ⟨(.tail _ (.tail _ (.tail _ (.tail _ (.tail _ (.tail _ (.tail _ (.head _)))))))), (List.forall_mem_cons.mpr ⟨(.tail _ (.tail _ (.tail _ (.tail _ (.tail _ (.tail _ (.tail _ (.tail _ (.head _))))))))), (List.forall_mem_cons.mpr ⟨(.tail _ (.tail _ (.tail _ (.tail _ (.tail _ (.tail _ (.tail _ (.tail _ (.tail _ (.head _)))))))))), (fun _ h => absurd h List.not_mem_nil)⟩)⟩)⟩)⟩)⟩)⟩)⟩)⟩) ?_
                exact ih.2 s i u x (j + 1)  (by omega) (by omega) (by omega) (by omega) (by omega) (by omega) (mt_st0 (by omega) i6 (fun w => by rcases w with w | w <;> first | (have w1 := w.1; exfalso; omega) | (rcases y40 with y | y <;> first | exact y.2 w.2.2 | (exfalso; omega) | fail) | fail)) i7 i8 (by omega)
              · skip
                refine sA_goto (tgt := 153) dd_X1_crossings_136 (by decide) ?_
                refine sA_iinc (lv' := [(3, gs_iv (s + 1)), (9, gs_iv (-(A (b + 1) ((F b 1) - 1).toNat))), (8, gs_iv (A (b + 1) j.toNat)), (7, gs_iv j), (6, gs_iv x), (5, gs_iv u), (4, gs_iv i), (0, .ref a), (1, .ref b), (2, gs_iv g)]) dd_X1_crossings_153 (.tail _ (.tail _ (.tail _ (.tail _ (.tail _ (.tail _ (.head _))))))) (by decide) rfl ?_
                refine sA_iinc (lv' := [(7, gs_iv (j + 1)), (3, gs_iv (s + 1)), (9, gs_iv (-(A (b + 1) ((F b 1) - 1).toNat))), (8, gs_iv (A (b + 1) j.toNat)), (6, gs_iv x), (5, gs_iv u), (4, gs_iv i), (0, .ref a), (1, .ref b), (2, gs_iv g)]) dd_X1_crossings_156 (.tail _ (.tail _ (.tail _ (.head _)))) (by decide) rfl ?_
                refine sA_goto (tgt := 52) dd_X1_crossings_159 (by decide) ?_
                refine sA_sub (lv2 := [(7, gs_iv (j + 1)), (6, gs_iv x), (5, gs_iv u), (4, gs_iv i), (3, gs_iv (s + 1)), (0, .ref a), (1, .ref b), (2, gs_iv g)]) (List.forall_mem_cons.mpr ⟨(.head _), (List.forall_mem_cons.mpr ⟨(.tail _ (.tail _ (.tail _ (.tail _ (.head _))))), (List.forall_mem_cons.mpr ⟨(.tail _ (.tail _ (.tail _ (.tail _ (.tail _ (.head _)))))), (List.forall_mem_cons.mpr ⟨(.tail _ (.tail _ (.tail _ (.tail _ (.tail _ (.tail _ (.head _))))))), (List.forall_mem_cons.mpr ⟨(.tail _ (.head _)), (List.forall_mem_cons.mpr ⟨(.tail _ (.tail _ (.tail _ (.tail _ (.tail _ (.tail _ (.tail _ (.head _)))))))), (List.forall_mem_cons.mpr ⟨(.tail _ (.tail _ (.tail _ (.tail _ (.tail _ (.tail _ (.tail _ (.tail _ (.head _))))))))), (List.forall_mem_cons.mpr ⟨(.tail _ (.tail _ (.tail _ (.tail _ (.tail _ (.tail _ (.tail _ (.tail _ (.tail _ (.head _)))))))))), (fun _ h => absurd h List.not_mem_nil)⟩)⟩)⟩)⟩)⟩)⟩)⟩)⟩) ?_
                exact ih.2 (s + 1) i u x (j + 1)  (by omega) (by omega) (by omega) (by omega) (by omega) (by omega) (mt_st1 (by omega) i6 (.inr ⟨by omega, by omega, by rcases y40 with y | y <;> first | exact y.2 | (exfalso; omega) | fail⟩)) i7 i8 (by omega)
        · skip
          refine sA_iload_n dd_X1_crossings_77 rfl (.tail _ (.tail _ (.tail _ (.tail _ (.tail _ (.tail _ (.tail _ (.tail _ (.head _))))))))) ?_
          refine sA_if_ne (tgt := 84) dd_X1_crossings_78 (by decide) (by omega) (fun q42 => ?_) (fun q42 => ?_)
          · skip
            refine sA_aload_n dd_X1_crossings_84 rfl (.tail _ (.tail _ (.tail _ (.tail _ (.tail _ (.tail _ (.tail _ (.head _)))))))) ?_
            refine sA_getr (ci := 4) (j := 0) (q := (RX4, TX4, 2)) dd_X1_crossings_85 rfl (by decide) fl_X1_32 (Nat.lt_of_succ_lt ho.1) ho.2.1 rfl ?_
            refine sA_iload dd_X1_crossings_88 (.tail _ (.head _)) ?_
            refine sA_if_ne (tgt := 102) dd_X1_crossings_90 (by decide) (by omega) (fun q43 => ?_) (fun q43 => ?_)
            · skip
              refine sA_iload dd_X1_crossings_102 (.tail _ (.head _)) ?_
              refine sA_iconst (z := 1) dd_X1_crossings_104 ?_
              refine sA_isub dd_X1_crossings_105 ?_
              have hl3 := hVv (j - 1).toNat (by omega)
              refine sA_iald (n := M) dd_X1_crossings_106 ho.1 ho.2.2.1 (by omega) (Nat.le_trans ho.2.2.2.2.2.2 (by decide)) ?_
              have b44 := gs_row_el ho hI (j - 1).toNat
              refine sA_ineg dd_X1_crossings_107 ?_
              have hy9 : -(A (b + 1) (j - 1).toNat) = -(mt_at (A (b + 1)) (F b 1) j (-1)) := by first | rw [mt_atm0 (by omega) (by omega)] | rw [mt_atm1 (by omega) (by omega)] | fail
              refine sA_istore (lv' := [(9, gs_iv (-(A (b + 1) (j - 1).toNat))), (8, gs_iv (A (b + 1) j.toNat)), (7, gs_iv j), (6, gs_iv x), (5, gs_iv u), (4, gs_iv i), (3, gs_iv s), (0, .ref a), (1, .ref b), (2, gs_iv g)]) dd_X1_crossings_108 (by decide) rfl ?_
              refine sA_iload dd_X1_crossings_110 (.tail _ (.tail _ (.tail _ (.tail _ (.head _))))) ?_
              refine sA_iload dd_X1_crossings_112 (.tail _ (.head _)) ?_
              refine sA_icmp_ne (tgt := 139) dd_X1_crossings_114 (by decide) (by omega) (by omega) (fun q45 => ?_) (fun q45 => absurd q45 (by omega))
              refine sA_iload dd_X1_crossings_139 (.tail _ (.tail _ (.tail _ (.head _)))) ?_
              refine sA_iload dd_X1_crossings_141 (.tail _ (.tail _ (.tail _ (.tail _ (.head _))))) ?_
              refine sA_iload dd_X1_crossings_143 (.head _) ?_
              refine sA_iload dd_X1_crossings_145 (.tail _ (.head _)) ?_
              refine sA_callS (y2 := m_X1_cross) (n2 := 4) (d2 := 3) (as := [gs_iv x, gs_iv u, gs_iv (-(A (b + 1) (j - 1).toNat)), gs_iv (A (b + 1) j.toNat)]) (rest := []) dd_X1_crossings_147 ok_X1_cross ml_X1_40 rfl rfl (Nat.le_of_ble_eq_true rfl) (by decide) (c_X1_cross_vf (by omega) (by omega) (by omega) (by omega)) (fun r46 F47 A48 h49 => ?_)
              obtain ⟨z52, e51, e53, e54, x50⟩ := h49
              subst e51 e53 e54
              have y55 : (z52 = 1 ∧ mt_cr 12 x u (-(A (b + 1) (j - 1).toNat)) (A (b + 1) j.toNat)) ∨ (z52 = 0 ∧ ¬ mt_cr 12 x u (-(A (b + 1) (j - 1).toNat)) (A (b + 1) j.toNat)) := x50
              clear x50
              show sA _ _ _ 150 _ [gs_iv z52] _ _
              refine sA_if_eq (tgt := 156) dd_X1_crossings_150 (by decide) (by omega) (fun q56 => ?_) (fun q56 => ?_)
              · skip
                refine sA_iinc (lv' := [(7, gs_iv (j + 1)), (9, gs_iv (-(A (b + 1) (j - 1).toNat))), (8, gs_iv (A (b + 1) j.toNat)), (6, gs_iv x), (5, gs_iv u), (4, gs_iv i), (3, gs_iv s), (0, .ref a), (1, .ref b), (2, gs_iv g)]) dd_X1_crossings_156 (.tail _ (.tail _ (.head _))) (by decide) rfl ?_
                refine sA_goto (tgt := 52) dd_X1_crossings_159 (by decide) ?_
                refine sA_sub (lv2 := [(7, gs_iv (j + 1)), (6, gs_iv x), (5, gs_iv u), (4, gs_iv i), (3, gs_iv s), (0, .ref a), (1, .ref b), (2, gs_iv g)]) (List.forall_mem_cons.mpr ⟨(.head _), (List.forall_mem_cons.mpr ⟨(.tail _ (.tail _ (.tail _ (.head _)))), (List.forall_mem_cons.mpr ⟨(.tail _ (.tail _ (.tail _ (.tail _ (.head _))))), (List.forall_mem_cons.mpr ⟨(.tail _ (.tail _ (.tail _ (.tail _ (.tail _ (.head _)))))), (List.forall_mem_cons.mpr ⟨(.tail _ (.tail _ (.tail _ (.tail _ (.tail _ (.tail _ (.head _))))))), (List.forall_mem_cons.mpr ⟨(.tail _ (.tail _ (.tail _ (.tail _ (.tail _ (.tail _ (.tail _ (.head _)))))))), (List.forall_mem_cons.mpr ⟨(.tail _ (.tail _ (.tail _ (.tail _ (.tail _ (.tail _ (.tail _ (.tail _ (.head _))))))))), (List.forall_mem_cons.mpr ⟨(.tail _ (.tail _ (.tail _ (.tail _ (.tail _ (.tail _ (.tail _ (.tail _ (.tail _ (.head _)))))))))), (fun _ h => absurd h List.not_mem_nil)⟩)⟩)⟩)⟩)⟩)⟩)⟩)⟩) ?_
                exact ih.2 s i u x (j + 1)  (by omega) (by omega) (by omega) (by omega) (by omega) (by omega) (mt_st0 (by omega) i6 (fun w => by have y := y55; rw [i7, i8, hy9] at y; rcases w with w | w <;> first | (rcases y with y | y <;> first | exact y.2 w.2.2 | (exfalso; omega) | fail) | (have w1 := w.1; exfalso; omega) | fail)) i7 i8 (by omega)
              · skip
                refine sA_iinc (lv' := [(3, gs_iv (s + 1)), (9, gs_iv (-(A (b + 1) (j - 1).toNat))), (8, gs_iv (A (b + 1) j.toNat)), (7, gs_iv j), (6, gs_iv x), (5, gs_iv u), (4, gs_iv i), (0, .ref a), (1, .ref b), (2, gs_iv g)]) dd_X1_crossings_153 (.tail _ (.tail _ (.tail _ (.tail _ (.tail _ (.tail _ (.head _))))))) (by decide) rfl ?_
                refine sA_iinc (lv' := [(7, gs_iv (j + 1)), (3, gs_iv (s + 1)), (9, gs_iv (-(A (b + 1) (j - 1).toNat))), (8, gs_iv (A (b + 1) j.toNat)), (6, gs_iv x), (5, gs_iv u), (4, gs_iv i), (0, .ref a), (1, .ref b), (2, gs_iv g)]) dd_X1_crossings_156 (.tail _ (.tail _ (.tail _ (.head _)))) (by decide) rfl ?_
                refine sA_goto (tgt := 52) dd_X1_crossings_159 (by decide) ?_
                refine sA_sub (lv2 := [(7, gs_iv (j + 1)), (6, gs_iv x), (5, gs_iv u), (4, gs_iv i), (3, gs_iv (s + 1)), (0, .ref a), (1, .ref b), (2, gs_iv g)]) (List.forall_mem_cons.mpr ⟨(.head _), (List.forall_mem_cons.mpr ⟨(.tail _ (.tail _ (.tail _ (.tail _ (.head _))))), (List.forall_mem_cons.mpr ⟨(.tail _ (.tail _ (.tail _ (.tail _ (.tail _ (.head _)))))), (List.forall_mem_cons.mpr ⟨(.tail _ (.tail _ (.tail _ (.tail _ (.tail _ (.tail _ (.head _))))))), (List.forall_mem_cons.mpr ⟨(.tail _ (.head _)), (List.forall_mem_cons.mpr ⟨(.tail _ (.tail _ (.tail _ (.tail _ (.tail _ (.tail _ (.tail _ (.head _)))))))), (List.forall_mem_cons.mpr ⟨(.tail _ (.tail _ (.tail _ (.tail _ (.tail _ (.tail _ (.tail _ (.tail _ (.head _))))))))), (List.forall_mem_cons.mpr ⟨(.tail _ (.tail _ (.tail _ (.tail _ (.tail _ (.tail _ (.tail _ (.tail _ (.tail _ (.head _)))))))))), (fun _ h => absurd h List.not_mem_nil)⟩)⟩)⟩)⟩)⟩)⟩)⟩)⟩) ?_
                exact ih.2 (s + 1) i u x (j + 1)  (by omega) (by omega) (by omega) (by omega) (by omega) (by omega) (mt_st1 (by omega) i6 (.inl ⟨by omega, by omega, by have y := y55; rw [i7, i8, hy9] at y; rcases y with y | y <;> first | exact y.2 | (exfalso; omega) | fail⟩)) i7 i8 (by omega)
            · skip
              refine sA_aload_n dd_X1_crossings_93 rfl (.tail _ (.tail _ (.tail _ (.tail _ (.tail _ (.tail _ (.tail _ (.head _)))))))) ?_
              refine sA_geti (ci := 4) (j := 1) (q := (RX4, TX4, 2)) dd_X1_crossings_94 rfl (by decide) fl_X1_28 (Nat.lt_of_succ_lt ho.1) ho.2.1 rfl ?_
              refine sA_iconst (z := 1) dd_X1_crossings_97 ?_
              refine sA_isub dd_X1_crossings_98 ?_
              refine sA_goto (tgt := 106) dd_X1_crossings_99 (by decide) ?_
              have hl3 := hVv ((F b 1) - 1).toNat (by omega)
              refine sA_iald (n := M) dd_X1_crossings_106 ho.1 ho.2.2.1 (by omega) (Nat.le_trans ho.2.2.2.2.2.2 (by decide)) ?_
              have b57 := gs_row_el ho hI ((F b 1) - 1).toNat
              refine sA_ineg dd_X1_crossings_107 ?_
              have hy9 : -(A (b + 1) ((F b 1) - 1).toNat) = -(mt_at (A (b + 1)) (F b 1) j (-1)) := by first | rw [mt_atm0 (by omega) (by omega)] | rw [mt_atm1 (by omega) (by omega)] | fail
              refine sA_istore (lv' := [(9, gs_iv (-(A (b + 1) ((F b 1) - 1).toNat))), (8, gs_iv (A (b + 1) j.toNat)), (7, gs_iv j), (6, gs_iv x), (5, gs_iv u), (4, gs_iv i), (3, gs_iv s), (0, .ref a), (1, .ref b), (2, gs_iv g)]) dd_X1_crossings_108 (by decide) rfl ?_
              refine sA_iload dd_X1_crossings_110 (.tail _ (.tail _ (.tail _ (.tail _ (.head _))))) ?_
              refine sA_iload dd_X1_crossings_112 (.tail _ (.head _)) ?_
              refine sA_icmp_ne (tgt := 139) dd_X1_crossings_114 (by decide) (by omega) (by omega) (fun q58 => ?_) (fun q58 => absurd q58 (by omega))
              refine sA_iload dd_X1_crossings_139 (.tail _ (.tail _ (.tail _ (.head _)))) ?_
              refine sA_iload dd_X1_crossings_141 (.tail _ (.tail _ (.tail _ (.tail _ (.head _))))) ?_
              refine sA_iload dd_X1_crossings_143 (.head _) ?_
              refine sA_iload dd_X1_crossings_145 (.tail _ (.head _)) ?_
              refine sA_callS (y2 := m_X1_cross) (n2 := 4) (d2 := 3) (as := [gs_iv x, gs_iv u, gs_iv (-(A (b + 1) ((F b 1) - 1).toNat)), gs_iv (A (b + 1) j.toNat)]) (rest := []) dd_X1_crossings_147 ok_X1_cross ml_X1_40 rfl rfl (Nat.le_of_ble_eq_true rfl) (by decide) (c_X1_cross_vf (by omega) (by omega) (by omega) (by omega)) (fun r59 F60 A61 h62 => ?_)
              obtain ⟨z65, e64, e66, e67, x63⟩ := h62
              subst e64 e66 e67
              have y68 : (z65 = 1 ∧ mt_cr 12 x u (-(A (b + 1) ((F b 1) - 1).toNat)) (A (b + 1) j.toNat)) ∨ (z65 = 0 ∧ ¬ mt_cr 12 x u (-(A (b + 1) ((F b 1) - 1).toNat)) (A (b + 1) j.toNat)) := x63
              clear x63
              show sA _ _ _ 150 _ [gs_iv z65] _ _
              refine sA_if_eq (tgt := 156) dd_X1_crossings_150 (by decide) (by omega) (fun q69 => ?_) (fun q69 => ?_)
              · skip
                refine sA_iinc (lv' := [(7, gs_iv (j + 1)), (9, gs_iv (-(A (b + 1) ((F b 1) - 1).toNat))), (8, gs_iv (A (b + 1) j.toNat)), (6, gs_iv x), (5, gs_iv u), (4, gs_iv i), (3, gs_iv s), (0, .ref a), (1, .ref b), (2, gs_iv g)]) dd_X1_crossings_156 (.tail _ (.tail _ (.head _))) (by decide) rfl ?_
                refine sA_goto (tgt := 52) dd_X1_crossings_159 (by decide) ?_
                refine sA_sub (lv2 := [(7, gs_iv (j + 1)), (6, gs_iv x), (5, gs_iv u), (4, gs_iv i), (3, gs_iv s), (0, .ref a), (1, .ref b), (2, gs_iv g)]) (List.forall_mem_cons.mpr ⟨(.head _), (List.forall_mem_cons.mpr ⟨(.tail _ (.tail _ (.tail _ (.head _)))), (List.forall_mem_cons.mpr ⟨(.tail _ (.tail _ (.tail _ (.tail _ (.head _))))), (List.forall_mem_cons.mpr ⟨(.tail _ (.tail _ (.tail _ (.tail _ (.tail _ (.head _)))))), (List.forall_mem_cons.mpr ⟨(.tail _ (.tail _ (.tail _ (.tail _ (.tail _ (.tail _ (.head _))))))), (List.forall_mem_cons.mpr ⟨(.tail _ (.tail _ (.tail _ (.tail _ (.tail _ (.tail _ (.tail _ (.head _)))))))), (List.forall_mem_cons.mpr ⟨(.tail _ (.tail _ (.tail _ (.tail _ (.tail _ (.tail _ (.tail _ (.tail _ (.head _))))))))), (List.forall_mem_cons.mpr ⟨(.tail _ (.tail _ (.tail _ (.tail _ (.tail _ (.tail _ (.tail _ (.tail _ (.tail _ (.head _)))))))))), (fun _ h => absurd h List.not_mem_nil)⟩)⟩)⟩)⟩)⟩)⟩)⟩)⟩) ?_
                exact ih.2 s i u x (j + 1)  (by omega) (by omega) (by omega) (by omega) (by omega) (by omega) (mt_st0 (by omega) i6 (fun w => by have y := y68; rw [i7, i8, hy9] at y; rcases w with w | w <;> first | (rcases y with y | y <;> first | exact y.2 w.2.2 | (exfalso; omega) | fail) | (have w1 := w.1; exfalso; omega) | fail)) i7 i8 (by omega)
              · skip
                refine sA_iinc (lv' := [(3, gs_iv (s + 1)), (9, gs_iv (-(A (b + 1) ((F b 1) - 1).toNat))), (8, gs_iv (A (b + 1) j.toNat)), (7, gs_iv j), (6, gs_iv x), (5, gs_iv u), (4, gs_iv i), (0, .ref a), (1, .ref b), (2, gs_iv g)]) dd_X1_crossings_153 (.tail _ (.tail _ (.tail _ (.tail _ (.tail _ (.tail _ (.head _))))))) (by decide) rfl ?_
                refine sA_iinc (lv' := [(7, gs_iv (j + 1)), (3, gs_iv (s + 1)), (9, gs_iv (-(A (b + 1) ((F b 1) - 1).toNat))), (8, gs_iv (A (b + 1) j.toNat)), (6, gs_iv x), (5, gs_iv u), (4, gs_iv i), (0, .ref a), (1, .ref b), (2, gs_iv g)]) dd_X1_crossings_156 (.tail _ (.tail _ (.tail _ (.head _)))) (by decide) rfl ?_
                refine sA_goto (tgt := 52) dd_X1_crossings_159 (by decide) ?_
                refine sA_sub (lv2 := [(7, gs_iv (j + 1)), (6, gs_iv x), (5, gs_iv u), (4, gs_iv i), (3, gs_iv (s + 1)), (0, .ref a), (1, .ref b), (2, gs_iv g)]) (List.forall_mem_cons.mpr ⟨(.head _), (List.forall_mem_cons.mpr ⟨(.tail _ (.tail _ (.tail _ (.tail _ (.head _))))), (List.forall_mem_cons.mpr ⟨(.tail _ (.tail _ (.tail _ (.tail _ (.tail _ (.head _)))))), (List.forall_mem_cons.mpr ⟨(.tail _ (.tail _ (.tail _ (.tail _ (.tail _ (.tail _ (.head _))))))), (List.forall_mem_cons.mpr ⟨(.tail _ (.head _)), (List.forall_mem_cons.mpr ⟨(.tail _ (.tail _ (.tail _ (.tail _ (.tail _ (.tail _ (.tail _ (.head _)))))))), (List.forall_mem_cons.mpr ⟨(.tail _ (.tail _ (.tail _ (.tail _ (.tail _ (.tail _ (.tail _ (.tail _ (.head _))))))))), (List.forall_mem_cons.mpr ⟨(.tail _ (.tail _ (.tail _ (.tail _ (.tail _ (.tail _ (.tail _ (.tail _ (.tail _ (.head _)))))))))), (fun _ h => absurd h List.not_mem_nil)⟩)⟩)⟩)⟩)⟩)⟩)⟩)⟩) ?_
                exact ih.2 (s + 1) i u x (j + 1)  (by omega) (by omega) (by omega) (by omega) (by omega) (by omega) (mt_st1 (by omega) i6 (.inl ⟨by omega, by omega, by have y := y68; rw [i7, i8, hy9] at y; rcases y with y | y <;> first | exact y.2 | (exfalso; omega) | fail⟩)) i7 i8 (by omega)
          · skip
            refine sA_goto (tgt := 156) dd_X1_crossings_81 (by decide) ?_
            refine sA_iinc (lv' := [(7, gs_iv (j + 1)), (8, gs_iv (A (b + 1) j.toNat)), (6, gs_iv x), (5, gs_iv u), (4, gs_iv i), (3, gs_iv s), (0, .ref a), (1, .ref b), (2, gs_iv g)]) dd_X1_crossings_156 (.tail _ (.head _)) (by decide) rfl ?_
            refine sA_goto (tgt := 52) dd_X1_crossings_159 (by decide) ?_
            refine sA_sub (lv2 := [(7, gs_iv (j + 1)), (6, gs_iv x), (5, gs_iv u), (4, gs_iv i), (3, gs_iv s), (0, .ref a), (1, .ref b), (2, gs_iv g)]) (List.forall_mem_cons.mpr ⟨(.head _), (List.forall_mem_cons.mpr ⟨(.tail _ (.tail _ (.head _))), (List.forall_mem_cons.mpr ⟨(.tail _ (.tail _ (.tail _ (.head _)))), (List.forall_mem_cons.mpr ⟨(.tail _ (.tail _ (.tail _ (.tail _ (.head _))))), (List.forall_mem_cons.mpr ⟨(.tail _ (.tail _ (.tail _ (.tail _ (.tail _ (.head _)))))), (List.forall_mem_cons.mpr ⟨(.tail _ (.tail _ (.tail _ (.tail _ (.tail _ (.tail _ (.head _))))))), (List.forall_mem_cons.mpr ⟨(.tail _ (.tail _ (.tail _ (.tail _ (.tail _ (.tail _ (.tail _ (.head _)))))))), (List.forall_mem_cons.mpr ⟨(.tail _ (.tail _ (.tail _ (.tail _ (.tail _ (.tail _ (.tail _ (.tail _ (.head _))))))))), (fun _ h => absurd h List.not_mem_nil)⟩)⟩)⟩)⟩)⟩)⟩)⟩)⟩) ?_
            exact ih.2 s i u x (j + 1)  (by omega) (by omega) (by omega) (by omega) (by omega) (by omega) (mt_st0 (by omega) i6 (fun w => by rcases w with w | w <;> (have w1 := w.1; have w2 := w.2.1; omega))) i7 i8 (by omega)
theorem c_X1_crossings_vf {a L b M : Nat} {g : Int} {F A : gs_F} (hI : gs_I F A) (hr : gs_row a L) (ho : gs_row b M) (hg : g = 0 ∨ g = 1) (hVu : gs_vl 3 (F a 1) (A (a + 1))) (hVv : gs_vl 3 (F b 1) (A (b + 1))) : sC m_X1_crossings 4 [.ref a, .ref b, gs_iv g] F A (fun rv F' A' => ∃ z : Int, rv = some (gs_iv z) ∧ F = F' ∧ A = A' ∧ ((0 ≤ z ∧ z ≤ 160000) ∧ z = mt_ct 12 g (A (a + 1)) (F a 1) (A (b + 1)) (F b 1))) := by
  refine sC_of ok_X1_crossings.1 (Nat.le_of_ble_eq_true rfl) ?_
  show sA _ _ _ 0 [(0, .ref a), (1, .ref b), (2, gs_iv g)] [] F A
  have b70 := gs_row_sz hr hI
  have b71 := gs_row_sz ho hI
  refine sA_iconst (z := 0) dd_X1_crossings_0 ?_
  refine sA_istore_n (lv' := [(3, gs_iv 0), (0, .ref a), (1, .ref b), (2, gs_iv g)]) dd_X1_crossings_1 rfl (by decide) rfl ?_
  refine sA_iconst (z := 0) dd_X1_crossings_2 ?_
  refine sA_istore (lv' := [(4, gs_iv 0), (3, gs_iv 0), (0, .ref a), (1, .ref b), (2, gs_iv g)]) dd_X1_crossings_3 (by decide) rfl ?_
  refine sA_sub (lv2 := [(4, gs_iv 0), (3, gs_iv 0), (0, .ref a), (1, .ref b), (2, gs_iv g)]) (List.forall_mem_cons.mpr ⟨(.head _), (List.forall_mem_cons.mpr ⟨(.tail _ (.head _)), (List.forall_mem_cons.mpr ⟨(.tail _ (.tail _ (.head _))), (List.forall_mem_cons.mpr ⟨(.tail _ (.tail _ (.tail _ (.head _)))), (List.forall_mem_cons.mpr ⟨(.tail _ (.tail _ (.tail _ (.tail _ (.head _))))), (fun _ h => absurd h List.not_mem_nil)⟩)⟩)⟩)⟩)⟩) ?_
  exact (k_X1_crossings_vf hI hr ho hg hVu hVv ((F a 1 - 0) * 402 + 1 : Int).toNat.succ).1 0 0  (by omega) (by omega) (by rfl) (by omega)
theorem k_X4_becomeBack_vm {a L b M : Nat} {F A : gs_F} (hI : gs_I F A) (hr : gs_row a L) (ho : gs_row b M) (hab : a ≠ b) : ∀ nN : Nat, (∀ (k : Int)  (F1 A1 : gs_F), gs_I F1 A1 → gs_fr (fun c j => c = a ∧ j = 1) (fun c => c = a + 1) F A F1 A1 → 0 ≤ k → k ≤ F1 a 1 → F1 a 1 ≤ (M : Int) → F1 a 1 ≤ F b 1 → (∀ j : Int, 0 ≤ j → j < k → A1 (a + 1) j.toNat = -(A (b + 1) (F1 a 1 - 1 - j).toNat)) → (F b 1 ≤ (L : Int) → F1 a 1 = F b 1) → F1 a 1 - k < (nN : Int) → sA m_X4_becomeBack 1 (fun rv F' A' => rv = none ∧ gs_I F' A' ∧ gs_fr (fun c j => c = a ∧ j = 1) (fun c => c = a + 1) F A F' A' ∧ (F b 1 ≤ (L : Int) → (F' a 1 = F b 1 ∧ ∀ k : Int, 0 ≤ k → k < F b 1 → A' (a + 1) k.toNat = -(A (b + 1) (F b 1 - 1 - k).toNat)))) 18 [(2, gs_iv k), (0, .ref a), (1, .ref b)] [] F1 A1) := by
  intro nN
  induction nN with
  | zero =>
    exact fun a0 a1 a2 a3 a4 i0 i1 i2 i3 i4 i5 hm => by exfalso; omega
  | succ nN ih =>
    intro k F1 A1 hI1 hf1 i0 i1 i2 i3 i4 i5 hm
    have b1 := gs_row_sz hr hI1
    have b2 := gs_row_sz ho hI1
    have u3 : A1 (a + 1) = A1 (a + 1) := rfl
    refine sA_iload_n dd_X4_becomeBack_18 rfl (.head _) ?_
    refine sA_aload_n dd_X4_becomeBack_19 rfl (.tail _ (.head _)) ?_
    refine sA_geti (ci := 4) (j := 1) (q := (RX4, TX4, 2)) dd_X4_becomeBack_20 rfl (by decide) fl_X4_19 (Nat.lt_of_succ_lt hr.1) hr.2.1 rfl ?_
    refine sA_icmp_ge (tgt := 52) dd_X4_becomeBack_23 (by decide) (by omega) (by omega) (fun q4 => ?_) (fun q4 => ?_)
    · skip
      refine sA_vret dd_X4_becomeBack_52 rfl ?_
      refine ⟨rfl, hI1, hf1, ?_⟩
      intro hle
      have e := i5 hle
      refine ⟨e, fun j h1 h2 => ?_⟩
      rw [← e]
      exact i4 j h1 (by omega)
    · skip
      refine sA_aload_n dd_X4_becomeBack_26 rfl (.tail _ (.head _)) ?_
      refine sA_getr (ci := 4) (j := 0) (q := (RX4, TX4, 2)) dd_X4_becomeBack_27 rfl (by decide) fl_X4_13 (Nat.lt_of_succ_lt hr.1) hr.2.1 rfl ?_
      refine sA_iload_n dd_X4_becomeBack_30 rfl (.head _) ?_
      refine sA_aload_n dd_X4_becomeBack_31 rfl (.tail _ (.tail _ (.head _))) ?_
      refine sA_getr (ci := 4) (j := 0) (q := (RX4, TX4, 2)) dd_X4_becomeBack_32 rfl (by decide) fl_X4_13 (Nat.lt_of_succ_lt ho.1) ho.2.1 rfl ?_
      refine sA_aload_n dd_X4_becomeBack_35 rfl (.tail _ (.head _)) ?_
      refine sA_geti (ci := 4) (j := 1) (q := (RX4, TX4, 2)) dd_X4_becomeBack_36 rfl (by decide) fl_X4_19 (Nat.lt_of_succ_lt hr.1) hr.2.1 rfl ?_
      refine sA_iconst (z := 1) dd_X4_becomeBack_39 ?_
      refine sA_isub dd_X4_becomeBack_40 ?_
      refine sA_iload_n dd_X4_becomeBack_41 rfl (.head _) ?_
      refine sA_isub dd_X4_becomeBack_42 ?_
      refine sA_iald (n := M) dd_X4_becomeBack_43 ho.1 ho.2.2.1 (by omega) (Nat.le_trans ho.2.2.2.2.2.2 (by decide)) ?_
      have b5 := gs_row_el ho hI1 (((F1 a 1) - 1) - k).toNat
      refine sA_ineg dd_X4_becomeBack_44 ?_
      refine sA_iast (n := L) dd_X4_becomeBack_45 hr.1 hr.2.2.1 (by omega) (Nat.le_trans hr.2.2.2.2.2.2 (by decide)) ?_
      have I7 : gs_I F1 (gs_up A1 (a + 1) k.toNat (-(A1 (b + 1) (((F1 a 1) - 1) - k).toNat))) := gs_row_ast hr hI1 (by omega)
      have f8 := gs_fr_ast hf1 (a := a + 1) (z := -(A1 (b + 1) (((F1 a 1) - 1) - k).toNat)) (i := k.toNat) (by first | omega | (dsimp only; omega) | (dsimp only) | fail)
      have u9 : (gs_up A1 (a + 1) k.toNat (-(A1 (b + 1) (((F1 a 1) - 1) - k).toNat))) (a + 1) = gs_u (A1 (a + 1)) k.toNat (-(A1 (b + 1) (((F1 a 1) - 1) - k).toNat)) := (gs_up_u A1 (a + 1) k.toNat (-(A1 (b + 1) (((F1 a 1) - 1) - k).toNat))).trans (congrArg (fun f => gs_u f k.toNat (-(A1 (b + 1) (((F1 a 1) - 1) - k).toNat))) u3)
      generalize gs_up A1 (a + 1) k.toNat (-(A1 (b + 1) (((F1 a 1) - 1) - k).toNat)) = A6 at I7 f8 u9 ⊢
      refine sA_iinc (lv' := [(2, gs_iv (k + 1)), (0, .ref a), (1, .ref b)]) dd_X4_becomeBack_46 (.head _) (by decide) rfl ?_
      refine sA_goto (tgt := 18) dd_X4_becomeBack_49 (by decide) ?_
      refine sA_sub (lv2 := [(2, gs_iv (k + 1)), (0, .ref a), (1, .ref b)]) (List.forall_mem_cons.mpr ⟨(.head _), (List.forall_mem_cons.mpr ⟨(.tail _ (.head _)), (List.forall_mem_cons.mpr ⟨(.tail _ (.tail _ (.head _))), (fun _ h => absurd h List.not_mem_nil)⟩)⟩)⟩) ?_
      exact ih (k + 1) F1 A6 I7 f8 (by omega) (by omega) (by omega) (by omega) (gs_u_ext (h := fun j => -(A (b + 1) (F1 a 1 - 1 - j).toNat)) (by omega) u9 (by rw [hf1.2 (b + 1) (by dsimp only; omega)]) i4) (by omega) (by omega)
theorem c_X4_becomeBack_vm {a L b M : Nat} {F A : gs_F} (hI : gs_I F A) (hr : gs_row a L) (ho : gs_row b M) (hab : a ≠ b) : sC m_X4_becomeBack 1 [.ref a, .ref b] F A (fun rv F' A' => rv = none ∧ gs_I F' A' ∧ gs_fr (fun c j => c = a ∧ j = 1) (fun c => c = a + 1) F A F' A' ∧ (F b 1 ≤ (L : Int) → (F' a 1 = F b 1 ∧ ∀ k : Int, 0 ≤ k → k < F b 1 → A' (a + 1) k.toNat = -(A (b + 1) (F b 1 - 1 - k).toNat)))) := by
  refine sC_of ok_X4_becomeBack.1 (Nat.le_of_ble_eq_true rfl) ?_
  show sA _ _ _ 0 [(0, .ref a), (1, .ref b)] [] F A
  have hf : gs_fr (fun c j => c = a ∧ j = 1) (fun c => c = a + 1) F A F A := gs_fr_refl _ _ _ _
  have b10 := gs_row_sz hr hI
  have b11 := gs_row_sz ho hI
  have u12 : A (a + 1) = A (a + 1) := rfl
  refine sA_aload_n dd_X4_becomeBack_0 rfl (.head _) ?_
  refine sA_aload_n dd_X4_becomeBack_1 rfl (.tail _ (.head _)) ?_
  refine sA_geti (ci := 4) (j := 1) (q := (RX4, TX4, 2)) dd_X4_becomeBack_2 rfl (by decide) fl_X4_19 (Nat.lt_of_succ_lt ho.1) ho.2.1 rfl ?_
  refine sA_aload_n dd_X4_becomeBack_5 rfl (.head _) ?_
  refine sA_getr (ci := 4) (j := 0) (q := (RX4, TX4, 2)) dd_X4_becomeBack_6 rfl (by decide) fl_X4_13 (Nat.lt_of_succ_lt hr.1) hr.2.1 rfl ?_
  refine sA_alen (n := L) dd_X4_becomeBack_9 hr.1 hr.2.2.1 ?_
  have b13 := hr.2.2.2.2.2
  refine sA_mmin dd_X4_becomeBack_10 (ri_lw_in (pl := 338) (by decide +kernel)) (by decide) (by omega) (by omega) (Nat.le_of_ble_eq_true rfl) (fun w14 q15 => ?_)
  refine sA_put (ci := 4) (j := 1) (q := (RX4, TX4, 2)) (ty := .int) dd_X4_becomeBack_13 rfl (by decide) fl_X4_19 rfl (tyX4_ok 1 (by decide)) rfl rfl (Nat.lt_of_succ_lt hr.1) hr.2.1 rfl ?_
  have I17 : gs_I (gs_up F a 1 w14) A := gs_row_put hr hI (by omega)
  have f18 := gs_fr_put hf (a := a) (z := w14) (j := 1) (by first | omega | (dsimp only; omega) | (dsimp only) | fail)
  have v19 : gs_up F a 1 w14 a 1 = w14 := gs_up_self _ _ _ _
  generalize gs_up F a 1 w14 = F16 at I17 f18 v19 ⊢
  refine sA_iconst (z := 0) dd_X4_becomeBack_16 ?_
  refine sA_istore_n (lv' := [(2, gs_iv 0), (0, .ref a), (1, .ref b)]) dd_X4_becomeBack_17 rfl (by decide) rfl ?_
  have b20 := gs_row_sz hr I17
  have b21 := gs_row_sz ho I17
  refine sA_sub (lv2 := [(2, gs_iv 0), (0, .ref a), (1, .ref b)]) (List.forall_mem_cons.mpr ⟨(.head _), (List.forall_mem_cons.mpr ⟨(.tail _ (.head _)), (List.forall_mem_cons.mpr ⟨(.tail _ (.tail _ (.head _))), (fun _ h => absurd h List.not_mem_nil)⟩)⟩)⟩) ?_
  exact (k_X4_becomeBack_vm hI hr ho hab (F16 a 1 - 0 : Int).toNat.succ) 0 F16 A I17 f18 (by omega) (by omega) (by omega) (by omega) (fun j h1 h2 => by exfalso; omega) (by omega) (by omega)
theorem c_X1_between_vf {a L b M : Nat} {F A : gs_F} (hI : gs_I F A) (hr : gs_row a L) (ho : gs_row b M) (hM : (M : Int) ≤ 60) (ha18 : 18 ≤ a ∧ 18 ≤ b) (hVu : gs_vl 3 (F a 1) (A (a + 1))) (hVv : gs_vl 3 (F b 1) (A (b + 1))) : sC m_X1_between 5 [.ref 12, .ref a, .ref b] F A (fun rv F' A' => ∃ z : Int, rv = some (gs_iv z) ∧ gs_I F' A' ∧ gs_fr (fun c j => c = 13 ∧ j = 1) (fun c => c = 14) F A F' A' ∧ ((0 ≤ z ∧ z ≤ 400000) ∧ z = mt_sm 12 (A (a + 1)) (F a 1) (A (b + 1)) (F b 1))) := by
  refine sC_of ok_X1_between.1 (Nat.le_of_ble_eq_true rfl) ?_
  show sA _ _ _ 0 [(0, .ref 12), (1, .ref a), (2, .ref b)] [] F A
  have hf : gs_fr (fun c j => c = 13 ∧ j = 1) (fun c => c = 14) F A F A := gs_fr_refl _ _ _ _
  have b1 := gs_row_sz hr hI
  have b2 := gs_row_sz ho hI
  refine sA_aload_n dd_X1_between_0 rfl (.head _) ?_
  refine sA_getr (ci := 1) (j := 0) (q := (RX1, TX1, 1)) dd_X1_between_1 rfl (by decide) fl_X1_14 (by decide) gs_s12 rfl ?_
  refine sA_aload_n dd_X1_between_4 rfl (.tail _ (.tail _ (.head _))) ?_
  have hbr := gs_row_sz ho hI
  refine sA_callV (y2 := m_X4_becomeBack) (n2 := 1) (d2 := 1) (a := 13) (ci := 4) (q := (RX4, TX4, 2)) (as := [.ref b]) (rest := []) dd_X1_between_5 ok_X4_becomeBack ml_X1_20 rfl rfl (Nat.lt_of_succ_lt gs_row_13.1) gs_row_13.2.1 rfl rfl (Nat.le_of_ble_eq_true rfl) (by decide) (c_X4_becomeBack_vm hI gs_row_13 ho (by omega)) (fun r3 F4 A5 h6 => ?_)
  obtain ⟨e8, I9, f10, x7⟩ := h6
  subst e8
  have f11 := gs_fr_tr hf f10 (fun b j h => by first | exact False.elim h | omega | (dsimp only at h ⊢; omega) | fail) (fun b h => by first | exact False.elim h | omega | (dsimp only at h ⊢; omega) | fail)
  have y12 : F b 1 ≤ (60 : Int) → (F4 13 1 = F b 1 ∧ ∀ k : Int, 0 ≤ k → k < F b 1 → A5 14 k.toNat = -(A (b + 1) (F b 1 - 1 - k).toNat)) := x7
  clear x7
  show sA _ _ _ 8 _ [] _ _
  refine sA_aload_n dd_X1_between_8 rfl (.tail _ (.head _)) ?_
  refine sA_aload_n dd_X1_between_9 rfl (.tail _ (.tail _ (.head _))) ?_
  obtain ⟨k1, k2⟩ := y12 (by omega)
  have ea : A5 (a + 1) = A (a + 1) := f11.2 (a + 1) (by dsimp only; omega)
  have eb : A5 (b + 1) = A (b + 1) := f11.2 (b + 1) (by dsimp only; omega)
  have na : F4 a 1 = F a 1 := f11.1 a 1 (by dsimp only; omega)
  have nb : F4 b 1 = F b 1 := f11.1 b 1 (by dsimp only; omega)
  have hrv : ∀ k : Nat, (k : Int) < F b 1 → A5 14 k = gs_rv (A (b + 1)) (F b 1) k := fun k hk => by
    have w := k2 k (by omega) hk
    rw [Int.toNat_natCast] at w
    exact w
  have hVu1 : gs_vl 3 (F4 a 1) (A5 (a + 1)) := by rw [ea, na]; exact hVu
  have hVv1 : gs_vl 3 (F4 b 1) (A5 (b + 1)) := by rw [eb, nb]; exact hVv
  have hVb : gs_vl 3 (F4 13 1) (A5 14) := by
    rw [k1]
    exact mt_vl_cg (fun k hk => (hrv k hk).symm) (mt_rv_vl hVv)
  refine sA_iconst (z := 1) dd_X1_between_10 ?_
  refine sA_callS (y2 := m_X1_crossings) (n2 := 3) (d2 := 4) (as := [.ref a, .ref b, gs_iv 1]) (rest := []) dd_X1_between_11 ok_X1_crossings ml_X1_24 rfl rfl (Nat.le_of_ble_eq_true rfl) (by decide) (c_X1_crossings_vf I9 hr ho (by omega) hVu1 hVv1) (fun r13 F14 A15 h16 => ?_)
  obtain ⟨z19, e18, e20, e21, x17⟩ := h16
  subst e18 e20 e21
  have y22 : (0 ≤ z19 ∧ z19 ≤ 160000) ∧ z19 = mt_ct 12 (1 : Int) (A5 (a + 1)) (F4 a 1) (A5 (b + 1)) (F4 b 1) := x17
  clear x17
  show sA _ _ _ 14 _ [gs_iv z19] _ _
  refine sA_aload_n dd_X1_between_14 rfl (.tail _ (.head _)) ?_
  refine sA_aload_n dd_X1_between_15 rfl (.head _) ?_
  refine sA_getr (ci := 1) (j := 0) (q := (RX1, TX1, 1)) dd_X1_between_16 rfl (by decide) fl_X1_14 (by decide) gs_s12 rfl ?_
  refine sA_iconst (z := 0) dd_X1_between_19 ?_
  refine sA_callS (y2 := m_X1_crossings) (n2 := 3) (d2 := 4) (as := [.ref a, .ref 13, gs_iv 0]) (rest := [gs_iv z19]) dd_X1_between_20 ok_X1_crossings ml_X1_24 rfl rfl (Nat.le_of_ble_eq_true rfl) (by decide) (c_X1_crossings_vf I9 hr gs_row_13 (by omega) hVu1 hVb) (fun r23 F24 A25 h26 => ?_)
  obtain ⟨z29, e28, e30, e31, x27⟩ := h26
  subst e28 e30 e31
  have y32 : (0 ≤ z29 ∧ z29 ≤ 160000) ∧ z29 = mt_ct 12 (0 : Int) (A5 (a + 1)) (F4 a 1) (A5 14) (F4 13 1) := x27
  clear x27
  show sA _ _ _ 23 _ [gs_iv z29, gs_iv z19] _ _
  refine sA_iadd dd_X1_between_23 ?_
  refine sA_iret (z := z19 + z29) dd_X1_between_24 rfl ?_
  refine ⟨_, rfl, I9, f11, ?_⟩
  refine ⟨by omega, ?_⟩
  have y1 := y22.2
  have y2 := y32.2
  rw [ea, eb, na, nb] at y1
  rw [ea, na, k1] at y2
  unfold mt_sm
  rw [y1, y2]
  exact congrArg (fun q => mt_ct 12 1 (A (a + 1)) (F a 1) (A (b + 1)) (F b 1) + q) (mt_ct_cg (fun _ _ => rfl) hrv)
theorem c_X3_become_vm {a b M : Nat} {F A : gs_F} (hI : gs_I F A) (hg : gs_ring a) (ho : gs_row b M) (hM : (M : Int) ≤ 60) (ha54 : 54 ≤ a) (hVd : gs_vl 3 (F b 1) (A (b + 1))) : sC m_X3_become 6 [.ref a, .ref b, .ref 12] F A (fun rv F' A' => rv = none ∧ gs_I F' A' ∧ gs_fr (fun c j => (c = a + 1 ∧ j = 1) ∨ (c = a ∧ (j = 1 ∨ j = 2)) ∨ (c = 13 ∧ j = 1)) (fun c => c = a + 1 + 1 ∨ c = 14) F A F' A' ∧ (∃ k : Int, gs_lo (A (b + 1)) (F b 1) k ∧ F' (a + 1) 1 = F b 1 - 2 * k ∧ (∀ i : Nat, (i : Int) < F b 1 - 2 * k → A' (a + 1 + 1) i = A (b + 1) (k.toNat + i)) ∧ gs_r6 (A' (a + 1 + 1)) (F' (a + 1) 1) (F' a 1) (F' a 2))) := by
  refine sC_of ok_X3_become.1 (Nat.le_of_ble_eq_true rfl) ?_
  show sA _ _ _ 0 [(0, .ref a), (1, .ref b), (2, .ref 12)] [] F A
  have hf : gs_fr (fun c j => (c = a + 1 ∧ j = 1) ∨ (c = a ∧ (j = 1 ∨ j = 2)) ∨ (c = 13 ∧ j = 1)) (fun c => c = a + 1 + 1 ∨ c = 14) F A F A := gs_fr_refl _ _ _ _
  have b1 := gs_row_sz hg.2.2.1 hI
  have b2 := gs_row_sz ho hI
  have u3 : A (a + 1 + 1) = A (a + 1 + 1) := rfl
  refine sA_aload_n dd_X3_become_0 rfl (.head _) ?_
  refine sA_getr (ci := 3) (j := 0) (q := (RX3, TX3, 3)) dd_X3_become_1 rfl (by decide) fl_X3_14 (Nat.lt_of_succ_lt hg.1) hg.2.1 rfl ?_
  refine sA_aload_n dd_X3_become_4 rfl (.tail _ (.head _)) ?_
  refine sA_callV (y2 := m_X4_copy) (n2 := 1) (d2 := 1) (a := (a + 1)) (ci := 4) (q := (RX4, TX4, 2)) (as := [.ref b]) (rest := []) dd_X3_become_5 ok_X4_copy ml_X3_20 rfl rfl (Nat.lt_of_succ_lt hg.2.2.1.1) hg.2.2.1.2.1 rfl rfl (Nat.le_of_ble_eq_true rfl) (by decide) (c_X4_copy_vf hI hg.2.2.1 ho) (fun r4 F5 A6 h7 => ?_)
  obtain ⟨e9, I10, f11, x8⟩ := h7
  subst e9
  have f14 := gs_fr_tr hf f11 (fun b j h => by first | exact False.elim h | omega | (dsimp only at h ⊢; omega) | fail) (fun b h => by first | exact False.elim h | omega | (dsimp only at h ⊢; omega) | fail)
  have u15 : A6 (a + 1 + 1) = A6 (a + 1 + 1) := rfl
  have y16 : F b 1 ≤ (60 : Int) → (F5 (a + 1) 1 = F b 1 ∧ A6 ((a + 1) + 1) = gs_cc (A (b + 1)) (A ((a + 1) + 1)) 0 0 (F b 1).toNat) := x8
  clear x8
  show sA _ _ _ 8 _ [] _ _
  refine sA_aload_n dd_X3_become_8 rfl (.head _) ?_
  refine sA_getr (ci := 3) (j := 0) (q := (RX3, TX3, 3)) dd_X3_become_9 rfl (by decide) fl_X3_14 (Nat.lt_of_succ_lt hg.1) hg.2.1 rfl ?_
  refine sA_callV (y2 := m_X4_close) (n2 := 0) (d2 := 2) (a := (a + 1)) (ci := 4) (q := (RX4, TX4, 2)) (as := []) (rest := []) dd_X3_become_12 ok_X4_close ml_X3_24 rfl rfl (Nat.lt_of_succ_lt hg.2.2.1.1) hg.2.2.1.2.1 rfl rfl (Nat.le_of_ble_eq_true rfl) (by decide) (c_X4_close_vf I10 hg.2.2.1) (fun r17 F18 A19 h20 => ?_)
  obtain ⟨e22, I23, f24, x21⟩ := h20
  subst e22
  have f27 := gs_fr_tr f14 f24 (fun b j h => by first | exact False.elim h | omega | (dsimp only at h ⊢; omega) | fail) (fun b h => by first | exact False.elim h | omega | (dsimp only at h ⊢; omega) | fail)
  have u28 : A19 (a + 1 + 1) = A19 (a + 1 + 1) := rfl
  have y29 : ∃ k : Int, gs_lo (A6 ((a + 1) + 1)) (F5 (a + 1) 1) k ∧ F18 (a + 1) 1 = F5 (a + 1) 1 - 2 * k ∧ A19 ((a + 1) + 1) = gs_cc (A6 ((a + 1) + 1)) (A6 ((a + 1) + 1)) k.toNat 0 (F5 (a + 1) 1 - 2 * k).toNat := x21
  clear x21
  show sA _ _ _ 15 _ [] _ _
  refine sA_aload_n dd_X3_become_15 rfl (.head _) ?_
  refine sA_aload_n dd_X3_become_16 rfl (.head _) ?_
  refine sA_getr (ci := 3) (j := 0) (q := (RX3, TX3, 3)) dd_X3_become_17 rfl (by decide) fl_X3_14 (Nat.lt_of_succ_lt hg.1) hg.2.1 rfl ?_
  refine sA_callV (y2 := m_X4_isPower) (n2 := 0) (d2 := 2) (a := (a + 1)) (ci := 4) (q := (RX4, TX4, 2)) (as := []) (rest := [.ref a]) dd_X3_become_20 ok_X4_isPower ml_X3_27 rfl rfl (Nat.lt_of_succ_lt hg.2.2.1.1) hg.2.2.1.2.1 rfl rfl (Nat.le_of_ble_eq_true rfl) (by decide) (c_X4_isPower_vf I23 hg.2.2.1) (fun r30 F31 A32 h33 => ?_)
  obtain ⟨z36, e35, e37, e38, x34⟩ := h33
  subst e35 e37 e38
  have y39 : (z36 = 1 ∧ gs_pow (A19 ((a + 1) + 1)) (F18 (a + 1) 1)) ∨ (z36 = 0 ∧ ¬ gs_pow (A19 ((a + 1) + 1)) (F18 (a + 1) 1)) := x34
  clear x34
  show sA _ _ _ 23 _ [gs_iv z36, .ref a] _ _
  have hz20 : z36 = 0 ∨ z36 = 1 := by omega
  obtain ⟨e1, e2⟩ := y16 (by omega)
  obtain ⟨k, k1, k2, k3⟩ := y29
  rw [e1] at k1 k2 k3
  obtain ⟨m1, m2⟩ := gs_bec (by omega) e2 k1 k3
  have mk0 := m1.1
  refine sA_put (ci := 3) (j := 1) (q := (RX3, TX3, 3)) (ty := .boolean) dd_X3_become_23 rfl (by decide) fl_X3_31 rfl (tyX3_ok 1 (by decide)) (gs_bool (by omega)) (gs_boolf (by omega)) (Nat.lt_of_succ_lt hg.1) hg.2.1 rfl ?_
  have I41 : gs_I (gs_up F18 a 1 z36) A19 := gs_ring_put1 hg I23 (by omega)
  have f42 := gs_fr_put f27 (a := a) (z := z36) (j := 1) (by first | omega | (dsimp only; omega) | (dsimp only) | fail)
  have v43 : gs_up F18 a 1 z36 a 1 = z36 := gs_up_self _ _ _ _
  have v44 : (gs_up F18 a 1 z36) (a + 1) 1 = F18 (a + 1) 1 := gs_up_ne _ _ (by omega)
  generalize gs_up F18 a 1 z36 = F40 at I41 f42 v43 v44 ⊢
  refine sA_aload_n dd_X3_become_26 rfl (.head _) ?_
  refine sA_aload_n dd_X3_become_27 rfl (.head _) ?_
  refine sA_geti (ci := 3) (j := 1) (q := (RX3, TX3, 3)) dd_X3_become_28 rfl (by decide) fl_X3_31 (Nat.lt_of_succ_lt hg.1) hg.2.1 rfl ?_
  have b45 := gs_ring_f1 hg I41
  refine sA_if_eq (tgt := 38) dd_X3_become_31 (by decide) (by omega) (fun q46 => ?_) (fun q46 => ?_)
  · skip
    have hVu : gs_vl 3 (F40 (a + 1) 1) (A19 (a + 1 + 1)) := fun i hi => by
      rw [u28, m2 i (by omega)]
      exact hVd _ (by omega)
    have hVv := hVu
    refine sA_aload_n dd_X3_become_38 rfl (.tail _ (.tail _ (.head _))) ?_
    refine sA_aload_n dd_X3_become_39 rfl (.head _) ?_
    refine sA_getr (ci := 3) (j := 0) (q := (RX3, TX3, 3)) dd_X3_become_40 rfl (by decide) fl_X3_14 (Nat.lt_of_succ_lt hg.1) hg.2.1 rfl ?_
    refine sA_aload_n dd_X3_become_43 rfl (.head _) ?_
    refine sA_getr (ci := 3) (j := 0) (q := (RX3, TX3, 3)) dd_X3_become_44 rfl (by decide) fl_X3_14 (Nat.lt_of_succ_lt hg.1) hg.2.1 rfl ?_
    refine sA_callV (y2 := m_X1_between) (n2 := 2) (d2 := 5) (a := 12) (ci := 1) (q := (RX1, TX1, 1)) (as := [.ref (a + 1), .ref (a + 1)]) (rest := [.ref a]) dd_X3_become_47 ok_X1_between ml_X3_35 rfl rfl (by decide) gs_s12 rfl rfl (Nat.le_of_ble_eq_true rfl) (by decide) (c_X1_between_vf I41 hg.2.2.1 hg.2.2.1 (by omega) (by omega) hVu hVv) (fun r47 F48 A49 h50 => ?_)
    obtain ⟨z53, e52, I54, f55, x51⟩ := h50
    subst e52
    have v56 : F48 (a + 1) 1 = F40 (a + 1) 1 := f55.1 (a + 1) 1 (by first | exact id | omega | (dsimp only; omega) | (dsimp only) | fail)
    have v57 : F48 a 1 = F40 a 1 := f55.1 a 1 (by first | exact id | omega | (dsimp only; omega) | (dsimp only) | fail)
    have f58 := gs_fr_tr f42 f55 (fun b j h => by first | exact False.elim h | omega | (dsimp only at h ⊢; omega) | fail) (fun b h => by first | exact False.elim h | omega | (dsimp only at h ⊢; omega) | fail)
    have u59 : A49 (a + 1 + 1) = A19 (a + 1 + 1) := (f55.2 (a + 1 + 1) (by first | exact id | omega | (dsimp only; omega) | (dsimp only) | fail)).trans u28
    have y60 : (0 ≤ z53 ∧ z53 ≤ 400000) ∧ z53 = mt_sm 12 (A19 ((a + 1) + 1)) (F40 (a + 1) 1) (A19 ((a + 1) + 1)) (F40 (a + 1) 1) := x51
    clear x51
    show sA _ _ _ 50 _ [gs_iv z53, .ref a] _ _
    refine sA_iconst (z := 2) dd_X3_become_50 ?_
    refine sA_idivN dd_X3_become_51 (by omega) (by omega) (by omega) ?_
    refine sA_put (ci := 3) (j := 2) (q := (RX3, TX3, 3)) (ty := .int) dd_X3_become_52 rfl (by decide) fl_X3_41 rfl (tyX3_ok 2 (by decide)) rfl rfl (Nat.lt_of_succ_lt hg.1) hg.2.1 rfl ?_
    have I62 : gs_I (gs_up F48 a 2 (z53 / 2)) A49 := gs_ring_put2 hg I54 (by omega)
    have f63 := gs_fr_put f58 (a := a) (z := z53 / 2) (j := 2) (by first | omega | (dsimp only; omega) | (dsimp only) | fail)
    have v64 : gs_up F48 a 2 (z53 / 2) a 2 = z53 / 2 := gs_up_self _ _ _ _
    have v65 : (gs_up F48 a 2 (z53 / 2)) (a + 1) 1 = F48 (a + 1) 1 := gs_up_ne _ _ (by omega)
    have v66 : (gs_up F48 a 2 (z53 / 2)) a 1 = F48 a 1 := gs_up_ne _ _ (by omega)
    generalize gs_up F48 a 2 (z53 / 2) = F61 at I62 f63 v64 v65 v66 ⊢
    refine sA_vret dd_X3_become_55 rfl ?_
    refine ⟨rfl, I62, f63, ?_⟩
    refine ⟨k, m1, by omega, fun i hi => ?_, ?_⟩
    · rw [u59]
      exact m2 i hi
    · have e3 : F61 (a + 1) 1 = F18 (a + 1) 1 := by omega
      rw [e3, u59]
      rcases y39 with h | h
      · exfalso
        omega
      · refine .inr ⟨by omega, h.2, ?_⟩
        have y := y60.2
        rw [show F40 (a + 1) 1 = F18 (a + 1) 1 by omega] at y
        rw [← y]
        omega
  · skip
    refine sA_iconst (z := (-1)) dd_X3_become_34 ?_
    refine sA_goto (tgt := 52) dd_X3_become_35 (by decide) ?_
    refine sA_put (ci := 3) (j := 2) (q := (RX3, TX3, 3)) (ty := .int) dd_X3_become_52 rfl (by decide) fl_X3_41 rfl (tyX3_ok 2 (by decide)) rfl rfl (Nat.lt_of_succ_lt hg.1) hg.2.1 rfl ?_
    have I68 : gs_I (gs_up F40 a 2 (-1)) A19 := gs_ring_put2 hg I41 (by omega)
    have f69 := gs_fr_put f42 (a := a) (z := -1) (j := 2) (by first | omega | (dsimp only; omega) | (dsimp only) | fail)
    have v70 : gs_up F40 a 2 (-1) a 2 = -1 := gs_up_self _ _ _ _
    have v71 : (gs_up F40 a 2 (-1)) (a + 1) 1 = F40 (a + 1) 1 := gs_up_ne _ _ (by omega)
    have v72 : (gs_up F40 a 2 (-1)) a 1 = F40 a 1 := gs_up_ne _ _ (by omega)
    generalize gs_up F40 a 2 (-1) = F67 at I68 f69 v70 v71 v72 ⊢
    refine sA_vret dd_X3_become_55 rfl ?_
    refine ⟨rfl, I68, f69, ?_⟩
    refine ⟨k, m1, by omega, fun i hi => ?_, ?_⟩
    · rw [u28]
      exact m2 i hi
    · have e3 : F67 (a + 1) 1 = F18 (a + 1) 1 := by omega
      rw [e3, u28]
      rcases y39 with h | h
      · exact .inl ⟨by omega, h.2, by omega⟩
      · exfalso
        omega
theorem c_X8_ring_vm  {F A : gs_F} (hI : gs_I F A) (hVd : gs_vl 3 (F 3 1) (A 4)) : sC m_X8_ring 7 [.ref 0] F A (fun rv F' A' => ∃ z : Int, rv = some (gs_iv z) ∧ gs_I F' A' ∧ gs_fr (fun c j => (c = 0 ∧ j = 12) ∨ (c = 3 ∧ j = 1) ∨ (F 0 12 < 12 ∧ 54 + 3 * (F 0 12).toNat ≤ c ∧ c ≤ 54 + 3 * (F 0 12).toNat + 1) ∨ (c = 13 ∧ j = 1)) (fun c => (F 0 12 < 12 ∧ c = 54 + 3 * (F 0 12).toNat + 1 + 1) ∨ c = 14) F A F' A' ∧ ((F 3 1 = 0 ∧ z = -1003 ∧ F' 0 12 = F 0 12 ∧ F' 3 1 = F 3 1) ∨ (F 3 1 ≠ 0 ∧ F 0 12 = 12 ∧ z = -1004 ∧ F' 0 12 = F 0 12 ∧ F' 3 1 = F 3 1) ∨ (F 3 1 ≠ 0 ∧ F 0 12 < 12 ∧ z = F 0 12 ∧ F' 0 12 = F 0 12 + 1 ∧ F' 3 1 = 0 ∧ ∃ k : Int, gs_lo (A 4) (F 3 1) k ∧ F' (54 + 3 * (F 0 12).toNat + 1) 1 = F 3 1 - 2 * k ∧ (∀ i : Nat, (i : Int) < F 3 1 - 2 * k → A' (54 + 3 * (F 0 12).toNat + 1 + 1) i = A 4 (k.toNat + i)) ∧ gs_r6 (A' (54 + 3 * (F 0 12).toNat + 1 + 1)) (F' (54 + 3 * (F 0 12).toNat + 1) 1) (F' (54 + 3 * (F 0 12).toNat) 1) (F' (54 + 3 * (F 0 12).toNat) 2)))) := by
  refine sC_of ok_X8_ring.1 (Nat.le_of_ble_eq_true rfl) ?_
  show sA _ _ _ 0 [(0, .ref 0)] [] F A
  have hf : gs_fr (fun c j => (c = 0 ∧ j = 12) ∨ (c = 3 ∧ j = 1) ∨ (F 0 12 < 12 ∧ 54 + 3 * (F 0 12).toNat ≤ c ∧ c ≤ 54 + 3 * (F 0 12).toNat + 1) ∨ (c = 13 ∧ j = 1)) (fun c => (F 0 12 < 12 ∧ c = 54 + 3 * (F 0 12).toNat + 1 + 1) ∨ c = 14) F A F A := gs_fr_refl _ _ _ _
  have b1 : (0 : Int) ≤ F 0 12 ∧ F 0 12 ≤ 12 := hI.1 0 12
  have b2 := gs_row_sz gs_row_3 hI
  refine sA_aload_n dd_X8_ring_0 rfl (.head _) ?_
  refine sA_getr (ci := 8) (j := 2) (q := (RX8, TX8, 13)) dd_X8_ring_1 rfl (by decide) fl_X8_26 (by decide) gs_s0 rfl ?_
  refine sA_geti (ci := 4) (j := 1) (q := (RX4, TX4, 2)) dd_X8_ring_4 rfl (by decide) fl_X8_88 (Nat.lt_of_succ_lt gs_row_3.1) gs_row_3.2.1 rfl ?_
  refine sA_if_ne (tgt := 14) dd_X8_ring_7 (by decide) (by omega) (fun q3 => ?_) (fun q3 => ?_)
  · skip
    refine sA_aload_n dd_X8_ring_14 rfl (.head _) ?_
    refine sA_geti (ci := 8) (j := 12) (q := (RX8, TX8, 13)) dd_X8_ring_15 rfl (by decide) fl_X8_94 (by decide) gs_s0 rfl ?_
    refine sA_bipush (z := 12) dd_X8_ring_18 (by decide) ?_
    refine sA_icmp_lt (tgt := 27) dd_X8_ring_20 (by decide) (by omega) (by omega) (fun q4 => ?_) (fun q4 => ?_)
    · skip
      refine sA_aload_n dd_X8_ring_27 rfl (.head _) ?_
      refine sA_getr (ci := 8) (j := 0) (q := (RX8, TX8, 13)) dd_X8_ring_28 rfl (by decide) fl_X8_11 (by decide) gs_s0 rfl ?_
      refine sA_aload_n dd_X8_ring_31 rfl (.head _) ?_
      refine sA_geti (ci := 8) (j := 12) (q := (RX8, TX8, 13)) dd_X8_ring_32 rfl (by decide) fl_X8_94 (by decide) gs_s0 rfl ?_
      refine sA_aald (n := 12) dd_X8_ring_35 (by decide) (by decide) (by decide) gs_s1 (by omega) (by decide) ?_
      have g5 := gs_ring_at (k := (F 0 12).toNat) (by omega)
      refine sA_aload_n dd_X8_ring_36 rfl (.head _) ?_
      refine sA_getr (ci := 8) (j := 2) (q := (RX8, TX8, 13)) dd_X8_ring_37 rfl (by decide) fl_X8_26 (by decide) gs_s0 rfl ?_
      refine sA_aload_n dd_X8_ring_40 rfl (.head _) ?_
      refine sA_getr (ci := 8) (j := 4) (q := (RX8, TX8, 13)) dd_X8_ring_41 rfl (by decide) fl_X8_40 (by decide) gs_s0 rfl ?_
      refine sA_callV (y2 := m_X3_become) (n2 := 2) (d2 := 6) (a := (54 + 3 * (F 0 12).toNat)) (ci := 3) (q := (RX3, TX3, 3)) (as := [.ref 3, .ref 12]) (rest := []) dd_X8_ring_44 ok_X3_become ml_X8_97 rfl rfl (Nat.lt_of_succ_lt g5.1) g5.2.1 rfl rfl (Nat.le_of_ble_eq_true rfl) (by decide) (c_X3_become_vm hI g5 gs_row_3 (by omega) (by omega) hVd) (fun r6 F7 A8 h9 => ?_)
      obtain ⟨e11, I12, f13, x10⟩ := h9
      subst e11
      have v14 : F7 0 12 = F 0 12 := f13.1 0 12 (by first | exact id | omega | (dsimp only; omega) | (dsimp only) | fail)
      have v15 : F7 3 1 = F 3 1 := f13.1 3 1 (by first | exact id | omega | (dsimp only; omega) | (dsimp only) | fail)
      have f19 := gs_fr_tr hf f13 (fun b j h => by first | exact False.elim h | omega | (dsimp only at h ⊢; omega) | fail) (fun b h => by first | exact False.elim h | omega | (dsimp only at h ⊢; omega) | fail)
      have y20 : ∃ k : Int, gs_lo (A 4) (F 3 1) k ∧ F7 ((54 + 3 * (F 0 12).toNat) + 1) 1 = F 3 1 - 2 * k ∧ (∀ i : Nat, (i : Int) < F 3 1 - 2 * k → A8 ((54 + 3 * (F 0 12).toNat) + 1 + 1) i = A 4 (k.toNat + i)) ∧ gs_r6 (A8 ((54 + 3 * (F 0 12).toNat) + 1 + 1)) (F7 ((54 + 3 * (F 0 12).toNat) + 1) 1) (F7 (54 + 3 * (F 0 12).toNat) 1) (F7 (54 + 3 * (F 0 12).toNat) 2) := x10
      clear x10
      show sA _ _ _ 47 _ [] _ _
      refine sA_aload_n dd_X8_ring_47 rfl (.head _) ?_
      refine sA_getr (ci := 8) (j := 2) (q := (RX8, TX8, 13)) dd_X8_ring_48 rfl (by decide) fl_X8_26 (by decide) gs_s0 rfl ?_
      refine sA_iconst (z := 0) dd_X8_ring_51 ?_
      refine sA_put (ci := 4) (j := 1) (q := (RX4, TX4, 2)) (ty := .int) dd_X8_ring_52 rfl (by decide) fl_X8_88 rfl (tyX4_ok 1 (by decide)) rfl rfl (Nat.lt_of_succ_lt gs_row_3.1) gs_row_3.2.1 rfl ?_
      have I22 : gs_I (gs_up F7 3 1 0) A8 := gs_row_put gs_row_3 I12 (by omega)
      have f23 := gs_fr_put f19 (a := 3) (z := 0) (j := 1) (by first | omega | (dsimp only; omega) | (dsimp only) | fail)
      have v24 : gs_up F7 3 1 0 3 1 = 0 := gs_up_self _ _ _ _
      have v25 : (gs_up F7 3 1 0) 0 12 = F7 0 12 := gs_up_ne _ _ (by omega)
      have v26 : (gs_up F7 3 1 0) (54 + 3 * (F 0 12).toNat + 1) 1 = F7 (54 + 3 * (F 0 12).toNat + 1) 1 := gs_up_ne _ _ (by omega)
      have v27 : (gs_up F7 3 1 0) (54 + 3 * (F 0 12).toNat) 1 = F7 (54 + 3 * (F 0 12).toNat) 1 := gs_up_ne _ _ (by omega)
      have v28 : (gs_up F7 3 1 0) (54 + 3 * (F 0 12).toNat) 2 = F7 (54 + 3 * (F 0 12).toNat) 2 := gs_up_ne _ _ (by omega)
      generalize gs_up F7 3 1 0 = F21 at I22 f23 v24 v25 v26 v27 v28 ⊢
      refine sA_aload_n dd_X8_ring_55 rfl (.head _) ?_
      refine sA_dup dd_X8_ring_56 rfl ?_
      refine sA_geti (ci := 8) (j := 12) (q := (RX8, TX8, 13)) dd_X8_ring_57 rfl (by decide) fl_X8_94 (by decide) gs_s0 rfl ?_
      have b29 : (0 : Int) ≤ F21 0 12 ∧ F21 0 12 ≤ 12 := I22.1 0 12
      refine sA_iconst (z := 1) dd_X8_ring_60 ?_
      refine sA_iadd dd_X8_ring_61 ?_
      refine sA_put (ci := 8) (j := 12) (q := (RX8, TX8, 13)) (ty := .int) dd_X8_ring_62 rfl (by decide) fl_X8_94 rfl (tyX8_ok 12 (by decide)) rfl rfl (by decide) gs_s0 rfl ?_
      have I31 : gs_I (gs_up F21 0 12 ((F21 0 12) + 1)) A8 := gs_I_put I22 (show (0 : Int) ≤ (F21 0 12) + 1 ∧ (F21 0 12) + 1 ≤ 12 by omega)
      have f32 := gs_fr_put f23 (a := 0) (z := (F21 0 12) + 1) (j := 12) (by first | omega | (dsimp only; omega) | (dsimp only) | fail)
      have v33 : gs_up F21 0 12 ((F21 0 12) + 1) 0 12 = (F21 0 12) + 1 := gs_up_self _ _ _ _
      have v34 : (gs_up F21 0 12 ((F21 0 12) + 1)) 3 1 = F21 3 1 := gs_up_ne _ _ (by omega)
      have v35 : (gs_up F21 0 12 ((F21 0 12) + 1)) (54 + 3 * (F 0 12).toNat + 1) 1 = F21 (54 + 3 * (F 0 12).toNat + 1) 1 := gs_up_ne _ _ (by omega)
      have v36 : (gs_up F21 0 12 ((F21 0 12) + 1)) (54 + 3 * (F 0 12).toNat) 1 = F21 (54 + 3 * (F 0 12).toNat) 1 := gs_up_ne _ _ (by omega)
      have v37 : (gs_up F21 0 12 ((F21 0 12) + 1)) (54 + 3 * (F 0 12).toNat) 2 = F21 (54 + 3 * (F 0 12).toNat) 2 := gs_up_ne _ _ (by omega)
      generalize gs_up F21 0 12 ((F21 0 12) + 1) = F30 at I31 f32 v33 v34 v35 v36 v37 ⊢
      refine sA_aload_n dd_X8_ring_65 rfl (.head _) ?_
      refine sA_geti (ci := 8) (j := 12) (q := (RX8, TX8, 13)) dd_X8_ring_66 rfl (by decide) fl_X8_94 (by decide) gs_s0 rfl ?_
      have b38 : (0 : Int) ≤ F30 0 12 ∧ F30 0 12 ≤ 12 := I31.1 0 12
      refine sA_iconst (z := 1) dd_X8_ring_69 ?_
      refine sA_isub dd_X8_ring_70 ?_
      refine sA_iret (z := (F30 0 12) - 1) dd_X8_ring_71 rfl ?_
      refine ⟨_, rfl, I31, f32, ?_⟩
      obtain ⟨k, k1, k2, k3, k4⟩ := y20
      refine .inr (.inr ⟨by omega, by omega, by omega, by omega, by omega, k, k1, by omega, k3, ?_⟩)
      have e3 : F30 (54 + 3 * (F 0 12).toNat + 1) 1 = F7 (54 + 3 * (F 0 12).toNat + 1) 1 := by omega
      have e4 : F30 (54 + 3 * (F 0 12).toNat) 1 = F7 (54 + 3 * (F 0 12).toNat) 1 := by omega
      have e5 : F30 (54 + 3 * (F 0 12).toNat) 2 = F7 (54 + 3 * (F 0 12).toNat) 2 := by omega
      rw [e3, e4, e5]
      exact k4
    · skip
      refine sA_sipush (z := (-1004)) dd_X8_ring_23 (by decide) ?_
      refine sA_iret (z := -1004) dd_X8_ring_26 rfl ?_
      refine ⟨_, rfl, hI, hf, ?_⟩
      exact .inr (.inl ⟨by omega, by omega, by omega, by omega, by omega⟩)
  · skip
    refine sA_sipush (z := (-1003)) dd_X8_ring_10 (by decide) ?_
    refine sA_iret (z := -1003) dd_X8_ring_13 rfl ?_
    refine ⟨_, rfl, hI, hf, ?_⟩
    exact .inl ⟨by omega, by omega, by omega, by omega⟩
theorem c_X3_isSimple_vf {a : Nat} {F A : gs_F} (hI : gs_I F A) (hg : gs_ring a) : sC m_X3_isSimple 1 [.ref a] F A (fun rv F' A' => ∃ z : Int, rv = some (gs_iv z) ∧ F = F' ∧ A = A' ∧ ((z = 1 ∧ F a 2 = 0) ∨ (z = 0 ∧ F a 2 ≠ 0))) := by
  refine sC_of ok_X3_isSimple.1 (Nat.le_of_ble_eq_true rfl) ?_
  show sA _ _ _ 0 [(0, .ref a)] [] F A
  have b1 := gs_row_sz hg.2.2.1 hI
  refine sA_aload_n dd_X3_isSimple_0 rfl (.head _) ?_
  refine sA_geti (ci := 3) (j := 2) (q := (RX3, TX3, 3)) dd_X3_isSimple_1 rfl (by decide) fl_X3_41 (Nat.lt_of_succ_lt hg.1) hg.2.1 rfl ?_
  have b2 := gs_ring_f2 hg hI
  refine sA_if_ne (tgt := 11) dd_X3_isSimple_4 (by decide) (by omega) (fun q3 => ?_) (fun q3 => ?_)
  · skip
    refine sA_iconst (z := 0) dd_X3_isSimple_11 ?_
    refine sA_bret (z := 0) dd_X3_isSimple_12 rfl (by omega) ?_
    exact ⟨_, rfl, rfl, rfl, by omega⟩
  · skip
    refine sA_iconst (z := 1) dd_X3_isSimple_7 ?_
    refine sA_goto (tgt := 12) dd_X3_isSimple_8 (by decide) ?_
    refine sA_bret (z := 1) dd_X3_isSimple_12 rfl (by omega) ?_
    exact ⟨_, rfl, rfl, rfl, by omega⟩
theorem c_X8_told_vf {r w : Int} {F A : gs_F} (hI : gs_I F A) (hr : -2147483648 ≤ r ∧ r ≤ 2147483647) (hw : -2147483648 ≤ w ∧ w ≤ 2147483647) : sC m_X8_told 2 [.ref 0, gs_iv r, gs_iv w] F A (fun rv F' A' => ∃ z : Int, rv = some (gs_iv z) ∧ F = F' ∧ A = A' ∧ (((r < 0 ∨ F 0 12 ≤ r) ∧ z = -1001) ∨ (0 ≤ r ∧ r < F 0 12 ∧ ((w = 0 ∧ z = F (54 + 3 * r.toNat + 1) 1) ∨ (w = 1 ∧ z = F (54 + 3 * r.toNat) 1) ∨ (w = 2 ∧ z = F (54 + 3 * r.toNat) 2) ∨ (w = 3 ∧ ((F (54 + 3 * r.toNat) 2 = 0 ∧ z = 1) ∨ (F (54 + 3 * r.toNat) 2 ≠ 0 ∧ z = 0))) ∨ ((w < 0 ∨ 3 < w) ∧ z = -1002))))) := by
  refine sC_of ok_X8_told.1 (Nat.le_of_ble_eq_true rfl) ?_
  show sA _ _ _ 0 [(0, .ref 0), (1, gs_iv r), (2, gs_iv w)] [] F A
  refine sA_aload_n dd_X8_told_0 rfl (.head _) ?_
  refine sA_iload_n dd_X8_told_1 rfl (.tail _ (.head _)) ?_
  refine sA_callV (y2 := m_X8_isRing) (n2 := 1) (d2 := 1) (a := 0) (ci := 8) (q := (RX8, TX8, 13)) (as := [gs_iv r]) (rest := []) dd_X8_told_2 ok_X8_isRing ml_X8_101 rfl rfl (by decide) gs_s0 rfl rfl (Nat.le_of_ble_eq_true rfl) (by decide) (c_X8_isRing hI (by omega)) (fun r1 F2 A3 h4 => ?_)
  obtain ⟨z7, e6, e8, e9, x5⟩ := h4
  subst e6 e8 e9
  show sA _ _ _ 5 _ [gs_iv z7] _ _
  refine sA_if_ne (tgt := 12) dd_X8_told_5 (by decide) (by omega) (fun q10 => ?_) (fun q10 => ?_)
  · skip
    refine sA_iload_n dd_X8_told_12 rfl (.tail _ (.tail _ (.head _))) ?_
    by_cases q11 : w = 0
    · refine sA_tblIn (off := 31) (tgt := 44) dd_X8_told_13 (by omega) (by omega) (by rw [q11]; rfl) (by decide) ?_
      refine sA_aload_n dd_X8_told_44 rfl (.head _) ?_
      refine sA_getr (ci := 8) (j := 0) (q := (RX8, TX8, 13)) dd_X8_told_45 rfl (by decide) fl_X8_11 (by decide) gs_s0 rfl ?_
      refine sA_iload_n dd_X8_told_48 rfl (.tail _ (.head _)) ?_
      refine sA_aald (n := 12) dd_X8_told_49 (by decide) (by decide) (by decide) gs_s1 (by omega) (by decide) ?_
      have g12 := gs_ring_at (k := r.toNat) (by omega)
      refine sA_getr (ci := 3) (j := 0) (q := (RX3, TX3, 3)) dd_X8_told_50 rfl (by decide) fl_X8_105 (Nat.lt_of_succ_lt g12.1) g12.2.1 rfl ?_
      refine sA_geti (ci := 4) (j := 1) (q := (RX4, TX4, 2)) dd_X8_told_53 rfl (by decide) fl_X8_88 (Nat.lt_of_succ_lt g12.2.2.1.1) g12.2.2.1.2.1 rfl ?_
      have b13 := gs_row_sz g12.2.2.1 hI
      refine sA_iret (z := F (54 + 3 * r.toNat + 1) 1) dd_X8_told_56 rfl ?_
      exact ⟨_, rfl, rfl, rfl, by omega⟩
    · skip
      by_cases q14 : w = 1
      · refine sA_tblIn (off := 44) (tgt := 57) dd_X8_told_13 (by omega) (by omega) (by rw [q14]; rfl) (by decide) ?_
        refine sA_aload_n dd_X8_told_57 rfl (.head _) ?_
        refine sA_getr (ci := 8) (j := 0) (q := (RX8, TX8, 13)) dd_X8_told_58 rfl (by decide) fl_X8_11 (by decide) gs_s0 rfl ?_
        refine sA_iload_n dd_X8_told_61 rfl (.tail _ (.head _)) ?_
        refine sA_aald (n := 12) dd_X8_told_62 (by decide) (by decide) (by decide) gs_s1 (by omega) (by decide) ?_
        have g15 := gs_ring_at (k := r.toNat) (by omega)
        refine sA_geti (ci := 3) (j := 1) (q := (RX3, TX3, 3)) dd_X8_told_63 rfl (by decide) fl_X8_108 (Nat.lt_of_succ_lt g15.1) g15.2.1 rfl ?_
        have b16 := gs_ring_f1 g15 hI
        refine sA_callS (y2 := m_X8_oneIf) (n2 := 1) (d2 := 1) (as := [gs_iv (F (54 + 3 * r.toNat) 1)]) (rest := []) dd_X8_told_66 ok_X8_oneIf ml_X8_112 rfl rfl (Nat.le_of_ble_eq_true rfl) (by decide) (c_X8_oneIf (by omega)) (fun r17 F18 A19 h20 => ?_)
        obtain ⟨z23, e22, e24, e25, x21⟩ := h20
        subst e22 e24 e25
        show sA _ _ _ 69 _ [gs_iv z23] _ _
        refine sA_iret (z := z23) dd_X8_told_69 rfl ?_
        exact ⟨_, rfl, rfl, rfl, by omega⟩
      · skip
        by_cases q26 : w = 2
        · refine sA_tblIn (off := 57) (tgt := 70) dd_X8_told_13 (by omega) (by omega) (by rw [q26]; rfl) (by decide) ?_
          refine sA_aload_n dd_X8_told_70 rfl (.head _) ?_
          refine sA_getr (ci := 8) (j := 0) (q := (RX8, TX8, 13)) dd_X8_told_71 rfl (by decide) fl_X8_11 (by decide) gs_s0 rfl ?_
          refine sA_iload_n dd_X8_told_74 rfl (.tail _ (.head _)) ?_
          refine sA_aald (n := 12) dd_X8_told_75 (by decide) (by decide) (by decide) gs_s1 (by omega) (by decide) ?_
          have g27 := gs_ring_at (k := r.toNat) (by omega)
          refine sA_geti (ci := 3) (j := 2) (q := (RX3, TX3, 3)) dd_X8_told_76 rfl (by decide) fl_X8_116 (Nat.lt_of_succ_lt g27.1) g27.2.1 rfl ?_
          have b28 := gs_ring_f2 g27 hI
          refine sA_iret (z := F (54 + 3 * r.toNat) 2) dd_X8_told_79 rfl ?_
          exact ⟨_, rfl, rfl, rfl, by omega⟩
        · skip
          by_cases q29 : w = 3
          · refine sA_tblIn (off := 67) (tgt := 80) dd_X8_told_13 (by omega) (by omega) (by rw [q29]; rfl) (by decide) ?_
            refine sA_aload_n dd_X8_told_80 rfl (.head _) ?_
            refine sA_getr (ci := 8) (j := 0) (q := (RX8, TX8, 13)) dd_X8_told_81 rfl (by decide) fl_X8_11 (by decide) gs_s0 rfl ?_
            refine sA_iload_n dd_X8_told_84 rfl (.tail _ (.head _)) ?_
            refine sA_aald (n := 12) dd_X8_told_85 (by decide) (by decide) (by decide) gs_s1 (by omega) (by decide) ?_
            have g30 := gs_ring_at (k := r.toNat) (by omega)
            refine sA_callV (y2 := m_X3_isSimple) (n2 := 0) (d2 := 1) (a := (54 + 3 * r.toNat)) (ci := 3) (q := (RX3, TX3, 3)) (as := []) (rest := []) dd_X8_told_86 ok_X3_isSimple ml_X8_119 rfl rfl (Nat.lt_of_succ_lt g30.1) g30.2.1 rfl rfl (Nat.le_of_ble_eq_true rfl) (by decide) (c_X3_isSimple_vf hI g30) (fun r31 F32 A33 h34 => ?_)
            obtain ⟨z37, e36, e38, e39, x35⟩ := h34
            subst e36 e38 e39
            have y40 : (z37 = 1 ∧ F (54 + 3 * r.toNat) 2 = 0) ∨ (z37 = 0 ∧ F (54 + 3 * r.toNat) 2 ≠ 0) := x35
            clear x35
            show sA _ _ _ 89 _ [gs_iv z37] _ _
            refine sA_callS (y2 := m_X8_oneIf) (n2 := 1) (d2 := 1) (as := [gs_iv z37]) (rest := []) dd_X8_told_89 ok_X8_oneIf ml_X8_112 rfl rfl (Nat.le_of_ble_eq_true rfl) (by decide) (c_X8_oneIf (by omega)) (fun r41 F42 A43 h44 => ?_)
            obtain ⟨z47, e46, e48, e49, x45⟩ := h44
            subst e46 e48 e49
            show sA _ _ _ 92 _ [gs_iv z47] _ _
            refine sA_iret (z := z47) dd_X8_told_92 rfl ?_
            exact ⟨_, rfl, rfl, rfl, by omega⟩
          · skip
            refine sA_tblOut (tgt := 93) dd_X8_told_13 (by omega) (by omega) (by decide) ?_
            refine sA_sipush (z := (-1002)) dd_X8_told_93 (by decide) ?_
            refine sA_iret (z := -1002) dd_X8_told_96 rfl ?_
            exact ⟨_, rfl, rfl, rfl, by omega⟩
  · skip
    refine sA_sipush (z := (-1001)) dd_X8_told_8 (by decide) ?_
    refine sA_iret (z := -1001) dd_X8_told_11 rfl ?_
    exact ⟨_, rfl, rfl, rfl, by omega⟩
theorem c_X8_meets_vf {r s : Int} {F A : gs_F} (hI : gs_I F A) (hr : -2147483648 ≤ r ∧ r ≤ 2147483647) (hs : -2147483648 ≤ s ∧ s ≤ 2147483647) (hVc : ∀ r : Nat, (r : Int) < F 0 12 → gs_vl 3 (F (54 + 3 * r + 1) 1) (A (54 + 3 * r + 1 + 1))) : sC m_X8_meets 6 [.ref 0, gs_iv r, gs_iv s] F A (fun rv F' A' => ∃ z : Int, rv = some (gs_iv z) ∧ gs_I F' A' ∧ gs_fr (fun c j => c = 13 ∧ j = 1) (fun c => c = 14) F A F' A' ∧ (((r < 0 ∨ F 0 12 ≤ r ∨ s < 0 ∨ F 0 12 ≤ s) ∧ z = -1001) ∨ (0 ≤ r ∧ r < F 0 12 ∧ 0 ≤ s ∧ s < F 0 12 ∧ (((F (54 + 3 * r.toNat) 1 ≠ 0 ∨ F (54 + 3 * s.toNat) 1 ≠ 0) ∧ z = -1003) ∨ (F (54 + 3 * r.toNat) 1 = 0 ∧ F (54 + 3 * s.toNat) 1 = 0 ∧ z = mt_sm 12 (A (54 + 3 * r.toNat + 1 + 1)) (F (54 + 3 * r.toNat + 1) 1) (A (54 + 3 * s.toNat + 1 + 1)) (F (54 + 3 * s.toNat + 1) 1)))))) := by
  refine sC_of ok_X8_meets.1 (Nat.le_of_ble_eq_true rfl) ?_
  show sA _ _ _ 0 [(0, .ref 0), (1, gs_iv r), (2, gs_iv s)] [] F A
  have hf : gs_fr (fun c j => c = 13 ∧ j = 1) (fun c => c = 14) F A F A := gs_fr_refl _ _ _ _
  refine sA_aload_n dd_X8_meets_0 rfl (.head _) ?_
  refine sA_iload_n dd_X8_meets_1 rfl (.tail _ (.head _)) ?_
  refine sA_callV (y2 := m_X8_isRing) (n2 := 1) (d2 := 1) (a := 0) (ci := 8) (q := (RX8, TX8, 13)) (as := [gs_iv r]) (rest := []) dd_X8_meets_2 ok_X8_isRing ml_X8_101 rfl rfl (by decide) gs_s0 rfl rfl (Nat.le_of_ble_eq_true rfl) (by decide) (c_X8_isRing hI (by omega)) (fun r1 F2 A3 h4 => ?_)
  obtain ⟨z7, e6, e8, e9, x5⟩ := h4
  subst e6 e8 e9
  show sA _ _ _ 5 _ [gs_iv z7] _ _
  refine sA_if_eq (tgt := 16) dd_X8_meets_5 (by decide) (by omega) (fun q10 => ?_) (fun q10 => ?_)
  · skip
    refine sA_sipush (z := (-1001)) dd_X8_meets_16 (by decide) ?_
    refine sA_iret (z := -1001) dd_X8_meets_19 rfl ?_
    refine ⟨_, rfl, hI, hf, ?_⟩
    exact .inl ⟨by omega, rfl⟩
  · skip
    refine sA_aload_n dd_X8_meets_8 rfl (.head _) ?_
    refine sA_iload_n dd_X8_meets_9 rfl (.tail _ (.tail _ (.head _))) ?_
    refine sA_callV (y2 := m_X8_isRing) (n2 := 1) (d2 := 1) (a := 0) (ci := 8) (q := (RX8, TX8, 13)) (as := [gs_iv s]) (rest := []) dd_X8_meets_10 ok_X8_isRing ml_X8_101 rfl rfl (by decide) gs_s0 rfl rfl (Nat.le_of_ble_eq_true rfl) (by decide) (c_X8_isRing hI (by omega)) (fun r11 F12 A13 h14 => ?_)
    obtain ⟨z17, e16, e18, e19, x15⟩ := h14
    subst e16 e18 e19
    show sA _ _ _ 13 _ [gs_iv z17] _ _
    refine sA_if_ne (tgt := 20) dd_X8_meets_13 (by decide) (by omega) (fun q20 => ?_) (fun q20 => ?_)
    · skip
      refine sA_aload_n dd_X8_meets_20 rfl (.head _) ?_
      refine sA_getr (ci := 8) (j := 0) (q := (RX8, TX8, 13)) dd_X8_meets_21 rfl (by decide) fl_X8_11 (by decide) gs_s0 rfl ?_
      refine sA_iload_n dd_X8_meets_24 rfl (.tail _ (.head _)) ?_
      refine sA_aald (n := 12) dd_X8_meets_25 (by decide) (by decide) (by decide) gs_s1 (by omega) (by decide) ?_
      have g21 := gs_ring_at (k := r.toNat) (by omega)
      refine sA_geti (ci := 3) (j := 1) (q := (RX3, TX3, 3)) dd_X8_meets_26 rfl (by decide) fl_X8_108 (Nat.lt_of_succ_lt g21.1) g21.2.1 rfl ?_
      have b22 := gs_ring_f1 g21 hI
      refine sA_if_ne (tgt := 44) dd_X8_meets_29 (by decide) (by omega) (fun q23 => ?_) (fun q23 => ?_)
      · skip
        refine sA_sipush (z := (-1003)) dd_X8_meets_44 (by decide) ?_
        refine sA_iret (z := -1003) dd_X8_meets_47 rfl ?_
        refine ⟨_, rfl, hI, hf, ?_⟩
        exact .inr ⟨by omega, by omega, by omega, by omega, .inl ⟨by omega, rfl⟩⟩
      · skip
        refine sA_aload_n dd_X8_meets_32 rfl (.head _) ?_
        refine sA_getr (ci := 8) (j := 0) (q := (RX8, TX8, 13)) dd_X8_meets_33 rfl (by decide) fl_X8_11 (by decide) gs_s0 rfl ?_
        refine sA_iload_n dd_X8_meets_36 rfl (.tail _ (.tail _ (.head _))) ?_
        refine sA_aald (n := 12) dd_X8_meets_37 (by decide) (by decide) (by decide) gs_s1 (by omega) (by decide) ?_
        have g24 := gs_ring_at (k := s.toNat) (by omega)
        refine sA_geti (ci := 3) (j := 1) (q := (RX3, TX3, 3)) dd_X8_meets_38 rfl (by decide) fl_X8_108 (Nat.lt_of_succ_lt g24.1) g24.2.1 rfl ?_
        have b25 := gs_ring_f1 g24 hI
        refine sA_if_eq (tgt := 48) dd_X8_meets_41 (by decide) (by omega) (fun q26 => ?_) (fun q26 => ?_)
        · skip
          have hVu := hVc r.toNat (by omega)
          have hVv := hVc s.toNat (by omega)
          refine sA_aload_n dd_X8_meets_48 rfl (.head _) ?_
          refine sA_getr (ci := 8) (j := 4) (q := (RX8, TX8, 13)) dd_X8_meets_49 rfl (by decide) fl_X8_40 (by decide) gs_s0 rfl ?_
          refine sA_aload_n dd_X8_meets_52 rfl (.head _) ?_
          refine sA_getr (ci := 8) (j := 0) (q := (RX8, TX8, 13)) dd_X8_meets_53 rfl (by decide) fl_X8_11 (by decide) gs_s0 rfl ?_
          refine sA_iload_n dd_X8_meets_56 rfl (.tail _ (.head _)) ?_
          refine sA_aald (n := 12) dd_X8_meets_57 (by decide) (by decide) (by decide) gs_s1 (by omega) (by decide) ?_
          have g27 := gs_ring_at (k := r.toNat) (by omega)
          refine sA_getr (ci := 3) (j := 0) (q := (RX3, TX3, 3)) dd_X8_meets_58 rfl (by decide) fl_X8_105 (Nat.lt_of_succ_lt g27.1) g27.2.1 rfl ?_
          refine sA_aload_n dd_X8_meets_61 rfl (.head _) ?_
          refine sA_getr (ci := 8) (j := 0) (q := (RX8, TX8, 13)) dd_X8_meets_62 rfl (by decide) fl_X8_11 (by decide) gs_s0 rfl ?_
          refine sA_iload_n dd_X8_meets_65 rfl (.tail _ (.tail _ (.head _))) ?_
          refine sA_aald (n := 12) dd_X8_meets_66 (by decide) (by decide) (by decide) gs_s1 (by omega) (by decide) ?_
          have g28 := gs_ring_at (k := s.toNat) (by omega)
          refine sA_getr (ci := 3) (j := 0) (q := (RX3, TX3, 3)) dd_X8_meets_67 rfl (by decide) fl_X8_105 (Nat.lt_of_succ_lt g28.1) g28.2.1 rfl ?_
          refine sA_callV (y2 := m_X1_between) (n2 := 2) (d2 := 5) (a := 12) (ci := 1) (q := (RX1, TX1, 1)) (as := [.ref (54 + 3 * r.toNat + 1), .ref (54 + 3 * s.toNat + 1)]) (rest := []) dd_X8_meets_70 ok_X1_between ml_X8_127 rfl rfl (by decide) gs_s12 rfl rfl (Nat.le_of_ble_eq_true rfl) (by decide) (c_X1_between_vf hI g27.2.2.1 g28.2.2.1 (by omega) (by omega) hVu hVv) (fun r29 F30 A31 h32 => ?_)
          obtain ⟨z35, e34, I36, f37, x33⟩ := h32
          subst e34
          have f38 := gs_fr_tr hf f37 (fun b j h => by first | exact False.elim h | omega | (dsimp only at h ⊢; omega) | fail) (fun b h => by first | exact False.elim h | omega | (dsimp only at h ⊢; omega) | fail)
          have y39 : (0 ≤ z35 ∧ z35 ≤ 400000) ∧ z35 = mt_sm 12 (A ((54 + 3 * r.toNat + 1) + 1)) (F (54 + 3 * r.toNat + 1) 1) (A ((54 + 3 * s.toNat + 1) + 1)) (F (54 + 3 * s.toNat + 1) 1) := x33
          clear x33
          show sA _ _ _ 73 _ [gs_iv z35] _ _
          refine sA_iret (z := z35) dd_X8_meets_73 rfl ?_
          refine ⟨_, rfl, I36, f38, ?_⟩
          exact .inr ⟨by omega, by omega, by omega, by omega, .inr ⟨by omega, by omega, y39.2⟩⟩
        · skip
          refine sA_sipush (z := (-1003)) dd_X8_meets_44 (by decide) ?_
          refine sA_iret (z := -1003) dd_X8_meets_47 rfl ?_
          refine ⟨_, rfl, hI, hf, ?_⟩
          exact .inr ⟨by omega, by omega, by omega, by omega, .inl ⟨by omega, rfl⟩⟩
    · skip
      refine sA_sipush (z := (-1001)) dd_X8_meets_16 (by decide) ?_
      refine sA_iret (z := -1001) dd_X8_meets_19 rfl ?_
      refine ⟨_, rfl, hI, hf, ?_⟩
      exact .inl ⟨by omega, rfl⟩
end
