noncomputable section
theorem k_X8_firstBarring_vf {e p : Int} {F A : gs_F} (hI : gs_I F A) (he : -2147483648 ≤ e ∧ e ≤ 2147483647) (hp : 0 ≤ p ∧ p < 12) (hp12 : p < F 0 12) (hVc : ∀ r : Nat, (r : Int) < F 0 12 → gs_vl 3 (F (54 + 3 * r + 1) 1) (A (54 + 3 * r + 1 + 1))) : ∀ nN : Nat, (∀ (b : Int)  (F1 A1 : gs_F), gs_I F1 A1 → gs_fr (fun c j => c = 13 ∧ j = 1) (fun c => c = 14) F A F1 A1 → 0 ≤ b ∧ b ≤ 12 → p < b → F1 0 12 = F 0 12 → F (54 + 3 * p.toNat) 2 = 0 → (∀ d : Int, p < d → d < b → ¬ (hp_B8 e d ∧ hp_S8 F d ∧ hp_M8 F A p d)) → 12 - b < (nN : Int) → sA m_X8_firstBarring 6 (fun rv F' A' => ∃ z : Int, rv = some (gs_iv z) ∧ gs_I F' A' ∧ gs_fr (fun c j => c = 13 ∧ j = 1) (fun c => c = 14) F A F' A' ∧ ((-1 ≤ z ∧ z ≤ 12) ∧ ((¬ hp_S8 F p ∧ z = p) ∨ (hp_S8 F p ∧ ((z = -1 ∧ ∀ d : Int, p < d → d < F 0 12 → ¬ (hp_B8 e d ∧ hp_S8 F d ∧ hp_M8 F A p d)) ∨ hp_fst (F 0 12) (hp_S8 F) (hp_B8 e) (hp_M8 F A) p z))))) 29 [(4, gs_iv b), (0, .ref 0), (1, gs_iv e), (3, .ref (54 + 3 * p.toNat + 1))] [] F1 A1) := by
  intro nN
  induction nN with
  | zero =>
    exact fun a0 a1 a2 a3 a4 i0 i1 i2 i3 i4 hm => by exfalso; omega
  | succ nN ih =>
    intro b F1 A1 hI1 hf1 i0 i1 i2 i3 i4 hm
    have b1 : (0 : Int) ≤ F1 0 12 ∧ F1 0 12 ≤ 12 := hI1.1 0 12
    refine sA_iload dd_X8_firstBarring_29 (.head _) ?_
    refine sA_aload_n dd_X8_firstBarring_31 rfl (.tail _ (.head _)) ?_
    refine sA_geti (ci := 8) (j := 12) (q := (RX8, TX8, 13)) dd_X8_firstBarring_32 rfl (by decide) fl_X8_94 (by decide) gs_s0 rfl ?_
    refine sA_icmp_ge (tgt := 107) dd_X8_firstBarring_35 (by decide) (by omega) (by omega) (fun q2 => ?_) (fun q2 => ?_)
    · skip
      refine sA_iconst (z := (-1)) dd_X8_firstBarring_107 ?_
      refine sA_iret (z := -1) dd_X8_firstBarring_108 rfl ?_
      refine ⟨_, rfl, hI1, hf1, ?_⟩
      exact ⟨by omega, .inr ⟨i3, .inl ⟨rfl, fun d h1 h2 => i4 d h1 (by omega)⟩⟩⟩
    · skip
      refine sA_iload_n dd_X8_firstBarring_38 rfl (.tail _ (.tail _ (.head _))) ?_
      refine sA_iload dd_X8_firstBarring_39 (.head _) ?_
      refine sA_ishr dd_X8_firstBarring_41 ?_
      have b3 := gs_t_rng (Int32.ofInt e >>> (Int32.ofInt b &&& 31))
      generalize hw4 : gs_t (Int32.ofInt e >>> (Int32.ofInt b &&& 31)) = w4 at b3 ⊢
      refine sA_iconst (z := 1) dd_X8_firstBarring_42 ?_
      refine sA_iand dd_X8_firstBarring_43 ?_
      have b5 := gs_t_rng (Int32.ofInt w4 &&& Int32.ofInt 1)
      have b7 := hp_b01 (w4)
      generalize hw6 : gs_t (Int32.ofInt w4 &&& Int32.ofInt 1) = w6 at b5 b7 ⊢
      have hF54 : ∀ c j, 54 ≤ c → F1 c j = F c j := fun c j q => hf1.1 c j (by dsimp only; omega)
      have hA54 : ∀ c, 54 ≤ c → A1 c = A c := fun c q => hf1.2 c (by dsimp only; omega)
      have hbt : hp_bit e b = w6 := by
        unfold hp_bit
        rw [hw4]
        exact hw6
      have e1 : F1 (54 + 3 * p.toNat + 1) 1 = F (54 + 3 * p.toNat + 1) 1 := hF54 _ _ (by omega)
      have e2 : F1 (54 + 3 * b.toNat + 1) 1 = F (54 + 3 * b.toNat + 1) 1 := hF54 _ _ (by omega)
      have e3 : A1 (54 + 3 * p.toNat + 1 + 1) = A (54 + 3 * p.toNat + 1 + 1) := hA54 _ (by omega)
      have e4 : A1 (54 + 3 * b.toNat + 1 + 1) = A (54 + 3 * b.toNat + 1 + 1) := hA54 _ (by omega)
      have e5 : F1 (54 + 3 * b.toNat) 2 = F (54 + 3 * b.toNat) 2 := hF54 _ _ (by omega)
      refine sA_if_eq (tgt := 101) dd_X8_firstBarring_44 (by decide) (by omega) (fun q8 => ?_) (fun q8 => ?_)
      · skip
        refine sA_iinc (lv' := [(4, gs_iv (b + 1)), (0, .ref 0), (1, gs_iv e), (3, .ref (54 + 3 * p.toNat + 1))]) dd_X8_firstBarring_101 (.head _) (by decide) rfl ?_
        refine sA_goto (tgt := 29) dd_X8_firstBarring_104 (by decide) ?_
        refine sA_sub (lv2 := [(4, gs_iv (b + 1)), (0, .ref 0), (1, gs_iv e), (3, .ref (54 + 3 * p.toNat + 1))]) (List.forall_mem_cons.mpr ⟨(.head _), (List.forall_mem_cons.mpr ⟨(.tail _ (.head _)), (List.forall_mem_cons.mpr ⟨(.tail _ (.tail _ (.head _))), (List.forall_mem_cons.mpr ⟨(.tail _ (.tail _ (.tail _ (.head _)))), (fun _ h => absurd h List.not_mem_nil)⟩)⟩)⟩)⟩) ?_
        exact ih (b + 1) F1 A1 hI1 hf1 (by omega) (by omega) (by omega) (by omega) (hp_next i4 (fun w => w.1 (by rw [hbt]; omega))) (by omega)
      · skip
        refine sA_aload_n dd_X8_firstBarring_47 rfl (.tail _ (.head _)) ?_
        refine sA_getr (ci := 8) (j := 0) (q := (RX8, TX8, 13)) dd_X8_firstBarring_48 rfl (by decide) fl_X8_11 (by decide) gs_s0 rfl ?_
        refine sA_iload dd_X8_firstBarring_51 (.head _) ?_
        refine sA_aald (n := 12) dd_X8_firstBarring_53 (by decide) (by decide) (by decide) gs_s1 (by omega) (by decide) ?_
        have g9 := gs_ring_at (k := b.toNat) (by omega)
        refine sA_callV (y2 := m_X3_isSimple) (n2 := 0) (d2 := 1) (a := (54 + 3 * b.toNat)) (ci := 3) (q := (RX3, TX3, 3)) (as := []) (rest := []) dd_X8_firstBarring_54 ok_X3_isSimple ml_X8_119 rfl rfl (Nat.lt_of_succ_lt g9.1) g9.2.1 rfl rfl (Nat.le_of_ble_eq_true rfl) (by decide) (c_X3_isSimple_vf hI1 g9) (fun r10 F11 A12 h13 => ?_)
        obtain ⟨z16, e15, e17, e18, x14⟩ := h13
        subst e15 e17 e18
        have y19 : (z16 = 1 ∧ F1 (54 + 3 * b.toNat) 2 = 0) ∨ (z16 = 0 ∧ F1 (54 + 3 * b.toNat) 2 ≠ 0) := x14
        clear x14
        show sA _ _ _ 57 _ [gs_iv z16] _ _
        refine sA_if_eq (tgt := 101) dd_X8_firstBarring_57 (by decide) (by omega) (fun q20 => ?_) (fun q20 => ?_)
        · skip
          refine sA_iinc (lv' := [(4, gs_iv (b + 1)), (0, .ref 0), (1, gs_iv e), (3, .ref (54 + 3 * p.toNat + 1))]) dd_X8_firstBarring_101 (.head _) (by decide) rfl ?_
          refine sA_goto (tgt := 29) dd_X8_firstBarring_104 (by decide) ?_
          refine sA_sub (lv2 := [(4, gs_iv (b + 1)), (0, .ref 0), (1, gs_iv e), (3, .ref (54 + 3 * p.toNat + 1))]) (List.forall_mem_cons.mpr ⟨(.head _), (List.forall_mem_cons.mpr ⟨(.tail _ (.head _)), (List.forall_mem_cons.mpr ⟨(.tail _ (.tail _ (.head _))), (List.forall_mem_cons.mpr ⟨(.tail _ (.tail _ (.tail _ (.head _)))), (fun _ h => absurd h List.not_mem_nil)⟩)⟩)⟩)⟩) ?_
          exact ih (b + 1) F1 A1 hI1 hf1 (by omega) (by omega) (by omega) (by omega) (hp_next i4 (fun w => by have q : F (54 + 3 * b.toNat) 2 = 0 := w.2.1; omega)) (by omega)
        · skip
          refine sA_aload_n dd_X8_firstBarring_60 rfl (.tail _ (.tail _ (.tail _ (.head _)))) ?_
          refine sA_aload_n dd_X8_firstBarring_61 rfl (.tail _ (.head _)) ?_
          refine sA_getr (ci := 8) (j := 0) (q := (RX8, TX8, 13)) dd_X8_firstBarring_62 rfl (by decide) fl_X8_11 (by decide) gs_s0 rfl ?_
          refine sA_iload dd_X8_firstBarring_65 (.head _) ?_
          refine sA_aald (n := 12) dd_X8_firstBarring_67 (by decide) (by decide) (by decide) gs_s1 (by omega) (by decide) ?_
          have g21 := gs_ring_at (k := b.toNat) (by omega)
          refine sA_getr (ci := 3) (j := 0) (q := (RX3, TX3, 3)) dd_X8_firstBarring_68 rfl (by decide) fl_X8_105 (Nat.lt_of_succ_lt g21.1) g21.2.1 rfl ?_
          refine sA_callV (y2 := m_X4_isOneWith) (n2 := 1) (d2 := 2) (a := (54 + 3 * p.toNat + 1)) (ci := 4) (q := (RX4, TX4, 2)) (as := [.ref (54 + 3 * b.toNat + 1)]) (rest := []) dd_X8_firstBarring_71 ok_X4_isOneWith ml_X8_131 rfl rfl (Nat.lt_of_succ_lt (gs_ring_at (k := p.toNat) (show p.toNat < 12 by omega)).2.2.1.1) (gs_ring_at (k := p.toNat) (show p.toNat < 12 by omega)).2.2.1.2.1 rfl rfl (Nat.le_of_ble_eq_true rfl) (by decide) (c_X4_isOneWith_vf hI1 (gs_ring_at (k := p.toNat) (show p.toNat < 12 by omega)).2.2.1 g21.2.2.1) (fun r22 F23 A24 h25 => ?_)
          obtain ⟨z28, e27, e29, e30, x26⟩ := h25
          subst e27 e29 e30
          have y31 : (z28 = 1 ∧ gs_on (A1 ((54 + 3 * p.toNat + 1) + 1)) (F1 (54 + 3 * p.toNat + 1) 1) (A1 ((54 + 3 * b.toNat + 1) + 1)) (F1 (54 + 3 * b.toNat + 1) 1)) ∨ (z28 = 0 ∧ ¬ gs_on (A1 ((54 + 3 * p.toNat + 1) + 1)) (F1 (54 + 3 * p.toNat + 1) 1) (A1 ((54 + 3 * b.toNat + 1) + 1)) (F1 (54 + 3 * b.toNat + 1) 1)) := x26
          clear x26
          show sA _ _ _ 74 _ [gs_iv z28] _ _
          refine sA_if_ne (tgt := 98) dd_X8_firstBarring_74 (by decide) (by omega) (fun q32 => ?_) (fun q32 => ?_)
          · skip
            refine sA_iload dd_X8_firstBarring_98 (.head _) ?_
            refine sA_iret (z := b) dd_X8_firstBarring_100 rfl ?_
            refine ⟨_, rfl, hI1, hf1, ?_⟩
            refine ⟨by omega, .inr ⟨i3, .inr ⟨by omega, by omega, ⟨fun w => ?_, ?_, ?_⟩, i4⟩⟩⟩
            · rw [hbt] at w
              omega
            · show F (54 + 3 * b.toNat) 2 = 0
              omega
            · left
              rcases y31 with y | y
              · rw [e1, e2, e3, e4] at y
                exact y.2
              · exfalso
                omega
          · skip
            have hVu : gs_vl 3 (F1 (54 + 3 * p.toNat + 1) 1) (A1 (54 + 3 * p.toNat + 1 + 1)) := by rw [e1, e3]; exact hVc p.toNat (by omega)
            have hVv : gs_vl 3 (F1 (54 + 3 * b.toNat + 1) 1) (A1 (54 + 3 * b.toNat + 1 + 1)) := by rw [e2, e4]; exact hVc b.toNat (by omega)
            refine sA_aload_n dd_X8_firstBarring_77 rfl (.tail _ (.head _)) ?_
            refine sA_getr (ci := 8) (j := 4) (q := (RX8, TX8, 13)) dd_X8_firstBarring_78 rfl (by decide) fl_X8_40 (by decide) gs_s0 rfl ?_
            refine sA_aload_n dd_X8_firstBarring_81 rfl (.tail _ (.tail _ (.tail _ (.head _)))) ?_
            refine sA_aload_n dd_X8_firstBarring_82 rfl (.tail _ (.head _)) ?_
            refine sA_getr (ci := 8) (j := 0) (q := (RX8, TX8, 13)) dd_X8_firstBarring_83 rfl (by decide) fl_X8_11 (by decide) gs_s0 rfl ?_
            refine sA_iload dd_X8_firstBarring_86 (.head _) ?_
            refine sA_aald (n := 12) dd_X8_firstBarring_88 (by decide) (by decide) (by decide) gs_s1 (by omega) (by decide) ?_
            have g33 := gs_ring_at (k := b.toNat) (by omega)
            refine sA_getr (ci := 3) (j := 0) (q := (RX3, TX3, 3)) dd_X8_firstBarring_89 rfl (by decide) fl_X8_105 (Nat.lt_of_succ_lt g33.1) g33.2.1 rfl ?_
            refine sA_callV (y2 := m_X1_between) (n2 := 2) (d2 := 5) (a := 12) (ci := 1) (q := (RX1, TX1, 1)) (as := [.ref (54 + 3 * p.toNat + 1), .ref (54 + 3 * b.toNat + 1)]) (rest := []) dd_X8_firstBarring_92 ok_X1_between ml_X8_127 rfl rfl (by decide) gs_s12 rfl rfl (Nat.le_of_ble_eq_true rfl) (by decide) (c_X1_between_vf hI1 (gs_ring_at (k := p.toNat) (show p.toNat < 12 by omega)).2.2.1 g33.2.2.1 (by omega) (by omega) hVu hVv) (fun r34 F35 A36 h37 => ?_)
            obtain ⟨z40, e39, I41, f42, x38⟩ := h37
            subst e39
            have v43 : F35 0 12 = F1 0 12 := f42.1 0 12 (by first | exact id | omega | (dsimp only; omega) | (dsimp only) | fail)
            have f44 := gs_fr_tr hf1 f42 (fun b j h => by first | exact False.elim h | omega | (dsimp only at h ⊢; omega) | fail) (fun b h => by first | exact False.elim h | omega | (dsimp only at h ⊢; omega) | fail)
            have y45 : (0 ≤ z40 ∧ z40 ≤ 400000) ∧ z40 = mt_sm 12 (A1 ((54 + 3 * p.toNat + 1) + 1)) (F1 (54 + 3 * p.toNat + 1) 1) (A1 ((54 + 3 * b.toNat + 1) + 1)) (F1 (54 + 3 * b.toNat + 1) 1) := x38
            clear x38
            show sA _ _ _ 95 _ [gs_iv z40] _ _
            refine sA_if_eq (tgt := 101) dd_X8_firstBarring_95 (by decide) (by omega) (fun q46 => ?_) (fun q46 => ?_)
            · skip
              refine sA_iinc (lv' := [(4, gs_iv (b + 1)), (0, .ref 0), (1, gs_iv e), (3, .ref (54 + 3 * p.toNat + 1))]) dd_X8_firstBarring_101 (.head _) (by decide) rfl ?_
              refine sA_goto (tgt := 29) dd_X8_firstBarring_104 (by decide) ?_
              have b47 : (0 : Int) ≤ F35 0 12 ∧ F35 0 12 ≤ 12 := I41.1 0 12
              refine sA_sub (lv2 := [(4, gs_iv (b + 1)), (0, .ref 0), (1, gs_iv e), (3, .ref (54 + 3 * p.toNat + 1))]) (List.forall_mem_cons.mpr ⟨(.head _), (List.forall_mem_cons.mpr ⟨(.tail _ (.head _)), (List.forall_mem_cons.mpr ⟨(.tail _ (.tail _ (.head _))), (List.forall_mem_cons.mpr ⟨(.tail _ (.tail _ (.tail _ (.head _)))), (fun _ h => absurd h List.not_mem_nil)⟩)⟩)⟩)⟩) ?_
              exact ih (b + 1) F35 A36 I41 f44 (by omega) (by omega) (by omega) (by omega) (hp_next i4 (fun w => by rcases w.2.2 with q | q <;> first | (rcases y31 with y | y <;> first | (exfalso; omega) | (rw [e1, e2, e3, e4] at y; exact y.2 q) | fail) | (have y := y45.2; rw [e1, e2, e3, e4] at y; omega) | fail)) (by omega)
            · skip
              refine sA_iload dd_X8_firstBarring_98 (.head _) ?_
              refine sA_iret (z := b) dd_X8_firstBarring_100 rfl ?_
              refine ⟨_, rfl, I41, f44, ?_⟩
              refine ⟨by omega, .inr ⟨i3, .inr ⟨by omega, by omega, ⟨fun w => ?_, ?_, ?_⟩, i4⟩⟩⟩
              · rw [hbt] at w
                omega
              · show F (54 + 3 * b.toNat) 2 = 0
                omega
              · right
                have y := y45.2
                rw [e1, e2, e3, e4] at y
                rw [← y]
                omega
theorem c_X8_firstBarring_vf {e p : Int} {F A : gs_F} (hI : gs_I F A) (he : -2147483648 ≤ e ∧ e ≤ 2147483647) (hp : 0 ≤ p ∧ p < 12) (hp12 : p < F 0 12) (hVc : ∀ r : Nat, (r : Int) < F 0 12 → gs_vl 3 (F (54 + 3 * r + 1) 1) (A (54 + 3 * r + 1 + 1))) : sC m_X8_firstBarring 6 [.ref 0, gs_iv e, gs_iv p] F A (fun rv F' A' => ∃ z : Int, rv = some (gs_iv z) ∧ gs_I F' A' ∧ gs_fr (fun c j => c = 13 ∧ j = 1) (fun c => c = 14) F A F' A' ∧ ((-1 ≤ z ∧ z ≤ 12) ∧ ((¬ hp_S8 F p ∧ z = p) ∨ (hp_S8 F p ∧ ((z = -1 ∧ ∀ d : Int, p < d → d < F 0 12 → ¬ (hp_B8 e d ∧ hp_S8 F d ∧ hp_M8 F A p d)) ∨ hp_fst (F 0 12) (hp_S8 F) (hp_B8 e) (hp_M8 F A) p z))))) := by
  refine sC_of ok_X8_firstBarring.1 (Nat.le_of_ble_eq_true rfl) ?_
  show sA _ _ _ 0 [(0, .ref 0), (1, gs_iv e), (2, gs_iv p)] [] F A
  have hf : gs_fr (fun c j => c = 13 ∧ j = 1) (fun c => c = 14) F A F A := gs_fr_refl _ _ _ _
  have b48 : (0 : Int) ≤ F 0 12 ∧ F 0 12 ≤ 12 := hI.1 0 12
  refine sA_aload_n dd_X8_firstBarring_0 rfl (.head _) ?_
  refine sA_getr (ci := 8) (j := 0) (q := (RX8, TX8, 13)) dd_X8_firstBarring_1 rfl (by decide) fl_X8_11 (by decide) gs_s0 rfl ?_
  refine sA_iload_n dd_X8_firstBarring_4 rfl (.tail _ (.tail _ (.head _))) ?_
  refine sA_aald (n := 12) dd_X8_firstBarring_5 (by decide) (by decide) (by decide) gs_s1 (by omega) (by decide) ?_
  have g49 := gs_ring_at (k := p.toNat) (by omega)
  refine sA_callV (y2 := m_X3_isSimple) (n2 := 0) (d2 := 1) (a := (54 + 3 * p.toNat)) (ci := 3) (q := (RX3, TX3, 3)) (as := []) (rest := []) dd_X8_firstBarring_6 ok_X3_isSimple ml_X8_119 rfl rfl (Nat.lt_of_succ_lt g49.1) g49.2.1 rfl rfl (Nat.le_of_ble_eq_true rfl) (by decide) (c_X3_isSimple_vf hI g49) (fun r50 F51 A52 h53 => ?_)
  obtain ⟨z56, e55, e57, e58, x54⟩ := h53
  subst e55 e57 e58
  have y59 : (z56 = 1 ∧ F (54 + 3 * p.toNat) 2 = 0) ∨ (z56 = 0 ∧ F (54 + 3 * p.toNat) 2 ≠ 0) := x54
  clear x54
  show sA _ _ _ 9 _ [gs_iv z56] _ _
  refine sA_if_ne (tgt := 14) dd_X8_firstBarring_9 (by decide) (by omega) (fun q60 => ?_) (fun q60 => ?_)
  · skip
    refine sA_aload_n dd_X8_firstBarring_14 rfl (.head _) ?_
    refine sA_getr (ci := 8) (j := 0) (q := (RX8, TX8, 13)) dd_X8_firstBarring_15 rfl (by decide) fl_X8_11 (by decide) gs_s0 rfl ?_
    refine sA_iload_n dd_X8_firstBarring_18 rfl (.tail _ (.tail _ (.head _))) ?_
    refine sA_aald (n := 12) dd_X8_firstBarring_19 (by decide) (by decide) (by decide) gs_s1 (by omega) (by decide) ?_
    have g61 := gs_ring_at (k := p.toNat) (by omega)
    refine sA_getr (ci := 3) (j := 0) (q := (RX3, TX3, 3)) dd_X8_firstBarring_20 rfl (by decide) fl_X8_105 (Nat.lt_of_succ_lt g61.1) g61.2.1 rfl ?_
    refine sA_astore_n (lv' := [(3, .ref (54 + 3 * p.toNat + 1)), (0, .ref 0), (1, gs_iv e), (2, gs_iv p)]) dd_X8_firstBarring_23 rfl (by decide) rfl ?_
    refine sA_iload_n dd_X8_firstBarring_24 rfl (.tail _ (.tail _ (.tail _ (.head _)))) ?_
    refine sA_iconst (z := 1) dd_X8_firstBarring_25 ?_
    refine sA_iadd dd_X8_firstBarring_26 ?_
    refine sA_istore (lv' := [(4, gs_iv (p + 1)), (3, .ref (54 + 3 * p.toNat + 1)), (0, .ref 0), (1, gs_iv e), (2, gs_iv p)]) dd_X8_firstBarring_27 (by decide) rfl ?_
    refine sA_sub (lv2 := [(4, gs_iv (p + 1)), (0, .ref 0), (1, gs_iv e), (3, .ref (54 + 3 * p.toNat + 1))]) (List.forall_mem_cons.mpr ⟨(.head _), (List.forall_mem_cons.mpr ⟨(.tail _ (.tail _ (.head _))), (List.forall_mem_cons.mpr ⟨(.tail _ (.tail _ (.tail _ (.head _)))), (List.forall_mem_cons.mpr ⟨(.tail _ (.head _)), (fun _ h => absurd h List.not_mem_nil)⟩)⟩)⟩)⟩) ?_
    exact (k_X8_firstBarring_vf hI he hp hp12 hVc (12 - (p + 1) : Int).toNat.succ) (p + 1) F A hI hf (by omega) (by omega) (by omega) (by omega) (fun d h1 h2 => by exfalso; omega) (by omega)
  · skip
    refine sA_iload_n dd_X8_firstBarring_12 rfl (.tail _ (.tail _ (.head _))) ?_
    refine sA_iret (z := p) dd_X8_firstBarring_13 rfl ?_
    refine ⟨_, rfl, hI, hf, ?_⟩
    refine ⟨by omega, .inl ⟨fun w => ?_, rfl⟩⟩
    have w : F (54 + 3 * p.toNat) 2 = 0 := w
    omega
theorem k_X8_heap_vf {e : Int} {F A : gs_F} (hI : gs_I F A) (he : -2147483648 ≤ e ∧ e ≤ 2147483647) (hVc : ∀ r : Nat, (r : Int) < F 0 12 → gs_vl 3 (F (54 + 3 * r + 1) 1) (A (54 + 3 * r + 1 + 1))) : ∀ nN : Nat, (∀ (p : Int)  (F1 A1 : gs_F), gs_I F1 A1 → gs_fr (fun c j => c = 13 ∧ j = 1) (fun c => c = 14) F A F1 A1 → 0 ≤ p ∧ p ≤ F1 0 12 → F1 0 12 = F 0 12 ∧ 0 ≤ e → (∀ c : Int, 0 ≤ c → c < p → hp_B8 e c → hp_ok (F 0 12) (hp_S8 F) (hp_B8 e) (hp_M8 F A) c) → hp_sh e (F 0 12) = 0 → F1 0 12 - p < (nN : Int) → sA m_X8_heap 7 (fun rv F' A' => ∃ z : Int, rv = some (gs_iv z) ∧ gs_I F' A' ∧ gs_fr (fun c j => c = 13 ∧ j = 1) (fun c => c = 14) F A F' A' ∧ (((e < 0 ∨ hp_sh e (F 0 12) ≠ 0) ∧ z = -1001) ∨ (0 ≤ e ∧ hp_sh e (F 0 12) = 0 ∧ hp_ans (F 0 12) (hp_S8 F) (hp_B8 e) (hp_M8 F A) z))) 19 [(2, gs_iv p), (0, .ref 0), (1, gs_iv e)] [] F1 A1) := by
  intro nN
  induction nN with
  | zero =>
    exact fun a0 a1 a2 a3 a4 i0 i1 i2 i3 hm => by exfalso; omega
  | succ nN ih =>
    intro p F1 A1 hI1 hf1 i0 i1 i2 i3 hm
    have b1 : (0 : Int) ≤ F1 0 12 ∧ F1 0 12 ≤ 12 := hI1.1 0 12
    refine sA_iload_n dd_X8_heap_19 rfl (.head _) ?_
    refine sA_aload_n dd_X8_heap_20 rfl (.tail _ (.head _)) ?_
    refine sA_geti (ci := 8) (j := 12) (q := (RX8, TX8, 13)) dd_X8_heap_21 rfl (by decide) fl_X8_94 (by decide) gs_s0 rfl ?_
    refine sA_icmp_ge (tgt := 60) dd_X8_heap_24 (by decide) (by omega) (by omega) (fun q2 => ?_) (fun q2 => ?_)
    · skip
      refine sA_iconst (z := (-1)) dd_X8_heap_60 ?_
      refine sA_iret (z := -1) dd_X8_heap_61 rfl ?_
      refine ⟨_, rfl, hI1, hf1, ?_⟩
      exact .inr ⟨i1.2, i3, .inl ⟨rfl, fun c h1 h2 h3 => i2 c h1 (by omega) h3⟩⟩
    · skip
      refine sA_iload_n dd_X8_heap_27 rfl (.tail _ (.tail _ (.head _))) ?_
      refine sA_iload_n dd_X8_heap_28 rfl (.head _) ?_
      refine sA_ishr dd_X8_heap_29 ?_
      have b3 := gs_t_rng (Int32.ofInt e >>> (Int32.ofInt p &&& 31))
      generalize hw4 : gs_t (Int32.ofInt e >>> (Int32.ofInt p &&& 31)) = w4 at b3 ⊢
      refine sA_iconst (z := 1) dd_X8_heap_30 ?_
      refine sA_iand dd_X8_heap_31 ?_
      have b5 := gs_t_rng (Int32.ofInt w4 &&& Int32.ofInt 1)
      have b7 := hp_b01 (w4)
      generalize hw6 : gs_t (Int32.ofInt w4 &&& Int32.ofInt 1) = w6 at b5 b7 ⊢
      have hbt : hp_bit e p = w6 := by
        unfold hp_bit
        rw [hw4]
        exact hw6
      refine sA_if_eq (tgt := 54) dd_X8_heap_32 (by decide) (by omega) (fun q8 => ?_) (fun q8 => ?_)
      · skip
        refine sA_iinc (lv' := [(2, gs_iv (p + 1)), (0, .ref 0), (1, gs_iv e)]) dd_X8_heap_54 (.head _) (by decide) rfl ?_
        refine sA_goto (tgt := 19) dd_X8_heap_57 (by decide) ?_
        refine sA_sub (lv2 := [(2, gs_iv (p + 1)), (0, .ref 0), (1, gs_iv e)]) (List.forall_mem_cons.mpr ⟨(.head _), (List.forall_mem_cons.mpr ⟨(.tail _ (.head _)), (List.forall_mem_cons.mpr ⟨(.tail _ (.tail _ (.head _))), (fun _ h => absurd h List.not_mem_nil)⟩)⟩)⟩) ?_
        exact ih (p + 1) F1 A1 hI1 hf1 (by omega) (by omega) (fun c h1 h2 h3 => by by_cases h : c < p <;> first | exact i2 c h1 h h3 | (exfalso; rw [show c = p by omega] at h3; exact h3 (by rw [hbt]; omega)) | fail) i3 (by omega)
      · skip
        have hF54 : ∀ c j, 54 ≤ c → F1 c j = F c j := fun c j q => hf1.1 c j (by dsimp only; omega)
        have hA54 : ∀ c, 54 ≤ c → A1 c = A c := fun c q => hf1.2 c (by dsimp only; omega)
        have hVc1 : ∀ r : Nat, (r : Int) < F1 0 12 → gs_vl 3 (F1 (54 + 3 * r + 1) 1) (A1 (54 + 3 * r + 1 + 1)) := fun r hr => by
          rw [hF54 (54 + 3 * r + 1) 1 (by omega), hA54 (54 + 3 * r + 1 + 1) (by omega)]
          exact hVc r (by omega)
        have eS := hp_S8_fr hF54
        have eM := hp_M8_fr hF54 hA54
        have e12 : F1 0 12 = F 0 12 := by omega
        refine sA_aload_n dd_X8_heap_35 rfl (.tail _ (.head _)) ?_
        refine sA_iload_n dd_X8_heap_36 rfl (.tail _ (.tail _ (.head _))) ?_
        refine sA_iload_n dd_X8_heap_37 rfl (.head _) ?_
        refine sA_callV (y2 := m_X8_firstBarring) (n2 := 2) (d2 := 6) (a := 0) (ci := 8) (q := (RX8, TX8, 13)) (as := [gs_iv e, gs_iv p]) (rest := []) dd_X8_heap_38 ok_X8_firstBarring ml_X8_135 rfl rfl (by decide) gs_s0 rfl rfl (Nat.le_of_ble_eq_true rfl) (by decide) (c_X8_firstBarring_vf hI1 (by omega) (by omega) (by omega) hVc1) (fun r9 F10 A11 h12 => ?_)
        obtain ⟨z15, e14, I16, f17, x13⟩ := h12
        subst e14
        have v18 : F10 0 12 = F1 0 12 := f17.1 0 12 (by first | exact id | omega | (dsimp only; omega) | (dsimp only) | fail)
        have f19 := gs_fr_tr hf1 f17 (fun b j h => by first | exact False.elim h | omega | (dsimp only at h ⊢; omega) | fail) (fun b h => by first | exact False.elim h | omega | (dsimp only at h ⊢; omega) | fail)
        have y20 : (-1 ≤ z15 ∧ z15 ≤ 12) ∧ ((¬ hp_S8 F1 p ∧ z15 = p) ∨ (hp_S8 F1 p ∧ ((z15 = -1 ∧ ∀ d : Int, p < d → d < F1 0 12 → ¬ (hp_B8 e d ∧ hp_S8 F1 d ∧ hp_M8 F1 A1 p d)) ∨ hp_fst (F1 0 12) (hp_S8 F1) (hp_B8 e) (hp_M8 F1 A1) p z15))) := x13
        clear x13
        show sA _ _ _ 41 _ [gs_iv z15] _ _
        have y38 := y20
        rw [eS, eM, e12] at y38
        refine sA_istore_n (lv' := [(3, gs_iv z15), (2, gs_iv p), (0, .ref 0), (1, gs_iv e)]) dd_X8_heap_41 rfl (by decide) rfl ?_
        refine sA_iload_n dd_X8_heap_42 rfl (.head _) ?_
        refine sA_iconst (z := (-1)) dd_X8_heap_43 ?_
        refine sA_icmp_eq (tgt := 54) dd_X8_heap_44 (by decide) (by omega) (by omega) (fun q21 => ?_) (fun q21 => ?_)
        · skip
          refine sA_iinc (lv' := [(2, gs_iv (p + 1)), (3, gs_iv z15), (0, .ref 0), (1, gs_iv e)]) dd_X8_heap_54 (.tail _ (.head _)) (by decide) rfl ?_
          refine sA_goto (tgt := 19) dd_X8_heap_57 (by decide) ?_
          have b22 : (0 : Int) ≤ F10 0 12 ∧ F10 0 12 ≤ 12 := I16.1 0 12
          refine sA_sub (lv2 := [(2, gs_iv (p + 1)), (0, .ref 0), (1, gs_iv e)]) (List.forall_mem_cons.mpr ⟨(.head _), (List.forall_mem_cons.mpr ⟨(.tail _ (.tail _ (.head _))), (List.forall_mem_cons.mpr ⟨(.tail _ (.tail _ (.tail _ (.head _)))), (fun _ h => absurd h List.not_mem_nil)⟩)⟩)⟩) ?_
          exact ih (p + 1) F10 A11 I16 f19 (by omega) (by omega) (fun c h1 h2 h3 => by by_cases h : c < p <;> first | exact i2 c h1 h h3 | (rw [show c = p by omega]; rcases y38.2 with q | ⟨q1, q2⟩ <;> first | (exfalso; have q3 := q.2; omega) | (rcases q2 with q2 | q2 <;> first | exact ⟨q1, q2.2⟩ | (exfalso; have q3 := q2.1; omega) | fail) | fail) | fail) i3 (by omega)
        · skip
          refine sA_bipush (z := 13) dd_X8_heap_47 (by decide) ?_
          refine sA_iload_n dd_X8_heap_49 rfl (.tail _ (.head _)) ?_
          refine sA_imul dd_X8_heap_50 ?_
          refine sA_iload_n dd_X8_heap_51 rfl (.head _) ?_
          refine sA_iadd dd_X8_heap_52 ?_
          refine sA_iret (z := (13 * p) + z15) dd_X8_heap_53 rfl ?_
          refine ⟨_, rfl, I16, f19, ?_⟩
          refine .inr ⟨i1.2, i3, .inr ⟨p, by omega, by omega, fun w => ?_, i2, ?_⟩⟩
          · rw [hbt] at w
            omega
          · rcases y38.2 with q | ⟨q1, q2⟩
            · have q3 := q.2
              exact .inl ⟨q.1, by omega⟩
            · rcases q2 with q2 | q2
              · exfalso
                have q3 := q2.1
                omega
              · exact .inr ⟨q1, _, q2, rfl⟩
theorem c_X8_heap_vf {e : Int} {F A : gs_F} (hI : gs_I F A) (he : -2147483648 ≤ e ∧ e ≤ 2147483647) (hVc : ∀ r : Nat, (r : Int) < F 0 12 → gs_vl 3 (F (54 + 3 * r + 1) 1) (A (54 + 3 * r + 1 + 1))) : sC m_X8_heap 7 [.ref 0, gs_iv e] F A (fun rv F' A' => ∃ z : Int, rv = some (gs_iv z) ∧ gs_I F' A' ∧ gs_fr (fun c j => c = 13 ∧ j = 1) (fun c => c = 14) F A F' A' ∧ (((e < 0 ∨ hp_sh e (F 0 12) ≠ 0) ∧ z = -1001) ∨ (0 ≤ e ∧ hp_sh e (F 0 12) = 0 ∧ hp_ans (F 0 12) (hp_S8 F) (hp_B8 e) (hp_M8 F A) z))) := by
  refine sC_of ok_X8_heap.1 (Nat.le_of_ble_eq_true rfl) ?_
  show sA _ _ _ 0 [(0, .ref 0), (1, gs_iv e)] [] F A
  have hf : gs_fr (fun c j => c = 13 ∧ j = 1) (fun c => c = 14) F A F A := gs_fr_refl _ _ _ _
  have b23 : (0 : Int) ≤ F 0 12 ∧ F 0 12 ≤ 12 := hI.1 0 12
  refine sA_iload_n dd_X8_heap_0 rfl (.tail _ (.head _)) ?_
  refine sA_if_lt (tgt := 13) dd_X8_heap_1 (by decide) (by omega) (fun q24 => ?_) (fun q24 => ?_)
  · skip
    refine sA_sipush (z := (-1001)) dd_X8_heap_13 (by decide) ?_
    refine sA_iret (z := -1001) dd_X8_heap_16 rfl ?_
    refine ⟨_, rfl, hI, hf, ?_⟩
    exact .inl ⟨.inl (by omega), rfl⟩
  · skip
    refine sA_iload_n dd_X8_heap_4 rfl (.tail _ (.head _)) ?_
    refine sA_aload_n dd_X8_heap_5 rfl (.head _) ?_
    refine sA_geti (ci := 8) (j := 12) (q := (RX8, TX8, 13)) dd_X8_heap_6 rfl (by decide) fl_X8_94 (by decide) gs_s0 rfl ?_
    refine sA_ishr dd_X8_heap_9 ?_
    have b25 := gs_t_rng (Int32.ofInt e >>> (Int32.ofInt (F 0 12) &&& 31))
    generalize hw26 : gs_t (Int32.ofInt e >>> (Int32.ofInt (F 0 12) &&& 31)) = w26 at b25 ⊢
    refine sA_if_eq (tgt := 17) dd_X8_heap_10 (by decide) (by omega) (fun q27 => ?_) (fun q27 => ?_)
    · skip
      have hsh : hp_sh e (F 0 12) = 0 := by
        unfold hp_sh
        rw [hw26]
        omega
      refine sA_iconst (z := 0) dd_X8_heap_17 ?_
      refine sA_istore_n (lv' := [(2, gs_iv 0), (0, .ref 0), (1, gs_iv e)]) dd_X8_heap_18 rfl (by decide) rfl ?_
      refine sA_sub (lv2 := [(2, gs_iv 0), (0, .ref 0), (1, gs_iv e)]) (List.forall_mem_cons.mpr ⟨(.head _), (List.forall_mem_cons.mpr ⟨(.tail _ (.head _)), (List.forall_mem_cons.mpr ⟨(.tail _ (.tail _ (.head _))), (fun _ h => absurd h List.not_mem_nil)⟩)⟩)⟩) ?_
      exact (k_X8_heap_vf hI he hVc (F 0 12 - 0 : Int).toNat.succ) 0 F A hI hf (by omega) (by omega) (fun c h1 h2 => by exfalso; omega) hsh (by omega)
    · skip
      refine sA_sipush (z := (-1001)) dd_X8_heap_13 (by decide) ?_
      refine sA_iret (z := -1001) dd_X8_heap_16 rfl ?_
      refine ⟨_, rfl, hI, hf, ?_⟩
      exact .inl ⟨.inr (by unfold hp_sh; rw [hw26]; omega), rfl⟩
theorem k_X9_heap_vf {e : Int} {F A : gs_F} (hI : gs_I F A) (he : -2147483648 ≤ e ∧ e ≤ 2147483647) (hX : ∀ r : Nat, (r : Int) < F 106 3 → 1 ≤ A 108 r) (hVa : ∀ r : Nat, (r : Int) < F 106 3 → gs_vl 3 (A 108 r) (fun i => A 109 (60 * r + i))) : ∀ nN : Nat, (∀ (r : Int)  (F1 A1 : gs_F), gs_I F1 A1 → gs_fr (fun c j => c = 106 ∧ (j = 9 ∨ j = 11)) (fun c => c = 112 ∨ c = 113) F A F1 A1 → 0 ≤ r ∧ r ≤ F1 106 3 → F1 106 3 ≤ 12 → F1 106 3 = F 106 3 ∧ 0 ≤ e → (∀ c : Int, 0 ≤ c → c < r → hp_B9 e c → hp_ok (F 106 3) (hp_S9 F A) (hp_B9 e) (hp_M9 F A) c) → hp_sh e (F 106 3) = 0 → (13 - r) * 20 + 1 < (nN : Int) → sA m_X9_heap 9 (fun rv F' A' => ∃ z : Int, rv = some (gs_iv z) ∧ gs_I F' A' ∧ gs_fr (fun c j => c = 106 ∧ (j = 9 ∨ j = 11)) (fun c => c = 112 ∨ c = 113) F A F' A' ∧ (((e < 0 ∨ hp_sh e (F 106 3) ≠ 0) ∧ z = -1001) ∨ (0 ≤ e ∧ hp_sh e (F 106 3) = 0 ∧ hp_ans (F 106 3) (hp_S9 F A) (hp_B9 e) (hp_M9 F A) z))) 19 [(2, gs_iv r), (0, .ref 106), (1, gs_iv e)] [] F1 A1) ∧ (∀ (r : Int) (s : Int)  (F1 A1 : gs_F), gs_I F1 A1 → gs_fr (fun c j => c = 106 ∧ (j = 9 ∨ j = 11)) (fun c => c = 112 ∨ c = 113) F A F1 A1 → 0 ≤ r ∧ r < F1 106 3 → r < s ∧ s ≤ F1 106 3 → F1 106 3 ≤ 12 → F1 106 3 = F 106 3 ∧ 0 ≤ e → (∀ c : Int, 0 ≤ c → c < r → hp_B9 e c → hp_ok (F 106 3) (hp_S9 F A) (hp_B9 e) (hp_M9 F A) c) → hp_sh e (F 106 3) = 0 → hp_S9 F A r → (∀ d : Int, r < d → d < s → ¬ (hp_B9 e d ∧ hp_S9 F A d ∧ hp_M9 F A r d)) → hp_bit e r = 1 → (13 - r) * 20 - s < (nN : Int) → sA m_X9_heap 9 (fun rv F' A' => ∃ z : Int, rv = some (gs_iv z) ∧ gs_I F' A' ∧ gs_fr (fun c j => c = 106 ∧ (j = 9 ∨ j = 11)) (fun c => c = 112 ∨ c = 113) F A F' A' ∧ (((e < 0 ∨ hp_sh e (F 106 3) ≠ 0) ∧ z = -1001) ∨ (0 ≤ e ∧ hp_sh e (F 106 3) = 0 ∧ hp_ans (F 106 3) (hp_S9 F A) (hp_B9 e) (hp_M9 F A) z))) 53 [(3, gs_iv s), (2, gs_iv r), (0, .ref 106), (1, gs_iv e)] [] F1 A1) := by
  intro nN
  induction nN with
  | zero =>
    exact ⟨fun a0 a1 a2 a3 a4 i0 i1 i2 i3 i4 hm => by exfalso; omega, fun a0 a1 a2 a3 a4 a5 i0 i1 i2 i3 i4 i5 i6 i7 i8 hm => by exfalso; omega⟩
  | succ nN ih =>
    refine ⟨?_, ?_⟩
    · skip
      intro r F1 A1 hI1 hf1 i0 i1 i2 i3 i4 hm
      have b1 : (0 : Int) ≤ F1 106 3 ∧ F1 106 3 ≤ 12 := hI1.1 106 3
      have hF3 := hf1.1 106 3 (by dsimp only; omega)
      have hA8 := hf1.2 108 (by dsimp only; omega)
      have hX1 : ∀ r : Nat, (r : Int) < F1 106 3 → 1 ≤ A1 108 r := fun r h => by rw [hA8]; exact hX r (by omega)
      refine sA_iload_n dd_X9_heap_19 rfl (.head _) ?_
      refine sA_aload_n dd_X9_heap_20 rfl (.tail _ (.head _)) ?_
      refine sA_geti (ci := 9) (j := 3) (q := (RX9, TX9, 28)) dd_X9_heap_21 rfl (by decide) fl_X9_70 (by decide) gs_s106 rfl ?_
      refine sA_icmp_ge (tgt := 116) dd_X9_heap_24 (by decide) (by omega) (by omega) (fun q2 => ?_) (fun q2 => ?_)
      · skip
        refine sA_iconst (z := (-1)) dd_X9_heap_116 ?_
        refine sA_iret (z := -1) dd_X9_heap_117 rfl ?_
        refine ⟨_, rfl, hI1, hf1, ?_⟩
        exact .inr ⟨i2.2, i4, .inl ⟨rfl, fun c h1 h2 h3 => i3 c h1 (by omega) h3⟩⟩
      · skip
        refine sA_iload_n dd_X9_heap_27 rfl (.tail _ (.tail _ (.head _))) ?_
        refine sA_iload_n dd_X9_heap_28 rfl (.head _) ?_
        refine sA_ishr dd_X9_heap_29 ?_
        have b3 := gs_t_rng (Int32.ofInt e >>> (Int32.ofInt r &&& 31))
        generalize hw4 : gs_t (Int32.ofInt e >>> (Int32.ofInt r &&& 31)) = w4 at b3 ⊢
        refine sA_iconst (z := 1) dd_X9_heap_30 ?_
        refine sA_iand dd_X9_heap_31 ?_
        have b5 := gs_t_rng (Int32.ofInt w4 &&& Int32.ofInt 1)
        have b7 := hp_b01 (w4)
        generalize hw6 : gs_t (Int32.ofInt w4 &&& Int32.ofInt 1) = w6 at b5 b7 ⊢
        refine sA_iconst (z := 1) dd_X9_heap_32 ?_
        have hbt : hp_bit e r = w6 := by
          unfold hp_bit
          rw [hw4]
          exact hw6
        refine sA_icmp_ne (tgt := 110) dd_X9_heap_33 (by decide) (by omega) (by omega) (fun q8 => ?_) (fun q8 => ?_)
        · skip
          refine sA_iinc (lv' := [(2, gs_iv (r + 1)), (0, .ref 106), (1, gs_iv e)]) dd_X9_heap_110 (.head _) (by decide) rfl ?_
          refine sA_goto (tgt := 19) dd_X9_heap_113 (by decide) ?_
          refine sA_sub (lv2 := [(2, gs_iv (r + 1)), (0, .ref 106), (1, gs_iv e)]) (List.forall_mem_cons.mpr ⟨(.head _), (List.forall_mem_cons.mpr ⟨(.tail _ (.head _)), (List.forall_mem_cons.mpr ⟨(.tail _ (.tail _ (.head _))), (fun _ h => absurd h List.not_mem_nil)⟩)⟩)⟩) ?_
          exact ih.1 (r + 1) F1 A1 hI1 hf1 (by omega) (by omega) (by omega) (fun c h1 h2 h3 => by by_cases h : c < r <;> first | exact i3 c h1 h h3 | (exfalso; rw [show c = r by omega] at h3; have h4 : hp_bit e r = 1 := h3; rw [hbt] at h4; omega) | fail) i4 (by omega)
        · skip
          have hx_r := hX1 r.toNat (by omega)
          have e0 : F1 106 0 = F 106 0 := hf1.1 106 0 (by dsimp only; omega)
          have e108 : A1 108 = A 108 := hf1.2 108 (by dsimp only; omega)
          have e109 : A1 109 = A 109 := hf1.2 109 (by dsimp only; omega)
          have eS := hp_S9_fr e0 e108 e109
          have eM := hp_M9_fr e0 e108 e109
          have hVr : gs_vl 3 (A1 108 r.toNat) (fun i => A1 109 (60 * r.toNat + i)) := by rw [hf1.2 108 (by dsimp only; omega), hf1.2 109 (by dsimp only; omega)]; exact hVa r.toNat (by omega)
          refine sA_aload_n dd_X9_heap_36 rfl (.tail _ (.head _)) ?_
          refine sA_iload_n dd_X9_heap_37 rfl (.head _) ?_
          refine sA_callV (y2 := m_X9_isSimple) (n2 := 1) (d2 := 8) (a := 106) (ci := 9) (q := (RX9, TX9, 28)) (as := [gs_iv r]) (rest := []) dd_X9_heap_38 ok_X9_isSimple ml_X9_151 rfl rfl (by decide) gs_s106 rfl rfl (Nat.le_of_ble_eq_true rfl) (by decide) (c_X9_isSimple_vf hI1 (by omega) (by omega) hVr) (fun r9 F10 A11 h12 => ?_)
          obtain ⟨z15, e14, I16, f17, x13⟩ := h12
          subst e14
          have v18 : F10 106 3 = F1 106 3 := f17.1 106 3 (by first | exact id | omega | (dsimp only; omega) | (dsimp only) | fail)
          have v19 : A11 108 r.toNat = A1 108 r.toNat := congrFun (f17.2 108 (by first | exact id | omega | (dsimp only; omega) | (dsimp only) | fail)) _
          have f20 := gs_fr_tr hf1 f17 (fun b j h => by first | exact False.elim h | omega | (dsimp only at h ⊢; omega) | fail) (fun b h => by first | exact False.elim h | omega | (dsimp only at h ⊢; omega) | fail)
          have y21 : (z15 = 1 ∧ (¬ gs_pow (fun i => A1 109 (60 * r.toNat + i)) (A1 108 r.toNat) ∧ mt_m9 (4 * F1 106 0) (fun i => A1 109 (60 * r.toNat + i)) (A1 108 r.toNat) (fun i => A1 109 (60 * r.toNat + i)) (A1 108 r.toNat) = 0)) ∨ (z15 = 0 ∧ ¬ (¬ gs_pow (fun i => A1 109 (60 * r.toNat + i)) (A1 108 r.toNat) ∧ mt_m9 (4 * F1 106 0) (fun i => A1 109 (60 * r.toNat + i)) (A1 108 r.toNat) (fun i => A1 109 (60 * r.toNat + i)) (A1 108 r.toNat) = 0)) := x13
          clear x13
          show sA _ _ _ 41 _ [gs_iv z15] _ _
          have y38 := y21
          rw [show ((¬ gs_pow (fun i => A1 109 (60 * r.toNat + i)) (A1 108 r.toNat) ∧ mt_m9 (4 * F1 106 0) (fun i => A1 109 (60 * r.toNat + i)) (A1 108 r.toNat) (fun i => A1 109 (60 * r.toNat + i)) (A1 108 r.toNat) = 0) = hp_S9 F1 A1 r) from rfl, eS] at y38
          refine sA_if_ne (tgt := 49) dd_X9_heap_41 (by decide) (by omega) (fun q22 => ?_) (fun q22 => ?_)
          · skip
            refine sA_iload_n dd_X9_heap_49 rfl (.head _) ?_
            refine sA_iconst (z := 1) dd_X9_heap_50 ?_
            refine sA_iadd dd_X9_heap_51 ?_
            refine sA_istore_n (lv' := [(3, gs_iv (r + 1)), (2, gs_iv r), (0, .ref 106), (1, gs_iv e)]) dd_X9_heap_52 rfl (by decide) rfl ?_
            have b23 : (0 : Int) ≤ F10 106 3 ∧ F10 106 3 ≤ 12 := I16.1 106 3
            refine sA_sub (lv2 := [(3, gs_iv (r + 1)), (2, gs_iv r), (0, .ref 106), (1, gs_iv e)]) (List.forall_mem_cons.mpr ⟨(.head _), (List.forall_mem_cons.mpr ⟨(.tail _ (.head _)), (List.forall_mem_cons.mpr ⟨(.tail _ (.tail _ (.head _))), (List.forall_mem_cons.mpr ⟨(.tail _ (.tail _ (.tail _ (.head _)))), (fun _ h => absurd h List.not_mem_nil)⟩)⟩)⟩)⟩) ?_
            exact ih.2 r (r + 1) F10 A11 I16 f20 (by omega) (by omega) (by omega) (by omega) i3 i4 (by rcases y38 with y | y <;> first | exact y.2 | (exfalso; omega) | fail) (fun d h1 h2 => by exfalso; omega) (by rw [hbt]; omega) (by omega)
          · skip
            refine sA_bipush (z := 14) dd_X9_heap_44 (by decide) ?_
            refine sA_iload_n dd_X9_heap_46 rfl (.head _) ?_
            refine sA_imul dd_X9_heap_47 ?_
            refine sA_iret (z := 14 * r) dd_X9_heap_48 rfl ?_
            refine ⟨_, rfl, I16, f20, ?_⟩
            refine .inr ⟨i2.2, i4, .inr ⟨r, by omega, by omega, ?_, i3, ?_⟩⟩
            · show hp_bit e r = 1
              rw [hbt]
              omega
            · rcases y38 with y | y
              · exfalso
                omega
              · exact .inl ⟨y.2, rfl⟩
    · skip
      intro r s F1 A1 hI1 hf1 i0 i1 i2 i3 i4 i5 i6 i7 i8 hm
      have b24 : (0 : Int) ≤ F1 106 3 ∧ F1 106 3 ≤ 12 := hI1.1 106 3
      have hF3 := hf1.1 106 3 (by dsimp only; omega)
      have hA8 := hf1.2 108 (by dsimp only; omega)
      have hX1 : ∀ r : Nat, (r : Int) < F1 106 3 → 1 ≤ A1 108 r := fun r h => by rw [hA8]; exact hX r (by omega)
      refine sA_iload_n dd_X9_heap_53 rfl (.head _) ?_
      refine sA_aload_n dd_X9_heap_54 rfl (.tail _ (.tail _ (.head _))) ?_
      refine sA_geti (ci := 9) (j := 3) (q := (RX9, TX9, 28)) dd_X9_heap_55 rfl (by decide) fl_X9_70 (by decide) gs_s106 rfl ?_
      refine sA_icmp_ge (tgt := 110) dd_X9_heap_58 (by decide) (by omega) (by omega) (fun q25 => ?_) (fun q25 => ?_)
      · skip
        refine sA_iinc (lv' := [(2, gs_iv (r + 1)), (3, gs_iv s), (0, .ref 106), (1, gs_iv e)]) dd_X9_heap_110 (.tail _ (.head _)) (by decide) rfl ?_
        refine sA_goto (tgt := 19) dd_X9_heap_113 (by decide) ?_
        refine sA_sub (lv2 := [(2, gs_iv (r + 1)), (0, .ref 106), (1, gs_iv e)]) (List.forall_mem_cons.mpr ⟨(.head _), (List.forall_mem_cons.mpr ⟨(.tail _ (.tail _ (.head _))), (List.forall_mem_cons.mpr ⟨(.tail _ (.tail _ (.tail _ (.head _)))), (fun _ h => absurd h List.not_mem_nil)⟩)⟩)⟩) ?_
        exact ih.1 (r + 1) F1 A1 hI1 hf1 (by omega) (by omega) (by omega) (fun c h1 h2 h3 => by by_cases h : c < r <;> first | exact i4 c h1 h h3 | (rw [show c = r by omega]; exact ⟨i6, fun d h4 h5 => i7 d h4 (by omega)⟩) | fail) i5 (by omega)
      · skip
        refine sA_iload_n dd_X9_heap_61 rfl (.tail _ (.tail _ (.tail _ (.head _)))) ?_
        refine sA_iload_n dd_X9_heap_62 rfl (.head _) ?_
        refine sA_ishr dd_X9_heap_63 ?_
        have b26 := gs_t_rng (Int32.ofInt e >>> (Int32.ofInt s &&& 31))
        generalize hw27 : gs_t (Int32.ofInt e >>> (Int32.ofInt s &&& 31)) = w27 at b26 ⊢
        refine sA_iconst (z := 1) dd_X9_heap_64 ?_
        refine sA_iand dd_X9_heap_65 ?_
        have b28 := gs_t_rng (Int32.ofInt w27 &&& Int32.ofInt 1)
        have b30 := hp_b01 (w27)
        generalize hw29 : gs_t (Int32.ofInt w27 &&& Int32.ofInt 1) = w29 at b28 b30 ⊢
        refine sA_iconst (z := 1) dd_X9_heap_66 ?_
        have hbt : hp_bit e s = w29 := by
          unfold hp_bit
          rw [hw27]
          exact hw29
        refine sA_icmp_ne (tgt := 104) dd_X9_heap_67 (by decide) (by omega) (by omega) (fun q31 => ?_) (fun q31 => ?_)
        · skip
          refine sA_iinc (lv' := [(3, gs_iv (s + 1)), (2, gs_iv r), (0, .ref 106), (1, gs_iv e)]) dd_X9_heap_104 (.head _) (by decide) rfl ?_
          refine sA_goto (tgt := 53) dd_X9_heap_107 (by decide) ?_
          refine sA_sub (lv2 := [(3, gs_iv (s + 1)), (2, gs_iv r), (0, .ref 106), (1, gs_iv e)]) (List.forall_mem_cons.mpr ⟨(.head _), (List.forall_mem_cons.mpr ⟨(.tail _ (.head _)), (List.forall_mem_cons.mpr ⟨(.tail _ (.tail _ (.head _))), (List.forall_mem_cons.mpr ⟨(.tail _ (.tail _ (.tail _ (.head _)))), (fun _ h => absurd h List.not_mem_nil)⟩)⟩)⟩)⟩) ?_
          exact ih.2 r (s + 1) F1 A1 hI1 hf1 (by omega) (by omega) (by omega) (by omega) i4 i5 i6 (hp_next i7 (fun w => by have h4 : hp_bit e s = 1 := w.1; rw [hbt] at h4; omega)) i8 (by omega)
        · skip
          have hx_s := hX1 s.toNat (by omega)
          have e0 : F1 106 0 = F 106 0 := hf1.1 106 0 (by dsimp only; omega)
          have e108 : A1 108 = A 108 := hf1.2 108 (by dsimp only; omega)
          have e109 : A1 109 = A 109 := hf1.2 109 (by dsimp only; omega)
          have eS := hp_S9_fr e0 e108 e109
          have eM := hp_M9_fr e0 e108 e109
          have hVr : gs_vl 3 (A1 108 s.toNat) (fun i => A1 109 (60 * s.toNat + i)) := by rw [hf1.2 108 (by dsimp only; omega), hf1.2 109 (by dsimp only; omega)]; exact hVa s.toNat (by omega)
          refine sA_aload_n dd_X9_heap_70 rfl (.tail _ (.tail _ (.head _))) ?_
          refine sA_iload_n dd_X9_heap_71 rfl (.head _) ?_
          refine sA_callV (y2 := m_X9_isSimple) (n2 := 1) (d2 := 8) (a := 106) (ci := 9) (q := (RX9, TX9, 28)) (as := [gs_iv s]) (rest := []) dd_X9_heap_72 ok_X9_isSimple ml_X9_151 rfl rfl (by decide) gs_s106 rfl rfl (Nat.le_of_ble_eq_true rfl) (by decide) (c_X9_isSimple_vf hI1 (by omega) (by omega) hVr) (fun r32 F33 A34 h35 => ?_)
          obtain ⟨z38, e37, I39, f40, x36⟩ := h35
          subst e37
          have v41 : F33 106 3 = F1 106 3 := f40.1 106 3 (by first | exact id | omega | (dsimp only; omega) | (dsimp only) | fail)
          have v42 : A34 108 r.toNat = A1 108 r.toNat := congrFun (f40.2 108 (by first | exact id | omega | (dsimp only; omega) | (dsimp only) | fail)) _
          have v43 : A34 108 s.toNat = A1 108 s.toNat := congrFun (f40.2 108 (by first | exact id | omega | (dsimp only; omega) | (dsimp only) | fail)) _
          have f44 := gs_fr_tr hf1 f40 (fun b j h => by first | exact False.elim h | omega | (dsimp only at h ⊢; omega) | fail) (fun b h => by first | exact False.elim h | omega | (dsimp only at h ⊢; omega) | fail)
          have y45 : (z38 = 1 ∧ (¬ gs_pow (fun i => A1 109 (60 * s.toNat + i)) (A1 108 s.toNat) ∧ mt_m9 (4 * F1 106 0) (fun i => A1 109 (60 * s.toNat + i)) (A1 108 s.toNat) (fun i => A1 109 (60 * s.toNat + i)) (A1 108 s.toNat) = 0)) ∨ (z38 = 0 ∧ ¬ (¬ gs_pow (fun i => A1 109 (60 * s.toNat + i)) (A1 108 s.toNat) ∧ mt_m9 (4 * F1 106 0) (fun i => A1 109 (60 * s.toNat + i)) (A1 108 s.toNat) (fun i => A1 109 (60 * s.toNat + i)) (A1 108 s.toNat) = 0)) := x36
          clear x36
          show sA _ _ _ 75 _ [gs_iv z38] _ _
          have y72 := y45
          rw [show ((¬ gs_pow (fun i => A1 109 (60 * s.toNat + i)) (A1 108 s.toNat) ∧ mt_m9 (4 * F1 106 0) (fun i => A1 109 (60 * s.toNat + i)) (A1 108 s.toNat) (fun i => A1 109 (60 * s.toNat + i)) (A1 108 s.toNat) = 0) = hp_S9 F1 A1 s) from rfl, eS] at y72
          refine sA_if_eq (tgt := 104) dd_X9_heap_75 (by decide) (by omega) (fun q46 => ?_) (fun q46 => ?_)
          · skip
            refine sA_iinc (lv' := [(3, gs_iv (s + 1)), (2, gs_iv r), (0, .ref 106), (1, gs_iv e)]) dd_X9_heap_104 (.head _) (by decide) rfl ?_
            refine sA_goto (tgt := 53) dd_X9_heap_107 (by decide) ?_
            have b47 : (0 : Int) ≤ F33 106 3 ∧ F33 106 3 ≤ 12 := I39.1 106 3
            refine sA_sub (lv2 := [(3, gs_iv (s + 1)), (2, gs_iv r), (0, .ref 106), (1, gs_iv e)]) (List.forall_mem_cons.mpr ⟨(.head _), (List.forall_mem_cons.mpr ⟨(.tail _ (.head _)), (List.forall_mem_cons.mpr ⟨(.tail _ (.tail _ (.head _))), (List.forall_mem_cons.mpr ⟨(.tail _ (.tail _ (.tail _ (.head _)))), (fun _ h => absurd h List.not_mem_nil)⟩)⟩)⟩)⟩) ?_
            exact ih.2 r (s + 1) F33 A34 I39 f44 (by omega) (by omega) (by omega) (by omega) i4 i5 i6 (hp_next i7 (fun w => by rcases y72 with y | y <;> first | (exfalso; omega) | exact y.2 w.2.1 | fail)) i8 (by omega)
          · skip
            have a3 : F33 106 3 = F 106 3 := f44.1 106 3 (by dsimp only; omega)
            have b108 : A34 108 = A 108 := f44.2 108 (by dsimp only; omega)
            have b109 : A34 109 = A 109 := f44.2 109 (by dsimp only; omega)
            refine sA_aload_n dd_X9_heap_78 rfl (.tail _ (.tail _ (.head _))) ?_
            refine sA_iload_n dd_X9_heap_79 rfl (.tail _ (.head _)) ?_
            refine sA_iload_n dd_X9_heap_80 rfl (.head _) ?_
            refine sA_callV (y2 := m_X9_one) (n2 := 2) (d2 := 4) (a := 106) (ci := 9) (q := (RX9, TX9, 28)) (as := [gs_iv r, gs_iv s]) (rest := []) dd_X9_heap_81 ok_X9_one ml_X9_154 rfl rfl (by decide) gs_s106 rfl rfl (Nat.le_of_ble_eq_true rfl) (by decide) (c_X9_one_vf I39 (by omega) (by omega) (gs_X_fr hX (f44.1 106 3 (by dsimp only; omega)) (f44.2 108 (by dsimp only; omega)))) (fun r48 F49 A50 h51 => ?_)
            obtain ⟨z54, e53, I55, f56, x52⟩ := h51
            subst e53
            have v57 : F49 106 3 = F33 106 3 := f56.1 106 3 (by first | exact id | omega | (dsimp only; omega) | (dsimp only) | fail)
            have v58 : A50 108 r.toNat = A34 108 r.toNat := congrFun (f56.2 108 (by first | exact id | omega | (dsimp only; omega) | (dsimp only) | fail)) _
            have v59 : A50 108 s.toNat = A34 108 s.toNat := congrFun (f56.2 108 (by first | exact id | omega | (dsimp only; omega) | (dsimp only) | fail)) _
            have f60 := gs_fr_tr f44 f56 (fun b j h => by first | exact False.elim h | omega | (dsimp only at h ⊢; omega) | fail) (fun b h => by first | exact False.elim h | omega | (dsimp only at h ⊢; omega) | fail)
            have y61 : ((r < 0 ∨ F33 106 3 ≤ r ∨ s < 0 ∨ F33 106 3 ≤ s) ∧ z54 = -1001) ∨ (0 ≤ r ∧ r < F33 106 3 ∧ 0 ≤ s ∧ s < F33 106 3 ∧ ((z54 = 1 ∧ gs_ao (fun i => A34 109 (60 * r.toNat + i)) (A34 108 r.toNat) (fun i => A34 109 (60 * s.toNat + i)) (A34 108 s.toNat)) ∨ (z54 = 0 ∧ ¬ gs_ao (fun i => A34 109 (60 * r.toNat + i)) (A34 108 r.toNat) (fun i => A34 109 (60 * s.toNat + i)) (A34 108 s.toNat)))) := x52
            clear x52
            show sA _ _ _ 84 _ [gs_iv z54] _ _
            refine sA_iconst (z := 1) dd_X9_heap_84 ?_
            refine sA_icmp_eq (tgt := 97) dd_X9_heap_85 (by decide) (by omega) (by omega) (fun q62 => ?_) (fun q62 => ?_)
            · skip
              refine sA_bipush (z := 13) dd_X9_heap_97 (by decide) ?_
              refine sA_iload_n dd_X9_heap_99 rfl (.tail _ (.head _)) ?_
              refine sA_imul dd_X9_heap_100 ?_
              refine sA_iload_n dd_X9_heap_101 rfl (.head _) ?_
              refine sA_iadd dd_X9_heap_102 ?_
              refine sA_iret (z := (13 * r) + s) dd_X9_heap_103 rfl ?_
              refine ⟨_, rfl, I55, f60, ?_⟩
              refine .inr ⟨i3.2, i5, .inr ⟨r, by omega, by omega, i8, i4, .inr ⟨i6, s, ⟨by omega, by omega, ⟨?_, ?_, ?_⟩, i7⟩, rfl⟩⟩⟩
              · show hp_bit e s = 1
                rw [hbt]
                omega
              · rcases y72 with y | y
                · exact y.2
                · exfalso
                  omega
              · left
                have y := y61
                rw [a3, b108, b109] at y
                rcases y with y | ⟨_, _, _, _, y⟩
                · exfalso
                  omega
                · rcases y with y | y
                  · exact y.2
                  · exfalso
                    omega
            · skip
              have a0 : F49 106 0 = F 106 0 := f60.1 106 0 (by dsimp only; omega)
              have a108 : A50 108 = A 108 := f60.2 108 (by dsimp only; omega)
              have a109 : A50 109 = A 109 := f60.2 109 (by dsimp only; omega)
              have hx_s2 : 1 ≤ A50 108 s.toNat := by rw [a108]; exact hX s.toNat (by omega)
              have hVr : gs_vl 3 (A50 108 r.toNat) (fun i => A50 109 (60 * r.toNat + i)) := by rw [f60.2 108 (by dsimp only; omega), f60.2 109 (by dsimp only; omega)]; exact hVa r.toNat (by omega)
              have hVs : gs_vl 3 (A50 108 s.toNat) (fun i => A50 109 (60 * s.toNat + i)) := by rw [f60.2 108 (by dsimp only; omega), f60.2 109 (by dsimp only; omega)]; exact hVa s.toNat (by omega)
              refine sA_aload_n dd_X9_heap_88 rfl (.tail _ (.tail _ (.head _))) ?_
              refine sA_iload_n dd_X9_heap_89 rfl (.tail _ (.head _)) ?_
              refine sA_iload_n dd_X9_heap_90 rfl (.head _) ?_
              refine sA_callV (y2 := m_X9_meetingsOf) (n2 := 2) (d2 := 7) (a := 106) (ci := 9) (q := (RX9, TX9, 28)) (as := [gs_iv r, gs_iv s]) (rest := []) dd_X9_heap_91 ok_X9_meetingsOf ml_X9_148 rfl rfl (by decide) gs_s106 rfl rfl (Nat.le_of_ble_eq_true rfl) (by decide) (c_X9_meetingsOf_vf I55 (by omega) (by omega) (by omega) hVr hVs) (fun r63 F64 A65 h66 => ?_)
              obtain ⟨z69, e68, I70, f71, x67⟩ := h66
              subst e68
              have v72 : F64 106 3 = F49 106 3 := f71.1 106 3 (by first | exact id | omega | (dsimp only; omega) | (dsimp only) | fail)
              have v73 : A65 108 r.toNat = A50 108 r.toNat := congrFun (f71.2 108 (by first | exact id | omega | (dsimp only; omega) | (dsimp only) | fail)) _
              have v74 : A65 108 s.toNat = A50 108 s.toNat := congrFun (f71.2 108 (by first | exact id | omega | (dsimp only; omega) | (dsimp only) | fail)) _
              have f75 := gs_fr_tr f60 f71 (fun b j h => by first | exact False.elim h | omega | (dsimp only at h ⊢; omega) | fail) (fun b h => by first | exact False.elim h | omega | (dsimp only at h ⊢; omega) | fail)
              have y76 : (0 ≤ z69 ∧ z69 ≤ 48000) ∧ z69 = mt_m9 (4 * F49 106 0) (fun i => A50 109 (60 * r.toNat + i)) (A50 108 r.toNat) (fun i => A50 109 (60 * s.toNat + i)) (A50 108 s.toNat) := x67
              clear x67
              show sA _ _ _ 94 _ [gs_iv z69] _ _
              refine sA_if_le (tgt := 104) dd_X9_heap_94 (by decide) (by omega) (fun q77 => ?_) (fun q77 => ?_)
              · skip
                refine sA_iinc (lv' := [(3, gs_iv (s + 1)), (2, gs_iv r), (0, .ref 106), (1, gs_iv e)]) dd_X9_heap_104 (.head _) (by decide) rfl ?_
                refine sA_goto (tgt := 53) dd_X9_heap_107 (by decide) ?_
                have b78 : (0 : Int) ≤ F64 106 3 ∧ F64 106 3 ≤ 12 := I70.1 106 3
                refine sA_sub (lv2 := [(3, gs_iv (s + 1)), (2, gs_iv r), (0, .ref 106), (1, gs_iv e)]) (List.forall_mem_cons.mpr ⟨(.head _), (List.forall_mem_cons.mpr ⟨(.tail _ (.head _)), (List.forall_mem_cons.mpr ⟨(.tail _ (.tail _ (.head _))), (List.forall_mem_cons.mpr ⟨(.tail _ (.tail _ (.tail _ (.head _)))), (fun _ h => absurd h List.not_mem_nil)⟩)⟩)⟩)⟩) ?_
                exact ih.2 r (s + 1) F64 A65 I70 f75 (by omega) (by omega) (by omega) (by omega) i4 i5 i6 (hp_next i7 (fun w => by rcases w.2.2 with q | q <;> first | (have y := y61; rw [a3, b108, b109] at y; rcases y with y | ⟨_, _, _, _, y⟩ <;> first | (exfalso; omega) | (rcases y with y | y <;> first | (exfalso; omega) | exact y.2 q | fail) | fail) | (have y := y76.2; rw [a0, a108, a109] at y; omega) | fail)) i8 (by omega)
              · skip
                refine sA_bipush (z := 13) dd_X9_heap_97 (by decide) ?_
                refine sA_iload_n dd_X9_heap_99 rfl (.tail _ (.head _)) ?_
                refine sA_imul dd_X9_heap_100 ?_
                refine sA_iload_n dd_X9_heap_101 rfl (.head _) ?_
                refine sA_iadd dd_X9_heap_102 ?_
                refine sA_iret (z := (13 * r) + s) dd_X9_heap_103 rfl ?_
                refine ⟨_, rfl, I70, f75, ?_⟩
                refine .inr ⟨i3.2, i5, .inr ⟨r, by omega, by omega, i8, i4, .inr ⟨i6, s, ⟨by omega, by omega, ⟨?_, ?_, ?_⟩, i7⟩, rfl⟩⟩⟩
                · show hp_bit e s = 1
                  rw [hbt]
                  omega
                · rcases y72 with y | y
                  · exact y.2
                  · exfalso
                    omega
                · right
                  have y := y76.2
                  rw [a0, a108, a109] at y
                  rw [← y]
                  omega
theorem c_X9_heap_vf {e : Int} {F A : gs_F} (hI : gs_I F A) (he : -2147483648 ≤ e ∧ e ≤ 2147483647) (hX : ∀ r : Nat, (r : Int) < F 106 3 → 1 ≤ A 108 r) (hVa : ∀ r : Nat, (r : Int) < F 106 3 → gs_vl 3 (A 108 r) (fun i => A 109 (60 * r + i))) : sC m_X9_heap 9 [.ref 106, gs_iv e] F A (fun rv F' A' => ∃ z : Int, rv = some (gs_iv z) ∧ gs_I F' A' ∧ gs_fr (fun c j => c = 106 ∧ (j = 9 ∨ j = 11)) (fun c => c = 112 ∨ c = 113) F A F' A' ∧ (((e < 0 ∨ hp_sh e (F 106 3) ≠ 0) ∧ z = -1001) ∨ (0 ≤ e ∧ hp_sh e (F 106 3) = 0 ∧ hp_ans (F 106 3) (hp_S9 F A) (hp_B9 e) (hp_M9 F A) z))) := by
  refine sC_of ok_X9_heap.1 (Nat.le_of_ble_eq_true rfl) ?_
  show sA _ _ _ 0 [(0, .ref 106), (1, gs_iv e)] [] F A
  have hf : gs_fr (fun c j => c = 106 ∧ (j = 9 ∨ j = 11)) (fun c => c = 112 ∨ c = 113) F A F A := gs_fr_refl _ _ _ _
  have b79 : (0 : Int) ≤ F 106 3 ∧ F 106 3 ≤ 12 := hI.1 106 3
  refine sA_iload_n dd_X9_heap_0 rfl (.tail _ (.head _)) ?_
  refine sA_if_lt (tgt := 13) dd_X9_heap_1 (by decide) (by omega) (fun q80 => ?_) (fun q80 => ?_)
  · skip
    refine sA_sipush (z := (-1001)) dd_X9_heap_13 (by decide) ?_
    refine sA_iret (z := -1001) dd_X9_heap_16 rfl ?_
    refine ⟨_, rfl, hI, hf, ?_⟩
    exact .inl ⟨.inl (by omega), rfl⟩
  · skip
    refine sA_iload_n dd_X9_heap_4 rfl (.tail _ (.head _)) ?_
    refine sA_aload_n dd_X9_heap_5 rfl (.head _) ?_
    refine sA_geti (ci := 9) (j := 3) (q := (RX9, TX9, 28)) dd_X9_heap_6 rfl (by decide) fl_X9_70 (by decide) gs_s106 rfl ?_
    refine sA_ishr dd_X9_heap_9 ?_
    have b81 := gs_t_rng (Int32.ofInt e >>> (Int32.ofInt (F 106 3) &&& 31))
    generalize hw82 : gs_t (Int32.ofInt e >>> (Int32.ofInt (F 106 3) &&& 31)) = w82 at b81 ⊢
    refine sA_if_eq (tgt := 17) dd_X9_heap_10 (by decide) (by omega) (fun q83 => ?_) (fun q83 => ?_)
    · skip
      have hb3 : (0 : Int) ≤ F 106 3 ∧ F 106 3 ≤ 12 := hI.1 106 3
      have hsh : hp_sh e (F 106 3) = 0 := by
        unfold hp_sh
        rw [hw82]
        omega
      refine sA_iconst (z := 0) dd_X9_heap_17 ?_
      refine sA_istore_n (lv' := [(2, gs_iv 0), (0, .ref 106), (1, gs_iv e)]) dd_X9_heap_18 rfl (by decide) rfl ?_
      refine sA_sub (lv2 := [(2, gs_iv 0), (0, .ref 106), (1, gs_iv e)]) (List.forall_mem_cons.mpr ⟨(.head _), (List.forall_mem_cons.mpr ⟨(.tail _ (.head _)), (List.forall_mem_cons.mpr ⟨(.tail _ (.tail _ (.head _))), (fun _ h => absurd h List.not_mem_nil)⟩)⟩)⟩) ?_
      exact (k_X9_heap_vf hI he hX hVa ((13 - 0) * 20 + 1 : Int).toNat.succ).1 0 F A hI hf (by omega) (by omega) (by omega) (fun c h1 h2 => by exfalso; omega) hsh (by omega)
    · skip
      refine sA_sipush (z := (-1001)) dd_X9_heap_13 (by decide) ?_
      refine sA_iret (z := -1001) dd_X9_heap_16 rfl ?_
      refine ⟨_, rfl, hI, hf, ?_⟩
      exact .inl ⟨.inr (by unfold hp_sh; rw [hw82]; omega), rfl⟩
end
