noncomputable section
theorem gs_tdiv2t (x : Int) (h : -20 ≤ x ∧ x ≤ 20) : -10 ≤ x.tdiv 2 ∧ x.tdiv 2 ≤ 10 := by
  rcases @gs_tdiv2 x with ⟨q, e⟩ | ⟨q, e⟩ <;> rw [e] <;> omega
theorem dd_X9_in_0 : decode cX9_in 0 = .ok (.lload_n 0, 1) := by decide +kernel
theorem dd_X9_in_1 : decode cX9_in 1 = .ok (.lload_n 2, 1) := by decide +kernel
theorem dd_X9_in_2 : decode cX9_in 2 = .ok (.lcmp, 1) := by decide +kernel
theorem dd_X9_in_3 : decode cX9_in 3 = .ok (.ifCond .lt 14, 3) := by decide +kernel
theorem dd_X9_in_6 : decode cX9_in 6 = .ok (.lload_n 0, 1) := by decide +kernel
theorem dd_X9_in_7 : decode cX9_in 7 = .ok (.lload 4, 2) := by decide +kernel
theorem dd_X9_in_9 : decode cX9_in 9 = .ok (.lcmp, 1) := by decide +kernel
theorem dd_X9_in_10 : decode cX9_in 10 = .ok (.ifCond .gt 7, 3) := by decide +kernel
theorem dd_X9_in_13 : decode cX9_in 13 = .ok (.iconst 1, 1) := by decide +kernel
theorem dd_X9_in_14 : decode cX9_in 14 = .ok (.goto 4, 3) := by decide +kernel
theorem dd_X9_in_17 : decode cX9_in 17 = .ok (.iconst 0, 1) := by decide +kernel
theorem dd_X9_in_18 : decode cX9_in 18 = .ok (.ireturn, 1) := by decide +kernel
theorem ok_X9_in : am_okM m_X9_in 3 ∧ Cond.static m_X9_in.1 ∈ am_tbl := ri_mk0 875 93 874 0 (by decide +kernel)
theorem c_X9_in {a b c : Int} {F A : gs_F} (h1 : -4294967296 ≤ a ∧ a ≤ 4294967296) (h2 : -4294967296 ≤ b ∧ b ≤ 4294967296) (h3 : -4294967296 ≤ c ∧ c ≤ 4294967296) : sC m_X9_in 1 [gs_lv a, gs_lv b, gs_lv c] F A (fun rv F' A' => ∃ z : Int, rv = some (gs_iv z) ∧ F = F' ∧ A = A' ∧ ((z = 1 ∧ b ≤ a ∧ a ≤ c) ∨ (z = 0 ∧ (a < b ∨ c < a)))) := by
  refine sC_of ok_X9_in.1 (Nat.le_of_ble_eq_true rfl) ?_
  show sA _ _ _ 0 [(0, gs_lv a), (2, gs_lv b), (4, gs_lv c)] [] F A
  refine sA_lload_n dd_X9_in_0 rfl (.head _) ?_
  refine sA_lload_n dd_X9_in_1 rfl (.tail _ (.head _)) ?_
  refine sA_lcmp dd_X9_in_2 (by omega) (by omega) (fun w1 q2 => ?_)
  refine sA_if_lt (tgt := 17) dd_X9_in_3 (by decide) (by omega) (fun q3 => ?_) (fun q3 => ?_)
  · skip
    refine sA_iconst (z := 0) dd_X9_in_17 ?_
    refine sA_bret (z := 0) dd_X9_in_18 rfl (by omega) ?_
    exact ⟨_, rfl, rfl, rfl, by omega⟩
  · skip
    refine sA_lload_n dd_X9_in_6 rfl (.head _) ?_
    refine sA_lload dd_X9_in_7 (.tail _ (.tail _ (.head _))) ?_
    refine sA_lcmp dd_X9_in_9 (by omega) (by omega) (fun w4 q5 => ?_)
    refine sA_if_gt (tgt := 17) dd_X9_in_10 (by decide) (by omega) (fun q6 => ?_) (fun q6 => ?_)
    · skip
      refine sA_iconst (z := 0) dd_X9_in_17 ?_
      refine sA_bret (z := 0) dd_X9_in_18 rfl (by omega) ?_
      exact ⟨_, rfl, rfl, rfl, by omega⟩
    · skip
      refine sA_iconst (z := 1) dd_X9_in_13 ?_
      refine sA_goto (tgt := 18) dd_X9_in_14 (by decide) ?_
      refine sA_bret (z := 1) dd_X9_in_18 rfl (by omega) ?_
      exact ⟨_, rfl, rfl, rfl, by omega⟩
theorem dd_X9_bit_0 : decode cX9_bit 0 = .ok (.iload_n 0, 1) := by decide +kernel
theorem dd_X9_bit_1 : decode cX9_bit 1 = .ok (.ifCond .eq 7, 3) := by decide +kernel
theorem dd_X9_bit_4 : decode cX9_bit 4 = .ok (.iconst 1, 1) := by decide +kernel
theorem dd_X9_bit_5 : decode cX9_bit 5 = .ok (.goto 4, 3) := by decide +kernel
theorem dd_X9_bit_8 : decode cX9_bit 8 = .ok (.iconst 0, 1) := by decide +kernel
theorem dd_X9_bit_9 : decode cX9_bit 9 = .ok (.ireturn, 1) := by decide +kernel
theorem ok_X9_bit : am_okM m_X9_bit 1 ∧ Cond.static m_X9_bit.1 ∈ am_tbl := ri_mk0 926 93 925 0 (by decide +kernel)
theorem c_X9_bit {b : Int} {F A : gs_F} (hb : b = 0 ∨ b = 1) : sC m_X9_bit 1 [gs_iv b] F A (fun rv F' A' => ∃ z : Int, rv = some (gs_iv z) ∧ F = F' ∧ A = A' ∧ (z = b)) := by
  refine sC_of ok_X9_bit.1 (Nat.le_of_ble_eq_true rfl) ?_
  show sA _ _ _ 0 [(0, gs_iv b)] [] F A
  refine sA_iload_n dd_X9_bit_0 rfl (.head _) ?_
  refine sA_if_eq (tgt := 8) dd_X9_bit_1 (by decide) (by omega) (fun q1 => ?_) (fun q1 => ?_)
  · skip
    refine sA_iconst (z := 0) dd_X9_bit_8 ?_
    refine sA_iret (z := 0) dd_X9_bit_9 rfl ?_
    exact ⟨_, rfl, rfl, rfl, by omega⟩
  · skip
    refine sA_iconst (z := 1) dd_X9_bit_4 ?_
    refine sA_goto (tgt := 9) dd_X9_bit_5 (by decide) ?_
    refine sA_iret (z := 1) dd_X9_bit_9 rfl ?_
    exact ⟨_, rfl, rfl, rfl, by omega⟩
theorem dd_X9_lay_0 : decode cX9_lay 0 = .ok (.aload_n 0, 1) := by decide +kernel
theorem dd_X9_lay_1 : decode cX9_lay 1 = .ok (.iload_n 1, 1) := by decide +kernel
theorem dd_X9_lay_2 : decode cX9_lay 2 = .ok (.putfield 64, 3) := by decide +kernel
theorem dd_X9_lay_5 : decode cX9_lay 5 = .ok (.aload_n 0, 1) := by decide +kernel
theorem dd_X9_lay_6 : decode cX9_lay 6 = .ok (.iconst 0, 1) := by decide +kernel
theorem dd_X9_lay_7 : decode cX9_lay 7 = .ok (.putfield 67, 3) := by decide +kernel
theorem dd_X9_lay_10 : decode cX9_lay 10 = .ok (.aload_n 0, 1) := by decide +kernel
theorem dd_X9_lay_11 : decode cX9_lay 11 = .ok (.iconst 0, 1) := by decide +kernel
theorem dd_X9_lay_12 : decode cX9_lay 12 = .ok (.putfield 70, 3) := by decide +kernel
theorem dd_X9_lay_15 : decode cX9_lay 15 = .ok (.iconst 0, 1) := by decide +kernel
theorem dd_X9_lay_16 : decode cX9_lay 16 = .ok (.istore_n 2, 1) := by decide +kernel
theorem dd_X9_lay_17 : decode cX9_lay 17 = .ok (.iload_n 2, 1) := by decide +kernel
theorem dd_X9_lay_18 : decode cX9_lay 18 = .ok (.bipush 9, 2) := by decide +kernel
theorem dd_X9_lay_20 : decode cX9_lay 20 = .ok (.if_icmp .ge 16, 3) := by decide +kernel
theorem dd_X9_lay_23 : decode cX9_lay 23 = .ok (.aload_n 0, 1) := by decide +kernel
theorem dd_X9_lay_24 : decode cX9_lay 24 = .ok (.getfield 19, 3) := by decide +kernel
theorem dd_X9_lay_27 : decode cX9_lay 27 = .ok (.iload_n 2, 1) := by decide +kernel
theorem dd_X9_lay_28 : decode cX9_lay 28 = .ok (.iconst 0, 1) := by decide +kernel
theorem dd_X9_lay_29 : decode cX9_lay 29 = .ok (.iastore, 1) := by decide +kernel
theorem dd_X9_lay_30 : decode cX9_lay 30 = .ok (.iinc 2 1, 3) := by decide +kernel
theorem dd_X9_lay_33 : decode cX9_lay 33 = .ok (.goto (-16), 3) := by decide +kernel
theorem dd_X9_lay_36 : decode cX9_lay 36 = .ok (.return_, 1) := by decide +kernel
theorem gs_s106 : gs_sh 106 = .inl (9, [none, none, some 107, none, some 108, some 109, some 110, some 111, some 112, none, some 113, none, some 114, none, some 115, none, some 116, none, none, none, none, some 117, none, some 118, none, some 119, some 120, some 121]) := rfl
theorem gs_s110 : gs_sh 110 = .inr (.inl (0, 9)) := rfl
theorem fl_X9_19 : Cond.fieldLink RX9 19 (TX9 6).1 (TX9 6).2.1 (TX9 6).2.2.1 ∈ am_tbl := ri_lw_in (pl := 788) (by decide +kernel)
theorem fl_X9_64 : Cond.fieldLink RX9 64 (TX9 0).1 (TX9 0).2.1 (TX9 0).2.2.1 ∈ am_tbl := ri_lw_in (pl := 782) (by decide +kernel)
theorem fl_X9_67 : Cond.fieldLink RX9 67 (TX9 1).1 (TX9 1).2.1 (TX9 1).2.2.1 ∈ am_tbl := ri_lw_in (pl := 783) (by decide +kernel)
theorem fl_X9_70 : Cond.fieldLink RX9 70 (TX9 3).1 (TX9 3).2.1 (TX9 3).2.2.1 ∈ am_tbl := ri_lw_in (pl := 785) (by decide +kernel)
theorem ok_X9_lay : am_okM m_X9_lay 1 ∧ Cond.instanceMethod m_X9_lay.1 ∈ am_tbl ∧ Cond.selects m_X9_lay.1.cls m_X9_lay.1 m_X9_lay.1 ∈ am_tbl := ri_mk1 781 93 780 29 (by decide +kernel)
theorem k_X9_lay {g : Int} {F A : gs_F} (hI : gs_I F A) (hg : 1 ≤ g ∧ g ≤ 3) : ∀ nN : Nat, (∀ (p : Int)  (F1 A1 : gs_F), gs_I F1 A1 → gs_fr (fun c j => c = 106 ∧ (j = 0 ∨ j = 1 ∨ j = 3)) (fun c => c = 110) F A F1 A1 → 0 ≤ p ∧ p ≤ 9 → F1 106 0 = g ∧ F1 106 1 = 0 ∧ F1 106 3 = 0 → 9 - p < (nN : Int) → sA m_X9_lay 1 (fun rv F' A' => rv = none ∧ gs_I F' A' ∧ gs_fr (fun c j => c = 106 ∧ (j = 0 ∨ j = 1 ∨ j = 3)) (fun c => c = 110) F A F' A' ∧ (F' 106 0 = g ∧ F' 106 1 = 0 ∧ F' 106 3 = 0)) 17 [(2, gs_iv p), (0, .ref 106)] [] F1 A1) := by
  intro nN
  induction nN with
  | zero =>
    exact fun a0 a1 a2 a3 a4 i0 i1 hm => by exfalso; omega
  | succ nN ih =>
    intro p F1 A1 hI1 hf1 i0 i1 hm
    have b1 : (1 : Int) ≤ F1 106 0 ∧ F1 106 0 ≤ 3 := hI1.1 106 0
    have b2 : (0 : Int) ≤ F1 106 1 ∧ F1 106 1 ≤ 60 := hI1.1 106 1
    have b3 : (0 : Int) ≤ F1 106 3 ∧ F1 106 3 ≤ 12 := hI1.1 106 3
    refine sA_iload_n dd_X9_lay_17 rfl (.head _) ?_
    refine sA_bipush (z := 9) dd_X9_lay_18 (by decide) ?_
    refine sA_icmp_ge (tgt := 36) dd_X9_lay_20 (by decide) (by omega) (by omega) (fun q4 => ?_) (fun q4 => ?_)
    · skip
      refine sA_vret dd_X9_lay_36 rfl ?_
      exact ⟨rfl, hI1, hf1, by omega⟩
    · skip
      refine sA_aload_n dd_X9_lay_23 rfl (.tail _ (.head _)) ?_
      refine sA_getr (ci := 9) (j := 6) (q := (RX9, TX9, 28)) dd_X9_lay_24 rfl (by decide) fl_X9_19 (by decide) gs_s106 rfl ?_
      refine sA_iload_n dd_X9_lay_27 rfl (.head _) ?_
      refine sA_iconst (z := 0) dd_X9_lay_28 ?_
      refine sA_iast (n := 9) dd_X9_lay_29 (by decide) gs_s110 (by omega) (by decide) ?_
      have I6 : gs_I F1 (gs_up A1 110 p.toNat 0) := gs_I_ast hI1 (show (0 : Int) ≤ 0 ∧ 0 ≤ 60 by omega)
      have f7 := gs_fr_ast hf1 (a := 110) (z := 0) (i := p.toNat) (by first | omega | (dsimp only; omega) | (dsimp only))
      generalize gs_up A1 110 p.toNat 0 = A5 at I6 f7 ⊢
      refine sA_iinc (lv' := [(2, gs_iv (p + 1)), (0, .ref 106)]) dd_X9_lay_30 (.head _) (by decide) rfl ?_
      refine sA_goto (tgt := 17) dd_X9_lay_33 (by decide) ?_
      refine sA_sub (lv2 := [(2, gs_iv (p + 1)), (0, .ref 106)]) (List.forall_mem_cons.mpr ⟨(.head _), (List.forall_mem_cons.mpr ⟨(.tail _ (.head _)), (fun _ h => absurd h List.not_mem_nil)⟩)⟩) ?_
      exact ih (p + 1) F1 A5 I6 f7 (by omega) (by omega) (by omega)
theorem c_X9_lay {g : Int} {F A : gs_F} (hI : gs_I F A) (hg : 1 ≤ g ∧ g ≤ 3) : sC m_X9_lay 1 [.ref 106, gs_iv g] F A (fun rv F' A' => rv = none ∧ gs_I F' A' ∧ gs_fr (fun c j => c = 106 ∧ (j = 0 ∨ j = 1 ∨ j = 3)) (fun c => c = 110) F A F' A' ∧ (F' 106 0 = g ∧ F' 106 1 = 0 ∧ F' 106 3 = 0)) := by
  refine sC_of ok_X9_lay.1 (Nat.le_of_ble_eq_true rfl) ?_
  show sA _ _ _ 0 [(0, .ref 106), (1, gs_iv g)] [] F A
  have hf : gs_fr (fun c j => c = 106 ∧ (j = 0 ∨ j = 1 ∨ j = 3)) (fun c => c = 110) F A F A := gs_fr_refl _ _ _ _
  have b8 : (1 : Int) ≤ F 106 0 ∧ F 106 0 ≤ 3 := hI.1 106 0
  have b9 : (0 : Int) ≤ F 106 1 ∧ F 106 1 ≤ 60 := hI.1 106 1
  have b10 : (0 : Int) ≤ F 106 3 ∧ F 106 3 ≤ 12 := hI.1 106 3
  refine sA_aload_n dd_X9_lay_0 rfl (.head _) ?_
  refine sA_iload_n dd_X9_lay_1 rfl (.tail _ (.head _)) ?_
  refine sA_put (ci := 9) (j := 0) (q := (RX9, TX9, 28)) (ty := .int) dd_X9_lay_2 rfl (by decide) fl_X9_64 rfl (tyX9_ok 0 (by decide)) rfl rfl (by decide) gs_s106 rfl ?_
  have I12 : gs_I (gs_up F 106 0 g) A := gs_I_put hI (show (1 : Int) ≤ g ∧ g ≤ 3 by omega)
  have f13 := gs_fr_put hf (a := 106) (z := g) (j := 0) (by first | omega | (dsimp only; omega) | (dsimp only))
  have v14 : gs_up F 106 0 g 106 0 = g := gs_up_self _ _ _ _
  have v15 : (gs_up F 106 0 g) 106 1 = F 106 1 := gs_up_ne _ _ (by omega)
  have v16 : (gs_up F 106 0 g) 106 3 = F 106 3 := gs_up_ne _ _ (by omega)
  generalize gs_up F 106 0 g = F11 at I12 f13 v14 v15 v16 ⊢
  refine sA_aload_n dd_X9_lay_5 rfl (.head _) ?_
  refine sA_iconst (z := 0) dd_X9_lay_6 ?_
  refine sA_put (ci := 9) (j := 1) (q := (RX9, TX9, 28)) (ty := .int) dd_X9_lay_7 rfl (by decide) fl_X9_67 rfl (tyX9_ok 1 (by decide)) rfl rfl (by decide) gs_s106 rfl ?_
  have I18 : gs_I (gs_up F11 106 1 0) A := gs_I_put I12 (show (0 : Int) ≤ 0 ∧ 0 ≤ 60 by omega)
  have f19 := gs_fr_put f13 (a := 106) (z := 0) (j := 1) (by first | omega | (dsimp only; omega) | (dsimp only))
  have v20 : gs_up F11 106 1 0 106 1 = 0 := gs_up_self _ _ _ _
  have v21 : (gs_up F11 106 1 0) 106 0 = F11 106 0 := gs_up_ne _ _ (by omega)
  have v22 : (gs_up F11 106 1 0) 106 3 = F11 106 3 := gs_up_ne _ _ (by omega)
  generalize gs_up F11 106 1 0 = F17 at I18 f19 v20 v21 v22 ⊢
  refine sA_aload_n dd_X9_lay_10 rfl (.head _) ?_
  refine sA_iconst (z := 0) dd_X9_lay_11 ?_
  refine sA_put (ci := 9) (j := 3) (q := (RX9, TX9, 28)) (ty := .int) dd_X9_lay_12 rfl (by decide) fl_X9_70 rfl (tyX9_ok 3 (by decide)) rfl rfl (by decide) gs_s106 rfl ?_
  have I24 : gs_I (gs_up F17 106 3 0) A := gs_I_put I18 (show (0 : Int) ≤ 0 ∧ 0 ≤ 12 by omega)
  have f25 := gs_fr_put f19 (a := 106) (z := 0) (j := 3) (by first | omega | (dsimp only; omega) | (dsimp only))
  have v26 : gs_up F17 106 3 0 106 3 = 0 := gs_up_self _ _ _ _
  have v27 : (gs_up F17 106 3 0) 106 0 = F17 106 0 := gs_up_ne _ _ (by omega)
  have v28 : (gs_up F17 106 3 0) 106 1 = F17 106 1 := gs_up_ne _ _ (by omega)
  generalize gs_up F17 106 3 0 = F23 at I24 f25 v26 v27 v28 ⊢
  refine sA_iconst (z := 0) dd_X9_lay_15 ?_
  refine sA_istore_n (lv' := [(2, gs_iv 0), (0, .ref 106), (1, gs_iv g)]) dd_X9_lay_16 rfl (by decide) rfl ?_
  have b29 : (1 : Int) ≤ F23 106 0 ∧ F23 106 0 ≤ 3 := I24.1 106 0
  have b30 : (0 : Int) ≤ F23 106 1 ∧ F23 106 1 ≤ 60 := I24.1 106 1
  have b31 : (0 : Int) ≤ F23 106 3 ∧ F23 106 3 ≤ 12 := I24.1 106 3
  refine sA_sub (lv2 := [(2, gs_iv 0), (0, .ref 106)]) (List.forall_mem_cons.mpr ⟨(.head _), (List.forall_mem_cons.mpr ⟨(.tail _ (.head _)), (fun _ h => absurd h List.not_mem_nil)⟩)⟩) ?_
  exact (k_X9_lay hI hg (9 - 0 : Int).toNat.succ) 0 F23 A I24 f25 (by omega) (by omega) (by omega)
theorem dd_X9_skin_0 : decode cX9_skin 0 = .ok (.iload_n 1, 1) := by decide +kernel
theorem dd_X9_skin_1 : decode cX9_skin 1 = .ok (.i2l, 1) := by decide +kernel
theorem dd_X9_skin_2 : decode cX9_skin 2 = .ok (.lconst 1, 1) := by decide +kernel
theorem dd_X9_skin_3 : decode cX9_skin 3 = .ok (.ldc2_w 73, 3) := by decide +kernel
theorem dd_X9_skin_6 : decode cX9_skin 6 = .ok (.invokestatic 75, 3) := by decide +kernel
theorem dd_X9_skin_9 : decode cX9_skin 9 = .ok (.ifCond .ne 7, 3) := by decide +kernel
theorem dd_X9_skin_12 : decode cX9_skin 12 = .ok (.sipush (-1002), 3) := by decide +kernel
theorem dd_X9_skin_15 : decode cX9_skin 15 = .ok (.ireturn, 1) := by decide +kernel
theorem dd_X9_skin_16 : decode cX9_skin 16 = .ok (.aload_n 0, 1) := by decide +kernel
theorem dd_X9_skin_17 : decode cX9_skin 17 = .ok (.iload_n 1, 1) := by decide +kernel
theorem dd_X9_skin_18 : decode cX9_skin 18 = .ok (.invokevirtual 60, 3) := by decide +kernel
theorem dd_X9_skin_21 : decode cX9_skin 21 = .ok (.iconst 2, 1) := by decide +kernel
theorem dd_X9_skin_22 : decode cX9_skin 22 = .ok (.aload_n 0, 1) := by decide +kernel
theorem dd_X9_skin_23 : decode cX9_skin 23 = .ok (.getfield 64, 3) := by decide +kernel
theorem dd_X9_skin_26 : decode cX9_skin 26 = .ok (.imul, 1) := by decide +kernel
theorem dd_X9_skin_27 : decode cX9_skin 27 = .ok (.ireturn, 1) := by decide +kernel
theorem ml_X9_60 : Cond.methodLink RX9 60 m_X9_lay.1 ∈ am_tbl := ri_lw_in (pl := 778) (by decide +kernel)
theorem ml_X9_75 : Cond.methodLink RX9 75 m_X9_in.1 ∈ am_tbl := ri_lw_in (pl := 873) (by decide +kernel)
theorem ok_X9_skin : am_okM m_X9_skin 1 ∧ Cond.instanceMethod m_X9_skin.1 ∈ am_tbl ∧ Cond.selects m_X9_skin.1.cls m_X9_skin.1 m_X9_skin.1 ∈ am_tbl := ri_mk1 871 93 869 870 (by decide +kernel)
theorem c_X9_skin {g : Int} {F A : gs_F} (hI : gs_I F A) (hg : -2147483648 ≤ g ∧ g ≤ 2147483647) : sC m_X9_skin 2 [.ref 106, gs_iv g] F A (fun rv F' A' => ∃ z : Int, rv = some (gs_iv z) ∧ gs_I F' A' ∧ gs_fr (fun c j => c = 106 ∧ (j = 0 ∨ j = 1 ∨ j = 3)) (fun c => c = 110) F A F' A' ∧ ((1 ≤ g ∧ g ≤ 3 ∧ z = 2 * g ∧ F' 106 0 = g ∧ F' 106 1 = 0 ∧ F' 106 3 = 0) ∨ ((g < 1 ∨ 3 < g) ∧ z = -1002 ∧ F' 106 0 = F 106 0 ∧ F' 106 1 = F 106 1 ∧ F' 106 3 = F 106 3))) := by
  refine sC_of ok_X9_skin.1 (Nat.le_of_ble_eq_true rfl) ?_
  show sA _ _ _ 0 [(0, .ref 106), (1, gs_iv g)] [] F A
  have hf : gs_fr (fun c j => c = 106 ∧ (j = 0 ∨ j = 1 ∨ j = 3)) (fun c => c = 110) F A F A := gs_fr_refl _ _ _ _
  refine sA_iload_n dd_X9_skin_0 rfl (.tail _ (.head _)) ?_
  refine sA_i2l dd_X9_skin_1 (by omega) ?_
  refine sA_lconst (z := 1) dd_X9_skin_2 (by decide) ?_
  refine sA_ldc2 (z := 3) dd_X9_skin_3 (ri_lw_in (pl := 872) (by decide +kernel)) ?_
  refine sA_callS (y2 := m_X9_in) (n2 := 3) (d2 := 1) (as := [gs_lv g, gs_lv 1, gs_lv 3]) (rest := []) dd_X9_skin_6 ok_X9_in ml_X9_75 rfl rfl (Nat.le_of_ble_eq_true rfl) (by decide) (c_X9_in (by omega) (by omega) (by omega)) (fun r1 F2 A3 h4 => ?_)
  obtain ⟨z7, e6, e8, e9, x5⟩ := h4
  subst e6 e8 e9
  show sA _ _ _ 9 _ [gs_iv z7] _ _
  refine sA_if_ne (tgt := 16) dd_X9_skin_9 (by decide) (by omega) (fun q10 => ?_) (fun q10 => ?_)
  · skip
    refine sA_aload_n dd_X9_skin_16 rfl (.head _) ?_
    refine sA_iload_n dd_X9_skin_17 rfl (.tail _ (.head _)) ?_
    refine sA_callV (y2 := m_X9_lay) (n2 := 1) (d2 := 1) (a := 106) (ci := 9) (q := (RX9, TX9, 28)) (as := [gs_iv g]) (rest := []) dd_X9_skin_18 ok_X9_lay ml_X9_60 rfl rfl (by decide) gs_s106 rfl rfl (Nat.le_of_ble_eq_true rfl) (by decide) (c_X9_lay hI (by omega)) (fun r11 F12 A13 h14 => ?_)
    obtain ⟨e16, I17, f18, x15⟩ := h14
    subst e16
    have f19 := gs_fr_tr hf f18 (fun b j h => by first | exact False.elim h | omega | (dsimp only at h ⊢; omega)) (fun b h => by first | exact False.elim h | omega | (dsimp only at h ⊢; omega))
    show sA _ _ _ 21 _ [] _ _
    refine sA_iconst (z := 2) dd_X9_skin_21 ?_
    refine sA_aload_n dd_X9_skin_22 rfl (.head _) ?_
    refine sA_geti (ci := 9) (j := 0) (q := (RX9, TX9, 28)) dd_X9_skin_23 rfl (by decide) fl_X9_64 (by decide) gs_s106 rfl ?_
    have b20 : (1 : Int) ≤ F12 106 0 ∧ F12 106 0 ≤ 3 := I17.1 106 0
    refine sA_imul dd_X9_skin_26 ?_
    refine sA_iret (z := 2 * (F12 106 0)) dd_X9_skin_27 rfl ?_
    exact ⟨_, rfl, I17, f19, by omega⟩
  · skip
    refine sA_sipush (z := (-1002)) dd_X9_skin_12 (by decide) ?_
    refine sA_iret (z := -1002) dd_X9_skin_15 rfl ?_
    exact ⟨_, rfl, hI, hf, by omega⟩
theorem dd_X9_twists_0 : decode cX9_twists 0 = .ok (.iconst 3, 1) := by decide +kernel
theorem dd_X9_twists_1 : decode cX9_twists 1 = .ok (.aload_n 0, 1) := by decide +kernel
theorem dd_X9_twists_2 : decode cX9_twists 2 = .ok (.getfield 64, 3) := by decide +kernel
theorem dd_X9_twists_5 : decode cX9_twists 5 = .ok (.imul, 1) := by decide +kernel
theorem dd_X9_twists_6 : decode cX9_twists 6 = .ok (.iconst 1, 1) := by decide +kernel
theorem dd_X9_twists_7 : decode cX9_twists 7 = .ok (.isub, 1) := by decide +kernel
theorem dd_X9_twists_8 : decode cX9_twists 8 = .ok (.ireturn, 1) := by decide +kernel
theorem ok_X9_twists : am_okM m_X9_twists 0 ∧ Cond.instanceMethod m_X9_twists.1 ∈ am_tbl ∧ Cond.selects m_X9_twists.1.cls m_X9_twists.1 m_X9_twists.1 ∈ am_tbl := ri_mk1 1180 93 1179 75 (by decide +kernel)
theorem c_X9_twists  {F A : gs_F} (hI : gs_I F A)  : sC m_X9_twists 1 [.ref 106] F A (fun rv F' A' => ∃ z : Int, rv = some (gs_iv z) ∧ F = F' ∧ A = A' ∧ (z = 3 * F 106 0 - 1)) := by
  refine sC_of ok_X9_twists.1 (Nat.le_of_ble_eq_true rfl) ?_
  show sA _ _ _ 0 [(0, .ref 106)] [] F A
  refine sA_iconst (z := 3) dd_X9_twists_0 ?_
  refine sA_aload_n dd_X9_twists_1 rfl (.head _) ?_
  refine sA_geti (ci := 9) (j := 0) (q := (RX9, TX9, 28)) dd_X9_twists_2 rfl (by decide) fl_X9_64 (by decide) gs_s106 rfl ?_
  have b1 : (1 : Int) ≤ F 106 0 ∧ F 106 0 ≤ 3 := hI.1 106 0
  refine sA_imul dd_X9_twists_5 ?_
  refine sA_iconst (z := 1) dd_X9_twists_6 ?_
  refine sA_isub dd_X9_twists_7 ?_
  refine sA_iret (z := (3 * (F 106 0)) - 1) dd_X9_twists_8 rfl ?_
  exact ⟨_, rfl, rfl, rfl, by omega⟩
theorem dd_X9_isLetter_0 : decode cX9_isLetter 0 = .ok (.iload_n 1, 1) := by decide +kernel
theorem dd_X9_isLetter_1 : decode cX9_isLetter 1 = .ok (.ifCond .eq 30, 3) := by decide +kernel
theorem dd_X9_isLetter_4 : decode cX9_isLetter 4 = .ok (.iload_n 1, 1) := by decide +kernel
theorem dd_X9_isLetter_5 : decode cX9_isLetter 5 = .ok (.i2l, 1) := by decide +kernel
theorem dd_X9_isLetter_6 : decode cX9_isLetter 6 = .ok (.bipush (-2), 2) := by decide +kernel
theorem dd_X9_isLetter_8 : decode cX9_isLetter 8 = .ok (.aload_n 0, 1) := by decide +kernel
theorem dd_X9_isLetter_9 : decode cX9_isLetter 9 = .ok (.getfield 64, 3) := by decide +kernel
theorem dd_X9_isLetter_12 : decode cX9_isLetter 12 = .ok (.imul, 1) := by decide +kernel
theorem dd_X9_isLetter_13 : decode cX9_isLetter 13 = .ok (.i2l, 1) := by decide +kernel
theorem dd_X9_isLetter_14 : decode cX9_isLetter 14 = .ok (.iconst 2, 1) := by decide +kernel
theorem dd_X9_isLetter_15 : decode cX9_isLetter 15 = .ok (.aload_n 0, 1) := by decide +kernel
theorem dd_X9_isLetter_16 : decode cX9_isLetter 16 = .ok (.getfield 64, 3) := by decide +kernel
theorem dd_X9_isLetter_19 : decode cX9_isLetter 19 = .ok (.imul, 1) := by decide +kernel
theorem dd_X9_isLetter_20 : decode cX9_isLetter 20 = .ok (.i2l, 1) := by decide +kernel
theorem dd_X9_isLetter_21 : decode cX9_isLetter 21 = .ok (.invokestatic 75, 3) := by decide +kernel
theorem dd_X9_isLetter_24 : decode cX9_isLetter 24 = .ok (.ifCond .eq 7, 3) := by decide +kernel
theorem dd_X9_isLetter_27 : decode cX9_isLetter 27 = .ok (.iconst 1, 1) := by decide +kernel
theorem dd_X9_isLetter_28 : decode cX9_isLetter 28 = .ok (.goto 4, 3) := by decide +kernel
theorem dd_X9_isLetter_31 : decode cX9_isLetter 31 = .ok (.iconst 0, 1) := by decide +kernel
theorem dd_X9_isLetter_32 : decode cX9_isLetter 32 = .ok (.ireturn, 1) := by decide +kernel
theorem ok_X9_isLetter : am_okM m_X9_isLetter 1 ∧ Cond.instanceMethod m_X9_isLetter.1 ∈ am_tbl ∧ Cond.selects m_X9_isLetter.1.cls m_X9_isLetter.1 m_X9_isLetter.1 ∈ am_tbl := ri_mk1 883 93 882 30 (by decide +kernel)
theorem c_X9_isLetter {x : Int} {F A : gs_F} (hI : gs_I F A) (hx : -2147483648 ≤ x ∧ x ≤ 2147483647) : sC m_X9_isLetter 2 [.ref 106, gs_iv x] F A (fun rv F' A' => ∃ z : Int, rv = some (gs_iv z) ∧ F = F' ∧ A = A' ∧ ((z = 1 ∧ x ≠ 0 ∧ -2 * F 106 0 ≤ x ∧ x ≤ 2 * F 106 0 ∧ -6 ≤ x ∧ x ≤ 6) ∨ (z = 0 ∧ (x = 0 ∨ x < -2 * F 106 0 ∨ 2 * F 106 0 < x)))) := by
  refine sC_of ok_X9_isLetter.1 (Nat.le_of_ble_eq_true rfl) ?_
  show sA _ _ _ 0 [(0, .ref 106), (1, gs_iv x)] [] F A
  refine sA_iload_n dd_X9_isLetter_0 rfl (.tail _ (.head _)) ?_
  refine sA_if_eq (tgt := 31) dd_X9_isLetter_1 (by decide) (by omega) (fun q1 => ?_) (fun q1 => ?_)
  · skip
    refine sA_iconst (z := 0) dd_X9_isLetter_31 ?_
    refine sA_bret (z := 0) dd_X9_isLetter_32 rfl (by omega) ?_
    exact ⟨_, rfl, rfl, rfl, by omega⟩
  · skip
    refine sA_iload_n dd_X9_isLetter_4 rfl (.tail _ (.head _)) ?_
    refine sA_i2l dd_X9_isLetter_5 (by omega) ?_
    refine sA_bipush (z := (-2)) dd_X9_isLetter_6 (by decide) ?_
    refine sA_aload_n dd_X9_isLetter_8 rfl (.head _) ?_
    refine sA_geti (ci := 9) (j := 0) (q := (RX9, TX9, 28)) dd_X9_isLetter_9 rfl (by decide) fl_X9_64 (by decide) gs_s106 rfl ?_
    have b2 : (1 : Int) ≤ F 106 0 ∧ F 106 0 ≤ 3 := hI.1 106 0
    refine sA_imul dd_X9_isLetter_12 ?_
    refine sA_i2l dd_X9_isLetter_13 (by omega) ?_
    refine sA_iconst (z := 2) dd_X9_isLetter_14 ?_
    refine sA_aload_n dd_X9_isLetter_15 rfl (.head _) ?_
    refine sA_geti (ci := 9) (j := 0) (q := (RX9, TX9, 28)) dd_X9_isLetter_16 rfl (by decide) fl_X9_64 (by decide) gs_s106 rfl ?_
    refine sA_imul dd_X9_isLetter_19 ?_
    refine sA_i2l dd_X9_isLetter_20 (by omega) ?_
    refine sA_callS (y2 := m_X9_in) (n2 := 3) (d2 := 1) (as := [gs_lv x, gs_lv ((-2) * (F 106 0)), gs_lv (2 * (F 106 0))]) (rest := []) dd_X9_isLetter_21 ok_X9_in ml_X9_75 rfl rfl (Nat.le_of_ble_eq_true rfl) (by decide) (c_X9_in (by omega) (by omega) (by omega)) (fun r3 F4 A5 h6 => ?_)
    obtain ⟨z9, e8, e10, e11, x7⟩ := h6
    subst e8 e10 e11
    show sA _ _ _ 24 _ [gs_iv z9] _ _
    refine sA_if_eq (tgt := 31) dd_X9_isLetter_24 (by decide) (by omega) (fun q12 => ?_) (fun q12 => ?_)
    · skip
      refine sA_iconst (z := 0) dd_X9_isLetter_31 ?_
      refine sA_bret (z := 0) dd_X9_isLetter_32 rfl (by omega) ?_
      exact ⟨_, rfl, rfl, rfl, by omega⟩
    · skip
      refine sA_iconst (z := 1) dd_X9_isLetter_27 ?_
      refine sA_goto (tgt := 32) dd_X9_isLetter_28 (by decide) ?_
      refine sA_bret (z := 1) dd_X9_isLetter_32 rfl (by omega) ?_
      exact ⟨_, rfl, rfl, rfl, by omega⟩
theorem dd_X9_letter_0 : decode cX9_letter 0 = .ok (.aload_n 0, 1) := by decide +kernel
theorem dd_X9_letter_1 : decode cX9_letter 1 = .ok (.iload_n 1, 1) := by decide +kernel
theorem dd_X9_letter_2 : decode cX9_letter 2 = .ok (.invokevirtual 79, 3) := by decide +kernel
theorem dd_X9_letter_5 : decode cX9_letter 5 = .ok (.ifCond .ne 7, 3) := by decide +kernel
theorem dd_X9_letter_8 : decode cX9_letter 8 = .ok (.sipush (-1002), 3) := by decide +kernel
theorem dd_X9_letter_11 : decode cX9_letter 11 = .ok (.ireturn, 1) := by decide +kernel
theorem dd_X9_letter_12 : decode cX9_letter 12 = .ok (.aload_n 0, 1) := by decide +kernel
theorem dd_X9_letter_13 : decode cX9_letter 13 = .ok (.getfield 67, 3) := by decide +kernel
theorem dd_X9_letter_16 : decode cX9_letter 16 = .ok (.bipush 60, 2) := by decide +kernel
theorem dd_X9_letter_18 : decode cX9_letter 18 = .ok (.if_icmp .ne 7, 3) := by decide +kernel
theorem dd_X9_letter_21 : decode cX9_letter 21 = .ok (.sipush (-1004), 3) := by decide +kernel
theorem dd_X9_letter_24 : decode cX9_letter 24 = .ok (.ireturn, 1) := by decide +kernel
theorem dd_X9_letter_25 : decode cX9_letter 25 = .ok (.aload_n 0, 1) := by decide +kernel
theorem dd_X9_letter_26 : decode cX9_letter 26 = .ok (.getfield 67, 3) := by decide +kernel
theorem dd_X9_letter_29 : decode cX9_letter 29 = .ok (.ifCond .le 33, 3) := by decide +kernel
theorem dd_X9_letter_32 : decode cX9_letter 32 = .ok (.aload_n 0, 1) := by decide +kernel
theorem dd_X9_letter_33 : decode cX9_letter 33 = .ok (.getfield 7, 3) := by decide +kernel
theorem dd_X9_letter_36 : decode cX9_letter 36 = .ok (.aload_n 0, 1) := by decide +kernel
theorem dd_X9_letter_37 : decode cX9_letter 37 = .ok (.getfield 67, 3) := by decide +kernel
theorem dd_X9_letter_40 : decode cX9_letter 40 = .ok (.iconst 1, 1) := by decide +kernel
theorem dd_X9_letter_41 : decode cX9_letter 41 = .ok (.isub, 1) := by decide +kernel
theorem dd_X9_letter_42 : decode cX9_letter 42 = .ok (.iaload, 1) := by decide +kernel
theorem dd_X9_letter_43 : decode cX9_letter 43 = .ok (.iconst 0, 1) := by decide +kernel
theorem dd_X9_letter_44 : decode cX9_letter 44 = .ok (.iload_n 1, 1) := by decide +kernel
theorem dd_X9_letter_45 : decode cX9_letter 45 = .ok (.isub, 1) := by decide +kernel
theorem dd_X9_letter_46 : decode cX9_letter 46 = .ok (.if_icmp .ne 16, 3) := by decide +kernel
theorem dd_X9_letter_49 : decode cX9_letter 49 = .ok (.aload_n 0, 1) := by decide +kernel
theorem dd_X9_letter_50 : decode cX9_letter 50 = .ok (.dup, 1) := by decide +kernel
theorem dd_X9_letter_51 : decode cX9_letter 51 = .ok (.getfield 67, 3) := by decide +kernel
theorem dd_X9_letter_54 : decode cX9_letter 54 = .ok (.iconst 1, 1) := by decide +kernel
theorem dd_X9_letter_55 : decode cX9_letter 55 = .ok (.isub, 1) := by decide +kernel
theorem dd_X9_letter_56 : decode cX9_letter 56 = .ok (.putfield 67, 3) := by decide +kernel
theorem dd_X9_letter_59 : decode cX9_letter 59 = .ok (.goto 23, 3) := by decide +kernel
theorem dd_X9_letter_62 : decode cX9_letter 62 = .ok (.aload_n 0, 1) := by decide +kernel
theorem dd_X9_letter_63 : decode cX9_letter 63 = .ok (.getfield 7, 3) := by decide +kernel
theorem dd_X9_letter_66 : decode cX9_letter 66 = .ok (.aload_n 0, 1) := by decide +kernel
theorem dd_X9_letter_67 : decode cX9_letter 67 = .ok (.getfield 67, 3) := by decide +kernel
theorem dd_X9_letter_70 : decode cX9_letter 70 = .ok (.iload_n 1, 1) := by decide +kernel
theorem dd_X9_letter_71 : decode cX9_letter 71 = .ok (.iastore, 1) := by decide +kernel
theorem dd_X9_letter_72 : decode cX9_letter 72 = .ok (.aload_n 0, 1) := by decide +kernel
theorem dd_X9_letter_73 : decode cX9_letter 73 = .ok (.dup, 1) := by decide +kernel
theorem dd_X9_letter_74 : decode cX9_letter 74 = .ok (.getfield 67, 3) := by decide +kernel
theorem dd_X9_letter_77 : decode cX9_letter 77 = .ok (.iconst 1, 1) := by decide +kernel
theorem dd_X9_letter_78 : decode cX9_letter 78 = .ok (.iadd, 1) := by decide +kernel
theorem dd_X9_letter_79 : decode cX9_letter 79 = .ok (.putfield 67, 3) := by decide +kernel
theorem dd_X9_letter_82 : decode cX9_letter 82 = .ok (.aload_n 0, 1) := by decide +kernel
theorem dd_X9_letter_83 : decode cX9_letter 83 = .ok (.getfield 67, 3) := by decide +kernel
theorem dd_X9_letter_86 : decode cX9_letter 86 = .ok (.ireturn, 1) := by decide +kernel
theorem gs_s107 : gs_sh 107 = .inr (.inl (0, 60)) := rfl
theorem fl_X9_7 : Cond.fieldLink RX9 7 (TX9 2).1 (TX9 2).2.1 (TX9 2).2.2.1 ∈ am_tbl := ri_lw_in (pl := 784) (by decide +kernel)
theorem ml_X9_79 : Cond.methodLink RX9 79 m_X9_isLetter.1 ∈ am_tbl := ri_lw_in (pl := 880) (by decide +kernel)
theorem ok_X9_letter : am_okM m_X9_letter 1 ∧ Cond.instanceMethod m_X9_letter.1 ∈ am_tbl ∧ Cond.selects m_X9_letter.1.cls m_X9_letter.1 m_X9_letter.1 ∈ am_tbl := ri_mk1 879 93 877 878 (by decide +kernel)
theorem c_X9_letter {x : Int} {F A : gs_F} (hI : gs_I F A) (hx : -2147483648 ≤ x ∧ x ≤ 2147483647) : sC m_X9_letter 3 [.ref 106, gs_iv x] F A (fun rv F' A' => ∃ z : Int, rv = some (gs_iv z) ∧ gs_I F' A' ∧ gs_fr (fun c j => c = 106 ∧ j = 1) (fun c => c = 107) F A F' A' ∧ (True)) := by
  refine sC_of ok_X9_letter.1 (Nat.le_of_ble_eq_true rfl) ?_
  show sA _ _ _ 0 [(0, .ref 106), (1, gs_iv x)] [] F A
  have hf : gs_fr (fun c j => c = 106 ∧ j = 1) (fun c => c = 107) F A F A := gs_fr_refl _ _ _ _
  have b1 : (0 : Int) ≤ F 106 1 ∧ F 106 1 ≤ 60 := hI.1 106 1
  refine sA_aload_n dd_X9_letter_0 rfl (.head _) ?_
  refine sA_iload_n dd_X9_letter_1 rfl (.tail _ (.head _)) ?_
  refine sA_callV (y2 := m_X9_isLetter) (n2 := 1) (d2 := 2) (a := 106) (ci := 9) (q := (RX9, TX9, 28)) (as := [gs_iv x]) (rest := []) dd_X9_letter_2 ok_X9_isLetter ml_X9_79 rfl rfl (by decide) gs_s106 rfl rfl (Nat.le_of_ble_eq_true rfl) (by decide) (c_X9_isLetter hI (by omega)) (fun r2 F3 A4 h5 => ?_)
  obtain ⟨z8, e7, e9, e10, x6⟩ := h5
  subst e7 e9 e10
  show sA _ _ _ 5 _ [gs_iv z8] _ _
  refine sA_if_ne (tgt := 12) dd_X9_letter_5 (by decide) (by omega) (fun q11 => ?_) (fun q11 => ?_)
  · skip
    refine sA_aload_n dd_X9_letter_12 rfl (.head _) ?_
    refine sA_geti (ci := 9) (j := 1) (q := (RX9, TX9, 28)) dd_X9_letter_13 rfl (by decide) fl_X9_67 (by decide) gs_s106 rfl ?_
    refine sA_bipush (z := 60) dd_X9_letter_16 (by decide) ?_
    refine sA_icmp_ne (tgt := 25) dd_X9_letter_18 (by decide) (by omega) (by omega) (fun q12 => ?_) (fun q12 => ?_)
    · skip
      refine sA_aload_n dd_X9_letter_25 rfl (.head _) ?_
      refine sA_geti (ci := 9) (j := 1) (q := (RX9, TX9, 28)) dd_X9_letter_26 rfl (by decide) fl_X9_67 (by decide) gs_s106 rfl ?_
      refine sA_if_le (tgt := 62) dd_X9_letter_29 (by decide) (by omega) (fun q13 => ?_) (fun q13 => ?_)
      · skip
        refine sA_aload_n dd_X9_letter_62 rfl (.head _) ?_
        refine sA_getr (ci := 9) (j := 2) (q := (RX9, TX9, 28)) dd_X9_letter_63 rfl (by decide) fl_X9_7 (by decide) gs_s106 rfl ?_
        refine sA_aload_n dd_X9_letter_66 rfl (.head _) ?_
        refine sA_geti (ci := 9) (j := 1) (q := (RX9, TX9, 28)) dd_X9_letter_67 rfl (by decide) fl_X9_67 (by decide) gs_s106 rfl ?_
        refine sA_iload_n dd_X9_letter_70 rfl (.tail _ (.head _)) ?_
        refine sA_iast (n := 60) dd_X9_letter_71 (by decide) gs_s107 (by omega) (by decide) ?_
        have I15 : gs_I F (gs_up A 107 ((F 106 1).toNat) x) := gs_I_ast hI (show (-9 : Int) ≤ x ∧ x ≤ 9 by omega)
        have f16 := gs_fr_ast hf (a := 107) (z := x) (i := (F 106 1).toNat) (by first | omega | (dsimp only; omega) | (dsimp only))
        generalize gs_up A 107 ((F 106 1).toNat) x = A14 at I15 f16 ⊢
        refine sA_aload_n dd_X9_letter_72 rfl (.head _) ?_
        refine sA_dup dd_X9_letter_73 rfl ?_
        refine sA_geti (ci := 9) (j := 1) (q := (RX9, TX9, 28)) dd_X9_letter_74 rfl (by decide) fl_X9_67 (by decide) gs_s106 rfl ?_
        refine sA_iconst (z := 1) dd_X9_letter_77 ?_
        refine sA_iadd dd_X9_letter_78 ?_
        refine sA_put (ci := 9) (j := 1) (q := (RX9, TX9, 28)) (ty := .int) dd_X9_letter_79 rfl (by decide) fl_X9_67 rfl (tyX9_ok 1 (by decide)) rfl rfl (by decide) gs_s106 rfl ?_
        have I18 : gs_I (gs_up F 106 1 ((F 106 1) + 1)) A14 := gs_I_put I15 (show (0 : Int) ≤ (F 106 1) + 1 ∧ (F 106 1) + 1 ≤ 60 by omega)
        have f19 := gs_fr_put f16 (a := 106) (z := (F 106 1) + 1) (j := 1) (by first | omega | (dsimp only; omega) | (dsimp only))
        have v20 : gs_up F 106 1 ((F 106 1) + 1) 106 1 = (F 106 1) + 1 := gs_up_self _ _ _ _
        generalize gs_up F 106 1 ((F 106 1) + 1) = F17 at I18 f19 v20 ⊢
        refine sA_aload_n dd_X9_letter_82 rfl (.head _) ?_
        refine sA_geti (ci := 9) (j := 1) (q := (RX9, TX9, 28)) dd_X9_letter_83 rfl (by decide) fl_X9_67 (by decide) gs_s106 rfl ?_
        have b21 : (0 : Int) ≤ F17 106 1 ∧ F17 106 1 ≤ 60 := I18.1 106 1
        refine sA_iret (z := F17 106 1) dd_X9_letter_86 rfl ?_
        exact ⟨_, rfl, I18, f19, trivial⟩
      · skip
        refine sA_aload_n dd_X9_letter_32 rfl (.head _) ?_
        refine sA_getr (ci := 9) (j := 2) (q := (RX9, TX9, 28)) dd_X9_letter_33 rfl (by decide) fl_X9_7 (by decide) gs_s106 rfl ?_
        refine sA_aload_n dd_X9_letter_36 rfl (.head _) ?_
        refine sA_geti (ci := 9) (j := 1) (q := (RX9, TX9, 28)) dd_X9_letter_37 rfl (by decide) fl_X9_67 (by decide) gs_s106 rfl ?_
        refine sA_iconst (z := 1) dd_X9_letter_40 ?_
        refine sA_isub dd_X9_letter_41 ?_
        refine sA_iald (n := 60) dd_X9_letter_42 (by decide) gs_s107 (by omega) (by decide) ?_
        have b22 : (-9 : Int) ≤ A 107 ((F 106 1) - 1).toNat ∧ A 107 ((F 106 1) - 1).toNat ≤ 9 := hI.2 107 ((F 106 1) - 1).toNat
        refine sA_iconst (z := 0) dd_X9_letter_43 ?_
        refine sA_iload_n dd_X9_letter_44 rfl (.tail _ (.head _)) ?_
        refine sA_isub dd_X9_letter_45 ?_
        refine sA_icmp_ne (tgt := 62) dd_X9_letter_46 (by decide) (by omega) (by omega) (fun q23 => ?_) (fun q23 => ?_)
        · skip
          refine sA_aload_n dd_X9_letter_62 rfl (.head _) ?_
          refine sA_getr (ci := 9) (j := 2) (q := (RX9, TX9, 28)) dd_X9_letter_63 rfl (by decide) fl_X9_7 (by decide) gs_s106 rfl ?_
          refine sA_aload_n dd_X9_letter_66 rfl (.head _) ?_
          refine sA_geti (ci := 9) (j := 1) (q := (RX9, TX9, 28)) dd_X9_letter_67 rfl (by decide) fl_X9_67 (by decide) gs_s106 rfl ?_
          refine sA_iload_n dd_X9_letter_70 rfl (.tail _ (.head _)) ?_
          refine sA_iast (n := 60) dd_X9_letter_71 (by decide) gs_s107 (by omega) (by decide) ?_
          have I25 : gs_I F (gs_up A 107 ((F 106 1).toNat) x) := gs_I_ast hI (show (-9 : Int) ≤ x ∧ x ≤ 9 by omega)
          have f26 := gs_fr_ast hf (a := 107) (z := x) (i := (F 106 1).toNat) (by first | omega | (dsimp only; omega) | (dsimp only))
          generalize gs_up A 107 ((F 106 1).toNat) x = A24 at I25 f26 ⊢
          refine sA_aload_n dd_X9_letter_72 rfl (.head _) ?_
          refine sA_dup dd_X9_letter_73 rfl ?_
          refine sA_geti (ci := 9) (j := 1) (q := (RX9, TX9, 28)) dd_X9_letter_74 rfl (by decide) fl_X9_67 (by decide) gs_s106 rfl ?_
          refine sA_iconst (z := 1) dd_X9_letter_77 ?_
          refine sA_iadd dd_X9_letter_78 ?_
          refine sA_put (ci := 9) (j := 1) (q := (RX9, TX9, 28)) (ty := .int) dd_X9_letter_79 rfl (by decide) fl_X9_67 rfl (tyX9_ok 1 (by decide)) rfl rfl (by decide) gs_s106 rfl ?_
          have I28 : gs_I (gs_up F 106 1 ((F 106 1) + 1)) A24 := gs_I_put I25 (show (0 : Int) ≤ (F 106 1) + 1 ∧ (F 106 1) + 1 ≤ 60 by omega)
          have f29 := gs_fr_put f26 (a := 106) (z := (F 106 1) + 1) (j := 1) (by first | omega | (dsimp only; omega) | (dsimp only))
          have v30 : gs_up F 106 1 ((F 106 1) + 1) 106 1 = (F 106 1) + 1 := gs_up_self _ _ _ _
          generalize gs_up F 106 1 ((F 106 1) + 1) = F27 at I28 f29 v30 ⊢
          refine sA_aload_n dd_X9_letter_82 rfl (.head _) ?_
          refine sA_geti (ci := 9) (j := 1) (q := (RX9, TX9, 28)) dd_X9_letter_83 rfl (by decide) fl_X9_67 (by decide) gs_s106 rfl ?_
          have b31 : (0 : Int) ≤ F27 106 1 ∧ F27 106 1 ≤ 60 := I28.1 106 1
          refine sA_iret (z := F27 106 1) dd_X9_letter_86 rfl ?_
          exact ⟨_, rfl, I28, f29, trivial⟩
        · skip
          refine sA_aload_n dd_X9_letter_49 rfl (.head _) ?_
          refine sA_dup dd_X9_letter_50 rfl ?_
          refine sA_geti (ci := 9) (j := 1) (q := (RX9, TX9, 28)) dd_X9_letter_51 rfl (by decide) fl_X9_67 (by decide) gs_s106 rfl ?_
          refine sA_iconst (z := 1) dd_X9_letter_54 ?_
          refine sA_isub dd_X9_letter_55 ?_
          refine sA_put (ci := 9) (j := 1) (q := (RX9, TX9, 28)) (ty := .int) dd_X9_letter_56 rfl (by decide) fl_X9_67 rfl (tyX9_ok 1 (by decide)) rfl rfl (by decide) gs_s106 rfl ?_
          have I33 : gs_I (gs_up F 106 1 ((F 106 1) - 1)) A := gs_I_put hI (show (0 : Int) ≤ (F 106 1) - 1 ∧ (F 106 1) - 1 ≤ 60 by omega)
          have f34 := gs_fr_put hf (a := 106) (z := (F 106 1) - 1) (j := 1) (by first | omega | (dsimp only; omega) | (dsimp only))
          have v35 : gs_up F 106 1 ((F 106 1) - 1) 106 1 = (F 106 1) - 1 := gs_up_self _ _ _ _
          generalize gs_up F 106 1 ((F 106 1) - 1) = F32 at I33 f34 v35 ⊢
          refine sA_goto (tgt := 82) dd_X9_letter_59 (by decide) ?_
          refine sA_aload_n dd_X9_letter_82 rfl (.head _) ?_
          refine sA_geti (ci := 9) (j := 1) (q := (RX9, TX9, 28)) dd_X9_letter_83 rfl (by decide) fl_X9_67 (by decide) gs_s106 rfl ?_
          have b36 : (0 : Int) ≤ F32 106 1 ∧ F32 106 1 ≤ 60 := I33.1 106 1
          refine sA_iret (z := F32 106 1) dd_X9_letter_86 rfl ?_
          exact ⟨_, rfl, I33, f34, trivial⟩
    · skip
      refine sA_sipush (z := (-1004)) dd_X9_letter_21 (by decide) ?_
      refine sA_iret (z := -1004) dd_X9_letter_24 rfl ?_
      exact ⟨_, rfl, hI, hf, trivial⟩
  · skip
    refine sA_sipush (z := (-1002)) dd_X9_letter_8 (by decide) ?_
    refine sA_iret (z := -1002) dd_X9_letter_11 rfl ?_
    exact ⟨_, rfl, hI, hf, trivial⟩
theorem dd_X9_noRing_0 : decode cX9_noRing 0 = .ok (.iload_n 1, 1) := by decide +kernel
theorem dd_X9_noRing_1 : decode cX9_noRing 1 = .ok (.i2l, 1) := by decide +kernel
theorem dd_X9_noRing_2 : decode cX9_noRing 2 = .ok (.lconst 0, 1) := by decide +kernel
theorem dd_X9_noRing_3 : decode cX9_noRing 3 = .ok (.aload_n 0, 1) := by decide +kernel
theorem dd_X9_noRing_4 : decode cX9_noRing 4 = .ok (.getfield 70, 3) := by decide +kernel
theorem dd_X9_noRing_7 : decode cX9_noRing 7 = .ok (.iconst 1, 1) := by decide +kernel
theorem dd_X9_noRing_8 : decode cX9_noRing 8 = .ok (.isub, 1) := by decide +kernel
theorem dd_X9_noRing_9 : decode cX9_noRing 9 = .ok (.i2l, 1) := by decide +kernel
theorem dd_X9_noRing_10 : decode cX9_noRing 10 = .ok (.invokestatic 75, 3) := by decide +kernel
theorem dd_X9_noRing_13 : decode cX9_noRing 13 = .ok (.ifCond .ne 7, 3) := by decide +kernel
theorem dd_X9_noRing_16 : decode cX9_noRing 16 = .ok (.iconst 1, 1) := by decide +kernel
theorem dd_X9_noRing_17 : decode cX9_noRing 17 = .ok (.goto 4, 3) := by decide +kernel
theorem dd_X9_noRing_20 : decode cX9_noRing 20 = .ok (.iconst 0, 1) := by decide +kernel
theorem dd_X9_noRing_21 : decode cX9_noRing 21 = .ok (.ireturn, 1) := by decide +kernel
theorem ok_X9_noRing : am_okM m_X9_noRing 1 ∧ Cond.instanceMethod m_X9_noRing.1 ∈ am_tbl ∧ Cond.selects m_X9_noRing.1.cls m_X9_noRing.1 m_X9_noRing.1 ∈ am_tbl := ri_mk1 899 93 898 31 (by decide +kernel)
theorem c_X9_noRing {r : Int} {F A : gs_F} (hI : gs_I F A) (hr : -2147483648 ≤ r ∧ r ≤ 2147483647) : sC m_X9_noRing 2 [.ref 106, gs_iv r] F A (fun rv F' A' => ∃ z : Int, rv = some (gs_iv z) ∧ F = F' ∧ A = A' ∧ ((z = 0 ∧ 0 ≤ r ∧ r < F 106 3 ∧ r < 12) ∨ (z = 1 ∧ (r < 0 ∨ F 106 3 ≤ r)))) := by
  refine sC_of ok_X9_noRing.1 (Nat.le_of_ble_eq_true rfl) ?_
  show sA _ _ _ 0 [(0, .ref 106), (1, gs_iv r)] [] F A
  refine sA_iload_n dd_X9_noRing_0 rfl (.tail _ (.head _)) ?_
  refine sA_i2l dd_X9_noRing_1 (by omega) ?_
  refine sA_lconst (z := 0) dd_X9_noRing_2 (by decide) ?_
  refine sA_aload_n dd_X9_noRing_3 rfl (.head _) ?_
  refine sA_geti (ci := 9) (j := 3) (q := (RX9, TX9, 28)) dd_X9_noRing_4 rfl (by decide) fl_X9_70 (by decide) gs_s106 rfl ?_
  have b1 : (0 : Int) ≤ F 106 3 ∧ F 106 3 ≤ 12 := hI.1 106 3
  refine sA_iconst (z := 1) dd_X9_noRing_7 ?_
  refine sA_isub dd_X9_noRing_8 ?_
  refine sA_i2l dd_X9_noRing_9 (by omega) ?_
  refine sA_callS (y2 := m_X9_in) (n2 := 3) (d2 := 1) (as := [gs_lv r, gs_lv 0, gs_lv ((F 106 3) - 1)]) (rest := []) dd_X9_noRing_10 ok_X9_in ml_X9_75 rfl rfl (Nat.le_of_ble_eq_true rfl) (by decide) (c_X9_in (by omega) (by omega) (by omega)) (fun r2 F3 A4 h5 => ?_)
  obtain ⟨z8, e7, e9, e10, x6⟩ := h5
  subst e7 e9 e10
  show sA _ _ _ 13 _ [gs_iv z8] _ _
  refine sA_if_ne (tgt := 20) dd_X9_noRing_13 (by decide) (by omega) (fun q11 => ?_) (fun q11 => ?_)
  · skip
    refine sA_iconst (z := 0) dd_X9_noRing_20 ?_
    refine sA_bret (z := 0) dd_X9_noRing_21 rfl (by omega) ?_
    exact ⟨_, rfl, rfl, rfl, by omega⟩
  · skip
    refine sA_iconst (z := 1) dd_X9_noRing_16 ?_
    refine sA_goto (tgt := 21) dd_X9_noRing_17 (by decide) ?_
    refine sA_bret (z := 1) dd_X9_noRing_21 rfl (by omega) ?_
    exact ⟨_, rfl, rfl, rfl, by omega⟩
theorem dd_X9_drop_0 : decode cX9_drop 0 = .ok (.aload_n 0, 1) := by decide +kernel
theorem dd_X9_drop_1 : decode cX9_drop 1 = .ok (.getfield 70, 3) := by decide +kernel
theorem dd_X9_drop_4 : decode cX9_drop 4 = .ok (.ifCond .ne 7, 3) := by decide +kernel
theorem dd_X9_drop_7 : decode cX9_drop 7 = .ok (.sipush (-1003), 3) := by decide +kernel
theorem dd_X9_drop_10 : decode cX9_drop 10 = .ok (.ireturn, 1) := by decide +kernel
theorem dd_X9_drop_11 : decode cX9_drop 11 = .ok (.aload_n 0, 1) := by decide +kernel
theorem dd_X9_drop_12 : decode cX9_drop 12 = .ok (.dup, 1) := by decide +kernel
theorem dd_X9_drop_13 : decode cX9_drop 13 = .ok (.getfield 70, 3) := by decide +kernel
theorem dd_X9_drop_16 : decode cX9_drop 16 = .ok (.iconst 1, 1) := by decide +kernel
theorem dd_X9_drop_17 : decode cX9_drop 17 = .ok (.isub, 1) := by decide +kernel
theorem dd_X9_drop_18 : decode cX9_drop 18 = .ok (.putfield 70, 3) := by decide +kernel
theorem dd_X9_drop_21 : decode cX9_drop 21 = .ok (.aload_n 0, 1) := by decide +kernel
theorem dd_X9_drop_22 : decode cX9_drop 22 = .ok (.getfield 70, 3) := by decide +kernel
theorem dd_X9_drop_25 : decode cX9_drop 25 = .ok (.ireturn, 1) := by decide +kernel
theorem ok_X9_drop : am_okM m_X9_drop 0 ∧ Cond.instanceMethod m_X9_drop.1 ∈ am_tbl ∧ Cond.selects m_X9_drop.1.cls m_X9_drop.1 m_X9_drop.1 ∈ am_tbl := ri_mk1 891 93 889 890 (by decide +kernel)
theorem c_X9_drop  {F A : gs_F} (hI : gs_I F A)  : sC m_X9_drop 1 [.ref 106] F A (fun rv F' A' => ∃ z : Int, rv = some (gs_iv z) ∧ gs_I F' A' ∧ gs_fr (fun c j => c = 106 ∧ j = 3) (fun _ => False) F A F' A' ∧ ((F 106 3 = 0 ∧ z = -1003 ∧ F' 106 3 = 0) ∨ (0 < F 106 3 ∧ F' 106 3 = F 106 3 - 1 ∧ z = F 106 3 - 1))) := by
  refine sC_of ok_X9_drop.1 (Nat.le_of_ble_eq_true rfl) ?_
  show sA _ _ _ 0 [(0, .ref 106)] [] F A
  have hf : gs_fr (fun c j => c = 106 ∧ j = 3) (fun _ => False) F A F A := gs_fr_refl _ _ _ _
  have b1 : (0 : Int) ≤ F 106 3 ∧ F 106 3 ≤ 12 := hI.1 106 3
  refine sA_aload_n dd_X9_drop_0 rfl (.head _) ?_
  refine sA_geti (ci := 9) (j := 3) (q := (RX9, TX9, 28)) dd_X9_drop_1 rfl (by decide) fl_X9_70 (by decide) gs_s106 rfl ?_
  refine sA_if_ne (tgt := 11) dd_X9_drop_4 (by decide) (by omega) (fun q2 => ?_) (fun q2 => ?_)
  · skip
    refine sA_aload_n dd_X9_drop_11 rfl (.head _) ?_
    refine sA_dup dd_X9_drop_12 rfl ?_
    refine sA_geti (ci := 9) (j := 3) (q := (RX9, TX9, 28)) dd_X9_drop_13 rfl (by decide) fl_X9_70 (by decide) gs_s106 rfl ?_
    refine sA_iconst (z := 1) dd_X9_drop_16 ?_
    refine sA_isub dd_X9_drop_17 ?_
    refine sA_put (ci := 9) (j := 3) (q := (RX9, TX9, 28)) (ty := .int) dd_X9_drop_18 rfl (by decide) fl_X9_70 rfl (tyX9_ok 3 (by decide)) rfl rfl (by decide) gs_s106 rfl ?_
    have I4 : gs_I (gs_up F 106 3 ((F 106 3) - 1)) A := gs_I_put hI (show (0 : Int) ≤ (F 106 3) - 1 ∧ (F 106 3) - 1 ≤ 12 by omega)
    have f5 := gs_fr_put hf (a := 106) (z := (F 106 3) - 1) (j := 3) (by first | omega | (dsimp only; omega) | (dsimp only))
    have v6 : gs_up F 106 3 ((F 106 3) - 1) 106 3 = (F 106 3) - 1 := gs_up_self _ _ _ _
    generalize gs_up F 106 3 ((F 106 3) - 1) = F3 at I4 f5 v6 ⊢
    refine sA_aload_n dd_X9_drop_21 rfl (.head _) ?_
    refine sA_geti (ci := 9) (j := 3) (q := (RX9, TX9, 28)) dd_X9_drop_22 rfl (by decide) fl_X9_70 (by decide) gs_s106 rfl ?_
    have b7 : (0 : Int) ≤ F3 106 3 ∧ F3 106 3 ≤ 12 := I4.1 106 3
    refine sA_iret (z := F3 106 3) dd_X9_drop_25 rfl ?_
    exact ⟨_, rfl, I4, f5, by omega⟩
  · skip
    refine sA_sipush (z := (-1003)) dd_X9_drop_7 (by decide) ?_
    refine sA_iret (z := -1003) dd_X9_drop_10 rfl ?_
    exact ⟨_, rfl, hI, hf, by omega⟩
theorem dd_X9_takeU_0 : decode cX9_takeU 0 = .ok (.aload_n 0, 1) := by decide +kernel
theorem dd_X9_takeU_1 : decode cX9_takeU 1 = .ok (.aload_n 0, 1) := by decide +kernel
theorem dd_X9_takeU_2 : decode cX9_takeU 2 = .ok (.getfield 13, 3) := by decide +kernel
theorem dd_X9_takeU_5 : decode cX9_takeU 5 = .ok (.iload_n 1, 1) := by decide +kernel
theorem dd_X9_takeU_6 : decode cX9_takeU 6 = .ok (.iaload, 1) := by decide +kernel
theorem dd_X9_takeU_7 : decode cX9_takeU 7 = .ok (.putfield 83, 3) := by decide +kernel
theorem dd_X9_takeU_10 : decode cX9_takeU 10 = .ok (.iconst 0, 1) := by decide +kernel
theorem dd_X9_takeU_11 : decode cX9_takeU 11 = .ok (.istore_n 2, 1) := by decide +kernel
theorem dd_X9_takeU_12 : decode cX9_takeU 12 = .ok (.iload_n 2, 1) := by decide +kernel
theorem dd_X9_takeU_13 : decode cX9_takeU 13 = .ok (.aload_n 0, 1) := by decide +kernel
theorem dd_X9_takeU_14 : decode cX9_takeU 14 = .ok (.getfield 83, 3) := by decide +kernel
theorem dd_X9_takeU_17 : decode cX9_takeU 17 = .ok (.if_icmp .ge 26, 3) := by decide +kernel
theorem dd_X9_takeU_20 : decode cX9_takeU 20 = .ok (.aload_n 0, 1) := by decide +kernel
theorem dd_X9_takeU_21 : decode cX9_takeU 21 = .ok (.getfield 25, 3) := by decide +kernel
theorem dd_X9_takeU_24 : decode cX9_takeU 24 = .ok (.iload_n 2, 1) := by decide +kernel
theorem dd_X9_takeU_25 : decode cX9_takeU 25 = .ok (.aload_n 0, 1) := by decide +kernel
theorem dd_X9_takeU_26 : decode cX9_takeU 26 = .ok (.getfield 16, 3) := by decide +kernel
theorem dd_X9_takeU_29 : decode cX9_takeU 29 = .ok (.bipush 60, 2) := by decide +kernel
theorem dd_X9_takeU_31 : decode cX9_takeU 31 = .ok (.iload_n 1, 1) := by decide +kernel
theorem dd_X9_takeU_32 : decode cX9_takeU 32 = .ok (.imul, 1) := by decide +kernel
theorem dd_X9_takeU_33 : decode cX9_takeU 33 = .ok (.iload_n 2, 1) := by decide +kernel
theorem dd_X9_takeU_34 : decode cX9_takeU 34 = .ok (.iadd, 1) := by decide +kernel
theorem dd_X9_takeU_35 : decode cX9_takeU 35 = .ok (.iaload, 1) := by decide +kernel
theorem dd_X9_takeU_36 : decode cX9_takeU 36 = .ok (.iastore, 1) := by decide +kernel
theorem dd_X9_takeU_37 : decode cX9_takeU 37 = .ok (.iinc 2 1, 3) := by decide +kernel
theorem dd_X9_takeU_40 : decode cX9_takeU 40 = .ok (.goto (-28), 3) := by decide +kernel
theorem dd_X9_takeU_43 : decode cX9_takeU 43 = .ok (.return_, 1) := by decide +kernel
theorem gs_s108 : gs_sh 108 = .inr (.inl (0, 12)) := rfl
theorem gs_s109 : gs_sh 109 = .inr (.inl (0, 720)) := rfl
theorem gs_s112 : gs_sh 112 = .inr (.inl (0, 400)) := rfl
theorem fl_X9_13 : Cond.fieldLink RX9 13 (TX9 4).1 (TX9 4).2.1 (TX9 4).2.2.1 ∈ am_tbl := ri_lw_in (pl := 786) (by decide +kernel)
theorem fl_X9_16 : Cond.fieldLink RX9 16 (TX9 5).1 (TX9 5).2.1 (TX9 5).2.2.1 ∈ am_tbl := ri_lw_in (pl := 787) (by decide +kernel)
theorem fl_X9_25 : Cond.fieldLink RX9 25 (TX9 8).1 (TX9 8).2.1 (TX9 8).2.2.1 ∈ am_tbl := ri_lw_in (pl := 790) (by decide +kernel)
theorem fl_X9_83 : Cond.fieldLink RX9 83 (TX9 9).1 (TX9 9).2.1 (TX9 9).2.2.1 ∈ am_tbl := ri_lw_in (pl := 791) (by decide +kernel)
theorem ok_X9_takeU : am_okM m_X9_takeU 1 ∧ Cond.instanceMethod m_X9_takeU.1 ∈ am_tbl ∧ Cond.selects m_X9_takeU.1.cls m_X9_takeU.1 m_X9_takeU.1 ∈ am_tbl := ri_mk1 903 93 902 32 (by decide +kernel)
theorem k_X9_takeU {r : Int} {F A : gs_F} (hI : gs_I F A) (hr : 0 ≤ r ∧ r < 12) : ∀ nN : Nat, (∀ (k : Int)  (F1 A1 : gs_F), gs_I F1 A1 → gs_fr (fun c j => c = 106 ∧ j = 9) (fun c => c = 112) F A F1 A1 → 0 ≤ k ∧ k ≤ F1 106 9 → F1 106 9 ≤ 60 → F1 106 9 = A 108 r.toNat → F1 106 9 - k < (nN : Int) → sA m_X9_takeU 1 (fun rv F' A' => rv = none ∧ gs_I F' A' ∧ gs_fr (fun c j => c = 106 ∧ j = 9) (fun c => c = 112) F A F' A' ∧ (F' 106 9 = A 108 r.toNat)) 12 [(2, gs_iv k), (0, .ref 106), (1, gs_iv r)] [] F1 A1) := by
  intro nN
  induction nN with
  | zero =>
    exact fun a0 a1 a2 a3 a4 i0 i1 i2 hm => by exfalso; omega
  | succ nN ih =>
    intro k F1 A1 hI1 hf1 i0 i1 i2 hm
    have b1 : (0 : Int) ≤ F1 106 9 ∧ F1 106 9 ≤ 400 := hI1.1 106 9
    refine sA_iload_n dd_X9_takeU_12 rfl (.head _) ?_
    refine sA_aload_n dd_X9_takeU_13 rfl (.tail _ (.head _)) ?_
    refine sA_geti (ci := 9) (j := 9) (q := (RX9, TX9, 28)) dd_X9_takeU_14 rfl (by decide) fl_X9_83 (by decide) gs_s106 rfl ?_
    refine sA_icmp_ge (tgt := 43) dd_X9_takeU_17 (by decide) (by omega) (by omega) (fun q2 => ?_) (fun q2 => ?_)
    · skip
      refine sA_vret dd_X9_takeU_43 rfl ?_
      exact ⟨rfl, hI1, hf1, by omega⟩
    · skip
      refine sA_aload_n dd_X9_takeU_20 rfl (.tail _ (.head _)) ?_
      refine sA_getr (ci := 9) (j := 8) (q := (RX9, TX9, 28)) dd_X9_takeU_21 rfl (by decide) fl_X9_25 (by decide) gs_s106 rfl ?_
      refine sA_iload_n dd_X9_takeU_24 rfl (.head _) ?_
      refine sA_aload_n dd_X9_takeU_25 rfl (.tail _ (.head _)) ?_
      refine sA_getr (ci := 9) (j := 5) (q := (RX9, TX9, 28)) dd_X9_takeU_26 rfl (by decide) fl_X9_16 (by decide) gs_s106 rfl ?_
      refine sA_bipush (z := 60) dd_X9_takeU_29 (by decide) ?_
      refine sA_iload_n dd_X9_takeU_31 rfl (.tail _ (.tail _ (.head _))) ?_
      refine sA_imul dd_X9_takeU_32 ?_
      refine sA_iload_n dd_X9_takeU_33 rfl (.head _) ?_
      refine sA_iadd dd_X9_takeU_34 ?_
      refine sA_iald (n := 720) dd_X9_takeU_35 (by decide) gs_s109 (by omega) (by decide) ?_
      have b3 : (-9 : Int) ≤ A1 109 ((60 * r) + k).toNat ∧ A1 109 ((60 * r) + k).toNat ≤ 9 := hI1.2 109 ((60 * r) + k).toNat
      refine sA_iast (n := 400) dd_X9_takeU_36 (by decide) gs_s112 (by omega) (by decide) ?_
      have I5 : gs_I F1 (gs_up A1 112 k.toNat (A1 109 ((60 * r) + k).toNat)) := gs_I_ast hI1 (show (-9 : Int) ≤ A1 109 ((60 * r) + k).toNat ∧ A1 109 ((60 * r) + k).toNat ≤ 9 by omega)
      have f6 := gs_fr_ast hf1 (a := 112) (z := A1 109 ((60 * r) + k).toNat) (i := k.toNat) (by first | omega | (dsimp only; omega) | (dsimp only))
      generalize gs_up A1 112 k.toNat (A1 109 ((60 * r) + k).toNat) = A4 at I5 f6 ⊢
      refine sA_iinc (lv' := [(2, gs_iv (k + 1)), (0, .ref 106), (1, gs_iv r)]) dd_X9_takeU_37 (.head _) (by decide) rfl ?_
      refine sA_goto (tgt := 12) dd_X9_takeU_40 (by decide) ?_
      refine sA_sub (lv2 := [(2, gs_iv (k + 1)), (0, .ref 106), (1, gs_iv r)]) (List.forall_mem_cons.mpr ⟨(.head _), (List.forall_mem_cons.mpr ⟨(.tail _ (.head _)), (List.forall_mem_cons.mpr ⟨(.tail _ (.tail _ (.head _))), (fun _ h => absurd h List.not_mem_nil)⟩)⟩)⟩) ?_
      exact ih (k + 1) F1 A4 I5 f6 (by omega) (by omega) (by omega) (by omega)
theorem c_X9_takeU {r : Int} {F A : gs_F} (hI : gs_I F A) (hr : 0 ≤ r ∧ r < 12) : sC m_X9_takeU 1 [.ref 106, gs_iv r] F A (fun rv F' A' => rv = none ∧ gs_I F' A' ∧ gs_fr (fun c j => c = 106 ∧ j = 9) (fun c => c = 112) F A F' A' ∧ (F' 106 9 = A 108 r.toNat)) := by
  refine sC_of ok_X9_takeU.1 (Nat.le_of_ble_eq_true rfl) ?_
  show sA _ _ _ 0 [(0, .ref 106), (1, gs_iv r)] [] F A
  have hf : gs_fr (fun c j => c = 106 ∧ j = 9) (fun c => c = 112) F A F A := gs_fr_refl _ _ _ _
  have b7 : (0 : Int) ≤ F 106 9 ∧ F 106 9 ≤ 400 := hI.1 106 9
  refine sA_aload_n dd_X9_takeU_0 rfl (.head _) ?_
  refine sA_aload_n dd_X9_takeU_1 rfl (.head _) ?_
  refine sA_getr (ci := 9) (j := 4) (q := (RX9, TX9, 28)) dd_X9_takeU_2 rfl (by decide) fl_X9_13 (by decide) gs_s106 rfl ?_
  refine sA_iload_n dd_X9_takeU_5 rfl (.tail _ (.head _)) ?_
  refine sA_iald (n := 12) dd_X9_takeU_6 (by decide) gs_s108 (by omega) (by decide) ?_
  have b8 : (0 : Int) ≤ A 108 r.toNat ∧ A 108 r.toNat ≤ 60 := hI.2 108 r.toNat
  refine sA_put (ci := 9) (j := 9) (q := (RX9, TX9, 28)) (ty := .int) dd_X9_takeU_7 rfl (by decide) fl_X9_83 rfl (tyX9_ok 9 (by decide)) rfl rfl (by decide) gs_s106 rfl ?_
  have I10 : gs_I (gs_up F 106 9 (A 108 r.toNat)) A := gs_I_put hI (show (0 : Int) ≤ A 108 r.toNat ∧ A 108 r.toNat ≤ 400 by omega)
  have f11 := gs_fr_put hf (a := 106) (z := A 108 r.toNat) (j := 9) (by first | omega | (dsimp only; omega) | (dsimp only))
  have v12 : gs_up F 106 9 (A 108 r.toNat) 106 9 = A 108 r.toNat := gs_up_self _ _ _ _
  generalize gs_up F 106 9 (A 108 r.toNat) = F9 at I10 f11 v12 ⊢
  refine sA_iconst (z := 0) dd_X9_takeU_10 ?_
  refine sA_istore_n (lv' := [(2, gs_iv 0), (0, .ref 106), (1, gs_iv r)]) dd_X9_takeU_11 rfl (by decide) rfl ?_
  have b13 : (0 : Int) ≤ F9 106 9 ∧ F9 106 9 ≤ 400 := I10.1 106 9
  refine sA_sub (lv2 := [(2, gs_iv 0), (0, .ref 106), (1, gs_iv r)]) (List.forall_mem_cons.mpr ⟨(.head _), (List.forall_mem_cons.mpr ⟨(.tail _ (.head _)), (List.forall_mem_cons.mpr ⟨(.tail _ (.tail _ (.head _))), (fun _ h => absurd h List.not_mem_nil)⟩)⟩)⟩) ?_
  exact (k_X9_takeU hI hr (F9 106 9 - 0 : Int).toNat.succ) 0 F9 A I10 f11 (by omega) (by omega) (by omega) (by omega)
theorem dd_X9_takeV_0 : decode cX9_takeV 0 = .ok (.aload_n 0, 1) := by decide +kernel
theorem dd_X9_takeV_1 : decode cX9_takeV 1 = .ok (.aload_n 0, 1) := by decide +kernel
theorem dd_X9_takeV_2 : decode cX9_takeV 2 = .ok (.getfield 13, 3) := by decide +kernel
theorem dd_X9_takeV_5 : decode cX9_takeV 5 = .ok (.iload_n 1, 1) := by decide +kernel
theorem dd_X9_takeV_6 : decode cX9_takeV 6 = .ok (.iaload, 1) := by decide +kernel
theorem dd_X9_takeV_7 : decode cX9_takeV 7 = .ok (.putfield 86, 3) := by decide +kernel
theorem dd_X9_takeV_10 : decode cX9_takeV 10 = .ok (.iconst 0, 1) := by decide +kernel
theorem dd_X9_takeV_11 : decode cX9_takeV 11 = .ok (.istore_n 2, 1) := by decide +kernel
theorem dd_X9_takeV_12 : decode cX9_takeV 12 = .ok (.iload_n 2, 1) := by decide +kernel
theorem dd_X9_takeV_13 : decode cX9_takeV 13 = .ok (.aload_n 0, 1) := by decide +kernel
theorem dd_X9_takeV_14 : decode cX9_takeV 14 = .ok (.getfield 86, 3) := by decide +kernel
theorem dd_X9_takeV_17 : decode cX9_takeV 17 = .ok (.if_icmp .ge 26, 3) := by decide +kernel
theorem dd_X9_takeV_20 : decode cX9_takeV 20 = .ok (.aload_n 0, 1) := by decide +kernel
theorem dd_X9_takeV_21 : decode cX9_takeV 21 = .ok (.getfield 28, 3) := by decide +kernel
theorem dd_X9_takeV_24 : decode cX9_takeV 24 = .ok (.iload_n 2, 1) := by decide +kernel
theorem dd_X9_takeV_25 : decode cX9_takeV 25 = .ok (.aload_n 0, 1) := by decide +kernel
theorem dd_X9_takeV_26 : decode cX9_takeV 26 = .ok (.getfield 16, 3) := by decide +kernel
theorem dd_X9_takeV_29 : decode cX9_takeV 29 = .ok (.bipush 60, 2) := by decide +kernel
theorem dd_X9_takeV_31 : decode cX9_takeV 31 = .ok (.iload_n 1, 1) := by decide +kernel
theorem dd_X9_takeV_32 : decode cX9_takeV 32 = .ok (.imul, 1) := by decide +kernel
theorem dd_X9_takeV_33 : decode cX9_takeV 33 = .ok (.iload_n 2, 1) := by decide +kernel
theorem dd_X9_takeV_34 : decode cX9_takeV 34 = .ok (.iadd, 1) := by decide +kernel
theorem dd_X9_takeV_35 : decode cX9_takeV 35 = .ok (.iaload, 1) := by decide +kernel
theorem dd_X9_takeV_36 : decode cX9_takeV 36 = .ok (.iastore, 1) := by decide +kernel
theorem dd_X9_takeV_37 : decode cX9_takeV 37 = .ok (.iinc 2 1, 3) := by decide +kernel
theorem dd_X9_takeV_40 : decode cX9_takeV 40 = .ok (.goto (-28), 3) := by decide +kernel
theorem dd_X9_takeV_43 : decode cX9_takeV 43 = .ok (.return_, 1) := by decide +kernel
theorem gs_s113 : gs_sh 113 = .inr (.inl (0, 400)) := rfl
theorem fl_X9_28 : Cond.fieldLink RX9 28 (TX9 10).1 (TX9 10).2.1 (TX9 10).2.2.1 ∈ am_tbl := ri_lw_in (pl := 792) (by decide +kernel)
theorem fl_X9_86 : Cond.fieldLink RX9 86 (TX9 11).1 (TX9 11).2.1 (TX9 11).2.2.1 ∈ am_tbl := ri_lw_in (pl := 793) (by decide +kernel)
theorem ok_X9_takeV : am_okM m_X9_takeV 1 ∧ Cond.instanceMethod m_X9_takeV.1 ∈ am_tbl ∧ Cond.selects m_X9_takeV.1.cls m_X9_takeV.1 m_X9_takeV.1 ∈ am_tbl := ri_mk1 907 93 906 33 (by decide +kernel)
theorem k_X9_takeV {r : Int} {F A : gs_F} (hI : gs_I F A) (hr : 0 ≤ r ∧ r < 12) : ∀ nN : Nat, (∀ (k : Int)  (F1 A1 : gs_F), gs_I F1 A1 → gs_fr (fun c j => c = 106 ∧ j = 11) (fun c => c = 113) F A F1 A1 → 0 ≤ k ∧ k ≤ F1 106 11 → F1 106 11 ≤ 60 → F1 106 11 = A 108 r.toNat → F1 106 11 - k < (nN : Int) → sA m_X9_takeV 1 (fun rv F' A' => rv = none ∧ gs_I F' A' ∧ gs_fr (fun c j => c = 106 ∧ j = 11) (fun c => c = 113) F A F' A' ∧ (F' 106 11 = A 108 r.toNat)) 12 [(2, gs_iv k), (0, .ref 106), (1, gs_iv r)] [] F1 A1) := by
  intro nN
  induction nN with
  | zero =>
    exact fun a0 a1 a2 a3 a4 i0 i1 i2 hm => by exfalso; omega
  | succ nN ih =>
    intro k F1 A1 hI1 hf1 i0 i1 i2 hm
    have b1 : (0 : Int) ≤ F1 106 11 ∧ F1 106 11 ≤ 60 := hI1.1 106 11
    refine sA_iload_n dd_X9_takeV_12 rfl (.head _) ?_
    refine sA_aload_n dd_X9_takeV_13 rfl (.tail _ (.head _)) ?_
    refine sA_geti (ci := 9) (j := 11) (q := (RX9, TX9, 28)) dd_X9_takeV_14 rfl (by decide) fl_X9_86 (by decide) gs_s106 rfl ?_
    refine sA_icmp_ge (tgt := 43) dd_X9_takeV_17 (by decide) (by omega) (by omega) (fun q2 => ?_) (fun q2 => ?_)
    · skip
      refine sA_vret dd_X9_takeV_43 rfl ?_
      exact ⟨rfl, hI1, hf1, by omega⟩
    · skip
      refine sA_aload_n dd_X9_takeV_20 rfl (.tail _ (.head _)) ?_
      refine sA_getr (ci := 9) (j := 10) (q := (RX9, TX9, 28)) dd_X9_takeV_21 rfl (by decide) fl_X9_28 (by decide) gs_s106 rfl ?_
      refine sA_iload_n dd_X9_takeV_24 rfl (.head _) ?_
      refine sA_aload_n dd_X9_takeV_25 rfl (.tail _ (.head _)) ?_
      refine sA_getr (ci := 9) (j := 5) (q := (RX9, TX9, 28)) dd_X9_takeV_26 rfl (by decide) fl_X9_16 (by decide) gs_s106 rfl ?_
      refine sA_bipush (z := 60) dd_X9_takeV_29 (by decide) ?_
      refine sA_iload_n dd_X9_takeV_31 rfl (.tail _ (.tail _ (.head _))) ?_
      refine sA_imul dd_X9_takeV_32 ?_
      refine sA_iload_n dd_X9_takeV_33 rfl (.head _) ?_
      refine sA_iadd dd_X9_takeV_34 ?_
      refine sA_iald (n := 720) dd_X9_takeV_35 (by decide) gs_s109 (by omega) (by decide) ?_
      have b3 : (-9 : Int) ≤ A1 109 ((60 * r) + k).toNat ∧ A1 109 ((60 * r) + k).toNat ≤ 9 := hI1.2 109 ((60 * r) + k).toNat
      refine sA_iast (n := 400) dd_X9_takeV_36 (by decide) gs_s113 (by omega) (by decide) ?_
      have I5 : gs_I F1 (gs_up A1 113 k.toNat (A1 109 ((60 * r) + k).toNat)) := gs_I_ast hI1 (show (-9 : Int) ≤ A1 109 ((60 * r) + k).toNat ∧ A1 109 ((60 * r) + k).toNat ≤ 9 by omega)
      have f6 := gs_fr_ast hf1 (a := 113) (z := A1 109 ((60 * r) + k).toNat) (i := k.toNat) (by first | omega | (dsimp only; omega) | (dsimp only))
      generalize gs_up A1 113 k.toNat (A1 109 ((60 * r) + k).toNat) = A4 at I5 f6 ⊢
      refine sA_iinc (lv' := [(2, gs_iv (k + 1)), (0, .ref 106), (1, gs_iv r)]) dd_X9_takeV_37 (.head _) (by decide) rfl ?_
      refine sA_goto (tgt := 12) dd_X9_takeV_40 (by decide) ?_
      refine sA_sub (lv2 := [(2, gs_iv (k + 1)), (0, .ref 106), (1, gs_iv r)]) (List.forall_mem_cons.mpr ⟨(.head _), (List.forall_mem_cons.mpr ⟨(.tail _ (.head _)), (List.forall_mem_cons.mpr ⟨(.tail _ (.tail _ (.head _))), (fun _ h => absurd h List.not_mem_nil)⟩)⟩)⟩) ?_
      exact ih (k + 1) F1 A4 I5 f6 (by omega) (by omega) (by omega) (by omega)
theorem c_X9_takeV {r : Int} {F A : gs_F} (hI : gs_I F A) (hr : 0 ≤ r ∧ r < 12) : sC m_X9_takeV 1 [.ref 106, gs_iv r] F A (fun rv F' A' => rv = none ∧ gs_I F' A' ∧ gs_fr (fun c j => c = 106 ∧ j = 11) (fun c => c = 113) F A F' A' ∧ (F' 106 11 = A 108 r.toNat)) := by
  refine sC_of ok_X9_takeV.1 (Nat.le_of_ble_eq_true rfl) ?_
  show sA _ _ _ 0 [(0, .ref 106), (1, gs_iv r)] [] F A
  have hf : gs_fr (fun c j => c = 106 ∧ j = 11) (fun c => c = 113) F A F A := gs_fr_refl _ _ _ _
  have b7 : (0 : Int) ≤ F 106 11 ∧ F 106 11 ≤ 60 := hI.1 106 11
  refine sA_aload_n dd_X9_takeV_0 rfl (.head _) ?_
  refine sA_aload_n dd_X9_takeV_1 rfl (.head _) ?_
  refine sA_getr (ci := 9) (j := 4) (q := (RX9, TX9, 28)) dd_X9_takeV_2 rfl (by decide) fl_X9_13 (by decide) gs_s106 rfl ?_
  refine sA_iload_n dd_X9_takeV_5 rfl (.tail _ (.head _)) ?_
  refine sA_iald (n := 12) dd_X9_takeV_6 (by decide) gs_s108 (by omega) (by decide) ?_
  have b8 : (0 : Int) ≤ A 108 r.toNat ∧ A 108 r.toNat ≤ 60 := hI.2 108 r.toNat
  refine sA_put (ci := 9) (j := 11) (q := (RX9, TX9, 28)) (ty := .int) dd_X9_takeV_7 rfl (by decide) fl_X9_86 rfl (tyX9_ok 11 (by decide)) rfl rfl (by decide) gs_s106 rfl ?_
  have I10 : gs_I (gs_up F 106 11 (A 108 r.toNat)) A := gs_I_put hI (show (0 : Int) ≤ A 108 r.toNat ∧ A 108 r.toNat ≤ 60 by omega)
  have f11 := gs_fr_put hf (a := 106) (z := A 108 r.toNat) (j := 11) (by first | omega | (dsimp only; omega) | (dsimp only))
  have v12 : gs_up F 106 11 (A 108 r.toNat) 106 11 = A 108 r.toNat := gs_up_self _ _ _ _
  generalize gs_up F 106 11 (A 108 r.toNat) = F9 at I10 f11 v12 ⊢
  refine sA_iconst (z := 0) dd_X9_takeV_10 ?_
  refine sA_istore_n (lv' := [(2, gs_iv 0), (0, .ref 106), (1, gs_iv r)]) dd_X9_takeV_11 rfl (by decide) rfl ?_
  have b13 : (0 : Int) ≤ F9 106 11 ∧ F9 106 11 ≤ 60 := I10.1 106 11
  refine sA_sub (lv2 := [(2, gs_iv 0), (0, .ref 106), (1, gs_iv r)]) (List.forall_mem_cons.mpr ⟨(.head _), (List.forall_mem_cons.mpr ⟨(.tail _ (.head _)), (List.forall_mem_cons.mpr ⟨(.tail _ (.tail _ (.head _))), (fun _ h => absurd h List.not_mem_nil)⟩)⟩)⟩) ?_
  exact (k_X9_takeV hI hr (F9 106 11 - 0 : Int).toNat.succ) 0 F9 A I10 f11 (by omega) (by omega) (by omega) (by omega)
theorem dd_X9_takeRing_0 : decode cX9_takeRing 0 = .ok (.aload_n 0, 1) := by decide +kernel
theorem dd_X9_takeRing_1 : decode cX9_takeRing 1 = .ok (.aload_n 0, 1) := by decide +kernel
theorem dd_X9_takeRing_2 : decode cX9_takeRing 2 = .ok (.getfield 13, 3) := by decide +kernel
theorem dd_X9_takeRing_5 : decode cX9_takeRing 5 = .ok (.iload_n 1, 1) := by decide +kernel
theorem dd_X9_takeRing_6 : decode cX9_takeRing 6 = .ok (.iaload, 1) := by decide +kernel
theorem dd_X9_takeRing_7 : decode cX9_takeRing 7 = .ok (.putfield 167, 3) := by decide +kernel
theorem dd_X9_takeRing_10 : decode cX9_takeRing 10 = .ok (.iconst 0, 1) := by decide +kernel
theorem dd_X9_takeRing_11 : decode cX9_takeRing 11 = .ok (.istore_n 2, 1) := by decide +kernel
theorem dd_X9_takeRing_12 : decode cX9_takeRing 12 = .ok (.iload_n 2, 1) := by decide +kernel
theorem dd_X9_takeRing_13 : decode cX9_takeRing 13 = .ok (.aload_n 0, 1) := by decide +kernel
theorem dd_X9_takeRing_14 : decode cX9_takeRing 14 = .ok (.getfield 167, 3) := by decide +kernel
theorem dd_X9_takeRing_17 : decode cX9_takeRing 17 = .ok (.if_icmp .ge 26, 3) := by decide +kernel
theorem dd_X9_takeRing_20 : decode cX9_takeRing 20 = .ok (.aload_n 0, 1) := by decide +kernel
theorem dd_X9_takeRing_21 : decode cX9_takeRing 21 = .ok (.getfield 31, 3) := by decide +kernel
theorem dd_X9_takeRing_24 : decode cX9_takeRing 24 = .ok (.iload_n 2, 1) := by decide +kernel
theorem dd_X9_takeRing_25 : decode cX9_takeRing 25 = .ok (.aload_n 0, 1) := by decide +kernel
theorem dd_X9_takeRing_26 : decode cX9_takeRing 26 = .ok (.getfield 16, 3) := by decide +kernel
theorem dd_X9_takeRing_29 : decode cX9_takeRing 29 = .ok (.bipush 60, 2) := by decide +kernel
theorem dd_X9_takeRing_31 : decode cX9_takeRing 31 = .ok (.iload_n 1, 1) := by decide +kernel
theorem dd_X9_takeRing_32 : decode cX9_takeRing 32 = .ok (.imul, 1) := by decide +kernel
theorem dd_X9_takeRing_33 : decode cX9_takeRing 33 = .ok (.iload_n 2, 1) := by decide +kernel
theorem dd_X9_takeRing_34 : decode cX9_takeRing 34 = .ok (.iadd, 1) := by decide +kernel
theorem dd_X9_takeRing_35 : decode cX9_takeRing 35 = .ok (.iaload, 1) := by decide +kernel
theorem dd_X9_takeRing_36 : decode cX9_takeRing 36 = .ok (.iastore, 1) := by decide +kernel
theorem dd_X9_takeRing_37 : decode cX9_takeRing 37 = .ok (.iinc 2 1, 3) := by decide +kernel
theorem dd_X9_takeRing_40 : decode cX9_takeRing 40 = .ok (.goto (-28), 3) := by decide +kernel
theorem dd_X9_takeRing_43 : decode cX9_takeRing 43 = .ok (.return_, 1) := by decide +kernel
theorem gs_s114 : gs_sh 114 = .inr (.inl (0, 401)) := rfl
theorem fl_X9_167 : Cond.fieldLink RX9 167 (TX9 13).1 (TX9 13).2.1 (TX9 13).2.2.1 ∈ am_tbl := ri_lw_in (pl := 795) (by decide +kernel)
theorem fl_X9_31 : Cond.fieldLink RX9 31 (TX9 12).1 (TX9 12).2.1 (TX9 12).2.2.1 ∈ am_tbl := ri_lw_in (pl := 794) (by decide +kernel)
theorem ok_X9_takeRing : am_okM m_X9_takeRing 1 ∧ Cond.instanceMethod m_X9_takeRing.1 ∈ am_tbl ∧ Cond.selects m_X9_takeRing.1.cls m_X9_takeRing.1 m_X9_takeRing.1 ∈ am_tbl := ri_mk1 1079 93 1078 61 (by decide +kernel)
theorem k_X9_takeRing {r : Int} {F A : gs_F} (hI : gs_I F A) (hr : 0 ≤ r ∧ r < 12) : ∀ nN : Nat, (∀ (k : Int)  (F1 A1 : gs_F), gs_I F1 A1 → gs_fr (fun c j => c = 106 ∧ j = 13) (fun c => c = 114) F A F1 A1 → 0 ≤ k ∧ k ≤ F1 106 13 → F1 106 13 ≤ 60 → F1 106 13 = A 108 r.toNat → F1 106 13 - k < (nN : Int) → sA m_X9_takeRing 1 (fun rv F' A' => rv = none ∧ gs_I F' A' ∧ gs_fr (fun c j => c = 106 ∧ j = 13) (fun c => c = 114) F A F' A' ∧ (F' 106 13 = A 108 r.toNat)) 12 [(2, gs_iv k), (0, .ref 106), (1, gs_iv r)] [] F1 A1) := by
  intro nN
  induction nN with
  | zero =>
    exact fun a0 a1 a2 a3 a4 i0 i1 i2 hm => by exfalso; omega
  | succ nN ih =>
    intro k F1 A1 hI1 hf1 i0 i1 i2 hm
    have b1 : (0 : Int) ≤ F1 106 13 ∧ F1 106 13 ≤ 400 := hI1.1 106 13
    refine sA_iload_n dd_X9_takeRing_12 rfl (.head _) ?_
    refine sA_aload_n dd_X9_takeRing_13 rfl (.tail _ (.head _)) ?_
    refine sA_geti (ci := 9) (j := 13) (q := (RX9, TX9, 28)) dd_X9_takeRing_14 rfl (by decide) fl_X9_167 (by decide) gs_s106 rfl ?_
    refine sA_icmp_ge (tgt := 43) dd_X9_takeRing_17 (by decide) (by omega) (by omega) (fun q2 => ?_) (fun q2 => ?_)
    · skip
      refine sA_vret dd_X9_takeRing_43 rfl ?_
      exact ⟨rfl, hI1, hf1, by omega⟩
    · skip
      refine sA_aload_n dd_X9_takeRing_20 rfl (.tail _ (.head _)) ?_
      refine sA_getr (ci := 9) (j := 12) (q := (RX9, TX9, 28)) dd_X9_takeRing_21 rfl (by decide) fl_X9_31 (by decide) gs_s106 rfl ?_
      refine sA_iload_n dd_X9_takeRing_24 rfl (.head _) ?_
      refine sA_aload_n dd_X9_takeRing_25 rfl (.tail _ (.head _)) ?_
      refine sA_getr (ci := 9) (j := 5) (q := (RX9, TX9, 28)) dd_X9_takeRing_26 rfl (by decide) fl_X9_16 (by decide) gs_s106 rfl ?_
      refine sA_bipush (z := 60) dd_X9_takeRing_29 (by decide) ?_
      refine sA_iload_n dd_X9_takeRing_31 rfl (.tail _ (.tail _ (.head _))) ?_
      refine sA_imul dd_X9_takeRing_32 ?_
      refine sA_iload_n dd_X9_takeRing_33 rfl (.head _) ?_
      refine sA_iadd dd_X9_takeRing_34 ?_
      refine sA_iald (n := 720) dd_X9_takeRing_35 (by decide) gs_s109 (by omega) (by decide) ?_
      have b3 : (-9 : Int) ≤ A1 109 ((60 * r) + k).toNat ∧ A1 109 ((60 * r) + k).toNat ≤ 9 := hI1.2 109 ((60 * r) + k).toNat
      refine sA_iast (n := 401) dd_X9_takeRing_36 (by decide) gs_s114 (by omega) (by decide) ?_
      have I5 : gs_I F1 (gs_up A1 114 k.toNat (A1 109 ((60 * r) + k).toNat)) := gs_I_ast hI1 (show (-9 : Int) ≤ A1 109 ((60 * r) + k).toNat ∧ A1 109 ((60 * r) + k).toNat ≤ 9 by omega)
      have f6 := gs_fr_ast hf1 (a := 114) (z := A1 109 ((60 * r) + k).toNat) (i := k.toNat) (by first | omega | (dsimp only; omega) | (dsimp only))
      generalize gs_up A1 114 k.toNat (A1 109 ((60 * r) + k).toNat) = A4 at I5 f6 ⊢
      refine sA_iinc (lv' := [(2, gs_iv (k + 1)), (0, .ref 106), (1, gs_iv r)]) dd_X9_takeRing_37 (.head _) (by decide) rfl ?_
      refine sA_goto (tgt := 12) dd_X9_takeRing_40 (by decide) ?_
      refine sA_sub (lv2 := [(2, gs_iv (k + 1)), (0, .ref 106), (1, gs_iv r)]) (List.forall_mem_cons.mpr ⟨(.head _), (List.forall_mem_cons.mpr ⟨(.tail _ (.head _)), (List.forall_mem_cons.mpr ⟨(.tail _ (.tail _ (.head _))), (fun _ h => absurd h List.not_mem_nil)⟩)⟩)⟩) ?_
      exact ih (k + 1) F1 A4 I5 f6 (by omega) (by omega) (by omega) (by omega)
theorem c_X9_takeRing {r : Int} {F A : gs_F} (hI : gs_I F A) (hr : 0 ≤ r ∧ r < 12) : sC m_X9_takeRing 1 [.ref 106, gs_iv r] F A (fun rv F' A' => rv = none ∧ gs_I F' A' ∧ gs_fr (fun c j => c = 106 ∧ j = 13) (fun c => c = 114) F A F' A' ∧ (F' 106 13 = A 108 r.toNat)) := by
  refine sC_of ok_X9_takeRing.1 (Nat.le_of_ble_eq_true rfl) ?_
  show sA _ _ _ 0 [(0, .ref 106), (1, gs_iv r)] [] F A
  have hf : gs_fr (fun c j => c = 106 ∧ j = 13) (fun c => c = 114) F A F A := gs_fr_refl _ _ _ _
  have b7 : (0 : Int) ≤ F 106 13 ∧ F 106 13 ≤ 400 := hI.1 106 13
  refine sA_aload_n dd_X9_takeRing_0 rfl (.head _) ?_
  refine sA_aload_n dd_X9_takeRing_1 rfl (.head _) ?_
  refine sA_getr (ci := 9) (j := 4) (q := (RX9, TX9, 28)) dd_X9_takeRing_2 rfl (by decide) fl_X9_13 (by decide) gs_s106 rfl ?_
  refine sA_iload_n dd_X9_takeRing_5 rfl (.tail _ (.head _)) ?_
  refine sA_iald (n := 12) dd_X9_takeRing_6 (by decide) gs_s108 (by omega) (by decide) ?_
  have b8 : (0 : Int) ≤ A 108 r.toNat ∧ A 108 r.toNat ≤ 60 := hI.2 108 r.toNat
  refine sA_put (ci := 9) (j := 13) (q := (RX9, TX9, 28)) (ty := .int) dd_X9_takeRing_7 rfl (by decide) fl_X9_167 rfl (tyX9_ok 13 (by decide)) rfl rfl (by decide) gs_s106 rfl ?_
  have I10 : gs_I (gs_up F 106 13 (A 108 r.toNat)) A := gs_I_put hI (show (0 : Int) ≤ A 108 r.toNat ∧ A 108 r.toNat ≤ 400 by omega)
  have f11 := gs_fr_put hf (a := 106) (z := A 108 r.toNat) (j := 13) (by first | omega | (dsimp only; omega) | (dsimp only))
  have v12 : gs_up F 106 13 (A 108 r.toNat) 106 13 = A 108 r.toNat := gs_up_self _ _ _ _
  generalize gs_up F 106 13 (A 108 r.toNat) = F9 at I10 f11 v12 ⊢
  refine sA_iconst (z := 0) dd_X9_takeRing_10 ?_
  refine sA_istore_n (lv' := [(2, gs_iv 0), (0, .ref 106), (1, gs_iv r)]) dd_X9_takeRing_11 rfl (by decide) rfl ?_
  have b13 : (0 : Int) ≤ F9 106 13 ∧ F9 106 13 ≤ 400 := I10.1 106 13
  refine sA_sub (lv2 := [(2, gs_iv 0), (0, .ref 106), (1, gs_iv r)]) (List.forall_mem_cons.mpr ⟨(.head _), (List.forall_mem_cons.mpr ⟨(.tail _ (.head _)), (List.forall_mem_cons.mpr ⟨(.tail _ (.tail _ (.head _))), (fun _ h => absurd h List.not_mem_nil)⟩)⟩)⟩) ?_
  exact (k_X9_takeRing hI hr (F9 106 13 - 0 : Int).toNat.succ) 0 F9 A I10 f11 (by omega) (by omega) (by omega) (by omega)
theorem dd_X9_turnV_0 : decode cX9_turnV 0 = .ok (.iconst 0, 1) := by decide +kernel
theorem dd_X9_turnV_1 : decode cX9_turnV 1 = .ok (.istore_n 1, 1) := by decide +kernel
theorem dd_X9_turnV_2 : decode cX9_turnV 2 = .ok (.iload_n 1, 1) := by decide +kernel
theorem dd_X9_turnV_3 : decode cX9_turnV 3 = .ok (.aload_n 0, 1) := by decide +kernel
theorem dd_X9_turnV_4 : decode cX9_turnV 4 = .ok (.getfield 86, 3) := by decide +kernel
theorem dd_X9_turnV_7 : decode cX9_turnV 7 = .ok (.iconst 1, 1) := by decide +kernel
theorem dd_X9_turnV_8 : decode cX9_turnV 8 = .ok (.isub, 1) := by decide +kernel
theorem dd_X9_turnV_9 : decode cX9_turnV 9 = .ok (.iconst 2, 1) := by decide +kernel
theorem dd_X9_turnV_10 : decode cX9_turnV 10 = .ok (.idiv, 1) := by decide +kernel
theorem dd_X9_turnV_11 : decode cX9_turnV 11 = .ok (.if_icmp .gt 55, 3) := by decide +kernel
theorem dd_X9_turnV_14 : decode cX9_turnV 14 = .ok (.aload_n 0, 1) := by decide +kernel
theorem dd_X9_turnV_15 : decode cX9_turnV 15 = .ok (.getfield 28, 3) := by decide +kernel
theorem dd_X9_turnV_18 : decode cX9_turnV 18 = .ok (.iload_n 1, 1) := by decide +kernel
theorem dd_X9_turnV_19 : decode cX9_turnV 19 = .ok (.iaload, 1) := by decide +kernel
theorem dd_X9_turnV_20 : decode cX9_turnV 20 = .ok (.istore_n 2, 1) := by decide +kernel
theorem dd_X9_turnV_21 : decode cX9_turnV 21 = .ok (.aload_n 0, 1) := by decide +kernel
theorem dd_X9_turnV_22 : decode cX9_turnV 22 = .ok (.getfield 28, 3) := by decide +kernel
theorem dd_X9_turnV_25 : decode cX9_turnV 25 = .ok (.aload_n 0, 1) := by decide +kernel
theorem dd_X9_turnV_26 : decode cX9_turnV 26 = .ok (.getfield 86, 3) := by decide +kernel
theorem dd_X9_turnV_29 : decode cX9_turnV 29 = .ok (.iconst 1, 1) := by decide +kernel
theorem dd_X9_turnV_30 : decode cX9_turnV 30 = .ok (.isub, 1) := by decide +kernel
theorem dd_X9_turnV_31 : decode cX9_turnV 31 = .ok (.iload_n 1, 1) := by decide +kernel
theorem dd_X9_turnV_32 : decode cX9_turnV 32 = .ok (.isub, 1) := by decide +kernel
theorem dd_X9_turnV_33 : decode cX9_turnV 33 = .ok (.iaload, 1) := by decide +kernel
theorem dd_X9_turnV_34 : decode cX9_turnV 34 = .ok (.istore_n 3, 1) := by decide +kernel
theorem dd_X9_turnV_35 : decode cX9_turnV 35 = .ok (.aload_n 0, 1) := by decide +kernel
theorem dd_X9_turnV_36 : decode cX9_turnV 36 = .ok (.getfield 28, 3) := by decide +kernel
theorem dd_X9_turnV_39 : decode cX9_turnV 39 = .ok (.iload_n 1, 1) := by decide +kernel
theorem dd_X9_turnV_40 : decode cX9_turnV 40 = .ok (.iconst 0, 1) := by decide +kernel
theorem dd_X9_turnV_41 : decode cX9_turnV 41 = .ok (.iload_n 3, 1) := by decide +kernel
theorem dd_X9_turnV_42 : decode cX9_turnV 42 = .ok (.isub, 1) := by decide +kernel
theorem dd_X9_turnV_43 : decode cX9_turnV 43 = .ok (.iastore, 1) := by decide +kernel
theorem dd_X9_turnV_44 : decode cX9_turnV 44 = .ok (.aload_n 0, 1) := by decide +kernel
theorem dd_X9_turnV_45 : decode cX9_turnV 45 = .ok (.getfield 28, 3) := by decide +kernel
theorem dd_X9_turnV_48 : decode cX9_turnV 48 = .ok (.aload_n 0, 1) := by decide +kernel
theorem dd_X9_turnV_49 : decode cX9_turnV 49 = .ok (.getfield 86, 3) := by decide +kernel
theorem dd_X9_turnV_52 : decode cX9_turnV 52 = .ok (.iconst 1, 1) := by decide +kernel
theorem dd_X9_turnV_53 : decode cX9_turnV 53 = .ok (.isub, 1) := by decide +kernel
theorem dd_X9_turnV_54 : decode cX9_turnV 54 = .ok (.iload_n 1, 1) := by decide +kernel
theorem dd_X9_turnV_55 : decode cX9_turnV 55 = .ok (.isub, 1) := by decide +kernel
theorem dd_X9_turnV_56 : decode cX9_turnV 56 = .ok (.iconst 0, 1) := by decide +kernel
theorem dd_X9_turnV_57 : decode cX9_turnV 57 = .ok (.iload_n 2, 1) := by decide +kernel
theorem dd_X9_turnV_58 : decode cX9_turnV 58 = .ok (.isub, 1) := by decide +kernel
theorem dd_X9_turnV_59 : decode cX9_turnV 59 = .ok (.iastore, 1) := by decide +kernel
theorem dd_X9_turnV_60 : decode cX9_turnV 60 = .ok (.iinc 1 1, 3) := by decide +kernel
theorem dd_X9_turnV_63 : decode cX9_turnV 63 = .ok (.goto (-61), 3) := by decide +kernel
theorem dd_X9_turnV_66 : decode cX9_turnV 66 = .ok (.return_, 1) := by decide +kernel
theorem ok_X9_turnV : am_okM m_X9_turnV 0 ∧ Cond.instanceMethod m_X9_turnV.1 ∈ am_tbl ∧ Cond.selects m_X9_turnV.1.cls m_X9_turnV.1 m_X9_turnV.1 ∈ am_tbl := ri_mk1 923 93 922 37 (by decide +kernel)
theorem k_X9_turnV  {F A : gs_F} (hI : gs_I F A) (hv : 1 ≤ F 106 11) : ∀ nN : Nat, (∀ (k : Int)  (F1 A1 : gs_F), gs_I F1 A1 → gs_fr (fun _ _ => False) (fun c => c = 113) F A F1 A1 → 0 ≤ k ∧ 2 * k ≤ F1 106 11 + 1 → 1 ≤ F1 106 11 ∧ F1 106 11 ≤ 60 → 100 - k < (nN : Int) → sA m_X9_turnV 1 (fun rv F' A' => rv = none ∧ gs_I F' A' ∧ gs_fr (fun _ _ => False) (fun c => c = 113) F A F' A' ∧ (True)) 2 [(1, gs_iv k), (0, .ref 106)] [] F1 A1) := by
  intro nN
  induction nN with
  | zero =>
    exact fun a0 a1 a2 a3 a4 i0 i1 hm => by exfalso; omega
  | succ nN ih =>
    intro k F1 A1 hI1 hf1 i0 i1 hm
    have b1 : (0 : Int) ≤ F1 106 11 ∧ F1 106 11 ≤ 60 := hI1.1 106 11
    refine sA_iload_n dd_X9_turnV_2 rfl (.head _) ?_
    refine sA_aload_n dd_X9_turnV_3 rfl (.tail _ (.head _)) ?_
    refine sA_geti (ci := 9) (j := 11) (q := (RX9, TX9, 28)) dd_X9_turnV_4 rfl (by decide) fl_X9_86 (by decide) gs_s106 rfl ?_
    refine sA_iconst (z := 1) dd_X9_turnV_7 ?_
    refine sA_isub dd_X9_turnV_8 ?_
    refine sA_iconst (z := 2) dd_X9_turnV_9 ?_
    refine sA_idivN dd_X9_turnV_10 (by omega) (by omega) (by omega) ?_
    refine sA_icmp_gt (tgt := 66) dd_X9_turnV_11 (by decide) (by omega) (by omega) (fun q2 => ?_) (fun q2 => ?_)
    · skip
      refine sA_vret dd_X9_turnV_66 rfl ?_
      exact ⟨rfl, hI1, hf1, trivial⟩
    · skip
      refine sA_aload_n dd_X9_turnV_14 rfl (.tail _ (.head _)) ?_
      refine sA_getr (ci := 9) (j := 10) (q := (RX9, TX9, 28)) dd_X9_turnV_15 rfl (by decide) fl_X9_28 (by decide) gs_s106 rfl ?_
      refine sA_iload_n dd_X9_turnV_18 rfl (.head _) ?_
      refine sA_iald (n := 400) dd_X9_turnV_19 (by decide) gs_s113 (by omega) (by decide) ?_
      have b3 : (-9 : Int) ≤ A1 113 k.toNat ∧ A1 113 k.toNat ≤ 9 := hI1.2 113 k.toNat
      refine sA_istore_n (lv' := [(2, gs_iv (A1 113 k.toNat)), (1, gs_iv k), (0, .ref 106)]) dd_X9_turnV_20 rfl (by decide) rfl ?_
      refine sA_aload_n dd_X9_turnV_21 rfl (.tail _ (.tail _ (.head _))) ?_
      refine sA_getr (ci := 9) (j := 10) (q := (RX9, TX9, 28)) dd_X9_turnV_22 rfl (by decide) fl_X9_28 (by decide) gs_s106 rfl ?_
      refine sA_aload_n dd_X9_turnV_25 rfl (.tail _ (.tail _ (.head _))) ?_
      refine sA_geti (ci := 9) (j := 11) (q := (RX9, TX9, 28)) dd_X9_turnV_26 rfl (by decide) fl_X9_86 (by decide) gs_s106 rfl ?_
      refine sA_iconst (z := 1) dd_X9_turnV_29 ?_
      refine sA_isub dd_X9_turnV_30 ?_
      refine sA_iload_n dd_X9_turnV_31 rfl (.tail _ (.head _)) ?_
      refine sA_isub dd_X9_turnV_32 ?_
      refine sA_iald (n := 400) dd_X9_turnV_33 (by decide) gs_s113 (by omega) (by decide) ?_
      have b4 : (-9 : Int) ≤ A1 113 (((F1 106 11) - 1) - k).toNat ∧ A1 113 (((F1 106 11) - 1) - k).toNat ≤ 9 := hI1.2 113 (((F1 106 11) - 1) - k).toNat
      refine sA_istore_n (lv' := [(3, gs_iv (A1 113 (((F1 106 11) - 1) - k).toNat)), (2, gs_iv (A1 113 k.toNat)), (1, gs_iv k), (0, .ref 106)]) dd_X9_turnV_34 rfl (by decide) rfl ?_
      refine sA_aload_n dd_X9_turnV_35 rfl (.tail _ (.tail _ (.tail _ (.head _)))) ?_
      refine sA_getr (ci := 9) (j := 10) (q := (RX9, TX9, 28)) dd_X9_turnV_36 rfl (by decide) fl_X9_28 (by decide) gs_s106 rfl ?_
      refine sA_iload_n dd_X9_turnV_39 rfl (.tail _ (.tail _ (.head _))) ?_
      refine sA_iconst (z := 0) dd_X9_turnV_40 ?_
      refine sA_iload_n dd_X9_turnV_41 rfl (.head _) ?_
      refine sA_isub dd_X9_turnV_42 ?_
      refine sA_iast (n := 400) dd_X9_turnV_43 (by decide) gs_s113 (by omega) (by decide) ?_
      have I6 : gs_I F1 (gs_up A1 113 k.toNat (0 - (A1 113 (((F1 106 11) - 1) - k).toNat))) := gs_I_ast hI1 (show (-9 : Int) ≤ 0 - (A1 113 (((F1 106 11) - 1) - k).toNat) ∧ 0 - (A1 113 (((F1 106 11) - 1) - k).toNat) ≤ 9 by omega)
      have f7 := gs_fr_ast hf1 (a := 113) (z := 0 - (A1 113 (((F1 106 11) - 1) - k).toNat)) (i := k.toNat) (by first | omega | (dsimp only; omega) | (dsimp only))
      generalize gs_up A1 113 k.toNat (0 - (A1 113 (((F1 106 11) - 1) - k).toNat)) = A5 at I6 f7 ⊢
      refine sA_aload_n dd_X9_turnV_44 rfl (.tail _ (.tail _ (.tail _ (.head _)))) ?_
      refine sA_getr (ci := 9) (j := 10) (q := (RX9, TX9, 28)) dd_X9_turnV_45 rfl (by decide) fl_X9_28 (by decide) gs_s106 rfl ?_
      refine sA_aload_n dd_X9_turnV_48 rfl (.tail _ (.tail _ (.tail _ (.head _)))) ?_
      refine sA_geti (ci := 9) (j := 11) (q := (RX9, TX9, 28)) dd_X9_turnV_49 rfl (by decide) fl_X9_86 (by decide) gs_s106 rfl ?_
      refine sA_iconst (z := 1) dd_X9_turnV_52 ?_
      refine sA_isub dd_X9_turnV_53 ?_
      refine sA_iload_n dd_X9_turnV_54 rfl (.tail _ (.tail _ (.head _))) ?_
      refine sA_isub dd_X9_turnV_55 ?_
      refine sA_iconst (z := 0) dd_X9_turnV_56 ?_
      refine sA_iload_n dd_X9_turnV_57 rfl (.tail _ (.head _)) ?_
      refine sA_isub dd_X9_turnV_58 ?_
      refine sA_iast (n := 400) dd_X9_turnV_59 (by decide) gs_s113 (by omega) (by decide) ?_
      have I9 : gs_I F1 (gs_up A5 113 ((((F1 106 11) - 1) - k).toNat) (0 - (A1 113 k.toNat))) := gs_I_ast I6 (show (-9 : Int) ≤ 0 - (A1 113 k.toNat) ∧ 0 - (A1 113 k.toNat) ≤ 9 by omega)
      have f10 := gs_fr_ast f7 (a := 113) (z := 0 - (A1 113 k.toNat)) (i := (((F1 106 11) - 1) - k).toNat) (by first | omega | (dsimp only; omega) | (dsimp only))
      generalize gs_up A5 113 ((((F1 106 11) - 1) - k).toNat) (0 - (A1 113 k.toNat)) = A8 at I9 f10 ⊢
      refine sA_iinc (lv' := [(1, gs_iv (k + 1)), (3, gs_iv (A1 113 (((F1 106 11) - 1) - k).toNat)), (2, gs_iv (A1 113 k.toNat)), (0, .ref 106)]) dd_X9_turnV_60 (.tail _ (.tail _ (.head _))) (by decide) rfl ?_
      refine sA_goto (tgt := 2) dd_X9_turnV_63 (by decide) ?_
      refine sA_sub (lv2 := [(1, gs_iv (k + 1)), (0, .ref 106)]) (List.forall_mem_cons.mpr ⟨(.head _), (List.forall_mem_cons.mpr ⟨(.tail _ (.tail _ (.tail _ (.head _)))), (fun _ h => absurd h List.not_mem_nil)⟩)⟩) ?_
      exact ih (k + 1) F1 A8 I9 f10 (by omega) (by omega) (by omega)
theorem c_X9_turnV  {F A : gs_F} (hI : gs_I F A) (hv : 1 ≤ F 106 11) : sC m_X9_turnV 1 [.ref 106] F A (fun rv F' A' => rv = none ∧ gs_I F' A' ∧ gs_fr (fun _ _ => False) (fun c => c = 113) F A F' A' ∧ (True)) := by
  refine sC_of ok_X9_turnV.1 (Nat.le_of_ble_eq_true rfl) ?_
  show sA _ _ _ 0 [(0, .ref 106)] [] F A
  have hf : gs_fr (fun _ _ => False) (fun c => c = 113) F A F A := gs_fr_refl _ _ _ _
  have b11 : (0 : Int) ≤ F 106 11 ∧ F 106 11 ≤ 60 := hI.1 106 11
  refine sA_iconst (z := 0) dd_X9_turnV_0 ?_
  refine sA_istore_n (lv' := [(1, gs_iv 0), (0, .ref 106)]) dd_X9_turnV_1 rfl (by decide) rfl ?_
  refine sA_sub (lv2 := [(1, gs_iv 0), (0, .ref 106)]) (List.forall_mem_cons.mpr ⟨(.head _), (List.forall_mem_cons.mpr ⟨(.tail _ (.head _)), (fun _ h => absurd h List.not_mem_nil)⟩)⟩) ?_
  exact (k_X9_turnV hI hv (100 - 0 : Int).toNat.succ) 0 F A hI hf (by omega) (by omega) (by omega)
theorem dd_X9_ofU_0 : decode cX9_ofU 0 = .ok (.aload_n 0, 1) := by decide +kernel
theorem dd_X9_ofU_1 : decode cX9_ofU 1 = .ok (.getfield 25, 3) := by decide +kernel
theorem dd_X9_ofU_4 : decode cX9_ofU 4 = .ok (.iload_n 1, 1) := by decide +kernel
theorem dd_X9_ofU_5 : decode cX9_ofU 5 = .ok (.aload_n 0, 1) := by decide +kernel
theorem dd_X9_ofU_6 : decode cX9_ofU 6 = .ok (.getfield 83, 3) := by decide +kernel
theorem dd_X9_ofU_9 : decode cX9_ofU 9 = .ok (.irem, 1) := by decide +kernel
theorem dd_X9_ofU_10 : decode cX9_ofU 10 = .ok (.iaload, 1) := by decide +kernel
theorem dd_X9_ofU_11 : decode cX9_ofU 11 = .ok (.ireturn, 1) := by decide +kernel
theorem ok_X9_ofU : am_okM m_X9_ofU 1 ∧ Cond.instanceMethod m_X9_ofU.1 ∈ am_tbl ∧ Cond.selects m_X9_ofU.1.cls m_X9_ofU.1 m_X9_ofU.1 ∈ am_tbl := ri_mk1 919 93 918 36 (by decide +kernel)
theorem c_X9_ofU {i : Int} {F A : gs_F} (hI : gs_I F A) (hi : 0 ≤ i ∧ i ≤ 100000) (hs : 1 ≤ F 106 9) : sC m_X9_ofU 1 [.ref 106, gs_iv i] F A (fun rv F' A' => ∃ z : Int, rv = some (gs_iv z) ∧ F = F' ∧ A = A' ∧ (-9 ≤ z ∧ z ≤ 9)) := by
  refine sC_of ok_X9_ofU.1 (Nat.le_of_ble_eq_true rfl) ?_
  show sA _ _ _ 0 [(0, .ref 106), (1, gs_iv i)] [] F A
  refine sA_aload_n dd_X9_ofU_0 rfl (.head _) ?_
  refine sA_getr (ci := 9) (j := 8) (q := (RX9, TX9, 28)) dd_X9_ofU_1 rfl (by decide) fl_X9_25 (by decide) gs_s106 rfl ?_
  refine sA_iload_n dd_X9_ofU_4 rfl (.tail _ (.head _)) ?_
  refine sA_aload_n dd_X9_ofU_5 rfl (.head _) ?_
  refine sA_geti (ci := 9) (j := 9) (q := (RX9, TX9, 28)) dd_X9_ofU_6 rfl (by decide) fl_X9_83 (by decide) gs_s106 rfl ?_
  have b1 : (0 : Int) ≤ F 106 9 ∧ F 106 9 ≤ 400 := hI.1 106 9
  refine sA_iremN dd_X9_ofU_9 (by omega) (by omega) (by omega) ?_
  have hm1 := Int.emod_nonneg i (show F 106 9 ≠ 0 by omega)
  have hm2 := Int.emod_lt_of_pos i (show 0 < F 106 9 by omega)
  refine sA_iald (n := 400) dd_X9_ofU_10 (by decide) gs_s112 (by omega) (by decide) ?_
  have b2 : (-9 : Int) ≤ A 112 (i % (F 106 9)).toNat ∧ A 112 (i % (F 106 9)).toNat ≤ 9 := hI.2 112 (i % (F 106 9)).toNat
  refine sA_iret (z := A 112 (i % (F 106 9)).toNat) dd_X9_ofU_11 rfl ?_
  exact ⟨_, rfl, rfl, rfl, by omega⟩
theorem dd_X9_ofV_0 : decode cX9_ofV 0 = .ok (.aload_n 0, 1) := by decide +kernel
theorem dd_X9_ofV_1 : decode cX9_ofV 1 = .ok (.getfield 28, 3) := by decide +kernel
theorem dd_X9_ofV_4 : decode cX9_ofV 4 = .ok (.iload_n 1, 1) := by decide +kernel
theorem dd_X9_ofV_5 : decode cX9_ofV 5 = .ok (.aload_n 0, 1) := by decide +kernel
theorem dd_X9_ofV_6 : decode cX9_ofV 6 = .ok (.getfield 86, 3) := by decide +kernel
theorem dd_X9_ofV_9 : decode cX9_ofV 9 = .ok (.irem, 1) := by decide +kernel
theorem dd_X9_ofV_10 : decode cX9_ofV 10 = .ok (.iaload, 1) := by decide +kernel
theorem dd_X9_ofV_11 : decode cX9_ofV 11 = .ok (.ireturn, 1) := by decide +kernel
theorem ok_X9_ofV : am_okM m_X9_ofV 1 ∧ Cond.instanceMethod m_X9_ofV.1 ∈ am_tbl ∧ Cond.selects m_X9_ofV.1.cls m_X9_ofV.1 m_X9_ofV.1 ∈ am_tbl := ri_mk1 950 93 949 42 (by decide +kernel)
theorem c_X9_ofV {i : Int} {F A : gs_F} (hI : gs_I F A) (hi : 0 ≤ i ∧ i ≤ 100000) (hs : 1 ≤ F 106 11) : sC m_X9_ofV 1 [.ref 106, gs_iv i] F A (fun rv F' A' => ∃ z : Int, rv = some (gs_iv z) ∧ F = F' ∧ A = A' ∧ (-9 ≤ z ∧ z ≤ 9)) := by
  refine sC_of ok_X9_ofV.1 (Nat.le_of_ble_eq_true rfl) ?_
  show sA _ _ _ 0 [(0, .ref 106), (1, gs_iv i)] [] F A
  refine sA_aload_n dd_X9_ofV_0 rfl (.head _) ?_
  refine sA_getr (ci := 9) (j := 10) (q := (RX9, TX9, 28)) dd_X9_ofV_1 rfl (by decide) fl_X9_28 (by decide) gs_s106 rfl ?_
  refine sA_iload_n dd_X9_ofV_4 rfl (.tail _ (.head _)) ?_
  refine sA_aload_n dd_X9_ofV_5 rfl (.head _) ?_
  refine sA_geti (ci := 9) (j := 11) (q := (RX9, TX9, 28)) dd_X9_ofV_6 rfl (by decide) fl_X9_86 (by decide) gs_s106 rfl ?_
  have b1 : (0 : Int) ≤ F 106 11 ∧ F 106 11 ≤ 60 := hI.1 106 11
  refine sA_iremN dd_X9_ofV_9 (by omega) (by omega) (by omega) ?_
  have hm1 := Int.emod_nonneg i (show F 106 11 ≠ 0 by omega)
  have hm2 := Int.emod_lt_of_pos i (show 0 < F 106 11 by omega)
  refine sA_iald (n := 400) dd_X9_ofV_10 (by decide) gs_s113 (by omega) (by decide) ?_
  have b2 : (-9 : Int) ≤ A 113 (i % (F 106 11)).toNat ∧ A 113 (i % (F 106 11)).toNat ≤ 9 := hI.2 113 (i % (F 106 11)).toNat
  refine sA_iret (z := A 113 (i % (F 106 11)).toNat) dd_X9_ofV_11 rfl ?_
  exact ⟨_, rfl, rfl, rfl, by omega⟩
theorem dd_X9_isTurned_0 : decode cX9_isTurned 0 = .ok (.iconst 0, 1) := by decide +kernel
theorem dd_X9_isTurned_1 : decode cX9_isTurned 1 = .ok (.istore_n 1, 1) := by decide +kernel
theorem dd_X9_isTurned_2 : decode cX9_isTurned 2 = .ok (.iload_n 1, 1) := by decide +kernel
theorem dd_X9_isTurned_3 : decode cX9_isTurned 3 = .ok (.aload_n 0, 1) := by decide +kernel
theorem dd_X9_isTurned_4 : decode cX9_isTurned 4 = .ok (.getfield 83, 3) := by decide +kernel
theorem dd_X9_isTurned_7 : decode cX9_isTurned 7 = .ok (.if_icmp .ge 59, 3) := by decide +kernel
theorem dd_X9_isTurned_10 : decode cX9_isTurned 10 = .ok (.iconst 1, 1) := by decide +kernel
theorem dd_X9_isTurned_11 : decode cX9_isTurned 11 = .ok (.istore_n 2, 1) := by decide +kernel
theorem dd_X9_isTurned_12 : decode cX9_isTurned 12 = .ok (.iconst 0, 1) := by decide +kernel
theorem dd_X9_isTurned_13 : decode cX9_isTurned 13 = .ok (.istore_n 3, 1) := by decide +kernel
theorem dd_X9_isTurned_14 : decode cX9_isTurned 14 = .ok (.iload_n 3, 1) := by decide +kernel
theorem dd_X9_isTurned_15 : decode cX9_isTurned 15 = .ok (.aload_n 0, 1) := by decide +kernel
theorem dd_X9_isTurned_16 : decode cX9_isTurned 16 = .ok (.getfield 83, 3) := by decide +kernel
theorem dd_X9_isTurned_19 : decode cX9_isTurned 19 = .ok (.if_icmp .ge 35, 3) := by decide +kernel
theorem dd_X9_isTurned_22 : decode cX9_isTurned 22 = .ok (.iload_n 2, 1) := by decide +kernel
theorem dd_X9_isTurned_23 : decode cX9_isTurned 23 = .ok (.ifCond .eq 31, 3) := by decide +kernel
theorem dd_X9_isTurned_26 : decode cX9_isTurned 26 = .ok (.aload_n 0, 1) := by decide +kernel
theorem dd_X9_isTurned_27 : decode cX9_isTurned 27 = .ok (.iload_n 1, 1) := by decide +kernel
theorem dd_X9_isTurned_28 : decode cX9_isTurned 28 = .ok (.iload_n 3, 1) := by decide +kernel
theorem dd_X9_isTurned_29 : decode cX9_isTurned 29 = .ok (.iadd, 1) := by decide +kernel
theorem dd_X9_isTurned_30 : decode cX9_isTurned 30 = .ok (.invokevirtual 89, 3) := by decide +kernel
theorem dd_X9_isTurned_33 : decode cX9_isTurned 33 = .ok (.aload_n 0, 1) := by decide +kernel
theorem dd_X9_isTurned_34 : decode cX9_isTurned 34 = .ok (.getfield 28, 3) := by decide +kernel
theorem dd_X9_isTurned_37 : decode cX9_isTurned 37 = .ok (.iload_n 3, 1) := by decide +kernel
theorem dd_X9_isTurned_38 : decode cX9_isTurned 38 = .ok (.iaload, 1) := by decide +kernel
theorem dd_X9_isTurned_39 : decode cX9_isTurned 39 = .ok (.if_icmp .ne 7, 3) := by decide +kernel
theorem dd_X9_isTurned_42 : decode cX9_isTurned 42 = .ok (.iconst 1, 1) := by decide +kernel
theorem dd_X9_isTurned_43 : decode cX9_isTurned 43 = .ok (.goto 4, 3) := by decide +kernel
theorem dd_X9_isTurned_46 : decode cX9_isTurned 46 = .ok (.iconst 0, 1) := by decide +kernel
theorem dd_X9_isTurned_47 : decode cX9_isTurned 47 = .ok (.istore_n 2, 1) := by decide +kernel
theorem dd_X9_isTurned_48 : decode cX9_isTurned 48 = .ok (.iinc 3 1, 3) := by decide +kernel
theorem dd_X9_isTurned_51 : decode cX9_isTurned 51 = .ok (.goto (-37), 3) := by decide +kernel
theorem dd_X9_isTurned_54 : decode cX9_isTurned 54 = .ok (.iload_n 2, 1) := by decide +kernel
theorem dd_X9_isTurned_55 : decode cX9_isTurned 55 = .ok (.ifCond .eq 5, 3) := by decide +kernel
theorem dd_X9_isTurned_58 : decode cX9_isTurned 58 = .ok (.iconst 1, 1) := by decide +kernel
theorem dd_X9_isTurned_59 : decode cX9_isTurned 59 = .ok (.ireturn, 1) := by decide +kernel
theorem dd_X9_isTurned_60 : decode cX9_isTurned 60 = .ok (.iinc 1 1, 3) := by decide +kernel
theorem dd_X9_isTurned_63 : decode cX9_isTurned 63 = .ok (.goto (-61), 3) := by decide +kernel
theorem dd_X9_isTurned_66 : decode cX9_isTurned 66 = .ok (.iconst 0, 1) := by decide +kernel
theorem dd_X9_isTurned_67 : decode cX9_isTurned 67 = .ok (.ireturn, 1) := by decide +kernel
theorem ml_X9_89 : Cond.methodLink RX9 89 m_X9_ofU.1 ∈ am_tbl := ri_lw_in (pl := 916) (by decide +kernel)
theorem ok_X9_isTurned : am_okM m_X9_isTurned 0 ∧ Cond.instanceMethod m_X9_isTurned.1 ∈ am_tbl ∧ Cond.selects m_X9_isTurned.1.cls m_X9_isTurned.1 m_X9_isTurned.1 ∈ am_tbl := ri_mk1 915 93 914 35 (by decide +kernel)
theorem k_X9_isTurned  {F A : gs_F} (hI : gs_I F A)  : ∀ nN : Nat, (∀ (s : Int),  0 ≤ s ∧ s ≤ F 106 9 → (F 106 9 - s) * 402 + 1 < (nN : Int) → sA m_X9_isTurned 2 (fun rv F' A' => ∃ z : Int, rv = some (gs_iv z) ∧ F = F' ∧ A = A' ∧ (z = 0 ∨ z = 1)) 2 [(1, gs_iv s), (0, .ref 106)] [] F A) ∧ (∀ (s : Int) (b : Int) (k : Int),  0 ≤ s ∧ s < F 106 9 → b = 0 ∨ b = 1 → 0 ≤ k ∧ k ≤ F 106 9 → F 106 9 ≤ 400 → (F 106 9 - s) * 402 - k < (nN : Int) → sA m_X9_isTurned 2 (fun rv F' A' => ∃ z : Int, rv = some (gs_iv z) ∧ F = F' ∧ A = A' ∧ (z = 0 ∨ z = 1)) 14 [(3, gs_iv k), (2, gs_iv b), (1, gs_iv s), (0, .ref 106)] [] F A) := by
  intro nN
  induction nN with
  | zero =>
    exact ⟨fun a0 i0 hm => by exfalso; omega, fun a0 a1 a2 i0 i1 i2 i3 hm => by exfalso; omega⟩
  | succ nN ih =>
    refine ⟨?_, ?_⟩
    · skip
      intro s i0 hm
      have hb9 : (0 : Int) ≤ F 106 9 ∧ F 106 9 ≤ 400 := hI.1 106 9
      refine sA_iload_n dd_X9_isTurned_2 rfl (.head _) ?_
      refine sA_aload_n dd_X9_isTurned_3 rfl (.tail _ (.head _)) ?_
      refine sA_geti (ci := 9) (j := 9) (q := (RX9, TX9, 28)) dd_X9_isTurned_4 rfl (by decide) fl_X9_83 (by decide) gs_s106 rfl ?_
      have b1 : (0 : Int) ≤ F 106 9 ∧ F 106 9 ≤ 400 := hI.1 106 9
      refine sA_icmp_ge (tgt := 66) dd_X9_isTurned_7 (by decide) (by omega) (by omega) (fun q2 => ?_) (fun q2 => ?_)
      · skip
        refine sA_iconst (z := 0) dd_X9_isTurned_66 ?_
        refine sA_bret (z := 0) dd_X9_isTurned_67 rfl (by omega) ?_
        exact ⟨_, rfl, rfl, rfl, by omega⟩
      · skip
        refine sA_iconst (z := 1) dd_X9_isTurned_10 ?_
        refine sA_istore_n (lv' := [(2, gs_iv 1), (1, gs_iv s), (0, .ref 106)]) dd_X9_isTurned_11 rfl (by decide) rfl ?_
        refine sA_iconst (z := 0) dd_X9_isTurned_12 ?_
        refine sA_istore_n (lv' := [(3, gs_iv 0), (2, gs_iv 1), (1, gs_iv s), (0, .ref 106)]) dd_X9_isTurned_13 rfl (by decide) rfl ?_
        refine sA_sub (lv2 := [(3, gs_iv 0), (2, gs_iv 1), (1, gs_iv s), (0, .ref 106)]) (List.forall_mem_cons.mpr ⟨(.head _), (List.forall_mem_cons.mpr ⟨(.tail _ (.head _)), (List.forall_mem_cons.mpr ⟨(.tail _ (.tail _ (.head _))), (List.forall_mem_cons.mpr ⟨(.tail _ (.tail _ (.tail _ (.head _)))), (fun _ h => absurd h List.not_mem_nil)⟩)⟩)⟩)⟩) ?_
        exact ih.2 s 1 0  (by omega) (by omega) (by omega) (by omega) (by omega)
    · skip
      intro s b k i0 i1 i2 i3 hm
      have hb9 : (0 : Int) ≤ F 106 9 ∧ F 106 9 ≤ 400 := hI.1 106 9
      refine sA_iload_n dd_X9_isTurned_14 rfl (.head _) ?_
      refine sA_aload_n dd_X9_isTurned_15 rfl (.tail _ (.tail _ (.tail _ (.head _)))) ?_
      refine sA_geti (ci := 9) (j := 9) (q := (RX9, TX9, 28)) dd_X9_isTurned_16 rfl (by decide) fl_X9_83 (by decide) gs_s106 rfl ?_
      have b3 : (0 : Int) ≤ F 106 9 ∧ F 106 9 ≤ 400 := hI.1 106 9
      refine sA_icmp_ge (tgt := 54) dd_X9_isTurned_19 (by decide) (by omega) (by omega) (fun q4 => ?_) (fun q4 => ?_)
      · skip
        refine sA_iload_n dd_X9_isTurned_54 rfl (.tail _ (.head _)) ?_
        refine sA_if_eq (tgt := 60) dd_X9_isTurned_55 (by decide) (by omega) (fun q5 => ?_) (fun q5 => ?_)
        · skip
          refine sA_iinc (lv' := [(1, gs_iv (s + 1)), (3, gs_iv k), (2, gs_iv b), (0, .ref 106)]) dd_X9_isTurned_60 (.tail _ (.tail _ (.head _))) (by decide) rfl ?_
          refine sA_goto (tgt := 2) dd_X9_isTurned_63 (by decide) ?_
          refine sA_sub (lv2 := [(1, gs_iv (s + 1)), (0, .ref 106)]) (List.forall_mem_cons.mpr ⟨(.head _), (List.forall_mem_cons.mpr ⟨(.tail _ (.tail _ (.tail _ (.head _)))), (fun _ h => absurd h List.not_mem_nil)⟩)⟩) ?_
          exact ih.1 (s + 1)  (by omega) (by omega)
        · skip
          refine sA_iconst (z := 1) dd_X9_isTurned_58 ?_
          refine sA_bret (z := 1) dd_X9_isTurned_59 rfl (by omega) ?_
          exact ⟨_, rfl, rfl, rfl, by omega⟩
      · skip
        refine sA_iload_n dd_X9_isTurned_22 rfl (.tail _ (.head _)) ?_
        refine sA_if_eq (tgt := 54) dd_X9_isTurned_23 (by decide) (by omega) (fun q6 => ?_) (fun q6 => ?_)
        · skip
          refine sA_iload_n dd_X9_isTurned_54 rfl (.tail _ (.head _)) ?_
          refine sA_if_eq (tgt := 60) dd_X9_isTurned_55 (by decide) (by omega) (fun q7 => ?_) (fun q7 => absurd q7 (by omega))
          refine sA_iinc (lv' := [(1, gs_iv (s + 1)), (3, gs_iv k), (2, gs_iv b), (0, .ref 106)]) dd_X9_isTurned_60 (.tail _ (.tail _ (.head _))) (by decide) rfl ?_
          refine sA_goto (tgt := 2) dd_X9_isTurned_63 (by decide) ?_
          refine sA_sub (lv2 := [(1, gs_iv (s + 1)), (0, .ref 106)]) (List.forall_mem_cons.mpr ⟨(.head _), (List.forall_mem_cons.mpr ⟨(.tail _ (.tail _ (.tail _ (.head _)))), (fun _ h => absurd h List.not_mem_nil)⟩)⟩) ?_
          exact ih.1 (s + 1)  (by omega) (by omega)
        · skip
          refine sA_aload_n dd_X9_isTurned_26 rfl (.tail _ (.tail _ (.tail _ (.head _)))) ?_
          refine sA_iload_n dd_X9_isTurned_27 rfl (.tail _ (.tail _ (.head _))) ?_
          refine sA_iload_n dd_X9_isTurned_28 rfl (.head _) ?_
          refine sA_iadd dd_X9_isTurned_29 ?_
          refine sA_callV (y2 := m_X9_ofU) (n2 := 1) (d2 := 1) (a := 106) (ci := 9) (q := (RX9, TX9, 28)) (as := [gs_iv (s + k)]) (rest := []) dd_X9_isTurned_30 ok_X9_ofU ml_X9_89 rfl rfl (by decide) gs_s106 rfl rfl (Nat.le_of_ble_eq_true rfl) (by decide) (c_X9_ofU hI (by omega) (by omega)) (fun r8 F9 A10 h11 => ?_)
          obtain ⟨z14, e13, e15, e16, x12⟩ := h11
          subst e13 e15 e16
          show sA _ _ _ 33 _ [gs_iv z14] _ _
          refine sA_aload_n dd_X9_isTurned_33 rfl (.tail _ (.tail _ (.tail _ (.head _)))) ?_
          refine sA_getr (ci := 9) (j := 10) (q := (RX9, TX9, 28)) dd_X9_isTurned_34 rfl (by decide) fl_X9_28 (by decide) gs_s106 rfl ?_
          refine sA_iload_n dd_X9_isTurned_37 rfl (.head _) ?_
          refine sA_iald (n := 400) dd_X9_isTurned_38 (by decide) gs_s113 (by omega) (by decide) ?_
          have b17 : (-9 : Int) ≤ A 113 k.toNat ∧ A 113 k.toNat ≤ 9 := hI.2 113 k.toNat
          refine sA_icmp_ne (tgt := 46) dd_X9_isTurned_39 (by decide) (by omega) (by omega) (fun q18 => ?_) (fun q18 => ?_)
          · skip
            refine sA_iconst (z := 0) dd_X9_isTurned_46 ?_
            refine sA_istore_n (lv' := [(2, gs_iv 0), (3, gs_iv k), (1, gs_iv s), (0, .ref 106)]) dd_X9_isTurned_47 rfl (by decide) rfl ?_
            refine sA_iinc (lv' := [(3, gs_iv (k + 1)), (2, gs_iv 0), (1, gs_iv s), (0, .ref 106)]) dd_X9_isTurned_48 (.tail _ (.head _)) (by decide) rfl ?_
            refine sA_goto (tgt := 14) dd_X9_isTurned_51 (by decide) ?_
            refine sA_sub (lv2 := [(3, gs_iv (k + 1)), (2, gs_iv 0), (1, gs_iv s), (0, .ref 106)]) (List.forall_mem_cons.mpr ⟨(.head _), (List.forall_mem_cons.mpr ⟨(.tail _ (.head _)), (List.forall_mem_cons.mpr ⟨(.tail _ (.tail _ (.head _))), (List.forall_mem_cons.mpr ⟨(.tail _ (.tail _ (.tail _ (.head _)))), (fun _ h => absurd h List.not_mem_nil)⟩)⟩)⟩)⟩) ?_
            exact ih.2 s 0 (k + 1)  (by omega) (by omega) (by omega) (by omega) (by omega)
          · skip
            refine sA_iconst (z := 1) dd_X9_isTurned_42 ?_
            refine sA_goto (tgt := 47) dd_X9_isTurned_43 (by decide) ?_
            refine sA_istore_n (lv' := [(2, gs_iv 1), (3, gs_iv k), (1, gs_iv s), (0, .ref 106)]) dd_X9_isTurned_47 rfl (by decide) rfl ?_
            refine sA_iinc (lv' := [(3, gs_iv (k + 1)), (2, gs_iv 1), (1, gs_iv s), (0, .ref 106)]) dd_X9_isTurned_48 (.tail _ (.head _)) (by decide) rfl ?_
            refine sA_goto (tgt := 14) dd_X9_isTurned_51 (by decide) ?_
            refine sA_sub (lv2 := [(3, gs_iv (k + 1)), (2, gs_iv 1), (1, gs_iv s), (0, .ref 106)]) (List.forall_mem_cons.mpr ⟨(.head _), (List.forall_mem_cons.mpr ⟨(.tail _ (.head _)), (List.forall_mem_cons.mpr ⟨(.tail _ (.tail _ (.head _))), (List.forall_mem_cons.mpr ⟨(.tail _ (.tail _ (.tail _ (.head _)))), (fun _ h => absurd h List.not_mem_nil)⟩)⟩)⟩)⟩) ?_
            exact ih.2 s 1 (k + 1)  (by omega) (by omega) (by omega) (by omega) (by omega)
theorem c_X9_isTurned  {F A : gs_F} (hI : gs_I F A)  : sC m_X9_isTurned 2 [.ref 106] F A (fun rv F' A' => ∃ z : Int, rv = some (gs_iv z) ∧ F = F' ∧ A = A' ∧ (z = 0 ∨ z = 1)) := by
  refine sC_of ok_X9_isTurned.1 (Nat.le_of_ble_eq_true rfl) ?_
  show sA _ _ _ 0 [(0, .ref 106)] [] F A
  have hb9 : (0 : Int) ≤ F 106 9 ∧ F 106 9 ≤ 400 := hI.1 106 9
  refine sA_iconst (z := 0) dd_X9_isTurned_0 ?_
  refine sA_istore_n (lv' := [(1, gs_iv 0), (0, .ref 106)]) dd_X9_isTurned_1 rfl (by decide) rfl ?_
  refine sA_sub (lv2 := [(1, gs_iv 0), (0, .ref 106)]) (List.forall_mem_cons.mpr ⟨(.head _), (List.forall_mem_cons.mpr ⟨(.tail _ (.head _)), (fun _ h => absurd h List.not_mem_nil)⟩)⟩) ?_
  exact (k_X9_isTurned hI ((F 106 9 - 0) * 402 + 1 : Int).toNat.succ).1 0  (by omega) (by omega)
theorem dd_X9_areOne_0 : decode cX9_areOne 0 = .ok (.aload_n 0, 1) := by decide +kernel
theorem dd_X9_areOne_1 : decode cX9_areOne 1 = .ok (.getfield 83, 3) := by decide +kernel
theorem dd_X9_areOne_4 : decode cX9_areOne 4 = .ok (.aload_n 0, 1) := by decide +kernel
theorem dd_X9_areOne_5 : decode cX9_areOne 5 = .ok (.getfield 86, 3) := by decide +kernel
theorem dd_X9_areOne_8 : decode cX9_areOne 8 = .ok (.if_icmp .eq 5, 3) := by decide +kernel
theorem dd_X9_areOne_11 : decode cX9_areOne 11 = .ok (.iconst 0, 1) := by decide +kernel
theorem dd_X9_areOne_12 : decode cX9_areOne 12 = .ok (.ireturn, 1) := by decide +kernel
theorem dd_X9_areOne_13 : decode cX9_areOne 13 = .ok (.aload_n 0, 1) := by decide +kernel
theorem dd_X9_areOne_14 : decode cX9_areOne 14 = .ok (.invokevirtual 93, 3) := by decide +kernel
theorem dd_X9_areOne_17 : decode cX9_areOne 17 = .ok (.ifCond .eq 5, 3) := by decide +kernel
theorem dd_X9_areOne_20 : decode cX9_areOne 20 = .ok (.iconst 1, 1) := by decide +kernel
theorem dd_X9_areOne_21 : decode cX9_areOne 21 = .ok (.ireturn, 1) := by decide +kernel
theorem dd_X9_areOne_22 : decode cX9_areOne 22 = .ok (.aload_n 0, 1) := by decide +kernel
theorem dd_X9_areOne_23 : decode cX9_areOne 23 = .ok (.invokevirtual 97, 3) := by decide +kernel
theorem dd_X9_areOne_26 : decode cX9_areOne 26 = .ok (.aload_n 0, 1) := by decide +kernel
theorem dd_X9_areOne_27 : decode cX9_areOne 27 = .ok (.invokevirtual 93, 3) := by decide +kernel
theorem dd_X9_areOne_30 : decode cX9_areOne 30 = .ok (.ireturn, 1) := by decide +kernel
theorem ml_X9_93 : Cond.methodLink RX9 93 m_X9_isTurned.1 ∈ am_tbl := ri_lw_in (pl := 912) (by decide +kernel)
theorem ml_X9_97 : Cond.methodLink RX9 97 m_X9_turnV.1 ∈ am_tbl := ri_lw_in (pl := 920) (by decide +kernel)
theorem ok_X9_areOne : am_okM m_X9_areOne 0 ∧ Cond.instanceMethod m_X9_areOne.1 ∈ am_tbl ∧ Cond.selects m_X9_areOne.1.cls m_X9_areOne.1 m_X9_areOne.1 ∈ am_tbl := ri_mk1 911 93 910 34 (by decide +kernel)
theorem c_X9_areOne  {F A : gs_F} (hI : gs_I F A) (hv : 1 ≤ F 106 11) : sC m_X9_areOne 3 [.ref 106] F A (fun rv F' A' => ∃ z : Int, rv = some (gs_iv z) ∧ gs_I F' A' ∧ gs_fr (fun _ _ => False) (fun c => c = 113) F A F' A' ∧ (z = 0 ∨ z = 1)) := by
  refine sC_of ok_X9_areOne.1 (Nat.le_of_ble_eq_true rfl) ?_
  show sA _ _ _ 0 [(0, .ref 106)] [] F A
  have hf : gs_fr (fun _ _ => False) (fun c => c = 113) F A F A := gs_fr_refl _ _ _ _
  refine sA_aload_n dd_X9_areOne_0 rfl (.head _) ?_
  refine sA_geti (ci := 9) (j := 9) (q := (RX9, TX9, 28)) dd_X9_areOne_1 rfl (by decide) fl_X9_83 (by decide) gs_s106 rfl ?_
  have b1 : (0 : Int) ≤ F 106 9 ∧ F 106 9 ≤ 400 := hI.1 106 9
  refine sA_aload_n dd_X9_areOne_4 rfl (.head _) ?_
  refine sA_geti (ci := 9) (j := 11) (q := (RX9, TX9, 28)) dd_X9_areOne_5 rfl (by decide) fl_X9_86 (by decide) gs_s106 rfl ?_
  have b2 : (0 : Int) ≤ F 106 11 ∧ F 106 11 ≤ 60 := hI.1 106 11
  refine sA_icmp_eq (tgt := 13) dd_X9_areOne_8 (by decide) (by omega) (by omega) (fun q3 => ?_) (fun q3 => ?_)
  · skip
    refine sA_aload_n dd_X9_areOne_13 rfl (.head _) ?_
    refine sA_callV (y2 := m_X9_isTurned) (n2 := 0) (d2 := 2) (a := 106) (ci := 9) (q := (RX9, TX9, 28)) (as := []) (rest := []) dd_X9_areOne_14 ok_X9_isTurned ml_X9_93 rfl rfl (by decide) gs_s106 rfl rfl (Nat.le_of_ble_eq_true rfl) (by decide) (c_X9_isTurned hI ) (fun r4 F5 A6 h7 => ?_)
    obtain ⟨z10, e9, e11, e12, x8⟩ := h7
    subst e9 e11 e12
    show sA _ _ _ 17 _ [gs_iv z10] _ _
    refine sA_if_eq (tgt := 22) dd_X9_areOne_17 (by decide) (by omega) (fun q13 => ?_) (fun q13 => ?_)
    · skip
      refine sA_aload_n dd_X9_areOne_22 rfl (.head _) ?_
      refine sA_callV (y2 := m_X9_turnV) (n2 := 0) (d2 := 1) (a := 106) (ci := 9) (q := (RX9, TX9, 28)) (as := []) (rest := []) dd_X9_areOne_23 ok_X9_turnV ml_X9_97 rfl rfl (by decide) gs_s106 rfl rfl (Nat.le_of_ble_eq_true rfl) (by decide) (c_X9_turnV hI (by omega)) (fun r14 F15 A16 h17 => ?_)
      obtain ⟨e19, I20, f21, x18⟩ := h17
      subst e19
      have f22 := gs_fr_tr hf f21 (fun b j h => by first | exact False.elim h | omega | (dsimp only at h ⊢; omega)) (fun b h => by first | exact False.elim h | omega | (dsimp only at h ⊢; omega))
      show sA _ _ _ 26 _ [] _ _
      refine sA_aload_n dd_X9_areOne_26 rfl (.head _) ?_
      refine sA_callV (y2 := m_X9_isTurned) (n2 := 0) (d2 := 2) (a := 106) (ci := 9) (q := (RX9, TX9, 28)) (as := []) (rest := []) dd_X9_areOne_27 ok_X9_isTurned ml_X9_93 rfl rfl (by decide) gs_s106 rfl rfl (Nat.le_of_ble_eq_true rfl) (by decide) (c_X9_isTurned I20 ) (fun r23 F24 A25 h26 => ?_)
      obtain ⟨z29, e28, e30, e31, x27⟩ := h26
      subst e28 e30 e31
      show sA _ _ _ 30 _ [gs_iv z29] _ _
      refine sA_bret (z := z29) dd_X9_areOne_30 rfl (by omega) ?_
      exact ⟨_, rfl, I20, f22, by omega⟩
    · skip
      refine sA_iconst (z := 1) dd_X9_areOne_20 ?_
      refine sA_bret (z := 1) dd_X9_areOne_21 rfl (by omega) ?_
      exact ⟨_, rfl, hI, hf, by omega⟩
  · skip
    refine sA_iconst (z := 0) dd_X9_areOne_11 ?_
    refine sA_bret (z := 0) dd_X9_areOne_12 rfl (by omega) ?_
    exact ⟨_, rfl, hI, hf, by omega⟩
theorem dd_X9_one_0 : decode cX9_one 0 = .ok (.aload_n 0, 1) := by decide +kernel
theorem dd_X9_one_1 : decode cX9_one 1 = .ok (.iload_n 1, 1) := by decide +kernel
theorem dd_X9_one_2 : decode cX9_one 2 = .ok (.invokevirtual 100, 3) := by decide +kernel
theorem dd_X9_one_5 : decode cX9_one 5 = .ok (.ifCond .ne 11, 3) := by decide +kernel
theorem dd_X9_one_8 : decode cX9_one 8 = .ok (.aload_n 0, 1) := by decide +kernel
theorem dd_X9_one_9 : decode cX9_one 9 = .ok (.iload_n 2, 1) := by decide +kernel
theorem dd_X9_one_10 : decode cX9_one 10 = .ok (.invokevirtual 100, 3) := by decide +kernel
theorem dd_X9_one_13 : decode cX9_one 13 = .ok (.ifCond .eq 7, 3) := by decide +kernel
theorem dd_X9_one_16 : decode cX9_one 16 = .ok (.sipush (-1001), 3) := by decide +kernel
theorem dd_X9_one_19 : decode cX9_one 19 = .ok (.ireturn, 1) := by decide +kernel
theorem dd_X9_one_20 : decode cX9_one 20 = .ok (.aload_n 0, 1) := by decide +kernel
theorem dd_X9_one_21 : decode cX9_one 21 = .ok (.iload_n 1, 1) := by decide +kernel
theorem dd_X9_one_22 : decode cX9_one 22 = .ok (.invokevirtual 103, 3) := by decide +kernel
theorem dd_X9_one_25 : decode cX9_one 25 = .ok (.aload_n 0, 1) := by decide +kernel
theorem dd_X9_one_26 : decode cX9_one 26 = .ok (.iload_n 2, 1) := by decide +kernel
theorem dd_X9_one_27 : decode cX9_one 27 = .ok (.invokevirtual 106, 3) := by decide +kernel
theorem dd_X9_one_30 : decode cX9_one 30 = .ok (.aload_n 0, 1) := by decide +kernel
theorem dd_X9_one_31 : decode cX9_one 31 = .ok (.invokevirtual 109, 3) := by decide +kernel
theorem dd_X9_one_34 : decode cX9_one 34 = .ok (.invokestatic 112, 3) := by decide +kernel
theorem dd_X9_one_37 : decode cX9_one 37 = .ok (.ireturn, 1) := by decide +kernel
theorem ml_X9_100 : Cond.methodLink RX9 100 m_X9_noRing.1 ∈ am_tbl := ri_lw_in (pl := 896) (by decide +kernel)
theorem ml_X9_103 : Cond.methodLink RX9 103 m_X9_takeU.1 ∈ am_tbl := ri_lw_in (pl := 900) (by decide +kernel)
theorem ml_X9_106 : Cond.methodLink RX9 106 m_X9_takeV.1 ∈ am_tbl := ri_lw_in (pl := 904) (by decide +kernel)
theorem ml_X9_109 : Cond.methodLink RX9 109 m_X9_areOne.1 ∈ am_tbl := ri_lw_in (pl := 908) (by decide +kernel)
theorem ml_X9_112 : Cond.methodLink RX9 112 m_X9_bit.1 ∈ am_tbl := ri_lw_in (pl := 924) (by decide +kernel)
theorem ok_X9_one : am_okM m_X9_one 2 ∧ Cond.instanceMethod m_X9_one.1 ∈ am_tbl ∧ Cond.selects m_X9_one.1.cls m_X9_one.1 m_X9_one.1 ∈ am_tbl := ri_mk1 895 93 893 894 (by decide +kernel)
theorem c_X9_one {r s : Int} {F A : gs_F} (hI : gs_I F A) (hr : -2147483648 ≤ r ∧ r ≤ 2147483647) (hs : -2147483648 ≤ s ∧ s ≤ 2147483647) (hX : ∀ r : Nat, (r : Int) < F 106 3 → 1 ≤ A 108 r) : sC m_X9_one 4 [.ref 106, gs_iv r, gs_iv s] F A (fun rv F' A' => ∃ z : Int, rv = some (gs_iv z) ∧ gs_I F' A' ∧ gs_fr (fun c j => c = 106 ∧ (j = 9 ∨ j = 11)) (fun c => c = 112 ∨ c = 113) F A F' A' ∧ (-1001 ≤ z ∧ z ≤ 1)) := by
  refine sC_of ok_X9_one.1 (Nat.le_of_ble_eq_true rfl) ?_
  show sA _ _ _ 0 [(0, .ref 106), (1, gs_iv r), (2, gs_iv s)] [] F A
  have hf : gs_fr (fun c j => c = 106 ∧ (j = 9 ∨ j = 11)) (fun c => c = 112 ∨ c = 113) F A F A := gs_fr_refl _ _ _ _
  refine sA_aload_n dd_X9_one_0 rfl (.head _) ?_
  refine sA_iload_n dd_X9_one_1 rfl (.tail _ (.head _)) ?_
  refine sA_callV (y2 := m_X9_noRing) (n2 := 1) (d2 := 2) (a := 106) (ci := 9) (q := (RX9, TX9, 28)) (as := [gs_iv r]) (rest := []) dd_X9_one_2 ok_X9_noRing ml_X9_100 rfl rfl (by decide) gs_s106 rfl rfl (Nat.le_of_ble_eq_true rfl) (by decide) (c_X9_noRing hI (by omega)) (fun r1 F2 A3 h4 => ?_)
  obtain ⟨z7, e6, e8, e9, x5⟩ := h4
  subst e6 e8 e9
  show sA _ _ _ 5 _ [gs_iv z7] _ _
  refine sA_if_ne (tgt := 16) dd_X9_one_5 (by decide) (by omega) (fun q10 => ?_) (fun q10 => ?_)
  · skip
    refine sA_sipush (z := (-1001)) dd_X9_one_16 (by decide) ?_
    refine sA_iret (z := -1001) dd_X9_one_19 rfl ?_
    exact ⟨_, rfl, hI, hf, by omega⟩
  · skip
    refine sA_aload_n dd_X9_one_8 rfl (.head _) ?_
    refine sA_iload_n dd_X9_one_9 rfl (.tail _ (.tail _ (.head _))) ?_
    refine sA_callV (y2 := m_X9_noRing) (n2 := 1) (d2 := 2) (a := 106) (ci := 9) (q := (RX9, TX9, 28)) (as := [gs_iv s]) (rest := []) dd_X9_one_10 ok_X9_noRing ml_X9_100 rfl rfl (by decide) gs_s106 rfl rfl (Nat.le_of_ble_eq_true rfl) (by decide) (c_X9_noRing hI (by omega)) (fun r11 F12 A13 h14 => ?_)
    obtain ⟨z17, e16, e18, e19, x15⟩ := h14
    subst e16 e18 e19
    show sA _ _ _ 13 _ [gs_iv z17] _ _
    refine sA_if_eq (tgt := 20) dd_X9_one_13 (by decide) (by omega) (fun q20 => ?_) (fun q20 => ?_)
    · skip
      have hx_s := hX s.toNat (by omega)
      refine sA_aload_n dd_X9_one_20 rfl (.head _) ?_
      refine sA_iload_n dd_X9_one_21 rfl (.tail _ (.head _)) ?_
      refine sA_callV (y2 := m_X9_takeU) (n2 := 1) (d2 := 1) (a := 106) (ci := 9) (q := (RX9, TX9, 28)) (as := [gs_iv r]) (rest := []) dd_X9_one_22 ok_X9_takeU ml_X9_103 rfl rfl (by decide) gs_s106 rfl rfl (Nat.le_of_ble_eq_true rfl) (by decide) (c_X9_takeU hI (by omega)) (fun r21 F22 A23 h24 => ?_)
      obtain ⟨e26, I27, f28, x25⟩ := h24
      subst e26
      have v29 : A23 108 s.toNat = A 108 s.toNat := congrFun (f28.2 108 (by first | exact id | omega | (dsimp only; omega) | (dsimp only))) _
      have f30 := gs_fr_tr hf f28 (fun b j h => by first | exact False.elim h | omega | (dsimp only at h ⊢; omega)) (fun b h => by first | exact False.elim h | omega | (dsimp only at h ⊢; omega))
      show sA _ _ _ 25 _ [] _ _
      refine sA_aload_n dd_X9_one_25 rfl (.head _) ?_
      refine sA_iload_n dd_X9_one_26 rfl (.tail _ (.tail _ (.head _))) ?_
      refine sA_callV (y2 := m_X9_takeV) (n2 := 1) (d2 := 1) (a := 106) (ci := 9) (q := (RX9, TX9, 28)) (as := [gs_iv s]) (rest := []) dd_X9_one_27 ok_X9_takeV ml_X9_106 rfl rfl (by decide) gs_s106 rfl rfl (Nat.le_of_ble_eq_true rfl) (by decide) (c_X9_takeV I27 (by omega)) (fun r31 F32 A33 h34 => ?_)
      obtain ⟨e36, I37, f38, x35⟩ := h34
      subst e36
      have v39 : A33 108 s.toNat = A23 108 s.toNat := congrFun (f38.2 108 (by first | exact id | omega | (dsimp only; omega) | (dsimp only))) _
      have f40 := gs_fr_tr f30 f38 (fun b j h => by first | exact False.elim h | omega | (dsimp only at h ⊢; omega)) (fun b h => by first | exact False.elim h | omega | (dsimp only at h ⊢; omega))
      show sA _ _ _ 30 _ [] _ _
      refine sA_aload_n dd_X9_one_30 rfl (.head _) ?_
      refine sA_callV (y2 := m_X9_areOne) (n2 := 0) (d2 := 3) (a := 106) (ci := 9) (q := (RX9, TX9, 28)) (as := []) (rest := []) dd_X9_one_31 ok_X9_areOne ml_X9_109 rfl rfl (by decide) gs_s106 rfl rfl (Nat.le_of_ble_eq_true rfl) (by decide) (c_X9_areOne I37 (by omega)) (fun r41 F42 A43 h44 => ?_)
      obtain ⟨z47, e46, I48, f49, x45⟩ := h44
      subst e46
      have v50 : A43 108 s.toNat = A33 108 s.toNat := congrFun (f49.2 108 (by first | exact id | omega | (dsimp only; omega) | (dsimp only))) _
      have f51 := gs_fr_tr f40 f49 (fun b j h => by first | exact False.elim h | omega | (dsimp only at h ⊢; omega)) (fun b h => by first | exact False.elim h | omega | (dsimp only at h ⊢; omega))
      show sA _ _ _ 34 _ [gs_iv z47] _ _
      refine sA_callS (y2 := m_X9_bit) (n2 := 1) (d2 := 1) (as := [gs_iv z47]) (rest := []) dd_X9_one_34 ok_X9_bit ml_X9_112 rfl rfl (Nat.le_of_ble_eq_true rfl) (by decide) (c_X9_bit (by omega)) (fun r52 F53 A54 h55 => ?_)
      obtain ⟨z58, e57, e59, e60, x56⟩ := h55
      subst e57 e59 e60
      show sA _ _ _ 37 _ [gs_iv z58] _ _
      refine sA_iret (z := z58) dd_X9_one_37 rfl ?_
      exact ⟨_, rfl, I48, f51, by omega⟩
    · skip
      refine sA_sipush (z := (-1001)) dd_X9_one_16 (by decide) ?_
      refine sA_iret (z := -1001) dd_X9_one_19 rfl ?_
      exact ⟨_, rfl, hI, hf, by omega⟩
theorem dd_X9_isPower_0 : decode cX9_isPower 0 = .ok (.aload_n 0, 1) := by decide +kernel
theorem dd_X9_isPower_1 : decode cX9_isPower 1 = .ok (.getfield 13, 3) := by decide +kernel
theorem dd_X9_isPower_4 : decode cX9_isPower 4 = .ok (.iload_n 1, 1) := by decide +kernel
theorem dd_X9_isPower_5 : decode cX9_isPower 5 = .ok (.iaload, 1) := by decide +kernel
theorem dd_X9_isPower_6 : decode cX9_isPower 6 = .ok (.istore_n 2, 1) := by decide +kernel
theorem dd_X9_isPower_7 : decode cX9_isPower 7 = .ok (.iconst 1, 1) := by decide +kernel
theorem dd_X9_isPower_8 : decode cX9_isPower 8 = .ok (.istore_n 3, 1) := by decide +kernel
theorem dd_X9_isPower_9 : decode cX9_isPower 9 = .ok (.iload_n 3, 1) := by decide +kernel
theorem dd_X9_isPower_10 : decode cX9_isPower 10 = .ok (.iload_n 2, 1) := by decide +kernel
theorem dd_X9_isPower_11 : decode cX9_isPower 11 = .ok (.if_icmp .ge 87, 3) := by decide +kernel
theorem dd_X9_isPower_14 : decode cX9_isPower 14 = .ok (.iload_n 2, 1) := by decide +kernel
theorem dd_X9_isPower_15 : decode cX9_isPower 15 = .ok (.iload_n 3, 1) := by decide +kernel
theorem dd_X9_isPower_16 : decode cX9_isPower 16 = .ok (.irem, 1) := by decide +kernel
theorem dd_X9_isPower_17 : decode cX9_isPower 17 = .ok (.ifCond .ne 7, 3) := by decide +kernel
theorem dd_X9_isPower_20 : decode cX9_isPower 20 = .ok (.iconst 1, 1) := by decide +kernel
theorem dd_X9_isPower_21 : decode cX9_isPower 21 = .ok (.goto 4, 3) := by decide +kernel
theorem dd_X9_isPower_24 : decode cX9_isPower 24 = .ok (.iconst 0, 1) := by decide +kernel
theorem dd_X9_isPower_25 : decode cX9_isPower 25 = .ok (.istore 4, 2) := by decide +kernel
theorem dd_X9_isPower_27 : decode cX9_isPower 27 = .ok (.iconst 0, 1) := by decide +kernel
theorem dd_X9_isPower_28 : decode cX9_isPower 28 = .ok (.istore 5, 2) := by decide +kernel
theorem dd_X9_isPower_30 : decode cX9_isPower 30 = .ok (.iload 5, 2) := by decide +kernel
theorem dd_X9_isPower_32 : decode cX9_isPower 32 = .ok (.iload_n 3, 1) := by decide +kernel
theorem dd_X9_isPower_33 : decode cX9_isPower 33 = .ok (.iadd, 1) := by decide +kernel
theorem dd_X9_isPower_34 : decode cX9_isPower 34 = .ok (.iload_n 2, 1) := by decide +kernel
theorem dd_X9_isPower_35 : decode cX9_isPower 35 = .ok (.if_icmp .ge 50, 3) := by decide +kernel
theorem dd_X9_isPower_38 : decode cX9_isPower 38 = .ok (.iload 4, 2) := by decide +kernel
theorem dd_X9_isPower_40 : decode cX9_isPower 40 = .ok (.ifCond .eq 45, 3) := by decide +kernel
theorem dd_X9_isPower_43 : decode cX9_isPower 43 = .ok (.aload_n 0, 1) := by decide +kernel
theorem dd_X9_isPower_44 : decode cX9_isPower 44 = .ok (.getfield 16, 3) := by decide +kernel
theorem dd_X9_isPower_47 : decode cX9_isPower 47 = .ok (.bipush 60, 2) := by decide +kernel
theorem dd_X9_isPower_49 : decode cX9_isPower 49 = .ok (.iload_n 1, 1) := by decide +kernel
theorem dd_X9_isPower_50 : decode cX9_isPower 50 = .ok (.imul, 1) := by decide +kernel
theorem dd_X9_isPower_51 : decode cX9_isPower 51 = .ok (.iload 5, 2) := by decide +kernel
theorem dd_X9_isPower_53 : decode cX9_isPower 53 = .ok (.iadd, 1) := by decide +kernel
theorem dd_X9_isPower_54 : decode cX9_isPower 54 = .ok (.iaload, 1) := by decide +kernel
theorem dd_X9_isPower_55 : decode cX9_isPower 55 = .ok (.aload_n 0, 1) := by decide +kernel
theorem dd_X9_isPower_56 : decode cX9_isPower 56 = .ok (.getfield 16, 3) := by decide +kernel
theorem dd_X9_isPower_59 : decode cX9_isPower 59 = .ok (.bipush 60, 2) := by decide +kernel
theorem dd_X9_isPower_61 : decode cX9_isPower 61 = .ok (.iload_n 1, 1) := by decide +kernel
theorem dd_X9_isPower_62 : decode cX9_isPower 62 = .ok (.imul, 1) := by decide +kernel
theorem dd_X9_isPower_63 : decode cX9_isPower 63 = .ok (.iload 5, 2) := by decide +kernel
theorem dd_X9_isPower_65 : decode cX9_isPower 65 = .ok (.iadd, 1) := by decide +kernel
theorem dd_X9_isPower_66 : decode cX9_isPower 66 = .ok (.iload_n 3, 1) := by decide +kernel
theorem dd_X9_isPower_67 : decode cX9_isPower 67 = .ok (.iadd, 1) := by decide +kernel
theorem dd_X9_isPower_68 : decode cX9_isPower 68 = .ok (.iaload, 1) := by decide +kernel
theorem dd_X9_isPower_69 : decode cX9_isPower 69 = .ok (.if_icmp .ne 7, 3) := by decide +kernel
theorem dd_X9_isPower_72 : decode cX9_isPower 72 = .ok (.iconst 1, 1) := by decide +kernel
theorem dd_X9_isPower_73 : decode cX9_isPower 73 = .ok (.goto 4, 3) := by decide +kernel
theorem dd_X9_isPower_76 : decode cX9_isPower 76 = .ok (.iconst 0, 1) := by decide +kernel
theorem dd_X9_isPower_77 : decode cX9_isPower 77 = .ok (.istore 4, 2) := by decide +kernel
theorem dd_X9_isPower_79 : decode cX9_isPower 79 = .ok (.iinc 5 1, 3) := by decide +kernel
theorem dd_X9_isPower_82 : decode cX9_isPower 82 = .ok (.goto (-52), 3) := by decide +kernel
theorem dd_X9_isPower_85 : decode cX9_isPower 85 = .ok (.iload 4, 2) := by decide +kernel
theorem dd_X9_isPower_87 : decode cX9_isPower 87 = .ok (.ifCond .eq 5, 3) := by decide +kernel
theorem dd_X9_isPower_90 : decode cX9_isPower 90 = .ok (.iconst 1, 1) := by decide +kernel
theorem dd_X9_isPower_91 : decode cX9_isPower 91 = .ok (.ireturn, 1) := by decide +kernel
theorem dd_X9_isPower_92 : decode cX9_isPower 92 = .ok (.iinc 3 1, 3) := by decide +kernel
theorem dd_X9_isPower_95 : decode cX9_isPower 95 = .ok (.goto (-86), 3) := by decide +kernel
theorem dd_X9_isPower_98 : decode cX9_isPower 98 = .ok (.iconst 0, 1) := by decide +kernel
theorem dd_X9_isPower_99 : decode cX9_isPower 99 = .ok (.ireturn, 1) := by decide +kernel
theorem ok_X9_isPower : am_okM m_X9_isPower 1 ∧ Cond.instanceMethod m_X9_isPower.1 ∈ am_tbl ∧ Cond.selects m_X9_isPower.1.cls m_X9_isPower.1 m_X9_isPower.1 ∈ am_tbl := ri_mk1 934 93 933 38 (by decide +kernel)
theorem k_X9_isPower {r : Int} {F A : gs_F} (hI : gs_I F A) (hr : 0 ≤ r ∧ r < 12) : ∀ nN : Nat, (∀ (n : Int) (p : Int),  0 ≤ n ∧ n ≤ 60 → 1 ≤ p ∧ p ≤ 61 → (61 - p) * 70 + 1 < (nN : Int) → sA m_X9_isPower 1 (fun rv F' A' => ∃ z : Int, rv = some (gs_iv z) ∧ F = F' ∧ A = A' ∧ (z = 0 ∨ z = 1)) 9 [(3, gs_iv p), (2, gs_iv n), (0, .ref 106), (1, gs_iv r)] [] F A) ∧ (∀ (n : Int) (p : Int) (b : Int) (k : Int),  0 ≤ n ∧ n ≤ 60 → 1 ≤ p ∧ p < n → b = 0 ∨ b = 1 → 0 ≤ k ∧ k ≤ 60 → (61 - p) * 70 - k < (nN : Int) → sA m_X9_isPower 1 (fun rv F' A' => ∃ z : Int, rv = some (gs_iv z) ∧ F = F' ∧ A = A' ∧ (z = 0 ∨ z = 1)) 30 [(5, gs_iv k), (4, gs_iv b), (3, gs_iv p), (2, gs_iv n), (0, .ref 106), (1, gs_iv r)] [] F A) := by
  intro nN
  induction nN with
  | zero =>
    exact ⟨fun a0 a1 i0 i1 hm => by exfalso; omega, fun a0 a1 a2 a3 i0 i1 i2 i3 hm => by exfalso; omega⟩
  | succ nN ih =>
    refine ⟨?_, ?_⟩
    · skip
      intro n p i0 i1 hm
      refine sA_iload_n dd_X9_isPower_9 rfl (.head _) ?_
      refine sA_iload_n dd_X9_isPower_10 rfl (.tail _ (.head _)) ?_
      refine sA_icmp_ge (tgt := 98) dd_X9_isPower_11 (by decide) (by omega) (by omega) (fun q1 => ?_) (fun q1 => ?_)
      · skip
        refine sA_iconst (z := 0) dd_X9_isPower_98 ?_
        refine sA_bret (z := 0) dd_X9_isPower_99 rfl (by omega) ?_
        exact ⟨_, rfl, rfl, rfl, by omega⟩
      · skip
        refine sA_iload_n dd_X9_isPower_14 rfl (.tail _ (.head _)) ?_
        refine sA_iload_n dd_X9_isPower_15 rfl (.head _) ?_
        refine sA_iremN dd_X9_isPower_16 (by omega) (by omega) (by omega) ?_
        refine sA_wrap ?_
        have b3 := gs_w_rng (n % p)
        generalize gs_w (n % p) = w2 at b3 ⊢
        refine sA_if_ne (tgt := 24) dd_X9_isPower_17 (by decide) (by omega) (fun q4 => ?_) (fun q4 => ?_)
        · skip
          refine sA_iconst (z := 0) dd_X9_isPower_24 ?_
          refine sA_istore (lv' := [(4, gs_iv 0), (3, gs_iv p), (2, gs_iv n), (0, .ref 106), (1, gs_iv r)]) dd_X9_isPower_25 (by decide) rfl ?_
          refine sA_iconst (z := 0) dd_X9_isPower_27 ?_
          refine sA_istore (lv' := [(5, gs_iv 0), (4, gs_iv 0), (3, gs_iv p), (2, gs_iv n), (0, .ref 106), (1, gs_iv r)]) dd_X9_isPower_28 (by decide) rfl ?_
          refine sA_sub (lv2 := [(5, gs_iv 0), (4, gs_iv 0), (3, gs_iv p), (2, gs_iv n), (0, .ref 106), (1, gs_iv r)]) (List.forall_mem_cons.mpr ⟨(.head _), (List.forall_mem_cons.mpr ⟨(.tail _ (.head _)), (List.forall_mem_cons.mpr ⟨(.tail _ (.tail _ (.head _))), (List.forall_mem_cons.mpr ⟨(.tail _ (.tail _ (.tail _ (.head _)))), (List.forall_mem_cons.mpr ⟨(.tail _ (.tail _ (.tail _ (.tail _ (.head _))))), (List.forall_mem_cons.mpr ⟨(.tail _ (.tail _ (.tail _ (.tail _ (.tail _ (.head _)))))), (fun _ h => absurd h List.not_mem_nil)⟩)⟩)⟩)⟩)⟩)⟩) ?_
          exact ih.2 n p 0 0  (by omega) (by omega) (by omega) (by omega) (by omega)
        · skip
          refine sA_iconst (z := 1) dd_X9_isPower_20 ?_
          refine sA_goto (tgt := 25) dd_X9_isPower_21 (by decide) ?_
          refine sA_istore (lv' := [(4, gs_iv 1), (3, gs_iv p), (2, gs_iv n), (0, .ref 106), (1, gs_iv r)]) dd_X9_isPower_25 (by decide) rfl ?_
          refine sA_iconst (z := 0) dd_X9_isPower_27 ?_
          refine sA_istore (lv' := [(5, gs_iv 0), (4, gs_iv 1), (3, gs_iv p), (2, gs_iv n), (0, .ref 106), (1, gs_iv r)]) dd_X9_isPower_28 (by decide) rfl ?_
          refine sA_sub (lv2 := [(5, gs_iv 0), (4, gs_iv 1), (3, gs_iv p), (2, gs_iv n), (0, .ref 106), (1, gs_iv r)]) (List.forall_mem_cons.mpr ⟨(.head _), (List.forall_mem_cons.mpr ⟨(.tail _ (.head _)), (List.forall_mem_cons.mpr ⟨(.tail _ (.tail _ (.head _))), (List.forall_mem_cons.mpr ⟨(.tail _ (.tail _ (.tail _ (.head _)))), (List.forall_mem_cons.mpr ⟨(.tail _ (.tail _ (.tail _ (.tail _ (.head _))))), (List.forall_mem_cons.mpr ⟨(.tail _ (.tail _ (.tail _ (.tail _ (.tail _ (.head _)))))), (fun _ h => absurd h List.not_mem_nil)⟩)⟩)⟩)⟩)⟩)⟩) ?_
          exact ih.2 n p 1 0  (by omega) (by omega) (by omega) (by omega) (by omega)
    · skip
      intro n p b k i0 i1 i2 i3 hm
      refine sA_iload dd_X9_isPower_30 (.head _) ?_
      refine sA_iload_n dd_X9_isPower_32 rfl (.tail _ (.tail _ (.head _))) ?_
      refine sA_iadd dd_X9_isPower_33 ?_
      refine sA_iload_n dd_X9_isPower_34 rfl (.tail _ (.tail _ (.tail _ (.head _)))) ?_
      refine sA_icmp_ge (tgt := 85) dd_X9_isPower_35 (by decide) (by omega) (by omega) (fun q5 => ?_) (fun q5 => ?_)
      · skip
        refine sA_iload dd_X9_isPower_85 (.tail _ (.head _)) ?_
        refine sA_if_eq (tgt := 92) dd_X9_isPower_87 (by decide) (by omega) (fun q6 => ?_) (fun q6 => ?_)
        · skip
          refine sA_iinc (lv' := [(3, gs_iv (p + 1)), (5, gs_iv k), (4, gs_iv b), (2, gs_iv n), (0, .ref 106), (1, gs_iv r)]) dd_X9_isPower_92 (.tail _ (.tail _ (.head _))) (by decide) rfl ?_
          refine sA_goto (tgt := 9) dd_X9_isPower_95 (by decide) ?_
          refine sA_sub (lv2 := [(3, gs_iv (p + 1)), (2, gs_iv n), (0, .ref 106), (1, gs_iv r)]) (List.forall_mem_cons.mpr ⟨(.head _), (List.forall_mem_cons.mpr ⟨(.tail _ (.tail _ (.tail _ (.head _)))), (List.forall_mem_cons.mpr ⟨(.tail _ (.tail _ (.tail _ (.tail _ (.head _))))), (List.forall_mem_cons.mpr ⟨(.tail _ (.tail _ (.tail _ (.tail _ (.tail _ (.head _)))))), (fun _ h => absurd h List.not_mem_nil)⟩)⟩)⟩)⟩) ?_
          exact ih.1 n (p + 1)  (by omega) (by omega) (by omega)
        · skip
          refine sA_iconst (z := 1) dd_X9_isPower_90 ?_
          refine sA_bret (z := 1) dd_X9_isPower_91 rfl (by omega) ?_
          exact ⟨_, rfl, rfl, rfl, by omega⟩
      · skip
        refine sA_iload dd_X9_isPower_38 (.tail _ (.head _)) ?_
        refine sA_if_eq (tgt := 85) dd_X9_isPower_40 (by decide) (by omega) (fun q7 => ?_) (fun q7 => ?_)
        · skip
          refine sA_iload dd_X9_isPower_85 (.tail _ (.head _)) ?_
          refine sA_if_eq (tgt := 92) dd_X9_isPower_87 (by decide) (by omega) (fun q8 => ?_) (fun q8 => absurd q8 (by omega))
          refine sA_iinc (lv' := [(3, gs_iv (p + 1)), (5, gs_iv k), (4, gs_iv b), (2, gs_iv n), (0, .ref 106), (1, gs_iv r)]) dd_X9_isPower_92 (.tail _ (.tail _ (.head _))) (by decide) rfl ?_
          refine sA_goto (tgt := 9) dd_X9_isPower_95 (by decide) ?_
          refine sA_sub (lv2 := [(3, gs_iv (p + 1)), (2, gs_iv n), (0, .ref 106), (1, gs_iv r)]) (List.forall_mem_cons.mpr ⟨(.head _), (List.forall_mem_cons.mpr ⟨(.tail _ (.tail _ (.tail _ (.head _)))), (List.forall_mem_cons.mpr ⟨(.tail _ (.tail _ (.tail _ (.tail _ (.head _))))), (List.forall_mem_cons.mpr ⟨(.tail _ (.tail _ (.tail _ (.tail _ (.tail _ (.head _)))))), (fun _ h => absurd h List.not_mem_nil)⟩)⟩)⟩)⟩) ?_
          exact ih.1 n (p + 1)  (by omega) (by omega) (by omega)
        · skip
          refine sA_aload_n dd_X9_isPower_43 rfl (.tail _ (.tail _ (.tail _ (.tail _ (.head _))))) ?_
          refine sA_getr (ci := 9) (j := 5) (q := (RX9, TX9, 28)) dd_X9_isPower_44 rfl (by decide) fl_X9_16 (by decide) gs_s106 rfl ?_
          refine sA_bipush (z := 60) dd_X9_isPower_47 (by decide) ?_
          refine sA_iload_n dd_X9_isPower_49 rfl (.tail _ (.tail _ (.tail _ (.tail _ (.tail _ (.head _)))))) ?_
          refine sA_imul dd_X9_isPower_50 ?_
          refine sA_iload dd_X9_isPower_51 (.head _) ?_
          refine sA_iadd dd_X9_isPower_53 ?_
          refine sA_iald (n := 720) dd_X9_isPower_54 (by decide) gs_s109 (by omega) (by decide) ?_
          have b9 : (-9 : Int) ≤ A 109 ((60 * r) + k).toNat ∧ A 109 ((60 * r) + k).toNat ≤ 9 := hI.2 109 ((60 * r) + k).toNat
          refine sA_aload_n dd_X9_isPower_55 rfl (.tail _ (.tail _ (.tail _ (.tail _ (.head _))))) ?_
          refine sA_getr (ci := 9) (j := 5) (q := (RX9, TX9, 28)) dd_X9_isPower_56 rfl (by decide) fl_X9_16 (by decide) gs_s106 rfl ?_
          refine sA_bipush (z := 60) dd_X9_isPower_59 (by decide) ?_
          refine sA_iload_n dd_X9_isPower_61 rfl (.tail _ (.tail _ (.tail _ (.tail _ (.tail _ (.head _)))))) ?_
          refine sA_imul dd_X9_isPower_62 ?_
          refine sA_iload dd_X9_isPower_63 (.head _) ?_
          refine sA_iadd dd_X9_isPower_65 ?_
          refine sA_iload_n dd_X9_isPower_66 rfl (.tail _ (.tail _ (.head _))) ?_
          refine sA_iadd dd_X9_isPower_67 ?_
          refine sA_iald (n := 720) dd_X9_isPower_68 (by decide) gs_s109 (by omega) (by decide) ?_
          have b10 : (-9 : Int) ≤ A 109 (((60 * r) + k) + p).toNat ∧ A 109 (((60 * r) + k) + p).toNat ≤ 9 := hI.2 109 (((60 * r) + k) + p).toNat
          refine sA_icmp_ne (tgt := 76) dd_X9_isPower_69 (by decide) (by omega) (by omega) (fun q11 => ?_) (fun q11 => ?_)
          · skip
            refine sA_iconst (z := 0) dd_X9_isPower_76 ?_
            refine sA_istore (lv' := [(4, gs_iv 0), (5, gs_iv k), (3, gs_iv p), (2, gs_iv n), (0, .ref 106), (1, gs_iv r)]) dd_X9_isPower_77 (by decide) rfl ?_
            refine sA_iinc (lv' := [(5, gs_iv (k + 1)), (4, gs_iv 0), (3, gs_iv p), (2, gs_iv n), (0, .ref 106), (1, gs_iv r)]) dd_X9_isPower_79 (.tail _ (.head _)) (by decide) rfl ?_
            refine sA_goto (tgt := 30) dd_X9_isPower_82 (by decide) ?_
            refine sA_sub (lv2 := [(5, gs_iv (k + 1)), (4, gs_iv 0), (3, gs_iv p), (2, gs_iv n), (0, .ref 106), (1, gs_iv r)]) (List.forall_mem_cons.mpr ⟨(.head _), (List.forall_mem_cons.mpr ⟨(.tail _ (.head _)), (List.forall_mem_cons.mpr ⟨(.tail _ (.tail _ (.head _))), (List.forall_mem_cons.mpr ⟨(.tail _ (.tail _ (.tail _ (.head _)))), (List.forall_mem_cons.mpr ⟨(.tail _ (.tail _ (.tail _ (.tail _ (.head _))))), (List.forall_mem_cons.mpr ⟨(.tail _ (.tail _ (.tail _ (.tail _ (.tail _ (.head _)))))), (fun _ h => absurd h List.not_mem_nil)⟩)⟩)⟩)⟩)⟩)⟩) ?_
            exact ih.2 n p 0 (k + 1)  (by omega) (by omega) (by omega) (by omega) (by omega)
          · skip
            refine sA_iconst (z := 1) dd_X9_isPower_72 ?_
            refine sA_goto (tgt := 77) dd_X9_isPower_73 (by decide) ?_
            refine sA_istore (lv' := [(4, gs_iv 1), (5, gs_iv k), (3, gs_iv p), (2, gs_iv n), (0, .ref 106), (1, gs_iv r)]) dd_X9_isPower_77 (by decide) rfl ?_
            refine sA_iinc (lv' := [(5, gs_iv (k + 1)), (4, gs_iv 1), (3, gs_iv p), (2, gs_iv n), (0, .ref 106), (1, gs_iv r)]) dd_X9_isPower_79 (.tail _ (.head _)) (by decide) rfl ?_
            refine sA_goto (tgt := 30) dd_X9_isPower_82 (by decide) ?_
            refine sA_sub (lv2 := [(5, gs_iv (k + 1)), (4, gs_iv 1), (3, gs_iv p), (2, gs_iv n), (0, .ref 106), (1, gs_iv r)]) (List.forall_mem_cons.mpr ⟨(.head _), (List.forall_mem_cons.mpr ⟨(.tail _ (.head _)), (List.forall_mem_cons.mpr ⟨(.tail _ (.tail _ (.head _))), (List.forall_mem_cons.mpr ⟨(.tail _ (.tail _ (.tail _ (.head _)))), (List.forall_mem_cons.mpr ⟨(.tail _ (.tail _ (.tail _ (.tail _ (.head _))))), (List.forall_mem_cons.mpr ⟨(.tail _ (.tail _ (.tail _ (.tail _ (.tail _ (.head _)))))), (fun _ h => absurd h List.not_mem_nil)⟩)⟩)⟩)⟩)⟩)⟩) ?_
            exact ih.2 n p 1 (k + 1)  (by omega) (by omega) (by omega) (by omega) (by omega)
theorem c_X9_isPower {r : Int} {F A : gs_F} (hI : gs_I F A) (hr : 0 ≤ r ∧ r < 12) : sC m_X9_isPower 1 [.ref 106, gs_iv r] F A (fun rv F' A' => ∃ z : Int, rv = some (gs_iv z) ∧ F = F' ∧ A = A' ∧ (z = 0 ∨ z = 1)) := by
  refine sC_of ok_X9_isPower.1 (Nat.le_of_ble_eq_true rfl) ?_
  show sA _ _ _ 0 [(0, .ref 106), (1, gs_iv r)] [] F A
  refine sA_aload_n dd_X9_isPower_0 rfl (.head _) ?_
  refine sA_getr (ci := 9) (j := 4) (q := (RX9, TX9, 28)) dd_X9_isPower_1 rfl (by decide) fl_X9_13 (by decide) gs_s106 rfl ?_
  refine sA_iload_n dd_X9_isPower_4 rfl (.tail _ (.head _)) ?_
  refine sA_iald (n := 12) dd_X9_isPower_5 (by decide) gs_s108 (by omega) (by decide) ?_
  have b12 : (0 : Int) ≤ A 108 r.toNat ∧ A 108 r.toNat ≤ 60 := hI.2 108 r.toNat
  refine sA_istore_n (lv' := [(2, gs_iv (A 108 r.toNat)), (0, .ref 106), (1, gs_iv r)]) dd_X9_isPower_6 rfl (by decide) rfl ?_
  refine sA_iconst (z := 1) dd_X9_isPower_7 ?_
  refine sA_istore_n (lv' := [(3, gs_iv 1), (2, gs_iv (A 108 r.toNat)), (0, .ref 106), (1, gs_iv r)]) dd_X9_isPower_8 rfl (by decide) rfl ?_
  refine sA_sub (lv2 := [(3, gs_iv 1), (2, gs_iv (A 108 r.toNat)), (0, .ref 106), (1, gs_iv r)]) (List.forall_mem_cons.mpr ⟨(.head _), (List.forall_mem_cons.mpr ⟨(.tail _ (.head _)), (List.forall_mem_cons.mpr ⟨(.tail _ (.tail _ (.head _))), (List.forall_mem_cons.mpr ⟨(.tail _ (.tail _ (.tail _ (.head _)))), (fun _ h => absurd h List.not_mem_nil)⟩)⟩)⟩)⟩) ?_
  exact (k_X9_isPower hI hr ((61 - 1) * 70 + 1 : Int).toNat.succ).1 (A 108 r.toNat) 1  (by omega) (by omega) (by omega)
theorem dd_X9_placeOf_0 : decode cX9_placeOf 0 = .ok (.iload_n 0, 1) := by decide +kernel
theorem dd_X9_placeOf_1 : decode cX9_placeOf 1 = .ok (.ifCond .ge 9, 3) := by decide +kernel
theorem dd_X9_placeOf_4 : decode cX9_placeOf 4 = .ok (.iconst 0, 1) := by decide +kernel
theorem dd_X9_placeOf_5 : decode cX9_placeOf 5 = .ok (.iload_n 0, 1) := by decide +kernel
theorem dd_X9_placeOf_6 : decode cX9_placeOf 6 = .ok (.isub, 1) := by decide +kernel
theorem dd_X9_placeOf_7 : decode cX9_placeOf 7 = .ok (.goto 4, 3) := by decide +kernel
theorem dd_X9_placeOf_10 : decode cX9_placeOf 10 = .ok (.iload_n 0, 1) := by decide +kernel
theorem dd_X9_placeOf_11 : decode cX9_placeOf 11 = .ok (.istore_n 1, 1) := by decide +kernel
theorem dd_X9_placeOf_12 : decode cX9_placeOf 12 = .ok (.iload_n 1, 1) := by decide +kernel
theorem dd_X9_placeOf_13 : decode cX9_placeOf 13 = .ok (.iconst 1, 1) := by decide +kernel
theorem dd_X9_placeOf_14 : decode cX9_placeOf 14 = .ok (.isub, 1) := by decide +kernel
theorem dd_X9_placeOf_15 : decode cX9_placeOf 15 = .ok (.iconst 2, 1) := by decide +kernel
theorem dd_X9_placeOf_16 : decode cX9_placeOf 16 = .ok (.idiv, 1) := by decide +kernel
theorem dd_X9_placeOf_17 : decode cX9_placeOf 17 = .ok (.istore_n 2, 1) := by decide +kernel
theorem dd_X9_placeOf_18 : decode cX9_placeOf 18 = .ok (.iload_n 1, 1) := by decide +kernel
theorem dd_X9_placeOf_19 : decode cX9_placeOf 19 = .ok (.iconst 2, 1) := by decide +kernel
theorem dd_X9_placeOf_20 : decode cX9_placeOf 20 = .ok (.irem, 1) := by decide +kernel
theorem dd_X9_placeOf_21 : decode cX9_placeOf 21 = .ok (.iconst 1, 1) := by decide +kernel
theorem dd_X9_placeOf_22 : decode cX9_placeOf 22 = .ok (.if_icmp .ne 7, 3) := by decide +kernel
theorem dd_X9_placeOf_25 : decode cX9_placeOf 25 = .ok (.iconst 1, 1) := by decide +kernel
theorem dd_X9_placeOf_26 : decode cX9_placeOf 26 = .ok (.goto 4, 3) := by decide +kernel
theorem dd_X9_placeOf_29 : decode cX9_placeOf 29 = .ok (.iconst 0, 1) := by decide +kernel
theorem dd_X9_placeOf_30 : decode cX9_placeOf 30 = .ok (.istore_n 3, 1) := by decide +kernel
theorem dd_X9_placeOf_31 : decode cX9_placeOf 31 = .ok (.iconst 4, 1) := by decide +kernel
theorem dd_X9_placeOf_32 : decode cX9_placeOf 32 = .ok (.iload_n 2, 1) := by decide +kernel
theorem dd_X9_placeOf_33 : decode cX9_placeOf 33 = .ok (.imul, 1) := by decide +kernel
theorem dd_X9_placeOf_34 : decode cX9_placeOf 34 = .ok (.iload_n 3, 1) := by decide +kernel
theorem dd_X9_placeOf_35 : decode cX9_placeOf 35 = .ok (.ifCond .eq 15, 3) := by decide +kernel
theorem dd_X9_placeOf_38 : decode cX9_placeOf 38 = .ok (.iload_n 0, 1) := by decide +kernel
theorem dd_X9_placeOf_39 : decode cX9_placeOf 39 = .ok (.ifCond .le 7, 3) := by decide +kernel
theorem dd_X9_placeOf_42 : decode cX9_placeOf 42 = .ok (.iconst 0, 1) := by decide +kernel
theorem dd_X9_placeOf_43 : decode cX9_placeOf 43 = .ok (.goto 16, 3) := by decide +kernel
theorem dd_X9_placeOf_46 : decode cX9_placeOf 46 = .ok (.iconst 2, 1) := by decide +kernel
theorem dd_X9_placeOf_47 : decode cX9_placeOf 47 = .ok (.goto 12, 3) := by decide +kernel
theorem dd_X9_placeOf_50 : decode cX9_placeOf 50 = .ok (.iload_n 0, 1) := by decide +kernel
theorem dd_X9_placeOf_51 : decode cX9_placeOf 51 = .ok (.ifCond .ge 7, 3) := by decide +kernel
theorem dd_X9_placeOf_54 : decode cX9_placeOf 54 = .ok (.iconst 1, 1) := by decide +kernel
theorem dd_X9_placeOf_55 : decode cX9_placeOf 55 = .ok (.goto 4, 3) := by decide +kernel
theorem dd_X9_placeOf_58 : decode cX9_placeOf 58 = .ok (.iconst 3, 1) := by decide +kernel
theorem dd_X9_placeOf_59 : decode cX9_placeOf 59 = .ok (.iadd, 1) := by decide +kernel
theorem dd_X9_placeOf_60 : decode cX9_placeOf 60 = .ok (.ireturn, 1) := by decide +kernel
theorem ok_X9_placeOf : am_okM m_X9_placeOf 1 ∧ Cond.static m_X9_placeOf.1 ∈ am_tbl := ri_mk0 961 93 960 0 (by decide +kernel)
theorem c_X9_placeOf {x : Int} {F A : gs_F} (hx : -9 ≤ x ∧ x ≤ 9) : sC m_X9_placeOf 1 [gs_iv x] F A (fun rv F' A' => ∃ z : Int, rv = some (gs_iv z) ∧ F = F' ∧ A = A' ∧ (-100 ≤ z ∧ z ≤ 100)) := by
  refine sC_of ok_X9_placeOf.1 (Nat.le_of_ble_eq_true rfl) ?_
  show sA _ _ _ 0 [(0, gs_iv x)] [] F A
  refine sA_iload_n dd_X9_placeOf_0 rfl (.head _) ?_
  refine sA_if_ge (tgt := 10) dd_X9_placeOf_1 (by decide) (by omega) (fun q1 => ?_) (fun q1 => ?_)
  · skip
    refine sA_iload_n dd_X9_placeOf_10 rfl (.head _) ?_
    refine sA_istore_n (lv' := [(1, gs_iv x), (0, gs_iv x)]) dd_X9_placeOf_11 rfl (by decide) rfl ?_
    refine sA_iload_n dd_X9_placeOf_12 rfl (.head _) ?_
    refine sA_iconst (z := 1) dd_X9_placeOf_13 ?_
    refine sA_isub dd_X9_placeOf_14 ?_
    refine sA_iconst (z := 2) dd_X9_placeOf_15 ?_
    have htd := gs_tdiv2t (x - 1) (by omega)
    refine sA_idiv dd_X9_placeOf_16 (by omega) (by omega) (by omega) ?_
    refine sA_istore_n (lv' := [(2, gs_iv ((x - 1).tdiv 2)), (1, gs_iv x), (0, gs_iv x)]) dd_X9_placeOf_17 rfl (by decide) rfl ?_
    refine sA_iload_n dd_X9_placeOf_18 rfl (.tail _ (.head _)) ?_
    refine sA_iconst (z := 2) dd_X9_placeOf_19 ?_
    refine sA_iremN dd_X9_placeOf_20 (by omega) (by omega) (by omega) ?_
    refine sA_iconst (z := 1) dd_X9_placeOf_21 ?_
    refine sA_icmp_ne (tgt := 29) dd_X9_placeOf_22 (by decide) (by omega) (by omega) (fun q2 => ?_) (fun q2 => ?_)
    · skip
      refine sA_iconst (z := 0) dd_X9_placeOf_29 ?_
      refine sA_istore_n (lv' := [(3, gs_iv 0), (2, gs_iv ((x - 1).tdiv 2)), (1, gs_iv x), (0, gs_iv x)]) dd_X9_placeOf_30 rfl (by decide) rfl ?_
      refine sA_iconst (z := 4) dd_X9_placeOf_31 ?_
      refine sA_iload_n dd_X9_placeOf_32 rfl (.tail _ (.head _)) ?_
      refine sA_imul dd_X9_placeOf_33 ?_
      refine sA_iload_n dd_X9_placeOf_34 rfl (.head _) ?_
      refine sA_if_eq (tgt := 50) dd_X9_placeOf_35 (by decide) (by omega) (fun q3 => ?_) (fun q3 => absurd q3 (by omega))
      refine sA_iload_n dd_X9_placeOf_50 rfl (.tail _ (.tail _ (.tail _ (.head _)))) ?_
      refine sA_if_ge (tgt := 58) dd_X9_placeOf_51 (by decide) (by omega) (fun q4 => ?_) (fun q4 => absurd q4 (by omega))
      refine sA_iconst (z := 3) dd_X9_placeOf_58 ?_
      refine sA_iadd dd_X9_placeOf_59 ?_
      refine sA_iret (z := (4 * ((x - 1).tdiv 2)) + 3) dd_X9_placeOf_60 rfl ?_
      exact ⟨_, rfl, rfl, rfl, by omega⟩
    · skip
      refine sA_iconst (z := 1) dd_X9_placeOf_25 ?_
      refine sA_goto (tgt := 30) dd_X9_placeOf_26 (by decide) ?_
      refine sA_istore_n (lv' := [(3, gs_iv 1), (2, gs_iv ((x - 1).tdiv 2)), (1, gs_iv x), (0, gs_iv x)]) dd_X9_placeOf_30 rfl (by decide) rfl ?_
      refine sA_iconst (z := 4) dd_X9_placeOf_31 ?_
      refine sA_iload_n dd_X9_placeOf_32 rfl (.tail _ (.head _)) ?_
      refine sA_imul dd_X9_placeOf_33 ?_
      refine sA_iload_n dd_X9_placeOf_34 rfl (.head _) ?_
      refine sA_if_eq (tgt := 50) dd_X9_placeOf_35 (by decide) (by omega) (fun q5 => absurd q5 (by omega)) (fun q5 => ?_)
      refine sA_iload_n dd_X9_placeOf_38 rfl (.tail _ (.tail _ (.tail _ (.head _)))) ?_
      refine sA_if_le (tgt := 46) dd_X9_placeOf_39 (by decide) (by omega) (fun q6 => ?_) (fun q6 => ?_)
      · skip
        refine sA_iconst (z := 2) dd_X9_placeOf_46 ?_
        refine sA_goto (tgt := 59) dd_X9_placeOf_47 (by decide) ?_
        refine sA_iadd dd_X9_placeOf_59 ?_
        refine sA_iret (z := (4 * ((x - 1).tdiv 2)) + 2) dd_X9_placeOf_60 rfl ?_
        exact ⟨_, rfl, rfl, rfl, by omega⟩
      · skip
        refine sA_iconst (z := 0) dd_X9_placeOf_42 ?_
        refine sA_goto (tgt := 59) dd_X9_placeOf_43 (by decide) ?_
        refine sA_iadd dd_X9_placeOf_59 ?_
        refine sA_iret (z := (4 * ((x - 1).tdiv 2)) + 0) dd_X9_placeOf_60 rfl ?_
        exact ⟨_, rfl, rfl, rfl, by omega⟩
  · skip
    refine sA_iconst (z := 0) dd_X9_placeOf_4 ?_
    refine sA_iload_n dd_X9_placeOf_5 rfl (.head _) ?_
    refine sA_isub dd_X9_placeOf_6 ?_
    refine sA_goto (tgt := 11) dd_X9_placeOf_7 (by decide) ?_
    refine sA_istore_n (lv' := [(1, gs_iv (0 - x)), (0, gs_iv x)]) dd_X9_placeOf_11 rfl (by decide) rfl ?_
    refine sA_iload_n dd_X9_placeOf_12 rfl (.head _) ?_
    refine sA_iconst (z := 1) dd_X9_placeOf_13 ?_
    refine sA_isub dd_X9_placeOf_14 ?_
    refine sA_iconst (z := 2) dd_X9_placeOf_15 ?_
    have htd := gs_tdiv2t ((0 - x) - 1) (by omega)
    refine sA_idiv dd_X9_placeOf_16 (by omega) (by omega) (by omega) ?_
    refine sA_istore_n (lv' := [(2, gs_iv (((0 - x) - 1).tdiv 2)), (1, gs_iv (0 - x)), (0, gs_iv x)]) dd_X9_placeOf_17 rfl (by decide) rfl ?_
    refine sA_iload_n dd_X9_placeOf_18 rfl (.tail _ (.head _)) ?_
    refine sA_iconst (z := 2) dd_X9_placeOf_19 ?_
    refine sA_iremN dd_X9_placeOf_20 (by omega) (by omega) (by omega) ?_
    refine sA_iconst (z := 1) dd_X9_placeOf_21 ?_
    refine sA_icmp_ne (tgt := 29) dd_X9_placeOf_22 (by decide) (by omega) (by omega) (fun q7 => ?_) (fun q7 => ?_)
    · skip
      refine sA_iconst (z := 0) dd_X9_placeOf_29 ?_
      refine sA_istore_n (lv' := [(3, gs_iv 0), (2, gs_iv (((0 - x) - 1).tdiv 2)), (1, gs_iv (0 - x)), (0, gs_iv x)]) dd_X9_placeOf_30 rfl (by decide) rfl ?_
      refine sA_iconst (z := 4) dd_X9_placeOf_31 ?_
      refine sA_iload_n dd_X9_placeOf_32 rfl (.tail _ (.head _)) ?_
      refine sA_imul dd_X9_placeOf_33 ?_
      refine sA_iload_n dd_X9_placeOf_34 rfl (.head _) ?_
      refine sA_if_eq (tgt := 50) dd_X9_placeOf_35 (by decide) (by omega) (fun q8 => ?_) (fun q8 => absurd q8 (by omega))
      refine sA_iload_n dd_X9_placeOf_50 rfl (.tail _ (.tail _ (.tail _ (.head _)))) ?_
      refine sA_if_ge (tgt := 58) dd_X9_placeOf_51 (by decide) (by omega) (fun q9 => absurd q9 (by omega)) (fun q9 => ?_)
      refine sA_iconst (z := 1) dd_X9_placeOf_54 ?_
      refine sA_goto (tgt := 59) dd_X9_placeOf_55 (by decide) ?_
      refine sA_iadd dd_X9_placeOf_59 ?_
      refine sA_iret (z := (4 * (((0 - x) - 1).tdiv 2)) + 1) dd_X9_placeOf_60 rfl ?_
      exact ⟨_, rfl, rfl, rfl, by omega⟩
    · skip
      refine sA_iconst (z := 1) dd_X9_placeOf_25 ?_
      refine sA_goto (tgt := 30) dd_X9_placeOf_26 (by decide) ?_
      refine sA_istore_n (lv' := [(3, gs_iv 1), (2, gs_iv (((0 - x) - 1).tdiv 2)), (1, gs_iv (0 - x)), (0, gs_iv x)]) dd_X9_placeOf_30 rfl (by decide) rfl ?_
      refine sA_iconst (z := 4) dd_X9_placeOf_31 ?_
      refine sA_iload_n dd_X9_placeOf_32 rfl (.tail _ (.head _)) ?_
      refine sA_imul dd_X9_placeOf_33 ?_
      refine sA_iload_n dd_X9_placeOf_34 rfl (.head _) ?_
      refine sA_if_eq (tgt := 50) dd_X9_placeOf_35 (by decide) (by omega) (fun q10 => absurd q10 (by omega)) (fun q10 => ?_)
      refine sA_iload_n dd_X9_placeOf_38 rfl (.tail _ (.tail _ (.tail _ (.head _)))) ?_
      refine sA_if_le (tgt := 46) dd_X9_placeOf_39 (by decide) (by omega) (fun q11 => ?_) (fun q11 => ?_)
      · skip
        refine sA_iconst (z := 2) dd_X9_placeOf_46 ?_
        refine sA_goto (tgt := 59) dd_X9_placeOf_47 (by decide) ?_
        refine sA_iadd dd_X9_placeOf_59 ?_
        refine sA_iret (z := (4 * (((0 - x) - 1).tdiv 2)) + 2) dd_X9_placeOf_60 rfl ?_
        exact ⟨_, rfl, rfl, rfl, by omega⟩
      · skip
        refine sA_iconst (z := 0) dd_X9_placeOf_42 ?_
        refine sA_goto (tgt := 59) dd_X9_placeOf_43 (by decide) ?_
        refine sA_iadd dd_X9_placeOf_59 ?_
        refine sA_iret (z := (4 * (((0 - x) - 1).tdiv 2)) + 0) dd_X9_placeOf_60 rfl ?_
        exact ⟨_, rfl, rfl, rfl, by omega⟩
theorem dd_X9_farFrom_0 : decode cX9_farFrom 0 = .ok (.iload_n 2, 1) := by decide +kernel
theorem dd_X9_farFrom_1 : decode cX9_farFrom 1 = .ok (.invokestatic 116, 3) := by decide +kernel
theorem dd_X9_farFrom_4 : decode cX9_farFrom 4 = .ok (.iload_n 1, 1) := by decide +kernel
theorem dd_X9_farFrom_5 : decode cX9_farFrom 5 = .ok (.invokestatic 116, 3) := by decide +kernel
theorem dd_X9_farFrom_8 : decode cX9_farFrom 8 = .ok (.isub, 1) := by decide +kernel
theorem dd_X9_farFrom_9 : decode cX9_farFrom 9 = .ok (.istore_n 3, 1) := by decide +kernel
theorem dd_X9_farFrom_10 : decode cX9_farFrom 10 = .ok (.iload_n 3, 1) := by decide +kernel
theorem dd_X9_farFrom_11 : decode cX9_farFrom 11 = .ok (.ifCond .ge 14, 3) := by decide +kernel
theorem dd_X9_farFrom_14 : decode cX9_farFrom 14 = .ok (.iload_n 3, 1) := by decide +kernel
theorem dd_X9_farFrom_15 : decode cX9_farFrom 15 = .ok (.iconst 4, 1) := by decide +kernel
theorem dd_X9_farFrom_16 : decode cX9_farFrom 16 = .ok (.aload_n 0, 1) := by decide +kernel
theorem dd_X9_farFrom_17 : decode cX9_farFrom 17 = .ok (.getfield 64, 3) := by decide +kernel
theorem dd_X9_farFrom_20 : decode cX9_farFrom 20 = .ok (.imul, 1) := by decide +kernel
theorem dd_X9_farFrom_21 : decode cX9_farFrom 21 = .ok (.iadd, 1) := by decide +kernel
theorem dd_X9_farFrom_22 : decode cX9_farFrom 22 = .ok (.goto 4, 3) := by decide +kernel
theorem dd_X9_farFrom_25 : decode cX9_farFrom 25 = .ok (.iload_n 3, 1) := by decide +kernel
theorem dd_X9_farFrom_26 : decode cX9_farFrom 26 = .ok (.ireturn, 1) := by decide +kernel
theorem ml_X9_116 : Cond.methodLink RX9 116 m_X9_placeOf.1 ∈ am_tbl := ri_lw_in (pl := 959) (by decide +kernel)
theorem ok_X9_farFrom : am_okM m_X9_farFrom 2 ∧ Cond.instanceMethod m_X9_farFrom.1 ∈ am_tbl ∧ Cond.selects m_X9_farFrom.1.cls m_X9_farFrom.1 m_X9_farFrom.1 ∈ am_tbl := ri_mk1 958 93 957 44 (by decide +kernel)
theorem c_X9_farFrom {x u : Int} {F A : gs_F} (hI : gs_I F A) (hx : -9 ≤ x ∧ x ≤ 9) (hu : -9 ≤ u ∧ u ≤ 9) : sC m_X9_farFrom 2 [.ref 106, gs_iv x, gs_iv u] F A (fun rv F' A' => ∃ z : Int, rv = some (gs_iv z) ∧ F = F' ∧ A = A' ∧ (-300 ≤ z ∧ z ≤ 300)) := by
  refine sC_of ok_X9_farFrom.1 (Nat.le_of_ble_eq_true rfl) ?_
  show sA _ _ _ 0 [(0, .ref 106), (1, gs_iv x), (2, gs_iv u)] [] F A
  refine sA_iload_n dd_X9_farFrom_0 rfl (.tail _ (.tail _ (.head _))) ?_
  refine sA_callS (y2 := m_X9_placeOf) (n2 := 1) (d2 := 1) (as := [gs_iv u]) (rest := []) dd_X9_farFrom_1 ok_X9_placeOf ml_X9_116 rfl rfl (Nat.le_of_ble_eq_true rfl) (by decide) (c_X9_placeOf (by omega)) (fun r1 F2 A3 h4 => ?_)
  obtain ⟨z7, e6, e8, e9, x5⟩ := h4
  subst e6 e8 e9
  show sA _ _ _ 4 _ [gs_iv z7] _ _
  refine sA_iload_n dd_X9_farFrom_4 rfl (.tail _ (.head _)) ?_
  refine sA_callS (y2 := m_X9_placeOf) (n2 := 1) (d2 := 1) (as := [gs_iv x]) (rest := [gs_iv z7]) dd_X9_farFrom_5 ok_X9_placeOf ml_X9_116 rfl rfl (Nat.le_of_ble_eq_true rfl) (by decide) (c_X9_placeOf (by omega)) (fun r10 F11 A12 h13 => ?_)
  obtain ⟨z16, e15, e17, e18, x14⟩ := h13
  subst e15 e17 e18
  show sA _ _ _ 8 _ [gs_iv z16, gs_iv z7] _ _
  refine sA_isub dd_X9_farFrom_8 ?_
  refine sA_istore_n (lv' := [(3, gs_iv (z7 - z16)), (0, .ref 106), (1, gs_iv x), (2, gs_iv u)]) dd_X9_farFrom_9 rfl (by decide) rfl ?_
  refine sA_iload_n dd_X9_farFrom_10 rfl (.head _) ?_
  refine sA_if_ge (tgt := 25) dd_X9_farFrom_11 (by decide) (by omega) (fun q19 => ?_) (fun q19 => ?_)
  · skip
    refine sA_iload_n dd_X9_farFrom_25 rfl (.head _) ?_
    refine sA_iret (z := z7 - z16) dd_X9_farFrom_26 rfl ?_
    exact ⟨_, rfl, rfl, rfl, by omega⟩
  · skip
    refine sA_iload_n dd_X9_farFrom_14 rfl (.head _) ?_
    refine sA_iconst (z := 4) dd_X9_farFrom_15 ?_
    refine sA_aload_n dd_X9_farFrom_16 rfl (.tail _ (.head _)) ?_
    refine sA_geti (ci := 9) (j := 0) (q := (RX9, TX9, 28)) dd_X9_farFrom_17 rfl (by decide) fl_X9_64 (by decide) gs_s106 rfl ?_
    have b20 : (1 : Int) ≤ F 106 0 ∧ F 106 0 ≤ 3 := hI.1 106 0
    refine sA_imul dd_X9_farFrom_20 ?_
    refine sA_iadd dd_X9_farFrom_21 ?_
    refine sA_goto (tgt := 26) dd_X9_farFrom_22 (by decide) ?_
    refine sA_iret (z := (z7 - z16) + (4 * (F 106 0))) dd_X9_farFrom_26 rfl ?_
    exact ⟨_, rfl, rfl, rfl, by omega⟩
theorem dd_X9_goRound_0 : decode cX9_goRound 0 = .ok (.aload_n 0, 1) := by decide +kernel
theorem dd_X9_goRound_1 : decode cX9_goRound 1 = .ok (.iload_n 1, 1) := by decide +kernel
theorem dd_X9_goRound_2 : decode cX9_goRound 2 = .ok (.iload_n 2, 1) := by decide +kernel
theorem dd_X9_goRound_3 : decode cX9_goRound 3 = .ok (.invokevirtual 119, 3) := by decide +kernel
theorem dd_X9_goRound_6 : decode cX9_goRound 6 = .ok (.aload_n 0, 1) := by decide +kernel
theorem dd_X9_goRound_7 : decode cX9_goRound 7 = .ok (.iload_n 1, 1) := by decide +kernel
theorem dd_X9_goRound_8 : decode cX9_goRound 8 = .ok (.iload_n 3, 1) := by decide +kernel
theorem dd_X9_goRound_9 : decode cX9_goRound 9 = .ok (.invokevirtual 119, 3) := by decide +kernel
theorem dd_X9_goRound_12 : decode cX9_goRound 12 = .ok (.if_icmp .ge 7, 3) := by decide +kernel
theorem dd_X9_goRound_15 : decode cX9_goRound 15 = .ok (.iconst 1, 1) := by decide +kernel
theorem dd_X9_goRound_16 : decode cX9_goRound 16 = .ok (.goto 4, 3) := by decide +kernel
theorem dd_X9_goRound_19 : decode cX9_goRound 19 = .ok (.iconst 0, 1) := by decide +kernel
theorem dd_X9_goRound_20 : decode cX9_goRound 20 = .ok (.ireturn, 1) := by decide +kernel
theorem ml_X9_119 : Cond.methodLink RX9 119 m_X9_farFrom.1 ∈ am_tbl := ri_lw_in (pl := 955) (by decide +kernel)
theorem ok_X9_goRound : am_okM m_X9_goRound 3 ∧ Cond.instanceMethod m_X9_goRound.1 ∈ am_tbl ∧ Cond.selects m_X9_goRound.1.cls m_X9_goRound.1 m_X9_goRound.1 ∈ am_tbl := ri_mk1 969 93 968 46 (by decide +kernel)
theorem c_X9_goRound {x u v : Int} {F A : gs_F} (hI : gs_I F A) (hx : -9 ≤ x ∧ x ≤ 9) (hu : -9 ≤ u ∧ u ≤ 9) (hv : -9 ≤ v ∧ v ≤ 9) : sC m_X9_goRound 3 [.ref 106, gs_iv x, gs_iv u, gs_iv v] F A (fun rv F' A' => ∃ z : Int, rv = some (gs_iv z) ∧ F = F' ∧ A = A' ∧ (z = 0 ∨ z = 1)) := by
  refine sC_of ok_X9_goRound.1 (Nat.le_of_ble_eq_true rfl) ?_
  show sA _ _ _ 0 [(0, .ref 106), (1, gs_iv x), (2, gs_iv u), (3, gs_iv v)] [] F A
  refine sA_aload_n dd_X9_goRound_0 rfl (.head _) ?_
  refine sA_iload_n dd_X9_goRound_1 rfl (.tail _ (.head _)) ?_
  refine sA_iload_n dd_X9_goRound_2 rfl (.tail _ (.tail _ (.head _))) ?_
  refine sA_callV (y2 := m_X9_farFrom) (n2 := 2) (d2 := 2) (a := 106) (ci := 9) (q := (RX9, TX9, 28)) (as := [gs_iv x, gs_iv u]) (rest := []) dd_X9_goRound_3 ok_X9_farFrom ml_X9_119 rfl rfl (by decide) gs_s106 rfl rfl (Nat.le_of_ble_eq_true rfl) (by decide) (c_X9_farFrom hI (by omega) (by omega)) (fun r1 F2 A3 h4 => ?_)
  obtain ⟨z7, e6, e8, e9, x5⟩ := h4
  subst e6 e8 e9
  show sA _ _ _ 6 _ [gs_iv z7] _ _
  refine sA_aload_n dd_X9_goRound_6 rfl (.head _) ?_
  refine sA_iload_n dd_X9_goRound_7 rfl (.tail _ (.head _)) ?_
  refine sA_iload_n dd_X9_goRound_8 rfl (.tail _ (.tail _ (.tail _ (.head _)))) ?_
  refine sA_callV (y2 := m_X9_farFrom) (n2 := 2) (d2 := 2) (a := 106) (ci := 9) (q := (RX9, TX9, 28)) (as := [gs_iv x, gs_iv v]) (rest := [gs_iv z7]) dd_X9_goRound_9 ok_X9_farFrom ml_X9_119 rfl rfl (by decide) gs_s106 rfl rfl (Nat.le_of_ble_eq_true rfl) (by decide) (c_X9_farFrom hI (by omega) (by omega)) (fun r10 F11 A12 h13 => ?_)
  obtain ⟨z16, e15, e17, e18, x14⟩ := h13
  subst e15 e17 e18
  show sA _ _ _ 12 _ [gs_iv z16, gs_iv z7] _ _
  refine sA_icmp_ge (tgt := 19) dd_X9_goRound_12 (by decide) (by omega) (by omega) (fun q19 => ?_) (fun q19 => ?_)
  · skip
    refine sA_iconst (z := 0) dd_X9_goRound_19 ?_
    refine sA_bret (z := 0) dd_X9_goRound_20 rfl (by omega) ?_
    exact ⟨_, rfl, rfl, rfl, by omega⟩
  · skip
    refine sA_iconst (z := 1) dd_X9_goRound_15 ?_
    refine sA_goto (tgt := 20) dd_X9_goRound_16 (by decide) ?_
    refine sA_bret (z := 1) dd_X9_goRound_20 rfl (by omega) ?_
    exact ⟨_, rfl, rfl, rfl, by omega⟩
theorem dd_X9_meetAtOnce_0 : decode cX9_meetAtOnce 0 = .ok (.iload_n 1, 1) := by decide +kernel
theorem dd_X9_meetAtOnce_1 : decode cX9_meetAtOnce 1 = .ok (.iload_n 3, 1) := by decide +kernel
theorem dd_X9_meetAtOnce_2 : decode cX9_meetAtOnce 2 = .ok (.if_icmp .eq 35, 3) := by decide +kernel
theorem dd_X9_meetAtOnce_5 : decode cX9_meetAtOnce 5 = .ok (.iload_n 1, 1) := by decide +kernel
theorem dd_X9_meetAtOnce_6 : decode cX9_meetAtOnce 6 = .ok (.iload 4, 2) := by decide +kernel
theorem dd_X9_meetAtOnce_8 : decode cX9_meetAtOnce 8 = .ok (.if_icmp .eq 29, 3) := by decide +kernel
theorem dd_X9_meetAtOnce_11 : decode cX9_meetAtOnce 11 = .ok (.iload_n 2, 1) := by decide +kernel
theorem dd_X9_meetAtOnce_12 : decode cX9_meetAtOnce 12 = .ok (.iload_n 3, 1) := by decide +kernel
theorem dd_X9_meetAtOnce_13 : decode cX9_meetAtOnce 13 = .ok (.if_icmp .eq 24, 3) := by decide +kernel
theorem dd_X9_meetAtOnce_16 : decode cX9_meetAtOnce 16 = .ok (.iload_n 2, 1) := by decide +kernel
theorem dd_X9_meetAtOnce_17 : decode cX9_meetAtOnce 17 = .ok (.iload 4, 2) := by decide +kernel
theorem dd_X9_meetAtOnce_19 : decode cX9_meetAtOnce 19 = .ok (.if_icmp .eq 18, 3) := by decide +kernel
theorem dd_X9_meetAtOnce_22 : decode cX9_meetAtOnce 22 = .ok (.iload_n 3, 1) := by decide +kernel
theorem dd_X9_meetAtOnce_23 : decode cX9_meetAtOnce 23 = .ok (.iload 4, 2) := by decide +kernel
theorem dd_X9_meetAtOnce_25 : decode cX9_meetAtOnce 25 = .ok (.if_icmp .eq 12, 3) := by decide +kernel
theorem dd_X9_meetAtOnce_28 : decode cX9_meetAtOnce 28 = .ok (.iload_n 1, 1) := by decide +kernel
theorem dd_X9_meetAtOnce_29 : decode cX9_meetAtOnce 29 = .ok (.iload_n 2, 1) := by decide +kernel
theorem dd_X9_meetAtOnce_30 : decode cX9_meetAtOnce 30 = .ok (.if_icmp .eq 7, 3) := by decide +kernel
theorem dd_X9_meetAtOnce_33 : decode cX9_meetAtOnce 33 = .ok (.iconst 1, 1) := by decide +kernel
theorem dd_X9_meetAtOnce_34 : decode cX9_meetAtOnce 34 = .ok (.goto 4, 3) := by decide +kernel
theorem dd_X9_meetAtOnce_37 : decode cX9_meetAtOnce 37 = .ok (.iconst 0, 1) := by decide +kernel
theorem dd_X9_meetAtOnce_38 : decode cX9_meetAtOnce 38 = .ok (.istore 5, 2) := by decide +kernel
theorem dd_X9_meetAtOnce_40 : decode cX9_meetAtOnce 40 = .ok (.iload 5, 2) := by decide +kernel
theorem dd_X9_meetAtOnce_42 : decode cX9_meetAtOnce 42 = .ok (.ifCond .eq 51, 3) := by decide +kernel
theorem dd_X9_meetAtOnce_45 : decode cX9_meetAtOnce 45 = .ok (.aload_n 0, 1) := by decide +kernel
theorem dd_X9_meetAtOnce_46 : decode cX9_meetAtOnce 46 = .ok (.iload_n 1, 1) := by decide +kernel
theorem dd_X9_meetAtOnce_47 : decode cX9_meetAtOnce 47 = .ok (.iload_n 3, 1) := by decide +kernel
theorem dd_X9_meetAtOnce_48 : decode cX9_meetAtOnce 48 = .ok (.invokevirtual 119, 3) := by decide +kernel
theorem dd_X9_meetAtOnce_51 : decode cX9_meetAtOnce 51 = .ok (.aload_n 0, 1) := by decide +kernel
theorem dd_X9_meetAtOnce_52 : decode cX9_meetAtOnce 52 = .ok (.iload_n 1, 1) := by decide +kernel
theorem dd_X9_meetAtOnce_53 : decode cX9_meetAtOnce 53 = .ok (.iload_n 2, 1) := by decide +kernel
theorem dd_X9_meetAtOnce_54 : decode cX9_meetAtOnce 54 = .ok (.invokevirtual 119, 3) := by decide +kernel
theorem dd_X9_meetAtOnce_57 : decode cX9_meetAtOnce 57 = .ok (.if_icmp .ge 7, 3) := by decide +kernel
theorem dd_X9_meetAtOnce_60 : decode cX9_meetAtOnce 60 = .ok (.iconst 1, 1) := by decide +kernel
theorem dd_X9_meetAtOnce_61 : decode cX9_meetAtOnce 61 = .ok (.goto 4, 3) := by decide +kernel
theorem dd_X9_meetAtOnce_64 : decode cX9_meetAtOnce 64 = .ok (.iconst 0, 1) := by decide +kernel
theorem dd_X9_meetAtOnce_65 : decode cX9_meetAtOnce 65 = .ok (.aload_n 0, 1) := by decide +kernel
theorem dd_X9_meetAtOnce_66 : decode cX9_meetAtOnce 66 = .ok (.iload_n 1, 1) := by decide +kernel
theorem dd_X9_meetAtOnce_67 : decode cX9_meetAtOnce 67 = .ok (.iload 4, 2) := by decide +kernel
theorem dd_X9_meetAtOnce_69 : decode cX9_meetAtOnce 69 = .ok (.invokevirtual 119, 3) := by decide +kernel
theorem dd_X9_meetAtOnce_72 : decode cX9_meetAtOnce 72 = .ok (.aload_n 0, 1) := by decide +kernel
theorem dd_X9_meetAtOnce_73 : decode cX9_meetAtOnce 73 = .ok (.iload_n 1, 1) := by decide +kernel
theorem dd_X9_meetAtOnce_74 : decode cX9_meetAtOnce 74 = .ok (.iload_n 2, 1) := by decide +kernel
theorem dd_X9_meetAtOnce_75 : decode cX9_meetAtOnce 75 = .ok (.invokevirtual 119, 3) := by decide +kernel
theorem dd_X9_meetAtOnce_78 : decode cX9_meetAtOnce 78 = .ok (.if_icmp .ge 7, 3) := by decide +kernel
theorem dd_X9_meetAtOnce_81 : decode cX9_meetAtOnce 81 = .ok (.iconst 1, 1) := by decide +kernel
theorem dd_X9_meetAtOnce_82 : decode cX9_meetAtOnce 82 = .ok (.goto 4, 3) := by decide +kernel
theorem dd_X9_meetAtOnce_85 : decode cX9_meetAtOnce 85 = .ok (.iconst 0, 1) := by decide +kernel
theorem dd_X9_meetAtOnce_86 : decode cX9_meetAtOnce 86 = .ok (.if_icmp .eq 7, 3) := by decide +kernel
theorem dd_X9_meetAtOnce_89 : decode cX9_meetAtOnce 89 = .ok (.iconst 1, 1) := by decide +kernel
theorem dd_X9_meetAtOnce_90 : decode cX9_meetAtOnce 90 = .ok (.goto 4, 3) := by decide +kernel
theorem dd_X9_meetAtOnce_93 : decode cX9_meetAtOnce 93 = .ok (.iconst 0, 1) := by decide +kernel
theorem dd_X9_meetAtOnce_94 : decode cX9_meetAtOnce 94 = .ok (.ireturn, 1) := by decide +kernel
theorem ok_X9_meetAtOnce : am_okM m_X9_meetAtOnce 4 ∧ Cond.instanceMethod m_X9_meetAtOnce.1 ∈ am_tbl ∧ Cond.selects m_X9_meetAtOnce.1.cls m_X9_meetAtOnce.1 m_X9_meetAtOnce.1 ∈ am_tbl := ri_mk1 954 93 953 43 (by decide +kernel)
theorem c_X9_meetAtOnce {x a u b : Int} {F A : gs_F} (hI : gs_I F A) (hx : -9 ≤ x ∧ x ≤ 9) (ha : -9 ≤ a ∧ a ≤ 9) (hu : -9 ≤ u ∧ u ≤ 9) (hb : -9 ≤ b ∧ b ≤ 9) : sC m_X9_meetAtOnce 3 [.ref 106, gs_iv x, gs_iv a, gs_iv u, gs_iv b] F A (fun rv F' A' => ∃ z : Int, rv = some (gs_iv z) ∧ F = F' ∧ A = A' ∧ (z = 0 ∨ z = 1)) := by
  refine sC_of ok_X9_meetAtOnce.1 (Nat.le_of_ble_eq_true rfl) ?_
  show sA _ _ _ 0 [(0, .ref 106), (1, gs_iv x), (2, gs_iv a), (3, gs_iv u), (4, gs_iv b)] [] F A
  refine sA_iload_n dd_X9_meetAtOnce_0 rfl (.tail _ (.head _)) ?_
  refine sA_iload_n dd_X9_meetAtOnce_1 rfl (.tail _ (.tail _ (.tail _ (.head _)))) ?_
  refine sA_icmp_eq (tgt := 37) dd_X9_meetAtOnce_2 (by decide) (by omega) (by omega) (fun q1 => ?_) (fun q1 => ?_)
  · skip
    refine sA_iconst (z := 0) dd_X9_meetAtOnce_37 ?_
    refine sA_istore (lv' := [(5, gs_iv 0), (0, .ref 106), (1, gs_iv x), (2, gs_iv a), (3, gs_iv u), (4, gs_iv b)]) dd_X9_meetAtOnce_38 (by decide) rfl ?_
    refine sA_iload dd_X9_meetAtOnce_40 (.head _) ?_
    refine sA_if_eq (tgt := 93) dd_X9_meetAtOnce_42 (by decide) (by omega) (fun q2 => ?_) (fun q2 => absurd q2 (by omega))
    refine sA_iconst (z := 0) dd_X9_meetAtOnce_93 ?_
    refine sA_bret (z := 0) dd_X9_meetAtOnce_94 rfl (by omega) ?_
    exact ⟨_, rfl, rfl, rfl, by omega⟩
  · skip
    refine sA_iload_n dd_X9_meetAtOnce_5 rfl (.tail _ (.head _)) ?_
    refine sA_iload dd_X9_meetAtOnce_6 (.tail _ (.tail _ (.tail _ (.tail _ (.head _))))) ?_
    refine sA_icmp_eq (tgt := 37) dd_X9_meetAtOnce_8 (by decide) (by omega) (by omega) (fun q3 => ?_) (fun q3 => ?_)
    · skip
      refine sA_iconst (z := 0) dd_X9_meetAtOnce_37 ?_
      refine sA_istore (lv' := [(5, gs_iv 0), (0, .ref 106), (1, gs_iv x), (2, gs_iv a), (3, gs_iv u), (4, gs_iv b)]) dd_X9_meetAtOnce_38 (by decide) rfl ?_
      refine sA_iload dd_X9_meetAtOnce_40 (.head _) ?_
      refine sA_if_eq (tgt := 93) dd_X9_meetAtOnce_42 (by decide) (by omega) (fun q4 => ?_) (fun q4 => absurd q4 (by omega))
      refine sA_iconst (z := 0) dd_X9_meetAtOnce_93 ?_
      refine sA_bret (z := 0) dd_X9_meetAtOnce_94 rfl (by omega) ?_
      exact ⟨_, rfl, rfl, rfl, by omega⟩
    · skip
      refine sA_iload_n dd_X9_meetAtOnce_11 rfl (.tail _ (.tail _ (.head _))) ?_
      refine sA_iload_n dd_X9_meetAtOnce_12 rfl (.tail _ (.tail _ (.tail _ (.head _)))) ?_
      refine sA_icmp_eq (tgt := 37) dd_X9_meetAtOnce_13 (by decide) (by omega) (by omega) (fun q5 => ?_) (fun q5 => ?_)
      · skip
        refine sA_iconst (z := 0) dd_X9_meetAtOnce_37 ?_
        refine sA_istore (lv' := [(5, gs_iv 0), (0, .ref 106), (1, gs_iv x), (2, gs_iv a), (3, gs_iv u), (4, gs_iv b)]) dd_X9_meetAtOnce_38 (by decide) rfl ?_
        refine sA_iload dd_X9_meetAtOnce_40 (.head _) ?_
        refine sA_if_eq (tgt := 93) dd_X9_meetAtOnce_42 (by decide) (by omega) (fun q6 => ?_) (fun q6 => absurd q6 (by omega))
        refine sA_iconst (z := 0) dd_X9_meetAtOnce_93 ?_
        refine sA_bret (z := 0) dd_X9_meetAtOnce_94 rfl (by omega) ?_
        exact ⟨_, rfl, rfl, rfl, by omega⟩
      · skip
        refine sA_iload_n dd_X9_meetAtOnce_16 rfl (.tail _ (.tail _ (.head _))) ?_
        refine sA_iload dd_X9_meetAtOnce_17 (.tail _ (.tail _ (.tail _ (.tail _ (.head _))))) ?_
        refine sA_icmp_eq (tgt := 37) dd_X9_meetAtOnce_19 (by decide) (by omega) (by omega) (fun q7 => ?_) (fun q7 => ?_)
        · skip
          refine sA_iconst (z := 0) dd_X9_meetAtOnce_37 ?_
          refine sA_istore (lv' := [(5, gs_iv 0), (0, .ref 106), (1, gs_iv x), (2, gs_iv a), (3, gs_iv u), (4, gs_iv b)]) dd_X9_meetAtOnce_38 (by decide) rfl ?_
          refine sA_iload dd_X9_meetAtOnce_40 (.head _) ?_
          refine sA_if_eq (tgt := 93) dd_X9_meetAtOnce_42 (by decide) (by omega) (fun q8 => ?_) (fun q8 => absurd q8 (by omega))
          refine sA_iconst (z := 0) dd_X9_meetAtOnce_93 ?_
          refine sA_bret (z := 0) dd_X9_meetAtOnce_94 rfl (by omega) ?_
          exact ⟨_, rfl, rfl, rfl, by omega⟩
        · skip
          refine sA_iload_n dd_X9_meetAtOnce_22 rfl (.tail _ (.tail _ (.tail _ (.head _)))) ?_
          refine sA_iload dd_X9_meetAtOnce_23 (.tail _ (.tail _ (.tail _ (.tail _ (.head _))))) ?_
          refine sA_icmp_eq (tgt := 37) dd_X9_meetAtOnce_25 (by decide) (by omega) (by omega) (fun q9 => ?_) (fun q9 => ?_)
          · skip
            refine sA_iconst (z := 0) dd_X9_meetAtOnce_37 ?_
            refine sA_istore (lv' := [(5, gs_iv 0), (0, .ref 106), (1, gs_iv x), (2, gs_iv a), (3, gs_iv u), (4, gs_iv b)]) dd_X9_meetAtOnce_38 (by decide) rfl ?_
            refine sA_iload dd_X9_meetAtOnce_40 (.head _) ?_
            refine sA_if_eq (tgt := 93) dd_X9_meetAtOnce_42 (by decide) (by omega) (fun q10 => ?_) (fun q10 => absurd q10 (by omega))
            refine sA_iconst (z := 0) dd_X9_meetAtOnce_93 ?_
            refine sA_bret (z := 0) dd_X9_meetAtOnce_94 rfl (by omega) ?_
            exact ⟨_, rfl, rfl, rfl, by omega⟩
          · skip
            refine sA_iload_n dd_X9_meetAtOnce_28 rfl (.tail _ (.head _)) ?_
            refine sA_iload_n dd_X9_meetAtOnce_29 rfl (.tail _ (.tail _ (.head _))) ?_
            refine sA_icmp_eq (tgt := 37) dd_X9_meetAtOnce_30 (by decide) (by omega) (by omega) (fun q11 => ?_) (fun q11 => ?_)
            · skip
              refine sA_iconst (z := 0) dd_X9_meetAtOnce_37 ?_
              refine sA_istore (lv' := [(5, gs_iv 0), (0, .ref 106), (1, gs_iv x), (2, gs_iv a), (3, gs_iv u), (4, gs_iv b)]) dd_X9_meetAtOnce_38 (by decide) rfl ?_
              refine sA_iload dd_X9_meetAtOnce_40 (.head _) ?_
              refine sA_if_eq (tgt := 93) dd_X9_meetAtOnce_42 (by decide) (by omega) (fun q12 => ?_) (fun q12 => absurd q12 (by omega))
              refine sA_iconst (z := 0) dd_X9_meetAtOnce_93 ?_
              refine sA_bret (z := 0) dd_X9_meetAtOnce_94 rfl (by omega) ?_
              exact ⟨_, rfl, rfl, rfl, by omega⟩
            · skip
              refine sA_iconst (z := 1) dd_X9_meetAtOnce_33 ?_
              refine sA_goto (tgt := 38) dd_X9_meetAtOnce_34 (by decide) ?_
              refine sA_istore (lv' := [(5, gs_iv 1), (0, .ref 106), (1, gs_iv x), (2, gs_iv a), (3, gs_iv u), (4, gs_iv b)]) dd_X9_meetAtOnce_38 (by decide) rfl ?_
              refine sA_iload dd_X9_meetAtOnce_40 (.head _) ?_
              refine sA_if_eq (tgt := 93) dd_X9_meetAtOnce_42 (by decide) (by omega) (fun q13 => absurd q13 (by omega)) (fun q13 => ?_)
              refine sA_aload_n dd_X9_meetAtOnce_45 rfl (.tail _ (.head _)) ?_
              refine sA_iload_n dd_X9_meetAtOnce_46 rfl (.tail _ (.tail _ (.head _))) ?_
              refine sA_iload_n dd_X9_meetAtOnce_47 rfl (.tail _ (.tail _ (.tail _ (.tail _ (.head _))))) ?_
              refine sA_callV (y2 := m_X9_farFrom) (n2 := 2) (d2 := 2) (a := 106) (ci := 9) (q := (RX9, TX9, 28)) (as := [gs_iv x, gs_iv u]) (rest := []) dd_X9_meetAtOnce_48 ok_X9_farFrom ml_X9_119 rfl rfl (by decide) gs_s106 rfl rfl (Nat.le_of_ble_eq_true rfl) (by decide) (c_X9_farFrom hI (by omega) (by omega)) (fun r14 F15 A16 h17 => ?_)
              obtain ⟨z20, e19, e21, e22, x18⟩ := h17
              subst e19 e21 e22
              show sA _ _ _ 51 _ [gs_iv z20] _ _
              refine sA_aload_n dd_X9_meetAtOnce_51 rfl (.tail _ (.head _)) ?_
              refine sA_iload_n dd_X9_meetAtOnce_52 rfl (.tail _ (.tail _ (.head _))) ?_
              refine sA_iload_n dd_X9_meetAtOnce_53 rfl (.tail _ (.tail _ (.tail _ (.head _)))) ?_
              refine sA_callV (y2 := m_X9_farFrom) (n2 := 2) (d2 := 2) (a := 106) (ci := 9) (q := (RX9, TX9, 28)) (as := [gs_iv x, gs_iv a]) (rest := [gs_iv z20]) dd_X9_meetAtOnce_54 ok_X9_farFrom ml_X9_119 rfl rfl (by decide) gs_s106 rfl rfl (Nat.le_of_ble_eq_true rfl) (by decide) (c_X9_farFrom hI (by omega) (by omega)) (fun r23 F24 A25 h26 => ?_)
              obtain ⟨z29, e28, e30, e31, x27⟩ := h26
              subst e28 e30 e31
              show sA _ _ _ 57 _ [gs_iv z29, gs_iv z20] _ _
              refine sA_icmp_ge (tgt := 64) dd_X9_meetAtOnce_57 (by decide) (by omega) (by omega) (fun q32 => ?_) (fun q32 => ?_)
              · skip
                refine sA_iconst (z := 0) dd_X9_meetAtOnce_64 ?_
                refine sA_aload_n dd_X9_meetAtOnce_65 rfl (.tail _ (.head _)) ?_
                refine sA_iload_n dd_X9_meetAtOnce_66 rfl (.tail _ (.tail _ (.head _))) ?_
                refine sA_iload dd_X9_meetAtOnce_67 (.tail _ (.tail _ (.tail _ (.tail _ (.tail _ (.head _)))))) ?_
                refine sA_callV (y2 := m_X9_farFrom) (n2 := 2) (d2 := 2) (a := 106) (ci := 9) (q := (RX9, TX9, 28)) (as := [gs_iv x, gs_iv b]) (rest := [gs_iv 0]) dd_X9_meetAtOnce_69 ok_X9_farFrom ml_X9_119 rfl rfl (by decide) gs_s106 rfl rfl (Nat.le_of_ble_eq_true rfl) (by decide) (c_X9_farFrom hI (by omega) (by omega)) (fun r33 F34 A35 h36 => ?_)
                obtain ⟨z39, e38, e40, e41, x37⟩ := h36
                subst e38 e40 e41
                show sA _ _ _ 72 _ [gs_iv z39, gs_iv 0] _ _
                refine sA_aload_n dd_X9_meetAtOnce_72 rfl (.tail _ (.head _)) ?_
                refine sA_iload_n dd_X9_meetAtOnce_73 rfl (.tail _ (.tail _ (.head _))) ?_
                refine sA_iload_n dd_X9_meetAtOnce_74 rfl (.tail _ (.tail _ (.tail _ (.head _)))) ?_
                refine sA_callV (y2 := m_X9_farFrom) (n2 := 2) (d2 := 2) (a := 106) (ci := 9) (q := (RX9, TX9, 28)) (as := [gs_iv x, gs_iv a]) (rest := [gs_iv z39, gs_iv 0]) dd_X9_meetAtOnce_75 ok_X9_farFrom ml_X9_119 rfl rfl (by decide) gs_s106 rfl rfl (Nat.le_of_ble_eq_true rfl) (by decide) (c_X9_farFrom hI (by omega) (by omega)) (fun r42 F43 A44 h45 => ?_)
                obtain ⟨z48, e47, e49, e50, x46⟩ := h45
                subst e47 e49 e50
                show sA _ _ _ 78 _ [gs_iv z48, gs_iv z39, gs_iv 0] _ _
                refine sA_icmp_ge (tgt := 85) dd_X9_meetAtOnce_78 (by decide) (by omega) (by omega) (fun q51 => ?_) (fun q51 => ?_)
                · skip
                  refine sA_iconst (z := 0) dd_X9_meetAtOnce_85 ?_
                  refine sA_icmp_eq (tgt := 93) dd_X9_meetAtOnce_86 (by decide) (by omega) (by omega) (fun q52 => ?_) (fun q52 => absurd q52 (by omega))
                  refine sA_iconst (z := 0) dd_X9_meetAtOnce_93 ?_
                  refine sA_bret (z := 0) dd_X9_meetAtOnce_94 rfl (by omega) ?_
                  exact ⟨_, rfl, rfl, rfl, by omega⟩
                · skip
                  refine sA_iconst (z := 1) dd_X9_meetAtOnce_81 ?_
                  refine sA_goto (tgt := 86) dd_X9_meetAtOnce_82 (by decide) ?_
                  refine sA_icmp_eq (tgt := 93) dd_X9_meetAtOnce_86 (by decide) (by omega) (by omega) (fun q53 => absurd q53 (by omega)) (fun q53 => ?_)
                  refine sA_iconst (z := 1) dd_X9_meetAtOnce_89 ?_
                  refine sA_goto (tgt := 94) dd_X9_meetAtOnce_90 (by decide) ?_
                  refine sA_bret (z := 1) dd_X9_meetAtOnce_94 rfl (by omega) ?_
                  exact ⟨_, rfl, rfl, rfl, by omega⟩
              · skip
                refine sA_iconst (z := 1) dd_X9_meetAtOnce_60 ?_
                refine sA_goto (tgt := 65) dd_X9_meetAtOnce_61 (by decide) ?_
                refine sA_aload_n dd_X9_meetAtOnce_65 rfl (.tail _ (.head _)) ?_
                refine sA_iload_n dd_X9_meetAtOnce_66 rfl (.tail _ (.tail _ (.head _))) ?_
                refine sA_iload dd_X9_meetAtOnce_67 (.tail _ (.tail _ (.tail _ (.tail _ (.tail _ (.head _)))))) ?_
                refine sA_callV (y2 := m_X9_farFrom) (n2 := 2) (d2 := 2) (a := 106) (ci := 9) (q := (RX9, TX9, 28)) (as := [gs_iv x, gs_iv b]) (rest := [gs_iv 1]) dd_X9_meetAtOnce_69 ok_X9_farFrom ml_X9_119 rfl rfl (by decide) gs_s106 rfl rfl (Nat.le_of_ble_eq_true rfl) (by decide) (c_X9_farFrom hI (by omega) (by omega)) (fun r54 F55 A56 h57 => ?_)
                obtain ⟨z60, e59, e61, e62, x58⟩ := h57
                subst e59 e61 e62
                show sA _ _ _ 72 _ [gs_iv z60, gs_iv 1] _ _
                refine sA_aload_n dd_X9_meetAtOnce_72 rfl (.tail _ (.head _)) ?_
                refine sA_iload_n dd_X9_meetAtOnce_73 rfl (.tail _ (.tail _ (.head _))) ?_
                refine sA_iload_n dd_X9_meetAtOnce_74 rfl (.tail _ (.tail _ (.tail _ (.head _)))) ?_
                refine sA_callV (y2 := m_X9_farFrom) (n2 := 2) (d2 := 2) (a := 106) (ci := 9) (q := (RX9, TX9, 28)) (as := [gs_iv x, gs_iv a]) (rest := [gs_iv z60, gs_iv 1]) dd_X9_meetAtOnce_75 ok_X9_farFrom ml_X9_119 rfl rfl (by decide) gs_s106 rfl rfl (Nat.le_of_ble_eq_true rfl) (by decide) (c_X9_farFrom hI (by omega) (by omega)) (fun r63 F64 A65 h66 => ?_)
                obtain ⟨z69, e68, e70, e71, x67⟩ := h66
                subst e68 e70 e71
                show sA _ _ _ 78 _ [gs_iv z69, gs_iv z60, gs_iv 1] _ _
                refine sA_icmp_ge (tgt := 85) dd_X9_meetAtOnce_78 (by decide) (by omega) (by omega) (fun q72 => ?_) (fun q72 => ?_)
                · skip
                  refine sA_iconst (z := 0) dd_X9_meetAtOnce_85 ?_
                  refine sA_icmp_eq (tgt := 93) dd_X9_meetAtOnce_86 (by decide) (by omega) (by omega) (fun q73 => absurd q73 (by omega)) (fun q73 => ?_)
                  refine sA_iconst (z := 1) dd_X9_meetAtOnce_89 ?_
                  refine sA_goto (tgt := 94) dd_X9_meetAtOnce_90 (by decide) ?_
                  refine sA_bret (z := 1) dd_X9_meetAtOnce_94 rfl (by omega) ?_
                  exact ⟨_, rfl, rfl, rfl, by omega⟩
                · skip
                  refine sA_iconst (z := 1) dd_X9_meetAtOnce_81 ?_
                  refine sA_goto (tgt := 86) dd_X9_meetAtOnce_82 (by decide) ?_
                  refine sA_icmp_eq (tgt := 93) dd_X9_meetAtOnce_86 (by decide) (by omega) (by omega) (fun q74 => ?_) (fun q74 => absurd q74 (by omega))
                  refine sA_iconst (z := 0) dd_X9_meetAtOnce_93 ?_
                  refine sA_bret (z := 0) dd_X9_meetAtOnce_94 rfl (by omega) ?_
                  exact ⟨_, rfl, rfl, rfl, by omega⟩
theorem dd_X9_meetAlong_0 : decode cX9_meetAlong 0 = .ok (.iconst 1, 1) := by decide +kernel
theorem dd_X9_meetAlong_1 : decode cX9_meetAlong 1 = .ok (.istore_n 3, 1) := by decide +kernel
theorem dd_X9_meetAlong_2 : decode cX9_meetAlong 2 = .ok (.iconst 2, 1) := by decide +kernel
theorem dd_X9_meetAlong_3 : decode cX9_meetAlong 3 = .ok (.aload_n 0, 1) := by decide +kernel
theorem dd_X9_meetAlong_4 : decode cX9_meetAlong 4 = .ok (.getfield 83, 3) := by decide +kernel
theorem dd_X9_meetAlong_7 : decode cX9_meetAlong 7 = .ok (.aload_n 0, 1) := by decide +kernel
theorem dd_X9_meetAlong_8 : decode cX9_meetAlong 8 = .ok (.getfield 86, 3) := by decide +kernel
theorem dd_X9_meetAlong_11 : decode cX9_meetAlong 11 = .ok (.iadd, 1) := by decide +kernel
theorem dd_X9_meetAlong_12 : decode cX9_meetAlong 12 = .ok (.imul, 1) := by decide +kernel
theorem dd_X9_meetAlong_13 : decode cX9_meetAlong 13 = .ok (.istore 4, 2) := by decide +kernel
theorem dd_X9_meetAlong_15 : decode cX9_meetAlong 15 = .ok (.iload_n 3, 1) := by decide +kernel
theorem dd_X9_meetAlong_16 : decode cX9_meetAlong 16 = .ok (.iload 4, 2) := by decide +kernel
theorem dd_X9_meetAlong_18 : decode cX9_meetAlong 18 = .ok (.if_icmp .gt 26, 3) := by decide +kernel
theorem dd_X9_meetAlong_21 : decode cX9_meetAlong 21 = .ok (.aload_n 0, 1) := by decide +kernel
theorem dd_X9_meetAlong_22 : decode cX9_meetAlong 22 = .ok (.iload_n 1, 1) := by decide +kernel
theorem dd_X9_meetAlong_23 : decode cX9_meetAlong 23 = .ok (.iload_n 3, 1) := by decide +kernel
theorem dd_X9_meetAlong_24 : decode cX9_meetAlong 24 = .ok (.iadd, 1) := by decide +kernel
theorem dd_X9_meetAlong_25 : decode cX9_meetAlong 25 = .ok (.invokevirtual 89, 3) := by decide +kernel
theorem dd_X9_meetAlong_28 : decode cX9_meetAlong 28 = .ok (.aload_n 0, 1) := by decide +kernel
theorem dd_X9_meetAlong_29 : decode cX9_meetAlong 29 = .ok (.iload_n 2, 1) := by decide +kernel
theorem dd_X9_meetAlong_30 : decode cX9_meetAlong 30 = .ok (.iload_n 3, 1) := by decide +kernel
theorem dd_X9_meetAlong_31 : decode cX9_meetAlong 31 = .ok (.iadd, 1) := by decide +kernel
theorem dd_X9_meetAlong_32 : decode cX9_meetAlong 32 = .ok (.invokevirtual 123, 3) := by decide +kernel
theorem dd_X9_meetAlong_35 : decode cX9_meetAlong 35 = .ok (.if_icmp .ne 9, 3) := by decide +kernel
theorem dd_X9_meetAlong_38 : decode cX9_meetAlong 38 = .ok (.iinc 3 1, 3) := by decide +kernel
theorem dd_X9_meetAlong_41 : decode cX9_meetAlong 41 = .ok (.goto (-26), 3) := by decide +kernel
theorem dd_X9_meetAlong_44 : decode cX9_meetAlong 44 = .ok (.iload_n 3, 1) := by decide +kernel
theorem dd_X9_meetAlong_45 : decode cX9_meetAlong 45 = .ok (.iload 4, 2) := by decide +kernel
theorem dd_X9_meetAlong_47 : decode cX9_meetAlong 47 = .ok (.if_icmp .le 5, 3) := by decide +kernel
theorem dd_X9_meetAlong_50 : decode cX9_meetAlong 50 = .ok (.iconst 0, 1) := by decide +kernel
theorem dd_X9_meetAlong_51 : decode cX9_meetAlong 51 = .ok (.ireturn, 1) := by decide +kernel
theorem dd_X9_meetAlong_52 : decode cX9_meetAlong 52 = .ok (.aload_n 0, 1) := by decide +kernel
theorem dd_X9_meetAlong_53 : decode cX9_meetAlong 53 = .ok (.iload_n 1, 1) := by decide +kernel
theorem dd_X9_meetAlong_54 : decode cX9_meetAlong 54 = .ok (.invokevirtual 89, 3) := by decide +kernel
theorem dd_X9_meetAlong_57 : decode cX9_meetAlong 57 = .ok (.istore 5, 2) := by decide +kernel
theorem dd_X9_meetAlong_59 : decode cX9_meetAlong 59 = .ok (.iconst 0, 1) := by decide +kernel
theorem dd_X9_meetAlong_60 : decode cX9_meetAlong 60 = .ok (.aload_n 0, 1) := by decide +kernel
theorem dd_X9_meetAlong_61 : decode cX9_meetAlong 61 = .ok (.iload_n 1, 1) := by decide +kernel
theorem dd_X9_meetAlong_62 : decode cX9_meetAlong 62 = .ok (.aload_n 0, 1) := by decide +kernel
theorem dd_X9_meetAlong_63 : decode cX9_meetAlong 63 = .ok (.getfield 83, 3) := by decide +kernel
theorem dd_X9_meetAlong_66 : decode cX9_meetAlong 66 = .ok (.iadd, 1) := by decide +kernel
theorem dd_X9_meetAlong_67 : decode cX9_meetAlong 67 = .ok (.iconst 1, 1) := by decide +kernel
theorem dd_X9_meetAlong_68 : decode cX9_meetAlong 68 = .ok (.isub, 1) := by decide +kernel
theorem dd_X9_meetAlong_69 : decode cX9_meetAlong 69 = .ok (.invokevirtual 89, 3) := by decide +kernel
theorem dd_X9_meetAlong_72 : decode cX9_meetAlong 72 = .ok (.isub, 1) := by decide +kernel
theorem dd_X9_meetAlong_73 : decode cX9_meetAlong 73 = .ok (.istore 6, 2) := by decide +kernel
theorem dd_X9_meetAlong_75 : decode cX9_meetAlong 75 = .ok (.iconst 0, 1) := by decide +kernel
theorem dd_X9_meetAlong_76 : decode cX9_meetAlong 76 = .ok (.aload_n 0, 1) := by decide +kernel
theorem dd_X9_meetAlong_77 : decode cX9_meetAlong 77 = .ok (.iload_n 2, 1) := by decide +kernel
theorem dd_X9_meetAlong_78 : decode cX9_meetAlong 78 = .ok (.aload_n 0, 1) := by decide +kernel
theorem dd_X9_meetAlong_79 : decode cX9_meetAlong 79 = .ok (.getfield 86, 3) := by decide +kernel
theorem dd_X9_meetAlong_82 : decode cX9_meetAlong 82 = .ok (.iadd, 1) := by decide +kernel
theorem dd_X9_meetAlong_83 : decode cX9_meetAlong 83 = .ok (.iconst 1, 1) := by decide +kernel
theorem dd_X9_meetAlong_84 : decode cX9_meetAlong 84 = .ok (.isub, 1) := by decide +kernel
theorem dd_X9_meetAlong_85 : decode cX9_meetAlong 85 = .ok (.invokevirtual 123, 3) := by decide +kernel
theorem dd_X9_meetAlong_88 : decode cX9_meetAlong 88 = .ok (.isub, 1) := by decide +kernel
theorem dd_X9_meetAlong_89 : decode cX9_meetAlong 89 = .ok (.istore 7, 2) := by decide +kernel
theorem dd_X9_meetAlong_91 : decode cX9_meetAlong 91 = .ok (.iconst 0, 1) := by decide +kernel
theorem dd_X9_meetAlong_92 : decode cX9_meetAlong 92 = .ok (.aload_n 0, 1) := by decide +kernel
theorem dd_X9_meetAlong_93 : decode cX9_meetAlong 93 = .ok (.iload_n 1, 1) := by decide +kernel
theorem dd_X9_meetAlong_94 : decode cX9_meetAlong 94 = .ok (.iload_n 3, 1) := by decide +kernel
theorem dd_X9_meetAlong_95 : decode cX9_meetAlong 95 = .ok (.iadd, 1) := by decide +kernel
theorem dd_X9_meetAlong_96 : decode cX9_meetAlong 96 = .ok (.iconst 1, 1) := by decide +kernel
theorem dd_X9_meetAlong_97 : decode cX9_meetAlong 97 = .ok (.isub, 1) := by decide +kernel
theorem dd_X9_meetAlong_98 : decode cX9_meetAlong 98 = .ok (.invokevirtual 89, 3) := by decide +kernel
theorem dd_X9_meetAlong_101 : decode cX9_meetAlong 101 = .ok (.isub, 1) := by decide +kernel
theorem dd_X9_meetAlong_102 : decode cX9_meetAlong 102 = .ok (.istore 8, 2) := by decide +kernel
theorem dd_X9_meetAlong_104 : decode cX9_meetAlong 104 = .ok (.aload_n 0, 1) := by decide +kernel
theorem dd_X9_meetAlong_105 : decode cX9_meetAlong 105 = .ok (.iload 5, 2) := by decide +kernel
theorem dd_X9_meetAlong_107 : decode cX9_meetAlong 107 = .ok (.iload 6, 2) := by decide +kernel
theorem dd_X9_meetAlong_109 : decode cX9_meetAlong 109 = .ok (.iload 7, 2) := by decide +kernel
theorem dd_X9_meetAlong_111 : decode cX9_meetAlong 111 = .ok (.invokevirtual 126, 3) := by decide +kernel
theorem dd_X9_meetAlong_114 : decode cX9_meetAlong 114 = .ok (.aload_n 0, 1) := by decide +kernel
theorem dd_X9_meetAlong_115 : decode cX9_meetAlong 115 = .ok (.iload 8, 2) := by decide +kernel
theorem dd_X9_meetAlong_117 : decode cX9_meetAlong 117 = .ok (.aload_n 0, 1) := by decide +kernel
theorem dd_X9_meetAlong_118 : decode cX9_meetAlong 118 = .ok (.iload_n 1, 1) := by decide +kernel
theorem dd_X9_meetAlong_119 : decode cX9_meetAlong 119 = .ok (.iload_n 3, 1) := by decide +kernel
theorem dd_X9_meetAlong_120 : decode cX9_meetAlong 120 = .ok (.iadd, 1) := by decide +kernel
theorem dd_X9_meetAlong_121 : decode cX9_meetAlong 121 = .ok (.invokevirtual 89, 3) := by decide +kernel
theorem dd_X9_meetAlong_124 : decode cX9_meetAlong 124 = .ok (.aload_n 0, 1) := by decide +kernel
theorem dd_X9_meetAlong_125 : decode cX9_meetAlong 125 = .ok (.iload_n 2, 1) := by decide +kernel
theorem dd_X9_meetAlong_126 : decode cX9_meetAlong 126 = .ok (.iload_n 3, 1) := by decide +kernel
theorem dd_X9_meetAlong_127 : decode cX9_meetAlong 127 = .ok (.iadd, 1) := by decide +kernel
theorem dd_X9_meetAlong_128 : decode cX9_meetAlong 128 = .ok (.invokevirtual 123, 3) := by decide +kernel
theorem dd_X9_meetAlong_131 : decode cX9_meetAlong 131 = .ok (.invokevirtual 126, 3) := by decide +kernel
theorem dd_X9_meetAlong_134 : decode cX9_meetAlong 134 = .ok (.if_icmp .ne 7, 3) := by decide +kernel
theorem dd_X9_meetAlong_137 : decode cX9_meetAlong 137 = .ok (.iconst 1, 1) := by decide +kernel
theorem dd_X9_meetAlong_138 : decode cX9_meetAlong 138 = .ok (.goto 4, 3) := by decide +kernel
theorem dd_X9_meetAlong_141 : decode cX9_meetAlong 141 = .ok (.iconst 0, 1) := by decide +kernel
theorem dd_X9_meetAlong_142 : decode cX9_meetAlong 142 = .ok (.ireturn, 1) := by decide +kernel
theorem ml_X9_123 : Cond.methodLink RX9 123 m_X9_ofV.1 ∈ am_tbl := ri_lw_in (pl := 947) (by decide +kernel)
theorem ml_X9_126 : Cond.methodLink RX9 126 m_X9_goRound.1 ∈ am_tbl := ri_lw_in (pl := 966) (by decide +kernel)
theorem ok_X9_meetAlong : am_okM m_X9_meetAlong 2 ∧ Cond.instanceMethod m_X9_meetAlong.1 ∈ am_tbl ∧ Cond.selects m_X9_meetAlong.1.cls m_X9_meetAlong.1 m_X9_meetAlong.1 ∈ am_tbl := ri_mk1 965 93 964 45 (by decide +kernel)
theorem k_X9_meetAlong {i j : Int} {F A : gs_F} (hI : gs_I F A) (hi : 0 ≤ i ∧ i < F 106 9) (hj : 0 ≤ j ∧ j < F 106 11) : ∀ nN : Nat, (∀ (n : Int) (e : Int),  1 ≤ n ∧ n ≤ e + 1 → e = 2 * (F 106 9 + F 106 11) → e + 1 - n < (nN : Int) → sA m_X9_meetAlong 4 (fun rv F' A' => ∃ z : Int, rv = some (gs_iv z) ∧ F = F' ∧ A = A' ∧ (z = 0 ∨ z = 1)) 15 [(4, gs_iv e), (3, gs_iv n), (0, .ref 106), (1, gs_iv i), (2, gs_iv j)] [] F A) := by
  intro nN
  induction nN with
  | zero =>
    exact fun a0 a1 i0 i1 hm => by exfalso; omega
  | succ nN ih =>
    intro n e i0 i1 hm
    have hb9 : (0 : Int) ≤ F 106 9 ∧ F 106 9 ≤ 400 := hI.1 106 9
    have hb11 : (0 : Int) ≤ F 106 11 ∧ F 106 11 ≤ 60 := hI.1 106 11
    refine sA_iload_n dd_X9_meetAlong_15 rfl (.tail _ (.head _)) ?_
    refine sA_iload dd_X9_meetAlong_16 (.head _) ?_
    refine sA_icmp_gt (tgt := 44) dd_X9_meetAlong_18 (by decide) (by omega) (by omega) (fun q1 => ?_) (fun q1 => ?_)
    · skip
      refine sA_iload_n dd_X9_meetAlong_44 rfl (.tail _ (.head _)) ?_
      refine sA_iload dd_X9_meetAlong_45 (.head _) ?_
      refine sA_icmp_le (tgt := 52) dd_X9_meetAlong_47 (by decide) (by omega) (by omega) (fun q2 => absurd q2 (by omega)) (fun q2 => ?_)
      refine sA_iconst (z := 0) dd_X9_meetAlong_50 ?_
      refine sA_bret (z := 0) dd_X9_meetAlong_51 rfl (by omega) ?_
      exact ⟨_, rfl, rfl, rfl, by omega⟩
    · skip
      refine sA_aload_n dd_X9_meetAlong_21 rfl (.tail _ (.tail _ (.head _))) ?_
      refine sA_iload_n dd_X9_meetAlong_22 rfl (.tail _ (.tail _ (.tail _ (.head _)))) ?_
      refine sA_iload_n dd_X9_meetAlong_23 rfl (.tail _ (.head _)) ?_
      refine sA_iadd dd_X9_meetAlong_24 ?_
      refine sA_callV (y2 := m_X9_ofU) (n2 := 1) (d2 := 1) (a := 106) (ci := 9) (q := (RX9, TX9, 28)) (as := [gs_iv (i + n)]) (rest := []) dd_X9_meetAlong_25 ok_X9_ofU ml_X9_89 rfl rfl (by decide) gs_s106 rfl rfl (Nat.le_of_ble_eq_true rfl) (by decide) (c_X9_ofU hI (by omega) (by omega)) (fun r3 F4 A5 h6 => ?_)
      obtain ⟨z9, e8, e10, e11, x7⟩ := h6
      subst e8 e10 e11
      show sA _ _ _ 28 _ [gs_iv z9] _ _
      refine sA_aload_n dd_X9_meetAlong_28 rfl (.tail _ (.tail _ (.head _))) ?_
      refine sA_iload_n dd_X9_meetAlong_29 rfl (.tail _ (.tail _ (.tail _ (.tail _ (.head _))))) ?_
      refine sA_iload_n dd_X9_meetAlong_30 rfl (.tail _ (.head _)) ?_
      refine sA_iadd dd_X9_meetAlong_31 ?_
      refine sA_callV (y2 := m_X9_ofV) (n2 := 1) (d2 := 1) (a := 106) (ci := 9) (q := (RX9, TX9, 28)) (as := [gs_iv (j + n)]) (rest := [gs_iv z9]) dd_X9_meetAlong_32 ok_X9_ofV ml_X9_123 rfl rfl (by decide) gs_s106 rfl rfl (Nat.le_of_ble_eq_true rfl) (by decide) (c_X9_ofV hI (by omega) (by omega)) (fun r12 F13 A14 h15 => ?_)
      obtain ⟨z18, e17, e19, e20, x16⟩ := h15
      subst e17 e19 e20
      show sA _ _ _ 35 _ [gs_iv z18, gs_iv z9] _ _
      refine sA_icmp_ne (tgt := 44) dd_X9_meetAlong_35 (by decide) (by omega) (by omega) (fun q21 => ?_) (fun q21 => ?_)
      · skip
        refine sA_iload_n dd_X9_meetAlong_44 rfl (.tail _ (.head _)) ?_
        refine sA_iload dd_X9_meetAlong_45 (.head _) ?_
        refine sA_icmp_le (tgt := 52) dd_X9_meetAlong_47 (by decide) (by omega) (by omega) (fun q22 => ?_) (fun q22 => absurd q22 (by omega))
        refine sA_aload_n dd_X9_meetAlong_52 rfl (.tail _ (.tail _ (.head _))) ?_
        refine sA_iload_n dd_X9_meetAlong_53 rfl (.tail _ (.tail _ (.tail _ (.head _)))) ?_
        refine sA_callV (y2 := m_X9_ofU) (n2 := 1) (d2 := 1) (a := 106) (ci := 9) (q := (RX9, TX9, 28)) (as := [gs_iv i]) (rest := []) dd_X9_meetAlong_54 ok_X9_ofU ml_X9_89 rfl rfl (by decide) gs_s106 rfl rfl (Nat.le_of_ble_eq_true rfl) (by decide) (c_X9_ofU hI (by omega) (by omega)) (fun r23 F24 A25 h26 => ?_)
        obtain ⟨z29, e28, e30, e31, x27⟩ := h26
        subst e28 e30 e31
        show sA _ _ _ 57 _ [gs_iv z29] _ _
        refine sA_istore (lv' := [(5, gs_iv z29), (4, gs_iv e), (3, gs_iv n), (0, .ref 106), (1, gs_iv i), (2, gs_iv j)]) dd_X9_meetAlong_57 (by decide) rfl ?_
        refine sA_iconst (z := 0) dd_X9_meetAlong_59 ?_
        refine sA_aload_n dd_X9_meetAlong_60 rfl (.tail _ (.tail _ (.tail _ (.head _)))) ?_
        refine sA_iload_n dd_X9_meetAlong_61 rfl (.tail _ (.tail _ (.tail _ (.tail _ (.head _))))) ?_
        refine sA_aload_n dd_X9_meetAlong_62 rfl (.tail _ (.tail _ (.tail _ (.head _)))) ?_
        refine sA_geti (ci := 9) (j := 9) (q := (RX9, TX9, 28)) dd_X9_meetAlong_63 rfl (by decide) fl_X9_83 (by decide) gs_s106 rfl ?_
        have b32 : (0 : Int) ≤ F 106 9 ∧ F 106 9 ≤ 400 := hI.1 106 9
        refine sA_iadd dd_X9_meetAlong_66 ?_
        refine sA_iconst (z := 1) dd_X9_meetAlong_67 ?_
        refine sA_isub dd_X9_meetAlong_68 ?_
        refine sA_callV (y2 := m_X9_ofU) (n2 := 1) (d2 := 1) (a := 106) (ci := 9) (q := (RX9, TX9, 28)) (as := [gs_iv ((i + (F 106 9)) - 1)]) (rest := [gs_iv 0]) dd_X9_meetAlong_69 ok_X9_ofU ml_X9_89 rfl rfl (by decide) gs_s106 rfl rfl (Nat.le_of_ble_eq_true rfl) (by decide) (c_X9_ofU hI (by omega) (by omega)) (fun r33 F34 A35 h36 => ?_)
        obtain ⟨z39, e38, e40, e41, x37⟩ := h36
        subst e38 e40 e41
        show sA _ _ _ 72 _ [gs_iv z39, gs_iv 0] _ _
        refine sA_isub dd_X9_meetAlong_72 ?_
        refine sA_istore (lv' := [(6, gs_iv (0 - z39)), (5, gs_iv z29), (4, gs_iv e), (3, gs_iv n), (0, .ref 106), (1, gs_iv i), (2, gs_iv j)]) dd_X9_meetAlong_73 (by decide) rfl ?_
        refine sA_iconst (z := 0) dd_X9_meetAlong_75 ?_
        refine sA_aload_n dd_X9_meetAlong_76 rfl (.tail _ (.tail _ (.tail _ (.tail _ (.head _))))) ?_
        refine sA_iload_n dd_X9_meetAlong_77 rfl (.tail _ (.tail _ (.tail _ (.tail _ (.tail _ (.tail _ (.head _))))))) ?_
        refine sA_aload_n dd_X9_meetAlong_78 rfl (.tail _ (.tail _ (.tail _ (.tail _ (.head _))))) ?_
        refine sA_geti (ci := 9) (j := 11) (q := (RX9, TX9, 28)) dd_X9_meetAlong_79 rfl (by decide) fl_X9_86 (by decide) gs_s106 rfl ?_
        have b42 : (0 : Int) ≤ F 106 11 ∧ F 106 11 ≤ 60 := hI.1 106 11
        refine sA_iadd dd_X9_meetAlong_82 ?_
        refine sA_iconst (z := 1) dd_X9_meetAlong_83 ?_
        refine sA_isub dd_X9_meetAlong_84 ?_
        refine sA_callV (y2 := m_X9_ofV) (n2 := 1) (d2 := 1) (a := 106) (ci := 9) (q := (RX9, TX9, 28)) (as := [gs_iv ((j + (F 106 11)) - 1)]) (rest := [gs_iv 0]) dd_X9_meetAlong_85 ok_X9_ofV ml_X9_123 rfl rfl (by decide) gs_s106 rfl rfl (Nat.le_of_ble_eq_true rfl) (by decide) (c_X9_ofV hI (by omega) (by omega)) (fun r43 F44 A45 h46 => ?_)
        obtain ⟨z49, e48, e50, e51, x47⟩ := h46
        subst e48 e50 e51
        show sA _ _ _ 88 _ [gs_iv z49, gs_iv 0] _ _
        refine sA_isub dd_X9_meetAlong_88 ?_
        refine sA_istore (lv' := [(7, gs_iv (0 - z49)), (6, gs_iv (0 - z39)), (5, gs_iv z29), (4, gs_iv e), (3, gs_iv n), (0, .ref 106), (1, gs_iv i), (2, gs_iv j)]) dd_X9_meetAlong_89 (by decide) rfl ?_
        refine sA_iconst (z := 0) dd_X9_meetAlong_91 ?_
        refine sA_aload_n dd_X9_meetAlong_92 rfl (.tail _ (.tail _ (.tail _ (.tail _ (.tail _ (.head _)))))) ?_
        refine sA_iload_n dd_X9_meetAlong_93 rfl (.tail _ (.tail _ (.tail _ (.tail _ (.tail _ (.tail _ (.head _))))))) ?_
        refine sA_iload_n dd_X9_meetAlong_94 rfl (.tail _ (.tail _ (.tail _ (.tail _ (.head _))))) ?_
        refine sA_iadd dd_X9_meetAlong_95 ?_
        refine sA_iconst (z := 1) dd_X9_meetAlong_96 ?_
        refine sA_isub dd_X9_meetAlong_97 ?_
        refine sA_callV (y2 := m_X9_ofU) (n2 := 1) (d2 := 1) (a := 106) (ci := 9) (q := (RX9, TX9, 28)) (as := [gs_iv ((i + n) - 1)]) (rest := [gs_iv 0]) dd_X9_meetAlong_98 ok_X9_ofU ml_X9_89 rfl rfl (by decide) gs_s106 rfl rfl (Nat.le_of_ble_eq_true rfl) (by decide) (c_X9_ofU hI (by omega) (by omega)) (fun r52 F53 A54 h55 => ?_)
        obtain ⟨z58, e57, e59, e60, x56⟩ := h55
        subst e57 e59 e60
        show sA _ _ _ 101 _ [gs_iv z58, gs_iv 0] _ _
        refine sA_isub dd_X9_meetAlong_101 ?_
        refine sA_istore (lv' := [(8, gs_iv (0 - z58)), (7, gs_iv (0 - z49)), (6, gs_iv (0 - z39)), (5, gs_iv z29), (4, gs_iv e), (3, gs_iv n), (0, .ref 106), (1, gs_iv i), (2, gs_iv j)]) dd_X9_meetAlong_102 (by decide) rfl ?_
        refine sA_aload_n dd_X9_meetAlong_104 rfl (.tail _ (.tail _ (.tail _ (.tail _ (.tail _ (.tail _ (.head _))))))) ?_
        refine sA_iload dd_X9_meetAlong_105 (.tail _ (.tail _ (.tail _ (.head _)))) ?_
        refine sA_iload dd_X9_meetAlong_107 (.tail _ (.tail _ (.head _))) ?_
        refine sA_iload dd_X9_meetAlong_109 (.tail _ (.head _)) ?_
        refine sA_callV (y2 := m_X9_goRound) (n2 := 3) (d2 := 3) (a := 106) (ci := 9) (q := (RX9, TX9, 28)) (as := [gs_iv z29, gs_iv (0 - z39), gs_iv (0 - z49)]) (rest := []) dd_X9_meetAlong_111 ok_X9_goRound ml_X9_126 rfl rfl (by decide) gs_s106 rfl rfl (Nat.le_of_ble_eq_true rfl) (by decide) (c_X9_goRound hI (by omega) (by omega) (by omega)) (fun r61 F62 A63 h64 => ?_)
        obtain ⟨z67, e66, e68, e69, x65⟩ := h64
        subst e66 e68 e69
        show sA _ _ _ 114 _ [gs_iv z67] _ _
        refine sA_aload_n dd_X9_meetAlong_114 rfl (.tail _ (.tail _ (.tail _ (.tail _ (.tail _ (.tail _ (.head _))))))) ?_
        refine sA_iload dd_X9_meetAlong_115 (.head _) ?_
        refine sA_aload_n dd_X9_meetAlong_117 rfl (.tail _ (.tail _ (.tail _ (.tail _ (.tail _ (.tail _ (.head _))))))) ?_
        refine sA_iload_n dd_X9_meetAlong_118 rfl (.tail _ (.tail _ (.tail _ (.tail _ (.tail _ (.tail _ (.tail _ (.head _)))))))) ?_
        refine sA_iload_n dd_X9_meetAlong_119 rfl (.tail _ (.tail _ (.tail _ (.tail _ (.tail _ (.head _)))))) ?_
        refine sA_iadd dd_X9_meetAlong_120 ?_
        refine sA_callV (y2 := m_X9_ofU) (n2 := 1) (d2 := 1) (a := 106) (ci := 9) (q := (RX9, TX9, 28)) (as := [gs_iv (i + n)]) (rest := [gs_iv (0 - z58), .ref 106, gs_iv z67]) dd_X9_meetAlong_121 ok_X9_ofU ml_X9_89 rfl rfl (by decide) gs_s106 rfl rfl (Nat.le_of_ble_eq_true rfl) (by decide) (c_X9_ofU hI (by omega) (by omega)) (fun r70 F71 A72 h73 => ?_)
        obtain ⟨z76, e75, e77, e78, x74⟩ := h73
        subst e75 e77 e78
        show sA _ _ _ 124 _ [gs_iv z76, gs_iv (0 - z58), .ref 106, gs_iv z67] _ _
        refine sA_aload_n dd_X9_meetAlong_124 rfl (.tail _ (.tail _ (.tail _ (.tail _ (.tail _ (.tail _ (.head _))))))) ?_
        refine sA_iload_n dd_X9_meetAlong_125 rfl (.tail _ (.tail _ (.tail _ (.tail _ (.tail _ (.tail _ (.tail _ (.tail _ (.head _))))))))) ?_
        refine sA_iload_n dd_X9_meetAlong_126 rfl (.tail _ (.tail _ (.tail _ (.tail _ (.tail _ (.head _)))))) ?_
        refine sA_iadd dd_X9_meetAlong_127 ?_
        refine sA_callV (y2 := m_X9_ofV) (n2 := 1) (d2 := 1) (a := 106) (ci := 9) (q := (RX9, TX9, 28)) (as := [gs_iv (j + n)]) (rest := [gs_iv z76, gs_iv (0 - z58), .ref 106, gs_iv z67]) dd_X9_meetAlong_128 ok_X9_ofV ml_X9_123 rfl rfl (by decide) gs_s106 rfl rfl (Nat.le_of_ble_eq_true rfl) (by decide) (c_X9_ofV hI (by omega) (by omega)) (fun r79 F80 A81 h82 => ?_)
        obtain ⟨z85, e84, e86, e87, x83⟩ := h82
        subst e84 e86 e87
        show sA _ _ _ 131 _ [gs_iv z85, gs_iv z76, gs_iv (0 - z58), .ref 106, gs_iv z67] _ _
        refine sA_callV (y2 := m_X9_goRound) (n2 := 3) (d2 := 3) (a := 106) (ci := 9) (q := (RX9, TX9, 28)) (as := [gs_iv (0 - z58), gs_iv z76, gs_iv z85]) (rest := [gs_iv z67]) dd_X9_meetAlong_131 ok_X9_goRound ml_X9_126 rfl rfl (by decide) gs_s106 rfl rfl (Nat.le_of_ble_eq_true rfl) (by decide) (c_X9_goRound hI (by omega) (by omega) (by omega)) (fun r88 F89 A90 h91 => ?_)
        obtain ⟨z94, e93, e95, e96, x92⟩ := h91
        subst e93 e95 e96
        show sA _ _ _ 134 _ [gs_iv z94, gs_iv z67] _ _
        refine sA_icmp_ne (tgt := 141) dd_X9_meetAlong_134 (by decide) (by omega) (by omega) (fun q97 => ?_) (fun q97 => ?_)
        · skip
          refine sA_iconst (z := 0) dd_X9_meetAlong_141 ?_
          refine sA_bret (z := 0) dd_X9_meetAlong_142 rfl (by omega) ?_
          exact ⟨_, rfl, rfl, rfl, by omega⟩
        · skip
          refine sA_iconst (z := 1) dd_X9_meetAlong_137 ?_
          refine sA_goto (tgt := 142) dd_X9_meetAlong_138 (by decide) ?_
          refine sA_bret (z := 1) dd_X9_meetAlong_142 rfl (by omega) ?_
          exact ⟨_, rfl, rfl, rfl, by omega⟩
      · skip
        refine sA_iinc (lv' := [(3, gs_iv (n + 1)), (4, gs_iv e), (0, .ref 106), (1, gs_iv i), (2, gs_iv j)]) dd_X9_meetAlong_38 (.tail _ (.head _)) (by decide) rfl ?_
        refine sA_goto (tgt := 15) dd_X9_meetAlong_41 (by decide) ?_
        refine sA_sub (lv2 := [(4, gs_iv e), (3, gs_iv (n + 1)), (0, .ref 106), (1, gs_iv i), (2, gs_iv j)]) (List.forall_mem_cons.mpr ⟨(.tail _ (.head _)), (List.forall_mem_cons.mpr ⟨(.head _), (List.forall_mem_cons.mpr ⟨(.tail _ (.tail _ (.head _))), (List.forall_mem_cons.mpr ⟨(.tail _ (.tail _ (.tail _ (.head _)))), (List.forall_mem_cons.mpr ⟨(.tail _ (.tail _ (.tail _ (.tail _ (.head _))))), (fun _ h => absurd h List.not_mem_nil)⟩)⟩)⟩)⟩)⟩) ?_
        exact ih (n + 1) e  (by omega) (by omega) (by omega)
theorem c_X9_meetAlong {i j : Int} {F A : gs_F} (hI : gs_I F A) (hi : 0 ≤ i ∧ i < F 106 9) (hj : 0 ≤ j ∧ j < F 106 11) : sC m_X9_meetAlong 4 [.ref 106, gs_iv i, gs_iv j] F A (fun rv F' A' => ∃ z : Int, rv = some (gs_iv z) ∧ F = F' ∧ A = A' ∧ (z = 0 ∨ z = 1)) := by
  refine sC_of ok_X9_meetAlong.1 (Nat.le_of_ble_eq_true rfl) ?_
  show sA _ _ _ 0 [(0, .ref 106), (1, gs_iv i), (2, gs_iv j)] [] F A
  have hb9 : (0 : Int) ≤ F 106 9 ∧ F 106 9 ≤ 400 := hI.1 106 9
  have hb11 : (0 : Int) ≤ F 106 11 ∧ F 106 11 ≤ 60 := hI.1 106 11
  refine sA_iconst (z := 1) dd_X9_meetAlong_0 ?_
  refine sA_istore_n (lv' := [(3, gs_iv 1), (0, .ref 106), (1, gs_iv i), (2, gs_iv j)]) dd_X9_meetAlong_1 rfl (by decide) rfl ?_
  refine sA_iconst (z := 2) dd_X9_meetAlong_2 ?_
  refine sA_aload_n dd_X9_meetAlong_3 rfl (.tail _ (.head _)) ?_
  refine sA_geti (ci := 9) (j := 9) (q := (RX9, TX9, 28)) dd_X9_meetAlong_4 rfl (by decide) fl_X9_83 (by decide) gs_s106 rfl ?_
  have b98 : (0 : Int) ≤ F 106 9 ∧ F 106 9 ≤ 400 := hI.1 106 9
  refine sA_aload_n dd_X9_meetAlong_7 rfl (.tail _ (.head _)) ?_
  refine sA_geti (ci := 9) (j := 11) (q := (RX9, TX9, 28)) dd_X9_meetAlong_8 rfl (by decide) fl_X9_86 (by decide) gs_s106 rfl ?_
  have b99 : (0 : Int) ≤ F 106 11 ∧ F 106 11 ≤ 60 := hI.1 106 11
  refine sA_iadd dd_X9_meetAlong_11 ?_
  refine sA_imul dd_X9_meetAlong_12 ?_
  refine sA_istore (lv' := [(4, gs_iv (2 * ((F 106 9) + (F 106 11)))), (3, gs_iv 1), (0, .ref 106), (1, gs_iv i), (2, gs_iv j)]) dd_X9_meetAlong_13 (by decide) rfl ?_
  refine sA_sub (lv2 := [(4, gs_iv (2 * ((F 106 9) + (F 106 11)))), (3, gs_iv 1), (0, .ref 106), (1, gs_iv i), (2, gs_iv j)]) (List.forall_mem_cons.mpr ⟨(.head _), (List.forall_mem_cons.mpr ⟨(.tail _ (.head _)), (List.forall_mem_cons.mpr ⟨(.tail _ (.tail _ (.head _))), (List.forall_mem_cons.mpr ⟨(.tail _ (.tail _ (.tail _ (.head _)))), (List.forall_mem_cons.mpr ⟨(.tail _ (.tail _ (.tail _ (.tail _ (.head _))))), (fun _ h => absurd h List.not_mem_nil)⟩)⟩)⟩)⟩)⟩) ?_
  exact (k_X9_meetAlong hI hi hj ((2 * ((F 106 9) + (F 106 11))) + 1 - 1 : Int).toNat.succ) 1 (2 * ((F 106 9) + (F 106 11)))  (by omega) (by omega) (by omega)
theorem dd_X9_countMeetings_0 : decode cX9_countMeetings 0 = .ok (.iconst 0, 1) := by decide +kernel
theorem dd_X9_countMeetings_1 : decode cX9_countMeetings 1 = .ok (.istore_n 2, 1) := by decide +kernel
theorem dd_X9_countMeetings_2 : decode cX9_countMeetings 2 = .ok (.iconst 0, 1) := by decide +kernel
theorem dd_X9_countMeetings_3 : decode cX9_countMeetings 3 = .ok (.istore_n 3, 1) := by decide +kernel
theorem dd_X9_countMeetings_4 : decode cX9_countMeetings 4 = .ok (.iload_n 3, 1) := by decide +kernel
theorem dd_X9_countMeetings_5 : decode cX9_countMeetings 5 = .ok (.aload_n 0, 1) := by decide +kernel
theorem dd_X9_countMeetings_6 : decode cX9_countMeetings 6 = .ok (.getfield 83, 3) := by decide +kernel
theorem dd_X9_countMeetings_9 : decode cX9_countMeetings 9 = .ok (.if_icmp .ge 145, 3) := by decide +kernel
theorem dd_X9_countMeetings_12 : decode cX9_countMeetings 12 = .ok (.iconst 0, 1) := by decide +kernel
theorem dd_X9_countMeetings_13 : decode cX9_countMeetings 13 = .ok (.istore 4, 2) := by decide +kernel
theorem dd_X9_countMeetings_15 : decode cX9_countMeetings 15 = .ok (.iload 4, 2) := by decide +kernel
theorem dd_X9_countMeetings_17 : decode cX9_countMeetings 17 = .ok (.aload_n 0, 1) := by decide +kernel
theorem dd_X9_countMeetings_18 : decode cX9_countMeetings 18 = .ok (.getfield 86, 3) := by decide +kernel
theorem dd_X9_countMeetings_21 : decode cX9_countMeetings 21 = .ok (.if_icmp .ge 127, 3) := by decide +kernel
theorem dd_X9_countMeetings_24 : decode cX9_countMeetings 24 = .ok (.aload_n 0, 1) := by decide +kernel
theorem dd_X9_countMeetings_25 : decode cX9_countMeetings 25 = .ok (.getfield 25, 3) := by decide +kernel
theorem dd_X9_countMeetings_28 : decode cX9_countMeetings 28 = .ok (.iload_n 3, 1) := by decide +kernel
theorem dd_X9_countMeetings_29 : decode cX9_countMeetings 29 = .ok (.iaload, 1) := by decide +kernel
theorem dd_X9_countMeetings_30 : decode cX9_countMeetings 30 = .ok (.istore 5, 2) := by decide +kernel
theorem dd_X9_countMeetings_32 : decode cX9_countMeetings 32 = .ok (.aload_n 0, 1) := by decide +kernel
theorem dd_X9_countMeetings_33 : decode cX9_countMeetings 33 = .ok (.getfield 28, 3) := by decide +kernel
theorem dd_X9_countMeetings_36 : decode cX9_countMeetings 36 = .ok (.iload 4, 2) := by decide +kernel
theorem dd_X9_countMeetings_38 : decode cX9_countMeetings 38 = .ok (.iaload, 1) := by decide +kernel
theorem dd_X9_countMeetings_39 : decode cX9_countMeetings 39 = .ok (.istore 6, 2) := by decide +kernel
theorem dd_X9_countMeetings_41 : decode cX9_countMeetings 41 = .ok (.iconst 0, 1) := by decide +kernel
theorem dd_X9_countMeetings_42 : decode cX9_countMeetings 42 = .ok (.aload_n 0, 1) := by decide +kernel
theorem dd_X9_countMeetings_43 : decode cX9_countMeetings 43 = .ok (.iload_n 3, 1) := by decide +kernel
theorem dd_X9_countMeetings_44 : decode cX9_countMeetings 44 = .ok (.aload_n 0, 1) := by decide +kernel
theorem dd_X9_countMeetings_45 : decode cX9_countMeetings 45 = .ok (.getfield 83, 3) := by decide +kernel
theorem dd_X9_countMeetings_48 : decode cX9_countMeetings 48 = .ok (.iadd, 1) := by decide +kernel
theorem dd_X9_countMeetings_49 : decode cX9_countMeetings 49 = .ok (.iconst 1, 1) := by decide +kernel
theorem dd_X9_countMeetings_50 : decode cX9_countMeetings 50 = .ok (.isub, 1) := by decide +kernel
theorem dd_X9_countMeetings_51 : decode cX9_countMeetings 51 = .ok (.invokevirtual 89, 3) := by decide +kernel
theorem dd_X9_countMeetings_54 : decode cX9_countMeetings 54 = .ok (.isub, 1) := by decide +kernel
theorem dd_X9_countMeetings_55 : decode cX9_countMeetings 55 = .ok (.istore 7, 2) := by decide +kernel
theorem dd_X9_countMeetings_57 : decode cX9_countMeetings 57 = .ok (.iconst 0, 1) := by decide +kernel
theorem dd_X9_countMeetings_58 : decode cX9_countMeetings 58 = .ok (.aload_n 0, 1) := by decide +kernel
theorem dd_X9_countMeetings_59 : decode cX9_countMeetings 59 = .ok (.iload 4, 2) := by decide +kernel
theorem dd_X9_countMeetings_61 : decode cX9_countMeetings 61 = .ok (.aload_n 0, 1) := by decide +kernel
theorem dd_X9_countMeetings_62 : decode cX9_countMeetings 62 = .ok (.getfield 86, 3) := by decide +kernel
theorem dd_X9_countMeetings_65 : decode cX9_countMeetings 65 = .ok (.iadd, 1) := by decide +kernel
theorem dd_X9_countMeetings_66 : decode cX9_countMeetings 66 = .ok (.iconst 1, 1) := by decide +kernel
theorem dd_X9_countMeetings_67 : decode cX9_countMeetings 67 = .ok (.isub, 1) := by decide +kernel
theorem dd_X9_countMeetings_68 : decode cX9_countMeetings 68 = .ok (.invokevirtual 123, 3) := by decide +kernel
theorem dd_X9_countMeetings_71 : decode cX9_countMeetings 71 = .ok (.isub, 1) := by decide +kernel
theorem dd_X9_countMeetings_72 : decode cX9_countMeetings 72 = .ok (.istore 8, 2) := by decide +kernel
theorem dd_X9_countMeetings_74 : decode cX9_countMeetings 74 = .ok (.iload 5, 2) := by decide +kernel
theorem dd_X9_countMeetings_76 : decode cX9_countMeetings 76 = .ok (.iload 6, 2) := by decide +kernel
theorem dd_X9_countMeetings_78 : decode cX9_countMeetings 78 = .ok (.if_icmp .eq 36, 3) := by decide +kernel
theorem dd_X9_countMeetings_81 : decode cX9_countMeetings 81 = .ok (.iload_n 2, 1) := by decide +kernel
theorem dd_X9_countMeetings_82 : decode cX9_countMeetings 82 = .ok (.iload_n 1, 1) := by decide +kernel
theorem dd_X9_countMeetings_83 : decode cX9_countMeetings 83 = .ok (.ifCond .eq 22, 3) := by decide +kernel
theorem dd_X9_countMeetings_86 : decode cX9_countMeetings 86 = .ok (.aload_n 0, 1) := by decide +kernel
theorem dd_X9_countMeetings_87 : decode cX9_countMeetings 87 = .ok (.iload 7, 2) := by decide +kernel
theorem dd_X9_countMeetings_89 : decode cX9_countMeetings 89 = .ok (.iload 5, 2) := by decide +kernel
theorem dd_X9_countMeetings_91 : decode cX9_countMeetings 91 = .ok (.iload 8, 2) := by decide +kernel
theorem dd_X9_countMeetings_93 : decode cX9_countMeetings 93 = .ok (.iload 6, 2) := by decide +kernel
theorem dd_X9_countMeetings_95 : decode cX9_countMeetings 95 = .ok (.invokevirtual 130, 3) := by decide +kernel
theorem dd_X9_countMeetings_98 : decode cX9_countMeetings 98 = .ok (.ifCond .eq 7, 3) := by decide +kernel
theorem dd_X9_countMeetings_101 : decode cX9_countMeetings 101 = .ok (.iconst 1, 1) := by decide +kernel
theorem dd_X9_countMeetings_102 : decode cX9_countMeetings 102 = .ok (.goto 4, 3) := by decide +kernel
theorem dd_X9_countMeetings_105 : decode cX9_countMeetings 105 = .ok (.iconst 0, 1) := by decide +kernel
theorem dd_X9_countMeetings_106 : decode cX9_countMeetings 106 = .ok (.invokestatic 112, 3) := by decide +kernel
theorem dd_X9_countMeetings_109 : decode cX9_countMeetings 109 = .ok (.iadd, 1) := by decide +kernel
theorem dd_X9_countMeetings_110 : decode cX9_countMeetings 110 = .ok (.istore_n 2, 1) := by decide +kernel
theorem dd_X9_countMeetings_111 : decode cX9_countMeetings 111 = .ok (.goto 31, 3) := by decide +kernel
theorem dd_X9_countMeetings_114 : decode cX9_countMeetings 114 = .ok (.iload_n 2, 1) := by decide +kernel
theorem dd_X9_countMeetings_115 : decode cX9_countMeetings 115 = .ok (.iload 7, 2) := by decide +kernel
theorem dd_X9_countMeetings_117 : decode cX9_countMeetings 117 = .ok (.iload 8, 2) := by decide +kernel
theorem dd_X9_countMeetings_119 : decode cX9_countMeetings 119 = .ok (.if_icmp .eq 17, 3) := by decide +kernel
theorem dd_X9_countMeetings_122 : decode cX9_countMeetings 122 = .ok (.aload_n 0, 1) := by decide +kernel
theorem dd_X9_countMeetings_123 : decode cX9_countMeetings 123 = .ok (.iload_n 3, 1) := by decide +kernel
theorem dd_X9_countMeetings_124 : decode cX9_countMeetings 124 = .ok (.iload 4, 2) := by decide +kernel
theorem dd_X9_countMeetings_126 : decode cX9_countMeetings 126 = .ok (.invokevirtual 134, 3) := by decide +kernel
theorem dd_X9_countMeetings_129 : decode cX9_countMeetings 129 = .ok (.ifCond .eq 7, 3) := by decide +kernel
theorem dd_X9_countMeetings_132 : decode cX9_countMeetings 132 = .ok (.iconst 1, 1) := by decide +kernel
theorem dd_X9_countMeetings_133 : decode cX9_countMeetings 133 = .ok (.goto 4, 3) := by decide +kernel
theorem dd_X9_countMeetings_136 : decode cX9_countMeetings 136 = .ok (.iconst 0, 1) := by decide +kernel
theorem dd_X9_countMeetings_137 : decode cX9_countMeetings 137 = .ok (.invokestatic 112, 3) := by decide +kernel
theorem dd_X9_countMeetings_140 : decode cX9_countMeetings 140 = .ok (.iadd, 1) := by decide +kernel
theorem dd_X9_countMeetings_141 : decode cX9_countMeetings 141 = .ok (.istore_n 2, 1) := by decide +kernel
theorem dd_X9_countMeetings_142 : decode cX9_countMeetings 142 = .ok (.iinc 4 1, 3) := by decide +kernel
theorem dd_X9_countMeetings_145 : decode cX9_countMeetings 145 = .ok (.goto (-130), 3) := by decide +kernel
theorem dd_X9_countMeetings_148 : decode cX9_countMeetings 148 = .ok (.iinc 3 1, 3) := by decide +kernel
theorem dd_X9_countMeetings_151 : decode cX9_countMeetings 151 = .ok (.goto (-147), 3) := by decide +kernel
theorem dd_X9_countMeetings_154 : decode cX9_countMeetings 154 = .ok (.iload_n 2, 1) := by decide +kernel
theorem dd_X9_countMeetings_155 : decode cX9_countMeetings 155 = .ok (.ireturn, 1) := by decide +kernel
theorem ml_X9_130 : Cond.methodLink RX9 130 m_X9_meetAtOnce.1 ∈ am_tbl := ri_lw_in (pl := 951) (by decide +kernel)
theorem ml_X9_134 : Cond.methodLink RX9 134 m_X9_meetAlong.1 ∈ am_tbl := ri_lw_in (pl := 962) (by decide +kernel)
theorem ok_X9_countMeetings : am_okM m_X9_countMeetings 1 ∧ Cond.instanceMethod m_X9_countMeetings.1 ∈ am_tbl ∧ Cond.selects m_X9_countMeetings.1.cls m_X9_countMeetings.1 m_X9_countMeetings.1 ∈ am_tbl := ri_mk1 946 93 945 41 (by decide +kernel)
theorem k_X9_countMeetings {g : Int} {F A : gs_F} (hI : gs_I F A) (hg : g = 0 ∨ g = 1) : ∀ nN : Nat, (∀ (n : Int) (i : Int),  0 ≤ i ∧ i ≤ F 106 9 → 0 ≤ n ∧ n ≤ 60 * i → (F 106 9 - i) * 62 + 1 < (nN : Int) → sA m_X9_countMeetings 5 (fun rv F' A' => ∃ z : Int, rv = some (gs_iv z) ∧ F = F' ∧ A = A' ∧ (0 ≤ z ∧ z ≤ 24000)) 4 [(3, gs_iv i), (2, gs_iv n), (0, .ref 106), (1, gs_iv g)] [] F A) ∧ (∀ (n : Int) (i : Int) (j : Int),  0 ≤ i ∧ i < F 106 9 → 0 ≤ j ∧ j ≤ F 106 11 → 0 ≤ n ∧ n ≤ 60 * i + j → F 106 11 ≤ 60 → (F 106 9 - i) * 62 - j < (nN : Int) → sA m_X9_countMeetings 5 (fun rv F' A' => ∃ z : Int, rv = some (gs_iv z) ∧ F = F' ∧ A = A' ∧ (0 ≤ z ∧ z ≤ 24000)) 15 [(4, gs_iv j), (3, gs_iv i), (2, gs_iv n), (0, .ref 106), (1, gs_iv g)] [] F A) := by
  intro nN
  induction nN with
  | zero =>
    exact ⟨fun a0 a1 i0 i1 hm => by exfalso; omega, fun a0 a1 a2 i0 i1 i2 i3 hm => by exfalso; omega⟩
  | succ nN ih =>
    refine ⟨?_, ?_⟩
    · skip
      intro n i i0 i1 hm
      have hb9 : (0 : Int) ≤ F 106 9 ∧ F 106 9 ≤ 400 := hI.1 106 9
      have hb11 : (0 : Int) ≤ F 106 11 ∧ F 106 11 ≤ 60 := hI.1 106 11
      refine sA_iload_n dd_X9_countMeetings_4 rfl (.head _) ?_
      refine sA_aload_n dd_X9_countMeetings_5 rfl (.tail _ (.tail _ (.head _))) ?_
      refine sA_geti (ci := 9) (j := 9) (q := (RX9, TX9, 28)) dd_X9_countMeetings_6 rfl (by decide) fl_X9_83 (by decide) gs_s106 rfl ?_
      have b1 : (0 : Int) ≤ F 106 9 ∧ F 106 9 ≤ 400 := hI.1 106 9
      refine sA_icmp_ge (tgt := 154) dd_X9_countMeetings_9 (by decide) (by omega) (by omega) (fun q2 => ?_) (fun q2 => ?_)
      · skip
        refine sA_iload_n dd_X9_countMeetings_154 rfl (.tail _ (.head _)) ?_
        refine sA_iret (z := n) dd_X9_countMeetings_155 rfl ?_
        exact ⟨_, rfl, rfl, rfl, by omega⟩
      · skip
        refine sA_iconst (z := 0) dd_X9_countMeetings_12 ?_
        refine sA_istore (lv' := [(4, gs_iv 0), (3, gs_iv i), (2, gs_iv n), (0, .ref 106), (1, gs_iv g)]) dd_X9_countMeetings_13 (by decide) rfl ?_
        refine sA_sub (lv2 := [(4, gs_iv 0), (3, gs_iv i), (2, gs_iv n), (0, .ref 106), (1, gs_iv g)]) (List.forall_mem_cons.mpr ⟨(.head _), (List.forall_mem_cons.mpr ⟨(.tail _ (.head _)), (List.forall_mem_cons.mpr ⟨(.tail _ (.tail _ (.head _))), (List.forall_mem_cons.mpr ⟨(.tail _ (.tail _ (.tail _ (.head _)))), (List.forall_mem_cons.mpr ⟨(.tail _ (.tail _ (.tail _ (.tail _ (.head _))))), (fun _ h => absurd h List.not_mem_nil)⟩)⟩)⟩)⟩)⟩) ?_
        exact ih.2 n i 0  (by omega) (by omega) (by omega) (by omega) (by omega)
    · skip
      intro n i j i0 i1 i2 i3 hm
      have hb9 : (0 : Int) ≤ F 106 9 ∧ F 106 9 ≤ 400 := hI.1 106 9
      have hb11 : (0 : Int) ≤ F 106 11 ∧ F 106 11 ≤ 60 := hI.1 106 11
      refine sA_iload dd_X9_countMeetings_15 (.head _) ?_
      refine sA_aload_n dd_X9_countMeetings_17 rfl (.tail _ (.tail _ (.tail _ (.head _)))) ?_
      refine sA_geti (ci := 9) (j := 11) (q := (RX9, TX9, 28)) dd_X9_countMeetings_18 rfl (by decide) fl_X9_86 (by decide) gs_s106 rfl ?_
      have b3 : (0 : Int) ≤ F 106 11 ∧ F 106 11 ≤ 60 := hI.1 106 11
      refine sA_icmp_ge (tgt := 148) dd_X9_countMeetings_21 (by decide) (by omega) (by omega) (fun q4 => ?_) (fun q4 => ?_)
      · skip
        refine sA_iinc (lv' := [(3, gs_iv (i + 1)), (4, gs_iv j), (2, gs_iv n), (0, .ref 106), (1, gs_iv g)]) dd_X9_countMeetings_148 (.tail _ (.head _)) (by decide) rfl ?_
        refine sA_goto (tgt := 4) dd_X9_countMeetings_151 (by decide) ?_
        refine sA_sub (lv2 := [(3, gs_iv (i + 1)), (2, gs_iv n), (0, .ref 106), (1, gs_iv g)]) (List.forall_mem_cons.mpr ⟨(.head _), (List.forall_mem_cons.mpr ⟨(.tail _ (.tail _ (.head _))), (List.forall_mem_cons.mpr ⟨(.tail _ (.tail _ (.tail _ (.head _)))), (List.forall_mem_cons.mpr ⟨(.tail _ (.tail _ (.tail _ (.tail _ (.head _))))), (fun _ h => absurd h List.not_mem_nil)⟩)⟩)⟩)⟩) ?_
        exact ih.1 n (i + 1)  (by omega) (by omega) (by omega)
      · skip
        refine sA_aload_n dd_X9_countMeetings_24 rfl (.tail _ (.tail _ (.tail _ (.head _)))) ?_
        refine sA_getr (ci := 9) (j := 8) (q := (RX9, TX9, 28)) dd_X9_countMeetings_25 rfl (by decide) fl_X9_25 (by decide) gs_s106 rfl ?_
        refine sA_iload_n dd_X9_countMeetings_28 rfl (.tail _ (.head _)) ?_
        refine sA_iald (n := 400) dd_X9_countMeetings_29 (by decide) gs_s112 (by omega) (by decide) ?_
        have b5 : (-9 : Int) ≤ A 112 i.toNat ∧ A 112 i.toNat ≤ 9 := hI.2 112 i.toNat
        refine sA_istore (lv' := [(5, gs_iv (A 112 i.toNat)), (4, gs_iv j), (3, gs_iv i), (2, gs_iv n), (0, .ref 106), (1, gs_iv g)]) dd_X9_countMeetings_30 (by decide) rfl ?_
        refine sA_aload_n dd_X9_countMeetings_32 rfl (.tail _ (.tail _ (.tail _ (.tail _ (.head _))))) ?_
        refine sA_getr (ci := 9) (j := 10) (q := (RX9, TX9, 28)) dd_X9_countMeetings_33 rfl (by decide) fl_X9_28 (by decide) gs_s106 rfl ?_
        refine sA_iload dd_X9_countMeetings_36 (.tail _ (.head _)) ?_
        refine sA_iald (n := 400) dd_X9_countMeetings_38 (by decide) gs_s113 (by omega) (by decide) ?_
        have b6 : (-9 : Int) ≤ A 113 j.toNat ∧ A 113 j.toNat ≤ 9 := hI.2 113 j.toNat
        refine sA_istore (lv' := [(6, gs_iv (A 113 j.toNat)), (5, gs_iv (A 112 i.toNat)), (4, gs_iv j), (3, gs_iv i), (2, gs_iv n), (0, .ref 106), (1, gs_iv g)]) dd_X9_countMeetings_39 (by decide) rfl ?_
        refine sA_iconst (z := 0) dd_X9_countMeetings_41 ?_
        refine sA_aload_n dd_X9_countMeetings_42 rfl (.tail _ (.tail _ (.tail _ (.tail _ (.tail _ (.head _)))))) ?_
        refine sA_iload_n dd_X9_countMeetings_43 rfl (.tail _ (.tail _ (.tail _ (.head _)))) ?_
        refine sA_aload_n dd_X9_countMeetings_44 rfl (.tail _ (.tail _ (.tail _ (.tail _ (.tail _ (.head _)))))) ?_
        refine sA_geti (ci := 9) (j := 9) (q := (RX9, TX9, 28)) dd_X9_countMeetings_45 rfl (by decide) fl_X9_83 (by decide) gs_s106 rfl ?_
        have b7 : (0 : Int) ≤ F 106 9 ∧ F 106 9 ≤ 400 := hI.1 106 9
        refine sA_iadd dd_X9_countMeetings_48 ?_
        refine sA_iconst (z := 1) dd_X9_countMeetings_49 ?_
        refine sA_isub dd_X9_countMeetings_50 ?_
        refine sA_callV (y2 := m_X9_ofU) (n2 := 1) (d2 := 1) (a := 106) (ci := 9) (q := (RX9, TX9, 28)) (as := [gs_iv ((i + (F 106 9)) - 1)]) (rest := [gs_iv 0]) dd_X9_countMeetings_51 ok_X9_ofU ml_X9_89 rfl rfl (by decide) gs_s106 rfl rfl (Nat.le_of_ble_eq_true rfl) (by decide) (c_X9_ofU hI (by omega) (by omega)) (fun r8 F9 A10 h11 => ?_)
        obtain ⟨z14, e13, e15, e16, x12⟩ := h11
        subst e13 e15 e16
        show sA _ _ _ 54 _ [gs_iv z14, gs_iv 0] _ _
        refine sA_isub dd_X9_countMeetings_54 ?_
        refine sA_istore (lv' := [(7, gs_iv (0 - z14)), (6, gs_iv (A 113 j.toNat)), (5, gs_iv (A 112 i.toNat)), (4, gs_iv j), (3, gs_iv i), (2, gs_iv n), (0, .ref 106), (1, gs_iv g)]) dd_X9_countMeetings_55 (by decide) rfl ?_
        refine sA_iconst (z := 0) dd_X9_countMeetings_57 ?_
        refine sA_aload_n dd_X9_countMeetings_58 rfl (.tail _ (.tail _ (.tail _ (.tail _ (.tail _ (.tail _ (.head _))))))) ?_
        refine sA_iload dd_X9_countMeetings_59 (.tail _ (.tail _ (.tail _ (.head _)))) ?_
        refine sA_aload_n dd_X9_countMeetings_61 rfl (.tail _ (.tail _ (.tail _ (.tail _ (.tail _ (.tail _ (.head _))))))) ?_
        refine sA_geti (ci := 9) (j := 11) (q := (RX9, TX9, 28)) dd_X9_countMeetings_62 rfl (by decide) fl_X9_86 (by decide) gs_s106 rfl ?_
        refine sA_iadd dd_X9_countMeetings_65 ?_
        refine sA_iconst (z := 1) dd_X9_countMeetings_66 ?_
        refine sA_isub dd_X9_countMeetings_67 ?_
        refine sA_callV (y2 := m_X9_ofV) (n2 := 1) (d2 := 1) (a := 106) (ci := 9) (q := (RX9, TX9, 28)) (as := [gs_iv ((j + (F 106 11)) - 1)]) (rest := [gs_iv 0]) dd_X9_countMeetings_68 ok_X9_ofV ml_X9_123 rfl rfl (by decide) gs_s106 rfl rfl (Nat.le_of_ble_eq_true rfl) (by decide) (c_X9_ofV hI (by omega) (by omega)) (fun r17 F18 A19 h20 => ?_)
        obtain ⟨z23, e22, e24, e25, x21⟩ := h20
        subst e22 e24 e25
        show sA _ _ _ 71 _ [gs_iv z23, gs_iv 0] _ _
        refine sA_isub dd_X9_countMeetings_71 ?_
        refine sA_istore (lv' := [(8, gs_iv (0 - z23)), (7, gs_iv (0 - z14)), (6, gs_iv (A 113 j.toNat)), (5, gs_iv (A 112 i.toNat)), (4, gs_iv j), (3, gs_iv i), (2, gs_iv n), (0, .ref 106), (1, gs_iv g)]) dd_X9_countMeetings_72 (by decide) rfl ?_
        refine sA_iload dd_X9_countMeetings_74 (.tail _ (.tail _ (.tail _ (.head _)))) ?_
        refine sA_iload dd_X9_countMeetings_76 (.tail _ (.tail _ (.head _))) ?_
        refine sA_icmp_eq (tgt := 114) dd_X9_countMeetings_78 (by decide) (by omega) (by omega) (fun q26 => ?_) (fun q26 => ?_)
        · skip
          refine sA_iload_n dd_X9_countMeetings_114 rfl (.tail _ (.tail _ (.tail _ (.tail _ (.tail _ (.tail _ (.head _))))))) ?_
          refine sA_iload dd_X9_countMeetings_115 (.tail _ (.head _)) ?_
          refine sA_iload dd_X9_countMeetings_117 (.head _) ?_
          refine sA_icmp_eq (tgt := 136) dd_X9_countMeetings_119 (by decide) (by omega) (by omega) (fun q27 => ?_) (fun q27 => ?_)
          · skip
            refine sA_iconst (z := 0) dd_X9_countMeetings_136 ?_
            refine sA_callS (y2 := m_X9_bit) (n2 := 1) (d2 := 1) (as := [gs_iv 0]) (rest := [gs_iv n]) dd_X9_countMeetings_137 ok_X9_bit ml_X9_112 rfl rfl (Nat.le_of_ble_eq_true rfl) (by decide) (c_X9_bit (by omega)) (fun r28 F29 A30 h31 => ?_)
            obtain ⟨z34, e33, e35, e36, x32⟩ := h31
            subst e33 e35 e36
            show sA _ _ _ 140 _ [gs_iv z34, gs_iv n] _ _
            refine sA_iadd dd_X9_countMeetings_140 ?_
            refine sA_istore_n (lv' := [(2, gs_iv (n + z34)), (8, gs_iv (0 - z23)), (7, gs_iv (0 - z14)), (6, gs_iv (A 113 j.toNat)), (5, gs_iv (A 112 i.toNat)), (4, gs_iv j), (3, gs_iv i), (0, .ref 106), (1, gs_iv g)]) dd_X9_countMeetings_141 rfl (by decide) rfl ?_
            refine sA_iinc (lv' := [(4, gs_iv (j + 1)), (2, gs_iv (n + z34)), (8, gs_iv (0 - z23)), (7, gs_iv (0 - z14)), (6, gs_iv (A 113 j.toNat)), (5, gs_iv (A 112 i.toNat)), (3, gs_iv i), (0, .ref 106), (1, gs_iv g)]) dd_X9_countMeetings_142 (.tail _ (.tail _ (.tail _ (.tail _ (.tail _ (.head _)))))) (by decide) rfl ?_
            refine sA_goto (tgt := 15) dd_X9_countMeetings_145 (by decide) ?_
            refine sA_sub (lv2 := [(4, gs_iv (j + 1)), (3, gs_iv i), (2, gs_iv (n + z34)), (0, .ref 106), (1, gs_iv g)]) (List.forall_mem_cons.mpr ⟨(.head _), (List.forall_mem_cons.mpr ⟨(.tail _ (.tail _ (.tail _ (.tail _ (.tail _ (.tail _ (.head _))))))), (List.forall_mem_cons.mpr ⟨(.tail _ (.head _)), (List.forall_mem_cons.mpr ⟨(.tail _ (.tail _ (.tail _ (.tail _ (.tail _ (.tail _ (.tail _ (.head _)))))))), (List.forall_mem_cons.mpr ⟨(.tail _ (.tail _ (.tail _ (.tail _ (.tail _ (.tail _ (.tail _ (.tail _ (.head _))))))))), (fun _ h => absurd h List.not_mem_nil)⟩)⟩)⟩)⟩)⟩) ?_
            exact ih.2 (n + z34) i (j + 1)  (by omega) (by omega) (by omega) (by omega) (by omega)
          · skip
            refine sA_aload_n dd_X9_countMeetings_122 rfl (.tail _ (.tail _ (.tail _ (.tail _ (.tail _ (.tail _ (.tail _ (.head _)))))))) ?_
            refine sA_iload_n dd_X9_countMeetings_123 rfl (.tail _ (.tail _ (.tail _ (.tail _ (.tail _ (.head _)))))) ?_
            refine sA_iload dd_X9_countMeetings_124 (.tail _ (.tail _ (.tail _ (.tail _ (.head _))))) ?_
            refine sA_callV (y2 := m_X9_meetAlong) (n2 := 2) (d2 := 4) (a := 106) (ci := 9) (q := (RX9, TX9, 28)) (as := [gs_iv i, gs_iv j]) (rest := [gs_iv n]) dd_X9_countMeetings_126 ok_X9_meetAlong ml_X9_134 rfl rfl (by decide) gs_s106 rfl rfl (Nat.le_of_ble_eq_true rfl) (by decide) (c_X9_meetAlong hI (by omega) (by omega)) (fun r37 F38 A39 h40 => ?_)
            obtain ⟨z43, e42, e44, e45, x41⟩ := h40
            subst e42 e44 e45
            show sA _ _ _ 129 _ [gs_iv z43, gs_iv n] _ _
            refine sA_if_eq (tgt := 136) dd_X9_countMeetings_129 (by decide) (by omega) (fun q46 => ?_) (fun q46 => ?_)
            · skip
              refine sA_iconst (z := 0) dd_X9_countMeetings_136 ?_
              refine sA_callS (y2 := m_X9_bit) (n2 := 1) (d2 := 1) (as := [gs_iv 0]) (rest := [gs_iv n]) dd_X9_countMeetings_137 ok_X9_bit ml_X9_112 rfl rfl (Nat.le_of_ble_eq_true rfl) (by decide) (c_X9_bit (by omega)) (fun r47 F48 A49 h50 => ?_)
              obtain ⟨z53, e52, e54, e55, x51⟩ := h50
              subst e52 e54 e55
              show sA _ _ _ 140 _ [gs_iv z53, gs_iv n] _ _
              refine sA_iadd dd_X9_countMeetings_140 ?_
              refine sA_istore_n (lv' := [(2, gs_iv (n + z53)), (8, gs_iv (0 - z23)), (7, gs_iv (0 - z14)), (6, gs_iv (A 113 j.toNat)), (5, gs_iv (A 112 i.toNat)), (4, gs_iv j), (3, gs_iv i), (0, .ref 106), (1, gs_iv g)]) dd_X9_countMeetings_141 rfl (by decide) rfl ?_
              refine sA_iinc (lv' := [(4, gs_iv (j + 1)), (2, gs_iv (n + z53)), (8, gs_iv (0 - z23)), (7, gs_iv (0 - z14)), (6, gs_iv (A 113 j.toNat)), (5, gs_iv (A 112 i.toNat)), (3, gs_iv i), (0, .ref 106), (1, gs_iv g)]) dd_X9_countMeetings_142 (.tail _ (.tail _ (.tail _ (.tail _ (.tail _ (.head _)))))) (by decide) rfl ?_
              refine sA_goto (tgt := 15) dd_X9_countMeetings_145 (by decide) ?_
              refine sA_sub (lv2 := [(4, gs_iv (j + 1)), (3, gs_iv i), (2, gs_iv (n + z53)), (0, .ref 106), (1, gs_iv g)]) (List.forall_mem_cons.mpr ⟨(.head _), (List.forall_mem_cons.mpr ⟨(.tail _ (.tail _ (.tail _ (.tail _ (.tail _ (.tail _ (.head _))))))), (List.forall_mem_cons.mpr ⟨(.tail _ (.head _)), (List.forall_mem_cons.mpr ⟨(.tail _ (.tail _ (.tail _ (.tail _ (.tail _ (.tail _ (.tail _ (.head _)))))))), (List.forall_mem_cons.mpr ⟨(.tail _ (.tail _ (.tail _ (.tail _ (.tail _ (.tail _ (.tail _ (.tail _ (.head _))))))))), (fun _ h => absurd h List.not_mem_nil)⟩)⟩)⟩)⟩)⟩) ?_
              exact ih.2 (n + z53) i (j + 1)  (by omega) (by omega) (by omega) (by omega) (by omega)
            · skip
              refine sA_iconst (z := 1) dd_X9_countMeetings_132 ?_
              refine sA_goto (tgt := 137) dd_X9_countMeetings_133 (by decide) ?_
              refine sA_callS (y2 := m_X9_bit) (n2 := 1) (d2 := 1) (as := [gs_iv 1]) (rest := [gs_iv n]) dd_X9_countMeetings_137 ok_X9_bit ml_X9_112 rfl rfl (Nat.le_of_ble_eq_true rfl) (by decide) (c_X9_bit (by omega)) (fun r56 F57 A58 h59 => ?_)
              obtain ⟨z62, e61, e63, e64, x60⟩ := h59
              subst e61 e63 e64
              show sA _ _ _ 140 _ [gs_iv z62, gs_iv n] _ _
              refine sA_iadd dd_X9_countMeetings_140 ?_
              refine sA_istore_n (lv' := [(2, gs_iv (n + z62)), (8, gs_iv (0 - z23)), (7, gs_iv (0 - z14)), (6, gs_iv (A 113 j.toNat)), (5, gs_iv (A 112 i.toNat)), (4, gs_iv j), (3, gs_iv i), (0, .ref 106), (1, gs_iv g)]) dd_X9_countMeetings_141 rfl (by decide) rfl ?_
              refine sA_iinc (lv' := [(4, gs_iv (j + 1)), (2, gs_iv (n + z62)), (8, gs_iv (0 - z23)), (7, gs_iv (0 - z14)), (6, gs_iv (A 113 j.toNat)), (5, gs_iv (A 112 i.toNat)), (3, gs_iv i), (0, .ref 106), (1, gs_iv g)]) dd_X9_countMeetings_142 (.tail _ (.tail _ (.tail _ (.tail _ (.tail _ (.head _)))))) (by decide) rfl ?_
              refine sA_goto (tgt := 15) dd_X9_countMeetings_145 (by decide) ?_
              refine sA_sub (lv2 := [(4, gs_iv (j + 1)), (3, gs_iv i), (2, gs_iv (n + z62)), (0, .ref 106), (1, gs_iv g)]) (List.forall_mem_cons.mpr ⟨(.head _), (List.forall_mem_cons.mpr ⟨(.tail _ (.tail _ (.tail _ (.tail _ (.tail _ (.tail _ (.head _))))))), (List.forall_mem_cons.mpr ⟨(.tail _ (.head _)), (List.forall_mem_cons.mpr ⟨(.tail _ (.tail _ (.tail _ (.tail _ (.tail _ (.tail _ (.tail _ (.head _)))))))), (List.forall_mem_cons.mpr ⟨(.tail _ (.tail _ (.tail _ (.tail _ (.tail _ (.tail _ (.tail _ (.tail _ (.head _))))))))), (fun _ h => absurd h List.not_mem_nil)⟩)⟩)⟩)⟩)⟩) ?_
              exact ih.2 (n + z62) i (j + 1)  (by omega) (by omega) (by omega) (by omega) (by omega)
        · skip
          refine sA_iload_n dd_X9_countMeetings_81 rfl (.tail _ (.tail _ (.tail _ (.tail _ (.tail _ (.tail _ (.head _))))))) ?_
          refine sA_iload_n dd_X9_countMeetings_82 rfl (.tail _ (.tail _ (.tail _ (.tail _ (.tail _ (.tail _ (.tail _ (.tail _ (.head _))))))))) ?_
          refine sA_if_eq (tgt := 105) dd_X9_countMeetings_83 (by decide) (by omega) (fun q65 => ?_) (fun q65 => ?_)
          · skip
            refine sA_iconst (z := 0) dd_X9_countMeetings_105 ?_
            refine sA_callS (y2 := m_X9_bit) (n2 := 1) (d2 := 1) (as := [gs_iv 0]) (rest := [gs_iv n]) dd_X9_countMeetings_106 ok_X9_bit ml_X9_112 rfl rfl (Nat.le_of_ble_eq_true rfl) (by decide) (c_X9_bit (by omega)) (fun r66 F67 A68 h69 => ?_)
            obtain ⟨z72, e71, e73, e74, x70⟩ := h69
            subst e71 e73 e74
            show sA _ _ _ 109 _ [gs_iv z72, gs_iv n] _ _
            refine sA_iadd dd_X9_countMeetings_109 ?_
            refine sA_istore_n (lv' := [(2, gs_iv (n + z72)), (8, gs_iv (0 - z23)), (7, gs_iv (0 - z14)), (6, gs_iv (A 113 j.toNat)), (5, gs_iv (A 112 i.toNat)), (4, gs_iv j), (3, gs_iv i), (0, .ref 106), (1, gs_iv g)]) dd_X9_countMeetings_110 rfl (by decide) rfl ?_
            refine sA_goto (tgt := 142) dd_X9_countMeetings_111 (by decide) ?_
            refine sA_iinc (lv' := [(4, gs_iv (j + 1)), (2, gs_iv (n + z72)), (8, gs_iv (0 - z23)), (7, gs_iv (0 - z14)), (6, gs_iv (A 113 j.toNat)), (5, gs_iv (A 112 i.toNat)), (3, gs_iv i), (0, .ref 106), (1, gs_iv g)]) dd_X9_countMeetings_142 (.tail _ (.tail _ (.tail _ (.tail _ (.tail _ (.head _)))))) (by decide) rfl ?_
            refine sA_goto (tgt := 15) dd_X9_countMeetings_145 (by decide) ?_
            refine sA_sub (lv2 := [(4, gs_iv (j + 1)), (3, gs_iv i), (2, gs_iv (n + z72)), (0, .ref 106), (1, gs_iv g)]) (List.forall_mem_cons.mpr ⟨(.head _), (List.forall_mem_cons.mpr ⟨(.tail _ (.tail _ (.tail _ (.tail _ (.tail _ (.tail _ (.head _))))))), (List.forall_mem_cons.mpr ⟨(.tail _ (.head _)), (List.forall_mem_cons.mpr ⟨(.tail _ (.tail _ (.tail _ (.tail _ (.tail _ (.tail _ (.tail _ (.head _)))))))), (List.forall_mem_cons.mpr ⟨(.tail _ (.tail _ (.tail _ (.tail _ (.tail _ (.tail _ (.tail _ (.tail _ (.head _))))))))), (fun _ h => absurd h List.not_mem_nil)⟩)⟩)⟩)⟩)⟩) ?_
            exact ih.2 (n + z72) i (j + 1)  (by omega) (by omega) (by omega) (by omega) (by omega)
          · skip
            refine sA_aload_n dd_X9_countMeetings_86 rfl (.tail _ (.tail _ (.tail _ (.tail _ (.tail _ (.tail _ (.tail _ (.head _)))))))) ?_
            refine sA_iload dd_X9_countMeetings_87 (.tail _ (.head _)) ?_
            refine sA_iload dd_X9_countMeetings_89 (.tail _ (.tail _ (.tail _ (.head _)))) ?_
            refine sA_iload dd_X9_countMeetings_91 (.head _) ?_
            refine sA_iload dd_X9_countMeetings_93 (.tail _ (.tail _ (.head _))) ?_
            refine sA_callV (y2 := m_X9_meetAtOnce) (n2 := 4) (d2 := 3) (a := 106) (ci := 9) (q := (RX9, TX9, 28)) (as := [gs_iv (0 - z14), gs_iv (A 112 i.toNat), gs_iv (0 - z23), gs_iv (A 113 j.toNat)]) (rest := [gs_iv n]) dd_X9_countMeetings_95 ok_X9_meetAtOnce ml_X9_130 rfl rfl (by decide) gs_s106 rfl rfl (Nat.le_of_ble_eq_true rfl) (by decide) (c_X9_meetAtOnce hI (by omega) (by omega) (by omega) (by omega)) (fun r75 F76 A77 h78 => ?_)
            obtain ⟨z81, e80, e82, e83, x79⟩ := h78
            subst e80 e82 e83
            show sA _ _ _ 98 _ [gs_iv z81, gs_iv n] _ _
            refine sA_if_eq (tgt := 105) dd_X9_countMeetings_98 (by decide) (by omega) (fun q84 => ?_) (fun q84 => ?_)
            · skip
              refine sA_iconst (z := 0) dd_X9_countMeetings_105 ?_
              refine sA_callS (y2 := m_X9_bit) (n2 := 1) (d2 := 1) (as := [gs_iv 0]) (rest := [gs_iv n]) dd_X9_countMeetings_106 ok_X9_bit ml_X9_112 rfl rfl (Nat.le_of_ble_eq_true rfl) (by decide) (c_X9_bit (by omega)) (fun r85 F86 A87 h88 => ?_)
              obtain ⟨z91, e90, e92, e93, x89⟩ := h88
              subst e90 e92 e93
              show sA _ _ _ 109 _ [gs_iv z91, gs_iv n] _ _
              refine sA_iadd dd_X9_countMeetings_109 ?_
              refine sA_istore_n (lv' := [(2, gs_iv (n + z91)), (8, gs_iv (0 - z23)), (7, gs_iv (0 - z14)), (6, gs_iv (A 113 j.toNat)), (5, gs_iv (A 112 i.toNat)), (4, gs_iv j), (3, gs_iv i), (0, .ref 106), (1, gs_iv g)]) dd_X9_countMeetings_110 rfl (by decide) rfl ?_
              refine sA_goto (tgt := 142) dd_X9_countMeetings_111 (by decide) ?_
              refine sA_iinc (lv' := [(4, gs_iv (j + 1)), (2, gs_iv (n + z91)), (8, gs_iv (0 - z23)), (7, gs_iv (0 - z14)), (6, gs_iv (A 113 j.toNat)), (5, gs_iv (A 112 i.toNat)), (3, gs_iv i), (0, .ref 106), (1, gs_iv g)]) dd_X9_countMeetings_142 (.tail _ (.tail _ (.tail _ (.tail _ (.tail _ (.head _)))))) (by decide) rfl ?_
              refine sA_goto (tgt := 15) dd_X9_countMeetings_145 (by decide) ?_
              refine sA_sub (lv2 := [(4, gs_iv (j + 1)), (3, gs_iv i), (2, gs_iv (n + z91)), (0, .ref 106), (1, gs_iv g)]) (List.forall_mem_cons.mpr ⟨(.head _), (List.forall_mem_cons.mpr ⟨(.tail _ (.tail _ (.tail _ (.tail _ (.tail _ (.tail _ (.head _))))))), (List.forall_mem_cons.mpr ⟨(.tail _ (.head _)), (List.forall_mem_cons.mpr ⟨(.tail _ (.tail _ (.tail _ (.tail _ (.tail _ (.tail _ (.tail _ (.head _)))))))), (List.forall_mem_cons.mpr ⟨(.tail _ (.tail _ (.tail _ (.tail _ (.tail _ (.tail _ (.tail _ (.tail _ (.head _))))))))), (fun _ h => absurd h List.not_mem_nil)⟩)⟩)⟩)⟩)⟩) ?_
              exact ih.2 (n + z91) i (j + 1)  (by omega) (by omega) (by omega) (by omega) (by omega)
            · skip
              refine sA_iconst (z := 1) dd_X9_countMeetings_101 ?_
              refine sA_goto (tgt := 106) dd_X9_countMeetings_102 (by decide) ?_
              refine sA_callS (y2 := m_X9_bit) (n2 := 1) (d2 := 1) (as := [gs_iv 1]) (rest := [gs_iv n]) dd_X9_countMeetings_106 ok_X9_bit ml_X9_112 rfl rfl (Nat.le_of_ble_eq_true rfl) (by decide) (c_X9_bit (by omega)) (fun r94 F95 A96 h97 => ?_)
              obtain ⟨z100, e99, e101, e102, x98⟩ := h97
              subst e99 e101 e102
              show sA _ _ _ 109 _ [gs_iv z100, gs_iv n] _ _
              refine sA_iadd dd_X9_countMeetings_109 ?_
              refine sA_istore_n (lv' := [(2, gs_iv (n + z100)), (8, gs_iv (0 - z23)), (7, gs_iv (0 - z14)), (6, gs_iv (A 113 j.toNat)), (5, gs_iv (A 112 i.toNat)), (4, gs_iv j), (3, gs_iv i), (0, .ref 106), (1, gs_iv g)]) dd_X9_countMeetings_110 rfl (by decide) rfl ?_
              refine sA_goto (tgt := 142) dd_X9_countMeetings_111 (by decide) ?_
              refine sA_iinc (lv' := [(4, gs_iv (j + 1)), (2, gs_iv (n + z100)), (8, gs_iv (0 - z23)), (7, gs_iv (0 - z14)), (6, gs_iv (A 113 j.toNat)), (5, gs_iv (A 112 i.toNat)), (3, gs_iv i), (0, .ref 106), (1, gs_iv g)]) dd_X9_countMeetings_142 (.tail _ (.tail _ (.tail _ (.tail _ (.tail _ (.head _)))))) (by decide) rfl ?_
              refine sA_goto (tgt := 15) dd_X9_countMeetings_145 (by decide) ?_
              refine sA_sub (lv2 := [(4, gs_iv (j + 1)), (3, gs_iv i), (2, gs_iv (n + z100)), (0, .ref 106), (1, gs_iv g)]) (List.forall_mem_cons.mpr ⟨(.head _), (List.forall_mem_cons.mpr ⟨(.tail _ (.tail _ (.tail _ (.tail _ (.tail _ (.tail _ (.head _))))))), (List.forall_mem_cons.mpr ⟨(.tail _ (.head _)), (List.forall_mem_cons.mpr ⟨(.tail _ (.tail _ (.tail _ (.tail _ (.tail _ (.tail _ (.tail _ (.head _)))))))), (List.forall_mem_cons.mpr ⟨(.tail _ (.tail _ (.tail _ (.tail _ (.tail _ (.tail _ (.tail _ (.tail _ (.head _))))))))), (fun _ h => absurd h List.not_mem_nil)⟩)⟩)⟩)⟩)⟩) ?_
              exact ih.2 (n + z100) i (j + 1)  (by omega) (by omega) (by omega) (by omega) (by omega)
theorem c_X9_countMeetings {g : Int} {F A : gs_F} (hI : gs_I F A) (hg : g = 0 ∨ g = 1) : sC m_X9_countMeetings 5 [.ref 106, gs_iv g] F A (fun rv F' A' => ∃ z : Int, rv = some (gs_iv z) ∧ F = F' ∧ A = A' ∧ (0 ≤ z ∧ z ≤ 24000)) := by
  refine sC_of ok_X9_countMeetings.1 (Nat.le_of_ble_eq_true rfl) ?_
  show sA _ _ _ 0 [(0, .ref 106), (1, gs_iv g)] [] F A
  have hb9 : (0 : Int) ≤ F 106 9 ∧ F 106 9 ≤ 400 := hI.1 106 9
  have hb11 : (0 : Int) ≤ F 106 11 ∧ F 106 11 ≤ 60 := hI.1 106 11
  refine sA_iconst (z := 0) dd_X9_countMeetings_0 ?_
  refine sA_istore_n (lv' := [(2, gs_iv 0), (0, .ref 106), (1, gs_iv g)]) dd_X9_countMeetings_1 rfl (by decide) rfl ?_
  refine sA_iconst (z := 0) dd_X9_countMeetings_2 ?_
  refine sA_istore_n (lv' := [(3, gs_iv 0), (2, gs_iv 0), (0, .ref 106), (1, gs_iv g)]) dd_X9_countMeetings_3 rfl (by decide) rfl ?_
  refine sA_sub (lv2 := [(3, gs_iv 0), (2, gs_iv 0), (0, .ref 106), (1, gs_iv g)]) (List.forall_mem_cons.mpr ⟨(.head _), (List.forall_mem_cons.mpr ⟨(.tail _ (.head _)), (List.forall_mem_cons.mpr ⟨(.tail _ (.tail _ (.head _))), (List.forall_mem_cons.mpr ⟨(.tail _ (.tail _ (.tail _ (.head _)))), (fun _ h => absurd h List.not_mem_nil)⟩)⟩)⟩)⟩) ?_
  exact (k_X9_countMeetings hI hg ((F 106 9 - 0) * 62 + 1 : Int).toNat.succ).1 0 0  (by omega) (by omega) (by omega)
theorem dd_X9_meetings_0 : decode cX9_meetings 0 = .ok (.aload_n 0, 1) := by decide +kernel
theorem dd_X9_meetings_1 : decode cX9_meetings 1 = .ok (.iconst 1, 1) := by decide +kernel
theorem dd_X9_meetings_2 : decode cX9_meetings 2 = .ok (.invokevirtual 138, 3) := by decide +kernel
theorem dd_X9_meetings_5 : decode cX9_meetings 5 = .ok (.istore_n 1, 1) := by decide +kernel
theorem dd_X9_meetings_6 : decode cX9_meetings 6 = .ok (.aload_n 0, 1) := by decide +kernel
theorem dd_X9_meetings_7 : decode cX9_meetings 7 = .ok (.invokevirtual 97, 3) := by decide +kernel
theorem dd_X9_meetings_10 : decode cX9_meetings 10 = .ok (.iload_n 1, 1) := by decide +kernel
theorem dd_X9_meetings_11 : decode cX9_meetings 11 = .ok (.aload_n 0, 1) := by decide +kernel
theorem dd_X9_meetings_12 : decode cX9_meetings 12 = .ok (.iconst 0, 1) := by decide +kernel
theorem dd_X9_meetings_13 : decode cX9_meetings 13 = .ok (.invokevirtual 138, 3) := by decide +kernel
theorem dd_X9_meetings_16 : decode cX9_meetings 16 = .ok (.iadd, 1) := by decide +kernel
theorem dd_X9_meetings_17 : decode cX9_meetings 17 = .ok (.ireturn, 1) := by decide +kernel
theorem ml_X9_138 : Cond.methodLink RX9 138 m_X9_countMeetings.1 ∈ am_tbl := ri_lw_in (pl := 943) (by decide +kernel)
theorem ok_X9_meetings : am_okM m_X9_meetings 0 ∧ Cond.instanceMethod m_X9_meetings.1 ∈ am_tbl ∧ Cond.selects m_X9_meetings.1.cls m_X9_meetings.1 m_X9_meetings.1 ∈ am_tbl := ri_mk1 942 93 941 40 (by decide +kernel)
theorem c_X9_meetings  {F A : gs_F} (hI : gs_I F A) (hv : 1 ≤ F 106 11) : sC m_X9_meetings 6 [.ref 106] F A (fun rv F' A' => ∃ z : Int, rv = some (gs_iv z) ∧ gs_I F' A' ∧ gs_fr (fun _ _ => False) (fun c => c = 113) F A F' A' ∧ (0 ≤ z ∧ z ≤ 48000)) := by
  refine sC_of ok_X9_meetings.1 (Nat.le_of_ble_eq_true rfl) ?_
  show sA _ _ _ 0 [(0, .ref 106)] [] F A
  have hf : gs_fr (fun _ _ => False) (fun c => c = 113) F A F A := gs_fr_refl _ _ _ _
  refine sA_aload_n dd_X9_meetings_0 rfl (.head _) ?_
  refine sA_iconst (z := 1) dd_X9_meetings_1 ?_
  refine sA_callV (y2 := m_X9_countMeetings) (n2 := 1) (d2 := 5) (a := 106) (ci := 9) (q := (RX9, TX9, 28)) (as := [gs_iv 1]) (rest := []) dd_X9_meetings_2 ok_X9_countMeetings ml_X9_138 rfl rfl (by decide) gs_s106 rfl rfl (Nat.le_of_ble_eq_true rfl) (by decide) (c_X9_countMeetings hI (by omega)) (fun r1 F2 A3 h4 => ?_)
  obtain ⟨z7, e6, e8, e9, x5⟩ := h4
  subst e6 e8 e9
  show sA _ _ _ 5 _ [gs_iv z7] _ _
  refine sA_istore_n (lv' := [(1, gs_iv z7), (0, .ref 106)]) dd_X9_meetings_5 rfl (by decide) rfl ?_
  refine sA_aload_n dd_X9_meetings_6 rfl (.tail _ (.head _)) ?_
  refine sA_callV (y2 := m_X9_turnV) (n2 := 0) (d2 := 1) (a := 106) (ci := 9) (q := (RX9, TX9, 28)) (as := []) (rest := []) dd_X9_meetings_7 ok_X9_turnV ml_X9_97 rfl rfl (by decide) gs_s106 rfl rfl (Nat.le_of_ble_eq_true rfl) (by decide) (c_X9_turnV hI (by omega)) (fun r10 F11 A12 h13 => ?_)
  obtain ⟨e15, I16, f17, x14⟩ := h13
  subst e15
  have f18 := gs_fr_tr hf f17 (fun b j h => by first | exact False.elim h | omega | (dsimp only at h ⊢; omega)) (fun b h => by first | exact False.elim h | omega | (dsimp only at h ⊢; omega))
  show sA _ _ _ 10 _ [] _ _
  refine sA_iload_n dd_X9_meetings_10 rfl (.head _) ?_
  refine sA_aload_n dd_X9_meetings_11 rfl (.tail _ (.head _)) ?_
  refine sA_iconst (z := 0) dd_X9_meetings_12 ?_
  refine sA_callV (y2 := m_X9_countMeetings) (n2 := 1) (d2 := 5) (a := 106) (ci := 9) (q := (RX9, TX9, 28)) (as := [gs_iv 0]) (rest := [gs_iv z7]) dd_X9_meetings_13 ok_X9_countMeetings ml_X9_138 rfl rfl (by decide) gs_s106 rfl rfl (Nat.le_of_ble_eq_true rfl) (by decide) (c_X9_countMeetings I16 (by omega)) (fun r19 F20 A21 h22 => ?_)
  obtain ⟨z25, e24, e26, e27, x23⟩ := h22
  subst e24 e26 e27
  show sA _ _ _ 16 _ [gs_iv z25, gs_iv z7] _ _
  refine sA_iadd dd_X9_meetings_16 ?_
  refine sA_iret (z := z7 + z25) dd_X9_meetings_17 rfl ?_
  exact ⟨_, rfl, I16, f18, by omega⟩
theorem dd_X9_meetingsOf_0 : decode cX9_meetingsOf 0 = .ok (.aload_n 0, 1) := by decide +kernel
theorem dd_X9_meetingsOf_1 : decode cX9_meetingsOf 1 = .ok (.iload_n 1, 1) := by decide +kernel
theorem dd_X9_meetingsOf_2 : decode cX9_meetingsOf 2 = .ok (.invokevirtual 103, 3) := by decide +kernel
theorem dd_X9_meetingsOf_5 : decode cX9_meetingsOf 5 = .ok (.aload_n 0, 1) := by decide +kernel
theorem dd_X9_meetingsOf_6 : decode cX9_meetingsOf 6 = .ok (.iload_n 2, 1) := by decide +kernel
theorem dd_X9_meetingsOf_7 : decode cX9_meetingsOf 7 = .ok (.invokevirtual 106, 3) := by decide +kernel
theorem dd_X9_meetingsOf_10 : decode cX9_meetingsOf 10 = .ok (.aload_n 0, 1) := by decide +kernel
theorem dd_X9_meetingsOf_11 : decode cX9_meetingsOf 11 = .ok (.invokevirtual 141, 3) := by decide +kernel
theorem dd_X9_meetingsOf_14 : decode cX9_meetingsOf 14 = .ok (.ireturn, 1) := by decide +kernel
theorem ml_X9_141 : Cond.methodLink RX9 141 m_X9_meetings.1 ∈ am_tbl := ri_lw_in (pl := 939) (by decide +kernel)
theorem ok_X9_meetingsOf : am_okM m_X9_meetingsOf 2 ∧ Cond.instanceMethod m_X9_meetingsOf.1 ∈ am_tbl ∧ Cond.selects m_X9_meetingsOf.1.cls m_X9_meetingsOf.1 m_X9_meetingsOf.1 ∈ am_tbl := ri_mk1 938 93 937 39 (by decide +kernel)
theorem c_X9_meetingsOf {r s : Int} {F A : gs_F} (hI : gs_I F A) (hr : 0 ≤ r ∧ r < 12) (hs : 0 ≤ s ∧ s < 12) (h1 : 1 ≤ A 108 s.toNat) : sC m_X9_meetingsOf 7 [.ref 106, gs_iv r, gs_iv s] F A (fun rv F' A' => ∃ z : Int, rv = some (gs_iv z) ∧ gs_I F' A' ∧ gs_fr (fun c j => c = 106 ∧ (j = 9 ∨ j = 11)) (fun c => c = 112 ∨ c = 113) F A F' A' ∧ (0 ≤ z ∧ z ≤ 48000)) := by
  refine sC_of ok_X9_meetingsOf.1 (Nat.le_of_ble_eq_true rfl) ?_
  show sA _ _ _ 0 [(0, .ref 106), (1, gs_iv r), (2, gs_iv s)] [] F A
  have hf : gs_fr (fun c j => c = 106 ∧ (j = 9 ∨ j = 11)) (fun c => c = 112 ∨ c = 113) F A F A := gs_fr_refl _ _ _ _
  refine sA_aload_n dd_X9_meetingsOf_0 rfl (.head _) ?_
  refine sA_iload_n dd_X9_meetingsOf_1 rfl (.tail _ (.head _)) ?_
  refine sA_callV (y2 := m_X9_takeU) (n2 := 1) (d2 := 1) (a := 106) (ci := 9) (q := (RX9, TX9, 28)) (as := [gs_iv r]) (rest := []) dd_X9_meetingsOf_2 ok_X9_takeU ml_X9_103 rfl rfl (by decide) gs_s106 rfl rfl (Nat.le_of_ble_eq_true rfl) (by decide) (c_X9_takeU hI (by omega)) (fun r1 F2 A3 h4 => ?_)
  obtain ⟨e6, I7, f8, x5⟩ := h4
  subst e6
  have v9 : A3 108 s.toNat = A 108 s.toNat := congrFun (f8.2 108 (by first | exact id | omega | (dsimp only; omega) | (dsimp only))) _
  have f10 := gs_fr_tr hf f8 (fun b j h => by first | exact False.elim h | omega | (dsimp only at h ⊢; omega)) (fun b h => by first | exact False.elim h | omega | (dsimp only at h ⊢; omega))
  show sA _ _ _ 5 _ [] _ _
  refine sA_aload_n dd_X9_meetingsOf_5 rfl (.head _) ?_
  refine sA_iload_n dd_X9_meetingsOf_6 rfl (.tail _ (.tail _ (.head _))) ?_
  refine sA_callV (y2 := m_X9_takeV) (n2 := 1) (d2 := 1) (a := 106) (ci := 9) (q := (RX9, TX9, 28)) (as := [gs_iv s]) (rest := []) dd_X9_meetingsOf_7 ok_X9_takeV ml_X9_106 rfl rfl (by decide) gs_s106 rfl rfl (Nat.le_of_ble_eq_true rfl) (by decide) (c_X9_takeV I7 (by omega)) (fun r11 F12 A13 h14 => ?_)
  obtain ⟨e16, I17, f18, x15⟩ := h14
  subst e16
  have v19 : A13 108 s.toNat = A3 108 s.toNat := congrFun (f18.2 108 (by first | exact id | omega | (dsimp only; omega) | (dsimp only))) _
  have f20 := gs_fr_tr f10 f18 (fun b j h => by first | exact False.elim h | omega | (dsimp only at h ⊢; omega)) (fun b h => by first | exact False.elim h | omega | (dsimp only at h ⊢; omega))
  show sA _ _ _ 10 _ [] _ _
  refine sA_aload_n dd_X9_meetingsOf_10 rfl (.head _) ?_
  refine sA_callV (y2 := m_X9_meetings) (n2 := 0) (d2 := 6) (a := 106) (ci := 9) (q := (RX9, TX9, 28)) (as := []) (rest := []) dd_X9_meetingsOf_11 ok_X9_meetings ml_X9_141 rfl rfl (by decide) gs_s106 rfl rfl (Nat.le_of_ble_eq_true rfl) (by decide) (c_X9_meetings I17 (by omega)) (fun r21 F22 A23 h24 => ?_)
  obtain ⟨z27, e26, I28, f29, x25⟩ := h24
  subst e26
  have v30 : A23 108 s.toNat = A13 108 s.toNat := congrFun (f29.2 108 (by first | exact id | omega | (dsimp only; omega) | (dsimp only))) _
  have f31 := gs_fr_tr f20 f29 (fun b j h => by first | exact False.elim h | omega | (dsimp only at h ⊢; omega)) (fun b h => by first | exact False.elim h | omega | (dsimp only at h ⊢; omega))
  show sA _ _ _ 14 _ [gs_iv z27] _ _
  refine sA_iret (z := z27) dd_X9_meetingsOf_14 rfl ?_
  exact ⟨_, rfl, I28, f31, by omega⟩
theorem dd_X9_isSimple_0 : decode cX9_isSimple 0 = .ok (.aload_n 0, 1) := by decide +kernel
theorem dd_X9_isSimple_1 : decode cX9_isSimple 1 = .ok (.iload_n 1, 1) := by decide +kernel
theorem dd_X9_isSimple_2 : decode cX9_isSimple 2 = .ok (.invokevirtual 145, 3) := by decide +kernel
theorem dd_X9_isSimple_5 : decode cX9_isSimple 5 = .ok (.ifCond .ne 16, 3) := by decide +kernel
theorem dd_X9_isSimple_8 : decode cX9_isSimple 8 = .ok (.aload_n 0, 1) := by decide +kernel
theorem dd_X9_isSimple_9 : decode cX9_isSimple 9 = .ok (.iload_n 1, 1) := by decide +kernel
theorem dd_X9_isSimple_10 : decode cX9_isSimple 10 = .ok (.iload_n 1, 1) := by decide +kernel
theorem dd_X9_isSimple_11 : decode cX9_isSimple 11 = .ok (.invokevirtual 148, 3) := by decide +kernel
theorem dd_X9_isSimple_14 : decode cX9_isSimple 14 = .ok (.ifCond .ne 7, 3) := by decide +kernel
theorem dd_X9_isSimple_17 : decode cX9_isSimple 17 = .ok (.iconst 1, 1) := by decide +kernel
theorem dd_X9_isSimple_18 : decode cX9_isSimple 18 = .ok (.goto 4, 3) := by decide +kernel
theorem dd_X9_isSimple_21 : decode cX9_isSimple 21 = .ok (.iconst 0, 1) := by decide +kernel
theorem dd_X9_isSimple_22 : decode cX9_isSimple 22 = .ok (.ireturn, 1) := by decide +kernel
theorem ml_X9_145 : Cond.methodLink RX9 145 m_X9_isPower.1 ∈ am_tbl := ri_lw_in (pl := 931) (by decide +kernel)
theorem ml_X9_148 : Cond.methodLink RX9 148 m_X9_meetingsOf.1 ∈ am_tbl := ri_lw_in (pl := 935) (by decide +kernel)
theorem ok_X9_isSimple : am_okM m_X9_isSimple 1 ∧ Cond.instanceMethod m_X9_isSimple.1 ∈ am_tbl ∧ Cond.selects m_X9_isSimple.1.cls m_X9_isSimple.1 m_X9_isSimple.1 ∈ am_tbl := ri_mk1 985 93 984 47 (by decide +kernel)
theorem c_X9_isSimple {r : Int} {F A : gs_F} (hI : gs_I F A) (hr : 0 ≤ r ∧ r < 12) (h1 : 1 ≤ A 108 r.toNat) : sC m_X9_isSimple 8 [.ref 106, gs_iv r] F A (fun rv F' A' => ∃ z : Int, rv = some (gs_iv z) ∧ gs_I F' A' ∧ gs_fr (fun c j => c = 106 ∧ (j = 9 ∨ j = 11)) (fun c => c = 112 ∨ c = 113) F A F' A' ∧ (z = 0 ∨ z = 1)) := by
  refine sC_of ok_X9_isSimple.1 (Nat.le_of_ble_eq_true rfl) ?_
  show sA _ _ _ 0 [(0, .ref 106), (1, gs_iv r)] [] F A
  have hf : gs_fr (fun c j => c = 106 ∧ (j = 9 ∨ j = 11)) (fun c => c = 112 ∨ c = 113) F A F A := gs_fr_refl _ _ _ _
  refine sA_aload_n dd_X9_isSimple_0 rfl (.head _) ?_
  refine sA_iload_n dd_X9_isSimple_1 rfl (.tail _ (.head _)) ?_
  refine sA_callV (y2 := m_X9_isPower) (n2 := 1) (d2 := 1) (a := 106) (ci := 9) (q := (RX9, TX9, 28)) (as := [gs_iv r]) (rest := []) dd_X9_isSimple_2 ok_X9_isPower ml_X9_145 rfl rfl (by decide) gs_s106 rfl rfl (Nat.le_of_ble_eq_true rfl) (by decide) (c_X9_isPower hI (by omega)) (fun r1 F2 A3 h4 => ?_)
  obtain ⟨z7, e6, e8, e9, x5⟩ := h4
  subst e6 e8 e9
  show sA _ _ _ 5 _ [gs_iv z7] _ _
  refine sA_if_ne (tgt := 21) dd_X9_isSimple_5 (by decide) (by omega) (fun q10 => ?_) (fun q10 => ?_)
  · skip
    refine sA_iconst (z := 0) dd_X9_isSimple_21 ?_
    refine sA_bret (z := 0) dd_X9_isSimple_22 rfl (by omega) ?_
    exact ⟨_, rfl, hI, hf, by omega⟩
  · skip
    refine sA_aload_n dd_X9_isSimple_8 rfl (.head _) ?_
    refine sA_iload_n dd_X9_isSimple_9 rfl (.tail _ (.head _)) ?_
    refine sA_iload_n dd_X9_isSimple_10 rfl (.tail _ (.head _)) ?_
    refine sA_callV (y2 := m_X9_meetingsOf) (n2 := 2) (d2 := 7) (a := 106) (ci := 9) (q := (RX9, TX9, 28)) (as := [gs_iv r, gs_iv r]) (rest := []) dd_X9_isSimple_11 ok_X9_meetingsOf ml_X9_148 rfl rfl (by decide) gs_s106 rfl rfl (Nat.le_of_ble_eq_true rfl) (by decide) (c_X9_meetingsOf hI (by omega) (by omega) (by omega)) (fun r11 F12 A13 h14 => ?_)
    obtain ⟨z17, e16, I18, f19, x15⟩ := h14
    subst e16
    have f20 := gs_fr_tr hf f19 (fun b j h => by first | exact False.elim h | omega | (dsimp only at h ⊢; omega)) (fun b h => by first | exact False.elim h | omega | (dsimp only at h ⊢; omega))
    show sA _ _ _ 14 _ [gs_iv z17] _ _
    refine sA_if_ne (tgt := 21) dd_X9_isSimple_14 (by decide) (by omega) (fun q21 => ?_) (fun q21 => ?_)
    · skip
      refine sA_iconst (z := 0) dd_X9_isSimple_21 ?_
      refine sA_bret (z := 0) dd_X9_isSimple_22 rfl (by omega) ?_
      exact ⟨_, rfl, I18, f20, by omega⟩
    · skip
      refine sA_iconst (z := 1) dd_X9_isSimple_17 ?_
      refine sA_goto (tgt := 22) dd_X9_isSimple_18 (by decide) ?_
      refine sA_bret (z := 1) dd_X9_isSimple_22 rfl (by omega) ?_
      exact ⟨_, rfl, I18, f20, by omega⟩
theorem dd_X9_meets_0 : decode cX9_meets 0 = .ok (.aload_n 0, 1) := by decide +kernel
theorem dd_X9_meets_1 : decode cX9_meets 1 = .ok (.iload_n 1, 1) := by decide +kernel
theorem dd_X9_meets_2 : decode cX9_meets 2 = .ok (.invokevirtual 100, 3) := by decide +kernel
theorem dd_X9_meets_5 : decode cX9_meets 5 = .ok (.ifCond .ne 11, 3) := by decide +kernel
theorem dd_X9_meets_8 : decode cX9_meets 8 = .ok (.aload_n 0, 1) := by decide +kernel
theorem dd_X9_meets_9 : decode cX9_meets 9 = .ok (.iload_n 2, 1) := by decide +kernel
theorem dd_X9_meets_10 : decode cX9_meets 10 = .ok (.invokevirtual 100, 3) := by decide +kernel
theorem dd_X9_meets_13 : decode cX9_meets 13 = .ok (.ifCond .eq 7, 3) := by decide +kernel
theorem dd_X9_meets_16 : decode cX9_meets 16 = .ok (.sipush (-1001), 3) := by decide +kernel
theorem dd_X9_meets_19 : decode cX9_meets 19 = .ok (.ireturn, 1) := by decide +kernel
theorem dd_X9_meets_20 : decode cX9_meets 20 = .ok (.aload_n 0, 1) := by decide +kernel
theorem dd_X9_meets_21 : decode cX9_meets 21 = .ok (.iload_n 1, 1) := by decide +kernel
theorem dd_X9_meets_22 : decode cX9_meets 22 = .ok (.invokevirtual 145, 3) := by decide +kernel
theorem dd_X9_meets_25 : decode cX9_meets 25 = .ok (.ifCond .ne 11, 3) := by decide +kernel
theorem dd_X9_meets_28 : decode cX9_meets 28 = .ok (.aload_n 0, 1) := by decide +kernel
theorem dd_X9_meets_29 : decode cX9_meets 29 = .ok (.iload_n 2, 1) := by decide +kernel
theorem dd_X9_meets_30 : decode cX9_meets 30 = .ok (.invokevirtual 145, 3) := by decide +kernel
theorem dd_X9_meets_33 : decode cX9_meets 33 = .ok (.ifCond .eq 9, 3) := by decide +kernel
theorem dd_X9_meets_36 : decode cX9_meets 36 = .ok (.sipush (-1003), 3) := by decide +kernel
theorem dd_X9_meets_39 : decode cX9_meets 39 = .ok (.goto 9, 3) := by decide +kernel
theorem dd_X9_meets_42 : decode cX9_meets 42 = .ok (.aload_n 0, 1) := by decide +kernel
theorem dd_X9_meets_43 : decode cX9_meets 43 = .ok (.iload_n 1, 1) := by decide +kernel
theorem dd_X9_meets_44 : decode cX9_meets 44 = .ok (.iload_n 2, 1) := by decide +kernel
theorem dd_X9_meets_45 : decode cX9_meets 45 = .ok (.invokevirtual 148, 3) := by decide +kernel
theorem dd_X9_meets_48 : decode cX9_meets 48 = .ok (.ireturn, 1) := by decide +kernel
theorem ok_X9_meets : am_okM m_X9_meets 2 ∧ Cond.instanceMethod m_X9_meets.1 ∈ am_tbl ∧ Cond.selects m_X9_meets.1.cls m_X9_meets.1 m_X9_meets.1 ∈ am_tbl := ri_mk1 930 93 928 929 (by decide +kernel)
theorem c_X9_meets {r s : Int} {F A : gs_F} (hI : gs_I F A) (hr : -2147483648 ≤ r ∧ r ≤ 2147483647) (hs : -2147483648 ≤ s ∧ s ≤ 2147483647) (hX : ∀ r : Nat, (r : Int) < F 106 3 → 1 ≤ A 108 r) : sC m_X9_meets 8 [.ref 106, gs_iv r, gs_iv s] F A (fun rv F' A' => ∃ z : Int, rv = some (gs_iv z) ∧ gs_I F' A' ∧ gs_fr (fun c j => c = 106 ∧ (j = 9 ∨ j = 11)) (fun c => c = 112 ∨ c = 113) F A F' A' ∧ (True)) := by
  refine sC_of ok_X9_meets.1 (Nat.le_of_ble_eq_true rfl) ?_
  show sA _ _ _ 0 [(0, .ref 106), (1, gs_iv r), (2, gs_iv s)] [] F A
  have hf : gs_fr (fun c j => c = 106 ∧ (j = 9 ∨ j = 11)) (fun c => c = 112 ∨ c = 113) F A F A := gs_fr_refl _ _ _ _
  refine sA_aload_n dd_X9_meets_0 rfl (.head _) ?_
  refine sA_iload_n dd_X9_meets_1 rfl (.tail _ (.head _)) ?_
  refine sA_callV (y2 := m_X9_noRing) (n2 := 1) (d2 := 2) (a := 106) (ci := 9) (q := (RX9, TX9, 28)) (as := [gs_iv r]) (rest := []) dd_X9_meets_2 ok_X9_noRing ml_X9_100 rfl rfl (by decide) gs_s106 rfl rfl (Nat.le_of_ble_eq_true rfl) (by decide) (c_X9_noRing hI (by omega)) (fun r1 F2 A3 h4 => ?_)
  obtain ⟨z7, e6, e8, e9, x5⟩ := h4
  subst e6 e8 e9
  show sA _ _ _ 5 _ [gs_iv z7] _ _
  refine sA_if_ne (tgt := 16) dd_X9_meets_5 (by decide) (by omega) (fun q10 => ?_) (fun q10 => ?_)
  · skip
    refine sA_sipush (z := (-1001)) dd_X9_meets_16 (by decide) ?_
    refine sA_iret (z := -1001) dd_X9_meets_19 rfl ?_
    exact ⟨_, rfl, hI, hf, trivial⟩
  · skip
    refine sA_aload_n dd_X9_meets_8 rfl (.head _) ?_
    refine sA_iload_n dd_X9_meets_9 rfl (.tail _ (.tail _ (.head _))) ?_
    refine sA_callV (y2 := m_X9_noRing) (n2 := 1) (d2 := 2) (a := 106) (ci := 9) (q := (RX9, TX9, 28)) (as := [gs_iv s]) (rest := []) dd_X9_meets_10 ok_X9_noRing ml_X9_100 rfl rfl (by decide) gs_s106 rfl rfl (Nat.le_of_ble_eq_true rfl) (by decide) (c_X9_noRing hI (by omega)) (fun r11 F12 A13 h14 => ?_)
    obtain ⟨z17, e16, e18, e19, x15⟩ := h14
    subst e16 e18 e19
    show sA _ _ _ 13 _ [gs_iv z17] _ _
    refine sA_if_eq (tgt := 20) dd_X9_meets_13 (by decide) (by omega) (fun q20 => ?_) (fun q20 => ?_)
    · skip
      have hx_s := hX s.toNat (by omega)
      refine sA_aload_n dd_X9_meets_20 rfl (.head _) ?_
      refine sA_iload_n dd_X9_meets_21 rfl (.tail _ (.head _)) ?_
      refine sA_callV (y2 := m_X9_isPower) (n2 := 1) (d2 := 1) (a := 106) (ci := 9) (q := (RX9, TX9, 28)) (as := [gs_iv r]) (rest := []) dd_X9_meets_22 ok_X9_isPower ml_X9_145 rfl rfl (by decide) gs_s106 rfl rfl (Nat.le_of_ble_eq_true rfl) (by decide) (c_X9_isPower hI (by omega)) (fun r21 F22 A23 h24 => ?_)
      obtain ⟨z27, e26, e28, e29, x25⟩ := h24
      subst e26 e28 e29
      show sA _ _ _ 25 _ [gs_iv z27] _ _
      refine sA_if_ne (tgt := 36) dd_X9_meets_25 (by decide) (by omega) (fun q30 => ?_) (fun q30 => ?_)
      · skip
        refine sA_sipush (z := (-1003)) dd_X9_meets_36 (by decide) ?_
        refine sA_goto (tgt := 48) dd_X9_meets_39 (by decide) ?_
        refine sA_iret (z := -1003) dd_X9_meets_48 rfl ?_
        exact ⟨_, rfl, hI, hf, trivial⟩
      · skip
        refine sA_aload_n dd_X9_meets_28 rfl (.head _) ?_
        refine sA_iload_n dd_X9_meets_29 rfl (.tail _ (.tail _ (.head _))) ?_
        refine sA_callV (y2 := m_X9_isPower) (n2 := 1) (d2 := 1) (a := 106) (ci := 9) (q := (RX9, TX9, 28)) (as := [gs_iv s]) (rest := []) dd_X9_meets_30 ok_X9_isPower ml_X9_145 rfl rfl (by decide) gs_s106 rfl rfl (Nat.le_of_ble_eq_true rfl) (by decide) (c_X9_isPower hI (by omega)) (fun r31 F32 A33 h34 => ?_)
        obtain ⟨z37, e36, e38, e39, x35⟩ := h34
        subst e36 e38 e39
        show sA _ _ _ 33 _ [gs_iv z37] _ _
        refine sA_if_eq (tgt := 42) dd_X9_meets_33 (by decide) (by omega) (fun q40 => ?_) (fun q40 => ?_)
        · skip
          refine sA_aload_n dd_X9_meets_42 rfl (.head _) ?_
          refine sA_iload_n dd_X9_meets_43 rfl (.tail _ (.head _)) ?_
          refine sA_iload_n dd_X9_meets_44 rfl (.tail _ (.tail _ (.head _))) ?_
          refine sA_callV (y2 := m_X9_meetingsOf) (n2 := 2) (d2 := 7) (a := 106) (ci := 9) (q := (RX9, TX9, 28)) (as := [gs_iv r, gs_iv s]) (rest := []) dd_X9_meets_45 ok_X9_meetingsOf ml_X9_148 rfl rfl (by decide) gs_s106 rfl rfl (Nat.le_of_ble_eq_true rfl) (by decide) (c_X9_meetingsOf hI (by omega) (by omega) (by omega)) (fun r41 F42 A43 h44 => ?_)
          obtain ⟨z47, e46, I48, f49, x45⟩ := h44
          subst e46
          have f50 := gs_fr_tr hf f49 (fun b j h => by first | exact False.elim h | omega | (dsimp only at h ⊢; omega)) (fun b h => by first | exact False.elim h | omega | (dsimp only at h ⊢; omega))
          show sA _ _ _ 48 _ [gs_iv z47] _ _
          refine sA_iret (z := z47) dd_X9_meets_48 rfl ?_
          exact ⟨_, rfl, I48, f50, trivial⟩
        · skip
          refine sA_sipush (z := (-1003)) dd_X9_meets_36 (by decide) ?_
          refine sA_goto (tgt := 48) dd_X9_meets_39 (by decide) ?_
          refine sA_iret (z := -1003) dd_X9_meets_48 rfl ?_
          exact ⟨_, rfl, hI, hf, trivial⟩
    · skip
      refine sA_sipush (z := (-1001)) dd_X9_meets_16 (by decide) ?_
      refine sA_iret (z := -1001) dd_X9_meets_19 rfl ?_
      exact ⟨_, rfl, hI, hf, trivial⟩
theorem dd_X9_told_0 : decode cX9_told 0 = .ok (.aload_n 0, 1) := by decide +kernel
theorem dd_X9_told_1 : decode cX9_told 1 = .ok (.iload_n 1, 1) := by decide +kernel
theorem dd_X9_told_2 : decode cX9_told 2 = .ok (.invokevirtual 100, 3) := by decide +kernel
theorem dd_X9_told_5 : decode cX9_told 5 = .ok (.ifCond .eq 7, 3) := by decide +kernel
theorem dd_X9_told_8 : decode cX9_told 8 = .ok (.sipush (-1001), 3) := by decide +kernel
theorem dd_X9_told_11 : decode cX9_told 11 = .ok (.ireturn, 1) := by decide +kernel
theorem dd_X9_told_12 : decode cX9_told 12 = .ok (.iload_n 2, 1) := by decide +kernel
theorem dd_X9_told_13 : decode cX9_told 13 = .ok (.tableswitch 96 0 3 #[31, 38, 47, 68], 31) := by decide +kernel
theorem dd_X9_told_44 : decode cX9_told 44 = .ok (.aload_n 0, 1) := by decide +kernel
theorem dd_X9_told_45 : decode cX9_told 45 = .ok (.getfield 13, 3) := by decide +kernel
theorem dd_X9_told_48 : decode cX9_told 48 = .ok (.iload_n 1, 1) := by decide +kernel
theorem dd_X9_told_49 : decode cX9_told 49 = .ok (.iaload, 1) := by decide +kernel
theorem dd_X9_told_50 : decode cX9_told 50 = .ok (.ireturn, 1) := by decide +kernel
theorem dd_X9_told_51 : decode cX9_told 51 = .ok (.aload_n 0, 1) := by decide +kernel
theorem dd_X9_told_52 : decode cX9_told 52 = .ok (.iload_n 1, 1) := by decide +kernel
theorem dd_X9_told_53 : decode cX9_told 53 = .ok (.invokevirtual 145, 3) := by decide +kernel
theorem dd_X9_told_56 : decode cX9_told 56 = .ok (.invokestatic 112, 3) := by decide +kernel
theorem dd_X9_told_59 : decode cX9_told 59 = .ok (.ireturn, 1) := by decide +kernel
theorem dd_X9_told_60 : decode cX9_told 60 = .ok (.aload_n 0, 1) := by decide +kernel
theorem dd_X9_told_61 : decode cX9_told 61 = .ok (.iload_n 1, 1) := by decide +kernel
theorem dd_X9_told_62 : decode cX9_told 62 = .ok (.invokevirtual 145, 3) := by decide +kernel
theorem dd_X9_told_65 : decode cX9_told 65 = .ok (.ifCond .eq 7, 3) := by decide +kernel
theorem dd_X9_told_68 : decode cX9_told 68 = .ok (.iconst (-1), 1) := by decide +kernel
theorem dd_X9_told_69 : decode cX9_told 69 = .ok (.goto 11, 3) := by decide +kernel
theorem dd_X9_told_72 : decode cX9_told 72 = .ok (.aload_n 0, 1) := by decide +kernel
theorem dd_X9_told_73 : decode cX9_told 73 = .ok (.iload_n 1, 1) := by decide +kernel
theorem dd_X9_told_74 : decode cX9_told 74 = .ok (.iload_n 1, 1) := by decide +kernel
theorem dd_X9_told_75 : decode cX9_told 75 = .ok (.invokevirtual 148, 3) := by decide +kernel
theorem dd_X9_told_78 : decode cX9_told 78 = .ok (.iconst 2, 1) := by decide +kernel
theorem dd_X9_told_79 : decode cX9_told 79 = .ok (.idiv, 1) := by decide +kernel
theorem dd_X9_told_80 : decode cX9_told 80 = .ok (.ireturn, 1) := by decide +kernel
theorem dd_X9_told_81 : decode cX9_told 81 = .ok (.aload_n 0, 1) := by decide +kernel
theorem dd_X9_told_82 : decode cX9_told 82 = .ok (.iload_n 1, 1) := by decide +kernel
theorem dd_X9_told_83 : decode cX9_told 83 = .ok (.invokevirtual 145, 3) := by decide +kernel
theorem dd_X9_told_86 : decode cX9_told 86 = .ok (.ifCond .ne 18, 3) := by decide +kernel
theorem dd_X9_told_89 : decode cX9_told 89 = .ok (.aload_n 0, 1) := by decide +kernel
theorem dd_X9_told_90 : decode cX9_told 90 = .ok (.iload_n 1, 1) := by decide +kernel
theorem dd_X9_told_91 : decode cX9_told 91 = .ok (.iload_n 1, 1) := by decide +kernel
theorem dd_X9_told_92 : decode cX9_told 92 = .ok (.invokevirtual 148, 3) := by decide +kernel
theorem dd_X9_told_95 : decode cX9_told 95 = .ok (.iconst 2, 1) := by decide +kernel
theorem dd_X9_told_96 : decode cX9_told 96 = .ok (.idiv, 1) := by decide +kernel
theorem dd_X9_told_97 : decode cX9_told 97 = .ok (.ifCond .ne 7, 3) := by decide +kernel
theorem dd_X9_told_100 : decode cX9_told 100 = .ok (.iconst 1, 1) := by decide +kernel
theorem dd_X9_told_101 : decode cX9_told 101 = .ok (.goto 4, 3) := by decide +kernel
theorem dd_X9_told_104 : decode cX9_told 104 = .ok (.iconst 0, 1) := by decide +kernel
theorem dd_X9_told_105 : decode cX9_told 105 = .ok (.invokestatic 112, 3) := by decide +kernel
theorem dd_X9_told_108 : decode cX9_told 108 = .ok (.ireturn, 1) := by decide +kernel
theorem dd_X9_told_109 : decode cX9_told 109 = .ok (.sipush (-1002), 3) := by decide +kernel
theorem dd_X9_told_112 : decode cX9_told 112 = .ok (.ireturn, 1) := by decide +kernel
theorem ok_X9_told : am_okM m_X9_told 2 ∧ Cond.instanceMethod m_X9_told.1 ∈ am_tbl ∧ Cond.selects m_X9_told.1.cls m_X9_told.1 m_X9_told.1 ∈ am_tbl := ri_mk1 973 93 971 972 (by decide +kernel)
theorem c_X9_told {r w : Int} {F A : gs_F} (hI : gs_I F A) (hr : -2147483648 ≤ r ∧ r ≤ 2147483647) (hw : -2147483648 ≤ w ∧ w ≤ 2147483647) (hX : ∀ r : Nat, (r : Int) < F 106 3 → 1 ≤ A 108 r) : sC m_X9_told 8 [.ref 106, gs_iv r, gs_iv w] F A (fun rv F' A' => ∃ z : Int, rv = some (gs_iv z) ∧ gs_I F' A' ∧ gs_fr (fun c j => c = 106 ∧ (j = 9 ∨ j = 11)) (fun c => c = 112 ∨ c = 113) F A F' A' ∧ (True)) := by
  refine sC_of ok_X9_told.1 (Nat.le_of_ble_eq_true rfl) ?_
  show sA _ _ _ 0 [(0, .ref 106), (1, gs_iv r), (2, gs_iv w)] [] F A
  have hf : gs_fr (fun c j => c = 106 ∧ (j = 9 ∨ j = 11)) (fun c => c = 112 ∨ c = 113) F A F A := gs_fr_refl _ _ _ _
  refine sA_aload_n dd_X9_told_0 rfl (.head _) ?_
  refine sA_iload_n dd_X9_told_1 rfl (.tail _ (.head _)) ?_
  refine sA_callV (y2 := m_X9_noRing) (n2 := 1) (d2 := 2) (a := 106) (ci := 9) (q := (RX9, TX9, 28)) (as := [gs_iv r]) (rest := []) dd_X9_told_2 ok_X9_noRing ml_X9_100 rfl rfl (by decide) gs_s106 rfl rfl (Nat.le_of_ble_eq_true rfl) (by decide) (c_X9_noRing hI (by omega)) (fun r1 F2 A3 h4 => ?_)
  obtain ⟨z7, e6, e8, e9, x5⟩ := h4
  subst e6 e8 e9
  show sA _ _ _ 5 _ [gs_iv z7] _ _
  refine sA_if_eq (tgt := 12) dd_X9_told_5 (by decide) (by omega) (fun q10 => ?_) (fun q10 => ?_)
  · skip
    have hx_r := hX r.toNat (by omega)
    refine sA_iload_n dd_X9_told_12 rfl (.tail _ (.tail _ (.head _))) ?_
    by_cases q11 : w = 0
    · refine sA_tblIn (off := 31) (tgt := 44) dd_X9_told_13 (by omega) (by omega) (by rw [q11]; rfl) (by decide) ?_
      refine sA_aload_n dd_X9_told_44 rfl (.head _) ?_
      refine sA_getr (ci := 9) (j := 4) (q := (RX9, TX9, 28)) dd_X9_told_45 rfl (by decide) fl_X9_13 (by decide) gs_s106 rfl ?_
      refine sA_iload_n dd_X9_told_48 rfl (.tail _ (.head _)) ?_
      refine sA_iald (n := 12) dd_X9_told_49 (by decide) gs_s108 (by omega) (by decide) ?_
      have b12 : (0 : Int) ≤ A 108 r.toNat ∧ A 108 r.toNat ≤ 60 := hI.2 108 r.toNat
      refine sA_iret (z := A 108 r.toNat) dd_X9_told_50 rfl ?_
      exact ⟨_, rfl, hI, hf, trivial⟩
    · skip
      by_cases q13 : w = 1
      · refine sA_tblIn (off := 38) (tgt := 51) dd_X9_told_13 (by omega) (by omega) (by rw [q13]; rfl) (by decide) ?_
        refine sA_aload_n dd_X9_told_51 rfl (.head _) ?_
        refine sA_iload_n dd_X9_told_52 rfl (.tail _ (.head _)) ?_
        refine sA_callV (y2 := m_X9_isPower) (n2 := 1) (d2 := 1) (a := 106) (ci := 9) (q := (RX9, TX9, 28)) (as := [gs_iv r]) (rest := []) dd_X9_told_53 ok_X9_isPower ml_X9_145 rfl rfl (by decide) gs_s106 rfl rfl (Nat.le_of_ble_eq_true rfl) (by decide) (c_X9_isPower hI (by omega)) (fun r14 F15 A16 h17 => ?_)
        obtain ⟨z20, e19, e21, e22, x18⟩ := h17
        subst e19 e21 e22
        show sA _ _ _ 56 _ [gs_iv z20] _ _
        refine sA_callS (y2 := m_X9_bit) (n2 := 1) (d2 := 1) (as := [gs_iv z20]) (rest := []) dd_X9_told_56 ok_X9_bit ml_X9_112 rfl rfl (Nat.le_of_ble_eq_true rfl) (by decide) (c_X9_bit (by omega)) (fun r23 F24 A25 h26 => ?_)
        obtain ⟨z29, e28, e30, e31, x27⟩ := h26
        subst e28 e30 e31
        show sA _ _ _ 59 _ [gs_iv z29] _ _
        refine sA_iret (z := z29) dd_X9_told_59 rfl ?_
        exact ⟨_, rfl, hI, hf, trivial⟩
      · skip
        by_cases q32 : w = 2
        · refine sA_tblIn (off := 47) (tgt := 60) dd_X9_told_13 (by omega) (by omega) (by rw [q32]; rfl) (by decide) ?_
          refine sA_aload_n dd_X9_told_60 rfl (.head _) ?_
          refine sA_iload_n dd_X9_told_61 rfl (.tail _ (.head _)) ?_
          refine sA_callV (y2 := m_X9_isPower) (n2 := 1) (d2 := 1) (a := 106) (ci := 9) (q := (RX9, TX9, 28)) (as := [gs_iv r]) (rest := []) dd_X9_told_62 ok_X9_isPower ml_X9_145 rfl rfl (by decide) gs_s106 rfl rfl (Nat.le_of_ble_eq_true rfl) (by decide) (c_X9_isPower hI (by omega)) (fun r33 F34 A35 h36 => ?_)
          obtain ⟨z39, e38, e40, e41, x37⟩ := h36
          subst e38 e40 e41
          show sA _ _ _ 65 _ [gs_iv z39] _ _
          refine sA_if_eq (tgt := 72) dd_X9_told_65 (by decide) (by omega) (fun q42 => ?_) (fun q42 => ?_)
          · skip
            refine sA_aload_n dd_X9_told_72 rfl (.head _) ?_
            refine sA_iload_n dd_X9_told_73 rfl (.tail _ (.head _)) ?_
            refine sA_iload_n dd_X9_told_74 rfl (.tail _ (.head _)) ?_
            refine sA_callV (y2 := m_X9_meetingsOf) (n2 := 2) (d2 := 7) (a := 106) (ci := 9) (q := (RX9, TX9, 28)) (as := [gs_iv r, gs_iv r]) (rest := []) dd_X9_told_75 ok_X9_meetingsOf ml_X9_148 rfl rfl (by decide) gs_s106 rfl rfl (Nat.le_of_ble_eq_true rfl) (by decide) (c_X9_meetingsOf hI (by omega) (by omega) (by omega)) (fun r43 F44 A45 h46 => ?_)
            obtain ⟨z49, e48, I50, f51, x47⟩ := h46
            subst e48
            have f52 := gs_fr_tr hf f51 (fun b j h => by first | exact False.elim h | omega | (dsimp only at h ⊢; omega)) (fun b h => by first | exact False.elim h | omega | (dsimp only at h ⊢; omega))
            show sA _ _ _ 78 _ [gs_iv z49] _ _
            refine sA_iconst (z := 2) dd_X9_told_78 ?_
            refine sA_idivN dd_X9_told_79 (by omega) (by omega) (by omega) ?_
            refine sA_iret (z := z49 / 2) dd_X9_told_80 rfl ?_
            exact ⟨_, rfl, I50, f52, trivial⟩
          · skip
            refine sA_iconst (z := (-1)) dd_X9_told_68 ?_
            refine sA_goto (tgt := 80) dd_X9_told_69 (by decide) ?_
            refine sA_iret (z := -1) dd_X9_told_80 rfl ?_
            exact ⟨_, rfl, hI, hf, trivial⟩
        · skip
          by_cases q53 : w = 3
          · refine sA_tblIn (off := 68) (tgt := 81) dd_X9_told_13 (by omega) (by omega) (by rw [q53]; rfl) (by decide) ?_
            refine sA_aload_n dd_X9_told_81 rfl (.head _) ?_
            refine sA_iload_n dd_X9_told_82 rfl (.tail _ (.head _)) ?_
            refine sA_callV (y2 := m_X9_isPower) (n2 := 1) (d2 := 1) (a := 106) (ci := 9) (q := (RX9, TX9, 28)) (as := [gs_iv r]) (rest := []) dd_X9_told_83 ok_X9_isPower ml_X9_145 rfl rfl (by decide) gs_s106 rfl rfl (Nat.le_of_ble_eq_true rfl) (by decide) (c_X9_isPower hI (by omega)) (fun r54 F55 A56 h57 => ?_)
            obtain ⟨z60, e59, e61, e62, x58⟩ := h57
            subst e59 e61 e62
            show sA _ _ _ 86 _ [gs_iv z60] _ _
            refine sA_if_ne (tgt := 104) dd_X9_told_86 (by decide) (by omega) (fun q63 => ?_) (fun q63 => ?_)
            · skip
              refine sA_iconst (z := 0) dd_X9_told_104 ?_
              refine sA_callS (y2 := m_X9_bit) (n2 := 1) (d2 := 1) (as := [gs_iv 0]) (rest := []) dd_X9_told_105 ok_X9_bit ml_X9_112 rfl rfl (Nat.le_of_ble_eq_true rfl) (by decide) (c_X9_bit (by omega)) (fun r64 F65 A66 h67 => ?_)
              obtain ⟨z70, e69, e71, e72, x68⟩ := h67
              subst e69 e71 e72
              show sA _ _ _ 108 _ [gs_iv z70] _ _
              refine sA_iret (z := z70) dd_X9_told_108 rfl ?_
              exact ⟨_, rfl, hI, hf, trivial⟩
            · skip
              refine sA_aload_n dd_X9_told_89 rfl (.head _) ?_
              refine sA_iload_n dd_X9_told_90 rfl (.tail _ (.head _)) ?_
              refine sA_iload_n dd_X9_told_91 rfl (.tail _ (.head _)) ?_
              refine sA_callV (y2 := m_X9_meetingsOf) (n2 := 2) (d2 := 7) (a := 106) (ci := 9) (q := (RX9, TX9, 28)) (as := [gs_iv r, gs_iv r]) (rest := []) dd_X9_told_92 ok_X9_meetingsOf ml_X9_148 rfl rfl (by decide) gs_s106 rfl rfl (Nat.le_of_ble_eq_true rfl) (by decide) (c_X9_meetingsOf hI (by omega) (by omega) (by omega)) (fun r73 F74 A75 h76 => ?_)
              obtain ⟨z79, e78, I80, f81, x77⟩ := h76
              subst e78
              have f82 := gs_fr_tr hf f81 (fun b j h => by first | exact False.elim h | omega | (dsimp only at h ⊢; omega)) (fun b h => by first | exact False.elim h | omega | (dsimp only at h ⊢; omega))
              show sA _ _ _ 95 _ [gs_iv z79] _ _
              refine sA_iconst (z := 2) dd_X9_told_95 ?_
              refine sA_idivN dd_X9_told_96 (by omega) (by omega) (by omega) ?_
              refine sA_if_ne (tgt := 104) dd_X9_told_97 (by decide) (by omega) (fun q83 => ?_) (fun q83 => ?_)
              · skip
                refine sA_iconst (z := 0) dd_X9_told_104 ?_
                refine sA_callS (y2 := m_X9_bit) (n2 := 1) (d2 := 1) (as := [gs_iv 0]) (rest := []) dd_X9_told_105 ok_X9_bit ml_X9_112 rfl rfl (Nat.le_of_ble_eq_true rfl) (by decide) (c_X9_bit (by omega)) (fun r84 F85 A86 h87 => ?_)
                obtain ⟨z90, e89, e91, e92, x88⟩ := h87
                subst e89 e91 e92
                show sA _ _ _ 108 _ [gs_iv z90] _ _
                refine sA_iret (z := z90) dd_X9_told_108 rfl ?_
                exact ⟨_, rfl, I80, f82, trivial⟩
              · skip
                refine sA_iconst (z := 1) dd_X9_told_100 ?_
                refine sA_goto (tgt := 105) dd_X9_told_101 (by decide) ?_
                refine sA_callS (y2 := m_X9_bit) (n2 := 1) (d2 := 1) (as := [gs_iv 1]) (rest := []) dd_X9_told_105 ok_X9_bit ml_X9_112 rfl rfl (Nat.le_of_ble_eq_true rfl) (by decide) (c_X9_bit (by omega)) (fun r93 F94 A95 h96 => ?_)
                obtain ⟨z99, e98, e100, e101, x97⟩ := h96
                subst e98 e100 e101
                show sA _ _ _ 108 _ [gs_iv z99] _ _
                refine sA_iret (z := z99) dd_X9_told_108 rfl ?_
                exact ⟨_, rfl, I80, f82, trivial⟩
          · skip
            refine sA_tblOut (tgt := 109) dd_X9_told_13 (by omega) (by omega) (by decide) ?_
            refine sA_sipush (z := (-1002)) dd_X9_told_109 (by decide) ?_
            refine sA_iret (z := -1002) dd_X9_told_112 rfl ?_
            exact ⟨_, rfl, hI, hf, trivial⟩
  · skip
    refine sA_sipush (z := (-1001)) dd_X9_told_8 (by decide) ?_
    refine sA_iret (z := -1001) dd_X9_told_11 rfl ?_
    exact ⟨_, rfl, hI, hf, trivial⟩
theorem dd_X9_at_0 : decode cX9_at 0 = .ok (.aload_n 0, 1) := by decide +kernel
theorem dd_X9_at_1 : decode cX9_at 1 = .ok (.iload_n 1, 1) := by decide +kernel
theorem dd_X9_at_2 : decode cX9_at 2 = .ok (.invokevirtual 100, 3) := by decide +kernel
theorem dd_X9_at_5 : decode cX9_at 5 = .ok (.ifCond .eq 7, 3) := by decide +kernel
theorem dd_X9_at_8 : decode cX9_at 8 = .ok (.sipush (-1001), 3) := by decide +kernel
theorem dd_X9_at_11 : decode cX9_at 11 = .ok (.ireturn, 1) := by decide +kernel
theorem dd_X9_at_12 : decode cX9_at 12 = .ok (.iload_n 2, 1) := by decide +kernel
theorem dd_X9_at_13 : decode cX9_at 13 = .ok (.i2l, 1) := by decide +kernel
theorem dd_X9_at_14 : decode cX9_at 14 = .ok (.lconst 0, 1) := by decide +kernel
theorem dd_X9_at_15 : decode cX9_at 15 = .ok (.aload_n 0, 1) := by decide +kernel
theorem dd_X9_at_16 : decode cX9_at 16 = .ok (.getfield 13, 3) := by decide +kernel
theorem dd_X9_at_19 : decode cX9_at 19 = .ok (.iload_n 1, 1) := by decide +kernel
theorem dd_X9_at_20 : decode cX9_at 20 = .ok (.iaload, 1) := by decide +kernel
theorem dd_X9_at_21 : decode cX9_at 21 = .ok (.iconst 1, 1) := by decide +kernel
theorem dd_X9_at_22 : decode cX9_at 22 = .ok (.isub, 1) := by decide +kernel
theorem dd_X9_at_23 : decode cX9_at 23 = .ok (.i2l, 1) := by decide +kernel
theorem dd_X9_at_24 : decode cX9_at 24 = .ok (.invokestatic 75, 3) := by decide +kernel
theorem dd_X9_at_27 : decode cX9_at 27 = .ok (.ifCond .eq 17, 3) := by decide +kernel
theorem dd_X9_at_30 : decode cX9_at 30 = .ok (.aload_n 0, 1) := by decide +kernel
theorem dd_X9_at_31 : decode cX9_at 31 = .ok (.getfield 16, 3) := by decide +kernel
theorem dd_X9_at_34 : decode cX9_at 34 = .ok (.bipush 60, 2) := by decide +kernel
theorem dd_X9_at_36 : decode cX9_at 36 = .ok (.iload_n 1, 1) := by decide +kernel
theorem dd_X9_at_37 : decode cX9_at 37 = .ok (.imul, 1) := by decide +kernel
theorem dd_X9_at_38 : decode cX9_at 38 = .ok (.iload_n 2, 1) := by decide +kernel
theorem dd_X9_at_39 : decode cX9_at 39 = .ok (.iadd, 1) := by decide +kernel
theorem dd_X9_at_40 : decode cX9_at 40 = .ok (.iaload, 1) := by decide +kernel
theorem dd_X9_at_41 : decode cX9_at 41 = .ok (.goto 4, 3) := by decide +kernel
theorem dd_X9_at_44 : decode cX9_at 44 = .ok (.iconst (-1), 1) := by decide +kernel
theorem dd_X9_at_45 : decode cX9_at 45 = .ok (.ireturn, 1) := by decide +kernel
theorem ok_X9_at : am_okM m_X9_at 2 ∧ Cond.instanceMethod m_X9_at.1 ∈ am_tbl ∧ Cond.selects m_X9_at.1.cls m_X9_at.1 m_X9_at.1 ∈ am_tbl := ri_mk1 977 93 975 976 (by decide +kernel)
theorem c_X9_at {r i : Int} {F A : gs_F} (hI : gs_I F A) (hr : -2147483648 ≤ r ∧ r ≤ 2147483647) (hi : -2147483648 ≤ i ∧ i ≤ 2147483647) : sC m_X9_at 3 [.ref 106, gs_iv r, gs_iv i] F A (fun rv F' A' => ∃ z : Int, rv = some (gs_iv z) ∧ F = F' ∧ A = A' ∧ (True)) := by
  refine sC_of ok_X9_at.1 (Nat.le_of_ble_eq_true rfl) ?_
  show sA _ _ _ 0 [(0, .ref 106), (1, gs_iv r), (2, gs_iv i)] [] F A
  refine sA_aload_n dd_X9_at_0 rfl (.head _) ?_
  refine sA_iload_n dd_X9_at_1 rfl (.tail _ (.head _)) ?_
  refine sA_callV (y2 := m_X9_noRing) (n2 := 1) (d2 := 2) (a := 106) (ci := 9) (q := (RX9, TX9, 28)) (as := [gs_iv r]) (rest := []) dd_X9_at_2 ok_X9_noRing ml_X9_100 rfl rfl (by decide) gs_s106 rfl rfl (Nat.le_of_ble_eq_true rfl) (by decide) (c_X9_noRing hI (by omega)) (fun r1 F2 A3 h4 => ?_)
  obtain ⟨z7, e6, e8, e9, x5⟩ := h4
  subst e6 e8 e9
  show sA _ _ _ 5 _ [gs_iv z7] _ _
  refine sA_if_eq (tgt := 12) dd_X9_at_5 (by decide) (by omega) (fun q10 => ?_) (fun q10 => ?_)
  · skip
    refine sA_iload_n dd_X9_at_12 rfl (.tail _ (.tail _ (.head _))) ?_
    refine sA_i2l dd_X9_at_13 (by omega) ?_
    refine sA_lconst (z := 0) dd_X9_at_14 (by decide) ?_
    refine sA_aload_n dd_X9_at_15 rfl (.head _) ?_
    refine sA_getr (ci := 9) (j := 4) (q := (RX9, TX9, 28)) dd_X9_at_16 rfl (by decide) fl_X9_13 (by decide) gs_s106 rfl ?_
    refine sA_iload_n dd_X9_at_19 rfl (.tail _ (.head _)) ?_
    refine sA_iald (n := 12) dd_X9_at_20 (by decide) gs_s108 (by omega) (by decide) ?_
    have b11 : (0 : Int) ≤ A 108 r.toNat ∧ A 108 r.toNat ≤ 60 := hI.2 108 r.toNat
    refine sA_iconst (z := 1) dd_X9_at_21 ?_
    refine sA_isub dd_X9_at_22 ?_
    refine sA_i2l dd_X9_at_23 (by omega) ?_
    refine sA_callS (y2 := m_X9_in) (n2 := 3) (d2 := 1) (as := [gs_lv i, gs_lv 0, gs_lv ((A 108 r.toNat) - 1)]) (rest := []) dd_X9_at_24 ok_X9_in ml_X9_75 rfl rfl (Nat.le_of_ble_eq_true rfl) (by decide) (c_X9_in (by omega) (by omega) (by omega)) (fun r12 F13 A14 h15 => ?_)
    obtain ⟨z18, e17, e19, e20, x16⟩ := h15
    subst e17 e19 e20
    show sA _ _ _ 27 _ [gs_iv z18] _ _
    refine sA_if_eq (tgt := 44) dd_X9_at_27 (by decide) (by omega) (fun q21 => ?_) (fun q21 => ?_)
    · skip
      refine sA_iconst (z := (-1)) dd_X9_at_44 ?_
      refine sA_iret (z := -1) dd_X9_at_45 rfl ?_
      exact ⟨_, rfl, rfl, rfl, trivial⟩
    · skip
      refine sA_aload_n dd_X9_at_30 rfl (.head _) ?_
      refine sA_getr (ci := 9) (j := 5) (q := (RX9, TX9, 28)) dd_X9_at_31 rfl (by decide) fl_X9_16 (by decide) gs_s106 rfl ?_
      refine sA_bipush (z := 60) dd_X9_at_34 (by decide) ?_
      refine sA_iload_n dd_X9_at_36 rfl (.tail _ (.head _)) ?_
      refine sA_imul dd_X9_at_37 ?_
      refine sA_iload_n dd_X9_at_38 rfl (.tail _ (.tail _ (.head _))) ?_
      refine sA_iadd dd_X9_at_39 ?_
      refine sA_iald (n := 720) dd_X9_at_40 (by decide) gs_s109 (by omega) (by decide) ?_
      have b22 : (-9 : Int) ≤ A 109 ((60 * r) + i).toNat ∧ A 109 ((60 * r) + i).toNat ≤ 9 := hI.2 109 ((60 * r) + i).toNat
      refine sA_goto (tgt := 45) dd_X9_at_41 (by decide) ?_
      refine sA_iret (z := A 109 ((60 * r) + i).toNat) dd_X9_at_45 rfl ?_
      exact ⟨_, rfl, rfl, rfl, trivial⟩
  · skip
    refine sA_sipush (z := (-1001)) dd_X9_at_8 (by decide) ?_
    refine sA_iret (z := -1001) dd_X9_at_11 rfl ?_
    exact ⟨_, rfl, rfl, rfl, trivial⟩
end
