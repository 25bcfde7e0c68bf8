noncomputable section
theorem dd_X8_image_0 : decode cX8_image 0 = .ok (.iload_n 1, 1) := by decide +kernel
theorem dd_X8_image_1 : decode cX8_image 1 = .ok (.invokestatic 148, 3) := by decide +kernel
theorem dd_X8_image_4 : decode cX8_image 4 = .ok (.ifCond .ne 7, 3) := by decide +kernel
theorem dd_X8_image_7 : decode cX8_image 7 = .ok (.sipush (-1001), 3) := by decide +kernel
theorem dd_X8_image_10 : decode cX8_image 10 = .ok (.ireturn, 1) := by decide +kernel
theorem dd_X8_image_11 : decode cX8_image 11 = .ok (.aload_n 0, 1) := by decide +kernel
theorem dd_X8_image_12 : decode cX8_image 12 = .ok (.iload_n 2, 1) := by decide +kernel
theorem dd_X8_image_13 : decode cX8_image 13 = .ok (.invokevirtual 175, 3) := by decide +kernel
theorem dd_X8_image_16 : decode cX8_image 16 = .ok (.ifCond .ne 7, 3) := by decide +kernel
theorem dd_X8_image_19 : decode cX8_image 19 = .ok (.sipush (-1002), 3) := by decide +kernel
theorem dd_X8_image_22 : decode cX8_image 22 = .ok (.ireturn, 1) := by decide +kernel
theorem dd_X8_image_23 : decode cX8_image 23 = .ok (.aload_n 0, 1) := by decide +kernel
theorem dd_X8_image_24 : decode cX8_image 24 = .ok (.getfield 69, 3) := by decide +kernel
theorem dd_X8_image_27 : decode cX8_image 27 = .ok (.iload_n 2, 1) := by decide +kernel
theorem dd_X8_image_28 : decode cX8_image 28 = .ok (.invokevirtual 178, 3) := by decide +kernel
theorem dd_X8_image_31 : decode cX8_image 31 = .ok (.aload_n 0, 1) := by decide +kernel
theorem dd_X8_image_32 : decode cX8_image 32 = .ok (.getfield 33, 3) := by decide +kernel
theorem dd_X8_image_35 : decode cX8_image 35 = .ok (.aload_n 0, 1) := by decide +kernel
theorem dd_X8_image_36 : decode cX8_image 36 = .ok (.getfield 17, 3) := by decide +kernel
theorem dd_X8_image_39 : decode cX8_image 39 = .ok (.iload_n 1, 1) := by decide +kernel
theorem dd_X8_image_40 : decode cX8_image 40 = .ok (.aaload, 1) := by decide +kernel
theorem dd_X8_image_41 : decode cX8_image 41 = .ok (.aload_n 0, 1) := by decide +kernel
theorem dd_X8_image_42 : decode cX8_image 42 = .ok (.getfield 69, 3) := by decide +kernel
theorem dd_X8_image_45 : decode cX8_image 45 = .ok (.invokevirtual 181, 3) := by decide +kernel
theorem dd_X8_image_48 : decode cX8_image 48 = .ok (.ifCond .ne 7, 3) := by decide +kernel
theorem dd_X8_image_51 : decode cX8_image 51 = .ok (.sipush (-1005), 3) := by decide +kernel
theorem dd_X8_image_54 : decode cX8_image 54 = .ok (.ireturn, 1) := by decide +kernel
theorem dd_X8_image_55 : decode cX8_image 55 = .ok (.iload_n 3, 1) := by decide +kernel
theorem dd_X8_image_56 : decode cX8_image 56 = .ok (.iconst (-1), 1) := by decide +kernel
theorem dd_X8_image_57 : decode cX8_image 57 = .ok (.if_icmp .ne 11, 3) := by decide +kernel
theorem dd_X8_image_60 : decode cX8_image 60 = .ok (.aload_n 0, 1) := by decide +kernel
theorem dd_X8_image_61 : decode cX8_image 61 = .ok (.getfield 69, 3) := by decide +kernel
theorem dd_X8_image_64 : decode cX8_image 64 = .ok (.getfield 88, 3) := by decide +kernel
theorem dd_X8_image_67 : decode cX8_image 67 = .ok (.ireturn, 1) := by decide +kernel
theorem dd_X8_image_68 : decode cX8_image 68 = .ok (.iload_n 3, 1) := by decide +kernel
theorem dd_X8_image_69 : decode cX8_image 69 = .ok (.ifCond .lt 26, 3) := by decide +kernel
theorem dd_X8_image_72 : decode cX8_image 72 = .ok (.iload_n 3, 1) := by decide +kernel
theorem dd_X8_image_73 : decode cX8_image 73 = .ok (.aload_n 0, 1) := by decide +kernel
theorem dd_X8_image_74 : decode cX8_image 74 = .ok (.getfield 69, 3) := by decide +kernel
theorem dd_X8_image_77 : decode cX8_image 77 = .ok (.getfield 88, 3) := by decide +kernel
theorem dd_X8_image_80 : decode cX8_image 80 = .ok (.if_icmp .ge 15, 3) := by decide +kernel
theorem dd_X8_image_83 : decode cX8_image 83 = .ok (.aload_n 0, 1) := by decide +kernel
theorem dd_X8_image_84 : decode cX8_image 84 = .ok (.getfield 69, 3) := by decide +kernel
theorem dd_X8_image_87 : decode cX8_image 87 = .ok (.getfield 123, 3) := by decide +kernel
theorem dd_X8_image_90 : decode cX8_image 90 = .ok (.iload_n 3, 1) := by decide +kernel
theorem dd_X8_image_91 : decode cX8_image 91 = .ok (.iaload, 1) := by decide +kernel
theorem dd_X8_image_92 : decode cX8_image 92 = .ok (.goto 4, 3) := by decide +kernel
theorem dd_X8_image_95 : decode cX8_image 95 = .ok (.iconst 0, 1) := by decide +kernel
theorem dd_X8_image_96 : decode cX8_image 96 = .ok (.ireturn, 1) := by decide +kernel
theorem fl_X8_69 : Cond.fieldLink RX8 69 (TX8 8).1 (TX8 8).2.1 (TX8 8).2.2.1 ∈ am_tbl := ri_lw_in (pl := 359) (by decide +kernel)
theorem ml_X8_175 : Cond.methodLink RX8 175 m_X8_isLetter.1 ∈ am_tbl := ri_lw_in (pl := 588) (by decide +kernel)
theorem ml_X8_178 : Cond.methodLink RX8 178 m_X4_becomeLetter.1 ∈ am_tbl := ri_lw_in (pl := 592) (by decide +kernel)
theorem ml_X8_181 : Cond.methodLink RX8 181 m_X7_doPlan.1 ∈ am_tbl := ri_lw_in (pl := 596) (by decide +kernel)
theorem ok_X8_image : am_okM m_X8_image 3 ∧ Cond.instanceMethod m_X8_image.1 ∈ am_tbl ∧ Cond.selects m_X8_image.1.cls m_X8_image.1 m_X8_image.1 ∈ am_tbl := ri_mk1 587 82 585 586 (by decide +kernel)
theorem c_X8_image {p x i : Int} {F A : gs_F} (hI : gs_I F A) (hp : -2147483648 ≤ p ∧ p ≤ 2147483647) (hx : -2147483648 ≤ x ∧ x ≤ 2147483647) (hi : -2147483648 ≤ i ∧ i ≤ 2147483647) : sC m_X8_image 4 [.ref 0, gs_iv p, gs_iv x, gs_iv i] F A (fun rv F' A' => ∃ z : Int, rv = some (gs_iv z) ∧ gs_I F' A' ∧ gs_fr (fun c j => c = 48 ∧ j = 1) (fun c => c = 49 ∨ c = 7) F A F' A' ∧ (True)) := by
  refine sC_of ok_X8_image.1 (Nat.le_of_ble_eq_true rfl) ?_
  show sA _ _ _ 0 [(0, .ref 0), (1, gs_iv p), (2, gs_iv x), (3, gs_iv i)] [] F A
  have hf : gs_fr (fun c j => c = 48 ∧ j = 1) (fun c => c = 49 ∨ c = 7) F A F A := gs_fr_refl _ _ _ _
  refine sA_iload_n dd_X8_image_0 rfl (.tail _ (.head _)) ?_
  refine sA_callS (y2 := m_X8_isPlan) (n2 := 1) (d2 := 1) (as := [gs_iv p]) (rest := []) dd_X8_image_1 ok_X8_isPlan ml_X8_148 rfl rfl (Nat.le_of_ble_eq_true rfl) (by decide) (c_X8_isPlan (by omega)) (fun r1 F2 A3 h4 => ?_)
  obtain ⟨z7, e6, e8, e9, x5⟩ := h4
  subst e6 e8 e9
  show sA _ _ _ 4 _ [gs_iv z7] _ _
  refine sA_if_ne (tgt := 11) dd_X8_image_4 (by decide) (by omega) (fun q10 => ?_) (fun q10 => ?_)
  · skip
    refine sA_aload_n dd_X8_image_11 rfl (.head _) ?_
    refine sA_iload_n dd_X8_image_12 rfl (.tail _ (.tail _ (.head _))) ?_
    refine sA_callV (y2 := m_X8_isLetter) (n2 := 1) (d2 := 1) (a := 0) (ci := 8) (q := (RX8, TX8, 13)) (as := [gs_iv x]) (rest := []) dd_X8_image_13 ok_X8_isLetter ml_X8_175 rfl rfl (by decide) gs_s0 rfl rfl (Nat.le_of_ble_eq_true rfl) (by decide) (c_X8_isLetter hI (by omega)) (fun r11 F12 A13 h14 => ?_)
    obtain ⟨z17, e16, e18, e19, x15⟩ := h14
    subst e16 e18 e19
    show sA _ _ _ 16 _ [gs_iv z17] _ _
    refine sA_if_ne (tgt := 23) dd_X8_image_16 (by decide) (by omega) (fun q20 => ?_) (fun q20 => ?_)
    · skip
      refine sA_aload_n dd_X8_image_23 rfl (.head _) ?_
      refine sA_getr (ci := 8) (j := 8) (q := (RX8, TX8, 13)) dd_X8_image_24 rfl (by decide) fl_X8_69 (by decide) gs_s0 rfl ?_
      refine sA_iload_n dd_X8_image_27 rfl (.tail _ (.tail _ (.head _))) ?_
      refine sA_callV (y2 := m_X4_becomeLetter) (n2 := 1) (d2 := 1) (a := 48) (ci := 4) (q := (RX4, TX4, 2)) (as := [gs_iv x]) (rest := []) dd_X8_image_28 ok_X4_becomeLetter ml_X8_178 rfl rfl (Nat.lt_of_succ_lt gs_row_48.1) gs_row_48.2.1 rfl rfl (Nat.le_of_ble_eq_true rfl) (by decide) (c_X4_becomeLetter hI gs_row_48 (by omega)) (fun r21 F22 A23 h24 => ?_)
      obtain ⟨e26, I27, f28, x25⟩ := h24
      subst e26
      have f29 := gs_fr_tr hf f28 (fun b j h => by first | exact False.elim h | omega | (dsimp only at h ⊢; omega)) (fun b h => by first | exact False.elim h | omega | (dsimp only at h ⊢; omega))
      show sA _ _ _ 31 _ [] _ _
      refine sA_aload_n dd_X8_image_31 rfl (.head _) ?_
      refine sA_getr (ci := 8) (j := 3) (q := (RX8, TX8, 13)) dd_X8_image_32 rfl (by decide) fl_X8_33 (by decide) gs_s0 rfl ?_
      refine sA_aload_n dd_X8_image_35 rfl (.head _) ?_
      refine sA_getr (ci := 8) (j := 1) (q := (RX8, TX8, 13)) dd_X8_image_36 rfl (by decide) fl_X8_17 (by decide) gs_s0 rfl ?_
      refine sA_iload_n dd_X8_image_39 rfl (.tail _ (.head _)) ?_
      refine sA_aald (n := 8) dd_X8_image_40 (by decide) (by decide) (by decide) gs_s2 (by omega) (by decide) ?_
      have g30 := gs_plan_at (k := p.toNat) (by omega)
      refine sA_aload_n dd_X8_image_41 rfl (.head _) ?_
      refine sA_getr (ci := 8) (j := 8) (q := (RX8, TX8, 13)) dd_X8_image_42 rfl (by decide) fl_X8_69 (by decide) gs_s0 rfl ?_
      refine sA_callV (y2 := m_X7_doPlan) (n2 := 2) (d2 := 3) (a := 5) (ci := 7) (q := (RX7, TX7, 5)) (as := [.ref (90 + 2 * p.toNat), .ref 48]) (rest := []) dd_X8_image_45 ok_X7_doPlan ml_X8_181 rfl rfl (by decide) gs_s5 rfl rfl (Nat.le_of_ble_eq_true rfl) (by decide) (c_X7_doPlan I27 g30 gs_row_48) (fun r31 F32 A33 h34 => ?_)
      obtain ⟨z37, e36, I38, f39, x35⟩ := h34
      subst e36
      have f40 := gs_fr_tr f29 f39 (fun b j h => by first | exact False.elim h | omega | (dsimp only at h ⊢; omega)) (fun b h => by first | exact False.elim h | omega | (dsimp only at h ⊢; omega))
      show sA _ _ _ 48 _ [gs_iv z37] _ _
      refine sA_if_ne (tgt := 55) dd_X8_image_48 (by decide) (by omega) (fun q41 => ?_) (fun q41 => ?_)
      · skip
        refine sA_iload_n dd_X8_image_55 rfl (.tail _ (.tail _ (.tail _ (.head _)))) ?_
        refine sA_iconst (z := (-1)) dd_X8_image_56 ?_
        refine sA_icmp_ne (tgt := 68) dd_X8_image_57 (by decide) (by omega) (by omega) (fun q42 => ?_) (fun q42 => ?_)
        · skip
          refine sA_iload_n dd_X8_image_68 rfl (.tail _ (.tail _ (.tail _ (.head _)))) ?_
          refine sA_if_lt (tgt := 95) dd_X8_image_69 (by decide) (by omega) (fun q43 => ?_) (fun q43 => ?_)
          · skip
            refine sA_iconst (z := 0) dd_X8_image_95 ?_
            refine sA_iret (z := 0) dd_X8_image_96 rfl ?_
            exact ⟨_, rfl, I38, f40, trivial⟩
          · skip
            refine sA_iload_n dd_X8_image_72 rfl (.tail _ (.tail _ (.tail _ (.head _)))) ?_
            refine sA_aload_n dd_X8_image_73 rfl (.head _) ?_
            refine sA_getr (ci := 8) (j := 8) (q := (RX8, TX8, 13)) dd_X8_image_74 rfl (by decide) fl_X8_69 (by decide) gs_s0 rfl ?_
            refine sA_geti (ci := 4) (j := 1) (q := (RX4, TX4, 2)) dd_X8_image_77 rfl (by decide) fl_X8_88 (Nat.lt_of_succ_lt gs_row_48.1) gs_row_48.2.1 rfl ?_
            have b44 := gs_row_sz gs_row_48 I38
            refine sA_icmp_ge (tgt := 95) dd_X8_image_80 (by decide) (by omega) (by omega) (fun q45 => ?_) (fun q45 => ?_)
            · skip
              refine sA_iconst (z := 0) dd_X8_image_95 ?_
              refine sA_iret (z := 0) dd_X8_image_96 rfl ?_
              exact ⟨_, rfl, I38, f40, trivial⟩
            · skip
              refine sA_aload_n dd_X8_image_83 rfl (.head _) ?_
              refine sA_getr (ci := 8) (j := 8) (q := (RX8, TX8, 13)) dd_X8_image_84 rfl (by decide) fl_X8_69 (by decide) gs_s0 rfl ?_
              refine sA_getr (ci := 4) (j := 0) (q := (RX4, TX4, 2)) dd_X8_image_87 rfl (by decide) fl_X8_123 (Nat.lt_of_succ_lt gs_row_48.1) gs_row_48.2.1 rfl ?_
              refine sA_iload_n dd_X8_image_90 rfl (.tail _ (.tail _ (.tail _ (.head _)))) ?_
              refine sA_iald (n := 400) dd_X8_image_91 gs_row_48.1 gs_row_48.2.2.1 (by omega) (Nat.le_trans gs_row_48.2.2.2.2.2.2 (by decide)) ?_
              have b46 := gs_row_el gs_row_48 I38 i.toNat
              refine sA_goto (tgt := 96) dd_X8_image_92 (by decide) ?_
              refine sA_iret (z := A33 (48 + 1) i.toNat) dd_X8_image_96 rfl ?_
              exact ⟨_, rfl, I38, f40, trivial⟩
        · skip
          refine sA_aload_n dd_X8_image_60 rfl (.head _) ?_
          refine sA_getr (ci := 8) (j := 8) (q := (RX8, TX8, 13)) dd_X8_image_61 rfl (by decide) fl_X8_69 (by decide) gs_s0 rfl ?_
          refine sA_geti (ci := 4) (j := 1) (q := (RX4, TX4, 2)) dd_X8_image_64 rfl (by decide) fl_X8_88 (Nat.lt_of_succ_lt gs_row_48.1) gs_row_48.2.1 rfl ?_
          have b47 := gs_row_sz gs_row_48 I38
          refine sA_iret (z := F32 48 1) dd_X8_image_67 rfl ?_
          exact ⟨_, rfl, I38, f40, trivial⟩
      · skip
        refine sA_sipush (z := (-1005)) dd_X8_image_51 (by decide) ?_
        refine sA_iret (z := -1005) dd_X8_image_54 rfl ?_
        exact ⟨_, rfl, I38, f40, trivial⟩
    · skip
      refine sA_sipush (z := (-1002)) dd_X8_image_19 (by decide) ?_
      refine sA_iret (z := -1002) dd_X8_image_22 rfl ?_
      exact ⟨_, rfl, hI, hf, trivial⟩
  · skip
    refine sA_sipush (z := (-1001)) dd_X8_image_7 (by decide) ?_
    refine sA_iret (z := -1001) dd_X8_image_10 rfl ?_
    exact ⟨_, rfl, hI, hf, trivial⟩
theorem dd_X8_carryToWork_0 : decode cX8_carryToWork 0 = .ok (.aload_n 0, 1) := by decide +kernel
theorem dd_X8_carryToWork_1 : decode cX8_carryToWork 1 = .ok (.getfield 69, 3) := by decide +kernel
theorem dd_X8_carryToWork_4 : decode cX8_carryToWork 4 = .ok (.aload_n 0, 1) := by decide +kernel
theorem dd_X8_carryToWork_5 : decode cX8_carryToWork 5 = .ok (.getfield 11, 3) := by decide +kernel
theorem dd_X8_carryToWork_8 : decode cX8_carryToWork 8 = .ok (.iload_n 2, 1) := by decide +kernel
theorem dd_X8_carryToWork_9 : decode cX8_carryToWork 9 = .ok (.aaload, 1) := by decide +kernel
theorem dd_X8_carryToWork_10 : decode cX8_carryToWork 10 = .ok (.getfield 105, 3) := by decide +kernel
theorem dd_X8_carryToWork_13 : decode cX8_carryToWork 13 = .ok (.invokevirtual 240, 3) := by decide +kernel
theorem dd_X8_carryToWork_16 : decode cX8_carryToWork 16 = .ok (.aload_n 0, 1) := by decide +kernel
theorem dd_X8_carryToWork_17 : decode cX8_carryToWork 17 = .ok (.getfield 33, 3) := by decide +kernel
theorem dd_X8_carryToWork_20 : decode cX8_carryToWork 20 = .ok (.aload_n 0, 1) := by decide +kernel
theorem dd_X8_carryToWork_21 : decode cX8_carryToWork 21 = .ok (.getfield 17, 3) := by decide +kernel
theorem dd_X8_carryToWork_24 : decode cX8_carryToWork 24 = .ok (.iload_n 1, 1) := by decide +kernel
theorem dd_X8_carryToWork_25 : decode cX8_carryToWork 25 = .ok (.aaload, 1) := by decide +kernel
theorem dd_X8_carryToWork_26 : decode cX8_carryToWork 26 = .ok (.aload_n 0, 1) := by decide +kernel
theorem dd_X8_carryToWork_27 : decode cX8_carryToWork 27 = .ok (.getfield 69, 3) := by decide +kernel
theorem dd_X8_carryToWork_30 : decode cX8_carryToWork 30 = .ok (.invokevirtual 181, 3) := by decide +kernel
theorem dd_X8_carryToWork_33 : decode cX8_carryToWork 33 = .ok (.ifCond .ne 5, 3) := by decide +kernel
theorem dd_X8_carryToWork_36 : decode cX8_carryToWork 36 = .ok (.iconst 0, 1) := by decide +kernel
theorem dd_X8_carryToWork_37 : decode cX8_carryToWork 37 = .ok (.ireturn, 1) := by decide +kernel
theorem dd_X8_carryToWork_38 : decode cX8_carryToWork 38 = .ok (.aload_n 0, 1) := by decide +kernel
theorem dd_X8_carryToWork_39 : decode cX8_carryToWork 39 = .ok (.getfield 69, 3) := by decide +kernel
theorem dd_X8_carryToWork_42 : decode cX8_carryToWork 42 = .ok (.invokevirtual 243, 3) := by decide +kernel
theorem dd_X8_carryToWork_45 : decode cX8_carryToWork 45 = .ok (.iconst 1, 1) := by decide +kernel
theorem dd_X8_carryToWork_46 : decode cX8_carryToWork 46 = .ok (.ireturn, 1) := by decide +kernel
theorem ml_X8_240 : Cond.methodLink RX8 240 m_X4_copy.1 ∈ am_tbl := ri_lw_in (pl := 612) (by decide +kernel)
theorem ml_X8_243 : Cond.methodLink RX8 243 m_X4_close.1 ∈ am_tbl := ri_lw_in (pl := 613) (by decide +kernel)
theorem ok_X8_carryToWork : am_okM m_X8_carryToWork 2 ∧ Cond.instanceMethod m_X8_carryToWork.1 ∈ am_tbl ∧ Cond.selects m_X8_carryToWork.1.cls m_X8_carryToWork.1 m_X8_carryToWork.1 ∈ am_tbl := ri_mk1 611 82 610 18 (by decide +kernel)
theorem c_X8_carryToWork {p r : Int} {F A : gs_F} (hI : gs_I F A) (hp : 0 ≤ p ∧ p ≤ 7) (hr : 0 ≤ r ∧ r < 12) : sC m_X8_carryToWork 4 [.ref 0, gs_iv p, gs_iv r] F A (fun rv F' A' => ∃ z : Int, rv = some (gs_iv z) ∧ gs_I F' A' ∧ gs_fr (fun c j => c = 48 ∧ j = 1) (fun c => c = 49 ∨ c = 7) F A F' A' ∧ (z = 0 ∨ z = 1)) := by
  refine sC_of ok_X8_carryToWork.1 (Nat.le_of_ble_eq_true rfl) ?_
  show sA _ _ _ 0 [(0, .ref 0), (1, gs_iv p), (2, gs_iv r)] [] F A
  have hf : gs_fr (fun c j => c = 48 ∧ j = 1) (fun c => c = 49 ∨ c = 7) F A F A := gs_fr_refl _ _ _ _
  refine sA_aload_n dd_X8_carryToWork_0 rfl (.head _) ?_
  refine sA_getr (ci := 8) (j := 8) (q := (RX8, TX8, 13)) dd_X8_carryToWork_1 rfl (by decide) fl_X8_69 (by decide) gs_s0 rfl ?_
  refine sA_aload_n dd_X8_carryToWork_4 rfl (.head _) ?_
  refine sA_getr (ci := 8) (j := 0) (q := (RX8, TX8, 13)) dd_X8_carryToWork_5 rfl (by decide) fl_X8_11 (by decide) gs_s0 rfl ?_
  refine sA_iload_n dd_X8_carryToWork_8 rfl (.tail _ (.tail _ (.head _))) ?_
  refine sA_aald (n := 12) dd_X8_carryToWork_9 (by decide) (by decide) (by decide) gs_s1 (by omega) (by decide) ?_
  have g1 := gs_ring_at (k := r.toNat) (by omega)
  refine sA_getr (ci := 3) (j := 0) (q := (RX3, TX3, 3)) dd_X8_carryToWork_10 rfl (by decide) fl_X8_105 (Nat.lt_of_succ_lt g1.1) g1.2.1 rfl ?_
  refine sA_callV (y2 := m_X4_copy) (n2 := 1) (d2 := 1) (a := 48) (ci := 4) (q := (RX4, TX4, 2)) (as := [.ref (54 + 3 * r.toNat + 1)]) (rest := []) dd_X8_carryToWork_13 ok_X4_copy ml_X8_240 rfl rfl (Nat.lt_of_succ_lt gs_row_48.1) gs_row_48.2.1 rfl rfl (Nat.le_of_ble_eq_true rfl) (by decide) (c_X4_copy hI gs_row_48 g1.2.2.1) (fun r2 F3 A4 h5 => ?_)
  obtain ⟨e7, I8, f9, x6⟩ := h5
  subst e7
  have f10 := gs_fr_tr hf f9 (fun b j h => by first | exact False.elim h | omega | (dsimp only at h ⊢; omega)) (fun b h => by first | exact False.elim h | omega | (dsimp only at h ⊢; omega))
  show sA _ _ _ 16 _ [] _ _
  refine sA_aload_n dd_X8_carryToWork_16 rfl (.head _) ?_
  refine sA_getr (ci := 8) (j := 3) (q := (RX8, TX8, 13)) dd_X8_carryToWork_17 rfl (by decide) fl_X8_33 (by decide) gs_s0 rfl ?_
  refine sA_aload_n dd_X8_carryToWork_20 rfl (.head _) ?_
  refine sA_getr (ci := 8) (j := 1) (q := (RX8, TX8, 13)) dd_X8_carryToWork_21 rfl (by decide) fl_X8_17 (by decide) gs_s0 rfl ?_
  refine sA_iload_n dd_X8_carryToWork_24 rfl (.tail _ (.head _)) ?_
  refine sA_aald (n := 8) dd_X8_carryToWork_25 (by decide) (by decide) (by decide) gs_s2 (by omega) (by decide) ?_
  have g11 := gs_plan_at (k := p.toNat) (by omega)
  refine sA_aload_n dd_X8_carryToWork_26 rfl (.head _) ?_
  refine sA_getr (ci := 8) (j := 8) (q := (RX8, TX8, 13)) dd_X8_carryToWork_27 rfl (by decide) fl_X8_69 (by decide) gs_s0 rfl ?_
  refine sA_callV (y2 := m_X7_doPlan) (n2 := 2) (d2 := 3) (a := 5) (ci := 7) (q := (RX7, TX7, 5)) (as := [.ref (90 + 2 * p.toNat), .ref 48]) (rest := []) dd_X8_carryToWork_30 ok_X7_doPlan ml_X8_181 rfl rfl (by decide) gs_s5 rfl rfl (Nat.le_of_ble_eq_true rfl) (by decide) (c_X7_doPlan I8 g11 gs_row_48) (fun r12 F13 A14 h15 => ?_)
  obtain ⟨z18, e17, I19, f20, x16⟩ := h15
  subst e17
  have f21 := gs_fr_tr f10 f20 (fun b j h => by first | exact False.elim h | omega | (dsimp only at h ⊢; omega)) (fun b h => by first | exact False.elim h | omega | (dsimp only at h ⊢; omega))
  show sA _ _ _ 33 _ [gs_iv z18] _ _
  refine sA_if_ne (tgt := 38) dd_X8_carryToWork_33 (by decide) (by omega) (fun q22 => ?_) (fun q22 => ?_)
  · skip
    refine sA_aload_n dd_X8_carryToWork_38 rfl (.head _) ?_
    refine sA_getr (ci := 8) (j := 8) (q := (RX8, TX8, 13)) dd_X8_carryToWork_39 rfl (by decide) fl_X8_69 (by decide) gs_s0 rfl ?_
    refine sA_callV (y2 := m_X4_close) (n2 := 0) (d2 := 2) (a := 48) (ci := 4) (q := (RX4, TX4, 2)) (as := []) (rest := []) dd_X8_carryToWork_42 ok_X4_close ml_X8_243 rfl rfl (Nat.lt_of_succ_lt gs_row_48.1) gs_row_48.2.1 rfl rfl (Nat.le_of_ble_eq_true rfl) (by decide) (c_X4_close I19 gs_row_48) (fun r23 F24 A25 h26 => ?_)
    obtain ⟨e28, I29, f30, x27⟩ := h26
    subst e28
    have f31 := gs_fr_tr f21 f30 (fun b j h => by first | exact False.elim h | omega | (dsimp only at h ⊢; omega)) (fun b h => by first | exact False.elim h | omega | (dsimp only at h ⊢; omega))
    show sA _ _ _ 45 _ [] _ _
    refine sA_iconst (z := 1) dd_X8_carryToWork_45 ?_
    refine sA_bret (z := 1) dd_X8_carryToWork_46 rfl (by omega) ?_
    exact ⟨_, rfl, I29, f31, by omega⟩
  · skip
    refine sA_iconst (z := 0) dd_X8_carryToWork_36 ?_
    refine sA_bret (z := 0) dd_X8_carryToWork_37 rfl (by omega) ?_
    exact ⟨_, rfl, I19, f21, by omega⟩
theorem dd_X8_carried_0 : decode cX8_carried 0 = .ok (.iload_n 1, 1) := by decide +kernel
theorem dd_X8_carried_1 : decode cX8_carried 1 = .ok (.invokestatic 148, 3) := by decide +kernel
theorem dd_X8_carried_4 : decode cX8_carried 4 = .ok (.ifCond .eq 24, 3) := by decide +kernel
theorem dd_X8_carried_7 : decode cX8_carried 7 = .ok (.aload_n 0, 1) := by decide +kernel
theorem dd_X8_carried_8 : decode cX8_carried 8 = .ok (.iload_n 2, 1) := by decide +kernel
theorem dd_X8_carried_9 : decode cX8_carried 9 = .ok (.invokevirtual 101, 3) := by decide +kernel
theorem dd_X8_carried_12 : decode cX8_carried 12 = .ok (.ifCond .eq 16, 3) := by decide +kernel
theorem dd_X8_carried_15 : decode cX8_carried 15 = .ok (.iload_n 3, 1) := by decide +kernel
theorem dd_X8_carried_16 : decode cX8_carried 16 = .ok (.iconst (-1), 1) := by decide +kernel
theorem dd_X8_carried_17 : decode cX8_carried 17 = .ok (.if_icmp .eq 15, 3) := by decide +kernel
theorem dd_X8_carried_20 : decode cX8_carried 20 = .ok (.aload_n 0, 1) := by decide +kernel
theorem dd_X8_carried_21 : decode cX8_carried 21 = .ok (.iload_n 3, 1) := by decide +kernel
theorem dd_X8_carried_22 : decode cX8_carried 22 = .ok (.invokevirtual 101, 3) := by decide +kernel
theorem dd_X8_carried_25 : decode cX8_carried 25 = .ok (.ifCond .ne 7, 3) := by decide +kernel
theorem dd_X8_carried_28 : decode cX8_carried 28 = .ok (.sipush (-1001), 3) := by decide +kernel
theorem dd_X8_carried_31 : decode cX8_carried 31 = .ok (.ireturn, 1) := by decide +kernel
theorem dd_X8_carried_32 : decode cX8_carried 32 = .ok (.aload_n 0, 1) := by decide +kernel
theorem dd_X8_carried_33 : decode cX8_carried 33 = .ok (.iload_n 1, 1) := by decide +kernel
theorem dd_X8_carried_34 : decode cX8_carried 34 = .ok (.iload_n 2, 1) := by decide +kernel
theorem dd_X8_carried_35 : decode cX8_carried 35 = .ok (.invokevirtual 185, 3) := by decide +kernel
theorem dd_X8_carried_38 : decode cX8_carried 38 = .ok (.ifCond .ne 7, 3) := by decide +kernel
theorem dd_X8_carried_41 : decode cX8_carried 41 = .ok (.sipush (-1005), 3) := by decide +kernel
theorem dd_X8_carried_44 : decode cX8_carried 44 = .ok (.ireturn, 1) := by decide +kernel
theorem dd_X8_carried_45 : decode cX8_carried 45 = .ok (.iload_n 3, 1) := by decide +kernel
theorem dd_X8_carried_46 : decode cX8_carried 46 = .ok (.iconst (-1), 1) := by decide +kernel
theorem dd_X8_carried_47 : decode cX8_carried 47 = .ok (.if_icmp .ne 13, 3) := by decide +kernel
theorem dd_X8_carried_50 : decode cX8_carried 50 = .ok (.aload_n 0, 1) := by decide +kernel
theorem dd_X8_carried_51 : decode cX8_carried 51 = .ok (.getfield 69, 3) := by decide +kernel
theorem dd_X8_carried_54 : decode cX8_carried 54 = .ok (.getfield 88, 3) := by decide +kernel
theorem dd_X8_carried_57 : decode cX8_carried 57 = .ok (.goto 22, 3) := by decide +kernel
theorem dd_X8_carried_60 : decode cX8_carried 60 = .ok (.aload_n 0, 1) := by decide +kernel
theorem dd_X8_carried_61 : decode cX8_carried 61 = .ok (.getfield 69, 3) := by decide +kernel
theorem dd_X8_carried_64 : decode cX8_carried 64 = .ok (.aload_n 0, 1) := by decide +kernel
theorem dd_X8_carried_65 : decode cX8_carried 65 = .ok (.getfield 11, 3) := by decide +kernel
theorem dd_X8_carried_68 : decode cX8_carried 68 = .ok (.iload_n 3, 1) := by decide +kernel
theorem dd_X8_carried_69 : decode cX8_carried 69 = .ok (.aaload, 1) := by decide +kernel
theorem dd_X8_carried_70 : decode cX8_carried 70 = .ok (.getfield 105, 3) := by decide +kernel
theorem dd_X8_carried_73 : decode cX8_carried 73 = .ok (.invokevirtual 131, 3) := by decide +kernel
theorem dd_X8_carried_76 : decode cX8_carried 76 = .ok (.invokestatic 112, 3) := by decide +kernel
theorem dd_X8_carried_79 : decode cX8_carried 79 = .ok (.ireturn, 1) := by decide +kernel
theorem ml_X8_185 : Cond.methodLink RX8 185 m_X8_carryToWork.1 ∈ am_tbl := ri_lw_in (pl := 608) (by decide +kernel)
theorem ok_X8_carried : am_okM m_X8_carried 3 ∧ Cond.instanceMethod m_X8_carried.1 ∈ am_tbl ∧ Cond.selects m_X8_carried.1.cls m_X8_carried.1 m_X8_carried.1 ∈ am_tbl := ri_mk1 607 82 605 606 (by decide +kernel)
theorem c_X8_carried {p r w : Int} {F A : gs_F} (hI : gs_I F A) (hp : -2147483648 ≤ p ∧ p ≤ 2147483647) (hr : -2147483648 ≤ r ∧ r ≤ 2147483647) (hw : -2147483648 ≤ w ∧ w ≤ 2147483647) : sC m_X8_carried 5 [.ref 0, gs_iv p, gs_iv r, gs_iv w] F A (fun rv F' A' => ∃ z : Int, rv = some (gs_iv z) ∧ gs_I F' A' ∧ gs_fr (fun c j => c = 48 ∧ j = 1) (fun c => c = 49 ∨ c = 7) F A F' A' ∧ (True)) := by
  refine sC_of ok_X8_carried.1 (Nat.le_of_ble_eq_true rfl) ?_
  show sA _ _ _ 0 [(0, .ref 0), (1, gs_iv p), (2, gs_iv r), (3, gs_iv w)] [] F A
  have hf : gs_fr (fun c j => c = 48 ∧ j = 1) (fun c => c = 49 ∨ c = 7) F A F A := gs_fr_refl _ _ _ _
  refine sA_iload_n dd_X8_carried_0 rfl (.tail _ (.head _)) ?_
  refine sA_callS (y2 := m_X8_isPlan) (n2 := 1) (d2 := 1) (as := [gs_iv p]) (rest := []) dd_X8_carried_1 ok_X8_isPlan ml_X8_148 rfl rfl (Nat.le_of_ble_eq_true rfl) (by decide) (c_X8_isPlan (by omega)) (fun r1 F2 A3 h4 => ?_)
  obtain ⟨z7, e6, e8, e9, x5⟩ := h4
  subst e6 e8 e9
  show sA _ _ _ 4 _ [gs_iv z7] _ _
  refine sA_if_eq (tgt := 28) dd_X8_carried_4 (by decide) (by omega) (fun q10 => ?_) (fun q10 => ?_)
  · skip
    refine sA_sipush (z := (-1001)) dd_X8_carried_28 (by decide) ?_
    refine sA_iret (z := -1001) dd_X8_carried_31 rfl ?_
    exact ⟨_, rfl, hI, hf, trivial⟩
  · skip
    refine sA_aload_n dd_X8_carried_7 rfl (.head _) ?_
    refine sA_iload_n dd_X8_carried_8 rfl (.tail _ (.tail _ (.head _))) ?_
    refine sA_callV (y2 := m_X8_isRing) (n2 := 1) (d2 := 1) (a := 0) (ci := 8) (q := (RX8, TX8, 13)) (as := [gs_iv r]) (rest := []) dd_X8_carried_9 ok_X8_isRing ml_X8_101 rfl rfl (by decide) gs_s0 rfl rfl (Nat.le_of_ble_eq_true rfl) (by decide) (c_X8_isRing hI (by omega)) (fun r11 F12 A13 h14 => ?_)
    obtain ⟨z17, e16, e18, e19, x15⟩ := h14
    subst e16 e18 e19
    show sA _ _ _ 12 _ [gs_iv z17] _ _
    refine sA_if_eq (tgt := 28) dd_X8_carried_12 (by decide) (by omega) (fun q20 => ?_) (fun q20 => ?_)
    · skip
      refine sA_sipush (z := (-1001)) dd_X8_carried_28 (by decide) ?_
      refine sA_iret (z := -1001) dd_X8_carried_31 rfl ?_
      exact ⟨_, rfl, hI, hf, trivial⟩
    · skip
      refine sA_iload_n dd_X8_carried_15 rfl (.tail _ (.tail _ (.tail _ (.head _)))) ?_
      refine sA_iconst (z := (-1)) dd_X8_carried_16 ?_
      refine sA_icmp_eq (tgt := 32) dd_X8_carried_17 (by decide) (by omega) (by omega) (fun q21 => ?_) (fun q21 => ?_)
      · skip
        refine sA_aload_n dd_X8_carried_32 rfl (.head _) ?_
        refine sA_iload_n dd_X8_carried_33 rfl (.tail _ (.head _)) ?_
        refine sA_iload_n dd_X8_carried_34 rfl (.tail _ (.tail _ (.head _))) ?_
        refine sA_callV (y2 := m_X8_carryToWork) (n2 := 2) (d2 := 4) (a := 0) (ci := 8) (q := (RX8, TX8, 13)) (as := [gs_iv p, gs_iv r]) (rest := []) dd_X8_carried_35 ok_X8_carryToWork ml_X8_185 rfl rfl (by decide) gs_s0 rfl rfl (Nat.le_of_ble_eq_true rfl) (by decide) (c_X8_carryToWork hI (by omega) (by omega)) (fun r22 F23 A24 h25 => ?_)
        obtain ⟨z28, e27, I29, f30, x26⟩ := h25
        subst e27
        have f31 := gs_fr_tr hf f30 (fun b j h => by first | exact False.elim h | omega | (dsimp only at h ⊢; omega)) (fun b h => by first | exact False.elim h | omega | (dsimp only at h ⊢; omega))
        show sA _ _ _ 38 _ [gs_iv z28] _ _
        refine sA_if_ne (tgt := 45) dd_X8_carried_38 (by decide) (by omega) (fun q32 => ?_) (fun q32 => ?_)
        · skip
          refine sA_iload_n dd_X8_carried_45 rfl (.tail _ (.tail _ (.tail _ (.head _)))) ?_
          refine sA_iconst (z := (-1)) dd_X8_carried_46 ?_
          refine sA_icmp_ne (tgt := 60) dd_X8_carried_47 (by decide) (by omega) (by omega) (fun q33 => absurd q33 (by omega)) (fun q33 => ?_)
          refine sA_aload_n dd_X8_carried_50 rfl (.head _) ?_
          refine sA_getr (ci := 8) (j := 8) (q := (RX8, TX8, 13)) dd_X8_carried_51 rfl (by decide) fl_X8_69 (by decide) gs_s0 rfl ?_
          refine sA_geti (ci := 4) (j := 1) (q := (RX4, TX4, 2)) dd_X8_carried_54 rfl (by decide) fl_X8_88 (Nat.lt_of_succ_lt gs_row_48.1) gs_row_48.2.1 rfl ?_
          have b34 := gs_row_sz gs_row_48 I29
          refine sA_goto (tgt := 79) dd_X8_carried_57 (by decide) ?_
          refine sA_iret (z := F23 48 1) dd_X8_carried_79 rfl ?_
          exact ⟨_, rfl, I29, f31, trivial⟩
        · skip
          refine sA_sipush (z := (-1005)) dd_X8_carried_41 (by decide) ?_
          refine sA_iret (z := -1005) dd_X8_carried_44 rfl ?_
          exact ⟨_, rfl, I29, f31, trivial⟩
      · skip
        refine sA_aload_n dd_X8_carried_20 rfl (.head _) ?_
        refine sA_iload_n dd_X8_carried_21 rfl (.tail _ (.tail _ (.tail _ (.head _)))) ?_
        refine sA_callV (y2 := m_X8_isRing) (n2 := 1) (d2 := 1) (a := 0) (ci := 8) (q := (RX8, TX8, 13)) (as := [gs_iv w]) (rest := []) dd_X8_carried_22 ok_X8_isRing ml_X8_101 rfl rfl (by decide) gs_s0 rfl rfl (Nat.le_of_ble_eq_true rfl) (by decide) (c_X8_isRing hI (by omega)) (fun r35 F36 A37 h38 => ?_)
        obtain ⟨z41, e40, e42, e43, x39⟩ := h38
        subst e40 e42 e43
        show sA _ _ _ 25 _ [gs_iv z41] _ _
        refine sA_if_ne (tgt := 32) dd_X8_carried_25 (by decide) (by omega) (fun q44 => ?_) (fun q44 => ?_)
        · skip
          refine sA_aload_n dd_X8_carried_32 rfl (.head _) ?_
          refine sA_iload_n dd_X8_carried_33 rfl (.tail _ (.head _)) ?_
          refine sA_iload_n dd_X8_carried_34 rfl (.tail _ (.tail _ (.head _))) ?_
          refine sA_callV (y2 := m_X8_carryToWork) (n2 := 2) (d2 := 4) (a := 0) (ci := 8) (q := (RX8, TX8, 13)) (as := [gs_iv p, gs_iv r]) (rest := []) dd_X8_carried_35 ok_X8_carryToWork ml_X8_185 rfl rfl (by decide) gs_s0 rfl rfl (Nat.le_of_ble_eq_true rfl) (by decide) (c_X8_carryToWork hI (by omega) (by omega)) (fun r45 F46 A47 h48 => ?_)
          obtain ⟨z51, e50, I52, f53, x49⟩ := h48
          subst e50
          have f54 := gs_fr_tr hf f53 (fun b j h => by first | exact False.elim h | omega | (dsimp only at h ⊢; omega)) (fun b h => by first | exact False.elim h | omega | (dsimp only at h ⊢; omega))
          show sA _ _ _ 38 _ [gs_iv z51] _ _
          refine sA_if_ne (tgt := 45) dd_X8_carried_38 (by decide) (by omega) (fun q55 => ?_) (fun q55 => ?_)
          · skip
            refine sA_iload_n dd_X8_carried_45 rfl (.tail _ (.tail _ (.tail _ (.head _)))) ?_
            refine sA_iconst (z := (-1)) dd_X8_carried_46 ?_
            refine sA_icmp_ne (tgt := 60) dd_X8_carried_47 (by decide) (by omega) (by omega) (fun q56 => ?_) (fun q56 => absurd q56 (by omega))
            refine sA_aload_n dd_X8_carried_60 rfl (.head _) ?_
            refine sA_getr (ci := 8) (j := 8) (q := (RX8, TX8, 13)) dd_X8_carried_61 rfl (by decide) fl_X8_69 (by decide) gs_s0 rfl ?_
            refine sA_aload_n dd_X8_carried_64 rfl (.head _) ?_
            refine sA_getr (ci := 8) (j := 0) (q := (RX8, TX8, 13)) dd_X8_carried_65 rfl (by decide) fl_X8_11 (by decide) gs_s0 rfl ?_
            refine sA_iload_n dd_X8_carried_68 rfl (.tail _ (.tail _ (.tail _ (.head _)))) ?_
            refine sA_aald (n := 12) dd_X8_carried_69 (by decide) (by decide) (by decide) gs_s1 (by omega) (by decide) ?_
            have g57 := gs_ring_at (k := w.toNat) (by omega)
            refine sA_getr (ci := 3) (j := 0) (q := (RX3, TX3, 3)) dd_X8_carried_70 rfl (by decide) fl_X8_105 (Nat.lt_of_succ_lt g57.1) g57.2.1 rfl ?_
            refine sA_callV (y2 := m_X4_isOneWith) (n2 := 1) (d2 := 2) (a := 48) (ci := 4) (q := (RX4, TX4, 2)) (as := [.ref (54 + 3 * w.toNat + 1)]) (rest := []) dd_X8_carried_73 ok_X4_isOneWith ml_X8_131 rfl rfl (Nat.lt_of_succ_lt gs_row_48.1) gs_row_48.2.1 rfl rfl (Nat.le_of_ble_eq_true rfl) (by decide) (c_X4_isOneWith I52 gs_row_48 g57.2.2.1) (fun r58 F59 A60 h61 => ?_)
            obtain ⟨z64, e63, e65, e66, x62⟩ := h61
            subst e63 e65 e66
            show sA _ _ _ 76 _ [gs_iv z64] _ _
            refine sA_callS (y2 := m_X8_oneIf) (n2 := 1) (d2 := 1) (as := [gs_iv z64]) (rest := []) dd_X8_carried_76 ok_X8_oneIf ml_X8_112 rfl rfl (Nat.le_of_ble_eq_true rfl) (by decide) (c_X8_oneIf (by omega)) (fun r67 F68 A69 h70 => ?_)
            obtain ⟨z73, e72, e74, e75, x71⟩ := h70
            subst e72 e74 e75
            show sA _ _ _ 79 _ [gs_iv z73] _ _
            refine sA_iret (z := z73) dd_X8_carried_79 rfl ?_
            exact ⟨_, rfl, I52, f54, trivial⟩
          · skip
            refine sA_sipush (z := (-1005)) dd_X8_carried_41 (by decide) ?_
            refine sA_iret (z := -1005) dd_X8_carried_44 rfl ?_
            exact ⟨_, rfl, I52, f54, trivial⟩
        · skip
          refine sA_sipush (z := (-1001)) dd_X8_carried_28 (by decide) ?_
          refine sA_iret (z := -1001) dd_X8_carried_31 rfl ?_
          exact ⟨_, rfl, hI, hf, trivial⟩
theorem dd_X8_meetsThen_0 : decode cX8_meetsThen 0 = .ok (.iload_n 1, 1) := by decide +kernel
theorem dd_X8_meetsThen_1 : decode cX8_meetsThen 1 = .ok (.invokestatic 148, 3) := by decide +kernel
theorem dd_X8_meetsThen_4 : decode cX8_meetsThen 4 = .ok (.ifCond .eq 19, 3) := by decide +kernel
theorem dd_X8_meetsThen_7 : decode cX8_meetsThen 7 = .ok (.aload_n 0, 1) := by decide +kernel
theorem dd_X8_meetsThen_8 : decode cX8_meetsThen 8 = .ok (.iload_n 2, 1) := by decide +kernel
theorem dd_X8_meetsThen_9 : decode cX8_meetsThen 9 = .ok (.invokevirtual 101, 3) := by decide +kernel
theorem dd_X8_meetsThen_12 : decode cX8_meetsThen 12 = .ok (.ifCond .eq 11, 3) := by decide +kernel
theorem dd_X8_meetsThen_15 : decode cX8_meetsThen 15 = .ok (.aload_n 0, 1) := by decide +kernel
theorem dd_X8_meetsThen_16 : decode cX8_meetsThen 16 = .ok (.iload_n 3, 1) := by decide +kernel
theorem dd_X8_meetsThen_17 : decode cX8_meetsThen 17 = .ok (.invokevirtual 101, 3) := by decide +kernel
theorem dd_X8_meetsThen_20 : decode cX8_meetsThen 20 = .ok (.ifCond .ne 7, 3) := by decide +kernel
theorem dd_X8_meetsThen_23 : decode cX8_meetsThen 23 = .ok (.sipush (-1001), 3) := by decide +kernel
theorem dd_X8_meetsThen_26 : decode cX8_meetsThen 26 = .ok (.ireturn, 1) := by decide +kernel
theorem dd_X8_meetsThen_27 : decode cX8_meetsThen 27 = .ok (.aload_n 0, 1) := by decide +kernel
theorem dd_X8_meetsThen_28 : decode cX8_meetsThen 28 = .ok (.getfield 11, 3) := by decide +kernel
theorem dd_X8_meetsThen_31 : decode cX8_meetsThen 31 = .ok (.iload_n 2, 1) := by decide +kernel
theorem dd_X8_meetsThen_32 : decode cX8_meetsThen 32 = .ok (.aaload, 1) := by decide +kernel
theorem dd_X8_meetsThen_33 : decode cX8_meetsThen 33 = .ok (.getfield 108, 3) := by decide +kernel
theorem dd_X8_meetsThen_36 : decode cX8_meetsThen 36 = .ok (.ifCond .ne 15, 3) := by decide +kernel
theorem dd_X8_meetsThen_39 : decode cX8_meetsThen 39 = .ok (.aload_n 0, 1) := by decide +kernel
theorem dd_X8_meetsThen_40 : decode cX8_meetsThen 40 = .ok (.getfield 11, 3) := by decide +kernel
theorem dd_X8_meetsThen_43 : decode cX8_meetsThen 43 = .ok (.iload_n 3, 1) := by decide +kernel
theorem dd_X8_meetsThen_44 : decode cX8_meetsThen 44 = .ok (.aaload, 1) := by decide +kernel
theorem dd_X8_meetsThen_45 : decode cX8_meetsThen 45 = .ok (.getfield 108, 3) := by decide +kernel
theorem dd_X8_meetsThen_48 : decode cX8_meetsThen 48 = .ok (.ifCond .eq 7, 3) := by decide +kernel
theorem dd_X8_meetsThen_51 : decode cX8_meetsThen 51 = .ok (.sipush (-1003), 3) := by decide +kernel
theorem dd_X8_meetsThen_54 : decode cX8_meetsThen 54 = .ok (.ireturn, 1) := by decide +kernel
theorem dd_X8_meetsThen_55 : decode cX8_meetsThen 55 = .ok (.aload_n 0, 1) := by decide +kernel
theorem dd_X8_meetsThen_56 : decode cX8_meetsThen 56 = .ok (.iload_n 1, 1) := by decide +kernel
theorem dd_X8_meetsThen_57 : decode cX8_meetsThen 57 = .ok (.iload_n 2, 1) := by decide +kernel
theorem dd_X8_meetsThen_58 : decode cX8_meetsThen 58 = .ok (.invokevirtual 185, 3) := by decide +kernel
theorem dd_X8_meetsThen_61 : decode cX8_meetsThen 61 = .ok (.ifCond .ne 7, 3) := by decide +kernel
theorem dd_X8_meetsThen_64 : decode cX8_meetsThen 64 = .ok (.sipush (-1005), 3) := by decide +kernel
theorem dd_X8_meetsThen_67 : decode cX8_meetsThen 67 = .ok (.ireturn, 1) := by decide +kernel
theorem dd_X8_meetsThen_68 : decode cX8_meetsThen 68 = .ok (.aload_n 0, 1) := by decide +kernel
theorem dd_X8_meetsThen_69 : decode cX8_meetsThen 69 = .ok (.getfield 40, 3) := by decide +kernel
theorem dd_X8_meetsThen_72 : decode cX8_meetsThen 72 = .ok (.aload_n 0, 1) := by decide +kernel
theorem dd_X8_meetsThen_73 : decode cX8_meetsThen 73 = .ok (.getfield 69, 3) := by decide +kernel
theorem dd_X8_meetsThen_76 : decode cX8_meetsThen 76 = .ok (.aload_n 0, 1) := by decide +kernel
theorem dd_X8_meetsThen_77 : decode cX8_meetsThen 77 = .ok (.getfield 11, 3) := by decide +kernel
theorem dd_X8_meetsThen_80 : decode cX8_meetsThen 80 = .ok (.iload_n 3, 1) := by decide +kernel
theorem dd_X8_meetsThen_81 : decode cX8_meetsThen 81 = .ok (.aaload, 1) := by decide +kernel
theorem dd_X8_meetsThen_82 : decode cX8_meetsThen 82 = .ok (.getfield 105, 3) := by decide +kernel
theorem dd_X8_meetsThen_85 : decode cX8_meetsThen 85 = .ok (.invokevirtual 127, 3) := by decide +kernel
theorem dd_X8_meetsThen_88 : decode cX8_meetsThen 88 = .ok (.ireturn, 1) := by decide +kernel
theorem ok_X8_meetsThen : am_okM m_X8_meetsThen 3 ∧ Cond.instanceMethod m_X8_meetsThen.1 ∈ am_tbl ∧ Cond.selects m_X8_meetsThen.1.cls m_X8_meetsThen.1 m_X8_meetsThen.1 ∈ am_tbl := ri_mk1 617 82 615 616 (by decide +kernel)
theorem c_X8_meetsThen {p r s : Int} {F A : gs_F} (hI : gs_I F A) (hp : -2147483648 ≤ p ∧ p ≤ 2147483647) (hr : -2147483648 ≤ r ∧ r ≤ 2147483647) (hs : -2147483648 ≤ s ∧ s ≤ 2147483647) : sC m_X8_meetsThen 6 [.ref 0, gs_iv p, gs_iv r, gs_iv s] F A (fun rv F' A' => ∃ z : Int, rv = some (gs_iv z) ∧ gs_I F' A' ∧ gs_fr (fun c j => (c = 48 ∨ c = 13) ∧ j = 1) (fun c => c = 49 ∨ c = 7 ∨ c = 14) F A F' A' ∧ (True)) := by
  refine sC_of ok_X8_meetsThen.1 (Nat.le_of_ble_eq_true rfl) ?_
  show sA _ _ _ 0 [(0, .ref 0), (1, gs_iv p), (2, gs_iv r), (3, gs_iv s)] [] F A
  have hf : gs_fr (fun c j => (c = 48 ∨ c = 13) ∧ j = 1) (fun c => c = 49 ∨ c = 7 ∨ c = 14) F A F A := gs_fr_refl _ _ _ _
  refine sA_iload_n dd_X8_meetsThen_0 rfl (.tail _ (.head _)) ?_
  refine sA_callS (y2 := m_X8_isPlan) (n2 := 1) (d2 := 1) (as := [gs_iv p]) (rest := []) dd_X8_meetsThen_1 ok_X8_isPlan ml_X8_148 rfl rfl (Nat.le_of_ble_eq_true rfl) (by decide) (c_X8_isPlan (by omega)) (fun r1 F2 A3 h4 => ?_)
  obtain ⟨z7, e6, e8, e9, x5⟩ := h4
  subst e6 e8 e9
  show sA _ _ _ 4 _ [gs_iv z7] _ _
  refine sA_if_eq (tgt := 23) dd_X8_meetsThen_4 (by decide) (by omega) (fun q10 => ?_) (fun q10 => ?_)
  · skip
    refine sA_sipush (z := (-1001)) dd_X8_meetsThen_23 (by decide) ?_
    refine sA_iret (z := -1001) dd_X8_meetsThen_26 rfl ?_
    exact ⟨_, rfl, hI, hf, trivial⟩
  · skip
    refine sA_aload_n dd_X8_meetsThen_7 rfl (.head _) ?_
    refine sA_iload_n dd_X8_meetsThen_8 rfl (.tail _ (.tail _ (.head _))) ?_
    refine sA_callV (y2 := m_X8_isRing) (n2 := 1) (d2 := 1) (a := 0) (ci := 8) (q := (RX8, TX8, 13)) (as := [gs_iv r]) (rest := []) dd_X8_meetsThen_9 ok_X8_isRing ml_X8_101 rfl rfl (by decide) gs_s0 rfl rfl (Nat.le_of_ble_eq_true rfl) (by decide) (c_X8_isRing hI (by omega)) (fun r11 F12 A13 h14 => ?_)
    obtain ⟨z17, e16, e18, e19, x15⟩ := h14
    subst e16 e18 e19
    show sA _ _ _ 12 _ [gs_iv z17] _ _
    refine sA_if_eq (tgt := 23) dd_X8_meetsThen_12 (by decide) (by omega) (fun q20 => ?_) (fun q20 => ?_)
    · skip
      refine sA_sipush (z := (-1001)) dd_X8_meetsThen_23 (by decide) ?_
      refine sA_iret (z := -1001) dd_X8_meetsThen_26 rfl ?_
      exact ⟨_, rfl, hI, hf, trivial⟩
    · skip
      refine sA_aload_n dd_X8_meetsThen_15 rfl (.head _) ?_
      refine sA_iload_n dd_X8_meetsThen_16 rfl (.tail _ (.tail _ (.tail _ (.head _)))) ?_
      refine sA_callV (y2 := m_X8_isRing) (n2 := 1) (d2 := 1) (a := 0) (ci := 8) (q := (RX8, TX8, 13)) (as := [gs_iv s]) (rest := []) dd_X8_meetsThen_17 ok_X8_isRing ml_X8_101 rfl rfl (by decide) gs_s0 rfl rfl (Nat.le_of_ble_eq_true rfl) (by decide) (c_X8_isRing hI (by omega)) (fun r21 F22 A23 h24 => ?_)
      obtain ⟨z27, e26, e28, e29, x25⟩ := h24
      subst e26 e28 e29
      show sA _ _ _ 20 _ [gs_iv z27] _ _
      refine sA_if_ne (tgt := 27) dd_X8_meetsThen_20 (by decide) (by omega) (fun q30 => ?_) (fun q30 => ?_)
      · skip
        refine sA_aload_n dd_X8_meetsThen_27 rfl (.head _) ?_
        refine sA_getr (ci := 8) (j := 0) (q := (RX8, TX8, 13)) dd_X8_meetsThen_28 rfl (by decide) fl_X8_11 (by decide) gs_s0 rfl ?_
        refine sA_iload_n dd_X8_meetsThen_31 rfl (.tail _ (.tail _ (.head _))) ?_
        refine sA_aald (n := 12) dd_X8_meetsThen_32 (by decide) (by decide) (by decide) gs_s1 (by omega) (by decide) ?_
        have g31 := gs_ring_at (k := r.toNat) (by omega)
        refine sA_geti (ci := 3) (j := 1) (q := (RX3, TX3, 3)) dd_X8_meetsThen_33 rfl (by decide) fl_X8_108 (Nat.lt_of_succ_lt g31.1) g31.2.1 rfl ?_
        have b32 := gs_ring_f1 g31 hI
        refine sA_if_ne (tgt := 51) dd_X8_meetsThen_36 (by decide) (by omega) (fun q33 => ?_) (fun q33 => ?_)
        · skip
          refine sA_sipush (z := (-1003)) dd_X8_meetsThen_51 (by decide) ?_
          refine sA_iret (z := -1003) dd_X8_meetsThen_54 rfl ?_
          exact ⟨_, rfl, hI, hf, trivial⟩
        · skip
          refine sA_aload_n dd_X8_meetsThen_39 rfl (.head _) ?_
          refine sA_getr (ci := 8) (j := 0) (q := (RX8, TX8, 13)) dd_X8_meetsThen_40 rfl (by decide) fl_X8_11 (by decide) gs_s0 rfl ?_
          refine sA_iload_n dd_X8_meetsThen_43 rfl (.tail _ (.tail _ (.tail _ (.head _)))) ?_
          refine sA_aald (n := 12) dd_X8_meetsThen_44 (by decide) (by decide) (by decide) gs_s1 (by omega) (by decide) ?_
          have g34 := gs_ring_at (k := s.toNat) (by omega)
          refine sA_geti (ci := 3) (j := 1) (q := (RX3, TX3, 3)) dd_X8_meetsThen_45 rfl (by decide) fl_X8_108 (Nat.lt_of_succ_lt g34.1) g34.2.1 rfl ?_
          have b35 := gs_ring_f1 g34 hI
          refine sA_if_eq (tgt := 55) dd_X8_meetsThen_48 (by decide) (by omega) (fun q36 => ?_) (fun q36 => ?_)
          · skip
            refine sA_aload_n dd_X8_meetsThen_55 rfl (.head _) ?_
            refine sA_iload_n dd_X8_meetsThen_56 rfl (.tail _ (.head _)) ?_
            refine sA_iload_n dd_X8_meetsThen_57 rfl (.tail _ (.tail _ (.head _))) ?_
            refine sA_callV (y2 := m_X8_carryToWork) (n2 := 2) (d2 := 4) (a := 0) (ci := 8) (q := (RX8, TX8, 13)) (as := [gs_iv p, gs_iv r]) (rest := []) dd_X8_meetsThen_58 ok_X8_carryToWork ml_X8_185 rfl rfl (by decide) gs_s0 rfl rfl (Nat.le_of_ble_eq_true rfl) (by decide) (c_X8_carryToWork hI (by omega) (by omega)) (fun r37 F38 A39 h40 => ?_)
            obtain ⟨z43, e42, I44, f45, x41⟩ := h40
            subst e42
            have f46 := gs_fr_tr hf f45 (fun b j h => by first | exact False.elim h | omega | (dsimp only at h ⊢; omega)) (fun b h => by first | exact False.elim h | omega | (dsimp only at h ⊢; omega))
            show sA _ _ _ 61 _ [gs_iv z43] _ _
            refine sA_if_ne (tgt := 68) dd_X8_meetsThen_61 (by decide) (by omega) (fun q47 => ?_) (fun q47 => ?_)
            · skip
              refine sA_aload_n dd_X8_meetsThen_68 rfl (.head _) ?_
              refine sA_getr (ci := 8) (j := 4) (q := (RX8, TX8, 13)) dd_X8_meetsThen_69 rfl (by decide) fl_X8_40 (by decide) gs_s0 rfl ?_
              refine sA_aload_n dd_X8_meetsThen_72 rfl (.head _) ?_
              refine sA_getr (ci := 8) (j := 8) (q := (RX8, TX8, 13)) dd_X8_meetsThen_73 rfl (by decide) fl_X8_69 (by decide) gs_s0 rfl ?_
              refine sA_aload_n dd_X8_meetsThen_76 rfl (.head _) ?_
              refine sA_getr (ci := 8) (j := 0) (q := (RX8, TX8, 13)) dd_X8_meetsThen_77 rfl (by decide) fl_X8_11 (by decide) gs_s0 rfl ?_
              refine sA_iload_n dd_X8_meetsThen_80 rfl (.tail _ (.tail _ (.tail _ (.head _)))) ?_
              refine sA_aald (n := 12) dd_X8_meetsThen_81 (by decide) (by decide) (by decide) gs_s1 (by omega) (by decide) ?_
              have g48 := gs_ring_at (k := s.toNat) (by omega)
              refine sA_getr (ci := 3) (j := 0) (q := (RX3, TX3, 3)) dd_X8_meetsThen_82 rfl (by decide) fl_X8_105 (Nat.lt_of_succ_lt g48.1) g48.2.1 rfl ?_
              refine sA_callV (y2 := m_X1_between) (n2 := 2) (d2 := 5) (a := 12) (ci := 1) (q := (RX1, TX1, 1)) (as := [.ref 48, .ref (54 + 3 * s.toNat + 1)]) (rest := []) dd_X8_meetsThen_85 ok_X1_between ml_X8_127 rfl rfl (by decide) gs_s12 rfl rfl (Nat.le_of_ble_eq_true rfl) (by decide) (c_X1_between I44 gs_row_48 g48.2.2.1) (fun r49 F50 A51 h52 => ?_)
              obtain ⟨z55, e54, I56, f57, x53⟩ := h52
              subst e54
              have f58 := gs_fr_tr f46 f57 (fun b j h => by first | exact False.elim h | omega | (dsimp only at h ⊢; omega)) (fun b h => by first | exact False.elim h | omega | (dsimp only at h ⊢; omega))
              show sA _ _ _ 88 _ [gs_iv z55] _ _
              refine sA_iret (z := z55) dd_X8_meetsThen_88 rfl ?_
              exact ⟨_, rfl, I56, f58, trivial⟩
            · skip
              refine sA_sipush (z := (-1005)) dd_X8_meetsThen_64 (by decide) ?_
              refine sA_iret (z := -1005) dd_X8_meetsThen_67 rfl ?_
              exact ⟨_, rfl, I44, f46, trivial⟩
          · skip
            refine sA_sipush (z := (-1003)) dd_X8_meetsThen_51 (by decide) ?_
            refine sA_iret (z := -1003) dd_X8_meetsThen_54 rfl ?_
            exact ⟨_, rfl, hI, hf, trivial⟩
      · skip
        refine sA_sipush (z := (-1001)) dd_X8_meetsThen_23 (by decide) ?_
        refine sA_iret (z := -1001) dd_X8_meetsThen_26 rfl ?_
        exact ⟨_, rfl, hI, hf, trivial⟩
theorem dd_X8_firstUnlike_0 : decode cX8_firstUnlike 0 = .ok (.aload_n 0, 1) := by decide +kernel
theorem dd_X8_firstUnlike_1 : decode cX8_firstUnlike 1 = .ok (.getfield 49, 3) := by decide +kernel
theorem dd_X8_firstUnlike_4 : decode cX8_firstUnlike 4 = .ok (.aload_n 0, 1) := by decide +kernel
theorem dd_X8_firstUnlike_5 : decode cX8_firstUnlike 5 = .ok (.getfield 84, 3) := by decide +kernel
theorem dd_X8_firstUnlike_8 : decode cX8_firstUnlike 8 = .ok (.invokevirtual 193, 3) := by decide +kernel
theorem dd_X8_firstUnlike_11 : decode cX8_firstUnlike 11 = .ok (.aload_n 0, 1) := by decide +kernel
theorem dd_X8_firstUnlike_12 : decode cX8_firstUnlike 12 = .ok (.getfield 49, 3) := by decide +kernel
theorem dd_X8_firstUnlike_15 : decode cX8_firstUnlike 15 = .ok (.aload_n 1, 1) := by decide +kernel
theorem dd_X8_firstUnlike_16 : decode cX8_firstUnlike 16 = .ok (.invokevirtual 196, 3) := by decide +kernel
theorem dd_X8_firstUnlike_19 : decode cX8_firstUnlike 19 = .ok (.ifCond .ne 7, 3) := by decide +kernel
theorem dd_X8_firstUnlike_22 : decode cX8_firstUnlike 22 = .ok (.sipush (-1005), 3) := by decide +kernel
theorem dd_X8_firstUnlike_25 : decode cX8_firstUnlike 25 = .ok (.ireturn, 1) := by decide +kernel
theorem dd_X8_firstUnlike_26 : decode cX8_firstUnlike 26 = .ok (.iconst (-1), 1) := by decide +kernel
theorem dd_X8_firstUnlike_27 : decode cX8_firstUnlike 27 = .ok (.istore_n 3, 1) := by decide +kernel
theorem dd_X8_firstUnlike_28 : decode cX8_firstUnlike 28 = .ok (.iconst 1, 1) := by decide +kernel
theorem dd_X8_firstUnlike_29 : decode cX8_firstUnlike 29 = .ok (.istore 4, 2) := by decide +kernel
theorem dd_X8_firstUnlike_31 : decode cX8_firstUnlike 31 = .ok (.iload 4, 2) := by decide +kernel
theorem dd_X8_firstUnlike_33 : decode cX8_firstUnlike 33 = .ok (.iconst 2, 1) := by decide +kernel
theorem dd_X8_firstUnlike_34 : decode cX8_firstUnlike 34 = .ok (.aload_n 0, 1) := by decide +kernel
theorem dd_X8_firstUnlike_35 : decode cX8_firstUnlike 35 = .ok (.getfield 84, 3) := by decide +kernel
theorem dd_X8_firstUnlike_38 : decode cX8_firstUnlike 38 = .ok (.imul, 1) := by decide +kernel
theorem dd_X8_firstUnlike_39 : decode cX8_firstUnlike 39 = .ok (.if_icmp .gt 67, 3) := by decide +kernel
theorem dd_X8_firstUnlike_42 : decode cX8_firstUnlike 42 = .ok (.aload_n 0, 1) := by decide +kernel
theorem dd_X8_firstUnlike_43 : decode cX8_firstUnlike 43 = .ok (.getfield 69, 3) := by decide +kernel
theorem dd_X8_firstUnlike_46 : decode cX8_firstUnlike 46 = .ok (.iload 4, 2) := by decide +kernel
theorem dd_X8_firstUnlike_48 : decode cX8_firstUnlike 48 = .ok (.invokevirtual 178, 3) := by decide +kernel
theorem dd_X8_firstUnlike_51 : decode cX8_firstUnlike 51 = .ok (.aload_n 0, 1) := by decide +kernel
theorem dd_X8_firstUnlike_52 : decode cX8_firstUnlike 52 = .ok (.getfield 33, 3) := by decide +kernel
theorem dd_X8_firstUnlike_55 : decode cX8_firstUnlike 55 = .ok (.aload_n 2, 1) := by decide +kernel
theorem dd_X8_firstUnlike_56 : decode cX8_firstUnlike 56 = .ok (.aload_n 0, 1) := by decide +kernel
theorem dd_X8_firstUnlike_57 : decode cX8_firstUnlike 57 = .ok (.getfield 69, 3) := by decide +kernel
theorem dd_X8_firstUnlike_60 : decode cX8_firstUnlike 60 = .ok (.invokevirtual 181, 3) := by decide +kernel
theorem dd_X8_firstUnlike_63 : decode cX8_firstUnlike 63 = .ok (.ifCond .ne 7, 3) := by decide +kernel
theorem dd_X8_firstUnlike_66 : decode cX8_firstUnlike 66 = .ok (.sipush (-1005), 3) := by decide +kernel
theorem dd_X8_firstUnlike_69 : decode cX8_firstUnlike 69 = .ok (.ireturn, 1) := by decide +kernel
theorem dd_X8_firstUnlike_70 : decode cX8_firstUnlike 70 = .ok (.iload_n 3, 1) := by decide +kernel
theorem dd_X8_firstUnlike_71 : decode cX8_firstUnlike 71 = .ok (.iconst (-1), 1) := by decide +kernel
theorem dd_X8_firstUnlike_72 : decode cX8_firstUnlike 72 = .ok (.if_icmp .ne 28, 3) := by decide +kernel
theorem dd_X8_firstUnlike_75 : decode cX8_firstUnlike 75 = .ok (.aload_n 0, 1) := by decide +kernel
theorem dd_X8_firstUnlike_76 : decode cX8_firstUnlike 76 = .ok (.getfield 69, 3) := by decide +kernel
theorem dd_X8_firstUnlike_79 : decode cX8_firstUnlike 79 = .ok (.aload_n 0, 1) := by decide +kernel
theorem dd_X8_firstUnlike_80 : decode cX8_firstUnlike 80 = .ok (.getfield 49, 3) := by decide +kernel
theorem dd_X8_firstUnlike_83 : decode cX8_firstUnlike 83 = .ok (.getfield 246, 3) := by decide +kernel
theorem dd_X8_firstUnlike_86 : decode cX8_firstUnlike 86 = .ok (.iload 4, 2) := by decide +kernel
theorem dd_X8_firstUnlike_88 : decode cX8_firstUnlike 88 = .ok (.iconst 1, 1) := by decide +kernel
theorem dd_X8_firstUnlike_89 : decode cX8_firstUnlike 89 = .ok (.isub, 1) := by decide +kernel
theorem dd_X8_firstUnlike_90 : decode cX8_firstUnlike 90 = .ok (.aaload, 1) := by decide +kernel
theorem dd_X8_firstUnlike_91 : decode cX8_firstUnlike 91 = .ok (.invokevirtual 250, 3) := by decide +kernel
theorem dd_X8_firstUnlike_94 : decode cX8_firstUnlike 94 = .ok (.ifCond .ne 6, 3) := by decide +kernel
theorem dd_X8_firstUnlike_97 : decode cX8_firstUnlike 97 = .ok (.iload 4, 2) := by decide +kernel
theorem dd_X8_firstUnlike_99 : decode cX8_firstUnlike 99 = .ok (.istore_n 3, 1) := by decide +kernel
theorem dd_X8_firstUnlike_100 : decode cX8_firstUnlike 100 = .ok (.iinc 4 1, 3) := by decide +kernel
theorem dd_X8_firstUnlike_103 : decode cX8_firstUnlike 103 = .ok (.goto (-72), 3) := by decide +kernel
theorem dd_X8_firstUnlike_106 : decode cX8_firstUnlike 106 = .ok (.iload_n 3, 1) := by decide +kernel
theorem dd_X8_firstUnlike_107 : decode cX8_firstUnlike 107 = .ok (.ireturn, 1) := by decide +kernel
theorem fl_X8_246 : Cond.fieldLink RX8 246 (TX0 0).1 (TX0 0).2.1 (TX0 0).2.2.1 ∈ am_tbl := ri_lw_in (pl := 180) (by decide +kernel)
theorem fl_X8_49 : Cond.fieldLink RX8 49 (TX8 5).1 (TX8 5).2.1 (TX8 5).2.2.1 ∈ am_tbl := ri_lw_in (pl := 356) (by decide +kernel)
theorem ml_X8_193 : Cond.methodLink RX8 193 m_X0_begin.1 ∈ am_tbl := ri_lw_in (pl := 626) (by decide +kernel)
theorem ml_X8_196 : Cond.methodLink RX8 196 m_X0_doPlan.1 ∈ am_tbl := ri_lw_in (pl := 631) (by decide +kernel)
theorem ml_X8_250 : Cond.methodLink RX8 250 m_X4_isLike.1 ∈ am_tbl := ri_lw_in (pl := 636) (by decide +kernel)
theorem ok_X8_firstUnlike : am_okM m_X8_firstUnlike 2 ∧ Cond.instanceMethod m_X8_firstUnlike.1 ∈ am_tbl ∧ Cond.selects m_X8_firstUnlike.1.cls m_X8_firstUnlike.1 m_X8_firstUnlike.1 ∈ am_tbl := ri_mk1 625 82 624 19 (by decide +kernel)
theorem k_X8_firstUnlike {a b : Nat} {F A : gs_F} (hI : gs_I F A) (hr : gs_plan a) (ho : gs_plan b) : ∀ nN : Nat, (∀ (f : Int) (x : Int)  (F1 A1 : gs_F), gs_I F1 A1 → gs_fr (fun c j => (c = 15 ∧ j = 1) ∨ (18 ≤ c ∧ c < 30 ∧ j = 1) ∨ (c = 48 ∧ j = 1)) (fun c => c = 7 ∨ (18 ≤ c ∧ c < 30) ∨ c = 49) F A F1 A1 → 1 ≤ x ∧ x ≤ 7 → -1 ≤ f ∧ f ≤ 6 → 7 - x < (nN : Int) → sA m_X8_firstUnlike 5 (fun rv F' A' => ∃ z : Int, rv = some (gs_iv z) ∧ gs_I F' A' ∧ gs_fr (fun c j => (c = 15 ∧ j = 1) ∨ (18 ≤ c ∧ c < 30 ∧ j = 1) ∨ (c = 48 ∧ j = 1)) (fun c => c = 7 ∨ (18 ≤ c ∧ c < 30) ∨ c = 49) F A F' A' ∧ (-1005 ≤ z ∧ z ≤ 6)) 31 [(4, gs_iv x), (3, gs_iv f), (0, .ref 0), (2, .ref b)] [] F1 A1) := by
  intro nN
  induction nN with
  | zero =>
    exact fun a0 a1 a2 a3 a4 a5 i0 i1 hm => by exfalso; omega
  | succ nN ih =>
    intro f x F1 A1 hI1 hf1 i0 i1 hm
    have b1 := gs_plan_sz hr hI1
    have b2 := gs_plan_sz ho hI1
    refine sA_iload dd_X8_firstUnlike_31 (.head _) ?_
    refine sA_iconst (z := 2) dd_X8_firstUnlike_33 ?_
    refine sA_aload_n dd_X8_firstUnlike_34 rfl (.tail _ (.tail _ (.head _))) ?_
    refine sA_geti (ci := 8) (j := 11) (q := (RX8, TX8, 13)) dd_X8_firstUnlike_35 rfl (by decide) fl_X8_84 (by decide) gs_s0 rfl ?_
    have b3 : (1 : Int) ≤ F1 0 11 ∧ F1 0 11 ≤ 3 := hI1.1 0 11
    refine sA_imul dd_X8_firstUnlike_38 ?_
    refine sA_icmp_gt (tgt := 106) dd_X8_firstUnlike_39 (by decide) (by omega) (by omega) (fun q4 => ?_) (fun q4 => ?_)
    · skip
      refine sA_iload_n dd_X8_firstUnlike_106 rfl (.tail _ (.head _)) ?_
      refine sA_iret (z := f) dd_X8_firstUnlike_107 rfl ?_
      exact ⟨_, rfl, hI1, hf1, by omega⟩
    · skip
      refine sA_aload_n dd_X8_firstUnlike_42 rfl (.tail _ (.tail _ (.head _))) ?_
      refine sA_getr (ci := 8) (j := 8) (q := (RX8, TX8, 13)) dd_X8_firstUnlike_43 rfl (by decide) fl_X8_69 (by decide) gs_s0 rfl ?_
      refine sA_iload dd_X8_firstUnlike_46 (.head _) ?_
      refine sA_callV (y2 := m_X4_becomeLetter) (n2 := 1) (d2 := 1) (a := 48) (ci := 4) (q := (RX4, TX4, 2)) (as := [gs_iv x]) (rest := []) dd_X8_firstUnlike_48 ok_X4_becomeLetter ml_X8_178 rfl rfl (Nat.lt_of_succ_lt gs_row_48.1) gs_row_48.2.1 rfl rfl (Nat.le_of_ble_eq_true rfl) (by decide) (c_X4_becomeLetter hI1 gs_row_48 (by omega)) (fun r5 F6 A7 h8 => ?_)
      obtain ⟨e10, I11, f12, x9⟩ := h8
      subst e10
      have f13 := gs_fr_tr hf1 f12 (fun b j h => by first | exact False.elim h | omega | (dsimp only at h ⊢; omega)) (fun b h => by first | exact False.elim h | omega | (dsimp only at h ⊢; omega))
      show sA _ _ _ 51 _ [] _ _
      refine sA_aload_n dd_X8_firstUnlike_51 rfl (.tail _ (.tail _ (.head _))) ?_
      refine sA_getr (ci := 8) (j := 3) (q := (RX8, TX8, 13)) dd_X8_firstUnlike_52 rfl (by decide) fl_X8_33 (by decide) gs_s0 rfl ?_
      refine sA_aload_n dd_X8_firstUnlike_55 rfl (.tail _ (.tail _ (.tail _ (.head _)))) ?_
      refine sA_aload_n dd_X8_firstUnlike_56 rfl (.tail _ (.tail _ (.head _))) ?_
      refine sA_getr (ci := 8) (j := 8) (q := (RX8, TX8, 13)) dd_X8_firstUnlike_57 rfl (by decide) fl_X8_69 (by decide) gs_s0 rfl ?_
      refine sA_callV (y2 := m_X7_doPlan) (n2 := 2) (d2 := 3) (a := 5) (ci := 7) (q := (RX7, TX7, 5)) (as := [.ref b, .ref 48]) (rest := []) dd_X8_firstUnlike_60 ok_X7_doPlan ml_X8_181 rfl rfl (by decide) gs_s5 rfl rfl (Nat.le_of_ble_eq_true rfl) (by decide) (c_X7_doPlan I11 ho gs_row_48) (fun r14 F15 A16 h17 => ?_)
      obtain ⟨z20, e19, I21, f22, x18⟩ := h17
      subst e19
      have f23 := gs_fr_tr f13 f22 (fun b j h => by first | exact False.elim h | omega | (dsimp only at h ⊢; omega)) (fun b h => by first | exact False.elim h | omega | (dsimp only at h ⊢; omega))
      show sA _ _ _ 63 _ [gs_iv z20] _ _
      refine sA_if_ne (tgt := 70) dd_X8_firstUnlike_63 (by decide) (by omega) (fun q24 => ?_) (fun q24 => ?_)
      · skip
        refine sA_iload_n dd_X8_firstUnlike_70 rfl (.tail _ (.head _)) ?_
        refine sA_iconst (z := (-1)) dd_X8_firstUnlike_71 ?_
        refine sA_icmp_ne (tgt := 100) dd_X8_firstUnlike_72 (by decide) (by omega) (by omega) (fun q25 => ?_) (fun q25 => ?_)
        · skip
          refine sA_iinc (lv' := [(4, gs_iv (x + 1)), (3, gs_iv f), (0, .ref 0), (2, .ref b)]) dd_X8_firstUnlike_100 (.head _) (by decide) rfl ?_
          refine sA_goto (tgt := 31) dd_X8_firstUnlike_103 (by decide) ?_
          have b26 := gs_plan_sz hr I21
          have b27 := gs_plan_sz ho I21
          refine sA_sub (lv2 := [(4, gs_iv (x + 1)), (3, gs_iv f), (0, .ref 0), (2, .ref b)]) (List.forall_mem_cons.mpr ⟨(.head _), (List.forall_mem_cons.mpr ⟨(.tail _ (.head _)), (List.forall_mem_cons.mpr ⟨(.tail _ (.tail _ (.head _))), (List.forall_mem_cons.mpr ⟨(.tail _ (.tail _ (.tail _ (.head _)))), (fun _ h => absurd h List.not_mem_nil)⟩)⟩)⟩)⟩) ?_
          exact ih f (x + 1) F15 A16 I21 f23 (by omega) (by omega) (by omega)
        · skip
          refine sA_aload_n dd_X8_firstUnlike_75 rfl (.tail _ (.tail _ (.head _))) ?_
          refine sA_getr (ci := 8) (j := 8) (q := (RX8, TX8, 13)) dd_X8_firstUnlike_76 rfl (by decide) fl_X8_69 (by decide) gs_s0 rfl ?_
          refine sA_aload_n dd_X8_firstUnlike_79 rfl (.tail _ (.tail _ (.head _))) ?_
          refine sA_getr (ci := 8) (j := 5) (q := (RX8, TX8, 13)) dd_X8_firstUnlike_80 rfl (by decide) fl_X8_49 (by decide) gs_s0 rfl ?_
          refine sA_getr (ci := 0) (j := 0) (q := (RX0, TX0, 4)) dd_X8_firstUnlike_83 rfl (by decide) fl_X8_246 (by decide) gs_s15 rfl ?_
          refine sA_iload dd_X8_firstUnlike_86 (.head _) ?_
          refine sA_iconst (z := 1) dd_X8_firstUnlike_88 ?_
          refine sA_isub dd_X8_firstUnlike_89 ?_
          refine sA_aald (n := 6) dd_X8_firstUnlike_90 (by decide) (by decide) (by decide) gs_s16 (by omega) (by decide) ?_
          have g28 := gs_row_im (k := (x - 1).toNat) (by omega)
          refine sA_callV (y2 := m_X4_isLike) (n2 := 1) (d2 := 1) (a := 48) (ci := 4) (q := (RX4, TX4, 2)) (as := [.ref (18 + 2 * (x - 1).toNat)]) (rest := []) dd_X8_firstUnlike_91 ok_X4_isLike ml_X8_250 rfl rfl (Nat.lt_of_succ_lt gs_row_48.1) gs_row_48.2.1 rfl rfl (Nat.le_of_ble_eq_true rfl) (by decide) (c_X4_isLike I21 gs_row_48 g28) (fun r29 F30 A31 h32 => ?_)
          obtain ⟨z35, e34, e36, e37, x33⟩ := h32
          subst e34 e36 e37
          show sA _ _ _ 94 _ [gs_iv z35] _ _
          refine sA_if_ne (tgt := 100) dd_X8_firstUnlike_94 (by decide) (by omega) (fun q38 => ?_) (fun q38 => ?_)
          · skip
            refine sA_iinc (lv' := [(4, gs_iv (x + 1)), (3, gs_iv f), (0, .ref 0), (2, .ref b)]) dd_X8_firstUnlike_100 (.head _) (by decide) rfl ?_
            refine sA_goto (tgt := 31) dd_X8_firstUnlike_103 (by decide) ?_
            have b39 := gs_plan_sz hr I21
            have b40 := gs_plan_sz ho I21
            refine sA_sub (lv2 := [(4, gs_iv (x + 1)), (3, gs_iv f), (0, .ref 0), (2, .ref b)]) (List.forall_mem_cons.mpr ⟨(.head _), (List.forall_mem_cons.mpr ⟨(.tail _ (.head _)), (List.forall_mem_cons.mpr ⟨(.tail _ (.tail _ (.head _))), (List.forall_mem_cons.mpr ⟨(.tail _ (.tail _ (.tail _ (.head _)))), (fun _ h => absurd h List.not_mem_nil)⟩)⟩)⟩)⟩) ?_
            exact ih f (x + 1) F15 A16 I21 f23 (by omega) (by omega) (by omega)
          · skip
            refine sA_iload dd_X8_firstUnlike_97 (.head _) ?_
            refine sA_istore_n (lv' := [(3, gs_iv x), (4, gs_iv x), (0, .ref 0), (2, .ref b)]) dd_X8_firstUnlike_99 rfl (by decide) rfl ?_
            refine sA_iinc (lv' := [(4, gs_iv (x + 1)), (3, gs_iv x), (0, .ref 0), (2, .ref b)]) dd_X8_firstUnlike_100 (.tail _ (.head _)) (by decide) rfl ?_
            refine sA_goto (tgt := 31) dd_X8_firstUnlike_103 (by decide) ?_
            have b41 := gs_plan_sz hr I21
            have b42 := gs_plan_sz ho I21
            refine sA_sub (lv2 := [(4, gs_iv (x + 1)), (3, gs_iv x), (0, .ref 0), (2, .ref b)]) (List.forall_mem_cons.mpr ⟨(.head _), (List.forall_mem_cons.mpr ⟨(.tail _ (.head _)), (List.forall_mem_cons.mpr ⟨(.tail _ (.tail _ (.head _))), (List.forall_mem_cons.mpr ⟨(.tail _ (.tail _ (.tail _ (.head _)))), (fun _ h => absurd h List.not_mem_nil)⟩)⟩)⟩)⟩) ?_
            exact ih x (x + 1) F15 A16 I21 f23 (by omega) (by omega) (by omega)
      · skip
        refine sA_sipush (z := (-1005)) dd_X8_firstUnlike_66 (by decide) ?_
        refine sA_iret (z := -1005) dd_X8_firstUnlike_69 rfl ?_
        exact ⟨_, rfl, I21, f23, by omega⟩
theorem c_X8_firstUnlike {a b : Nat} {F A : gs_F} (hI : gs_I F A) (hr : gs_plan a) (ho : gs_plan b) : sC m_X8_firstUnlike 5 [.ref 0, .ref a, .ref b] F A (fun rv F' A' => ∃ z : Int, rv = some (gs_iv z) ∧ gs_I F' A' ∧ gs_fr (fun c j => (c = 15 ∧ j = 1) ∨ (18 ≤ c ∧ c < 30 ∧ j = 1) ∨ (c = 48 ∧ j = 1)) (fun c => c = 7 ∨ (18 ≤ c ∧ c < 30) ∨ c = 49) F A F' A' ∧ (-1005 ≤ z ∧ z ≤ 6)) := by
  refine sC_of ok_X8_firstUnlike.1 (Nat.le_of_ble_eq_true rfl) ?_
  show sA _ _ _ 0 [(0, .ref 0), (1, .ref a), (2, .ref b)] [] F A
  have hf : gs_fr (fun c j => (c = 15 ∧ j = 1) ∨ (18 ≤ c ∧ c < 30 ∧ j = 1) ∨ (c = 48 ∧ j = 1)) (fun c => c = 7 ∨ (18 ≤ c ∧ c < 30) ∨ c = 49) F A F A := gs_fr_refl _ _ _ _
  have b43 := gs_plan_sz hr hI
  have b44 := gs_plan_sz ho hI
  refine sA_aload_n dd_X8_firstUnlike_0 rfl (.head _) ?_
  refine sA_getr (ci := 8) (j := 5) (q := (RX8, TX8, 13)) dd_X8_firstUnlike_1 rfl (by decide) fl_X8_49 (by decide) gs_s0 rfl ?_
  refine sA_aload_n dd_X8_firstUnlike_4 rfl (.head _) ?_
  refine sA_geti (ci := 8) (j := 11) (q := (RX8, TX8, 13)) dd_X8_firstUnlike_5 rfl (by decide) fl_X8_84 (by decide) gs_s0 rfl ?_
  have b45 : (1 : Int) ≤ F 0 11 ∧ F 0 11 ≤ 3 := hI.1 0 11
  refine sA_callV (y2 := m_X0_begin) (n2 := 1) (d2 := 2) (a := 15) (ci := 0) (q := (RX0, TX0, 4)) (as := [gs_iv (F 0 11)]) (rest := []) dd_X8_firstUnlike_8 ok_X0_begin ml_X8_193 rfl rfl (by decide) gs_s15 rfl rfl (Nat.le_of_ble_eq_true rfl) (by decide) (c_X0_begin hI (by omega)) (fun r46 F47 A48 h49 => ?_)
  obtain ⟨e51, I52, f53, x50⟩ := h49
  subst e51
  have f54 := gs_fr_tr hf f53 (fun b j h => by first | exact False.elim h | omega | (dsimp only at h ⊢; omega)) (fun b h => by first | exact False.elim h | omega | (dsimp only at h ⊢; omega))
  show sA _ _ _ 11 _ [] _ _
  refine sA_aload_n dd_X8_firstUnlike_11 rfl (.head _) ?_
  refine sA_getr (ci := 8) (j := 5) (q := (RX8, TX8, 13)) dd_X8_firstUnlike_12 rfl (by decide) fl_X8_49 (by decide) gs_s0 rfl ?_
  refine sA_aload_n dd_X8_firstUnlike_15 rfl (.tail _ (.head _)) ?_
  refine sA_callV (y2 := m_X0_doPlan) (n2 := 1) (d2 := 4) (a := 15) (ci := 0) (q := (RX0, TX0, 4)) (as := [.ref a]) (rest := []) dd_X8_firstUnlike_16 ok_X0_doPlan ml_X8_196 rfl rfl (by decide) gs_s15 rfl rfl (Nat.le_of_ble_eq_true rfl) (by decide) (c_X0_doPlan I52 hr) (fun r55 F56 A57 h58 => ?_)
  obtain ⟨z61, e60, I62, f63, x59⟩ := h58
  subst e60
  have f64 := gs_fr_tr f54 f63 (fun b j h => by first | exact False.elim h | omega | (dsimp only at h ⊢; omega)) (fun b h => by first | exact False.elim h | omega | (dsimp only at h ⊢; omega))
  show sA _ _ _ 19 _ [gs_iv z61] _ _
  refine sA_if_ne (tgt := 26) dd_X8_firstUnlike_19 (by decide) (by omega) (fun q65 => ?_) (fun q65 => ?_)
  · skip
    refine sA_iconst (z := (-1)) dd_X8_firstUnlike_26 ?_
    refine sA_istore_n (lv' := [(3, gs_iv (-1)), (0, .ref 0), (1, .ref a), (2, .ref b)]) dd_X8_firstUnlike_27 rfl (by decide) rfl ?_
    refine sA_iconst (z := 1) dd_X8_firstUnlike_28 ?_
    refine sA_istore (lv' := [(4, gs_iv 1), (3, gs_iv (-1)), (0, .ref 0), (1, .ref a), (2, .ref b)]) dd_X8_firstUnlike_29 (by decide) rfl ?_
    have b66 := gs_plan_sz hr I62
    have b67 := gs_plan_sz ho I62
    refine sA_sub (lv2 := [(4, gs_iv 1), (3, gs_iv (-1)), (0, .ref 0), (2, .ref b)]) (List.forall_mem_cons.mpr ⟨(.head _), (List.forall_mem_cons.mpr ⟨(.tail _ (.head _)), (List.forall_mem_cons.mpr ⟨(.tail _ (.tail _ (.head _))), (List.forall_mem_cons.mpr ⟨(.tail _ (.tail _ (.tail _ (.tail _ (.head _))))), (fun _ h => absurd h List.not_mem_nil)⟩)⟩)⟩)⟩) ?_
    exact (k_X8_firstUnlike hI hr ho (7 - 1 : Int).toNat.succ) (-1) 1 F56 A57 I62 f64 (by omega) (by omega) (by omega)
  · skip
    refine sA_sipush (z := (-1005)) dd_X8_firstUnlike_22 (by decide) ?_
    refine sA_iret (z := -1005) dd_X8_firstUnlike_25 rfl ?_
    exact ⟨_, rfl, I62, f64, by omega⟩
theorem dd_X8_same_0 : decode cX8_same 0 = .ok (.iload_n 1, 1) := by decide +kernel
theorem dd_X8_same_1 : decode cX8_same 1 = .ok (.invokestatic 148, 3) := by decide +kernel
theorem dd_X8_same_4 : decode cX8_same 4 = .ok (.ifCond .eq 10, 3) := by decide +kernel
theorem dd_X8_same_7 : decode cX8_same 7 = .ok (.iload_n 2, 1) := by decide +kernel
theorem dd_X8_same_8 : decode cX8_same 8 = .ok (.invokestatic 148, 3) := by decide +kernel
theorem dd_X8_same_11 : decode cX8_same 11 = .ok (.ifCond .ne 7, 3) := by decide +kernel
theorem dd_X8_same_14 : decode cX8_same 14 = .ok (.sipush (-1001), 3) := by decide +kernel
theorem dd_X8_same_17 : decode cX8_same 17 = .ok (.ireturn, 1) := by decide +kernel
theorem dd_X8_same_18 : decode cX8_same 18 = .ok (.aload_n 0, 1) := by decide +kernel
theorem dd_X8_same_19 : decode cX8_same 19 = .ok (.aload_n 0, 1) := by decide +kernel
theorem dd_X8_same_20 : decode cX8_same 20 = .ok (.getfield 17, 3) := by decide +kernel
theorem dd_X8_same_23 : decode cX8_same 23 = .ok (.iload_n 1, 1) := by decide +kernel
theorem dd_X8_same_24 : decode cX8_same 24 = .ok (.aaload, 1) := by decide +kernel
theorem dd_X8_same_25 : decode cX8_same 25 = .ok (.aload_n 0, 1) := by decide +kernel
theorem dd_X8_same_26 : decode cX8_same 26 = .ok (.getfield 17, 3) := by decide +kernel
theorem dd_X8_same_29 : decode cX8_same 29 = .ok (.iload_n 2, 1) := by decide +kernel
theorem dd_X8_same_30 : decode cX8_same 30 = .ok (.aaload, 1) := by decide +kernel
theorem dd_X8_same_31 : decode cX8_same 31 = .ok (.invokevirtual 189, 3) := by decide +kernel
theorem dd_X8_same_34 : decode cX8_same 34 = .ok (.ireturn, 1) := by decide +kernel
theorem ml_X8_189 : Cond.methodLink RX8 189 m_X8_firstUnlike.1 ∈ am_tbl := ri_lw_in (pl := 622) (by decide +kernel)
theorem ok_X8_same : am_okM m_X8_same 2 ∧ Cond.instanceMethod m_X8_same.1 ∈ am_tbl ∧ Cond.selects m_X8_same.1.cls m_X8_same.1 m_X8_same.1 ∈ am_tbl := ri_mk1 621 82 619 620 (by decide +kernel)
theorem c_X8_same {p q : Int} {F A : gs_F} (hI : gs_I F A) (hp : -2147483648 ≤ p ∧ p ≤ 2147483647) (hq : -2147483648 ≤ q ∧ q ≤ 2147483647) : sC m_X8_same 6 [.ref 0, gs_iv p, gs_iv q] F A (fun rv F' A' => ∃ z : Int, rv = some (gs_iv z) ∧ gs_I F' A' ∧ gs_fr (fun c j => (c = 15 ∧ j = 1) ∨ (18 ≤ c ∧ c < 30 ∧ j = 1) ∨ (c = 48 ∧ j = 1)) (fun c => c = 7 ∨ (18 ≤ c ∧ c < 30) ∨ c = 49) F A F' A' ∧ (True)) := by
  refine sC_of ok_X8_same.1 (Nat.le_of_ble_eq_true rfl) ?_
  show sA _ _ _ 0 [(0, .ref 0), (1, gs_iv p), (2, gs_iv q)] [] F A
  have hf : gs_fr (fun c j => (c = 15 ∧ j = 1) ∨ (18 ≤ c ∧ c < 30 ∧ j = 1) ∨ (c = 48 ∧ j = 1)) (fun c => c = 7 ∨ (18 ≤ c ∧ c < 30) ∨ c = 49) F A F A := gs_fr_refl _ _ _ _
  refine sA_iload_n dd_X8_same_0 rfl (.tail _ (.head _)) ?_
  refine sA_callS (y2 := m_X8_isPlan) (n2 := 1) (d2 := 1) (as := [gs_iv p]) (rest := []) dd_X8_same_1 ok_X8_isPlan ml_X8_148 rfl rfl (Nat.le_of_ble_eq_true rfl) (by decide) (c_X8_isPlan (by omega)) (fun r1 F2 A3 h4 => ?_)
  obtain ⟨z7, e6, e8, e9, x5⟩ := h4
  subst e6 e8 e9
  show sA _ _ _ 4 _ [gs_iv z7] _ _
  refine sA_if_eq (tgt := 14) dd_X8_same_4 (by decide) (by omega) (fun q10 => ?_) (fun q10 => ?_)
  · skip
    refine sA_sipush (z := (-1001)) dd_X8_same_14 (by decide) ?_
    refine sA_iret (z := -1001) dd_X8_same_17 rfl ?_
    exact ⟨_, rfl, hI, hf, trivial⟩
  · skip
    refine sA_iload_n dd_X8_same_7 rfl (.tail _ (.tail _ (.head _))) ?_
    refine sA_callS (y2 := m_X8_isPlan) (n2 := 1) (d2 := 1) (as := [gs_iv q]) (rest := []) dd_X8_same_8 ok_X8_isPlan ml_X8_148 rfl rfl (Nat.le_of_ble_eq_true rfl) (by decide) (c_X8_isPlan (by omega)) (fun r11 F12 A13 h14 => ?_)
    obtain ⟨z17, e16, e18, e19, x15⟩ := h14
    subst e16 e18 e19
    show sA _ _ _ 11 _ [gs_iv z17] _ _
    refine sA_if_ne (tgt := 18) dd_X8_same_11 (by decide) (by omega) (fun q20 => ?_) (fun q20 => ?_)
    · skip
      refine sA_aload_n dd_X8_same_18 rfl (.head _) ?_
      refine sA_aload_n dd_X8_same_19 rfl (.head _) ?_
      refine sA_getr (ci := 8) (j := 1) (q := (RX8, TX8, 13)) dd_X8_same_20 rfl (by decide) fl_X8_17 (by decide) gs_s0 rfl ?_
      refine sA_iload_n dd_X8_same_23 rfl (.tail _ (.head _)) ?_
      refine sA_aald (n := 8) dd_X8_same_24 (by decide) (by decide) (by decide) gs_s2 (by omega) (by decide) ?_
      have g21 := gs_plan_at (k := p.toNat) (by omega)
      refine sA_aload_n dd_X8_same_25 rfl (.head _) ?_
      refine sA_getr (ci := 8) (j := 1) (q := (RX8, TX8, 13)) dd_X8_same_26 rfl (by decide) fl_X8_17 (by decide) gs_s0 rfl ?_
      refine sA_iload_n dd_X8_same_29 rfl (.tail _ (.tail _ (.head _))) ?_
      refine sA_aald (n := 8) dd_X8_same_30 (by decide) (by decide) (by decide) gs_s2 (by omega) (by decide) ?_
      have g22 := gs_plan_at (k := q.toNat) (by omega)
      refine sA_callV (y2 := m_X8_firstUnlike) (n2 := 2) (d2 := 5) (a := 0) (ci := 8) (q := (RX8, TX8, 13)) (as := [.ref (90 + 2 * p.toNat), .ref (90 + 2 * q.toNat)]) (rest := []) dd_X8_same_31 ok_X8_firstUnlike ml_X8_189 rfl rfl (by decide) gs_s0 rfl rfl (Nat.le_of_ble_eq_true rfl) (by decide) (c_X8_firstUnlike hI g21 g22) (fun r23 F24 A25 h26 => ?_)
      obtain ⟨z29, e28, I30, f31, x27⟩ := h26
      subst e28
      have f32 := gs_fr_tr hf f31 (fun b j h => by first | exact False.elim h | omega | (dsimp only at h ⊢; omega)) (fun b h => by first | exact False.elim h | omega | (dsimp only at h ⊢; omega))
      show sA _ _ _ 34 _ [gs_iv z29] _ _
      refine sA_iret (z := z29) dd_X8_same_34 rfl ?_
      exact ⟨_, rfl, I30, f32, trivial⟩
    · skip
      refine sA_sipush (z := (-1001)) dd_X8_same_14 (by decide) ?_
      refine sA_iret (z := -1001) dd_X8_same_17 rfl ?_
      exact ⟨_, rfl, hI, hf, trivial⟩
theorem dd_X8_turns_0 : decode cX8_turns 0 = .ok (.iload_n 1, 1) := by decide +kernel
theorem dd_X8_turns_1 : decode cX8_turns 1 = .ok (.invokestatic 148, 3) := by decide +kernel
theorem dd_X8_turns_4 : decode cX8_turns 4 = .ok (.ifCond .ne 7, 3) := by decide +kernel
theorem dd_X8_turns_7 : decode cX8_turns 7 = .ok (.sipush (-1001), 3) := by decide +kernel
theorem dd_X8_turns_10 : decode cX8_turns 10 = .ok (.ireturn, 1) := by decide +kernel
theorem dd_X8_turns_11 : decode cX8_turns 11 = .ok (.aload_n 0, 1) := by decide +kernel
theorem dd_X8_turns_12 : decode cX8_turns 12 = .ok (.getfield 49, 3) := by decide +kernel
theorem dd_X8_turns_15 : decode cX8_turns 15 = .ok (.aload_n 0, 1) := by decide +kernel
theorem dd_X8_turns_16 : decode cX8_turns 16 = .ok (.getfield 84, 3) := by decide +kernel
theorem dd_X8_turns_19 : decode cX8_turns 19 = .ok (.invokevirtual 193, 3) := by decide +kernel
theorem dd_X8_turns_22 : decode cX8_turns 22 = .ok (.aload_n 0, 1) := by decide +kernel
theorem dd_X8_turns_23 : decode cX8_turns 23 = .ok (.getfield 49, 3) := by decide +kernel
theorem dd_X8_turns_26 : decode cX8_turns 26 = .ok (.aload_n 0, 1) := by decide +kernel
theorem dd_X8_turns_27 : decode cX8_turns 27 = .ok (.getfield 17, 3) := by decide +kernel
theorem dd_X8_turns_30 : decode cX8_turns 30 = .ok (.iload_n 1, 1) := by decide +kernel
theorem dd_X8_turns_31 : decode cX8_turns 31 = .ok (.aaload, 1) := by decide +kernel
theorem dd_X8_turns_32 : decode cX8_turns 32 = .ok (.invokevirtual 196, 3) := by decide +kernel
theorem dd_X8_turns_35 : decode cX8_turns 35 = .ok (.ifCond .eq 17, 3) := by decide +kernel
theorem dd_X8_turns_38 : decode cX8_turns 38 = .ok (.aload_n 0, 1) := by decide +kernel
theorem dd_X8_turns_39 : decode cX8_turns 39 = .ok (.getfield 49, 3) := by decide +kernel
theorem dd_X8_turns_42 : decode cX8_turns 42 = .ok (.aload_n 0, 1) := by decide +kernel
theorem dd_X8_turns_43 : decode cX8_turns 43 = .ok (.getfield 69, 3) := by decide +kernel
theorem dd_X8_turns_46 : decode cX8_turns 46 = .ok (.invokevirtual 199, 3) := by decide +kernel
theorem dd_X8_turns_49 : decode cX8_turns 49 = .ok (.goto 6, 3) := by decide +kernel
theorem dd_X8_turns_52 : decode cX8_turns 52 = .ok (.sipush (-1005), 3) := by decide +kernel
theorem dd_X8_turns_55 : decode cX8_turns 55 = .ok (.ireturn, 1) := by decide +kernel
theorem ml_X8_199 : Cond.methodLink RX8 199 m_X0_fullTurns.1 ∈ am_tbl := ri_lw_in (pl := 644) (by decide +kernel)
theorem ok_X8_turns : am_okM m_X8_turns 1 ∧ Cond.instanceMethod m_X8_turns.1 ∈ am_tbl ∧ Cond.selects m_X8_turns.1.cls m_X8_turns.1 m_X8_turns.1 ∈ am_tbl := ri_mk1 643 82 641 642 (by decide +kernel)
theorem c_X8_turns {p : Int} {F A : gs_F} (hI : gs_I F A) (hp : -2147483648 ≤ p ∧ p ≤ 2147483647) : sC m_X8_turns 5 [.ref 0, gs_iv p] F A (fun rv F' A' => ∃ z : Int, rv = some (gs_iv z) ∧ gs_I F' A' ∧ gs_fr (fun c j => (c = 15 ∧ j = 1) ∨ (18 ≤ c ∧ c < 30 ∧ j = 1) ∨ (c = 48 ∧ j = 1)) (fun c => c = 7 ∨ (18 ≤ c ∧ c < 30) ∨ c = 49) F A F' A' ∧ (True)) := by
  refine sC_of ok_X8_turns.1 (Nat.le_of_ble_eq_true rfl) ?_
  show sA _ _ _ 0 [(0, .ref 0), (1, gs_iv p)] [] F A
  have hf : gs_fr (fun c j => (c = 15 ∧ j = 1) ∨ (18 ≤ c ∧ c < 30 ∧ j = 1) ∨ (c = 48 ∧ j = 1)) (fun c => c = 7 ∨ (18 ≤ c ∧ c < 30) ∨ c = 49) F A F A := gs_fr_refl _ _ _ _
  refine sA_iload_n dd_X8_turns_0 rfl (.tail _ (.head _)) ?_
  refine sA_callS (y2 := m_X8_isPlan) (n2 := 1) (d2 := 1) (as := [gs_iv p]) (rest := []) dd_X8_turns_1 ok_X8_isPlan ml_X8_148 rfl rfl (Nat.le_of_ble_eq_true rfl) (by decide) (c_X8_isPlan (by omega)) (fun r1 F2 A3 h4 => ?_)
  obtain ⟨z7, e6, e8, e9, x5⟩ := h4
  subst e6 e8 e9
  show sA _ _ _ 4 _ [gs_iv z7] _ _
  refine sA_if_ne (tgt := 11) dd_X8_turns_4 (by decide) (by omega) (fun q10 => ?_) (fun q10 => ?_)
  · skip
    refine sA_aload_n dd_X8_turns_11 rfl (.head _) ?_
    refine sA_getr (ci := 8) (j := 5) (q := (RX8, TX8, 13)) dd_X8_turns_12 rfl (by decide) fl_X8_49 (by decide) gs_s0 rfl ?_
    refine sA_aload_n dd_X8_turns_15 rfl (.head _) ?_
    refine sA_geti (ci := 8) (j := 11) (q := (RX8, TX8, 13)) dd_X8_turns_16 rfl (by decide) fl_X8_84 (by decide) gs_s0 rfl ?_
    have b11 : (1 : Int) ≤ F 0 11 ∧ F 0 11 ≤ 3 := hI.1 0 11
    refine sA_callV (y2 := m_X0_begin) (n2 := 1) (d2 := 2) (a := 15) (ci := 0) (q := (RX0, TX0, 4)) (as := [gs_iv (F 0 11)]) (rest := []) dd_X8_turns_19 ok_X0_begin ml_X8_193 rfl rfl (by decide) gs_s15 rfl rfl (Nat.le_of_ble_eq_true rfl) (by decide) (c_X0_begin hI (by omega)) (fun r12 F13 A14 h15 => ?_)
    obtain ⟨e17, I18, f19, x16⟩ := h15
    subst e17
    have f20 := gs_fr_tr hf f19 (fun b j h => by first | exact False.elim h | omega | (dsimp only at h ⊢; omega)) (fun b h => by first | exact False.elim h | omega | (dsimp only at h ⊢; omega))
    show sA _ _ _ 22 _ [] _ _
    refine sA_aload_n dd_X8_turns_22 rfl (.head _) ?_
    refine sA_getr (ci := 8) (j := 5) (q := (RX8, TX8, 13)) dd_X8_turns_23 rfl (by decide) fl_X8_49 (by decide) gs_s0 rfl ?_
    refine sA_aload_n dd_X8_turns_26 rfl (.head _) ?_
    refine sA_getr (ci := 8) (j := 1) (q := (RX8, TX8, 13)) dd_X8_turns_27 rfl (by decide) fl_X8_17 (by decide) gs_s0 rfl ?_
    refine sA_iload_n dd_X8_turns_30 rfl (.tail _ (.head _)) ?_
    refine sA_aald (n := 8) dd_X8_turns_31 (by decide) (by decide) (by decide) gs_s2 (by omega) (by decide) ?_
    have g21 := gs_plan_at (k := p.toNat) (by omega)
    refine sA_callV (y2 := m_X0_doPlan) (n2 := 1) (d2 := 4) (a := 15) (ci := 0) (q := (RX0, TX0, 4)) (as := [.ref (90 + 2 * p.toNat)]) (rest := []) dd_X8_turns_32 ok_X0_doPlan ml_X8_196 rfl rfl (by decide) gs_s15 rfl rfl (Nat.le_of_ble_eq_true rfl) (by decide) (c_X0_doPlan I18 g21) (fun r22 F23 A24 h25 => ?_)
    obtain ⟨z28, e27, I29, f30, x26⟩ := h25
    subst e27
    have f31 := gs_fr_tr f20 f30 (fun b j h => by first | exact False.elim h | omega | (dsimp only at h ⊢; omega)) (fun b h => by first | exact False.elim h | omega | (dsimp only at h ⊢; omega))
    show sA _ _ _ 35 _ [gs_iv z28] _ _
    refine sA_if_eq (tgt := 52) dd_X8_turns_35 (by decide) (by omega) (fun q32 => ?_) (fun q32 => ?_)
    · skip
      refine sA_sipush (z := (-1005)) dd_X8_turns_52 (by decide) ?_
      refine sA_iret (z := -1005) dd_X8_turns_55 rfl ?_
      exact ⟨_, rfl, I29, f31, trivial⟩
    · skip
      refine sA_aload_n dd_X8_turns_38 rfl (.head _) ?_
      refine sA_getr (ci := 8) (j := 5) (q := (RX8, TX8, 13)) dd_X8_turns_39 rfl (by decide) fl_X8_49 (by decide) gs_s0 rfl ?_
      refine sA_aload_n dd_X8_turns_42 rfl (.head _) ?_
      refine sA_getr (ci := 8) (j := 8) (q := (RX8, TX8, 13)) dd_X8_turns_43 rfl (by decide) fl_X8_69 (by decide) gs_s0 rfl ?_
      refine sA_callV (y2 := m_X0_fullTurns) (n2 := 1) (d2 := 4) (a := 15) (ci := 0) (q := (RX0, TX0, 4)) (as := [.ref 48]) (rest := []) dd_X8_turns_46 ok_X0_fullTurns ml_X8_199 rfl rfl (by decide) gs_s15 rfl rfl (Nat.le_of_ble_eq_true rfl) (by decide) (c_X0_fullTurns I29 gs_row_48) (fun r33 F34 A35 h36 => ?_)
      obtain ⟨z39, e38, I40, f41, x37⟩ := h36
      subst e38
      have f42 := gs_fr_tr f31 f41 (fun b j h => by first | exact False.elim h | omega | (dsimp only at h ⊢; omega)) (fun b h => by first | exact False.elim h | omega | (dsimp only at h ⊢; omega))
      show sA _ _ _ 49 _ [gs_iv z39] _ _
      refine sA_goto (tgt := 55) dd_X8_turns_49 (by decide) ?_
      refine sA_iret (z := z39) dd_X8_turns_55 rfl ?_
      exact ⟨_, rfl, I40, f42, trivial⟩
  · skip
    refine sA_sipush (z := (-1001)) dd_X8_turns_7 (by decide) ?_
    refine sA_iret (z := -1001) dd_X8_turns_10 rfl ?_
    exact ⟨_, rfl, hI, hf, trivial⟩
theorem dd_X8_order_0 : decode cX8_order 0 = .ok (.iload_n 1, 1) := by decide +kernel
theorem dd_X8_order_1 : decode cX8_order 1 = .ok (.invokestatic 148, 3) := by decide +kernel
theorem dd_X8_order_4 : decode cX8_order 4 = .ok (.ifCond .ne 7, 3) := by decide +kernel
theorem dd_X8_order_7 : decode cX8_order 7 = .ok (.sipush (-1001), 3) := by decide +kernel
theorem dd_X8_order_10 : decode cX8_order 10 = .ok (.ireturn, 1) := by decide +kernel
theorem dd_X8_order_11 : decode cX8_order 11 = .ok (.iload_n 2, 1) := by decide +kernel
theorem dd_X8_order_12 : decode cX8_order 12 = .ok (.iconst 1, 1) := by decide +kernel
theorem dd_X8_order_13 : decode cX8_order 13 = .ok (.if_icmp .lt 9, 3) := by decide +kernel
theorem dd_X8_order_16 : decode cX8_order 16 = .ok (.iload_n 2, 1) := by decide +kernel
theorem dd_X8_order_17 : decode cX8_order 17 = .ok (.bipush 24, 2) := by decide +kernel
theorem dd_X8_order_19 : decode cX8_order 19 = .ok (.if_icmp .le 7, 3) := by decide +kernel
theorem dd_X8_order_22 : decode cX8_order 22 = .ok (.sipush (-1002), 3) := by decide +kernel
theorem dd_X8_order_25 : decode cX8_order 25 = .ok (.ireturn, 1) := by decide +kernel
theorem dd_X8_order_26 : decode cX8_order 26 = .ok (.aload_n 0, 1) := by decide +kernel
theorem dd_X8_order_27 : decode cX8_order 27 = .ok (.getfield 49, 3) := by decide +kernel
theorem dd_X8_order_30 : decode cX8_order 30 = .ok (.aload_n 0, 1) := by decide +kernel
theorem dd_X8_order_31 : decode cX8_order 31 = .ok (.getfield 84, 3) := by decide +kernel
theorem dd_X8_order_34 : decode cX8_order 34 = .ok (.invokevirtual 193, 3) := by decide +kernel
theorem dd_X8_order_37 : decode cX8_order 37 = .ok (.iconst 1, 1) := by decide +kernel
theorem dd_X8_order_38 : decode cX8_order 38 = .ok (.istore_n 3, 1) := by decide +kernel
theorem dd_X8_order_39 : decode cX8_order 39 = .ok (.iload_n 3, 1) := by decide +kernel
theorem dd_X8_order_40 : decode cX8_order 40 = .ok (.iload_n 2, 1) := by decide +kernel
theorem dd_X8_order_41 : decode cX8_order 41 = .ok (.if_icmp .gt 47, 3) := by decide +kernel
theorem dd_X8_order_44 : decode cX8_order 44 = .ok (.aload_n 0, 1) := by decide +kernel
theorem dd_X8_order_45 : decode cX8_order 45 = .ok (.getfield 49, 3) := by decide +kernel
theorem dd_X8_order_48 : decode cX8_order 48 = .ok (.aload_n 0, 1) := by decide +kernel
theorem dd_X8_order_49 : decode cX8_order 49 = .ok (.getfield 17, 3) := by decide +kernel
theorem dd_X8_order_52 : decode cX8_order 52 = .ok (.iload_n 1, 1) := by decide +kernel
theorem dd_X8_order_53 : decode cX8_order 53 = .ok (.aaload, 1) := by decide +kernel
theorem dd_X8_order_54 : decode cX8_order 54 = .ok (.invokevirtual 196, 3) := by decide +kernel
theorem dd_X8_order_57 : decode cX8_order 57 = .ok (.ifCond .ne 7, 3) := by decide +kernel
theorem dd_X8_order_60 : decode cX8_order 60 = .ok (.sipush (-1005), 3) := by decide +kernel
theorem dd_X8_order_63 : decode cX8_order 63 = .ok (.ireturn, 1) := by decide +kernel
theorem dd_X8_order_64 : decode cX8_order 64 = .ok (.aload_n 0, 1) := by decide +kernel
theorem dd_X8_order_65 : decode cX8_order 65 = .ok (.getfield 49, 3) := by decide +kernel
theorem dd_X8_order_68 : decode cX8_order 68 = .ok (.aload_n 0, 1) := by decide +kernel
theorem dd_X8_order_69 : decode cX8_order 69 = .ok (.getfield 69, 3) := by decide +kernel
theorem dd_X8_order_72 : decode cX8_order 72 = .ok (.invokevirtual 199, 3) := by decide +kernel
theorem dd_X8_order_75 : decode cX8_order 75 = .ok (.bipush 99, 2) := by decide +kernel
theorem dd_X8_order_77 : decode cX8_order 77 = .ok (.if_icmp .eq 5, 3) := by decide +kernel
theorem dd_X8_order_80 : decode cX8_order 80 = .ok (.iload_n 3, 1) := by decide +kernel
theorem dd_X8_order_81 : decode cX8_order 81 = .ok (.ireturn, 1) := by decide +kernel
theorem dd_X8_order_82 : decode cX8_order 82 = .ok (.iinc 3 1, 3) := by decide +kernel
theorem dd_X8_order_85 : decode cX8_order 85 = .ok (.goto (-46), 3) := by decide +kernel
theorem dd_X8_order_88 : decode cX8_order 88 = .ok (.iconst (-1), 1) := by decide +kernel
theorem dd_X8_order_89 : decode cX8_order 89 = .ok (.ireturn, 1) := by decide +kernel
theorem ok_X8_order : am_okM m_X8_order 2 ∧ Cond.instanceMethod m_X8_order.1 ∈ am_tbl ∧ Cond.selects m_X8_order.1.cls m_X8_order.1 m_X8_order.1 ∈ am_tbl := ri_mk1 667 82 665 666 (by decide +kernel)
theorem k_X8_order {p n : Int} {F A : gs_F} (hI : gs_I F A) (hp : -2147483648 ≤ p ∧ p ≤ 2147483647) (hn : -2147483648 ≤ n ∧ n ≤ 2147483647) : ∀ nN : Nat, (∀ (k : Int)  (F1 A1 : gs_F), gs_I F1 A1 → gs_fr (fun c j => (c = 15 ∧ j = 1) ∨ (18 ≤ c ∧ c < 30 ∧ j = 1) ∨ (c = 48 ∧ j = 1)) (fun c => c = 7 ∨ (18 ≤ c ∧ c < 30) ∨ c = 49) F A F1 A1 → 1 ≤ k ∧ k ≤ n + 1 → 0 ≤ p ∧ p ≤ 7 → n ≤ 24 → n + 1 - k < (nN : Int) → sA m_X8_order 5 (fun rv F' A' => ∃ z : Int, rv = some (gs_iv z) ∧ gs_I F' A' ∧ gs_fr (fun c j => (c = 15 ∧ j = 1) ∨ (18 ≤ c ∧ c < 30 ∧ j = 1) ∨ (c = 48 ∧ j = 1)) (fun c => c = 7 ∨ (18 ≤ c ∧ c < 30) ∨ c = 49) F A F' A' ∧ (True)) 39 [(3, gs_iv k), (0, .ref 0), (1, gs_iv p), (2, gs_iv n)] [] F1 A1) := by
  intro nN
  induction nN with
  | zero =>
    exact fun a0 a1 a2 a3 a4 i0 i1 i2 hm => by exfalso; omega
  | succ nN ih =>
    intro k F1 A1 hI1 hf1 i0 i1 i2 hm
    refine sA_iload_n dd_X8_order_39 rfl (.head _) ?_
    refine sA_iload_n dd_X8_order_40 rfl (.tail _ (.tail _ (.tail _ (.head _)))) ?_
    refine sA_icmp_gt (tgt := 88) dd_X8_order_41 (by decide) (by omega) (by omega) (fun q1 => ?_) (fun q1 => ?_)
    · skip
      refine sA_iconst (z := (-1)) dd_X8_order_88 ?_
      refine sA_iret (z := -1) dd_X8_order_89 rfl ?_
      exact ⟨_, rfl, hI1, hf1, trivial⟩
    · skip
      refine sA_aload_n dd_X8_order_44 rfl (.tail _ (.head _)) ?_
      refine sA_getr (ci := 8) (j := 5) (q := (RX8, TX8, 13)) dd_X8_order_45 rfl (by decide) fl_X8_49 (by decide) gs_s0 rfl ?_
      refine sA_aload_n dd_X8_order_48 rfl (.tail _ (.head _)) ?_
      refine sA_getr (ci := 8) (j := 1) (q := (RX8, TX8, 13)) dd_X8_order_49 rfl (by decide) fl_X8_17 (by decide) gs_s0 rfl ?_
      refine sA_iload_n dd_X8_order_52 rfl (.tail _ (.tail _ (.head _))) ?_
      refine sA_aald (n := 8) dd_X8_order_53 (by decide) (by decide) (by decide) gs_s2 (by omega) (by decide) ?_
      have g2 := gs_plan_at (k := p.toNat) (by omega)
      refine sA_callV (y2 := m_X0_doPlan) (n2 := 1) (d2 := 4) (a := 15) (ci := 0) (q := (RX0, TX0, 4)) (as := [.ref (90 + 2 * p.toNat)]) (rest := []) dd_X8_order_54 ok_X0_doPlan ml_X8_196 rfl rfl (by decide) gs_s15 rfl rfl (Nat.le_of_ble_eq_true rfl) (by decide) (c_X0_doPlan hI1 g2) (fun r3 F4 A5 h6 => ?_)
      obtain ⟨z9, e8, I10, f11, x7⟩ := h6
      subst e8
      have f12 := gs_fr_tr hf1 f11 (fun b j h => by first | exact False.elim h | omega | (dsimp only at h ⊢; omega)) (fun b h => by first | exact False.elim h | omega | (dsimp only at h ⊢; omega))
      show sA _ _ _ 57 _ [gs_iv z9] _ _
      refine sA_if_ne (tgt := 64) dd_X8_order_57 (by decide) (by omega) (fun q13 => ?_) (fun q13 => ?_)
      · skip
        refine sA_aload_n dd_X8_order_64 rfl (.tail _ (.head _)) ?_
        refine sA_getr (ci := 8) (j := 5) (q := (RX8, TX8, 13)) dd_X8_order_65 rfl (by decide) fl_X8_49 (by decide) gs_s0 rfl ?_
        refine sA_aload_n dd_X8_order_68 rfl (.tail _ (.head _)) ?_
        refine sA_getr (ci := 8) (j := 8) (q := (RX8, TX8, 13)) dd_X8_order_69 rfl (by decide) fl_X8_69 (by decide) gs_s0 rfl ?_
        refine sA_callV (y2 := m_X0_fullTurns) (n2 := 1) (d2 := 4) (a := 15) (ci := 0) (q := (RX0, TX0, 4)) (as := [.ref 48]) (rest := []) dd_X8_order_72 ok_X0_fullTurns ml_X8_199 rfl rfl (by decide) gs_s15 rfl rfl (Nat.le_of_ble_eq_true rfl) (by decide) (c_X0_fullTurns I10 gs_row_48) (fun r14 F15 A16 h17 => ?_)
        obtain ⟨z20, e19, I21, f22, x18⟩ := h17
        subst e19
        have f23 := gs_fr_tr f12 f22 (fun b j h => by first | exact False.elim h | omega | (dsimp only at h ⊢; omega)) (fun b h => by first | exact False.elim h | omega | (dsimp only at h ⊢; omega))
        show sA _ _ _ 75 _ [gs_iv z20] _ _
        refine sA_bipush (z := 99) dd_X8_order_75 (by decide) ?_
        refine sA_icmp_eq (tgt := 82) dd_X8_order_77 (by decide) (by omega) (by omega) (fun q24 => ?_) (fun q24 => ?_)
        · skip
          refine sA_iinc (lv' := [(3, gs_iv (k + 1)), (0, .ref 0), (1, gs_iv p), (2, gs_iv n)]) dd_X8_order_82 (.head _) (by decide) rfl ?_
          refine sA_goto (tgt := 39) dd_X8_order_85 (by decide) ?_
          refine sA_sub (lv2 := [(3, gs_iv (k + 1)), (0, .ref 0), (1, gs_iv p), (2, gs_iv n)]) (List.forall_mem_cons.mpr ⟨(.head _), (List.forall_mem_cons.mpr ⟨(.tail _ (.head _)), (List.forall_mem_cons.mpr ⟨(.tail _ (.tail _ (.head _))), (List.forall_mem_cons.mpr ⟨(.tail _ (.tail _ (.tail _ (.head _)))), (fun _ h => absurd h List.not_mem_nil)⟩)⟩)⟩)⟩) ?_
          exact ih (k + 1) F15 A16 I21 f23 (by omega) (by omega) (by omega) (by omega)
        · skip
          refine sA_iload_n dd_X8_order_80 rfl (.head _) ?_
          refine sA_iret (z := k) dd_X8_order_81 rfl ?_
          exact ⟨_, rfl, I21, f23, trivial⟩
      · skip
        refine sA_sipush (z := (-1005)) dd_X8_order_60 (by decide) ?_
        refine sA_iret (z := -1005) dd_X8_order_63 rfl ?_
        exact ⟨_, rfl, I10, f12, trivial⟩
theorem c_X8_order {p n : Int} {F A : gs_F} (hI : gs_I F A) (hp : -2147483648 ≤ p ∧ p ≤ 2147483647) (hn : -2147483648 ≤ n ∧ n ≤ 2147483647) : sC m_X8_order 5 [.ref 0, gs_iv p, gs_iv n] F A (fun rv F' A' => ∃ z : Int, rv = some (gs_iv z) ∧ gs_I F' A' ∧ gs_fr (fun c j => (c = 15 ∧ j = 1) ∨ (18 ≤ c ∧ c < 30 ∧ j = 1) ∨ (c = 48 ∧ j = 1)) (fun c => c = 7 ∨ (18 ≤ c ∧ c < 30) ∨ c = 49) F A F' A' ∧ (True)) := by
  refine sC_of ok_X8_order.1 (Nat.le_of_ble_eq_true rfl) ?_
  show sA _ _ _ 0 [(0, .ref 0), (1, gs_iv p), (2, gs_iv n)] [] F A
  have hf : gs_fr (fun c j => (c = 15 ∧ j = 1) ∨ (18 ≤ c ∧ c < 30 ∧ j = 1) ∨ (c = 48 ∧ j = 1)) (fun c => c = 7 ∨ (18 ≤ c ∧ c < 30) ∨ c = 49) F A F A := gs_fr_refl _ _ _ _
  refine sA_iload_n dd_X8_order_0 rfl (.tail _ (.head _)) ?_
  refine sA_callS (y2 := m_X8_isPlan) (n2 := 1) (d2 := 1) (as := [gs_iv p]) (rest := []) dd_X8_order_1 ok_X8_isPlan ml_X8_148 rfl rfl (Nat.le_of_ble_eq_true rfl) (by decide) (c_X8_isPlan (by omega)) (fun r25 F26 A27 h28 => ?_)
  obtain ⟨z31, e30, e32, e33, x29⟩ := h28
  subst e30 e32 e33
  show sA _ _ _ 4 _ [gs_iv z31] _ _
  refine sA_if_ne (tgt := 11) dd_X8_order_4 (by decide) (by omega) (fun q34 => ?_) (fun q34 => ?_)
  · skip
    refine sA_iload_n dd_X8_order_11 rfl (.tail _ (.tail _ (.head _))) ?_
    refine sA_iconst (z := 1) dd_X8_order_12 ?_
    refine sA_icmp_lt (tgt := 22) dd_X8_order_13 (by decide) (by omega) (by omega) (fun q35 => ?_) (fun q35 => ?_)
    · skip
      refine sA_sipush (z := (-1002)) dd_X8_order_22 (by decide) ?_
      refine sA_iret (z := -1002) dd_X8_order_25 rfl ?_
      exact ⟨_, rfl, hI, hf, trivial⟩
    · skip
      refine sA_iload_n dd_X8_order_16 rfl (.tail _ (.tail _ (.head _))) ?_
      refine sA_bipush (z := 24) dd_X8_order_17 (by decide) ?_
      refine sA_icmp_le (tgt := 26) dd_X8_order_19 (by decide) (by omega) (by omega) (fun q36 => ?_) (fun q36 => ?_)
      · skip
        refine sA_aload_n dd_X8_order_26 rfl (.head _) ?_
        refine sA_getr (ci := 8) (j := 5) (q := (RX8, TX8, 13)) dd_X8_order_27 rfl (by decide) fl_X8_49 (by decide) gs_s0 rfl ?_
        refine sA_aload_n dd_X8_order_30 rfl (.head _) ?_
        refine sA_geti (ci := 8) (j := 11) (q := (RX8, TX8, 13)) dd_X8_order_31 rfl (by decide) fl_X8_84 (by decide) gs_s0 rfl ?_
        have b37 : (1 : Int) ≤ F 0 11 ∧ F 0 11 ≤ 3 := hI.1 0 11
        refine sA_callV (y2 := m_X0_begin) (n2 := 1) (d2 := 2) (a := 15) (ci := 0) (q := (RX0, TX0, 4)) (as := [gs_iv (F 0 11)]) (rest := []) dd_X8_order_34 ok_X0_begin ml_X8_193 rfl rfl (by decide) gs_s15 rfl rfl (Nat.le_of_ble_eq_true rfl) (by decide) (c_X0_begin hI (by omega)) (fun r38 F39 A40 h41 => ?_)
        obtain ⟨e43, I44, f45, x42⟩ := h41
        subst e43
        have f46 := gs_fr_tr hf f45 (fun b j h => by first | exact False.elim h | omega | (dsimp only at h ⊢; omega)) (fun b h => by first | exact False.elim h | omega | (dsimp only at h ⊢; omega))
        show sA _ _ _ 37 _ [] _ _
        refine sA_iconst (z := 1) dd_X8_order_37 ?_
        refine sA_istore_n (lv' := [(3, gs_iv 1), (0, .ref 0), (1, gs_iv p), (2, gs_iv n)]) dd_X8_order_38 rfl (by decide) rfl ?_
        refine sA_sub (lv2 := [(3, gs_iv 1), (0, .ref 0), (1, gs_iv p), (2, gs_iv n)]) (List.forall_mem_cons.mpr ⟨(.head _), (List.forall_mem_cons.mpr ⟨(.tail _ (.head _)), (List.forall_mem_cons.mpr ⟨(.tail _ (.tail _ (.head _))), (List.forall_mem_cons.mpr ⟨(.tail _ (.tail _ (.tail _ (.head _)))), (fun _ h => absurd h List.not_mem_nil)⟩)⟩)⟩)⟩) ?_
        exact (k_X8_order hI hp hn (n + 1 - 1 : Int).toNat.succ) 1 F39 A40 I44 f46 (by omega) (by omega) (by omega) (by omega)
      · skip
        refine sA_sipush (z := (-1002)) dd_X8_order_22 (by decide) ?_
        refine sA_iret (z := -1002) dd_X8_order_25 rfl ?_
        exact ⟨_, rfl, hI, hf, trivial⟩
  · skip
    refine sA_sipush (z := (-1001)) dd_X8_order_7 (by decide) ?_
    refine sA_iret (z := -1001) dd_X8_order_10 rfl ?_
    exact ⟨_, rfl, hI, hf, trivial⟩
theorem dd_X8_table_0 : decode cX8_table 0 = .ok (.iload_n 1, 1) := by decide +kernel
theorem dd_X8_table_1 : decode cX8_table 1 = .ok (.invokestatic 148, 3) := by decide +kernel
theorem dd_X8_table_4 : decode cX8_table 4 = .ok (.ifCond .ne 7, 3) := by decide +kernel
theorem dd_X8_table_7 : decode cX8_table 7 = .ok (.sipush (-1001), 3) := by decide +kernel
theorem dd_X8_table_10 : decode cX8_table 10 = .ok (.ireturn, 1) := by decide +kernel
theorem dd_X8_table_11 : decode cX8_table 11 = .ok (.aload_n 0, 1) := by decide +kernel
theorem dd_X8_table_12 : decode cX8_table 12 = .ok (.iload_n 2, 1) := by decide +kernel
theorem dd_X8_table_13 : decode cX8_table 13 = .ok (.invokevirtual 175, 3) := by decide +kernel
theorem dd_X8_table_16 : decode cX8_table 16 = .ok (.ifCond .eq 11, 3) := by decide +kernel
theorem dd_X8_table_19 : decode cX8_table 19 = .ok (.aload_n 0, 1) := by decide +kernel
theorem dd_X8_table_20 : decode cX8_table 20 = .ok (.iload_n 3, 1) := by decide +kernel
theorem dd_X8_table_21 : decode cX8_table 21 = .ok (.invokevirtual 175, 3) := by decide +kernel
theorem dd_X8_table_24 : decode cX8_table 24 = .ok (.ifCond .ne 7, 3) := by decide +kernel
theorem dd_X8_table_27 : decode cX8_table 27 = .ok (.sipush (-1002), 3) := by decide +kernel
theorem dd_X8_table_30 : decode cX8_table 30 = .ok (.ireturn, 1) := by decide +kernel
theorem dd_X8_table_31 : decode cX8_table 31 = .ok (.aload_n 0, 1) := by decide +kernel
theorem dd_X8_table_32 : decode cX8_table 32 = .ok (.getfield 69, 3) := by decide +kernel
theorem dd_X8_table_35 : decode cX8_table 35 = .ok (.iload_n 2, 1) := by decide +kernel
theorem dd_X8_table_36 : decode cX8_table 36 = .ok (.invokevirtual 178, 3) := by decide +kernel
theorem dd_X8_table_39 : decode cX8_table 39 = .ok (.aload_n 0, 1) := by decide +kernel
theorem dd_X8_table_40 : decode cX8_table 40 = .ok (.getfield 33, 3) := by decide +kernel
theorem dd_X8_table_43 : decode cX8_table 43 = .ok (.aload_n 0, 1) := by decide +kernel
theorem dd_X8_table_44 : decode cX8_table 44 = .ok (.getfield 17, 3) := by decide +kernel
theorem dd_X8_table_47 : decode cX8_table 47 = .ok (.iload_n 1, 1) := by decide +kernel
theorem dd_X8_table_48 : decode cX8_table 48 = .ok (.aaload, 1) := by decide +kernel
theorem dd_X8_table_49 : decode cX8_table 49 = .ok (.aload_n 0, 1) := by decide +kernel
theorem dd_X8_table_50 : decode cX8_table 50 = .ok (.getfield 69, 3) := by decide +kernel
theorem dd_X8_table_53 : decode cX8_table 53 = .ok (.invokevirtual 181, 3) := by decide +kernel
theorem dd_X8_table_56 : decode cX8_table 56 = .ok (.ifCond .eq 14, 3) := by decide +kernel
theorem dd_X8_table_59 : decode cX8_table 59 = .ok (.aload_n 0, 1) := by decide +kernel
theorem dd_X8_table_60 : decode cX8_table 60 = .ok (.getfield 69, 3) := by decide +kernel
theorem dd_X8_table_63 : decode cX8_table 63 = .ok (.iload_n 3, 1) := by decide +kernel
theorem dd_X8_table_64 : decode cX8_table 64 = .ok (.invokevirtual 203, 3) := by decide +kernel
theorem dd_X8_table_67 : decode cX8_table 67 = .ok (.goto 6, 3) := by decide +kernel
theorem dd_X8_table_70 : decode cX8_table 70 = .ok (.sipush (-1005), 3) := by decide +kernel
theorem dd_X8_table_73 : decode cX8_table 73 = .ok (.ireturn, 1) := by decide +kernel
theorem ml_X8_203 : Cond.methodLink RX8 203 m_X4_balanceOf.1 ∈ am_tbl := ri_lw_in (pl := 672) (by decide +kernel)
theorem ok_X8_table : am_okM m_X8_table 3 ∧ Cond.instanceMethod m_X8_table.1 ∈ am_tbl ∧ Cond.selects m_X8_table.1.cls m_X8_table.1 m_X8_table.1 ∈ am_tbl := ri_mk1 671 82 669 670 (by decide +kernel)
theorem c_X8_table {p x u : Int} {F A : gs_F} (hI : gs_I F A) (hp : -2147483648 ≤ p ∧ p ≤ 2147483647) (hx : -2147483648 ≤ x ∧ x ≤ 2147483647) (hu : -2147483648 ≤ u ∧ u ≤ 2147483647) : sC m_X8_table 4 [.ref 0, gs_iv p, gs_iv x, gs_iv u] F A (fun rv F' A' => ∃ z : Int, rv = some (gs_iv z) ∧ gs_I F' A' ∧ gs_fr (fun c j => c = 48 ∧ j = 1) (fun c => c = 49 ∨ c = 7) F A F' A' ∧ (True)) := by
  refine sC_of ok_X8_table.1 (Nat.le_of_ble_eq_true rfl) ?_
  show sA _ _ _ 0 [(0, .ref 0), (1, gs_iv p), (2, gs_iv x), (3, gs_iv u)] [] F A
  have hf : gs_fr (fun c j => c = 48 ∧ j = 1) (fun c => c = 49 ∨ c = 7) F A F A := gs_fr_refl _ _ _ _
  refine sA_iload_n dd_X8_table_0 rfl (.tail _ (.head _)) ?_
  refine sA_callS (y2 := m_X8_isPlan) (n2 := 1) (d2 := 1) (as := [gs_iv p]) (rest := []) dd_X8_table_1 ok_X8_isPlan ml_X8_148 rfl rfl (Nat.le_of_ble_eq_true rfl) (by decide) (c_X8_isPlan (by omega)) (fun r1 F2 A3 h4 => ?_)
  obtain ⟨z7, e6, e8, e9, x5⟩ := h4
  subst e6 e8 e9
  show sA _ _ _ 4 _ [gs_iv z7] _ _
  refine sA_if_ne (tgt := 11) dd_X8_table_4 (by decide) (by omega) (fun q10 => ?_) (fun q10 => ?_)
  · skip
    refine sA_aload_n dd_X8_table_11 rfl (.head _) ?_
    refine sA_iload_n dd_X8_table_12 rfl (.tail _ (.tail _ (.head _))) ?_
    refine sA_callV (y2 := m_X8_isLetter) (n2 := 1) (d2 := 1) (a := 0) (ci := 8) (q := (RX8, TX8, 13)) (as := [gs_iv x]) (rest := []) dd_X8_table_13 ok_X8_isLetter ml_X8_175 rfl rfl (by decide) gs_s0 rfl rfl (Nat.le_of_ble_eq_true rfl) (by decide) (c_X8_isLetter hI (by omega)) (fun r11 F12 A13 h14 => ?_)
    obtain ⟨z17, e16, e18, e19, x15⟩ := h14
    subst e16 e18 e19
    show sA _ _ _ 16 _ [gs_iv z17] _ _
    refine sA_if_eq (tgt := 27) dd_X8_table_16 (by decide) (by omega) (fun q20 => ?_) (fun q20 => ?_)
    · skip
      refine sA_sipush (z := (-1002)) dd_X8_table_27 (by decide) ?_
      refine sA_iret (z := -1002) dd_X8_table_30 rfl ?_
      exact ⟨_, rfl, hI, hf, trivial⟩
    · skip
      refine sA_aload_n dd_X8_table_19 rfl (.head _) ?_
      refine sA_iload_n dd_X8_table_20 rfl (.tail _ (.tail _ (.tail _ (.head _)))) ?_
      refine sA_callV (y2 := m_X8_isLetter) (n2 := 1) (d2 := 1) (a := 0) (ci := 8) (q := (RX8, TX8, 13)) (as := [gs_iv u]) (rest := []) dd_X8_table_21 ok_X8_isLetter ml_X8_175 rfl rfl (by decide) gs_s0 rfl rfl (Nat.le_of_ble_eq_true rfl) (by decide) (c_X8_isLetter hI (by omega)) (fun r21 F22 A23 h24 => ?_)
      obtain ⟨z27, e26, e28, e29, x25⟩ := h24
      subst e26 e28 e29
      show sA _ _ _ 24 _ [gs_iv z27] _ _
      refine sA_if_ne (tgt := 31) dd_X8_table_24 (by decide) (by omega) (fun q30 => ?_) (fun q30 => ?_)
      · skip
        refine sA_aload_n dd_X8_table_31 rfl (.head _) ?_
        refine sA_getr (ci := 8) (j := 8) (q := (RX8, TX8, 13)) dd_X8_table_32 rfl (by decide) fl_X8_69 (by decide) gs_s0 rfl ?_
        refine sA_iload_n dd_X8_table_35 rfl (.tail _ (.tail _ (.head _))) ?_
        refine sA_callV (y2 := m_X4_becomeLetter) (n2 := 1) (d2 := 1) (a := 48) (ci := 4) (q := (RX4, TX4, 2)) (as := [gs_iv x]) (rest := []) dd_X8_table_36 ok_X4_becomeLetter ml_X8_178 rfl rfl (Nat.lt_of_succ_lt gs_row_48.1) gs_row_48.2.1 rfl rfl (Nat.le_of_ble_eq_true rfl) (by decide) (c_X4_becomeLetter hI gs_row_48 (by omega)) (fun r31 F32 A33 h34 => ?_)
        obtain ⟨e36, I37, f38, x35⟩ := h34
        subst e36
        have f39 := gs_fr_tr hf f38 (fun b j h => by first | exact False.elim h | omega | (dsimp only at h ⊢; omega)) (fun b h => by first | exact False.elim h | omega | (dsimp only at h ⊢; omega))
        show sA _ _ _ 39 _ [] _ _
        refine sA_aload_n dd_X8_table_39 rfl (.head _) ?_
        refine sA_getr (ci := 8) (j := 3) (q := (RX8, TX8, 13)) dd_X8_table_40 rfl (by decide) fl_X8_33 (by decide) gs_s0 rfl ?_
        refine sA_aload_n dd_X8_table_43 rfl (.head _) ?_
        refine sA_getr (ci := 8) (j := 1) (q := (RX8, TX8, 13)) dd_X8_table_44 rfl (by decide) fl_X8_17 (by decide) gs_s0 rfl ?_
        refine sA_iload_n dd_X8_table_47 rfl (.tail _ (.head _)) ?_
        refine sA_aald (n := 8) dd_X8_table_48 (by decide) (by decide) (by decide) gs_s2 (by omega) (by decide) ?_
        have g40 := gs_plan_at (k := p.toNat) (by omega)
        refine sA_aload_n dd_X8_table_49 rfl (.head _) ?_
        refine sA_getr (ci := 8) (j := 8) (q := (RX8, TX8, 13)) dd_X8_table_50 rfl (by decide) fl_X8_69 (by decide) gs_s0 rfl ?_
        refine sA_callV (y2 := m_X7_doPlan) (n2 := 2) (d2 := 3) (a := 5) (ci := 7) (q := (RX7, TX7, 5)) (as := [.ref (90 + 2 * p.toNat), .ref 48]) (rest := []) dd_X8_table_53 ok_X7_doPlan ml_X8_181 rfl rfl (by decide) gs_s5 rfl rfl (Nat.le_of_ble_eq_true rfl) (by decide) (c_X7_doPlan I37 g40 gs_row_48) (fun r41 F42 A43 h44 => ?_)
        obtain ⟨z47, e46, I48, f49, x45⟩ := h44
        subst e46
        have f50 := gs_fr_tr f39 f49 (fun b j h => by first | exact False.elim h | omega | (dsimp only at h ⊢; omega)) (fun b h => by first | exact False.elim h | omega | (dsimp only at h ⊢; omega))
        show sA _ _ _ 56 _ [gs_iv z47] _ _
        refine sA_if_eq (tgt := 70) dd_X8_table_56 (by decide) (by omega) (fun q51 => ?_) (fun q51 => ?_)
        · skip
          refine sA_sipush (z := (-1005)) dd_X8_table_70 (by decide) ?_
          refine sA_iret (z := -1005) dd_X8_table_73 rfl ?_
          exact ⟨_, rfl, I48, f50, trivial⟩
        · skip
          refine sA_aload_n dd_X8_table_59 rfl (.head _) ?_
          refine sA_getr (ci := 8) (j := 8) (q := (RX8, TX8, 13)) dd_X8_table_60 rfl (by decide) fl_X8_69 (by decide) gs_s0 rfl ?_
          refine sA_iload_n dd_X8_table_63 rfl (.tail _ (.tail _ (.tail _ (.head _)))) ?_
          refine sA_callV (y2 := m_X4_balanceOf) (n2 := 1) (d2 := 1) (a := 48) (ci := 4) (q := (RX4, TX4, 2)) (as := [gs_iv u]) (rest := []) dd_X8_table_64 ok_X4_balanceOf ml_X8_203 rfl rfl (Nat.lt_of_succ_lt gs_row_48.1) gs_row_48.2.1 rfl rfl (Nat.le_of_ble_eq_true rfl) (by decide) (c_X4_balanceOf I48 gs_row_48 (by omega)) (fun r52 F53 A54 h55 => ?_)
          obtain ⟨z58, e57, e59, e60, x56⟩ := h55
          subst e57 e59 e60
          show sA _ _ _ 67 _ [gs_iv z58] _ _
          refine sA_goto (tgt := 73) dd_X8_table_67 (by decide) ?_
          refine sA_iret (z := z58) dd_X8_table_73 rfl ?_
          exact ⟨_, rfl, I48, f50, trivial⟩
      · skip
        refine sA_sipush (z := (-1002)) dd_X8_table_27 (by decide) ?_
        refine sA_iret (z := -1002) dd_X8_table_30 rfl ?_
        exact ⟨_, rfl, hI, hf, trivial⟩
  · skip
    refine sA_sipush (z := (-1001)) dd_X8_table_7 (by decide) ?_
    refine sA_iret (z := -1001) dd_X8_table_10 rfl ?_
    exact ⟨_, rfl, hI, hf, trivial⟩
theorem dd_X8_character_0 : decode cX8_character 0 = .ok (.iload_n 1, 1) := by decide +kernel
theorem dd_X8_character_1 : decode cX8_character 1 = .ok (.invokestatic 148, 3) := by decide +kernel
theorem dd_X8_character_4 : decode cX8_character 4 = .ok (.ifCond .ne 7, 3) := by decide +kernel
theorem dd_X8_character_7 : decode cX8_character 7 = .ok (.ldc2_w 206, 3) := by decide +kernel
theorem dd_X8_character_10 : decode cX8_character 10 = .ok (.lreturn, 1) := by decide +kernel
theorem dd_X8_character_11 : decode cX8_character 11 = .ok (.iload_n 2, 1) := by decide +kernel
theorem dd_X8_character_12 : decode cX8_character 12 = .ok (.ifCond .lt 13, 3) := by decide +kernel
theorem dd_X8_character_15 : decode cX8_character 15 = .ok (.iload_n 2, 1) := by decide +kernel
theorem dd_X8_character_16 : decode cX8_character 16 = .ok (.iconst 2, 1) := by decide +kernel
theorem dd_X8_character_17 : decode cX8_character 17 = .ok (.aload_n 0, 1) := by decide +kernel
theorem dd_X8_character_18 : decode cX8_character 18 = .ok (.getfield 84, 3) := by decide +kernel
theorem dd_X8_character_21 : decode cX8_character 21 = .ok (.imul, 1) := by decide +kernel
theorem dd_X8_character_22 : decode cX8_character 22 = .ok (.if_icmp .le 7, 3) := by decide +kernel
theorem dd_X8_character_25 : decode cX8_character 25 = .ok (.ldc2_w 208, 3) := by decide +kernel
theorem dd_X8_character_28 : decode cX8_character 28 = .ok (.lreturn, 1) := by decide +kernel
theorem dd_X8_character_29 : decode cX8_character 29 = .ok (.aload_n 0, 1) := by decide +kernel
theorem dd_X8_character_30 : decode cX8_character 30 = .ok (.getfield 49, 3) := by decide +kernel
theorem dd_X8_character_33 : decode cX8_character 33 = .ok (.aload_n 0, 1) := by decide +kernel
theorem dd_X8_character_34 : decode cX8_character 34 = .ok (.getfield 84, 3) := by decide +kernel
theorem dd_X8_character_37 : decode cX8_character 37 = .ok (.invokevirtual 193, 3) := by decide +kernel
theorem dd_X8_character_40 : decode cX8_character 40 = .ok (.aload_n 0, 1) := by decide +kernel
theorem dd_X8_character_41 : decode cX8_character 41 = .ok (.getfield 49, 3) := by decide +kernel
theorem dd_X8_character_44 : decode cX8_character 44 = .ok (.aload_n 0, 1) := by decide +kernel
theorem dd_X8_character_45 : decode cX8_character 45 = .ok (.getfield 17, 3) := by decide +kernel
theorem dd_X8_character_48 : decode cX8_character 48 = .ok (.iload_n 1, 1) := by decide +kernel
theorem dd_X8_character_49 : decode cX8_character 49 = .ok (.aaload, 1) := by decide +kernel
theorem dd_X8_character_50 : decode cX8_character 50 = .ok (.invokevirtual 196, 3) := by decide +kernel
theorem dd_X8_character_53 : decode cX8_character 53 = .ok (.ifCond .eq 14, 3) := by decide +kernel
theorem dd_X8_character_56 : decode cX8_character 56 = .ok (.aload_n 0, 1) := by decide +kernel
theorem dd_X8_character_57 : decode cX8_character 57 = .ok (.getfield 49, 3) := by decide +kernel
theorem dd_X8_character_60 : decode cX8_character 60 = .ok (.iload_n 2, 1) := by decide +kernel
theorem dd_X8_character_61 : decode cX8_character 61 = .ok (.invokevirtual 210, 3) := by decide +kernel
theorem dd_X8_character_64 : decode cX8_character 64 = .ok (.goto 6, 3) := by decide +kernel
theorem dd_X8_character_67 : decode cX8_character 67 = .ok (.ldc2_w 214, 3) := by decide +kernel
theorem dd_X8_character_70 : decode cX8_character 70 = .ok (.lreturn, 1) := by decide +kernel
theorem ml_X8_210 : Cond.methodLink RX8 210 m_X0_cornerSum.1 ∈ am_tbl := ri_lw_in (pl := 682) (by decide +kernel)
theorem ok_X8_character : am_okM m_X8_character 2 ∧ Cond.instanceMethod m_X8_character.1 ∈ am_tbl ∧ Cond.selects m_X8_character.1.cls m_X8_character.1 m_X8_character.1 ∈ am_tbl := ri_mk1 679 82 677 678 (by decide +kernel)
theorem c_X8_character {p k : Int} {F A : gs_F} (hI : gs_I F A) (hp : -2147483648 ≤ p ∧ p ≤ 2147483647) (hk : -2147483648 ≤ k ∧ k ≤ 2147483647) : sC m_X8_character 9 [.ref 0, gs_iv p, gs_iv k] F A (fun rv F' A' => ∃ z : Int64, rv = some (.long z) ∧ gs_I F' A' ∧ gs_fr (fun c j => (c = 15 ∧ j = 1) ∨ (18 ≤ c ∧ c < 30 ∧ j = 1)) (fun c => c = 7 ∨ (18 ≤ c ∧ c < 30) ∨ c = 17) F A F' A' ∧ (True)) := by
  refine sC_of ok_X8_character.1 (Nat.le_of_ble_eq_true rfl) ?_
  show sA _ _ _ 0 [(0, .ref 0), (1, gs_iv p), (2, gs_iv k)] [] F A
  have hf : gs_fr (fun c j => (c = 15 ∧ j = 1) ∨ (18 ≤ c ∧ c < 30 ∧ j = 1)) (fun c => c = 7 ∨ (18 ≤ c ∧ c < 30) ∨ c = 17) F A F A := gs_fr_refl _ _ _ _
  refine sA_iload_n dd_X8_character_0 rfl (.tail _ (.head _)) ?_
  refine sA_callS (y2 := m_X8_isPlan) (n2 := 1) (d2 := 1) (as := [gs_iv p]) (rest := []) dd_X8_character_1 ok_X8_isPlan ml_X8_148 rfl rfl (Nat.le_of_ble_eq_true rfl) (by decide) (c_X8_isPlan (by omega)) (fun r1 F2 A3 h4 => ?_)
  obtain ⟨z7, e6, e8, e9, x5⟩ := h4
  subst e6 e8 e9
  show sA _ _ _ 4 _ [gs_iv z7] _ _
  refine sA_if_ne (tgt := 11) dd_X8_character_4 (by decide) (by omega) (fun q10 => ?_) (fun q10 => ?_)
  · skip
    refine sA_iload_n dd_X8_character_11 rfl (.tail _ (.tail _ (.head _))) ?_
    refine sA_if_lt (tgt := 25) dd_X8_character_12 (by decide) (by omega) (fun q11 => ?_) (fun q11 => ?_)
    · skip
      refine sA_ldc2 (z := -1002) dd_X8_character_25 (ri_lw_in (pl := 681) (by decide +kernel)) ?_
      refine sA_lret dd_X8_character_28 rfl ?_
      exact ⟨_, rfl, hI, hf, trivial⟩
    · skip
      refine sA_iload_n dd_X8_character_15 rfl (.tail _ (.tail _ (.head _))) ?_
      refine sA_iconst (z := 2) dd_X8_character_16 ?_
      refine sA_aload_n dd_X8_character_17 rfl (.head _) ?_
      refine sA_geti (ci := 8) (j := 11) (q := (RX8, TX8, 13)) dd_X8_character_18 rfl (by decide) fl_X8_84 (by decide) gs_s0 rfl ?_
      have b12 : (1 : Int) ≤ F 0 11 ∧ F 0 11 ≤ 3 := hI.1 0 11
      refine sA_imul dd_X8_character_21 ?_
      refine sA_icmp_le (tgt := 29) dd_X8_character_22 (by decide) (by omega) (by omega) (fun q13 => ?_) (fun q13 => ?_)
      · skip
        refine sA_aload_n dd_X8_character_29 rfl (.head _) ?_
        refine sA_getr (ci := 8) (j := 5) (q := (RX8, TX8, 13)) dd_X8_character_30 rfl (by decide) fl_X8_49 (by decide) gs_s0 rfl ?_
        refine sA_aload_n dd_X8_character_33 rfl (.head _) ?_
        refine sA_geti (ci := 8) (j := 11) (q := (RX8, TX8, 13)) dd_X8_character_34 rfl (by decide) fl_X8_84 (by decide) gs_s0 rfl ?_
        refine sA_callV (y2 := m_X0_begin) (n2 := 1) (d2 := 2) (a := 15) (ci := 0) (q := (RX0, TX0, 4)) (as := [gs_iv (F 0 11)]) (rest := []) dd_X8_character_37 ok_X0_begin ml_X8_193 rfl rfl (by decide) gs_s15 rfl rfl (Nat.le_of_ble_eq_true rfl) (by decide) (c_X0_begin hI (by omega)) (fun r14 F15 A16 h17 => ?_)
        obtain ⟨e19, I20, f21, x18⟩ := h17
        subst e19
        have f22 := gs_fr_tr hf f21 (fun b j h => by first | exact False.elim h | omega | (dsimp only at h ⊢; omega)) (fun b h => by first | exact False.elim h | omega | (dsimp only at h ⊢; omega))
        show sA _ _ _ 40 _ [] _ _
        refine sA_aload_n dd_X8_character_40 rfl (.head _) ?_
        refine sA_getr (ci := 8) (j := 5) (q := (RX8, TX8, 13)) dd_X8_character_41 rfl (by decide) fl_X8_49 (by decide) gs_s0 rfl ?_
        refine sA_aload_n dd_X8_character_44 rfl (.head _) ?_
        refine sA_getr (ci := 8) (j := 1) (q := (RX8, TX8, 13)) dd_X8_character_45 rfl (by decide) fl_X8_17 (by decide) gs_s0 rfl ?_
        refine sA_iload_n dd_X8_character_48 rfl (.tail _ (.head _)) ?_
        refine sA_aald (n := 8) dd_X8_character_49 (by decide) (by decide) (by decide) gs_s2 (by omega) (by decide) ?_
        have g23 := gs_plan_at (k := p.toNat) (by omega)
        refine sA_callV (y2 := m_X0_doPlan) (n2 := 1) (d2 := 4) (a := 15) (ci := 0) (q := (RX0, TX0, 4)) (as := [.ref (90 + 2 * p.toNat)]) (rest := []) dd_X8_character_50 ok_X0_doPlan ml_X8_196 rfl rfl (by decide) gs_s15 rfl rfl (Nat.le_of_ble_eq_true rfl) (by decide) (c_X0_doPlan I20 g23) (fun r24 F25 A26 h27 => ?_)
        obtain ⟨z30, e29, I31, f32, x28⟩ := h27
        subst e29
        have f33 := gs_fr_tr f22 f32 (fun b j h => by first | exact False.elim h | omega | (dsimp only at h ⊢; omega)) (fun b h => by first | exact False.elim h | omega | (dsimp only at h ⊢; omega))
        show sA _ _ _ 53 _ [gs_iv z30] _ _
        refine sA_if_eq (tgt := 67) dd_X8_character_53 (by decide) (by omega) (fun q34 => ?_) (fun q34 => ?_)
        · skip
          refine sA_ldc2 (z := -1005) dd_X8_character_67 (ri_lw_in (pl := 696) (by decide +kernel)) ?_
          refine sA_lret dd_X8_character_70 rfl ?_
          exact ⟨_, rfl, I31, f33, trivial⟩
        · skip
          refine sA_aload_n dd_X8_character_56 rfl (.head _) ?_
          refine sA_getr (ci := 8) (j := 5) (q := (RX8, TX8, 13)) dd_X8_character_57 rfl (by decide) fl_X8_49 (by decide) gs_s0 rfl ?_
          refine sA_iload_n dd_X8_character_60 rfl (.tail _ (.tail _ (.head _))) ?_
          refine sA_callV (y2 := m_X0_cornerSum) (n2 := 1) (d2 := 8) (a := 15) (ci := 0) (q := (RX0, TX0, 4)) (as := [gs_iv k]) (rest := []) dd_X8_character_61 ok_X0_cornerSum ml_X8_210 rfl rfl (by decide) gs_s15 rfl rfl (Nat.le_of_ble_eq_true rfl) (by decide) (c_X0_cornerSum I31 (by omega)) (fun r35 F36 A37 h38 => ?_)
          obtain ⟨z41, e40, I42, f43, x39⟩ := h38
          subst e40
          have f44 := gs_fr_tr f33 f43 (fun b j h => by first | exact False.elim h | omega | (dsimp only at h ⊢; omega)) (fun b h => by first | exact False.elim h | omega | (dsimp only at h ⊢; omega))
          show sA _ _ _ 64 _ [.long z41] _ _
          refine sA_goto (tgt := 70) dd_X8_character_64 (by decide) ?_
          refine sA_lret dd_X8_character_70 rfl ?_
          exact ⟨_, rfl, I42, f44, trivial⟩
      · skip
        refine sA_ldc2 (z := -1002) dd_X8_character_25 (ri_lw_in (pl := 681) (by decide +kernel)) ?_
        refine sA_lret dd_X8_character_28 rfl ?_
        exact ⟨_, rfl, hI, hf, trivial⟩
  · skip
    refine sA_ldc2 (z := -1001) dd_X8_character_7 (ri_lw_in (pl := 680) (by decide +kernel)) ?_
    refine sA_lret dd_X8_character_10 rfl ?_
    exact ⟨_, rfl, hI, hf, trivial⟩
theorem dd_X8_length_0 : decode cX8_length 0 = .ok (.iload_n 1, 1) := by decide +kernel
theorem dd_X8_length_1 : decode cX8_length 1 = .ok (.invokestatic 148, 3) := by decide +kernel
theorem dd_X8_length_4 : decode cX8_length 4 = .ok (.ifCond .ne 7, 3) := by decide +kernel
theorem dd_X8_length_7 : decode cX8_length 7 = .ok (.sipush (-1001), 3) := by decide +kernel
theorem dd_X8_length_10 : decode cX8_length 10 = .ok (.ireturn, 1) := by decide +kernel
theorem dd_X8_length_11 : decode cX8_length 11 = .ok (.iload_n 2, 1) := by decide +kernel
theorem dd_X8_length_12 : decode cX8_length 12 = .ok (.ifCond .lt 9, 3) := by decide +kernel
theorem dd_X8_length_15 : decode cX8_length 15 = .ok (.iload_n 2, 1) := by decide +kernel
theorem dd_X8_length_16 : decode cX8_length 16 = .ok (.bipush 24, 2) := by decide +kernel
theorem dd_X8_length_18 : decode cX8_length 18 = .ok (.if_icmp .le 7, 3) := by decide +kernel
theorem dd_X8_length_21 : decode cX8_length 21 = .ok (.sipush (-1002), 3) := by decide +kernel
theorem dd_X8_length_24 : decode cX8_length 24 = .ok (.ireturn, 1) := by decide +kernel
theorem dd_X8_length_25 : decode cX8_length 25 = .ok (.aload_n 0, 1) := by decide +kernel
theorem dd_X8_length_26 : decode cX8_length 26 = .ok (.getfield 49, 3) := by decide +kernel
theorem dd_X8_length_29 : decode cX8_length 29 = .ok (.aload_n 0, 1) := by decide +kernel
theorem dd_X8_length_30 : decode cX8_length 30 = .ok (.getfield 84, 3) := by decide +kernel
theorem dd_X8_length_33 : decode cX8_length 33 = .ok (.invokevirtual 193, 3) := by decide +kernel
theorem dd_X8_length_36 : decode cX8_length 36 = .ok (.iconst 0, 1) := by decide +kernel
theorem dd_X8_length_37 : decode cX8_length 37 = .ok (.istore_n 3, 1) := by decide +kernel
theorem dd_X8_length_38 : decode cX8_length 38 = .ok (.iload_n 3, 1) := by decide +kernel
theorem dd_X8_length_39 : decode cX8_length 39 = .ok (.iload_n 2, 1) := by decide +kernel
theorem dd_X8_length_40 : decode cX8_length 40 = .ok (.if_icmp .ge 29, 3) := by decide +kernel
theorem dd_X8_length_43 : decode cX8_length 43 = .ok (.aload_n 0, 1) := by decide +kernel
theorem dd_X8_length_44 : decode cX8_length 44 = .ok (.getfield 49, 3) := by decide +kernel
theorem dd_X8_length_47 : decode cX8_length 47 = .ok (.aload_n 0, 1) := by decide +kernel
theorem dd_X8_length_48 : decode cX8_length 48 = .ok (.getfield 17, 3) := by decide +kernel
theorem dd_X8_length_51 : decode cX8_length 51 = .ok (.iload_n 1, 1) := by decide +kernel
theorem dd_X8_length_52 : decode cX8_length 52 = .ok (.aaload, 1) := by decide +kernel
theorem dd_X8_length_53 : decode cX8_length 53 = .ok (.invokevirtual 196, 3) := by decide +kernel
theorem dd_X8_length_56 : decode cX8_length 56 = .ok (.ifCond .ne 7, 3) := by decide +kernel
theorem dd_X8_length_59 : decode cX8_length 59 = .ok (.sipush (-1005), 3) := by decide +kernel
theorem dd_X8_length_62 : decode cX8_length 62 = .ok (.ireturn, 1) := by decide +kernel
theorem dd_X8_length_63 : decode cX8_length 63 = .ok (.iinc 3 1, 3) := by decide +kernel
theorem dd_X8_length_66 : decode cX8_length 66 = .ok (.goto (-28), 3) := by decide +kernel
theorem dd_X8_length_69 : decode cX8_length 69 = .ok (.aload_n 0, 1) := by decide +kernel
theorem dd_X8_length_70 : decode cX8_length 70 = .ok (.getfield 49, 3) := by decide +kernel
theorem dd_X8_length_73 : decode cX8_length 73 = .ok (.invokevirtual 216, 3) := by decide +kernel
theorem dd_X8_length_76 : decode cX8_length 76 = .ok (.ireturn, 1) := by decide +kernel
theorem ml_X8_216 : Cond.methodLink RX8 216 m_X0_lettersTogether.1 ∈ am_tbl := ri_lw_in (pl := 701) (by decide +kernel)
theorem ok_X8_length : am_okM m_X8_length 2 ∧ Cond.instanceMethod m_X8_length.1 ∈ am_tbl ∧ Cond.selects m_X8_length.1.cls m_X8_length.1 m_X8_length.1 ∈ am_tbl := ri_mk1 700 82 698 699 (by decide +kernel)
theorem k_X8_length {p k : Int} {F A : gs_F} (hI : gs_I F A) (hp : -2147483648 ≤ p ∧ p ≤ 2147483647) (hk : -2147483648 ≤ k ∧ k ≤ 2147483647) : ∀ nN : Nat, (∀ (t : Int)  (F1 A1 : gs_F), gs_I F1 A1 → gs_fr (fun c j => (c = 15 ∧ j = 1) ∨ (18 ≤ c ∧ c < 30 ∧ j = 1)) (fun c => c = 7 ∨ (18 ≤ c ∧ c < 30)) F A F1 A1 → 0 ≤ t ∧ t ≤ k → 0 ≤ p ∧ p ≤ 7 → k ≤ 24 → k - t < (nN : Int) → sA m_X8_length 5 (fun rv F' A' => ∃ z : Int, rv = some (gs_iv z) ∧ gs_I F' A' ∧ gs_fr (fun c j => (c = 15 ∧ j = 1) ∨ (18 ≤ c ∧ c < 30 ∧ j = 1)) (fun c => c = 7 ∨ (18 ≤ c ∧ c < 30)) F A F' A' ∧ (True)) 38 [(3, gs_iv t), (0, .ref 0), (1, gs_iv p), (2, gs_iv k)] [] F1 A1) := by
  intro nN
  induction nN with
  | zero =>
    exact fun a0 a1 a2 a3 a4 i0 i1 i2 hm => by exfalso; omega
  | succ nN ih =>
    intro t F1 A1 hI1 hf1 i0 i1 i2 hm
    refine sA_iload_n dd_X8_length_38 rfl (.head _) ?_
    refine sA_iload_n dd_X8_length_39 rfl (.tail _ (.tail _ (.tail _ (.head _)))) ?_
    refine sA_icmp_ge (tgt := 69) dd_X8_length_40 (by decide) (by omega) (by omega) (fun q1 => ?_) (fun q1 => ?_)
    · skip
      refine sA_aload_n dd_X8_length_69 rfl (.tail _ (.head _)) ?_
      refine sA_getr (ci := 8) (j := 5) (q := (RX8, TX8, 13)) dd_X8_length_70 rfl (by decide) fl_X8_49 (by decide) gs_s0 rfl ?_
      refine sA_callV (y2 := m_X0_lettersTogether) (n2 := 0) (d2 := 1) (a := 15) (ci := 0) (q := (RX0, TX0, 4)) (as := []) (rest := []) dd_X8_length_73 ok_X0_lettersTogether ml_X8_216 rfl rfl (by decide) gs_s15 rfl rfl (Nat.le_of_ble_eq_true rfl) (by decide) (c_X0_lettersTogether hI1 ) (fun r2 F3 A4 h5 => ?_)
      obtain ⟨z8, e7, e9, e10, x6⟩ := h5
      subst e7 e9 e10
      show sA _ _ _ 76 _ [gs_iv z8] _ _
      refine sA_iret (z := z8) dd_X8_length_76 rfl ?_
      exact ⟨_, rfl, hI1, hf1, trivial⟩
    · skip
      refine sA_aload_n dd_X8_length_43 rfl (.tail _ (.head _)) ?_
      refine sA_getr (ci := 8) (j := 5) (q := (RX8, TX8, 13)) dd_X8_length_44 rfl (by decide) fl_X8_49 (by decide) gs_s0 rfl ?_
      refine sA_aload_n dd_X8_length_47 rfl (.tail _ (.head _)) ?_
      refine sA_getr (ci := 8) (j := 1) (q := (RX8, TX8, 13)) dd_X8_length_48 rfl (by decide) fl_X8_17 (by decide) gs_s0 rfl ?_
      refine sA_iload_n dd_X8_length_51 rfl (.tail _ (.tail _ (.head _))) ?_
      refine sA_aald (n := 8) dd_X8_length_52 (by decide) (by decide) (by decide) gs_s2 (by omega) (by decide) ?_
      have g11 := gs_plan_at (k := p.toNat) (by omega)
      refine sA_callV (y2 := m_X0_doPlan) (n2 := 1) (d2 := 4) (a := 15) (ci := 0) (q := (RX0, TX0, 4)) (as := [.ref (90 + 2 * p.toNat)]) (rest := []) dd_X8_length_53 ok_X0_doPlan ml_X8_196 rfl rfl (by decide) gs_s15 rfl rfl (Nat.le_of_ble_eq_true rfl) (by decide) (c_X0_doPlan hI1 g11) (fun r12 F13 A14 h15 => ?_)
      obtain ⟨z18, e17, I19, f20, x16⟩ := h15
      subst e17
      have f21 := gs_fr_tr hf1 f20 (fun b j h => by first | exact False.elim h | omega | (dsimp only at h ⊢; omega)) (fun b h => by first | exact False.elim h | omega | (dsimp only at h ⊢; omega))
      show sA _ _ _ 56 _ [gs_iv z18] _ _
      refine sA_if_ne (tgt := 63) dd_X8_length_56 (by decide) (by omega) (fun q22 => ?_) (fun q22 => ?_)
      · skip
        refine sA_iinc (lv' := [(3, gs_iv (t + 1)), (0, .ref 0), (1, gs_iv p), (2, gs_iv k)]) dd_X8_length_63 (.head _) (by decide) rfl ?_
        refine sA_goto (tgt := 38) dd_X8_length_66 (by decide) ?_
        refine sA_sub (lv2 := [(3, gs_iv (t + 1)), (0, .ref 0), (1, gs_iv p), (2, gs_iv k)]) (List.forall_mem_cons.mpr ⟨(.head _), (List.forall_mem_cons.mpr ⟨(.tail _ (.head _)), (List.forall_mem_cons.mpr ⟨(.tail _ (.tail _ (.head _))), (List.forall_mem_cons.mpr ⟨(.tail _ (.tail _ (.tail _ (.head _)))), (fun _ h => absurd h List.not_mem_nil)⟩)⟩)⟩)⟩) ?_
        exact ih (t + 1) F13 A14 I19 f21 (by omega) (by omega) (by omega) (by omega)
      · skip
        refine sA_sipush (z := (-1005)) dd_X8_length_59 (by decide) ?_
        refine sA_iret (z := -1005) dd_X8_length_62 rfl ?_
        exact ⟨_, rfl, I19, f21, trivial⟩
theorem c_X8_length {p k : Int} {F A : gs_F} (hI : gs_I F A) (hp : -2147483648 ≤ p ∧ p ≤ 2147483647) (hk : -2147483648 ≤ k ∧ k ≤ 2147483647) : sC m_X8_length 5 [.ref 0, gs_iv p, gs_iv k] F A (fun rv F' A' => ∃ z : Int, rv = some (gs_iv z) ∧ gs_I F' A' ∧ gs_fr (fun c j => (c = 15 ∧ j = 1) ∨ (18 ≤ c ∧ c < 30 ∧ j = 1)) (fun c => c = 7 ∨ (18 ≤ c ∧ c < 30)) F A F' A' ∧ (True)) := by
  refine sC_of ok_X8_length.1 (Nat.le_of_ble_eq_true rfl) ?_
  show sA _ _ _ 0 [(0, .ref 0), (1, gs_iv p), (2, gs_iv k)] [] F A
  have hf : gs_fr (fun c j => (c = 15 ∧ j = 1) ∨ (18 ≤ c ∧ c < 30 ∧ j = 1)) (fun c => c = 7 ∨ (18 ≤ c ∧ c < 30)) F A F A := gs_fr_refl _ _ _ _
  refine sA_iload_n dd_X8_length_0 rfl (.tail _ (.head _)) ?_
  refine sA_callS (y2 := m_X8_isPlan) (n2 := 1) (d2 := 1) (as := [gs_iv p]) (rest := []) dd_X8_length_1 ok_X8_isPlan ml_X8_148 rfl rfl (Nat.le_of_ble_eq_true rfl) (by decide) (c_X8_isPlan (by omega)) (fun r23 F24 A25 h26 => ?_)
  obtain ⟨z29, e28, e30, e31, x27⟩ := h26
  subst e28 e30 e31
  show sA _ _ _ 4 _ [gs_iv z29] _ _
  refine sA_if_ne (tgt := 11) dd_X8_length_4 (by decide) (by omega) (fun q32 => ?_) (fun q32 => ?_)
  · skip
    refine sA_iload_n dd_X8_length_11 rfl (.tail _ (.tail _ (.head _))) ?_
    refine sA_if_lt (tgt := 21) dd_X8_length_12 (by decide) (by omega) (fun q33 => ?_) (fun q33 => ?_)
    · skip
      refine sA_sipush (z := (-1002)) dd_X8_length_21 (by decide) ?_
      refine sA_iret (z := -1002) dd_X8_length_24 rfl ?_
      exact ⟨_, rfl, hI, hf, trivial⟩
    · skip
      refine sA_iload_n dd_X8_length_15 rfl (.tail _ (.tail _ (.head _))) ?_
      refine sA_bipush (z := 24) dd_X8_length_16 (by decide) ?_
      refine sA_icmp_le (tgt := 25) dd_X8_length_18 (by decide) (by omega) (by omega) (fun q34 => ?_) (fun q34 => ?_)
      · skip
        refine sA_aload_n dd_X8_length_25 rfl (.head _) ?_
        refine sA_getr (ci := 8) (j := 5) (q := (RX8, TX8, 13)) dd_X8_length_26 rfl (by decide) fl_X8_49 (by decide) gs_s0 rfl ?_
        refine sA_aload_n dd_X8_length_29 rfl (.head _) ?_
        refine sA_geti (ci := 8) (j := 11) (q := (RX8, TX8, 13)) dd_X8_length_30 rfl (by decide) fl_X8_84 (by decide) gs_s0 rfl ?_
        have b35 : (1 : Int) ≤ F 0 11 ∧ F 0 11 ≤ 3 := hI.1 0 11
        refine sA_callV (y2 := m_X0_begin) (n2 := 1) (d2 := 2) (a := 15) (ci := 0) (q := (RX0, TX0, 4)) (as := [gs_iv (F 0 11)]) (rest := []) dd_X8_length_33 ok_X0_begin ml_X8_193 rfl rfl (by decide) gs_s15 rfl rfl (Nat.le_of_ble_eq_true rfl) (by decide) (c_X0_begin hI (by omega)) (fun r36 F37 A38 h39 => ?_)
        obtain ⟨e41, I42, f43, x40⟩ := h39
        subst e41
        have f44 := gs_fr_tr hf f43 (fun b j h => by first | exact False.elim h | omega | (dsimp only at h ⊢; omega)) (fun b h => by first | exact False.elim h | omega | (dsimp only at h ⊢; omega))
        show sA _ _ _ 36 _ [] _ _
        refine sA_iconst (z := 0) dd_X8_length_36 ?_
        refine sA_istore_n (lv' := [(3, gs_iv 0), (0, .ref 0), (1, gs_iv p), (2, gs_iv k)]) dd_X8_length_37 rfl (by decide) rfl ?_
        refine sA_sub (lv2 := [(3, gs_iv 0), (0, .ref 0), (1, gs_iv p), (2, gs_iv k)]) (List.forall_mem_cons.mpr ⟨(.head _), (List.forall_mem_cons.mpr ⟨(.tail _ (.head _)), (List.forall_mem_cons.mpr ⟨(.tail _ (.tail _ (.head _))), (List.forall_mem_cons.mpr ⟨(.tail _ (.tail _ (.tail _ (.head _)))), (fun _ h => absurd h List.not_mem_nil)⟩)⟩)⟩)⟩) ?_
        exact (k_X8_length hI hp hk (k - 0 : Int).toNat.succ) 0 F37 A38 I42 f44 (by omega) (by omega) (by omega) (by omega)
      · skip
        refine sA_sipush (z := (-1002)) dd_X8_length_21 (by decide) ?_
        refine sA_iret (z := -1002) dd_X8_length_24 rfl ?_
        exact ⟨_, rfl, hI, hf, trivial⟩
  · skip
    refine sA_sipush (z := (-1001)) dd_X8_length_7 (by decide) ?_
    refine sA_iret (z := -1001) dd_X8_length_10 rfl ?_
    exact ⟨_, rfl, hI, hf, trivial⟩
theorem dd_X8_keepsRing_0 : decode cX8_keepsRing 0 = .ok (.aload_n 0, 1) := by decide +kernel
theorem dd_X8_keepsRing_1 : decode cX8_keepsRing 1 = .ok (.getfield 69, 3) := by decide +kernel
theorem dd_X8_keepsRing_4 : decode cX8_keepsRing 4 = .ok (.aload_n 3, 1) := by decide +kernel
theorem dd_X8_keepsRing_5 : decode cX8_keepsRing 5 = .ok (.invokevirtual 240, 3) := by decide +kernel
theorem dd_X8_keepsRing_8 : decode cX8_keepsRing 8 = .ok (.iconst 1, 1) := by decide +kernel
theorem dd_X8_keepsRing_9 : decode cX8_keepsRing 9 = .ok (.istore 4, 2) := by decide +kernel
theorem dd_X8_keepsRing_11 : decode cX8_keepsRing 11 = .ok (.iload 4, 2) := by decide +kernel
theorem dd_X8_keepsRing_13 : decode cX8_keepsRing 13 = .ok (.iload_n 2, 1) := by decide +kernel
theorem dd_X8_keepsRing_14 : decode cX8_keepsRing 14 = .ok (.if_icmp .gt 39, 3) := by decide +kernel
theorem dd_X8_keepsRing_17 : decode cX8_keepsRing 17 = .ok (.aload_n 0, 1) := by decide +kernel
theorem dd_X8_keepsRing_18 : decode cX8_keepsRing 18 = .ok (.getfield 33, 3) := by decide +kernel
theorem dd_X8_keepsRing_21 : decode cX8_keepsRing 21 = .ok (.aload_n 1, 1) := by decide +kernel
theorem dd_X8_keepsRing_22 : decode cX8_keepsRing 22 = .ok (.aload_n 0, 1) := by decide +kernel
theorem dd_X8_keepsRing_23 : decode cX8_keepsRing 23 = .ok (.getfield 69, 3) := by decide +kernel
theorem dd_X8_keepsRing_26 : decode cX8_keepsRing 26 = .ok (.invokevirtual 181, 3) := by decide +kernel
theorem dd_X8_keepsRing_29 : decode cX8_keepsRing 29 = .ok (.ifCond .ne 5, 3) := by decide +kernel
theorem dd_X8_keepsRing_32 : decode cX8_keepsRing 32 = .ok (.iconst 0, 1) := by decide +kernel
theorem dd_X8_keepsRing_33 : decode cX8_keepsRing 33 = .ok (.ireturn, 1) := by decide +kernel
theorem dd_X8_keepsRing_34 : decode cX8_keepsRing 34 = .ok (.aload_n 0, 1) := by decide +kernel
theorem dd_X8_keepsRing_35 : decode cX8_keepsRing 35 = .ok (.getfield 69, 3) := by decide +kernel
theorem dd_X8_keepsRing_38 : decode cX8_keepsRing 38 = .ok (.aload_n 3, 1) := by decide +kernel
theorem dd_X8_keepsRing_39 : decode cX8_keepsRing 39 = .ok (.invokevirtual 131, 3) := by decide +kernel
theorem dd_X8_keepsRing_42 : decode cX8_keepsRing 42 = .ok (.ifCond .eq 5, 3) := by decide +kernel
theorem dd_X8_keepsRing_45 : decode cX8_keepsRing 45 = .ok (.iconst 1, 1) := by decide +kernel
theorem dd_X8_keepsRing_46 : decode cX8_keepsRing 46 = .ok (.ireturn, 1) := by decide +kernel
theorem dd_X8_keepsRing_47 : decode cX8_keepsRing 47 = .ok (.iinc 4 1, 3) := by decide +kernel
theorem dd_X8_keepsRing_50 : decode cX8_keepsRing 50 = .ok (.goto (-39), 3) := by decide +kernel
theorem dd_X8_keepsRing_53 : decode cX8_keepsRing 53 = .ok (.iconst 0, 1) := by decide +kernel
theorem dd_X8_keepsRing_54 : decode cX8_keepsRing 54 = .ok (.ireturn, 1) := by decide +kernel
theorem ok_X8_keepsRing : am_okM m_X8_keepsRing 3 ∧ Cond.instanceMethod m_X8_keepsRing.1 ∈ am_tbl ∧ Cond.selects m_X8_keepsRing.1.cls m_X8_keepsRing.1 m_X8_keepsRing.1 ∈ am_tbl := ri_mk1 716 82 715 23 (by decide +kernel)
theorem k_X8_keepsRing {a b M : Nat} {n : Int} {F A : gs_F} (hI : gs_I F A) (hr : gs_plan a) (hn : 0 ≤ n ∧ n ≤ 100) (ho : gs_row b M) : ∀ nN : Nat, (∀ (k : Int)  (F1 A1 : gs_F), gs_I F1 A1 → gs_fr (fun c j => c = 48 ∧ j = 1) (fun c => c = 49 ∨ c = 7) F A F1 A1 → 1 ≤ k ∧ k ≤ n + 1 → n + 1 - k < (nN : Int) → sA m_X8_keepsRing 4 (fun rv F' A' => ∃ z : Int, rv = some (gs_iv z) ∧ gs_I F' A' ∧ gs_fr (fun c j => c = 48 ∧ j = 1) (fun c => c = 49 ∨ c = 7) F A F' A' ∧ (z = 0 ∨ z = 1)) 11 [(4, gs_iv k), (0, .ref 0), (1, .ref a), (2, gs_iv n), (3, .ref b)] [] F1 A1) := by
  intro nN
  induction nN with
  | zero =>
    exact fun a0 a1 a2 a3 a4 i0 hm => by exfalso; omega
  | succ nN ih =>
    intro k F1 A1 hI1 hf1 i0 hm
    have b1 := gs_plan_sz hr hI1
    have b2 := gs_row_sz ho hI1
    refine sA_iload dd_X8_keepsRing_11 (.head _) ?_
    refine sA_iload_n dd_X8_keepsRing_13 rfl (.tail _ (.tail _ (.tail _ (.head _)))) ?_
    refine sA_icmp_gt (tgt := 53) dd_X8_keepsRing_14 (by decide) (by omega) (by omega) (fun q3 => ?_) (fun q3 => ?_)
    · skip
      refine sA_iconst (z := 0) dd_X8_keepsRing_53 ?_
      refine sA_bret (z := 0) dd_X8_keepsRing_54 rfl (by omega) ?_
      exact ⟨_, rfl, hI1, hf1, by omega⟩
    · skip
      refine sA_aload_n dd_X8_keepsRing_17 rfl (.tail _ (.head _)) ?_
      refine sA_getr (ci := 8) (j := 3) (q := (RX8, TX8, 13)) dd_X8_keepsRing_18 rfl (by decide) fl_X8_33 (by decide) gs_s0 rfl ?_
      refine sA_aload_n dd_X8_keepsRing_21 rfl (.tail _ (.tail _ (.head _))) ?_
      refine sA_aload_n dd_X8_keepsRing_22 rfl (.tail _ (.head _)) ?_
      refine sA_getr (ci := 8) (j := 8) (q := (RX8, TX8, 13)) dd_X8_keepsRing_23 rfl (by decide) fl_X8_69 (by decide) gs_s0 rfl ?_
      refine sA_callV (y2 := m_X7_doPlan) (n2 := 2) (d2 := 3) (a := 5) (ci := 7) (q := (RX7, TX7, 5)) (as := [.ref a, .ref 48]) (rest := []) dd_X8_keepsRing_26 ok_X7_doPlan ml_X8_181 rfl rfl (by decide) gs_s5 rfl rfl (Nat.le_of_ble_eq_true rfl) (by decide) (c_X7_doPlan hI1 hr gs_row_48) (fun r4 F5 A6 h7 => ?_)
      obtain ⟨z10, e9, I11, f12, x8⟩ := h7
      subst e9
      have f13 := gs_fr_tr hf1 f12 (fun b j h => by first | exact False.elim h | omega | (dsimp only at h ⊢; omega)) (fun b h => by first | exact False.elim h | omega | (dsimp only at h ⊢; omega))
      show sA _ _ _ 29 _ [gs_iv z10] _ _
      refine sA_if_ne (tgt := 34) dd_X8_keepsRing_29 (by decide) (by omega) (fun q14 => ?_) (fun q14 => ?_)
      · skip
        refine sA_aload_n dd_X8_keepsRing_34 rfl (.tail _ (.head _)) ?_
        refine sA_getr (ci := 8) (j := 8) (q := (RX8, TX8, 13)) dd_X8_keepsRing_35 rfl (by decide) fl_X8_69 (by decide) gs_s0 rfl ?_
        refine sA_aload_n dd_X8_keepsRing_38 rfl (.tail _ (.tail _ (.tail _ (.tail _ (.head _))))) ?_
        refine sA_callV (y2 := m_X4_isOneWith) (n2 := 1) (d2 := 2) (a := 48) (ci := 4) (q := (RX4, TX4, 2)) (as := [.ref b]) (rest := []) dd_X8_keepsRing_39 ok_X4_isOneWith ml_X8_131 rfl rfl (Nat.lt_of_succ_lt gs_row_48.1) gs_row_48.2.1 rfl rfl (Nat.le_of_ble_eq_true rfl) (by decide) (c_X4_isOneWith I11 gs_row_48 ho) (fun r15 F16 A17 h18 => ?_)
        obtain ⟨z21, e20, e22, e23, x19⟩ := h18
        subst e20 e22 e23
        show sA _ _ _ 42 _ [gs_iv z21] _ _
        refine sA_if_eq (tgt := 47) dd_X8_keepsRing_42 (by decide) (by omega) (fun q24 => ?_) (fun q24 => ?_)
        · skip
          refine sA_iinc (lv' := [(4, gs_iv (k + 1)), (0, .ref 0), (1, .ref a), (2, gs_iv n), (3, .ref b)]) dd_X8_keepsRing_47 (.head _) (by decide) rfl ?_
          refine sA_goto (tgt := 11) dd_X8_keepsRing_50 (by decide) ?_
          have b25 := gs_plan_sz hr I11
          have b26 := gs_row_sz ho I11
          refine sA_sub (lv2 := [(4, gs_iv (k + 1)), (0, .ref 0), (1, .ref a), (2, gs_iv n), (3, .ref b)]) (List.forall_mem_cons.mpr ⟨(.head _), (List.forall_mem_cons.mpr ⟨(.tail _ (.head _)), (List.forall_mem_cons.mpr ⟨(.tail _ (.tail _ (.head _))), (List.forall_mem_cons.mpr ⟨(.tail _ (.tail _ (.tail _ (.head _)))), (List.forall_mem_cons.mpr ⟨(.tail _ (.tail _ (.tail _ (.tail _ (.head _))))), (fun _ h => absurd h List.not_mem_nil)⟩)⟩)⟩)⟩)⟩) ?_
          exact ih (k + 1) F5 A6 I11 f13 (by omega) (by omega)
        · skip
          refine sA_iconst (z := 1) dd_X8_keepsRing_45 ?_
          refine sA_bret (z := 1) dd_X8_keepsRing_46 rfl (by omega) ?_
          exact ⟨_, rfl, I11, f13, by omega⟩
      · skip
        refine sA_iconst (z := 0) dd_X8_keepsRing_32 ?_
        refine sA_bret (z := 0) dd_X8_keepsRing_33 rfl (by omega) ?_
        exact ⟨_, rfl, I11, f13, by omega⟩
theorem c_X8_keepsRing {a b M : Nat} {n : Int} {F A : gs_F} (hI : gs_I F A) (hr : gs_plan a) (hn : 0 ≤ n ∧ n ≤ 100) (ho : gs_row b M) : sC m_X8_keepsRing 4 [.ref 0, .ref a, gs_iv n, .ref b] F A (fun rv F' A' => ∃ z : Int, rv = some (gs_iv z) ∧ gs_I F' A' ∧ gs_fr (fun c j => c = 48 ∧ j = 1) (fun c => c = 49 ∨ c = 7) F A F' A' ∧ (z = 0 ∨ z = 1)) := by
  refine sC_of ok_X8_keepsRing.1 (Nat.le_of_ble_eq_true rfl) ?_
  show sA _ _ _ 0 [(0, .ref 0), (1, .ref a), (2, gs_iv n), (3, .ref b)] [] F A
  have hf : gs_fr (fun c j => c = 48 ∧ j = 1) (fun c => c = 49 ∨ c = 7) F A F A := gs_fr_refl _ _ _ _
  have b27 := gs_plan_sz hr hI
  have b28 := gs_row_sz ho hI
  refine sA_aload_n dd_X8_keepsRing_0 rfl (.head _) ?_
  refine sA_getr (ci := 8) (j := 8) (q := (RX8, TX8, 13)) dd_X8_keepsRing_1 rfl (by decide) fl_X8_69 (by decide) gs_s0 rfl ?_
  refine sA_aload_n dd_X8_keepsRing_4 rfl (.tail _ (.tail _ (.tail _ (.head _)))) ?_
  refine sA_callV (y2 := m_X4_copy) (n2 := 1) (d2 := 1) (a := 48) (ci := 4) (q := (RX4, TX4, 2)) (as := [.ref b]) (rest := []) dd_X8_keepsRing_5 ok_X4_copy ml_X8_240 rfl rfl (Nat.lt_of_succ_lt gs_row_48.1) gs_row_48.2.1 rfl rfl (Nat.le_of_ble_eq_true rfl) (by decide) (c_X4_copy hI gs_row_48 ho) (fun r29 F30 A31 h32 => ?_)
  obtain ⟨e34, I35, f36, x33⟩ := h32
  subst e34
  have f37 := gs_fr_tr hf f36 (fun b j h => by first | exact False.elim h | omega | (dsimp only at h ⊢; omega)) (fun b h => by first | exact False.elim h | omega | (dsimp only at h ⊢; omega))
  show sA _ _ _ 8 _ [] _ _
  refine sA_iconst (z := 1) dd_X8_keepsRing_8 ?_
  refine sA_istore (lv' := [(4, gs_iv 1), (0, .ref 0), (1, .ref a), (2, gs_iv n), (3, .ref b)]) dd_X8_keepsRing_9 (by decide) rfl ?_
  have b38 := gs_plan_sz hr I35
  have b39 := gs_row_sz ho I35
  refine sA_sub (lv2 := [(4, gs_iv 1), (0, .ref 0), (1, .ref a), (2, gs_iv n), (3, .ref b)]) (List.forall_mem_cons.mpr ⟨(.head _), (List.forall_mem_cons.mpr ⟨(.tail _ (.head _)), (List.forall_mem_cons.mpr ⟨(.tail _ (.tail _ (.head _))), (List.forall_mem_cons.mpr ⟨(.tail _ (.tail _ (.tail _ (.head _)))), (List.forall_mem_cons.mpr ⟨(.tail _ (.tail _ (.tail _ (.tail _ (.head _))))), (fun _ h => absurd h List.not_mem_nil)⟩)⟩)⟩)⟩)⟩) ?_
  exact (k_X8_keepsRing hI hr hn ho (n + 1 - 1 : Int).toNat.succ) 1 F30 A31 I35 f37 (by omega) (by omega)
theorem dd_X8_keepsSomeRing_0 : decode cX8_keepsSomeRing 0 = .ok (.iconst 0, 1) := by decide +kernel
theorem dd_X8_keepsSomeRing_1 : decode cX8_keepsSomeRing 1 = .ok (.istore_n 3, 1) := by decide +kernel
theorem dd_X8_keepsSomeRing_2 : decode cX8_keepsSomeRing 2 = .ok (.iload_n 3, 1) := by decide +kernel
theorem dd_X8_keepsSomeRing_3 : decode cX8_keepsSomeRing 3 = .ok (.aload_n 0, 1) := by decide +kernel
theorem dd_X8_keepsSomeRing_4 : decode cX8_keepsSomeRing 4 = .ok (.getfield 94, 3) := by decide +kernel
theorem dd_X8_keepsSomeRing_7 : decode cX8_keepsSomeRing 7 = .ok (.if_icmp .ge 41, 3) := by decide +kernel
theorem dd_X8_keepsSomeRing_10 : decode cX8_keepsSomeRing 10 = .ok (.aload_n 0, 1) := by decide +kernel
theorem dd_X8_keepsSomeRing_11 : decode cX8_keepsSomeRing 11 = .ok (.getfield 11, 3) := by decide +kernel
theorem dd_X8_keepsSomeRing_14 : decode cX8_keepsSomeRing 14 = .ok (.iload_n 3, 1) := by decide +kernel
theorem dd_X8_keepsSomeRing_15 : decode cX8_keepsSomeRing 15 = .ok (.aaload, 1) := by decide +kernel
theorem dd_X8_keepsSomeRing_16 : decode cX8_keepsSomeRing 16 = .ok (.invokevirtual 119, 3) := by decide +kernel
theorem dd_X8_keepsSomeRing_19 : decode cX8_keepsSomeRing 19 = .ok (.ifCond .eq 23, 3) := by decide +kernel
theorem dd_X8_keepsSomeRing_22 : decode cX8_keepsSomeRing 22 = .ok (.aload_n 0, 1) := by decide +kernel
theorem dd_X8_keepsSomeRing_23 : decode cX8_keepsSomeRing 23 = .ok (.aload_n 1, 1) := by decide +kernel
theorem dd_X8_keepsSomeRing_24 : decode cX8_keepsSomeRing 24 = .ok (.iload_n 2, 1) := by decide +kernel
theorem dd_X8_keepsSomeRing_25 : decode cX8_keepsSomeRing 25 = .ok (.aload_n 0, 1) := by decide +kernel
theorem dd_X8_keepsSomeRing_26 : decode cX8_keepsSomeRing 26 = .ok (.getfield 11, 3) := by decide +kernel
theorem dd_X8_keepsSomeRing_29 : decode cX8_keepsSomeRing 29 = .ok (.iload_n 3, 1) := by decide +kernel
theorem dd_X8_keepsSomeRing_30 : decode cX8_keepsSomeRing 30 = .ok (.aaload, 1) := by decide +kernel
theorem dd_X8_keepsSomeRing_31 : decode cX8_keepsSomeRing 31 = .ok (.getfield 105, 3) := by decide +kernel
theorem dd_X8_keepsSomeRing_34 : decode cX8_keepsSomeRing 34 = .ok (.invokevirtual 253, 3) := by decide +kernel
theorem dd_X8_keepsSomeRing_37 : decode cX8_keepsSomeRing 37 = .ok (.ifCond .eq 5, 3) := by decide +kernel
theorem dd_X8_keepsSomeRing_40 : decode cX8_keepsSomeRing 40 = .ok (.iconst 1, 1) := by decide +kernel
theorem dd_X8_keepsSomeRing_41 : decode cX8_keepsSomeRing 41 = .ok (.ireturn, 1) := by decide +kernel
theorem dd_X8_keepsSomeRing_42 : decode cX8_keepsSomeRing 42 = .ok (.iinc 3 1, 3) := by decide +kernel
theorem dd_X8_keepsSomeRing_45 : decode cX8_keepsSomeRing 45 = .ok (.goto (-43), 3) := by decide +kernel
theorem dd_X8_keepsSomeRing_48 : decode cX8_keepsSomeRing 48 = .ok (.iconst 0, 1) := by decide +kernel
theorem dd_X8_keepsSomeRing_49 : decode cX8_keepsSomeRing 49 = .ok (.ireturn, 1) := by decide +kernel
theorem ml_X8_253 : Cond.methodLink RX8 253 m_X8_keepsRing.1 ∈ am_tbl := ri_lw_in (pl := 713) (by decide +kernel)
theorem ok_X8_keepsSomeRing : am_okM m_X8_keepsSomeRing 2 ∧ Cond.instanceMethod m_X8_keepsSomeRing.1 ∈ am_tbl ∧ Cond.selects m_X8_keepsSomeRing.1.cls m_X8_keepsSomeRing.1 m_X8_keepsSomeRing.1 ∈ am_tbl := ri_mk1 712 82 711 22 (by decide +kernel)
theorem k_X8_keepsSomeRing {a : Nat} {n : Int} {F A : gs_F} (hI : gs_I F A) (hr : gs_plan a) (hn : 0 ≤ n ∧ n ≤ 100) : ∀ nN : Nat, (∀ (r : Int)  (F1 A1 : gs_F), gs_I F1 A1 → gs_fr (fun c j => c = 48 ∧ j = 1) (fun c => c = 49 ∨ c = 7) F A F1 A1 → 0 ≤ r ∧ r ≤ 12 → 12 - r < (nN : Int) → sA m_X8_keepsSomeRing 5 (fun rv F' A' => ∃ z : Int, rv = some (gs_iv z) ∧ gs_I F' A' ∧ gs_fr (fun c j => c = 48 ∧ j = 1) (fun c => c = 49 ∨ c = 7) F A F' A' ∧ (z = 0 ∨ z = 1)) 2 [(3, gs_iv r), (0, .ref 0), (1, .ref a), (2, gs_iv n)] [] F1 A1) := by
  intro nN
  induction nN with
  | zero =>
    exact fun a0 a1 a2 a3 a4 i0 hm => by exfalso; omega
  | succ nN ih =>
    intro r F1 A1 hI1 hf1 i0 hm
    have b1 := gs_plan_sz hr hI1
    refine sA_iload_n dd_X8_keepsSomeRing_2 rfl (.head _) ?_
    refine sA_aload_n dd_X8_keepsSomeRing_3 rfl (.tail _ (.head _)) ?_
    refine sA_geti (ci := 8) (j := 12) (q := (RX8, TX8, 13)) dd_X8_keepsSomeRing_4 rfl (by decide) fl_X8_94 (by decide) gs_s0 rfl ?_
    have b2 : (0 : Int) ≤ F1 0 12 ∧ F1 0 12 ≤ 12 := hI1.1 0 12
    refine sA_icmp_ge (tgt := 48) dd_X8_keepsSomeRing_7 (by decide) (by omega) (by omega) (fun q3 => ?_) (fun q3 => ?_)
    · skip
      refine sA_iconst (z := 0) dd_X8_keepsSomeRing_48 ?_
      refine sA_bret (z := 0) dd_X8_keepsSomeRing_49 rfl (by omega) ?_
      exact ⟨_, rfl, hI1, hf1, by omega⟩
    · skip
      refine sA_aload_n dd_X8_keepsSomeRing_10 rfl (.tail _ (.head _)) ?_
      refine sA_getr (ci := 8) (j := 0) (q := (RX8, TX8, 13)) dd_X8_keepsSomeRing_11 rfl (by decide) fl_X8_11 (by decide) gs_s0 rfl ?_
      refine sA_iload_n dd_X8_keepsSomeRing_14 rfl (.head _) ?_
      refine sA_aald (n := 12) dd_X8_keepsSomeRing_15 (by decide) (by decide) (by decide) gs_s1 (by omega) (by decide) ?_
      have g4 := gs_ring_at (k := r.toNat) (by omega)
      refine sA_callV (y2 := m_X3_isSimple) (n2 := 0) (d2 := 1) (a := (54 + 3 * r.toNat)) (ci := 3) (q := (RX3, TX3, 3)) (as := []) (rest := []) dd_X8_keepsSomeRing_16 ok_X3_isSimple ml_X8_119 rfl rfl (Nat.lt_of_succ_lt g4.1) g4.2.1 rfl rfl (Nat.le_of_ble_eq_true rfl) (by decide) (c_X3_isSimple hI1 g4) (fun r5 F6 A7 h8 => ?_)
      obtain ⟨z11, e10, e12, e13, x9⟩ := h8
      subst e10 e12 e13
      show sA _ _ _ 19 _ [gs_iv z11] _ _
      refine sA_if_eq (tgt := 42) dd_X8_keepsSomeRing_19 (by decide) (by omega) (fun q14 => ?_) (fun q14 => ?_)
      · skip
        refine sA_iinc (lv' := [(3, gs_iv (r + 1)), (0, .ref 0), (1, .ref a), (2, gs_iv n)]) dd_X8_keepsSomeRing_42 (.head _) (by decide) rfl ?_
        refine sA_goto (tgt := 2) dd_X8_keepsSomeRing_45 (by decide) ?_
        refine sA_sub (lv2 := [(3, gs_iv (r + 1)), (0, .ref 0), (1, .ref a), (2, gs_iv n)]) (List.forall_mem_cons.mpr ⟨(.head _), (List.forall_mem_cons.mpr ⟨(.tail _ (.head _)), (List.forall_mem_cons.mpr ⟨(.tail _ (.tail _ (.head _))), (List.forall_mem_cons.mpr ⟨(.tail _ (.tail _ (.tail _ (.head _)))), (fun _ h => absurd h List.not_mem_nil)⟩)⟩)⟩)⟩) ?_
        exact ih (r + 1) F1 A1 hI1 hf1 (by omega) (by omega)
      · skip
        refine sA_aload_n dd_X8_keepsSomeRing_22 rfl (.tail _ (.head _)) ?_
        refine sA_aload_n dd_X8_keepsSomeRing_23 rfl (.tail _ (.tail _ (.head _))) ?_
        refine sA_iload_n dd_X8_keepsSomeRing_24 rfl (.tail _ (.tail _ (.tail _ (.head _)))) ?_
        refine sA_aload_n dd_X8_keepsSomeRing_25 rfl (.tail _ (.head _)) ?_
        refine sA_getr (ci := 8) (j := 0) (q := (RX8, TX8, 13)) dd_X8_keepsSomeRing_26 rfl (by decide) fl_X8_11 (by decide) gs_s0 rfl ?_
        refine sA_iload_n dd_X8_keepsSomeRing_29 rfl (.head _) ?_
        refine sA_aald (n := 12) dd_X8_keepsSomeRing_30 (by decide) (by decide) (by decide) gs_s1 (by omega) (by decide) ?_
        have g15 := gs_ring_at (k := r.toNat) (by omega)
        refine sA_getr (ci := 3) (j := 0) (q := (RX3, TX3, 3)) dd_X8_keepsSomeRing_31 rfl (by decide) fl_X8_105 (Nat.lt_of_succ_lt g15.1) g15.2.1 rfl ?_
        refine sA_callV (y2 := m_X8_keepsRing) (n2 := 3) (d2 := 4) (a := 0) (ci := 8) (q := (RX8, TX8, 13)) (as := [.ref a, gs_iv n, .ref (54 + 3 * r.toNat + 1)]) (rest := []) dd_X8_keepsSomeRing_34 ok_X8_keepsRing ml_X8_253 rfl rfl (by decide) gs_s0 rfl rfl (Nat.le_of_ble_eq_true rfl) (by decide) (c_X8_keepsRing hI1 hr (by omega) g15.2.2.1) (fun r16 F17 A18 h19 => ?_)
        obtain ⟨z22, e21, I23, f24, x20⟩ := h19
        subst e21
        have f25 := gs_fr_tr hf1 f24 (fun b j h => by first | exact False.elim h | omega | (dsimp only at h ⊢; omega)) (fun b h => by first | exact False.elim h | omega | (dsimp only at h ⊢; omega))
        show sA _ _ _ 37 _ [gs_iv z22] _ _
        refine sA_if_eq (tgt := 42) dd_X8_keepsSomeRing_37 (by decide) (by omega) (fun q26 => ?_) (fun q26 => ?_)
        · skip
          refine sA_iinc (lv' := [(3, gs_iv (r + 1)), (0, .ref 0), (1, .ref a), (2, gs_iv n)]) dd_X8_keepsSomeRing_42 (.head _) (by decide) rfl ?_
          refine sA_goto (tgt := 2) dd_X8_keepsSomeRing_45 (by decide) ?_
          have b27 := gs_plan_sz hr I23
          refine sA_sub (lv2 := [(3, gs_iv (r + 1)), (0, .ref 0), (1, .ref a), (2, gs_iv n)]) (List.forall_mem_cons.mpr ⟨(.head _), (List.forall_mem_cons.mpr ⟨(.tail _ (.head _)), (List.forall_mem_cons.mpr ⟨(.tail _ (.tail _ (.head _))), (List.forall_mem_cons.mpr ⟨(.tail _ (.tail _ (.tail _ (.head _)))), (fun _ h => absurd h List.not_mem_nil)⟩)⟩)⟩)⟩) ?_
          exact ih (r + 1) F17 A18 I23 f25 (by omega) (by omega)
        · skip
          refine sA_iconst (z := 1) dd_X8_keepsSomeRing_40 ?_
          refine sA_bret (z := 1) dd_X8_keepsSomeRing_41 rfl (by omega) ?_
          exact ⟨_, rfl, I23, f25, by omega⟩
theorem c_X8_keepsSomeRing {a : Nat} {n : Int} {F A : gs_F} (hI : gs_I F A) (hr : gs_plan a) (hn : 0 ≤ n ∧ n ≤ 100) : sC m_X8_keepsSomeRing 5 [.ref 0, .ref a, gs_iv n] F A (fun rv F' A' => ∃ z : Int, rv = some (gs_iv z) ∧ gs_I F' A' ∧ gs_fr (fun c j => c = 48 ∧ j = 1) (fun c => c = 49 ∨ c = 7) F A F' A' ∧ (z = 0 ∨ z = 1)) := by
  refine sC_of ok_X8_keepsSomeRing.1 (Nat.le_of_ble_eq_true rfl) ?_
  show sA _ _ _ 0 [(0, .ref 0), (1, .ref a), (2, gs_iv n)] [] F A
  have hf : gs_fr (fun c j => c = 48 ∧ j = 1) (fun c => c = 49 ∨ c = 7) F A F A := gs_fr_refl _ _ _ _
  have b28 := gs_plan_sz hr hI
  refine sA_iconst (z := 0) dd_X8_keepsSomeRing_0 ?_
  refine sA_istore_n (lv' := [(3, gs_iv 0), (0, .ref 0), (1, .ref a), (2, gs_iv n)]) dd_X8_keepsSomeRing_1 rfl (by decide) rfl ?_
  refine sA_sub (lv2 := [(3, gs_iv 0), (0, .ref 0), (1, .ref a), (2, gs_iv n)]) (List.forall_mem_cons.mpr ⟨(.head _), (List.forall_mem_cons.mpr ⟨(.tail _ (.head _)), (List.forall_mem_cons.mpr ⟨(.tail _ (.tail _ (.head _))), (List.forall_mem_cons.mpr ⟨(.tail _ (.tail _ (.tail _ (.head _)))), (fun _ h => absurd h List.not_mem_nil)⟩)⟩)⟩)⟩) ?_
  exact (k_X8_keepsSomeRing hI hr hn (12 - 0 : Int).toNat.succ) 0 F A hI hf (by omega) (by omega)
theorem dd_X8_sort_0 : decode cX8_sort 0 = .ok (.iload_n 1, 1) := by decide +kernel
theorem dd_X8_sort_1 : decode cX8_sort 1 = .ok (.invokestatic 148, 3) := by decide +kernel
theorem dd_X8_sort_4 : decode cX8_sort 4 = .ok (.ifCond .ne 7, 3) := by decide +kernel
theorem dd_X8_sort_7 : decode cX8_sort 7 = .ok (.sipush (-1001), 3) := by decide +kernel
theorem dd_X8_sort_10 : decode cX8_sort 10 = .ok (.ireturn, 1) := by decide +kernel
theorem dd_X8_sort_11 : decode cX8_sort 11 = .ok (.iload_n 2, 1) := by decide +kernel
theorem dd_X8_sort_12 : decode cX8_sort 12 = .ok (.iconst 1, 1) := by decide +kernel
theorem dd_X8_sort_13 : decode cX8_sort 13 = .ok (.if_icmp .lt 9, 3) := by decide +kernel
theorem dd_X8_sort_16 : decode cX8_sort 16 = .ok (.iload_n 2, 1) := by decide +kernel
theorem dd_X8_sort_17 : decode cX8_sort 17 = .ok (.bipush 12, 2) := by decide +kernel
theorem dd_X8_sort_19 : decode cX8_sort 19 = .ok (.if_icmp .le 7, 3) := by decide +kernel
theorem dd_X8_sort_22 : decode cX8_sort 22 = .ok (.sipush (-1002), 3) := by decide +kernel
theorem dd_X8_sort_25 : decode cX8_sort 25 = .ok (.ireturn, 1) := by decide +kernel
theorem dd_X8_sort_26 : decode cX8_sort 26 = .ok (.iconst 1, 1) := by decide +kernel
theorem dd_X8_sort_27 : decode cX8_sort 27 = .ok (.istore_n 3, 1) := by decide +kernel
theorem dd_X8_sort_28 : decode cX8_sort 28 = .ok (.iconst 0, 1) := by decide +kernel
theorem dd_X8_sort_29 : decode cX8_sort 29 = .ok (.istore 4, 2) := by decide +kernel
theorem dd_X8_sort_31 : decode cX8_sort 31 = .ok (.aload_n 0, 1) := by decide +kernel
theorem dd_X8_sort_32 : decode cX8_sort 32 = .ok (.getfield 49, 3) := by decide +kernel
theorem dd_X8_sort_35 : decode cX8_sort 35 = .ok (.aload_n 0, 1) := by decide +kernel
theorem dd_X8_sort_36 : decode cX8_sort 36 = .ok (.getfield 84, 3) := by decide +kernel
theorem dd_X8_sort_39 : decode cX8_sort 39 = .ok (.invokevirtual 193, 3) := by decide +kernel
theorem dd_X8_sort_42 : decode cX8_sort 42 = .ok (.iconst 1, 1) := by decide +kernel
theorem dd_X8_sort_43 : decode cX8_sort 43 = .ok (.istore 5, 2) := by decide +kernel
theorem dd_X8_sort_45 : decode cX8_sort 45 = .ok (.iload 5, 2) := by decide +kernel
theorem dd_X8_sort_47 : decode cX8_sort 47 = .ok (.iload_n 2, 1) := by decide +kernel
theorem dd_X8_sort_48 : decode cX8_sort 48 = .ok (.if_icmp .gt 77, 3) := by decide +kernel
theorem dd_X8_sort_51 : decode cX8_sort 51 = .ok (.aload_n 0, 1) := by decide +kernel
theorem dd_X8_sort_52 : decode cX8_sort 52 = .ok (.getfield 49, 3) := by decide +kernel
theorem dd_X8_sort_55 : decode cX8_sort 55 = .ok (.aload_n 0, 1) := by decide +kernel
theorem dd_X8_sort_56 : decode cX8_sort 56 = .ok (.getfield 17, 3) := by decide +kernel
theorem dd_X8_sort_59 : decode cX8_sort 59 = .ok (.iload_n 1, 1) := by decide +kernel
theorem dd_X8_sort_60 : decode cX8_sort 60 = .ok (.aaload, 1) := by decide +kernel
theorem dd_X8_sort_61 : decode cX8_sort 61 = .ok (.invokevirtual 196, 3) := by decide +kernel
theorem dd_X8_sort_64 : decode cX8_sort 64 = .ok (.ifCond .ne 7, 3) := by decide +kernel
theorem dd_X8_sort_67 : decode cX8_sort 67 = .ok (.sipush (-1005), 3) := by decide +kernel
theorem dd_X8_sort_70 : decode cX8_sort 70 = .ok (.ireturn, 1) := by decide +kernel
theorem dd_X8_sort_71 : decode cX8_sort 71 = .ok (.aload_n 0, 1) := by decide +kernel
theorem dd_X8_sort_72 : decode cX8_sort 72 = .ok (.getfield 49, 3) := by decide +kernel
theorem dd_X8_sort_75 : decode cX8_sort 75 = .ok (.aload_n 0, 1) := by decide +kernel
theorem dd_X8_sort_76 : decode cX8_sort 76 = .ok (.getfield 69, 3) := by decide +kernel
theorem dd_X8_sort_79 : decode cX8_sort 79 = .ok (.invokevirtual 199, 3) := by decide +kernel
theorem dd_X8_sort_82 : decode cX8_sort 82 = .ok (.bipush 99, 2) := by decide +kernel
theorem dd_X8_sort_84 : decode cX8_sort 84 = .ok (.if_icmp .eq 5, 3) := by decide +kernel
theorem dd_X8_sort_87 : decode cX8_sort 87 = .ok (.iconst 0, 1) := by decide +kernel
theorem dd_X8_sort_88 : decode cX8_sort 88 = .ok (.ireturn, 1) := by decide +kernel
theorem dd_X8_sort_89 : decode cX8_sort 89 = .ok (.aload_n 0, 1) := by decide +kernel
theorem dd_X8_sort_90 : decode cX8_sort 90 = .ok (.getfield 49, 3) := by decide +kernel
theorem dd_X8_sort_93 : decode cX8_sort 93 = .ok (.invokevirtual 216, 3) := by decide +kernel
theorem dd_X8_sort_96 : decode cX8_sort 96 = .ok (.istore 6, 2) := by decide +kernel
theorem dd_X8_sort_98 : decode cX8_sort 98 = .ok (.iload_n 3, 1) := by decide +kernel
theorem dd_X8_sort_99 : decode cX8_sort 99 = .ok (.ifCond .eq 14, 3) := by decide +kernel
theorem dd_X8_sort_102 : decode cX8_sort 102 = .ok (.iload 6, 2) := by decide +kernel
theorem dd_X8_sort_104 : decode cX8_sort 104 = .ok (.iload 4, 2) := by decide +kernel
theorem dd_X8_sort_106 : decode cX8_sort 106 = .ok (.if_icmp .le 7, 3) := by decide +kernel
theorem dd_X8_sort_109 : decode cX8_sort 109 = .ok (.iconst 1, 1) := by decide +kernel
theorem dd_X8_sort_110 : decode cX8_sort 110 = .ok (.goto 4, 3) := by decide +kernel
theorem dd_X8_sort_113 : decode cX8_sort 113 = .ok (.iconst 0, 1) := by decide +kernel
theorem dd_X8_sort_114 : decode cX8_sort 114 = .ok (.istore_n 3, 1) := by decide +kernel
theorem dd_X8_sort_115 : decode cX8_sort 115 = .ok (.iload 6, 2) := by decide +kernel
theorem dd_X8_sort_117 : decode cX8_sort 117 = .ok (.istore 4, 2) := by decide +kernel
theorem dd_X8_sort_119 : decode cX8_sort 119 = .ok (.iinc 5 1, 3) := by decide +kernel
theorem dd_X8_sort_122 : decode cX8_sort 122 = .ok (.goto (-77), 3) := by decide +kernel
theorem dd_X8_sort_125 : decode cX8_sort 125 = .ok (.aload_n 0, 1) := by decide +kernel
theorem dd_X8_sort_126 : decode cX8_sort 126 = .ok (.aload_n 0, 1) := by decide +kernel
theorem dd_X8_sort_127 : decode cX8_sort 127 = .ok (.getfield 17, 3) := by decide +kernel
theorem dd_X8_sort_130 : decode cX8_sort 130 = .ok (.iload_n 1, 1) := by decide +kernel
theorem dd_X8_sort_131 : decode cX8_sort 131 = .ok (.aaload, 1) := by decide +kernel
theorem dd_X8_sort_132 : decode cX8_sort 132 = .ok (.iload_n 2, 1) := by decide +kernel
theorem dd_X8_sort_133 : decode cX8_sort 133 = .ok (.invokevirtual 220, 3) := by decide +kernel
theorem dd_X8_sort_136 : decode cX8_sort 136 = .ok (.ifCond .eq 5, 3) := by decide +kernel
theorem dd_X8_sort_139 : decode cX8_sort 139 = .ok (.iconst 1, 1) := by decide +kernel
theorem dd_X8_sort_140 : decode cX8_sort 140 = .ok (.ireturn, 1) := by decide +kernel
theorem dd_X8_sort_141 : decode cX8_sort 141 = .ok (.iload_n 3, 1) := by decide +kernel
theorem dd_X8_sort_142 : decode cX8_sort 142 = .ok (.ifCond .eq 7, 3) := by decide +kernel
theorem dd_X8_sort_145 : decode cX8_sort 145 = .ok (.iconst 2, 1) := by decide +kernel
theorem dd_X8_sort_146 : decode cX8_sort 146 = .ok (.goto 4, 3) := by decide +kernel
theorem dd_X8_sort_149 : decode cX8_sort 149 = .ok (.iconst 3, 1) := by decide +kernel
theorem dd_X8_sort_150 : decode cX8_sort 150 = .ok (.ireturn, 1) := by decide +kernel
theorem ml_X8_220 : Cond.methodLink RX8 220 m_X8_keepsSomeRing.1 ∈ am_tbl := ri_lw_in (pl := 709) (by decide +kernel)
theorem ok_X8_sort : am_okM m_X8_sort 2 ∧ Cond.instanceMethod m_X8_sort.1 ∈ am_tbl ∧ Cond.selects m_X8_sort.1.cls m_X8_sort.1 m_X8_sort.1 ∈ am_tbl := ri_mk1 708 82 706 707 (by decide +kernel)
theorem k_X8_sort {p n : Int} {F A : gs_F} (hI : gs_I F A) (hp : -2147483648 ≤ p ∧ p ≤ 2147483647) (hn : -2147483648 ≤ n ∧ n ≤ 2147483647) : ∀ nN : Nat, (∀ (ri : Int) (bf : Int) (k : Int)  (F1 A1 : gs_F), gs_I F1 A1 → gs_fr (fun c j => (c = 15 ∧ j = 1) ∨ (18 ≤ c ∧ c < 30 ∧ j = 1) ∨ (c = 48 ∧ j = 1)) (fun c => c = 7 ∨ (18 ≤ c ∧ c < 30) ∨ c = 49) F A F1 A1 → 1 ≤ k ∧ k ≤ n + 1 → 0 ≤ p ∧ p ≤ 7 → 1 ≤ n ∧ n ≤ 12 → ri = 0 ∨ ri = 1 → -2147483648 ≤ bf ∧ bf ≤ 2147483647 → n + 1 - k < (nN : Int) → sA m_X8_sort 6 (fun rv F' A' => ∃ z : Int, rv = some (gs_iv z) ∧ gs_I F' A' ∧ gs_fr (fun c j => (c = 15 ∧ j = 1) ∨ (18 ≤ c ∧ c < 30 ∧ j = 1) ∨ (c = 48 ∧ j = 1)) (fun c => c = 7 ∨ (18 ≤ c ∧ c < 30) ∨ c = 49) F A F' A' ∧ (True)) 45 [(5, gs_iv k), (4, gs_iv bf), (3, gs_iv ri), (0, .ref 0), (1, gs_iv p), (2, gs_iv n)] [] F1 A1) := by
  intro nN
  induction nN with
  | zero =>
    exact fun a0 a1 a2 a3 a4 a5 a6 i0 i1 i2 i3 i4 hm => by exfalso; omega
  | succ nN ih =>
    intro ri bf k F1 A1 hI1 hf1 i0 i1 i2 i3 i4 hm
    refine sA_iload dd_X8_sort_45 (.head _) ?_
    refine sA_iload_n dd_X8_sort_47 rfl (.tail _ (.tail _ (.tail _ (.tail _ (.tail _ (.head _)))))) ?_
    refine sA_icmp_gt (tgt := 125) dd_X8_sort_48 (by decide) (by omega) (by omega) (fun q1 => ?_) (fun q1 => ?_)
    · skip
      refine sA_aload_n dd_X8_sort_125 rfl (.tail _ (.tail _ (.tail _ (.head _)))) ?_
      refine sA_aload_n dd_X8_sort_126 rfl (.tail _ (.tail _ (.tail _ (.head _)))) ?_
      refine sA_getr (ci := 8) (j := 1) (q := (RX8, TX8, 13)) dd_X8_sort_127 rfl (by decide) fl_X8_17 (by decide) gs_s0 rfl ?_
      refine sA_iload_n dd_X8_sort_130 rfl (.tail _ (.tail _ (.tail _ (.tail _ (.head _))))) ?_
      refine sA_aald (n := 8) dd_X8_sort_131 (by decide) (by decide) (by decide) gs_s2 (by omega) (by decide) ?_
      have g2 := gs_plan_at (k := p.toNat) (by omega)
      refine sA_iload_n dd_X8_sort_132 rfl (.tail _ (.tail _ (.tail _ (.tail _ (.tail _ (.head _)))))) ?_
      refine sA_callV (y2 := m_X8_keepsSomeRing) (n2 := 2) (d2 := 5) (a := 0) (ci := 8) (q := (RX8, TX8, 13)) (as := [.ref (90 + 2 * p.toNat), gs_iv n]) (rest := []) dd_X8_sort_133 ok_X8_keepsSomeRing ml_X8_220 rfl rfl (by decide) gs_s0 rfl rfl (Nat.le_of_ble_eq_true rfl) (by decide) (c_X8_keepsSomeRing hI1 g2 (by omega)) (fun r3 F4 A5 h6 => ?_)
      obtain ⟨z9, e8, I10, f11, x7⟩ := h6
      subst e8
      have f12 := gs_fr_tr hf1 f11 (fun b j h => by first | exact False.elim h | omega | (dsimp only at h ⊢; omega)) (fun b h => by first | exact False.elim h | omega | (dsimp only at h ⊢; omega))
      show sA _ _ _ 136 _ [gs_iv z9] _ _
      refine sA_if_eq (tgt := 141) dd_X8_sort_136 (by decide) (by omega) (fun q13 => ?_) (fun q13 => ?_)
      · skip
        refine sA_iload_n dd_X8_sort_141 rfl (.tail _ (.tail _ (.head _))) ?_
        refine sA_if_eq (tgt := 149) dd_X8_sort_142 (by decide) (by omega) (fun q14 => ?_) (fun q14 => ?_)
        · skip
          refine sA_iconst (z := 3) dd_X8_sort_149 ?_
          refine sA_iret (z := 3) dd_X8_sort_150 rfl ?_
          exact ⟨_, rfl, I10, f12, trivial⟩
        · skip
          refine sA_iconst (z := 2) dd_X8_sort_145 ?_
          refine sA_goto (tgt := 150) dd_X8_sort_146 (by decide) ?_
          refine sA_iret (z := 2) dd_X8_sort_150 rfl ?_
          exact ⟨_, rfl, I10, f12, trivial⟩
      · skip
        refine sA_iconst (z := 1) dd_X8_sort_139 ?_
        refine sA_iret (z := 1) dd_X8_sort_140 rfl ?_
        exact ⟨_, rfl, I10, f12, trivial⟩
    · skip
      refine sA_aload_n dd_X8_sort_51 rfl (.tail _ (.tail _ (.tail _ (.head _)))) ?_
      refine sA_getr (ci := 8) (j := 5) (q := (RX8, TX8, 13)) dd_X8_sort_52 rfl (by decide) fl_X8_49 (by decide) gs_s0 rfl ?_
      refine sA_aload_n dd_X8_sort_55 rfl (.tail _ (.tail _ (.tail _ (.head _)))) ?_
      refine sA_getr (ci := 8) (j := 1) (q := (RX8, TX8, 13)) dd_X8_sort_56 rfl (by decide) fl_X8_17 (by decide) gs_s0 rfl ?_
      refine sA_iload_n dd_X8_sort_59 rfl (.tail _ (.tail _ (.tail _ (.tail _ (.head _))))) ?_
      refine sA_aald (n := 8) dd_X8_sort_60 (by decide) (by decide) (by decide) gs_s2 (by omega) (by decide) ?_
      have g15 := gs_plan_at (k := p.toNat) (by omega)
      refine sA_callV (y2 := m_X0_doPlan) (n2 := 1) (d2 := 4) (a := 15) (ci := 0) (q := (RX0, TX0, 4)) (as := [.ref (90 + 2 * p.toNat)]) (rest := []) dd_X8_sort_61 ok_X0_doPlan ml_X8_196 rfl rfl (by decide) gs_s15 rfl rfl (Nat.le_of_ble_eq_true rfl) (by decide) (c_X0_doPlan hI1 g15) (fun r16 F17 A18 h19 => ?_)
      obtain ⟨z22, e21, I23, f24, x20⟩ := h19
      subst e21
      have f25 := gs_fr_tr hf1 f24 (fun b j h => by first | exact False.elim h | omega | (dsimp only at h ⊢; omega)) (fun b h => by first | exact False.elim h | omega | (dsimp only at h ⊢; omega))
      show sA _ _ _ 64 _ [gs_iv z22] _ _
      refine sA_if_ne (tgt := 71) dd_X8_sort_64 (by decide) (by omega) (fun q26 => ?_) (fun q26 => ?_)
      · skip
        refine sA_aload_n dd_X8_sort_71 rfl (.tail _ (.tail _ (.tail _ (.head _)))) ?_
        refine sA_getr (ci := 8) (j := 5) (q := (RX8, TX8, 13)) dd_X8_sort_72 rfl (by decide) fl_X8_49 (by decide) gs_s0 rfl ?_
        refine sA_aload_n dd_X8_sort_75 rfl (.tail _ (.tail _ (.tail _ (.head _)))) ?_
        refine sA_getr (ci := 8) (j := 8) (q := (RX8, TX8, 13)) dd_X8_sort_76 rfl (by decide) fl_X8_69 (by decide) gs_s0 rfl ?_
        refine sA_callV (y2 := m_X0_fullTurns) (n2 := 1) (d2 := 4) (a := 15) (ci := 0) (q := (RX0, TX0, 4)) (as := [.ref 48]) (rest := []) dd_X8_sort_79 ok_X0_fullTurns ml_X8_199 rfl rfl (by decide) gs_s15 rfl rfl (Nat.le_of_ble_eq_true rfl) (by decide) (c_X0_fullTurns I23 gs_row_48) (fun r27 F28 A29 h30 => ?_)
        obtain ⟨z33, e32, I34, f35, x31⟩ := h30
        subst e32
        have f36 := gs_fr_tr f25 f35 (fun b j h => by first | exact False.elim h | omega | (dsimp only at h ⊢; omega)) (fun b h => by first | exact False.elim h | omega | (dsimp only at h ⊢; omega))
        show sA _ _ _ 82 _ [gs_iv z33] _ _
        refine sA_bipush (z := 99) dd_X8_sort_82 (by decide) ?_
        refine sA_icmp_eq (tgt := 89) dd_X8_sort_84 (by decide) (by omega) (by omega) (fun q37 => ?_) (fun q37 => ?_)
        · skip
          refine sA_aload_n dd_X8_sort_89 rfl (.tail _ (.tail _ (.tail _ (.head _)))) ?_
          refine sA_getr (ci := 8) (j := 5) (q := (RX8, TX8, 13)) dd_X8_sort_90 rfl (by decide) fl_X8_49 (by decide) gs_s0 rfl ?_
          refine sA_callV (y2 := m_X0_lettersTogether) (n2 := 0) (d2 := 1) (a := 15) (ci := 0) (q := (RX0, TX0, 4)) (as := []) (rest := []) dd_X8_sort_93 ok_X0_lettersTogether ml_X8_216 rfl rfl (by decide) gs_s15 rfl rfl (Nat.le_of_ble_eq_true rfl) (by decide) (c_X0_lettersTogether I34 ) (fun r38 F39 A40 h41 => ?_)
          obtain ⟨z44, e43, e45, e46, x42⟩ := h41
          subst e43 e45 e46
          show sA _ _ _ 96 _ [gs_iv z44] _ _
          refine sA_istore (lv' := [(6, gs_iv z44), (5, gs_iv k), (4, gs_iv bf), (3, gs_iv ri), (0, .ref 0), (1, gs_iv p), (2, gs_iv n)]) dd_X8_sort_96 (by decide) rfl ?_
          refine sA_iload_n dd_X8_sort_98 rfl (.tail _ (.tail _ (.tail _ (.head _)))) ?_
          refine sA_if_eq (tgt := 113) dd_X8_sort_99 (by decide) (by omega) (fun q47 => ?_) (fun q47 => ?_)
          · skip
            refine sA_iconst (z := 0) dd_X8_sort_113 ?_
            refine sA_istore_n (lv' := [(3, gs_iv 0), (6, gs_iv z44), (5, gs_iv k), (4, gs_iv bf), (0, .ref 0), (1, gs_iv p), (2, gs_iv n)]) dd_X8_sort_114 rfl (by decide) rfl ?_
            refine sA_iload dd_X8_sort_115 (.tail _ (.head _)) ?_
            refine sA_istore (lv' := [(4, gs_iv z44), (3, gs_iv 0), (6, gs_iv z44), (5, gs_iv k), (0, .ref 0), (1, gs_iv p), (2, gs_iv n)]) dd_X8_sort_117 (by decide) rfl ?_
            refine sA_iinc (lv' := [(5, gs_iv (k + 1)), (4, gs_iv z44), (3, gs_iv 0), (6, gs_iv z44), (0, .ref 0), (1, gs_iv p), (2, gs_iv n)]) dd_X8_sort_119 (.tail _ (.tail _ (.tail _ (.head _)))) (by decide) rfl ?_
            refine sA_goto (tgt := 45) dd_X8_sort_122 (by decide) ?_
            refine sA_sub (lv2 := [(5, gs_iv (k + 1)), (4, gs_iv z44), (3, gs_iv 0), (0, .ref 0), (1, gs_iv p), (2, gs_iv n)]) (List.forall_mem_cons.mpr ⟨(.head _), (List.forall_mem_cons.mpr ⟨(.tail _ (.head _)), (List.forall_mem_cons.mpr ⟨(.tail _ (.tail _ (.head _))), (List.forall_mem_cons.mpr ⟨(.tail _ (.tail _ (.tail _ (.tail _ (.head _))))), (List.forall_mem_cons.mpr ⟨(.tail _ (.tail _ (.tail _ (.tail _ (.tail _ (.head _)))))), (List.forall_mem_cons.mpr ⟨(.tail _ (.tail _ (.tail _ (.tail _ (.tail _ (.tail _ (.head _))))))), (fun _ h => absurd h List.not_mem_nil)⟩)⟩)⟩)⟩)⟩)⟩) ?_
            exact ih 0 z44 (k + 1) F28 A29 I34 f36 (by omega) (by omega) (by omega) (by omega) (by omega) (by omega)
          · skip
            refine sA_iload dd_X8_sort_102 (.head _) ?_
            refine sA_iload dd_X8_sort_104 (.tail _ (.tail _ (.head _))) ?_
            refine sA_icmp_le (tgt := 113) dd_X8_sort_106 (by decide) (by omega) (by omega) (fun q48 => ?_) (fun q48 => ?_)
            · skip
              refine sA_iconst (z := 0) dd_X8_sort_113 ?_
              refine sA_istore_n (lv' := [(3, gs_iv 0), (6, gs_iv z44), (5, gs_iv k), (4, gs_iv bf), (0, .ref 0), (1, gs_iv p), (2, gs_iv n)]) dd_X8_sort_114 rfl (by decide) rfl ?_
              refine sA_iload dd_X8_sort_115 (.tail _ (.head _)) ?_
              refine sA_istore (lv' := [(4, gs_iv z44), (3, gs_iv 0), (6, gs_iv z44), (5, gs_iv k), (0, .ref 0), (1, gs_iv p), (2, gs_iv n)]) dd_X8_sort_117 (by decide) rfl ?_
              refine sA_iinc (lv' := [(5, gs_iv (k + 1)), (4, gs_iv z44), (3, gs_iv 0), (6, gs_iv z44), (0, .ref 0), (1, gs_iv p), (2, gs_iv n)]) dd_X8_sort_119 (.tail _ (.tail _ (.tail _ (.head _)))) (by decide) rfl ?_
              refine sA_goto (tgt := 45) dd_X8_sort_122 (by decide) ?_
              refine sA_sub (lv2 := [(5, gs_iv (k + 1)), (4, gs_iv z44), (3, gs_iv 0), (0, .ref 0), (1, gs_iv p), (2, gs_iv n)]) (List.forall_mem_cons.mpr ⟨(.head _), (List.forall_mem_cons.mpr ⟨(.tail _ (.head _)), (List.forall_mem_cons.mpr ⟨(.tail _ (.tail _ (.head _))), (List.forall_mem_cons.mpr ⟨(.tail _ (.tail _ (.tail _ (.tail _ (.head _))))), (List.forall_mem_cons.mpr ⟨(.tail _ (.tail _ (.tail _ (.tail _ (.tail _ (.head _)))))), (List.forall_mem_cons.mpr ⟨(.tail _ (.tail _ (.tail _ (.tail _ (.tail _ (.tail _ (.head _))))))), (fun _ h => absurd h List.not_mem_nil)⟩)⟩)⟩)⟩)⟩)⟩) ?_
              exact ih 0 z44 (k + 1) F28 A29 I34 f36 (by omega) (by omega) (by omega) (by omega) (by omega) (by omega)
            · skip
              refine sA_iconst (z := 1) dd_X8_sort_109 ?_
              refine sA_goto (tgt := 114) dd_X8_sort_110 (by decide) ?_
              refine sA_istore_n (lv' := [(3, gs_iv 1), (6, gs_iv z44), (5, gs_iv k), (4, gs_iv bf), (0, .ref 0), (1, gs_iv p), (2, gs_iv n)]) dd_X8_sort_114 rfl (by decide) rfl ?_
              refine sA_iload dd_X8_sort_115 (.tail _ (.head _)) ?_
              refine sA_istore (lv' := [(4, gs_iv z44), (3, gs_iv 1), (6, gs_iv z44), (5, gs_iv k), (0, .ref 0), (1, gs_iv p), (2, gs_iv n)]) dd_X8_sort_117 (by decide) rfl ?_
              refine sA_iinc (lv' := [(5, gs_iv (k + 1)), (4, gs_iv z44), (3, gs_iv 1), (6, gs_iv z44), (0, .ref 0), (1, gs_iv p), (2, gs_iv n)]) dd_X8_sort_119 (.tail _ (.tail _ (.tail _ (.head _)))) (by decide) rfl ?_
              refine sA_goto (tgt := 45) dd_X8_sort_122 (by decide) ?_
              refine sA_sub (lv2 := [(5, gs_iv (k + 1)), (4, gs_iv z44), (3, gs_iv 1), (0, .ref 0), (1, gs_iv p), (2, gs_iv n)]) (List.forall_mem_cons.mpr ⟨(.head _), (List.forall_mem_cons.mpr ⟨(.tail _ (.head _)), (List.forall_mem_cons.mpr ⟨(.tail _ (.tail _ (.head _))), (List.forall_mem_cons.mpr ⟨(.tail _ (.tail _ (.tail _ (.tail _ (.head _))))), (List.forall_mem_cons.mpr ⟨(.tail _ (.tail _ (.tail _ (.tail _ (.tail _ (.head _)))))), (List.forall_mem_cons.mpr ⟨(.tail _ (.tail _ (.tail _ (.tail _ (.tail _ (.tail _ (.head _))))))), (fun _ h => absurd h List.not_mem_nil)⟩)⟩)⟩)⟩)⟩)⟩) ?_
              exact ih 1 z44 (k + 1) F28 A29 I34 f36 (by omega) (by omega) (by omega) (by omega) (by omega) (by omega)
        · skip
          refine sA_iconst (z := 0) dd_X8_sort_87 ?_
          refine sA_iret (z := 0) dd_X8_sort_88 rfl ?_
          exact ⟨_, rfl, I34, f36, trivial⟩
      · skip
        refine sA_sipush (z := (-1005)) dd_X8_sort_67 (by decide) ?_
        refine sA_iret (z := -1005) dd_X8_sort_70 rfl ?_
        exact ⟨_, rfl, I23, f25, trivial⟩
theorem c_X8_sort {p n : Int} {F A : gs_F} (hI : gs_I F A) (hp : -2147483648 ≤ p ∧ p ≤ 2147483647) (hn : -2147483648 ≤ n ∧ n ≤ 2147483647) : sC m_X8_sort 6 [.ref 0, gs_iv p, gs_iv n] F A (fun rv F' A' => ∃ z : Int, rv = some (gs_iv z) ∧ gs_I F' A' ∧ gs_fr (fun c j => (c = 15 ∧ j = 1) ∨ (18 ≤ c ∧ c < 30 ∧ j = 1) ∨ (c = 48 ∧ j = 1)) (fun c => c = 7 ∨ (18 ≤ c ∧ c < 30) ∨ c = 49) F A F' A' ∧ (True)) := by
  refine sC_of ok_X8_sort.1 (Nat.le_of_ble_eq_true rfl) ?_
  show sA _ _ _ 0 [(0, .ref 0), (1, gs_iv p), (2, gs_iv n)] [] F A
  have hf : gs_fr (fun c j => (c = 15 ∧ j = 1) ∨ (18 ≤ c ∧ c < 30 ∧ j = 1) ∨ (c = 48 ∧ j = 1)) (fun c => c = 7 ∨ (18 ≤ c ∧ c < 30) ∨ c = 49) F A F A := gs_fr_refl _ _ _ _
  refine sA_iload_n dd_X8_sort_0 rfl (.tail _ (.head _)) ?_
  refine sA_callS (y2 := m_X8_isPlan) (n2 := 1) (d2 := 1) (as := [gs_iv p]) (rest := []) dd_X8_sort_1 ok_X8_isPlan ml_X8_148 rfl rfl (Nat.le_of_ble_eq_true rfl) (by decide) (c_X8_isPlan (by omega)) (fun r49 F50 A51 h52 => ?_)
  obtain ⟨z55, e54, e56, e57, x53⟩ := h52
  subst e54 e56 e57
  show sA _ _ _ 4 _ [gs_iv z55] _ _
  refine sA_if_ne (tgt := 11) dd_X8_sort_4 (by decide) (by omega) (fun q58 => ?_) (fun q58 => ?_)
  · skip
    refine sA_iload_n dd_X8_sort_11 rfl (.tail _ (.tail _ (.head _))) ?_
    refine sA_iconst (z := 1) dd_X8_sort_12 ?_
    refine sA_icmp_lt (tgt := 22) dd_X8_sort_13 (by decide) (by omega) (by omega) (fun q59 => ?_) (fun q59 => ?_)
    · skip
      refine sA_sipush (z := (-1002)) dd_X8_sort_22 (by decide) ?_
      refine sA_iret (z := -1002) dd_X8_sort_25 rfl ?_
      exact ⟨_, rfl, hI, hf, trivial⟩
    · skip
      refine sA_iload_n dd_X8_sort_16 rfl (.tail _ (.tail _ (.head _))) ?_
      refine sA_bipush (z := 12) dd_X8_sort_17 (by decide) ?_
      refine sA_icmp_le (tgt := 26) dd_X8_sort_19 (by decide) (by omega) (by omega) (fun q60 => ?_) (fun q60 => ?_)
      · skip
        refine sA_iconst (z := 1) dd_X8_sort_26 ?_
        refine sA_istore_n (lv' := [(3, gs_iv 1), (0, .ref 0), (1, gs_iv p), (2, gs_iv n)]) dd_X8_sort_27 rfl (by decide) rfl ?_
        refine sA_iconst (z := 0) dd_X8_sort_28 ?_
        refine sA_istore (lv' := [(4, gs_iv 0), (3, gs_iv 1), (0, .ref 0), (1, gs_iv p), (2, gs_iv n)]) dd_X8_sort_29 (by decide) rfl ?_
        refine sA_aload_n dd_X8_sort_31 rfl (.tail _ (.tail _ (.head _))) ?_
        refine sA_getr (ci := 8) (j := 5) (q := (RX8, TX8, 13)) dd_X8_sort_32 rfl (by decide) fl_X8_49 (by decide) gs_s0 rfl ?_
        refine sA_aload_n dd_X8_sort_35 rfl (.tail _ (.tail _ (.head _))) ?_
        refine sA_geti (ci := 8) (j := 11) (q := (RX8, TX8, 13)) dd_X8_sort_36 rfl (by decide) fl_X8_84 (by decide) gs_s0 rfl ?_
        have b61 : (1 : Int) ≤ F 0 11 ∧ F 0 11 ≤ 3 := hI.1 0 11
        refine sA_callV (y2 := m_X0_begin) (n2 := 1) (d2 := 2) (a := 15) (ci := 0) (q := (RX0, TX0, 4)) (as := [gs_iv (F 0 11)]) (rest := []) dd_X8_sort_39 ok_X0_begin ml_X8_193 rfl rfl (by decide) gs_s15 rfl rfl (Nat.le_of_ble_eq_true rfl) (by decide) (c_X0_begin hI (by omega)) (fun r62 F63 A64 h65 => ?_)
        obtain ⟨e67, I68, f69, x66⟩ := h65
        subst e67
        have f70 := gs_fr_tr hf f69 (fun b j h => by first | exact False.elim h | omega | (dsimp only at h ⊢; omega)) (fun b h => by first | exact False.elim h | omega | (dsimp only at h ⊢; omega))
        show sA _ _ _ 42 _ [] _ _
        refine sA_iconst (z := 1) dd_X8_sort_42 ?_
        refine sA_istore (lv' := [(5, gs_iv 1), (4, gs_iv 0), (3, gs_iv 1), (0, .ref 0), (1, gs_iv p), (2, gs_iv n)]) dd_X8_sort_43 (by decide) rfl ?_
        refine sA_sub (lv2 := [(5, gs_iv 1), (4, gs_iv 0), (3, gs_iv 1), (0, .ref 0), (1, gs_iv p), (2, gs_iv n)]) (List.forall_mem_cons.mpr ⟨(.head _), (List.forall_mem_cons.mpr ⟨(.tail _ (.head _)), (List.forall_mem_cons.mpr ⟨(.tail _ (.tail _ (.head _))), (List.forall_mem_cons.mpr ⟨(.tail _ (.tail _ (.tail _ (.head _)))), (List.forall_mem_cons.mpr ⟨(.tail _ (.tail _ (.tail _ (.tail _ (.head _))))), (List.forall_mem_cons.mpr ⟨(.tail _ (.tail _ (.tail _ (.tail _ (.tail _ (.head _)))))), (fun _ h => absurd h List.not_mem_nil)⟩)⟩)⟩)⟩)⟩)⟩) ?_
        exact (k_X8_sort hI hp hn (n + 1 - 1 : Int).toNat.succ) 1 0 1 F63 A64 I68 f70 (by omega) (by omega) (by omega) (by omega) (by omega) (by omega)
      · skip
        refine sA_sipush (z := (-1002)) dd_X8_sort_22 (by decide) ?_
        refine sA_iret (z := -1002) dd_X8_sort_25 rfl ?_
        exact ⟨_, rfl, hI, hf, trivial⟩
  · skip
    refine sA_sipush (z := (-1001)) dd_X8_sort_7 (by decide) ?_
    refine sA_iret (z := -1001) dd_X8_sort_10 rfl ?_
    exact ⟨_, rfl, hI, hf, trivial⟩
theorem dd_X8_law_0 : decode cX8_law 0 = .ok (.aload_n 0, 1) := by decide +kernel
theorem dd_X8_law_1 : decode cX8_law 1 = .ok (.iload_n 1, 1) := by decide +kernel
theorem dd_X8_law_2 : decode cX8_law 2 = .ok (.invokevirtual 224, 3) := by decide +kernel
theorem dd_X8_law_5 : decode cX8_law 5 = .ok (.ifCond .eq 11, 3) := by decide +kernel
theorem dd_X8_law_8 : decode cX8_law 8 = .ok (.aload_n 0, 1) := by decide +kernel
theorem dd_X8_law_9 : decode cX8_law 9 = .ok (.iload_n 2, 1) := by decide +kernel
theorem dd_X8_law_10 : decode cX8_law 10 = .ok (.invokevirtual 224, 3) := by decide +kernel
theorem dd_X8_law_13 : decode cX8_law 13 = .ok (.ifCond .ne 7, 3) := by decide +kernel
theorem dd_X8_law_16 : decode cX8_law 16 = .ok (.sipush (-1001), 3) := by decide +kernel
theorem dd_X8_law_19 : decode cX8_law 19 = .ok (.ireturn, 1) := by decide +kernel
theorem dd_X8_law_20 : decode cX8_law 20 = .ok (.aload_n 0, 1) := by decide +kernel
theorem dd_X8_law_21 : decode cX8_law 21 = .ok (.getfield 73, 3) := by decide +kernel
theorem dd_X8_law_24 : decode cX8_law 24 = .ok (.iconst 0, 1) := by decide +kernel
theorem dd_X8_law_25 : decode cX8_law 25 = .ok (.putfield 162, 3) := by decide +kernel
theorem dd_X8_law_28 : decode cX8_law 28 = .ok (.aload_n 0, 1) := by decide +kernel
theorem dd_X8_law_29 : decode cX8_law 29 = .ok (.getfield 73, 3) := by decide +kernel
theorem dd_X8_law_32 : decode cX8_law 32 = .ok (.iconst 2, 1) := by decide +kernel
theorem dd_X8_law_33 : decode cX8_law 33 = .ok (.iload_n 1, 1) := by decide +kernel
theorem dd_X8_law_34 : decode cX8_law 34 = .ok (.imul, 1) := by decide +kernel
theorem dd_X8_law_35 : decode cX8_law 35 = .ok (.invokevirtual 227, 3) := by decide +kernel
theorem dd_X8_law_38 : decode cX8_law 38 = .ok (.aload_n 0, 1) := by decide +kernel
theorem dd_X8_law_39 : decode cX8_law 39 = .ok (.getfield 73, 3) := by decide +kernel
theorem dd_X8_law_42 : decode cX8_law 42 = .ok (.iconst 2, 1) := by decide +kernel
theorem dd_X8_law_43 : decode cX8_law 43 = .ok (.iload_n 2, 1) := by decide +kernel
theorem dd_X8_law_44 : decode cX8_law 44 = .ok (.imul, 1) := by decide +kernel
theorem dd_X8_law_45 : decode cX8_law 45 = .ok (.invokevirtual 227, 3) := by decide +kernel
theorem dd_X8_law_48 : decode cX8_law 48 = .ok (.aload_n 0, 1) := by decide +kernel
theorem dd_X8_law_49 : decode cX8_law 49 = .ok (.getfield 77, 3) := by decide +kernel
theorem dd_X8_law_52 : decode cX8_law 52 = .ok (.iconst 0, 1) := by decide +kernel
theorem dd_X8_law_53 : decode cX8_law 53 = .ok (.putfield 162, 3) := by decide +kernel
theorem dd_X8_law_56 : decode cX8_law 56 = .ok (.aload_n 0, 1) := by decide +kernel
theorem dd_X8_law_57 : decode cX8_law 57 = .ok (.getfield 77, 3) := by decide +kernel
theorem dd_X8_law_60 : decode cX8_law 60 = .ok (.iconst 2, 1) := by decide +kernel
theorem dd_X8_law_61 : decode cX8_law 61 = .ok (.iload_n 2, 1) := by decide +kernel
theorem dd_X8_law_62 : decode cX8_law 62 = .ok (.imul, 1) := by decide +kernel
theorem dd_X8_law_63 : decode cX8_law 63 = .ok (.invokevirtual 227, 3) := by decide +kernel
theorem dd_X8_law_66 : decode cX8_law 66 = .ok (.aload_n 0, 1) := by decide +kernel
theorem dd_X8_law_67 : decode cX8_law 67 = .ok (.getfield 77, 3) := by decide +kernel
theorem dd_X8_law_70 : decode cX8_law 70 = .ok (.iconst 2, 1) := by decide +kernel
theorem dd_X8_law_71 : decode cX8_law 71 = .ok (.iload_n 1, 1) := by decide +kernel
theorem dd_X8_law_72 : decode cX8_law 72 = .ok (.imul, 1) := by decide +kernel
theorem dd_X8_law_73 : decode cX8_law 73 = .ok (.invokevirtual 227, 3) := by decide +kernel
theorem dd_X8_law_76 : decode cX8_law 76 = .ok (.aload_n 0, 1) := by decide +kernel
theorem dd_X8_law_77 : decode cX8_law 77 = .ok (.aload_n 0, 1) := by decide +kernel
theorem dd_X8_law_78 : decode cX8_law 78 = .ok (.getfield 73, 3) := by decide +kernel
theorem dd_X8_law_81 : decode cX8_law 81 = .ok (.aload_n 0, 1) := by decide +kernel
theorem dd_X8_law_82 : decode cX8_law 82 = .ok (.getfield 77, 3) := by decide +kernel
theorem dd_X8_law_85 : decode cX8_law 85 = .ok (.invokevirtual 189, 3) := by decide +kernel
theorem dd_X8_law_88 : decode cX8_law 88 = .ok (.iconst (-1), 1) := by decide +kernel
theorem dd_X8_law_89 : decode cX8_law 89 = .ok (.if_icmp .ne 5, 3) := by decide +kernel
theorem dd_X8_law_92 : decode cX8_law 92 = .ok (.iconst 0, 1) := by decide +kernel
theorem dd_X8_law_93 : decode cX8_law 93 = .ok (.ireturn, 1) := by decide +kernel
theorem dd_X8_law_94 : decode cX8_law 94 = .ok (.aload_n 0, 1) := by decide +kernel
theorem dd_X8_law_95 : decode cX8_law 95 = .ok (.getfield 73, 3) := by decide +kernel
theorem dd_X8_law_98 : decode cX8_law 98 = .ok (.iconst 2, 1) := by decide +kernel
theorem dd_X8_law_99 : decode cX8_law 99 = .ok (.iload_n 1, 1) := by decide +kernel
theorem dd_X8_law_100 : decode cX8_law 100 = .ok (.imul, 1) := by decide +kernel
theorem dd_X8_law_101 : decode cX8_law 101 = .ok (.invokevirtual 227, 3) := by decide +kernel
theorem dd_X8_law_104 : decode cX8_law 104 = .ok (.aload_n 0, 1) := by decide +kernel
theorem dd_X8_law_105 : decode cX8_law 105 = .ok (.getfield 77, 3) := by decide +kernel
theorem dd_X8_law_108 : decode cX8_law 108 = .ok (.iconst 2, 1) := by decide +kernel
theorem dd_X8_law_109 : decode cX8_law 109 = .ok (.iload_n 2, 1) := by decide +kernel
theorem dd_X8_law_110 : decode cX8_law 110 = .ok (.imul, 1) := by decide +kernel
theorem dd_X8_law_111 : decode cX8_law 111 = .ok (.invokevirtual 227, 3) := by decide +kernel
theorem dd_X8_law_114 : decode cX8_law 114 = .ok (.aload_n 0, 1) := by decide +kernel
theorem dd_X8_law_115 : decode cX8_law 115 = .ok (.aload_n 0, 1) := by decide +kernel
theorem dd_X8_law_116 : decode cX8_law 116 = .ok (.getfield 73, 3) := by decide +kernel
theorem dd_X8_law_119 : decode cX8_law 119 = .ok (.aload_n 0, 1) := by decide +kernel
theorem dd_X8_law_120 : decode cX8_law 120 = .ok (.getfield 77, 3) := by decide +kernel
theorem dd_X8_law_123 : decode cX8_law 123 = .ok (.invokevirtual 189, 3) := by decide +kernel
theorem dd_X8_law_126 : decode cX8_law 126 = .ok (.iconst (-1), 1) := by decide +kernel
theorem dd_X8_law_127 : decode cX8_law 127 = .ok (.if_icmp .ne 7, 3) := by decide +kernel
theorem dd_X8_law_130 : decode cX8_law 130 = .ok (.iconst 1, 1) := by decide +kernel
theorem dd_X8_law_131 : decode cX8_law 131 = .ok (.goto 4, 3) := by decide +kernel
theorem dd_X8_law_134 : decode cX8_law 134 = .ok (.iconst 2, 1) := by decide +kernel
theorem dd_X8_law_135 : decode cX8_law 135 = .ok (.ireturn, 1) := by decide +kernel
theorem fl_X8_77 : Cond.fieldLink RX8 77 (TX8 10).1 (TX8 10).2.1 (TX8 10).2.2.1 ∈ am_tbl := ri_lw_in (pl := 361) (by decide +kernel)
theorem ml_X8_224 : Cond.methodLink RX8 224 m_X8_isTwist.1 ∈ am_tbl := ri_lw_in (pl := 721) (by decide +kernel)
theorem ml_X8_227 : Cond.methodLink RX8 227 m_X2_add.1 ∈ am_tbl := ri_lw_in (pl := 725) (by decide +kernel)
theorem ok_X8_law : am_okM m_X8_law 2 ∧ Cond.instanceMethod m_X8_law.1 ∈ am_tbl ∧ Cond.selects m_X8_law.1.cls m_X8_law.1 m_X8_law.1 ∈ am_tbl := ri_mk1 720 82 718 719 (by decide +kernel)
theorem c_X8_law {t u : Int} {F A : gs_F} (hI : gs_I F A) (ht : -2147483648 ≤ t ∧ t ≤ 2147483647) (hu : -2147483648 ≤ u ∧ u ≤ 2147483647) : sC m_X8_law 6 [.ref 0, gs_iv t, gs_iv u] F A (fun rv F' A' => ∃ z : Int, rv = some (gs_iv z) ∧ gs_I F' A' ∧ gs_fr (fun c j => (c = 15 ∧ j = 1) ∨ (18 ≤ c ∧ c < 30 ∧ j = 1) ∨ ((c = 48 ∨ c = 50 ∨ c = 52) ∧ j = 1)) (fun c => c = 7 ∨ (18 ≤ c ∧ c < 30) ∨ c = 49 ∨ c = 51 ∨ c = 53) F A F' A' ∧ (True)) := by
  refine sC_of ok_X8_law.1 (Nat.le_of_ble_eq_true rfl) ?_
  show sA _ _ _ 0 [(0, .ref 0), (1, gs_iv t), (2, gs_iv u)] [] F A
  have hf : gs_fr (fun c j => (c = 15 ∧ j = 1) ∨ (18 ≤ c ∧ c < 30 ∧ j = 1) ∨ ((c = 48 ∨ c = 50 ∨ c = 52) ∧ j = 1)) (fun c => c = 7 ∨ (18 ≤ c ∧ c < 30) ∨ c = 49 ∨ c = 51 ∨ c = 53) F A F A := gs_fr_refl _ _ _ _
  refine sA_aload_n dd_X8_law_0 rfl (.head _) ?_
  refine sA_iload_n dd_X8_law_1 rfl (.tail _ (.head _)) ?_
  refine sA_callV (y2 := m_X8_isTwist) (n2 := 1) (d2 := 1) (a := 0) (ci := 8) (q := (RX8, TX8, 13)) (as := [gs_iv t]) (rest := []) dd_X8_law_2 ok_X8_isTwist ml_X8_224 rfl rfl (by decide) gs_s0 rfl rfl (Nat.le_of_ble_eq_true rfl) (by decide) (c_X8_isTwist hI (by omega)) (fun r1 F2 A3 h4 => ?_)
  obtain ⟨z7, e6, e8, e9, x5⟩ := h4
  subst e6 e8 e9
  show sA _ _ _ 5 _ [gs_iv z7] _ _
  refine sA_if_eq (tgt := 16) dd_X8_law_5 (by decide) (by omega) (fun q10 => ?_) (fun q10 => ?_)
  · skip
    refine sA_sipush (z := (-1001)) dd_X8_law_16 (by decide) ?_
    refine sA_iret (z := -1001) dd_X8_law_19 rfl ?_
    exact ⟨_, rfl, hI, hf, trivial⟩
  · skip
    refine sA_aload_n dd_X8_law_8 rfl (.head _) ?_
    refine sA_iload_n dd_X8_law_9 rfl (.tail _ (.tail _ (.head _))) ?_
    refine sA_callV (y2 := m_X8_isTwist) (n2 := 1) (d2 := 1) (a := 0) (ci := 8) (q := (RX8, TX8, 13)) (as := [gs_iv u]) (rest := []) dd_X8_law_10 ok_X8_isTwist ml_X8_224 rfl rfl (by decide) gs_s0 rfl rfl (Nat.le_of_ble_eq_true rfl) (by decide) (c_X8_isTwist hI (by omega)) (fun r11 F12 A13 h14 => ?_)
    obtain ⟨z17, e16, e18, e19, x15⟩ := h14
    subst e16 e18 e19
    show sA _ _ _ 13 _ [gs_iv z17] _ _
    refine sA_if_ne (tgt := 20) dd_X8_law_13 (by decide) (by omega) (fun q20 => ?_) (fun q20 => ?_)
    · skip
      refine sA_aload_n dd_X8_law_20 rfl (.head _) ?_
      refine sA_getr (ci := 8) (j := 9) (q := (RX8, TX8, 13)) dd_X8_law_21 rfl (by decide) fl_X8_73 (by decide) gs_s0 rfl ?_
      refine sA_iconst (z := 0) dd_X8_law_24 ?_
      refine sA_put (ci := 2) (j := 1) (q := (RX2, TX2, 2)) (ty := .int) dd_X8_law_25 rfl (by decide) fl_X8_162 rfl (tyX2_ok 1 (by decide)) rfl rfl (Nat.lt_of_succ_lt gs_plan_50.1) gs_plan_50.2.1 rfl ?_
      have I22 : gs_I (gs_up F 50 1 0) A := gs_plan_put gs_plan_50 hI (by omega)
      have f23 := gs_fr_put hf (a := 50) (z := 0) (j := 1) (by first | omega | (dsimp only; omega) | (dsimp only))
      have v24 : gs_up F 50 1 0 50 1 = 0 := gs_up_self _ _ _ _
      generalize gs_up F 50 1 0 = F21 at I22 f23 v24 ⊢
      refine sA_aload_n dd_X8_law_28 rfl (.head _) ?_
      refine sA_getr (ci := 8) (j := 9) (q := (RX8, TX8, 13)) dd_X8_law_29 rfl (by decide) fl_X8_73 (by decide) gs_s0 rfl ?_
      refine sA_iconst (z := 2) dd_X8_law_32 ?_
      refine sA_iload_n dd_X8_law_33 rfl (.tail _ (.head _)) ?_
      refine sA_imul dd_X8_law_34 ?_
      refine sA_callV (y2 := m_X2_add) (n2 := 1) (d2 := 1) (a := 50) (ci := 2) (q := (RX2, TX2, 2)) (as := [gs_iv (2 * t)]) (rest := []) dd_X8_law_35 ok_X2_add ml_X8_227 rfl rfl (Nat.lt_of_succ_lt gs_plan_50.1) gs_plan_50.2.1 rfl rfl (Nat.le_of_ble_eq_true rfl) (by decide) (c_X2_add I22 gs_plan_50 (by omega)) (fun r25 F26 A27 h28 => ?_)
      obtain ⟨e30, I31, f32, x29⟩ := h28
      subst e30
      have f33 := gs_fr_tr f23 f32 (fun b j h => by first | exact False.elim h | omega | (dsimp only at h ⊢; omega)) (fun b h => by first | exact False.elim h | omega | (dsimp only at h ⊢; omega))
      show sA _ _ _ 38 _ [] _ _
      refine sA_aload_n dd_X8_law_38 rfl (.head _) ?_
      refine sA_getr (ci := 8) (j := 9) (q := (RX8, TX8, 13)) dd_X8_law_39 rfl (by decide) fl_X8_73 (by decide) gs_s0 rfl ?_
      refine sA_iconst (z := 2) dd_X8_law_42 ?_
      refine sA_iload_n dd_X8_law_43 rfl (.tail _ (.tail _ (.head _))) ?_
      refine sA_imul dd_X8_law_44 ?_
      refine sA_callV (y2 := m_X2_add) (n2 := 1) (d2 := 1) (a := 50) (ci := 2) (q := (RX2, TX2, 2)) (as := [gs_iv (2 * u)]) (rest := []) dd_X8_law_45 ok_X2_add ml_X8_227 rfl rfl (Nat.lt_of_succ_lt gs_plan_50.1) gs_plan_50.2.1 rfl rfl (Nat.le_of_ble_eq_true rfl) (by decide) (c_X2_add I31 gs_plan_50 (by omega)) (fun r34 F35 A36 h37 => ?_)
      obtain ⟨e39, I40, f41, x38⟩ := h37
      subst e39
      have f42 := gs_fr_tr f33 f41 (fun b j h => by first | exact False.elim h | omega | (dsimp only at h ⊢; omega)) (fun b h => by first | exact False.elim h | omega | (dsimp only at h ⊢; omega))
      show sA _ _ _ 48 _ [] _ _
      refine sA_aload_n dd_X8_law_48 rfl (.head _) ?_
      refine sA_getr (ci := 8) (j := 10) (q := (RX8, TX8, 13)) dd_X8_law_49 rfl (by decide) fl_X8_77 (by decide) gs_s0 rfl ?_
      refine sA_iconst (z := 0) dd_X8_law_52 ?_
      refine sA_put (ci := 2) (j := 1) (q := (RX2, TX2, 2)) (ty := .int) dd_X8_law_53 rfl (by decide) fl_X8_162 rfl (tyX2_ok 1 (by decide)) rfl rfl (Nat.lt_of_succ_lt gs_plan_52.1) gs_plan_52.2.1 rfl ?_
      have I44 : gs_I (gs_up F35 52 1 0) A36 := gs_plan_put gs_plan_52 I40 (by omega)
      have f45 := gs_fr_put f42 (a := 52) (z := 0) (j := 1) (by first | omega | (dsimp only; omega) | (dsimp only))
      have v46 : gs_up F35 52 1 0 52 1 = 0 := gs_up_self _ _ _ _
      generalize gs_up F35 52 1 0 = F43 at I44 f45 v46 ⊢
      refine sA_aload_n dd_X8_law_56 rfl (.head _) ?_
      refine sA_getr (ci := 8) (j := 10) (q := (RX8, TX8, 13)) dd_X8_law_57 rfl (by decide) fl_X8_77 (by decide) gs_s0 rfl ?_
      refine sA_iconst (z := 2) dd_X8_law_60 ?_
      refine sA_iload_n dd_X8_law_61 rfl (.tail _ (.tail _ (.head _))) ?_
      refine sA_imul dd_X8_law_62 ?_
      refine sA_callV (y2 := m_X2_add) (n2 := 1) (d2 := 1) (a := 52) (ci := 2) (q := (RX2, TX2, 2)) (as := [gs_iv (2 * u)]) (rest := []) dd_X8_law_63 ok_X2_add ml_X8_227 rfl rfl (Nat.lt_of_succ_lt gs_plan_52.1) gs_plan_52.2.1 rfl rfl (Nat.le_of_ble_eq_true rfl) (by decide) (c_X2_add I44 gs_plan_52 (by omega)) (fun r47 F48 A49 h50 => ?_)
      obtain ⟨e52, I53, f54, x51⟩ := h50
      subst e52
      have f55 := gs_fr_tr f45 f54 (fun b j h => by first | exact False.elim h | omega | (dsimp only at h ⊢; omega)) (fun b h => by first | exact False.elim h | omega | (dsimp only at h ⊢; omega))
      show sA _ _ _ 66 _ [] _ _
      refine sA_aload_n dd_X8_law_66 rfl (.head _) ?_
      refine sA_getr (ci := 8) (j := 10) (q := (RX8, TX8, 13)) dd_X8_law_67 rfl (by decide) fl_X8_77 (by decide) gs_s0 rfl ?_
      refine sA_iconst (z := 2) dd_X8_law_70 ?_
      refine sA_iload_n dd_X8_law_71 rfl (.tail _ (.head _)) ?_
      refine sA_imul dd_X8_law_72 ?_
      refine sA_callV (y2 := m_X2_add) (n2 := 1) (d2 := 1) (a := 52) (ci := 2) (q := (RX2, TX2, 2)) (as := [gs_iv (2 * t)]) (rest := []) dd_X8_law_73 ok_X2_add ml_X8_227 rfl rfl (Nat.lt_of_succ_lt gs_plan_52.1) gs_plan_52.2.1 rfl rfl (Nat.le_of_ble_eq_true rfl) (by decide) (c_X2_add I53 gs_plan_52 (by omega)) (fun r56 F57 A58 h59 => ?_)
      obtain ⟨e61, I62, f63, x60⟩ := h59
      subst e61
      have f64 := gs_fr_tr f55 f63 (fun b j h => by first | exact False.elim h | omega | (dsimp only at h ⊢; omega)) (fun b h => by first | exact False.elim h | omega | (dsimp only at h ⊢; omega))
      show sA _ _ _ 76 _ [] _ _
      refine sA_aload_n dd_X8_law_76 rfl (.head _) ?_
      refine sA_aload_n dd_X8_law_77 rfl (.head _) ?_
      refine sA_getr (ci := 8) (j := 9) (q := (RX8, TX8, 13)) dd_X8_law_78 rfl (by decide) fl_X8_73 (by decide) gs_s0 rfl ?_
      refine sA_aload_n dd_X8_law_81 rfl (.head _) ?_
      refine sA_getr (ci := 8) (j := 10) (q := (RX8, TX8, 13)) dd_X8_law_82 rfl (by decide) fl_X8_77 (by decide) gs_s0 rfl ?_
      refine sA_callV (y2 := m_X8_firstUnlike) (n2 := 2) (d2 := 5) (a := 0) (ci := 8) (q := (RX8, TX8, 13)) (as := [.ref 50, .ref 52]) (rest := []) dd_X8_law_85 ok_X8_firstUnlike ml_X8_189 rfl rfl (by decide) gs_s0 rfl rfl (Nat.le_of_ble_eq_true rfl) (by decide) (c_X8_firstUnlike I62 gs_plan_50 gs_plan_52) (fun r65 F66 A67 h68 => ?_)
      obtain ⟨z71, e70, I72, f73, x69⟩ := h68
      subst e70
      have f74 := gs_fr_tr f64 f73 (fun b j h => by first | exact False.elim h | omega | (dsimp only at h ⊢; omega)) (fun b h => by first | exact False.elim h | omega | (dsimp only at h ⊢; omega))
      show sA _ _ _ 88 _ [gs_iv z71] _ _
      refine sA_iconst (z := (-1)) dd_X8_law_88 ?_
      refine sA_icmp_ne (tgt := 94) dd_X8_law_89 (by decide) (by omega) (by omega) (fun q75 => ?_) (fun q75 => ?_)
      · skip
        refine sA_aload_n dd_X8_law_94 rfl (.head _) ?_
        refine sA_getr (ci := 8) (j := 9) (q := (RX8, TX8, 13)) dd_X8_law_95 rfl (by decide) fl_X8_73 (by decide) gs_s0 rfl ?_
        refine sA_iconst (z := 2) dd_X8_law_98 ?_
        refine sA_iload_n dd_X8_law_99 rfl (.tail _ (.head _)) ?_
        refine sA_imul dd_X8_law_100 ?_
        refine sA_callV (y2 := m_X2_add) (n2 := 1) (d2 := 1) (a := 50) (ci := 2) (q := (RX2, TX2, 2)) (as := [gs_iv (2 * t)]) (rest := []) dd_X8_law_101 ok_X2_add ml_X8_227 rfl rfl (Nat.lt_of_succ_lt gs_plan_50.1) gs_plan_50.2.1 rfl rfl (Nat.le_of_ble_eq_true rfl) (by decide) (c_X2_add I72 gs_plan_50 (by omega)) (fun r76 F77 A78 h79 => ?_)
        obtain ⟨e81, I82, f83, x80⟩ := h79
        subst e81
        have f84 := gs_fr_tr f74 f83 (fun b j h => by first | exact False.elim h | omega | (dsimp only at h ⊢; omega)) (fun b h => by first | exact False.elim h | omega | (dsimp only at h ⊢; omega))
        show sA _ _ _ 104 _ [] _ _
        refine sA_aload_n dd_X8_law_104 rfl (.head _) ?_
        refine sA_getr (ci := 8) (j := 10) (q := (RX8, TX8, 13)) dd_X8_law_105 rfl (by decide) fl_X8_77 (by decide) gs_s0 rfl ?_
        refine sA_iconst (z := 2) dd_X8_law_108 ?_
        refine sA_iload_n dd_X8_law_109 rfl (.tail _ (.tail _ (.head _))) ?_
        refine sA_imul dd_X8_law_110 ?_
        refine sA_callV (y2 := m_X2_add) (n2 := 1) (d2 := 1) (a := 52) (ci := 2) (q := (RX2, TX2, 2)) (as := [gs_iv (2 * u)]) (rest := []) dd_X8_law_111 ok_X2_add ml_X8_227 rfl rfl (Nat.lt_of_succ_lt gs_plan_52.1) gs_plan_52.2.1 rfl rfl (Nat.le_of_ble_eq_true rfl) (by decide) (c_X2_add I82 gs_plan_52 (by omega)) (fun r85 F86 A87 h88 => ?_)
        obtain ⟨e90, I91, f92, x89⟩ := h88
        subst e90
        have f93 := gs_fr_tr f84 f92 (fun b j h => by first | exact False.elim h | omega | (dsimp only at h ⊢; omega)) (fun b h => by first | exact False.elim h | omega | (dsimp only at h ⊢; omega))
        show sA _ _ _ 114 _ [] _ _
        refine sA_aload_n dd_X8_law_114 rfl (.head _) ?_
        refine sA_aload_n dd_X8_law_115 rfl (.head _) ?_
        refine sA_getr (ci := 8) (j := 9) (q := (RX8, TX8, 13)) dd_X8_law_116 rfl (by decide) fl_X8_73 (by decide) gs_s0 rfl ?_
        refine sA_aload_n dd_X8_law_119 rfl (.head _) ?_
        refine sA_getr (ci := 8) (j := 10) (q := (RX8, TX8, 13)) dd_X8_law_120 rfl (by decide) fl_X8_77 (by decide) gs_s0 rfl ?_
        refine sA_callV (y2 := m_X8_firstUnlike) (n2 := 2) (d2 := 5) (a := 0) (ci := 8) (q := (RX8, TX8, 13)) (as := [.ref 50, .ref 52]) (rest := []) dd_X8_law_123 ok_X8_firstUnlike ml_X8_189 rfl rfl (by decide) gs_s0 rfl rfl (Nat.le_of_ble_eq_true rfl) (by decide) (c_X8_firstUnlike I91 gs_plan_50 gs_plan_52) (fun r94 F95 A96 h97 => ?_)
        obtain ⟨z100, e99, I101, f102, x98⟩ := h97
        subst e99
        have f103 := gs_fr_tr f93 f102 (fun b j h => by first | exact False.elim h | omega | (dsimp only at h ⊢; omega)) (fun b h => by first | exact False.elim h | omega | (dsimp only at h ⊢; omega))
        show sA _ _ _ 126 _ [gs_iv z100] _ _
        refine sA_iconst (z := (-1)) dd_X8_law_126 ?_
        refine sA_icmp_ne (tgt := 134) dd_X8_law_127 (by decide) (by omega) (by omega) (fun q104 => ?_) (fun q104 => ?_)
        · skip
          refine sA_iconst (z := 2) dd_X8_law_134 ?_
          refine sA_iret (z := 2) dd_X8_law_135 rfl ?_
          exact ⟨_, rfl, I101, f103, trivial⟩
        · skip
          refine sA_iconst (z := 1) dd_X8_law_130 ?_
          refine sA_goto (tgt := 135) dd_X8_law_131 (by decide) ?_
          refine sA_iret (z := 1) dd_X8_law_135 rfl ?_
          exact ⟨_, rfl, I101, f103, trivial⟩
      · skip
        refine sA_iconst (z := 0) dd_X8_law_92 ?_
        refine sA_iret (z := 0) dd_X8_law_93 rfl ?_
        exact ⟨_, rfl, I72, f74, trivial⟩
    · skip
      refine sA_sipush (z := (-1001)) dd_X8_law_16 (by decide) ?_
      refine sA_iret (z := -1001) dd_X8_law_19 rfl ?_
      exact ⟨_, rfl, hI, hf, trivial⟩
theorem dd_X8_carry_0 : decode cX8_carry 0 = .ok (.aload_n 0, 1) := by decide +kernel
theorem dd_X8_carry_1 : decode cX8_carry 1 = .ok (.iload_n 1, 1) := by decide +kernel
theorem dd_X8_carry_2 : decode cX8_carry 2 = .ok (.invokevirtual 101, 3) := by decide +kernel
theorem dd_X8_carry_5 : decode cX8_carry 5 = .ok (.ifCond .eq 11, 3) := by decide +kernel
theorem dd_X8_carry_8 : decode cX8_carry 8 = .ok (.aload_n 0, 1) := by decide +kernel
theorem dd_X8_carry_9 : decode cX8_carry 9 = .ok (.iload_n 2, 1) := by decide +kernel
theorem dd_X8_carry_10 : decode cX8_carry 10 = .ok (.invokevirtual 101, 3) := by decide +kernel
theorem dd_X8_carry_13 : decode cX8_carry 13 = .ok (.ifCond .ne 7, 3) := by decide +kernel
theorem dd_X8_carry_16 : decode cX8_carry 16 = .ok (.sipush (-1001), 3) := by decide +kernel
theorem dd_X8_carry_19 : decode cX8_carry 19 = .ok (.ireturn, 1) := by decide +kernel
theorem dd_X8_carry_20 : decode cX8_carry 20 = .ok (.iload_n 3, 1) := by decide +kernel
theorem dd_X8_carry_21 : decode cX8_carry 21 = .ok (.iload 4, 2) := by decide +kernel
theorem dd_X8_carry_23 : decode cX8_carry 23 = .ok (.invokestatic 228, 3) := by decide +kernel
theorem dd_X8_carry_26 : decode cX8_carry 26 = .ok (.ifCond .ne 7, 3) := by decide +kernel
theorem dd_X8_carry_29 : decode cX8_carry 29 = .ok (.sipush (-1002), 3) := by decide +kernel
theorem dd_X8_carry_32 : decode cX8_carry 32 = .ok (.ireturn, 1) := by decide +kernel
theorem dd_X8_carry_33 : decode cX8_carry 33 = .ok (.aload_n 0, 1) := by decide +kernel
theorem dd_X8_carry_34 : decode cX8_carry 34 = .ok (.getfield 58, 3) := by decide +kernel
theorem dd_X8_carry_37 : decode cX8_carry 37 = .ok (.aload_n 0, 1) := by decide +kernel
theorem dd_X8_carry_38 : decode cX8_carry 38 = .ok (.getfield 11, 3) := by decide +kernel
theorem dd_X8_carry_41 : decode cX8_carry 41 = .ok (.iload_n 1, 1) := by decide +kernel
theorem dd_X8_carry_42 : decode cX8_carry 42 = .ok (.aaload, 1) := by decide +kernel
theorem dd_X8_carry_43 : decode cX8_carry 43 = .ok (.getfield 105, 3) := by decide +kernel
theorem dd_X8_carry_46 : decode cX8_carry 46 = .ok (.aload_n 0, 1) := by decide +kernel
theorem dd_X8_carry_47 : decode cX8_carry 47 = .ok (.getfield 11, 3) := by decide +kernel
theorem dd_X8_carry_50 : decode cX8_carry 50 = .ok (.iload_n 2, 1) := by decide +kernel
theorem dd_X8_carry_51 : decode cX8_carry 51 = .ok (.aaload, 1) := by decide +kernel
theorem dd_X8_carry_52 : decode cX8_carry 52 = .ok (.getfield 105, 3) := by decide +kernel
theorem dd_X8_carry_55 : decode cX8_carry 55 = .ok (.iload_n 3, 1) := by decide +kernel
theorem dd_X8_carry_56 : decode cX8_carry 56 = .ok (.aload_n 0, 1) := by decide +kernel
theorem dd_X8_carry_57 : decode cX8_carry 57 = .ok (.getfield 73, 3) := by decide +kernel
theorem dd_X8_carry_60 : decode cX8_carry 60 = .ok (.invokevirtual 231, 3) := by decide +kernel
theorem dd_X8_carry_63 : decode cX8_carry 63 = .ok (.ifCond .eq 15, 3) := by decide +kernel
theorem dd_X8_carry_66 : decode cX8_carry 66 = .ok (.aload_n 0, 1) := by decide +kernel
theorem dd_X8_carry_67 : decode cX8_carry 67 = .ok (.getfield 73, 3) := by decide +kernel
theorem dd_X8_carry_70 : decode cX8_carry 70 = .ok (.iload 4, 2) := by decide +kernel
theorem dd_X8_carry_72 : decode cX8_carry 72 = .ok (.invokevirtual 166, 3) := by decide +kernel
theorem dd_X8_carry_75 : decode cX8_carry 75 = .ok (.goto 4, 3) := by decide +kernel
theorem dd_X8_carry_78 : decode cX8_carry 78 = .ok (.iconst (-1), 1) := by decide +kernel
theorem dd_X8_carry_79 : decode cX8_carry 79 = .ok (.ireturn, 1) := by decide +kernel
theorem fl_X8_58 : Cond.fieldLink RX8 58 (TX8 6).1 (TX8 6).2.1 (TX8 6).2.2.1 ∈ am_tbl := ri_lw_in (pl := 357) (by decide +kernel)
theorem ml_X8_228 : Cond.methodLink RX8 228 m_X8_isSearch.1 ∈ am_tbl := ri_lw_in (pl := 730) (by decide +kernel)
theorem ml_X8_231 : Cond.methodLink RX8 231 m_X5_forCarrying.1 ∈ am_tbl := ri_lw_in (pl := 733) (by decide +kernel)
theorem ok_X8_carry : am_okM m_X8_carry 4 ∧ Cond.instanceMethod m_X8_carry.1 ∈ am_tbl ∧ Cond.selects m_X8_carry.1.cls m_X8_carry.1 m_X8_carry.1 ∈ am_tbl := ri_mk1 729 82 727 728 (by decide +kernel)
theorem c_X8_carry {r s n i : Int} {F A : gs_F} (hI : gs_I F A) (hr : -2147483648 ≤ r ∧ r ≤ 2147483647) (hs : -2147483648 ≤ s ∧ s ≤ 2147483647) (hn : -2147483648 ≤ n ∧ n ≤ 2147483647) (hi : -2147483648 ≤ i ∧ i ≤ 2147483647) : sC m_X8_carry 8 [.ref 0, gs_iv r, gs_iv s, gs_iv n, gs_iv i] F A (fun rv F' A' => ∃ z : Int, rv = some (gs_iv z) ∧ gs_I F' A' ∧ gs_fr (fun c j => (c = 33 ∧ j = 1) ∨ (c = 30 ∧ j = 5) ∨ (35 ≤ c ∧ c < 43 ∧ j = 1) ∨ (c = 50 ∧ j = 1)) (fun c => c = 34 ∨ c = 7 ∨ c = 32 ∨ (35 ≤ c ∧ c < 43) ∨ c = 51) F A F' A' ∧ (True)) := by
  refine sC_of ok_X8_carry.1 (Nat.le_of_ble_eq_true rfl) ?_
  show sA _ _ _ 0 [(0, .ref 0), (1, gs_iv r), (2, gs_iv s), (3, gs_iv n), (4, gs_iv i)] [] F A
  have hf : gs_fr (fun c j => (c = 33 ∧ j = 1) ∨ (c = 30 ∧ j = 5) ∨ (35 ≤ c ∧ c < 43 ∧ j = 1) ∨ (c = 50 ∧ j = 1)) (fun c => c = 34 ∨ c = 7 ∨ c = 32 ∨ (35 ≤ c ∧ c < 43) ∨ c = 51) F A F A := gs_fr_refl _ _ _ _
  refine sA_aload_n dd_X8_carry_0 rfl (.head _) ?_
  refine sA_iload_n dd_X8_carry_1 rfl (.tail _ (.head _)) ?_
  refine sA_callV (y2 := m_X8_isRing) (n2 := 1) (d2 := 1) (a := 0) (ci := 8) (q := (RX8, TX8, 13)) (as := [gs_iv r]) (rest := []) dd_X8_carry_2 ok_X8_isRing ml_X8_101 rfl rfl (by decide) gs_s0 rfl rfl (Nat.le_of_ble_eq_true rfl) (by decide) (c_X8_isRing hI (by omega)) (fun r1 F2 A3 h4 => ?_)
  obtain ⟨z7, e6, e8, e9, x5⟩ := h4
  subst e6 e8 e9
  show sA _ _ _ 5 _ [gs_iv z7] _ _
  refine sA_if_eq (tgt := 16) dd_X8_carry_5 (by decide) (by omega) (fun q10 => ?_) (fun q10 => ?_)
  · skip
    refine sA_sipush (z := (-1001)) dd_X8_carry_16 (by decide) ?_
    refine sA_iret (z := -1001) dd_X8_carry_19 rfl ?_
    exact ⟨_, rfl, hI, hf, trivial⟩
  · skip
    refine sA_aload_n dd_X8_carry_8 rfl (.head _) ?_
    refine sA_iload_n dd_X8_carry_9 rfl (.tail _ (.tail _ (.head _))) ?_
    refine sA_callV (y2 := m_X8_isRing) (n2 := 1) (d2 := 1) (a := 0) (ci := 8) (q := (RX8, TX8, 13)) (as := [gs_iv s]) (rest := []) dd_X8_carry_10 ok_X8_isRing ml_X8_101 rfl rfl (by decide) gs_s0 rfl rfl (Nat.le_of_ble_eq_true rfl) (by decide) (c_X8_isRing hI (by omega)) (fun r11 F12 A13 h14 => ?_)
    obtain ⟨z17, e16, e18, e19, x15⟩ := h14
    subst e16 e18 e19
    show sA _ _ _ 13 _ [gs_iv z17] _ _
    refine sA_if_ne (tgt := 20) dd_X8_carry_13 (by decide) (by omega) (fun q20 => ?_) (fun q20 => ?_)
    · skip
      refine sA_iload_n dd_X8_carry_20 rfl (.tail _ (.tail _ (.tail _ (.head _)))) ?_
      refine sA_iload dd_X8_carry_21 (.tail _ (.tail _ (.tail _ (.tail _ (.head _))))) ?_
      refine sA_callS (y2 := m_X8_isSearch) (n2 := 2) (d2 := 1) (as := [gs_iv n, gs_iv i]) (rest := []) dd_X8_carry_23 ok_X8_isSearch ml_X8_228 rfl rfl (Nat.le_of_ble_eq_true rfl) (by decide) (c_X8_isSearch (by omega) (by omega)) (fun r21 F22 A23 h24 => ?_)
      obtain ⟨z27, e26, e28, e29, x25⟩ := h24
      subst e26 e28 e29
      show sA _ _ _ 26 _ [gs_iv z27] _ _
      refine sA_if_ne (tgt := 33) dd_X8_carry_26 (by decide) (by omega) (fun q30 => ?_) (fun q30 => ?_)
      · skip
        refine sA_aload_n dd_X8_carry_33 rfl (.head _) ?_
        refine sA_getr (ci := 8) (j := 6) (q := (RX8, TX8, 13)) dd_X8_carry_34 rfl (by decide) fl_X8_58 (by decide) gs_s0 rfl ?_
        refine sA_aload_n dd_X8_carry_37 rfl (.head _) ?_
        refine sA_getr (ci := 8) (j := 0) (q := (RX8, TX8, 13)) dd_X8_carry_38 rfl (by decide) fl_X8_11 (by decide) gs_s0 rfl ?_
        refine sA_iload_n dd_X8_carry_41 rfl (.tail _ (.head _)) ?_
        refine sA_aald (n := 12) dd_X8_carry_42 (by decide) (by decide) (by decide) gs_s1 (by omega) (by decide) ?_
        have g31 := gs_ring_at (k := r.toNat) (by omega)
        refine sA_getr (ci := 3) (j := 0) (q := (RX3, TX3, 3)) dd_X8_carry_43 rfl (by decide) fl_X8_105 (Nat.lt_of_succ_lt g31.1) g31.2.1 rfl ?_
        refine sA_aload_n dd_X8_carry_46 rfl (.head _) ?_
        refine sA_getr (ci := 8) (j := 0) (q := (RX8, TX8, 13)) dd_X8_carry_47 rfl (by decide) fl_X8_11 (by decide) gs_s0 rfl ?_
        refine sA_iload_n dd_X8_carry_50 rfl (.tail _ (.tail _ (.head _))) ?_
        refine sA_aald (n := 12) dd_X8_carry_51 (by decide) (by decide) (by decide) gs_s1 (by omega) (by decide) ?_
        have g32 := gs_ring_at (k := s.toNat) (by omega)
        refine sA_getr (ci := 3) (j := 0) (q := (RX3, TX3, 3)) dd_X8_carry_52 rfl (by decide) fl_X8_105 (Nat.lt_of_succ_lt g32.1) g32.2.1 rfl ?_
        refine sA_iload_n dd_X8_carry_55 rfl (.tail _ (.tail _ (.tail _ (.head _)))) ?_
        refine sA_aload_n dd_X8_carry_56 rfl (.head _) ?_
        refine sA_getr (ci := 8) (j := 9) (q := (RX8, TX8, 13)) dd_X8_carry_57 rfl (by decide) fl_X8_73 (by decide) gs_s0 rfl ?_
        refine sA_callV (y2 := m_X5_forCarrying) (n2 := 4) (d2 := 7) (a := 30) (ci := 5) (q := (RX5, TX5, 6)) (as := [.ref (54 + 3 * r.toNat + 1), .ref (54 + 3 * s.toNat + 1), gs_iv n, .ref 50]) (rest := []) dd_X8_carry_60 ok_X5_forCarrying ml_X8_231 rfl rfl (by decide) gs_s30 rfl rfl (Nat.le_of_ble_eq_true rfl) (by decide) (c_X5_forCarrying hI g31.2.2.1 g32.2.2.1 (by omega) gs_plan_50) (fun r33 F34 A35 h36 => ?_)
        obtain ⟨z39, e38, I40, f41, x37⟩ := h36
        subst e38
        have f42 := gs_fr_tr hf f41 (fun b j h => by first | exact False.elim h | omega | (dsimp only at h ⊢; omega)) (fun b h => by first | exact False.elim h | omega | (dsimp only at h ⊢; omega))
        show sA _ _ _ 63 _ [gs_iv z39] _ _
        refine sA_if_eq (tgt := 78) dd_X8_carry_63 (by decide) (by omega) (fun q43 => ?_) (fun q43 => ?_)
        · skip
          refine sA_iconst (z := (-1)) dd_X8_carry_78 ?_
          refine sA_iret (z := -1) dd_X8_carry_79 rfl ?_
          exact ⟨_, rfl, I40, f42, trivial⟩
        · skip
          refine sA_aload_n dd_X8_carry_66 rfl (.head _) ?_
          refine sA_getr (ci := 8) (j := 9) (q := (RX8, TX8, 13)) dd_X8_carry_67 rfl (by decide) fl_X8_73 (by decide) gs_s0 rfl ?_
          refine sA_iload dd_X8_carry_70 (.tail _ (.tail _ (.tail _ (.tail _ (.head _))))) ?_
          refine sA_callV (y2 := m_X2_codeOrSize) (n2 := 1) (d2 := 1) (a := 50) (ci := 2) (q := (RX2, TX2, 2)) (as := [gs_iv i]) (rest := []) dd_X8_carry_72 ok_X2_codeOrSize ml_X8_166 rfl rfl (Nat.lt_of_succ_lt gs_plan_50.1) gs_plan_50.2.1 rfl rfl (Nat.le_of_ble_eq_true rfl) (by decide) (c_X2_codeOrSize I40 gs_plan_50 (by omega)) (fun r44 F45 A46 h47 => ?_)
          obtain ⟨z50, e49, e51, e52, x48⟩ := h47
          subst e49 e51 e52
          show sA _ _ _ 75 _ [gs_iv z50] _ _
          refine sA_goto (tgt := 79) dd_X8_carry_75 (by decide) ?_
          refine sA_iret (z := z50) dd_X8_carry_79 rfl ?_
          exact ⟨_, rfl, I40, f42, trivial⟩
      · skip
        refine sA_sipush (z := (-1002)) dd_X8_carry_29 (by decide) ?_
        refine sA_iret (z := -1002) dd_X8_carry_32 rfl ?_
        exact ⟨_, rfl, hI, hf, trivial⟩
    · skip
      refine sA_sipush (z := (-1001)) dd_X8_carry_16 (by decide) ?_
      refine sA_iret (z := -1001) dd_X8_carry_19 rfl ?_
      exact ⟨_, rfl, hI, hf, trivial⟩
theorem dd_X8_fewest_0 : decode cX8_fewest 0 = .ok (.iload_n 1, 1) := by decide +kernel
theorem dd_X8_fewest_1 : decode cX8_fewest 1 = .ok (.invokestatic 148, 3) := by decide +kernel
theorem dd_X8_fewest_4 : decode cX8_fewest 4 = .ok (.ifCond .ne 7, 3) := by decide +kernel
theorem dd_X8_fewest_7 : decode cX8_fewest 7 = .ok (.sipush (-1001), 3) := by decide +kernel
theorem dd_X8_fewest_10 : decode cX8_fewest 10 = .ok (.ireturn, 1) := by decide +kernel
theorem dd_X8_fewest_11 : decode cX8_fewest 11 = .ok (.iload_n 2, 1) := by decide +kernel
theorem dd_X8_fewest_12 : decode cX8_fewest 12 = .ok (.iload_n 3, 1) := by decide +kernel
theorem dd_X8_fewest_13 : decode cX8_fewest 13 = .ok (.invokestatic 228, 3) := by decide +kernel
theorem dd_X8_fewest_16 : decode cX8_fewest 16 = .ok (.ifCond .ne 7, 3) := by decide +kernel
theorem dd_X8_fewest_19 : decode cX8_fewest 19 = .ok (.sipush (-1002), 3) := by decide +kernel
theorem dd_X8_fewest_22 : decode cX8_fewest 22 = .ok (.ireturn, 1) := by decide +kernel
theorem dd_X8_fewest_23 : decode cX8_fewest 23 = .ok (.aload_n 0, 1) := by decide +kernel
theorem dd_X8_fewest_24 : decode cX8_fewest 24 = .ok (.getfield 49, 3) := by decide +kernel
theorem dd_X8_fewest_27 : decode cX8_fewest 27 = .ok (.aload_n 0, 1) := by decide +kernel
theorem dd_X8_fewest_28 : decode cX8_fewest 28 = .ok (.getfield 84, 3) := by decide +kernel
theorem dd_X8_fewest_31 : decode cX8_fewest 31 = .ok (.invokevirtual 193, 3) := by decide +kernel
theorem dd_X8_fewest_34 : decode cX8_fewest 34 = .ok (.aload_n 0, 1) := by decide +kernel
theorem dd_X8_fewest_35 : decode cX8_fewest 35 = .ok (.getfield 49, 3) := by decide +kernel
theorem dd_X8_fewest_38 : decode cX8_fewest 38 = .ok (.aload_n 0, 1) := by decide +kernel
theorem dd_X8_fewest_39 : decode cX8_fewest 39 = .ok (.getfield 17, 3) := by decide +kernel
theorem dd_X8_fewest_42 : decode cX8_fewest 42 = .ok (.iload_n 1, 1) := by decide +kernel
theorem dd_X8_fewest_43 : decode cX8_fewest 43 = .ok (.aaload, 1) := by decide +kernel
theorem dd_X8_fewest_44 : decode cX8_fewest 44 = .ok (.invokevirtual 196, 3) := by decide +kernel
theorem dd_X8_fewest_47 : decode cX8_fewest 47 = .ok (.ifCond .ne 7, 3) := by decide +kernel
theorem dd_X8_fewest_50 : decode cX8_fewest 50 = .ok (.sipush (-1005), 3) := by decide +kernel
theorem dd_X8_fewest_53 : decode cX8_fewest 53 = .ok (.ireturn, 1) := by decide +kernel
theorem dd_X8_fewest_54 : decode cX8_fewest 54 = .ok (.aload_n 0, 1) := by decide +kernel
theorem dd_X8_fewest_55 : decode cX8_fewest 55 = .ok (.getfield 58, 3) := by decide +kernel
theorem dd_X8_fewest_58 : decode cX8_fewest 58 = .ok (.iload_n 2, 1) := by decide +kernel
theorem dd_X8_fewest_59 : decode cX8_fewest 59 = .ok (.aload_n 0, 1) := by decide +kernel
theorem dd_X8_fewest_60 : decode cX8_fewest 60 = .ok (.getfield 73, 3) := by decide +kernel
theorem dd_X8_fewest_63 : decode cX8_fewest 63 = .ok (.invokevirtual 235, 3) := by decide +kernel
theorem dd_X8_fewest_66 : decode cX8_fewest 66 = .ok (.ifCond .eq 14, 3) := by decide +kernel
theorem dd_X8_fewest_69 : decode cX8_fewest 69 = .ok (.aload_n 0, 1) := by decide +kernel
theorem dd_X8_fewest_70 : decode cX8_fewest 70 = .ok (.getfield 73, 3) := by decide +kernel
theorem dd_X8_fewest_73 : decode cX8_fewest 73 = .ok (.iload_n 3, 1) := by decide +kernel
theorem dd_X8_fewest_74 : decode cX8_fewest 74 = .ok (.invokevirtual 166, 3) := by decide +kernel
theorem dd_X8_fewest_77 : decode cX8_fewest 77 = .ok (.goto 4, 3) := by decide +kernel
theorem dd_X8_fewest_80 : decode cX8_fewest 80 = .ok (.iconst (-1), 1) := by decide +kernel
theorem dd_X8_fewest_81 : decode cX8_fewest 81 = .ok (.ireturn, 1) := by decide +kernel
theorem ml_X8_235 : Cond.methodLink RX8 235 m_X5_forImages.1 ∈ am_tbl := ri_lw_in (pl := 761) (by decide +kernel)
theorem ok_X8_fewest : am_okM m_X8_fewest 3 ∧ Cond.instanceMethod m_X8_fewest.1 ∈ am_tbl ∧ Cond.selects m_X8_fewest.1.cls m_X8_fewest.1 m_X8_fewest.1 ∈ am_tbl := ri_mk1 760 82 758 759 (by decide +kernel)
theorem c_X8_fewest {p n i : Int} {F A : gs_F} (hI : gs_I F A) (hp : -2147483648 ≤ p ∧ p ≤ 2147483647) (hn : -2147483648 ≤ n ∧ n ≤ 2147483647) (hi : -2147483648 ≤ i ∧ i ≤ 2147483647) : sC m_X8_fewest 6 [.ref 0, gs_iv p, gs_iv n, gs_iv i] F A (fun rv F' A' => ∃ z : Int, rv = some (gs_iv z) ∧ gs_I F' A' ∧ gs_fr (fun c j => (c = 15 ∧ j = 1) ∨ (18 ≤ c ∧ c < 30 ∧ j = 1) ∨ (c = 35 ∧ j = 1) ∨ (c = 50 ∧ j = 1)) (fun c => c = 7 ∨ (18 ≤ c ∧ c < 30) ∨ c = 36 ∨ c = 51) F A F' A' ∧ (True)) := by
  refine sC_of ok_X8_fewest.1 (Nat.le_of_ble_eq_true rfl) ?_
  show sA _ _ _ 0 [(0, .ref 0), (1, gs_iv p), (2, gs_iv n), (3, gs_iv i)] [] F A
  have hf : gs_fr (fun c j => (c = 15 ∧ j = 1) ∨ (18 ≤ c ∧ c < 30 ∧ j = 1) ∨ (c = 35 ∧ j = 1) ∨ (c = 50 ∧ j = 1)) (fun c => c = 7 ∨ (18 ≤ c ∧ c < 30) ∨ c = 36 ∨ c = 51) F A F A := gs_fr_refl _ _ _ _
  refine sA_iload_n dd_X8_fewest_0 rfl (.tail _ (.head _)) ?_
  refine sA_callS (y2 := m_X8_isPlan) (n2 := 1) (d2 := 1) (as := [gs_iv p]) (rest := []) dd_X8_fewest_1 ok_X8_isPlan ml_X8_148 rfl rfl (Nat.le_of_ble_eq_true rfl) (by decide) (c_X8_isPlan (by omega)) (fun r1 F2 A3 h4 => ?_)
  obtain ⟨z7, e6, e8, e9, x5⟩ := h4
  subst e6 e8 e9
  show sA _ _ _ 4 _ [gs_iv z7] _ _
  refine sA_if_ne (tgt := 11) dd_X8_fewest_4 (by decide) (by omega) (fun q10 => ?_) (fun q10 => ?_)
  · skip
    refine sA_iload_n dd_X8_fewest_11 rfl (.tail _ (.tail _ (.head _))) ?_
    refine sA_iload_n dd_X8_fewest_12 rfl (.tail _ (.tail _ (.tail _ (.head _)))) ?_
    refine sA_callS (y2 := m_X8_isSearch) (n2 := 2) (d2 := 1) (as := [gs_iv n, gs_iv i]) (rest := []) dd_X8_fewest_13 ok_X8_isSearch ml_X8_228 rfl rfl (Nat.le_of_ble_eq_true rfl) (by decide) (c_X8_isSearch (by omega) (by omega)) (fun r11 F12 A13 h14 => ?_)
    obtain ⟨z17, e16, e18, e19, x15⟩ := h14
    subst e16 e18 e19
    show sA _ _ _ 16 _ [gs_iv z17] _ _
    refine sA_if_ne (tgt := 23) dd_X8_fewest_16 (by decide) (by omega) (fun q20 => ?_) (fun q20 => ?_)
    · skip
      refine sA_aload_n dd_X8_fewest_23 rfl (.head _) ?_
      refine sA_getr (ci := 8) (j := 5) (q := (RX8, TX8, 13)) dd_X8_fewest_24 rfl (by decide) fl_X8_49 (by decide) gs_s0 rfl ?_
      refine sA_aload_n dd_X8_fewest_27 rfl (.head _) ?_
      refine sA_geti (ci := 8) (j := 11) (q := (RX8, TX8, 13)) dd_X8_fewest_28 rfl (by decide) fl_X8_84 (by decide) gs_s0 rfl ?_
      have b21 : (1 : Int) ≤ F 0 11 ∧ F 0 11 ≤ 3 := hI.1 0 11
      refine sA_callV (y2 := m_X0_begin) (n2 := 1) (d2 := 2) (a := 15) (ci := 0) (q := (RX0, TX0, 4)) (as := [gs_iv (F 0 11)]) (rest := []) dd_X8_fewest_31 ok_X0_begin ml_X8_193 rfl rfl (by decide) gs_s15 rfl rfl (Nat.le_of_ble_eq_true rfl) (by decide) (c_X0_begin hI (by omega)) (fun r22 F23 A24 h25 => ?_)
      obtain ⟨e27, I28, f29, x26⟩ := h25
      subst e27
      have f30 := gs_fr_tr hf f29 (fun b j h => by first | exact False.elim h | omega | (dsimp only at h ⊢; omega)) (fun b h => by first | exact False.elim h | omega | (dsimp only at h ⊢; omega))
      show sA _ _ _ 34 _ [] _ _
      refine sA_aload_n dd_X8_fewest_34 rfl (.head _) ?_
      refine sA_getr (ci := 8) (j := 5) (q := (RX8, TX8, 13)) dd_X8_fewest_35 rfl (by decide) fl_X8_49 (by decide) gs_s0 rfl ?_
      refine sA_aload_n dd_X8_fewest_38 rfl (.head _) ?_
      refine sA_getr (ci := 8) (j := 1) (q := (RX8, TX8, 13)) dd_X8_fewest_39 rfl (by decide) fl_X8_17 (by decide) gs_s0 rfl ?_
      refine sA_iload_n dd_X8_fewest_42 rfl (.tail _ (.head _)) ?_
      refine sA_aald (n := 8) dd_X8_fewest_43 (by decide) (by decide) (by decide) gs_s2 (by omega) (by decide) ?_
      have g31 := gs_plan_at (k := p.toNat) (by omega)
      refine sA_callV (y2 := m_X0_doPlan) (n2 := 1) (d2 := 4) (a := 15) (ci := 0) (q := (RX0, TX0, 4)) (as := [.ref (90 + 2 * p.toNat)]) (rest := []) dd_X8_fewest_44 ok_X0_doPlan ml_X8_196 rfl rfl (by decide) gs_s15 rfl rfl (Nat.le_of_ble_eq_true rfl) (by decide) (c_X0_doPlan I28 g31) (fun r32 F33 A34 h35 => ?_)
      obtain ⟨z38, e37, I39, f40, x36⟩ := h35
      subst e37
      have f41 := gs_fr_tr f30 f40 (fun b j h => by first | exact False.elim h | omega | (dsimp only at h ⊢; omega)) (fun b h => by first | exact False.elim h | omega | (dsimp only at h ⊢; omega))
      show sA _ _ _ 47 _ [gs_iv z38] _ _
      refine sA_if_ne (tgt := 54) dd_X8_fewest_47 (by decide) (by omega) (fun q42 => ?_) (fun q42 => ?_)
      · skip
        refine sA_aload_n dd_X8_fewest_54 rfl (.head _) ?_
        refine sA_getr (ci := 8) (j := 6) (q := (RX8, TX8, 13)) dd_X8_fewest_55 rfl (by decide) fl_X8_58 (by decide) gs_s0 rfl ?_
        refine sA_iload_n dd_X8_fewest_58 rfl (.tail _ (.tail _ (.head _))) ?_
        refine sA_aload_n dd_X8_fewest_59 rfl (.head _) ?_
        refine sA_getr (ci := 8) (j := 9) (q := (RX8, TX8, 13)) dd_X8_fewest_60 rfl (by decide) fl_X8_73 (by decide) gs_s0 rfl ?_
        refine sA_callV (y2 := m_X5_forImages) (n2 := 2) (d2 := 5) (a := 30) (ci := 5) (q := (RX5, TX5, 6)) (as := [gs_iv n, .ref 50]) (rest := []) dd_X8_fewest_63 ok_X5_forImages ml_X8_235 rfl rfl (by decide) gs_s30 rfl rfl (Nat.le_of_ble_eq_true rfl) (by decide) (c_X5_forImages I39 (by omega) gs_plan_50) (fun r43 F44 A45 h46 => ?_)
        obtain ⟨z49, e48, I50, f51, x47⟩ := h46
        subst e48
        have f52 := gs_fr_tr f41 f51 (fun b j h => by first | exact False.elim h | omega | (dsimp only at h ⊢; omega)) (fun b h => by first | exact False.elim h | omega | (dsimp only at h ⊢; omega))
        show sA _ _ _ 66 _ [gs_iv z49] _ _
        refine sA_if_eq (tgt := 80) dd_X8_fewest_66 (by decide) (by omega) (fun q53 => ?_) (fun q53 => ?_)
        · skip
          refine sA_iconst (z := (-1)) dd_X8_fewest_80 ?_
          refine sA_iret (z := -1) dd_X8_fewest_81 rfl ?_
          exact ⟨_, rfl, I50, f52, trivial⟩
        · skip
          refine sA_aload_n dd_X8_fewest_69 rfl (.head _) ?_
          refine sA_getr (ci := 8) (j := 9) (q := (RX8, TX8, 13)) dd_X8_fewest_70 rfl (by decide) fl_X8_73 (by decide) gs_s0 rfl ?_
          refine sA_iload_n dd_X8_fewest_73 rfl (.tail _ (.tail _ (.tail _ (.head _)))) ?_
          refine sA_callV (y2 := m_X2_codeOrSize) (n2 := 1) (d2 := 1) (a := 50) (ci := 2) (q := (RX2, TX2, 2)) (as := [gs_iv i]) (rest := []) dd_X8_fewest_74 ok_X2_codeOrSize ml_X8_166 rfl rfl (Nat.lt_of_succ_lt gs_plan_50.1) gs_plan_50.2.1 rfl rfl (Nat.le_of_ble_eq_true rfl) (by decide) (c_X2_codeOrSize I50 gs_plan_50 (by omega)) (fun r54 F55 A56 h57 => ?_)
          obtain ⟨z60, e59, e61, e62, x58⟩ := h57
          subst e59 e61 e62
          show sA _ _ _ 77 _ [gs_iv z60] _ _
          refine sA_goto (tgt := 81) dd_X8_fewest_77 (by decide) ?_
          refine sA_iret (z := z60) dd_X8_fewest_81 rfl ?_
          exact ⟨_, rfl, I50, f52, trivial⟩
      · skip
        refine sA_sipush (z := (-1005)) dd_X8_fewest_50 (by decide) ?_
        refine sA_iret (z := -1005) dd_X8_fewest_53 rfl ?_
        exact ⟨_, rfl, I39, f41, trivial⟩
    · skip
      refine sA_sipush (z := (-1002)) dd_X8_fewest_19 (by decide) ?_
      refine sA_iret (z := -1002) dd_X8_fewest_22 rfl ?_
      exact ⟨_, rfl, hI, hf, trivial⟩
  · skip
    refine sA_sipush (z := (-1001)) dd_X8_fewest_7 (by decide) ?_
    refine sA_iret (z := -1001) dd_X8_fewest_10 rfl ?_
    exact ⟨_, rfl, hI, hf, trivial⟩
end
