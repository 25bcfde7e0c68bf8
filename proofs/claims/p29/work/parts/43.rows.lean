noncomputable section
theorem dd_X4_push_0 : decode cX4_push 0 = .ok (.aload_n 0, 1) := by decide +kernel
theorem dd_X4_push_1 : decode cX4_push 1 = .ok (.getfield 19, 3) := by decide +kernel
theorem dd_X4_push_4 : decode cX4_push 4 = .ok (.ifCond .le 32, 3) := by decide +kernel
theorem dd_X4_push_7 : decode cX4_push 7 = .ok (.aload_n 0, 1) := by decide +kernel
theorem dd_X4_push_8 : decode cX4_push 8 = .ok (.getfield 13, 3) := by decide +kernel
theorem dd_X4_push_11 : decode cX4_push 11 = .ok (.aload_n 0, 1) := by decide +kernel
theorem dd_X4_push_12 : decode cX4_push 12 = .ok (.getfield 19, 3) := by decide +kernel
theorem dd_X4_push_15 : decode cX4_push 15 = .ok (.iconst 1, 1) := by decide +kernel
theorem dd_X4_push_16 : decode cX4_push 16 = .ok (.isub, 1) := by decide +kernel
theorem dd_X4_push_17 : decode cX4_push 17 = .ok (.iaload, 1) := by decide +kernel
theorem dd_X4_push_18 : decode cX4_push 18 = .ok (.iload_n 1, 1) := by decide +kernel
theorem dd_X4_push_19 : decode cX4_push 19 = .ok (.ineg, 1) := by decide +kernel
theorem dd_X4_push_20 : decode cX4_push 20 = .ok (.if_icmp .ne 16, 3) := by decide +kernel
theorem dd_X4_push_23 : decode cX4_push 23 = .ok (.aload_n 0, 1) := by decide +kernel
theorem dd_X4_push_24 : decode cX4_push 24 = .ok (.dup, 1) := by decide +kernel
theorem dd_X4_push_25 : decode cX4_push 25 = .ok (.getfield 19, 3) := by decide +kernel
theorem dd_X4_push_28 : decode cX4_push 28 = .ok (.iconst 1, 1) := by decide +kernel
theorem dd_X4_push_29 : decode cX4_push 29 = .ok (.isub, 1) := by decide +kernel
theorem dd_X4_push_30 : decode cX4_push 30 = .ok (.putfield 19, 3) := by decide +kernel
theorem dd_X4_push_33 : decode cX4_push 33 = .ok (.goto 35, 3) := by decide +kernel
theorem dd_X4_push_36 : decode cX4_push 36 = .ok (.aload_n 0, 1) := by decide +kernel
theorem dd_X4_push_37 : decode cX4_push 37 = .ok (.getfield 19, 3) := by decide +kernel
theorem dd_X4_push_40 : decode cX4_push 40 = .ok (.aload_n 0, 1) := by decide +kernel
theorem dd_X4_push_41 : decode cX4_push 41 = .ok (.getfield 13, 3) := by decide +kernel
theorem dd_X4_push_44 : decode cX4_push 44 = .ok (.arraylength, 1) := by decide +kernel
theorem dd_X4_push_45 : decode cX4_push 45 = .ok (.if_icmp .ge 23, 3) := by decide +kernel
theorem dd_X4_push_48 : decode cX4_push 48 = .ok (.aload_n 0, 1) := by decide +kernel
theorem dd_X4_push_49 : decode cX4_push 49 = .ok (.getfield 13, 3) := by decide +kernel
theorem dd_X4_push_52 : decode cX4_push 52 = .ok (.aload_n 0, 1) := by decide +kernel
theorem dd_X4_push_53 : decode cX4_push 53 = .ok (.getfield 19, 3) := by decide +kernel
theorem dd_X4_push_56 : decode cX4_push 56 = .ok (.iload_n 1, 1) := by decide +kernel
theorem dd_X4_push_57 : decode cX4_push 57 = .ok (.iastore, 1) := by decide +kernel
theorem dd_X4_push_58 : decode cX4_push 58 = .ok (.aload_n 0, 1) := by decide +kernel
theorem dd_X4_push_59 : decode cX4_push 59 = .ok (.dup, 1) := by decide +kernel
theorem dd_X4_push_60 : decode cX4_push 60 = .ok (.getfield 19, 3) := by decide +kernel
theorem dd_X4_push_63 : decode cX4_push 63 = .ok (.iconst 1, 1) := by decide +kernel
theorem dd_X4_push_64 : decode cX4_push 64 = .ok (.iadd, 1) := by decide +kernel
theorem dd_X4_push_65 : decode cX4_push 65 = .ok (.putfield 19, 3) := by decide +kernel
theorem dd_X4_push_68 : decode cX4_push 68 = .ok (.return_, 1) := by decide +kernel
theorem fl_X4_13 : Cond.fieldLink RX4 13 (TX4 0).1 (TX4 0).2.1 (TX4 0).2.2.1 ∈ am_tbl := ri_lw_in (pl := 116) (by decide +kernel)
theorem fl_X4_19 : Cond.fieldLink RX4 19 (TX4 1).1 (TX4 1).2.1 (TX4 1).2.2.1 ∈ am_tbl := ri_lw_in (pl := 120) (by decide +kernel)
theorem ok_X4_push : am_okM m_X4_push 1 ∧ Cond.instanceMethod m_X4_push.1 ∈ am_tbl ∧ Cond.selects m_X4_push.1.cls m_X4_push.1 m_X4_push.1 ∈ am_tbl := ri_mk1 321 83 319 320 (by decide +kernel)
theorem c_X4_push {a L : Nat} {x : Int} {F A : gs_F} (hI : gs_I F A) (hr : gs_row a L) (hx : -9 ≤ x ∧ x ≤ 9) : sC m_X4_push 1 [.ref a, gs_iv x] F A (fun rv F' A' => rv = none ∧ gs_I F' A' ∧ gs_fr (fun c j => c = a ∧ j = 1) (fun c => c = a + 1) F A F' A' ∧ (F' a 1 ≤ F a 1 + 1 ∧ F a 1 - 1 ≤ F' a 1)) := by
  refine sC_of ok_X4_push.1 (Nat.le_of_ble_eq_true rfl) ?_
  show sA _ _ _ 0 [(0, .ref a), (1, gs_iv x)] [] F A
  have hf : gs_fr (fun c j => c = a ∧ j = 1) (fun c => c = a + 1) F A F A := gs_fr_refl _ _ _ _
  have b1 := gs_row_sz hr hI
  refine sA_aload_n dd_X4_push_0 rfl (.head _) ?_
  refine sA_geti (ci := 4) (j := 1) (q := (RX4, TX4, 2)) dd_X4_push_1 rfl (by decide) fl_X4_19 (Nat.lt_of_succ_lt hr.1) hr.2.1 rfl ?_
  refine sA_if_le (tgt := 36) dd_X4_push_4 (by decide) (by omega) (fun q2 => ?_) (fun q2 => ?_)
  · skip
    refine sA_aload_n dd_X4_push_36 rfl (.head _) ?_
    refine sA_geti (ci := 4) (j := 1) (q := (RX4, TX4, 2)) dd_X4_push_37 rfl (by decide) fl_X4_19 (Nat.lt_of_succ_lt hr.1) hr.2.1 rfl ?_
    refine sA_aload_n dd_X4_push_40 rfl (.head _) ?_
    refine sA_getr (ci := 4) (j := 0) (q := (RX4, TX4, 2)) dd_X4_push_41 rfl (by decide) fl_X4_13 (Nat.lt_of_succ_lt hr.1) hr.2.1 rfl ?_
    refine sA_alen (n := L) dd_X4_push_44 hr.1 hr.2.2.1 ?_
    have b3 := hr.2.2.2.2.2
    refine sA_icmp_ge (tgt := 68) dd_X4_push_45 (by decide) (by omega) (by omega) (fun q4 => ?_) (fun q4 => ?_)
    · skip
      refine sA_vret dd_X4_push_68 rfl ?_
      exact ⟨rfl, hI, hf, by omega⟩
    · skip
      refine sA_aload_n dd_X4_push_48 rfl (.head _) ?_
      refine sA_getr (ci := 4) (j := 0) (q := (RX4, TX4, 2)) dd_X4_push_49 rfl (by decide) fl_X4_13 (Nat.lt_of_succ_lt hr.1) hr.2.1 rfl ?_
      refine sA_aload_n dd_X4_push_52 rfl (.head _) ?_
      refine sA_geti (ci := 4) (j := 1) (q := (RX4, TX4, 2)) dd_X4_push_53 rfl (by decide) fl_X4_19 (Nat.lt_of_succ_lt hr.1) hr.2.1 rfl ?_
      refine sA_iload_n dd_X4_push_56 rfl (.tail _ (.head _)) ?_
      refine sA_iast (n := L) dd_X4_push_57 hr.1 hr.2.2.1 (by omega) (Nat.le_trans hr.2.2.2.2.2.2 (by decide)) ?_
      have I6 : gs_I F (gs_up A (a + 1) ((F a 1).toNat) x) := gs_row_ast hr hI (by omega)
      have f7 := gs_fr_ast hf (a := a + 1) (z := x) (i := (F a 1).toNat) (by first | omega | (dsimp only; omega) | (dsimp only))
      generalize gs_up A (a + 1) ((F a 1).toNat) x = A5 at I6 f7 ⊢
      refine sA_aload_n dd_X4_push_58 rfl (.head _) ?_
      refine sA_dup dd_X4_push_59 rfl ?_
      refine sA_geti (ci := 4) (j := 1) (q := (RX4, TX4, 2)) dd_X4_push_60 rfl (by decide) fl_X4_19 (Nat.lt_of_succ_lt hr.1) hr.2.1 rfl ?_
      refine sA_iconst (z := 1) dd_X4_push_63 ?_
      refine sA_iadd dd_X4_push_64 ?_
      refine sA_put (ci := 4) (j := 1) (q := (RX4, TX4, 2)) (ty := .int) dd_X4_push_65 rfl (by decide) fl_X4_19 rfl (tyX4_ok 1 (by decide)) rfl rfl (Nat.lt_of_succ_lt hr.1) hr.2.1 rfl ?_
      have I9 : gs_I (gs_up F a 1 ((F a 1) + 1)) A5 := gs_row_put hr I6 (by omega)
      have f10 := gs_fr_put f7 (a := a) (z := (F a 1) + 1) (j := 1) (by first | omega | (dsimp only; omega) | (dsimp only))
      have v11 : gs_up F a 1 ((F a 1) + 1) a 1 = (F a 1) + 1 := gs_up_self _ _ _ _
      generalize gs_up F a 1 ((F a 1) + 1) = F8 at I9 f10 v11 ⊢
      refine sA_vret dd_X4_push_68 rfl ?_
      exact ⟨rfl, I9, f10, by omega⟩
  · skip
    refine sA_aload_n dd_X4_push_7 rfl (.head _) ?_
    refine sA_getr (ci := 4) (j := 0) (q := (RX4, TX4, 2)) dd_X4_push_8 rfl (by decide) fl_X4_13 (Nat.lt_of_succ_lt hr.1) hr.2.1 rfl ?_
    refine sA_aload_n dd_X4_push_11 rfl (.head _) ?_
    refine sA_geti (ci := 4) (j := 1) (q := (RX4, TX4, 2)) dd_X4_push_12 rfl (by decide) fl_X4_19 (Nat.lt_of_succ_lt hr.1) hr.2.1 rfl ?_
    refine sA_iconst (z := 1) dd_X4_push_15 ?_
    refine sA_isub dd_X4_push_16 ?_
    refine sA_iald (n := L) dd_X4_push_17 hr.1 hr.2.2.1 (by omega) (Nat.le_trans hr.2.2.2.2.2.2 (by decide)) ?_
    have b12 := gs_row_el hr hI ((F a 1) - 1).toNat
    refine sA_iload_n dd_X4_push_18 rfl (.tail _ (.head _)) ?_
    refine sA_ineg dd_X4_push_19 ?_
    refine sA_icmp_ne (tgt := 36) dd_X4_push_20 (by decide) (by omega) (by omega) (fun q13 => ?_) (fun q13 => ?_)
    · skip
      refine sA_aload_n dd_X4_push_36 rfl (.head _) ?_
      refine sA_geti (ci := 4) (j := 1) (q := (RX4, TX4, 2)) dd_X4_push_37 rfl (by decide) fl_X4_19 (Nat.lt_of_succ_lt hr.1) hr.2.1 rfl ?_
      refine sA_aload_n dd_X4_push_40 rfl (.head _) ?_
      refine sA_getr (ci := 4) (j := 0) (q := (RX4, TX4, 2)) dd_X4_push_41 rfl (by decide) fl_X4_13 (Nat.lt_of_succ_lt hr.1) hr.2.1 rfl ?_
      refine sA_alen (n := L) dd_X4_push_44 hr.1 hr.2.2.1 ?_
      have b14 := hr.2.2.2.2.2
      refine sA_icmp_ge (tgt := 68) dd_X4_push_45 (by decide) (by omega) (by omega) (fun q15 => ?_) (fun q15 => ?_)
      · skip
        refine sA_vret dd_X4_push_68 rfl ?_
        exact ⟨rfl, hI, hf, by omega⟩
      · skip
        refine sA_aload_n dd_X4_push_48 rfl (.head _) ?_
        refine sA_getr (ci := 4) (j := 0) (q := (RX4, TX4, 2)) dd_X4_push_49 rfl (by decide) fl_X4_13 (Nat.lt_of_succ_lt hr.1) hr.2.1 rfl ?_
        refine sA_aload_n dd_X4_push_52 rfl (.head _) ?_
        refine sA_geti (ci := 4) (j := 1) (q := (RX4, TX4, 2)) dd_X4_push_53 rfl (by decide) fl_X4_19 (Nat.lt_of_succ_lt hr.1) hr.2.1 rfl ?_
        refine sA_iload_n dd_X4_push_56 rfl (.tail _ (.head _)) ?_
        refine sA_iast (n := L) dd_X4_push_57 hr.1 hr.2.2.1 (by omega) (Nat.le_trans hr.2.2.2.2.2.2 (by decide)) ?_
        have I17 : gs_I F (gs_up A (a + 1) ((F a 1).toNat) x) := gs_row_ast hr hI (by omega)
        have f18 := gs_fr_ast hf (a := a + 1) (z := x) (i := (F a 1).toNat) (by first | omega | (dsimp only; omega) | (dsimp only))
        generalize gs_up A (a + 1) ((F a 1).toNat) x = A16 at I17 f18 ⊢
        refine sA_aload_n dd_X4_push_58 rfl (.head _) ?_
        refine sA_dup dd_X4_push_59 rfl ?_
        refine sA_geti (ci := 4) (j := 1) (q := (RX4, TX4, 2)) dd_X4_push_60 rfl (by decide) fl_X4_19 (Nat.lt_of_succ_lt hr.1) hr.2.1 rfl ?_
        refine sA_iconst (z := 1) dd_X4_push_63 ?_
        refine sA_iadd dd_X4_push_64 ?_
        refine sA_put (ci := 4) (j := 1) (q := (RX4, TX4, 2)) (ty := .int) dd_X4_push_65 rfl (by decide) fl_X4_19 rfl (tyX4_ok 1 (by decide)) rfl rfl (Nat.lt_of_succ_lt hr.1) hr.2.1 rfl ?_
        have I20 : gs_I (gs_up F a 1 ((F a 1) + 1)) A16 := gs_row_put hr I17 (by omega)
        have f21 := gs_fr_put f18 (a := a) (z := (F a 1) + 1) (j := 1) (by first | omega | (dsimp only; omega) | (dsimp only))
        have v22 : gs_up F a 1 ((F a 1) + 1) a 1 = (F a 1) + 1 := gs_up_self _ _ _ _
        generalize gs_up F a 1 ((F a 1) + 1) = F19 at I20 f21 v22 ⊢
        refine sA_vret dd_X4_push_68 rfl ?_
        exact ⟨rfl, I20, f21, by omega⟩
    · skip
      refine sA_aload_n dd_X4_push_23 rfl (.head _) ?_
      refine sA_dup dd_X4_push_24 rfl ?_
      refine sA_geti (ci := 4) (j := 1) (q := (RX4, TX4, 2)) dd_X4_push_25 rfl (by decide) fl_X4_19 (Nat.lt_of_succ_lt hr.1) hr.2.1 rfl ?_
      refine sA_iconst (z := 1) dd_X4_push_28 ?_
      refine sA_isub dd_X4_push_29 ?_
      refine sA_put (ci := 4) (j := 1) (q := (RX4, TX4, 2)) (ty := .int) dd_X4_push_30 rfl (by decide) fl_X4_19 rfl (tyX4_ok 1 (by decide)) rfl rfl (Nat.lt_of_succ_lt hr.1) hr.2.1 rfl ?_
      have I24 : gs_I (gs_up F a 1 ((F a 1) - 1)) A := gs_row_put hr hI (by omega)
      have f25 := gs_fr_put hf (a := a) (z := (F a 1) - 1) (j := 1) (by first | omega | (dsimp only; omega) | (dsimp only))
      have v26 : gs_up F a 1 ((F a 1) - 1) a 1 = (F a 1) - 1 := gs_up_self _ _ _ _
      generalize gs_up F a 1 ((F a 1) - 1) = F23 at I24 f25 v26 ⊢
      refine sA_goto (tgt := 68) dd_X4_push_33 (by decide) ?_
      refine sA_vret dd_X4_push_68 rfl ?_
      exact ⟨rfl, I24, f25, by omega⟩
theorem dd_X4_becomeLetter_0 : decode cX4_becomeLetter 0 = .ok (.aload_n 0, 1) := by decide +kernel
theorem dd_X4_becomeLetter_1 : decode cX4_becomeLetter 1 = .ok (.getfield 13, 3) := by decide +kernel
theorem dd_X4_becomeLetter_4 : decode cX4_becomeLetter 4 = .ok (.iconst 0, 1) := by decide +kernel
theorem dd_X4_becomeLetter_5 : decode cX4_becomeLetter 5 = .ok (.iload_n 1, 1) := by decide +kernel
theorem dd_X4_becomeLetter_6 : decode cX4_becomeLetter 6 = .ok (.iastore, 1) := by decide +kernel
theorem dd_X4_becomeLetter_7 : decode cX4_becomeLetter 7 = .ok (.aload_n 0, 1) := by decide +kernel
theorem dd_X4_becomeLetter_8 : decode cX4_becomeLetter 8 = .ok (.iconst 1, 1) := by decide +kernel
theorem dd_X4_becomeLetter_9 : decode cX4_becomeLetter 9 = .ok (.putfield 19, 3) := by decide +kernel
theorem dd_X4_becomeLetter_12 : decode cX4_becomeLetter 12 = .ok (.return_, 1) := by decide +kernel
theorem ok_X4_becomeLetter : am_okM m_X4_becomeLetter 1 ∧ Cond.instanceMethod m_X4_becomeLetter.1 ∈ am_tbl ∧ Cond.selects m_X4_becomeLetter.1.cls m_X4_becomeLetter.1 m_X4_becomeLetter.1 ∈ am_tbl := ri_mk1 595 83 593 594 (by decide +kernel)
theorem c_X4_becomeLetter {a L : Nat} {x : Int} {F A : gs_F} (hI : gs_I F A) (hr : gs_row a L) (hx : -9 ≤ x ∧ x ≤ 9) : sC m_X4_becomeLetter 1 [.ref a, gs_iv x] F A (fun rv F' A' => rv = none ∧ gs_I F' A' ∧ gs_fr (fun c j => c = a ∧ j = 1) (fun c => c = a + 1) F A F' A' ∧ (F' a 1 = 1)) := by
  refine sC_of ok_X4_becomeLetter.1 (Nat.le_of_ble_eq_true rfl) ?_
  show sA _ _ _ 0 [(0, .ref a), (1, gs_iv x)] [] F A
  have hf : gs_fr (fun c j => c = a ∧ j = 1) (fun c => c = a + 1) F A F A := gs_fr_refl _ _ _ _
  have b1 := gs_row_sz hr hI
  have hL := hr.2.2.2.2.2.1
  refine sA_aload_n dd_X4_becomeLetter_0 rfl (.head _) ?_
  refine sA_getr (ci := 4) (j := 0) (q := (RX4, TX4, 2)) dd_X4_becomeLetter_1 rfl (by decide) fl_X4_13 (Nat.lt_of_succ_lt hr.1) hr.2.1 rfl ?_
  refine sA_iconst (z := 0) dd_X4_becomeLetter_4 ?_
  refine sA_iload_n dd_X4_becomeLetter_5 rfl (.tail _ (.head _)) ?_
  refine sA_iast (n := L) dd_X4_becomeLetter_6 hr.1 hr.2.2.1 (by omega) (Nat.le_trans hr.2.2.2.2.2.2 (by decide)) ?_
  have I3 : gs_I F (gs_up A (a + 1) ((0 : Int).toNat) x) := gs_row_ast hr hI (by omega)
  have f4 := gs_fr_ast hf (a := a + 1) (z := x) (i := (0 : Int).toNat) (by first | omega | (dsimp only; omega) | (dsimp only))
  generalize gs_up A (a + 1) ((0 : Int).toNat) x = A2 at I3 f4 ⊢
  refine sA_aload_n dd_X4_becomeLetter_7 rfl (.head _) ?_
  refine sA_iconst (z := 1) dd_X4_becomeLetter_8 ?_
  refine sA_put (ci := 4) (j := 1) (q := (RX4, TX4, 2)) (ty := .int) dd_X4_becomeLetter_9 rfl (by decide) fl_X4_19 rfl (tyX4_ok 1 (by decide)) rfl rfl (Nat.lt_of_succ_lt hr.1) hr.2.1 rfl ?_
  have I6 : gs_I (gs_up F a 1 1) A2 := gs_row_put hr I3 (by omega)
  have f7 := gs_fr_put f4 (a := a) (z := 1) (j := 1) (by first | omega | (dsimp only; omega) | (dsimp only))
  have v8 : gs_up F a 1 1 a 1 = 1 := gs_up_self _ _ _ _
  generalize gs_up F a 1 1 = F5 at I6 f7 v8 ⊢
  refine sA_vret dd_X4_becomeLetter_12 rfl ?_
  exact ⟨rfl, I6, f7, by omega⟩
theorem dd_X4_copy_0 : decode cX4_copy 0 = .ok (.aload_n 0, 1) := by decide +kernel
theorem dd_X4_copy_1 : decode cX4_copy 1 = .ok (.aload_n 1, 1) := by decide +kernel
theorem dd_X4_copy_2 : decode cX4_copy 2 = .ok (.getfield 19, 3) := by decide +kernel
theorem dd_X4_copy_5 : decode cX4_copy 5 = .ok (.aload_n 0, 1) := by decide +kernel
theorem dd_X4_copy_6 : decode cX4_copy 6 = .ok (.getfield 13, 3) := by decide +kernel
theorem dd_X4_copy_9 : decode cX4_copy 9 = .ok (.arraylength, 1) := by decide +kernel
theorem dd_X4_copy_10 : decode cX4_copy 10 = .ok (.invokestatic 23, 3) := by decide +kernel
theorem dd_X4_copy_13 : decode cX4_copy 13 = .ok (.putfield 19, 3) := by decide +kernel
theorem dd_X4_copy_16 : decode cX4_copy 16 = .ok (.aload_n 1, 1) := by decide +kernel
theorem dd_X4_copy_17 : decode cX4_copy 17 = .ok (.getfield 13, 3) := by decide +kernel
theorem dd_X4_copy_20 : decode cX4_copy 20 = .ok (.iconst 0, 1) := by decide +kernel
theorem dd_X4_copy_21 : decode cX4_copy 21 = .ok (.aload_n 0, 1) := by decide +kernel
theorem dd_X4_copy_22 : decode cX4_copy 22 = .ok (.getfield 13, 3) := by decide +kernel
theorem dd_X4_copy_25 : decode cX4_copy 25 = .ok (.iconst 0, 1) := by decide +kernel
theorem dd_X4_copy_26 : decode cX4_copy 26 = .ok (.aload_n 0, 1) := by decide +kernel
theorem dd_X4_copy_27 : decode cX4_copy 27 = .ok (.getfield 19, 3) := by decide +kernel
theorem dd_X4_copy_30 : decode cX4_copy 30 = .ok (.invokestatic 26, 3) := by decide +kernel
theorem dd_X4_copy_33 : decode cX4_copy 33 = .ok (.return_, 1) := by decide +kernel
theorem ok_X4_copy : am_okM m_X4_copy 1 ∧ Cond.instanceMethod m_X4_copy.1 ∈ am_tbl ∧ Cond.selects m_X4_copy.1.cls m_X4_copy.1 m_X4_copy.1 ∈ am_tbl := ri_mk1 411 83 409 410 (by decide +kernel)
theorem c_X4_copy {a L b M : Nat} {F A : gs_F} (hI : gs_I F A) (hr : gs_row a L) (ho : gs_row b M) : sC m_X4_copy 1 [.ref a, .ref b] F A (fun rv F' A' => rv = none ∧ gs_I F' A' ∧ gs_fr (fun c j => c = a ∧ j = 1) (fun c => c = a + 1) F A F' A' ∧ (F' a 1 ≤ F b 1 ∧ (F b 1 ≤ (L : Int) → F' a 1 = F b 1))) := by
  refine sC_of ok_X4_copy.1 (Nat.le_of_ble_eq_true rfl) ?_
  show sA _ _ _ 0 [(0, .ref a), (1, .ref b)] [] F A
  have hf : gs_fr (fun c j => c = a ∧ j = 1) (fun c => c = a + 1) F A F A := gs_fr_refl _ _ _ _
  have b1 := gs_row_sz hr hI
  have b2 := gs_row_sz ho hI
  refine sA_aload_n dd_X4_copy_0 rfl (.head _) ?_
  refine sA_aload_n dd_X4_copy_1 rfl (.tail _ (.head _)) ?_
  refine sA_geti (ci := 4) (j := 1) (q := (RX4, TX4, 2)) dd_X4_copy_2 rfl (by decide) fl_X4_19 (Nat.lt_of_succ_lt ho.1) ho.2.1 rfl ?_
  refine sA_aload_n dd_X4_copy_5 rfl (.head _) ?_
  refine sA_getr (ci := 4) (j := 0) (q := (RX4, TX4, 2)) dd_X4_copy_6 rfl (by decide) fl_X4_13 (Nat.lt_of_succ_lt hr.1) hr.2.1 rfl ?_
  refine sA_alen (n := L) dd_X4_copy_9 hr.1 hr.2.2.1 ?_
  have b3 := hr.2.2.2.2.2
  refine sA_mmin dd_X4_copy_10 (ri_lw_in (pl := 338) (by decide +kernel)) (by decide) (by omega) (by omega) (Nat.le_of_ble_eq_true rfl) (fun w4 q5 => ?_)
  refine sA_put (ci := 4) (j := 1) (q := (RX4, TX4, 2)) (ty := .int) dd_X4_copy_13 rfl (by decide) fl_X4_19 rfl (tyX4_ok 1 (by decide)) rfl rfl (Nat.lt_of_succ_lt hr.1) hr.2.1 rfl ?_
  have I7 : gs_I (gs_up F a 1 w4) A := gs_row_put hr hI (by omega)
  have f8 := gs_fr_put hf (a := a) (z := w4) (j := 1) (by first | omega | (dsimp only; omega) | (dsimp only))
  have v9 : gs_up F a 1 w4 a 1 = w4 := gs_up_self _ _ _ _
  generalize gs_up F a 1 w4 = F6 at I7 f8 v9 ⊢
  refine sA_aload_n dd_X4_copy_16 rfl (.tail _ (.head _)) ?_
  refine sA_getr (ci := 4) (j := 0) (q := (RX4, TX4, 2)) dd_X4_copy_17 rfl (by decide) fl_X4_13 (Nat.lt_of_succ_lt ho.1) ho.2.1 rfl ?_
  refine sA_iconst (z := 0) dd_X4_copy_20 ?_
  refine sA_aload_n dd_X4_copy_21 rfl (.head _) ?_
  refine sA_getr (ci := 4) (j := 0) (q := (RX4, TX4, 2)) dd_X4_copy_22 rfl (by decide) fl_X4_13 (Nat.lt_of_succ_lt hr.1) hr.2.1 rfl ?_
  refine sA_iconst (z := 0) dd_X4_copy_25 ?_
  refine sA_aload_n dd_X4_copy_26 rfl (.head _) ?_
  refine sA_geti (ci := 4) (j := 1) (q := (RX4, TX4, 2)) dd_X4_copy_27 rfl (by decide) fl_X4_19 (Nat.lt_of_succ_lt hr.1) hr.2.1 rfl ?_
  have b10 := gs_row_sz hr I7
  refine sA_copy (n1 := M) (n2 := L) dd_X4_copy_30 (ri_lw_in (pl := 412) (by decide +kernel)) gs_copyok ho.1 ho.2.2.1 hr.1 hr.2.2.1 (by omega) (by omega) (by omega) (by omega) (by omega) (Nat.le_trans ho.2.2.2.2.2.2 (by decide)) (Nat.le_trans hr.2.2.2.2.2.2 (by decide)) (by decide) (Nat.le_of_ble_eq_true rfl) ?_
  have I12 : gs_I F6 (gs_cp A (b + 1) (a + 1) (0 : Int).toNat (0 : Int).toNat (F6 a 1).toNat) := gs_I_cp I7 (b := (a + 1)) (a := (b + 1)) (p := ((-9), 9)) (q := ((-9), 9)) hr.2.2.2.2.1 ho.2.2.2.2.1 (by decide)
  have f13 := gs_fr_cp f8 (a := (b + 1)) (b := (a + 1)) (sp := (0 : Int).toNat) (dp := (0 : Int).toNat) (n := (F6 a 1).toNat) (by first | omega | (dsimp only; omega) | (dsimp only))
  generalize gs_cp A (b + 1) (a + 1) (0 : Int).toNat (0 : Int).toNat (F6 a 1).toNat = A11 at I12 f13 ⊢
  refine sA_vret dd_X4_copy_33 rfl ?_
  exact ⟨rfl, I12, f13, by omega⟩
theorem dd_X4_becomeBack_0 : decode cX4_becomeBack 0 = .ok (.aload_n 0, 1) := by decide +kernel
theorem dd_X4_becomeBack_1 : decode cX4_becomeBack 1 = .ok (.aload_n 1, 1) := by decide +kernel
theorem dd_X4_becomeBack_2 : decode cX4_becomeBack 2 = .ok (.getfield 19, 3) := by decide +kernel
theorem dd_X4_becomeBack_5 : decode cX4_becomeBack 5 = .ok (.aload_n 0, 1) := by decide +kernel
theorem dd_X4_becomeBack_6 : decode cX4_becomeBack 6 = .ok (.getfield 13, 3) := by decide +kernel
theorem dd_X4_becomeBack_9 : decode cX4_becomeBack 9 = .ok (.arraylength, 1) := by decide +kernel
theorem dd_X4_becomeBack_10 : decode cX4_becomeBack 10 = .ok (.invokestatic 23, 3) := by decide +kernel
theorem dd_X4_becomeBack_13 : decode cX4_becomeBack 13 = .ok (.putfield 19, 3) := by decide +kernel
theorem dd_X4_becomeBack_16 : decode cX4_becomeBack 16 = .ok (.iconst 0, 1) := by decide +kernel
theorem dd_X4_becomeBack_17 : decode cX4_becomeBack 17 = .ok (.istore_n 2, 1) := by decide +kernel
theorem dd_X4_becomeBack_18 : decode cX4_becomeBack 18 = .ok (.iload_n 2, 1) := by decide +kernel
theorem dd_X4_becomeBack_19 : decode cX4_becomeBack 19 = .ok (.aload_n 0, 1) := by decide +kernel
theorem dd_X4_becomeBack_20 : decode cX4_becomeBack 20 = .ok (.getfield 19, 3) := by decide +kernel
theorem dd_X4_becomeBack_23 : decode cX4_becomeBack 23 = .ok (.if_icmp .ge 29, 3) := by decide +kernel
theorem dd_X4_becomeBack_26 : decode cX4_becomeBack 26 = .ok (.aload_n 0, 1) := by decide +kernel
theorem dd_X4_becomeBack_27 : decode cX4_becomeBack 27 = .ok (.getfield 13, 3) := by decide +kernel
theorem dd_X4_becomeBack_30 : decode cX4_becomeBack 30 = .ok (.iload_n 2, 1) := by decide +kernel
theorem dd_X4_becomeBack_31 : decode cX4_becomeBack 31 = .ok (.aload_n 1, 1) := by decide +kernel
theorem dd_X4_becomeBack_32 : decode cX4_becomeBack 32 = .ok (.getfield 13, 3) := by decide +kernel
theorem dd_X4_becomeBack_35 : decode cX4_becomeBack 35 = .ok (.aload_n 0, 1) := by decide +kernel
theorem dd_X4_becomeBack_36 : decode cX4_becomeBack 36 = .ok (.getfield 19, 3) := by decide +kernel
theorem dd_X4_becomeBack_39 : decode cX4_becomeBack 39 = .ok (.iconst 1, 1) := by decide +kernel
theorem dd_X4_becomeBack_40 : decode cX4_becomeBack 40 = .ok (.isub, 1) := by decide +kernel
theorem dd_X4_becomeBack_41 : decode cX4_becomeBack 41 = .ok (.iload_n 2, 1) := by decide +kernel
theorem dd_X4_becomeBack_42 : decode cX4_becomeBack 42 = .ok (.isub, 1) := by decide +kernel
theorem dd_X4_becomeBack_43 : decode cX4_becomeBack 43 = .ok (.iaload, 1) := by decide +kernel
theorem dd_X4_becomeBack_44 : decode cX4_becomeBack 44 = .ok (.ineg, 1) := by decide +kernel
theorem dd_X4_becomeBack_45 : decode cX4_becomeBack 45 = .ok (.iastore, 1) := by decide +kernel
theorem dd_X4_becomeBack_46 : decode cX4_becomeBack 46 = .ok (.iinc 2 1, 3) := by decide +kernel
theorem dd_X4_becomeBack_49 : decode cX4_becomeBack 49 = .ok (.goto (-31), 3) := by decide +kernel
theorem dd_X4_becomeBack_52 : decode cX4_becomeBack 52 = .ok (.return_, 1) := by decide +kernel
theorem ok_X4_becomeBack : am_okM m_X4_becomeBack 1 ∧ Cond.instanceMethod m_X4_becomeBack.1 ∈ am_tbl ∧ Cond.selects m_X4_becomeBack.1.cls m_X4_becomeBack.1 m_X4_becomeBack.1 ∈ am_tbl := ri_mk1 337 83 335 336 (by decide +kernel)
theorem k_X4_becomeBack {a L b M : Nat} {F A : gs_F} (hI : gs_I F A) (hr : gs_row a L) (ho : gs_row b M) : ∀ nN : Nat, (∀ (k : Int)  (F1 A1 : gs_F), gs_I F1 A1 → gs_fr (fun c j => c = a ∧ j = 1) (fun c => c = a + 1) F A F1 A1 → 0 ≤ k → k ≤ F1 a 1 → F1 a 1 ≤ (M : Int) → F1 a 1 ≤ F b 1 → F1 a 1 - k < (nN : Int) → sA m_X4_becomeBack 1 (fun rv F' A' => rv = none ∧ gs_I F' A' ∧ gs_fr (fun c j => c = a ∧ j = 1) (fun c => c = a + 1) F A F' A' ∧ (F' a 1 ≤ F b 1)) 18 [(2, gs_iv k), (0, .ref a), (1, .ref b)] [] F1 A1) := by
  intro nN
  induction nN with
  | zero =>
    exact fun a0 a1 a2 a3 a4 i0 i1 i2 i3 hm => by exfalso; omega
  | succ nN ih =>
    intro k F1 A1 hI1 hf1 i0 i1 i2 i3 hm
    have b1 := gs_row_sz hr hI1
    have b2 := gs_row_sz ho hI1
    refine sA_iload_n dd_X4_becomeBack_18 rfl (.head _) ?_
    refine sA_aload_n dd_X4_becomeBack_19 rfl (.tail _ (.head _)) ?_
    refine sA_geti (ci := 4) (j := 1) (q := (RX4, TX4, 2)) dd_X4_becomeBack_20 rfl (by decide) fl_X4_19 (Nat.lt_of_succ_lt hr.1) hr.2.1 rfl ?_
    refine sA_icmp_ge (tgt := 52) dd_X4_becomeBack_23 (by decide) (by omega) (by omega) (fun q3 => ?_) (fun q3 => ?_)
    · skip
      refine sA_vret dd_X4_becomeBack_52 rfl ?_
      exact ⟨rfl, hI1, hf1, by omega⟩
    · skip
      refine sA_aload_n dd_X4_becomeBack_26 rfl (.tail _ (.head _)) ?_
      refine sA_getr (ci := 4) (j := 0) (q := (RX4, TX4, 2)) dd_X4_becomeBack_27 rfl (by decide) fl_X4_13 (Nat.lt_of_succ_lt hr.1) hr.2.1 rfl ?_
      refine sA_iload_n dd_X4_becomeBack_30 rfl (.head _) ?_
      refine sA_aload_n dd_X4_becomeBack_31 rfl (.tail _ (.tail _ (.head _))) ?_
      refine sA_getr (ci := 4) (j := 0) (q := (RX4, TX4, 2)) dd_X4_becomeBack_32 rfl (by decide) fl_X4_13 (Nat.lt_of_succ_lt ho.1) ho.2.1 rfl ?_
      refine sA_aload_n dd_X4_becomeBack_35 rfl (.tail _ (.head _)) ?_
      refine sA_geti (ci := 4) (j := 1) (q := (RX4, TX4, 2)) dd_X4_becomeBack_36 rfl (by decide) fl_X4_19 (Nat.lt_of_succ_lt hr.1) hr.2.1 rfl ?_
      refine sA_iconst (z := 1) dd_X4_becomeBack_39 ?_
      refine sA_isub dd_X4_becomeBack_40 ?_
      refine sA_iload_n dd_X4_becomeBack_41 rfl (.head _) ?_
      refine sA_isub dd_X4_becomeBack_42 ?_
      refine sA_iald (n := M) dd_X4_becomeBack_43 ho.1 ho.2.2.1 (by omega) (Nat.le_trans ho.2.2.2.2.2.2 (by decide)) ?_
      have b4 := gs_row_el ho hI1 (((F1 a 1) - 1) - k).toNat
      refine sA_ineg dd_X4_becomeBack_44 ?_
      refine sA_iast (n := L) dd_X4_becomeBack_45 hr.1 hr.2.2.1 (by omega) (Nat.le_trans hr.2.2.2.2.2.2 (by decide)) ?_
      have I6 : gs_I F1 (gs_up A1 (a + 1) k.toNat (-(A1 (b + 1) (((F1 a 1) - 1) - k).toNat))) := gs_row_ast hr hI1 (by omega)
      have f7 := gs_fr_ast hf1 (a := a + 1) (z := -(A1 (b + 1) (((F1 a 1) - 1) - k).toNat)) (i := k.toNat) (by first | omega | (dsimp only; omega) | (dsimp only))
      generalize gs_up A1 (a + 1) k.toNat (-(A1 (b + 1) (((F1 a 1) - 1) - k).toNat)) = A5 at I6 f7 ⊢
      refine sA_iinc (lv' := [(2, gs_iv (k + 1)), (0, .ref a), (1, .ref b)]) dd_X4_becomeBack_46 (.head _) (by decide) rfl ?_
      refine sA_goto (tgt := 18) dd_X4_becomeBack_49 (by decide) ?_
      refine sA_sub (lv2 := [(2, gs_iv (k + 1)), (0, .ref a), (1, .ref b)]) (List.forall_mem_cons.mpr ⟨(.head _), (List.forall_mem_cons.mpr ⟨(.tail _ (.head _)), (List.forall_mem_cons.mpr ⟨(.tail _ (.tail _ (.head _))), (fun _ h => absurd h List.not_mem_nil)⟩)⟩)⟩) ?_
      exact ih (k + 1) F1 A5 I6 f7 (by omega) (by omega) (by omega) (by omega) (by omega)
theorem c_X4_becomeBack {a L b M : Nat} {F A : gs_F} (hI : gs_I F A) (hr : gs_row a L) (ho : gs_row b M) : sC m_X4_becomeBack 1 [.ref a, .ref b] F A (fun rv F' A' => rv = none ∧ gs_I F' A' ∧ gs_fr (fun c j => c = a ∧ j = 1) (fun c => c = a + 1) F A F' A' ∧ (F' a 1 ≤ F b 1)) := by
  refine sC_of ok_X4_becomeBack.1 (Nat.le_of_ble_eq_true rfl) ?_
  show sA _ _ _ 0 [(0, .ref a), (1, .ref b)] [] F A
  have hf : gs_fr (fun c j => c = a ∧ j = 1) (fun c => c = a + 1) F A F A := gs_fr_refl _ _ _ _
  have b8 := gs_row_sz hr hI
  have b9 := gs_row_sz ho hI
  refine sA_aload_n dd_X4_becomeBack_0 rfl (.head _) ?_
  refine sA_aload_n dd_X4_becomeBack_1 rfl (.tail _ (.head _)) ?_
  refine sA_geti (ci := 4) (j := 1) (q := (RX4, TX4, 2)) dd_X4_becomeBack_2 rfl (by decide) fl_X4_19 (Nat.lt_of_succ_lt ho.1) ho.2.1 rfl ?_
  refine sA_aload_n dd_X4_becomeBack_5 rfl (.head _) ?_
  refine sA_getr (ci := 4) (j := 0) (q := (RX4, TX4, 2)) dd_X4_becomeBack_6 rfl (by decide) fl_X4_13 (Nat.lt_of_succ_lt hr.1) hr.2.1 rfl ?_
  refine sA_alen (n := L) dd_X4_becomeBack_9 hr.1 hr.2.2.1 ?_
  have b10 := hr.2.2.2.2.2
  refine sA_mmin dd_X4_becomeBack_10 (ri_lw_in (pl := 338) (by decide +kernel)) (by decide) (by omega) (by omega) (Nat.le_of_ble_eq_true rfl) (fun w11 q12 => ?_)
  refine sA_put (ci := 4) (j := 1) (q := (RX4, TX4, 2)) (ty := .int) dd_X4_becomeBack_13 rfl (by decide) fl_X4_19 rfl (tyX4_ok 1 (by decide)) rfl rfl (Nat.lt_of_succ_lt hr.1) hr.2.1 rfl ?_
  have I14 : gs_I (gs_up F a 1 w11) A := gs_row_put hr hI (by omega)
  have f15 := gs_fr_put hf (a := a) (z := w11) (j := 1) (by first | omega | (dsimp only; omega) | (dsimp only))
  have v16 : gs_up F a 1 w11 a 1 = w11 := gs_up_self _ _ _ _
  generalize gs_up F a 1 w11 = F13 at I14 f15 v16 ⊢
  refine sA_iconst (z := 0) dd_X4_becomeBack_16 ?_
  refine sA_istore_n (lv' := [(2, gs_iv 0), (0, .ref a), (1, .ref b)]) dd_X4_becomeBack_17 rfl (by decide) rfl ?_
  have b17 := gs_row_sz hr I14
  have b18 := gs_row_sz ho I14
  refine sA_sub (lv2 := [(2, gs_iv 0), (0, .ref a), (1, .ref b)]) (List.forall_mem_cons.mpr ⟨(.head _), (List.forall_mem_cons.mpr ⟨(.tail _ (.head _)), (List.forall_mem_cons.mpr ⟨(.tail _ (.tail _ (.head _))), (fun _ h => absurd h List.not_mem_nil)⟩)⟩)⟩) ?_
  exact (k_X4_becomeBack hI hr ho (F13 a 1 - 0 : Int).toNat.succ) 0 F13 A I14 f15 (by omega) (by omega) (by omega) (by omega) (by omega)
theorem dd_X4_looseEnds_0 : decode cX4_looseEnds 0 = .ok (.iconst 0, 1) := by decide +kernel
theorem dd_X4_looseEnds_1 : decode cX4_looseEnds 1 = .ok (.istore_n 1, 1) := by decide +kernel
theorem dd_X4_looseEnds_2 : decode cX4_looseEnds 2 = .ok (.iload_n 1, 1) := by decide +kernel
theorem dd_X4_looseEnds_3 : decode cX4_looseEnds 3 = .ok (.aload_n 0, 1) := by decide +kernel
theorem dd_X4_looseEnds_4 : decode cX4_looseEnds 4 = .ok (.getfield 19, 3) := by decide +kernel
theorem dd_X4_looseEnds_7 : decode cX4_looseEnds 7 = .ok (.iconst 2, 1) := by decide +kernel
theorem dd_X4_looseEnds_8 : decode cX4_looseEnds 8 = .ok (.idiv, 1) := by decide +kernel
theorem dd_X4_looseEnds_9 : decode cX4_looseEnds 9 = .ok (.if_icmp .ge 32, 3) := by decide +kernel
theorem dd_X4_looseEnds_12 : decode cX4_looseEnds 12 = .ok (.aload_n 0, 1) := by decide +kernel
theorem dd_X4_looseEnds_13 : decode cX4_looseEnds 13 = .ok (.getfield 13, 3) := by decide +kernel
theorem dd_X4_looseEnds_16 : decode cX4_looseEnds 16 = .ok (.iload_n 1, 1) := by decide +kernel
theorem dd_X4_looseEnds_17 : decode cX4_looseEnds 17 = .ok (.iaload, 1) := by decide +kernel
theorem dd_X4_looseEnds_18 : decode cX4_looseEnds 18 = .ok (.aload_n 0, 1) := by decide +kernel
theorem dd_X4_looseEnds_19 : decode cX4_looseEnds 19 = .ok (.getfield 13, 3) := by decide +kernel
theorem dd_X4_looseEnds_22 : decode cX4_looseEnds 22 = .ok (.aload_n 0, 1) := by decide +kernel
theorem dd_X4_looseEnds_23 : decode cX4_looseEnds 23 = .ok (.getfield 19, 3) := by decide +kernel
theorem dd_X4_looseEnds_26 : decode cX4_looseEnds 26 = .ok (.iconst 1, 1) := by decide +kernel
theorem dd_X4_looseEnds_27 : decode cX4_looseEnds 27 = .ok (.isub, 1) := by decide +kernel
theorem dd_X4_looseEnds_28 : decode cX4_looseEnds 28 = .ok (.iload_n 1, 1) := by decide +kernel
theorem dd_X4_looseEnds_29 : decode cX4_looseEnds 29 = .ok (.isub, 1) := by decide +kernel
theorem dd_X4_looseEnds_30 : decode cX4_looseEnds 30 = .ok (.iaload, 1) := by decide +kernel
theorem dd_X4_looseEnds_31 : decode cX4_looseEnds 31 = .ok (.ineg, 1) := by decide +kernel
theorem dd_X4_looseEnds_32 : decode cX4_looseEnds 32 = .ok (.if_icmp .ne 9, 3) := by decide +kernel
theorem dd_X4_looseEnds_35 : decode cX4_looseEnds 35 = .ok (.iinc 1 1, 3) := by decide +kernel
theorem dd_X4_looseEnds_38 : decode cX4_looseEnds 38 = .ok (.goto (-36), 3) := by decide +kernel
theorem dd_X4_looseEnds_41 : decode cX4_looseEnds 41 = .ok (.iload_n 1, 1) := by decide +kernel
theorem dd_X4_looseEnds_42 : decode cX4_looseEnds 42 = .ok (.ireturn, 1) := by decide +kernel
theorem ok_X4_looseEnds : am_okM m_X4_looseEnds 0 ∧ Cond.instanceMethod m_X4_looseEnds.1 ∈ am_tbl ∧ Cond.selects m_X4_looseEnds.1.cls m_X4_looseEnds.1 m_X4_looseEnds.1 ∈ am_tbl := ri_mk1 420 83 419 7 (by decide +kernel)
theorem k_X4_looseEnds {a L : Nat} {F A : gs_F} (hI : gs_I F A) (hr : gs_row a L) : ∀ nN : Nat, (∀ (k : Int),  0 ≤ k → 2 * k ≤ F a 1 → F a 1 - k < (nN : Int) → sA m_X4_looseEnds 1 (fun rv F' A' => ∃ z : Int, rv = some (gs_iv z) ∧ F = F' ∧ A = A' ∧ (0 ≤ z ∧ 2 * z ≤ F a 1)) 2 [(1, gs_iv k), (0, .ref a)] [] F A) := by
  intro nN
  induction nN with
  | zero =>
    exact fun a0 i0 i1 hm => by exfalso; omega
  | succ nN ih =>
    intro k i0 i1 hm
    have b1 := gs_row_sz hr hI
    refine sA_iload_n dd_X4_looseEnds_2 rfl (.head _) ?_
    refine sA_aload_n dd_X4_looseEnds_3 rfl (.tail _ (.head _)) ?_
    refine sA_geti (ci := 4) (j := 1) (q := (RX4, TX4, 2)) dd_X4_looseEnds_4 rfl (by decide) fl_X4_19 (Nat.lt_of_succ_lt hr.1) hr.2.1 rfl ?_
    refine sA_iconst (z := 2) dd_X4_looseEnds_7 ?_
    refine sA_idivN dd_X4_looseEnds_8 (by omega) (by omega) (by omega) ?_
    refine sA_icmp_ge (tgt := 41) dd_X4_looseEnds_9 (by decide) (by omega) (by omega) (fun q2 => ?_) (fun q2 => ?_)
    · skip
      refine sA_iload_n dd_X4_looseEnds_41 rfl (.head _) ?_
      refine sA_iret (z := k) dd_X4_looseEnds_42 rfl ?_
      exact ⟨_, rfl, rfl, rfl, by omega⟩
    · skip
      refine sA_aload_n dd_X4_looseEnds_12 rfl (.tail _ (.head _)) ?_
      refine sA_getr (ci := 4) (j := 0) (q := (RX4, TX4, 2)) dd_X4_looseEnds_13 rfl (by decide) fl_X4_13 (Nat.lt_of_succ_lt hr.1) hr.2.1 rfl ?_
      refine sA_iload_n dd_X4_looseEnds_16 rfl (.head _) ?_
      refine sA_iald (n := L) dd_X4_looseEnds_17 hr.1 hr.2.2.1 (by omega) (Nat.le_trans hr.2.2.2.2.2.2 (by decide)) ?_
      have b3 := gs_row_el hr hI k.toNat
      refine sA_aload_n dd_X4_looseEnds_18 rfl (.tail _ (.head _)) ?_
      refine sA_getr (ci := 4) (j := 0) (q := (RX4, TX4, 2)) dd_X4_looseEnds_19 rfl (by decide) fl_X4_13 (Nat.lt_of_succ_lt hr.1) hr.2.1 rfl ?_
      refine sA_aload_n dd_X4_looseEnds_22 rfl (.tail _ (.head _)) ?_
      refine sA_geti (ci := 4) (j := 1) (q := (RX4, TX4, 2)) dd_X4_looseEnds_23 rfl (by decide) fl_X4_19 (Nat.lt_of_succ_lt hr.1) hr.2.1 rfl ?_
      refine sA_iconst (z := 1) dd_X4_looseEnds_26 ?_
      refine sA_isub dd_X4_looseEnds_27 ?_
      refine sA_iload_n dd_X4_looseEnds_28 rfl (.head _) ?_
      refine sA_isub dd_X4_looseEnds_29 ?_
      refine sA_iald (n := L) dd_X4_looseEnds_30 hr.1 hr.2.2.1 (by omega) (Nat.le_trans hr.2.2.2.2.2.2 (by decide)) ?_
      have b4 := gs_row_el hr hI (((F a 1) - 1) - k).toNat
      refine sA_ineg dd_X4_looseEnds_31 ?_
      refine sA_icmp_ne (tgt := 41) dd_X4_looseEnds_32 (by decide) (by omega) (by omega) (fun q5 => ?_) (fun q5 => ?_)
      · skip
        refine sA_iload_n dd_X4_looseEnds_41 rfl (.head _) ?_
        refine sA_iret (z := k) dd_X4_looseEnds_42 rfl ?_
        exact ⟨_, rfl, rfl, rfl, by omega⟩
      · skip
        refine sA_iinc (lv' := [(1, gs_iv (k + 1)), (0, .ref a)]) dd_X4_looseEnds_35 (.head _) (by decide) rfl ?_
        refine sA_goto (tgt := 2) dd_X4_looseEnds_38 (by decide) ?_
        refine sA_sub (lv2 := [(1, gs_iv (k + 1)), (0, .ref a)]) (List.forall_mem_cons.mpr ⟨(.head _), (List.forall_mem_cons.mpr ⟨(.tail _ (.head _)), (fun _ h => absurd h List.not_mem_nil)⟩)⟩) ?_
        exact ih (k + 1)  (by omega) (by omega) (by omega)
theorem c_X4_looseEnds {a L : Nat} {F A : gs_F} (hI : gs_I F A) (hr : gs_row a L) : sC m_X4_looseEnds 1 [.ref a] F A (fun rv F' A' => ∃ z : Int, rv = some (gs_iv z) ∧ F = F' ∧ A = A' ∧ (0 ≤ z ∧ 2 * z ≤ F a 1)) := by
  refine sC_of ok_X4_looseEnds.1 (Nat.le_of_ble_eq_true rfl) ?_
  show sA _ _ _ 0 [(0, .ref a)] [] F A
  have b6 := gs_row_sz hr hI
  refine sA_iconst (z := 0) dd_X4_looseEnds_0 ?_
  refine sA_istore_n (lv' := [(1, gs_iv 0), (0, .ref a)]) dd_X4_looseEnds_1 rfl (by decide) rfl ?_
  refine sA_sub (lv2 := [(1, gs_iv 0), (0, .ref a)]) (List.forall_mem_cons.mpr ⟨(.head _), (List.forall_mem_cons.mpr ⟨(.tail _ (.head _)), (fun _ h => absurd h List.not_mem_nil)⟩)⟩) ?_
  exact (k_X4_looseEnds hI hr (F a 1 - 0 : Int).toNat.succ) 0  (by omega) (by omega) (by omega)
theorem dd_X4_closedSize_0 : decode cX4_closedSize 0 = .ok (.aload_n 0, 1) := by decide +kernel
theorem dd_X4_closedSize_1 : decode cX4_closedSize 1 = .ok (.getfield 19, 3) := by decide +kernel
theorem dd_X4_closedSize_4 : decode cX4_closedSize 4 = .ok (.iconst 2, 1) := by decide +kernel
theorem dd_X4_closedSize_5 : decode cX4_closedSize 5 = .ok (.aload_n 0, 1) := by decide +kernel
theorem dd_X4_closedSize_6 : decode cX4_closedSize 6 = .ok (.invokevirtual 32, 3) := by decide +kernel
theorem dd_X4_closedSize_9 : decode cX4_closedSize 9 = .ok (.imul, 1) := by decide +kernel
theorem dd_X4_closedSize_10 : decode cX4_closedSize 10 = .ok (.isub, 1) := by decide +kernel
theorem dd_X4_closedSize_11 : decode cX4_closedSize 11 = .ok (.ireturn, 1) := by decide +kernel
theorem ml_X4_32 : Cond.methodLink RX4 32 m_X4_looseEnds.1 ∈ am_tbl := ri_lw_in (pl := 417) (by decide +kernel)
theorem ok_X4_closedSize : am_okM m_X4_closedSize 0 ∧ Cond.instanceMethod m_X4_closedSize.1 ∈ am_tbl ∧ Cond.selects m_X4_closedSize.1.cls m_X4_closedSize.1 m_X4_closedSize.1 ∈ am_tbl := ri_mk1 746 83 744 745 (by decide +kernel)
theorem c_X4_closedSize {a L : Nat} {F A : gs_F} (hI : gs_I F A) (hr : gs_row a L) : sC m_X4_closedSize 2 [.ref a] F A (fun rv F' A' => ∃ z : Int, rv = some (gs_iv z) ∧ F = F' ∧ A = A' ∧ (0 ≤ z ∧ z ≤ F a 1 ∧ z ≤ 400)) := by
  refine sC_of ok_X4_closedSize.1 (Nat.le_of_ble_eq_true rfl) ?_
  show sA _ _ _ 0 [(0, .ref a)] [] F A
  have b1 := gs_row_sz hr hI
  refine sA_aload_n dd_X4_closedSize_0 rfl (.head _) ?_
  refine sA_geti (ci := 4) (j := 1) (q := (RX4, TX4, 2)) dd_X4_closedSize_1 rfl (by decide) fl_X4_19 (Nat.lt_of_succ_lt hr.1) hr.2.1 rfl ?_
  refine sA_iconst (z := 2) dd_X4_closedSize_4 ?_
  refine sA_aload_n dd_X4_closedSize_5 rfl (.head _) ?_
  refine sA_callV (y2 := m_X4_looseEnds) (n2 := 0) (d2 := 1) (a := a) (ci := 4) (q := (RX4, TX4, 2)) (as := []) (rest := [gs_iv 2, gs_iv (F a 1)]) dd_X4_closedSize_6 ok_X4_looseEnds ml_X4_32 rfl rfl (Nat.lt_of_succ_lt hr.1) hr.2.1 rfl rfl (Nat.le_of_ble_eq_true rfl) (by decide) (c_X4_looseEnds hI hr) (fun r2 F3 A4 h5 => ?_)
  obtain ⟨z8, e7, e9, e10, x6⟩ := h5
  subst e7 e9 e10
  show sA _ _ _ 9 _ [gs_iv z8, gs_iv 2, gs_iv (F a 1)] _ _
  refine sA_imul dd_X4_closedSize_9 ?_
  refine sA_isub dd_X4_closedSize_10 ?_
  refine sA_iret (z := (F a 1) - (2 * z8)) dd_X4_closedSize_11 rfl ?_
  exact ⟨_, rfl, rfl, rfl, by omega⟩
theorem dd_X4_close_0 : decode cX4_close 0 = .ok (.aload_n 0, 1) := by decide +kernel
theorem dd_X4_close_1 : decode cX4_close 1 = .ok (.invokevirtual 32, 3) := by decide +kernel
theorem dd_X4_close_4 : decode cX4_close 4 = .ok (.istore_n 1, 1) := by decide +kernel
theorem dd_X4_close_5 : decode cX4_close 5 = .ok (.aload_n 0, 1) := by decide +kernel
theorem dd_X4_close_6 : decode cX4_close 6 = .ok (.dup, 1) := by decide +kernel
theorem dd_X4_close_7 : decode cX4_close 7 = .ok (.getfield 19, 3) := by decide +kernel
theorem dd_X4_close_10 : decode cX4_close 10 = .ok (.iconst 2, 1) := by decide +kernel
theorem dd_X4_close_11 : decode cX4_close 11 = .ok (.iload_n 1, 1) := by decide +kernel
theorem dd_X4_close_12 : decode cX4_close 12 = .ok (.imul, 1) := by decide +kernel
theorem dd_X4_close_13 : decode cX4_close 13 = .ok (.isub, 1) := by decide +kernel
theorem dd_X4_close_14 : decode cX4_close 14 = .ok (.putfield 19, 3) := by decide +kernel
theorem dd_X4_close_17 : decode cX4_close 17 = .ok (.aload_n 0, 1) := by decide +kernel
theorem dd_X4_close_18 : decode cX4_close 18 = .ok (.getfield 13, 3) := by decide +kernel
theorem dd_X4_close_21 : decode cX4_close 21 = .ok (.iload_n 1, 1) := by decide +kernel
theorem dd_X4_close_22 : decode cX4_close 22 = .ok (.aload_n 0, 1) := by decide +kernel
theorem dd_X4_close_23 : decode cX4_close 23 = .ok (.getfield 13, 3) := by decide +kernel
theorem dd_X4_close_26 : decode cX4_close 26 = .ok (.iconst 0, 1) := by decide +kernel
theorem dd_X4_close_27 : decode cX4_close 27 = .ok (.aload_n 0, 1) := by decide +kernel
theorem dd_X4_close_28 : decode cX4_close 28 = .ok (.getfield 19, 3) := by decide +kernel
theorem dd_X4_close_31 : decode cX4_close 31 = .ok (.invokestatic 26, 3) := by decide +kernel
theorem dd_X4_close_34 : decode cX4_close 34 = .ok (.return_, 1) := by decide +kernel
theorem ok_X4_close : am_okM m_X4_close 0 ∧ Cond.instanceMethod m_X4_close.1 ∈ am_tbl ∧ Cond.selects m_X4_close.1.cls m_X4_close.1 m_X4_close.1 ∈ am_tbl := ri_mk1 416 83 414 415 (by decide +kernel)
theorem c_X4_close {a L : Nat} {F A : gs_F} (hI : gs_I F A) (hr : gs_row a L) : sC m_X4_close 2 [.ref a] F A (fun rv F' A' => rv = none ∧ gs_I F' A' ∧ gs_fr (fun c j => c = a ∧ j = 1) (fun c => c = a + 1) F A F' A' ∧ (F' a 1 ≤ F a 1)) := by
  refine sC_of ok_X4_close.1 (Nat.le_of_ble_eq_true rfl) ?_
  show sA _ _ _ 0 [(0, .ref a)] [] F A
  have hf : gs_fr (fun c j => c = a ∧ j = 1) (fun c => c = a + 1) F A F A := gs_fr_refl _ _ _ _
  have b1 := gs_row_sz hr hI
  refine sA_aload_n dd_X4_close_0 rfl (.head _) ?_
  refine sA_callV (y2 := m_X4_looseEnds) (n2 := 0) (d2 := 1) (a := a) (ci := 4) (q := (RX4, TX4, 2)) (as := []) (rest := []) dd_X4_close_1 ok_X4_looseEnds ml_X4_32 rfl rfl (Nat.lt_of_succ_lt hr.1) hr.2.1 rfl rfl (Nat.le_of_ble_eq_true rfl) (by decide) (c_X4_looseEnds hI hr) (fun r2 F3 A4 h5 => ?_)
  obtain ⟨z8, e7, e9, e10, x6⟩ := h5
  subst e7 e9 e10
  show sA _ _ _ 4 _ [gs_iv z8] _ _
  refine sA_istore_n (lv' := [(1, gs_iv z8), (0, .ref a)]) dd_X4_close_4 rfl (by decide) rfl ?_
  refine sA_aload_n dd_X4_close_5 rfl (.tail _ (.head _)) ?_
  refine sA_dup dd_X4_close_6 rfl ?_
  refine sA_geti (ci := 4) (j := 1) (q := (RX4, TX4, 2)) dd_X4_close_7 rfl (by decide) fl_X4_19 (Nat.lt_of_succ_lt hr.1) hr.2.1 rfl ?_
  refine sA_iconst (z := 2) dd_X4_close_10 ?_
  refine sA_iload_n dd_X4_close_11 rfl (.head _) ?_
  refine sA_imul dd_X4_close_12 ?_
  refine sA_isub dd_X4_close_13 ?_
  refine sA_put (ci := 4) (j := 1) (q := (RX4, TX4, 2)) (ty := .int) dd_X4_close_14 rfl (by decide) fl_X4_19 rfl (tyX4_ok 1 (by decide)) rfl rfl (Nat.lt_of_succ_lt hr.1) hr.2.1 rfl ?_
  have I12 : gs_I (gs_up F a 1 ((F a 1) - (2 * z8))) A := gs_row_put hr hI (by omega)
  have f13 := gs_fr_put hf (a := a) (z := (F a 1) - (2 * z8)) (j := 1) (by first | omega | (dsimp only; omega) | (dsimp only))
  have v14 : gs_up F a 1 ((F a 1) - (2 * z8)) a 1 = (F a 1) - (2 * z8) := gs_up_self _ _ _ _
  generalize gs_up F a 1 ((F a 1) - (2 * z8)) = F11 at I12 f13 v14 ⊢
  refine sA_aload_n dd_X4_close_17 rfl (.tail _ (.head _)) ?_
  refine sA_getr (ci := 4) (j := 0) (q := (RX4, TX4, 2)) dd_X4_close_18 rfl (by decide) fl_X4_13 (Nat.lt_of_succ_lt hr.1) hr.2.1 rfl ?_
  refine sA_iload_n dd_X4_close_21 rfl (.head _) ?_
  refine sA_aload_n dd_X4_close_22 rfl (.tail _ (.head _)) ?_
  refine sA_getr (ci := 4) (j := 0) (q := (RX4, TX4, 2)) dd_X4_close_23 rfl (by decide) fl_X4_13 (Nat.lt_of_succ_lt hr.1) hr.2.1 rfl ?_
  refine sA_iconst (z := 0) dd_X4_close_26 ?_
  refine sA_aload_n dd_X4_close_27 rfl (.tail _ (.head _)) ?_
  refine sA_geti (ci := 4) (j := 1) (q := (RX4, TX4, 2)) dd_X4_close_28 rfl (by decide) fl_X4_19 (Nat.lt_of_succ_lt hr.1) hr.2.1 rfl ?_
  have b15 := gs_row_sz hr I12
  refine sA_copy (n1 := L) (n2 := L) dd_X4_close_31 (ri_lw_in (pl := 412) (by decide +kernel)) gs_copyok hr.1 hr.2.2.1 hr.1 hr.2.2.1 (by omega) (by omega) (by omega) (by omega) (by omega) (Nat.le_trans hr.2.2.2.2.2.2 (by decide)) (Nat.le_trans hr.2.2.2.2.2.2 (by decide)) (by decide) (Nat.le_of_ble_eq_true rfl) ?_
  have I17 : gs_I F11 (gs_cp A (a + 1) (a + 1) z8.toNat (0 : Int).toNat (F11 a 1).toNat) := gs_I_cp I12 (b := (a + 1)) (a := (a + 1)) (p := ((-9), 9)) (q := ((-9), 9)) hr.2.2.2.2.1 hr.2.2.2.2.1 (by decide)
  have f18 := gs_fr_cp f13 (a := (a + 1)) (b := (a + 1)) (sp := z8.toNat) (dp := (0 : Int).toNat) (n := (F11 a 1).toNat) (by first | omega | (dsimp only; omega) | (dsimp only))
  generalize gs_cp A (a + 1) (a + 1) z8.toNat (0 : Int).toNat (F11 a 1).toNat = A16 at I17 f18 ⊢
  refine sA_vret dd_X4_close_34 rfl ?_
  exact ⟨rfl, I17, f18, by omega⟩
theorem dd_X4_isLike_0 : decode cX4_isLike 0 = .ok (.aload_n 0, 1) := by decide +kernel
theorem dd_X4_isLike_1 : decode cX4_isLike 1 = .ok (.getfield 19, 3) := by decide +kernel
theorem dd_X4_isLike_4 : decode cX4_isLike 4 = .ok (.aload_n 1, 1) := by decide +kernel
theorem dd_X4_isLike_5 : decode cX4_isLike 5 = .ok (.getfield 19, 3) := by decide +kernel
theorem dd_X4_isLike_8 : decode cX4_isLike 8 = .ok (.if_icmp .eq 5, 3) := by decide +kernel
theorem dd_X4_isLike_11 : decode cX4_isLike 11 = .ok (.iconst 0, 1) := by decide +kernel
theorem dd_X4_isLike_12 : decode cX4_isLike 12 = .ok (.ireturn, 1) := by decide +kernel
theorem dd_X4_isLike_13 : decode cX4_isLike 13 = .ok (.iconst 0, 1) := by decide +kernel
theorem dd_X4_isLike_14 : decode cX4_isLike 14 = .ok (.istore_n 2, 1) := by decide +kernel
theorem dd_X4_isLike_15 : decode cX4_isLike 15 = .ok (.iload_n 2, 1) := by decide +kernel
theorem dd_X4_isLike_16 : decode cX4_isLike 16 = .ok (.aload_n 0, 1) := by decide +kernel
theorem dd_X4_isLike_17 : decode cX4_isLike 17 = .ok (.getfield 19, 3) := by decide +kernel
theorem dd_X4_isLike_20 : decode cX4_isLike 20 = .ok (.if_icmp .ge 26, 3) := by decide +kernel
theorem dd_X4_isLike_23 : decode cX4_isLike 23 = .ok (.aload_n 0, 1) := by decide +kernel
theorem dd_X4_isLike_24 : decode cX4_isLike 24 = .ok (.getfield 13, 3) := by decide +kernel
theorem dd_X4_isLike_27 : decode cX4_isLike 27 = .ok (.iload_n 2, 1) := by decide +kernel
theorem dd_X4_isLike_28 : decode cX4_isLike 28 = .ok (.iaload, 1) := by decide +kernel
theorem dd_X4_isLike_29 : decode cX4_isLike 29 = .ok (.aload_n 1, 1) := by decide +kernel
theorem dd_X4_isLike_30 : decode cX4_isLike 30 = .ok (.getfield 13, 3) := by decide +kernel
theorem dd_X4_isLike_33 : decode cX4_isLike 33 = .ok (.iload_n 2, 1) := by decide +kernel
theorem dd_X4_isLike_34 : decode cX4_isLike 34 = .ok (.iaload, 1) := by decide +kernel
theorem dd_X4_isLike_35 : decode cX4_isLike 35 = .ok (.if_icmp .eq 5, 3) := by decide +kernel
theorem dd_X4_isLike_38 : decode cX4_isLike 38 = .ok (.iconst 0, 1) := by decide +kernel
theorem dd_X4_isLike_39 : decode cX4_isLike 39 = .ok (.ireturn, 1) := by decide +kernel
theorem dd_X4_isLike_40 : decode cX4_isLike 40 = .ok (.iinc 2 1, 3) := by decide +kernel
theorem dd_X4_isLike_43 : decode cX4_isLike 43 = .ok (.goto (-28), 3) := by decide +kernel
theorem dd_X4_isLike_46 : decode cX4_isLike 46 = .ok (.iconst 1, 1) := by decide +kernel
theorem dd_X4_isLike_47 : decode cX4_isLike 47 = .ok (.ireturn, 1) := by decide +kernel
theorem ok_X4_isLike : am_okM m_X4_isLike 1 ∧ Cond.instanceMethod m_X4_isLike.1 ∈ am_tbl ∧ Cond.selects m_X4_isLike.1.cls m_X4_isLike.1 m_X4_isLike.1 ∈ am_tbl := ri_mk1 639 83 637 638 (by decide +kernel)
theorem k_X4_isLike {a L b M : Nat} {F A : gs_F} (hI : gs_I F A) (hr : gs_row a L) (ho : gs_row b M) : ∀ nN : Nat, (∀ (k : Int),  0 ≤ k → k ≤ F a 1 → F a 1 = F b 1 → F a 1 - k < (nN : Int) → sA m_X4_isLike 1 (fun rv F' A' => ∃ z : Int, rv = some (gs_iv z) ∧ F = F' ∧ A = A' ∧ (z = 0 ∨ z = 1)) 15 [(2, gs_iv k), (0, .ref a), (1, .ref b)] [] F A) := by
  intro nN
  induction nN with
  | zero =>
    exact fun a0 i0 i1 i2 hm => by exfalso; omega
  | succ nN ih =>
    intro k i0 i1 i2 hm
    have b1 := gs_row_sz hr hI
    have b2 := gs_row_sz ho hI
    refine sA_iload_n dd_X4_isLike_15 rfl (.head _) ?_
    refine sA_aload_n dd_X4_isLike_16 rfl (.tail _ (.head _)) ?_
    refine sA_geti (ci := 4) (j := 1) (q := (RX4, TX4, 2)) dd_X4_isLike_17 rfl (by decide) fl_X4_19 (Nat.lt_of_succ_lt hr.1) hr.2.1 rfl ?_
    refine sA_icmp_ge (tgt := 46) dd_X4_isLike_20 (by decide) (by omega) (by omega) (fun q3 => ?_) (fun q3 => ?_)
    · skip
      refine sA_iconst (z := 1) dd_X4_isLike_46 ?_
      refine sA_bret (z := 1) dd_X4_isLike_47 rfl (by omega) ?_
      exact ⟨_, rfl, rfl, rfl, by omega⟩
    · skip
      refine sA_aload_n dd_X4_isLike_23 rfl (.tail _ (.head _)) ?_
      refine sA_getr (ci := 4) (j := 0) (q := (RX4, TX4, 2)) dd_X4_isLike_24 rfl (by decide) fl_X4_13 (Nat.lt_of_succ_lt hr.1) hr.2.1 rfl ?_
      refine sA_iload_n dd_X4_isLike_27 rfl (.head _) ?_
      refine sA_iald (n := L) dd_X4_isLike_28 hr.1 hr.2.2.1 (by omega) (Nat.le_trans hr.2.2.2.2.2.2 (by decide)) ?_
      have b4 := gs_row_el hr hI k.toNat
      refine sA_aload_n dd_X4_isLike_29 rfl (.tail _ (.tail _ (.head _))) ?_
      refine sA_getr (ci := 4) (j := 0) (q := (RX4, TX4, 2)) dd_X4_isLike_30 rfl (by decide) fl_X4_13 (Nat.lt_of_succ_lt ho.1) ho.2.1 rfl ?_
      refine sA_iload_n dd_X4_isLike_33 rfl (.head _) ?_
      refine sA_iald (n := M) dd_X4_isLike_34 ho.1 ho.2.2.1 (by omega) (Nat.le_trans ho.2.2.2.2.2.2 (by decide)) ?_
      have b5 := gs_row_el ho hI k.toNat
      refine sA_icmp_eq (tgt := 40) dd_X4_isLike_35 (by decide) (by omega) (by omega) (fun q6 => ?_) (fun q6 => ?_)
      · skip
        refine sA_iinc (lv' := [(2, gs_iv (k + 1)), (0, .ref a), (1, .ref b)]) dd_X4_isLike_40 (.head _) (by decide) rfl ?_
        refine sA_goto (tgt := 15) dd_X4_isLike_43 (by decide) ?_
        refine sA_sub (lv2 := [(2, gs_iv (k + 1)), (0, .ref a), (1, .ref b)]) (List.forall_mem_cons.mpr ⟨(.head _), (List.forall_mem_cons.mpr ⟨(.tail _ (.head _)), (List.forall_mem_cons.mpr ⟨(.tail _ (.tail _ (.head _))), (fun _ h => absurd h List.not_mem_nil)⟩)⟩)⟩) ?_
        exact ih (k + 1)  (by omega) (by omega) (by omega) (by omega)
      · skip
        refine sA_iconst (z := 0) dd_X4_isLike_38 ?_
        refine sA_bret (z := 0) dd_X4_isLike_39 rfl (by omega) ?_
        exact ⟨_, rfl, rfl, rfl, by omega⟩
theorem c_X4_isLike {a L b M : Nat} {F A : gs_F} (hI : gs_I F A) (hr : gs_row a L) (ho : gs_row b M) : sC m_X4_isLike 1 [.ref a, .ref b] F A (fun rv F' A' => ∃ z : Int, rv = some (gs_iv z) ∧ F = F' ∧ A = A' ∧ (z = 0 ∨ z = 1)) := by
  refine sC_of ok_X4_isLike.1 (Nat.le_of_ble_eq_true rfl) ?_
  show sA _ _ _ 0 [(0, .ref a), (1, .ref b)] [] F A
  have b7 := gs_row_sz hr hI
  have b8 := gs_row_sz ho hI
  refine sA_aload_n dd_X4_isLike_0 rfl (.head _) ?_
  refine sA_geti (ci := 4) (j := 1) (q := (RX4, TX4, 2)) dd_X4_isLike_1 rfl (by decide) fl_X4_19 (Nat.lt_of_succ_lt hr.1) hr.2.1 rfl ?_
  refine sA_aload_n dd_X4_isLike_4 rfl (.tail _ (.head _)) ?_
  refine sA_geti (ci := 4) (j := 1) (q := (RX4, TX4, 2)) dd_X4_isLike_5 rfl (by decide) fl_X4_19 (Nat.lt_of_succ_lt ho.1) ho.2.1 rfl ?_
  refine sA_icmp_eq (tgt := 13) dd_X4_isLike_8 (by decide) (by omega) (by omega) (fun q9 => ?_) (fun q9 => ?_)
  · skip
    refine sA_iconst (z := 0) dd_X4_isLike_13 ?_
    refine sA_istore_n (lv' := [(2, gs_iv 0), (0, .ref a), (1, .ref b)]) dd_X4_isLike_14 rfl (by decide) rfl ?_
    refine sA_sub (lv2 := [(2, gs_iv 0), (0, .ref a), (1, .ref b)]) (List.forall_mem_cons.mpr ⟨(.head _), (List.forall_mem_cons.mpr ⟨(.tail _ (.head _)), (List.forall_mem_cons.mpr ⟨(.tail _ (.tail _ (.head _))), (fun _ h => absurd h List.not_mem_nil)⟩)⟩)⟩) ?_
    exact (k_X4_isLike hI hr ho (F a 1 - 0 : Int).toNat.succ) 0  (by omega) (by omega) (by omega) (by omega)
  · skip
    refine sA_iconst (z := 0) dd_X4_isLike_11 ?_
    refine sA_bret (z := 0) dd_X4_isLike_12 rfl (by omega) ?_
    exact ⟨_, rfl, rfl, rfl, by omega⟩
theorem dd_X4_runsAlong_0 : decode cX4_runsAlong 0 = .ok (.iload_n 3, 1) := by decide +kernel
theorem dd_X4_runsAlong_1 : decode cX4_runsAlong 1 = .ok (.istore 4, 2) := by decide +kernel
theorem dd_X4_runsAlong_3 : decode cX4_runsAlong 3 = .ok (.iconst 0, 1) := by decide +kernel
theorem dd_X4_runsAlong_4 : decode cX4_runsAlong 4 = .ok (.istore 5, 2) := by decide +kernel
theorem dd_X4_runsAlong_6 : decode cX4_runsAlong 6 = .ok (.iload 5, 2) := by decide +kernel
theorem dd_X4_runsAlong_8 : decode cX4_runsAlong 8 = .ok (.aload_n 2, 1) := by decide +kernel
theorem dd_X4_runsAlong_9 : decode cX4_runsAlong 9 = .ok (.getfield 19, 3) := by decide +kernel
theorem dd_X4_runsAlong_12 : decode cX4_runsAlong 12 = .ok (.if_icmp .ge 51, 3) := by decide +kernel
theorem dd_X4_runsAlong_15 : decode cX4_runsAlong 15 = .ok (.aload_n 0, 1) := by decide +kernel
theorem dd_X4_runsAlong_16 : decode cX4_runsAlong 16 = .ok (.getfield 13, 3) := by decide +kernel
theorem dd_X4_runsAlong_19 : decode cX4_runsAlong 19 = .ok (.iload_n 1, 1) := by decide +kernel
theorem dd_X4_runsAlong_20 : decode cX4_runsAlong 20 = .ok (.iload 5, 2) := by decide +kernel
theorem dd_X4_runsAlong_22 : decode cX4_runsAlong 22 = .ok (.iadd, 1) := by decide +kernel
theorem dd_X4_runsAlong_23 : decode cX4_runsAlong 23 = .ok (.iaload, 1) := by decide +kernel
theorem dd_X4_runsAlong_24 : decode cX4_runsAlong 24 = .ok (.aload_n 2, 1) := by decide +kernel
theorem dd_X4_runsAlong_25 : decode cX4_runsAlong 25 = .ok (.getfield 13, 3) := by decide +kernel
theorem dd_X4_runsAlong_28 : decode cX4_runsAlong 28 = .ok (.iload 4, 2) := by decide +kernel
theorem dd_X4_runsAlong_30 : decode cX4_runsAlong 30 = .ok (.iaload, 1) := by decide +kernel
theorem dd_X4_runsAlong_31 : decode cX4_runsAlong 31 = .ok (.if_icmp .eq 5, 3) := by decide +kernel
theorem dd_X4_runsAlong_34 : decode cX4_runsAlong 34 = .ok (.iconst 0, 1) := by decide +kernel
theorem dd_X4_runsAlong_35 : decode cX4_runsAlong 35 = .ok (.ireturn, 1) := by decide +kernel
theorem dd_X4_runsAlong_36 : decode cX4_runsAlong 36 = .ok (.iload 4, 2) := by decide +kernel
theorem dd_X4_runsAlong_38 : decode cX4_runsAlong 38 = .ok (.iconst 1, 1) := by decide +kernel
theorem dd_X4_runsAlong_39 : decode cX4_runsAlong 39 = .ok (.iadd, 1) := by decide +kernel
theorem dd_X4_runsAlong_40 : decode cX4_runsAlong 40 = .ok (.aload_n 2, 1) := by decide +kernel
theorem dd_X4_runsAlong_41 : decode cX4_runsAlong 41 = .ok (.getfield 19, 3) := by decide +kernel
theorem dd_X4_runsAlong_44 : decode cX4_runsAlong 44 = .ok (.if_icmp .ne 7, 3) := by decide +kernel
theorem dd_X4_runsAlong_47 : decode cX4_runsAlong 47 = .ok (.iconst 0, 1) := by decide +kernel
theorem dd_X4_runsAlong_48 : decode cX4_runsAlong 48 = .ok (.goto 7, 3) := by decide +kernel
theorem dd_X4_runsAlong_51 : decode cX4_runsAlong 51 = .ok (.iload 4, 2) := by decide +kernel
theorem dd_X4_runsAlong_53 : decode cX4_runsAlong 53 = .ok (.iconst 1, 1) := by decide +kernel
theorem dd_X4_runsAlong_54 : decode cX4_runsAlong 54 = .ok (.iadd, 1) := by decide +kernel
theorem dd_X4_runsAlong_55 : decode cX4_runsAlong 55 = .ok (.istore 4, 2) := by decide +kernel
theorem dd_X4_runsAlong_57 : decode cX4_runsAlong 57 = .ok (.iinc 5 1, 3) := by decide +kernel
theorem dd_X4_runsAlong_60 : decode cX4_runsAlong 60 = .ok (.goto (-54), 3) := by decide +kernel
theorem dd_X4_runsAlong_63 : decode cX4_runsAlong 63 = .ok (.iconst 1, 1) := by decide +kernel
theorem dd_X4_runsAlong_64 : decode cX4_runsAlong 64 = .ok (.ireturn, 1) := by decide +kernel
theorem ok_X4_runsAlong : am_okM m_X4_runsAlong 3 ∧ Cond.instanceMethod m_X4_runsAlong.1 ∈ am_tbl ∧ Cond.selects m_X4_runsAlong.1.cls m_X4_runsAlong.1 m_X4_runsAlong.1 ∈ am_tbl := ri_mk1 486 83 485 10 (by decide +kernel)
theorem k_X4_runsAlong {a L b M : Nat} {p q : Int} {F A : gs_F} (hI : gs_I F A) (hr : gs_row a L) (hp : 0 ≤ p ∧ p + F b 1 ≤ F a 1) (ho : gs_row b M) (hq : 0 ≤ q ∧ q < F b 1) : ∀ nN : Nat, (∀ (k : Int) (t : Int),  0 ≤ k → k ≤ F b 1 → 0 ≤ t → t < F b 1 → F b 1 - k < (nN : Int) → sA m_X4_runsAlong 1 (fun rv F' A' => ∃ z : Int, rv = some (gs_iv z) ∧ F = F' ∧ A = A' ∧ (z = 0 ∨ z = 1)) 6 [(5, gs_iv k), (4, gs_iv t), (0, .ref a), (1, gs_iv p), (2, .ref b)] [] F A) := by
  intro nN
  induction nN with
  | zero =>
    exact fun a0 a1 i0 i1 i2 i3 hm => by exfalso; omega
  | succ nN ih =>
    intro k t i0 i1 i2 i3 hm
    have b1 := gs_row_sz hr hI
    have b2 := gs_row_sz ho hI
    refine sA_iload dd_X4_runsAlong_6 (.head _) ?_
    refine sA_aload_n dd_X4_runsAlong_8 rfl (.tail _ (.tail _ (.tail _ (.tail _ (.head _))))) ?_
    refine sA_geti (ci := 4) (j := 1) (q := (RX4, TX4, 2)) dd_X4_runsAlong_9 rfl (by decide) fl_X4_19 (Nat.lt_of_succ_lt ho.1) ho.2.1 rfl ?_
    refine sA_icmp_ge (tgt := 63) dd_X4_runsAlong_12 (by decide) (by omega) (by omega) (fun q3 => ?_) (fun q3 => ?_)
    · skip
      refine sA_iconst (z := 1) dd_X4_runsAlong_63 ?_
      refine sA_bret (z := 1) dd_X4_runsAlong_64 rfl (by omega) ?_
      exact ⟨_, rfl, rfl, rfl, by omega⟩
    · skip
      refine sA_aload_n dd_X4_runsAlong_15 rfl (.tail _ (.tail _ (.head _))) ?_
      refine sA_getr (ci := 4) (j := 0) (q := (RX4, TX4, 2)) dd_X4_runsAlong_16 rfl (by decide) fl_X4_13 (Nat.lt_of_succ_lt hr.1) hr.2.1 rfl ?_
      refine sA_iload_n dd_X4_runsAlong_19 rfl (.tail _ (.tail _ (.tail _ (.head _)))) ?_
      refine sA_iload dd_X4_runsAlong_20 (.head _) ?_
      refine sA_iadd dd_X4_runsAlong_22 ?_
      refine sA_iald (n := L) dd_X4_runsAlong_23 hr.1 hr.2.2.1 (by omega) (Nat.le_trans hr.2.2.2.2.2.2 (by decide)) ?_
      have b4 := gs_row_el hr hI (p + k).toNat
      refine sA_aload_n dd_X4_runsAlong_24 rfl (.tail _ (.tail _ (.tail _ (.tail _ (.head _))))) ?_
      refine sA_getr (ci := 4) (j := 0) (q := (RX4, TX4, 2)) dd_X4_runsAlong_25 rfl (by decide) fl_X4_13 (Nat.lt_of_succ_lt ho.1) ho.2.1 rfl ?_
      refine sA_iload dd_X4_runsAlong_28 (.tail _ (.head _)) ?_
      refine sA_iald (n := M) dd_X4_runsAlong_30 ho.1 ho.2.2.1 (by omega) (Nat.le_trans ho.2.2.2.2.2.2 (by decide)) ?_
      have b5 := gs_row_el ho hI t.toNat
      refine sA_icmp_eq (tgt := 36) dd_X4_runsAlong_31 (by decide) (by omega) (by omega) (fun q6 => ?_) (fun q6 => ?_)
      · skip
        refine sA_iload dd_X4_runsAlong_36 (.tail _ (.head _)) ?_
        refine sA_iconst (z := 1) dd_X4_runsAlong_38 ?_
        refine sA_iadd dd_X4_runsAlong_39 ?_
        refine sA_aload_n dd_X4_runsAlong_40 rfl (.tail _ (.tail _ (.tail _ (.tail _ (.head _))))) ?_
        refine sA_geti (ci := 4) (j := 1) (q := (RX4, TX4, 2)) dd_X4_runsAlong_41 rfl (by decide) fl_X4_19 (Nat.lt_of_succ_lt ho.1) ho.2.1 rfl ?_
        refine sA_icmp_ne (tgt := 51) dd_X4_runsAlong_44 (by decide) (by omega) (by omega) (fun q7 => ?_) (fun q7 => ?_)
        · skip
          refine sA_iload dd_X4_runsAlong_51 (.tail _ (.head _)) ?_
          refine sA_iconst (z := 1) dd_X4_runsAlong_53 ?_
          refine sA_iadd dd_X4_runsAlong_54 ?_
          refine sA_istore (lv' := [(4, gs_iv (t + 1)), (5, gs_iv k), (0, .ref a), (1, gs_iv p), (2, .ref b)]) dd_X4_runsAlong_55 (by decide) rfl ?_
          refine sA_iinc (lv' := [(5, gs_iv (k + 1)), (4, gs_iv (t + 1)), (0, .ref a), (1, gs_iv p), (2, .ref b)]) dd_X4_runsAlong_57 (.tail _ (.head _)) (by decide) rfl ?_
          refine sA_goto (tgt := 6) dd_X4_runsAlong_60 (by decide) ?_
          refine sA_sub (lv2 := [(5, gs_iv (k + 1)), (4, gs_iv (t + 1)), (0, .ref a), (1, gs_iv p), (2, .ref b)]) (List.forall_mem_cons.mpr ⟨(.head _), (List.forall_mem_cons.mpr ⟨(.tail _ (.head _)), (List.forall_mem_cons.mpr ⟨(.tail _ (.tail _ (.head _))), (List.forall_mem_cons.mpr ⟨(.tail _ (.tail _ (.tail _ (.head _)))), (List.forall_mem_cons.mpr ⟨(.tail _ (.tail _ (.tail _ (.tail _ (.head _))))), (fun _ h => absurd h List.not_mem_nil)⟩)⟩)⟩)⟩)⟩) ?_
          exact ih (k + 1) (t + 1)  (by omega) (by omega) (by omega) (by omega) (by omega)
        · skip
          refine sA_iconst (z := 0) dd_X4_runsAlong_47 ?_
          refine sA_goto (tgt := 55) dd_X4_runsAlong_48 (by decide) ?_
          refine sA_istore (lv' := [(4, gs_iv 0), (5, gs_iv k), (0, .ref a), (1, gs_iv p), (2, .ref b)]) dd_X4_runsAlong_55 (by decide) rfl ?_
          refine sA_iinc (lv' := [(5, gs_iv (k + 1)), (4, gs_iv 0), (0, .ref a), (1, gs_iv p), (2, .ref b)]) dd_X4_runsAlong_57 (.tail _ (.head _)) (by decide) rfl ?_
          refine sA_goto (tgt := 6) dd_X4_runsAlong_60 (by decide) ?_
          refine sA_sub (lv2 := [(5, gs_iv (k + 1)), (4, gs_iv 0), (0, .ref a), (1, gs_iv p), (2, .ref b)]) (List.forall_mem_cons.mpr ⟨(.head _), (List.forall_mem_cons.mpr ⟨(.tail _ (.head _)), (List.forall_mem_cons.mpr ⟨(.tail _ (.tail _ (.head _))), (List.forall_mem_cons.mpr ⟨(.tail _ (.tail _ (.tail _ (.head _)))), (List.forall_mem_cons.mpr ⟨(.tail _ (.tail _ (.tail _ (.tail _ (.head _))))), (fun _ h => absurd h List.not_mem_nil)⟩)⟩)⟩)⟩)⟩) ?_
          exact ih (k + 1) 0  (by omega) (by omega) (by omega) (by omega) (by omega)
      · skip
        refine sA_iconst (z := 0) dd_X4_runsAlong_34 ?_
        refine sA_bret (z := 0) dd_X4_runsAlong_35 rfl (by omega) ?_
        exact ⟨_, rfl, rfl, rfl, by omega⟩
theorem c_X4_runsAlong {a L b M : Nat} {p q : Int} {F A : gs_F} (hI : gs_I F A) (hr : gs_row a L) (hp : 0 ≤ p ∧ p + F b 1 ≤ F a 1) (ho : gs_row b M) (hq : 0 ≤ q ∧ q < F b 1) : sC m_X4_runsAlong 1 [.ref a, gs_iv p, .ref b, gs_iv q] F A (fun rv F' A' => ∃ z : Int, rv = some (gs_iv z) ∧ F = F' ∧ A = A' ∧ (z = 0 ∨ z = 1)) := by
  refine sC_of ok_X4_runsAlong.1 (Nat.le_of_ble_eq_true rfl) ?_
  show sA _ _ _ 0 [(0, .ref a), (1, gs_iv p), (2, .ref b), (3, gs_iv q)] [] F A
  have b8 := gs_row_sz hr hI
  have b9 := gs_row_sz ho hI
  refine sA_iload_n dd_X4_runsAlong_0 rfl (.tail _ (.tail _ (.tail _ (.head _)))) ?_
  refine sA_istore (lv' := [(4, gs_iv q), (0, .ref a), (1, gs_iv p), (2, .ref b), (3, gs_iv q)]) dd_X4_runsAlong_1 (by decide) rfl ?_
  refine sA_iconst (z := 0) dd_X4_runsAlong_3 ?_
  refine sA_istore (lv' := [(5, gs_iv 0), (4, gs_iv q), (0, .ref a), (1, gs_iv p), (2, .ref b), (3, gs_iv q)]) dd_X4_runsAlong_4 (by decide) rfl ?_
  refine sA_sub (lv2 := [(5, gs_iv 0), (4, gs_iv q), (0, .ref a), (1, gs_iv p), (2, .ref b)]) (List.forall_mem_cons.mpr ⟨(.head _), (List.forall_mem_cons.mpr ⟨(.tail _ (.head _)), (List.forall_mem_cons.mpr ⟨(.tail _ (.tail _ (.head _))), (List.forall_mem_cons.mpr ⟨(.tail _ (.tail _ (.tail _ (.head _)))), (List.forall_mem_cons.mpr ⟨(.tail _ (.tail _ (.tail _ (.tail _ (.head _))))), (fun _ h => absurd h List.not_mem_nil)⟩)⟩)⟩)⟩)⟩) ?_
  exact (k_X4_runsAlong hI hr hp ho hq (F b 1 - 0 : Int).toNat.succ) 0 q  (by omega) (by omega) (by omega) (by omega) (by omega)
theorem dd_X4_runsAgainst_0 : decode cX4_runsAgainst 0 = .ok (.iload_n 3, 1) := by decide +kernel
theorem dd_X4_runsAgainst_1 : decode cX4_runsAgainst 1 = .ok (.istore 4, 2) := by decide +kernel
theorem dd_X4_runsAgainst_3 : decode cX4_runsAgainst 3 = .ok (.iconst 0, 1) := by decide +kernel
theorem dd_X4_runsAgainst_4 : decode cX4_runsAgainst 4 = .ok (.istore 5, 2) := by decide +kernel
theorem dd_X4_runsAgainst_6 : decode cX4_runsAgainst 6 = .ok (.iload 5, 2) := by decide +kernel
theorem dd_X4_runsAgainst_8 : decode cX4_runsAgainst 8 = .ok (.aload_n 2, 1) := by decide +kernel
theorem dd_X4_runsAgainst_9 : decode cX4_runsAgainst 9 = .ok (.getfield 19, 3) := by decide +kernel
theorem dd_X4_runsAgainst_12 : decode cX4_runsAgainst 12 = .ok (.if_icmp .ge 51, 3) := by decide +kernel
theorem dd_X4_runsAgainst_15 : decode cX4_runsAgainst 15 = .ok (.aload_n 0, 1) := by decide +kernel
theorem dd_X4_runsAgainst_16 : decode cX4_runsAgainst 16 = .ok (.getfield 13, 3) := by decide +kernel
theorem dd_X4_runsAgainst_19 : decode cX4_runsAgainst 19 = .ok (.iload_n 1, 1) := by decide +kernel
theorem dd_X4_runsAgainst_20 : decode cX4_runsAgainst 20 = .ok (.iload 5, 2) := by decide +kernel
theorem dd_X4_runsAgainst_22 : decode cX4_runsAgainst 22 = .ok (.iadd, 1) := by decide +kernel
theorem dd_X4_runsAgainst_23 : decode cX4_runsAgainst 23 = .ok (.iaload, 1) := by decide +kernel
theorem dd_X4_runsAgainst_24 : decode cX4_runsAgainst 24 = .ok (.aload_n 2, 1) := by decide +kernel
theorem dd_X4_runsAgainst_25 : decode cX4_runsAgainst 25 = .ok (.getfield 13, 3) := by decide +kernel
theorem dd_X4_runsAgainst_28 : decode cX4_runsAgainst 28 = .ok (.iload 4, 2) := by decide +kernel
theorem dd_X4_runsAgainst_30 : decode cX4_runsAgainst 30 = .ok (.iaload, 1) := by decide +kernel
theorem dd_X4_runsAgainst_31 : decode cX4_runsAgainst 31 = .ok (.ineg, 1) := by decide +kernel
theorem dd_X4_runsAgainst_32 : decode cX4_runsAgainst 32 = .ok (.if_icmp .eq 5, 3) := by decide +kernel
theorem dd_X4_runsAgainst_35 : decode cX4_runsAgainst 35 = .ok (.iconst 0, 1) := by decide +kernel
theorem dd_X4_runsAgainst_36 : decode cX4_runsAgainst 36 = .ok (.ireturn, 1) := by decide +kernel
theorem dd_X4_runsAgainst_37 : decode cX4_runsAgainst 37 = .ok (.iload 4, 2) := by decide +kernel
theorem dd_X4_runsAgainst_39 : decode cX4_runsAgainst 39 = .ok (.ifCond .ne 12, 3) := by decide +kernel
theorem dd_X4_runsAgainst_42 : decode cX4_runsAgainst 42 = .ok (.aload_n 2, 1) := by decide +kernel
theorem dd_X4_runsAgainst_43 : decode cX4_runsAgainst 43 = .ok (.getfield 19, 3) := by decide +kernel
theorem dd_X4_runsAgainst_46 : decode cX4_runsAgainst 46 = .ok (.iconst 1, 1) := by decide +kernel
theorem dd_X4_runsAgainst_47 : decode cX4_runsAgainst 47 = .ok (.isub, 1) := by decide +kernel
theorem dd_X4_runsAgainst_48 : decode cX4_runsAgainst 48 = .ok (.goto 7, 3) := by decide +kernel
theorem dd_X4_runsAgainst_51 : decode cX4_runsAgainst 51 = .ok (.iload 4, 2) := by decide +kernel
theorem dd_X4_runsAgainst_53 : decode cX4_runsAgainst 53 = .ok (.iconst 1, 1) := by decide +kernel
theorem dd_X4_runsAgainst_54 : decode cX4_runsAgainst 54 = .ok (.isub, 1) := by decide +kernel
theorem dd_X4_runsAgainst_55 : decode cX4_runsAgainst 55 = .ok (.istore 4, 2) := by decide +kernel
theorem dd_X4_runsAgainst_57 : decode cX4_runsAgainst 57 = .ok (.iinc 5 1, 3) := by decide +kernel
theorem dd_X4_runsAgainst_60 : decode cX4_runsAgainst 60 = .ok (.goto (-54), 3) := by decide +kernel
theorem dd_X4_runsAgainst_63 : decode cX4_runsAgainst 63 = .ok (.iconst 1, 1) := by decide +kernel
theorem dd_X4_runsAgainst_64 : decode cX4_runsAgainst 64 = .ok (.ireturn, 1) := by decide +kernel
theorem ok_X4_runsAgainst : am_okM m_X4_runsAgainst 3 ∧ Cond.instanceMethod m_X4_runsAgainst.1 ∈ am_tbl ∧ Cond.selects m_X4_runsAgainst.1.cls m_X4_runsAgainst.1 m_X4_runsAgainst.1 ∈ am_tbl := ri_mk1 490 83 489 11 (by decide +kernel)
theorem k_X4_runsAgainst {a L b M : Nat} {p q : Int} {F A : gs_F} (hI : gs_I F A) (hr : gs_row a L) (hp : 0 ≤ p ∧ p + F b 1 ≤ F a 1) (ho : gs_row b M) (hq : 0 ≤ q ∧ q < F b 1) : ∀ nN : Nat, (∀ (k : Int) (t : Int),  0 ≤ k → k ≤ F b 1 → 0 ≤ t → t < F b 1 → F b 1 - k < (nN : Int) → sA m_X4_runsAgainst 1 (fun rv F' A' => ∃ z : Int, rv = some (gs_iv z) ∧ F = F' ∧ A = A' ∧ (z = 0 ∨ z = 1)) 6 [(5, gs_iv k), (4, gs_iv t), (0, .ref a), (1, gs_iv p), (2, .ref b)] [] F A) := by
  intro nN
  induction nN with
  | zero =>
    exact fun a0 a1 i0 i1 i2 i3 hm => by exfalso; omega
  | succ nN ih =>
    intro k t i0 i1 i2 i3 hm
    have b1 := gs_row_sz hr hI
    have b2 := gs_row_sz ho hI
    refine sA_iload dd_X4_runsAgainst_6 (.head _) ?_
    refine sA_aload_n dd_X4_runsAgainst_8 rfl (.tail _ (.tail _ (.tail _ (.tail _ (.head _))))) ?_
    refine sA_geti (ci := 4) (j := 1) (q := (RX4, TX4, 2)) dd_X4_runsAgainst_9 rfl (by decide) fl_X4_19 (Nat.lt_of_succ_lt ho.1) ho.2.1 rfl ?_
    refine sA_icmp_ge (tgt := 63) dd_X4_runsAgainst_12 (by decide) (by omega) (by omega) (fun q3 => ?_) (fun q3 => ?_)
    · skip
      refine sA_iconst (z := 1) dd_X4_runsAgainst_63 ?_
      refine sA_bret (z := 1) dd_X4_runsAgainst_64 rfl (by omega) ?_
      exact ⟨_, rfl, rfl, rfl, by omega⟩
    · skip
      refine sA_aload_n dd_X4_runsAgainst_15 rfl (.tail _ (.tail _ (.head _))) ?_
      refine sA_getr (ci := 4) (j := 0) (q := (RX4, TX4, 2)) dd_X4_runsAgainst_16 rfl (by decide) fl_X4_13 (Nat.lt_of_succ_lt hr.1) hr.2.1 rfl ?_
      refine sA_iload_n dd_X4_runsAgainst_19 rfl (.tail _ (.tail _ (.tail _ (.head _)))) ?_
      refine sA_iload dd_X4_runsAgainst_20 (.head _) ?_
      refine sA_iadd dd_X4_runsAgainst_22 ?_
      refine sA_iald (n := L) dd_X4_runsAgainst_23 hr.1 hr.2.2.1 (by omega) (Nat.le_trans hr.2.2.2.2.2.2 (by decide)) ?_
      have b4 := gs_row_el hr hI (p + k).toNat
      refine sA_aload_n dd_X4_runsAgainst_24 rfl (.tail _ (.tail _ (.tail _ (.tail _ (.head _))))) ?_
      refine sA_getr (ci := 4) (j := 0) (q := (RX4, TX4, 2)) dd_X4_runsAgainst_25 rfl (by decide) fl_X4_13 (Nat.lt_of_succ_lt ho.1) ho.2.1 rfl ?_
      refine sA_iload dd_X4_runsAgainst_28 (.tail _ (.head _)) ?_
      refine sA_iald (n := M) dd_X4_runsAgainst_30 ho.1 ho.2.2.1 (by omega) (Nat.le_trans ho.2.2.2.2.2.2 (by decide)) ?_
      have b5 := gs_row_el ho hI t.toNat
      refine sA_ineg dd_X4_runsAgainst_31 ?_
      refine sA_icmp_eq (tgt := 37) dd_X4_runsAgainst_32 (by decide) (by omega) (by omega) (fun q6 => ?_) (fun q6 => ?_)
      · skip
        refine sA_iload dd_X4_runsAgainst_37 (.tail _ (.head _)) ?_
        refine sA_if_ne (tgt := 51) dd_X4_runsAgainst_39 (by decide) (by omega) (fun q7 => ?_) (fun q7 => ?_)
        · skip
          refine sA_iload dd_X4_runsAgainst_51 (.tail _ (.head _)) ?_
          refine sA_iconst (z := 1) dd_X4_runsAgainst_53 ?_
          refine sA_isub dd_X4_runsAgainst_54 ?_
          refine sA_istore (lv' := [(4, gs_iv (t - 1)), (5, gs_iv k), (0, .ref a), (1, gs_iv p), (2, .ref b)]) dd_X4_runsAgainst_55 (by decide) rfl ?_
          refine sA_iinc (lv' := [(5, gs_iv (k + 1)), (4, gs_iv (t - 1)), (0, .ref a), (1, gs_iv p), (2, .ref b)]) dd_X4_runsAgainst_57 (.tail _ (.head _)) (by decide) rfl ?_
          refine sA_goto (tgt := 6) dd_X4_runsAgainst_60 (by decide) ?_
          refine sA_sub (lv2 := [(5, gs_iv (k + 1)), (4, gs_iv (t - 1)), (0, .ref a), (1, gs_iv p), (2, .ref b)]) (List.forall_mem_cons.mpr ⟨(.head _), (List.forall_mem_cons.mpr ⟨(.tail _ (.head _)), (List.forall_mem_cons.mpr ⟨(.tail _ (.tail _ (.head _))), (List.forall_mem_cons.mpr ⟨(.tail _ (.tail _ (.tail _ (.head _)))), (List.forall_mem_cons.mpr ⟨(.tail _ (.tail _ (.tail _ (.tail _ (.head _))))), (fun _ h => absurd h List.not_mem_nil)⟩)⟩)⟩)⟩)⟩) ?_
          exact ih (k + 1) (t - 1)  (by omega) (by omega) (by omega) (by omega) (by omega)
        · skip
          refine sA_aload_n dd_X4_runsAgainst_42 rfl (.tail _ (.tail _ (.tail _ (.tail _ (.head _))))) ?_
          refine sA_geti (ci := 4) (j := 1) (q := (RX4, TX4, 2)) dd_X4_runsAgainst_43 rfl (by decide) fl_X4_19 (Nat.lt_of_succ_lt ho.1) ho.2.1 rfl ?_
          refine sA_iconst (z := 1) dd_X4_runsAgainst_46 ?_
          refine sA_isub dd_X4_runsAgainst_47 ?_
          refine sA_goto (tgt := 55) dd_X4_runsAgainst_48 (by decide) ?_
          refine sA_istore (lv' := [(4, gs_iv ((F b 1) - 1)), (5, gs_iv k), (0, .ref a), (1, gs_iv p), (2, .ref b)]) dd_X4_runsAgainst_55 (by decide) rfl ?_
          refine sA_iinc (lv' := [(5, gs_iv (k + 1)), (4, gs_iv ((F b 1) - 1)), (0, .ref a), (1, gs_iv p), (2, .ref b)]) dd_X4_runsAgainst_57 (.tail _ (.head _)) (by decide) rfl ?_
          refine sA_goto (tgt := 6) dd_X4_runsAgainst_60 (by decide) ?_
          refine sA_sub (lv2 := [(5, gs_iv (k + 1)), (4, gs_iv ((F b 1) - 1)), (0, .ref a), (1, gs_iv p), (2, .ref b)]) (List.forall_mem_cons.mpr ⟨(.head _), (List.forall_mem_cons.mpr ⟨(.tail _ (.head _)), (List.forall_mem_cons.mpr ⟨(.tail _ (.tail _ (.head _))), (List.forall_mem_cons.mpr ⟨(.tail _ (.tail _ (.tail _ (.head _)))), (List.forall_mem_cons.mpr ⟨(.tail _ (.tail _ (.tail _ (.tail _ (.head _))))), (fun _ h => absurd h List.not_mem_nil)⟩)⟩)⟩)⟩)⟩) ?_
          exact ih (k + 1) ((F b 1) - 1)  (by omega) (by omega) (by omega) (by omega) (by omega)
      · skip
        refine sA_iconst (z := 0) dd_X4_runsAgainst_35 ?_
        refine sA_bret (z := 0) dd_X4_runsAgainst_36 rfl (by omega) ?_
        exact ⟨_, rfl, rfl, rfl, by omega⟩
theorem c_X4_runsAgainst {a L b M : Nat} {p q : Int} {F A : gs_F} (hI : gs_I F A) (hr : gs_row a L) (hp : 0 ≤ p ∧ p + F b 1 ≤ F a 1) (ho : gs_row b M) (hq : 0 ≤ q ∧ q < F b 1) : sC m_X4_runsAgainst 1 [.ref a, gs_iv p, .ref b, gs_iv q] F A (fun rv F' A' => ∃ z : Int, rv = some (gs_iv z) ∧ F = F' ∧ A = A' ∧ (z = 0 ∨ z = 1)) := by
  refine sC_of ok_X4_runsAgainst.1 (Nat.le_of_ble_eq_true rfl) ?_
  show sA _ _ _ 0 [(0, .ref a), (1, gs_iv p), (2, .ref b), (3, gs_iv q)] [] F A
  have b8 := gs_row_sz hr hI
  have b9 := gs_row_sz ho hI
  refine sA_iload_n dd_X4_runsAgainst_0 rfl (.tail _ (.tail _ (.tail _ (.head _)))) ?_
  refine sA_istore (lv' := [(4, gs_iv q), (0, .ref a), (1, gs_iv p), (2, .ref b), (3, gs_iv q)]) dd_X4_runsAgainst_1 (by decide) rfl ?_
  refine sA_iconst (z := 0) dd_X4_runsAgainst_3 ?_
  refine sA_istore (lv' := [(5, gs_iv 0), (4, gs_iv q), (0, .ref a), (1, gs_iv p), (2, .ref b), (3, gs_iv q)]) dd_X4_runsAgainst_4 (by decide) rfl ?_
  refine sA_sub (lv2 := [(5, gs_iv 0), (4, gs_iv q), (0, .ref a), (1, gs_iv p), (2, .ref b)]) (List.forall_mem_cons.mpr ⟨(.head _), (List.forall_mem_cons.mpr ⟨(.tail _ (.head _)), (List.forall_mem_cons.mpr ⟨(.tail _ (.tail _ (.head _))), (List.forall_mem_cons.mpr ⟨(.tail _ (.tail _ (.tail _ (.head _)))), (List.forall_mem_cons.mpr ⟨(.tail _ (.tail _ (.tail _ (.tail _ (.head _))))), (fun _ h => absurd h List.not_mem_nil)⟩)⟩)⟩)⟩)⟩) ?_
  exact (k_X4_runsAgainst hI hr hp ho hq (F b 1 - 0 : Int).toNat.succ) 0 q  (by omega) (by omega) (by omega) (by omega) (by omega)
theorem dd_X4_isOneWith_0 : decode cX4_isOneWith 0 = .ok (.aload_n 0, 1) := by decide +kernel
theorem dd_X4_isOneWith_1 : decode cX4_isOneWith 1 = .ok (.invokevirtual 32, 3) := by decide +kernel
theorem dd_X4_isOneWith_4 : decode cX4_isOneWith 4 = .ok (.istore_n 2, 1) := by decide +kernel
theorem dd_X4_isOneWith_5 : decode cX4_isOneWith 5 = .ok (.aload_n 0, 1) := by decide +kernel
theorem dd_X4_isOneWith_6 : decode cX4_isOneWith 6 = .ok (.getfield 19, 3) := by decide +kernel
theorem dd_X4_isOneWith_9 : decode cX4_isOneWith 9 = .ok (.iconst 2, 1) := by decide +kernel
theorem dd_X4_isOneWith_10 : decode cX4_isOneWith 10 = .ok (.iload_n 2, 1) := by decide +kernel
theorem dd_X4_isOneWith_11 : decode cX4_isOneWith 11 = .ok (.imul, 1) := by decide +kernel
theorem dd_X4_isOneWith_12 : decode cX4_isOneWith 12 = .ok (.isub, 1) := by decide +kernel
theorem dd_X4_isOneWith_13 : decode cX4_isOneWith 13 = .ok (.aload_n 1, 1) := by decide +kernel
theorem dd_X4_isOneWith_14 : decode cX4_isOneWith 14 = .ok (.getfield 19, 3) := by decide +kernel
theorem dd_X4_isOneWith_17 : decode cX4_isOneWith 17 = .ok (.if_icmp .eq 5, 3) := by decide +kernel
theorem dd_X4_isOneWith_20 : decode cX4_isOneWith 20 = .ok (.iconst 0, 1) := by decide +kernel
theorem dd_X4_isOneWith_21 : decode cX4_isOneWith 21 = .ok (.ireturn, 1) := by decide +kernel
theorem dd_X4_isOneWith_22 : decode cX4_isOneWith 22 = .ok (.iconst 0, 1) := by decide +kernel
theorem dd_X4_isOneWith_23 : decode cX4_isOneWith 23 = .ok (.istore_n 3, 1) := by decide +kernel
theorem dd_X4_isOneWith_24 : decode cX4_isOneWith 24 = .ok (.iload_n 3, 1) := by decide +kernel
theorem dd_X4_isOneWith_25 : decode cX4_isOneWith 25 = .ok (.aload_n 1, 1) := by decide +kernel
theorem dd_X4_isOneWith_26 : decode cX4_isOneWith 26 = .ok (.getfield 19, 3) := by decide +kernel
theorem dd_X4_isOneWith_29 : decode cX4_isOneWith 29 = .ok (.if_icmp .ge 31, 3) := by decide +kernel
theorem dd_X4_isOneWith_32 : decode cX4_isOneWith 32 = .ok (.aload_n 0, 1) := by decide +kernel
theorem dd_X4_isOneWith_33 : decode cX4_isOneWith 33 = .ok (.iload_n 2, 1) := by decide +kernel
theorem dd_X4_isOneWith_34 : decode cX4_isOneWith 34 = .ok (.aload_n 1, 1) := by decide +kernel
theorem dd_X4_isOneWith_35 : decode cX4_isOneWith 35 = .ok (.iload_n 3, 1) := by decide +kernel
theorem dd_X4_isOneWith_36 : decode cX4_isOneWith 36 = .ok (.invokevirtual 36, 3) := by decide +kernel
theorem dd_X4_isOneWith_39 : decode cX4_isOneWith 39 = .ok (.ifCond .ne 13, 3) := by decide +kernel
theorem dd_X4_isOneWith_42 : decode cX4_isOneWith 42 = .ok (.aload_n 0, 1) := by decide +kernel
theorem dd_X4_isOneWith_43 : decode cX4_isOneWith 43 = .ok (.iload_n 2, 1) := by decide +kernel
theorem dd_X4_isOneWith_44 : decode cX4_isOneWith 44 = .ok (.aload_n 1, 1) := by decide +kernel
theorem dd_X4_isOneWith_45 : decode cX4_isOneWith 45 = .ok (.iload_n 3, 1) := by decide +kernel
theorem dd_X4_isOneWith_46 : decode cX4_isOneWith 46 = .ok (.invokevirtual 40, 3) := by decide +kernel
theorem dd_X4_isOneWith_49 : decode cX4_isOneWith 49 = .ok (.ifCond .eq 5, 3) := by decide +kernel
theorem dd_X4_isOneWith_52 : decode cX4_isOneWith 52 = .ok (.iconst 1, 1) := by decide +kernel
theorem dd_X4_isOneWith_53 : decode cX4_isOneWith 53 = .ok (.ireturn, 1) := by decide +kernel
theorem dd_X4_isOneWith_54 : decode cX4_isOneWith 54 = .ok (.iinc 3 1, 3) := by decide +kernel
theorem dd_X4_isOneWith_57 : decode cX4_isOneWith 57 = .ok (.goto (-33), 3) := by decide +kernel
theorem dd_X4_isOneWith_60 : decode cX4_isOneWith 60 = .ok (.iconst 0, 1) := by decide +kernel
theorem dd_X4_isOneWith_61 : decode cX4_isOneWith 61 = .ok (.ireturn, 1) := by decide +kernel
theorem ml_X4_36 : Cond.methodLink RX4 36 m_X4_runsAlong.1 ∈ am_tbl := ri_lw_in (pl := 483) (by decide +kernel)
theorem ml_X4_40 : Cond.methodLink RX4 40 m_X4_runsAgainst.1 ∈ am_tbl := ri_lw_in (pl := 487) (by decide +kernel)
theorem ok_X4_isOneWith : am_okM m_X4_isOneWith 1 ∧ Cond.instanceMethod m_X4_isOneWith.1 ∈ am_tbl ∧ Cond.selects m_X4_isOneWith.1.cls m_X4_isOneWith.1 m_X4_isOneWith.1 ∈ am_tbl := ri_mk1 482 83 480 481 (by decide +kernel)
theorem k_X4_isOneWith {a L b M : Nat} {F A : gs_F} (hI : gs_I F A) (hr : gs_row a L) (ho : gs_row b M) : ∀ nN : Nat, (∀ (p : Int) (k : Int),  0 ≤ p → F a 1 - 2 * p = F b 1 → 0 ≤ k → k ≤ F b 1 → F b 1 - k < (nN : Int) → sA m_X4_isOneWith 2 (fun rv F' A' => ∃ z : Int, rv = some (gs_iv z) ∧ F = F' ∧ A = A' ∧ (z = 0 ∨ z = 1)) 24 [(3, gs_iv k), (2, gs_iv p), (0, .ref a), (1, .ref b)] [] F A) := by
  intro nN
  induction nN with
  | zero =>
    exact fun a0 a1 i0 i1 i2 i3 hm => by exfalso; omega
  | succ nN ih =>
    intro p k i0 i1 i2 i3 hm
    have b1 := gs_row_sz hr hI
    have b2 := gs_row_sz ho hI
    refine sA_iload_n dd_X4_isOneWith_24 rfl (.head _) ?_
    refine sA_aload_n dd_X4_isOneWith_25 rfl (.tail _ (.tail _ (.tail _ (.head _)))) ?_
    refine sA_geti (ci := 4) (j := 1) (q := (RX4, TX4, 2)) dd_X4_isOneWith_26 rfl (by decide) fl_X4_19 (Nat.lt_of_succ_lt ho.1) ho.2.1 rfl ?_
    refine sA_icmp_ge (tgt := 60) dd_X4_isOneWith_29 (by decide) (by omega) (by omega) (fun q3 => ?_) (fun q3 => ?_)
    · skip
      refine sA_iconst (z := 0) dd_X4_isOneWith_60 ?_
      refine sA_bret (z := 0) dd_X4_isOneWith_61 rfl (by omega) ?_
      exact ⟨_, rfl, rfl, rfl, by omega⟩
    · skip
      refine sA_aload_n dd_X4_isOneWith_32 rfl (.tail _ (.tail _ (.head _))) ?_
      refine sA_iload_n dd_X4_isOneWith_33 rfl (.tail _ (.head _)) ?_
      refine sA_aload_n dd_X4_isOneWith_34 rfl (.tail _ (.tail _ (.tail _ (.head _)))) ?_
      refine sA_iload_n dd_X4_isOneWith_35 rfl (.head _) ?_
      refine sA_callV (y2 := m_X4_runsAlong) (n2 := 3) (d2 := 1) (a := a) (ci := 4) (q := (RX4, TX4, 2)) (as := [gs_iv p, .ref b, gs_iv k]) (rest := []) dd_X4_isOneWith_36 ok_X4_runsAlong ml_X4_36 rfl rfl (Nat.lt_of_succ_lt hr.1) hr.2.1 rfl rfl (Nat.le_of_ble_eq_true rfl) (by decide) (c_X4_runsAlong hI hr (by omega) ho (by omega)) (fun r4 F5 A6 h7 => ?_)
      obtain ⟨z10, e9, e11, e12, x8⟩ := h7
      subst e9 e11 e12
      show sA _ _ _ 39 _ [gs_iv z10] _ _
      refine sA_if_ne (tgt := 52) dd_X4_isOneWith_39 (by decide) (by omega) (fun q13 => ?_) (fun q13 => ?_)
      · skip
        refine sA_iconst (z := 1) dd_X4_isOneWith_52 ?_
        refine sA_bret (z := 1) dd_X4_isOneWith_53 rfl (by omega) ?_
        exact ⟨_, rfl, rfl, rfl, by omega⟩
      · skip
        refine sA_aload_n dd_X4_isOneWith_42 rfl (.tail _ (.tail _ (.head _))) ?_
        refine sA_iload_n dd_X4_isOneWith_43 rfl (.tail _ (.head _)) ?_
        refine sA_aload_n dd_X4_isOneWith_44 rfl (.tail _ (.tail _ (.tail _ (.head _)))) ?_
        refine sA_iload_n dd_X4_isOneWith_45 rfl (.head _) ?_
        refine sA_callV (y2 := m_X4_runsAgainst) (n2 := 3) (d2 := 1) (a := a) (ci := 4) (q := (RX4, TX4, 2)) (as := [gs_iv p, .ref b, gs_iv k]) (rest := []) dd_X4_isOneWith_46 ok_X4_runsAgainst ml_X4_40 rfl rfl (Nat.lt_of_succ_lt hr.1) hr.2.1 rfl rfl (Nat.le_of_ble_eq_true rfl) (by decide) (c_X4_runsAgainst hI hr (by omega) ho (by omega)) (fun r14 F15 A16 h17 => ?_)
        obtain ⟨z20, e19, e21, e22, x18⟩ := h17
        subst e19 e21 e22
        show sA _ _ _ 49 _ [gs_iv z20] _ _
        refine sA_if_eq (tgt := 54) dd_X4_isOneWith_49 (by decide) (by omega) (fun q23 => ?_) (fun q23 => ?_)
        · skip
          refine sA_iinc (lv' := [(3, gs_iv (k + 1)), (2, gs_iv p), (0, .ref a), (1, .ref b)]) dd_X4_isOneWith_54 (.head _) (by decide) rfl ?_
          refine sA_goto (tgt := 24) dd_X4_isOneWith_57 (by decide) ?_
          refine sA_sub (lv2 := [(3, gs_iv (k + 1)), (2, gs_iv p), (0, .ref a), (1, .ref b)]) (List.forall_mem_cons.mpr ⟨(.head _), (List.forall_mem_cons.mpr ⟨(.tail _ (.head _)), (List.forall_mem_cons.mpr ⟨(.tail _ (.tail _ (.head _))), (List.forall_mem_cons.mpr ⟨(.tail _ (.tail _ (.tail _ (.head _)))), (fun _ h => absurd h List.not_mem_nil)⟩)⟩)⟩)⟩) ?_
          exact ih p (k + 1)  (by omega) (by omega) (by omega) (by omega) (by omega)
        · skip
          refine sA_iconst (z := 1) dd_X4_isOneWith_52 ?_
          refine sA_bret (z := 1) dd_X4_isOneWith_53 rfl (by omega) ?_
          exact ⟨_, rfl, rfl, rfl, by omega⟩
theorem c_X4_isOneWith {a L b M : Nat} {F A : gs_F} (hI : gs_I F A) (hr : gs_row a L) (ho : gs_row b M) : sC m_X4_isOneWith 2 [.ref a, .ref b] F A (fun rv F' A' => ∃ z : Int, rv = some (gs_iv z) ∧ F = F' ∧ A = A' ∧ (z = 0 ∨ z = 1)) := by
  refine sC_of ok_X4_isOneWith.1 (Nat.le_of_ble_eq_true rfl) ?_
  show sA _ _ _ 0 [(0, .ref a), (1, .ref b)] [] F A
  have b24 := gs_row_sz hr hI
  have b25 := gs_row_sz ho hI
  refine sA_aload_n dd_X4_isOneWith_0 rfl (.head _) ?_
  refine sA_callV (y2 := m_X4_looseEnds) (n2 := 0) (d2 := 1) (a := a) (ci := 4) (q := (RX4, TX4, 2)) (as := []) (rest := []) dd_X4_isOneWith_1 ok_X4_looseEnds ml_X4_32 rfl rfl (Nat.lt_of_succ_lt hr.1) hr.2.1 rfl rfl (Nat.le_of_ble_eq_true rfl) (by decide) (c_X4_looseEnds hI hr) (fun r26 F27 A28 h29 => ?_)
  obtain ⟨z32, e31, e33, e34, x30⟩ := h29
  subst e31 e33 e34
  show sA _ _ _ 4 _ [gs_iv z32] _ _
  refine sA_istore_n (lv' := [(2, gs_iv z32), (0, .ref a), (1, .ref b)]) dd_X4_isOneWith_4 rfl (by decide) rfl ?_
  refine sA_aload_n dd_X4_isOneWith_5 rfl (.tail _ (.head _)) ?_
  refine sA_geti (ci := 4) (j := 1) (q := (RX4, TX4, 2)) dd_X4_isOneWith_6 rfl (by decide) fl_X4_19 (Nat.lt_of_succ_lt hr.1) hr.2.1 rfl ?_
  refine sA_iconst (z := 2) dd_X4_isOneWith_9 ?_
  refine sA_iload_n dd_X4_isOneWith_10 rfl (.head _) ?_
  refine sA_imul dd_X4_isOneWith_11 ?_
  refine sA_isub dd_X4_isOneWith_12 ?_
  refine sA_aload_n dd_X4_isOneWith_13 rfl (.tail _ (.tail _ (.head _))) ?_
  refine sA_geti (ci := 4) (j := 1) (q := (RX4, TX4, 2)) dd_X4_isOneWith_14 rfl (by decide) fl_X4_19 (Nat.lt_of_succ_lt ho.1) ho.2.1 rfl ?_
  refine sA_icmp_eq (tgt := 22) dd_X4_isOneWith_17 (by decide) (by omega) (by omega) (fun q35 => ?_) (fun q35 => ?_)
  · skip
    refine sA_iconst (z := 0) dd_X4_isOneWith_22 ?_
    refine sA_istore_n (lv' := [(3, gs_iv 0), (2, gs_iv z32), (0, .ref a), (1, .ref b)]) dd_X4_isOneWith_23 rfl (by decide) rfl ?_
    refine sA_sub (lv2 := [(3, gs_iv 0), (2, gs_iv z32), (0, .ref a), (1, .ref b)]) (List.forall_mem_cons.mpr ⟨(.head _), (List.forall_mem_cons.mpr ⟨(.tail _ (.head _)), (List.forall_mem_cons.mpr ⟨(.tail _ (.tail _ (.head _))), (List.forall_mem_cons.mpr ⟨(.tail _ (.tail _ (.tail _ (.head _)))), (fun _ h => absurd h List.not_mem_nil)⟩)⟩)⟩)⟩) ?_
    exact (k_X4_isOneWith hI hr ho (F b 1 - 0 : Int).toNat.succ) z32 0  (by omega) (by omega) (by omega) (by omega) (by omega)
  · skip
    refine sA_iconst (z := 0) dd_X4_isOneWith_20 ?_
    refine sA_bret (z := 0) dd_X4_isOneWith_21 rfl (by omega) ?_
    exact ⟨_, rfl, rfl, rfl, by omega⟩
theorem dd_X4_repeats_0 : decode cX4_repeats 0 = .ok (.iload_n 1, 1) := by decide +kernel
theorem dd_X4_repeats_1 : decode cX4_repeats 1 = .ok (.istore_n 2, 1) := by decide +kernel
theorem dd_X4_repeats_2 : decode cX4_repeats 2 = .ok (.iload_n 2, 1) := by decide +kernel
theorem dd_X4_repeats_3 : decode cX4_repeats 3 = .ok (.aload_n 0, 1) := by decide +kernel
theorem dd_X4_repeats_4 : decode cX4_repeats 4 = .ok (.getfield 19, 3) := by decide +kernel
theorem dd_X4_repeats_7 : decode cX4_repeats 7 = .ok (.if_icmp .ge 28, 3) := by decide +kernel
theorem dd_X4_repeats_10 : decode cX4_repeats 10 = .ok (.aload_n 0, 1) := by decide +kernel
theorem dd_X4_repeats_11 : decode cX4_repeats 11 = .ok (.getfield 13, 3) := by decide +kernel
theorem dd_X4_repeats_14 : decode cX4_repeats 14 = .ok (.iload_n 2, 1) := by decide +kernel
theorem dd_X4_repeats_15 : decode cX4_repeats 15 = .ok (.iaload, 1) := by decide +kernel
theorem dd_X4_repeats_16 : decode cX4_repeats 16 = .ok (.aload_n 0, 1) := by decide +kernel
theorem dd_X4_repeats_17 : decode cX4_repeats 17 = .ok (.getfield 13, 3) := by decide +kernel
theorem dd_X4_repeats_20 : decode cX4_repeats 20 = .ok (.iload_n 2, 1) := by decide +kernel
theorem dd_X4_repeats_21 : decode cX4_repeats 21 = .ok (.iload_n 1, 1) := by decide +kernel
theorem dd_X4_repeats_22 : decode cX4_repeats 22 = .ok (.isub, 1) := by decide +kernel
theorem dd_X4_repeats_23 : decode cX4_repeats 23 = .ok (.iaload, 1) := by decide +kernel
theorem dd_X4_repeats_24 : decode cX4_repeats 24 = .ok (.if_icmp .eq 5, 3) := by decide +kernel
theorem dd_X4_repeats_27 : decode cX4_repeats 27 = .ok (.iconst 0, 1) := by decide +kernel
theorem dd_X4_repeats_28 : decode cX4_repeats 28 = .ok (.ireturn, 1) := by decide +kernel
theorem dd_X4_repeats_29 : decode cX4_repeats 29 = .ok (.iinc 2 1, 3) := by decide +kernel
theorem dd_X4_repeats_32 : decode cX4_repeats 32 = .ok (.goto (-30), 3) := by decide +kernel
theorem dd_X4_repeats_35 : decode cX4_repeats 35 = .ok (.iconst 1, 1) := by decide +kernel
theorem dd_X4_repeats_36 : decode cX4_repeats 36 = .ok (.ireturn, 1) := by decide +kernel
theorem ok_X4_repeats : am_okM m_X4_repeats 1 ∧ Cond.instanceMethod m_X4_repeats.1 ∈ am_tbl ∧ Cond.selects m_X4_repeats.1.cls m_X4_repeats.1 m_X4_repeats.1 ∈ am_tbl := ri_mk1 428 83 427 8 (by decide +kernel)
theorem k_X4_repeats {a L : Nat} {p : Int} {F A : gs_F} (hI : gs_I F A) (hr : gs_row a L) (hp : 1 ≤ p ∧ p ≤ F a 1) : ∀ nN : Nat, (∀ (k : Int),  p ≤ k → k ≤ F a 1 → F a 1 - k < (nN : Int) → sA m_X4_repeats 1 (fun rv F' A' => ∃ z : Int, rv = some (gs_iv z) ∧ F = F' ∧ A = A' ∧ (z = 0 ∨ z = 1)) 2 [(2, gs_iv k), (0, .ref a), (1, gs_iv p)] [] F A) := by
  intro nN
  induction nN with
  | zero =>
    exact fun a0 i0 i1 hm => by exfalso; omega
  | succ nN ih =>
    intro k i0 i1 hm
    have b1 := gs_row_sz hr hI
    refine sA_iload_n dd_X4_repeats_2 rfl (.head _) ?_
    refine sA_aload_n dd_X4_repeats_3 rfl (.tail _ (.head _)) ?_
    refine sA_geti (ci := 4) (j := 1) (q := (RX4, TX4, 2)) dd_X4_repeats_4 rfl (by decide) fl_X4_19 (Nat.lt_of_succ_lt hr.1) hr.2.1 rfl ?_
    refine sA_icmp_ge (tgt := 35) dd_X4_repeats_7 (by decide) (by omega) (by omega) (fun q2 => ?_) (fun q2 => ?_)
    · skip
      refine sA_iconst (z := 1) dd_X4_repeats_35 ?_
      refine sA_bret (z := 1) dd_X4_repeats_36 rfl (by omega) ?_
      exact ⟨_, rfl, rfl, rfl, by omega⟩
    · skip
      refine sA_aload_n dd_X4_repeats_10 rfl (.tail _ (.head _)) ?_
      refine sA_getr (ci := 4) (j := 0) (q := (RX4, TX4, 2)) dd_X4_repeats_11 rfl (by decide) fl_X4_13 (Nat.lt_of_succ_lt hr.1) hr.2.1 rfl ?_
      refine sA_iload_n dd_X4_repeats_14 rfl (.head _) ?_
      refine sA_iald (n := L) dd_X4_repeats_15 hr.1 hr.2.2.1 (by omega) (Nat.le_trans hr.2.2.2.2.2.2 (by decide)) ?_
      have b3 := gs_row_el hr hI k.toNat
      refine sA_aload_n dd_X4_repeats_16 rfl (.tail _ (.head _)) ?_
      refine sA_getr (ci := 4) (j := 0) (q := (RX4, TX4, 2)) dd_X4_repeats_17 rfl (by decide) fl_X4_13 (Nat.lt_of_succ_lt hr.1) hr.2.1 rfl ?_
      refine sA_iload_n dd_X4_repeats_20 rfl (.head _) ?_
      refine sA_iload_n dd_X4_repeats_21 rfl (.tail _ (.tail _ (.head _))) ?_
      refine sA_isub dd_X4_repeats_22 ?_
      refine sA_iald (n := L) dd_X4_repeats_23 hr.1 hr.2.2.1 (by omega) (Nat.le_trans hr.2.2.2.2.2.2 (by decide)) ?_
      have b4 := gs_row_el hr hI (k - p).toNat
      refine sA_icmp_eq (tgt := 29) dd_X4_repeats_24 (by decide) (by omega) (by omega) (fun q5 => ?_) (fun q5 => ?_)
      · skip
        refine sA_iinc (lv' := [(2, gs_iv (k + 1)), (0, .ref a), (1, gs_iv p)]) dd_X4_repeats_29 (.head _) (by decide) rfl ?_
        refine sA_goto (tgt := 2) dd_X4_repeats_32 (by decide) ?_
        refine sA_sub (lv2 := [(2, gs_iv (k + 1)), (0, .ref a), (1, gs_iv p)]) (List.forall_mem_cons.mpr ⟨(.head _), (List.forall_mem_cons.mpr ⟨(.tail _ (.head _)), (List.forall_mem_cons.mpr ⟨(.tail _ (.tail _ (.head _))), (fun _ h => absurd h List.not_mem_nil)⟩)⟩)⟩) ?_
        exact ih (k + 1)  (by omega) (by omega) (by omega)
      · skip
        refine sA_iconst (z := 0) dd_X4_repeats_27 ?_
        refine sA_bret (z := 0) dd_X4_repeats_28 rfl (by omega) ?_
        exact ⟨_, rfl, rfl, rfl, by omega⟩
theorem c_X4_repeats {a L : Nat} {p : Int} {F A : gs_F} (hI : gs_I F A) (hr : gs_row a L) (hp : 1 ≤ p ∧ p ≤ F a 1) : sC m_X4_repeats 1 [.ref a, gs_iv p] F A (fun rv F' A' => ∃ z : Int, rv = some (gs_iv z) ∧ F = F' ∧ A = A' ∧ (z = 0 ∨ z = 1)) := by
  refine sC_of ok_X4_repeats.1 (Nat.le_of_ble_eq_true rfl) ?_
  show sA _ _ _ 0 [(0, .ref a), (1, gs_iv p)] [] F A
  have b6 := gs_row_sz hr hI
  refine sA_iload_n dd_X4_repeats_0 rfl (.tail _ (.head _)) ?_
  refine sA_istore_n (lv' := [(2, gs_iv p), (0, .ref a), (1, gs_iv p)]) dd_X4_repeats_1 rfl (by decide) rfl ?_
  refine sA_sub (lv2 := [(2, gs_iv p), (0, .ref a), (1, gs_iv p)]) (List.forall_mem_cons.mpr ⟨(.head _), (List.forall_mem_cons.mpr ⟨(.tail _ (.head _)), (List.forall_mem_cons.mpr ⟨(.tail _ (.tail _ (.head _))), (fun _ h => absurd h List.not_mem_nil)⟩)⟩)⟩) ?_
  exact (k_X4_repeats hI hr hp (F a 1 - p : Int).toNat.succ) p  (by omega) (by omega) (by omega)
theorem dd_X4_isPower_0 : decode cX4_isPower 0 = .ok (.iconst 1, 1) := by decide +kernel
theorem dd_X4_isPower_1 : decode cX4_isPower 1 = .ok (.istore_n 1, 1) := by decide +kernel
theorem dd_X4_isPower_2 : decode cX4_isPower 2 = .ok (.iload_n 1, 1) := by decide +kernel
theorem dd_X4_isPower_3 : decode cX4_isPower 3 = .ok (.aload_n 0, 1) := by decide +kernel
theorem dd_X4_isPower_4 : decode cX4_isPower 4 = .ok (.getfield 19, 3) := by decide +kernel
theorem dd_X4_isPower_7 : decode cX4_isPower 7 = .ok (.iconst 2, 1) := by decide +kernel
theorem dd_X4_isPower_8 : decode cX4_isPower 8 = .ok (.idiv, 1) := by decide +kernel
theorem dd_X4_isPower_9 : decode cX4_isPower 9 = .ok (.if_icmp .gt 28, 3) := by decide +kernel
theorem dd_X4_isPower_12 : decode cX4_isPower 12 = .ok (.aload_n 0, 1) := by decide +kernel
theorem dd_X4_isPower_13 : decode cX4_isPower 13 = .ok (.getfield 19, 3) := by decide +kernel
theorem dd_X4_isPower_16 : decode cX4_isPower 16 = .ok (.iload_n 1, 1) := by decide +kernel
theorem dd_X4_isPower_17 : decode cX4_isPower 17 = .ok (.irem, 1) := by decide +kernel
theorem dd_X4_isPower_18 : decode cX4_isPower 18 = .ok (.ifCond .ne 13, 3) := by decide +kernel
theorem dd_X4_isPower_21 : decode cX4_isPower 21 = .ok (.aload_n 0, 1) := by decide +kernel
theorem dd_X4_isPower_22 : decode cX4_isPower 22 = .ok (.iload_n 1, 1) := by decide +kernel
theorem dd_X4_isPower_23 : decode cX4_isPower 23 = .ok (.invokevirtual 43, 3) := by decide +kernel
theorem dd_X4_isPower_26 : decode cX4_isPower 26 = .ok (.ifCond .eq 5, 3) := by decide +kernel
theorem dd_X4_isPower_29 : decode cX4_isPower 29 = .ok (.iconst 1, 1) := by decide +kernel
theorem dd_X4_isPower_30 : decode cX4_isPower 30 = .ok (.ireturn, 1) := by decide +kernel
theorem dd_X4_isPower_31 : decode cX4_isPower 31 = .ok (.iinc 1 1, 3) := by decide +kernel
theorem dd_X4_isPower_34 : decode cX4_isPower 34 = .ok (.goto (-32), 3) := by decide +kernel
theorem dd_X4_isPower_37 : decode cX4_isPower 37 = .ok (.iconst 0, 1) := by decide +kernel
theorem dd_X4_isPower_38 : decode cX4_isPower 38 = .ok (.ireturn, 1) := by decide +kernel
theorem ml_X4_43 : Cond.methodLink RX4 43 m_X4_repeats.1 ∈ am_tbl := ri_lw_in (pl := 425) (by decide +kernel)
theorem ok_X4_isPower : am_okM m_X4_isPower 0 ∧ Cond.instanceMethod m_X4_isPower.1 ∈ am_tbl ∧ Cond.selects m_X4_isPower.1.cls m_X4_isPower.1 m_X4_isPower.1 ∈ am_tbl := ri_mk1 424 83 422 423 (by decide +kernel)
theorem k_X4_isPower {a L : Nat} {F A : gs_F} (hI : gs_I F A) (hr : gs_row a L) : ∀ nN : Nat, (∀ (k : Int),  1 ≤ k → k ≤ F a 1 + 1 → F a 1 + 1 - k < (nN : Int) → sA m_X4_isPower 2 (fun rv F' A' => ∃ z : Int, rv = some (gs_iv z) ∧ F = F' ∧ A = A' ∧ (z = 0 ∨ z = 1)) 2 [(1, gs_iv k), (0, .ref a)] [] F A) := by
  intro nN
  induction nN with
  | zero =>
    exact fun a0 i0 i1 hm => by exfalso; omega
  | succ nN ih =>
    intro k i0 i1 hm
    have b1 := gs_row_sz hr hI
    refine sA_iload_n dd_X4_isPower_2 rfl (.head _) ?_
    refine sA_aload_n dd_X4_isPower_3 rfl (.tail _ (.head _)) ?_
    refine sA_geti (ci := 4) (j := 1) (q := (RX4, TX4, 2)) dd_X4_isPower_4 rfl (by decide) fl_X4_19 (Nat.lt_of_succ_lt hr.1) hr.2.1 rfl ?_
    refine sA_iconst (z := 2) dd_X4_isPower_7 ?_
    refine sA_idivN dd_X4_isPower_8 (by omega) (by omega) (by omega) ?_
    refine sA_icmp_gt (tgt := 37) dd_X4_isPower_9 (by decide) (by omega) (by omega) (fun q2 => ?_) (fun q2 => ?_)
    · skip
      refine sA_iconst (z := 0) dd_X4_isPower_37 ?_
      refine sA_bret (z := 0) dd_X4_isPower_38 rfl (by omega) ?_
      exact ⟨_, rfl, rfl, rfl, by omega⟩
    · skip
      refine sA_aload_n dd_X4_isPower_12 rfl (.tail _ (.head _)) ?_
      refine sA_geti (ci := 4) (j := 1) (q := (RX4, TX4, 2)) dd_X4_isPower_13 rfl (by decide) fl_X4_19 (Nat.lt_of_succ_lt hr.1) hr.2.1 rfl ?_
      refine sA_iload_n dd_X4_isPower_16 rfl (.head _) ?_
      refine sA_iremN dd_X4_isPower_17 (by omega) (by omega) (by omega) ?_
      refine sA_wrap ?_
      have b4 := gs_w_rng ((F a 1) % k)
      generalize gs_w ((F a 1) % k) = w3 at b4 ⊢
      refine sA_if_ne (tgt := 31) dd_X4_isPower_18 (by decide) (by omega) (fun q5 => ?_) (fun q5 => ?_)
      · skip
        refine sA_iinc (lv' := [(1, gs_iv (k + 1)), (0, .ref a)]) dd_X4_isPower_31 (.head _) (by decide) rfl ?_
        refine sA_goto (tgt := 2) dd_X4_isPower_34 (by decide) ?_
        refine sA_sub (lv2 := [(1, gs_iv (k + 1)), (0, .ref a)]) (List.forall_mem_cons.mpr ⟨(.head _), (List.forall_mem_cons.mpr ⟨(.tail _ (.head _)), (fun _ h => absurd h List.not_mem_nil)⟩)⟩) ?_
        exact ih (k + 1)  (by omega) (by omega) (by omega)
      · skip
        refine sA_aload_n dd_X4_isPower_21 rfl (.tail _ (.head _)) ?_
        refine sA_iload_n dd_X4_isPower_22 rfl (.head _) ?_
        refine sA_callV (y2 := m_X4_repeats) (n2 := 1) (d2 := 1) (a := a) (ci := 4) (q := (RX4, TX4, 2)) (as := [gs_iv k]) (rest := []) dd_X4_isPower_23 ok_X4_repeats ml_X4_43 rfl rfl (Nat.lt_of_succ_lt hr.1) hr.2.1 rfl rfl (Nat.le_of_ble_eq_true rfl) (by decide) (c_X4_repeats hI hr (by omega)) (fun r6 F7 A8 h9 => ?_)
        obtain ⟨z12, e11, e13, e14, x10⟩ := h9
        subst e11 e13 e14
        show sA _ _ _ 26 _ [gs_iv z12] _ _
        refine sA_if_eq (tgt := 31) dd_X4_isPower_26 (by decide) (by omega) (fun q15 => ?_) (fun q15 => ?_)
        · skip
          refine sA_iinc (lv' := [(1, gs_iv (k + 1)), (0, .ref a)]) dd_X4_isPower_31 (.head _) (by decide) rfl ?_
          refine sA_goto (tgt := 2) dd_X4_isPower_34 (by decide) ?_
          refine sA_sub (lv2 := [(1, gs_iv (k + 1)), (0, .ref a)]) (List.forall_mem_cons.mpr ⟨(.head _), (List.forall_mem_cons.mpr ⟨(.tail _ (.head _)), (fun _ h => absurd h List.not_mem_nil)⟩)⟩) ?_
          exact ih (k + 1)  (by omega) (by omega) (by omega)
        · skip
          refine sA_iconst (z := 1) dd_X4_isPower_29 ?_
          refine sA_bret (z := 1) dd_X4_isPower_30 rfl (by omega) ?_
          exact ⟨_, rfl, rfl, rfl, by omega⟩
theorem c_X4_isPower {a L : Nat} {F A : gs_F} (hI : gs_I F A) (hr : gs_row a L) : sC m_X4_isPower 2 [.ref a] F A (fun rv F' A' => ∃ z : Int, rv = some (gs_iv z) ∧ F = F' ∧ A = A' ∧ (z = 0 ∨ z = 1)) := by
  refine sC_of ok_X4_isPower.1 (Nat.le_of_ble_eq_true rfl) ?_
  show sA _ _ _ 0 [(0, .ref a)] [] F A
  have b16 := gs_row_sz hr hI
  refine sA_iconst (z := 1) dd_X4_isPower_0 ?_
  refine sA_istore_n (lv' := [(1, gs_iv 1), (0, .ref a)]) dd_X4_isPower_1 rfl (by decide) rfl ?_
  refine sA_sub (lv2 := [(1, gs_iv 1), (0, .ref a)]) (List.forall_mem_cons.mpr ⟨(.head _), (List.forall_mem_cons.mpr ⟨(.tail _ (.head _)), (fun _ h => absurd h List.not_mem_nil)⟩)⟩) ?_
  exact (k_X4_isPower hI hr (F a 1 + 1 - 1 : Int).toNat.succ) 1  (by omega) (by omega) (by omega)
theorem dd_X4_balanceOf_0 : decode cX4_balanceOf 0 = .ok (.iconst 0, 1) := by decide +kernel
theorem dd_X4_balanceOf_1 : decode cX4_balanceOf 1 = .ok (.istore_n 2, 1) := by decide +kernel
theorem dd_X4_balanceOf_2 : decode cX4_balanceOf 2 = .ok (.iconst 0, 1) := by decide +kernel
theorem dd_X4_balanceOf_3 : decode cX4_balanceOf 3 = .ok (.istore_n 3, 1) := by decide +kernel
theorem dd_X4_balanceOf_4 : decode cX4_balanceOf 4 = .ok (.iload_n 3, 1) := by decide +kernel
theorem dd_X4_balanceOf_5 : decode cX4_balanceOf 5 = .ok (.aload_n 0, 1) := by decide +kernel
theorem dd_X4_balanceOf_6 : decode cX4_balanceOf 6 = .ok (.getfield 19, 3) := by decide +kernel
theorem dd_X4_balanceOf_9 : decode cX4_balanceOf 9 = .ok (.if_icmp .ge 39, 3) := by decide +kernel
theorem dd_X4_balanceOf_12 : decode cX4_balanceOf 12 = .ok (.aload_n 0, 1) := by decide +kernel
theorem dd_X4_balanceOf_13 : decode cX4_balanceOf 13 = .ok (.getfield 13, 3) := by decide +kernel
theorem dd_X4_balanceOf_16 : decode cX4_balanceOf 16 = .ok (.iload_n 3, 1) := by decide +kernel
theorem dd_X4_balanceOf_17 : decode cX4_balanceOf 17 = .ok (.iaload, 1) := by decide +kernel
theorem dd_X4_balanceOf_18 : decode cX4_balanceOf 18 = .ok (.iload_n 1, 1) := by decide +kernel
theorem dd_X4_balanceOf_19 : decode cX4_balanceOf 19 = .ok (.if_icmp .ne 9, 3) := by decide +kernel
theorem dd_X4_balanceOf_22 : decode cX4_balanceOf 22 = .ok (.iinc 2 1, 3) := by decide +kernel
theorem dd_X4_balanceOf_25 : decode cX4_balanceOf 25 = .ok (.goto 17, 3) := by decide +kernel
theorem dd_X4_balanceOf_28 : decode cX4_balanceOf 28 = .ok (.aload_n 0, 1) := by decide +kernel
theorem dd_X4_balanceOf_29 : decode cX4_balanceOf 29 = .ok (.getfield 13, 3) := by decide +kernel
theorem dd_X4_balanceOf_32 : decode cX4_balanceOf 32 = .ok (.iload_n 3, 1) := by decide +kernel
theorem dd_X4_balanceOf_33 : decode cX4_balanceOf 33 = .ok (.iaload, 1) := by decide +kernel
theorem dd_X4_balanceOf_34 : decode cX4_balanceOf 34 = .ok (.iload_n 1, 1) := by decide +kernel
theorem dd_X4_balanceOf_35 : decode cX4_balanceOf 35 = .ok (.ineg, 1) := by decide +kernel
theorem dd_X4_balanceOf_36 : decode cX4_balanceOf 36 = .ok (.if_icmp .ne 6, 3) := by decide +kernel
theorem dd_X4_balanceOf_39 : decode cX4_balanceOf 39 = .ok (.iinc 2 (-1), 3) := by decide +kernel
theorem dd_X4_balanceOf_42 : decode cX4_balanceOf 42 = .ok (.iinc 3 1, 3) := by decide +kernel
theorem dd_X4_balanceOf_45 : decode cX4_balanceOf 45 = .ok (.goto (-41), 3) := by decide +kernel
theorem dd_X4_balanceOf_48 : decode cX4_balanceOf 48 = .ok (.iload_n 2, 1) := by decide +kernel
theorem dd_X4_balanceOf_49 : decode cX4_balanceOf 49 = .ok (.ireturn, 1) := by decide +kernel
theorem ok_X4_balanceOf : am_okM m_X4_balanceOf 1 ∧ Cond.instanceMethod m_X4_balanceOf.1 ∈ am_tbl ∧ Cond.selects m_X4_balanceOf.1.cls m_X4_balanceOf.1 m_X4_balanceOf.1 ∈ am_tbl := ri_mk1 675 83 673 674 (by decide +kernel)
theorem k_X4_balanceOf {a L : Nat} {x : Int} {F A : gs_F} (hI : gs_I F A) (hr : gs_row a L) (hx : -100 ≤ x ∧ x ≤ 100) : ∀ nN : Nat, (∀ (s : Int) (k : Int),  0 ≤ k → k ≤ F a 1 → -k ≤ s → s ≤ k → F a 1 - k < (nN : Int) → sA m_X4_balanceOf 1 (fun rv F' A' => ∃ z : Int, rv = some (gs_iv z) ∧ F = F' ∧ A = A' ∧ (-400 ≤ z ∧ z ≤ 400)) 4 [(3, gs_iv k), (2, gs_iv s), (0, .ref a), (1, gs_iv x)] [] F A) := by
  intro nN
  induction nN with
  | zero =>
    exact fun a0 a1 i0 i1 i2 i3 hm => by exfalso; omega
  | succ nN ih =>
    intro s k i0 i1 i2 i3 hm
    have b1 := gs_row_sz hr hI
    refine sA_iload_n dd_X4_balanceOf_4 rfl (.head _) ?_
    refine sA_aload_n dd_X4_balanceOf_5 rfl (.tail _ (.tail _ (.head _))) ?_
    refine sA_geti (ci := 4) (j := 1) (q := (RX4, TX4, 2)) dd_X4_balanceOf_6 rfl (by decide) fl_X4_19 (Nat.lt_of_succ_lt hr.1) hr.2.1 rfl ?_
    refine sA_icmp_ge (tgt := 48) dd_X4_balanceOf_9 (by decide) (by omega) (by omega) (fun q2 => ?_) (fun q2 => ?_)
    · skip
      refine sA_iload_n dd_X4_balanceOf_48 rfl (.tail _ (.head _)) ?_
      refine sA_iret (z := s) dd_X4_balanceOf_49 rfl ?_
      exact ⟨_, rfl, rfl, rfl, by omega⟩
    · skip
      refine sA_aload_n dd_X4_balanceOf_12 rfl (.tail _ (.tail _ (.head _))) ?_
      refine sA_getr (ci := 4) (j := 0) (q := (RX4, TX4, 2)) dd_X4_balanceOf_13 rfl (by decide) fl_X4_13 (Nat.lt_of_succ_lt hr.1) hr.2.1 rfl ?_
      refine sA_iload_n dd_X4_balanceOf_16 rfl (.head _) ?_
      refine sA_iald (n := L) dd_X4_balanceOf_17 hr.1 hr.2.2.1 (by omega) (Nat.le_trans hr.2.2.2.2.2.2 (by decide)) ?_
      have b3 := gs_row_el hr hI k.toNat
      refine sA_iload_n dd_X4_balanceOf_18 rfl (.tail _ (.tail _ (.tail _ (.head _)))) ?_
      refine sA_icmp_ne (tgt := 28) dd_X4_balanceOf_19 (by decide) (by omega) (by omega) (fun q4 => ?_) (fun q4 => ?_)
      · skip
        refine sA_aload_n dd_X4_balanceOf_28 rfl (.tail _ (.tail _ (.head _))) ?_
        refine sA_getr (ci := 4) (j := 0) (q := (RX4, TX4, 2)) dd_X4_balanceOf_29 rfl (by decide) fl_X4_13 (Nat.lt_of_succ_lt hr.1) hr.2.1 rfl ?_
        refine sA_iload_n dd_X4_balanceOf_32 rfl (.head _) ?_
        refine sA_iald (n := L) dd_X4_balanceOf_33 hr.1 hr.2.2.1 (by omega) (Nat.le_trans hr.2.2.2.2.2.2 (by decide)) ?_
        refine sA_iload_n dd_X4_balanceOf_34 rfl (.tail _ (.tail _ (.tail _ (.head _)))) ?_
        refine sA_ineg dd_X4_balanceOf_35 ?_
        refine sA_icmp_ne (tgt := 42) dd_X4_balanceOf_36 (by decide) (by omega) (by omega) (fun q5 => ?_) (fun q5 => ?_)
        · skip
          refine sA_iinc (lv' := [(3, gs_iv (k + 1)), (2, gs_iv s), (0, .ref a), (1, gs_iv x)]) dd_X4_balanceOf_42 (.head _) (by decide) rfl ?_
          refine sA_goto (tgt := 4) dd_X4_balanceOf_45 (by decide) ?_
          refine sA_sub (lv2 := [(3, gs_iv (k + 1)), (2, gs_iv s), (0, .ref a), (1, gs_iv x)]) (List.forall_mem_cons.mpr ⟨(.head _), (List.forall_mem_cons.mpr ⟨(.tail _ (.head _)), (List.forall_mem_cons.mpr ⟨(.tail _ (.tail _ (.head _))), (List.forall_mem_cons.mpr ⟨(.tail _ (.tail _ (.tail _ (.head _)))), (fun _ h => absurd h List.not_mem_nil)⟩)⟩)⟩)⟩) ?_
          exact ih s (k + 1)  (by omega) (by omega) (by omega) (by omega) (by omega)
        · skip
          refine sA_iinc (lv' := [(2, gs_iv (s + (-1))), (3, gs_iv k), (0, .ref a), (1, gs_iv x)]) dd_X4_balanceOf_39 (.tail _ (.head _)) (by decide) rfl ?_
          refine sA_iinc (lv' := [(3, gs_iv (k + 1)), (2, gs_iv (s + (-1))), (0, .ref a), (1, gs_iv x)]) dd_X4_balanceOf_42 (.tail _ (.head _)) (by decide) rfl ?_
          refine sA_goto (tgt := 4) dd_X4_balanceOf_45 (by decide) ?_
          refine sA_sub (lv2 := [(3, gs_iv (k + 1)), (2, gs_iv (s + (-1))), (0, .ref a), (1, gs_iv x)]) (List.forall_mem_cons.mpr ⟨(.head _), (List.forall_mem_cons.mpr ⟨(.tail _ (.head _)), (List.forall_mem_cons.mpr ⟨(.tail _ (.tail _ (.head _))), (List.forall_mem_cons.mpr ⟨(.tail _ (.tail _ (.tail _ (.head _)))), (fun _ h => absurd h List.not_mem_nil)⟩)⟩)⟩)⟩) ?_
          exact ih (s + (-1)) (k + 1)  (by omega) (by omega) (by omega) (by omega) (by omega)
      · skip
        refine sA_iinc (lv' := [(2, gs_iv (s + 1)), (3, gs_iv k), (0, .ref a), (1, gs_iv x)]) dd_X4_balanceOf_22 (.tail _ (.head _)) (by decide) rfl ?_
        refine sA_goto (tgt := 42) dd_X4_balanceOf_25 (by decide) ?_
        refine sA_iinc (lv' := [(3, gs_iv (k + 1)), (2, gs_iv (s + 1)), (0, .ref a), (1, gs_iv x)]) dd_X4_balanceOf_42 (.tail _ (.head _)) (by decide) rfl ?_
        refine sA_goto (tgt := 4) dd_X4_balanceOf_45 (by decide) ?_
        refine sA_sub (lv2 := [(3, gs_iv (k + 1)), (2, gs_iv (s + 1)), (0, .ref a), (1, gs_iv x)]) (List.forall_mem_cons.mpr ⟨(.head _), (List.forall_mem_cons.mpr ⟨(.tail _ (.head _)), (List.forall_mem_cons.mpr ⟨(.tail _ (.tail _ (.head _))), (List.forall_mem_cons.mpr ⟨(.tail _ (.tail _ (.tail _ (.head _)))), (fun _ h => absurd h List.not_mem_nil)⟩)⟩)⟩)⟩) ?_
        exact ih (s + 1) (k + 1)  (by omega) (by omega) (by omega) (by omega) (by omega)
theorem c_X4_balanceOf {a L : Nat} {x : Int} {F A : gs_F} (hI : gs_I F A) (hr : gs_row a L) (hx : -100 ≤ x ∧ x ≤ 100) : sC m_X4_balanceOf 1 [.ref a, gs_iv x] F A (fun rv F' A' => ∃ z : Int, rv = some (gs_iv z) ∧ F = F' ∧ A = A' ∧ (-400 ≤ z ∧ z ≤ 400)) := by
  refine sC_of ok_X4_balanceOf.1 (Nat.le_of_ble_eq_true rfl) ?_
  show sA _ _ _ 0 [(0, .ref a), (1, gs_iv x)] [] F A
  have b6 := gs_row_sz hr hI
  refine sA_iconst (z := 0) dd_X4_balanceOf_0 ?_
  refine sA_istore_n (lv' := [(2, gs_iv 0), (0, .ref a), (1, gs_iv x)]) dd_X4_balanceOf_1 rfl (by decide) rfl ?_
  refine sA_iconst (z := 0) dd_X4_balanceOf_2 ?_
  refine sA_istore_n (lv' := [(3, gs_iv 0), (2, gs_iv 0), (0, .ref a), (1, gs_iv x)]) dd_X4_balanceOf_3 rfl (by decide) rfl ?_
  refine sA_sub (lv2 := [(3, gs_iv 0), (2, gs_iv 0), (0, .ref a), (1, gs_iv x)]) (List.forall_mem_cons.mpr ⟨(.head _), (List.forall_mem_cons.mpr ⟨(.tail _ (.head _)), (List.forall_mem_cons.mpr ⟨(.tail _ (.tail _ (.head _))), (List.forall_mem_cons.mpr ⟨(.tail _ (.tail _ (.tail _ (.head _)))), (fun _ h => absurd h List.not_mem_nil)⟩)⟩)⟩)⟩) ?_
  exact (k_X4_balanceOf hI hr hx (F a 1 - 0 : Int).toNat.succ) 0 0  (by omega) (by omega) (by omega) (by omega) (by omega)
theorem dd_X2_add_0 : decode cX2_add 0 = .ok (.aload_n 0, 1) := by decide +kernel
theorem dd_X2_add_1 : decode cX2_add 1 = .ok (.getfield 15, 3) := by decide +kernel
theorem dd_X2_add_4 : decode cX2_add 4 = .ok (.aload_n 0, 1) := by decide +kernel
theorem dd_X2_add_5 : decode cX2_add 5 = .ok (.getfield 9, 3) := by decide +kernel
theorem dd_X2_add_8 : decode cX2_add 8 = .ok (.arraylength, 1) := by decide +kernel
theorem dd_X2_add_9 : decode cX2_add 9 = .ok (.if_icmp .ge 23, 3) := by decide +kernel
theorem dd_X2_add_12 : decode cX2_add 12 = .ok (.aload_n 0, 1) := by decide +kernel
theorem dd_X2_add_13 : decode cX2_add 13 = .ok (.getfield 9, 3) := by decide +kernel
theorem dd_X2_add_16 : decode cX2_add 16 = .ok (.aload_n 0, 1) := by decide +kernel
theorem dd_X2_add_17 : decode cX2_add 17 = .ok (.getfield 15, 3) := by decide +kernel
theorem dd_X2_add_20 : decode cX2_add 20 = .ok (.iload_n 1, 1) := by decide +kernel
theorem dd_X2_add_21 : decode cX2_add 21 = .ok (.iastore, 1) := by decide +kernel
theorem dd_X2_add_22 : decode cX2_add 22 = .ok (.aload_n 0, 1) := by decide +kernel
theorem dd_X2_add_23 : decode cX2_add 23 = .ok (.dup, 1) := by decide +kernel
theorem dd_X2_add_24 : decode cX2_add 24 = .ok (.getfield 15, 3) := by decide +kernel
theorem dd_X2_add_27 : decode cX2_add 27 = .ok (.iconst 1, 1) := by decide +kernel
theorem dd_X2_add_28 : decode cX2_add 28 = .ok (.iadd, 1) := by decide +kernel
theorem dd_X2_add_29 : decode cX2_add 29 = .ok (.putfield 15, 3) := by decide +kernel
theorem dd_X2_add_32 : decode cX2_add 32 = .ok (.return_, 1) := by decide +kernel
theorem fl_X2_15 : Cond.fieldLink RX2 15 (TX2 1).1 (TX2 1).2.1 (TX2 1).2.2.1 ∈ am_tbl := ri_lw_in (pl := 237) (by decide +kernel)
theorem fl_X2_9 : Cond.fieldLink RX2 9 (TX2 0).1 (TX2 0).2.1 (TX2 0).2.2.1 ∈ am_tbl := ri_lw_in (pl := 233) (by decide +kernel)
theorem ok_X2_add : am_okM m_X2_add 1 ∧ Cond.instanceMethod m_X2_add.1 ∈ am_tbl ∧ Cond.selects m_X2_add.1.cls m_X2_add.1 m_X2_add.1 ∈ am_tbl := ri_mk1 541 90 539 540 (by decide +kernel)
theorem c_X2_add {a : Nat} {x : Int} {F A : gs_F} (hI : gs_I F A) (hr : gs_plan a) (hx : -2147483648 ≤ x ∧ x ≤ 2147483647) : sC m_X2_add 1 [.ref a, gs_iv x] F A (fun rv F' A' => rv = none ∧ gs_I F' A' ∧ gs_fr (fun c j => c = a ∧ j = 1) (fun c => c = a + 1) F A F' A' ∧ (F' a 1 ≤ F a 1 + 1 ∧ F a 1 ≤ F' a 1)) := by
  refine sC_of ok_X2_add.1 (Nat.le_of_ble_eq_true rfl) ?_
  show sA _ _ _ 0 [(0, .ref a), (1, gs_iv x)] [] F A
  have hf : gs_fr (fun c j => c = a ∧ j = 1) (fun c => c = a + 1) F A F A := gs_fr_refl _ _ _ _
  have b1 := gs_plan_sz hr hI
  refine sA_aload_n dd_X2_add_0 rfl (.head _) ?_
  refine sA_geti (ci := 2) (j := 1) (q := (RX2, TX2, 2)) dd_X2_add_1 rfl (by decide) fl_X2_15 (Nat.lt_of_succ_lt hr.1) hr.2.1 rfl ?_
  refine sA_aload_n dd_X2_add_4 rfl (.head _) ?_
  refine sA_getr (ci := 2) (j := 0) (q := (RX2, TX2, 2)) dd_X2_add_5 rfl (by decide) fl_X2_9 (Nat.lt_of_succ_lt hr.1) hr.2.1 rfl ?_
  refine sA_alen (n := 60) dd_X2_add_8 hr.1 hr.2.2.1 ?_
  refine sA_icmp_ge (tgt := 32) dd_X2_add_9 (by decide) (by omega) (by omega) (fun q2 => ?_) (fun q2 => ?_)
  · skip
    refine sA_vret dd_X2_add_32 rfl ?_
    exact ⟨rfl, hI, hf, by omega⟩
  · skip
    refine sA_aload_n dd_X2_add_12 rfl (.head _) ?_
    refine sA_getr (ci := 2) (j := 0) (q := (RX2, TX2, 2)) dd_X2_add_13 rfl (by decide) fl_X2_9 (Nat.lt_of_succ_lt hr.1) hr.2.1 rfl ?_
    refine sA_aload_n dd_X2_add_16 rfl (.head _) ?_
    refine sA_geti (ci := 2) (j := 1) (q := (RX2, TX2, 2)) dd_X2_add_17 rfl (by decide) fl_X2_15 (Nat.lt_of_succ_lt hr.1) hr.2.1 rfl ?_
    refine sA_iload_n dd_X2_add_20 rfl (.tail _ (.head _)) ?_
    refine sA_iast (n := 60) dd_X2_add_21 hr.1 hr.2.2.1 (by omega) (by decide) ?_
    have I4 : gs_I F (gs_up A (a + 1) ((F a 1).toNat) x) := gs_plan_ast hr hI (by omega)
    have f5 := gs_fr_ast hf (a := a + 1) (z := x) (i := (F a 1).toNat) (by first | omega | (dsimp only; omega) | (dsimp only))
    generalize gs_up A (a + 1) ((F a 1).toNat) x = A3 at I4 f5 ⊢
    refine sA_aload_n dd_X2_add_22 rfl (.head _) ?_
    refine sA_dup dd_X2_add_23 rfl ?_
    refine sA_geti (ci := 2) (j := 1) (q := (RX2, TX2, 2)) dd_X2_add_24 rfl (by decide) fl_X2_15 (Nat.lt_of_succ_lt hr.1) hr.2.1 rfl ?_
    refine sA_iconst (z := 1) dd_X2_add_27 ?_
    refine sA_iadd dd_X2_add_28 ?_
    refine sA_put (ci := 2) (j := 1) (q := (RX2, TX2, 2)) (ty := .int) dd_X2_add_29 rfl (by decide) fl_X2_15 rfl (tyX2_ok 1 (by decide)) rfl rfl (Nat.lt_of_succ_lt hr.1) hr.2.1 rfl ?_
    have I7 : gs_I (gs_up F a 1 ((F a 1) + 1)) A3 := gs_plan_put hr I4 (by omega)
    have f8 := gs_fr_put f5 (a := a) (z := (F a 1) + 1) (j := 1) (by first | omega | (dsimp only; omega) | (dsimp only))
    have v9 : gs_up F a 1 ((F a 1) + 1) a 1 = (F a 1) + 1 := gs_up_self _ _ _ _
    generalize gs_up F a 1 ((F a 1) + 1) = F6 at I7 f8 v9 ⊢
    refine sA_vret dd_X2_add_32 rfl ?_
    exact ⟨rfl, I7, f8, by omega⟩
theorem dd_X2_addAll_0 : decode cX2_addAll 0 = .ok (.iconst 0, 1) := by decide +kernel
theorem dd_X2_addAll_1 : decode cX2_addAll 1 = .ok (.istore_n 2, 1) := by decide +kernel
theorem dd_X2_addAll_2 : decode cX2_addAll 2 = .ok (.iload_n 2, 1) := by decide +kernel
theorem dd_X2_addAll_3 : decode cX2_addAll 3 = .ok (.aload_n 1, 1) := by decide +kernel
theorem dd_X2_addAll_4 : decode cX2_addAll 4 = .ok (.getfield 15, 3) := by decide +kernel
theorem dd_X2_addAll_7 : decode cX2_addAll 7 = .ok (.if_icmp .ge 19, 3) := by decide +kernel
theorem dd_X2_addAll_10 : decode cX2_addAll 10 = .ok (.aload_n 0, 1) := by decide +kernel
theorem dd_X2_addAll_11 : decode cX2_addAll 11 = .ok (.aload_n 1, 1) := by decide +kernel
theorem dd_X2_addAll_12 : decode cX2_addAll 12 = .ok (.getfield 9, 3) := by decide +kernel
theorem dd_X2_addAll_15 : decode cX2_addAll 15 = .ok (.iload_n 2, 1) := by decide +kernel
theorem dd_X2_addAll_16 : decode cX2_addAll 16 = .ok (.iaload, 1) := by decide +kernel
theorem dd_X2_addAll_17 : decode cX2_addAll 17 = .ok (.invokevirtual 19, 3) := by decide +kernel
theorem dd_X2_addAll_20 : decode cX2_addAll 20 = .ok (.iinc 2 1, 3) := by decide +kernel
theorem dd_X2_addAll_23 : decode cX2_addAll 23 = .ok (.goto (-21), 3) := by decide +kernel
theorem dd_X2_addAll_26 : decode cX2_addAll 26 = .ok (.return_, 1) := by decide +kernel
theorem ml_X2_19 : Cond.methodLink RX2 19 m_X2_add.1 ∈ am_tbl := ri_lw_in (pl := 575) (by decide +kernel)
theorem ok_X2_addAll : am_okM m_X2_addAll 1 ∧ Cond.instanceMethod m_X2_addAll.1 ∈ am_tbl ∧ Cond.selects m_X2_addAll.1.cls m_X2_addAll.1 m_X2_addAll.1 ∈ am_tbl := ri_mk1 574 90 572 573 (by decide +kernel)
theorem k_X2_addAll {a b : Nat} {F A : gs_F} (hI : gs_I F A) (hr : gs_plan a) (ho : gs_plan b) (hab : a ≠ b) : ∀ nN : Nat, (∀ (k : Int)  (F1 A1 : gs_F), gs_I F1 A1 → gs_fr (fun c j => c = a ∧ j = 1) (fun c => c = a + 1) F A F1 A1 → 0 ≤ k → k ≤ F1 b 1 → F1 b 1 - k < (nN : Int) → sA m_X2_addAll 2 (fun rv F' A' => rv = none ∧ gs_I F' A' ∧ gs_fr (fun c j => c = a ∧ j = 1) (fun c => c = a + 1) F A F' A' ∧ (True)) 2 [(2, gs_iv k), (0, .ref a), (1, .ref b)] [] F1 A1) := by
  intro nN
  induction nN with
  | zero =>
    exact fun a0 a1 a2 a3 a4 i0 i1 hm => by exfalso; omega
  | succ nN ih =>
    intro k F1 A1 hI1 hf1 i0 i1 hm
    have b1 := gs_plan_sz hr hI1
    have b2 := gs_plan_sz ho hI1
    refine sA_iload_n dd_X2_addAll_2 rfl (.head _) ?_
    refine sA_aload_n dd_X2_addAll_3 rfl (.tail _ (.tail _ (.head _))) ?_
    refine sA_geti (ci := 2) (j := 1) (q := (RX2, TX2, 2)) dd_X2_addAll_4 rfl (by decide) fl_X2_15 (Nat.lt_of_succ_lt ho.1) ho.2.1 rfl ?_
    refine sA_icmp_ge (tgt := 26) dd_X2_addAll_7 (by decide) (by omega) (by omega) (fun q3 => ?_) (fun q3 => ?_)
    · skip
      refine sA_vret dd_X2_addAll_26 rfl ?_
      exact ⟨rfl, hI1, hf1, trivial⟩
    · skip
      refine sA_aload_n dd_X2_addAll_10 rfl (.tail _ (.head _)) ?_
      refine sA_aload_n dd_X2_addAll_11 rfl (.tail _ (.tail _ (.head _))) ?_
      refine sA_getr (ci := 2) (j := 0) (q := (RX2, TX2, 2)) dd_X2_addAll_12 rfl (by decide) fl_X2_9 (Nat.lt_of_succ_lt ho.1) ho.2.1 rfl ?_
      refine sA_iload_n dd_X2_addAll_15 rfl (.head _) ?_
      refine sA_iald (n := 60) dd_X2_addAll_16 ho.1 ho.2.2.1 (by omega) (by decide) ?_
      have b4 := gs_plan_el ho hI1 k.toNat
      refine sA_callV (y2 := m_X2_add) (n2 := 1) (d2 := 1) (a := a) (ci := 2) (q := (RX2, TX2, 2)) (as := [gs_iv (A1 (b + 1) k.toNat)]) (rest := []) dd_X2_addAll_17 ok_X2_add ml_X2_19 rfl rfl (Nat.lt_of_succ_lt hr.1) hr.2.1 rfl rfl (Nat.le_of_ble_eq_true rfl) (by decide) (c_X2_add hI1 hr (by omega)) (fun r5 F6 A7 h8 => ?_)
      obtain ⟨e10, I11, f12, x9⟩ := h8
      subst e10
      have v13 : F6 b 1 = F1 b 1 := f12.1 b 1 (by first | exact id | omega | (dsimp only; omega) | (dsimp only))
      have f14 := gs_fr_tr hf1 f12 (fun b j h => by first | exact False.elim h | omega | (dsimp only at h ⊢; omega)) (fun b h => by first | exact False.elim h | omega | (dsimp only at h ⊢; omega))
      show sA _ _ _ 20 _ [] _ _
      refine sA_iinc (lv' := [(2, gs_iv (k + 1)), (0, .ref a), (1, .ref b)]) dd_X2_addAll_20 (.head _) (by decide) rfl ?_
      refine sA_goto (tgt := 2) dd_X2_addAll_23 (by decide) ?_
      have b15 := gs_plan_sz hr I11
      have b16 := gs_plan_sz ho I11
      refine sA_sub (lv2 := [(2, gs_iv (k + 1)), (0, .ref a), (1, .ref b)]) (List.forall_mem_cons.mpr ⟨(.head _), (List.forall_mem_cons.mpr ⟨(.tail _ (.head _)), (List.forall_mem_cons.mpr ⟨(.tail _ (.tail _ (.head _))), (fun _ h => absurd h List.not_mem_nil)⟩)⟩)⟩) ?_
      exact ih (k + 1) F6 A7 I11 f14 (by omega) (by omega) (by omega)
theorem c_X2_addAll {a b : Nat} {F A : gs_F} (hI : gs_I F A) (hr : gs_plan a) (ho : gs_plan b) (hab : a ≠ b) : sC m_X2_addAll 2 [.ref a, .ref b] F A (fun rv F' A' => rv = none ∧ gs_I F' A' ∧ gs_fr (fun c j => c = a ∧ j = 1) (fun c => c = a + 1) F A F' A' ∧ (True)) := by
  refine sC_of ok_X2_addAll.1 (Nat.le_of_ble_eq_true rfl) ?_
  show sA _ _ _ 0 [(0, .ref a), (1, .ref b)] [] F A
  have hf : gs_fr (fun c j => c = a ∧ j = 1) (fun c => c = a + 1) F A F A := gs_fr_refl _ _ _ _
  have b17 := gs_plan_sz hr hI
  have b18 := gs_plan_sz ho hI
  refine sA_iconst (z := 0) dd_X2_addAll_0 ?_
  refine sA_istore_n (lv' := [(2, gs_iv 0), (0, .ref a), (1, .ref b)]) dd_X2_addAll_1 rfl (by decide) rfl ?_
  refine sA_sub (lv2 := [(2, gs_iv 0), (0, .ref a), (1, .ref b)]) (List.forall_mem_cons.mpr ⟨(.head _), (List.forall_mem_cons.mpr ⟨(.tail _ (.head _)), (List.forall_mem_cons.mpr ⟨(.tail _ (.tail _ (.head _))), (fun _ h => absurd h List.not_mem_nil)⟩)⟩)⟩) ?_
  exact (k_X2_addAll hI hr ho hab (F b 1 - 0 : Int).toNat.succ) 0 F A hI hf (by omega) (by omega) (by omega)
theorem dd_X2_copy_0 : decode cX2_copy 0 = .ok (.aload_n 0, 1) := by decide +kernel
theorem dd_X2_copy_1 : decode cX2_copy 1 = .ok (.aload_n 1, 1) := by decide +kernel
theorem dd_X2_copy_2 : decode cX2_copy 2 = .ok (.getfield 15, 3) := by decide +kernel
theorem dd_X2_copy_5 : decode cX2_copy 5 = .ok (.putfield 15, 3) := by decide +kernel
theorem dd_X2_copy_8 : decode cX2_copy 8 = .ok (.aload_n 1, 1) := by decide +kernel
theorem dd_X2_copy_9 : decode cX2_copy 9 = .ok (.getfield 9, 3) := by decide +kernel
theorem dd_X2_copy_12 : decode cX2_copy 12 = .ok (.iconst 0, 1) := by decide +kernel
theorem dd_X2_copy_13 : decode cX2_copy 13 = .ok (.aload_n 0, 1) := by decide +kernel
theorem dd_X2_copy_14 : decode cX2_copy 14 = .ok (.getfield 9, 3) := by decide +kernel
theorem dd_X2_copy_17 : decode cX2_copy 17 = .ok (.iconst 0, 1) := by decide +kernel
theorem dd_X2_copy_18 : decode cX2_copy 18 = .ok (.aload_n 0, 1) := by decide +kernel
theorem dd_X2_copy_19 : decode cX2_copy 19 = .ok (.getfield 15, 3) := by decide +kernel
theorem dd_X2_copy_22 : decode cX2_copy 22 = .ok (.invokestatic 23, 3) := by decide +kernel
theorem dd_X2_copy_25 : decode cX2_copy 25 = .ok (.return_, 1) := by decide +kernel
theorem ok_X2_copy : am_okM m_X2_copy 1 ∧ Cond.instanceMethod m_X2_copy.1 ∈ am_tbl ∧ Cond.selects m_X2_copy.1.cls m_X2_copy.1 m_X2_copy.1 ∈ am_tbl := ri_mk1 553 90 551 552 (by decide +kernel)
theorem c_X2_copy {a b : Nat} {F A : gs_F} (hI : gs_I F A) (hr : gs_plan a) (ho : gs_plan b) : sC m_X2_copy 1 [.ref a, .ref b] F A (fun rv F' A' => rv = none ∧ gs_I F' A' ∧ gs_fr (fun c j => c = a ∧ j = 1) (fun c => c = a + 1) F A F' A' ∧ (F' a 1 = F b 1)) := by
  refine sC_of ok_X2_copy.1 (Nat.le_of_ble_eq_true rfl) ?_
  show sA _ _ _ 0 [(0, .ref a), (1, .ref b)] [] F A
  have hf : gs_fr (fun c j => c = a ∧ j = 1) (fun c => c = a + 1) F A F A := gs_fr_refl _ _ _ _
  have b1 := gs_plan_sz hr hI
  have b2 := gs_plan_sz ho hI
  refine sA_aload_n dd_X2_copy_0 rfl (.head _) ?_
  refine sA_aload_n dd_X2_copy_1 rfl (.tail _ (.head _)) ?_
  refine sA_geti (ci := 2) (j := 1) (q := (RX2, TX2, 2)) dd_X2_copy_2 rfl (by decide) fl_X2_15 (Nat.lt_of_succ_lt ho.1) ho.2.1 rfl ?_
  refine sA_put (ci := 2) (j := 1) (q := (RX2, TX2, 2)) (ty := .int) dd_X2_copy_5 rfl (by decide) fl_X2_15 rfl (tyX2_ok 1 (by decide)) rfl rfl (Nat.lt_of_succ_lt hr.1) hr.2.1 rfl ?_
  have I4 : gs_I (gs_up F a 1 (F b 1)) A := gs_plan_put hr hI (by omega)
  have f5 := gs_fr_put hf (a := a) (z := F b 1) (j := 1) (by first | omega | (dsimp only; omega) | (dsimp only))
  have v6 : gs_up F a 1 (F b 1) a 1 = F b 1 := gs_up_self _ _ _ _
  generalize gs_up F a 1 (F b 1) = F3 at I4 f5 v6 ⊢
  refine sA_aload_n dd_X2_copy_8 rfl (.tail _ (.head _)) ?_
  refine sA_getr (ci := 2) (j := 0) (q := (RX2, TX2, 2)) dd_X2_copy_9 rfl (by decide) fl_X2_9 (Nat.lt_of_succ_lt ho.1) ho.2.1 rfl ?_
  refine sA_iconst (z := 0) dd_X2_copy_12 ?_
  refine sA_aload_n dd_X2_copy_13 rfl (.head _) ?_
  refine sA_getr (ci := 2) (j := 0) (q := (RX2, TX2, 2)) dd_X2_copy_14 rfl (by decide) fl_X2_9 (Nat.lt_of_succ_lt hr.1) hr.2.1 rfl ?_
  refine sA_iconst (z := 0) dd_X2_copy_17 ?_
  refine sA_aload_n dd_X2_copy_18 rfl (.head _) ?_
  refine sA_geti (ci := 2) (j := 1) (q := (RX2, TX2, 2)) dd_X2_copy_19 rfl (by decide) fl_X2_15 (Nat.lt_of_succ_lt hr.1) hr.2.1 rfl ?_
  have b7 := gs_plan_sz hr I4
  refine sA_copy (n1 := 60) (n2 := 60) dd_X2_copy_22 (ri_lw_in (pl := 554) (by decide +kernel)) gs_copyok ho.1 ho.2.2.1 hr.1 hr.2.2.1 (by omega) (by omega) (by omega) (by omega) (by omega) (by decide) (by decide) (by decide) (Nat.le_of_ble_eq_true rfl) ?_
  have I9 : gs_I F3 (gs_cp A (b + 1) (a + 1) (0 : Int).toNat (0 : Int).toNat (F3 a 1).toNat) := gs_I_cp I4 (b := (a + 1)) (a := (b + 1)) (p := ((-2147483648), 2147483647)) (q := ((-2147483648), 2147483647)) hr.2.2.2.2 ho.2.2.2.2 (by decide)
  have f10 := gs_fr_cp f5 (a := (b + 1)) (b := (a + 1)) (sp := (0 : Int).toNat) (dp := (0 : Int).toNat) (n := (F3 a 1).toNat) (by first | omega | (dsimp only; omega) | (dsimp only))
  generalize gs_cp A (b + 1) (a + 1) (0 : Int).toNat (0 : Int).toNat (F3 a 1).toNat = A8 at I9 f10 ⊢
  refine sA_vret dd_X2_copy_25 rfl ?_
  exact ⟨rfl, I9, f10, by omega⟩
theorem dd_X2_becomeReversed_0 : decode cX2_becomeReversed 0 = .ok (.aload_n 0, 1) := by decide +kernel
theorem dd_X2_becomeReversed_1 : decode cX2_becomeReversed 1 = .ok (.iconst 0, 1) := by decide +kernel
theorem dd_X2_becomeReversed_2 : decode cX2_becomeReversed 2 = .ok (.putfield 15, 3) := by decide +kernel
theorem dd_X2_becomeReversed_5 : decode cX2_becomeReversed 5 = .ok (.aload_n 1, 1) := by decide +kernel
theorem dd_X2_becomeReversed_6 : decode cX2_becomeReversed 6 = .ok (.getfield 15, 3) := by decide +kernel
theorem dd_X2_becomeReversed_9 : decode cX2_becomeReversed 9 = .ok (.iconst 1, 1) := by decide +kernel
theorem dd_X2_becomeReversed_10 : decode cX2_becomeReversed 10 = .ok (.isub, 1) := by decide +kernel
theorem dd_X2_becomeReversed_11 : decode cX2_becomeReversed 11 = .ok (.istore_n 2, 1) := by decide +kernel
theorem dd_X2_becomeReversed_12 : decode cX2_becomeReversed 12 = .ok (.iload_n 2, 1) := by decide +kernel
theorem dd_X2_becomeReversed_13 : decode cX2_becomeReversed 13 = .ok (.ifCond .lt 21, 3) := by decide +kernel
theorem dd_X2_becomeReversed_16 : decode cX2_becomeReversed 16 = .ok (.aload_n 0, 1) := by decide +kernel
theorem dd_X2_becomeReversed_17 : decode cX2_becomeReversed 17 = .ok (.aload_n 1, 1) := by decide +kernel
theorem dd_X2_becomeReversed_18 : decode cX2_becomeReversed 18 = .ok (.getfield 9, 3) := by decide +kernel
theorem dd_X2_becomeReversed_21 : decode cX2_becomeReversed 21 = .ok (.iload_n 2, 1) := by decide +kernel
theorem dd_X2_becomeReversed_22 : decode cX2_becomeReversed 22 = .ok (.iaload, 1) := by decide +kernel
theorem dd_X2_becomeReversed_23 : decode cX2_becomeReversed 23 = .ok (.iconst 1, 1) := by decide +kernel
theorem dd_X2_becomeReversed_24 : decode cX2_becomeReversed 24 = .ok (.ixor, 1) := by decide +kernel
theorem dd_X2_becomeReversed_25 : decode cX2_becomeReversed 25 = .ok (.invokevirtual 19, 3) := by decide +kernel
theorem dd_X2_becomeReversed_28 : decode cX2_becomeReversed 28 = .ok (.iinc 2 (-1), 3) := by decide +kernel
theorem dd_X2_becomeReversed_31 : decode cX2_becomeReversed 31 = .ok (.goto (-19), 3) := by decide +kernel
theorem dd_X2_becomeReversed_34 : decode cX2_becomeReversed 34 = .ok (.return_, 1) := by decide +kernel
theorem ok_X2_becomeReversed : am_okM m_X2_becomeReversed 1 ∧ Cond.instanceMethod m_X2_becomeReversed.1 ∈ am_tbl ∧ Cond.selects m_X2_becomeReversed.1.cls m_X2_becomeReversed.1 m_X2_becomeReversed.1 ∈ am_tbl := ri_mk1 583 90 581 582 (by decide +kernel)
theorem k_X2_becomeReversed {a b : Nat} {F A : gs_F} (hI : gs_I F A) (hr : gs_plan a) (ho : gs_plan b) (hab : a ≠ b) : ∀ nN : Nat, (∀ (k : Int)  (F1 A1 : gs_F), gs_I F1 A1 → gs_fr (fun c j => c = a ∧ j = 1) (fun c => c = a + 1) F A F1 A1 → -1 ≤ k → k < F1 b 1 → k + 1 < (nN : Int) → sA m_X2_becomeReversed 2 (fun rv F' A' => rv = none ∧ gs_I F' A' ∧ gs_fr (fun c j => c = a ∧ j = 1) (fun c => c = a + 1) F A F' A' ∧ (True)) 12 [(2, gs_iv k), (0, .ref a), (1, .ref b)] [] F1 A1) := by
  intro nN
  induction nN with
  | zero =>
    exact fun a0 a1 a2 a3 a4 i0 i1 hm => by exfalso; omega
  | succ nN ih =>
    intro k F1 A1 hI1 hf1 i0 i1 hm
    have b1 := gs_plan_sz hr hI1
    have b2 := gs_plan_sz ho hI1
    refine sA_iload_n dd_X2_becomeReversed_12 rfl (.head _) ?_
    refine sA_if_lt (tgt := 34) dd_X2_becomeReversed_13 (by decide) (by omega) (fun q3 => ?_) (fun q3 => ?_)
    · skip
      refine sA_vret dd_X2_becomeReversed_34 rfl ?_
      exact ⟨rfl, hI1, hf1, trivial⟩
    · skip
      refine sA_aload_n dd_X2_becomeReversed_16 rfl (.tail _ (.head _)) ?_
      refine sA_aload_n dd_X2_becomeReversed_17 rfl (.tail _ (.tail _ (.head _))) ?_
      refine sA_getr (ci := 2) (j := 0) (q := (RX2, TX2, 2)) dd_X2_becomeReversed_18 rfl (by decide) fl_X2_9 (Nat.lt_of_succ_lt ho.1) ho.2.1 rfl ?_
      refine sA_iload_n dd_X2_becomeReversed_21 rfl (.head _) ?_
      refine sA_iald (n := 60) dd_X2_becomeReversed_22 ho.1 ho.2.2.1 (by omega) (by decide) ?_
      have b4 := gs_plan_el ho hI1 k.toNat
      refine sA_iconst (z := 1) dd_X2_becomeReversed_23 ?_
      refine sA_ixor dd_X2_becomeReversed_24 ?_
      have b5 := gs_t_rng (Int32.ofInt (A1 (b + 1) k.toNat) ^^^ Int32.ofInt 1)
      generalize gs_t (Int32.ofInt (A1 (b + 1) k.toNat) ^^^ Int32.ofInt 1) = w6 at b5 ⊢
      refine sA_callV (y2 := m_X2_add) (n2 := 1) (d2 := 1) (a := a) (ci := 2) (q := (RX2, TX2, 2)) (as := [gs_iv w6]) (rest := []) dd_X2_becomeReversed_25 ok_X2_add ml_X2_19 rfl rfl (Nat.lt_of_succ_lt hr.1) hr.2.1 rfl rfl (Nat.le_of_ble_eq_true rfl) (by decide) (c_X2_add hI1 hr (by omega)) (fun r7 F8 A9 h10 => ?_)
      obtain ⟨e12, I13, f14, x11⟩ := h10
      subst e12
      have v15 : F8 b 1 = F1 b 1 := f14.1 b 1 (by first | exact id | omega | (dsimp only; omega) | (dsimp only))
      have f16 := gs_fr_tr hf1 f14 (fun b j h => by first | exact False.elim h | omega | (dsimp only at h ⊢; omega)) (fun b h => by first | exact False.elim h | omega | (dsimp only at h ⊢; omega))
      show sA _ _ _ 28 _ [] _ _
      refine sA_iinc (lv' := [(2, gs_iv (k + (-1))), (0, .ref a), (1, .ref b)]) dd_X2_becomeReversed_28 (.head _) (by decide) rfl ?_
      refine sA_goto (tgt := 12) dd_X2_becomeReversed_31 (by decide) ?_
      have b17 := gs_plan_sz hr I13
      have b18 := gs_plan_sz ho I13
      refine sA_sub (lv2 := [(2, gs_iv (k + (-1))), (0, .ref a), (1, .ref b)]) (List.forall_mem_cons.mpr ⟨(.head _), (List.forall_mem_cons.mpr ⟨(.tail _ (.head _)), (List.forall_mem_cons.mpr ⟨(.tail _ (.tail _ (.head _))), (fun _ h => absurd h List.not_mem_nil)⟩)⟩)⟩) ?_
      exact ih (k + (-1)) F8 A9 I13 f16 (by omega) (by omega) (by omega)
theorem c_X2_becomeReversed {a b : Nat} {F A : gs_F} (hI : gs_I F A) (hr : gs_plan a) (ho : gs_plan b) (hab : a ≠ b) : sC m_X2_becomeReversed 2 [.ref a, .ref b] F A (fun rv F' A' => rv = none ∧ gs_I F' A' ∧ gs_fr (fun c j => c = a ∧ j = 1) (fun c => c = a + 1) F A F' A' ∧ (True)) := by
  refine sC_of ok_X2_becomeReversed.1 (Nat.le_of_ble_eq_true rfl) ?_
  show sA _ _ _ 0 [(0, .ref a), (1, .ref b)] [] F A
  have hf : gs_fr (fun c j => c = a ∧ j = 1) (fun c => c = a + 1) F A F A := gs_fr_refl _ _ _ _
  have b19 := gs_plan_sz hr hI
  have b20 := gs_plan_sz ho hI
  refine sA_aload_n dd_X2_becomeReversed_0 rfl (.head _) ?_
  refine sA_iconst (z := 0) dd_X2_becomeReversed_1 ?_
  refine sA_put (ci := 2) (j := 1) (q := (RX2, TX2, 2)) (ty := .int) dd_X2_becomeReversed_2 rfl (by decide) fl_X2_15 rfl (tyX2_ok 1 (by decide)) rfl rfl (Nat.lt_of_succ_lt hr.1) hr.2.1 rfl ?_
  have I22 : gs_I (gs_up F a 1 0) A := gs_plan_put hr hI (by omega)
  have f23 := gs_fr_put hf (a := a) (z := 0) (j := 1) (by first | omega | (dsimp only; omega) | (dsimp only))
  have v24 : gs_up F a 1 0 a 1 = 0 := gs_up_self _ _ _ _
  have v25 : (gs_up F a 1 0) b 1 = F b 1 := gs_up_ne _ _ (by omega)
  generalize gs_up F a 1 0 = F21 at I22 f23 v24 v25 ⊢
  refine sA_aload_n dd_X2_becomeReversed_5 rfl (.tail _ (.head _)) ?_
  refine sA_geti (ci := 2) (j := 1) (q := (RX2, TX2, 2)) dd_X2_becomeReversed_6 rfl (by decide) fl_X2_15 (Nat.lt_of_succ_lt ho.1) ho.2.1 rfl ?_
  have b26 := gs_plan_sz ho I22
  refine sA_iconst (z := 1) dd_X2_becomeReversed_9 ?_
  refine sA_isub dd_X2_becomeReversed_10 ?_
  refine sA_istore_n (lv' := [(2, gs_iv ((F21 b 1) - 1)), (0, .ref a), (1, .ref b)]) dd_X2_becomeReversed_11 rfl (by decide) rfl ?_
  have b27 := gs_plan_sz hr I22
  refine sA_sub (lv2 := [(2, gs_iv ((F21 b 1) - 1)), (0, .ref a), (1, .ref b)]) (List.forall_mem_cons.mpr ⟨(.head _), (List.forall_mem_cons.mpr ⟨(.tail _ (.head _)), (List.forall_mem_cons.mpr ⟨(.tail _ (.tail _ (.head _))), (fun _ h => absurd h List.not_mem_nil)⟩)⟩)⟩) ?_
  exact (k_X2_becomeReversed hI hr ho hab (((F21 b 1) - 1) + 1 : Int).toNat.succ) ((F21 b 1) - 1) F21 A I22 f23 (by omega) (by omega) (by omega)
theorem dd_X2_codeOrSize_0 : decode cX2_codeOrSize 0 = .ok (.iload_n 1, 1) := by decide +kernel
theorem dd_X2_codeOrSize_1 : decode cX2_codeOrSize 1 = .ok (.iconst (-1), 1) := by decide +kernel
theorem dd_X2_codeOrSize_2 : decode cX2_codeOrSize 2 = .ok (.if_icmp .ne 8, 3) := by decide +kernel
theorem dd_X2_codeOrSize_5 : decode cX2_codeOrSize 5 = .ok (.aload_n 0, 1) := by decide +kernel
theorem dd_X2_codeOrSize_6 : decode cX2_codeOrSize 6 = .ok (.getfield 15, 3) := by decide +kernel
theorem dd_X2_codeOrSize_9 : decode cX2_codeOrSize 9 = .ok (.ireturn, 1) := by decide +kernel
theorem dd_X2_codeOrSize_10 : decode cX2_codeOrSize 10 = .ok (.iload_n 1, 1) := by decide +kernel
theorem dd_X2_codeOrSize_11 : decode cX2_codeOrSize 11 = .ok (.ifCond .lt 20, 3) := by decide +kernel
theorem dd_X2_codeOrSize_14 : decode cX2_codeOrSize 14 = .ok (.iload_n 1, 1) := by decide +kernel
theorem dd_X2_codeOrSize_15 : decode cX2_codeOrSize 15 = .ok (.aload_n 0, 1) := by decide +kernel
theorem dd_X2_codeOrSize_16 : decode cX2_codeOrSize 16 = .ok (.getfield 15, 3) := by decide +kernel
theorem dd_X2_codeOrSize_19 : decode cX2_codeOrSize 19 = .ok (.if_icmp .ge 12, 3) := by decide +kernel
theorem dd_X2_codeOrSize_22 : decode cX2_codeOrSize 22 = .ok (.aload_n 0, 1) := by decide +kernel
theorem dd_X2_codeOrSize_23 : decode cX2_codeOrSize 23 = .ok (.getfield 9, 3) := by decide +kernel
theorem dd_X2_codeOrSize_26 : decode cX2_codeOrSize 26 = .ok (.iload_n 1, 1) := by decide +kernel
theorem dd_X2_codeOrSize_27 : decode cX2_codeOrSize 27 = .ok (.iaload, 1) := by decide +kernel
theorem dd_X2_codeOrSize_28 : decode cX2_codeOrSize 28 = .ok (.goto 4, 3) := by decide +kernel
theorem dd_X2_codeOrSize_31 : decode cX2_codeOrSize 31 = .ok (.iconst (-1), 1) := by decide +kernel
theorem dd_X2_codeOrSize_32 : decode cX2_codeOrSize 32 = .ok (.ireturn, 1) := by decide +kernel
theorem ok_X2_codeOrSize : am_okM m_X2_codeOrSize 1 ∧ Cond.instanceMethod m_X2_codeOrSize.1 ∈ am_tbl ∧ Cond.selects m_X2_codeOrSize.1.cls m_X2_codeOrSize.1 m_X2_codeOrSize.1 ∈ am_tbl := ri_mk1 566 90 564 565 (by decide +kernel)
theorem c_X2_codeOrSize {a : Nat} {i : Int} {F A : gs_F} (hI : gs_I F A) (hr : gs_plan a) (hi : -2147483648 ≤ i ∧ i ≤ 2147483647) : sC m_X2_codeOrSize 1 [.ref a, gs_iv i] F A (fun rv F' A' => ∃ z : Int, rv = some (gs_iv z) ∧ F = F' ∧ A = A' ∧ (-2147483648 ≤ z ∧ z ≤ 2147483647)) := by
  refine sC_of ok_X2_codeOrSize.1 (Nat.le_of_ble_eq_true rfl) ?_
  show sA _ _ _ 0 [(0, .ref a), (1, gs_iv i)] [] F A
  have b1 := gs_plan_sz hr hI
  refine sA_iload_n dd_X2_codeOrSize_0 rfl (.tail _ (.head _)) ?_
  refine sA_iconst (z := (-1)) dd_X2_codeOrSize_1 ?_
  refine sA_icmp_ne (tgt := 10) dd_X2_codeOrSize_2 (by decide) (by omega) (by omega) (fun q2 => ?_) (fun q2 => ?_)
  · skip
    refine sA_iload_n dd_X2_codeOrSize_10 rfl (.tail _ (.head _)) ?_
    refine sA_if_lt (tgt := 31) dd_X2_codeOrSize_11 (by decide) (by omega) (fun q3 => ?_) (fun q3 => ?_)
    · skip
      refine sA_iconst (z := (-1)) dd_X2_codeOrSize_31 ?_
      refine sA_iret (z := -1) dd_X2_codeOrSize_32 rfl ?_
      exact ⟨_, rfl, rfl, rfl, by omega⟩
    · skip
      refine sA_iload_n dd_X2_codeOrSize_14 rfl (.tail _ (.head _)) ?_
      refine sA_aload_n dd_X2_codeOrSize_15 rfl (.head _) ?_
      refine sA_geti (ci := 2) (j := 1) (q := (RX2, TX2, 2)) dd_X2_codeOrSize_16 rfl (by decide) fl_X2_15 (Nat.lt_of_succ_lt hr.1) hr.2.1 rfl ?_
      refine sA_icmp_ge (tgt := 31) dd_X2_codeOrSize_19 (by decide) (by omega) (by omega) (fun q4 => ?_) (fun q4 => ?_)
      · skip
        refine sA_iconst (z := (-1)) dd_X2_codeOrSize_31 ?_
        refine sA_iret (z := -1) dd_X2_codeOrSize_32 rfl ?_
        exact ⟨_, rfl, rfl, rfl, by omega⟩
      · skip
        refine sA_aload_n dd_X2_codeOrSize_22 rfl (.head _) ?_
        refine sA_getr (ci := 2) (j := 0) (q := (RX2, TX2, 2)) dd_X2_codeOrSize_23 rfl (by decide) fl_X2_9 (Nat.lt_of_succ_lt hr.1) hr.2.1 rfl ?_
        refine sA_iload_n dd_X2_codeOrSize_26 rfl (.tail _ (.head _)) ?_
        refine sA_iald (n := 60) dd_X2_codeOrSize_27 hr.1 hr.2.2.1 (by omega) (by decide) ?_
        have b5 := gs_plan_el hr hI i.toNat
        refine sA_goto (tgt := 32) dd_X2_codeOrSize_28 (by decide) ?_
        refine sA_iret (z := A (a + 1) i.toNat) dd_X2_codeOrSize_32 rfl ?_
        exact ⟨_, rfl, rfl, rfl, by omega⟩
  · skip
    refine sA_aload_n dd_X2_codeOrSize_5 rfl (.head _) ?_
    refine sA_geti (ci := 2) (j := 1) (q := (RX2, TX2, 2)) dd_X2_codeOrSize_6 rfl (by decide) fl_X2_15 (Nat.lt_of_succ_lt hr.1) hr.2.1 rfl ?_
    refine sA_iret (z := F a 1) dd_X2_codeOrSize_9 rfl ?_
    exact ⟨_, rfl, rfl, rfl, by omega⟩
end
