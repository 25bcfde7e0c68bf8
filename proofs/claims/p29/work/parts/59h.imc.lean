noncomputable section
/-! ===== images: the class ===== -/
theorem k_X7_doTwist_vf {a L : Nat} {u : Int} {g : Int} {F A : gs_F} (hI : gs_I F A) (hu : -2147483648 ≤ u ∧ u ≤ 2147483647) (hr : gs_row a L) (hg : 1 ≤ g ∧ g ≤ 3) (hu2 : 0 ≤ u ∧ u < 6 * g - 2) (hW : gs_W (A 6) g) (hV : sp_val g (gs_stk (A (a + 1)) (F a 1).toNat)) (hL : L = 400) (ha18 : 18 ≤ a) : ∀ nN : Nat, (∀ (m : Int) (s : Int) (k : Int)  (F1 A1 : gs_F), gs_I F1 A1 → gs_fr (fun c j => c = a ∧ j = 1) (fun c => c = 7 ∨ c = a + 1) F A F1 A1 → m = (u * 13 + 6) * 10 → 0 ≤ s ∧ s ≤ 9 * k → 0 ≤ k ∧ k ≤ F1 a 1 ∧ F1 a 1 ≤ 400 → F1 a 1 = F a 1 → gs_stk (A1 7) s.toNat = sp_tw (sp_w g u) (gs_stk (A (a + 1)) k.toNat) → A1 (a + 1) = A (a + 1) → A1 6 = A 6 → (F1 a 1 - k) * 30 + 1 < (nN : Int) → sA m_X7_doTwist 2 (fun rv F' A' => ∃ z : Int, rv = some (gs_iv z) ∧ gs_I F' A' ∧ gs_fr (fun c j => c = a ∧ j = 1) (fun c => c = 7 ∨ c = a + 1) F A F' A' ∧ ((z = 1 ∧ (sp_tw (sp_w g u) (gs_stk (A (a + 1)) (F a 1).toNat)).length ≤ 400 ∧ gs_stk (A' (a + 1)) (F' a 1).toNat = sp_tw (sp_w g u) (gs_stk (A (a + 1)) (F a 1).toNat)) ∨ (z = 0 ∧ 400 < (sp_tw (sp_w g u) (gs_stk (A (a + 1)) (F a 1).toNat)).length))) 34 [(5, gs_iv k), (4, gs_iv s), (3, gs_iv m), (0, .ref 5), (2, .ref a)] [] F1 A1) ∧ (∀ (m : Int) (s : Int) (k : Int) (e : Int) (w : Int)  (F1 A1 : gs_F), gs_I F1 A1 → gs_fr (fun c j => c = a ∧ j = 1) (fun c => c = 7 ∨ c = a + 1) F A F1 A1 → m = (u * 13 + 6) * 10 → 0 ≤ s ∧ s ≤ 9 * k + (w - ((u * 13 + A (a + 1) k.toNat + 6) * 10) - 1) → 0 ≤ k ∧ k < F1 a 1 ∧ F1 a 1 ≤ 400 → F1 a 1 = F a 1 → e = ((u * 13 + A (a + 1) k.toNat + 6) * 10) + ((sp_w g u (A (a + 1) k.toNat)).length : Int) → ((u * 13 + A (a + 1) k.toNat + 6) * 10) + 1 ≤ w ∧ w ≤ e + 1 → 0 ≤ ((u * 13 + A (a + 1) k.toNat + 6) * 10) ∧ ((u * 13 + A (a + 1) k.toNat + 6) * 10) ≤ 2070 → (sp_w g u (A (a + 1) k.toNat)).length ≤ 9 → gs_stk (A1 7) s.toNat = sp_all (sp_tw (sp_w g u) (gs_stk (A (a + 1)) k.toNat)) (gs_sl (A 6) (((u * 13 + A (a + 1) k.toNat + 6) * 10).toNat + 1) (w - ((u * 13 + A (a + 1) k.toNat + 6) * 10) - 1).toNat) → A1 (a + 1) = A (a + 1) → A1 6 = A 6 → (F1 a 1 - k) * 30 - 15 + (e - w) < (nN : Int) → sA m_X7_doTwist 2 (fun rv F' A' => ∃ z : Int, rv = some (gs_iv z) ∧ gs_I F' A' ∧ gs_fr (fun c j => c = a ∧ j = 1) (fun c => c = 7 ∨ c = a + 1) F A F' A' ∧ ((z = 1 ∧ (sp_tw (sp_w g u) (gs_stk (A (a + 1)) (F a 1).toNat)).length ≤ 400 ∧ gs_stk (A' (a + 1)) (F' a 1).toNat = sp_tw (sp_w g u) (gs_stk (A (a + 1)) (F a 1).toNat)) ∨ (z = 0 ∧ 400 < (sp_tw (sp_w g u) (gs_stk (A (a + 1)) (F a 1).toNat)).length))) 107 [(8, gs_iv w), (7, gs_iv e), (5, gs_iv k), (4, gs_iv s), (3, gs_iv m), (0, .ref 5), (2, .ref a)] [] F1 A1) := by
  intro nN
  induction nN with
  | zero =>
    exact ⟨fun a0 a1 a2 a3 a4 a5 a6 i0 i1 i2 i3 i4 i5 i6 hm => by exfalso; omega, fun a0 a1 a2 a3 a4 a5 a6 a7 a8 i0 i1 i2 i3 i4 i5 i6 i7 i8 i9 i10 hm => by exfalso; omega⟩
  | succ nN ih =>
    refine ⟨?_, ?_⟩
    · skip
      intro m s k F1 A1 hI1 hf1 i0 i1 i2 i3 i4 i5 i6 hm
      have b1 := gs_row_sz hr hI1
      have u2 : A1 (a + 1) = A1 (a + 1) := rfl
      have u3 : A1 6 = A1 6 := rfl
      have u4 : A1 7 = A1 7 := rfl
      refine sA_iload dd_X7_doTwist_34 (.head _) ?_
      refine sA_aload_n dd_X7_doTwist_36 rfl (.tail _ (.tail _ (.tail _ (.tail _ (.head _))))) ?_
      refine sA_geti (ci := 4) (j := 1) (q := (RX4, TX4, 2)) dd_X7_doTwist_37 rfl (by decide) fl_X7_38 (Nat.lt_of_succ_lt hr.1) hr.2.1 rfl ?_
      refine sA_icmp_ge (tgt := 183) dd_X7_doTwist_40 (by decide) (by omega) (by omega) (fun q5 => ?_) (fun q5 => ?_)
      · skip
        refine sA_iload dd_X7_doTwist_183 (.tail _ (.head _)) ?_
        refine sA_sipush (z := 400) dd_X7_doTwist_185 (by decide) ?_
        refine sA_icmp_gt (tgt := 201) dd_X7_doTwist_188 (by decide) (by omega) (by omega) (fun q6 => ?_) (fun q6 => ?_)
        · skip
          refine sA_iconst (z := 0) dd_X7_doTwist_201 ?_
          refine sA_bret (z := 0) dd_X7_doTwist_202 rfl (by omega) ?_
          refine ⟨_, rfl, hI1, hf1, ?_⟩
          refine .inr ⟨rfl, ?_⟩
          rw [show F a 1 = k by omega, ← i4, gs_stk_len]
          omega
        · skip
          refine sA_iload dd_X7_doTwist_191 (.tail _ (.head _)) ?_
          refine sA_aload_n dd_X7_doTwist_193 rfl (.tail _ (.tail _ (.tail _ (.tail _ (.head _))))) ?_
          refine sA_getr (ci := 4) (j := 0) (q := (RX4, TX4, 2)) dd_X7_doTwist_194 rfl (by decide) fl_X7_69 (Nat.lt_of_succ_lt hr.1) hr.2.1 rfl ?_
          refine sA_alen (n := L) dd_X7_doTwist_197 hr.1 hr.2.2.1 ?_
          have b7 := hr.2.2.2.2.2
          refine sA_icmp_le (tgt := 203) dd_X7_doTwist_198 (by decide) (by omega) (by omega) (fun q8 => ?_) (fun q8 => ?_)
          · skip
            refine sA_aload_n dd_X7_doTwist_203 rfl (.tail _ (.tail _ (.tail _ (.head _)))) ?_
            refine sA_getr (ci := 7) (j := 2) (q := (RX7, TX7, 5)) dd_X7_doTwist_204 rfl (by decide) fl_X7_15 (by decide) gs_s5 rfl ?_
            refine sA_iconst (z := 0) dd_X7_doTwist_207 ?_
            refine sA_aload_n dd_X7_doTwist_208 rfl (.tail _ (.tail _ (.tail _ (.tail _ (.head _))))) ?_
            refine sA_getr (ci := 4) (j := 0) (q := (RX4, TX4, 2)) dd_X7_doTwist_209 rfl (by decide) fl_X7_69 (Nat.lt_of_succ_lt hr.1) hr.2.1 rfl ?_
            refine sA_iconst (z := 0) dd_X7_doTwist_212 ?_
            refine sA_iload dd_X7_doTwist_213 (.tail _ (.head _)) ?_
            refine sA_copy (n1 := 3600) (n2 := L) dd_X7_doTwist_215 (ri_lw_in (pl := 348) (by decide +kernel)) gs_copyok (by decide) gs_s7 hr.1 hr.2.2.1 (by omega) (by omega) (by omega) (by omega) (by omega) (by decide) (Nat.le_trans hr.2.2.2.2.2.2 (by decide)) (by decide) (Nat.le_of_ble_eq_true rfl) ?_
            have I10 : gs_I F1 (gs_cp A1 7 (a + 1) (0 : Int).toNat (0 : Int).toNat s.toNat) := gs_I_cp hI1 (b := (a + 1)) (a := 7) (p := ((-9), 9)) (q := ((-9), 9)) hr.2.2.2.2.1 rfl (by decide)
            have f11 := gs_fr_cp hf1 (a := 7) (b := (a + 1)) (sp := (0 : Int).toNat) (dp := (0 : Int).toNat) (n := s.toNat) (by first | omega | (dsimp only; omega) | (dsimp only) | fail)
            have u12 : (gs_cp A1 7 (a + 1) (0 : Int).toNat (0 : Int).toNat s.toNat) (a + 1) = gs_cc (A1 7) (A1 (a + 1)) (0 : Int).toNat (0 : Int).toNat s.toNat := (gs_cp_u A1 7 (a + 1) _ _ _).trans (by rw [u4, u2])
            have u13 : (gs_cp A1 7 (a + 1) (0 : Int).toNat (0 : Int).toNat s.toNat) 6 = A1 6 := (gs_cp_row _ (by omega)).trans u3
            have u14 : (gs_cp A1 7 (a + 1) (0 : Int).toNat (0 : Int).toNat s.toNat) 7 = A1 7 := (gs_cp_row _ (by omega)).trans u4
            generalize gs_cp A1 7 (a + 1) (0 : Int).toNat (0 : Int).toNat s.toNat = A9 at I10 f11 u12 u13 u14 ⊢
            refine sA_aload_n dd_X7_doTwist_218 rfl (.tail _ (.tail _ (.tail _ (.tail _ (.head _))))) ?_
            refine sA_iload dd_X7_doTwist_219 (.tail _ (.head _)) ?_
            refine sA_put (ci := 4) (j := 1) (q := (RX4, TX4, 2)) (ty := .int) dd_X7_doTwist_221 rfl (by decide) fl_X7_38 rfl (tyX4_ok 1 (by decide)) rfl rfl (Nat.lt_of_succ_lt hr.1) hr.2.1 rfl ?_
            have I16 : gs_I (gs_up F1 a 1 s) A9 := gs_row_put hr I10 (by omega)
            have f17 := gs_fr_put f11 (a := a) (z := s) (j := 1) (by first | omega | (dsimp only; omega) | (dsimp only) | fail)
            have v18 : gs_up F1 a 1 s a 1 = s := gs_up_self _ _ _ _
            generalize gs_up F1 a 1 s = F15 at I16 f17 v18 ⊢
            refine sA_iconst (z := 1) dd_X7_doTwist_224 ?_
            refine sA_bret (z := 1) dd_X7_doTwist_225 rfl (by omega) ?_
            refine ⟨_, rfl, I16, f17, ?_⟩
            have e1 : (F a 1) = k := by omega
            refine .inl ⟨rfl, ?_, ?_⟩
            · rw [e1, ← i4, gs_stk_len]
              omega
            · rw [e1, ← i4, show F15 a 1 = s by omega]
              refine gs_stk_cg _ (fun i hi => ?_)
              rw [u12]
              unfold gs_cc
              rw [if_pos (by omega)]
              congr 1
              omega
          · skip
            refine sA_iconst (z := 0) dd_X7_doTwist_201 ?_
            refine sA_bret (z := 0) dd_X7_doTwist_202 rfl (by omega) ?_
            refine ⟨_, rfl, hI1, hf1, ?_⟩
            refine .inr ⟨rfl, ?_⟩
            rw [show F a 1 = k by omega, ← i4, gs_stk_len]
            omega
      · skip
        refine sA_iload_n dd_X7_doTwist_43 rfl (.tail _ (.tail _ (.head _))) ?_
        refine sA_aload_n dd_X7_doTwist_44 rfl (.tail _ (.tail _ (.tail _ (.tail _ (.head _))))) ?_
        refine sA_getr (ci := 4) (j := 0) (q := (RX4, TX4, 2)) dd_X7_doTwist_45 rfl (by decide) fl_X7_69 (Nat.lt_of_succ_lt hr.1) hr.2.1 rfl ?_
        refine sA_iload dd_X7_doTwist_48 (.head _) ?_
        refine sA_iald (n := L) dd_X7_doTwist_50 hr.1 hr.2.2.1 (by omega) (Nat.le_trans hr.2.2.2.2.2.2 (by decide)) ?_
        have b19 := gs_row_el hr hI1 k.toNat
        refine sA_bipush (z := 10) dd_X7_doTwist_51 (by decide) ?_
        refine sA_imul dd_X7_doTwist_53 ?_
        refine sA_iadd dd_X7_doTwist_54 ?_
        refine sA_istore (lv' := [(6, gs_iv (m + ((A1 (a + 1) k.toNat) * 10))), (5, gs_iv k), (4, gs_iv s), (3, gs_iv m), (0, .ref 5), (2, .ref a)]) dd_X7_doTwist_55 (by decide) rfl ?_
        have hVk := hV _ (gs_stk_mem (f := A (a + 1)) (F a 1).toNat k.toNat (by omega))
        have hxk : A1 (a + 1) k.toNat = A (a + 1) k.toNat := by rw [i5]
        have hWk := hW u (A (a + 1) k.toNat) hu2.1 hu2.2 hVk.1 hVk.2.1 hVk.2.2
        have hok := (sp_w_ok hg hu2 hVk).2
        have hslot : A1 6 (m + A1 (a + 1) k.toNat * 10).toNat = ((sp_w g u (A (a + 1) k.toNat)).length : Int) := by
          rw [i6, hxk, show m + A (a + 1) k.toNat * 10 = ((u * 13 + A (a + 1) k.toNat + 6) * 10) by omega]
          exact hWk.1
        refine sA_iload dd_X7_doTwist_57 (.head _) ?_
        refine sA_if_lt (tgt := 87) dd_X7_doTwist_59 (by decide) (by omega) (fun q20 => ?_) (fun q20 => ?_)
        · skip
          refine sA_iconst (z := 0) dd_X7_doTwist_87 ?_
          refine sA_bret (z := 0) dd_X7_doTwist_88 rfl (by omega) ?_
          refine ⟨_, rfl, hI1, hf1, ?_⟩
          exfalso
          omega
        · skip
          refine sA_iload dd_X7_doTwist_62 (.head _) ?_
          refine sA_bipush (z := 10) dd_X7_doTwist_64 (by decide) ?_
          refine sA_iadd dd_X7_doTwist_66 ?_
          refine sA_aload_n dd_X7_doTwist_67 rfl (.tail _ (.tail _ (.tail _ (.tail _ (.head _))))) ?_
          refine sA_getr (ci := 7) (j := 1) (q := (RX7, TX7, 5)) dd_X7_doTwist_68 rfl (by decide) fl_X7_11 (by decide) gs_s5 rfl ?_
          refine sA_alen (n := 2080) dd_X7_doTwist_71 (by decide) gs_s6 ?_
          refine sA_icmp_gt (tgt := 87) dd_X7_doTwist_72 (by decide) (by omega) (by omega) (fun q21 => ?_) (fun q21 => ?_)
          · skip
            refine sA_iconst (z := 0) dd_X7_doTwist_87 ?_
            refine sA_bret (z := 0) dd_X7_doTwist_88 rfl (by omega) ?_
            refine ⟨_, rfl, hI1, hf1, ?_⟩
            exfalso
            omega
          · skip
            refine sA_aload_n dd_X7_doTwist_75 rfl (.tail _ (.tail _ (.tail _ (.tail _ (.head _))))) ?_
            refine sA_getr (ci := 7) (j := 1) (q := (RX7, TX7, 5)) dd_X7_doTwist_76 rfl (by decide) fl_X7_11 (by decide) gs_s5 rfl ?_
            refine sA_iload dd_X7_doTwist_79 (.head _) ?_
            refine sA_iald (n := 2080) dd_X7_doTwist_81 (by decide) gs_s6 (by omega) (by decide) ?_
            have b22 : (-9 : Int) ≤ A1 6 (m + ((A1 (a + 1) k.toNat) * 10)).toNat ∧ A1 6 (m + ((A1 (a + 1) k.toNat) * 10)).toNat ≤ 9 := hI1.2 6 (m + ((A1 (a + 1) k.toNat) * 10)).toNat
            refine sA_bipush (z := 10) dd_X7_doTwist_82 (by decide) ?_
            refine sA_icmp_lt (tgt := 89) dd_X7_doTwist_84 (by decide) (by omega) (by omega) (fun q23 => ?_) (fun q23 => ?_)
            · skip
              refine sA_iload dd_X7_doTwist_89 (.head _) ?_
              refine sA_aload_n dd_X7_doTwist_91 rfl (.tail _ (.tail _ (.tail _ (.tail _ (.head _))))) ?_
              refine sA_getr (ci := 7) (j := 1) (q := (RX7, TX7, 5)) dd_X7_doTwist_92 rfl (by decide) fl_X7_11 (by decide) gs_s5 rfl ?_
              refine sA_iload dd_X7_doTwist_95 (.head _) ?_
              refine sA_iald (n := 2080) dd_X7_doTwist_97 (by decide) gs_s6 (by omega) (by decide) ?_
              refine sA_iadd dd_X7_doTwist_98 ?_
              refine sA_istore (lv' := [(7, gs_iv ((m + ((A1 (a + 1) k.toNat) * 10)) + (A1 6 (m + ((A1 (a + 1) k.toNat) * 10)).toNat))), (6, gs_iv (m + ((A1 (a + 1) k.toNat) * 10))), (5, gs_iv k), (4, gs_iv s), (3, gs_iv m), (0, .ref 5), (2, .ref a)]) dd_X7_doTwist_99 (by decide) rfl ?_
              refine sA_iload dd_X7_doTwist_101 (.tail _ (.head _)) ?_
              refine sA_iconst (z := 1) dd_X7_doTwist_103 ?_
              refine sA_iadd dd_X7_doTwist_104 ?_
              refine sA_istore (lv' := [(8, gs_iv ((m + ((A1 (a + 1) k.toNat) * 10)) + 1)), (7, gs_iv ((m + ((A1 (a + 1) k.toNat) * 10)) + (A1 6 (m + ((A1 (a + 1) k.toNat) * 10)).toNat))), (6, gs_iv (m + ((A1 (a + 1) k.toNat) * 10))), (5, gs_iv k), (4, gs_iv s), (3, gs_iv m), (0, .ref 5), (2, .ref a)]) dd_X7_doTwist_105 (by decide) rfl ?_
              refine sA_sub (lv2 := [(8, gs_iv ((m + ((A1 (a + 1) k.toNat) * 10)) + 1)), (7, gs_iv ((m + ((A1 (a + 1) k.toNat) * 10)) + (A1 6 (m + ((A1 (a + 1) k.toNat) * 10)).toNat))), (5, gs_iv k), (4, gs_iv s), (3, gs_iv m), (0, .ref 5), (2, .ref a)]) (List.forall_mem_cons.mpr ⟨(.head _), (List.forall_mem_cons.mpr ⟨(.tail _ (.head _)), (List.forall_mem_cons.mpr ⟨(.tail _ (.tail _ (.tail _ (.head _)))), (List.forall_mem_cons.mpr ⟨(.tail _ (.tail _ (.tail _ (.tail _ (.head _))))), (List.forall_mem_cons.mpr ⟨(.tail _ (.tail _ (.tail _ (.tail _ (.tail _ (.head _)))))), (List.forall_mem_cons.mpr ⟨(.tail _ (.tail _ (.tail _ (.tail _ (.tail _ (.tail _ (.head _))))))), (List.forall_mem_cons.mpr ⟨(.tail _ (.tail _ (.tail _ (.tail _ (.tail _ (.tail _ (.tail _ (.head _)))))))), (fun _ h => absurd h List.not_mem_nil)⟩)⟩)⟩)⟩)⟩)⟩)⟩) ?_
              exact ih.2 m s k ((m + ((A1 (a + 1) k.toNat) * 10)) + (A1 6 (m + ((A1 (a + 1) k.toNat) * 10)).toNat)) ((m + ((A1 (a + 1) k.toNat) * 10)) + 1) F1 A1 hI1 hf1 (by omega) (by omega) (by omega) (by omega) (by omega) (by omega) (by omega) (by omega) (by rw [show (((m + ((A1 (a + 1) k.toNat) * 10)) + 1) - ((u * 13 + A (a + 1) k.toNat + 6) * 10) - 1).toNat = 0 by omega]; exact i4) (u2.trans (by first | exact i5 | exact i9 | fail)) (u3.trans (by first | exact i6 | exact i10 | fail)) (by omega)
            · skip
              refine sA_iconst (z := 0) dd_X7_doTwist_87 ?_
              refine sA_bret (z := 0) dd_X7_doTwist_88 rfl (by omega) ?_
              refine ⟨_, rfl, hI1, hf1, ?_⟩
              exfalso
              omega
    · skip
      intro m s k e w F1 A1 hI1 hf1 i0 i1 i2 i3 i4 i5 i6 i7 i8 i9 i10 hm
      have b24 := gs_row_sz hr hI1
      have u25 : A1 (a + 1) = A1 (a + 1) := rfl
      have u26 : A1 6 = A1 6 := rfl
      have u27 : A1 7 = A1 7 := rfl
      refine sA_iload dd_X7_doTwist_107 (.head _) ?_
      refine sA_iload dd_X7_doTwist_109 (.tail _ (.head _)) ?_
      refine sA_icmp_gt (tgt := 177) dd_X7_doTwist_111 (by decide) (by omega) (by omega) (fun q28 => ?_) (fun q28 => ?_)
      · skip
        have hVk := hV _ (gs_stk_mem (f := A (a + 1)) (F a 1).toNat k.toNat (by omega))
        have hWk := hW u (A (a + 1) k.toNat) hu2.1 hu2.2 hVk.1 hVk.2.1 hVk.2.2
        refine sA_iinc (lv' := [(5, gs_iv (k + 1)), (8, gs_iv w), (7, gs_iv e), (4, gs_iv s), (3, gs_iv m), (0, .ref 5), (2, .ref a)]) dd_X7_doTwist_177 (.tail _ (.tail _ (.head _))) (by decide) rfl ?_
        refine sA_goto (tgt := 34) dd_X7_doTwist_180 (by decide) ?_
        refine sA_sub (lv2 := [(5, gs_iv (k + 1)), (4, gs_iv s), (3, gs_iv m), (0, .ref 5), (2, .ref a)]) (List.forall_mem_cons.mpr ⟨(.head _), (List.forall_mem_cons.mpr ⟨(.tail _ (.tail _ (.tail _ (.head _)))), (List.forall_mem_cons.mpr ⟨(.tail _ (.tail _ (.tail _ (.tail _ (.head _))))), (List.forall_mem_cons.mpr ⟨(.tail _ (.tail _ (.tail _ (.tail _ (.tail _ (.head _)))))), (List.forall_mem_cons.mpr ⟨(.tail _ (.tail _ (.tail _ (.tail _ (.tail _ (.tail _ (.head _))))))), (fun _ h => absurd h List.not_mem_nil)⟩)⟩)⟩)⟩)⟩) ?_
        exact ih.1 m s (k + 1) F1 A1 hI1 hf1 (by omega) (by omega) (by omega) (by omega) (by rw [show (k + 1).toNat = k.toNat + 1 by omega]; refine i8.trans ?_; rw [show (w - ((u * 13 + A (a + 1) k.toNat + 6) * 10) - 1).toNat = (sp_w g u (A (a + 1) k.toNat)).length by omega, hWk.2]; rfl) (u25.trans i9) (u26.trans i10) (by omega)
      · skip
        refine sA_aload_n dd_X7_doTwist_114 rfl (.tail _ (.tail _ (.tail _ (.tail _ (.tail _ (.head _)))))) ?_
        refine sA_getr (ci := 7) (j := 1) (q := (RX7, TX7, 5)) dd_X7_doTwist_115 rfl (by decide) fl_X7_11 (by decide) gs_s5 rfl ?_
        refine sA_iload dd_X7_doTwist_118 (.head _) ?_
        refine sA_iald (n := 2080) dd_X7_doTwist_120 (by decide) gs_s6 (by omega) (by decide) ?_
        have b29 : (-9 : Int) ≤ A1 6 w.toNat ∧ A1 6 w.toNat ≤ 9 := hI1.2 6 w.toNat
        refine sA_istore (lv' := [(9, gs_iv (A1 6 w.toNat)), (8, gs_iv w), (7, gs_iv e), (5, gs_iv k), (4, gs_iv s), (3, gs_iv m), (0, .ref 5), (2, .ref a)]) dd_X7_doTwist_121 (by decide) rfl ?_
        refine sA_iload dd_X7_doTwist_123 (.tail _ (.tail _ (.tail _ (.tail _ (.head _))))) ?_
        refine sA_if_le (tgt := 149) dd_X7_doTwist_125 (by decide) (by omega) (fun q30 => ?_) (fun q30 => ?_)
        · skip
          refine sA_iload dd_X7_doTwist_149 (.tail _ (.tail _ (.tail _ (.tail _ (.head _))))) ?_
          refine sA_aload_n dd_X7_doTwist_151 rfl (.tail _ (.tail _ (.tail _ (.tail _ (.tail _ (.tail _ (.head _))))))) ?_
          refine sA_getr (ci := 7) (j := 2) (q := (RX7, TX7, 5)) dd_X7_doTwist_152 rfl (by decide) fl_X7_15 (by decide) gs_s5 rfl ?_
          refine sA_alen (n := 3600) dd_X7_doTwist_155 (by decide) gs_s7 ?_
          refine sA_icmp_ge (tgt := 171) dd_X7_doTwist_156 (by decide) (by omega) (by omega) (fun q31 => ?_) (fun q31 => ?_)
          · skip
            refine sA_iinc (lv' := [(8, gs_iv (w + 1)), (9, gs_iv (A1 6 w.toNat)), (7, gs_iv e), (5, gs_iv k), (4, gs_iv s), (3, gs_iv m), (0, .ref 5), (2, .ref a)]) dd_X7_doTwist_171 (.tail _ (.head _)) (by decide) rfl ?_
            refine sA_goto (tgt := 107) dd_X7_doTwist_174 (by decide) ?_
            refine sA_sub (lv2 := [(8, gs_iv (w + 1)), (7, gs_iv e), (5, gs_iv k), (4, gs_iv s), (3, gs_iv m), (0, .ref 5), (2, .ref a)]) (List.forall_mem_cons.mpr ⟨(.head _), (List.forall_mem_cons.mpr ⟨(.tail _ (.tail _ (.head _))), (List.forall_mem_cons.mpr ⟨(.tail _ (.tail _ (.tail _ (.head _)))), (List.forall_mem_cons.mpr ⟨(.tail _ (.tail _ (.tail _ (.tail _ (.head _))))), (List.forall_mem_cons.mpr ⟨(.tail _ (.tail _ (.tail _ (.tail _ (.tail _ (.head _)))))), (List.forall_mem_cons.mpr ⟨(.tail _ (.tail _ (.tail _ (.tail _ (.tail _ (.tail _ (.head _))))))), (List.forall_mem_cons.mpr ⟨(.tail _ (.tail _ (.tail _ (.tail _ (.tail _ (.tail _ (.tail _ (.head _)))))))), (fun _ h => absurd h List.not_mem_nil)⟩)⟩)⟩)⟩)⟩)⟩)⟩) ?_
            exact ih.2 m s k e (w + 1) F1 A1 hI1 hf1 (by omega) (by omega) (by omega) (by omega) (by omega) (by omega) (by omega) (by omega) (by have hp : gs_psh s (A1 7) (A1 6 w.toNat) 3600 s (A1 7) := (by first | (exact .inl ⟨by omega, by omega, by omega, u27⟩) | (exact .inr (.inl ⟨by omega, by omega, by omega, u27⟩)) | (exact .inr (.inr ⟨by omega, by omega, by omega, u27⟩)) | fail); refine (gs_psh_stk (by omega) (by omega) hp).trans ?_; rw [i8, show ((w + 1) - ((u * 13 + A (a + 1) k.toNat + 6) * 10) - 1).toNat = (w - ((u * 13 + A (a + 1) k.toNat + 6) * 10) - 1).toNat + 1 by omega, sp_all_sl, i10, show w.toNat = ((u * 13 + A (a + 1) k.toNat + 6) * 10).toNat + 1 + (w - ((u * 13 + A (a + 1) k.toNat + 6) * 10) - 1).toNat by omega]) (u25.trans (by first | exact i5 | exact i9 | fail)) (u26.trans (by first | exact i6 | exact i10 | fail)) (by omega)
          · skip
            refine sA_aload_n dd_X7_doTwist_159 rfl (.tail _ (.tail _ (.tail _ (.tail _ (.tail _ (.tail _ (.head _))))))) ?_
            refine sA_getr (ci := 7) (j := 2) (q := (RX7, TX7, 5)) dd_X7_doTwist_160 rfl (by decide) fl_X7_15 (by decide) gs_s5 rfl ?_
            refine sA_iload dd_X7_doTwist_163 (.tail _ (.tail _ (.tail _ (.tail _ (.head _))))) ?_
            refine sA_iload dd_X7_doTwist_165 (.head _) ?_
            refine sA_iast (n := 3600) dd_X7_doTwist_167 (by decide) gs_s7 (by omega) (by decide) ?_
            have I33 : gs_I F1 (gs_up A1 7 s.toNat (A1 6 w.toNat)) := gs_I_ast hI1 (show (-9 : Int) ≤ A1 6 w.toNat ∧ A1 6 w.toNat ≤ 9 by omega)
            have f34 := gs_fr_ast hf1 (a := 7) (z := A1 6 w.toNat) (i := s.toNat) (by first | omega | (dsimp only; omega) | (dsimp only) | fail)
            have u35 : (gs_up A1 7 s.toNat (A1 6 w.toNat)) (a + 1) = A1 (a + 1) := (gs_up_row _ _ (by omega)).trans u25
            have u36 : (gs_up A1 7 s.toNat (A1 6 w.toNat)) 6 = A1 6 := (gs_up_row _ _ (by omega)).trans u26
            have u37 : (gs_up A1 7 s.toNat (A1 6 w.toNat)) 7 = gs_u (A1 7) s.toNat (A1 6 w.toNat) := (gs_up_u A1 7 s.toNat (A1 6 w.toNat)).trans (congrArg (fun f => gs_u f s.toNat (A1 6 w.toNat)) u27)
            generalize gs_up A1 7 s.toNat (A1 6 w.toNat) = A32 at I33 f34 u35 u36 u37 ⊢
            refine sA_iinc (lv' := [(4, gs_iv (s + 1)), (9, gs_iv (A1 6 w.toNat)), (8, gs_iv w), (7, gs_iv e), (5, gs_iv k), (3, gs_iv m), (0, .ref 5), (2, .ref a)]) dd_X7_doTwist_168 (.tail _ (.tail _ (.tail _ (.tail _ (.head _))))) (by decide) rfl ?_
            refine sA_iinc (lv' := [(8, gs_iv (w + 1)), (4, gs_iv (s + 1)), (9, gs_iv (A1 6 w.toNat)), (7, gs_iv e), (5, gs_iv k), (3, gs_iv m), (0, .ref 5), (2, .ref a)]) dd_X7_doTwist_171 (.tail _ (.tail _ (.head _))) (by decide) rfl ?_
            refine sA_goto (tgt := 107) dd_X7_doTwist_174 (by decide) ?_
            refine sA_sub (lv2 := [(8, gs_iv (w + 1)), (7, gs_iv e), (5, gs_iv k), (4, gs_iv (s + 1)), (3, gs_iv m), (0, .ref 5), (2, .ref a)]) (List.forall_mem_cons.mpr ⟨(.head _), (List.forall_mem_cons.mpr ⟨(.tail _ (.tail _ (.tail _ (.head _)))), (List.forall_mem_cons.mpr ⟨(.tail _ (.tail _ (.tail _ (.tail _ (.head _))))), (List.forall_mem_cons.mpr ⟨(.tail _ (.head _)), (List.forall_mem_cons.mpr ⟨(.tail _ (.tail _ (.tail _ (.tail _ (.tail _ (.head _)))))), (List.forall_mem_cons.mpr ⟨(.tail _ (.tail _ (.tail _ (.tail _ (.tail _ (.tail _ (.head _))))))), (List.forall_mem_cons.mpr ⟨(.tail _ (.tail _ (.tail _ (.tail _ (.tail _ (.tail _ (.tail _ (.head _)))))))), (fun _ h => absurd h List.not_mem_nil)⟩)⟩)⟩)⟩)⟩)⟩)⟩) ?_
            exact ih.2 m (s + 1) k e (w + 1) F1 A32 I33 f34 (by omega) (by omega) (by omega) (by omega) (by omega) (by omega) (by omega) (by omega) (by have hp : gs_psh s (A1 7) (A1 6 w.toNat) 3600 (s + 1) (A32 7) := (by first | (exact .inl ⟨by omega, by omega, by omega, u37⟩) | (exact .inr (.inl ⟨by omega, by omega, by omega, u37⟩)) | (exact .inr (.inr ⟨by omega, by omega, by omega, u37⟩)) | fail); refine (gs_psh_stk (by omega) (by omega) hp).trans ?_; rw [i8, show ((w + 1) - ((u * 13 + A (a + 1) k.toNat + 6) * 10) - 1).toNat = (w - ((u * 13 + A (a + 1) k.toNat + 6) * 10) - 1).toNat + 1 by omega, sp_all_sl, i10, show w.toNat = ((u * 13 + A (a + 1) k.toNat + 6) * 10).toNat + 1 + (w - ((u * 13 + A (a + 1) k.toNat + 6) * 10) - 1).toNat by omega]) (u35.trans (by first | exact i5 | exact i9 | fail)) (u36.trans (by first | exact i6 | exact i10 | fail)) (by omega)
        · skip
          refine sA_aload_n dd_X7_doTwist_128 rfl (.tail _ (.tail _ (.tail _ (.tail _ (.tail _ (.tail _ (.head _))))))) ?_
          refine sA_getr (ci := 7) (j := 2) (q := (RX7, TX7, 5)) dd_X7_doTwist_129 rfl (by decide) fl_X7_15 (by decide) gs_s5 rfl ?_
          refine sA_iload dd_X7_doTwist_132 (.tail _ (.tail _ (.tail _ (.tail _ (.head _))))) ?_
          refine sA_iconst (z := 1) dd_X7_doTwist_134 ?_
          refine sA_isub dd_X7_doTwist_135 ?_
          refine sA_iald (n := 3600) dd_X7_doTwist_136 (by decide) gs_s7 (by omega) (by decide) ?_
          have b38 : (-9 : Int) ≤ A1 7 (s - 1).toNat ∧ A1 7 (s - 1).toNat ≤ 9 := hI1.2 7 (s - 1).toNat
          refine sA_iload dd_X7_doTwist_137 (.head _) ?_
          refine sA_ineg dd_X7_doTwist_139 ?_
          refine sA_icmp_ne (tgt := 149) dd_X7_doTwist_140 (by decide) (by omega) (by omega) (fun q39 => ?_) (fun q39 => ?_)
          · skip
            refine sA_iload dd_X7_doTwist_149 (.tail _ (.tail _ (.tail _ (.tail _ (.head _))))) ?_
            refine sA_aload_n dd_X7_doTwist_151 rfl (.tail _ (.tail _ (.tail _ (.tail _ (.tail _ (.tail _ (.head _))))))) ?_
            refine sA_getr (ci := 7) (j := 2) (q := (RX7, TX7, 5)) dd_X7_doTwist_152 rfl (by decide) fl_X7_15 (by decide) gs_s5 rfl ?_
            refine sA_alen (n := 3600) dd_X7_doTwist_155 (by decide) gs_s7 ?_
            refine sA_icmp_ge (tgt := 171) dd_X7_doTwist_156 (by decide) (by omega) (by omega) (fun q40 => ?_) (fun q40 => ?_)
            · skip
              refine sA_iinc (lv' := [(8, gs_iv (w + 1)), (9, gs_iv (A1 6 w.toNat)), (7, gs_iv e), (5, gs_iv k), (4, gs_iv s), (3, gs_iv m), (0, .ref 5), (2, .ref a)]) dd_X7_doTwist_171 (.tail _ (.head _)) (by decide) rfl ?_
              refine sA_goto (tgt := 107) dd_X7_doTwist_174 (by decide) ?_
              refine sA_sub (lv2 := [(8, gs_iv (w + 1)), (7, gs_iv e), (5, gs_iv k), (4, gs_iv s), (3, gs_iv m), (0, .ref 5), (2, .ref a)]) (List.forall_mem_cons.mpr ⟨(.head _), (List.forall_mem_cons.mpr ⟨(.tail _ (.tail _ (.head _))), (List.forall_mem_cons.mpr ⟨(.tail _ (.tail _ (.tail _ (.head _)))), (List.forall_mem_cons.mpr ⟨(.tail _ (.tail _ (.tail _ (.tail _ (.head _))))), (List.forall_mem_cons.mpr ⟨(.tail _ (.tail _ (.tail _ (.tail _ (.tail _ (.head _)))))), (List.forall_mem_cons.mpr ⟨(.tail _ (.tail _ (.tail _ (.tail _ (.tail _ (.tail _ (.head _))))))), (List.forall_mem_cons.mpr ⟨(.tail _ (.tail _ (.tail _ (.tail _ (.tail _ (.tail _ (.tail _ (.head _)))))))), (fun _ h => absurd h List.not_mem_nil)⟩)⟩)⟩)⟩)⟩)⟩)⟩) ?_
              exact ih.2 m s k e (w + 1) F1 A1 hI1 hf1 (by omega) (by omega) (by omega) (by omega) (by omega) (by omega) (by omega) (by omega) (by have hp : gs_psh s (A1 7) (A1 6 w.toNat) 3600 s (A1 7) := (by first | (exact .inl ⟨by omega, by omega, by omega, u27⟩) | (exact .inr (.inl ⟨by omega, by omega, by omega, u27⟩)) | (exact .inr (.inr ⟨by omega, by omega, by omega, u27⟩)) | fail); refine (gs_psh_stk (by omega) (by omega) hp).trans ?_; rw [i8, show ((w + 1) - ((u * 13 + A (a + 1) k.toNat + 6) * 10) - 1).toNat = (w - ((u * 13 + A (a + 1) k.toNat + 6) * 10) - 1).toNat + 1 by omega, sp_all_sl, i10, show w.toNat = ((u * 13 + A (a + 1) k.toNat + 6) * 10).toNat + 1 + (w - ((u * 13 + A (a + 1) k.toNat + 6) * 10) - 1).toNat by omega]) (u25.trans (by first | exact i5 | exact i9 | fail)) (u26.trans (by first | exact i6 | exact i10 | fail)) (by omega)
            · skip
              refine sA_aload_n dd_X7_doTwist_159 rfl (.tail _ (.tail _ (.tail _ (.tail _ (.tail _ (.tail _ (.head _))))))) ?_
              refine sA_getr (ci := 7) (j := 2) (q := (RX7, TX7, 5)) dd_X7_doTwist_160 rfl (by decide) fl_X7_15 (by decide) gs_s5 rfl ?_
              refine sA_iload dd_X7_doTwist_163 (.tail _ (.tail _ (.tail _ (.tail _ (.head _))))) ?_
              refine sA_iload dd_X7_doTwist_165 (.head _) ?_
              refine sA_iast (n := 3600) dd_X7_doTwist_167 (by decide) gs_s7 (by omega) (by decide) ?_
              have I42 : gs_I F1 (gs_up A1 7 s.toNat (A1 6 w.toNat)) := gs_I_ast hI1 (show (-9 : Int) ≤ A1 6 w.toNat ∧ A1 6 w.toNat ≤ 9 by omega)
              have f43 := gs_fr_ast hf1 (a := 7) (z := A1 6 w.toNat) (i := s.toNat) (by first | omega | (dsimp only; omega) | (dsimp only) | fail)
              have u44 : (gs_up A1 7 s.toNat (A1 6 w.toNat)) (a + 1) = A1 (a + 1) := (gs_up_row _ _ (by omega)).trans u25
              have u45 : (gs_up A1 7 s.toNat (A1 6 w.toNat)) 6 = A1 6 := (gs_up_row _ _ (by omega)).trans u26
              have u46 : (gs_up A1 7 s.toNat (A1 6 w.toNat)) 7 = gs_u (A1 7) s.toNat (A1 6 w.toNat) := (gs_up_u A1 7 s.toNat (A1 6 w.toNat)).trans (congrArg (fun f => gs_u f s.toNat (A1 6 w.toNat)) u27)
              generalize gs_up A1 7 s.toNat (A1 6 w.toNat) = A41 at I42 f43 u44 u45 u46 ⊢
              refine sA_iinc (lv' := [(4, gs_iv (s + 1)), (9, gs_iv (A1 6 w.toNat)), (8, gs_iv w), (7, gs_iv e), (5, gs_iv k), (3, gs_iv m), (0, .ref 5), (2, .ref a)]) dd_X7_doTwist_168 (.tail _ (.tail _ (.tail _ (.tail _ (.head _))))) (by decide) rfl ?_
              refine sA_iinc (lv' := [(8, gs_iv (w + 1)), (4, gs_iv (s + 1)), (9, gs_iv (A1 6 w.toNat)), (7, gs_iv e), (5, gs_iv k), (3, gs_iv m), (0, .ref 5), (2, .ref a)]) dd_X7_doTwist_171 (.tail _ (.tail _ (.head _))) (by decide) rfl ?_
              refine sA_goto (tgt := 107) dd_X7_doTwist_174 (by decide) ?_
              refine sA_sub (lv2 := [(8, gs_iv (w + 1)), (7, gs_iv e), (5, gs_iv k), (4, gs_iv (s + 1)), (3, gs_iv m), (0, .ref 5), (2, .ref a)]) (List.forall_mem_cons.mpr ⟨(.head _), (List.forall_mem_cons.mpr ⟨(.tail _ (.tail _ (.tail _ (.head _)))), (List.forall_mem_cons.mpr ⟨(.tail _ (.tail _ (.tail _ (.tail _ (.head _))))), (List.forall_mem_cons.mpr ⟨(.tail _ (.head _)), (List.forall_mem_cons.mpr ⟨(.tail _ (.tail _ (.tail _ (.tail _ (.tail _ (.head _)))))), (List.forall_mem_cons.mpr ⟨(.tail _ (.tail _ (.tail _ (.tail _ (.tail _ (.tail _ (.head _))))))), (List.forall_mem_cons.mpr ⟨(.tail _ (.tail _ (.tail _ (.tail _ (.tail _ (.tail _ (.tail _ (.head _)))))))), (fun _ h => absurd h List.not_mem_nil)⟩)⟩)⟩)⟩)⟩)⟩)⟩) ?_
              exact ih.2 m (s + 1) k e (w + 1) F1 A41 I42 f43 (by omega) (by omega) (by omega) (by omega) (by omega) (by omega) (by omega) (by omega) (by have hp : gs_psh s (A1 7) (A1 6 w.toNat) 3600 (s + 1) (A41 7) := (by first | (exact .inl ⟨by omega, by omega, by omega, u46⟩) | (exact .inr (.inl ⟨by omega, by omega, by omega, u46⟩)) | (exact .inr (.inr ⟨by omega, by omega, by omega, u46⟩)) | fail); refine (gs_psh_stk (by omega) (by omega) hp).trans ?_; rw [i8, show ((w + 1) - ((u * 13 + A (a + 1) k.toNat + 6) * 10) - 1).toNat = (w - ((u * 13 + A (a + 1) k.toNat + 6) * 10) - 1).toNat + 1 by omega, sp_all_sl, i10, show w.toNat = ((u * 13 + A (a + 1) k.toNat + 6) * 10).toNat + 1 + (w - ((u * 13 + A (a + 1) k.toNat + 6) * 10) - 1).toNat by omega]) (u44.trans (by first | exact i5 | exact i9 | fail)) (u45.trans (by first | exact i6 | exact i10 | fail)) (by omega)
          · skip
            refine sA_iinc (lv' := [(4, gs_iv (s + (-1))), (9, gs_iv (A1 6 w.toNat)), (8, gs_iv w), (7, gs_iv e), (5, gs_iv k), (3, gs_iv m), (0, .ref 5), (2, .ref a)]) dd_X7_doTwist_143 (.tail _ (.tail _ (.tail _ (.tail _ (.head _))))) (by decide) rfl ?_
            refine sA_goto (tgt := 171) dd_X7_doTwist_146 (by decide) ?_
            refine sA_iinc (lv' := [(8, gs_iv (w + 1)), (4, gs_iv (s + (-1))), (9, gs_iv (A1 6 w.toNat)), (7, gs_iv e), (5, gs_iv k), (3, gs_iv m), (0, .ref 5), (2, .ref a)]) dd_X7_doTwist_171 (.tail _ (.tail _ (.head _))) (by decide) rfl ?_
            refine sA_goto (tgt := 107) dd_X7_doTwist_174 (by decide) ?_
            refine sA_sub (lv2 := [(8, gs_iv (w + 1)), (7, gs_iv e), (5, gs_iv k), (4, gs_iv (s + (-1))), (3, gs_iv m), (0, .ref 5), (2, .ref a)]) (List.forall_mem_cons.mpr ⟨(.head _), (List.forall_mem_cons.mpr ⟨(.tail _ (.tail _ (.tail _ (.head _)))), (List.forall_mem_cons.mpr ⟨(.tail _ (.tail _ (.tail _ (.tail _ (.head _))))), (List.forall_mem_cons.mpr ⟨(.tail _ (.head _)), (List.forall_mem_cons.mpr ⟨(.tail _ (.tail _ (.tail _ (.tail _ (.tail _ (.head _)))))), (List.forall_mem_cons.mpr ⟨(.tail _ (.tail _ (.tail _ (.tail _ (.tail _ (.tail _ (.head _))))))), (List.forall_mem_cons.mpr ⟨(.tail _ (.tail _ (.tail _ (.tail _ (.tail _ (.tail _ (.tail _ (.head _)))))))), (fun _ h => absurd h List.not_mem_nil)⟩)⟩)⟩)⟩)⟩)⟩)⟩) ?_
            exact ih.2 m (s + (-1)) k e (w + 1) F1 A1 hI1 hf1 (by omega) (by omega) (by omega) (by omega) (by omega) (by omega) (by omega) (by omega) (by have hp : gs_psh s (A1 7) (A1 6 w.toNat) 3600 (s + (-1)) (A1 7) := (by first | (exact .inl ⟨by omega, by omega, by omega, u27⟩) | (exact .inr (.inl ⟨by omega, by omega, by omega, u27⟩)) | (exact .inr (.inr ⟨by omega, by omega, by omega, u27⟩)) | fail); refine (gs_psh_stk (by omega) (by omega) hp).trans ?_; rw [i8, show ((w + 1) - ((u * 13 + A (a + 1) k.toNat + 6) * 10) - 1).toNat = (w - ((u * 13 + A (a + 1) k.toNat + 6) * 10) - 1).toNat + 1 by omega, sp_all_sl, i10, show w.toNat = ((u * 13 + A (a + 1) k.toNat + 6) * 10).toNat + 1 + (w - ((u * 13 + A (a + 1) k.toNat + 6) * 10) - 1).toNat by omega]) (u25.trans (by first | exact i5 | exact i9 | fail)) (u26.trans (by first | exact i6 | exact i10 | fail)) (by omega)
theorem c_X7_doTwist_vf {a L : Nat} {u : Int} {g : Int} {F A : gs_F} (hI : gs_I F A) (hu : -2147483648 ≤ u ∧ u ≤ 2147483647) (hr : gs_row a L) (hg : 1 ≤ g ∧ g ≤ 3) (hu2 : 0 ≤ u ∧ u < 6 * g - 2) (hW : gs_W (A 6) g) (hV : sp_val g (gs_stk (A (a + 1)) (F a 1).toNat)) (hL : L = 400) (ha18 : 18 ≤ a) : sC m_X7_doTwist 2 [.ref 5, gs_iv u, .ref a] F A (fun rv F' A' => ∃ z : Int, rv = some (gs_iv z) ∧ gs_I F' A' ∧ gs_fr (fun c j => c = a ∧ j = 1) (fun c => c = 7 ∨ c = a + 1) F A F' A' ∧ ((z = 1 ∧ (sp_tw (sp_w g u) (gs_stk (A (a + 1)) (F a 1).toNat)).length ≤ 400 ∧ gs_stk (A' (a + 1)) (F' a 1).toNat = sp_tw (sp_w g u) (gs_stk (A (a + 1)) (F a 1).toNat)) ∨ (z = 0 ∧ 400 < (sp_tw (sp_w g u) (gs_stk (A (a + 1)) (F a 1).toNat)).length))) := by
  refine sC_of ok_X7_doTwist.1 (Nat.le_of_ble_eq_true rfl) ?_
  show sA _ _ _ 0 [(0, .ref 5), (1, gs_iv u), (2, .ref a)] [] F A
  have hf : gs_fr (fun c j => c = a ∧ j = 1) (fun c => c = 7 ∨ c = a + 1) F A F A := gs_fr_refl _ _ _ _
  have b47 := gs_row_sz hr hI
  have u48 : A (a + 1) = A (a + 1) := rfl
  have u49 : A 6 = A 6 := rfl
  have u50 : A 7 = A 7 := rfl
  refine sA_iload_n dd_X7_doTwist_0 rfl (.tail _ (.head _)) ?_
  refine sA_if_lt (tgt := 20) dd_X7_doTwist_1 (by decide) (by omega) (fun q51 => ?_) (fun q51 => ?_)
  · skip
    refine sA_iconst (z := 0) dd_X7_doTwist_20 ?_
    refine sA_bret (z := 0) dd_X7_doTwist_21 rfl (by omega) ?_
    refine ⟨_, rfl, hI, hf, ?_⟩
    exfalso
    omega
  · skip
    refine sA_iload_n dd_X7_doTwist_4 rfl (.tail _ (.head _)) ?_
    refine sA_bipush (z := 16) dd_X7_doTwist_5 (by decide) ?_
    refine sA_icmp_ge (tgt := 20) dd_X7_doTwist_7 (by decide) (by omega) (by omega) (fun q52 => ?_) (fun q52 => ?_)
    · skip
      refine sA_iconst (z := 0) dd_X7_doTwist_20 ?_
      refine sA_bret (z := 0) dd_X7_doTwist_21 rfl (by omega) ?_
      refine ⟨_, rfl, hI, hf, ?_⟩
      exfalso
      omega
    · skip
      refine sA_aload_n dd_X7_doTwist_10 rfl (.tail _ (.tail _ (.head _))) ?_
      refine sA_geti (ci := 4) (j := 1) (q := (RX4, TX4, 2)) dd_X7_doTwist_11 rfl (by decide) fl_X7_38 (Nat.lt_of_succ_lt hr.1) hr.2.1 rfl ?_
      refine sA_sipush (z := 400) dd_X7_doTwist_14 (by decide) ?_
      refine sA_icmp_le (tgt := 22) dd_X7_doTwist_17 (by decide) (by omega) (by omega) (fun q53 => ?_) (fun q53 => ?_)
      · skip
        refine sA_iload_n dd_X7_doTwist_22 rfl (.tail _ (.head _)) ?_
        refine sA_iconst (z := 0) dd_X7_doTwist_23 ?_
        refine sA_callS (y2 := m_X7_slotOf) (n2 := 2) (d2 := 1) (as := [gs_iv u, gs_iv 0]) (rest := []) dd_X7_doTwist_24 ok_X7_slotOf ml_X7_65 rfl rfl (Nat.le_of_ble_eq_true rfl) (by decide) (c_X7_slotOf ) (fun r54 F55 A56 h57 => ?_)
        obtain ⟨z60, e59, e61, e62, x58⟩ := h57
        subst e59 e61 e62
        show sA _ _ _ 27 _ [gs_iv z60] _ _
        refine sA_istore_n (lv' := [(3, gs_iv z60), (0, .ref 5), (1, gs_iv u), (2, .ref a)]) dd_X7_doTwist_27 rfl (by decide) rfl ?_
        refine sA_iconst (z := 0) dd_X7_doTwist_28 ?_
        refine sA_istore (lv' := [(4, gs_iv 0), (3, gs_iv z60), (0, .ref 5), (1, gs_iv u), (2, .ref a)]) dd_X7_doTwist_29 (by decide) rfl ?_
        refine sA_iconst (z := 0) dd_X7_doTwist_31 ?_
        refine sA_istore (lv' := [(5, gs_iv 0), (4, gs_iv 0), (3, gs_iv z60), (0, .ref 5), (1, gs_iv u), (2, .ref a)]) dd_X7_doTwist_32 (by decide) rfl ?_
        refine sA_sub (lv2 := [(5, gs_iv 0), (4, gs_iv 0), (3, gs_iv z60), (0, .ref 5), (2, .ref a)]) (List.forall_mem_cons.mpr ⟨(.head _), (List.forall_mem_cons.mpr ⟨(.tail _ (.head _)), (List.forall_mem_cons.mpr ⟨(.tail _ (.tail _ (.head _))), (List.forall_mem_cons.mpr ⟨(.tail _ (.tail _ (.tail _ (.head _)))), (List.forall_mem_cons.mpr ⟨(.tail _ (.tail _ (.tail _ (.tail _ (.tail _ (.head _)))))), (fun _ h => absurd h List.not_mem_nil)⟩)⟩)⟩)⟩)⟩) ?_
        exact (k_X7_doTwist_vf hI hu hr hg hu2 hW hV hL ha18 ((F a 1 - 0) * 30 + 1 : Int).toNat.succ).1 z60 0 0 F A hI hf (by omega) (by omega) (by omega) (by omega) (by rfl) rfl rfl (by omega)
      · skip
        refine sA_iconst (z := 0) dd_X7_doTwist_20 ?_
        refine sA_bret (z := 0) dd_X7_doTwist_21 rfl (by omega) ?_
        refine ⟨_, rfl, hI, hf, ?_⟩
        exfalso
        omega
theorem k_X7_doPlan_vf {a L b : Nat} {g : Int} {F A : gs_F} (hI : gs_I F A) (ho : gs_plan b) (hr : gs_row a L) (hg : 1 ≤ g ∧ g ≤ 3) (hcd : ∀ i : Int, 0 ≤ i → i < F b 1 → 0 ≤ A (b + 1) i.toNat ∧ A (b + 1) i.toNat < 6 * g - 2) (hW : gs_W (A 6) g) (hV : sp_val g (gs_stk (A (a + 1)) (F a 1).toNat)) (hL : L = 400) (ha18 : 18 ≤ a) (hb44 : b = 44 ∨ b = 50 ∨ b = 52 ∨ 90 ≤ b) (hab : a + 1 < b ∨ b + 1 < a) : ∀ nN : Nat, (∀ (k : Int)  (F1 A1 : gs_F), gs_I F1 A1 → gs_fr (fun c j => c = a ∧ j = 1) (fun c => c = 7 ∨ c = a + 1) F A F1 A1 → -1 ≤ k ∧ k ≤ 59 → sp_pl (fun u => sp_tw (sp_w g u)) (A (b + 1)) (F b 1).toNat (gs_stk (A (a + 1)) (F a 1).toNat) = sp_pl (fun u => sp_tw (sp_w g u)) (A (b + 1)) (k + 1).toNat (gs_stk (A1 (a + 1)) (F1 a 1).toNat) → sp_val g (gs_stk (A1 (a + 1)) (F1 a 1).toNat) → k < F b 1 → k + 1 < (nN : Int) → sA m_X7_doPlan 3 (fun rv F' A' => ∃ z : Int, rv = some (gs_iv z) ∧ gs_I F' A' ∧ gs_fr (fun c j => c = a ∧ j = 1) (fun c => c = 7 ∨ c = a + 1) F A F' A' ∧ ((z = 1 ∧ sp_pl (fun u => sp_tw (sp_w g u)) (A (b + 1)) (F b 1).toNat (gs_stk (A (a + 1)) (F a 1).toNat) = some (gs_stk (A' (a + 1)) (F' a 1).toNat)) ∨ (z = 0 ∧ sp_pl (fun u => sp_tw (sp_w g u)) (A (b + 1)) (F b 1).toNat (gs_stk (A (a + 1)) (F a 1).toNat) = none))) 7 [(3, gs_iv k), (0, .ref 5), (1, .ref b), (2, .ref a)] [] F1 A1) := by
  intro nN
  induction nN with
  | zero =>
    exact fun a0 a1 a2 a3 a4 i0 i1 i2 i3 hm => by exfalso; omega
  | succ nN ih =>
    intro k F1 A1 hI1 hf1 i0 i1 i2 i3 hm
    have b1 := gs_plan_sz ho hI1
    have b2 := gs_row_sz hr hI1
    refine sA_iload_n dd_X7_doPlan_7 rfl (.head _) ?_
    refine sA_if_lt (tgt := 33) dd_X7_doPlan_8 (by decide) (by omega) (fun q3 => ?_) (fun q3 => ?_)
    · skip
      refine sA_iconst (z := 1) dd_X7_doPlan_33 ?_
      refine sA_bret (z := 1) dd_X7_doPlan_34 rfl (by omega) ?_
      refine ⟨_, rfl, hI1, hf1, ?_⟩
      refine .inl ⟨rfl, i1.trans ?_⟩
      rw [show (k + 1).toNat = 0 by omega]
      rfl
    · skip
      have hb1 : A1 (b + 1) = A (b + 1) := hf1.2 (b + 1) (by dsimp only; omega)
      have hcode : A1 (b + 1) k.toNat = A (b + 1) k.toNat := by rw [hb1]
      have hck := hcd k (by omega) (by omega)
      have hW1 : gs_W (A1 6) g := by rw [hf1.2 6 (by dsimp only; omega)]; exact hW
      have hV1 := i2
      refine sA_aload_n dd_X7_doPlan_11 rfl (.tail _ (.head _)) ?_
      refine sA_aload_n dd_X7_doPlan_12 rfl (.tail _ (.tail _ (.head _))) ?_
      refine sA_getr (ci := 2) (j := 0) (q := (RX2, TX2, 2)) dd_X7_doPlan_13 rfl (by decide) fl_X7_81 (Nat.lt_of_succ_lt ho.1) ho.2.1 rfl ?_
      refine sA_iload_n dd_X7_doPlan_16 rfl (.head _) ?_
      refine sA_iald (n := 60) dd_X7_doPlan_17 ho.1 ho.2.2.1 (by omega) (by decide) ?_
      have b4 := gs_plan_el ho hI1 k.toNat
      refine sA_aload_n dd_X7_doPlan_18 rfl (.tail _ (.tail _ (.tail _ (.head _)))) ?_
      refine sA_callV (y2 := m_X7_doTwist) (n2 := 2) (d2 := 2) (a := 5) (ci := 7) (q := (RX7, TX7, 5)) (as := [gs_iv (A1 (b + 1) k.toNat), .ref a]) (rest := []) dd_X7_doPlan_19 ok_X7_doTwist ml_X7_84 rfl rfl (by decide) gs_s5 rfl rfl (Nat.le_of_ble_eq_true rfl) (by decide) (c_X7_doTwist_vf hI1 (by omega) hr hg (by omega) hW1 hV1 hL (by omega)) (fun r5 F6 A7 h8 => ?_)
      obtain ⟨z11, e10, I12, f13, x9⟩ := h8
      subst e10
      have v14 : F6 b 1 = F1 b 1 := f13.1 b 1 (by first | exact id | omega | (dsimp only; omega) | (dsimp only) | fail)
      have f15 := gs_fr_tr hf1 f13 (fun b j h => by first | exact False.elim h | omega | (dsimp only at h ⊢; omega) | fail) (fun b h => by first | exact False.elim h | omega | (dsimp only at h ⊢; omega) | fail)
      have y16 : (z11 = 1 ∧ (sp_tw (sp_w g (A1 (b + 1) k.toNat)) (gs_stk (A1 (a + 1)) (F1 a 1).toNat)).length ≤ 400 ∧ gs_stk (A7 (a + 1)) (F6 a 1).toNat = sp_tw (sp_w g (A1 (b + 1) k.toNat)) (gs_stk (A1 (a + 1)) (F1 a 1).toNat)) ∨ (z11 = 0 ∧ 400 < (sp_tw (sp_w g (A1 (b + 1) k.toNat)) (gs_stk (A1 (a + 1)) (F1 a 1).toNat)).length) := x9
      clear x9
      show sA _ _ _ 22 _ [gs_iv z11] _ _
      refine sA_if_ne (tgt := 27) dd_X7_doPlan_22 (by decide) (by omega) (fun q17 => ?_) (fun q17 => ?_)
      · skip
        refine sA_iinc (lv' := [(3, gs_iv (k + (-1))), (0, .ref 5), (1, .ref b), (2, .ref a)]) dd_X7_doPlan_27 (.head _) (by decide) rfl ?_
        refine sA_goto (tgt := 7) dd_X7_doPlan_30 (by decide) ?_
        have b18 := gs_plan_sz ho I12
        have b19 := gs_row_sz hr I12
        refine sA_sub (lv2 := [(3, gs_iv (k + (-1))), (0, .ref 5), (1, .ref b), (2, .ref a)]) (List.forall_mem_cons.mpr ⟨(.head _), (List.forall_mem_cons.mpr ⟨(.tail _ (.head _)), (List.forall_mem_cons.mpr ⟨(.tail _ (.tail _ (.head _))), (List.forall_mem_cons.mpr ⟨(.tail _ (.tail _ (.tail _ (.head _)))), (fun _ h => absurd h List.not_mem_nil)⟩)⟩)⟩)⟩) ?_
        exact ih (k + (-1)) F6 A7 I12 f15 (by omega) (by rcases y16 with y | y <;> first | (exfalso; omega) | exact i1.trans (sp_pl_step2 (by omega) (by omega) hcode y.2.1 y.2.2) | fail) (by rcases y16 with y | y <;> first | (exfalso; omega) | (rw [y.2.2]; exact sp_tw_val hg (by omega) _ i2) | fail) (by omega) (by omega)
      · skip
        refine sA_iconst (z := 0) dd_X7_doPlan_25 ?_
        refine sA_bret (z := 0) dd_X7_doPlan_26 rfl (by omega) ?_
        refine ⟨_, rfl, I12, f15, ?_⟩
        rcases y16 with y | y
        · exfalso
          omega
        · exact .inr ⟨rfl, i1.trans (sp_pl_none2 (by omega) hcode y.2)⟩
theorem c_X7_doPlan_vf {a L b : Nat} {g : Int} {F A : gs_F} (hI : gs_I F A) (ho : gs_plan b) (hr : gs_row a L) (hg : 1 ≤ g ∧ g ≤ 3) (hcd : ∀ i : Int, 0 ≤ i → i < F b 1 → 0 ≤ A (b + 1) i.toNat ∧ A (b + 1) i.toNat < 6 * g - 2) (hW : gs_W (A 6) g) (hV : sp_val g (gs_stk (A (a + 1)) (F a 1).toNat)) (hL : L = 400) (ha18 : 18 ≤ a) (hb44 : b = 44 ∨ b = 50 ∨ b = 52 ∨ 90 ≤ b) (hab : a + 1 < b ∨ b + 1 < a) : sC m_X7_doPlan 3 [.ref 5, .ref b, .ref a] F A (fun rv F' A' => ∃ z : Int, rv = some (gs_iv z) ∧ gs_I F' A' ∧ gs_fr (fun c j => c = a ∧ j = 1) (fun c => c = 7 ∨ c = a + 1) F A F' A' ∧ ((z = 1 ∧ sp_pl (fun u => sp_tw (sp_w g u)) (A (b + 1)) (F b 1).toNat (gs_stk (A (a + 1)) (F a 1).toNat) = some (gs_stk (A' (a + 1)) (F' a 1).toNat)) ∨ (z = 0 ∧ sp_pl (fun u => sp_tw (sp_w g u)) (A (b + 1)) (F b 1).toNat (gs_stk (A (a + 1)) (F a 1).toNat) = none))) := by
  refine sC_of ok_X7_doPlan.1 (Nat.le_of_ble_eq_true rfl) ?_
  show sA _ _ _ 0 [(0, .ref 5), (1, .ref b), (2, .ref a)] [] F A
  have hf : gs_fr (fun c j => c = a ∧ j = 1) (fun c => c = 7 ∨ c = a + 1) F A F A := gs_fr_refl _ _ _ _
  have b20 := gs_plan_sz ho hI
  have b21 := gs_row_sz hr hI
  refine sA_aload_n dd_X7_doPlan_0 rfl (.tail _ (.head _)) ?_
  refine sA_geti (ci := 2) (j := 1) (q := (RX2, TX2, 2)) dd_X7_doPlan_1 rfl (by decide) fl_X7_78 (Nat.lt_of_succ_lt ho.1) ho.2.1 rfl ?_
  refine sA_iconst (z := 1) dd_X7_doPlan_4 ?_
  refine sA_isub dd_X7_doPlan_5 ?_
  refine sA_istore_n (lv' := [(3, gs_iv ((F b 1) - 1)), (0, .ref 5), (1, .ref b), (2, .ref a)]) dd_X7_doPlan_6 rfl (by decide) rfl ?_
  refine sA_sub (lv2 := [(3, gs_iv ((F b 1) - 1)), (0, .ref 5), (1, .ref b), (2, .ref a)]) (List.forall_mem_cons.mpr ⟨(.head _), (List.forall_mem_cons.mpr ⟨(.tail _ (.head _)), (List.forall_mem_cons.mpr ⟨(.tail _ (.tail _ (.head _))), (List.forall_mem_cons.mpr ⟨(.tail _ (.tail _ (.tail _ (.head _)))), (fun _ h => absurd h List.not_mem_nil)⟩)⟩)⟩)⟩) ?_
  exact (k_X7_doPlan_vf hI ho hr hg hcd hW hV hL ha18 hb44 hab (((F b 1) - 1) + 1 : Int).toNat.succ) ((F b 1) - 1) F A hI hf (by omega) (by rw [show F b 1 - 1 + 1 = F b 1 by omega]) hV (by omega) (by omega)
end
