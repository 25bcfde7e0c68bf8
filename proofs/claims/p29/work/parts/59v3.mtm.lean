noncomputable section
theorem c_X9_ofV_vf {i : Int} {F A : gs_F} (hI : gs_I F A) (hi : 0 ≤ i ∧ i ≤ 100000) (hs : 1 ≤ F 106 11) : sC m_X9_ofV 1 [.ref 106, gs_iv i] F A (fun rv F' A' => ∃ z : Int, rv = some (gs_iv z) ∧ F = F' ∧ A = A' ∧ (z = A 113 (i % F 106 11).toNat ∧ -9 ≤ z ∧ z ≤ 9)) := by
  refine sC_of ok_X9_ofV.1 (Nat.le_of_ble_eq_true rfl) ?_
  show sA _ _ _ 0 [(0, .ref 106), (1, gs_iv i)] [] F A
  refine sA_aload_n dd_X9_ofV_0 rfl (.head _) ?_
  refine sA_getr (ci := 9) (j := 10) (q := (RX9, TX9, 28)) dd_X9_ofV_1 rfl (by decide) fl_X9_28 (by decide) gs_s106 rfl ?_
  refine sA_iload_n dd_X9_ofV_4 rfl (.tail _ (.head _)) ?_
  refine sA_aload_n dd_X9_ofV_5 rfl (.head _) ?_
  refine sA_geti (ci := 9) (j := 11) (q := (RX9, TX9, 28)) dd_X9_ofV_6 rfl (by decide) fl_X9_86 (by decide) gs_s106 rfl ?_
  have b1 : (0 : Int) ≤ F 106 11 ∧ F 106 11 ≤ 60 := hI.1 106 11
  refine sA_iremN dd_X9_ofV_9 (by omega) (by omega) (by omega) ?_
  have hm1 := Int.emod_nonneg i (show F 106 11 ≠ 0 by omega)
  have hm2 := Int.emod_lt_of_pos i (show 0 < F 106 11 by omega)
  refine sA_iald (n := 400) dd_X9_ofV_10 (by decide) gs_s113 (by omega) (by decide) ?_
  have b2 : (-9 : Int) ≤ A 113 (i % (F 106 11)).toNat ∧ A 113 (i % (F 106 11)).toNat ≤ 9 := hI.2 113 (i % (F 106 11)).toNat
  refine sA_iret (z := A 113 (i % (F 106 11)).toNat) dd_X9_ofV_11 rfl ?_
  exact ⟨_, rfl, rfl, rfl, by omega⟩
theorem k_X9_isPower_vf {r : Int} {F A : gs_F} (hI : gs_I F A) (hr : 0 ≤ r ∧ r < 12) : ∀ nN : Nat, (∀ (n : Int) (p : Int),  0 ≤ n ∧ n ≤ 60 → 1 ≤ p ∧ p ≤ 61 → n = A 108 r.toNat → (∀ d : Int, 1 ≤ d → d < p → ¬ (n % d = 0 ∧ gs_rep (fun i => A 109 (60 * r.toNat + i)) n d)) → (61 - p) * 70 + 1 < (nN : Int) → sA m_X9_isPower 1 (fun rv F' A' => ∃ z : Int, rv = some (gs_iv z) ∧ F = F' ∧ A = A' ∧ ((z = 1 ∧ gs_pow (fun i => A 109 (60 * r.toNat + i)) (A 108 r.toNat)) ∨ (z = 0 ∧ ¬ gs_pow (fun i => A 109 (60 * r.toNat + i)) (A 108 r.toNat)))) 9 [(3, gs_iv p), (2, gs_iv n), (0, .ref 106), (1, gs_iv r)] [] F A) ∧ (∀ (n : Int) (p : Int) (b : Int) (k : Int),  0 ≤ n ∧ n ≤ 60 → 1 ≤ p ∧ p < n → b = 0 ∨ b = 1 → 0 ≤ k ∧ k ≤ 60 → n = A 108 r.toNat → (∀ d : Int, 1 ≤ d → d < p → ¬ (n % d = 0 ∧ gs_rep (fun i => A 109 (60 * r.toNat + i)) n d)) → (b = 1 → n % p = 0 ∧ ∀ j : Int, p ≤ j → j < k + p → (fun i => A 109 (60 * r.toNat + i)) j.toNat = (fun i => A 109 (60 * r.toNat + i)) (j - p).toNat) → (b = 0 → ¬ (n % p = 0 ∧ gs_rep (fun i => A 109 (60 * r.toNat + i)) n p)) → (61 - p) * 70 - k < (nN : Int) → sA m_X9_isPower 1 (fun rv F' A' => ∃ z : Int, rv = some (gs_iv z) ∧ F = F' ∧ A = A' ∧ ((z = 1 ∧ gs_pow (fun i => A 109 (60 * r.toNat + i)) (A 108 r.toNat)) ∨ (z = 0 ∧ ¬ gs_pow (fun i => A 109 (60 * r.toNat + i)) (A 108 r.toNat)))) 30 [(5, gs_iv k), (4, gs_iv b), (3, gs_iv p), (2, gs_iv n), (0, .ref 106), (1, gs_iv r)] [] F A) := by
  intro nN
  induction nN with
  | zero =>
    exact ⟨fun a0 a1 i0 i1 i2 i3 hm => by exfalso; omega, fun a0 a1 a2 a3 i0 i1 i2 i3 i4 i5 i6 i7 hm => by exfalso; omega⟩
  | succ nN ih =>
    refine ⟨?_, ?_⟩
    · skip
      intro n p i0 i1 i2 i3 hm
      refine sA_iload_n dd_X9_isPower_9 rfl (.head _) ?_
      refine sA_iload_n dd_X9_isPower_10 rfl (.tail _ (.head _)) ?_
      refine sA_icmp_ge (tgt := 98) dd_X9_isPower_11 (by decide) (by omega) (by omega) (fun q1 => ?_) (fun q1 => ?_)
      · skip
        refine sA_iconst (z := 0) dd_X9_isPower_98 ?_
        refine sA_bret (z := 0) dd_X9_isPower_99 rfl (by omega) ?_
        refine ⟨_, rfl, rfl, rfl, ?_⟩
        exact .inr ⟨rfl, fun ⟨d, h1, h2, h3, h4⟩ => i3 d h1 (by omega) ⟨by rw [i2]; exact h3, by rw [i2]; exact h4⟩⟩
      · skip
        refine sA_iload_n dd_X9_isPower_14 rfl (.tail _ (.head _)) ?_
        refine sA_iload_n dd_X9_isPower_15 rfl (.head _) ?_
        refine sA_iremN dd_X9_isPower_16 (by omega) (by omega) (by omega) ?_
        have hm1 := Int.emod_nonneg n (show p ≠ 0 by omega)
        have hm2 := Int.emod_lt_of_pos n (show 0 < p by omega)
        refine sA_if_ne (tgt := 24) dd_X9_isPower_17 (by decide) (by omega) (fun q2 => ?_) (fun q2 => ?_)
        · skip
          refine sA_iconst (z := 0) dd_X9_isPower_24 ?_
          refine sA_istore (lv' := [(4, gs_iv 0), (3, gs_iv p), (2, gs_iv n), (0, .ref 106), (1, gs_iv r)]) dd_X9_isPower_25 (by decide) rfl ?_
          refine sA_iconst (z := 0) dd_X9_isPower_27 ?_
          refine sA_istore (lv' := [(5, gs_iv 0), (4, gs_iv 0), (3, gs_iv p), (2, gs_iv n), (0, .ref 106), (1, gs_iv r)]) dd_X9_isPower_28 (by decide) rfl ?_
          refine sA_sub (lv2 := [(5, gs_iv 0), (4, gs_iv 0), (3, gs_iv p), (2, gs_iv n), (0, .ref 106), (1, gs_iv r)]) (List.forall_mem_cons.mpr ⟨(.head _), (List.forall_mem_cons.mpr ⟨(.tail _ (.head _)), (List.forall_mem_cons.mpr ⟨(.tail _ (.tail _ (.head _))), (List.forall_mem_cons.mpr ⟨(.tail _ (.tail _ (.tail _ (.head _)))), (List.forall_mem_cons.mpr ⟨(.tail _ (.tail _ (.tail _ (.tail _ (.head _))))), (List.forall_mem_cons.mpr ⟨(.tail _ (.tail _ (.tail _ (.tail _ (.tail _ (.head _)))))), (fun _ h => absurd h List.not_mem_nil)⟩)⟩)⟩)⟩)⟩)⟩) ?_
          exact ih.2 n p 0 0  (by omega) (by omega) (by omega) (by omega) (by omega) i3 (fun h0 => ⟨by omega, fun j h1 h2 => by exfalso; omega⟩) (fun h0 q => by have q1 := q.1; omega) (by omega)
        · skip
          refine sA_iconst (z := 1) dd_X9_isPower_20 ?_
          refine sA_goto (tgt := 25) dd_X9_isPower_21 (by decide) ?_
          refine sA_istore (lv' := [(4, gs_iv 1), (3, gs_iv p), (2, gs_iv n), (0, .ref 106), (1, gs_iv r)]) dd_X9_isPower_25 (by decide) rfl ?_
          refine sA_iconst (z := 0) dd_X9_isPower_27 ?_
          refine sA_istore (lv' := [(5, gs_iv 0), (4, gs_iv 1), (3, gs_iv p), (2, gs_iv n), (0, .ref 106), (1, gs_iv r)]) dd_X9_isPower_28 (by decide) rfl ?_
          refine sA_sub (lv2 := [(5, gs_iv 0), (4, gs_iv 1), (3, gs_iv p), (2, gs_iv n), (0, .ref 106), (1, gs_iv r)]) (List.forall_mem_cons.mpr ⟨(.head _), (List.forall_mem_cons.mpr ⟨(.tail _ (.head _)), (List.forall_mem_cons.mpr ⟨(.tail _ (.tail _ (.head _))), (List.forall_mem_cons.mpr ⟨(.tail _ (.tail _ (.tail _ (.head _)))), (List.forall_mem_cons.mpr ⟨(.tail _ (.tail _ (.tail _ (.tail _ (.head _))))), (List.forall_mem_cons.mpr ⟨(.tail _ (.tail _ (.tail _ (.tail _ (.tail _ (.head _)))))), (fun _ h => absurd h List.not_mem_nil)⟩)⟩)⟩)⟩)⟩)⟩) ?_
          exact ih.2 n p 1 0  (by omega) (by omega) (by omega) (by omega) (by omega) i3 (fun h0 => ⟨by omega, fun j h1 h2 => by exfalso; omega⟩) (fun h0 q => by have q1 := q.1; omega) (by omega)
    · skip
      intro n p b k i0 i1 i2 i3 i4 i5 i6 i7 hm
      refine sA_iload dd_X9_isPower_30 (.head _) ?_
      refine sA_iload_n dd_X9_isPower_32 rfl (.tail _ (.tail _ (.head _))) ?_
      refine sA_iadd dd_X9_isPower_33 ?_
      refine sA_iload_n dd_X9_isPower_34 rfl (.tail _ (.tail _ (.tail _ (.head _)))) ?_
      refine sA_icmp_ge (tgt := 85) dd_X9_isPower_35 (by decide) (by omega) (by omega) (fun q3 => ?_) (fun q3 => ?_)
      · skip
        refine sA_iload dd_X9_isPower_85 (.tail _ (.head _)) ?_
        refine sA_if_eq (tgt := 92) dd_X9_isPower_87 (by decide) (by omega) (fun q4 => ?_) (fun q4 => ?_)
        · skip
          refine sA_iinc (lv' := [(3, gs_iv (p + 1)), (5, gs_iv k), (4, gs_iv b), (2, gs_iv n), (0, .ref 106), (1, gs_iv r)]) dd_X9_isPower_92 (.tail _ (.tail _ (.head _))) (by decide) rfl ?_
          refine sA_goto (tgt := 9) dd_X9_isPower_95 (by decide) ?_
          refine sA_sub (lv2 := [(3, gs_iv (p + 1)), (2, gs_iv n), (0, .ref 106), (1, gs_iv r)]) (List.forall_mem_cons.mpr ⟨(.head _), (List.forall_mem_cons.mpr ⟨(.tail _ (.tail _ (.tail _ (.head _)))), (List.forall_mem_cons.mpr ⟨(.tail _ (.tail _ (.tail _ (.tail _ (.head _))))), (List.forall_mem_cons.mpr ⟨(.tail _ (.tail _ (.tail _ (.tail _ (.tail _ (.head _)))))), (fun _ h => absurd h List.not_mem_nil)⟩)⟩)⟩)⟩) ?_
          exact ih.1 n (p + 1)  (by omega) (by omega) (by omega) (fun d h1 h2 => by by_cases h : d < p <;> first | exact i5 d h1 h | (rw [show d = p by omega]; exact i7 (by omega)) | fail) (by omega)
        · skip
          refine sA_iconst (z := 1) dd_X9_isPower_90 ?_
          refine sA_bret (z := 1) dd_X9_isPower_91 rfl (by omega) ?_
          refine ⟨_, rfl, rfl, rfl, ?_⟩
          exact .inl ⟨rfl, p, by omega, by omega, by rw [← i4]; exact (i6 (by omega)).1, by rw [← i4]; exact fun j h1 h2 => (i6 (by omega)).2 j h1 (by omega)⟩
      · skip
        refine sA_iload dd_X9_isPower_38 (.tail _ (.head _)) ?_
        refine sA_if_eq (tgt := 85) dd_X9_isPower_40 (by decide) (by omega) (fun q5 => ?_) (fun q5 => ?_)
        · skip
          refine sA_iload dd_X9_isPower_85 (.tail _ (.head _)) ?_
          refine sA_if_eq (tgt := 92) dd_X9_isPower_87 (by decide) (by omega) (fun q6 => ?_) (fun q6 => absurd q6 (by omega))
          refine sA_iinc (lv' := [(3, gs_iv (p + 1)), (5, gs_iv k), (4, gs_iv b), (2, gs_iv n), (0, .ref 106), (1, gs_iv r)]) dd_X9_isPower_92 (.tail _ (.tail _ (.head _))) (by decide) rfl ?_
          refine sA_goto (tgt := 9) dd_X9_isPower_95 (by decide) ?_
          refine sA_sub (lv2 := [(3, gs_iv (p + 1)), (2, gs_iv n), (0, .ref 106), (1, gs_iv r)]) (List.forall_mem_cons.mpr ⟨(.head _), (List.forall_mem_cons.mpr ⟨(.tail _ (.tail _ (.tail _ (.head _)))), (List.forall_mem_cons.mpr ⟨(.tail _ (.tail _ (.tail _ (.tail _ (.head _))))), (List.forall_mem_cons.mpr ⟨(.tail _ (.tail _ (.tail _ (.tail _ (.tail _ (.head _)))))), (fun _ h => absurd h List.not_mem_nil)⟩)⟩)⟩)⟩) ?_
          exact ih.1 n (p + 1)  (by omega) (by omega) (by omega) (fun d h1 h2 => by by_cases h : d < p <;> first | exact i5 d h1 h | (rw [show d = p by omega]; exact i7 (by omega)) | fail) (by omega)
        · skip
          refine sA_aload_n dd_X9_isPower_43 rfl (.tail _ (.tail _ (.tail _ (.tail _ (.head _))))) ?_
          refine sA_getr (ci := 9) (j := 5) (q := (RX9, TX9, 28)) dd_X9_isPower_44 rfl (by decide) fl_X9_16 (by decide) gs_s106 rfl ?_
          refine sA_bipush (z := 60) dd_X9_isPower_47 (by decide) ?_
          refine sA_iload_n dd_X9_isPower_49 rfl (.tail _ (.tail _ (.tail _ (.tail _ (.tail _ (.head _)))))) ?_
          refine sA_imul dd_X9_isPower_50 ?_
          refine sA_iload dd_X9_isPower_51 (.head _) ?_
          refine sA_iadd dd_X9_isPower_53 ?_
          refine sA_iald (n := 720) dd_X9_isPower_54 (by decide) gs_s109 (by omega) (by decide) ?_
          have b7 : (-9 : Int) ≤ A 109 ((60 * r) + k).toNat ∧ A 109 ((60 * r) + k).toNat ≤ 9 := hI.2 109 ((60 * r) + k).toNat
          refine sA_aload_n dd_X9_isPower_55 rfl (.tail _ (.tail _ (.tail _ (.tail _ (.head _))))) ?_
          refine sA_getr (ci := 9) (j := 5) (q := (RX9, TX9, 28)) dd_X9_isPower_56 rfl (by decide) fl_X9_16 (by decide) gs_s106 rfl ?_
          refine sA_bipush (z := 60) dd_X9_isPower_59 (by decide) ?_
          refine sA_iload_n dd_X9_isPower_61 rfl (.tail _ (.tail _ (.tail _ (.tail _ (.tail _ (.head _)))))) ?_
          refine sA_imul dd_X9_isPower_62 ?_
          refine sA_iload dd_X9_isPower_63 (.head _) ?_
          refine sA_iadd dd_X9_isPower_65 ?_
          refine sA_iload_n dd_X9_isPower_66 rfl (.tail _ (.tail _ (.head _))) ?_
          refine sA_iadd dd_X9_isPower_67 ?_
          refine sA_iald (n := 720) dd_X9_isPower_68 (by decide) gs_s109 (by omega) (by decide) ?_
          have b8 : (-9 : Int) ≤ A 109 (((60 * r) + k) + p).toNat ∧ A 109 (((60 * r) + k) + p).toNat ≤ 9 := hI.2 109 (((60 * r) + k) + p).toNat
          refine sA_icmp_ne (tgt := 76) dd_X9_isPower_69 (by decide) (by omega) (by omega) (fun q9 => ?_) (fun q9 => ?_)
          · skip
            refine sA_iconst (z := 0) dd_X9_isPower_76 ?_
            refine sA_istore (lv' := [(4, gs_iv 0), (5, gs_iv k), (3, gs_iv p), (2, gs_iv n), (0, .ref 106), (1, gs_iv r)]) dd_X9_isPower_77 (by decide) rfl ?_
            refine sA_iinc (lv' := [(5, gs_iv (k + 1)), (4, gs_iv 0), (3, gs_iv p), (2, gs_iv n), (0, .ref 106), (1, gs_iv r)]) dd_X9_isPower_79 (.tail _ (.head _)) (by decide) rfl ?_
            refine sA_goto (tgt := 30) dd_X9_isPower_82 (by decide) ?_
            refine sA_sub (lv2 := [(5, gs_iv (k + 1)), (4, gs_iv 0), (3, gs_iv p), (2, gs_iv n), (0, .ref 106), (1, gs_iv r)]) (List.forall_mem_cons.mpr ⟨(.head _), (List.forall_mem_cons.mpr ⟨(.tail _ (.head _)), (List.forall_mem_cons.mpr ⟨(.tail _ (.tail _ (.head _))), (List.forall_mem_cons.mpr ⟨(.tail _ (.tail _ (.tail _ (.head _)))), (List.forall_mem_cons.mpr ⟨(.tail _ (.tail _ (.tail _ (.tail _ (.head _))))), (List.forall_mem_cons.mpr ⟨(.tail _ (.tail _ (.tail _ (.tail _ (.tail _ (.head _)))))), (fun _ h => absurd h List.not_mem_nil)⟩)⟩)⟩)⟩)⟩)⟩) ?_
            exact ih.2 n p 0 (k + 1)  (by omega) (by omega) (by omega) (by omega) (by omega) i5 (fun h0 => ⟨(i6 (by omega)).1, mt_rep_1 (f := (fun i => A 109 (60 * r.toNat + i))) (i6 (by omega)).2 (mt_ri (f := A 109) (by omega) (by omega) (by omega) (by omega))⟩) (fun h0 q => by exfalso; first | omega | exact absurd (mt_rep_2 (f := (fun i => A 109 (60 * r.toNat + i))) (k := k) q.2 (by omega) (by omega)) (mt_rj (f := A 109) (r := r) (k := k) (p := p) (by omega) (by omega) (by omega) (by omega)) | fail) (by omega)
          · skip
            refine sA_iconst (z := 1) dd_X9_isPower_72 ?_
            refine sA_goto (tgt := 77) dd_X9_isPower_73 (by decide) ?_
            refine sA_istore (lv' := [(4, gs_iv 1), (5, gs_iv k), (3, gs_iv p), (2, gs_iv n), (0, .ref 106), (1, gs_iv r)]) dd_X9_isPower_77 (by decide) rfl ?_
            refine sA_iinc (lv' := [(5, gs_iv (k + 1)), (4, gs_iv 1), (3, gs_iv p), (2, gs_iv n), (0, .ref 106), (1, gs_iv r)]) dd_X9_isPower_79 (.tail _ (.head _)) (by decide) rfl ?_
            refine sA_goto (tgt := 30) dd_X9_isPower_82 (by decide) ?_
            refine sA_sub (lv2 := [(5, gs_iv (k + 1)), (4, gs_iv 1), (3, gs_iv p), (2, gs_iv n), (0, .ref 106), (1, gs_iv r)]) (List.forall_mem_cons.mpr ⟨(.head _), (List.forall_mem_cons.mpr ⟨(.tail _ (.head _)), (List.forall_mem_cons.mpr ⟨(.tail _ (.tail _ (.head _))), (List.forall_mem_cons.mpr ⟨(.tail _ (.tail _ (.tail _ (.head _)))), (List.forall_mem_cons.mpr ⟨(.tail _ (.tail _ (.tail _ (.tail _ (.head _))))), (List.forall_mem_cons.mpr ⟨(.tail _ (.tail _ (.tail _ (.tail _ (.tail _ (.head _)))))), (fun _ h => absurd h List.not_mem_nil)⟩)⟩)⟩)⟩)⟩)⟩) ?_
            exact ih.2 n p 1 (k + 1)  (by omega) (by omega) (by omega) (by omega) (by omega) i5 (fun h0 => ⟨(i6 (by omega)).1, mt_rep_1 (f := (fun i => A 109 (60 * r.toNat + i))) (i6 (by omega)).2 (mt_ri (f := A 109) (by omega) (by omega) (by omega) (by omega))⟩) (fun h0 q => by exfalso; first | omega | exact absurd (mt_rep_2 (f := (fun i => A 109 (60 * r.toNat + i))) (k := k) q.2 (by omega) (by omega)) (mt_rj (f := A 109) (r := r) (k := k) (p := p) (by omega) (by omega) (by omega) (by omega)) | fail) (by omega)
theorem c_X9_isPower_vf {r : Int} {F A : gs_F} (hI : gs_I F A) (hr : 0 ≤ r ∧ r < 12) : sC m_X9_isPower 1 [.ref 106, gs_iv r] F A (fun rv F' A' => ∃ z : Int, rv = some (gs_iv z) ∧ F = F' ∧ A = A' ∧ ((z = 1 ∧ gs_pow (fun i => A 109 (60 * r.toNat + i)) (A 108 r.toNat)) ∨ (z = 0 ∧ ¬ gs_pow (fun i => A 109 (60 * r.toNat + i)) (A 108 r.toNat)))) := by
  refine sC_of ok_X9_isPower.1 (Nat.le_of_ble_eq_true rfl) ?_
  show sA _ _ _ 0 [(0, .ref 106), (1, gs_iv r)] [] F A
  refine sA_aload_n dd_X9_isPower_0 rfl (.head _) ?_
  refine sA_getr (ci := 9) (j := 4) (q := (RX9, TX9, 28)) dd_X9_isPower_1 rfl (by decide) fl_X9_13 (by decide) gs_s106 rfl ?_
  refine sA_iload_n dd_X9_isPower_4 rfl (.tail _ (.head _)) ?_
  refine sA_iald (n := 12) dd_X9_isPower_5 (by decide) gs_s108 (by omega) (by decide) ?_
  have b10 : (0 : Int) ≤ A 108 r.toNat ∧ A 108 r.toNat ≤ 60 := hI.2 108 r.toNat
  refine sA_istore_n (lv' := [(2, gs_iv (A 108 r.toNat)), (0, .ref 106), (1, gs_iv r)]) dd_X9_isPower_6 rfl (by decide) rfl ?_
  refine sA_iconst (z := 1) dd_X9_isPower_7 ?_
  refine sA_istore_n (lv' := [(3, gs_iv 1), (2, gs_iv (A 108 r.toNat)), (0, .ref 106), (1, gs_iv r)]) dd_X9_isPower_8 rfl (by decide) rfl ?_
  refine sA_sub (lv2 := [(3, gs_iv 1), (2, gs_iv (A 108 r.toNat)), (0, .ref 106), (1, gs_iv r)]) (List.forall_mem_cons.mpr ⟨(.head _), (List.forall_mem_cons.mpr ⟨(.tail _ (.head _)), (List.forall_mem_cons.mpr ⟨(.tail _ (.tail _ (.head _))), (List.forall_mem_cons.mpr ⟨(.tail _ (.tail _ (.tail _ (.head _)))), (fun _ h => absurd h List.not_mem_nil)⟩)⟩)⟩)⟩) ?_
  exact (k_X9_isPower_vf hI hr ((61 - 1) * 70 + 1 : Int).toNat.succ).1 (A 108 r.toNat) 1  (by omega) (by omega) (by omega) (fun d h1 h2 => by exfalso; omega) (by omega)
theorem c_X9_placeOf_vf {x : Int} {F A : gs_F} (hx : -6 ≤ x ∧ x ≤ 6 ∧ x ≠ 0) : sC m_X9_placeOf 1 [gs_iv x] F A (fun rv F' A' => ∃ z : Int, rv = some (gs_iv z) ∧ F = F' ∧ A = A' ∧ (z = mt_pc x ∧ -100 ≤ z ∧ z ≤ 100)) := by
  refine sC_of ok_X9_placeOf.1 (Nat.le_of_ble_eq_true rfl) ?_
  show sA _ _ _ 0 [(0, gs_iv x)] [] F A
  refine sA_iload_n dd_X9_placeOf_0 rfl (.head _) ?_
  refine sA_if_ge (tgt := 10) dd_X9_placeOf_1 (by decide) (by omega) (fun q1 => ?_) (fun q1 => ?_)
  · skip
    refine sA_iload_n dd_X9_placeOf_10 rfl (.head _) ?_
    refine sA_istore_n (lv' := [(1, gs_iv x), (0, gs_iv x)]) dd_X9_placeOf_11 rfl (by decide) rfl ?_
    refine sA_iload_n dd_X9_placeOf_12 rfl (.head _) ?_
    refine sA_iconst (z := 1) dd_X9_placeOf_13 ?_
    refine sA_isub dd_X9_placeOf_14 ?_
    refine sA_iconst (z := 2) dd_X9_placeOf_15 ?_
    refine sA_idivN dd_X9_placeOf_16 (by omega) (by omega) (by omega) ?_
    refine sA_istore_n (lv' := [(2, gs_iv ((x - 1) / 2)), (1, gs_iv x), (0, gs_iv x)]) dd_X9_placeOf_17 rfl (by decide) rfl ?_
    refine sA_iload_n dd_X9_placeOf_18 rfl (.tail _ (.head _)) ?_
    refine sA_iconst (z := 2) dd_X9_placeOf_19 ?_
    refine sA_iremN dd_X9_placeOf_20 (by omega) (by omega) (by omega) ?_
    refine sA_iconst (z := 1) dd_X9_placeOf_21 ?_
    refine sA_icmp_ne (tgt := 29) dd_X9_placeOf_22 (by decide) (by omega) (by omega) (fun q2 => ?_) (fun q2 => ?_)
    · skip
      refine sA_iconst (z := 0) dd_X9_placeOf_29 ?_
      refine sA_istore_n (lv' := [(3, gs_iv 0), (2, gs_iv ((x - 1) / 2)), (1, gs_iv x), (0, gs_iv x)]) dd_X9_placeOf_30 rfl (by decide) rfl ?_
      refine sA_iconst (z := 4) dd_X9_placeOf_31 ?_
      refine sA_iload_n dd_X9_placeOf_32 rfl (.tail _ (.head _)) ?_
      refine sA_imul dd_X9_placeOf_33 ?_
      refine sA_iload_n dd_X9_placeOf_34 rfl (.head _) ?_
      refine sA_if_eq (tgt := 50) dd_X9_placeOf_35 (by decide) (by omega) (fun q3 => ?_) (fun q3 => absurd q3 (by omega))
      refine sA_iload_n dd_X9_placeOf_50 rfl (.tail _ (.tail _ (.tail _ (.head _)))) ?_
      refine sA_if_ge (tgt := 58) dd_X9_placeOf_51 (by decide) (by omega) (fun q4 => ?_) (fun q4 => absurd q4 (by omega))
      refine sA_iconst (z := 3) dd_X9_placeOf_58 ?_
      refine sA_iadd dd_X9_placeOf_59 ?_
      refine sA_iret (z := (4 * ((x - 1) / 2)) + 3) dd_X9_placeOf_60 rfl ?_
      refine ⟨_, rfl, rfl, rfl, ?_⟩
      refine ⟨?_, by omega⟩
      unfold mt_pc
      split <;> first | omega | (split <;> omega) | fail
    · skip
      refine sA_iconst (z := 1) dd_X9_placeOf_25 ?_
      refine sA_goto (tgt := 30) dd_X9_placeOf_26 (by decide) ?_
      refine sA_istore_n (lv' := [(3, gs_iv 1), (2, gs_iv ((x - 1) / 2)), (1, gs_iv x), (0, gs_iv x)]) dd_X9_placeOf_30 rfl (by decide) rfl ?_
      refine sA_iconst (z := 4) dd_X9_placeOf_31 ?_
      refine sA_iload_n dd_X9_placeOf_32 rfl (.tail _ (.head _)) ?_
      refine sA_imul dd_X9_placeOf_33 ?_
      refine sA_iload_n dd_X9_placeOf_34 rfl (.head _) ?_
      refine sA_if_eq (tgt := 50) dd_X9_placeOf_35 (by decide) (by omega) (fun q5 => absurd q5 (by omega)) (fun q5 => ?_)
      refine sA_iload_n dd_X9_placeOf_38 rfl (.tail _ (.tail _ (.tail _ (.head _)))) ?_
      refine sA_if_le (tgt := 46) dd_X9_placeOf_39 (by decide) (by omega) (fun q6 => ?_) (fun q6 => ?_)
      · skip
        refine sA_iconst (z := 2) dd_X9_placeOf_46 ?_
        refine sA_goto (tgt := 59) dd_X9_placeOf_47 (by decide) ?_
        refine sA_iadd dd_X9_placeOf_59 ?_
        refine sA_iret (z := (4 * ((x - 1) / 2)) + 2) dd_X9_placeOf_60 rfl ?_
        refine ⟨_, rfl, rfl, rfl, ?_⟩
        refine ⟨?_, by omega⟩
        unfold mt_pc
        split <;> first | omega | (split <;> omega) | fail
      · skip
        refine sA_iconst (z := 0) dd_X9_placeOf_42 ?_
        refine sA_goto (tgt := 59) dd_X9_placeOf_43 (by decide) ?_
        refine sA_iadd dd_X9_placeOf_59 ?_
        refine sA_iret (z := (4 * ((x - 1) / 2)) + 0) dd_X9_placeOf_60 rfl ?_
        refine ⟨_, rfl, rfl, rfl, ?_⟩
        refine ⟨?_, by omega⟩
        unfold mt_pc
        split <;> first | omega | (split <;> omega) | fail
  · skip
    refine sA_iconst (z := 0) dd_X9_placeOf_4 ?_
    refine sA_iload_n dd_X9_placeOf_5 rfl (.head _) ?_
    refine sA_isub dd_X9_placeOf_6 ?_
    refine sA_goto (tgt := 11) dd_X9_placeOf_7 (by decide) ?_
    refine sA_istore_n (lv' := [(1, gs_iv (0 - x)), (0, gs_iv x)]) dd_X9_placeOf_11 rfl (by decide) rfl ?_
    refine sA_iload_n dd_X9_placeOf_12 rfl (.head _) ?_
    refine sA_iconst (z := 1) dd_X9_placeOf_13 ?_
    refine sA_isub dd_X9_placeOf_14 ?_
    refine sA_iconst (z := 2) dd_X9_placeOf_15 ?_
    refine sA_idivN dd_X9_placeOf_16 (by omega) (by omega) (by omega) ?_
    refine sA_istore_n (lv' := [(2, gs_iv (((0 - x) - 1) / 2)), (1, gs_iv (0 - x)), (0, gs_iv x)]) dd_X9_placeOf_17 rfl (by decide) rfl ?_
    refine sA_iload_n dd_X9_placeOf_18 rfl (.tail _ (.head _)) ?_
    refine sA_iconst (z := 2) dd_X9_placeOf_19 ?_
    refine sA_iremN dd_X9_placeOf_20 (by omega) (by omega) (by omega) ?_
    refine sA_iconst (z := 1) dd_X9_placeOf_21 ?_
    refine sA_icmp_ne (tgt := 29) dd_X9_placeOf_22 (by decide) (by omega) (by omega) (fun q7 => ?_) (fun q7 => ?_)
    · skip
      refine sA_iconst (z := 0) dd_X9_placeOf_29 ?_
      refine sA_istore_n (lv' := [(3, gs_iv 0), (2, gs_iv (((0 - x) - 1) / 2)), (1, gs_iv (0 - x)), (0, gs_iv x)]) dd_X9_placeOf_30 rfl (by decide) rfl ?_
      refine sA_iconst (z := 4) dd_X9_placeOf_31 ?_
      refine sA_iload_n dd_X9_placeOf_32 rfl (.tail _ (.head _)) ?_
      refine sA_imul dd_X9_placeOf_33 ?_
      refine sA_iload_n dd_X9_placeOf_34 rfl (.head _) ?_
      refine sA_if_eq (tgt := 50) dd_X9_placeOf_35 (by decide) (by omega) (fun q8 => ?_) (fun q8 => absurd q8 (by omega))
      refine sA_iload_n dd_X9_placeOf_50 rfl (.tail _ (.tail _ (.tail _ (.head _)))) ?_
      refine sA_if_ge (tgt := 58) dd_X9_placeOf_51 (by decide) (by omega) (fun q9 => absurd q9 (by omega)) (fun q9 => ?_)
      refine sA_iconst (z := 1) dd_X9_placeOf_54 ?_
      refine sA_goto (tgt := 59) dd_X9_placeOf_55 (by decide) ?_
      refine sA_iadd dd_X9_placeOf_59 ?_
      refine sA_iret (z := (4 * (((0 - x) - 1) / 2)) + 1) dd_X9_placeOf_60 rfl ?_
      refine ⟨_, rfl, rfl, rfl, ?_⟩
      refine ⟨?_, by omega⟩
      unfold mt_pc
      split <;> first | omega | (split <;> omega) | fail
    · skip
      refine sA_iconst (z := 1) dd_X9_placeOf_25 ?_
      refine sA_goto (tgt := 30) dd_X9_placeOf_26 (by decide) ?_
      refine sA_istore_n (lv' := [(3, gs_iv 1), (2, gs_iv (((0 - x) - 1) / 2)), (1, gs_iv (0 - x)), (0, gs_iv x)]) dd_X9_placeOf_30 rfl (by decide) rfl ?_
      refine sA_iconst (z := 4) dd_X9_placeOf_31 ?_
      refine sA_iload_n dd_X9_placeOf_32 rfl (.tail _ (.head _)) ?_
      refine sA_imul dd_X9_placeOf_33 ?_
      refine sA_iload_n dd_X9_placeOf_34 rfl (.head _) ?_
      refine sA_if_eq (tgt := 50) dd_X9_placeOf_35 (by decide) (by omega) (fun q10 => absurd q10 (by omega)) (fun q10 => ?_)
      refine sA_iload_n dd_X9_placeOf_38 rfl (.tail _ (.tail _ (.tail _ (.head _)))) ?_
      refine sA_if_le (tgt := 46) dd_X9_placeOf_39 (by decide) (by omega) (fun q11 => ?_) (fun q11 => ?_)
      · skip
        refine sA_iconst (z := 2) dd_X9_placeOf_46 ?_
        refine sA_goto (tgt := 59) dd_X9_placeOf_47 (by decide) ?_
        refine sA_iadd dd_X9_placeOf_59 ?_
        refine sA_iret (z := (4 * (((0 - x) - 1) / 2)) + 2) dd_X9_placeOf_60 rfl ?_
        refine ⟨_, rfl, rfl, rfl, ?_⟩
        refine ⟨?_, by omega⟩
        unfold mt_pc
        split <;> first | omega | (split <;> omega) | fail
      · skip
        refine sA_iconst (z := 0) dd_X9_placeOf_42 ?_
        refine sA_goto (tgt := 59) dd_X9_placeOf_43 (by decide) ?_
        refine sA_iadd dd_X9_placeOf_59 ?_
        refine sA_iret (z := (4 * (((0 - x) - 1) / 2)) + 0) dd_X9_placeOf_60 rfl ?_
        refine ⟨_, rfl, rfl, rfl, ?_⟩
        refine ⟨?_, by omega⟩
        unfold mt_pc
        split <;> first | omega | (split <;> omega) | fail
theorem c_X9_farFrom_vf {x u : Int} {F A : gs_F} (hI : gs_I F A) (hx : -6 ≤ x ∧ x ≤ 6 ∧ x ≠ 0) (hu : -6 ≤ u ∧ u ≤ 6 ∧ u ≠ 0) : sC m_X9_farFrom 2 [.ref 106, gs_iv x, gs_iv u] F A (fun rv F' A' => ∃ z : Int, rv = some (gs_iv z) ∧ F = F' ∧ A = A' ∧ (z = mt_far (4 * F 106 0) x u ∧ -300 ≤ z ∧ z ≤ 300)) := by
  refine sC_of ok_X9_farFrom.1 (Nat.le_of_ble_eq_true rfl) ?_
  show sA _ _ _ 0 [(0, .ref 106), (1, gs_iv x), (2, gs_iv u)] [] F A
  have hb0 : (1 : Int) ≤ F 106 0 ∧ F 106 0 ≤ 3 := hI.1 106 0
  refine sA_iload_n dd_X9_farFrom_0 rfl (.tail _ (.tail _ (.head _))) ?_
  refine sA_callS (y2 := m_X9_placeOf) (n2 := 1) (d2 := 1) (as := [gs_iv u]) (rest := []) dd_X9_farFrom_1 ok_X9_placeOf ml_X9_116 rfl rfl (Nat.le_of_ble_eq_true rfl) (by decide) (c_X9_placeOf_vf (by omega)) (fun r1 F2 A3 h4 => ?_)
  obtain ⟨z7, e6, e8, e9, x5⟩ := h4
  subst e6 e8 e9
  have y10 : z7 = mt_pc u ∧ -100 ≤ z7 ∧ z7 ≤ 100 := x5
  clear x5
  show sA _ _ _ 4 _ [gs_iv z7] _ _
  refine sA_iload_n dd_X9_farFrom_4 rfl (.tail _ (.head _)) ?_
  refine sA_callS (y2 := m_X9_placeOf) (n2 := 1) (d2 := 1) (as := [gs_iv x]) (rest := [gs_iv z7]) dd_X9_farFrom_5 ok_X9_placeOf ml_X9_116 rfl rfl (Nat.le_of_ble_eq_true rfl) (by decide) (c_X9_placeOf_vf (by omega)) (fun r11 F12 A13 h14 => ?_)
  obtain ⟨z17, e16, e18, e19, x15⟩ := h14
  subst e16 e18 e19
  have y20 : z17 = mt_pc x ∧ -100 ≤ z17 ∧ z17 ≤ 100 := x15
  clear x15
  show sA _ _ _ 8 _ [gs_iv z17, gs_iv z7] _ _
  refine sA_isub dd_X9_farFrom_8 ?_
  refine sA_istore_n (lv' := [(3, gs_iv (z7 - z17)), (0, .ref 106), (1, gs_iv x), (2, gs_iv u)]) dd_X9_farFrom_9 rfl (by decide) rfl ?_
  refine sA_iload_n dd_X9_farFrom_10 rfl (.head _) ?_
  refine sA_if_ge (tgt := 25) dd_X9_farFrom_11 (by decide) (by omega) (fun q21 => ?_) (fun q21 => ?_)
  · skip
    refine sA_iload_n dd_X9_farFrom_25 rfl (.head _) ?_
    refine sA_iret (z := z7 - z17) dd_X9_farFrom_26 rfl ?_
    refine ⟨_, rfl, rfl, rfl, ?_⟩
    have p1 := y10.1
    have p2 := y20.1
    refine ⟨?_, by omega⟩
    unfold mt_far
    rw [← p1, ← p2]
    first | rw [if_pos (by omega)] | rw [if_neg (by omega)] | fail
  · skip
    refine sA_iload_n dd_X9_farFrom_14 rfl (.head _) ?_
    refine sA_iconst (z := 4) dd_X9_farFrom_15 ?_
    refine sA_aload_n dd_X9_farFrom_16 rfl (.tail _ (.head _)) ?_
    refine sA_geti (ci := 9) (j := 0) (q := (RX9, TX9, 28)) dd_X9_farFrom_17 rfl (by decide) fl_X9_64 (by decide) gs_s106 rfl ?_
    have b22 : (1 : Int) ≤ F 106 0 ∧ F 106 0 ≤ 3 := hI.1 106 0
    refine sA_imul dd_X9_farFrom_20 ?_
    refine sA_iadd dd_X9_farFrom_21 ?_
    refine sA_goto (tgt := 26) dd_X9_farFrom_22 (by decide) ?_
    refine sA_iret (z := (z7 - z17) + (4 * (F 106 0))) dd_X9_farFrom_26 rfl ?_
    refine ⟨_, rfl, rfl, rfl, ?_⟩
    have p1 := y10.1
    have p2 := y20.1
    refine ⟨?_, by omega⟩
    unfold mt_far
    rw [← p1, ← p2]
    first | rw [if_pos (by omega)] | rw [if_neg (by omega)] | fail
theorem c_X9_goRound_vf {x u v : Int} {F A : gs_F} (hI : gs_I F A) (hx : -6 ≤ x ∧ x ≤ 6 ∧ x ≠ 0) (hu : -6 ≤ u ∧ u ≤ 6 ∧ u ≠ 0) (hv : -6 ≤ v ∧ v ≤ 6 ∧ v ≠ 0) : sC m_X9_goRound 3 [.ref 106, gs_iv x, gs_iv u, gs_iv v] F A (fun rv F' A' => ∃ z : Int, rv = some (gs_iv z) ∧ F = F' ∧ A = A' ∧ ((z = 1 ∧ mt_gr (4 * F 106 0) x u v) ∨ (z = 0 ∧ ¬ mt_gr (4 * F 106 0) x u v))) := by
  refine sC_of ok_X9_goRound.1 (Nat.le_of_ble_eq_true rfl) ?_
  show sA _ _ _ 0 [(0, .ref 106), (1, gs_iv x), (2, gs_iv u), (3, gs_iv v)] [] F A
  refine sA_aload_n dd_X9_goRound_0 rfl (.head _) ?_
  refine sA_iload_n dd_X9_goRound_1 rfl (.tail _ (.head _)) ?_
  refine sA_iload_n dd_X9_goRound_2 rfl (.tail _ (.tail _ (.head _))) ?_
  refine sA_callV (y2 := m_X9_farFrom) (n2 := 2) (d2 := 2) (a := 106) (ci := 9) (q := (RX9, TX9, 28)) (as := [gs_iv x, gs_iv u]) (rest := []) dd_X9_goRound_3 ok_X9_farFrom ml_X9_119 rfl rfl (by decide) gs_s106 rfl rfl (Nat.le_of_ble_eq_true rfl) (by decide) (c_X9_farFrom_vf hI (by omega) (by omega)) (fun r1 F2 A3 h4 => ?_)
  obtain ⟨z7, e6, e8, e9, x5⟩ := h4
  subst e6 e8 e9
  have y10 : z7 = mt_far (4 * F 106 0) x u ∧ -300 ≤ z7 ∧ z7 ≤ 300 := x5
  clear x5
  show sA _ _ _ 6 _ [gs_iv z7] _ _
  refine sA_aload_n dd_X9_goRound_6 rfl (.head _) ?_
  refine sA_iload_n dd_X9_goRound_7 rfl (.tail _ (.head _)) ?_
  refine sA_iload_n dd_X9_goRound_8 rfl (.tail _ (.tail _ (.tail _ (.head _)))) ?_
  refine sA_callV (y2 := m_X9_farFrom) (n2 := 2) (d2 := 2) (a := 106) (ci := 9) (q := (RX9, TX9, 28)) (as := [gs_iv x, gs_iv v]) (rest := [gs_iv z7]) dd_X9_goRound_9 ok_X9_farFrom ml_X9_119 rfl rfl (by decide) gs_s106 rfl rfl (Nat.le_of_ble_eq_true rfl) (by decide) (c_X9_farFrom_vf hI (by omega) (by omega)) (fun r11 F12 A13 h14 => ?_)
  obtain ⟨z17, e16, e18, e19, x15⟩ := h14
  subst e16 e18 e19
  have y20 : z17 = mt_far (4 * F 106 0) x v ∧ -300 ≤ z17 ∧ z17 ≤ 300 := x15
  clear x15
  show sA _ _ _ 12 _ [gs_iv z17, gs_iv z7] _ _
  refine sA_icmp_ge (tgt := 19) dd_X9_goRound_12 (by decide) (by omega) (by omega) (fun q21 => ?_) (fun q21 => ?_)
  · skip
    refine sA_iconst (z := 0) dd_X9_goRound_19 ?_
    refine sA_bret (z := 0) dd_X9_goRound_20 rfl (by omega) ?_
    refine ⟨_, rfl, rfl, rfl, ?_⟩
    have y1 := y10.1
    have y2 := y20.1
    unfold mt_gr
    rw [← y1, ← y2]
    omega
  · skip
    refine sA_iconst (z := 1) dd_X9_goRound_15 ?_
    refine sA_goto (tgt := 20) dd_X9_goRound_16 (by decide) ?_
    refine sA_bret (z := 1) dd_X9_goRound_20 rfl (by omega) ?_
    refine ⟨_, rfl, rfl, rfl, ?_⟩
    have y1 := y10.1
    have y2 := y20.1
    unfold mt_gr
    rw [← y1, ← y2]
    omega
theorem c_X9_meetAtOnce_vf {x a u b : Int} {F A : gs_F} (hI : gs_I F A) (hx : -6 ≤ x ∧ x ≤ 6 ∧ x ≠ 0) (ha : -6 ≤ a ∧ a ≤ 6 ∧ a ≠ 0) (hu : -6 ≤ u ∧ u ≤ 6 ∧ u ≠ 0) (hb : -6 ≤ b ∧ b ≤ 6 ∧ b ≠ 0) : sC m_X9_meetAtOnce 3 [.ref 106, gs_iv x, gs_iv a, gs_iv u, gs_iv b] F A (fun rv F' A' => ∃ z : Int, rv = some (gs_iv z) ∧ F = F' ∧ A = A' ∧ ((z = 1 ∧ mt_c9 (4 * F 106 0) x a u b) ∨ (z = 0 ∧ ¬ mt_c9 (4 * F 106 0) x a u b))) := by
  refine sC_of ok_X9_meetAtOnce.1 (Nat.le_of_ble_eq_true rfl) ?_
  show sA _ _ _ 0 [(0, .ref 106), (1, gs_iv x), (2, gs_iv a), (3, gs_iv u), (4, gs_iv b)] [] F A
  refine sA_iload_n dd_X9_meetAtOnce_0 rfl (.tail _ (.head _)) ?_
  refine sA_iload_n dd_X9_meetAtOnce_1 rfl (.tail _ (.tail _ (.tail _ (.head _)))) ?_
  refine sA_icmp_eq (tgt := 37) dd_X9_meetAtOnce_2 (by decide) (by omega) (by omega) (fun q1 => ?_) (fun q1 => ?_)
  · skip
    refine sA_iconst (z := 0) dd_X9_meetAtOnce_37 ?_
    refine sA_istore (lv' := [(5, gs_iv 0), (0, .ref 106), (1, gs_iv x), (2, gs_iv a), (3, gs_iv u), (4, gs_iv b)]) dd_X9_meetAtOnce_38 (by decide) rfl ?_
    refine sA_iload dd_X9_meetAtOnce_40 (.head _) ?_
    refine sA_if_eq (tgt := 93) dd_X9_meetAtOnce_42 (by decide) (by omega) (fun q2 => ?_) (fun q2 => absurd q2 (by omega))
    refine sA_iconst (z := 0) dd_X9_meetAtOnce_93 ?_
    refine sA_bret (z := 0) dd_X9_meetAtOnce_94 rfl (by omega) ?_
    refine ⟨_, rfl, rfl, rfl, ?_⟩
    exact .inr ⟨rfl, fun w => by have w1 := w.1; omega⟩
  · skip
    refine sA_iload_n dd_X9_meetAtOnce_5 rfl (.tail _ (.head _)) ?_
    refine sA_iload dd_X9_meetAtOnce_6 (.tail _ (.tail _ (.tail _ (.tail _ (.head _))))) ?_
    refine sA_icmp_eq (tgt := 37) dd_X9_meetAtOnce_8 (by decide) (by omega) (by omega) (fun q3 => ?_) (fun q3 => ?_)
    · skip
      refine sA_iconst (z := 0) dd_X9_meetAtOnce_37 ?_
      refine sA_istore (lv' := [(5, gs_iv 0), (0, .ref 106), (1, gs_iv x), (2, gs_iv a), (3, gs_iv u), (4, gs_iv b)]) dd_X9_meetAtOnce_38 (by decide) rfl ?_
      refine sA_iload dd_X9_meetAtOnce_40 (.head _) ?_
      refine sA_if_eq (tgt := 93) dd_X9_meetAtOnce_42 (by decide) (by omega) (fun q4 => ?_) (fun q4 => absurd q4 (by omega))
      refine sA_iconst (z := 0) dd_X9_meetAtOnce_93 ?_
      refine sA_bret (z := 0) dd_X9_meetAtOnce_94 rfl (by omega) ?_
      refine ⟨_, rfl, rfl, rfl, ?_⟩
      exact .inr ⟨rfl, fun w => by have w1 := w.1; omega⟩
    · skip
      refine sA_iload_n dd_X9_meetAtOnce_11 rfl (.tail _ (.tail _ (.head _))) ?_
      refine sA_iload_n dd_X9_meetAtOnce_12 rfl (.tail _ (.tail _ (.tail _ (.head _)))) ?_
      refine sA_icmp_eq (tgt := 37) dd_X9_meetAtOnce_13 (by decide) (by omega) (by omega) (fun q5 => ?_) (fun q5 => ?_)
      · skip
        refine sA_iconst (z := 0) dd_X9_meetAtOnce_37 ?_
        refine sA_istore (lv' := [(5, gs_iv 0), (0, .ref 106), (1, gs_iv x), (2, gs_iv a), (3, gs_iv u), (4, gs_iv b)]) dd_X9_meetAtOnce_38 (by decide) rfl ?_
        refine sA_iload dd_X9_meetAtOnce_40 (.head _) ?_
        refine sA_if_eq (tgt := 93) dd_X9_meetAtOnce_42 (by decide) (by omega) (fun q6 => ?_) (fun q6 => absurd q6 (by omega))
        refine sA_iconst (z := 0) dd_X9_meetAtOnce_93 ?_
        refine sA_bret (z := 0) dd_X9_meetAtOnce_94 rfl (by omega) ?_
        refine ⟨_, rfl, rfl, rfl, ?_⟩
        exact .inr ⟨rfl, fun w => by have w1 := w.1; omega⟩
      · skip
        refine sA_iload_n dd_X9_meetAtOnce_16 rfl (.tail _ (.tail _ (.head _))) ?_
        refine sA_iload dd_X9_meetAtOnce_17 (.tail _ (.tail _ (.tail _ (.tail _ (.head _))))) ?_
        refine sA_icmp_eq (tgt := 37) dd_X9_meetAtOnce_19 (by decide) (by omega) (by omega) (fun q7 => ?_) (fun q7 => ?_)
        · skip
          refine sA_iconst (z := 0) dd_X9_meetAtOnce_37 ?_
          refine sA_istore (lv' := [(5, gs_iv 0), (0, .ref 106), (1, gs_iv x), (2, gs_iv a), (3, gs_iv u), (4, gs_iv b)]) dd_X9_meetAtOnce_38 (by decide) rfl ?_
          refine sA_iload dd_X9_meetAtOnce_40 (.head _) ?_
          refine sA_if_eq (tgt := 93) dd_X9_meetAtOnce_42 (by decide) (by omega) (fun q8 => ?_) (fun q8 => absurd q8 (by omega))
          refine sA_iconst (z := 0) dd_X9_meetAtOnce_93 ?_
          refine sA_bret (z := 0) dd_X9_meetAtOnce_94 rfl (by omega) ?_
          refine ⟨_, rfl, rfl, rfl, ?_⟩
          exact .inr ⟨rfl, fun w => by have w1 := w.1; omega⟩
        · skip
          refine sA_iload_n dd_X9_meetAtOnce_22 rfl (.tail _ (.tail _ (.tail _ (.head _)))) ?_
          refine sA_iload dd_X9_meetAtOnce_23 (.tail _ (.tail _ (.tail _ (.tail _ (.head _))))) ?_
          refine sA_icmp_eq (tgt := 37) dd_X9_meetAtOnce_25 (by decide) (by omega) (by omega) (fun q9 => ?_) (fun q9 => ?_)
          · skip
            refine sA_iconst (z := 0) dd_X9_meetAtOnce_37 ?_
            refine sA_istore (lv' := [(5, gs_iv 0), (0, .ref 106), (1, gs_iv x), (2, gs_iv a), (3, gs_iv u), (4, gs_iv b)]) dd_X9_meetAtOnce_38 (by decide) rfl ?_
            refine sA_iload dd_X9_meetAtOnce_40 (.head _) ?_
            refine sA_if_eq (tgt := 93) dd_X9_meetAtOnce_42 (by decide) (by omega) (fun q10 => ?_) (fun q10 => absurd q10 (by omega))
            refine sA_iconst (z := 0) dd_X9_meetAtOnce_93 ?_
            refine sA_bret (z := 0) dd_X9_meetAtOnce_94 rfl (by omega) ?_
            refine ⟨_, rfl, rfl, rfl, ?_⟩
            exact .inr ⟨rfl, fun w => by have w1 := w.1; omega⟩
          · skip
            refine sA_iload_n dd_X9_meetAtOnce_28 rfl (.tail _ (.head _)) ?_
            refine sA_iload_n dd_X9_meetAtOnce_29 rfl (.tail _ (.tail _ (.head _))) ?_
            refine sA_icmp_eq (tgt := 37) dd_X9_meetAtOnce_30 (by decide) (by omega) (by omega) (fun q11 => ?_) (fun q11 => ?_)
            · skip
              refine sA_iconst (z := 0) dd_X9_meetAtOnce_37 ?_
              refine sA_istore (lv' := [(5, gs_iv 0), (0, .ref 106), (1, gs_iv x), (2, gs_iv a), (3, gs_iv u), (4, gs_iv b)]) dd_X9_meetAtOnce_38 (by decide) rfl ?_
              refine sA_iload dd_X9_meetAtOnce_40 (.head _) ?_
              refine sA_if_eq (tgt := 93) dd_X9_meetAtOnce_42 (by decide) (by omega) (fun q12 => ?_) (fun q12 => absurd q12 (by omega))
              refine sA_iconst (z := 0) dd_X9_meetAtOnce_93 ?_
              refine sA_bret (z := 0) dd_X9_meetAtOnce_94 rfl (by omega) ?_
              refine ⟨_, rfl, rfl, rfl, ?_⟩
              exact .inr ⟨rfl, fun w => by have w1 := w.1; omega⟩
            · skip
              refine sA_iconst (z := 1) dd_X9_meetAtOnce_33 ?_
              refine sA_goto (tgt := 38) dd_X9_meetAtOnce_34 (by decide) ?_
              refine sA_istore (lv' := [(5, gs_iv 1), (0, .ref 106), (1, gs_iv x), (2, gs_iv a), (3, gs_iv u), (4, gs_iv b)]) dd_X9_meetAtOnce_38 (by decide) rfl ?_
              refine sA_iload dd_X9_meetAtOnce_40 (.head _) ?_
              refine sA_if_eq (tgt := 93) dd_X9_meetAtOnce_42 (by decide) (by omega) (fun q13 => absurd q13 (by omega)) (fun q13 => ?_)
              refine sA_aload_n dd_X9_meetAtOnce_45 rfl (.tail _ (.head _)) ?_
              refine sA_iload_n dd_X9_meetAtOnce_46 rfl (.tail _ (.tail _ (.head _))) ?_
              refine sA_iload_n dd_X9_meetAtOnce_47 rfl (.tail _ (.tail _ (.tail _ (.tail _ (.head _))))) ?_
              refine sA_callV (y2 := m_X9_farFrom) (n2 := 2) (d2 := 2) (a := 106) (ci := 9) (q := (RX9, TX9, 28)) (as := [gs_iv x, gs_iv u]) (rest := []) dd_X9_meetAtOnce_48 ok_X9_farFrom ml_X9_119 rfl rfl (by decide) gs_s106 rfl rfl (Nat.le_of_ble_eq_true rfl) (by decide) (c_X9_farFrom_vf hI (by omega) (by omega)) (fun r14 F15 A16 h17 => ?_)
              obtain ⟨z20, e19, e21, e22, x18⟩ := h17
              subst e19 e21 e22
              have y23 : z20 = mt_far (4 * F 106 0) x u ∧ -300 ≤ z20 ∧ z20 ≤ 300 := x18
              clear x18
              show sA _ _ _ 51 _ [gs_iv z20] _ _
              refine sA_aload_n dd_X9_meetAtOnce_51 rfl (.tail _ (.head _)) ?_
              refine sA_iload_n dd_X9_meetAtOnce_52 rfl (.tail _ (.tail _ (.head _))) ?_
              refine sA_iload_n dd_X9_meetAtOnce_53 rfl (.tail _ (.tail _ (.tail _ (.head _)))) ?_
              refine sA_callV (y2 := m_X9_farFrom) (n2 := 2) (d2 := 2) (a := 106) (ci := 9) (q := (RX9, TX9, 28)) (as := [gs_iv x, gs_iv a]) (rest := [gs_iv z20]) dd_X9_meetAtOnce_54 ok_X9_farFrom ml_X9_119 rfl rfl (by decide) gs_s106 rfl rfl (Nat.le_of_ble_eq_true rfl) (by decide) (c_X9_farFrom_vf hI (by omega) (by omega)) (fun r24 F25 A26 h27 => ?_)
              obtain ⟨z30, e29, e31, e32, x28⟩ := h27
              subst e29 e31 e32
              have y33 : z30 = mt_far (4 * F 106 0) x a ∧ -300 ≤ z30 ∧ z30 ≤ 300 := x28
              clear x28
              show sA _ _ _ 57 _ [gs_iv z30, gs_iv z20] _ _
              refine sA_icmp_ge (tgt := 64) dd_X9_meetAtOnce_57 (by decide) (by omega) (by omega) (fun q34 => ?_) (fun q34 => ?_)
              · skip
                refine sA_iconst (z := 0) dd_X9_meetAtOnce_64 ?_
                refine sA_aload_n dd_X9_meetAtOnce_65 rfl (.tail _ (.head _)) ?_
                refine sA_iload_n dd_X9_meetAtOnce_66 rfl (.tail _ (.tail _ (.head _))) ?_
                refine sA_iload dd_X9_meetAtOnce_67 (.tail _ (.tail _ (.tail _ (.tail _ (.tail _ (.head _)))))) ?_
                refine sA_callV (y2 := m_X9_farFrom) (n2 := 2) (d2 := 2) (a := 106) (ci := 9) (q := (RX9, TX9, 28)) (as := [gs_iv x, gs_iv b]) (rest := [gs_iv 0]) dd_X9_meetAtOnce_69 ok_X9_farFrom ml_X9_119 rfl rfl (by decide) gs_s106 rfl rfl (Nat.le_of_ble_eq_true rfl) (by decide) (c_X9_farFrom_vf hI (by omega) (by omega)) (fun r35 F36 A37 h38 => ?_)
                obtain ⟨z41, e40, e42, e43, x39⟩ := h38
                subst e40 e42 e43
                have y44 : z41 = mt_far (4 * F 106 0) x b ∧ -300 ≤ z41 ∧ z41 ≤ 300 := x39
                clear x39
                show sA _ _ _ 72 _ [gs_iv z41, gs_iv 0] _ _
                refine sA_aload_n dd_X9_meetAtOnce_72 rfl (.tail _ (.head _)) ?_
                refine sA_iload_n dd_X9_meetAtOnce_73 rfl (.tail _ (.tail _ (.head _))) ?_
                refine sA_iload_n dd_X9_meetAtOnce_74 rfl (.tail _ (.tail _ (.tail _ (.head _)))) ?_
                refine sA_callV (y2 := m_X9_farFrom) (n2 := 2) (d2 := 2) (a := 106) (ci := 9) (q := (RX9, TX9, 28)) (as := [gs_iv x, gs_iv a]) (rest := [gs_iv z41, gs_iv 0]) dd_X9_meetAtOnce_75 ok_X9_farFrom ml_X9_119 rfl rfl (by decide) gs_s106 rfl rfl (Nat.le_of_ble_eq_true rfl) (by decide) (c_X9_farFrom_vf hI (by omega) (by omega)) (fun r45 F46 A47 h48 => ?_)
                obtain ⟨z51, e50, e52, e53, x49⟩ := h48
                subst e50 e52 e53
                have y54 : z51 = mt_far (4 * F 106 0) x a ∧ -300 ≤ z51 ∧ z51 ≤ 300 := x49
                clear x49
                show sA _ _ _ 78 _ [gs_iv z51, gs_iv z41, gs_iv 0] _ _
                refine sA_icmp_ge (tgt := 85) dd_X9_meetAtOnce_78 (by decide) (by omega) (by omega) (fun q55 => ?_) (fun q55 => ?_)
                · skip
                  refine sA_iconst (z := 0) dd_X9_meetAtOnce_85 ?_
                  refine sA_icmp_eq (tgt := 93) dd_X9_meetAtOnce_86 (by decide) (by omega) (by omega) (fun q56 => ?_) (fun q56 => absurd q56 (by omega))
                  refine sA_iconst (z := 0) dd_X9_meetAtOnce_93 ?_
                  refine sA_bret (z := 0) dd_X9_meetAtOnce_94 rfl (by omega) ?_
                  refine ⟨_, rfl, rfl, rfl, ?_⟩
                  have y1 := y23.1
                  have y2 := y33.1
                  have y3 := y44.1
                  have y4 := y54.1.trans y2.symm
                  unfold mt_c9 mt_gr
                  rw [← y1, ← y2, ← y3]
                  omega
                · skip
                  refine sA_iconst (z := 1) dd_X9_meetAtOnce_81 ?_
                  refine sA_goto (tgt := 86) dd_X9_meetAtOnce_82 (by decide) ?_
                  refine sA_icmp_eq (tgt := 93) dd_X9_meetAtOnce_86 (by decide) (by omega) (by omega) (fun q57 => absurd q57 (by omega)) (fun q57 => ?_)
                  refine sA_iconst (z := 1) dd_X9_meetAtOnce_89 ?_
                  refine sA_goto (tgt := 94) dd_X9_meetAtOnce_90 (by decide) ?_
                  refine sA_bret (z := 1) dd_X9_meetAtOnce_94 rfl (by omega) ?_
                  refine ⟨_, rfl, rfl, rfl, ?_⟩
                  have y1 := y23.1
                  have y2 := y33.1
                  have y3 := y44.1
                  have y4 := y54.1.trans y2.symm
                  unfold mt_c9 mt_gr
                  rw [← y1, ← y2, ← y3]
                  omega
              · skip
                refine sA_iconst (z := 1) dd_X9_meetAtOnce_60 ?_
                refine sA_goto (tgt := 65) dd_X9_meetAtOnce_61 (by decide) ?_
                refine sA_aload_n dd_X9_meetAtOnce_65 rfl (.tail _ (.head _)) ?_
                refine sA_iload_n dd_X9_meetAtOnce_66 rfl (.tail _ (.tail _ (.head _))) ?_
                refine sA_iload dd_X9_meetAtOnce_67 (.tail _ (.tail _ (.tail _ (.tail _ (.tail _ (.head _)))))) ?_
                refine sA_callV (y2 := m_X9_farFrom) (n2 := 2) (d2 := 2) (a := 106) (ci := 9) (q := (RX9, TX9, 28)) (as := [gs_iv x, gs_iv b]) (rest := [gs_iv 1]) dd_X9_meetAtOnce_69 ok_X9_farFrom ml_X9_119 rfl rfl (by decide) gs_s106 rfl rfl (Nat.le_of_ble_eq_true rfl) (by decide) (c_X9_farFrom_vf hI (by omega) (by omega)) (fun r58 F59 A60 h61 => ?_)
                obtain ⟨z64, e63, e65, e66, x62⟩ := h61
                subst e63 e65 e66
                have y67 : z64 = mt_far (4 * F 106 0) x b ∧ -300 ≤ z64 ∧ z64 ≤ 300 := x62
                clear x62
                show sA _ _ _ 72 _ [gs_iv z64, gs_iv 1] _ _
                refine sA_aload_n dd_X9_meetAtOnce_72 rfl (.tail _ (.head _)) ?_
                refine sA_iload_n dd_X9_meetAtOnce_73 rfl (.tail _ (.tail _ (.head _))) ?_
                refine sA_iload_n dd_X9_meetAtOnce_74 rfl (.tail _ (.tail _ (.tail _ (.head _)))) ?_
                refine sA_callV (y2 := m_X9_farFrom) (n2 := 2) (d2 := 2) (a := 106) (ci := 9) (q := (RX9, TX9, 28)) (as := [gs_iv x, gs_iv a]) (rest := [gs_iv z64, gs_iv 1]) dd_X9_meetAtOnce_75 ok_X9_farFrom ml_X9_119 rfl rfl (by decide) gs_s106 rfl rfl (Nat.le_of_ble_eq_true rfl) (by decide) (c_X9_farFrom_vf hI (by omega) (by omega)) (fun r68 F69 A70 h71 => ?_)
                obtain ⟨z74, e73, e75, e76, x72⟩ := h71
                subst e73 e75 e76
                have y77 : z74 = mt_far (4 * F 106 0) x a ∧ -300 ≤ z74 ∧ z74 ≤ 300 := x72
                clear x72
                show sA _ _ _ 78 _ [gs_iv z74, gs_iv z64, gs_iv 1] _ _
                refine sA_icmp_ge (tgt := 85) dd_X9_meetAtOnce_78 (by decide) (by omega) (by omega) (fun q78 => ?_) (fun q78 => ?_)
                · skip
                  refine sA_iconst (z := 0) dd_X9_meetAtOnce_85 ?_
                  refine sA_icmp_eq (tgt := 93) dd_X9_meetAtOnce_86 (by decide) (by omega) (by omega) (fun q79 => absurd q79 (by omega)) (fun q79 => ?_)
                  refine sA_iconst (z := 1) dd_X9_meetAtOnce_89 ?_
                  refine sA_goto (tgt := 94) dd_X9_meetAtOnce_90 (by decide) ?_
                  refine sA_bret (z := 1) dd_X9_meetAtOnce_94 rfl (by omega) ?_
                  refine ⟨_, rfl, rfl, rfl, ?_⟩
                  have y1 := y23.1
                  have y2 := y33.1
                  have y3 := y67.1
                  have y4 := y77.1.trans y2.symm
                  unfold mt_c9 mt_gr
                  rw [← y1, ← y2, ← y3]
                  omega
                · skip
                  refine sA_iconst (z := 1) dd_X9_meetAtOnce_81 ?_
                  refine sA_goto (tgt := 86) dd_X9_meetAtOnce_82 (by decide) ?_
                  refine sA_icmp_eq (tgt := 93) dd_X9_meetAtOnce_86 (by decide) (by omega) (by omega) (fun q80 => ?_) (fun q80 => absurd q80 (by omega))
                  refine sA_iconst (z := 0) dd_X9_meetAtOnce_93 ?_
                  refine sA_bret (z := 0) dd_X9_meetAtOnce_94 rfl (by omega) ?_
                  refine ⟨_, rfl, rfl, rfl, ?_⟩
                  have y1 := y23.1
                  have y2 := y33.1
                  have y3 := y67.1
                  have y4 := y77.1.trans y2.symm
                  unfold mt_c9 mt_gr
                  rw [← y1, ← y2, ← y3]
                  omega
theorem k_X9_meetAlong_vf {i j : Int} {F A : gs_F} (hI : gs_I F A) (hi : 0 ≤ i ∧ i < F 106 9) (hj : 0 ≤ j ∧ j < F 106 11) (heq : A 112 i.toNat = A 113 j.toNat) (hVu : gs_vl 3 (F 106 9) (A 112)) (hVv : gs_vl 3 (F 106 11) (A 113)) : ∀ nN : Nat, (∀ (n : Int) (e : Int),  1 ≤ n ∧ n ≤ e + 1 → e = 2 * (F 106 9 + F 106 11) → (∀ s : Int, 0 ≤ s → s < n → mt_at (A 112) (F 106 9) i s = mt_at (A 113) (F 106 11) j s) → e + 1 - n < (nN : Int) → sA m_X9_meetAlong 4 (fun rv F' A' => ∃ z : Int, rv = some (gs_iv z) ∧ F = F' ∧ A = A' ∧ ((z = 1 ∧ mt_cs (4 * F 106 0) (A 112) (F 106 9) (A 113) (F 106 11) i j) ∨ (z = 0 ∧ ¬ mt_cs (4 * F 106 0) (A 112) (F 106 9) (A 113) (F 106 11) i j))) 15 [(4, gs_iv e), (3, gs_iv n), (0, .ref 106), (1, gs_iv i), (2, gs_iv j)] [] F A) := by
  intro nN
  induction nN with
  | zero =>
    exact fun a0 a1 i0 i1 i2 hm => by exfalso; omega
  | succ nN ih =>
    intro n e i0 i1 i2 hm
    have hb9 : (0 : Int) ≤ F 106 9 ∧ F 106 9 ≤ 400 := hI.1 106 9
    have hb11 : (0 : Int) ≤ F 106 11 ∧ F 106 11 ≤ 60 := hI.1 106 11
    refine sA_iload_n dd_X9_meetAlong_15 rfl (.tail _ (.head _)) ?_
    refine sA_iload dd_X9_meetAlong_16 (.head _) ?_
    refine sA_icmp_gt (tgt := 44) dd_X9_meetAlong_18 (by decide) (by omega) (by omega) (fun q1 => ?_) (fun q1 => ?_)
    · skip
      refine sA_iload_n dd_X9_meetAlong_44 rfl (.tail _ (.head _)) ?_
      refine sA_iload dd_X9_meetAlong_45 (.head _) ?_
      refine sA_icmp_le (tgt := 52) dd_X9_meetAlong_47 (by decide) (by omega) (by omega) (fun q2 => absurd q2 (by omega)) (fun q2 => ?_)
      refine sA_iconst (z := 0) dd_X9_meetAlong_50 ?_
      refine sA_bret (z := 0) dd_X9_meetAlong_51 rfl (by omega) ?_
      refine ⟨_, rfl, rfl, rfl, ?_⟩
      exact .inr ⟨rfl, mt_cs_no (by omega) (by omega) (fun s h1 h2 => i2 s h1 (by omega))⟩
    · skip
      refine sA_aload_n dd_X9_meetAlong_21 rfl (.tail _ (.tail _ (.head _))) ?_
      refine sA_iload_n dd_X9_meetAlong_22 rfl (.tail _ (.tail _ (.tail _ (.head _)))) ?_
      refine sA_iload_n dd_X9_meetAlong_23 rfl (.tail _ (.head _)) ?_
      refine sA_iadd dd_X9_meetAlong_24 ?_
      refine sA_callV (y2 := m_X9_ofU) (n2 := 1) (d2 := 1) (a := 106) (ci := 9) (q := (RX9, TX9, 28)) (as := [gs_iv (i + n)]) (rest := []) dd_X9_meetAlong_25 ok_X9_ofU ml_X9_89 rfl rfl (by decide) gs_s106 rfl rfl (Nat.le_of_ble_eq_true rfl) (by decide) (c_X9_ofU_vf hI (by omega) (by omega)) (fun r3 F4 A5 h6 => ?_)
      obtain ⟨z9, e8, e10, e11, x7⟩ := h6
      subst e8 e10 e11
      have y12 : z9 = A 112 ((i + n) % F 106 9).toNat ∧ -9 ≤ z9 ∧ z9 ≤ 9 := x7
      clear x7
      show sA _ _ _ 28 _ [gs_iv z9] _ _
      refine sA_aload_n dd_X9_meetAlong_28 rfl (.tail _ (.tail _ (.head _))) ?_
      refine sA_iload_n dd_X9_meetAlong_29 rfl (.tail _ (.tail _ (.tail _ (.tail _ (.head _))))) ?_
      refine sA_iload_n dd_X9_meetAlong_30 rfl (.tail _ (.head _)) ?_
      refine sA_iadd dd_X9_meetAlong_31 ?_
      refine sA_callV (y2 := m_X9_ofV) (n2 := 1) (d2 := 1) (a := 106) (ci := 9) (q := (RX9, TX9, 28)) (as := [gs_iv (j + n)]) (rest := [gs_iv z9]) dd_X9_meetAlong_32 ok_X9_ofV ml_X9_123 rfl rfl (by decide) gs_s106 rfl rfl (Nat.le_of_ble_eq_true rfl) (by decide) (c_X9_ofV_vf hI (by omega) (by omega)) (fun r13 F14 A15 h16 => ?_)
      obtain ⟨z19, e18, e20, e21, x17⟩ := h16
      subst e18 e20 e21
      have y22 : z19 = A 113 ((j + n) % F 106 11).toNat ∧ -9 ≤ z19 ∧ z19 ≤ 9 := x17
      clear x17
      show sA _ _ _ 35 _ [gs_iv z19, gs_iv z9] _ _
      refine sA_icmp_ne (tgt := 44) dd_X9_meetAlong_35 (by decide) (by omega) (by omega) (fun q23 => ?_) (fun q23 => ?_)
      · skip
        refine sA_iload_n dd_X9_meetAlong_44 rfl (.tail _ (.head _)) ?_
        refine sA_iload dd_X9_meetAlong_45 (.head _) ?_
        refine sA_icmp_le (tgt := 52) dd_X9_meetAlong_47 (by decide) (by omega) (by omega) (fun q24 => ?_) (fun q24 => absurd q24 (by omega))
        refine sA_aload_n dd_X9_meetAlong_52 rfl (.tail _ (.tail _ (.head _))) ?_
        refine sA_iload_n dd_X9_meetAlong_53 rfl (.tail _ (.tail _ (.tail _ (.head _)))) ?_
        refine sA_callV (y2 := m_X9_ofU) (n2 := 1) (d2 := 1) (a := 106) (ci := 9) (q := (RX9, TX9, 28)) (as := [gs_iv i]) (rest := []) dd_X9_meetAlong_54 ok_X9_ofU ml_X9_89 rfl rfl (by decide) gs_s106 rfl rfl (Nat.le_of_ble_eq_true rfl) (by decide) (c_X9_ofU_vf hI (by omega) (by omega)) (fun r25 F26 A27 h28 => ?_)
        obtain ⟨z31, e30, e32, e33, x29⟩ := h28
        subst e30 e32 e33
        have y34 : z31 = A 112 (i % F 106 9).toNat ∧ -9 ≤ z31 ∧ z31 ≤ 9 := x29
        clear x29
        show sA _ _ _ 57 _ [gs_iv z31] _ _
        have hl54 : z31 ≠ 0 ∧ -(2 * 3) ≤ z31 ∧ z31 ≤ 2 * 3 := by rw [y34.1]; exact mt_vl_of hVu (by omega)
        refine sA_istore (lv' := [(5, gs_iv z31), (4, gs_iv e), (3, gs_iv n), (0, .ref 106), (1, gs_iv i), (2, gs_iv j)]) dd_X9_meetAlong_57 (by decide) rfl ?_
        refine sA_iconst (z := 0) dd_X9_meetAlong_59 ?_
        refine sA_aload_n dd_X9_meetAlong_60 rfl (.tail _ (.tail _ (.tail _ (.head _)))) ?_
        refine sA_iload_n dd_X9_meetAlong_61 rfl (.tail _ (.tail _ (.tail _ (.tail _ (.head _))))) ?_
        refine sA_aload_n dd_X9_meetAlong_62 rfl (.tail _ (.tail _ (.tail _ (.head _)))) ?_
        refine sA_geti (ci := 9) (j := 9) (q := (RX9, TX9, 28)) dd_X9_meetAlong_63 rfl (by decide) fl_X9_83 (by decide) gs_s106 rfl ?_
        have b35 : (0 : Int) ≤ F 106 9 ∧ F 106 9 ≤ 400 := hI.1 106 9
        refine sA_iadd dd_X9_meetAlong_66 ?_
        refine sA_iconst (z := 1) dd_X9_meetAlong_67 ?_
        refine sA_isub dd_X9_meetAlong_68 ?_
        refine sA_callV (y2 := m_X9_ofU) (n2 := 1) (d2 := 1) (a := 106) (ci := 9) (q := (RX9, TX9, 28)) (as := [gs_iv ((i + (F 106 9)) - 1)]) (rest := [gs_iv 0]) dd_X9_meetAlong_69 ok_X9_ofU ml_X9_89 rfl rfl (by decide) gs_s106 rfl rfl (Nat.le_of_ble_eq_true rfl) (by decide) (c_X9_ofU_vf hI (by omega) (by omega)) (fun r36 F37 A38 h39 => ?_)
        obtain ⟨z42, e41, e43, e44, x40⟩ := h39
        subst e41 e43 e44
        have y45 : z42 = A 112 (((i + (F 106 9)) - 1) % F 106 9).toNat ∧ -9 ≤ z42 ∧ z42 ≤ 9 := x40
        clear x40
        show sA _ _ _ 72 _ [gs_iv z42, gs_iv 0] _ _
        have hl69 : z42 ≠ 0 ∧ -(2 * 3) ≤ z42 ∧ z42 ≤ 2 * 3 := by rw [y45.1]; exact mt_vl_of hVu (by omega)
        refine sA_isub dd_X9_meetAlong_72 ?_
        refine sA_istore (lv' := [(6, gs_iv (0 - z42)), (5, gs_iv z31), (4, gs_iv e), (3, gs_iv n), (0, .ref 106), (1, gs_iv i), (2, gs_iv j)]) dd_X9_meetAlong_73 (by decide) rfl ?_
        refine sA_iconst (z := 0) dd_X9_meetAlong_75 ?_
        refine sA_aload_n dd_X9_meetAlong_76 rfl (.tail _ (.tail _ (.tail _ (.tail _ (.head _))))) ?_
        refine sA_iload_n dd_X9_meetAlong_77 rfl (.tail _ (.tail _ (.tail _ (.tail _ (.tail _ (.tail _ (.head _))))))) ?_
        refine sA_aload_n dd_X9_meetAlong_78 rfl (.tail _ (.tail _ (.tail _ (.tail _ (.head _))))) ?_
        refine sA_geti (ci := 9) (j := 11) (q := (RX9, TX9, 28)) dd_X9_meetAlong_79 rfl (by decide) fl_X9_86 (by decide) gs_s106 rfl ?_
        have b46 : (0 : Int) ≤ F 106 11 ∧ F 106 11 ≤ 60 := hI.1 106 11
        refine sA_iadd dd_X9_meetAlong_82 ?_
        refine sA_iconst (z := 1) dd_X9_meetAlong_83 ?_
        refine sA_isub dd_X9_meetAlong_84 ?_
        refine sA_callV (y2 := m_X9_ofV) (n2 := 1) (d2 := 1) (a := 106) (ci := 9) (q := (RX9, TX9, 28)) (as := [gs_iv ((j + (F 106 11)) - 1)]) (rest := [gs_iv 0]) dd_X9_meetAlong_85 ok_X9_ofV ml_X9_123 rfl rfl (by decide) gs_s106 rfl rfl (Nat.le_of_ble_eq_true rfl) (by decide) (c_X9_ofV_vf hI (by omega) (by omega)) (fun r47 F48 A49 h50 => ?_)
        obtain ⟨z53, e52, e54, e55, x51⟩ := h50
        subst e52 e54 e55
        have y56 : z53 = A 113 (((j + (F 106 11)) - 1) % F 106 11).toNat ∧ -9 ≤ z53 ∧ z53 ≤ 9 := x51
        clear x51
        show sA _ _ _ 88 _ [gs_iv z53, gs_iv 0] _ _
        have hl85 : z53 ≠ 0 ∧ -(2 * 3) ≤ z53 ∧ z53 ≤ 2 * 3 := by rw [y56.1]; exact mt_vl_of hVv (by omega)
        refine sA_isub dd_X9_meetAlong_88 ?_
        refine sA_istore (lv' := [(7, gs_iv (0 - z53)), (6, gs_iv (0 - z42)), (5, gs_iv z31), (4, gs_iv e), (3, gs_iv n), (0, .ref 106), (1, gs_iv i), (2, gs_iv j)]) dd_X9_meetAlong_89 (by decide) rfl ?_
        refine sA_iconst (z := 0) dd_X9_meetAlong_91 ?_
        refine sA_aload_n dd_X9_meetAlong_92 rfl (.tail _ (.tail _ (.tail _ (.tail _ (.tail _ (.head _)))))) ?_
        refine sA_iload_n dd_X9_meetAlong_93 rfl (.tail _ (.tail _ (.tail _ (.tail _ (.tail _ (.tail _ (.head _))))))) ?_
        refine sA_iload_n dd_X9_meetAlong_94 rfl (.tail _ (.tail _ (.tail _ (.tail _ (.head _))))) ?_
        refine sA_iadd dd_X9_meetAlong_95 ?_
        refine sA_iconst (z := 1) dd_X9_meetAlong_96 ?_
        refine sA_isub dd_X9_meetAlong_97 ?_
        refine sA_callV (y2 := m_X9_ofU) (n2 := 1) (d2 := 1) (a := 106) (ci := 9) (q := (RX9, TX9, 28)) (as := [gs_iv ((i + n) - 1)]) (rest := [gs_iv 0]) dd_X9_meetAlong_98 ok_X9_ofU ml_X9_89 rfl rfl (by decide) gs_s106 rfl rfl (Nat.le_of_ble_eq_true rfl) (by decide) (c_X9_ofU_vf hI (by omega) (by omega)) (fun r57 F58 A59 h60 => ?_)
        obtain ⟨z63, e62, e64, e65, x61⟩ := h60
        subst e62 e64 e65
        have y66 : z63 = A 112 (((i + n) - 1) % F 106 9).toNat ∧ -9 ≤ z63 ∧ z63 ≤ 9 := x61
        clear x61
        show sA _ _ _ 101 _ [gs_iv z63, gs_iv 0] _ _
        have hl98 : z63 ≠ 0 ∧ -(2 * 3) ≤ z63 ∧ z63 ≤ 2 * 3 := by rw [y66.1]; exact mt_vl_of hVu (by omega)
        refine sA_isub dd_X9_meetAlong_101 ?_
        refine sA_istore (lv' := [(8, gs_iv (0 - z63)), (7, gs_iv (0 - z53)), (6, gs_iv (0 - z42)), (5, gs_iv z31), (4, gs_iv e), (3, gs_iv n), (0, .ref 106), (1, gs_iv i), (2, gs_iv j)]) dd_X9_meetAlong_102 (by decide) rfl ?_
        refine sA_aload_n dd_X9_meetAlong_104 rfl (.tail _ (.tail _ (.tail _ (.tail _ (.tail _ (.tail _ (.head _))))))) ?_
        refine sA_iload dd_X9_meetAlong_105 (.tail _ (.tail _ (.tail _ (.head _)))) ?_
        refine sA_iload dd_X9_meetAlong_107 (.tail _ (.tail _ (.head _))) ?_
        refine sA_iload dd_X9_meetAlong_109 (.tail _ (.head _)) ?_
        refine sA_callV (y2 := m_X9_goRound) (n2 := 3) (d2 := 3) (a := 106) (ci := 9) (q := (RX9, TX9, 28)) (as := [gs_iv z31, gs_iv (0 - z42), gs_iv (0 - z53)]) (rest := []) dd_X9_meetAlong_111 ok_X9_goRound ml_X9_126 rfl rfl (by decide) gs_s106 rfl rfl (Nat.le_of_ble_eq_true rfl) (by decide) (c_X9_goRound_vf hI (by omega) (by omega) (by omega)) (fun r67 F68 A69 h70 => ?_)
        obtain ⟨z73, e72, e74, e75, x71⟩ := h70
        subst e72 e74 e75
        have y76 : (z73 = 1 ∧ mt_gr (4 * F 106 0) z31 (0 - z42) (0 - z53)) ∨ (z73 = 0 ∧ ¬ mt_gr (4 * F 106 0) z31 (0 - z42) (0 - z53)) := x71
        clear x71
        show sA _ _ _ 114 _ [gs_iv z73] _ _
        refine sA_aload_n dd_X9_meetAlong_114 rfl (.tail _ (.tail _ (.tail _ (.tail _ (.tail _ (.tail _ (.head _))))))) ?_
        refine sA_iload dd_X9_meetAlong_115 (.head _) ?_
        refine sA_aload_n dd_X9_meetAlong_117 rfl (.tail _ (.tail _ (.tail _ (.tail _ (.tail _ (.tail _ (.head _))))))) ?_
        refine sA_iload_n dd_X9_meetAlong_118 rfl (.tail _ (.tail _ (.tail _ (.tail _ (.tail _ (.tail _ (.tail _ (.head _)))))))) ?_
        refine sA_iload_n dd_X9_meetAlong_119 rfl (.tail _ (.tail _ (.tail _ (.tail _ (.tail _ (.head _)))))) ?_
        refine sA_iadd dd_X9_meetAlong_120 ?_
        refine sA_callV (y2 := m_X9_ofU) (n2 := 1) (d2 := 1) (a := 106) (ci := 9) (q := (RX9, TX9, 28)) (as := [gs_iv (i + n)]) (rest := [gs_iv (0 - z63), .ref 106, gs_iv z73]) dd_X9_meetAlong_121 ok_X9_ofU ml_X9_89 rfl rfl (by decide) gs_s106 rfl rfl (Nat.le_of_ble_eq_true rfl) (by decide) (c_X9_ofU_vf hI (by omega) (by omega)) (fun r77 F78 A79 h80 => ?_)
        obtain ⟨z83, e82, e84, e85, x81⟩ := h80
        subst e82 e84 e85
        have y86 : z83 = A 112 ((i + n) % F 106 9).toNat ∧ -9 ≤ z83 ∧ z83 ≤ 9 := x81
        clear x81
        show sA _ _ _ 124 _ [gs_iv z83, gs_iv (0 - z63), .ref 106, gs_iv z73] _ _
        have hl121 : z83 ≠ 0 ∧ -(2 * 3) ≤ z83 ∧ z83 ≤ 2 * 3 := by rw [y86.1]; exact mt_vl_of hVu (by omega)
        refine sA_aload_n dd_X9_meetAlong_124 rfl (.tail _ (.tail _ (.tail _ (.tail _ (.tail _ (.tail _ (.head _))))))) ?_
        refine sA_iload_n dd_X9_meetAlong_125 rfl (.tail _ (.tail _ (.tail _ (.tail _ (.tail _ (.tail _ (.tail _ (.tail _ (.head _))))))))) ?_
        refine sA_iload_n dd_X9_meetAlong_126 rfl (.tail _ (.tail _ (.tail _ (.tail _ (.tail _ (.head _)))))) ?_
        refine sA_iadd dd_X9_meetAlong_127 ?_
        refine sA_callV (y2 := m_X9_ofV) (n2 := 1) (d2 := 1) (a := 106) (ci := 9) (q := (RX9, TX9, 28)) (as := [gs_iv (j + n)]) (rest := [gs_iv z83, gs_iv (0 - z63), .ref 106, gs_iv z73]) dd_X9_meetAlong_128 ok_X9_ofV ml_X9_123 rfl rfl (by decide) gs_s106 rfl rfl (Nat.le_of_ble_eq_true rfl) (by decide) (c_X9_ofV_vf hI (by omega) (by omega)) (fun r87 F88 A89 h90 => ?_)
        obtain ⟨z93, e92, e94, e95, x91⟩ := h90
        subst e92 e94 e95
        have y96 : z93 = A 113 ((j + n) % F 106 11).toNat ∧ -9 ≤ z93 ∧ z93 ≤ 9 := x91
        clear x91
        show sA _ _ _ 131 _ [gs_iv z93, gs_iv z83, gs_iv (0 - z63), .ref 106, gs_iv z73] _ _
        have hl128 : z93 ≠ 0 ∧ -(2 * 3) ≤ z93 ∧ z93 ≤ 2 * 3 := by rw [y96.1]; exact mt_vl_of hVv (by omega)
        refine sA_callV (y2 := m_X9_goRound) (n2 := 3) (d2 := 3) (a := 106) (ci := 9) (q := (RX9, TX9, 28)) (as := [gs_iv (0 - z63), gs_iv z83, gs_iv z93]) (rest := [gs_iv z73]) dd_X9_meetAlong_131 ok_X9_goRound ml_X9_126 rfl rfl (by decide) gs_s106 rfl rfl (Nat.le_of_ble_eq_true rfl) (by decide) (c_X9_goRound_vf hI (by omega) (by omega) (by omega)) (fun r97 F98 A99 h100 => ?_)
        obtain ⟨z103, e102, e104, e105, x101⟩ := h100
        subst e102 e104 e105
        have y106 : (z103 = 1 ∧ mt_gr (4 * F 106 0) (0 - z63) z83 z93) ∨ (z103 = 0 ∧ ¬ mt_gr (4 * F 106 0) (0 - z63) z83 z93) := x101
        clear x101
        show sA _ _ _ 134 _ [gs_iv z103, gs_iv z73] _ _
        refine sA_icmp_ne (tgt := 141) dd_X9_meetAlong_134 (by decide) (by omega) (by omega) (fun q107 => ?_) (fun q107 => ?_)
        · skip
          refine sA_iconst (z := 0) dd_X9_meetAlong_141 ?_
          refine sA_bret (z := 0) dd_X9_meetAlong_142 rfl (by omega) ?_
          refine ⟨_, rfl, rfl, rfl, ?_⟩
          have hU : mt_at (A 112) (F 106 9) i n = z83 := y86.1.symm
          have hV : mt_at (A 113) (F 106 11) j n = z93 := y96.1.symm
          have w1 := y12.1
          have w2 := y22.1
          have w3 := y86.1
          have w4 := y96.1
          have h0 : mt_at (A 112) (F 106 9) i 0 = z31 := by rw [mt_at_0]; exact y34.1.symm
          have hm : mt_at (A 112) (F 106 9) i (-1) = z42 := by rw [mt_atm]; exact y45.1.symm
          have hmv : mt_at (A 113) (F 106 11) j (-1) = z53 := by rw [mt_atm]; exact y56.1.symm
          have hz : mt_at (A 112) (F 106 9) i (n - 1) = z63 := by unfold mt_at; rw [show i + (n - 1) = i + n - 1 by omega]; exact y66.1.symm
          have y1 := y76
          have y2 := y106
          rw [Int.zero_sub, Int.zero_sub, ← h0, ← hm, ← hmv] at y1
          rw [Int.zero_sub, ← hz, ← hU, ← hV] at y2
          have hcs := mt_cs_at (N := 4 * F 106 0) (show 1 ≤ n by omega) i2 (by rw [hU, hV]; omega)
          rcases y1 with p1 | p1 <;> rcases y2 with p2 | p2 <;> first | (exfalso; omega) | exact .inl ⟨rfl, hcs.mpr ⟨fun _ => p2.2, fun _ => p1.2⟩⟩ | exact .inl ⟨rfl, hcs.mpr ⟨fun w => absurd w p1.2, fun w => absurd w p2.2⟩⟩ | exact .inr ⟨rfl, fun w => absurd ((hcs.mp w).mp p1.2) p2.2⟩ | exact .inr ⟨rfl, fun w => absurd ((hcs.mp w).mpr p2.2) p1.2⟩ | fail
        · skip
          refine sA_iconst (z := 1) dd_X9_meetAlong_137 ?_
          refine sA_goto (tgt := 142) dd_X9_meetAlong_138 (by decide) ?_
          refine sA_bret (z := 1) dd_X9_meetAlong_142 rfl (by omega) ?_
          refine ⟨_, rfl, rfl, rfl, ?_⟩
          have hU : mt_at (A 112) (F 106 9) i n = z83 := y86.1.symm
          have hV : mt_at (A 113) (F 106 11) j n = z93 := y96.1.symm
          have w1 := y12.1
          have w2 := y22.1
          have w3 := y86.1
          have w4 := y96.1
          have h0 : mt_at (A 112) (F 106 9) i 0 = z31 := by rw [mt_at_0]; exact y34.1.symm
          have hm : mt_at (A 112) (F 106 9) i (-1) = z42 := by rw [mt_atm]; exact y45.1.symm
          have hmv : mt_at (A 113) (F 106 11) j (-1) = z53 := by rw [mt_atm]; exact y56.1.symm
          have hz : mt_at (A 112) (F 106 9) i (n - 1) = z63 := by unfold mt_at; rw [show i + (n - 1) = i + n - 1 by omega]; exact y66.1.symm
          have y1 := y76
          have y2 := y106
          rw [Int.zero_sub, Int.zero_sub, ← h0, ← hm, ← hmv] at y1
          rw [Int.zero_sub, ← hz, ← hU, ← hV] at y2
          have hcs := mt_cs_at (N := 4 * F 106 0) (show 1 ≤ n by omega) i2 (by rw [hU, hV]; omega)
          rcases y1 with p1 | p1 <;> rcases y2 with p2 | p2 <;> first | (exfalso; omega) | exact .inl ⟨rfl, hcs.mpr ⟨fun _ => p2.2, fun _ => p1.2⟩⟩ | exact .inl ⟨rfl, hcs.mpr ⟨fun w => absurd w p1.2, fun w => absurd w p2.2⟩⟩ | exact .inr ⟨rfl, fun w => absurd ((hcs.mp w).mp p1.2) p2.2⟩ | exact .inr ⟨rfl, fun w => absurd ((hcs.mp w).mpr p2.2) p1.2⟩ | fail
      · skip
        refine sA_iinc (lv' := [(3, gs_iv (n + 1)), (4, gs_iv e), (0, .ref 106), (1, gs_iv i), (2, gs_iv j)]) dd_X9_meetAlong_38 (.tail _ (.head _)) (by decide) rfl ?_
        refine sA_goto (tgt := 15) dd_X9_meetAlong_41 (by decide) ?_
        refine sA_sub (lv2 := [(4, gs_iv e), (3, gs_iv (n + 1)), (0, .ref 106), (1, gs_iv i), (2, gs_iv j)]) (List.forall_mem_cons.mpr ⟨(.tail _ (.head _)), (List.forall_mem_cons.mpr ⟨(.head _), (List.forall_mem_cons.mpr ⟨(.tail _ (.tail _ (.head _))), (List.forall_mem_cons.mpr ⟨(.tail _ (.tail _ (.tail _ (.head _)))), (List.forall_mem_cons.mpr ⟨(.tail _ (.tail _ (.tail _ (.tail _ (.head _))))), (fun _ h => absurd h List.not_mem_nil)⟩)⟩)⟩)⟩)⟩) ?_
        exact ih (n + 1) e  (by omega) (by omega) (fun s h1 h2 => by by_cases h : s < n <;> first | exact i2 s h1 h | (rw [show s = n by omega]; have w1 := y12.1; have w2 := y22.1; show A 112 ((i + n) % F 106 9).toNat = A 113 ((j + n) % F 106 11).toNat; omega) | fail) (by omega)
theorem c_X9_meetAlong_vf {i j : Int} {F A : gs_F} (hI : gs_I F A) (hi : 0 ≤ i ∧ i < F 106 9) (hj : 0 ≤ j ∧ j < F 106 11) (heq : A 112 i.toNat = A 113 j.toNat) (hVu : gs_vl 3 (F 106 9) (A 112)) (hVv : gs_vl 3 (F 106 11) (A 113)) : sC m_X9_meetAlong 4 [.ref 106, gs_iv i, gs_iv j] F A (fun rv F' A' => ∃ z : Int, rv = some (gs_iv z) ∧ F = F' ∧ A = A' ∧ ((z = 1 ∧ mt_cs (4 * F 106 0) (A 112) (F 106 9) (A 113) (F 106 11) i j) ∨ (z = 0 ∧ ¬ mt_cs (4 * F 106 0) (A 112) (F 106 9) (A 113) (F 106 11) i j))) := by
  refine sC_of ok_X9_meetAlong.1 (Nat.le_of_ble_eq_true rfl) ?_
  show sA _ _ _ 0 [(0, .ref 106), (1, gs_iv i), (2, gs_iv j)] [] F A
  have hb9 : (0 : Int) ≤ F 106 9 ∧ F 106 9 ≤ 400 := hI.1 106 9
  have hb11 : (0 : Int) ≤ F 106 11 ∧ F 106 11 ≤ 60 := hI.1 106 11
  refine sA_iconst (z := 1) dd_X9_meetAlong_0 ?_
  refine sA_istore_n (lv' := [(3, gs_iv 1), (0, .ref 106), (1, gs_iv i), (2, gs_iv j)]) dd_X9_meetAlong_1 rfl (by decide) rfl ?_
  refine sA_iconst (z := 2) dd_X9_meetAlong_2 ?_
  refine sA_aload_n dd_X9_meetAlong_3 rfl (.tail _ (.head _)) ?_
  refine sA_geti (ci := 9) (j := 9) (q := (RX9, TX9, 28)) dd_X9_meetAlong_4 rfl (by decide) fl_X9_83 (by decide) gs_s106 rfl ?_
  have b108 : (0 : Int) ≤ F 106 9 ∧ F 106 9 ≤ 400 := hI.1 106 9
  refine sA_aload_n dd_X9_meetAlong_7 rfl (.tail _ (.head _)) ?_
  refine sA_geti (ci := 9) (j := 11) (q := (RX9, TX9, 28)) dd_X9_meetAlong_8 rfl (by decide) fl_X9_86 (by decide) gs_s106 rfl ?_
  have b109 : (0 : Int) ≤ F 106 11 ∧ F 106 11 ≤ 60 := hI.1 106 11
  refine sA_iadd dd_X9_meetAlong_11 ?_
  refine sA_imul dd_X9_meetAlong_12 ?_
  refine sA_istore (lv' := [(4, gs_iv (2 * ((F 106 9) + (F 106 11)))), (3, gs_iv 1), (0, .ref 106), (1, gs_iv i), (2, gs_iv j)]) dd_X9_meetAlong_13 (by decide) rfl ?_
  refine sA_sub (lv2 := [(4, gs_iv (2 * ((F 106 9) + (F 106 11)))), (3, gs_iv 1), (0, .ref 106), (1, gs_iv i), (2, gs_iv j)]) (List.forall_mem_cons.mpr ⟨(.head _), (List.forall_mem_cons.mpr ⟨(.tail _ (.head _)), (List.forall_mem_cons.mpr ⟨(.tail _ (.tail _ (.head _))), (List.forall_mem_cons.mpr ⟨(.tail _ (.tail _ (.tail _ (.head _)))), (List.forall_mem_cons.mpr ⟨(.tail _ (.tail _ (.tail _ (.tail _ (.head _))))), (fun _ h => absurd h List.not_mem_nil)⟩)⟩)⟩)⟩)⟩) ?_
  exact (k_X9_meetAlong_vf hI hi hj heq hVu hVv ((2 * ((F 106 9) + (F 106 11))) + 1 - 1 : Int).toNat.succ) 1 (2 * ((F 106 9) + (F 106 11)))  (by omega) (by omega) (fun s h1 h2 => by rw [show s = 0 by omega, mt_at0 hi, mt_at0 hj]; exact heq) (by omega)
theorem k_X9_countMeetings_vf {g : Int} {F A : gs_F} (hI : gs_I F A) (hg : g = 0 ∨ g = 1) (hVu : gs_vl 3 (F 106 9) (A 112)) (hVv : gs_vl 3 (F 106 11) (A 113)) : ∀ nN : Nat, (∀ (n : Int) (i : Int),  0 ≤ i ∧ i ≤ F 106 9 → 0 ≤ n ∧ n ≤ 60 * i → n = mt_s2 (mt_p9 (4 * F 106 0) g (A 112) (F 106 9) (A 113) (F 106 11)) (F 106 11).toNat i.toNat → (F 106 9 - i) * 62 + 1 < (nN : Int) → sA m_X9_countMeetings 5 (fun rv F' A' => ∃ z : Int, rv = some (gs_iv z) ∧ F = F' ∧ A = A' ∧ ((0 ≤ z ∧ z ≤ 24000) ∧ z = mt_k9 (4 * F 106 0) g (A 112) (F 106 9) (A 113) (F 106 11))) 4 [(3, gs_iv i), (2, gs_iv n), (0, .ref 106), (1, gs_iv g)] [] F A) ∧ (∀ (n : Int) (i : Int) (j : Int),  0 ≤ i ∧ i < F 106 9 → 0 ≤ j ∧ j ≤ F 106 11 → 0 ≤ n ∧ n ≤ 60 * i + j → F 106 11 ≤ 60 → n = mt_s2 (mt_p9 (4 * F 106 0) g (A 112) (F 106 9) (A 113) (F 106 11)) (F 106 11).toNat i.toNat + mt_s1 (mt_p9 (4 * F 106 0) g (A 112) (F 106 9) (A 113) (F 106 11) i) j.toNat → (F 106 9 - i) * 62 - j < (nN : Int) → sA m_X9_countMeetings 5 (fun rv F' A' => ∃ z : Int, rv = some (gs_iv z) ∧ F = F' ∧ A = A' ∧ ((0 ≤ z ∧ z ≤ 24000) ∧ z = mt_k9 (4 * F 106 0) g (A 112) (F 106 9) (A 113) (F 106 11))) 15 [(4, gs_iv j), (3, gs_iv i), (2, gs_iv n), (0, .ref 106), (1, gs_iv g)] [] F A) := by
  intro nN
  induction nN with
  | zero =>
    exact ⟨fun a0 a1 i0 i1 i2 hm => by exfalso; omega, fun a0 a1 a2 i0 i1 i2 i3 i4 hm => by exfalso; omega⟩
  | succ nN ih =>
    refine ⟨?_, ?_⟩
    · skip
      intro n i i0 i1 i2 hm
      have hb9 : (0 : Int) ≤ F 106 9 ∧ F 106 9 ≤ 400 := hI.1 106 9
      have hb11 : (0 : Int) ≤ F 106 11 ∧ F 106 11 ≤ 60 := hI.1 106 11
      refine sA_iload_n dd_X9_countMeetings_4 rfl (.head _) ?_
      refine sA_aload_n dd_X9_countMeetings_5 rfl (.tail _ (.tail _ (.head _))) ?_
      refine sA_geti (ci := 9) (j := 9) (q := (RX9, TX9, 28)) dd_X9_countMeetings_6 rfl (by decide) fl_X9_83 (by decide) gs_s106 rfl ?_
      have b1 : (0 : Int) ≤ F 106 9 ∧ F 106 9 ≤ 400 := hI.1 106 9
      refine sA_icmp_ge (tgt := 154) dd_X9_countMeetings_9 (by decide) (by omega) (by omega) (fun q2 => ?_) (fun q2 => ?_)
      · skip
        refine sA_iload_n dd_X9_countMeetings_154 rfl (.tail _ (.head _)) ?_
        refine sA_iret (z := n) dd_X9_countMeetings_155 rfl ?_
        refine ⟨_, rfl, rfl, rfl, ?_⟩
        refine ⟨by omega, ?_⟩
        unfold mt_k9
        exact i2.trans (by rw [show i.toNat = (F 106 9).toNat by omega])
      · skip
        refine sA_iconst (z := 0) dd_X9_countMeetings_12 ?_
        refine sA_istore (lv' := [(4, gs_iv 0), (3, gs_iv i), (2, gs_iv n), (0, .ref 106), (1, gs_iv g)]) dd_X9_countMeetings_13 (by decide) rfl ?_
        refine sA_sub (lv2 := [(4, gs_iv 0), (3, gs_iv i), (2, gs_iv n), (0, .ref 106), (1, gs_iv g)]) (List.forall_mem_cons.mpr ⟨(.head _), (List.forall_mem_cons.mpr ⟨(.tail _ (.head _)), (List.forall_mem_cons.mpr ⟨(.tail _ (.tail _ (.head _))), (List.forall_mem_cons.mpr ⟨(.tail _ (.tail _ (.tail _ (.head _)))), (List.forall_mem_cons.mpr ⟨(.tail _ (.tail _ (.tail _ (.tail _ (.head _))))), (fun _ h => absurd h List.not_mem_nil)⟩)⟩)⟩)⟩)⟩) ?_
        exact ih.2 n i 0  (by omega) (by omega) (by omega) (by omega) (by rw [show (0 : Int).toNat = 0 from rfl]; show _ = _ + (0 : Int); rw [Int.add_zero]; exact i2) (by omega)
    · skip
      intro n i j i0 i1 i2 i3 i4 hm
      have hb9 : (0 : Int) ≤ F 106 9 ∧ F 106 9 ≤ 400 := hI.1 106 9
      have hb11 : (0 : Int) ≤ F 106 11 ∧ F 106 11 ≤ 60 := hI.1 106 11
      refine sA_iload dd_X9_countMeetings_15 (.head _) ?_
      refine sA_aload_n dd_X9_countMeetings_17 rfl (.tail _ (.tail _ (.tail _ (.head _)))) ?_
      refine sA_geti (ci := 9) (j := 11) (q := (RX9, TX9, 28)) dd_X9_countMeetings_18 rfl (by decide) fl_X9_86 (by decide) gs_s106 rfl ?_
      have b3 : (0 : Int) ≤ F 106 11 ∧ F 106 11 ≤ 60 := hI.1 106 11
      refine sA_icmp_ge (tgt := 148) dd_X9_countMeetings_21 (by decide) (by omega) (by omega) (fun q4 => ?_) (fun q4 => ?_)
      · skip
        refine sA_iinc (lv' := [(3, gs_iv (i + 1)), (4, gs_iv j), (2, gs_iv n), (0, .ref 106), (1, gs_iv g)]) dd_X9_countMeetings_148 (.tail _ (.head _)) (by decide) rfl ?_
        refine sA_goto (tgt := 4) dd_X9_countMeetings_151 (by decide) ?_
        refine sA_sub (lv2 := [(3, gs_iv (i + 1)), (2, gs_iv n), (0, .ref 106), (1, gs_iv g)]) (List.forall_mem_cons.mpr ⟨(.head _), (List.forall_mem_cons.mpr ⟨(.tail _ (.tail _ (.head _))), (List.forall_mem_cons.mpr ⟨(.tail _ (.tail _ (.tail _ (.head _)))), (List.forall_mem_cons.mpr ⟨(.tail _ (.tail _ (.tail _ (.tail _ (.head _))))), (fun _ h => absurd h List.not_mem_nil)⟩)⟩)⟩)⟩) ?_
        exact ih.1 n (i + 1)  (by omega) (by omega) (mt_row (by omega) (i4.trans (by rw [show j.toNat = (F 106 11).toNat by omega]))) (by omega)
      · skip
        refine sA_aload_n dd_X9_countMeetings_24 rfl (.tail _ (.tail _ (.tail _ (.head _)))) ?_
        refine sA_getr (ci := 9) (j := 8) (q := (RX9, TX9, 28)) dd_X9_countMeetings_25 rfl (by decide) fl_X9_25 (by decide) gs_s106 rfl ?_
        refine sA_iload_n dd_X9_countMeetings_28 rfl (.tail _ (.head _)) ?_
        refine sA_iald (n := 400) dd_X9_countMeetings_29 (by decide) gs_s112 (by omega) (by decide) ?_
        have b5 : (-9 : Int) ≤ A 112 i.toNat ∧ A 112 i.toNat ≤ 9 := hI.2 112 i.toNat
        refine sA_istore (lv' := [(5, gs_iv (A 112 i.toNat)), (4, gs_iv j), (3, gs_iv i), (2, gs_iv n), (0, .ref 106), (1, gs_iv g)]) dd_X9_countMeetings_30 (by decide) rfl ?_
        refine sA_aload_n dd_X9_countMeetings_32 rfl (.tail _ (.tail _ (.tail _ (.tail _ (.head _))))) ?_
        refine sA_getr (ci := 9) (j := 10) (q := (RX9, TX9, 28)) dd_X9_countMeetings_33 rfl (by decide) fl_X9_28 (by decide) gs_s106 rfl ?_
        refine sA_iload dd_X9_countMeetings_36 (.tail _ (.head _)) ?_
        refine sA_iald (n := 400) dd_X9_countMeetings_38 (by decide) gs_s113 (by omega) (by decide) ?_
        have b6 : (-9 : Int) ≤ A 113 j.toNat ∧ A 113 j.toNat ≤ 9 := hI.2 113 j.toNat
        refine sA_istore (lv' := [(6, gs_iv (A 113 j.toNat)), (5, gs_iv (A 112 i.toNat)), (4, gs_iv j), (3, gs_iv i), (2, gs_iv n), (0, .ref 106), (1, gs_iv g)]) dd_X9_countMeetings_39 (by decide) rfl ?_
        refine sA_iconst (z := 0) dd_X9_countMeetings_41 ?_
        refine sA_aload_n dd_X9_countMeetings_42 rfl (.tail _ (.tail _ (.tail _ (.tail _ (.tail _ (.head _)))))) ?_
        refine sA_iload_n dd_X9_countMeetings_43 rfl (.tail _ (.tail _ (.tail _ (.head _)))) ?_
        refine sA_aload_n dd_X9_countMeetings_44 rfl (.tail _ (.tail _ (.tail _ (.tail _ (.tail _ (.head _)))))) ?_
        refine sA_geti (ci := 9) (j := 9) (q := (RX9, TX9, 28)) dd_X9_countMeetings_45 rfl (by decide) fl_X9_83 (by decide) gs_s106 rfl ?_
        have b7 : (0 : Int) ≤ F 106 9 ∧ F 106 9 ≤ 400 := hI.1 106 9
        refine sA_iadd dd_X9_countMeetings_48 ?_
        refine sA_iconst (z := 1) dd_X9_countMeetings_49 ?_
        refine sA_isub dd_X9_countMeetings_50 ?_
        refine sA_callV (y2 := m_X9_ofU) (n2 := 1) (d2 := 1) (a := 106) (ci := 9) (q := (RX9, TX9, 28)) (as := [gs_iv ((i + (F 106 9)) - 1)]) (rest := [gs_iv 0]) dd_X9_countMeetings_51 ok_X9_ofU ml_X9_89 rfl rfl (by decide) gs_s106 rfl rfl (Nat.le_of_ble_eq_true rfl) (by decide) (c_X9_ofU_vf hI (by omega) (by omega)) (fun r8 F9 A10 h11 => ?_)
        obtain ⟨z14, e13, e15, e16, x12⟩ := h11
        subst e13 e15 e16
        have y17 : z14 = A 112 (((i + (F 106 9)) - 1) % F 106 9).toNat ∧ -9 ≤ z14 ∧ z14 ≤ 9 := x12
        clear x12
        show sA _ _ _ 54 _ [gs_iv z14, gs_iv 0] _ _
        have hl51 : z14 ≠ 0 ∧ -(2 * 3) ≤ z14 ∧ z14 ≤ 2 * 3 := by rw [y17.1]; exact mt_vl_of hVu (by omega)
        have hx7 : mt_at (A 112) (F 106 9) i (-1) = z14 := by rw [mt_atm]; exact y17.1.symm
        have hla := hVu i.toNat (by omega)
        have hlb := hVv j.toNat (by omega)
        refine sA_isub dd_X9_countMeetings_54 ?_
        refine sA_istore (lv' := [(7, gs_iv (0 - z14)), (6, gs_iv (A 113 j.toNat)), (5, gs_iv (A 112 i.toNat)), (4, gs_iv j), (3, gs_iv i), (2, gs_iv n), (0, .ref 106), (1, gs_iv g)]) dd_X9_countMeetings_55 (by decide) rfl ?_
        refine sA_iconst (z := 0) dd_X9_countMeetings_57 ?_
        refine sA_aload_n dd_X9_countMeetings_58 rfl (.tail _ (.tail _ (.tail _ (.tail _ (.tail _ (.tail _ (.head _))))))) ?_
        refine sA_iload dd_X9_countMeetings_59 (.tail _ (.tail _ (.tail _ (.head _)))) ?_
        refine sA_aload_n dd_X9_countMeetings_61 rfl (.tail _ (.tail _ (.tail _ (.tail _ (.tail _ (.tail _ (.head _))))))) ?_
        refine sA_geti (ci := 9) (j := 11) (q := (RX9, TX9, 28)) dd_X9_countMeetings_62 rfl (by decide) fl_X9_86 (by decide) gs_s106 rfl ?_
        refine sA_iadd dd_X9_countMeetings_65 ?_
        refine sA_iconst (z := 1) dd_X9_countMeetings_66 ?_
        refine sA_isub dd_X9_countMeetings_67 ?_
        refine sA_callV (y2 := m_X9_ofV) (n2 := 1) (d2 := 1) (a := 106) (ci := 9) (q := (RX9, TX9, 28)) (as := [gs_iv ((j + (F 106 11)) - 1)]) (rest := [gs_iv 0]) dd_X9_countMeetings_68 ok_X9_ofV ml_X9_123 rfl rfl (by decide) gs_s106 rfl rfl (Nat.le_of_ble_eq_true rfl) (by decide) (c_X9_ofV_vf hI (by omega) (by omega)) (fun r18 F19 A20 h21 => ?_)
        obtain ⟨z24, e23, e25, e26, x22⟩ := h21
        subst e23 e25 e26
        have y27 : z24 = A 113 (((j + (F 106 11)) - 1) % F 106 11).toNat ∧ -9 ≤ z24 ∧ z24 ≤ 9 := x22
        clear x22
        show sA _ _ _ 71 _ [gs_iv z24, gs_iv 0] _ _
        have hl68 : z24 ≠ 0 ∧ -(2 * 3) ≤ z24 ∧ z24 ≤ 2 * 3 := by rw [y27.1]; exact mt_vl_of hVv (by omega)
        have hy8 : mt_at (A 113) (F 106 11) j (-1) = z24 := by rw [mt_atm]; exact y27.1.symm
        refine sA_isub dd_X9_countMeetings_71 ?_
        refine sA_istore (lv' := [(8, gs_iv (0 - z24)), (7, gs_iv (0 - z14)), (6, gs_iv (A 113 j.toNat)), (5, gs_iv (A 112 i.toNat)), (4, gs_iv j), (3, gs_iv i), (2, gs_iv n), (0, .ref 106), (1, gs_iv g)]) dd_X9_countMeetings_72 (by decide) rfl ?_
        refine sA_iload dd_X9_countMeetings_74 (.tail _ (.tail _ (.tail _ (.head _)))) ?_
        refine sA_iload dd_X9_countMeetings_76 (.tail _ (.tail _ (.head _))) ?_
        refine sA_icmp_eq (tgt := 114) dd_X9_countMeetings_78 (by decide) (by omega) (by omega) (fun q28 => ?_) (fun q28 => ?_)
        · skip
          refine sA_iload_n dd_X9_countMeetings_114 rfl (.tail _ (.tail _ (.tail _ (.tail _ (.tail _ (.tail _ (.head _))))))) ?_
          refine sA_iload dd_X9_countMeetings_115 (.tail _ (.head _)) ?_
          refine sA_iload dd_X9_countMeetings_117 (.head _) ?_
          refine sA_icmp_eq (tgt := 136) dd_X9_countMeetings_119 (by decide) (by omega) (by omega) (fun q29 => ?_) (fun q29 => ?_)
          · skip
            refine sA_iconst (z := 0) dd_X9_countMeetings_136 ?_
            refine sA_callS (y2 := m_X9_bit) (n2 := 1) (d2 := 1) (as := [gs_iv 0]) (rest := [gs_iv n]) dd_X9_countMeetings_137 ok_X9_bit ml_X9_112 rfl rfl (Nat.le_of_ble_eq_true rfl) (by decide) (c_X9_bit (by omega)) (fun r30 F31 A32 h33 => ?_)
            obtain ⟨z36, e35, e37, e38, x34⟩ := h33
            subst e35 e37 e38
            show sA _ _ _ 140 _ [gs_iv z36, gs_iv n] _ _
            refine sA_iadd dd_X9_countMeetings_140 ?_
            refine sA_istore_n (lv' := [(2, gs_iv (n + z36)), (8, gs_iv (0 - z24)), (7, gs_iv (0 - z14)), (6, gs_iv (A 113 j.toNat)), (5, gs_iv (A 112 i.toNat)), (4, gs_iv j), (3, gs_iv i), (0, .ref 106), (1, gs_iv g)]) dd_X9_countMeetings_141 rfl (by decide) rfl ?_
            refine sA_iinc (lv' := [(4, gs_iv (j + 1)), (2, gs_iv (n + z36)), (8, gs_iv (0 - z24)), (7, gs_iv (0 - z14)), (6, gs_iv (A 113 j.toNat)), (5, gs_iv (A 112 i.toNat)), (3, gs_iv i), (0, .ref 106), (1, gs_iv g)]) dd_X9_countMeetings_142 (.tail _ (.tail _ (.tail _ (.tail _ (.tail _ (.head _)))))) (by decide) rfl ?_
            refine sA_goto (tgt := 15) dd_X9_countMeetings_145 (by decide) ?_
            refine sA_sub (lv2 := [(4, gs_iv (j + 1)), (3, gs_iv i), (2, gs_iv (n + z36)), (0, .ref 106), (1, gs_iv g)]) (List.forall_mem_cons.mpr ⟨(.head _), (List.forall_mem_cons.mpr ⟨(.tail _ (.tail _ (.tail _ (.tail _ (.tail _ (.tail _ (.head _))))))), (List.forall_mem_cons.mpr ⟨(.tail _ (.head _)), (List.forall_mem_cons.mpr ⟨(.tail _ (.tail _ (.tail _ (.tail _ (.tail _ (.tail _ (.tail _ (.head _)))))))), (List.forall_mem_cons.mpr ⟨(.tail _ (.tail _ (.tail _ (.tail _ (.tail _ (.tail _ (.tail _ (.tail _ (.head _))))))))), (fun _ h => absurd h List.not_mem_nil)⟩)⟩)⟩)⟩)⟩) ?_
            exact ih.2 (n + z36) i (j + 1)  (by omega) (by omega) (by omega) (by omega) (mt_stb (by omega) i4 (by exact .inr ⟨by omega, fun w => by rcases w with w | w <;> (have w1 := w.1; have w2 := w.2.1; omega)⟩)) (by omega)
          · skip
            refine sA_aload_n dd_X9_countMeetings_122 rfl (.tail _ (.tail _ (.tail _ (.tail _ (.tail _ (.tail _ (.tail _ (.head _)))))))) ?_
            refine sA_iload_n dd_X9_countMeetings_123 rfl (.tail _ (.tail _ (.tail _ (.tail _ (.tail _ (.head _)))))) ?_
            refine sA_iload dd_X9_countMeetings_124 (.tail _ (.tail _ (.tail _ (.tail _ (.head _))))) ?_
            refine sA_callV (y2 := m_X9_meetAlong) (n2 := 2) (d2 := 4) (a := 106) (ci := 9) (q := (RX9, TX9, 28)) (as := [gs_iv i, gs_iv j]) (rest := [gs_iv n]) dd_X9_countMeetings_126 ok_X9_meetAlong ml_X9_134 rfl rfl (by decide) gs_s106 rfl rfl (Nat.le_of_ble_eq_true rfl) (by decide) (c_X9_meetAlong_vf hI (by omega) (by omega) (by omega) hVu hVv) (fun r39 F40 A41 h42 => ?_)
            obtain ⟨z45, e44, e46, e47, x43⟩ := h42
            subst e44 e46 e47
            have y48 : (z45 = 1 ∧ mt_cs (4 * F 106 0) (A 112) (F 106 9) (A 113) (F 106 11) i j) ∨ (z45 = 0 ∧ ¬ mt_cs (4 * F 106 0) (A 112) (F 106 9) (A 113) (F 106 11) i j) := x43
            clear x43
            show sA _ _ _ 129 _ [gs_iv z45, gs_iv n] _ _
            refine sA_if_eq (tgt := 136) dd_X9_countMeetings_129 (by decide) (by omega) (fun q49 => ?_) (fun q49 => ?_)
            · skip
              refine sA_iconst (z := 0) dd_X9_countMeetings_136 ?_
              refine sA_callS (y2 := m_X9_bit) (n2 := 1) (d2 := 1) (as := [gs_iv 0]) (rest := [gs_iv n]) dd_X9_countMeetings_137 ok_X9_bit ml_X9_112 rfl rfl (Nat.le_of_ble_eq_true rfl) (by decide) (c_X9_bit (by omega)) (fun r50 F51 A52 h53 => ?_)
              obtain ⟨z56, e55, e57, e58, x54⟩ := h53
              subst e55 e57 e58
              show sA _ _ _ 140 _ [gs_iv z56, gs_iv n] _ _
              refine sA_iadd dd_X9_countMeetings_140 ?_
              refine sA_istore_n (lv' := [(2, gs_iv (n + z56)), (8, gs_iv (0 - z24)), (7, gs_iv (0 - z14)), (6, gs_iv (A 113 j.toNat)), (5, gs_iv (A 112 i.toNat)), (4, gs_iv j), (3, gs_iv i), (0, .ref 106), (1, gs_iv g)]) dd_X9_countMeetings_141 rfl (by decide) rfl ?_
              refine sA_iinc (lv' := [(4, gs_iv (j + 1)), (2, gs_iv (n + z56)), (8, gs_iv (0 - z24)), (7, gs_iv (0 - z14)), (6, gs_iv (A 113 j.toNat)), (5, gs_iv (A 112 i.toNat)), (3, gs_iv i), (0, .ref 106), (1, gs_iv g)]) dd_X9_countMeetings_142 (.tail _ (.tail _ (.tail _ (.tail _ (.tail _ (.head _)))))) (by decide) rfl ?_
              refine sA_goto (tgt := 15) dd_X9_countMeetings_145 (by decide) ?_
              refine sA_sub (lv2 := [(4, gs_iv (j + 1)), (3, gs_iv i), (2, gs_iv (n + z56)), (0, .ref 106), (1, gs_iv g)]) (List.forall_mem_cons.mpr ⟨(.head _), (List.forall_mem_cons.mpr ⟨(.tail _ (.tail _ (.tail _ (.tail _ (.tail _ (.tail _ (.head _))))))), (List.forall_mem_cons.mpr ⟨(.tail _ (.head _)), (List.forall_mem_cons.mpr ⟨(.tail _ (.tail _ (.tail _ (.tail _ (.tail _ (.tail _ (.tail _ (.head _)))))))), (List.forall_mem_cons.mpr ⟨(.tail _ (.tail _ (.tail _ (.tail _ (.tail _ (.tail _ (.tail _ (.tail _ (.head _))))))))), (fun _ h => absurd h List.not_mem_nil)⟩)⟩)⟩)⟩)⟩) ?_
              exact ih.2 (n + z56) i (j + 1)  (by omega) (by omega) (by omega) (by omega) (mt_stb (by omega) i4 (by rcases y48 with y | y <;> first | exact .inl ⟨by omega, .inr ⟨by omega, by omega, y.2⟩⟩ | exact .inr ⟨by omega, fun w => by rcases w with w | w <;> first | exact y.2 w.2.2 | (have w1 := w.1; omega) | fail⟩ | (exfalso; omega) | fail)) (by omega)
            · skip
              refine sA_iconst (z := 1) dd_X9_countMeetings_132 ?_
              refine sA_goto (tgt := 137) dd_X9_countMeetings_133 (by decide) ?_
              refine sA_callS (y2 := m_X9_bit) (n2 := 1) (d2 := 1) (as := [gs_iv 1]) (rest := [gs_iv n]) dd_X9_countMeetings_137 ok_X9_bit ml_X9_112 rfl rfl (Nat.le_of_ble_eq_true rfl) (by decide) (c_X9_bit (by omega)) (fun r59 F60 A61 h62 => ?_)
              obtain ⟨z65, e64, e66, e67, x63⟩ := h62
              subst e64 e66 e67
              show sA _ _ _ 140 _ [gs_iv z65, gs_iv n] _ _
              refine sA_iadd dd_X9_countMeetings_140 ?_
              refine sA_istore_n (lv' := [(2, gs_iv (n + z65)), (8, gs_iv (0 - z24)), (7, gs_iv (0 - z14)), (6, gs_iv (A 113 j.toNat)), (5, gs_iv (A 112 i.toNat)), (4, gs_iv j), (3, gs_iv i), (0, .ref 106), (1, gs_iv g)]) dd_X9_countMeetings_141 rfl (by decide) rfl ?_
              refine sA_iinc (lv' := [(4, gs_iv (j + 1)), (2, gs_iv (n + z65)), (8, gs_iv (0 - z24)), (7, gs_iv (0 - z14)), (6, gs_iv (A 113 j.toNat)), (5, gs_iv (A 112 i.toNat)), (3, gs_iv i), (0, .ref 106), (1, gs_iv g)]) dd_X9_countMeetings_142 (.tail _ (.tail _ (.tail _ (.tail _ (.tail _ (.head _)))))) (by decide) rfl ?_
              refine sA_goto (tgt := 15) dd_X9_countMeetings_145 (by decide) ?_
              refine sA_sub (lv2 := [(4, gs_iv (j + 1)), (3, gs_iv i), (2, gs_iv (n + z65)), (0, .ref 106), (1, gs_iv g)]) (List.forall_mem_cons.mpr ⟨(.head _), (List.forall_mem_cons.mpr ⟨(.tail _ (.tail _ (.tail _ (.tail _ (.tail _ (.tail _ (.head _))))))), (List.forall_mem_cons.mpr ⟨(.tail _ (.head _)), (List.forall_mem_cons.mpr ⟨(.tail _ (.tail _ (.tail _ (.tail _ (.tail _ (.tail _ (.tail _ (.head _)))))))), (List.forall_mem_cons.mpr ⟨(.tail _ (.tail _ (.tail _ (.tail _ (.tail _ (.tail _ (.tail _ (.tail _ (.head _))))))))), (fun _ h => absurd h List.not_mem_nil)⟩)⟩)⟩)⟩)⟩) ?_
              exact ih.2 (n + z65) i (j + 1)  (by omega) (by omega) (by omega) (by omega) (mt_stb (by omega) i4 (by rcases y48 with y | y <;> first | exact .inl ⟨by omega, .inr ⟨by omega, by omega, y.2⟩⟩ | exact .inr ⟨by omega, fun w => by rcases w with w | w <;> first | exact y.2 w.2.2 | (have w1 := w.1; omega) | fail⟩ | (exfalso; omega) | fail)) (by omega)
        · skip
          refine sA_iload_n dd_X9_countMeetings_81 rfl (.tail _ (.tail _ (.tail _ (.tail _ (.tail _ (.tail _ (.head _))))))) ?_
          refine sA_iload_n dd_X9_countMeetings_82 rfl (.tail _ (.tail _ (.tail _ (.tail _ (.tail _ (.tail _ (.tail _ (.tail _ (.head _))))))))) ?_
          refine sA_if_eq (tgt := 105) dd_X9_countMeetings_83 (by decide) (by omega) (fun q68 => ?_) (fun q68 => ?_)
          · skip
            refine sA_iconst (z := 0) dd_X9_countMeetings_105 ?_
            refine sA_callS (y2 := m_X9_bit) (n2 := 1) (d2 := 1) (as := [gs_iv 0]) (rest := [gs_iv n]) dd_X9_countMeetings_106 ok_X9_bit ml_X9_112 rfl rfl (Nat.le_of_ble_eq_true rfl) (by decide) (c_X9_bit (by omega)) (fun r69 F70 A71 h72 => ?_)
            obtain ⟨z75, e74, e76, e77, x73⟩ := h72
            subst e74 e76 e77
            show sA _ _ _ 109 _ [gs_iv z75, gs_iv n] _ _
            refine sA_iadd dd_X9_countMeetings_109 ?_
            refine sA_istore_n (lv' := [(2, gs_iv (n + z75)), (8, gs_iv (0 - z24)), (7, gs_iv (0 - z14)), (6, gs_iv (A 113 j.toNat)), (5, gs_iv (A 112 i.toNat)), (4, gs_iv j), (3, gs_iv i), (0, .ref 106), (1, gs_iv g)]) dd_X9_countMeetings_110 rfl (by decide) rfl ?_
            refine sA_goto (tgt := 142) dd_X9_countMeetings_111 (by decide) ?_
            refine sA_iinc (lv' := [(4, gs_iv (j + 1)), (2, gs_iv (n + z75)), (8, gs_iv (0 - z24)), (7, gs_iv (0 - z14)), (6, gs_iv (A 113 j.toNat)), (5, gs_iv (A 112 i.toNat)), (3, gs_iv i), (0, .ref 106), (1, gs_iv g)]) dd_X9_countMeetings_142 (.tail _ (.tail _ (.tail _ (.tail _ (.tail _ (.head _)))))) (by decide) rfl ?_
            refine sA_goto (tgt := 15) dd_X9_countMeetings_145 (by decide) ?_
            refine sA_sub (lv2 := [(4, gs_iv (j + 1)), (3, gs_iv i), (2, gs_iv (n + z75)), (0, .ref 106), (1, gs_iv g)]) (List.forall_mem_cons.mpr ⟨(.head _), (List.forall_mem_cons.mpr ⟨(.tail _ (.tail _ (.tail _ (.tail _ (.tail _ (.tail _ (.head _))))))), (List.forall_mem_cons.mpr ⟨(.tail _ (.head _)), (List.forall_mem_cons.mpr ⟨(.tail _ (.tail _ (.tail _ (.tail _ (.tail _ (.tail _ (.tail _ (.head _)))))))), (List.forall_mem_cons.mpr ⟨(.tail _ (.tail _ (.tail _ (.tail _ (.tail _ (.tail _ (.tail _ (.tail _ (.head _))))))))), (fun _ h => absurd h List.not_mem_nil)⟩)⟩)⟩)⟩)⟩) ?_
            exact ih.2 (n + z75) i (j + 1)  (by omega) (by omega) (by omega) (by omega) (mt_stb (by omega) i4 (by exact .inr ⟨by omega, fun w => by rcases w with w | w <;> (have w1 := w.1; have w2 := w.2.1; omega)⟩)) (by omega)
          · skip
            refine sA_aload_n dd_X9_countMeetings_86 rfl (.tail _ (.tail _ (.tail _ (.tail _ (.tail _ (.tail _ (.tail _ (.head _)))))))) ?_
            refine sA_iload dd_X9_countMeetings_87 (.tail _ (.head _)) ?_
            refine sA_iload dd_X9_countMeetings_89 (.tail _ (.tail _ (.tail _ (.head _)))) ?_
            refine sA_iload dd_X9_countMeetings_91 (.head _) ?_
            refine sA_iload dd_X9_countMeetings_93 (.tail _ (.tail _ (.head _))) ?_
            refine sA_callV (y2 := m_X9_meetAtOnce) (n2 := 4) (d2 := 3) (a := 106) (ci := 9) (q := (RX9, TX9, 28)) (as := [gs_iv (0 - z14), gs_iv (A 112 i.toNat), gs_iv (0 - z24), gs_iv (A 113 j.toNat)]) (rest := [gs_iv n]) dd_X9_countMeetings_95 ok_X9_meetAtOnce ml_X9_130 rfl rfl (by decide) gs_s106 rfl rfl (Nat.le_of_ble_eq_true rfl) (by decide) (c_X9_meetAtOnce_vf hI (by omega) (by omega) (by omega) (by omega)) (fun r78 F79 A80 h81 => ?_)
            obtain ⟨z84, e83, e85, e86, x82⟩ := h81
            subst e83 e85 e86
            have y87 : (z84 = 1 ∧ mt_c9 (4 * F 106 0) (0 - z14) (A 112 i.toNat) (0 - z24) (A 113 j.toNat)) ∨ (z84 = 0 ∧ ¬ mt_c9 (4 * F 106 0) (0 - z14) (A 112 i.toNat) (0 - z24) (A 113 j.toNat)) := x82
            clear x82
            show sA _ _ _ 98 _ [gs_iv z84, gs_iv n] _ _
            refine sA_if_eq (tgt := 105) dd_X9_countMeetings_98 (by decide) (by omega) (fun q88 => ?_) (fun q88 => ?_)
            · skip
              refine sA_iconst (z := 0) dd_X9_countMeetings_105 ?_
              refine sA_callS (y2 := m_X9_bit) (n2 := 1) (d2 := 1) (as := [gs_iv 0]) (rest := [gs_iv n]) dd_X9_countMeetings_106 ok_X9_bit ml_X9_112 rfl rfl (Nat.le_of_ble_eq_true rfl) (by decide) (c_X9_bit (by omega)) (fun r89 F90 A91 h92 => ?_)
              obtain ⟨z95, e94, e96, e97, x93⟩ := h92
              subst e94 e96 e97
              show sA _ _ _ 109 _ [gs_iv z95, gs_iv n] _ _
              refine sA_iadd dd_X9_countMeetings_109 ?_
              refine sA_istore_n (lv' := [(2, gs_iv (n + z95)), (8, gs_iv (0 - z24)), (7, gs_iv (0 - z14)), (6, gs_iv (A 113 j.toNat)), (5, gs_iv (A 112 i.toNat)), (4, gs_iv j), (3, gs_iv i), (0, .ref 106), (1, gs_iv g)]) dd_X9_countMeetings_110 rfl (by decide) rfl ?_
              refine sA_goto (tgt := 142) dd_X9_countMeetings_111 (by decide) ?_
              refine sA_iinc (lv' := [(4, gs_iv (j + 1)), (2, gs_iv (n + z95)), (8, gs_iv (0 - z24)), (7, gs_iv (0 - z14)), (6, gs_iv (A 113 j.toNat)), (5, gs_iv (A 112 i.toNat)), (3, gs_iv i), (0, .ref 106), (1, gs_iv g)]) dd_X9_countMeetings_142 (.tail _ (.tail _ (.tail _ (.tail _ (.tail _ (.head _)))))) (by decide) rfl ?_
              refine sA_goto (tgt := 15) dd_X9_countMeetings_145 (by decide) ?_
              refine sA_sub (lv2 := [(4, gs_iv (j + 1)), (3, gs_iv i), (2, gs_iv (n + z95)), (0, .ref 106), (1, gs_iv g)]) (List.forall_mem_cons.mpr ⟨(.head _), (List.forall_mem_cons.mpr ⟨(.tail _ (.tail _ (.tail _ (.tail _ (.tail _ (.tail _ (.head _))))))), (List.forall_mem_cons.mpr ⟨(.tail _ (.head _)), (List.forall_mem_cons.mpr ⟨(.tail _ (.tail _ (.tail _ (.tail _ (.tail _ (.tail _ (.tail _ (.head _)))))))), (List.forall_mem_cons.mpr ⟨(.tail _ (.tail _ (.tail _ (.tail _ (.tail _ (.tail _ (.tail _ (.tail _ (.head _))))))))), (fun _ h => absurd h List.not_mem_nil)⟩)⟩)⟩)⟩)⟩) ?_
              exact ih.2 (n + z95) i (j + 1)  (by omega) (by omega) (by omega) (by omega) (mt_stb (by omega) i4 (by have y0 := y87; rw [Int.zero_sub, Int.zero_sub, ← hx7, ← hy8] at y0; rcases y0 with y | y <;> first | exact .inl ⟨by omega, .inl ⟨by omega, by omega, y.2⟩⟩ | exact .inr ⟨by omega, fun w => by rcases w with w | w <;> first | exact y.2 w.2.2 | (have w1 := w.1; omega) | fail⟩ | (exfalso; omega) | fail)) (by omega)
            · skip
              refine sA_iconst (z := 1) dd_X9_countMeetings_101 ?_
              refine sA_goto (tgt := 106) dd_X9_countMeetings_102 (by decide) ?_
              refine sA_callS (y2 := m_X9_bit) (n2 := 1) (d2 := 1) (as := [gs_iv 1]) (rest := [gs_iv n]) dd_X9_countMeetings_106 ok_X9_bit ml_X9_112 rfl rfl (Nat.le_of_ble_eq_true rfl) (by decide) (c_X9_bit (by omega)) (fun r98 F99 A100 h101 => ?_)
              obtain ⟨z104, e103, e105, e106, x102⟩ := h101
              subst e103 e105 e106
              show sA _ _ _ 109 _ [gs_iv z104, gs_iv n] _ _
              refine sA_iadd dd_X9_countMeetings_109 ?_
              refine sA_istore_n (lv' := [(2, gs_iv (n + z104)), (8, gs_iv (0 - z24)), (7, gs_iv (0 - z14)), (6, gs_iv (A 113 j.toNat)), (5, gs_iv (A 112 i.toNat)), (4, gs_iv j), (3, gs_iv i), (0, .ref 106), (1, gs_iv g)]) dd_X9_countMeetings_110 rfl (by decide) rfl ?_
              refine sA_goto (tgt := 142) dd_X9_countMeetings_111 (by decide) ?_
              refine sA_iinc (lv' := [(4, gs_iv (j + 1)), (2, gs_iv (n + z104)), (8, gs_iv (0 - z24)), (7, gs_iv (0 - z14)), (6, gs_iv (A 113 j.toNat)), (5, gs_iv (A 112 i.toNat)), (3, gs_iv i), (0, .ref 106), (1, gs_iv g)]) dd_X9_countMeetings_142 (.tail _ (.tail _ (.tail _ (.tail _ (.tail _ (.head _)))))) (by decide) rfl ?_
              refine sA_goto (tgt := 15) dd_X9_countMeetings_145 (by decide) ?_
              refine sA_sub (lv2 := [(4, gs_iv (j + 1)), (3, gs_iv i), (2, gs_iv (n + z104)), (0, .ref 106), (1, gs_iv g)]) (List.forall_mem_cons.mpr ⟨(.head _), (List.forall_mem_cons.mpr ⟨(.tail _ (.tail _ (.tail _ (.tail _ (.tail _ (.tail _ (.head _))))))), (List.forall_mem_cons.mpr ⟨(.tail _ (.head _)), (List.forall_mem_cons.mpr ⟨(.tail _ (.tail _ (.tail _ (.tail _ (.tail _ (.tail _ (.tail _ (.head _)))))))), (List.forall_mem_cons.mpr ⟨(.tail _ (.tail _ (.tail _ (.tail _ (.tail _ (.tail _ (.tail _ (.tail _ (.head _))))))))), (fun _ h => absurd h List.not_mem_nil)⟩)⟩)⟩)⟩)⟩) ?_
              exact ih.2 (n + z104) i (j + 1)  (by omega) (by omega) (by omega) (by omega) (mt_stb (by omega) i4 (by have y0 := y87; rw [Int.zero_sub, Int.zero_sub, ← hx7, ← hy8] at y0; rcases y0 with y | y <;> first | exact .inl ⟨by omega, .inl ⟨by omega, by omega, y.2⟩⟩ | exact .inr ⟨by omega, fun w => by rcases w with w | w <;> first | exact y.2 w.2.2 | (have w1 := w.1; omega) | fail⟩ | (exfalso; omega) | fail)) (by omega)
theorem c_X9_countMeetings_vf {g : Int} {F A : gs_F} (hI : gs_I F A) (hg : g = 0 ∨ g = 1) (hVu : gs_vl 3 (F 106 9) (A 112)) (hVv : gs_vl 3 (F 106 11) (A 113)) : sC m_X9_countMeetings 5 [.ref 106, gs_iv g] F A (fun rv F' A' => ∃ z : Int, rv = some (gs_iv z) ∧ F = F' ∧ A = A' ∧ ((0 ≤ z ∧ z ≤ 24000) ∧ z = mt_k9 (4 * F 106 0) g (A 112) (F 106 9) (A 113) (F 106 11))) := by
  refine sC_of ok_X9_countMeetings.1 (Nat.le_of_ble_eq_true rfl) ?_
  show sA _ _ _ 0 [(0, .ref 106), (1, gs_iv g)] [] F A
  have hb9 : (0 : Int) ≤ F 106 9 ∧ F 106 9 ≤ 400 := hI.1 106 9
  have hb11 : (0 : Int) ≤ F 106 11 ∧ F 106 11 ≤ 60 := hI.1 106 11
  refine sA_iconst (z := 0) dd_X9_countMeetings_0 ?_
  refine sA_istore_n (lv' := [(2, gs_iv 0), (0, .ref 106), (1, gs_iv g)]) dd_X9_countMeetings_1 rfl (by decide) rfl ?_
  refine sA_iconst (z := 0) dd_X9_countMeetings_2 ?_
  refine sA_istore_n (lv' := [(3, gs_iv 0), (2, gs_iv 0), (0, .ref 106), (1, gs_iv g)]) dd_X9_countMeetings_3 rfl (by decide) rfl ?_
  refine sA_sub (lv2 := [(3, gs_iv 0), (2, gs_iv 0), (0, .ref 106), (1, gs_iv g)]) (List.forall_mem_cons.mpr ⟨(.head _), (List.forall_mem_cons.mpr ⟨(.tail _ (.head _)), (List.forall_mem_cons.mpr ⟨(.tail _ (.tail _ (.head _))), (List.forall_mem_cons.mpr ⟨(.tail _ (.tail _ (.tail _ (.head _)))), (fun _ h => absurd h List.not_mem_nil)⟩)⟩)⟩)⟩) ?_
  exact (k_X9_countMeetings_vf hI hg hVu hVv ((F 106 9 - 0) * 62 + 1 : Int).toNat.succ).1 0 0  (by omega) (by omega) (by rfl) (by omega)
theorem c_X9_meetings_vf  {F A : gs_F} (hI : gs_I F A) (hv : 1 ≤ F 106 11) (hVu : gs_vl 3 (F 106 9) (A 112)) (hVv : gs_vl 3 (F 106 11) (A 113)) : sC m_X9_meetings 6 [.ref 106] F A (fun rv F' A' => ∃ z : Int, rv = some (gs_iv z) ∧ gs_I F' A' ∧ gs_fr (fun _ _ => False) (fun c => c = 113) F A F' A' ∧ ((0 ≤ z ∧ z ≤ 48000) ∧ z = mt_m9 (4 * F 106 0) (A 112) (F 106 9) (A 113) (F 106 11))) := by
  refine sC_of ok_X9_meetings.1 (Nat.le_of_ble_eq_true rfl) ?_
  show sA _ _ _ 0 [(0, .ref 106)] [] F A
  have hf : gs_fr (fun _ _ => False) (fun c => c = 113) F A F A := gs_fr_refl _ _ _ _
  have b1 : (1 : Int) ≤ F 106 0 ∧ F 106 0 ≤ 3 := hI.1 106 0
  have b2 : (0 : Int) ≤ F 106 9 ∧ F 106 9 ≤ 400 := hI.1 106 9
  have b3 : (0 : Int) ≤ F 106 11 ∧ F 106 11 ≤ 60 := hI.1 106 11
  have u4 : A 112 = A 112 := rfl
  refine sA_aload_n dd_X9_meetings_0 rfl (.head _) ?_
  refine sA_iconst (z := 1) dd_X9_meetings_1 ?_
  refine sA_callV (y2 := m_X9_countMeetings) (n2 := 1) (d2 := 5) (a := 106) (ci := 9) (q := (RX9, TX9, 28)) (as := [gs_iv 1]) (rest := []) dd_X9_meetings_2 ok_X9_countMeetings ml_X9_138 rfl rfl (by decide) gs_s106 rfl rfl (Nat.le_of_ble_eq_true rfl) (by decide) (c_X9_countMeetings_vf hI (by omega) hVu hVv) (fun r5 F6 A7 h8 => ?_)
  obtain ⟨z11, e10, e12, e13, x9⟩ := h8
  subst e10 e12 e13
  have y14 : (0 ≤ z11 ∧ z11 ≤ 24000) ∧ z11 = mt_k9 (4 * F 106 0) (1 : Int) (A 112) (F 106 9) (A 113) (F 106 11) := x9
  clear x9
  show sA _ _ _ 5 _ [gs_iv z11] _ _
  refine sA_istore_n (lv' := [(1, gs_iv z11), (0, .ref 106)]) dd_X9_meetings_5 rfl (by decide) rfl ?_
  refine sA_aload_n dd_X9_meetings_6 rfl (.tail _ (.head _)) ?_
  refine sA_callV (y2 := m_X9_turnV) (n2 := 0) (d2 := 1) (a := 106) (ci := 9) (q := (RX9, TX9, 28)) (as := []) (rest := []) dd_X9_meetings_7 ok_X9_turnV ml_X9_97 rfl rfl (by decide) gs_s106 rfl rfl (Nat.le_of_ble_eq_true rfl) (by decide) (c_X9_turnV_vf hI (by omega)) (fun r15 F16 A17 h18 => ?_)
  obtain ⟨e20, I21, f22, x19⟩ := h18
  subst e20
  have v23 : F16 106 0 = F 106 0 := f22.1 106 0 (by first | exact id | omega | (dsimp only; omega) | (dsimp only) | fail)
  have v24 : F16 106 9 = F 106 9 := f22.1 106 9 (by first | exact id | omega | (dsimp only; omega) | (dsimp only) | fail)
  have v25 : F16 106 11 = F 106 11 := f22.1 106 11 (by first | exact id | omega | (dsimp only; omega) | (dsimp only) | fail)
  have f26 := gs_fr_tr hf f22 (fun b j h => by first | exact False.elim h | omega | (dsimp only at h ⊢; omega) | fail) (fun b h => by first | exact False.elim h | omega | (dsimp only at h ⊢; omega) | fail)
  have u27 : A17 112 = A 112 := (f22.2 112 (by first | exact id | omega | (dsimp only; omega) | (dsimp only) | fail)).trans u4
  have y28 : ∀ k : Int, 0 ≤ k → k < F 106 11 → A17 113 k.toNat = -(A 113 (F 106 11 - 1 - k).toNat) := x19
  clear x19
  show sA _ _ _ 10 _ [] _ _
  refine sA_iload_n dd_X9_meetings_10 rfl (.head _) ?_
  have hrv : ∀ k : Nat, (k : Int) < F 106 11 → A17 113 k = gs_rv (A 113) (F 106 11) k := fun k hk => by
    have w := y28 k (by omega) hk
    rw [Int.toNat_natCast] at w
    exact w
  have e0 : F16 106 0 = F 106 0 := by omega
  have e9 : F16 106 9 = F 106 9 := by omega
  have e11 : F16 106 11 = F 106 11 := by omega
  have e112 : A17 112 = A 112 := u27
  have hVu1 : gs_vl 3 (F16 106 9) (A17 112) := by rw [e9, e112]; exact hVu
  have hVv1 : gs_vl 3 (F16 106 11) (A17 113) := by rw [e11]; exact mt_vl_cg (fun k hk => (hrv k hk).symm) (mt_rv_vl hVv)
  refine sA_aload_n dd_X9_meetings_11 rfl (.tail _ (.head _)) ?_
  refine sA_iconst (z := 0) dd_X9_meetings_12 ?_
  refine sA_callV (y2 := m_X9_countMeetings) (n2 := 1) (d2 := 5) (a := 106) (ci := 9) (q := (RX9, TX9, 28)) (as := [gs_iv 0]) (rest := [gs_iv z11]) dd_X9_meetings_13 ok_X9_countMeetings ml_X9_138 rfl rfl (by decide) gs_s106 rfl rfl (Nat.le_of_ble_eq_true rfl) (by decide) (c_X9_countMeetings_vf I21 (by omega) hVu1 hVv1) (fun r29 F30 A31 h32 => ?_)
  obtain ⟨z35, e34, e36, e37, x33⟩ := h32
  subst e34 e36 e37
  have y38 : (0 ≤ z35 ∧ z35 ≤ 24000) ∧ z35 = mt_k9 (4 * F16 106 0) (0 : Int) (A17 112) (F16 106 9) (A17 113) (F16 106 11) := x33
  clear x33
  show sA _ _ _ 16 _ [gs_iv z35, gs_iv z11] _ _
  refine sA_iadd dd_X9_meetings_16 ?_
  refine sA_iret (z := z11 + z35) dd_X9_meetings_17 rfl ?_
  refine ⟨_, rfl, I21, f26, ?_⟩
  refine ⟨by omega, ?_⟩
  have y1 := y14.2
  have y2 := y38.2
  rw [e0, e9, e11, e112] at y2
  unfold mt_m9
  rw [y1, y2]
  exact congrArg (fun q => mt_k9 (4 * F 106 0) 1 (A 112) (F 106 9) (A 113) (F 106 11) + q) (mt_k9_cg (fun _ _ => rfl) hrv)
theorem c_X9_meetingsOf_vf {r s : Int} {F A : gs_F} (hI : gs_I F A) (hr : 0 ≤ r ∧ r < 12) (hs : 0 ≤ s ∧ s < 12) (h1 : 1 ≤ A 108 s.toNat) (hVr : gs_vl 3 (A 108 r.toNat) (fun i => A 109 (60 * r.toNat + i))) (hVs : gs_vl 3 (A 108 s.toNat) (fun i => A 109 (60 * s.toNat + i))) : sC m_X9_meetingsOf 7 [.ref 106, gs_iv r, gs_iv s] F A (fun rv F' A' => ∃ z : Int, rv = some (gs_iv z) ∧ gs_I F' A' ∧ gs_fr (fun c j => c = 106 ∧ (j = 9 ∨ j = 11)) (fun c => c = 112 ∨ c = 113) F A F' A' ∧ ((0 ≤ z ∧ z ≤ 48000) ∧ z = mt_m9 (4 * F 106 0) (fun i => A 109 (60 * r.toNat + i)) (A 108 r.toNat) (fun i => A 109 (60 * s.toNat + i)) (A 108 s.toNat))) := by
  refine sC_of ok_X9_meetingsOf.1 (Nat.le_of_ble_eq_true rfl) ?_
  show sA _ _ _ 0 [(0, .ref 106), (1, gs_iv r), (2, gs_iv s)] [] F A
  have hf : gs_fr (fun c j => c = 106 ∧ (j = 9 ∨ j = 11)) (fun c => c = 112 ∨ c = 113) F A F A := gs_fr_refl _ _ _ _
  have b1 : (1 : Int) ≤ F 106 0 ∧ F 106 0 ≤ 3 := hI.1 106 0
  have b2 : (0 : Int) ≤ F 106 9 ∧ F 106 9 ≤ 400 := hI.1 106 9
  have b3 : (0 : Int) ≤ F 106 11 ∧ F 106 11 ≤ 60 := hI.1 106 11
  have u4 : A 108 = A 108 := rfl
  have u5 : A 109 = A 109 := rfl
  have u6 : A 112 = A 112 := rfl
  refine sA_aload_n dd_X9_meetingsOf_0 rfl (.head _) ?_
  refine sA_iload_n dd_X9_meetingsOf_1 rfl (.tail _ (.head _)) ?_
  refine sA_callV (y2 := m_X9_takeU) (n2 := 1) (d2 := 1) (a := 106) (ci := 9) (q := (RX9, TX9, 28)) (as := [gs_iv r]) (rest := []) dd_X9_meetingsOf_2 ok_X9_takeU ml_X9_103 rfl rfl (by decide) gs_s106 rfl rfl (Nat.le_of_ble_eq_true rfl) (by decide) (c_X9_takeU_vf hI (by omega)) (fun r7 F8 A9 h10 => ?_)
  obtain ⟨e12, I13, f14, x11⟩ := h10
  subst e12
  have v15 : F8 106 0 = F 106 0 := f14.1 106 0 (by first | exact id | omega | (dsimp only; omega) | (dsimp only) | fail)
  have v17 : F8 106 11 = F 106 11 := f14.1 106 11 (by first | exact id | omega | (dsimp only; omega) | (dsimp only) | fail)
  have v18 : A9 108 s.toNat = A 108 s.toNat := congrFun (f14.2 108 (by first | exact id | omega | (dsimp only; omega) | (dsimp only) | fail)) _
  have f19 := gs_fr_tr hf f14 (fun b j h => by first | exact False.elim h | omega | (dsimp only at h ⊢; omega) | fail) (fun b h => by first | exact False.elim h | omega | (dsimp only at h ⊢; omega) | fail)
  have u20 : A9 108 = A 108 := (f14.2 108 (by first | exact id | omega | (dsimp only; omega) | (dsimp only) | fail)).trans u4
  have u21 : A9 109 = A 109 := (f14.2 109 (by first | exact id | omega | (dsimp only; omega) | (dsimp only) | fail)).trans u5
  have u22 : A9 112 = A9 112 := rfl
  have y23 : F8 106 9 = A 108 r.toNat ∧ ∀ k : Int, 0 ≤ k → k < A 108 r.toNat → A9 112 k.toNat = A 109 (60 * r + k).toNat := x11
  clear x11
  show sA _ _ _ 5 _ [] _ _
  refine sA_aload_n dd_X9_meetingsOf_5 rfl (.head _) ?_
  refine sA_iload_n dd_X9_meetingsOf_6 rfl (.tail _ (.tail _ (.head _))) ?_
  refine sA_callV (y2 := m_X9_takeV) (n2 := 1) (d2 := 1) (a := 106) (ci := 9) (q := (RX9, TX9, 28)) (as := [gs_iv s]) (rest := []) dd_X9_meetingsOf_7 ok_X9_takeV ml_X9_106 rfl rfl (by decide) gs_s106 rfl rfl (Nat.le_of_ble_eq_true rfl) (by decide) (c_X9_takeV_vf I13 (by omega)) (fun r24 F25 A26 h27 => ?_)
  obtain ⟨e29, I30, f31, x28⟩ := h27
  subst e29
  have v32 : F25 106 0 = F8 106 0 := f31.1 106 0 (by first | exact id | omega | (dsimp only; omega) | (dsimp only) | fail)
  have v33 : F25 106 9 = F8 106 9 := f31.1 106 9 (by first | exact id | omega | (dsimp only; omega) | (dsimp only) | fail)
  have v35 : A26 108 s.toNat = A9 108 s.toNat := congrFun (f31.2 108 (by first | exact id | omega | (dsimp only; omega) | (dsimp only) | fail)) _
  have f36 := gs_fr_tr f19 f31 (fun b j h => by first | exact False.elim h | omega | (dsimp only at h ⊢; omega) | fail) (fun b h => by first | exact False.elim h | omega | (dsimp only at h ⊢; omega) | fail)
  have u37 : A26 108 = A 108 := (f31.2 108 (by first | exact id | omega | (dsimp only; omega) | (dsimp only) | fail)).trans u20
  have u38 : A26 109 = A 109 := (f31.2 109 (by first | exact id | omega | (dsimp only; omega) | (dsimp only) | fail)).trans u21
  have u39 : A26 112 = A9 112 := (f31.2 112 (by first | exact id | omega | (dsimp only; omega) | (dsimp only) | fail)).trans u22
  have y40 : F25 106 11 = A9 108 s.toNat ∧ ∀ k : Int, 0 ≤ k → k < A9 108 s.toNat → A26 113 k.toNat = A9 109 (60 * s + k).toNat := x28
  clear x28
  show sA _ _ _ 10 _ [] _ _
  refine sA_aload_n dd_X9_meetingsOf_10 rfl (.head _) ?_
  obtain ⟨t1, t2⟩ := y23
  obtain ⟨t3, t4⟩ := y40
  have e0 : F25 106 0 = F 106 0 := by omega
  have e108 : A9 108 = A 108 := f14.2 108 (by dsimp only; omega)
  have e109 : A9 109 = A 109 := f14.2 109 (by dsimp only; omega)
  rw [e108] at t3 t4
  rw [e109] at t4
  have e9 : F25 106 9 = A 108 r.toNat := by omega
  have e11 : F25 106 11 = A 108 s.toNat := by omega
  have hu := mt_row_of (f := A 109) (r := r) (by omega) t2
  have hv := mt_row_of (f := A 109) (r := s) (by omega) t4
  have e112 : A26 112 = A9 112 := f31.2 112 (by dsimp only; omega)
  have hVu : gs_vl 3 (F25 106 9) (A26 112) := by rw [e9, e112]; exact mt_vl_cg (fun k hk => (hu k hk).symm) hVr
  have hVv : gs_vl 3 (F25 106 11) (A26 113) := by rw [e11]; exact mt_vl_cg (fun k hk => (hv k hk).symm) hVs
  refine sA_callV (y2 := m_X9_meetings) (n2 := 0) (d2 := 6) (a := 106) (ci := 9) (q := (RX9, TX9, 28)) (as := []) (rest := []) dd_X9_meetingsOf_11 ok_X9_meetings ml_X9_141 rfl rfl (by decide) gs_s106 rfl rfl (Nat.le_of_ble_eq_true rfl) (by decide) (c_X9_meetings_vf I30 (by omega) hVu hVv) (fun r41 F42 A43 h44 => ?_)
  obtain ⟨z47, e46, I48, f49, x45⟩ := h44
  subst e46
  have v50 : F42 106 0 = F25 106 0 := f49.1 106 0 (by first | exact id | omega | (dsimp only; omega) | (dsimp only) | fail)
  have v51 : F42 106 9 = F25 106 9 := f49.1 106 9 (by first | exact id | omega | (dsimp only; omega) | (dsimp only) | fail)
  have v52 : F42 106 11 = F25 106 11 := f49.1 106 11 (by first | exact id | omega | (dsimp only; omega) | (dsimp only) | fail)
  have v53 : A43 108 s.toNat = A26 108 s.toNat := congrFun (f49.2 108 (by first | exact id | omega | (dsimp only; omega) | (dsimp only) | fail)) _
  have f54 := gs_fr_tr f36 f49 (fun b j h => by first | exact False.elim h | omega | (dsimp only at h ⊢; omega) | fail) (fun b h => by first | exact False.elim h | omega | (dsimp only at h ⊢; omega) | fail)
  have u55 : A43 108 = A 108 := (f49.2 108 (by first | exact id | omega | (dsimp only; omega) | (dsimp only) | fail)).trans u37
  have u56 : A43 109 = A 109 := (f49.2 109 (by first | exact id | omega | (dsimp only; omega) | (dsimp only) | fail)).trans u38
  have u57 : A43 112 = A9 112 := (f49.2 112 (by first | exact id | omega | (dsimp only; omega) | (dsimp only) | fail)).trans u39
  have y58 : (0 ≤ z47 ∧ z47 ≤ 48000) ∧ z47 = mt_m9 (4 * F25 106 0) (A26 112) (F25 106 9) (A26 113) (F25 106 11) := x45
  clear x45
  show sA _ _ _ 14 _ [gs_iv z47] _ _
  refine sA_iret (z := z47) dd_X9_meetingsOf_14 rfl ?_
  refine ⟨_, rfl, I48, f54, ?_⟩
  refine ⟨by omega, ?_⟩
  have y := y58.2
  rw [e0, e9, e11, e112] at y
  rw [y]
  exact mt_m9_cg hu hv
theorem c_X9_isSimple_vf {r : Int} {F A : gs_F} (hI : gs_I F A) (hr : 0 ≤ r ∧ r < 12) (h1 : 1 ≤ A 108 r.toNat) (hVr : gs_vl 3 (A 108 r.toNat) (fun i => A 109 (60 * r.toNat + i))) : sC m_X9_isSimple 8 [.ref 106, gs_iv r] F A (fun rv F' A' => ∃ z : Int, rv = some (gs_iv z) ∧ gs_I F' A' ∧ gs_fr (fun c j => c = 106 ∧ (j = 9 ∨ j = 11)) (fun c => c = 112 ∨ c = 113) F A F' A' ∧ ((z = 1 ∧ (¬ gs_pow (fun i => A 109 (60 * r.toNat + i)) (A 108 r.toNat) ∧ mt_m9 (4 * F 106 0) (fun i => A 109 (60 * r.toNat + i)) (A 108 r.toNat) (fun i => A 109 (60 * r.toNat + i)) (A 108 r.toNat) = 0)) ∨ (z = 0 ∧ ¬ (¬ gs_pow (fun i => A 109 (60 * r.toNat + i)) (A 108 r.toNat) ∧ mt_m9 (4 * F 106 0) (fun i => A 109 (60 * r.toNat + i)) (A 108 r.toNat) (fun i => A 109 (60 * r.toNat + i)) (A 108 r.toNat) = 0)))) := by
  refine sC_of ok_X9_isSimple.1 (Nat.le_of_ble_eq_true rfl) ?_
  show sA _ _ _ 0 [(0, .ref 106), (1, gs_iv r)] [] F A
  have hf : gs_fr (fun c j => c = 106 ∧ (j = 9 ∨ j = 11)) (fun c => c = 112 ∨ c = 113) F A F A := gs_fr_refl _ _ _ _
  have hVs := hVr
  refine sA_aload_n dd_X9_isSimple_0 rfl (.head _) ?_
  refine sA_iload_n dd_X9_isSimple_1 rfl (.tail _ (.head _)) ?_
  refine sA_callV (y2 := m_X9_isPower) (n2 := 1) (d2 := 1) (a := 106) (ci := 9) (q := (RX9, TX9, 28)) (as := [gs_iv r]) (rest := []) dd_X9_isSimple_2 ok_X9_isPower ml_X9_145 rfl rfl (by decide) gs_s106 rfl rfl (Nat.le_of_ble_eq_true rfl) (by decide) (c_X9_isPower_vf hI (by omega)) (fun r1 F2 A3 h4 => ?_)
  obtain ⟨z7, e6, e8, e9, x5⟩ := h4
  subst e6 e8 e9
  have y10 : (z7 = 1 ∧ gs_pow (fun i => A 109 (60 * r.toNat + i)) (A 108 r.toNat)) ∨ (z7 = 0 ∧ ¬ gs_pow (fun i => A 109 (60 * r.toNat + i)) (A 108 r.toNat)) := x5
  clear x5
  show sA _ _ _ 5 _ [gs_iv z7] _ _
  refine sA_if_ne (tgt := 21) dd_X9_isSimple_5 (by decide) (by omega) (fun q11 => ?_) (fun q11 => ?_)
  · skip
    refine sA_iconst (z := 0) dd_X9_isSimple_21 ?_
    refine sA_bret (z := 0) dd_X9_isSimple_22 rfl (by omega) ?_
    refine ⟨_, rfl, hI, hf, ?_⟩
    rcases y10 with p | p
    · exact .inr ⟨rfl, fun w => w.1 p.2⟩
    · exfalso
      omega
  · skip
    refine sA_aload_n dd_X9_isSimple_8 rfl (.head _) ?_
    refine sA_iload_n dd_X9_isSimple_9 rfl (.tail _ (.head _)) ?_
    refine sA_iload_n dd_X9_isSimple_10 rfl (.tail _ (.head _)) ?_
    refine sA_callV (y2 := m_X9_meetingsOf) (n2 := 2) (d2 := 7) (a := 106) (ci := 9) (q := (RX9, TX9, 28)) (as := [gs_iv r, gs_iv r]) (rest := []) dd_X9_isSimple_11 ok_X9_meetingsOf ml_X9_148 rfl rfl (by decide) gs_s106 rfl rfl (Nat.le_of_ble_eq_true rfl) (by decide) (c_X9_meetingsOf_vf hI (by omega) (by omega) (by omega) hVr hVs) (fun r12 F13 A14 h15 => ?_)
    obtain ⟨z18, e17, I19, f20, x16⟩ := h15
    subst e17
    have f21 := gs_fr_tr hf f20 (fun b j h => by first | exact False.elim h | omega | (dsimp only at h ⊢; omega) | fail) (fun b h => by first | exact False.elim h | omega | (dsimp only at h ⊢; omega) | fail)
    have y22 : (0 ≤ z18 ∧ z18 ≤ 48000) ∧ z18 = mt_m9 (4 * F 106 0) (fun i => A 109 (60 * r.toNat + i)) (A 108 r.toNat) (fun i => A 109 (60 * r.toNat + i)) (A 108 r.toNat) := x16
    clear x16
    show sA _ _ _ 14 _ [gs_iv z18] _ _
    refine sA_if_ne (tgt := 21) dd_X9_isSimple_14 (by decide) (by omega) (fun q23 => ?_) (fun q23 => ?_)
    · skip
      refine sA_iconst (z := 0) dd_X9_isSimple_21 ?_
      refine sA_bret (z := 0) dd_X9_isSimple_22 rfl (by omega) ?_
      refine ⟨_, rfl, I19, f21, ?_⟩
      have y := y22.2
      rcases y10 with p | p
      · exfalso
        omega
      · first | exact .inl ⟨rfl, p.2, by omega⟩ | exact .inr ⟨rfl, fun w => by have w2 := w.2; omega⟩ | fail
    · skip
      refine sA_iconst (z := 1) dd_X9_isSimple_17 ?_
      refine sA_goto (tgt := 22) dd_X9_isSimple_18 (by decide) ?_
      refine sA_bret (z := 1) dd_X9_isSimple_22 rfl (by omega) ?_
      refine ⟨_, rfl, I19, f21, ?_⟩
      have y := y22.2
      rcases y10 with p | p
      · exfalso
        omega
      · first | exact .inl ⟨rfl, p.2, by omega⟩ | exact .inr ⟨rfl, fun w => by have w2 := w.2; omega⟩ | fail
theorem c_X9_told_vf {r w : Int} {F A : gs_F} (hI : gs_I F A) (hr : -2147483648 ≤ r ∧ r ≤ 2147483647) (hw : -2147483648 ≤ w ∧ w ≤ 2147483647) (hX : ∀ r : Nat, (r : Int) < F 106 3 → 1 ≤ A 108 r) (hVa : ∀ r : Nat, (r : Int) < F 106 3 → gs_vl 3 (A 108 r) (fun i => A 109 (60 * r + i))) : sC m_X9_told 8 [.ref 106, gs_iv r, gs_iv w] F A (fun rv F' A' => ∃ z : Int, rv = some (gs_iv z) ∧ gs_I F' A' ∧ gs_fr (fun c j => c = 106 ∧ (j = 9 ∨ j = 11)) (fun c => c = 112 ∨ c = 113) F A F' A' ∧ (((r < 0 ∨ F 106 3 ≤ r) ∧ z = -1001) ∨ (0 ≤ r ∧ r < F 106 3 ∧ ((w = 0 ∧ z = A 108 r.toNat) ∨ (w = 1 ∧ ((z = 1 ∧ (gs_pow (fun i => A 109 (60 * r.toNat + i)) (A 108 r.toNat))) ∨ (z = 0 ∧ ¬ (gs_pow (fun i => A 109 (60 * r.toNat + i)) (A 108 r.toNat))))) ∨ (w = 2 ∧ ((gs_pow (fun i => A 109 (60 * r.toNat + i)) (A 108 r.toNat) ∧ z = -1) ∨ (¬ gs_pow (fun i => A 109 (60 * r.toNat + i)) (A 108 r.toNat) ∧ z = mt_m9 (4 * F 106 0) (fun i => A 109 (60 * r.toNat + i)) (A 108 r.toNat) (fun i => A 109 (60 * r.toNat + i)) (A 108 r.toNat) / 2))) ∨ (w = 3 ∧ ((z = 1 ∧ (¬ gs_pow (fun i => A 109 (60 * r.toNat + i)) (A 108 r.toNat) ∧ mt_m9 (4 * F 106 0) (fun i => A 109 (60 * r.toNat + i)) (A 108 r.toNat) (fun i => A 109 (60 * r.toNat + i)) (A 108 r.toNat) / 2 = 0)) ∨ (z = 0 ∧ ¬ (¬ gs_pow (fun i => A 109 (60 * r.toNat + i)) (A 108 r.toNat) ∧ mt_m9 (4 * F 106 0) (fun i => A 109 (60 * r.toNat + i)) (A 108 r.toNat) (fun i => A 109 (60 * r.toNat + i)) (A 108 r.toNat) / 2 = 0)))) ∨ ((w < 0 ∨ 3 < w) ∧ z = -1002))))) := by
  refine sC_of ok_X9_told.1 (Nat.le_of_ble_eq_true rfl) ?_
  show sA _ _ _ 0 [(0, .ref 106), (1, gs_iv r), (2, gs_iv w)] [] F A
  have hf : gs_fr (fun c j => c = 106 ∧ (j = 9 ∨ j = 11)) (fun c => c = 112 ∨ c = 113) F A F A := gs_fr_refl _ _ _ _
  refine sA_aload_n dd_X9_told_0 rfl (.head _) ?_
  refine sA_iload_n dd_X9_told_1 rfl (.tail _ (.head _)) ?_
  refine sA_callV (y2 := m_X9_noRing) (n2 := 1) (d2 := 2) (a := 106) (ci := 9) (q := (RX9, TX9, 28)) (as := [gs_iv r]) (rest := []) dd_X9_told_2 ok_X9_noRing ml_X9_100 rfl rfl (by decide) gs_s106 rfl rfl (Nat.le_of_ble_eq_true rfl) (by decide) (c_X9_noRing hI (by omega)) (fun r1 F2 A3 h4 => ?_)
  obtain ⟨z7, e6, e8, e9, x5⟩ := h4
  subst e6 e8 e9
  show sA _ _ _ 5 _ [gs_iv z7] _ _
  refine sA_if_eq (tgt := 12) dd_X9_told_5 (by decide) (by omega) (fun q10 => ?_) (fun q10 => ?_)
  · skip
    have hx_r := hX r.toNat (by omega)
    have hVr := hVa r.toNat (by omega)
    have hVs := hVr
    refine sA_iload_n dd_X9_told_12 rfl (.tail _ (.tail _ (.head _))) ?_
    by_cases q11 : w = 0
    · refine sA_tblIn (off := 31) (tgt := 44) dd_X9_told_13 (by omega) (by omega) (by rw [q11]; rfl) (by decide) ?_
      refine sA_aload_n dd_X9_told_44 rfl (.head _) ?_
      refine sA_getr (ci := 9) (j := 4) (q := (RX9, TX9, 28)) dd_X9_told_45 rfl (by decide) fl_X9_13 (by decide) gs_s106 rfl ?_
      refine sA_iload_n dd_X9_told_48 rfl (.tail _ (.head _)) ?_
      refine sA_iald (n := 12) dd_X9_told_49 (by decide) gs_s108 (by omega) (by decide) ?_
      have b12 : (0 : Int) ≤ A 108 r.toNat ∧ A 108 r.toNat ≤ 60 := hI.2 108 r.toNat
      refine sA_iret (z := A 108 r.toNat) dd_X9_told_50 rfl ?_
      refine ⟨_, rfl, hI, hf, ?_⟩
      refine .inr ⟨by omega, by omega, .inl ⟨by omega, rfl⟩⟩
    · skip
      by_cases q13 : w = 1
      · refine sA_tblIn (off := 38) (tgt := 51) dd_X9_told_13 (by omega) (by omega) (by rw [q13]; rfl) (by decide) ?_
        refine sA_aload_n dd_X9_told_51 rfl (.head _) ?_
        refine sA_iload_n dd_X9_told_52 rfl (.tail _ (.head _)) ?_
        refine sA_callV (y2 := m_X9_isPower) (n2 := 1) (d2 := 1) (a := 106) (ci := 9) (q := (RX9, TX9, 28)) (as := [gs_iv r]) (rest := []) dd_X9_told_53 ok_X9_isPower ml_X9_145 rfl rfl (by decide) gs_s106 rfl rfl (Nat.le_of_ble_eq_true rfl) (by decide) (c_X9_isPower_vf hI (by omega)) (fun r14 F15 A16 h17 => ?_)
        obtain ⟨z20, e19, e21, e22, x18⟩ := h17
        subst e19 e21 e22
        have y23 : (z20 = 1 ∧ gs_pow (fun i => A 109 (60 * r.toNat + i)) (A 108 r.toNat)) ∨ (z20 = 0 ∧ ¬ gs_pow (fun i => A 109 (60 * r.toNat + i)) (A 108 r.toNat)) := x18
        clear x18
        show sA _ _ _ 56 _ [gs_iv z20] _ _
        refine sA_callS (y2 := m_X9_bit) (n2 := 1) (d2 := 1) (as := [gs_iv z20]) (rest := []) dd_X9_told_56 ok_X9_bit ml_X9_112 rfl rfl (Nat.le_of_ble_eq_true rfl) (by decide) (c_X9_bit (by omega)) (fun r24 F25 A26 h27 => ?_)
        obtain ⟨z30, e29, e31, e32, x28⟩ := h27
        subst e29 e31 e32
        show sA _ _ _ 59 _ [gs_iv z30] _ _
        refine sA_iret (z := z30) dd_X9_told_59 rfl ?_
        refine ⟨_, rfl, hI, hf, ?_⟩
        refine .inr ⟨by omega, by omega, .inr (.inl ⟨by omega, ?_⟩)⟩
        rcases y23 with p | p
        · exact .inl ⟨by omega, p.2⟩
        · exact .inr ⟨by omega, p.2⟩
      · skip
        by_cases q33 : w = 2
        · refine sA_tblIn (off := 47) (tgt := 60) dd_X9_told_13 (by omega) (by omega) (by rw [q33]; rfl) (by decide) ?_
          refine sA_aload_n dd_X9_told_60 rfl (.head _) ?_
          refine sA_iload_n dd_X9_told_61 rfl (.tail _ (.head _)) ?_
          refine sA_callV (y2 := m_X9_isPower) (n2 := 1) (d2 := 1) (a := 106) (ci := 9) (q := (RX9, TX9, 28)) (as := [gs_iv r]) (rest := []) dd_X9_told_62 ok_X9_isPower ml_X9_145 rfl rfl (by decide) gs_s106 rfl rfl (Nat.le_of_ble_eq_true rfl) (by decide) (c_X9_isPower_vf hI (by omega)) (fun r34 F35 A36 h37 => ?_)
          obtain ⟨z40, e39, e41, e42, x38⟩ := h37
          subst e39 e41 e42
          have y43 : (z40 = 1 ∧ gs_pow (fun i => A 109 (60 * r.toNat + i)) (A 108 r.toNat)) ∨ (z40 = 0 ∧ ¬ gs_pow (fun i => A 109 (60 * r.toNat + i)) (A 108 r.toNat)) := x38
          clear x38
          show sA _ _ _ 65 _ [gs_iv z40] _ _
          refine sA_if_eq (tgt := 72) dd_X9_told_65 (by decide) (by omega) (fun q44 => ?_) (fun q44 => ?_)
          · skip
            refine sA_aload_n dd_X9_told_72 rfl (.head _) ?_
            refine sA_iload_n dd_X9_told_73 rfl (.tail _ (.head _)) ?_
            refine sA_iload_n dd_X9_told_74 rfl (.tail _ (.head _)) ?_
            refine sA_callV (y2 := m_X9_meetingsOf) (n2 := 2) (d2 := 7) (a := 106) (ci := 9) (q := (RX9, TX9, 28)) (as := [gs_iv r, gs_iv r]) (rest := []) dd_X9_told_75 ok_X9_meetingsOf ml_X9_148 rfl rfl (by decide) gs_s106 rfl rfl (Nat.le_of_ble_eq_true rfl) (by decide) (c_X9_meetingsOf_vf hI (by omega) (by omega) (by omega) hVr hVs) (fun r45 F46 A47 h48 => ?_)
            obtain ⟨z51, e50, I52, f53, x49⟩ := h48
            subst e50
            have f54 := gs_fr_tr hf f53 (fun b j h => by first | exact False.elim h | omega | (dsimp only at h ⊢; omega) | fail) (fun b h => by first | exact False.elim h | omega | (dsimp only at h ⊢; omega) | fail)
            have y55 : (0 ≤ z51 ∧ z51 ≤ 48000) ∧ z51 = mt_m9 (4 * F 106 0) (fun i => A 109 (60 * r.toNat + i)) (A 108 r.toNat) (fun i => A 109 (60 * r.toNat + i)) (A 108 r.toNat) := x49
            clear x49
            show sA _ _ _ 78 _ [gs_iv z51] _ _
            refine sA_iconst (z := 2) dd_X9_told_78 ?_
            refine sA_idivN dd_X9_told_79 (by omega) (by omega) (by omega) ?_
            refine sA_iret (z := z51 / 2) dd_X9_told_80 rfl ?_
            refine ⟨_, rfl, I52, f54, ?_⟩
            refine .inr ⟨by omega, by omega, .inr (.inr (.inl ⟨by omega, ?_⟩))⟩
            rcases y43 with p | p
            · exfalso
              omega
            · refine .inr ⟨p.2, ?_⟩
              rw [y55.2]
          · skip
            refine sA_iconst (z := (-1)) dd_X9_told_68 ?_
            refine sA_goto (tgt := 80) dd_X9_told_69 (by decide) ?_
            refine sA_iret (z := -1) dd_X9_told_80 rfl ?_
            refine ⟨_, rfl, hI, hf, ?_⟩
            refine .inr ⟨by omega, by omega, .inr (.inr (.inl ⟨by omega, ?_⟩))⟩
            rcases y43 with p | p
            · exact .inl ⟨p.2, rfl⟩
            · exfalso
              omega
        · skip
          by_cases q56 : w = 3
          · refine sA_tblIn (off := 68) (tgt := 81) dd_X9_told_13 (by omega) (by omega) (by rw [q56]; rfl) (by decide) ?_
            refine sA_aload_n dd_X9_told_81 rfl (.head _) ?_
            refine sA_iload_n dd_X9_told_82 rfl (.tail _ (.head _)) ?_
            refine sA_callV (y2 := m_X9_isPower) (n2 := 1) (d2 := 1) (a := 106) (ci := 9) (q := (RX9, TX9, 28)) (as := [gs_iv r]) (rest := []) dd_X9_told_83 ok_X9_isPower ml_X9_145 rfl rfl (by decide) gs_s106 rfl rfl (Nat.le_of_ble_eq_true rfl) (by decide) (c_X9_isPower_vf hI (by omega)) (fun r57 F58 A59 h60 => ?_)
            obtain ⟨z63, e62, e64, e65, x61⟩ := h60
            subst e62 e64 e65
            have y66 : (z63 = 1 ∧ gs_pow (fun i => A 109 (60 * r.toNat + i)) (A 108 r.toNat)) ∨ (z63 = 0 ∧ ¬ gs_pow (fun i => A 109 (60 * r.toNat + i)) (A 108 r.toNat)) := x61
            clear x61
            show sA _ _ _ 86 _ [gs_iv z63] _ _
            refine sA_if_ne (tgt := 104) dd_X9_told_86 (by decide) (by omega) (fun q67 => ?_) (fun q67 => ?_)
            · skip
              refine sA_iconst (z := 0) dd_X9_told_104 ?_
              refine sA_callS (y2 := m_X9_bit) (n2 := 1) (d2 := 1) (as := [gs_iv 0]) (rest := []) dd_X9_told_105 ok_X9_bit ml_X9_112 rfl rfl (Nat.le_of_ble_eq_true rfl) (by decide) (c_X9_bit (by omega)) (fun r68 F69 A70 h71 => ?_)
              obtain ⟨z74, e73, e75, e76, x72⟩ := h71
              subst e73 e75 e76
              show sA _ _ _ 108 _ [gs_iv z74] _ _
              refine sA_iret (z := z74) dd_X9_told_108 rfl ?_
              refine ⟨_, rfl, hI, hf, ?_⟩
              refine .inr ⟨by omega, by omega, .inr (.inr (.inr (.inl ⟨by omega, ?_⟩)))⟩
              rcases y66 with p | p
              · exact .inr ⟨by omega, fun w => w.1 p.2⟩
              · exfalso
                omega
            · skip
              refine sA_aload_n dd_X9_told_89 rfl (.head _) ?_
              refine sA_iload_n dd_X9_told_90 rfl (.tail _ (.head _)) ?_
              refine sA_iload_n dd_X9_told_91 rfl (.tail _ (.head _)) ?_
              refine sA_callV (y2 := m_X9_meetingsOf) (n2 := 2) (d2 := 7) (a := 106) (ci := 9) (q := (RX9, TX9, 28)) (as := [gs_iv r, gs_iv r]) (rest := []) dd_X9_told_92 ok_X9_meetingsOf ml_X9_148 rfl rfl (by decide) gs_s106 rfl rfl (Nat.le_of_ble_eq_true rfl) (by decide) (c_X9_meetingsOf_vf hI (by omega) (by omega) (by omega) hVr hVs) (fun r77 F78 A79 h80 => ?_)
              obtain ⟨z83, e82, I84, f85, x81⟩ := h80
              subst e82
              have f86 := gs_fr_tr hf f85 (fun b j h => by first | exact False.elim h | omega | (dsimp only at h ⊢; omega) | fail) (fun b h => by first | exact False.elim h | omega | (dsimp only at h ⊢; omega) | fail)
              have y87 : (0 ≤ z83 ∧ z83 ≤ 48000) ∧ z83 = mt_m9 (4 * F 106 0) (fun i => A 109 (60 * r.toNat + i)) (A 108 r.toNat) (fun i => A 109 (60 * r.toNat + i)) (A 108 r.toNat) := x81
              clear x81
              show sA _ _ _ 95 _ [gs_iv z83] _ _
              refine sA_iconst (z := 2) dd_X9_told_95 ?_
              refine sA_idivN dd_X9_told_96 (by omega) (by omega) (by omega) ?_
              refine sA_if_ne (tgt := 104) dd_X9_told_97 (by decide) (by omega) (fun q88 => ?_) (fun q88 => ?_)
              · skip
                refine sA_iconst (z := 0) dd_X9_told_104 ?_
                refine sA_callS (y2 := m_X9_bit) (n2 := 1) (d2 := 1) (as := [gs_iv 0]) (rest := []) dd_X9_told_105 ok_X9_bit ml_X9_112 rfl rfl (Nat.le_of_ble_eq_true rfl) (by decide) (c_X9_bit (by omega)) (fun r89 F90 A91 h92 => ?_)
                obtain ⟨z95, e94, e96, e97, x93⟩ := h92
                subst e94 e96 e97
                show sA _ _ _ 108 _ [gs_iv z95] _ _
                refine sA_iret (z := z95) dd_X9_told_108 rfl ?_
                refine ⟨_, rfl, I84, f86, ?_⟩
                refine .inr ⟨by omega, by omega, .inr (.inr (.inr (.inl ⟨by omega, ?_⟩)))⟩
                rcases y66 with p | p
                · exfalso
                  omega
                · have y := y87.2
                  rw [← y]
                  first | exact .inl ⟨by omega, p.2, by omega⟩ | exact .inr ⟨by omega, fun w => by have w2 := w.2; omega⟩ | fail
              · skip
                refine sA_iconst (z := 1) dd_X9_told_100 ?_
                refine sA_goto (tgt := 105) dd_X9_told_101 (by decide) ?_
                refine sA_callS (y2 := m_X9_bit) (n2 := 1) (d2 := 1) (as := [gs_iv 1]) (rest := []) dd_X9_told_105 ok_X9_bit ml_X9_112 rfl rfl (Nat.le_of_ble_eq_true rfl) (by decide) (c_X9_bit (by omega)) (fun r98 F99 A100 h101 => ?_)
                obtain ⟨z104, e103, e105, e106, x102⟩ := h101
                subst e103 e105 e106
                show sA _ _ _ 108 _ [gs_iv z104] _ _
                refine sA_iret (z := z104) dd_X9_told_108 rfl ?_
                refine ⟨_, rfl, I84, f86, ?_⟩
                refine .inr ⟨by omega, by omega, .inr (.inr (.inr (.inl ⟨by omega, ?_⟩)))⟩
                rcases y66 with p | p
                · exfalso
                  omega
                · have y := y87.2
                  rw [← y]
                  first | exact .inl ⟨by omega, p.2, by omega⟩ | exact .inr ⟨by omega, fun w => by have w2 := w.2; omega⟩ | fail
          · skip
            refine sA_tblOut (tgt := 109) dd_X9_told_13 (by omega) (by omega) (by decide) ?_
            refine sA_sipush (z := (-1002)) dd_X9_told_109 (by decide) ?_
            refine sA_iret (z := -1002) dd_X9_told_112 rfl ?_
            refine ⟨_, rfl, hI, hf, ?_⟩
            refine .inr ⟨by omega, by omega, .inr (.inr (.inr (.inr ⟨by omega, rfl⟩)))⟩
  · skip
    refine sA_sipush (z := (-1001)) dd_X9_told_8 (by decide) ?_
    refine sA_iret (z := -1001) dd_X9_told_11 rfl ?_
    refine ⟨_, rfl, hI, hf, ?_⟩
    exact .inl ⟨by omega, rfl⟩
theorem c_X9_meets_vf {r s : Int} {F A : gs_F} (hI : gs_I F A) (hr : -2147483648 ≤ r ∧ r ≤ 2147483647) (hs : -2147483648 ≤ s ∧ s ≤ 2147483647) (hX : ∀ r : Nat, (r : Int) < F 106 3 → 1 ≤ A 108 r) (hVa : ∀ r : Nat, (r : Int) < F 106 3 → gs_vl 3 (A 108 r) (fun i => A 109 (60 * r + i))) : sC m_X9_meets 8 [.ref 106, gs_iv r, gs_iv s] F A (fun rv F' A' => ∃ z : Int, rv = some (gs_iv z) ∧ gs_I F' A' ∧ gs_fr (fun c j => c = 106 ∧ (j = 9 ∨ j = 11)) (fun c => c = 112 ∨ c = 113) F A F' A' ∧ (((r < 0 ∨ F 106 3 ≤ r ∨ s < 0 ∨ F 106 3 ≤ s) ∧ z = -1001) ∨ (0 ≤ r ∧ r < F 106 3 ∧ 0 ≤ s ∧ s < F 106 3 ∧ (((gs_pow (fun i => A 109 (60 * r.toNat + i)) (A 108 r.toNat) ∨ gs_pow (fun i => A 109 (60 * s.toNat + i)) (A 108 s.toNat)) ∧ z = -1003) ∨ (¬ gs_pow (fun i => A 109 (60 * r.toNat + i)) (A 108 r.toNat) ∧ ¬ gs_pow (fun i => A 109 (60 * s.toNat + i)) (A 108 s.toNat) ∧ z = mt_m9 (4 * F 106 0) (fun i => A 109 (60 * r.toNat + i)) (A 108 r.toNat) (fun i => A 109 (60 * s.toNat + i)) (A 108 s.toNat)))))) := by
  refine sC_of ok_X9_meets.1 (Nat.le_of_ble_eq_true rfl) ?_
  show sA _ _ _ 0 [(0, .ref 106), (1, gs_iv r), (2, gs_iv s)] [] F A
  have hf : gs_fr (fun c j => c = 106 ∧ (j = 9 ∨ j = 11)) (fun c => c = 112 ∨ c = 113) F A F A := gs_fr_refl _ _ _ _
  refine sA_aload_n dd_X9_meets_0 rfl (.head _) ?_
  refine sA_iload_n dd_X9_meets_1 rfl (.tail _ (.head _)) ?_
  refine sA_callV (y2 := m_X9_noRing) (n2 := 1) (d2 := 2) (a := 106) (ci := 9) (q := (RX9, TX9, 28)) (as := [gs_iv r]) (rest := []) dd_X9_meets_2 ok_X9_noRing ml_X9_100 rfl rfl (by decide) gs_s106 rfl rfl (Nat.le_of_ble_eq_true rfl) (by decide) (c_X9_noRing hI (by omega)) (fun r1 F2 A3 h4 => ?_)
  obtain ⟨z7, e6, e8, e9, x5⟩ := h4
  subst e6 e8 e9
  show sA _ _ _ 5 _ [gs_iv z7] _ _
  refine sA_if_ne (tgt := 16) dd_X9_meets_5 (by decide) (by omega) (fun q10 => ?_) (fun q10 => ?_)
  · skip
    refine sA_sipush (z := (-1001)) dd_X9_meets_16 (by decide) ?_
    refine sA_iret (z := -1001) dd_X9_meets_19 rfl ?_
    refine ⟨_, rfl, hI, hf, ?_⟩
    exact .inl ⟨by omega, rfl⟩
  · skip
    refine sA_aload_n dd_X9_meets_8 rfl (.head _) ?_
    refine sA_iload_n dd_X9_meets_9 rfl (.tail _ (.tail _ (.head _))) ?_
    refine sA_callV (y2 := m_X9_noRing) (n2 := 1) (d2 := 2) (a := 106) (ci := 9) (q := (RX9, TX9, 28)) (as := [gs_iv s]) (rest := []) dd_X9_meets_10 ok_X9_noRing ml_X9_100 rfl rfl (by decide) gs_s106 rfl rfl (Nat.le_of_ble_eq_true rfl) (by decide) (c_X9_noRing hI (by omega)) (fun r11 F12 A13 h14 => ?_)
    obtain ⟨z17, e16, e18, e19, x15⟩ := h14
    subst e16 e18 e19
    show sA _ _ _ 13 _ [gs_iv z17] _ _
    refine sA_if_eq (tgt := 20) dd_X9_meets_13 (by decide) (by omega) (fun q20 => ?_) (fun q20 => ?_)
    · skip
      have hx_s := hX s.toNat (by omega)
      have hVr := hVa r.toNat (by omega)
      have hVs := hVa s.toNat (by omega)
      refine sA_aload_n dd_X9_meets_20 rfl (.head _) ?_
      refine sA_iload_n dd_X9_meets_21 rfl (.tail _ (.head _)) ?_
      refine sA_callV (y2 := m_X9_isPower) (n2 := 1) (d2 := 1) (a := 106) (ci := 9) (q := (RX9, TX9, 28)) (as := [gs_iv r]) (rest := []) dd_X9_meets_22 ok_X9_isPower ml_X9_145 rfl rfl (by decide) gs_s106 rfl rfl (Nat.le_of_ble_eq_true rfl) (by decide) (c_X9_isPower_vf hI (by omega)) (fun r21 F22 A23 h24 => ?_)
      obtain ⟨z27, e26, e28, e29, x25⟩ := h24
      subst e26 e28 e29
      have y30 : (z27 = 1 ∧ gs_pow (fun i => A 109 (60 * r.toNat + i)) (A 108 r.toNat)) ∨ (z27 = 0 ∧ ¬ gs_pow (fun i => A 109 (60 * r.toNat + i)) (A 108 r.toNat)) := x25
      clear x25
      show sA _ _ _ 25 _ [gs_iv z27] _ _
      refine sA_if_ne (tgt := 36) dd_X9_meets_25 (by decide) (by omega) (fun q31 => ?_) (fun q31 => ?_)
      · skip
        refine sA_sipush (z := (-1003)) dd_X9_meets_36 (by decide) ?_
        refine sA_goto (tgt := 48) dd_X9_meets_39 (by decide) ?_
        refine sA_iret (z := -1003) dd_X9_meets_48 rfl ?_
        refine ⟨_, rfl, hI, hf, ?_⟩
        refine .inr ⟨by omega, by omega, by omega, by omega, ?_⟩
        rcases y30 with q | q <;> first | (exfalso; omega) | exact .inl ⟨.inl q.2, rfl⟩ | fail
      · skip
        refine sA_aload_n dd_X9_meets_28 rfl (.head _) ?_
        refine sA_iload_n dd_X9_meets_29 rfl (.tail _ (.tail _ (.head _))) ?_
        refine sA_callV (y2 := m_X9_isPower) (n2 := 1) (d2 := 1) (a := 106) (ci := 9) (q := (RX9, TX9, 28)) (as := [gs_iv s]) (rest := []) dd_X9_meets_30 ok_X9_isPower ml_X9_145 rfl rfl (by decide) gs_s106 rfl rfl (Nat.le_of_ble_eq_true rfl) (by decide) (c_X9_isPower_vf hI (by omega)) (fun r32 F33 A34 h35 => ?_)
        obtain ⟨z38, e37, e39, e40, x36⟩ := h35
        subst e37 e39 e40
        have y41 : (z38 = 1 ∧ gs_pow (fun i => A 109 (60 * s.toNat + i)) (A 108 s.toNat)) ∨ (z38 = 0 ∧ ¬ gs_pow (fun i => A 109 (60 * s.toNat + i)) (A 108 s.toNat)) := x36
        clear x36
        show sA _ _ _ 33 _ [gs_iv z38] _ _
        refine sA_if_eq (tgt := 42) dd_X9_meets_33 (by decide) (by omega) (fun q42 => ?_) (fun q42 => ?_)
        · skip
          refine sA_aload_n dd_X9_meets_42 rfl (.head _) ?_
          refine sA_iload_n dd_X9_meets_43 rfl (.tail _ (.head _)) ?_
          refine sA_iload_n dd_X9_meets_44 rfl (.tail _ (.tail _ (.head _))) ?_
          refine sA_callV (y2 := m_X9_meetingsOf) (n2 := 2) (d2 := 7) (a := 106) (ci := 9) (q := (RX9, TX9, 28)) (as := [gs_iv r, gs_iv s]) (rest := []) dd_X9_meets_45 ok_X9_meetingsOf ml_X9_148 rfl rfl (by decide) gs_s106 rfl rfl (Nat.le_of_ble_eq_true rfl) (by decide) (c_X9_meetingsOf_vf hI (by omega) (by omega) (by omega) hVr hVs) (fun r43 F44 A45 h46 => ?_)
          obtain ⟨z49, e48, I50, f51, x47⟩ := h46
          subst e48
          have f52 := gs_fr_tr hf f51 (fun b j h => by first | exact False.elim h | omega | (dsimp only at h ⊢; omega) | fail) (fun b h => by first | exact False.elim h | omega | (dsimp only at h ⊢; omega) | fail)
          have y53 : (0 ≤ z49 ∧ z49 ≤ 48000) ∧ z49 = mt_m9 (4 * F 106 0) (fun i => A 109 (60 * r.toNat + i)) (A 108 r.toNat) (fun i => A 109 (60 * s.toNat + i)) (A 108 s.toNat) := x47
          clear x47
          show sA _ _ _ 48 _ [gs_iv z49] _ _
          refine sA_iret (z := z49) dd_X9_meets_48 rfl ?_
          refine ⟨_, rfl, I50, f52, ?_⟩
          refine .inr ⟨by omega, by omega, by omega, by omega, ?_⟩
          rcases y30 with p | p <;> rcases y41 with q | q <;> first | (exfalso; omega) | exact .inr ⟨p.2, q.2, y53.2⟩ | fail
        · skip
          refine sA_sipush (z := (-1003)) dd_X9_meets_36 (by decide) ?_
          refine sA_goto (tgt := 48) dd_X9_meets_39 (by decide) ?_
          refine sA_iret (z := -1003) dd_X9_meets_48 rfl ?_
          refine ⟨_, rfl, hI, hf, ?_⟩
          refine .inr ⟨by omega, by omega, by omega, by omega, ?_⟩
          rcases y41 with q | q <;> first | (exfalso; omega) | exact .inl ⟨.inr q.2, rfl⟩ | fail
    · skip
      refine sA_sipush (z := (-1001)) dd_X9_meets_16 (by decide) ?_
      refine sA_iret (z := -1001) dd_X9_meets_19 rfl ?_
      refine ⟨_, rfl, hI, hf, ?_⟩
      exact .inl ⟨by omega, rfl⟩
end
