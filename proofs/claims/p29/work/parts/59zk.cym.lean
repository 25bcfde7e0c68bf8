noncomputable section
theorem c_X9_carries_vf {r s : Int} {F A : gs_F} (hI : gs_I F A) (hr : 0 ≤ r ∧ r < 12) (hs : 0 ≤ s ∧ s < 12) (h1 : 1 ≤ A 108 s.toNat) (hcd : ∀ i : Int, 0 ≤ i → i < A 110 (8 : Int).toNat → 0 ≤ A 111 (60 * (8 : Int) + i).toNat ∧ A 111 (60 * (8 : Int) + i).toNat ≤ 15) : sC m_X9_carries 6 [.ref 106, gs_iv r, gs_iv s] F A (fun rv F' A' => ∃ z : Int, rv = some (gs_iv z) ∧ gs_I F' A' ∧ gs_fr (fun c j => c = 106 ∧ (j = 9 ∨ j = 11 ∨ j = 13 ∨ j = 15)) (fun c => c = 112 ∨ c = 113 ∨ c = 114 ∨ c = 115) F A F' A' ∧ ((z = 1 ∧ (cy_c9 (gs_plm F A 8 (gs_stk (fun i => A 109 (60 * r.toNat + i)) (A 108 r.toNat).toNat)) (fun i => A 109 (60 * s.toNat + i)) (A 108 s.toNat))) ∨ (z = 0 ∧ ¬ (cy_c9 (gs_plm F A 8 (gs_stk (fun i => A 109 (60 * r.toNat + i)) (A 108 r.toNat).toNat)) (fun i => A 109 (60 * s.toNat + i)) (A 108 s.toNat))))) := by
  refine sC_of ok_X9_carries.1 (Nat.le_of_ble_eq_true rfl) ?_
  show sA _ _ _ 0 [(0, .ref 106), (1, gs_iv r), (2, gs_iv s)] [] F A
  have hf : gs_fr (fun c j => c = 106 ∧ (j = 9 ∨ j = 11 ∨ j = 13 ∨ j = 15)) (fun c => c = 112 ∨ c = 113 ∨ c = 114 ∨ c = 115) F A F A := gs_fr_refl _ _ _ _
  have b1 : (0 : Int) ≤ F 106 9 ∧ F 106 9 ≤ 400 := hI.1 106 9
  have b2 : (0 : Int) ≤ F 106 11 ∧ F 106 11 ≤ 60 := hI.1 106 11
  have b3 : (0 : Int) ≤ F 106 13 ∧ F 106 13 ≤ 400 := hI.1 106 13
  have b4 : (1 : Int) ≤ F 106 0 ∧ F 106 0 ≤ 3 := hI.1 106 0
  refine sA_aload_n dd_X9_carries_0 rfl (.head _) ?_
  refine sA_iload_n dd_X9_carries_1 rfl (.tail _ (.head _)) ?_
  refine sA_callV (y2 := m_X9_takeRing) (n2 := 1) (d2 := 1) (a := 106) (ci := 9) (q := (RX9, TX9, 28)) (as := [gs_iv r]) (rest := []) dd_X9_carries_2 ok_X9_takeRing ml_X9_230 rfl rfl (by decide) gs_s106 rfl rfl (Nat.le_of_ble_eq_true rfl) (by decide) (c_X9_takeRing_vf hI (by omega)) (fun r5 F6 A7 h8 => ?_)
  obtain ⟨e10, I11, f12, x9⟩ := h8
  subst e10
  have v13 : F6 106 9 = F 106 9 := f12.1 106 9 (by first | exact id | omega | (dsimp only; omega) | (dsimp only) | fail)
  have v14 : F6 106 11 = F 106 11 := f12.1 106 11 (by first | exact id | omega | (dsimp only; omega) | (dsimp only) | fail)
  have v16 : F6 106 0 = F 106 0 := f12.1 106 0 (by first | exact id | omega | (dsimp only; omega) | (dsimp only) | fail)
  have v17 : A7 108 s.toNat = A 108 s.toNat := congrFun (f12.2 108 (by first | exact id | omega | (dsimp only; omega) | (dsimp only) | fail)) _
  have f18 := gs_fr_tr hf f12 (fun b j h => by first | exact False.elim h | omega | (dsimp only at h ⊢; omega) | fail) (fun b h => by first | exact False.elim h | omega | (dsimp only at h ⊢; omega) | fail)
  have y19 : F6 106 13 = A 108 r.toNat ∧ ∀ k : Int, 0 ≤ k → k < A 108 r.toNat → A7 114 k.toNat = A 109 (60 * r + k).toNat := x9
  clear x9
  show sA _ _ _ 5 _ [] _ _
  refine sA_aload_n dd_X9_carries_5 rfl (.head _) ?_
  refine sA_bipush (z := 8) dd_X9_carries_6 (by decide) ?_
  have tr := y19
  have hstk : gs_stk (A7 114) (F6 106 13).toNat = (gs_stk (fun i => A 109 (60 * r.toNat + i)) (A 108 r.toNat).toNat) := by
    rw [tr.1]
    refine gs_stk_cg _ (fun i hi => ?_)
    show A7 114 i = A 109 (60 * r.toNat + i)
    have w := tr.2 i (by omega) (by omega)
    rw [Int.toNat_natCast, show (60 * r + (i : Int)).toNat = 60 * r.toNat + i by omega] at w
    exact w
  have h110 : A7 110 = A 110 := f18.2 110 (by dsimp only; omega)
  have h111 : A7 111 = A 111 := f18.2 111 (by dsimp only; omega)
  have hg0 : F6 106 0 = F 106 0 := f18.1 106 0 (by dsimp only; omega)
  have hcd1 : ∀ i : Int, 0 ≤ i → i < A7 110 (8 : Int).toNat → 0 ≤ A7 111 (60 * (8 : Int) + i).toNat ∧ A7 111 (60 * (8 : Int) + i).toNat ≤ 15 := by rw [h110, h111]; exact hcd
  refine sA_callV (y2 := m_X9_imageRow) (n2 := 1) (d2 := 5) (a := 106) (ci := 9) (q := (RX9, TX9, 28)) (as := [gs_iv 8]) (rest := []) dd_X9_carries_8 ok_X9_imageRow ml_X9_227 rfl rfl (by decide) gs_s106 rfl rfl (Nat.le_of_ble_eq_true rfl) (by decide) (c_X9_imageRow_vf I11 (by omega) hcd1) (fun r20 F21 A22 h23 => ?_)
  obtain ⟨z26, e25, I27, f28, x24⟩ := h23
  subst e25
  have v29 : F21 106 9 = F6 106 9 := f28.1 106 9 (by first | exact id | omega | (dsimp only; omega) | (dsimp only) | fail)
  have v30 : F21 106 11 = F6 106 11 := f28.1 106 11 (by first | exact id | omega | (dsimp only; omega) | (dsimp only) | fail)
  have v32 : F21 106 0 = F6 106 0 := f28.1 106 0 (by first | exact id | omega | (dsimp only; omega) | (dsimp only) | fail)
  have v33 : A22 108 s.toNat = A7 108 s.toNat := congrFun (f28.2 108 (by first | exact id | omega | (dsimp only; omega) | (dsimp only) | fail)) _
  have f34 := gs_fr_tr f18 f28 (fun b j h => by first | exact False.elim h | omega | (dsimp only at h ⊢; omega) | fail) (fun b h => by first | exact False.elim h | omega | (dsimp only at h ⊢; omega) | fail)
  have y35 : (z26 = 1 ∧ sp_pl (fun u => sp_tw (sp_m (F6 106 0) u)) (fun i => A7 111 (60 * (8 : Int).toNat + i)) (A7 110 (8 : Int).toNat).toNat (gs_stk (A7 114) (F6 106 13).toNat) = some (gs_stk (A22 114) (F21 106 13).toNat)) ∨ (z26 = 0 ∧ sp_pl (fun u => sp_tw (sp_m (F6 106 0) u)) (fun i => A7 111 (60 * (8 : Int).toNat + i)) (A7 110 (8 : Int).toNat).toNat (gs_stk (A7 114) (F6 106 13).toNat) = none) := x24
  clear x24
  show sA _ _ _ 11 _ [gs_iv z26] _ _
  refine sA_if_ne (tgt := 16) dd_X9_carries_11 (by decide) (by omega) (fun q36 => ?_) (fun q36 => ?_)
  · skip
    have c1 : gs_plm F A 8 (gs_stk (fun i => A 109 (60 * r.toNat + i)) (A 108 r.toNat).toNat) = some (gs_stk (A22 114) (F21 106 13).toNat) := by
      rcases y35 with y | y
      · have y2 := y.2
        rw [h110, h111, hg0, hstk] at y2
        exact y2
      · exfalso
        omega
    refine sA_aload_n dd_X9_carries_16 rfl (.head _) ?_
    refine sA_callV (y2 := m_X9_closeToU) (n2 := 0) (d2 := 1) (a := 106) (ci := 9) (q := (RX9, TX9, 28)) (as := []) (rest := []) dd_X9_carries_17 ok_X9_closeToU ml_X9_233 rfl rfl (by decide) gs_s106 rfl rfl (Nat.le_of_ble_eq_true rfl) (by decide) (c_X9_closeToU_vf I27 ) (fun r37 F38 A39 h40 => ?_)
    obtain ⟨e42, I43, f44, x41⟩ := h40
    subst e42
    have v46 : F38 106 11 = F21 106 11 := f44.1 106 11 (by first | exact id | omega | (dsimp only; omega) | (dsimp only) | fail)
    have v47 : F38 106 13 = F21 106 13 := f44.1 106 13 (by first | exact id | omega | (dsimp only; omega) | (dsimp only) | fail)
    have v48 : F38 106 0 = F21 106 0 := f44.1 106 0 (by first | exact id | omega | (dsimp only; omega) | (dsimp only) | fail)
    have v49 : A39 108 s.toNat = A22 108 s.toNat := congrFun (f44.2 108 (by first | exact id | omega | (dsimp only; omega) | (dsimp only) | fail)) _
    have f50 := gs_fr_tr f34 f44 (fun b j h => by first | exact False.elim h | omega | (dsimp only at h ⊢; omega) | fail) (fun b h => by first | exact False.elim h | omega | (dsimp only at h ⊢; omega) | fail)
    have y51 : ∃ k : Int, gs_lo (A22 114) (F21 106 13) k ∧ F38 106 9 = F21 106 13 - 2 * k ∧ ∀ i : Int, 0 ≤ i → i < F21 106 13 - 2 * k → A39 112 i.toNat = A22 114 (k + i).toNat := x41
    clear x41
    show sA _ _ _ 20 _ [] _ _
    have c2 : gs_cls (gs_stk (A22 114) (F21 106 13).toNat) (A39 112) (F38 106 9) := by
      obtain ⟨k0, k1, k2, k3⟩ := y51
      have hb13 : (0 : Int) ≤ F21 106 13 ∧ F21 106 13 ≤ 400 := I27.1 106 13
      exact ⟨_, _, k0, hb13.1, rfl, k1, k2, fun i h1 h2 => k3 i h1 (by omega)⟩
    refine sA_aload_n dd_X9_carries_20 rfl (.head _) ?_
    refine sA_iload_n dd_X9_carries_21 rfl (.tail _ (.tail _ (.head _))) ?_
    refine sA_callV (y2 := m_X9_takeV) (n2 := 1) (d2 := 1) (a := 106) (ci := 9) (q := (RX9, TX9, 28)) (as := [gs_iv s]) (rest := []) dd_X9_carries_22 ok_X9_takeV ml_X9_106 rfl rfl (by decide) gs_s106 rfl rfl (Nat.le_of_ble_eq_true rfl) (by decide) (c_X9_takeV_vf I43 (by omega)) (fun r52 F53 A54 h55 => ?_)
    obtain ⟨e57, I58, f59, x56⟩ := h55
    subst e57
    have v60 : F53 106 9 = F38 106 9 := f59.1 106 9 (by first | exact id | omega | (dsimp only; omega) | (dsimp only) | fail)
    have v62 : F53 106 13 = F38 106 13 := f59.1 106 13 (by first | exact id | omega | (dsimp only; omega) | (dsimp only) | fail)
    have v63 : F53 106 0 = F38 106 0 := f59.1 106 0 (by first | exact id | omega | (dsimp only; omega) | (dsimp only) | fail)
    have v64 : A54 108 s.toNat = A39 108 s.toNat := congrFun (f59.2 108 (by first | exact id | omega | (dsimp only; omega) | (dsimp only) | fail)) _
    have f65 := gs_fr_tr f50 f59 (fun b j h => by first | exact False.elim h | omega | (dsimp only at h ⊢; omega) | fail) (fun b h => by first | exact False.elim h | omega | (dsimp only at h ⊢; omega) | fail)
    have y66 : F53 106 11 = A39 108 s.toNat ∧ ∀ k : Int, 0 ≤ k → k < A39 108 s.toNat → A54 113 k.toNat = A39 109 (60 * s + k).toNat := x56
    clear x56
    show sA _ _ _ 25 _ [] _ _
    refine sA_aload_n dd_X9_carries_25 rfl (.head _) ?_
    have tv := y66
    have e108 : A39 108 = A 108 := (f44.2 108 (by dsimp only; omega)).trans ((f28.2 108 (by dsimp only; omega)).trans (f12.2 108 (by dsimp only; omega)))
    have e109 : A39 109 = A 109 := (f44.2 109 (by dsimp only; omega)).trans ((f28.2 109 (by dsimp only; omega)).trans (f12.2 109 (by dsimp only; omega)))
    rw [e108, e109] at tv
    have hv := mt_row_of (f := A 109) (r := s) (by omega) tv.2
    have e112 : A54 112 = A39 112 := f59.2 112 (by dsimp only; omega)
    have e9 : F53 106 9 = F38 106 9 := by omega
    have e11 : F53 106 11 = A 108 s.toNat := by omega
    refine sA_callV (y2 := m_X9_areOne) (n2 := 0) (d2 := 3) (a := 106) (ci := 9) (q := (RX9, TX9, 28)) (as := []) (rest := []) dd_X9_carries_26 ok_X9_areOne ml_X9_109 rfl rfl (by decide) gs_s106 rfl rfl (Nat.le_of_ble_eq_true rfl) (by decide) (c_X9_areOne_vf I58 (by omega)) (fun r67 F68 A69 h70 => ?_)
    obtain ⟨z73, e72, I74, f75, x71⟩ := h70
    subst e72
    have v76 : F68 106 9 = F53 106 9 := f75.1 106 9 (by first | exact id | omega | (dsimp only; omega) | (dsimp only) | fail)
    have v77 : F68 106 11 = F53 106 11 := f75.1 106 11 (by first | exact id | omega | (dsimp only; omega) | (dsimp only) | fail)
    have v78 : F68 106 13 = F53 106 13 := f75.1 106 13 (by first | exact id | omega | (dsimp only; omega) | (dsimp only) | fail)
    have v79 : F68 106 0 = F53 106 0 := f75.1 106 0 (by first | exact id | omega | (dsimp only; omega) | (dsimp only) | fail)
    have v80 : A69 108 s.toNat = A54 108 s.toNat := congrFun (f75.2 108 (by first | exact id | omega | (dsimp only; omega) | (dsimp only) | fail)) _
    have f81 := gs_fr_tr f65 f75 (fun b j h => by first | exact False.elim h | omega | (dsimp only at h ⊢; omega) | fail) (fun b h => by first | exact False.elim h | omega | (dsimp only at h ⊢; omega) | fail)
    have y82 : (z73 = 1 ∧ gs_ao (A54 112) (F53 106 9) (A54 113) (F53 106 11)) ∨ (z73 = 0 ∧ ¬ gs_ao (A54 112) (F53 106 9) (A54 113) (F53 106 11)) := x71
    clear x71
    show sA _ _ _ 29 _ [gs_iv z73] _ _
    have hz26 : z73 = 0 ∨ z73 = 1 := by omega
    refine sA_bret (z := z73) dd_X9_carries_29 rfl (by omega) ?_
    refine ⟨_, rfl, I74, f81, ?_⟩
    have hcg := gs_ao_cg (u := A39 112) (u2 := A39 112) (n := F38 106 9) (m := A 108 s.toNat) (fun _ _ => rfl) hv
    have hy := y82
    rw [e9, e11, e112] at hy
    rcases hy with h | h
    · exact .inl ⟨h.1, _, c1, (st_ao_mk c2).mpr (hcg.mp h.2)⟩
    · refine .inr ⟨h.1, fun ⟨st, s1, s2⟩ => h.2 (hcg.mpr ?_)⟩
      rw [c1] at s1
      injection s1 with s1
      rw [← s1] at s2
      exact (st_ao_mk c2).mp s2
  · skip
    refine sA_iconst (z := 0) dd_X9_carries_14 ?_
    refine sA_bret (z := 0) dd_X9_carries_15 rfl (by omega) ?_
    refine ⟨_, rfl, I27, f34, ?_⟩
    rcases y35 with y | y
    · exfalso
      omega
    · have y2 := y.2
      rw [h110, h111, hg0, hstk] at y2
      refine .inr ⟨rfl, fun ⟨st, s1, s2⟩ => ?_⟩
      have s1 : sp_pl (fun u => sp_tw (sp_m (F 106 0) u)) (fun i => A 111 (60 * (8 : Int).toNat + i)) (A 110 (8 : Int).toNat).toNat (gs_stk (fun i => A 109 (60 * r.toNat + i)) (A 108 r.toNat).toNat) = some st := s1
      rw [y2] at s1
      cases s1
theorem k_X9_carry_vg {r s n i : Int} {F A : gs_F} (hI : gs_I F A) (hr : -2147483648 ≤ r ∧ r ≤ 2147483647) (hs : -2147483648 ≤ s ∧ s ≤ 2147483647) (hn : -2147483648 ≤ n ∧ n ≤ 2147483647) (hi : -2147483648 ≤ i ∧ i ≤ 2147483647) (hX : ∀ r : Nat, (r : Int) < F 106 3 → 1 ≤ A 108 r) : ∀ nN : Nat, (∀ (m : Int)  (F1 A1 : gs_F), gs_I F1 A1 → gs_fr (fun c j => c = 106 ∧ (j = 9 ∨ j = 11 ∨ j = 13 ∨ j = 15)) (fun c => c = 110 ∨ c = 111 ∨ c = 112 ∨ c = 113 ∨ c = 114 ∨ c = 115) F A F1 A1 → 0 ≤ r ∧ r < 12 → 0 ≤ s ∧ s < F 106 3 ∧ s < 12 → 0 ≤ n ∧ n ≤ 3 → -1 ≤ i ∧ i ≤ 2 → 0 ≤ m ∧ m ≤ n + 1 → gs_k8 A A1 → F1 106 0 = F 106 0 ∧ r < F 106 3 → gs_bef (cy_hit9 (F 106 0) (2 * (3 * F 106 0 - 1)) (gs_stk (fun i => A 109 (60 * r.toNat + i)) (A 108 r.toNat).toNat) (fun i => A 109 (60 * s.toNat + i)) (A 108 s.toNat)) (2 * (3 * F 106 0 - 1)) m 0 → (4 - m) * 4294967296 + 1 < (nN : Int) → sA m_X9_carry 7 (fun rv F' A' => ∃ z : Int, rv = some (gs_iv z) ∧ gs_I F' A' ∧ gs_fr (fun c j => c = 106 ∧ (j = 9 ∨ j = 11 ∨ j = 13 ∨ j = 15)) (fun c => c = 110 ∨ c = 111 ∨ c = 112 ∨ c = 113 ∨ c = 114 ∨ c = 115) F A F' A' ∧ (gs_k8 A A' ∧ (((r < 0 ∨ F 106 3 ≤ r ∨ s < 0 ∨ F 106 3 ≤ s) ∧ z = -1001) ∨ (0 ≤ r ∧ r < F 106 3 ∧ 0 ≤ s ∧ s < F 106 3 ∧ (n < 0 ∨ 3 < n ∨ i < -1 ∨ 2 < i) ∧ z = -1002) ∨ (0 ≤ r ∧ r < F 106 3 ∧ 0 ≤ s ∧ s < F 106 3 ∧ 0 ≤ n ∧ n ≤ 3 ∧ -1 ≤ i ∧ i ≤ 2 ∧ gs_sv (cy_hit9 (F 106 0) (2 * (3 * F 106 0 - 1)) (gs_stk (fun i => A 109 (60 * r.toNat + i)) (A 108 r.toNat).toNat) (fun i => A 109 (60 * s.toNat + i)) (A 108 s.toNat)) (2 * (3 * F 106 0 - 1)) n i z)))) 54 [(5, gs_iv m), (0, .ref 106), (1, gs_iv r), (2, gs_iv s), (3, gs_iv n), (4, gs_iv i)] [] F1 A1) ∧ (∀ (m : Int) (l : Int) (x : Int)  (F1 A1 : gs_F), gs_I F1 A1 → gs_fr (fun c j => c = 106 ∧ (j = 9 ∨ j = 11 ∨ j = 13 ∨ j = 15)) (fun c => c = 110 ∨ c = 111 ∨ c = 112 ∨ c = 113 ∨ c = 114 ∨ c = 115) F A F1 A1 → 0 ≤ r ∧ r < 12 → 0 ≤ s ∧ s < F 106 3 ∧ s < 12 → 0 ≤ n ∧ n ≤ 3 → -1 ≤ i ∧ i ≤ 2 → 0 ≤ m ∧ m ≤ n → -2147483648 ≤ l ∧ l ≤ 2147483647 → 0 ≤ x ∧ x ≤ 2147483647 → gs_k8 A A1 → F1 106 0 = F 106 0 ∧ r < F 106 3 → l = sp_pw (2 * (3 * F 106 0 - 1)) m.toNat → gs_bef (cy_hit9 (F 106 0) (2 * (3 * F 106 0 - 1)) (gs_stk (fun i => A 109 (60 * r.toNat + i)) (A 108 r.toNat).toNat) (fun i => A 109 (60 * s.toNat + i)) (A 108 s.toNat)) (2 * (3 * F 106 0 - 1)) m x → (4 - m) * 4294967296 - x < (nN : Int) → sA m_X9_carry 7 (fun rv F' A' => ∃ z : Int, rv = some (gs_iv z) ∧ gs_I F' A' ∧ gs_fr (fun c j => c = 106 ∧ (j = 9 ∨ j = 11 ∨ j = 13 ∨ j = 15)) (fun c => c = 110 ∨ c = 111 ∨ c = 112 ∨ c = 113 ∨ c = 114 ∨ c = 115) F A F' A' ∧ (gs_k8 A A' ∧ (((r < 0 ∨ F 106 3 ≤ r ∨ s < 0 ∨ F 106 3 ≤ s) ∧ z = -1001) ∨ (0 ≤ r ∧ r < F 106 3 ∧ 0 ≤ s ∧ s < F 106 3 ∧ (n < 0 ∨ 3 < n ∨ i < -1 ∨ 2 < i) ∧ z = -1002) ∨ (0 ≤ r ∧ r < F 106 3 ∧ 0 ≤ s ∧ s < F 106 3 ∧ 0 ≤ n ∧ n ≤ 3 ∧ -1 ≤ i ∧ i ≤ 2 ∧ gs_sv (cy_hit9 (F 106 0) (2 * (3 * F 106 0 - 1)) (gs_stk (fun i => A 109 (60 * r.toNat + i)) (A 108 r.toNat).toNat) (fun i => A 109 (60 * s.toNat + i)) (A 108 s.toNat)) (2 * (3 * F 106 0 - 1)) n i z)))) 71 [(7, gs_iv x), (6, gs_iv l), (5, gs_iv m), (0, .ref 106), (1, gs_iv r), (2, gs_iv s), (3, gs_iv n), (4, gs_iv i)] [] F1 A1) := by
  intro nN
  induction nN with
  | zero =>
    exact ⟨fun a0 a1 a2 a3 a4 i0 i1 i2 i3 i4 i5 i6 i7 hm => by exfalso; omega, fun a0 a1 a2 a3 a4 a5 a6 i0 i1 i2 i3 i4 i5 i6 i7 i8 i9 i10 hm => by exfalso; omega⟩
  | succ nN ih =>
    refine ⟨?_, ?_⟩
    · skip
      intro m F1 A1 hI1 hf1 i0 i1 i2 i3 i4 i5 i6 i7 hm
      have b1 : (1 : Int) ≤ F1 106 0 ∧ F1 106 0 ≤ 3 := hI1.1 106 0
      have b2 : (0 : Int) ≤ F1 106 3 ∧ F1 106 3 ≤ 12 := hI1.1 106 3
      have hA8 := hf1.2 108 (by dsimp only; omega)
      have hx_s : 1 ≤ A1 108 s.toNat := by rw [hA8]; exact hX _ (by omega)
      have hb0c : (1 : Int) ≤ F 106 0 ∧ F 106 0 ≤ 3 := hI.1 106 0
      have hpb := sp_pw_bd (B := (2 * (3 * F 106 0 - 1))) (by omega)
      refine sA_iload dd_X9_carry_54 (.head _) ?_
      refine sA_iload_n dd_X9_carry_56 rfl (.tail _ (.tail _ (.tail _ (.tail _ (.head _))))) ?_
      refine sA_icmp_gt (tgt := 141) dd_X9_carry_57 (by decide) (by omega) (by omega) (fun q3 => ?_) (fun q3 => ?_)
      · skip
        refine sA_iconst (z := (-1)) dd_X9_carry_141 ?_
        refine sA_iret (z := -1) dd_X9_carry_142 rfl ?_
        refine ⟨_, rfl, hI1, hf1, ?_⟩
        refine ⟨i5, .inr (.inr ⟨by omega, by omega, by omega, by omega, by omega, by omega, by omega, by omega, .inr ⟨?_, rfl⟩⟩)⟩
        rw [show n + 1 = m by omega]
        exact i7
      · skip
        refine sA_aload_n dd_X9_carry_60 rfl (.tail _ (.head _)) ?_
        refine sA_iload dd_X9_carry_61 (.head _) ?_
        refine sA_callV (y2 := m_X9_power) (n2 := 1) (d2 := 2) (a := 106) (ci := 9) (q := (RX9, TX9, 28)) (as := [gs_iv m]) (rest := []) dd_X9_carry_63 ok_X9_power ml_X9_301 rfl rfl (by decide) gs_s106 rfl rfl (Nat.le_of_ble_eq_true rfl) (by decide) (c_X9_power_vf hI1 (by omega)) (fun r4 F5 A6 h7 => ?_)
        obtain ⟨z10, e9, e11, e12, x8⟩ := h7
        subst e9 e11 e12
        have y13 : z10 = sp_pw (2 * (3 * F1 106 0 - 1)) m.toNat ∧ 1 ≤ z10 ∧ z10 ≤ 65536 := x8
        clear x8
        show sA _ _ _ 66 _ [gs_iv z10] _ _
        have y63 := y13
        rw [show F1 106 0 = F 106 0 by omega] at y63
        refine sA_istore (lv' := [(6, gs_iv z10), (5, gs_iv m), (0, .ref 106), (1, gs_iv r), (2, gs_iv s), (3, gs_iv n), (4, gs_iv i)]) dd_X9_carry_66 (by decide) rfl ?_
        refine sA_iconst (z := 0) dd_X9_carry_68 ?_
        refine sA_istore (lv' := [(7, gs_iv 0), (6, gs_iv z10), (5, gs_iv m), (0, .ref 106), (1, gs_iv r), (2, gs_iv s), (3, gs_iv n), (4, gs_iv i)]) dd_X9_carry_69 (by decide) rfl ?_
        refine sA_sub (lv2 := [(7, gs_iv 0), (6, gs_iv z10), (5, gs_iv m), (0, .ref 106), (1, gs_iv r), (2, gs_iv s), (3, gs_iv n), (4, gs_iv i)]) (List.forall_mem_cons.mpr ⟨(.head _), (List.forall_mem_cons.mpr ⟨(.tail _ (.head _)), (List.forall_mem_cons.mpr ⟨(.tail _ (.tail _ (.head _))), (List.forall_mem_cons.mpr ⟨(.tail _ (.tail _ (.tail _ (.head _)))), (List.forall_mem_cons.mpr ⟨(.tail _ (.tail _ (.tail _ (.tail _ (.head _))))), (List.forall_mem_cons.mpr ⟨(.tail _ (.tail _ (.tail _ (.tail _ (.tail _ (.head _)))))), (List.forall_mem_cons.mpr ⟨(.tail _ (.tail _ (.tail _ (.tail _ (.tail _ (.tail _ (.head _))))))), (List.forall_mem_cons.mpr ⟨(.tail _ (.tail _ (.tail _ (.tail _ (.tail _ (.tail _ (.tail _ (.head _)))))))), (fun _ h => absurd h List.not_mem_nil)⟩)⟩)⟩)⟩)⟩)⟩)⟩)⟩) ?_
        exact ih.2 m z10 0 F1 A1 hI1 hf1 (by omega) (by omega) (by omega) (by omega) (by omega) (by omega) (by omega) i5 (by omega) y63.1 i7 (by omega)
    · skip
      intro m l x F1 A1 hI1 hf1 i0 i1 i2 i3 i4 i5 i6 i7 i8 i9 i10 hm
      have b14 : (1 : Int) ≤ F1 106 0 ∧ F1 106 0 ≤ 3 := hI1.1 106 0
      have b15 : (0 : Int) ≤ F1 106 3 ∧ F1 106 3 ≤ 12 := hI1.1 106 3
      have hA8 := hf1.2 108 (by dsimp only; omega)
      have hx_s : 1 ≤ A1 108 s.toNat := by rw [hA8]; exact hX _ (by omega)
      have hb0c : (1 : Int) ≤ F 106 0 ∧ F 106 0 ≤ 3 := hI.1 106 0
      have hpb := sp_pw_bd (B := (2 * (3 * F 106 0 - 1))) (by omega)
      refine sA_iload dd_X9_carry_71 (.head _) ?_
      refine sA_iload dd_X9_carry_73 (.tail _ (.head _)) ?_
      refine sA_icmp_ge (tgt := 135) dd_X9_carry_75 (by decide) (by omega) (by omega) (fun q16 => ?_) (fun q16 => ?_)
      · skip
        refine sA_iinc (lv' := [(5, gs_iv (m + 1)), (7, gs_iv x), (6, gs_iv l), (0, .ref 106), (1, gs_iv r), (2, gs_iv s), (3, gs_iv n), (4, gs_iv i)]) dd_X9_carry_135 (.tail _ (.tail _ (.head _))) (by decide) rfl ?_
        refine sA_goto (tgt := 54) dd_X9_carry_138 (by decide) ?_
        refine sA_sub (lv2 := [(5, gs_iv (m + 1)), (0, .ref 106), (1, gs_iv r), (2, gs_iv s), (3, gs_iv n), (4, gs_iv i)]) (List.forall_mem_cons.mpr ⟨(.head _), (List.forall_mem_cons.mpr ⟨(.tail _ (.tail _ (.tail _ (.head _)))), (List.forall_mem_cons.mpr ⟨(.tail _ (.tail _ (.tail _ (.tail _ (.head _))))), (List.forall_mem_cons.mpr ⟨(.tail _ (.tail _ (.tail _ (.tail _ (.tail _ (.head _)))))), (List.forall_mem_cons.mpr ⟨(.tail _ (.tail _ (.tail _ (.tail _ (.tail _ (.tail _ (.head _))))))), (List.forall_mem_cons.mpr ⟨(.tail _ (.tail _ (.tail _ (.tail _ (.tail _ (.tail _ (.tail _ (.head _)))))))), (fun _ h => absurd h List.not_mem_nil)⟩)⟩)⟩)⟩)⟩)⟩) ?_
        exact ih.1 (m + 1) F1 A1 hI1 hf1 (by omega) (by omega) (by omega) (by omega) (by omega) i7 (by omega) (gs_bef_k i10 (by rw [← i9]; omega)) (by omega)
      · skip
        refine sA_aload_n dd_X9_carry_78 rfl (.tail _ (.tail _ (.tail _ (.head _)))) ?_
        refine sA_iload dd_X9_carry_79 (.tail _ (.tail _ (.head _))) ?_
        refine sA_iload dd_X9_carry_81 (.head _) ?_
        refine sA_callV (y2 := m_X9_numberPlan) (n2 := 2) (d2 := 2) (a := 106) (ci := 9) (q := (RX9, TX9, 28)) (as := [gs_iv m, gs_iv x]) (rest := []) dd_X9_carry_83 ok_X9_numberPlan ml_X9_304 rfl rfl (by decide) gs_s106 rfl rfl (Nat.le_of_ble_eq_true rfl) (by decide) (c_X9_numberPlan_vg hI1 (by omega) (by omega) (by omega)) (fun r17 F18 A19 h20 => ?_)
        obtain ⟨e22, I23, f24, x21⟩ := h20
        subst e22
        have v25 : F18 106 0 = F1 106 0 := f24.1 106 0 (by first | exact id | omega | (dsimp only; omega) | (dsimp only) | fail)
        have v26 : F18 106 3 = F1 106 3 := f24.1 106 3 (by first | exact id | omega | (dsimp only; omega) | (dsimp only) | fail)
        have v27 : A19 108 s.toNat = A1 108 s.toNat := congrFun (f24.2 108 (by first | exact id | omega | (dsimp only; omega) | (dsimp only) | fail)) _
        have f28 := gs_fr_tr hf1 f24 (fun b j h => by first | exact False.elim h | omega | (dsimp only at h ⊢; omega) | fail) (fun b h => by first | exact False.elim h | omega | (dsimp only at h ⊢; omega) | fail)
        have t29 : gs_k8 A A19 := gs_k8_tr i7 x21.1
        have y30 : gs_k8 A1 A19 ∧ A19 110 8 = m ∧ ∀ j : Int, 0 ≤ j → j < m → A19 111 (480 + j).toNat = sp_nm (2 * (3 * F1 106 0 - 1)) m.toNat x j.toNat := x21
        clear x21
        show sA _ _ _ 86 _ [] _ _
        refine sA_aload_n dd_X9_carry_86 rfl (.tail _ (.tail _ (.tail _ (.head _)))) ?_
        refine sA_iload_n dd_X9_carry_87 rfl (.tail _ (.tail _ (.tail _ (.tail _ (.head _))))) ?_
        refine sA_iload_n dd_X9_carry_88 rfl (.tail _ (.tail _ (.tail _ (.tail _ (.tail _ (.head _)))))) ?_
        have y83 := y30.2
        have hg83 : F18 106 0 = F 106 0 := f28.1 106 0 (by dsimp only; omega)
        have y83b := y83.2
        rw [show F1 106 0 = F 106 0 by omega] at y83b
        have hPe : ∀ w, gs_plm F18 A19 8 w = sp_np (F 106 0) (2 * (3 * F 106 0 - 1)) m.toNat x w := fun w => by
          rw [gs_plm_np (B := (2 * (3 * F 106 0 - 1))) (r := x) (by omega) y83.1 y83b, hg83]
        have hcd1 := gs_cdn (B := (2 * (3 * F 106 0 - 1))) (by omega) y83.1 y83b
        have k108 : A19 108 = A 108 := f28.2 108 (by dsimp only; omega)
        have k109 : A19 109 = A 109 := f28.2 109 (by dsimp only; omega)
        have hct : (cy_c9 (gs_plm F18 A19 8 (gs_stk (fun i => A19 109 (60 * r.toNat + i)) (A19 108 r.toNat).toNat)) (fun i => A19 109 (60 * s.toNat + i)) (A19 108 s.toNat)) ↔ (cy_hit9 (F 106 0) (2 * (3 * F 106 0 - 1)) (gs_stk (fun i => A 109 (60 * r.toNat + i)) (A 108 r.toNat).toNat) (fun i => A 109 (60 * s.toNat + i)) (A 108 s.toNat)) m.toNat x := by
          rw [k108, k109]
          constructor
          · rintro ⟨st, q1, q2⟩
            exact ⟨st, by rw [← hPe]; exact q1, q2⟩
          · rintro ⟨st, q1, q2⟩
            exact ⟨st, by rw [hPe]; exact q1, q2⟩
        refine sA_callV (y2 := m_X9_carries) (n2 := 2) (d2 := 6) (a := 106) (ci := 9) (q := (RX9, TX9, 28)) (as := [gs_iv r, gs_iv s]) (rest := []) dd_X9_carry_89 ok_X9_carries ml_X9_308 rfl rfl (by decide) gs_s106 rfl rfl (Nat.le_of_ble_eq_true rfl) (by decide) (c_X9_carries_vf I23 (by omega) (by omega) (by omega) hcd1) (fun r31 F32 A33 h34 => ?_)
        obtain ⟨z37, e36, I38, f39, x35⟩ := h34
        subst e36
        have v40 : F32 106 0 = F18 106 0 := f39.1 106 0 (by first | exact id | omega | (dsimp only; omega) | (dsimp only) | fail)
        have v41 : F32 106 3 = F18 106 3 := f39.1 106 3 (by first | exact id | omega | (dsimp only; omega) | (dsimp only) | fail)
        have v42 : A33 108 s.toNat = A19 108 s.toNat := congrFun (f39.2 108 (by first | exact id | omega | (dsimp only; omega) | (dsimp only) | fail)) _
        have f43 := gs_fr_tr f28 f39 (fun b j h => by first | exact False.elim h | omega | (dsimp only at h ⊢; omega) | fail) (fun b h => by first | exact False.elim h | omega | (dsimp only at h ⊢; omega) | fail)
        have t44 : gs_k8 A A33 := gs_k8_tr t29 (gs_k8_fr (f39.2 110 (by first | exact id | omega | (dsimp only; omega) | fail)) (f39.2 111 (by first | exact id | omega | (dsimp only; omega) | fail)))
        have y45 : (z37 = 1 ∧ (cy_c9 (gs_plm F18 A19 8 (gs_stk (fun i => A19 109 (60 * r.toNat + i)) (A19 108 r.toNat).toNat)) (fun i => A19 109 (60 * s.toNat + i)) (A19 108 s.toNat))) ∨ (z37 = 0 ∧ ¬ (cy_c9 (gs_plm F18 A19 8 (gs_stk (fun i => A19 109 (60 * r.toNat + i)) (A19 108 r.toNat).toNat)) (fun i => A19 109 (60 * s.toNat + i)) (A19 108 s.toNat))) := x35
        clear x35
        show sA _ _ _ 92 _ [gs_iv z37] _ _
        refine sA_if_eq (tgt := 129) dd_X9_carry_92 (by decide) (by omega) (fun q46 => ?_) (fun q46 => ?_)
        · skip
          have hnh : ¬ (cy_hit9 (F 106 0) (2 * (3 * F 106 0 - 1)) (gs_stk (fun i => A 109 (60 * r.toNat + i)) (A 108 r.toNat).toNat) (fun i => A 109 (60 * s.toNat + i)) (A 108 s.toNat)) m.toNat x := fun w => by
            rcases y45 with y | y
            · omega
            · exact y.2 (hct.mpr w)
          refine sA_iinc (lv' := [(7, gs_iv (x + 1)), (6, gs_iv l), (5, gs_iv m), (0, .ref 106), (1, gs_iv r), (2, gs_iv s), (3, gs_iv n), (4, gs_iv i)]) dd_X9_carry_129 (.head _) (by decide) rfl ?_
          refine sA_goto (tgt := 71) dd_X9_carry_132 (by decide) ?_
          have b47 : (1 : Int) ≤ F32 106 0 ∧ F32 106 0 ≤ 3 := I38.1 106 0
          have b48 : (0 : Int) ≤ F32 106 3 ∧ F32 106 3 ≤ 12 := I38.1 106 3
          refine sA_sub (lv2 := [(7, gs_iv (x + 1)), (6, gs_iv l), (5, gs_iv m), (0, .ref 106), (1, gs_iv r), (2, gs_iv s), (3, gs_iv n), (4, gs_iv i)]) (List.forall_mem_cons.mpr ⟨(.head _), (List.forall_mem_cons.mpr ⟨(.tail _ (.head _)), (List.forall_mem_cons.mpr ⟨(.tail _ (.tail _ (.head _))), (List.forall_mem_cons.mpr ⟨(.tail _ (.tail _ (.tail _ (.head _)))), (List.forall_mem_cons.mpr ⟨(.tail _ (.tail _ (.tail _ (.tail _ (.head _))))), (List.forall_mem_cons.mpr ⟨(.tail _ (.tail _ (.tail _ (.tail _ (.tail _ (.head _)))))), (List.forall_mem_cons.mpr ⟨(.tail _ (.tail _ (.tail _ (.tail _ (.tail _ (.tail _ (.head _))))))), (List.forall_mem_cons.mpr ⟨(.tail _ (.tail _ (.tail _ (.tail _ (.tail _ (.tail _ (.tail _ (.head _)))))))), (fun _ h => absurd h List.not_mem_nil)⟩)⟩)⟩)⟩)⟩)⟩)⟩)⟩) ?_
          exact ih.2 m l (x + 1) F32 A33 I38 f43 (by omega) (by omega) (by omega) (by omega) (by omega) (by omega) (by omega) t44 (by omega) i9 (gs_bef_r i10 hnh) (by omega)
        · skip
          refine sA_iload dd_X9_carry_95 (.tail _ (.tail _ (.tail _ (.tail _ (.tail _ (.tail _ (.tail _ (.head _)))))))) ?_
          refine sA_iconst (z := (-1)) dd_X9_carry_97 ?_
          refine sA_icmp_ne (tgt := 106) dd_X9_carry_98 (by decide) (by omega) (by omega) (fun q49 => ?_) (fun q49 => ?_)
          · skip
            refine sA_iload dd_X9_carry_106 (.tail _ (.tail _ (.tail _ (.tail _ (.tail _ (.tail _ (.tail _ (.head _)))))))) ?_
            refine sA_iload dd_X9_carry_108 (.tail _ (.tail _ (.head _))) ?_
            refine sA_icmp_ge (tgt := 127) dd_X9_carry_110 (by decide) (by omega) (by omega) (fun q50 => ?_) (fun q50 => ?_)
            · skip
              refine sA_iconst (z := (-1)) dd_X9_carry_127 ?_
              refine sA_iret (z := -1) dd_X9_carry_128 rfl ?_
              refine ⟨_, rfl, I38, f43, ?_⟩
              have hhit : (cy_hit9 (F 106 0) (2 * (3 * F 106 0 - 1)) (gs_stk (fun i => A 109 (60 * r.toNat + i)) (A 108 r.toNat).toNat) (fun i => A 109 (60 * s.toNat + i)) (A 108 s.toNat)) m.toNat x := by
                rcases y45 with y | y
                · exact hct.mp y.2
                · exfalso
                  omega
              refine ⟨t44, .inr (.inr ⟨by omega, by omega, by omega, by omega, by omega, by omega, by omega, by omega, .inl ⟨m, x, ⟨by omega, by omega, by omega, by rw [← i9]; omega, hhit, i10⟩, ?_⟩⟩)⟩
              have e111 : A33 111 = A19 111 := f39.2 111 (by dsimp only; omega)
              first | exact .inl ⟨by omega, rfl⟩ | exact .inr (.inr ⟨by omega, by omega, rfl⟩) | (refine .inr (.inl ⟨by omega, by omega, ?_⟩); rw [e111]; exact y83b i (by omega) (by omega)) | fail
            · skip
              refine sA_aload_n dd_X9_carry_113 rfl (.tail _ (.tail _ (.tail _ (.head _)))) ?_
              refine sA_getr (ci := 9) (j := 7) (q := (RX9, TX9, 28)) dd_X9_carry_114 rfl (by decide) fl_X9_22 (by decide) gs_s106 rfl ?_
              refine sA_sipush (z := 480) dd_X9_carry_117 (by decide) ?_
              refine sA_iload dd_X9_carry_120 (.tail _ (.tail _ (.tail _ (.tail _ (.tail _ (.tail _ (.tail _ (.head _)))))))) ?_
              refine sA_iadd dd_X9_carry_122 ?_
              refine sA_iald (n := 540) dd_X9_carry_123 (by decide) gs_s111 (by omega) (by decide) ?_
              have b51 : (-2147483648 : Int) ≤ A33 111 (480 + i).toNat ∧ A33 111 (480 + i).toNat ≤ 2147483647 := I38.2 111 (480 + i).toNat
              refine sA_goto (tgt := 128) dd_X9_carry_124 (by decide) ?_
              refine sA_iret (z := A33 111 (480 + i).toNat) dd_X9_carry_128 rfl ?_
              refine ⟨_, rfl, I38, f43, ?_⟩
              have hhit : (cy_hit9 (F 106 0) (2 * (3 * F 106 0 - 1)) (gs_stk (fun i => A 109 (60 * r.toNat + i)) (A 108 r.toNat).toNat) (fun i => A 109 (60 * s.toNat + i)) (A 108 s.toNat)) m.toNat x := by
                rcases y45 with y | y
                · exact hct.mp y.2
                · exfalso
                  omega
              refine ⟨t44, .inr (.inr ⟨by omega, by omega, by omega, by omega, by omega, by omega, by omega, by omega, .inl ⟨m, x, ⟨by omega, by omega, by omega, by rw [← i9]; omega, hhit, i10⟩, ?_⟩⟩)⟩
              have e111 : A33 111 = A19 111 := f39.2 111 (by dsimp only; omega)
              first | exact .inl ⟨by omega, rfl⟩ | exact .inr (.inr ⟨by omega, by omega, rfl⟩) | (refine .inr (.inl ⟨by omega, by omega, ?_⟩); rw [e111]; exact y83b i (by omega) (by omega)) | fail
          · skip
            refine sA_iload dd_X9_carry_101 (.tail _ (.tail _ (.head _))) ?_
            refine sA_goto (tgt := 128) dd_X9_carry_103 (by decide) ?_
            refine sA_iret (z := m) dd_X9_carry_128 rfl ?_
            refine ⟨_, rfl, I38, f43, ?_⟩
            have hhit : (cy_hit9 (F 106 0) (2 * (3 * F 106 0 - 1)) (gs_stk (fun i => A 109 (60 * r.toNat + i)) (A 108 r.toNat).toNat) (fun i => A 109 (60 * s.toNat + i)) (A 108 s.toNat)) m.toNat x := by
              rcases y45 with y | y
              · exact hct.mp y.2
              · exfalso
                omega
            refine ⟨t44, .inr (.inr ⟨by omega, by omega, by omega, by omega, by omega, by omega, by omega, by omega, .inl ⟨m, x, ⟨by omega, by omega, by omega, by rw [← i9]; omega, hhit, i10⟩, ?_⟩⟩)⟩
            have e111 : A33 111 = A19 111 := f39.2 111 (by dsimp only; omega)
            first | exact .inl ⟨by omega, rfl⟩ | exact .inr (.inr ⟨by omega, by omega, rfl⟩) | (refine .inr (.inl ⟨by omega, by omega, ?_⟩); rw [e111]; exact y83b i (by omega) (by omega)) | fail
theorem c_X9_carry_vg {r s n i : Int} {F A : gs_F} (hI : gs_I F A) (hr : -2147483648 ≤ r ∧ r ≤ 2147483647) (hs : -2147483648 ≤ s ∧ s ≤ 2147483647) (hn : -2147483648 ≤ n ∧ n ≤ 2147483647) (hi : -2147483648 ≤ i ∧ i ≤ 2147483647) (hX : ∀ r : Nat, (r : Int) < F 106 3 → 1 ≤ A 108 r) : sC m_X9_carry 7 [.ref 106, gs_iv r, gs_iv s, gs_iv n, gs_iv i] F A (fun rv F' A' => ∃ z : Int, rv = some (gs_iv z) ∧ gs_I F' A' ∧ gs_fr (fun c j => c = 106 ∧ (j = 9 ∨ j = 11 ∨ j = 13 ∨ j = 15)) (fun c => c = 110 ∨ c = 111 ∨ c = 112 ∨ c = 113 ∨ c = 114 ∨ c = 115) F A F' A' ∧ (gs_k8 A A' ∧ (((r < 0 ∨ F 106 3 ≤ r ∨ s < 0 ∨ F 106 3 ≤ s) ∧ z = -1001) ∨ (0 ≤ r ∧ r < F 106 3 ∧ 0 ≤ s ∧ s < F 106 3 ∧ (n < 0 ∨ 3 < n ∨ i < -1 ∨ 2 < i) ∧ z = -1002) ∨ (0 ≤ r ∧ r < F 106 3 ∧ 0 ≤ s ∧ s < F 106 3 ∧ 0 ≤ n ∧ n ≤ 3 ∧ -1 ≤ i ∧ i ≤ 2 ∧ gs_sv (cy_hit9 (F 106 0) (2 * (3 * F 106 0 - 1)) (gs_stk (fun i => A 109 (60 * r.toNat + i)) (A 108 r.toNat).toNat) (fun i => A 109 (60 * s.toNat + i)) (A 108 s.toNat)) (2 * (3 * F 106 0 - 1)) n i z)))) := by
  refine sC_of ok_X9_carry.1 (Nat.le_of_ble_eq_true rfl) ?_
  show sA _ _ _ 0 [(0, .ref 106), (1, gs_iv r), (2, gs_iv s), (3, gs_iv n), (4, gs_iv i)] [] F A
  have hf : gs_fr (fun c j => c = 106 ∧ (j = 9 ∨ j = 11 ∨ j = 13 ∨ j = 15)) (fun c => c = 110 ∨ c = 111 ∨ c = 112 ∨ c = 113 ∨ c = 114 ∨ c = 115) F A F A := gs_fr_refl _ _ _ _
  have b52 : (1 : Int) ≤ F 106 0 ∧ F 106 0 ≤ 3 := hI.1 106 0
  have b53 : (0 : Int) ≤ F 106 3 ∧ F 106 3 ≤ 12 := hI.1 106 3
  have hk8 : gs_k8 A A := gs_k8_fr rfl rfl
  have hb0c : (1 : Int) ≤ F 106 0 ∧ F 106 0 ≤ 3 := hI.1 106 0
  have hpb := sp_pw_bd (B := (2 * (3 * F 106 0 - 1))) (by omega)
  refine sA_aload_n dd_X9_carry_0 rfl (.head _) ?_
  refine sA_iload_n dd_X9_carry_1 rfl (.tail _ (.head _)) ?_
  refine sA_callV (y2 := m_X9_noRing) (n2 := 1) (d2 := 2) (a := 106) (ci := 9) (q := (RX9, TX9, 28)) (as := [gs_iv r]) (rest := []) dd_X9_carry_2 ok_X9_noRing ml_X9_100 rfl rfl (by decide) gs_s106 rfl rfl (Nat.le_of_ble_eq_true rfl) (by decide) (c_X9_noRing hI (by omega)) (fun r54 F55 A56 h57 => ?_)
  obtain ⟨z60, e59, e61, e62, x58⟩ := h57
  subst e59 e61 e62
  show sA _ _ _ 5 _ [gs_iv z60] _ _
  refine sA_if_ne (tgt := 16) dd_X9_carry_5 (by decide) (by omega) (fun q63 => ?_) (fun q63 => ?_)
  · skip
    refine sA_sipush (z := (-1001)) dd_X9_carry_16 (by decide) ?_
    refine sA_iret (z := -1001) dd_X9_carry_19 rfl ?_
    refine ⟨_, rfl, hI, hf, ?_⟩
    exact ⟨hk8, .inl ⟨by omega, rfl⟩⟩
  · skip
    refine sA_aload_n dd_X9_carry_8 rfl (.head _) ?_
    refine sA_iload_n dd_X9_carry_9 rfl (.tail _ (.tail _ (.head _))) ?_
    refine sA_callV (y2 := m_X9_noRing) (n2 := 1) (d2 := 2) (a := 106) (ci := 9) (q := (RX9, TX9, 28)) (as := [gs_iv s]) (rest := []) dd_X9_carry_10 ok_X9_noRing ml_X9_100 rfl rfl (by decide) gs_s106 rfl rfl (Nat.le_of_ble_eq_true rfl) (by decide) (c_X9_noRing hI (by omega)) (fun r64 F65 A66 h67 => ?_)
    obtain ⟨z70, e69, e71, e72, x68⟩ := h67
    subst e69 e71 e72
    show sA _ _ _ 13 _ [gs_iv z70] _ _
    refine sA_if_eq (tgt := 20) dd_X9_carry_13 (by decide) (by omega) (fun q73 => ?_) (fun q73 => ?_)
    · skip
      refine sA_iload_n dd_X9_carry_20 rfl (.tail _ (.tail _ (.tail _ (.head _)))) ?_
      refine sA_i2l dd_X9_carry_21 (by omega) ?_
      refine sA_lconst (z := 0) dd_X9_carry_22 (by decide) ?_
      refine sA_ldc2 (z := 3) dd_X9_carry_23 (ri_lw_in (pl := 872) (by decide +kernel)) ?_
      refine sA_callS (y2 := m_X9_in) (n2 := 3) (d2 := 1) (as := [gs_lv n, gs_lv 0, gs_lv 3]) (rest := []) dd_X9_carry_26 ok_X9_in ml_X9_75 rfl rfl (Nat.le_of_ble_eq_true rfl) (by decide) (c_X9_in (by omega) (by omega) (by omega)) (fun r74 F75 A76 h77 => ?_)
      obtain ⟨z80, e79, e81, e82, x78⟩ := h77
      subst e79 e81 e82
      show sA _ _ _ 29 _ [gs_iv z80] _ _
      refine sA_if_eq (tgt := 47) dd_X9_carry_29 (by decide) (by omega) (fun q83 => ?_) (fun q83 => ?_)
      · skip
        refine sA_sipush (z := (-1002)) dd_X9_carry_47 (by decide) ?_
        refine sA_iret (z := -1002) dd_X9_carry_50 rfl ?_
        refine ⟨_, rfl, hI, hf, ?_⟩
        exact ⟨hk8, .inr (.inl ⟨by omega, by omega, by omega, by omega, by omega, rfl⟩)⟩
      · skip
        refine sA_iload dd_X9_carry_32 (.tail _ (.tail _ (.tail _ (.tail _ (.head _))))) ?_
        refine sA_i2l dd_X9_carry_34 (by omega) ?_
        refine sA_ldc2 (z := -1) dd_X9_carry_35 (ri_lw_in (pl := 1155) (by decide +kernel)) ?_
        refine sA_ldc2 (z := 2) dd_X9_carry_38 (ri_lw_in (pl := 1193) (by decide +kernel)) ?_
        refine sA_callS (y2 := m_X9_in) (n2 := 3) (d2 := 1) (as := [gs_lv i, gs_lv (-1), gs_lv 2]) (rest := []) dd_X9_carry_41 ok_X9_in ml_X9_75 rfl rfl (Nat.le_of_ble_eq_true rfl) (by decide) (c_X9_in (by omega) (by omega) (by omega)) (fun r84 F85 A86 h87 => ?_)
        obtain ⟨z90, e89, e91, e92, x88⟩ := h87
        subst e89 e91 e92
        show sA _ _ _ 44 _ [gs_iv z90] _ _
        refine sA_if_ne (tgt := 51) dd_X9_carry_44 (by decide) (by omega) (fun q93 => ?_) (fun q93 => ?_)
        · skip
          refine sA_iconst (z := 0) dd_X9_carry_51 ?_
          refine sA_istore (lv' := [(5, gs_iv 0), (0, .ref 106), (1, gs_iv r), (2, gs_iv s), (3, gs_iv n), (4, gs_iv i)]) dd_X9_carry_52 (by decide) rfl ?_
          refine sA_sub (lv2 := [(5, gs_iv 0), (0, .ref 106), (1, gs_iv r), (2, gs_iv s), (3, gs_iv n), (4, gs_iv i)]) (List.forall_mem_cons.mpr ⟨(.head _), (List.forall_mem_cons.mpr ⟨(.tail _ (.head _)), (List.forall_mem_cons.mpr ⟨(.tail _ (.tail _ (.head _))), (List.forall_mem_cons.mpr ⟨(.tail _ (.tail _ (.tail _ (.head _)))), (List.forall_mem_cons.mpr ⟨(.tail _ (.tail _ (.tail _ (.tail _ (.head _))))), (List.forall_mem_cons.mpr ⟨(.tail _ (.tail _ (.tail _ (.tail _ (.tail _ (.head _)))))), (fun _ h => absurd h List.not_mem_nil)⟩)⟩)⟩)⟩)⟩)⟩) ?_
          exact (k_X9_carry_vg hI hr hs hn hi hX ((4 - 0) * 4294967296 + 1 : Int).toNat.succ).1 0 F A hI hf (by omega) (by omega) (by omega) (by omega) (by omega) hk8 (by omega) gs_bef_0 (by omega)
        · skip
          refine sA_sipush (z := (-1002)) dd_X9_carry_47 (by decide) ?_
          refine sA_iret (z := -1002) dd_X9_carry_50 rfl ?_
          refine ⟨_, rfl, hI, hf, ?_⟩
          exact ⟨hk8, .inr (.inl ⟨by omega, by omega, by omega, by omega, by omega, rfl⟩)⟩
    · skip
      refine sA_sipush (z := (-1001)) dd_X9_carry_16 (by decide) ?_
      refine sA_iret (z := -1001) dd_X9_carry_19 rfl ?_
      refine ⟨_, rfl, hI, hf, ?_⟩
      exact ⟨hk8, .inl ⟨by omega, rfl⟩⟩
end
