noncomputable section
/-! ===== fewest: the reference ===== -/
theorem gs_u_off {f f2 : Nat → Int} {k v : Int} (hk : 0 ≤ k) (e : f2 = gs_u f (480 + k).toNat v) : (fun j => f2 (480 + j)) = gs_u (fun j => f (480 + j)) k.toNat v := by
  funext j
  show f2 (480 + j) = _
  rw [e]
  by_cases q : j = k.toNat
  · rw [q, gs_u_self, show 480 + k.toNat = (480 + k).toNat by omega, gs_u_self]
  · rw [gs_u_ne _ _ (by omega), gs_u_ne _ _ q]
theorem gs_cdn {A : gs_F} {B n x : Int} (hB : 1 ≤ B ∧ B ≤ 16) (e : A 110 8 = n) (h : ∀ j : Int, 0 ≤ j → j < n → A 111 (480 + j).toNat = sp_nm B n.toNat x j.toNat) : ∀ i : Int, 0 ≤ i → i < A 110 (8 : Int).toNat → 0 ≤ A 111 (60 * (8 : Int) + i).toNat ∧ A 111 (60 * (8 : Int) + i).toNat ≤ 15 := by
  intro i h1 h2
  rw [show (8 : Int).toNat = 8 from rfl, e] at h2
  rw [show 60 * (8 : Int) + i = 480 + i by omega, h i h1 h2]
  have w := sp_nm_rng (B := B) (by omega) n.toNat x i.toNat
  omega
theorem gs_dl_hit {F A : gs_F} {g B : Int} {im : Nat → List Int} {k : Nat} {r : Int} (hg : F 106 0 = g) (him : ∀ ii : Nat, gs_im A ii = im ii) (hP : ∀ w, gs_plm F A 8 w = sp_np g B k r w) : gs_dl F A ↔ gs_hit g B im k r := by
  unfold gs_dl gs_hit
  rw [hg]
  constructor
  · intro h ii hi
    rw [← hP, ← him ii]
    exact h ii hi
  · intro h ii hi
    rw [hP, him ii]
    exact h ii hi
theorem k_X9_power_vf {n : Int} {F A : gs_F} (hI : gs_I F A) (hn : 0 ≤ n ∧ n ≤ 3) : ∀ nN : Nat, (∀ (v : Int) (k : Int),  -2147483648 ≤ v ∧ v ≤ 2147483647 → 0 ≤ k ∧ k ≤ 3 → k ≤ n → v = sp_pw (2 * (3 * F 106 0 - 1)) k.toNat → 3 - k < (nN : Int) → sA m_X9_power 2 (fun rv F' A' => ∃ z : Int, rv = some (gs_iv z) ∧ F = F' ∧ A = A' ∧ (z = sp_pw (2 * (3 * F 106 0 - 1)) n.toNat ∧ 1 ≤ z ∧ z ≤ 65536)) 4 [(3, gs_iv k), (2, gs_iv v), (0, .ref 106), (1, gs_iv n)] [] F A) := by
  intro nN
  induction nN with
  | zero =>
    exact fun a0 a1 i0 i1 i2 i3 hm => by exfalso; omega
  | succ nN ih =>
    intro v k i0 i1 i2 i3 hm
    have hb0 : (1 : Int) ≤ F 106 0 ∧ F 106 0 ≤ 3 := hI.1 106 0
    have hpb := sp_pw_bd (B := (2 * (3 * F 106 0 - 1))) (by omega)
    refine sA_iload_n dd_X9_power_4 rfl (.head _) ?_
    refine sA_iload_n dd_X9_power_5 rfl (.tail _ (.tail _ (.tail _ (.head _)))) ?_
    refine sA_icmp_ge (tgt := 24) dd_X9_power_6 (by decide) (by omega) (by omega) (fun q1 => ?_) (fun q1 => ?_)
    · skip
      have hpe := hpb k.toNat (by omega)
      refine sA_iload_n dd_X9_power_24 rfl (.tail _ (.head _)) ?_
      refine sA_iret (z := v) dd_X9_power_25 rfl ?_
      refine ⟨_, rfl, rfl, rfl, ?_⟩
      refine ⟨?_, by omega, by omega⟩
      rw [show n = k by omega]
      exact i3
    · skip
      refine sA_iload_n dd_X9_power_9 rfl (.tail _ (.head _)) ?_
      refine sA_iconst (z := 2) dd_X9_power_10 ?_
      refine sA_aload_n dd_X9_power_11 rfl (.tail _ (.tail _ (.head _))) ?_
      refine sA_callV (y2 := m_X9_twists) (n2 := 0) (d2 := 1) (a := 106) (ci := 9) (q := (RX9, TX9, 28)) (as := []) (rest := [gs_iv 2, gs_iv v]) dd_X9_power_12 ok_X9_twists ml_X9_289 rfl rfl (by decide) gs_s106 rfl rfl (Nat.le_of_ble_eq_true rfl) (by decide) (c_X9_twists hI ) (fun r2 F3 A4 h5 => ?_)
      obtain ⟨z8, e7, e9, e10, x6⟩ := h5
      subst e7 e9 e10
      show sA _ _ _ 15 _ [gs_iv z8, gs_iv 2, gs_iv v] _ _
      refine sA_imul dd_X9_power_15 ?_
      have hpw : v * (2 * z8) = sp_pw (2 * (3 * F 106 0 - 1)) (k.toNat + 1) := by
        show _ = sp_pw (2 * (3 * F 106 0 - 1)) k.toNat * (2 * (3 * F 106 0 - 1))
        rw [← i3, show z8 = 3 * F 106 0 - 1 by omega]
      have hpk := hpb (k.toNat + 1) (by omega)
      refine sA_imul dd_X9_power_16 ?_
      refine sA_istore_n (lv' := [(2, gs_iv (v * (2 * z8))), (3, gs_iv k), (0, .ref 106), (1, gs_iv n)]) dd_X9_power_17 rfl (by decide) rfl ?_
      refine sA_iinc (lv' := [(3, gs_iv (k + 1)), (2, gs_iv (v * (2 * z8))), (0, .ref 106), (1, gs_iv n)]) dd_X9_power_18 (.tail _ (.head _)) (by decide) rfl ?_
      refine sA_goto (tgt := 4) dd_X9_power_21 (by decide) ?_
      refine sA_sub (lv2 := [(3, gs_iv (k + 1)), (2, gs_iv (v * (2 * z8))), (0, .ref 106), (1, gs_iv n)]) (List.forall_mem_cons.mpr ⟨(.head _), (List.forall_mem_cons.mpr ⟨(.tail _ (.head _)), (List.forall_mem_cons.mpr ⟨(.tail _ (.tail _ (.head _))), (List.forall_mem_cons.mpr ⟨(.tail _ (.tail _ (.tail _ (.head _)))), (fun _ h => absurd h List.not_mem_nil)⟩)⟩)⟩)⟩) ?_
      exact ih (v * (2 * z8)) (k + 1)  (by omega) (by omega) (by omega) (by rw [show (k + 1).toNat = k.toNat + 1 by omega]; exact hpw) (by omega)
theorem c_X9_power_vf {n : Int} {F A : gs_F} (hI : gs_I F A) (hn : 0 ≤ n ∧ n ≤ 3) : sC m_X9_power 2 [.ref 106, gs_iv n] F A (fun rv F' A' => ∃ z : Int, rv = some (gs_iv z) ∧ F = F' ∧ A = A' ∧ (z = sp_pw (2 * (3 * F 106 0 - 1)) n.toNat ∧ 1 ≤ z ∧ z ≤ 65536)) := by
  refine sC_of ok_X9_power.1 (Nat.le_of_ble_eq_true rfl) ?_
  show sA _ _ _ 0 [(0, .ref 106), (1, gs_iv n)] [] F A
  have hb0 : (1 : Int) ≤ F 106 0 ∧ F 106 0 ≤ 3 := hI.1 106 0
  have hpb := sp_pw_bd (B := (2 * (3 * F 106 0 - 1))) (by omega)
  refine sA_iconst (z := 1) dd_X9_power_0 ?_
  refine sA_istore_n (lv' := [(2, gs_iv 1), (0, .ref 106), (1, gs_iv n)]) dd_X9_power_1 rfl (by decide) rfl ?_
  refine sA_iconst (z := 0) dd_X9_power_2 ?_
  refine sA_istore_n (lv' := [(3, gs_iv 0), (2, gs_iv 1), (0, .ref 106), (1, gs_iv n)]) dd_X9_power_3 rfl (by decide) rfl ?_
  refine sA_sub (lv2 := [(3, gs_iv 0), (2, gs_iv 1), (0, .ref 106), (1, gs_iv n)]) (List.forall_mem_cons.mpr ⟨(.head _), (List.forall_mem_cons.mpr ⟨(.tail _ (.head _)), (List.forall_mem_cons.mpr ⟨(.tail _ (.tail _ (.head _))), (List.forall_mem_cons.mpr ⟨(.tail _ (.tail _ (.tail _ (.head _)))), (fun _ h => absurd h List.not_mem_nil)⟩)⟩)⟩)⟩) ?_
  exact (k_X9_power_vf hI hn (3 - 0 : Int).toNat.succ) 1 0  (by omega) (by omega) (by omega) (by rfl) (by omega)
theorem k_X9_numberPlan_vg {n x : Int} {F A : gs_F} (hI : gs_I F A) (hn : 0 ≤ n ∧ n ≤ 3) (hx : -2147483648 ≤ x ∧ x ≤ 2147483647) (hx1 : 0 ≤ x) : ∀ nN : Nat, (∀ (l : Int) (k : Int)  (F1 A1 : gs_F), gs_I F1 A1 → gs_fr (fun _ _ => False) (fun c => c = 110 ∨ c = 111) F A F1 A1 → -2147483648 ≤ l ∧ l ≤ 2147483647 → -1 ≤ k ∧ k ≤ 2 → gs_k8 A A1 → 0 ≤ l ∧ k < n ∧ F1 106 0 = F 106 0 → A1 110 8 = n → (∀ j : Int, 0 ≤ j → j < n → k < j → A1 111 (480 + j.toNat) = sp_nm (2 * (3 * F 106 0 - 1)) n.toNat x j.toNat) → (∀ j : Nat, (j : Int) ≤ k → sp_nm (2 * (3 * F 106 0 - 1)) (k + 1).toNat l j = sp_nm (2 * (3 * F 106 0 - 1)) n.toNat x j) → k + 1 < (nN : Int) → sA m_X9_numberPlan 2 (fun rv F' A' => rv = none ∧ gs_I F' A' ∧ gs_fr (fun _ _ => False) (fun c => c = 110 ∨ c = 111) F A F' A' ∧ (gs_k8 A A' ∧ A' 110 8 = n ∧ ∀ j : Int, 0 ≤ j → j < n → A' 111 (480 + j).toNat = sp_nm (2 * (3 * F 106 0 - 1)) n.toNat x j.toNat)) 15 [(4, gs_iv k), (3, gs_iv l), (0, .ref 106)] [] F1 A1) := by
  intro nN
  induction nN with
  | zero =>
    exact fun a0 a1 a2 a3 a4 a5 i0 i1 i2 i3 i4 i5 i6 hm => by exfalso; omega
  | succ nN ih =>
    intro l k F1 A1 hI1 hf1 i0 i1 i2 i3 i4 i5 i6 hm
    have u1 : A1 110 = A1 110 := rfl
    have u2 : A1 111 = A1 111 := rfl
    have hb0 : (1 : Int) ≤ F1 106 0 ∧ F1 106 0 ≤ 3 := hI1.1 106 0
    refine sA_iload dd_X9_numberPlan_15 (.head _) ?_
    refine sA_if_lt (tgt := 54) dd_X9_numberPlan_17 (by decide) (by omega) (fun q3 => ?_) (fun q3 => ?_)
    · skip
      refine sA_vret dd_X9_numberPlan_54 rfl ?_
      refine ⟨rfl, hI1, hf1, ?_⟩
      refine ⟨i2, i4, fun j h1 h2 => ?_⟩
      have w := i5 j h1 h2 (by omega)
      rw [show (480 + j).toNat = 480 + j.toNat by omega]
      exact w
    · skip
      refine sA_aload_n dd_X9_numberPlan_20 rfl (.tail _ (.tail _ (.head _))) ?_
      refine sA_getr (ci := 9) (j := 7) (q := (RX9, TX9, 28)) dd_X9_numberPlan_21 rfl (by decide) fl_X9_22 (by decide) gs_s106 rfl ?_
      refine sA_sipush (z := 480) dd_X9_numberPlan_24 (by decide) ?_
      refine sA_iload dd_X9_numberPlan_27 (.head _) ?_
      refine sA_iadd dd_X9_numberPlan_29 ?_
      refine sA_iload_n dd_X9_numberPlan_30 rfl (.tail _ (.head _)) ?_
      refine sA_iconst (z := 2) dd_X9_numberPlan_31 ?_
      refine sA_aload_n dd_X9_numberPlan_32 rfl (.tail _ (.tail _ (.head _))) ?_
      refine sA_callV (y2 := m_X9_twists) (n2 := 0) (d2 := 1) (a := 106) (ci := 9) (q := (RX9, TX9, 28)) (as := []) (rest := [gs_iv 2, gs_iv l, gs_iv (480 + k), .ref 111]) dd_X9_numberPlan_33 ok_X9_twists ml_X9_289 rfl rfl (by decide) gs_s106 rfl rfl (Nat.le_of_ble_eq_true rfl) (by decide) (c_X9_twists hI1 ) (fun r4 F5 A6 h7 => ?_)
      obtain ⟨z10, e9, e11, e12, x8⟩ := h7
      subst e9 e11 e12
      show sA _ _ _ 36 _ [gs_iv z10, gs_iv 2, gs_iv l, gs_iv (480 + k), .ref 111] _ _
      refine sA_imul dd_X9_numberPlan_36 ?_
      have hm133 := Int.emod_nonneg l (show 2 * z10 ≠ 0 by omega)
      have hm233 := Int.emod_lt_of_pos l (show 0 < 2 * z10 by omega)
      refine sA_iremN dd_X9_numberPlan_37 (by omega) (by omega) (by omega) ?_
      refine sA_iast (n := 540) dd_X9_numberPlan_38 (by decide) gs_s111 (by omega) (by decide) ?_
      have I14 : gs_I F1 (gs_up A1 111 ((480 + k).toNat) (l % (2 * z10))) := gs_I_ast hI1 (show (-2147483648 : Int) ≤ l % (2 * z10) ∧ l % (2 * z10) ≤ 2147483647 by omega)
      have f15 := gs_fr_ast hf1 (a := 111) (z := l % (2 * z10)) (i := (480 + k).toNat) (by first | omega | (dsimp only; omega) | (dsimp only) | fail)
      have u16 : (gs_up A1 111 ((480 + k).toNat) (l % (2 * z10))) 110 = A1 110 := (gs_up_row _ _ (by omega)).trans u1
      have u17 : (gs_up A1 111 ((480 + k).toNat) (l % (2 * z10))) 111 = gs_u (A1 111) ((480 + k).toNat) (l % (2 * z10)) := (gs_up_u A1 111 ((480 + k).toNat) (l % (2 * z10))).trans (congrArg (fun f => gs_u f ((480 + k).toNat) (l % (2 * z10))) u2)
      generalize gs_up A1 111 ((480 + k).toNat) (l % (2 * z10)) = A13 at I14 f15 u16 u17 ⊢
      refine sA_iload_n dd_X9_numberPlan_39 rfl (.tail _ (.head _)) ?_
      refine sA_iconst (z := 2) dd_X9_numberPlan_40 ?_
      refine sA_aload_n dd_X9_numberPlan_41 rfl (.tail _ (.tail _ (.head _))) ?_
      refine sA_callV (y2 := m_X9_twists) (n2 := 0) (d2 := 1) (a := 106) (ci := 9) (q := (RX9, TX9, 28)) (as := []) (rest := [gs_iv 2, gs_iv l]) dd_X9_numberPlan_42 ok_X9_twists ml_X9_289 rfl rfl (by decide) gs_s106 rfl rfl (Nat.le_of_ble_eq_true rfl) (by decide) (c_X9_twists I14 ) (fun r18 F19 A20 h21 => ?_)
      obtain ⟨z24, e23, e25, e26, x22⟩ := h21
      subst e23 e25 e26
      show sA _ _ _ 45 _ [gs_iv z24, gs_iv 2, gs_iv l] _ _
      refine sA_imul dd_X9_numberPlan_45 ?_
      have hd142 : 0 ≤ l / (2 * z24) := Int.ediv_nonneg (by omega) (by omega)
      have hd242 : l / (2 * z24) ≤ l := Int.ediv_le_self _ (by omega)
      refine sA_idivN dd_X9_numberPlan_46 (by omega) (by omega) (by omega) ?_
      refine sA_istore_n (lv' := [(3, gs_iv (l / (2 * z24))), (4, gs_iv k), (0, .ref 106)]) dd_X9_numberPlan_47 rfl (by decide) rfl ?_
      refine sA_iinc (lv' := [(4, gs_iv (k + (-1))), (3, gs_iv (l / (2 * z24))), (0, .ref 106)]) dd_X9_numberPlan_48 (.tail _ (.head _)) (by decide) rfl ?_
      refine sA_goto (tgt := 15) dd_X9_numberPlan_51 (by decide) ?_
      refine sA_sub (lv2 := [(4, gs_iv (k + (-1))), (3, gs_iv (l / (2 * z24))), (0, .ref 106)]) (List.forall_mem_cons.mpr ⟨(.head _), (List.forall_mem_cons.mpr ⟨(.tail _ (.head _)), (List.forall_mem_cons.mpr ⟨(.tail _ (.tail _ (.head _))), (fun _ h => absurd h List.not_mem_nil)⟩)⟩)⟩) ?_
      exact ih (l / (2 * z24)) (k + (-1)) F1 A13 I14 f15 (by omega) (by omega) (by first | (refine gs_k8_tr (B := A1) i2 ⟨fun i hi => ?_, fun i hi => ?_⟩ <;> first | (rw [u16]) | (rw [u17, gs_u_ne _ _ (by omega)]) | fail) | (refine ⟨fun i hi => ?_, fun i hi => ?_⟩ <;> first | (rw [u16, gs_u_ne _ _ (by omega)]) | (rw [u17]) | fail) | fail) (by omega) (by rw [u16]; exact i4) (gs_sp_ext (f := fun j => A1 111 (480 + j)) (f2 := fun j => A13 111 (480 + j)) (by omega) (show 2 * z10 = (2 * (3 * F 106 0 - 1)) by omega) (gs_u_off (by omega) u17) i5 i6).1 (by rw [show z24 = z10 by omega]; exact (gs_sp_ext (f := fun j => A1 111 (480 + j)) (f2 := fun j => A13 111 (480 + j)) (by omega) (show 2 * z10 = (2 * (3 * F 106 0 - 1)) by omega) (gs_u_off (by omega) u17) i5 i6).2) (by omega)
theorem c_X9_numberPlan_vg {n x : Int} {F A : gs_F} (hI : gs_I F A) (hn : 0 ≤ n ∧ n ≤ 3) (hx : -2147483648 ≤ x ∧ x ≤ 2147483647) (hx1 : 0 ≤ x) : sC m_X9_numberPlan 2 [.ref 106, gs_iv n, gs_iv x] F A (fun rv F' A' => rv = none ∧ gs_I F' A' ∧ gs_fr (fun _ _ => False) (fun c => c = 110 ∨ c = 111) F A F' A' ∧ (gs_k8 A A' ∧ A' 110 8 = n ∧ ∀ j : Int, 0 ≤ j → j < n → A' 111 (480 + j).toNat = sp_nm (2 * (3 * F 106 0 - 1)) n.toNat x j.toNat)) := by
  refine sC_of ok_X9_numberPlan.1 (Nat.le_of_ble_eq_true rfl) ?_
  show sA _ _ _ 0 [(0, .ref 106), (1, gs_iv n), (2, gs_iv x)] [] F A
  have hf : gs_fr (fun _ _ => False) (fun c => c = 110 ∨ c = 111) F A F A := gs_fr_refl _ _ _ _
  have u27 : A 110 = A 110 := rfl
  have u28 : A 111 = A 111 := rfl
  have hk8 : gs_k8 A A := gs_k8_fr rfl rfl
  refine sA_aload_n dd_X9_numberPlan_0 rfl (.head _) ?_
  refine sA_getr (ci := 9) (j := 6) (q := (RX9, TX9, 28)) dd_X9_numberPlan_1 rfl (by decide) fl_X9_19 (by decide) gs_s106 rfl ?_
  refine sA_bipush (z := 8) dd_X9_numberPlan_4 (by decide) ?_
  refine sA_iload_n dd_X9_numberPlan_6 rfl (.tail _ (.head _)) ?_
  refine sA_iast (n := 9) dd_X9_numberPlan_7 (by decide) gs_s110 (by omega) (by decide) ?_
  have I30 : gs_I F (gs_up A 110 ((8 : Int).toNat) n) := gs_I_ast hI (show (0 : Int) ≤ n ∧ n ≤ 60 by omega)
  have f31 := gs_fr_ast hf (a := 110) (z := n) (i := (8 : Int).toNat) (by first | omega | (dsimp only; omega) | (dsimp only) | fail)
  have u32 : (gs_up A 110 ((8 : Int).toNat) n) 110 = gs_u (A 110) ((8 : Int).toNat) n := (gs_up_u A 110 ((8 : Int).toNat) n).trans (congrArg (fun f => gs_u f ((8 : Int).toNat) n) u27)
  have u33 : (gs_up A 110 ((8 : Int).toNat) n) 111 = A 111 := (gs_up_row _ _ (by omega)).trans u28
  generalize gs_up A 110 ((8 : Int).toNat) n = A29 at I30 f31 u32 u33 ⊢
  refine sA_iload_n dd_X9_numberPlan_8 rfl (.tail _ (.tail _ (.head _))) ?_
  refine sA_istore_n (lv' := [(3, gs_iv x), (0, .ref 106), (1, gs_iv n), (2, gs_iv x)]) dd_X9_numberPlan_9 rfl (by decide) rfl ?_
  refine sA_iload_n dd_X9_numberPlan_10 rfl (.tail _ (.tail _ (.head _))) ?_
  refine sA_iconst (z := 1) dd_X9_numberPlan_11 ?_
  refine sA_isub dd_X9_numberPlan_12 ?_
  refine sA_istore (lv' := [(4, gs_iv (n - 1)), (3, gs_iv x), (0, .ref 106), (1, gs_iv n), (2, gs_iv x)]) dd_X9_numberPlan_13 (by decide) rfl ?_
  refine sA_sub (lv2 := [(4, gs_iv (n - 1)), (3, gs_iv x), (0, .ref 106)]) (List.forall_mem_cons.mpr ⟨(.head _), (List.forall_mem_cons.mpr ⟨(.tail _ (.head _)), (List.forall_mem_cons.mpr ⟨(.tail _ (.tail _ (.head _))), (fun _ h => absurd h List.not_mem_nil)⟩)⟩)⟩) ?_
  exact (k_X9_numberPlan_vg hI hn hx hx1 ((n - 1) + 1 : Int).toNat.succ) x (n - 1) F A29 I30 f31 (by omega) (by omega) (by first | (refine gs_k8_tr (B := A1) i2 ⟨fun i hi => ?_, fun i hi => ?_⟩ <;> first | (rw [u32]) | (rw [u33, gs_u_ne _ _ (by omega)]) | fail) | (refine ⟨fun i hi => ?_, fun i hi => ?_⟩ <;> first | (rw [u32, gs_u_ne _ _ (by omega)]) | (rw [u33]) | fail) | fail) (by omega) (by rw [u32]; exact gs_u_self _ _ _) (fun j h1 h2 h3 => by exfalso; omega) (fun j hj => by rw [show (n - 1 + 1).toNat = n.toNat by omega]) (by omega)
theorem k_X9_fewest_vg {p n i : Int} {F A : gs_F} (hI : gs_I F A) (hp : -2147483648 ≤ p ∧ p ≤ 2147483647) (hn : -2147483648 ≤ n ∧ n ≤ 2147483647) (hi : -2147483648 ≤ i ∧ i ≤ 2147483647) (hcd : 0 ≤ p → p ≤ 7 → ∀ i : Int, 0 ≤ i → i < A 110 p.toNat → 0 ≤ A 111 (60 * p + i).toNat ∧ A 111 (60 * p + i).toNat ≤ 15) : ∀ nN : Nat, (∀ (m : Int)  (F1 A1 : gs_F), gs_I F1 A1 → gs_fr (fun c j => c = 106 ∧ (j = 13 ∨ j = 15)) (fun c => c = 110 ∨ c = 111 ∨ c = 114 ∨ c = 115 ∨ c = 119 ∨ c = 120) F A F1 A1 → 0 ≤ n ∧ n ≤ 3 → -1 ≤ i ∧ i ≤ 2 → 0 ≤ m ∧ m ≤ n + 1 → gs_k8 A A1 → 0 ≤ p ∧ p ≤ 7 ∧ F1 106 0 = F 106 0 → (∀ ii : Nat, (ii : Int) < 2 * F 106 0 → gs_plm F A p [(ii : Int) + 1] = some (gs_im A1 ii)) → gs_bef (gs_hit (F 106 0) (2 * (3 * F 106 0 - 1)) (gs_im A1)) (2 * (3 * F 106 0 - 1)) m 0 → (4 - m) * 4294967296 + 1 < (nN : Int) → sA m_X9_fewest 8 (fun rv F' A' => ∃ z : Int, rv = some (gs_iv z) ∧ gs_I F' A' ∧ gs_fr (fun c j => c = 106 ∧ (j = 13 ∨ j = 15)) (fun c => c = 110 ∨ c = 111 ∨ c = 114 ∨ c = 115 ∨ c = 119 ∨ c = 120) F A F' A' ∧ (gs_k8 A A' ∧ (((p < 0 ∨ 7 < p) ∧ z = -1001) ∨ (0 ≤ p ∧ p ≤ 7 ∧ (n < 0 ∨ 3 < n ∨ i < -1 ∨ 2 < i) ∧ z = -1002) ∨ (0 ≤ p ∧ p ≤ 7 ∧ 0 ≤ n ∧ n ≤ 3 ∧ -1 ≤ i ∧ i ≤ 2 ∧ gs_fw (gs_plm F A p) (F 106 0) (2 * (3 * F 106 0 - 1)) n i z)))) 57 [(4, gs_iv m), (0, .ref 106), (2, gs_iv n), (3, gs_iv i)] [] F1 A1) ∧ (∀ (m : Int) (l : Int) (x : Int)  (F1 A1 : gs_F), gs_I F1 A1 → gs_fr (fun c j => c = 106 ∧ (j = 13 ∨ j = 15)) (fun c => c = 110 ∨ c = 111 ∨ c = 114 ∨ c = 115 ∨ c = 119 ∨ c = 120) F A F1 A1 → 0 ≤ n ∧ n ≤ 3 → -1 ≤ i ∧ i ≤ 2 → 0 ≤ m ∧ m ≤ n → -2147483648 ≤ l ∧ l ≤ 2147483647 → 0 ≤ x ∧ x ≤ 2147483647 → gs_k8 A A1 → 0 ≤ p ∧ p ≤ 7 ∧ F1 106 0 = F 106 0 → l = sp_pw (2 * (3 * F 106 0 - 1)) m.toNat → (∀ ii : Nat, (ii : Int) < 2 * F 106 0 → gs_plm F A p [(ii : Int) + 1] = some (gs_im A1 ii)) → gs_bef (gs_hit (F 106 0) (2 * (3 * F 106 0 - 1)) (gs_im A1)) (2 * (3 * F 106 0 - 1)) m x → (4 - m) * 4294967296 - x < (nN : Int) → sA m_X9_fewest 8 (fun rv F' A' => ∃ z : Int, rv = some (gs_iv z) ∧ gs_I F' A' ∧ gs_fr (fun c j => c = 106 ∧ (j = 13 ∨ j = 15)) (fun c => c = 110 ∨ c = 111 ∨ c = 114 ∨ c = 115 ∨ c = 119 ∨ c = 120) F A F' A' ∧ (gs_k8 A A' ∧ (((p < 0 ∨ 7 < p) ∧ z = -1001) ∨ (0 ≤ p ∧ p ≤ 7 ∧ (n < 0 ∨ 3 < n ∨ i < -1 ∨ 2 < i) ∧ z = -1002) ∨ (0 ≤ p ∧ p ≤ 7 ∧ 0 ≤ n ∧ n ≤ 3 ∧ -1 ≤ i ∧ i ≤ 2 ∧ gs_fw (gs_plm F A p) (F 106 0) (2 * (3 * F 106 0 - 1)) n i z)))) 74 [(6, gs_iv x), (5, gs_iv l), (4, gs_iv m), (0, .ref 106), (2, gs_iv n), (3, gs_iv i)] [] F1 A1) := by
  intro nN
  induction nN with
  | zero =>
    exact ⟨fun a0 a1 a2 a3 a4 i0 i1 i2 i3 i4 i5 i6 hm => by exfalso; omega, fun a0 a1 a2 a3 a4 a5 a6 i0 i1 i2 i3 i4 i5 i6 i7 i8 i9 hm => by exfalso; omega⟩
  | succ nN ih =>
    refine ⟨?_, ?_⟩
    · skip
      intro m F1 A1 hI1 hf1 i0 i1 i2 i3 i4 i5 i6 hm
      have b1 : (1 : Int) ≤ F1 106 0 ∧ F1 106 0 ≤ 3 := hI1.1 106 0
      have hb0 : (1 : Int) ≤ F 106 0 ∧ F 106 0 ≤ 3 := hI.1 106 0
      have hpb := sp_pw_bd (B := (2 * (3 * F 106 0 - 1))) (by omega)
      refine sA_iload dd_X9_fewest_57 (.head _) ?_
      refine sA_iload_n dd_X9_fewest_59 rfl (.tail _ (.tail _ (.head _))) ?_
      refine sA_icmp_gt (tgt := 139) dd_X9_fewest_60 (by decide) (by omega) (by omega) (fun q2 => ?_) (fun q2 => ?_)
      · skip
        refine sA_iconst (z := (-1)) dd_X9_fewest_139 ?_
        refine sA_iret (z := -1) dd_X9_fewest_140 rfl ?_
        refine ⟨_, rfl, hI1, hf1, ?_⟩
        refine ⟨i3, .inr (.inr ⟨by omega, by omega, by omega, by omega, by omega, by omega, .inr ⟨gs_im A1, i5, .inr ⟨?_, rfl⟩⟩⟩)⟩
        rw [show n + 1 = m by omega]
        exact i6
      · skip
        refine sA_aload_n dd_X9_fewest_63 rfl (.tail _ (.head _)) ?_
        refine sA_iload dd_X9_fewest_64 (.head _) ?_
        refine sA_callV (y2 := m_X9_power) (n2 := 1) (d2 := 2) (a := 106) (ci := 9) (q := (RX9, TX9, 28)) (as := [gs_iv m]) (rest := []) dd_X9_fewest_66 ok_X9_power ml_X9_301 rfl rfl (by decide) gs_s106 rfl rfl (Nat.le_of_ble_eq_true rfl) (by decide) (c_X9_power_vf hI1 (by omega)) (fun r3 F4 A5 h6 => ?_)
        obtain ⟨z9, e8, e10, e11, x7⟩ := h6
        subst e8 e10 e11
        have y12 : z9 = sp_pw (2 * (3 * F1 106 0 - 1)) m.toNat ∧ 1 ≤ z9 ∧ z9 ≤ 65536 := x7
        clear x7
        show sA _ _ _ 69 _ [gs_iv z9] _ _
        have y66 := y12
        rw [show F1 106 0 = F 106 0 by omega] at y66
        refine sA_istore (lv' := [(5, gs_iv z9), (4, gs_iv m), (0, .ref 106), (2, gs_iv n), (3, gs_iv i)]) dd_X9_fewest_69 (by decide) rfl ?_
        refine sA_iconst (z := 0) dd_X9_fewest_71 ?_
        refine sA_istore (lv' := [(6, gs_iv 0), (5, gs_iv z9), (4, gs_iv m), (0, .ref 106), (2, gs_iv n), (3, gs_iv i)]) dd_X9_fewest_72 (by decide) rfl ?_
        refine sA_sub (lv2 := [(6, gs_iv 0), (5, gs_iv z9), (4, gs_iv m), (0, .ref 106), (2, gs_iv n), (3, gs_iv i)]) (List.forall_mem_cons.mpr ⟨(.head _), (List.forall_mem_cons.mpr ⟨(.tail _ (.head _)), (List.forall_mem_cons.mpr ⟨(.tail _ (.tail _ (.head _))), (List.forall_mem_cons.mpr ⟨(.tail _ (.tail _ (.tail _ (.head _)))), (List.forall_mem_cons.mpr ⟨(.tail _ (.tail _ (.tail _ (.tail _ (.head _))))), (List.forall_mem_cons.mpr ⟨(.tail _ (.tail _ (.tail _ (.tail _ (.tail _ (.head _)))))), (fun _ h => absurd h List.not_mem_nil)⟩)⟩)⟩)⟩)⟩)⟩) ?_
        exact ih.2 m z9 0 F1 A1 hI1 hf1 (by omega) (by omega) (by omega) (by omega) (by omega) i3 (by omega) y66.1 i5 i6 (by omega)
    · skip
      intro m l x F1 A1 hI1 hf1 i0 i1 i2 i3 i4 i5 i6 i7 i8 i9 hm
      have b13 : (1 : Int) ≤ F1 106 0 ∧ F1 106 0 ≤ 3 := hI1.1 106 0
      have hb0 : (1 : Int) ≤ F 106 0 ∧ F 106 0 ≤ 3 := hI.1 106 0
      have hpb := sp_pw_bd (B := (2 * (3 * F 106 0 - 1))) (by omega)
      refine sA_iload dd_X9_fewest_74 (.head _) ?_
      refine sA_iload dd_X9_fewest_76 (.tail _ (.head _)) ?_
      refine sA_icmp_ge (tgt := 133) dd_X9_fewest_78 (by decide) (by omega) (by omega) (fun q14 => ?_) (fun q14 => ?_)
      · skip
        refine sA_iinc (lv' := [(4, gs_iv (m + 1)), (6, gs_iv x), (5, gs_iv l), (0, .ref 106), (2, gs_iv n), (3, gs_iv i)]) dd_X9_fewest_133 (.tail _ (.tail _ (.head _))) (by decide) rfl ?_
        refine sA_goto (tgt := 57) dd_X9_fewest_136 (by decide) ?_
        refine sA_sub (lv2 := [(4, gs_iv (m + 1)), (0, .ref 106), (2, gs_iv n), (3, gs_iv i)]) (List.forall_mem_cons.mpr ⟨(.head _), (List.forall_mem_cons.mpr ⟨(.tail _ (.tail _ (.tail _ (.head _)))), (List.forall_mem_cons.mpr ⟨(.tail _ (.tail _ (.tail _ (.tail _ (.head _))))), (List.forall_mem_cons.mpr ⟨(.tail _ (.tail _ (.tail _ (.tail _ (.tail _ (.head _)))))), (fun _ h => absurd h List.not_mem_nil)⟩)⟩)⟩)⟩) ?_
        exact ih.1 (m + 1) F1 A1 hI1 hf1 (by omega) (by omega) (by omega) i5 (by omega) i8 (gs_bef_k i9 (by rw [← i7]; omega)) (by omega)
      · skip
        refine sA_aload_n dd_X9_fewest_81 rfl (.tail _ (.tail _ (.tail _ (.head _)))) ?_
        refine sA_iload dd_X9_fewest_82 (.tail _ (.tail _ (.head _))) ?_
        refine sA_iload dd_X9_fewest_84 (.head _) ?_
        refine sA_callV (y2 := m_X9_numberPlan) (n2 := 2) (d2 := 2) (a := 106) (ci := 9) (q := (RX9, TX9, 28)) (as := [gs_iv m, gs_iv x]) (rest := []) dd_X9_fewest_86 ok_X9_numberPlan ml_X9_304 rfl rfl (by decide) gs_s106 rfl rfl (Nat.le_of_ble_eq_true rfl) (by decide) (c_X9_numberPlan_vg hI1 (by omega) (by omega) (by omega)) (fun r15 F16 A17 h18 => ?_)
        obtain ⟨e20, I21, f22, x19⟩ := h18
        subst e20
        have v23 : F16 106 0 = F1 106 0 := f22.1 106 0 (by first | exact id | omega | (dsimp only; omega) | (dsimp only) | fail)
        have f24 := gs_fr_tr hf1 f22 (fun b j h => by first | exact False.elim h | omega | (dsimp only at h ⊢; omega) | fail) (fun b h => by first | exact False.elim h | omega | (dsimp only at h ⊢; omega) | fail)
        have t25 : gs_k8 A A17 := gs_k8_tr i5 x19.1
        have y26 : gs_k8 A1 A17 ∧ A17 110 8 = m ∧ ∀ j : Int, 0 ≤ j → j < m → A17 111 (480 + j).toNat = sp_nm (2 * (3 * F1 106 0 - 1)) m.toNat x j.toNat := x19
        clear x19
        show sA _ _ _ 89 _ [] _ _
        refine sA_aload_n dd_X9_fewest_89 rfl (.tail _ (.tail _ (.tail _ (.head _)))) ?_
        have y86 := y26.2
        have hg90 : F16 106 0 = F 106 0 := f24.1 106 0 (by dsimp only; omega)
        have y86b := y86.2
        rw [show F1 106 0 = F 106 0 by omega] at y86b
        have hPe : ∀ w, gs_plm F16 A17 8 w = sp_np (F 106 0) (2 * (3 * F 106 0 - 1)) m.toNat x w := fun w => by
          rw [gs_plm_np (B := (2 * (3 * F 106 0 - 1))) (r := x) (by omega) y86.1 y86b, hg90]
        have hcd1 := gs_cdn (B := (2 * (3 * F 106 0 - 1))) (by omega) y86.1 y86b
        have him86 : ∀ ii : Nat, gs_im A17 ii = gs_im A1 ii := fun ii => gs_im_cg (f22.2 119 (by dsimp only; omega)) (f22.2 120 (by dsimp only; omega)) ii
        have hdl := gs_dl_hit (B := (2 * (3 * F 106 0 - 1))) (k := m.toNat) (r := x) hg90 him86 hPe
        refine sA_callV (y2 := m_X9_isDraftLike) (n2 := 0) (d2 := 6) (a := 106) (ci := 9) (q := (RX9, TX9, 28)) (as := []) (rest := []) dd_X9_fewest_90 ok_X9_isDraftLike ml_X9_296 rfl rfl (by decide) gs_s106 rfl rfl (Nat.le_of_ble_eq_true rfl) (by decide) (c_X9_isDraftLike_vf I21 hcd1) (fun r27 F28 A29 h30 => ?_)
        obtain ⟨z33, e32, I34, f35, x31⟩ := h30
        subst e32
        have v36 : F28 106 0 = F16 106 0 := f35.1 106 0 (by first | exact id | omega | (dsimp only; omega) | (dsimp only) | fail)
        have f37 := gs_fr_tr f24 f35 (fun b j h => by first | exact False.elim h | omega | (dsimp only at h ⊢; omega) | fail) (fun b h => by first | exact False.elim h | omega | (dsimp only at h ⊢; omega) | fail)
        have t38 : gs_k8 A A29 := gs_k8_tr t25 (gs_k8_fr (f35.2 110 (by first | exact id | omega | (dsimp only; omega) | fail)) (f35.2 111 (by first | exact id | omega | (dsimp only; omega) | fail)))
        have y39 : (z33 = 1 ∧ gs_dl F16 A17) ∨ (z33 = 0 ∧ ¬ gs_dl F16 A17) := x31
        clear x31
        show sA _ _ _ 93 _ [gs_iv z33] _ _
        have himf : gs_im A29 = gs_im A1 := funext fun ii => (gs_im_cg (f35.2 119 (by dsimp only; omega)) (f35.2 120 (by dsimp only; omega)) ii).trans (him86 ii)
        refine sA_if_eq (tgt := 127) dd_X9_fewest_93 (by decide) (by omega) (fun q40 => ?_) (fun q40 => ?_)
        · skip
          have hnh : ¬ gs_hit (F 106 0) (2 * (3 * F 106 0 - 1)) (gs_im A1) m.toNat x := fun w => by
            rcases y39 with y | y
            · omega
            · exact y.2 (hdl.mpr w)
          refine sA_iinc (lv' := [(6, gs_iv (x + 1)), (5, gs_iv l), (4, gs_iv m), (0, .ref 106), (2, gs_iv n), (3, gs_iv i)]) dd_X9_fewest_127 (.head _) (by decide) rfl ?_
          refine sA_goto (tgt := 74) dd_X9_fewest_130 (by decide) ?_
          have b41 : (1 : Int) ≤ F28 106 0 ∧ F28 106 0 ≤ 3 := I34.1 106 0
          refine sA_sub (lv2 := [(6, gs_iv (x + 1)), (5, gs_iv l), (4, gs_iv m), (0, .ref 106), (2, gs_iv n), (3, gs_iv i)]) (List.forall_mem_cons.mpr ⟨(.head _), (List.forall_mem_cons.mpr ⟨(.tail _ (.head _)), (List.forall_mem_cons.mpr ⟨(.tail _ (.tail _ (.head _))), (List.forall_mem_cons.mpr ⟨(.tail _ (.tail _ (.tail _ (.head _)))), (List.forall_mem_cons.mpr ⟨(.tail _ (.tail _ (.tail _ (.tail _ (.head _))))), (List.forall_mem_cons.mpr ⟨(.tail _ (.tail _ (.tail _ (.tail _ (.tail _ (.head _)))))), (fun _ h => absurd h List.not_mem_nil)⟩)⟩)⟩)⟩)⟩)⟩) ?_
          exact ih.2 m l (x + 1) F28 A29 I34 f37 (by omega) (by omega) (by omega) (by omega) (by omega) t38 (by omega) i7 (by rw [himf]; exact i8) (by rw [himf]; exact gs_bef_r i9 hnh) (by omega)
        · skip
          refine sA_iload_n dd_X9_fewest_96 rfl (.tail _ (.tail _ (.tail _ (.tail _ (.tail _ (.head _)))))) ?_
          refine sA_iconst (z := (-1)) dd_X9_fewest_97 ?_
          refine sA_icmp_ne (tgt := 106) dd_X9_fewest_98 (by decide) (by omega) (by omega) (fun q42 => ?_) (fun q42 => ?_)
          · skip
            refine sA_iload_n dd_X9_fewest_106 rfl (.tail _ (.tail _ (.tail _ (.tail _ (.tail _ (.head _)))))) ?_
            refine sA_iload dd_X9_fewest_107 (.tail _ (.tail _ (.head _))) ?_
            refine sA_icmp_ge (tgt := 125) dd_X9_fewest_109 (by decide) (by omega) (by omega) (fun q43 => ?_) (fun q43 => ?_)
            · skip
              refine sA_iconst (z := (-1)) dd_X9_fewest_125 ?_
              refine sA_iret (z := -1) dd_X9_fewest_126 rfl ?_
              refine ⟨_, rfl, I34, f37, ?_⟩
              have hhit : gs_hit (F 106 0) (2 * (3 * F 106 0 - 1)) (gs_im A1) m.toNat x := by
                rcases y39 with y | y
                · exact hdl.mp y.2
                · exfalso
                  omega
              refine ⟨t38, .inr (.inr ⟨by omega, by omega, by omega, by omega, by omega, by omega, .inr ⟨gs_im A1, i8, .inl ⟨m, x, ⟨by omega, by omega, by omega, by rw [← i7]; omega, hhit, i9⟩, ?_⟩⟩⟩)⟩
              have e111 : A29 111 = A17 111 := f35.2 111 (by dsimp only; omega)
              first | exact .inl ⟨by omega, rfl⟩ | exact .inr (.inr ⟨by omega, by omega, rfl⟩) | (refine .inr (.inl ⟨by omega, by omega, ?_⟩); rw [e111]; exact y86b i (by omega) (by omega)) | fail
            · skip
              refine sA_aload_n dd_X9_fewest_112 rfl (.tail _ (.tail _ (.tail _ (.head _)))) ?_
              refine sA_getr (ci := 9) (j := 7) (q := (RX9, TX9, 28)) dd_X9_fewest_113 rfl (by decide) fl_X9_22 (by decide) gs_s106 rfl ?_
              refine sA_sipush (z := 480) dd_X9_fewest_116 (by decide) ?_
              refine sA_iload_n dd_X9_fewest_119 rfl (.tail _ (.tail _ (.tail _ (.tail _ (.tail _ (.head _)))))) ?_
              refine sA_iadd dd_X9_fewest_120 ?_
              refine sA_iald (n := 540) dd_X9_fewest_121 (by decide) gs_s111 (by omega) (by decide) ?_
              have b44 : (-2147483648 : Int) ≤ A29 111 (480 + i).toNat ∧ A29 111 (480 + i).toNat ≤ 2147483647 := I34.2 111 (480 + i).toNat
              refine sA_goto (tgt := 126) dd_X9_fewest_122 (by decide) ?_
              refine sA_iret (z := A29 111 (480 + i).toNat) dd_X9_fewest_126 rfl ?_
              refine ⟨_, rfl, I34, f37, ?_⟩
              have hhit : gs_hit (F 106 0) (2 * (3 * F 106 0 - 1)) (gs_im A1) m.toNat x := by
                rcases y39 with y | y
                · exact hdl.mp y.2
                · exfalso
                  omega
              refine ⟨t38, .inr (.inr ⟨by omega, by omega, by omega, by omega, by omega, by omega, .inr ⟨gs_im A1, i8, .inl ⟨m, x, ⟨by omega, by omega, by omega, by rw [← i7]; omega, hhit, i9⟩, ?_⟩⟩⟩)⟩
              have e111 : A29 111 = A17 111 := f35.2 111 (by dsimp only; omega)
              first | exact .inl ⟨by omega, rfl⟩ | exact .inr (.inr ⟨by omega, by omega, rfl⟩) | (refine .inr (.inl ⟨by omega, by omega, ?_⟩); rw [e111]; exact y86b i (by omega) (by omega)) | fail
          · skip
            refine sA_iload dd_X9_fewest_101 (.tail _ (.tail _ (.head _))) ?_
            refine sA_goto (tgt := 126) dd_X9_fewest_103 (by decide) ?_
            refine sA_iret (z := m) dd_X9_fewest_126 rfl ?_
            refine ⟨_, rfl, I34, f37, ?_⟩
            have hhit : gs_hit (F 106 0) (2 * (3 * F 106 0 - 1)) (gs_im A1) m.toNat x := by
              rcases y39 with y | y
              · exact hdl.mp y.2
              · exfalso
                omega
            refine ⟨t38, .inr (.inr ⟨by omega, by omega, by omega, by omega, by omega, by omega, .inr ⟨gs_im A1, i8, .inl ⟨m, x, ⟨by omega, by omega, by omega, by rw [← i7]; omega, hhit, i9⟩, ?_⟩⟩⟩)⟩
            have e111 : A29 111 = A17 111 := f35.2 111 (by dsimp only; omega)
            first | exact .inl ⟨by omega, rfl⟩ | exact .inr (.inr ⟨by omega, by omega, rfl⟩) | (refine .inr (.inl ⟨by omega, by omega, ?_⟩); rw [e111]; exact y86b i (by omega) (by omega)) | fail
theorem c_X9_fewest_vg {p n i : Int} {F A : gs_F} (hI : gs_I F A) (hp : -2147483648 ≤ p ∧ p ≤ 2147483647) (hn : -2147483648 ≤ n ∧ n ≤ 2147483647) (hi : -2147483648 ≤ i ∧ i ≤ 2147483647) (hcd : 0 ≤ p → p ≤ 7 → ∀ i : Int, 0 ≤ i → i < A 110 p.toNat → 0 ≤ A 111 (60 * p + i).toNat ∧ A 111 (60 * p + i).toNat ≤ 15) : sC m_X9_fewest 8 [.ref 106, gs_iv p, gs_iv n, gs_iv i] F A (fun rv F' A' => ∃ z : Int, rv = some (gs_iv z) ∧ gs_I F' A' ∧ gs_fr (fun c j => c = 106 ∧ (j = 13 ∨ j = 15)) (fun c => c = 110 ∨ c = 111 ∨ c = 114 ∨ c = 115 ∨ c = 119 ∨ c = 120) F A F' A' ∧ (gs_k8 A A' ∧ (((p < 0 ∨ 7 < p) ∧ z = -1001) ∨ (0 ≤ p ∧ p ≤ 7 ∧ (n < 0 ∨ 3 < n ∨ i < -1 ∨ 2 < i) ∧ z = -1002) ∨ (0 ≤ p ∧ p ≤ 7 ∧ 0 ≤ n ∧ n ≤ 3 ∧ -1 ≤ i ∧ i ≤ 2 ∧ gs_fw (gs_plm F A p) (F 106 0) (2 * (3 * F 106 0 - 1)) n i z)))) := by
  refine sC_of ok_X9_fewest.1 (Nat.le_of_ble_eq_true rfl) ?_
  show sA _ _ _ 0 [(0, .ref 106), (1, gs_iv p), (2, gs_iv n), (3, gs_iv i)] [] F A
  have hf : gs_fr (fun c j => c = 106 ∧ (j = 13 ∨ j = 15)) (fun c => c = 110 ∨ c = 111 ∨ c = 114 ∨ c = 115 ∨ c = 119 ∨ c = 120) F A F A := gs_fr_refl _ _ _ _
  have b45 : (1 : Int) ≤ F 106 0 ∧ F 106 0 ≤ 3 := hI.1 106 0
  have hk8 : gs_k8 A A := gs_k8_fr rfl rfl
  have hb0 : (1 : Int) ≤ F 106 0 ∧ F 106 0 ≤ 3 := hI.1 106 0
  have hpb := sp_pw_bd (B := (2 * (3 * F 106 0 - 1))) (by omega)
  refine sA_aload_n dd_X9_fewest_0 rfl (.head _) ?_
  refine sA_iload_n dd_X9_fewest_1 rfl (.tail _ (.head _)) ?_
  refine sA_callV (y2 := m_X9_noPlan) (n2 := 1) (d2 := 2) (a := 106) (ci := 9) (q := (RX9, TX9, 28)) (as := [gs_iv p]) (rest := []) dd_X9_fewest_2 ok_X9_noPlan ml_X9_218 rfl rfl (by decide) gs_s106 rfl rfl (Nat.le_of_ble_eq_true rfl) (by decide) (c_X9_noPlan hI (by omega)) (fun r46 F47 A48 h49 => ?_)
  obtain ⟨z52, e51, e53, e54, x50⟩ := h49
  subst e51 e53 e54
  show sA _ _ _ 5 _ [gs_iv z52] _ _
  refine sA_if_eq (tgt := 12) dd_X9_fewest_5 (by decide) (by omega) (fun q55 => ?_) (fun q55 => ?_)
  · skip
    refine sA_iload_n dd_X9_fewest_12 rfl (.tail _ (.tail _ (.head _))) ?_
    refine sA_i2l dd_X9_fewest_13 (by omega) ?_
    refine sA_lconst (z := 0) dd_X9_fewest_14 (by decide) ?_
    refine sA_ldc2 (z := 3) dd_X9_fewest_15 (ri_lw_in (pl := 872) (by decide +kernel)) ?_
    refine sA_callS (y2 := m_X9_in) (n2 := 3) (d2 := 1) (as := [gs_lv n, gs_lv 0, gs_lv 3]) (rest := []) dd_X9_fewest_18 ok_X9_in ml_X9_75 rfl rfl (Nat.le_of_ble_eq_true rfl) (by decide) (c_X9_in (by omega) (by omega) (by omega)) (fun r56 F57 A58 h59 => ?_)
    obtain ⟨z62, e61, e63, e64, x60⟩ := h59
    subst e61 e63 e64
    show sA _ _ _ 21 _ [gs_iv z62] _ _
    refine sA_if_eq (tgt := 38) dd_X9_fewest_21 (by decide) (by omega) (fun q65 => ?_) (fun q65 => ?_)
    · skip
      refine sA_sipush (z := (-1002)) dd_X9_fewest_38 (by decide) ?_
      refine sA_iret (z := -1002) dd_X9_fewest_41 rfl ?_
      refine ⟨_, rfl, hI, hf, ?_⟩
      exact ⟨hk8, .inr (.inl ⟨by omega, by omega, by omega, rfl⟩)⟩
    · skip
      refine sA_iload_n dd_X9_fewest_24 rfl (.tail _ (.tail _ (.tail _ (.head _)))) ?_
      refine sA_i2l dd_X9_fewest_25 (by omega) ?_
      refine sA_ldc2 (z := -1) dd_X9_fewest_26 (ri_lw_in (pl := 1155) (by decide +kernel)) ?_
      refine sA_ldc2 (z := 2) dd_X9_fewest_29 (ri_lw_in (pl := 1193) (by decide +kernel)) ?_
      refine sA_callS (y2 := m_X9_in) (n2 := 3) (d2 := 1) (as := [gs_lv i, gs_lv (-1), gs_lv 2]) (rest := []) dd_X9_fewest_32 ok_X9_in ml_X9_75 rfl rfl (Nat.le_of_ble_eq_true rfl) (by decide) (c_X9_in (by omega) (by omega) (by omega)) (fun r66 F67 A68 h69 => ?_)
      obtain ⟨z72, e71, e73, e74, x70⟩ := h69
      subst e71 e73 e74
      show sA _ _ _ 35 _ [gs_iv z72] _ _
      refine sA_if_ne (tgt := 42) dd_X9_fewest_35 (by decide) (by omega) (fun q75 => ?_) (fun q75 => ?_)
      · skip
        refine sA_aload_n dd_X9_fewest_42 rfl (.head _) ?_
        refine sA_iload_n dd_X9_fewest_43 rfl (.tail _ (.head _)) ?_
        have hcd1 := hcd (by omega) (by omega)
        refine sA_callV (y2 := m_X9_findImages) (n2 := 1) (d2 := 7) (a := 106) (ci := 9) (q := (RX9, TX9, 28)) (as := [gs_iv p]) (rest := []) dd_X9_fewest_44 ok_X9_findImages ml_X9_242 rfl rfl (by decide) gs_s106 rfl rfl (Nat.le_of_ble_eq_true rfl) (by decide) (c_X9_findImages_vf hI (by omega) hcd1) (fun r76 F77 A78 h79 => ?_)
        obtain ⟨z82, e81, I83, f84, x80⟩ := h79
        subst e81
        have v85 : F77 106 0 = F 106 0 := f84.1 106 0 (by first | exact id | omega | (dsimp only; omega) | (dsimp only) | fail)
        have f86 := gs_fr_tr hf f84 (fun b j h => by first | exact False.elim h | omega | (dsimp only at h ⊢; omega) | fail) (fun b h => by first | exact False.elim h | omega | (dsimp only at h ⊢; omega) | fail)
        have t87 : gs_k8 A A78 := gs_k8_tr hk8 (gs_k8_fr (f84.2 110 (by first | exact id | omega | (dsimp only; omega) | fail)) (f84.2 111 (by first | exact id | omega | (dsimp only; omega) | fail)))
        have y88 : (z82 = 1 ∧ ∀ ii : Nat, (ii : Int) < 2 * F 106 0 → gs_plm F A p [(ii : Int) + 1] = some (gs_im A78 ii)) ∨ (z82 = 0 ∧ ∃ ii : Nat, (ii : Int) < 2 * F 106 0 ∧ gs_plm F A p [(ii : Int) + 1] = none) := x80
        clear x80
        show sA _ _ _ 47 _ [gs_iv z82] _ _
        refine sA_if_ne (tgt := 54) dd_X9_fewest_47 (by decide) (by omega) (fun q89 => ?_) (fun q89 => ?_)
        · skip
          have hP3 : ∀ ii : Nat, (ii : Int) < 2 * F 106 0 → gs_plm F A p [(ii : Int) + 1] = some (gs_im A78 ii) := by
            rcases y88 with y | y
            · exact y.2
            · exfalso
              omega
          clear y88
          refine sA_iconst (z := 0) dd_X9_fewest_54 ?_
          refine sA_istore (lv' := [(4, gs_iv 0), (0, .ref 106), (1, gs_iv p), (2, gs_iv n), (3, gs_iv i)]) dd_X9_fewest_55 (by decide) rfl ?_
          have b90 : (1 : Int) ≤ F77 106 0 ∧ F77 106 0 ≤ 3 := I83.1 106 0
          refine sA_sub (lv2 := [(4, gs_iv 0), (0, .ref 106), (2, gs_iv n), (3, gs_iv i)]) (List.forall_mem_cons.mpr ⟨(.head _), (List.forall_mem_cons.mpr ⟨(.tail _ (.head _)), (List.forall_mem_cons.mpr ⟨(.tail _ (.tail _ (.tail _ (.head _)))), (List.forall_mem_cons.mpr ⟨(.tail _ (.tail _ (.tail _ (.tail _ (.head _))))), (fun _ h => absurd h List.not_mem_nil)⟩)⟩)⟩)⟩) ?_
          exact (k_X9_fewest_vg hI hp hn hi hcd ((4 - 0) * 4294967296 + 1 : Int).toNat.succ).1 0 F77 A78 I83 f86 (by omega) (by omega) (by omega) t87 (by omega) hP3 gs_bef_0 (by omega)
        · skip
          refine sA_sipush (z := (-1005)) dd_X9_fewest_50 (by decide) ?_
          refine sA_iret (z := -1005) dd_X9_fewest_53 rfl ?_
          refine ⟨_, rfl, I83, f86, ?_⟩
          rcases y88 with y | y
          · exfalso
            omega
          · obtain ⟨y1, ii, hi, y2⟩ := y
            exact ⟨t87, .inr (.inr ⟨by omega, by omega, by omega, by omega, by omega, by omega, .inl ⟨⟨ii, by omega, y2⟩, rfl⟩⟩)⟩
      · skip
        refine sA_sipush (z := (-1002)) dd_X9_fewest_38 (by decide) ?_
        refine sA_iret (z := -1002) dd_X9_fewest_41 rfl ?_
        refine ⟨_, rfl, hI, hf, ?_⟩
        exact ⟨hk8, .inr (.inl ⟨by omega, by omega, by omega, rfl⟩)⟩
  · skip
    refine sA_sipush (z := (-1001)) dd_X9_fewest_8 (by decide) ?_
    refine sA_iret (z := -1001) dd_X9_fewest_11 rfl ?_
    refine ⟨_, rfl, hI, hf, ?_⟩
    exact ⟨hk8, .inl ⟨by omega, rfl⟩⟩
end
