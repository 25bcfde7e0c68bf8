noncomputable section
/-! ===== the text is fed; plans: read, told, chained, turned ===== -/
def gs_by (v : Int64) (k : Int) : Int := gs_t ((v >>> ((Int32.ofInt (8 * k)).toInt64 &&& 63)) &&& Int64.ofInt 255).toInt32
theorem gs_by_rng (v : Int64) (k : Int) : 0 ≤ gs_by v k ∧ gs_by v k ≤ 255 := by
  unfold gs_by
  generalize v >>> ((Int32.ofInt (8 * k)).toInt64 &&& 63) = y
  have h1 : (y &&& Int64.ofInt 255).toBitVec.toNat ≤ 255 := by
    rw [Int64.toBitVec_and, BitVec.toNat_and]
    exact Nat.le_trans Nat.and_le_right (by decide)
  have h2 : (y &&& Int64.ofInt 255).toInt32.toBitVec = (y &&& Int64.ofInt 255).toBitVec.signExtend 32 := rfl
  have h3 : (y &&& Int64.ofInt 255).toInt32.toBitVec.toNat = (y &&& Int64.ofInt 255).toBitVec.toNat := by
    rw [h2, BitVec.signExtend_eq_setWidth_of_le _ (by decide), BitVec.toNat_setWidth, Nat.mod_eq_of_lt (by omega)]
  have h4 : gs_t (y &&& Int64.ofInt 255).toInt32 = ((y &&& Int64.ofInt 255).toInt32.toBitVec.toNat : Int) := by
    unfold gs_t
    show (y &&& Int64.ofInt 255).toInt32.toBitVec.toInt = _
    rw [BitVec.toInt_eq_toNat_of_lt (by omega)]
  omega
/-- feed(n, v): its answer z, the text behind it -/
def gs_fd (N n z N2 : Int) (v : Int64) (t t2 : Nat → Int) : Prop :=
  ((n < 1 ∨ 8 < n) ∧ z = -1002 ∧ N2 = N ∧ t2 = t) ∨ (1 ≤ n ∧ n ≤ 8 ∧ 120 < N + n ∧ z = -1004 ∧ N2 = N ∧ t2 = t) ∨ (1 ≤ n ∧ n ≤ 8 ∧ N + n ≤ 120 ∧ z = N + n ∧ N2 = N + n ∧ (∀ j : Int, 0 ≤ j → j < n → t2 (N + j).toNat = gs_by v (n - 1 - j)) ∧ (∀ i : Int, 0 ≤ i → i < N → t2 i.toNat = t i.toNat))
theorem gs_feed_ext {f f2 : Nat → Int} {h : Int → Int} {N m w : Int} (hN : 0 ≤ N) (hm : 0 ≤ m) (e : f2 = gs_u f (N + m).toNat w) (hw : w = h m) (old : ∀ j : Int, 0 ≤ j → j < m → f (N + j).toNat = h j) : ∀ j : Int, 0 ≤ j → j < m + 1 → f2 (N + j).toNat = h j := by
  intro j h1 h2
  rw [e]
  by_cases q : j = m
  · rw [q, gs_u_self, hw]
  · rw [gs_u_ne _ _ (by omega)]
    exact old j h1 (by omega)
theorem gs_feed_low {f f2 h : Nat → Int} {N M w : Int} (hN : 0 ≤ N) (hm : N ≤ M) (e : f2 = gs_u f M.toNat w) (old : ∀ i : Int, 0 ≤ i → i < N → f i.toNat = h i.toNat) : ∀ i : Int, 0 ≤ i → i < N → f2 i.toNat = h i.toNat := by
  intro i h1 h2
  rw [e, gs_u_ne _ _ (by omega)]
  exact old i h1 h2
theorem rd_fin_0 {s : rd_S} {n b : Int} (h : rd_fin s n = (0, b)) : b = -1 ∧ s.1 = 0 := by
  unfold rd_fin at h
  split at h
  · rename_i w
    exact absurd (congrArg Prod.fst h) w
  · rename_i w
    split at h
    · have := congrArg Prod.fst h
      have this : (1 : Int) = 0 := this
      omega
    · have := congrArg Prod.snd h
      have this : (-1 : Int) = b := this
      exact ⟨this.symm, Classical.not_not.mp w⟩
/-- plans 0 to 7 of the reference stay -/
def gs_k8 (A B : gs_F) : Prop := (∀ i : Nat, i < 8 → B 110 i = A 110 i) ∧ (∀ i : Nat, i < 480 → B 111 i = A 111 i)
theorem gs_k8_tr {A B C : gs_F} (h : gs_k8 A B) (h2 : gs_k8 B C) : gs_k8 A C := ⟨fun i hi => (h2.1 i hi).trans (h.1 i hi), fun i hi => (h2.2 i hi).trans (h.2 i hi)⟩
theorem gs_k8_fr {A B : gs_F} (e1 : B 110 = A 110) (e2 : B 111 = A 111) : gs_k8 A B := ⟨fun i _ => by rw [e1], fun i _ => by rw [e2]⟩
theorem k_X8_feed_vf {n : Int} {v : Int64} {F A : gs_F} (hI : gs_I F A) (hn : -2147483648 ≤ n ∧ n ≤ 2147483647) : ∀ nN : Nat, (∀ (k : Int)  (F1 A1 : gs_F), gs_I F1 A1 → gs_fr (fun c j => c = 43 ∧ j = 0) (fun c => c = 46) F A F1 A1 → -1 ≤ k ∧ k ≤ 7 → 1 ≤ n ∧ n ≤ 8 ∧ F 43 0 + n ≤ 120 → F1 43 0 + k + 1 = F 43 0 + n → (∀ j : Int, 0 ≤ j → j < F1 43 0 - F 43 0 → A1 46 (F 43 0 + j).toNat = gs_by v (n - 1 - j)) → (∀ i : Int, 0 ≤ i → i < F 43 0 → A1 46 i.toNat = A 46 i.toNat) → F 43 0 ≤ F1 43 0 ∧ 0 ≤ F 43 0 → k + 1 < (nN : Int) → sA m_X8_feed 2 (fun rv F' A' => ∃ z : Int, rv = some (gs_iv z) ∧ gs_I F' A' ∧ gs_fr (fun c j => c = 43 ∧ j = 0) (fun c => c = 46) F A F' A' ∧ (gs_fd (F 43 0) n z (F' 43 0) v (A 46) (A' 46))) 38 [(4, gs_iv k), (0, .ref 0), (1, gs_iv n), (2, .long v)] [] F1 A1) := by
  intro nN
  induction nN with
  | zero =>
    exact fun a0 a1 a2 a3 a4 i0 i1 i2 i3 i4 i5 hm => by exfalso; omega
  | succ nN ih =>
    intro k F1 A1 hI1 hf1 i0 i1 i2 i3 i4 i5 hm
    have b1 : (0 : Int) ≤ F1 43 0 ∧ F1 43 0 ≤ 120 := hI1.1 43 0
    have u2 : A1 46 = A1 46 := rfl
    refine sA_iload dd_X8_feed_38 (.head _) ?_
    refine sA_if_lt (tgt := 68) dd_X8_feed_40 (by decide) (by omega) (fun q3 => ?_) (fun q3 => ?_)
    · skip
      refine sA_aload_n dd_X8_feed_68 rfl (.tail _ (.head _)) ?_
      refine sA_getr (ci := 8) (j := 7) (q := (RX8, TX8, 13)) dd_X8_feed_69 rfl (by decide) fl_X8_65 (by decide) gs_s0 rfl ?_
      refine sA_geti (ci := 6) (j := 0) (q := (RX6, TX6, 10)) dd_X8_feed_72 rfl (by decide) fl_X8_142 (by decide) gs_s43 rfl ?_
      refine sA_iret (z := F1 43 0) dd_X8_feed_75 rfl ?_
      refine ⟨_, rfl, hI1, hf1, ?_⟩
      exact .inr (.inr ⟨by omega, by omega, by omega, by omega, by omega, fun j h1 h2 => i3 j h1 (by omega), i4⟩)
    · skip
      refine sA_aload_n dd_X8_feed_43 rfl (.tail _ (.head _)) ?_
      refine sA_getr (ci := 8) (j := 7) (q := (RX8, TX8, 13)) dd_X8_feed_44 rfl (by decide) fl_X8_65 (by decide) gs_s0 rfl ?_
      refine sA_lload_n dd_X8_feed_47 rfl (.tail _ (.tail _ (.tail _ (.head _)))) ?_
      refine sA_bipush (z := 8) dd_X8_feed_48 (by decide) ?_
      refine sA_iload dd_X8_feed_50 (.head _) ?_
      refine sA_imul dd_X8_feed_52 ?_
      refine sA_lshr dd_X8_feed_53 ?_
      refine sA_ldc2 (z := 255) dd_X8_feed_54 (ri_lw_in (pl := 511) (by decide +kernel)) ?_
      refine sA_land dd_X8_feed_57 ?_
      refine sA_l2i dd_X8_feed_58 ?_
      have b4 := gs_t_rng (((v >>> ((Int32.ofInt (8 * k)).toInt64 &&& 63)) &&& (Int64.ofInt 255)).toInt32)
      generalize hw5 : gs_t (((v >>> ((Int32.ofInt (8 * k)).toInt64 &&& 63)) &&& (Int64.ofInt 255)).toInt32) = w5 at b4 ⊢
      refine sA_callV (y2 := m_X6_add) (n2 := 1) (d2 := 1) (a := 43) (ci := 6) (q := (RX6, TX6, 10)) (as := [gs_iv w5]) (rest := []) dd_X8_feed_59 ok_X6_add ml_X8_145 rfl rfl (by decide) gs_s43 rfl rfl (Nat.le_of_ble_eq_true rfl) (by decide) (c_X6_add_vf hI1 (by omega)) (fun r6 F7 A8 h9 => ?_)
      obtain ⟨e11, I12, f13, x10⟩ := h9
      subst e11
      have f15 := gs_fr_tr hf1 f13 (fun b j h => by first | exact False.elim h | omega | (dsimp only at h ⊢; omega) | fail) (fun b h => by first | exact False.elim h | omega | (dsimp only at h ⊢; omega) | fail)
      have u16 : A8 46 = A8 46 := rfl
      have y17 : (F1 43 0 < 120 ∧ F7 43 0 = F1 43 0 + 1 ∧ A8 46 = gs_u (A1 46) (F1 43 0).toNat w5) ∨ (F1 43 0 = 120 ∧ F7 43 0 = 120 ∧ A8 46 = A1 46) := x10
      clear x10
      show sA _ _ _ 62 _ [] _ _
      refine sA_iinc (lv' := [(4, gs_iv (k + (-1))), (0, .ref 0), (1, gs_iv n), (2, .long v)]) dd_X8_feed_62 (.head _) (by decide) rfl ?_
      refine sA_goto (tgt := 38) dd_X8_feed_65 (by decide) ?_
      have b18 : (0 : Int) ≤ F7 43 0 ∧ F7 43 0 ≤ 120 := I12.1 43 0
      refine sA_sub (lv2 := [(4, gs_iv (k + (-1))), (0, .ref 0), (1, gs_iv n), (2, .long v)]) (List.forall_mem_cons.mpr ⟨(.head _), (List.forall_mem_cons.mpr ⟨(.tail _ (.head _)), (List.forall_mem_cons.mpr ⟨(.tail _ (.tail _ (.head _))), (List.forall_mem_cons.mpr ⟨(.tail _ (.tail _ (.tail _ (.head _)))), (fun _ h => absurd h List.not_mem_nil)⟩)⟩)⟩)⟩) ?_
      exact ih (k + (-1)) F7 A8 I12 f15 (by omega) (by omega) (by omega) (fun j h1 h2 => by first | (exfalso; omega) | (rcases y17 with y | y <;> first | (exfalso; omega) | exact gs_feed_ext (f := A1 46) (w := w5) (N := F 43 0) (m := F1 43 0 - F 43 0) (h := fun j => gs_by v (n - 1 - j)) (by omega) (by omega) (by rw [y.2.2, show F 43 0 + (F1 43 0 - F 43 0) = F1 43 0 by omega]) (by show w5 = gs_by v (n - 1 - (F1 43 0 - F 43 0)); rw [show n - 1 - (F1 43 0 - F 43 0) = k by omega]; exact hw5.symm) i3 j h1 (by omega) | fail) | fail) (by first | (rcases y17 with y | y <;> first | (exfalso; omega) | exact gs_feed_low (by omega) (by omega) y.2.2 i4 | fail) | exact fun i h1 h2 => rfl | fail) (by omega) (by omega)
theorem c_X8_feed_vf {n : Int} {v : Int64} {F A : gs_F} (hI : gs_I F A) (hn : -2147483648 ≤ n ∧ n ≤ 2147483647) : sC m_X8_feed 2 [.ref 0, gs_iv n, .long v] F A (fun rv F' A' => ∃ z : Int, rv = some (gs_iv z) ∧ gs_I F' A' ∧ gs_fr (fun c j => c = 43 ∧ j = 0) (fun c => c = 46) F A F' A' ∧ (gs_fd (F 43 0) n z (F' 43 0) v (A 46) (A' 46))) := by
  refine sC_of ok_X8_feed.1 (Nat.le_of_ble_eq_true rfl) ?_
  show sA _ _ _ 0 [(0, .ref 0), (1, gs_iv n), (2, .long v)] [] F A
  have hf : gs_fr (fun c j => c = 43 ∧ j = 0) (fun c => c = 46) F A F A := gs_fr_refl _ _ _ _
  have b19 : (0 : Int) ≤ F 43 0 ∧ F 43 0 ≤ 120 := hI.1 43 0
  have u20 : A 46 = A 46 := rfl
  refine sA_iload_n dd_X8_feed_0 rfl (.tail _ (.head _)) ?_
  refine sA_iconst (z := 1) dd_X8_feed_1 ?_
  refine sA_icmp_lt (tgt := 11) dd_X8_feed_2 (by decide) (by omega) (by omega) (fun q21 => ?_) (fun q21 => ?_)
  · skip
    refine sA_sipush (z := (-1002)) dd_X8_feed_11 (by decide) ?_
    refine sA_iret (z := -1002) dd_X8_feed_14 rfl ?_
    refine ⟨_, rfl, hI, hf, ?_⟩
    exact .inl ⟨by omega, by omega, rfl, u20⟩
  · skip
    refine sA_iload_n dd_X8_feed_5 rfl (.tail _ (.head _)) ?_
    refine sA_bipush (z := 8) dd_X8_feed_6 (by decide) ?_
    refine sA_icmp_le (tgt := 15) dd_X8_feed_8 (by decide) (by omega) (by omega) (fun q22 => ?_) (fun q22 => ?_)
    · skip
      refine sA_aload_n dd_X8_feed_15 rfl (.head _) ?_
      refine sA_getr (ci := 8) (j := 7) (q := (RX8, TX8, 13)) dd_X8_feed_16 rfl (by decide) fl_X8_65 (by decide) gs_s0 rfl ?_
      refine sA_geti (ci := 6) (j := 0) (q := (RX6, TX6, 10)) dd_X8_feed_19 rfl (by decide) fl_X8_142 (by decide) gs_s43 rfl ?_
      refine sA_iload_n dd_X8_feed_22 rfl (.tail _ (.head _)) ?_
      refine sA_iadd dd_X8_feed_23 ?_
      refine sA_bipush (z := 120) dd_X8_feed_24 (by decide) ?_
      refine sA_icmp_le (tgt := 33) dd_X8_feed_26 (by decide) (by omega) (by omega) (fun q23 => ?_) (fun q23 => ?_)
      · skip
        refine sA_iload_n dd_X8_feed_33 rfl (.tail _ (.head _)) ?_
        refine sA_iconst (z := 1) dd_X8_feed_34 ?_
        refine sA_isub dd_X8_feed_35 ?_
        refine sA_istore (lv' := [(4, gs_iv (n - 1)), (0, .ref 0), (1, gs_iv n), (2, .long v)]) dd_X8_feed_36 (by decide) rfl ?_
        refine sA_sub (lv2 := [(4, gs_iv (n - 1)), (0, .ref 0), (1, gs_iv n), (2, .long v)]) (List.forall_mem_cons.mpr ⟨(.head _), (List.forall_mem_cons.mpr ⟨(.tail _ (.head _)), (List.forall_mem_cons.mpr ⟨(.tail _ (.tail _ (.head _))), (List.forall_mem_cons.mpr ⟨(.tail _ (.tail _ (.tail _ (.head _)))), (fun _ h => absurd h List.not_mem_nil)⟩)⟩)⟩)⟩) ?_
        exact (k_X8_feed_vf hI hn ((n - 1) + 1 : Int).toNat.succ) (n - 1) F A hI hf (by omega) (by omega) (by omega) (fun j h1 h2 => by first | (exfalso; omega) | (rcases hNONE with y | y <;> first | (exfalso; omega) | exact gs_feed_ext (f := A1 46) (w := hNONE) (N := F 43 0) (m := F1 43 0 - F 43 0) (h := fun j => gs_by v (n - 1 - j)) (by omega) (by omega) (by rw [y.2.2, show F 43 0 + (F1 43 0 - F 43 0) = F1 43 0 by omega]) (by show hNONE = gs_by v (n - 1 - (F1 43 0 - F 43 0)); rw [show n - 1 - (F1 43 0 - F 43 0) = k by omega]; exact hNONE.symm) i3 j h1 (by omega) | fail) | fail) (by first | (rcases hNONE with y | y <;> first | (exfalso; omega) | exact gs_feed_low (by omega) (by omega) y.2.2 i4 | fail) | exact fun i h1 h2 => rfl | fail) (by omega) (by omega)
      · skip
        refine sA_sipush (z := (-1004)) dd_X8_feed_29 (by decide) ?_
        refine sA_iret (z := -1004) dd_X8_feed_32 rfl ?_
        refine ⟨_, rfl, hI, hf, ?_⟩
        exact .inr (.inl ⟨by omega, by omega, by omega, by omega, rfl, u20⟩)
    · skip
      refine sA_sipush (z := (-1002)) dd_X8_feed_11 (by decide) ?_
      refine sA_iret (z := -1002) dd_X8_feed_14 rfl ?_
      refine ⟨_, rfl, hI, hf, ?_⟩
      exact .inl ⟨by omega, by omega, rfl, u20⟩
theorem k_X9_feed_vf {n : Int} {v : Int64} {F A : gs_F} (hI : gs_I F A) (hn : -2147483648 ≤ n ∧ n ≤ 2147483647) : ∀ nN : Nat, (∀ (k : Int)  (F1 A1 : gs_F), gs_I F1 A1 → gs_fr (fun c j => c = 106 ∧ j = 17) (fun c => c = 116) F A F1 A1 → -1 ≤ k ∧ k ≤ 7 → 1 ≤ n ∧ n ≤ 8 ∧ F 106 17 + n ≤ 120 → F1 106 17 + k + 1 = F 106 17 + n → (∀ j : Int, 0 ≤ j → j < F1 106 17 - F 106 17 → A1 116 (F 106 17 + j).toNat = gs_by v (n - 1 - j)) → (∀ i : Int, 0 ≤ i → i < F 106 17 → A1 116 i.toNat = A 116 i.toNat) → F 106 17 ≤ F1 106 17 ∧ 0 ≤ F 106 17 → k + 1 < (nN : Int) → sA m_X9_feed 2 (fun rv F' A' => ∃ z : Int, rv = some (gs_iv z) ∧ gs_I F' A' ∧ gs_fr (fun c j => c = 106 ∧ j = 17) (fun c => c = 116) F A F' A' ∧ (gs_fd (F 106 17) n z (F' 106 17) v (A 116) (A' 116))) 36 [(4, gs_iv k), (0, .ref 106), (1, gs_iv n), (2, .long v)] [] F1 A1) := by
  intro nN
  induction nN with
  | zero =>
    exact fun a0 a1 a2 a3 a4 i0 i1 i2 i3 i4 i5 hm => by exfalso; omega
  | succ nN ih =>
    intro k F1 A1 hI1 hf1 i0 i1 i2 i3 i4 i5 hm
    have b1 : (0 : Int) ≤ F1 106 17 ∧ F1 106 17 ≤ 120 := hI1.1 106 17
    have u2 : A1 116 = A1 116 := rfl
    refine sA_iload dd_X9_feed_36 (.head _) ?_
    refine sA_if_lt (tgt := 78) dd_X9_feed_38 (by decide) (by omega) (fun q3 => ?_) (fun q3 => ?_)
    · skip
      refine sA_aload_n dd_X9_feed_78 rfl (.tail _ (.head _)) ?_
      refine sA_geti (ci := 9) (j := 17) (q := (RX9, TX9, 28)) dd_X9_feed_79 rfl (by decide) fl_X9_181 (by decide) gs_s106 rfl ?_
      refine sA_iret (z := F1 106 17) dd_X9_feed_82 rfl ?_
      refine ⟨_, rfl, hI1, hf1, ?_⟩
      exact .inr (.inr ⟨by omega, by omega, by omega, by omega, by omega, fun j h1 h2 => i3 j h1 (by omega), i4⟩)
    · skip
      refine sA_aload_n dd_X9_feed_41 rfl (.tail _ (.head _)) ?_
      refine sA_getr (ci := 9) (j := 16) (q := (RX9, TX9, 28)) dd_X9_feed_42 rfl (by decide) fl_X9_37 (by decide) gs_s106 rfl ?_
      refine sA_aload_n dd_X9_feed_45 rfl (.tail _ (.head _)) ?_
      refine sA_geti (ci := 9) (j := 17) (q := (RX9, TX9, 28)) dd_X9_feed_46 rfl (by decide) fl_X9_181 (by decide) gs_s106 rfl ?_
      refine sA_lload_n dd_X9_feed_49 rfl (.tail _ (.tail _ (.tail _ (.head _)))) ?_
      refine sA_bipush (z := 8) dd_X9_feed_50 (by decide) ?_
      refine sA_iload dd_X9_feed_52 (.head _) ?_
      refine sA_imul dd_X9_feed_54 ?_
      refine sA_lshr dd_X9_feed_55 ?_
      refine sA_ldc2 (z := 255) dd_X9_feed_56 (ri_lw_in (pl := 992) (by decide +kernel)) ?_
      refine sA_land dd_X9_feed_59 ?_
      refine sA_l2i dd_X9_feed_60 ?_
      have b4 := gs_t_rng (((v >>> ((Int32.ofInt (8 * k)).toInt64 &&& 63)) &&& (Int64.ofInt 255)).toInt32)
      generalize hw5 : gs_t (((v >>> ((Int32.ofInt (8 * k)).toInt64 &&& 63)) &&& (Int64.ofInt 255)).toInt32) = w5 at b4 ⊢
      refine sA_iast (n := 120) dd_X9_feed_61 (by decide) gs_s116 (by omega) (by decide) ?_
      have I7 : gs_I F1 (gs_up A1 116 ((F1 106 17).toNat) w5) := gs_I_ast hI1 (show (-2147483648 : Int) ≤ w5 ∧ w5 ≤ 2147483647 by omega)
      have f8 := gs_fr_ast hf1 (a := 116) (z := w5) (i := (F1 106 17).toNat) (by first | omega | (dsimp only; omega) | (dsimp only) | fail)
      have u9 : (gs_up A1 116 ((F1 106 17).toNat) w5) 116 = gs_u (A1 116) ((F1 106 17).toNat) w5 := (gs_up_u A1 116 ((F1 106 17).toNat) w5).trans (congrArg (fun f => gs_u f ((F1 106 17).toNat) w5) u2)
      generalize gs_up A1 116 ((F1 106 17).toNat) w5 = A6 at I7 f8 u9 ⊢
      refine sA_aload_n dd_X9_feed_62 rfl (.tail _ (.head _)) ?_
      refine sA_dup dd_X9_feed_63 rfl ?_
      refine sA_geti (ci := 9) (j := 17) (q := (RX9, TX9, 28)) dd_X9_feed_64 rfl (by decide) fl_X9_181 (by decide) gs_s106 rfl ?_
      refine sA_iconst (z := 1) dd_X9_feed_67 ?_
      refine sA_iadd dd_X9_feed_68 ?_
      refine sA_put (ci := 9) (j := 17) (q := (RX9, TX9, 28)) (ty := .int) dd_X9_feed_69 rfl (by decide) fl_X9_181 rfl (tyX9_ok 17 (by decide)) rfl rfl (by decide) gs_s106 rfl ?_
      have I11 : gs_I (gs_up F1 106 17 ((F1 106 17) + 1)) A6 := gs_I_put I7 (show (0 : Int) ≤ (F1 106 17) + 1 ∧ (F1 106 17) + 1 ≤ 120 by omega)
      have f12 := gs_fr_put f8 (a := 106) (z := (F1 106 17) + 1) (j := 17) (by first | omega | (dsimp only; omega) | (dsimp only) | fail)
      have v13 : gs_up F1 106 17 ((F1 106 17) + 1) 106 17 = (F1 106 17) + 1 := gs_up_self _ _ _ _
      generalize gs_up F1 106 17 ((F1 106 17) + 1) = F10 at I11 f12 v13 ⊢
      refine sA_iinc (lv' := [(4, gs_iv (k + (-1))), (0, .ref 106), (1, gs_iv n), (2, .long v)]) dd_X9_feed_72 (.head _) (by decide) rfl ?_
      refine sA_goto (tgt := 36) dd_X9_feed_75 (by decide) ?_
      have b14 : (0 : Int) ≤ F10 106 17 ∧ F10 106 17 ≤ 120 := I11.1 106 17
      refine sA_sub (lv2 := [(4, gs_iv (k + (-1))), (0, .ref 106), (1, gs_iv n), (2, .long v)]) (List.forall_mem_cons.mpr ⟨(.head _), (List.forall_mem_cons.mpr ⟨(.tail _ (.head _)), (List.forall_mem_cons.mpr ⟨(.tail _ (.tail _ (.head _))), (List.forall_mem_cons.mpr ⟨(.tail _ (.tail _ (.tail _ (.head _)))), (fun _ h => absurd h List.not_mem_nil)⟩)⟩)⟩)⟩) ?_
      exact ih (k + (-1)) F10 A6 I11 f12 (by omega) (by omega) (by omega) (fun j h1 h2 => by first | (exfalso; omega) | exact gs_feed_ext (f := A1 116) (w := w5) (N := F 106 17) (m := F1 106 17 - F 106 17) (h := fun j => gs_by v (n - 1 - j)) (by omega) (by omega) (by rw [u9, show F 106 17 + (F1 106 17 - F 106 17) = F1 106 17 by omega]) (by show w5 = gs_by v (n - 1 - (F1 106 17 - F 106 17)); rw [show n - 1 - (F1 106 17 - F 106 17) = k by omega]; exact hw5.symm) i3 j h1 (by omega) | fail) (by first | exact gs_feed_low (by omega) (by omega) u9 i4 | exact fun i h1 h2 => rfl | fail) (by omega) (by omega)
theorem c_X9_feed_vf {n : Int} {v : Int64} {F A : gs_F} (hI : gs_I F A) (hn : -2147483648 ≤ n ∧ n ≤ 2147483647) : sC m_X9_feed 2 [.ref 106, gs_iv n, .long v] F A (fun rv F' A' => ∃ z : Int, rv = some (gs_iv z) ∧ gs_I F' A' ∧ gs_fr (fun c j => c = 106 ∧ j = 17) (fun c => c = 116) F A F' A' ∧ (gs_fd (F 106 17) n z (F' 106 17) v (A 116) (A' 116))) := by
  refine sC_of ok_X9_feed.1 (Nat.le_of_ble_eq_true rfl) ?_
  show sA _ _ _ 0 [(0, .ref 106), (1, gs_iv n), (2, .long v)] [] F A
  have hf : gs_fr (fun c j => c = 106 ∧ j = 17) (fun c => c = 116) F A F A := gs_fr_refl _ _ _ _
  have b15 : (0 : Int) ≤ F 106 17 ∧ F 106 17 ≤ 120 := hI.1 106 17
  have u16 : A 116 = A 116 := rfl
  refine sA_iload_n dd_X9_feed_0 rfl (.tail _ (.head _)) ?_
  refine sA_i2l dd_X9_feed_1 (by omega) ?_
  refine sA_lconst (z := 1) dd_X9_feed_2 (by decide) ?_
  refine sA_ldc2 (z := 8) dd_X9_feed_3 (ri_lw_in (pl := 991) (by decide +kernel)) ?_
  refine sA_callS (y2 := m_X9_in) (n2 := 3) (d2 := 1) (as := [gs_lv n, gs_lv 1, gs_lv 8]) (rest := []) dd_X9_feed_6 ok_X9_in ml_X9_75 rfl rfl (Nat.le_of_ble_eq_true rfl) (by decide) (c_X9_in (by omega) (by omega) (by omega)) (fun r17 F18 A19 h20 => ?_)
  obtain ⟨z23, e22, e24, e25, x21⟩ := h20
  subst e22 e24 e25
  show sA _ _ _ 9 _ [gs_iv z23] _ _
  refine sA_if_ne (tgt := 16) dd_X9_feed_9 (by decide) (by omega) (fun q26 => ?_) (fun q26 => ?_)
  · skip
    refine sA_aload_n dd_X9_feed_16 rfl (.head _) ?_
    refine sA_geti (ci := 9) (j := 17) (q := (RX9, TX9, 28)) dd_X9_feed_17 rfl (by decide) fl_X9_181 (by decide) gs_s106 rfl ?_
    refine sA_iload_n dd_X9_feed_20 rfl (.tail _ (.head _)) ?_
    refine sA_iadd dd_X9_feed_21 ?_
    refine sA_bipush (z := 120) dd_X9_feed_22 (by decide) ?_
    refine sA_icmp_le (tgt := 31) dd_X9_feed_24 (by decide) (by omega) (by omega) (fun q27 => ?_) (fun q27 => ?_)
    · skip
      refine sA_iload_n dd_X9_feed_31 rfl (.tail _ (.head _)) ?_
      refine sA_iconst (z := 1) dd_X9_feed_32 ?_
      refine sA_isub dd_X9_feed_33 ?_
      refine sA_istore (lv' := [(4, gs_iv (n - 1)), (0, .ref 106), (1, gs_iv n), (2, .long v)]) dd_X9_feed_34 (by decide) rfl ?_
      refine sA_sub (lv2 := [(4, gs_iv (n - 1)), (0, .ref 106), (1, gs_iv n), (2, .long v)]) (List.forall_mem_cons.mpr ⟨(.head _), (List.forall_mem_cons.mpr ⟨(.tail _ (.head _)), (List.forall_mem_cons.mpr ⟨(.tail _ (.tail _ (.head _))), (List.forall_mem_cons.mpr ⟨(.tail _ (.tail _ (.tail _ (.head _)))), (fun _ h => absurd h List.not_mem_nil)⟩)⟩)⟩)⟩) ?_
      exact (k_X9_feed_vf hI hn ((n - 1) + 1 : Int).toNat.succ) (n - 1) F A hI hf (by omega) (by omega) (by omega) (fun j h1 h2 => by first | (exfalso; omega) | exact gs_feed_ext (f := A1 116) (w := hNONE) (N := F 106 17) (m := F1 106 17 - F 106 17) (h := fun j => gs_by v (n - 1 - j)) (by omega) (by omega) (by rw [u16, show F 106 17 + (F1 106 17 - F 106 17) = F1 106 17 by omega]) (by show hNONE = gs_by v (n - 1 - (F1 106 17 - F 106 17)); rw [show n - 1 - (F1 106 17 - F 106 17) = k by omega]; exact hNONE.symm) i3 j h1 (by omega) | fail) (by first | exact gs_feed_low (by omega) (by omega) u16 i4 | exact fun i h1 h2 => rfl | fail) (by omega) (by omega)
    · skip
      refine sA_sipush (z := (-1004)) dd_X9_feed_27 (by decide) ?_
      refine sA_iret (z := -1004) dd_X9_feed_30 rfl ?_
      refine ⟨_, rfl, hI, hf, ?_⟩
      exact .inr (.inl ⟨by omega, by omega, by omega, by omega, rfl, u16⟩)
  · skip
    refine sA_sipush (z := (-1002)) dd_X9_feed_12 (by decide) ?_
    refine sA_iret (z := -1002) dd_X9_feed_15 rfl ?_
    refine ⟨_, rfl, hI, hf, ?_⟩
    exact .inl ⟨by omega, by omega, rfl, u16⟩
theorem c_X8_read_vf {p : Int} {F A : gs_F} (hI : gs_I F A) (hp : -2147483648 ≤ p ∧ p ≤ 2147483647) : sC m_X8_read 5 [.ref 0, gs_iv p] F A (fun rv F' A' => ∃ z : Int, rv = some (gs_iv z) ∧ gs_I F' A' ∧ gs_fr (fun c j => c = 43 ∨ (c = 44 ∧ j = 1) ∨ (0 ≤ p ∧ p ≤ 7 ∧ c = 90 + 2 * p.toNat ∧ j = 1)) (fun c => c = 45 ∨ c = 47 ∨ (0 ≤ p ∧ p ≤ 7 ∧ c = 90 + 2 * p.toNat + 1)) F A F' A' ∧ (((p < 0 ∨ 7 < p) ∧ z = -1001 ∧ F' = F ∧ A' = A) ∨ (0 ≤ p ∧ p ≤ 7 ∧ F' 43 0 = 0 ∧ ((z ≤ -11 ∧ rd_fin (rd_c F A (F 0 11) (F 43 0).toNat) (F 43 0) = (-10 - z, F' 43 1) ∧ F' (90 + 2 * p.toNat) 1 = F (90 + 2 * p.toNat) 1 ∧ A' (90 + 2 * p.toNat + 1) = A (90 + 2 * p.toNat + 1)) ∨ (0 ≤ z ∧ F' 43 1 = -1 ∧ rd_fin (rd_c F A (F 0 11) (F 43 0).toNat) (F 43 0) = (0, -1) ∧ z = (rd_c F A (F 0 11) (F 43 0).toNat).2.2.2.2.2.2.1 ∧ F' (90 + 2 * p.toNat) 1 = z ∧ (∀ i : Int, 0 ≤ i → i < z → A' (90 + 2 * p.toNat + 1) i.toNat = (rd_c F A (F 0 11) (F 43 0).toNat).2.2.2.2.2.2.2.1 i.toNat)))))) := by
  refine sC_of ok_X8_read.1 (Nat.le_of_ble_eq_true rfl) ?_
  show sA _ _ _ 0 [(0, .ref 0), (1, gs_iv p)] [] F A
  have hf : gs_fr (fun c j => c = 43 ∨ (c = 44 ∧ j = 1) ∨ (0 ≤ p ∧ p ≤ 7 ∧ c = 90 + 2 * p.toNat ∧ j = 1)) (fun c => c = 45 ∨ c = 47 ∨ (0 ≤ p ∧ p ≤ 7 ∧ c = 90 + 2 * p.toNat + 1)) F A F A := gs_fr_refl _ _ _ _
  have b1 : (0 : Int) ≤ F 43 0 ∧ F 43 0 ≤ 120 := hI.1 43 0
  have b2 : (-2147483648 : Int) ≤ F 43 1 ∧ F 43 1 ≤ 2147483647 := hI.1 43 1
  have b3 := gs_plan_sz gs_plan_44 hI
  have u4 : A 45 = A 45 := rfl
  have u5 : A (90 + 2 * p.toNat + 1) = A (90 + 2 * p.toNat + 1) := rfl
  refine sA_iload_n dd_X8_read_0 rfl (.tail _ (.head _)) ?_
  refine sA_callS (y2 := m_X8_isPlan) (n2 := 1) (d2 := 1) (as := [gs_iv p]) (rest := []) dd_X8_read_1 ok_X8_isPlan ml_X8_148 rfl rfl (Nat.le_of_ble_eq_true rfl) (by decide) (c_X8_isPlan (by omega)) (fun r6 F7 A8 h9 => ?_)
  obtain ⟨z12, e11, e13, e14, x10⟩ := h9
  subst e11 e13 e14
  show sA _ _ _ 4 _ [gs_iv z12] _ _
  refine sA_if_ne (tgt := 11) dd_X8_read_4 (by decide) (by omega) (fun q15 => ?_) (fun q15 => ?_)
  · skip
    refine sA_aload_n dd_X8_read_11 rfl (.head _) ?_
    refine sA_getr (ci := 8) (j := 7) (q := (RX8, TX8, 13)) dd_X8_read_12 rfl (by decide) fl_X8_65 (by decide) gs_s0 rfl ?_
    refine sA_aload_n dd_X8_read_15 rfl (.head _) ?_
    refine sA_geti (ci := 8) (j := 11) (q := (RX8, TX8, 13)) dd_X8_read_16 rfl (by decide) fl_X8_84 (by decide) gs_s0 rfl ?_
    have b16 : (1 : Int) ≤ F 0 11 ∧ F 0 11 ≤ 3 := hI.1 0 11
    refine sA_callV (y2 := m_X6_understand) (n2 := 1) (d2 := 4) (a := 43) (ci := 6) (q := (RX6, TX6, 10)) (as := [gs_iv (F 0 11)]) (rest := []) dd_X8_read_19 ok_X6_understand ml_X8_151 rfl rfl (by decide) gs_s43 rfl rfl (Nat.le_of_ble_eq_true rfl) (by decide) (c_X6_understand_vf hI (by omega)) (fun r17 F18 A19 h20 => ?_)
    obtain ⟨z23, e22, I24, f25, x21⟩ := h20
    subst e22
    have v26 : F18 43 0 = F 43 0 := f25.1 43 0 (by first | exact id | omega | (dsimp only; omega) | (dsimp only) | fail)
    have v29 : F18 (90 + 2 * p.toNat) 1 = F (90 + 2 * p.toNat) 1 := f25.1 (90 + 2 * p.toNat) 1 (by first | exact id | omega | (dsimp only; omega) | (dsimp only) | fail)
    have f30 := gs_fr_tr hf f25 (fun b j h => by first | exact False.elim h | omega | (dsimp only at h ⊢; omega) | fail) (fun b h => by first | exact False.elim h | omega | (dsimp only at h ⊢; omega) | fail)
    have u31 : A19 45 = A19 45 := rfl
    have u32 : A19 (90 + 2 * p.toNat + 1) = A (90 + 2 * p.toNat + 1) := (f25.2 (90 + 2 * p.toNat + 1) (by first | exact id | omega | (dsimp only; omega) | (dsimp only) | fail)).trans u5
    have y33 : (0 ≤ z23 ∧ z23 ≤ 4) ∧ (rd_fin (rd_c F A (F 0 11) (F 43 0).toNat) (F 43 0) = (z23, F18 43 1)) ∧ (z23 = 0 → rd_c F A (F 0 11) (F 43 0).toNat = (0, 0, F18 43 7, F18 43 8, F18 43 9, F18 43 6, F18 44 1, A19 45, A19 47)) := x21
    clear x21
    show sA _ _ _ 22 _ [gs_iv z23] _ _
    refine sA_istore_n (lv' := [(2, gs_iv z23), (0, .ref 0), (1, gs_iv p)]) dd_X8_read_22 rfl (by decide) rfl ?_
    refine sA_aload_n dd_X8_read_23 rfl (.tail _ (.head _)) ?_
    refine sA_getr (ci := 8) (j := 7) (q := (RX8, TX8, 13)) dd_X8_read_24 rfl (by decide) fl_X8_65 (by decide) gs_s0 rfl ?_
    refine sA_iconst (z := 0) dd_X8_read_27 ?_
    refine sA_put (ci := 6) (j := 0) (q := (RX6, TX6, 10)) (ty := .int) dd_X8_read_28 rfl (by decide) fl_X8_142 rfl (tyX6_ok 0 (by decide)) rfl rfl (by decide) gs_s43 rfl ?_
    have I35 : gs_I (gs_up F18 43 0 0) A19 := gs_I_put I24 (show (0 : Int) ≤ 0 ∧ 0 ≤ 120 by omega)
    have f36 := gs_fr_put f30 (a := 43) (z := 0) (j := 0) (by first | omega | (dsimp only; omega) | (dsimp only) | fail)
    have v37 : gs_up F18 43 0 0 43 0 = 0 := gs_up_self _ _ _ _
    have v38 : (gs_up F18 43 0 0) 43 1 = F18 43 1 := gs_up_ne _ _ (by omega)
    have v39 : (gs_up F18 43 0 0) 44 1 = F18 44 1 := gs_up_ne _ _ (by omega)
    have v40 : (gs_up F18 43 0 0) (90 + 2 * p.toNat) 1 = F18 (90 + 2 * p.toNat) 1 := gs_up_ne _ _ (by omega)
    generalize gs_up F18 43 0 0 = F34 at I35 f36 v37 v38 v39 v40 ⊢
    refine sA_iload_n dd_X8_read_31 rfl (.head _) ?_
    refine sA_if_eq (tgt := 40) dd_X8_read_32 (by decide) (by omega) (fun q41 => ?_) (fun q41 => ?_)
    · skip
      refine sA_aload_n dd_X8_read_40 rfl (.tail _ (.head _)) ?_
      refine sA_getr (ci := 8) (j := 1) (q := (RX8, TX8, 13)) dd_X8_read_41 rfl (by decide) fl_X8_17 (by decide) gs_s0 rfl ?_
      refine sA_iload_n dd_X8_read_44 rfl (.tail _ (.tail _ (.head _))) ?_
      refine sA_aald (n := 8) dd_X8_read_45 (by decide) (by decide) (by decide) gs_s2 (by omega) (by decide) ?_
      have g42 := gs_plan_at (k := p.toNat) (by omega)
      refine sA_aload_n dd_X8_read_46 rfl (.tail _ (.head _)) ?_
      refine sA_getr (ci := 8) (j := 7) (q := (RX8, TX8, 13)) dd_X8_read_47 rfl (by decide) fl_X8_65 (by decide) gs_s0 rfl ?_
      refine sA_getr (ci := 6) (j := 2) (q := (RX6, TX6, 10)) dd_X8_read_50 rfl (by decide) fl_X8_155 (by decide) gs_s43 rfl ?_
      refine sA_callV (y2 := m_X2_copy) (n2 := 1) (d2 := 1) (a := (90 + 2 * p.toNat)) (ci := 2) (q := (RX2, TX2, 2)) (as := [.ref 44]) (rest := []) dd_X8_read_53 ok_X2_copy ml_X8_158 rfl rfl (Nat.lt_of_succ_lt g42.1) g42.2.1 rfl rfl (Nat.le_of_ble_eq_true rfl) (by decide) (c_X2_copy_vf I35 g42 gs_plan_44) (fun r43 F44 A45 h46 => ?_)
      obtain ⟨e48, I49, f50, x47⟩ := h46
      subst e48
      have v51 : F44 43 0 = F34 43 0 := f50.1 43 0 (by first | exact id | omega | (dsimp only; omega) | (dsimp only) | fail)
      have v52 : F44 43 1 = F34 43 1 := f50.1 43 1 (by first | exact id | omega | (dsimp only; omega) | (dsimp only) | fail)
      have v53 : F44 44 1 = F34 44 1 := f50.1 44 1 (by first | exact id | omega | (dsimp only; omega) | (dsimp only) | fail)
      have f55 := gs_fr_tr f36 f50 (fun b j h => by first | exact False.elim h | omega | (dsimp only at h ⊢; omega) | fail) (fun b h => by first | exact False.elim h | omega | (dsimp only at h ⊢; omega) | fail)
      have u56 : A45 45 = A19 45 := (f50.2 45 (by first | exact id | omega | (dsimp only; omega) | (dsimp only) | fail)).trans u31
      have u57 : A45 (90 + 2 * p.toNat + 1) = A45 (90 + 2 * p.toNat + 1) := rfl
      have y58 : F44 (90 + 2 * p.toNat) 1 = F34 44 1 ∧ A45 ((90 + 2 * p.toNat) + 1) = gs_cc (A19 45) (A19 ((90 + 2 * p.toNat) + 1)) 0 0 (F34 44 1).toNat := x47
      clear x47
      show sA _ _ _ 56 _ [] _ _
      refine sA_aload_n dd_X8_read_56 rfl (.tail _ (.head _)) ?_
      refine sA_getr (ci := 8) (j := 1) (q := (RX8, TX8, 13)) dd_X8_read_57 rfl (by decide) fl_X8_17 (by decide) gs_s0 rfl ?_
      refine sA_iload_n dd_X8_read_60 rfl (.tail _ (.tail _ (.head _))) ?_
      refine sA_aald (n := 8) dd_X8_read_61 (by decide) (by decide) (by decide) gs_s2 (by omega) (by decide) ?_
      have g59 := gs_plan_at (k := p.toNat) (by omega)
      refine sA_geti (ci := 2) (j := 1) (q := (RX2, TX2, 2)) dd_X8_read_62 rfl (by decide) fl_X8_162 (Nat.lt_of_succ_lt g59.1) g59.2.1 rfl ?_
      have b60 := gs_plan_sz g59 I49
      refine sA_iret (z := F44 (90 + 2 * p.toNat) 1) dd_X8_read_65 rfl ?_
      refine ⟨_, rfl, I49, f55, ?_⟩
      have y1 := y33.2.1
      have y2 := y33.2.2 (by omega)
      rw [show z23 = 0 by omega] at y1
      have y3 := rd_fin_0 y1
      rw [y3.1] at y1
      have c1 := y58.1
      have c2 := y58.2
      refine .inr ⟨by omega, by omega, by omega, .inr ⟨by omega, by omega, y1, ?_, rfl, fun i h1 h2 => ?_⟩⟩
      · rw [y2]
        show F44 (90 + 2 * p.toNat) 1 = F18 44 1
        omega
      · rw [y2]
        show A45 (90 + 2 * p.toNat + 1) i.toNat = A19 45 i.toNat
        rw [c2]
        unfold gs_cc
        rw [if_pos (by omega), Nat.zero_add, Nat.sub_zero]
    · skip
      refine sA_bipush (z := (-10)) dd_X8_read_35 (by decide) ?_
      refine sA_iload_n dd_X8_read_37 rfl (.head _) ?_
      refine sA_isub dd_X8_read_38 ?_
      refine sA_iret (z := (-10) - z23) dd_X8_read_39 rfl ?_
      refine ⟨_, rfl, I35, f36, ?_⟩
      refine .inr ⟨by omega, by omega, by omega, .inl ⟨by omega, ?_, by omega, u32⟩⟩
      rw [y33.2.1, show -10 - (-10 - z23) = z23 by omega, show F34 43 1 = F18 43 1 by omega]
  · skip
    refine sA_sipush (z := (-1001)) dd_X8_read_7 (by decide) ?_
    refine sA_iret (z := -1001) dd_X8_read_10 rfl ?_
    refine ⟨_, rfl, hI, hf, ?_⟩
    exact .inl ⟨by omega, by omega, rfl, rfl⟩
theorem c_X2_codeOrSize_vf {a : Nat} {i : Int} {F A : gs_F} (hI : gs_I F A) (hr : gs_plan a) (hi : -2147483648 ≤ i ∧ i ≤ 2147483647) : sC m_X2_codeOrSize 1 [.ref a, gs_iv i] F A (fun rv F' A' => ∃ z : Int, rv = some (gs_iv z) ∧ F = F' ∧ A = A' ∧ ((i = -1 ∧ z = F a 1) ∨ (i ≠ -1 ∧ 0 ≤ i ∧ i < F a 1 ∧ z = A (a + 1) i.toNat) ∨ (i ≠ -1 ∧ (i < 0 ∨ F a 1 ≤ i) ∧ z = -1))) := by
  refine sC_of ok_X2_codeOrSize.1 (Nat.le_of_ble_eq_true rfl) ?_
  show sA _ _ _ 0 [(0, .ref a), (1, gs_iv i)] [] F A
  have b1 := gs_plan_sz hr hI
  refine sA_iload_n dd_X2_codeOrSize_0 rfl (.tail _ (.head _)) ?_
  refine sA_iconst (z := (-1)) dd_X2_codeOrSize_1 ?_
  refine sA_icmp_ne (tgt := 10) dd_X2_codeOrSize_2 (by decide) (by omega) (by omega) (fun q2 => ?_) (fun q2 => ?_)
  · skip
    refine sA_iload_n dd_X2_codeOrSize_10 rfl (.tail _ (.head _)) ?_
    refine sA_if_lt (tgt := 31) dd_X2_codeOrSize_11 (by decide) (by omega) (fun q3 => ?_) (fun q3 => ?_)
    · skip
      refine sA_iconst (z := (-1)) dd_X2_codeOrSize_31 ?_
      refine sA_iret (z := -1) dd_X2_codeOrSize_32 rfl ?_
      exact ⟨_, rfl, rfl, rfl, by omega⟩
    · skip
      refine sA_iload_n dd_X2_codeOrSize_14 rfl (.tail _ (.head _)) ?_
      refine sA_aload_n dd_X2_codeOrSize_15 rfl (.head _) ?_
      refine sA_geti (ci := 2) (j := 1) (q := (RX2, TX2, 2)) dd_X2_codeOrSize_16 rfl (by decide) fl_X2_15 (Nat.lt_of_succ_lt hr.1) hr.2.1 rfl ?_
      refine sA_icmp_ge (tgt := 31) dd_X2_codeOrSize_19 (by decide) (by omega) (by omega) (fun q4 => ?_) (fun q4 => ?_)
      · skip
        refine sA_iconst (z := (-1)) dd_X2_codeOrSize_31 ?_
        refine sA_iret (z := -1) dd_X2_codeOrSize_32 rfl ?_
        exact ⟨_, rfl, rfl, rfl, by omega⟩
      · skip
        refine sA_aload_n dd_X2_codeOrSize_22 rfl (.head _) ?_
        refine sA_getr (ci := 2) (j := 0) (q := (RX2, TX2, 2)) dd_X2_codeOrSize_23 rfl (by decide) fl_X2_9 (Nat.lt_of_succ_lt hr.1) hr.2.1 rfl ?_
        refine sA_iload_n dd_X2_codeOrSize_26 rfl (.tail _ (.head _)) ?_
        refine sA_iald (n := 60) dd_X2_codeOrSize_27 hr.1 hr.2.2.1 (by omega) (by decide) ?_
        have b5 := gs_plan_el hr hI i.toNat
        refine sA_goto (tgt := 32) dd_X2_codeOrSize_28 (by decide) ?_
        refine sA_iret (z := A (a + 1) i.toNat) dd_X2_codeOrSize_32 rfl ?_
        exact ⟨_, rfl, rfl, rfl, by omega⟩
  · skip
    refine sA_aload_n dd_X2_codeOrSize_5 rfl (.head _) ?_
    refine sA_geti (ci := 2) (j := 1) (q := (RX2, TX2, 2)) dd_X2_codeOrSize_6 rfl (by decide) fl_X2_15 (Nat.lt_of_succ_lt hr.1) hr.2.1 rfl ?_
    refine sA_iret (z := F a 1) dd_X2_codeOrSize_9 rfl ?_
    exact ⟨_, rfl, rfl, rfl, by omega⟩
theorem c_X8_twist_vf {p i : Int} {F A : gs_F} (hI : gs_I F A) (hp : -2147483648 ≤ p ∧ p ≤ 2147483647) (hi : -2147483648 ≤ i ∧ i ≤ 2147483647) : sC m_X8_twist 2 [.ref 0, gs_iv p, gs_iv i] F A (fun rv F' A' => ∃ z : Int, rv = some (gs_iv z) ∧ F = F' ∧ A = A' ∧ (((p < 0 ∨ 7 < p) ∧ z = -1001) ∨ (0 ≤ p ∧ p ≤ 7 ∧ ((i = -1 ∧ z = F (90 + 2 * p.toNat) 1) ∨ (i ≠ -1 ∧ 0 ≤ i ∧ i < F (90 + 2 * p.toNat) 1 ∧ z = A (90 + 2 * p.toNat + 1) i.toNat) ∨ (i ≠ -1 ∧ (i < 0 ∨ F (90 + 2 * p.toNat) 1 ≤ i) ∧ z = -1))))) := by
  refine sC_of ok_X8_twist.1 (Nat.le_of_ble_eq_true rfl) ?_
  show sA _ _ _ 0 [(0, .ref 0), (1, gs_iv p), (2, gs_iv i)] [] F A
  refine sA_iload_n dd_X8_twist_0 rfl (.tail _ (.head _)) ?_
  refine sA_callS (y2 := m_X8_isPlan) (n2 := 1) (d2 := 1) (as := [gs_iv p]) (rest := []) dd_X8_twist_1 ok_X8_isPlan ml_X8_148 rfl rfl (Nat.le_of_ble_eq_true rfl) (by decide) (c_X8_isPlan (by omega)) (fun r1 F2 A3 h4 => ?_)
  obtain ⟨z7, e6, e8, e9, x5⟩ := h4
  subst e6 e8 e9
  show sA _ _ _ 4 _ [gs_iv z7] _ _
  refine sA_if_eq (tgt := 20) dd_X8_twist_4 (by decide) (by omega) (fun q10 => ?_) (fun q10 => ?_)
  · skip
    refine sA_sipush (z := (-1001)) dd_X8_twist_20 (by decide) ?_
    refine sA_iret (z := -1001) dd_X8_twist_23 rfl ?_
    exact ⟨_, rfl, rfl, rfl, by omega⟩
  · skip
    refine sA_aload_n dd_X8_twist_7 rfl (.head _) ?_
    refine sA_getr (ci := 8) (j := 1) (q := (RX8, TX8, 13)) dd_X8_twist_8 rfl (by decide) fl_X8_17 (by decide) gs_s0 rfl ?_
    refine sA_iload_n dd_X8_twist_11 rfl (.tail _ (.head _)) ?_
    refine sA_aald (n := 8) dd_X8_twist_12 (by decide) (by decide) (by decide) gs_s2 (by omega) (by decide) ?_
    have g11 := gs_plan_at (k := p.toNat) (by omega)
    refine sA_iload_n dd_X8_twist_13 rfl (.tail _ (.tail _ (.head _))) ?_
    refine sA_callV (y2 := m_X2_codeOrSize) (n2 := 1) (d2 := 1) (a := (90 + 2 * p.toNat)) (ci := 2) (q := (RX2, TX2, 2)) (as := [gs_iv i]) (rest := []) dd_X8_twist_14 ok_X2_codeOrSize ml_X8_166 rfl rfl (Nat.lt_of_succ_lt g11.1) g11.2.1 rfl rfl (Nat.le_of_ble_eq_true rfl) (by decide) (c_X2_codeOrSize_vf hI g11 (by omega)) (fun r12 F13 A14 h15 => ?_)
    obtain ⟨z18, e17, e19, e20, x16⟩ := h15
    subst e17 e19 e20
    have y21 : (i = -1 ∧ z18 = F (90 + 2 * p.toNat) 1) ∨ (i ≠ -1 ∧ 0 ≤ i ∧ i < F (90 + 2 * p.toNat) 1 ∧ z18 = A ((90 + 2 * p.toNat) + 1) i.toNat) ∨ (i ≠ -1 ∧ (i < 0 ∨ F (90 + 2 * p.toNat) 1 ≤ i) ∧ z18 = -1) := x16
    clear x16
    show sA _ _ _ 17 _ [gs_iv z18] _ _
    refine sA_goto (tgt := 23) dd_X8_twist_17 (by decide) ?_
    refine sA_iret (z := z18) dd_X8_twist_23 rfl ?_
    exact ⟨_, rfl, rfl, rfl, by omega⟩
theorem c_X9_twist_vf {p i : Int} {F A : gs_F} (hI : gs_I F A) (hp : -2147483648 ≤ p ∧ p ≤ 2147483647) (hi : -2147483648 ≤ i ∧ i ≤ 2147483647) : sC m_X9_twist 3 [.ref 106, gs_iv p, gs_iv i] F A (fun rv F' A' => ∃ z : Int, rv = some (gs_iv z) ∧ F = F' ∧ A = A' ∧ (((p < 0 ∨ 7 < p) ∧ z = -1001) ∨ (0 ≤ p ∧ p ≤ 7 ∧ ((i = -1 ∧ z = A 110 p.toNat) ∨ (i ≠ -1 ∧ 0 ≤ i ∧ i < A 110 p.toNat ∧ z = A 111 (60 * p + i).toNat) ∨ (i ≠ -1 ∧ (i < 0 ∨ A 110 p.toNat ≤ i) ∧ z = -1))))) := by
  refine sC_of ok_X9_twist.1 (Nat.le_of_ble_eq_true rfl) ?_
  show sA _ _ _ 0 [(0, .ref 106), (1, gs_iv p), (2, gs_iv i)] [] F A
  refine sA_aload_n dd_X9_twist_0 rfl (.head _) ?_
  refine sA_iload_n dd_X9_twist_1 rfl (.tail _ (.head _)) ?_
  refine sA_callV (y2 := m_X9_noPlan) (n2 := 1) (d2 := 2) (a := 106) (ci := 9) (q := (RX9, TX9, 28)) (as := [gs_iv p]) (rest := []) dd_X9_twist_2 ok_X9_noPlan ml_X9_218 rfl rfl (by decide) gs_s106 rfl rfl (Nat.le_of_ble_eq_true rfl) (by decide) (c_X9_noPlan hI (by omega)) (fun r1 F2 A3 h4 => ?_)
  obtain ⟨z7, e6, e8, e9, x5⟩ := h4
  subst e6 e8 e9
  show sA _ _ _ 5 _ [gs_iv z7] _ _
  refine sA_if_eq (tgt := 12) dd_X9_twist_5 (by decide) (by omega) (fun q10 => ?_) (fun q10 => ?_)
  · skip
    refine sA_iload_n dd_X9_twist_12 rfl (.tail _ (.tail _ (.head _))) ?_
    refine sA_iconst (z := (-1)) dd_X9_twist_13 ?_
    refine sA_icmp_ne (tgt := 26) dd_X9_twist_14 (by decide) (by omega) (by omega) (fun q11 => ?_) (fun q11 => ?_)
    · skip
      refine sA_iload_n dd_X9_twist_26 rfl (.tail _ (.tail _ (.head _))) ?_
      refine sA_i2l dd_X9_twist_27 (by omega) ?_
      refine sA_lconst (z := 0) dd_X9_twist_28 (by decide) ?_
      refine sA_aload_n dd_X9_twist_29 rfl (.head _) ?_
      refine sA_getr (ci := 9) (j := 6) (q := (RX9, TX9, 28)) dd_X9_twist_30 rfl (by decide) fl_X9_19 (by decide) gs_s106 rfl ?_
      refine sA_iload_n dd_X9_twist_33 rfl (.tail _ (.head _)) ?_
      refine sA_iald (n := 9) dd_X9_twist_34 (by decide) gs_s110 (by omega) (by decide) ?_
      have b12 : (0 : Int) ≤ A 110 p.toNat ∧ A 110 p.toNat ≤ 60 := hI.2 110 p.toNat
      refine sA_iconst (z := 1) dd_X9_twist_35 ?_
      refine sA_isub dd_X9_twist_36 ?_
      refine sA_i2l dd_X9_twist_37 (by omega) ?_
      refine sA_callS (y2 := m_X9_in) (n2 := 3) (d2 := 1) (as := [gs_lv i, gs_lv 0, gs_lv ((A 110 p.toNat) - 1)]) (rest := []) dd_X9_twist_38 ok_X9_in ml_X9_75 rfl rfl (Nat.le_of_ble_eq_true rfl) (by decide) (c_X9_in (by omega) (by omega) (by omega)) (fun r13 F14 A15 h16 => ?_)
      obtain ⟨z19, e18, e20, e21, x17⟩ := h16
      subst e18 e20 e21
      show sA _ _ _ 41 _ [gs_iv z19] _ _
      refine sA_if_eq (tgt := 58) dd_X9_twist_41 (by decide) (by omega) (fun q22 => ?_) (fun q22 => ?_)
      · skip
        refine sA_iconst (z := (-1)) dd_X9_twist_58 ?_
        refine sA_iret (z := -1) dd_X9_twist_59 rfl ?_
        exact ⟨_, rfl, rfl, rfl, by omega⟩
      · skip
        refine sA_aload_n dd_X9_twist_44 rfl (.head _) ?_
        refine sA_getr (ci := 9) (j := 7) (q := (RX9, TX9, 28)) dd_X9_twist_45 rfl (by decide) fl_X9_22 (by decide) gs_s106 rfl ?_
        refine sA_bipush (z := 60) dd_X9_twist_48 (by decide) ?_
        refine sA_iload_n dd_X9_twist_50 rfl (.tail _ (.head _)) ?_
        refine sA_imul dd_X9_twist_51 ?_
        refine sA_iload_n dd_X9_twist_52 rfl (.tail _ (.tail _ (.head _))) ?_
        refine sA_iadd dd_X9_twist_53 ?_
        refine sA_iald (n := 540) dd_X9_twist_54 (by decide) gs_s111 (by omega) (by decide) ?_
        have b23 : (-2147483648 : Int) ≤ A 111 ((60 * p) + i).toNat ∧ A 111 ((60 * p) + i).toNat ≤ 2147483647 := hI.2 111 ((60 * p) + i).toNat
        refine sA_goto (tgt := 59) dd_X9_twist_55 (by decide) ?_
        refine sA_iret (z := A 111 ((60 * p) + i).toNat) dd_X9_twist_59 rfl ?_
        exact ⟨_, rfl, rfl, rfl, by omega⟩
    · skip
      refine sA_aload_n dd_X9_twist_17 rfl (.head _) ?_
      refine sA_getr (ci := 9) (j := 6) (q := (RX9, TX9, 28)) dd_X9_twist_18 rfl (by decide) fl_X9_19 (by decide) gs_s106 rfl ?_
      refine sA_iload_n dd_X9_twist_21 rfl (.tail _ (.head _)) ?_
      refine sA_iald (n := 9) dd_X9_twist_22 (by decide) gs_s110 (by omega) (by decide) ?_
      have b24 : (0 : Int) ≤ A 110 p.toNat ∧ A 110 p.toNat ≤ 60 := hI.2 110 p.toNat
      refine sA_goto (tgt := 59) dd_X9_twist_23 (by decide) ?_
      refine sA_iret (z := A 110 p.toNat) dd_X9_twist_59 rfl ?_
      exact ⟨_, rfl, rfl, rfl, by omega⟩
  · skip
    refine sA_sipush (z := (-1001)) dd_X9_twist_8 (by decide) ?_
    refine sA_iret (z := -1001) dd_X9_twist_11 rfl ?_
    exact ⟨_, rfl, rfl, rfl, by omega⟩
theorem c_X8_fault_vf  {F A : gs_F} (hI : gs_I F A)  : sC m_X8_fault 1 [.ref 0] F A (fun rv F' A' => ∃ z : Int, rv = some (gs_iv z) ∧ F = F' ∧ A = A' ∧ (z = F 43 1)) := by
  refine sC_of ok_X8_fault.1 (Nat.le_of_ble_eq_true rfl) ?_
  show sA _ _ _ 0 [(0, .ref 0)] [] F A
  refine sA_aload_n dd_X8_fault_0 rfl (.head _) ?_
  refine sA_getr (ci := 8) (j := 7) (q := (RX8, TX8, 13)) dd_X8_fault_1 rfl (by decide) fl_X8_65 (by decide) gs_s0 rfl ?_
  refine sA_geti (ci := 6) (j := 1) (q := (RX6, TX6, 10)) dd_X8_fault_4 rfl (by decide) fl_X8_163 (by decide) gs_s43 rfl ?_
  have b1 : (-2147483648 : Int) ≤ F 43 1 ∧ F 43 1 ≤ 2147483647 := hI.1 43 1
  refine sA_iret (z := F 43 1) dd_X8_fault_7 rfl ?_
  exact ⟨_, rfl, rfl, rfl, by omega⟩
theorem c_X9_fault_vf  {F A : gs_F} (hI : gs_I F A)  : sC m_X9_fault 1 [.ref 106] F A (fun rv F' A' => ∃ z : Int, rv = some (gs_iv z) ∧ F = F' ∧ A = A' ∧ (z = F 106 20)) := by
  refine sC_of ok_X9_fault.1 (Nat.le_of_ble_eq_true rfl) ?_
  show sA _ _ _ 0 [(0, .ref 106)] [] F A
  refine sA_aload_n dd_X9_fault_0 rfl (.head _) ?_
  refine sA_geti (ci := 9) (j := 20) (q := (RX9, TX9, 28)) dd_X9_fault_1 rfl (by decide) fl_X9_40 (by decide) gs_s106 rfl ?_
  have b1 : (-2147483648 : Int) ≤ F 106 20 ∧ F 106 20 ≤ 2147483647 := hI.1 106 20
  refine sA_iret (z := F 106 20) dd_X9_fault_4 rfl ?_
  exact ⟨_, rfl, rfl, rfl, by omega⟩
theorem k_X2_addAll_vf {a b : Nat} {F A : gs_F} (hI : gs_I F A) (hr : gs_plan a) (ho : gs_plan b) (hab : a ≠ b) (hsum : F a 1 + F b 1 ≤ 60) (hab2 : a + 1 ≠ b ∧ b + 1 ≠ a) : ∀ nN : Nat, (∀ (k : Int)  (F1 A1 : gs_F), gs_I F1 A1 → gs_fr (fun c j => c = a ∧ j = 1) (fun c => c = a + 1) F A F1 A1 → 0 ≤ k → k ≤ F1 b 1 → F1 b 1 = F b 1 → F a 1 + F b 1 ≤ 60 → F1 a 1 = F a 1 + k ∧ 0 ≤ F a 1 → (∀ j : Int, 0 ≤ j → j < k → A1 (a + 1) (F a 1 + j).toNat = A (b + 1) j.toNat) → (∀ i : Int, 0 ≤ i → i < F a 1 → A1 (a + 1) i.toNat = A (a + 1) i.toNat) → F1 b 1 - k < (nN : Int) → sA m_X2_addAll 2 (fun rv F' A' => rv = none ∧ gs_I F' A' ∧ gs_fr (fun c j => c = a ∧ j = 1) (fun c => c = a + 1) F A F' A' ∧ (F' a 1 = F a 1 + F b 1 ∧ (∀ j : Int, 0 ≤ j → j < F b 1 → A' (a + 1) (F a 1 + j).toNat = A (b + 1) j.toNat) ∧ (∀ i : Int, 0 ≤ i → i < F a 1 → A' (a + 1) i.toNat = A (a + 1) i.toNat))) 2 [(2, gs_iv k), (0, .ref a), (1, .ref b)] [] F1 A1) := by
  intro nN
  induction nN with
  | zero =>
    exact fun a0 a1 a2 a3 a4 i0 i1 i2 i3 i4 i5 i6 hm => by exfalso; omega
  | succ nN ih =>
    intro k F1 A1 hI1 hf1 i0 i1 i2 i3 i4 i5 i6 hm
    have b1 := gs_plan_sz hr hI1
    have b2 := gs_plan_sz ho hI1
    refine sA_iload_n dd_X2_addAll_2 rfl (.head _) ?_
    refine sA_aload_n dd_X2_addAll_3 rfl (.tail _ (.tail _ (.head _))) ?_
    refine sA_geti (ci := 2) (j := 1) (q := (RX2, TX2, 2)) dd_X2_addAll_4 rfl (by decide) fl_X2_15 (Nat.lt_of_succ_lt ho.1) ho.2.1 rfl ?_
    refine sA_icmp_ge (tgt := 26) dd_X2_addAll_7 (by decide) (by omega) (by omega) (fun q3 => ?_) (fun q3 => ?_)
    · skip
      refine sA_vret dd_X2_addAll_26 rfl ?_
      refine ⟨rfl, hI1, hf1, ?_⟩
      exact ⟨by omega, fun j h1 h2 => i5 j h1 (by omega), i6⟩
    · skip
      refine sA_aload_n dd_X2_addAll_10 rfl (.tail _ (.head _)) ?_
      refine sA_aload_n dd_X2_addAll_11 rfl (.tail _ (.tail _ (.head _))) ?_
      refine sA_getr (ci := 2) (j := 0) (q := (RX2, TX2, 2)) dd_X2_addAll_12 rfl (by decide) fl_X2_9 (Nat.lt_of_succ_lt ho.1) ho.2.1 rfl ?_
      refine sA_iload_n dd_X2_addAll_15 rfl (.head _) ?_
      refine sA_iald (n := 60) dd_X2_addAll_16 ho.1 ho.2.2.1 (by omega) (by decide) ?_
      have b4 := gs_plan_el ho hI1 k.toNat
      refine sA_callV (y2 := m_X2_add) (n2 := 1) (d2 := 1) (a := a) (ci := 2) (q := (RX2, TX2, 2)) (as := [gs_iv (A1 (b + 1) k.toNat)]) (rest := []) dd_X2_addAll_17 ok_X2_add ml_X2_19 rfl rfl (Nat.lt_of_succ_lt hr.1) hr.2.1 rfl rfl (Nat.le_of_ble_eq_true rfl) (by decide) (c_X2_add_vf hI1 hr (by omega)) (fun r5 F6 A7 h8 => ?_)
      obtain ⟨e10, I11, f12, x9⟩ := h8
      subst e10
      have v13 : F6 b 1 = F1 b 1 := f12.1 b 1 (by first | exact id | omega | (dsimp only; omega) | (dsimp only) | fail)
      have f14 := gs_fr_tr hf1 f12 (fun b j h => by first | exact False.elim h | omega | (dsimp only at h ⊢; omega) | fail) (fun b h => by first | exact False.elim h | omega | (dsimp only at h ⊢; omega) | fail)
      have y15 : (F1 a 1 < 60 ∧ F6 a 1 = F1 a 1 + 1 ∧ A7 (a + 1) = gs_u (A1 (a + 1)) (F1 a 1).toNat (A1 (b + 1) k.toNat)) ∨ (F1 a 1 = 60 ∧ F6 a 1 = 60 ∧ A7 (a + 1) = A1 (a + 1)) := x9
      clear x9
      show sA _ _ _ 20 _ [] _ _
      refine sA_iinc (lv' := [(2, gs_iv (k + 1)), (0, .ref a), (1, .ref b)]) dd_X2_addAll_20 (.head _) (by decide) rfl ?_
      refine sA_goto (tgt := 2) dd_X2_addAll_23 (by decide) ?_
      have b16 := gs_plan_sz hr I11
      have b17 := gs_plan_sz ho I11
      refine sA_sub (lv2 := [(2, gs_iv (k + 1)), (0, .ref a), (1, .ref b)]) (List.forall_mem_cons.mpr ⟨(.head _), (List.forall_mem_cons.mpr ⟨(.tail _ (.head _)), (List.forall_mem_cons.mpr ⟨(.tail _ (.tail _ (.head _))), (fun _ h => absurd h List.not_mem_nil)⟩)⟩)⟩) ?_
      exact ih (k + 1) F6 A7 I11 f14 (by omega) (by omega) (by omega) (by omega) (by omega) (fun j h1 h2 => by first | (exfalso; omega) | (rcases y15 with y | y <;> first | (exfalso; omega) | exact gs_feed_ext (f := A1 (a + 1)) (w := A1 (b + 1) k.toNat) (N := F a 1) (m := k) (h := fun j => A (b + 1) j.toNat) (by omega) (by omega) (by rw [y.2.2, show F1 a 1 = F a 1 + k by omega]) (by rw [hf1.2 (b + 1) (by dsimp only; omega)]) i5 j h1 (by omega) | fail) | fail) (by first | (rcases y15 with y | y <;> first | (exfalso; omega) | exact gs_feed_low (by omega) (by omega) y.2.2 i6 | fail) | exact fun i h1 h2 => rfl | fail) (by omega)
theorem c_X2_addAll_vf {a b : Nat} {F A : gs_F} (hI : gs_I F A) (hr : gs_plan a) (ho : gs_plan b) (hab : a ≠ b) (hsum : F a 1 + F b 1 ≤ 60) (hab2 : a + 1 ≠ b ∧ b + 1 ≠ a) : sC m_X2_addAll 2 [.ref a, .ref b] F A (fun rv F' A' => rv = none ∧ gs_I F' A' ∧ gs_fr (fun c j => c = a ∧ j = 1) (fun c => c = a + 1) F A F' A' ∧ (F' a 1 = F a 1 + F b 1 ∧ (∀ j : Int, 0 ≤ j → j < F b 1 → A' (a + 1) (F a 1 + j).toNat = A (b + 1) j.toNat) ∧ (∀ i : Int, 0 ≤ i → i < F a 1 → A' (a + 1) i.toNat = A (a + 1) i.toNat))) := by
  refine sC_of ok_X2_addAll.1 (Nat.le_of_ble_eq_true rfl) ?_
  show sA _ _ _ 0 [(0, .ref a), (1, .ref b)] [] F A
  have hf : gs_fr (fun c j => c = a ∧ j = 1) (fun c => c = a + 1) F A F A := gs_fr_refl _ _ _ _
  have b18 := gs_plan_sz hr hI
  have b19 := gs_plan_sz ho hI
  refine sA_iconst (z := 0) dd_X2_addAll_0 ?_
  refine sA_istore_n (lv' := [(2, gs_iv 0), (0, .ref a), (1, .ref b)]) dd_X2_addAll_1 rfl (by decide) rfl ?_
  refine sA_sub (lv2 := [(2, gs_iv 0), (0, .ref a), (1, .ref b)]) (List.forall_mem_cons.mpr ⟨(.head _), (List.forall_mem_cons.mpr ⟨(.tail _ (.head _)), (List.forall_mem_cons.mpr ⟨(.tail _ (.tail _ (.head _))), (fun _ h => absurd h List.not_mem_nil)⟩)⟩)⟩) ?_
  exact (k_X2_addAll_vf hI hr ho hab hsum hab2 (F b 1 - 0 : Int).toNat.succ) 0 F A hI hf (by omega) (by omega) (by omega) (by omega) (by omega) (fun j h1 h2 => by first | (exfalso; omega) | (rcases hNONE with y | y <;> first | (exfalso; omega) | exact gs_feed_ext (f := A1 (a + 1)) (w := A1 (b + 1) k.toNat) (N := F a 1) (m := k) (h := fun j => A (b + 1) j.toNat) (by omega) (by omega) (by rw [y.2.2, show F1 a 1 = F a 1 + k by omega]) (by rw [hf1.2 (b + 1) (by dsimp only; omega)]) i5 j h1 (by omega) | fail) | fail) (by first | (rcases hNONE with y | y <;> first | (exfalso; omega) | exact gs_feed_low (by omega) (by omega) y.2.2 i6 | fail) | exact fun i h1 h2 => rfl | fail) (by omega)
theorem k_X2_becomeReversed_vf {a b : Nat} {F A : gs_F} (hI : gs_I F A) (hr : gs_plan a) (ho : gs_plan b) (hab : a ≠ b) : ∀ nN : Nat, (∀ (k : Int)  (F1 A1 : gs_F), gs_I F1 A1 → gs_fr (fun c j => c = a ∧ j = 1) (fun c => c = a + 1) F A F1 A1 → -1 ≤ k → k < F1 b 1 → F1 b 1 = F b 1 → F1 a 1 = F b 1 - 1 - k → (∀ j : Int, 0 ≤ j → j < F b 1 - 1 - k → A1 (a + 1) j.toNat = rd_flip (A (b + 1) (F b 1 - 1 - j).toNat)) → k + 1 < (nN : Int) → sA m_X2_becomeReversed 2 (fun rv F' A' => rv = none ∧ gs_I F' A' ∧ gs_fr (fun c j => c = a ∧ j = 1) (fun c => c = a + 1) F A F' A' ∧ (F' a 1 = F b 1 ∧ (∀ j : Int, 0 ≤ j → j < F b 1 → A' (a + 1) j.toNat = rd_flip (A (b + 1) (F b 1 - 1 - j).toNat)))) 12 [(2, gs_iv k), (0, .ref a), (1, .ref b)] [] F1 A1) := by
  intro nN
  induction nN with
  | zero =>
    exact fun a0 a1 a2 a3 a4 i0 i1 i2 i3 i4 hm => by exfalso; omega
  | succ nN ih =>
    intro k F1 A1 hI1 hf1 i0 i1 i2 i3 i4 hm
    have b1 := gs_plan_sz hr hI1
    have b2 := gs_plan_sz ho hI1
    refine sA_iload_n dd_X2_becomeReversed_12 rfl (.head _) ?_
    refine sA_if_lt (tgt := 34) dd_X2_becomeReversed_13 (by decide) (by omega) (fun q3 => ?_) (fun q3 => ?_)
    · skip
      refine sA_vret dd_X2_becomeReversed_34 rfl ?_
      refine ⟨rfl, hI1, hf1, ?_⟩
      exact ⟨by omega, fun j h1 h2 => i4 j h1 (by omega)⟩
    · skip
      refine sA_aload_n dd_X2_becomeReversed_16 rfl (.tail _ (.head _)) ?_
      refine sA_aload_n dd_X2_becomeReversed_17 rfl (.tail _ (.tail _ (.head _))) ?_
      refine sA_getr (ci := 2) (j := 0) (q := (RX2, TX2, 2)) dd_X2_becomeReversed_18 rfl (by decide) fl_X2_9 (Nat.lt_of_succ_lt ho.1) ho.2.1 rfl ?_
      refine sA_iload_n dd_X2_becomeReversed_21 rfl (.head _) ?_
      refine sA_iald (n := 60) dd_X2_becomeReversed_22 ho.1 ho.2.2.1 (by omega) (by decide) ?_
      have b4 := gs_plan_el ho hI1 k.toNat
      refine sA_iconst (z := 1) dd_X2_becomeReversed_23 ?_
      refine sA_ixor dd_X2_becomeReversed_24 ?_
      have b5 := gs_t_rng (Int32.ofInt (A1 (b + 1) k.toNat) ^^^ Int32.ofInt 1)
      generalize hw6 : gs_t (Int32.ofInt (A1 (b + 1) k.toNat) ^^^ Int32.ofInt 1) = w6 at b5 ⊢
      refine sA_callV (y2 := m_X2_add) (n2 := 1) (d2 := 1) (a := a) (ci := 2) (q := (RX2, TX2, 2)) (as := [gs_iv w6]) (rest := []) dd_X2_becomeReversed_25 ok_X2_add ml_X2_19 rfl rfl (Nat.lt_of_succ_lt hr.1) hr.2.1 rfl rfl (Nat.le_of_ble_eq_true rfl) (by decide) (c_X2_add_vf hI1 hr (by omega)) (fun r7 F8 A9 h10 => ?_)
      obtain ⟨e12, I13, f14, x11⟩ := h10
      subst e12
      have v15 : F8 b 1 = F1 b 1 := f14.1 b 1 (by first | exact id | omega | (dsimp only; omega) | (dsimp only) | fail)
      have f16 := gs_fr_tr hf1 f14 (fun b j h => by first | exact False.elim h | omega | (dsimp only at h ⊢; omega) | fail) (fun b h => by first | exact False.elim h | omega | (dsimp only at h ⊢; omega) | fail)
      have y17 : (F1 a 1 < 60 ∧ F8 a 1 = F1 a 1 + 1 ∧ A9 (a + 1) = gs_u (A1 (a + 1)) (F1 a 1).toNat w6) ∨ (F1 a 1 = 60 ∧ F8 a 1 = 60 ∧ A9 (a + 1) = A1 (a + 1)) := x11
      clear x11
      show sA _ _ _ 28 _ [] _ _
      refine sA_iinc (lv' := [(2, gs_iv (k + (-1))), (0, .ref a), (1, .ref b)]) dd_X2_becomeReversed_28 (.head _) (by decide) rfl ?_
      refine sA_goto (tgt := 12) dd_X2_becomeReversed_31 (by decide) ?_
      have b18 := gs_plan_sz hr I13
      have b19 := gs_plan_sz ho I13
      refine sA_sub (lv2 := [(2, gs_iv (k + (-1))), (0, .ref a), (1, .ref b)]) (List.forall_mem_cons.mpr ⟨(.head _), (List.forall_mem_cons.mpr ⟨(.tail _ (.head _)), (List.forall_mem_cons.mpr ⟨(.tail _ (.tail _ (.head _))), (fun _ h => absurd h List.not_mem_nil)⟩)⟩)⟩) ?_
      exact ih (k + (-1)) F8 A9 I13 f16 (by omega) (by omega) (by omega) (by omega) (fun j h1 h2 => by first | (exfalso; omega) | (rcases y17 with y | y <;> first | (exfalso; omega) | exact gs_u_ext (k := F b 1 - 1 - k) (h := fun j => rd_flip (A (b + 1) (F b 1 - 1 - j).toNat)) (by omega) (by rw [y.2.2, show F1 a 1 = F b 1 - 1 - k by omega]) (by rw [← hw6, hf1.2 (b + 1) (by dsimp only; omega), show F b 1 - 1 - (F b 1 - 1 - k) = k by omega]; rfl) i4 j h1 (by omega) | fail) | fail) (by omega)
theorem c_X2_becomeReversed_vf {a b : Nat} {F A : gs_F} (hI : gs_I F A) (hr : gs_plan a) (ho : gs_plan b) (hab : a ≠ b) : sC m_X2_becomeReversed 2 [.ref a, .ref b] F A (fun rv F' A' => rv = none ∧ gs_I F' A' ∧ gs_fr (fun c j => c = a ∧ j = 1) (fun c => c = a + 1) F A F' A' ∧ (F' a 1 = F b 1 ∧ (∀ j : Int, 0 ≤ j → j < F b 1 → A' (a + 1) j.toNat = rd_flip (A (b + 1) (F b 1 - 1 - j).toNat)))) := by
  refine sC_of ok_X2_becomeReversed.1 (Nat.le_of_ble_eq_true rfl) ?_
  show sA _ _ _ 0 [(0, .ref a), (1, .ref b)] [] F A
  have hf : gs_fr (fun c j => c = a ∧ j = 1) (fun c => c = a + 1) F A F A := gs_fr_refl _ _ _ _
  have b20 := gs_plan_sz hr hI
  have b21 := gs_plan_sz ho hI
  refine sA_aload_n dd_X2_becomeReversed_0 rfl (.head _) ?_
  refine sA_iconst (z := 0) dd_X2_becomeReversed_1 ?_
  refine sA_put (ci := 2) (j := 1) (q := (RX2, TX2, 2)) (ty := .int) dd_X2_becomeReversed_2 rfl (by decide) fl_X2_15 rfl (tyX2_ok 1 (by decide)) rfl rfl (Nat.lt_of_succ_lt hr.1) hr.2.1 rfl ?_
  have I23 : gs_I (gs_up F a 1 0) A := gs_plan_put hr hI (by omega)
  have f24 := gs_fr_put hf (a := a) (z := 0) (j := 1) (by first | omega | (dsimp only; omega) | (dsimp only) | fail)
  have v25 : gs_up F a 1 0 a 1 = 0 := gs_up_self _ _ _ _
  have v26 : (gs_up F a 1 0) b 1 = F b 1 := gs_up_ne _ _ (by omega)
  generalize gs_up F a 1 0 = F22 at I23 f24 v25 v26 ⊢
  refine sA_aload_n dd_X2_becomeReversed_5 rfl (.tail _ (.head _)) ?_
  refine sA_geti (ci := 2) (j := 1) (q := (RX2, TX2, 2)) dd_X2_becomeReversed_6 rfl (by decide) fl_X2_15 (Nat.lt_of_succ_lt ho.1) ho.2.1 rfl ?_
  have b27 := gs_plan_sz ho I23
  refine sA_iconst (z := 1) dd_X2_becomeReversed_9 ?_
  refine sA_isub dd_X2_becomeReversed_10 ?_
  refine sA_istore_n (lv' := [(2, gs_iv ((F22 b 1) - 1)), (0, .ref a), (1, .ref b)]) dd_X2_becomeReversed_11 rfl (by decide) rfl ?_
  have b28 := gs_plan_sz hr I23
  refine sA_sub (lv2 := [(2, gs_iv ((F22 b 1) - 1)), (0, .ref a), (1, .ref b)]) (List.forall_mem_cons.mpr ⟨(.head _), (List.forall_mem_cons.mpr ⟨(.tail _ (.head _)), (List.forall_mem_cons.mpr ⟨(.tail _ (.tail _ (.head _))), (fun _ h => absurd h List.not_mem_nil)⟩)⟩)⟩) ?_
  exact (k_X2_becomeReversed_vf hI hr ho hab (((F22 b 1) - 1) + 1 : Int).toNat.succ) ((F22 b 1) - 1) F22 A I23 f24 (by omega) (by omega) (by omega) (by omega) (fun j h1 h2 => by first | (exfalso; omega) | (rcases hNONE with y | y <;> first | (exfalso; omega) | exact gs_u_ext (k := F b 1 - 1 - k) (h := fun j => rd_flip (A (b + 1) (F b 1 - 1 - j).toNat)) (by omega) (by rw [y.2.2, show F1 a 1 = F b 1 - 1 - k by omega]) (by rw [← hNONE, hf1.2 (b + 1) (by dsimp only; omega), show F b 1 - 1 - (F b 1 - 1 - k) = k by omega]; rfl) i4 j h1 (by omega) | fail) | fail) (by omega)
theorem c_X8_chain_vf {r p q : Int} {F A : gs_F} (hI : gs_I F A) (hr : -2147483648 ≤ r ∧ r ≤ 2147483647) (hp : -2147483648 ≤ p ∧ p ≤ 2147483647) (hq : -2147483648 ≤ q ∧ q ≤ 2147483647) : sC m_X8_chain 3 [.ref 0, gs_iv r, gs_iv p, gs_iv q] F A (fun rv F' A' => ∃ z : Int, rv = some (gs_iv z) ∧ gs_I F' A' ∧ gs_fr (fun c j => (c = 50 ∧ j = 1) ∨ (0 ≤ r ∧ r ≤ 7 ∧ c = 90 + 2 * r.toNat ∧ j = 1)) (fun c => c = 51 ∨ (0 ≤ r ∧ r ≤ 7 ∧ c = 90 + 2 * r.toNat + 1)) F A F' A' ∧ (((r < 0 ∨ 7 < r ∨ p < 0 ∨ 7 < p ∨ q < 0 ∨ 7 < q) ∧ z = -1001 ∧ F' = F ∧ A' = A) ∨ (0 ≤ r ∧ r ≤ 7 ∧ 0 ≤ p ∧ p ≤ 7 ∧ 0 ≤ q ∧ q ≤ 7 ∧ ((60 < F (90 + 2 * p.toNat) 1 + F (90 + 2 * q.toNat) 1 ∧ z = -1004 ∧ F' = F ∧ A' = A) ∨ (F (90 + 2 * p.toNat) 1 + F (90 + 2 * q.toNat) 1 ≤ 60 ∧ z = F (90 + 2 * p.toNat) 1 + F (90 + 2 * q.toNat) 1 ∧ F' (90 + 2 * r.toNat) 1 = z ∧ (∀ j : Int, 0 ≤ j → j < F (90 + 2 * p.toNat) 1 → A' (90 + 2 * r.toNat + 1) j.toNat = A (90 + 2 * p.toNat + 1) j.toNat) ∧ (∀ j : Int, 0 ≤ j → j < F (90 + 2 * q.toNat) 1 → A' (90 + 2 * r.toNat + 1) (F (90 + 2 * p.toNat) 1 + j).toNat = A (90 + 2 * q.toNat + 1) j.toNat)))))) := by
  refine sC_of ok_X8_chain.1 (Nat.le_of_ble_eq_true rfl) ?_
  show sA _ _ _ 0 [(0, .ref 0), (1, gs_iv r), (2, gs_iv p), (3, gs_iv q)] [] F A
  have hf : gs_fr (fun c j => (c = 50 ∧ j = 1) ∨ (0 ≤ r ∧ r ≤ 7 ∧ c = 90 + 2 * r.toNat ∧ j = 1)) (fun c => c = 51 ∨ (0 ≤ r ∧ r ≤ 7 ∧ c = 90 + 2 * r.toNat + 1)) F A F A := gs_fr_refl _ _ _ _
  have b1 := gs_plan_sz gs_plan_50 hI
  have u2 : A 51 = A 51 := rfl
  have u3 : A (90 + 2 * p.toNat + 1) = A (90 + 2 * p.toNat + 1) := rfl
  have u4 : A (90 + 2 * q.toNat + 1) = A (90 + 2 * q.toNat + 1) := rfl
  refine sA_iload_n dd_X8_chain_0 rfl (.tail _ (.head _)) ?_
  refine sA_callS (y2 := m_X8_isPlan) (n2 := 1) (d2 := 1) (as := [gs_iv r]) (rest := []) dd_X8_chain_1 ok_X8_isPlan ml_X8_148 rfl rfl (Nat.le_of_ble_eq_true rfl) (by decide) (c_X8_isPlan (by omega)) (fun r5 F6 A7 h8 => ?_)
  obtain ⟨z11, e10, e12, e13, x9⟩ := h8
  subst e10 e12 e13
  show sA _ _ _ 4 _ [gs_iv z11] _ _
  refine sA_if_eq (tgt := 21) dd_X8_chain_4 (by decide) (by omega) (fun q14 => ?_) (fun q14 => ?_)
  · skip
    refine sA_sipush (z := (-1001)) dd_X8_chain_21 (by decide) ?_
    refine sA_iret (z := -1001) dd_X8_chain_24 rfl ?_
    refine ⟨_, rfl, hI, hf, ?_⟩
    exact .inl ⟨by omega, by omega, rfl, rfl⟩
  · skip
    refine sA_iload_n dd_X8_chain_7 rfl (.tail _ (.tail _ (.head _))) ?_
    refine sA_callS (y2 := m_X8_isPlan) (n2 := 1) (d2 := 1) (as := [gs_iv p]) (rest := []) dd_X8_chain_8 ok_X8_isPlan ml_X8_148 rfl rfl (Nat.le_of_ble_eq_true rfl) (by decide) (c_X8_isPlan (by omega)) (fun r15 F16 A17 h18 => ?_)
    obtain ⟨z21, e20, e22, e23, x19⟩ := h18
    subst e20 e22 e23
    show sA _ _ _ 11 _ [gs_iv z21] _ _
    refine sA_if_eq (tgt := 21) dd_X8_chain_11 (by decide) (by omega) (fun q24 => ?_) (fun q24 => ?_)
    · skip
      refine sA_sipush (z := (-1001)) dd_X8_chain_21 (by decide) ?_
      refine sA_iret (z := -1001) dd_X8_chain_24 rfl ?_
      refine ⟨_, rfl, hI, hf, ?_⟩
      exact .inl ⟨by omega, by omega, rfl, rfl⟩
    · skip
      refine sA_iload_n dd_X8_chain_14 rfl (.tail _ (.tail _ (.tail _ (.head _)))) ?_
      refine sA_callS (y2 := m_X8_isPlan) (n2 := 1) (d2 := 1) (as := [gs_iv q]) (rest := []) dd_X8_chain_15 ok_X8_isPlan ml_X8_148 rfl rfl (Nat.le_of_ble_eq_true rfl) (by decide) (c_X8_isPlan (by omega)) (fun r25 F26 A27 h28 => ?_)
      obtain ⟨z31, e30, e32, e33, x29⟩ := h28
      subst e30 e32 e33
      show sA _ _ _ 18 _ [gs_iv z31] _ _
      refine sA_if_ne (tgt := 25) dd_X8_chain_18 (by decide) (by omega) (fun q34 => ?_) (fun q34 => ?_)
      · skip
        refine sA_aload_n dd_X8_chain_25 rfl (.head _) ?_
        refine sA_getr (ci := 8) (j := 1) (q := (RX8, TX8, 13)) dd_X8_chain_26 rfl (by decide) fl_X8_17 (by decide) gs_s0 rfl ?_
        refine sA_iload_n dd_X8_chain_29 rfl (.tail _ (.tail _ (.head _))) ?_
        refine sA_aald (n := 8) dd_X8_chain_30 (by decide) (by decide) (by decide) gs_s2 (by omega) (by decide) ?_
        have g35 := gs_plan_at (k := p.toNat) (by omega)
        refine sA_geti (ci := 2) (j := 1) (q := (RX2, TX2, 2)) dd_X8_chain_31 rfl (by decide) fl_X8_162 (Nat.lt_of_succ_lt g35.1) g35.2.1 rfl ?_
        have b36 := gs_plan_sz g35 hI
        refine sA_aload_n dd_X8_chain_34 rfl (.head _) ?_
        refine sA_getr (ci := 8) (j := 1) (q := (RX8, TX8, 13)) dd_X8_chain_35 rfl (by decide) fl_X8_17 (by decide) gs_s0 rfl ?_
        refine sA_iload_n dd_X8_chain_38 rfl (.tail _ (.tail _ (.tail _ (.head _)))) ?_
        refine sA_aald (n := 8) dd_X8_chain_39 (by decide) (by decide) (by decide) gs_s2 (by omega) (by decide) ?_
        have g37 := gs_plan_at (k := q.toNat) (by omega)
        refine sA_geti (ci := 2) (j := 1) (q := (RX2, TX2, 2)) dd_X8_chain_40 rfl (by decide) fl_X8_162 (Nat.lt_of_succ_lt g37.1) g37.2.1 rfl ?_
        have b38 := gs_plan_sz g37 hI
        refine sA_iadd dd_X8_chain_43 ?_
        refine sA_bipush (z := 60) dd_X8_chain_44 (by decide) ?_
        refine sA_icmp_le (tgt := 53) dd_X8_chain_46 (by decide) (by omega) (by omega) (fun q39 => ?_) (fun q39 => ?_)
        · skip
          refine sA_aload_n dd_X8_chain_53 rfl (.head _) ?_
          refine sA_getr (ci := 8) (j := 9) (q := (RX8, TX8, 13)) dd_X8_chain_54 rfl (by decide) fl_X8_73 (by decide) gs_s0 rfl ?_
          refine sA_aload_n dd_X8_chain_57 rfl (.head _) ?_
          refine sA_getr (ci := 8) (j := 1) (q := (RX8, TX8, 13)) dd_X8_chain_58 rfl (by decide) fl_X8_17 (by decide) gs_s0 rfl ?_
          refine sA_iload_n dd_X8_chain_61 rfl (.tail _ (.tail _ (.head _))) ?_
          refine sA_aald (n := 8) dd_X8_chain_62 (by decide) (by decide) (by decide) gs_s2 (by omega) (by decide) ?_
          have g40 := gs_plan_at (k := p.toNat) (by omega)
          refine sA_callV (y2 := m_X2_copy) (n2 := 1) (d2 := 1) (a := 50) (ci := 2) (q := (RX2, TX2, 2)) (as := [.ref (90 + 2 * p.toNat)]) (rest := []) dd_X8_chain_63 ok_X2_copy ml_X8_158 rfl rfl (Nat.lt_of_succ_lt gs_plan_50.1) gs_plan_50.2.1 rfl rfl (Nat.le_of_ble_eq_true rfl) (by decide) (c_X2_copy_vf hI gs_plan_50 g40) (fun r41 F42 A43 h44 => ?_)
          obtain ⟨e46, I47, f48, x45⟩ := h44
          subst e46
          have v50 : F42 (90 + 2 * p.toNat) 1 = F (90 + 2 * p.toNat) 1 := f48.1 (90 + 2 * p.toNat) 1 (by first | exact id | omega | (dsimp only; omega) | (dsimp only) | fail)
          have v51 : F42 (90 + 2 * q.toNat) 1 = F (90 + 2 * q.toNat) 1 := f48.1 (90 + 2 * q.toNat) 1 (by first | exact id | omega | (dsimp only; omega) | (dsimp only) | fail)
          have f52 := gs_fr_tr hf f48 (fun b j h => by first | exact False.elim h | omega | (dsimp only at h ⊢; omega) | fail) (fun b h => by first | exact False.elim h | omega | (dsimp only at h ⊢; omega) | fail)
          have u53 : A43 51 = A43 51 := rfl
          have u54 : A43 (90 + 2 * p.toNat + 1) = A (90 + 2 * p.toNat + 1) := (f48.2 (90 + 2 * p.toNat + 1) (by first | exact id | omega | (dsimp only; omega) | (dsimp only) | fail)).trans u3
          have u55 : A43 (90 + 2 * q.toNat + 1) = A (90 + 2 * q.toNat + 1) := (f48.2 (90 + 2 * q.toNat + 1) (by first | exact id | omega | (dsimp only; omega) | (dsimp only) | fail)).trans u4
          have y56 : F42 50 1 = F (90 + 2 * p.toNat) 1 ∧ A43 51 = gs_cc (A ((90 + 2 * p.toNat) + 1)) (A 51) 0 0 (F (90 + 2 * p.toNat) 1).toNat := x45
          clear x45
          show sA _ _ _ 66 _ [] _ _
          refine sA_aload_n dd_X8_chain_66 rfl (.head _) ?_
          refine sA_getr (ci := 8) (j := 9) (q := (RX8, TX8, 13)) dd_X8_chain_67 rfl (by decide) fl_X8_73 (by decide) gs_s0 rfl ?_
          refine sA_aload_n dd_X8_chain_70 rfl (.head _) ?_
          refine sA_getr (ci := 8) (j := 1) (q := (RX8, TX8, 13)) dd_X8_chain_71 rfl (by decide) fl_X8_17 (by decide) gs_s0 rfl ?_
          refine sA_iload_n dd_X8_chain_74 rfl (.tail _ (.tail _ (.tail _ (.head _)))) ?_
          refine sA_aald (n := 8) dd_X8_chain_75 (by decide) (by decide) (by decide) gs_s2 (by omega) (by decide) ?_
          have g57 := gs_plan_at (k := q.toNat) (by omega)
          refine sA_callV (y2 := m_X2_addAll) (n2 := 1) (d2 := 2) (a := 50) (ci := 2) (q := (RX2, TX2, 2)) (as := [.ref (90 + 2 * q.toNat)]) (rest := []) dd_X8_chain_76 ok_X2_addAll ml_X8_169 rfl rfl (Nat.lt_of_succ_lt gs_plan_50.1) gs_plan_50.2.1 rfl rfl (Nat.le_of_ble_eq_true rfl) (by decide) (c_X2_addAll_vf I47 gs_plan_50 g57 (by omega) (by omega) (by omega)) (fun r58 F59 A60 h61 => ?_)
          obtain ⟨e63, I64, f65, x62⟩ := h61
          subst e63
          have v67 : F59 (90 + 2 * p.toNat) 1 = F42 (90 + 2 * p.toNat) 1 := f65.1 (90 + 2 * p.toNat) 1 (by first | exact id | omega | (dsimp only; omega) | (dsimp only) | fail)
          have v68 : F59 (90 + 2 * q.toNat) 1 = F42 (90 + 2 * q.toNat) 1 := f65.1 (90 + 2 * q.toNat) 1 (by first | exact id | omega | (dsimp only; omega) | (dsimp only) | fail)
          have f69 := gs_fr_tr f52 f65 (fun b j h => by first | exact False.elim h | omega | (dsimp only at h ⊢; omega) | fail) (fun b h => by first | exact False.elim h | omega | (dsimp only at h ⊢; omega) | fail)
          have u70 : A60 51 = A60 51 := rfl
          have u71 : A60 (90 + 2 * p.toNat + 1) = A (90 + 2 * p.toNat + 1) := (f65.2 (90 + 2 * p.toNat + 1) (by first | exact id | omega | (dsimp only; omega) | (dsimp only) | fail)).trans u54
          have u72 : A60 (90 + 2 * q.toNat + 1) = A (90 + 2 * q.toNat + 1) := (f65.2 (90 + 2 * q.toNat + 1) (by first | exact id | omega | (dsimp only; omega) | (dsimp only) | fail)).trans u55
          have y73 : F59 50 1 = F42 50 1 + F42 (90 + 2 * q.toNat) 1 ∧ (∀ j : Int, 0 ≤ j → j < F42 (90 + 2 * q.toNat) 1 → A60 51 (F42 50 1 + j).toNat = A43 ((90 + 2 * q.toNat) + 1) j.toNat) ∧ (∀ i : Int, 0 ≤ i → i < F42 50 1 → A60 51 i.toNat = A43 51 i.toNat) := x62
          clear x62
          show sA _ _ _ 79 _ [] _ _
          refine sA_aload_n dd_X8_chain_79 rfl (.head _) ?_
          refine sA_getr (ci := 8) (j := 1) (q := (RX8, TX8, 13)) dd_X8_chain_80 rfl (by decide) fl_X8_17 (by decide) gs_s0 rfl ?_
          refine sA_iload_n dd_X8_chain_83 rfl (.tail _ (.head _)) ?_
          refine sA_aald (n := 8) dd_X8_chain_84 (by decide) (by decide) (by decide) gs_s2 (by omega) (by decide) ?_
          have g74 := gs_plan_at (k := r.toNat) (by omega)
          refine sA_aload_n dd_X8_chain_85 rfl (.head _) ?_
          refine sA_getr (ci := 8) (j := 9) (q := (RX8, TX8, 13)) dd_X8_chain_86 rfl (by decide) fl_X8_73 (by decide) gs_s0 rfl ?_
          refine sA_callV (y2 := m_X2_copy) (n2 := 1) (d2 := 1) (a := (90 + 2 * r.toNat)) (ci := 2) (q := (RX2, TX2, 2)) (as := [.ref 50]) (rest := []) dd_X8_chain_89 ok_X2_copy ml_X8_158 rfl rfl (Nat.lt_of_succ_lt g74.1) g74.2.1 rfl rfl (Nat.le_of_ble_eq_true rfl) (by decide) (c_X2_copy_vf I64 g74 gs_plan_50) (fun r75 F76 A77 h78 => ?_)
          obtain ⟨e80, I81, f82, x79⟩ := h78
          subst e80
          have v83 : F76 50 1 = F59 50 1 := f82.1 50 1 (by first | exact id | omega | (dsimp only; omega) | (dsimp only) | fail)
          have f86 := gs_fr_tr f69 f82 (fun b j h => by first | exact False.elim h | omega | (dsimp only at h ⊢; omega) | fail) (fun b h => by first | exact False.elim h | omega | (dsimp only at h ⊢; omega) | fail)
          have u87 : A77 51 = A60 51 := (f82.2 51 (by first | exact id | omega | (dsimp only; omega) | (dsimp only) | fail)).trans u70
          have u88 : A77 (90 + 2 * p.toNat + 1) = A77 (90 + 2 * p.toNat + 1) := rfl
          have u89 : A77 (90 + 2 * q.toNat + 1) = A77 (90 + 2 * q.toNat + 1) := rfl
          have y90 : F76 (90 + 2 * r.toNat) 1 = F59 50 1 ∧ A77 ((90 + 2 * r.toNat) + 1) = gs_cc (A60 51) (A60 ((90 + 2 * r.toNat) + 1)) 0 0 (F59 50 1).toNat := x79
          clear x79
          show sA _ _ _ 92 _ [] _ _
          refine sA_aload_n dd_X8_chain_92 rfl (.head _) ?_
          refine sA_getr (ci := 8) (j := 1) (q := (RX8, TX8, 13)) dd_X8_chain_93 rfl (by decide) fl_X8_17 (by decide) gs_s0 rfl ?_
          refine sA_iload_n dd_X8_chain_96 rfl (.tail _ (.head _)) ?_
          refine sA_aald (n := 8) dd_X8_chain_97 (by decide) (by decide) (by decide) gs_s2 (by omega) (by decide) ?_
          have g91 := gs_plan_at (k := r.toNat) (by omega)
          refine sA_geti (ci := 2) (j := 1) (q := (RX2, TX2, 2)) dd_X8_chain_98 rfl (by decide) fl_X8_162 (Nat.lt_of_succ_lt g91.1) g91.2.1 rfl ?_
          have b92 := gs_plan_sz g91 I81
          refine sA_iret (z := F76 (90 + 2 * r.toNat) 1) dd_X8_chain_101 rfl ?_
          refine ⟨_, rfl, I81, f86, ?_⟩
          obtain ⟨a1, a2⟩ := y56
          obtain ⟨b1, b2, b3⟩ := y73
          obtain ⟨c1, c2⟩ := y90
          have hq76 : A43 (90 + 2 * q.toNat + 1) = A (90 + 2 * q.toNat + 1) := f48.2 _ (by dsimp only; omega)
          refine .inr ⟨by omega, by omega, by omega, by omega, by omega, by omega, .inr ⟨by omega, by omega, rfl, fun j h1 h2 => ?_, fun j h1 h2 => ?_⟩⟩
          · rw [c2]
            unfold gs_cc
            rw [if_pos (by omega), Nat.zero_add, Nat.sub_zero, b3 j h1 (by omega), a2]
            unfold gs_cc
            rw [if_pos (by omega), Nat.zero_add, Nat.sub_zero]
          · rw [c2]
            unfold gs_cc
            rw [if_pos (by omega), Nat.zero_add, Nat.sub_zero, ← a1, b2 j h1 (by omega), hq76]
        · skip
          refine sA_sipush (z := (-1004)) dd_X8_chain_49 (by decide) ?_
          refine sA_iret (z := -1004) dd_X8_chain_52 rfl ?_
          refine ⟨_, rfl, hI, hf, ?_⟩
          exact .inr ⟨by omega, by omega, by omega, by omega, by omega, by omega, .inl ⟨by omega, by omega, rfl, rfl⟩⟩
      · skip
        refine sA_sipush (z := (-1001)) dd_X8_chain_21 (by decide) ?_
        refine sA_iret (z := -1001) dd_X8_chain_24 rfl ?_
        refine ⟨_, rfl, hI, hf, ?_⟩
        exact .inl ⟨by omega, by omega, rfl, rfl⟩
theorem c_X8_turn_vf {r p : Int} {F A : gs_F} (hI : gs_I F A) (hr : -2147483648 ≤ r ∧ r ≤ 2147483647) (hp : -2147483648 ≤ p ∧ p ≤ 2147483647) : sC m_X8_turn 3 [.ref 0, gs_iv r, gs_iv p] F A (fun rv F' A' => ∃ z : Int, rv = some (gs_iv z) ∧ gs_I F' A' ∧ gs_fr (fun c j => (c = 50 ∧ j = 1) ∨ (0 ≤ r ∧ r ≤ 7 ∧ c = 90 + 2 * r.toNat ∧ j = 1)) (fun c => c = 51 ∨ (0 ≤ r ∧ r ≤ 7 ∧ c = 90 + 2 * r.toNat + 1)) F A F' A' ∧ (((r < 0 ∨ 7 < r ∨ p < 0 ∨ 7 < p) ∧ z = -1001 ∧ F' = F ∧ A' = A) ∨ (0 ≤ r ∧ r ≤ 7 ∧ 0 ≤ p ∧ p ≤ 7 ∧ z = F (90 + 2 * p.toNat) 1 ∧ F' (90 + 2 * r.toNat) 1 = z ∧ (∀ j : Int, 0 ≤ j → j < F (90 + 2 * p.toNat) 1 → A' (90 + 2 * r.toNat + 1) j.toNat = rd_flip (A (90 + 2 * p.toNat + 1) (F (90 + 2 * p.toNat) 1 - 1 - j).toNat))))) := by
  refine sC_of ok_X8_turn.1 (Nat.le_of_ble_eq_true rfl) ?_
  show sA _ _ _ 0 [(0, .ref 0), (1, gs_iv r), (2, gs_iv p)] [] F A
  have hf : gs_fr (fun c j => (c = 50 ∧ j = 1) ∨ (0 ≤ r ∧ r ≤ 7 ∧ c = 90 + 2 * r.toNat ∧ j = 1)) (fun c => c = 51 ∨ (0 ≤ r ∧ r ≤ 7 ∧ c = 90 + 2 * r.toNat + 1)) F A F A := gs_fr_refl _ _ _ _
  have b1 := gs_plan_sz gs_plan_50 hI
  have u2 : A 51 = A 51 := rfl
  refine sA_iload_n dd_X8_turn_0 rfl (.tail _ (.head _)) ?_
  refine sA_callS (y2 := m_X8_isPlan) (n2 := 1) (d2 := 1) (as := [gs_iv r]) (rest := []) dd_X8_turn_1 ok_X8_isPlan ml_X8_148 rfl rfl (Nat.le_of_ble_eq_true rfl) (by decide) (c_X8_isPlan (by omega)) (fun r3 F4 A5 h6 => ?_)
  obtain ⟨z9, e8, e10, e11, x7⟩ := h6
  subst e8 e10 e11
  show sA _ _ _ 4 _ [gs_iv z9] _ _
  refine sA_if_eq (tgt := 14) dd_X8_turn_4 (by decide) (by omega) (fun q12 => ?_) (fun q12 => ?_)
  · skip
    refine sA_sipush (z := (-1001)) dd_X8_turn_14 (by decide) ?_
    refine sA_iret (z := -1001) dd_X8_turn_17 rfl ?_
    refine ⟨_, rfl, hI, hf, ?_⟩
    exact .inl ⟨by omega, by omega, rfl, rfl⟩
  · skip
    refine sA_iload_n dd_X8_turn_7 rfl (.tail _ (.tail _ (.head _))) ?_
    refine sA_callS (y2 := m_X8_isPlan) (n2 := 1) (d2 := 1) (as := [gs_iv p]) (rest := []) dd_X8_turn_8 ok_X8_isPlan ml_X8_148 rfl rfl (Nat.le_of_ble_eq_true rfl) (by decide) (c_X8_isPlan (by omega)) (fun r13 F14 A15 h16 => ?_)
    obtain ⟨z19, e18, e20, e21, x17⟩ := h16
    subst e18 e20 e21
    show sA _ _ _ 11 _ [gs_iv z19] _ _
    refine sA_if_ne (tgt := 18) dd_X8_turn_11 (by decide) (by omega) (fun q22 => ?_) (fun q22 => ?_)
    · skip
      refine sA_aload_n dd_X8_turn_18 rfl (.head _) ?_
      refine sA_getr (ci := 8) (j := 9) (q := (RX8, TX8, 13)) dd_X8_turn_19 rfl (by decide) fl_X8_73 (by decide) gs_s0 rfl ?_
      refine sA_aload_n dd_X8_turn_22 rfl (.head _) ?_
      refine sA_getr (ci := 8) (j := 1) (q := (RX8, TX8, 13)) dd_X8_turn_23 rfl (by decide) fl_X8_17 (by decide) gs_s0 rfl ?_
      refine sA_iload_n dd_X8_turn_26 rfl (.tail _ (.tail _ (.head _))) ?_
      refine sA_aald (n := 8) dd_X8_turn_27 (by decide) (by decide) (by decide) gs_s2 (by omega) (by decide) ?_
      have g23 := gs_plan_at (k := p.toNat) (by omega)
      refine sA_callV (y2 := m_X2_becomeReversed) (n2 := 1) (d2 := 2) (a := 50) (ci := 2) (q := (RX2, TX2, 2)) (as := [.ref (90 + 2 * p.toNat)]) (rest := []) dd_X8_turn_28 ok_X2_becomeReversed ml_X8_172 rfl rfl (Nat.lt_of_succ_lt gs_plan_50.1) gs_plan_50.2.1 rfl rfl (Nat.le_of_ble_eq_true rfl) (by decide) (c_X2_becomeReversed_vf hI gs_plan_50 g23 (by omega)) (fun r24 F25 A26 h27 => ?_)
      obtain ⟨e29, I30, f31, x28⟩ := h27
      subst e29
      have v33 : F25 (90 + 2 * p.toNat) 1 = F (90 + 2 * p.toNat) 1 := f31.1 (90 + 2 * p.toNat) 1 (by first | exact id | omega | (dsimp only; omega) | (dsimp only) | fail)
      have f34 := gs_fr_tr hf f31 (fun b j h => by first | exact False.elim h | omega | (dsimp only at h ⊢; omega) | fail) (fun b h => by first | exact False.elim h | omega | (dsimp only at h ⊢; omega) | fail)
      have u35 : A26 51 = A26 51 := rfl
      have y36 : F25 50 1 = F (90 + 2 * p.toNat) 1 ∧ (∀ j : Int, 0 ≤ j → j < F (90 + 2 * p.toNat) 1 → A26 51 j.toNat = rd_flip (A ((90 + 2 * p.toNat) + 1) (F (90 + 2 * p.toNat) 1 - 1 - j).toNat)) := x28
      clear x28
      show sA _ _ _ 31 _ [] _ _
      refine sA_aload_n dd_X8_turn_31 rfl (.head _) ?_
      refine sA_getr (ci := 8) (j := 1) (q := (RX8, TX8, 13)) dd_X8_turn_32 rfl (by decide) fl_X8_17 (by decide) gs_s0 rfl ?_
      refine sA_iload_n dd_X8_turn_35 rfl (.tail _ (.head _)) ?_
      refine sA_aald (n := 8) dd_X8_turn_36 (by decide) (by decide) (by decide) gs_s2 (by omega) (by decide) ?_
      have g37 := gs_plan_at (k := r.toNat) (by omega)
      refine sA_aload_n dd_X8_turn_37 rfl (.head _) ?_
      refine sA_getr (ci := 8) (j := 9) (q := (RX8, TX8, 13)) dd_X8_turn_38 rfl (by decide) fl_X8_73 (by decide) gs_s0 rfl ?_
      refine sA_callV (y2 := m_X2_copy) (n2 := 1) (d2 := 1) (a := (90 + 2 * r.toNat)) (ci := 2) (q := (RX2, TX2, 2)) (as := [.ref 50]) (rest := []) dd_X8_turn_41 ok_X2_copy ml_X8_158 rfl rfl (Nat.lt_of_succ_lt g37.1) g37.2.1 rfl rfl (Nat.le_of_ble_eq_true rfl) (by decide) (c_X2_copy_vf I30 g37 gs_plan_50) (fun r38 F39 A40 h41 => ?_)
      obtain ⟨e43, I44, f45, x42⟩ := h41
      subst e43
      have v46 : F39 50 1 = F25 50 1 := f45.1 50 1 (by first | exact id | omega | (dsimp only; omega) | (dsimp only) | fail)
      have f48 := gs_fr_tr f34 f45 (fun b j h => by first | exact False.elim h | omega | (dsimp only at h ⊢; omega) | fail) (fun b h => by first | exact False.elim h | omega | (dsimp only at h ⊢; omega) | fail)
      have u49 : A40 51 = A26 51 := (f45.2 51 (by first | exact id | omega | (dsimp only; omega) | (dsimp only) | fail)).trans u35
      have y50 : F39 (90 + 2 * r.toNat) 1 = F25 50 1 ∧ A40 ((90 + 2 * r.toNat) + 1) = gs_cc (A26 51) (A26 ((90 + 2 * r.toNat) + 1)) 0 0 (F25 50 1).toNat := x42
      clear x42
      show sA _ _ _ 44 _ [] _ _
      refine sA_aload_n dd_X8_turn_44 rfl (.head _) ?_
      refine sA_getr (ci := 8) (j := 1) (q := (RX8, TX8, 13)) dd_X8_turn_45 rfl (by decide) fl_X8_17 (by decide) gs_s0 rfl ?_
      refine sA_iload_n dd_X8_turn_48 rfl (.tail _ (.head _)) ?_
      refine sA_aald (n := 8) dd_X8_turn_49 (by decide) (by decide) (by decide) gs_s2 (by omega) (by decide) ?_
      have g51 := gs_plan_at (k := r.toNat) (by omega)
      refine sA_geti (ci := 2) (j := 1) (q := (RX2, TX2, 2)) dd_X8_turn_50 rfl (by decide) fl_X8_162 (Nat.lt_of_succ_lt g51.1) g51.2.1 rfl ?_
      have b52 := gs_plan_sz g51 I44
      refine sA_iret (z := F39 (90 + 2 * r.toNat) 1) dd_X8_turn_53 rfl ?_
      refine ⟨_, rfl, I44, f48, ?_⟩
      obtain ⟨a1, a2⟩ := y36
      obtain ⟨c1, c2⟩ := y50
      refine .inr ⟨by omega, by omega, by omega, by omega, by omega, rfl, fun j h1 h2 => ?_⟩
      rw [c2]
      unfold gs_cc
      rw [if_pos (by omega), Nat.zero_add, Nat.sub_zero]
      exact a2 j h1 h2
    · skip
      refine sA_sipush (z := (-1001)) dd_X8_turn_14 (by decide) ?_
      refine sA_iret (z := -1001) dd_X8_turn_17 rfl ?_
      refine ⟨_, rfl, hI, hf, ?_⟩
      exact .inl ⟨by omega, by omega, rfl, rfl⟩
theorem k_X9_chain_vf {r p q : Int} {F A : gs_F} (hI : gs_I F A) (hr : -2147483648 ≤ r ∧ r ≤ 2147483647) (hp : -2147483648 ≤ p ∧ p ≤ 2147483647) (hq : -2147483648 ≤ q ∧ q ≤ 2147483647) : ∀ nN : Nat, (∀ (n : Int) (k : Int)  (F1 A1 : gs_F), gs_I F1 A1 → gs_fr (fun _ _ => False) (fun c => c = 110 ∨ c = 111 ∨ c = 118) F A F1 A1 → 0 ≤ r ∧ r ≤ 7 → 0 ≤ p ∧ p ≤ 7 → 0 ≤ q ∧ q ≤ 7 → 0 ≤ k ∧ k ≤ n → n ≤ 60 ∧ n = A1 110 p.toNat + A1 110 q.toNat → (∀ j : Int, 0 ≤ j → j < k → A1 118 j.toNat = (if j < A 110 p.toNat then A 111 (60 * p + j).toNat else A 111 (60 * q + j - A 110 p.toNat).toNat)) → A1 110 = A 110 → A1 111 = A 111 → n = A 110 p.toNat + A 110 q.toNat → n - k + 100 < (nN : Int) → sA m_X9_chain 3 (fun rv F' A' => ∃ z : Int, rv = some (gs_iv z) ∧ gs_I F' A' ∧ gs_fr (fun _ _ => False) (fun c => c = 110 ∨ c = 111 ∨ c = 118) F A F' A' ∧ (((r < 0 ∨ 7 < r ∨ p < 0 ∨ 7 < p ∨ q < 0 ∨ 7 < q) ∧ z = -1001 ∧ A' 110 = A 110 ∧ A' 111 = A 111) ∨ (0 ≤ r ∧ r ≤ 7 ∧ 0 ≤ p ∧ p ≤ 7 ∧ 0 ≤ q ∧ q ≤ 7 ∧ ((60 < A 110 p.toNat + A 110 q.toNat ∧ z = -1004 ∧ A' 110 = A 110 ∧ A' 111 = A 111) ∨ (A 110 p.toNat + A 110 q.toNat ≤ 60 ∧ z = A 110 p.toNat + A 110 q.toNat ∧ A' 110 = gs_u (A 110) r.toNat z ∧ (∀ j : Int, 0 ≤ j → j < z → A' 111 (60 * r + j).toNat = (if j < A 110 p.toNat then A 111 (60 * p + j).toNat else A 111 (60 * q + j - A 110 p.toNat).toNat)) ∧ (∀ i : Int, 0 ≤ i → (i < 60 * r ∨ 60 * r + 60 ≤ i) → A' 111 i.toNat = A 111 i.toNat)))))) 57 [(5, gs_iv k), (4, gs_iv n), (0, .ref 106), (1, gs_iv r), (2, gs_iv p), (3, gs_iv q)] [] F1 A1) ∧ (∀ (n : Int) (k : Int)  (F1 A1 : gs_F), gs_I F1 A1 → gs_fr (fun _ _ => False) (fun c => c = 110 ∨ c = 111 ∨ c = 118) F A F1 A1 → 0 ≤ r ∧ r ≤ 7 → 0 ≤ k ∧ k ≤ n → n ≤ 60 → (∀ j : Int, 0 ≤ j → j < n → A1 118 j.toNat = (if j < A 110 p.toNat then A 111 (60 * p + j).toNat else A 111 (60 * q + j - A 110 p.toNat).toNat)) → A1 110 = gs_u (A 110) r.toNat n → (∀ i : Int, 0 ≤ i → i < k → A1 111 (60 * r + i).toNat = A1 118 i.toNat) → (∀ i : Int, 0 ≤ i → (i < 60 * r ∨ 60 * r + 60 ≤ i) → A1 111 i.toNat = A 111 i.toNat) → 0 ≤ p ∧ p ≤ 7 ∧ 0 ≤ q ∧ q ≤ 7 ∧ n = A 110 p.toNat + A 110 q.toNat → n - k < (nN : Int) → sA m_X9_chain 3 (fun rv F' A' => ∃ z : Int, rv = some (gs_iv z) ∧ gs_I F' A' ∧ gs_fr (fun _ _ => False) (fun c => c = 110 ∨ c = 111 ∨ c = 118) F A F' A' ∧ (((r < 0 ∨ 7 < r ∨ p < 0 ∨ 7 < p ∨ q < 0 ∨ 7 < q) ∧ z = -1001 ∧ A' 110 = A 110 ∧ A' 111 = A 111) ∨ (0 ≤ r ∧ r ≤ 7 ∧ 0 ≤ p ∧ p ≤ 7 ∧ 0 ≤ q ∧ q ≤ 7 ∧ ((60 < A 110 p.toNat + A 110 q.toNat ∧ z = -1004 ∧ A' 110 = A 110 ∧ A' 111 = A 111) ∨ (A 110 p.toNat + A 110 q.toNat ≤ 60 ∧ z = A 110 p.toNat + A 110 q.toNat ∧ A' 110 = gs_u (A 110) r.toNat z ∧ (∀ j : Int, 0 ≤ j → j < z → A' 111 (60 * r + j).toNat = (if j < A 110 p.toNat then A 111 (60 * p + j).toNat else A 111 (60 * q + j - A 110 p.toNat).toNat)) ∧ (∀ i : Int, 0 ≤ i → (i < 60 * r ∨ 60 * r + 60 ≤ i) → A' 111 i.toNat = A 111 i.toNat)))))) 133 [(5, gs_iv k), (4, gs_iv n), (0, .ref 106), (1, gs_iv r)] [] F1 A1) := by
  intro nN
  induction nN with
  | zero =>
    exact ⟨fun a0 a1 a2 a3 a4 a5 i0 i1 i2 i3 i4 i5 i6 i7 i8 hm => by exfalso; omega, fun a0 a1 a2 a3 a4 a5 i0 i1 i2 i3 i4 i5 i6 i7 hm => by exfalso; omega⟩
  | succ nN ih =>
    refine ⟨?_, ?_⟩
    · skip
      intro n k F1 A1 hI1 hf1 i0 i1 i2 i3 i4 i5 i6 i7 i8 hm
      have u1 : A1 118 = A1 118 := rfl
      have u2 : A1 110 = A1 110 := rfl
      have u3 : A1 111 = A1 111 := rfl
      refine sA_iload dd_X9_chain_57 (.head _) ?_
      refine sA_iload dd_X9_chain_59 (.tail _ (.head _)) ?_
      refine sA_icmp_ge (tgt := 122) dd_X9_chain_61 (by decide) (by omega) (by omega) (fun q4 => ?_) (fun q4 => ?_)
      · skip
        refine sA_aload_n dd_X9_chain_122 rfl (.tail _ (.tail _ (.head _))) ?_
        refine sA_getr (ci := 9) (j := 6) (q := (RX9, TX9, 28)) dd_X9_chain_123 rfl (by decide) fl_X9_19 (by decide) gs_s106 rfl ?_
        refine sA_iload_n dd_X9_chain_126 rfl (.tail _ (.tail _ (.tail _ (.head _)))) ?_
        refine sA_iload dd_X9_chain_127 (.tail _ (.head _)) ?_
        refine sA_iast (n := 9) dd_X9_chain_129 (by decide) gs_s110 (by omega) (by decide) ?_
        have I6 : gs_I F1 (gs_up A1 110 r.toNat n) := gs_I_ast hI1 (show (0 : Int) ≤ n ∧ n ≤ 60 by omega)
        have f7 := gs_fr_ast hf1 (a := 110) (z := n) (i := r.toNat) (by first | omega | (dsimp only; omega) | (dsimp only) | fail)
        have v8 := gs_up_cs A1 110 r.toNat n p.toNat
        have v9 := gs_up_cs A1 110 r.toNat n q.toNat
        have u10 : (gs_up A1 110 r.toNat n) 118 = A1 118 := (gs_up_row _ _ (by omega)).trans u1
        have u11 : (gs_up A1 110 r.toNat n) 110 = gs_u (A1 110) r.toNat n := (gs_up_u A1 110 r.toNat n).trans (congrArg (fun f => gs_u f r.toNat n) u2)
        have u12 : (gs_up A1 110 r.toNat n) 111 = A1 111 := (gs_up_row _ _ (by omega)).trans u3
        generalize gs_up A1 110 r.toNat n = A5 at I6 f7 v8 v9 u10 u11 u12 ⊢
        refine sA_iconst (z := 0) dd_X9_chain_130 ?_
        refine sA_istore (lv' := [(5, gs_iv 0), (4, gs_iv n), (0, .ref 106), (1, gs_iv r), (2, gs_iv p), (3, gs_iv q)]) dd_X9_chain_131 (by decide) rfl ?_
        refine sA_sub (lv2 := [(5, gs_iv 0), (4, gs_iv n), (0, .ref 106), (1, gs_iv r)]) (List.forall_mem_cons.mpr ⟨(.head _), (List.forall_mem_cons.mpr ⟨(.tail _ (.head _)), (List.forall_mem_cons.mpr ⟨(.tail _ (.tail _ (.head _))), (List.forall_mem_cons.mpr ⟨(.tail _ (.tail _ (.tail _ (.head _)))), (fun _ h => absurd h List.not_mem_nil)⟩)⟩)⟩)⟩) ?_
        exact ih.2 n 0 F1 A5 I6 f7 (by omega) (by omega) (by omega) (by first | (rw [u10]; exact fun j h1 h2 => i5 j h1 (by omega)) | (rw [u10]; exact i3) | fail) (by first | exact u11.trans i4 | (rw [u11, i6]) | fail) (by first | (intro i h1 h2; exfalso; omega) | (rw [u10]; exact gs_plan_ext (by omega) (by omega) u12 i5) | fail) (by first | (intro i h1 h2; rw [u12, gs_u_ne _ _ (by omega)]; exact i6 i h1 h2) | (intro i h1 h2; rw [u12, i7]) | fail) (by omega) (by omega)
      · skip
        refine sA_aload_n dd_X9_chain_64 rfl (.tail _ (.tail _ (.head _))) ?_
        refine sA_getr (ci := 9) (j := 23) (q := (RX9, TX9, 28)) dd_X9_chain_65 rfl (by decide) fl_X9_47 (by decide) gs_s106 rfl ?_
        refine sA_iload dd_X9_chain_68 (.head _) ?_
        refine sA_iload dd_X9_chain_70 (.head _) ?_
        refine sA_aload_n dd_X9_chain_72 rfl (.tail _ (.tail _ (.head _))) ?_
        refine sA_getr (ci := 9) (j := 6) (q := (RX9, TX9, 28)) dd_X9_chain_73 rfl (by decide) fl_X9_19 (by decide) gs_s106 rfl ?_
        refine sA_iload_n dd_X9_chain_76 rfl (.tail _ (.tail _ (.tail _ (.tail _ (.head _))))) ?_
        refine sA_iald (n := 9) dd_X9_chain_77 (by decide) gs_s110 (by omega) (by decide) ?_
        have b13 : (0 : Int) ≤ A1 110 p.toNat ∧ A1 110 p.toNat ≤ 60 := hI1.2 110 p.toNat
        refine sA_icmp_ge (tgt := 96) dd_X9_chain_78 (by decide) (by omega) (by omega) (fun q14 => ?_) (fun q14 => ?_)
        · skip
          refine sA_aload_n dd_X9_chain_96 rfl (.tail _ (.tail _ (.head _))) ?_
          refine sA_getr (ci := 9) (j := 7) (q := (RX9, TX9, 28)) dd_X9_chain_97 rfl (by decide) fl_X9_22 (by decide) gs_s106 rfl ?_
          refine sA_bipush (z := 60) dd_X9_chain_100 (by decide) ?_
          refine sA_iload_n dd_X9_chain_102 rfl (.tail _ (.tail _ (.tail _ (.tail _ (.tail _ (.head _)))))) ?_
          refine sA_imul dd_X9_chain_103 ?_
          refine sA_iload dd_X9_chain_104 (.head _) ?_
          refine sA_iadd dd_X9_chain_106 ?_
          refine sA_aload_n dd_X9_chain_107 rfl (.tail _ (.tail _ (.head _))) ?_
          refine sA_getr (ci := 9) (j := 6) (q := (RX9, TX9, 28)) dd_X9_chain_108 rfl (by decide) fl_X9_19 (by decide) gs_s106 rfl ?_
          refine sA_iload_n dd_X9_chain_111 rfl (.tail _ (.tail _ (.tail _ (.tail _ (.head _))))) ?_
          refine sA_iald (n := 9) dd_X9_chain_112 (by decide) gs_s110 (by omega) (by decide) ?_
          refine sA_isub dd_X9_chain_113 ?_
          refine sA_iald (n := 540) dd_X9_chain_114 (by decide) gs_s111 (by omega) (by decide) ?_
          have b15 : (-2147483648 : Int) ≤ A1 111 (((60 * q) + k) - (A1 110 p.toNat)).toNat ∧ A1 111 (((60 * q) + k) - (A1 110 p.toNat)).toNat ≤ 2147483647 := hI1.2 111 (((60 * q) + k) - (A1 110 p.toNat)).toNat
          refine sA_iast (n := 600) dd_X9_chain_115 (by decide) gs_s118 (by omega) (by decide) ?_
          have I17 : gs_I F1 (gs_up A1 118 k.toNat (A1 111 (((60 * q) + k) - (A1 110 p.toNat)).toNat)) := gs_I_ast hI1 (show (-2147483648 : Int) ≤ A1 111 (((60 * q) + k) - (A1 110 p.toNat)).toNat ∧ A1 111 (((60 * q) + k) - (A1 110 p.toNat)).toNat ≤ 2147483647 by omega)
          have f18 := gs_fr_ast hf1 (a := 118) (z := A1 111 (((60 * q) + k) - (A1 110 p.toNat)).toNat) (i := k.toNat) (by first | omega | (dsimp only; omega) | (dsimp only) | fail)
          have v19 : (gs_up A1 118 k.toNat (A1 111 (((60 * q) + k) - (A1 110 p.toNat)).toNat)) 110 p.toNat = A1 110 p.toNat := gs_up_ne _ _ (by omega)
          have v20 : (gs_up A1 118 k.toNat (A1 111 (((60 * q) + k) - (A1 110 p.toNat)).toNat)) 110 q.toNat = A1 110 q.toNat := gs_up_ne _ _ (by omega)
          have u21 : (gs_up A1 118 k.toNat (A1 111 (((60 * q) + k) - (A1 110 p.toNat)).toNat)) 118 = gs_u (A1 118) k.toNat (A1 111 (((60 * q) + k) - (A1 110 p.toNat)).toNat) := (gs_up_u A1 118 k.toNat (A1 111 (((60 * q) + k) - (A1 110 p.toNat)).toNat)).trans (congrArg (fun f => gs_u f k.toNat (A1 111 (((60 * q) + k) - (A1 110 p.toNat)).toNat)) u1)
          have u22 : (gs_up A1 118 k.toNat (A1 111 (((60 * q) + k) - (A1 110 p.toNat)).toNat)) 110 = A1 110 := (gs_up_row _ _ (by omega)).trans u2
          have u23 : (gs_up A1 118 k.toNat (A1 111 (((60 * q) + k) - (A1 110 p.toNat)).toNat)) 111 = A1 111 := (gs_up_row _ _ (by omega)).trans u3
          generalize gs_up A1 118 k.toNat (A1 111 (((60 * q) + k) - (A1 110 p.toNat)).toNat) = A16 at I17 f18 v19 v20 u21 u22 u23 ⊢
          refine sA_iinc (lv' := [(5, gs_iv (k + 1)), (4, gs_iv n), (0, .ref 106), (1, gs_iv r), (2, gs_iv p), (3, gs_iv q)]) dd_X9_chain_116 (.head _) (by decide) rfl ?_
          refine sA_goto (tgt := 57) dd_X9_chain_119 (by decide) ?_
          refine sA_sub (lv2 := [(5, gs_iv (k + 1)), (4, gs_iv n), (0, .ref 106), (1, gs_iv r), (2, gs_iv p), (3, gs_iv q)]) (List.forall_mem_cons.mpr ⟨(.head _), (List.forall_mem_cons.mpr ⟨(.tail _ (.head _)), (List.forall_mem_cons.mpr ⟨(.tail _ (.tail _ (.head _))), (List.forall_mem_cons.mpr ⟨(.tail _ (.tail _ (.tail _ (.head _)))), (List.forall_mem_cons.mpr ⟨(.tail _ (.tail _ (.tail _ (.tail _ (.head _))))), (List.forall_mem_cons.mpr ⟨(.tail _ (.tail _ (.tail _ (.tail _ (.tail _ (.head _)))))), (fun _ h => absurd h List.not_mem_nil)⟩)⟩)⟩)⟩)⟩)⟩) ?_
          exact ih.1 n (k + 1) F1 A16 I17 f18 (by omega) (by omega) (by omega) (by omega) (by omega) (by first | (intro j h1 h2; exfalso; omega) | exact gs_u_ext (h := fun j => (if j < A 110 p.toNat then A 111 (60 * p + j).toNat else A 111 (60 * q + j - A 110 p.toNat).toNat)) (by omega) u21 (by show A1 111 (60 * p + k).toNat = (if k < A 110 p.toNat then A 111 (60 * p + k).toNat else A 111 (60 * q + k - A 110 p.toNat).toNat); rw [if_pos (by rw [← i6]; omega), i7]) i5 | exact gs_u_ext (h := fun j => (if j < A 110 p.toNat then A 111 (60 * p + j).toNat else A 111 (60 * q + j - A 110 p.toNat).toNat)) (by omega) u21 (by show A1 111 (60 * q + k - A1 110 p.toNat).toNat = (if k < A 110 p.toNat then A 111 (60 * p + k).toNat else A 111 (60 * q + k - A 110 p.toNat).toNat); rw [if_neg (by rw [← i6]; omega), i6, i7]) i5 | fail) (by first | exact u22.trans i6 | exact u22 | fail) (by first | exact u23.trans i7 | exact u23 | fail) (by omega) (by omega)
        · skip
          refine sA_aload_n dd_X9_chain_81 rfl (.tail _ (.tail _ (.head _))) ?_
          refine sA_getr (ci := 9) (j := 7) (q := (RX9, TX9, 28)) dd_X9_chain_82 rfl (by decide) fl_X9_22 (by decide) gs_s106 rfl ?_
          refine sA_bipush (z := 60) dd_X9_chain_85 (by decide) ?_
          refine sA_iload_n dd_X9_chain_87 rfl (.tail _ (.tail _ (.tail _ (.tail _ (.head _))))) ?_
          refine sA_imul dd_X9_chain_88 ?_
          refine sA_iload dd_X9_chain_89 (.head _) ?_
          refine sA_iadd dd_X9_chain_91 ?_
          refine sA_iald (n := 540) dd_X9_chain_92 (by decide) gs_s111 (by omega) (by decide) ?_
          have b24 : (-2147483648 : Int) ≤ A1 111 ((60 * p) + k).toNat ∧ A1 111 ((60 * p) + k).toNat ≤ 2147483647 := hI1.2 111 ((60 * p) + k).toNat
          refine sA_goto (tgt := 115) dd_X9_chain_93 (by decide) ?_
          refine sA_iast (n := 600) dd_X9_chain_115 (by decide) gs_s118 (by omega) (by decide) ?_
          have I26 : gs_I F1 (gs_up A1 118 k.toNat (A1 111 ((60 * p) + k).toNat)) := gs_I_ast hI1 (show (-2147483648 : Int) ≤ A1 111 ((60 * p) + k).toNat ∧ A1 111 ((60 * p) + k).toNat ≤ 2147483647 by omega)
          have f27 := gs_fr_ast hf1 (a := 118) (z := A1 111 ((60 * p) + k).toNat) (i := k.toNat) (by first | omega | (dsimp only; omega) | (dsimp only) | fail)
          have v28 : (gs_up A1 118 k.toNat (A1 111 ((60 * p) + k).toNat)) 110 p.toNat = A1 110 p.toNat := gs_up_ne _ _ (by omega)
          have v29 : (gs_up A1 118 k.toNat (A1 111 ((60 * p) + k).toNat)) 110 q.toNat = A1 110 q.toNat := gs_up_ne _ _ (by omega)
          have u30 : (gs_up A1 118 k.toNat (A1 111 ((60 * p) + k).toNat)) 118 = gs_u (A1 118) k.toNat (A1 111 ((60 * p) + k).toNat) := (gs_up_u A1 118 k.toNat (A1 111 ((60 * p) + k).toNat)).trans (congrArg (fun f => gs_u f k.toNat (A1 111 ((60 * p) + k).toNat)) u1)
          have u31 : (gs_up A1 118 k.toNat (A1 111 ((60 * p) + k).toNat)) 110 = A1 110 := (gs_up_row _ _ (by omega)).trans u2
          have u32 : (gs_up A1 118 k.toNat (A1 111 ((60 * p) + k).toNat)) 111 = A1 111 := (gs_up_row _ _ (by omega)).trans u3
          generalize gs_up A1 118 k.toNat (A1 111 ((60 * p) + k).toNat) = A25 at I26 f27 v28 v29 u30 u31 u32 ⊢
          refine sA_iinc (lv' := [(5, gs_iv (k + 1)), (4, gs_iv n), (0, .ref 106), (1, gs_iv r), (2, gs_iv p), (3, gs_iv q)]) dd_X9_chain_116 (.head _) (by decide) rfl ?_
          refine sA_goto (tgt := 57) dd_X9_chain_119 (by decide) ?_
          refine sA_sub (lv2 := [(5, gs_iv (k + 1)), (4, gs_iv n), (0, .ref 106), (1, gs_iv r), (2, gs_iv p), (3, gs_iv q)]) (List.forall_mem_cons.mpr ⟨(.head _), (List.forall_mem_cons.mpr ⟨(.tail _ (.head _)), (List.forall_mem_cons.mpr ⟨(.tail _ (.tail _ (.head _))), (List.forall_mem_cons.mpr ⟨(.tail _ (.tail _ (.tail _ (.head _)))), (List.forall_mem_cons.mpr ⟨(.tail _ (.tail _ (.tail _ (.tail _ (.head _))))), (List.forall_mem_cons.mpr ⟨(.tail _ (.tail _ (.tail _ (.tail _ (.tail _ (.head _)))))), (fun _ h => absurd h List.not_mem_nil)⟩)⟩)⟩)⟩)⟩)⟩) ?_
          exact ih.1 n (k + 1) F1 A25 I26 f27 (by omega) (by omega) (by omega) (by omega) (by omega) (by first | (intro j h1 h2; exfalso; omega) | exact gs_u_ext (h := fun j => (if j < A 110 p.toNat then A 111 (60 * p + j).toNat else A 111 (60 * q + j - A 110 p.toNat).toNat)) (by omega) u30 (by show A1 111 (60 * p + k).toNat = (if k < A 110 p.toNat then A 111 (60 * p + k).toNat else A 111 (60 * q + k - A 110 p.toNat).toNat); rw [if_pos (by rw [← i6]; omega), i7]) i5 | exact gs_u_ext (h := fun j => (if j < A 110 p.toNat then A 111 (60 * p + j).toNat else A 111 (60 * q + j - A 110 p.toNat).toNat)) (by omega) u30 (by show A1 111 (60 * q + k - A1 110 p.toNat).toNat = (if k < A 110 p.toNat then A 111 (60 * p + k).toNat else A 111 (60 * q + k - A 110 p.toNat).toNat); rw [if_neg (by rw [← i6]; omega), i6, i7]) i5 | fail) (by first | exact u31.trans i6 | exact u31 | fail) (by first | exact u32.trans i7 | exact u32 | fail) (by omega) (by omega)
    · skip
      intro n k F1 A1 hI1 hf1 i0 i1 i2 i3 i4 i5 i6 i7 hm
      have u33 : A1 118 = A1 118 := rfl
      have u34 : A1 110 = A1 110 := rfl
      have u35 : A1 111 = A1 111 := rfl
      refine sA_iload dd_X9_chain_133 (.head _) ?_
      refine sA_iload dd_X9_chain_135 (.tail _ (.head _)) ?_
      refine sA_icmp_ge (tgt := 165) dd_X9_chain_137 (by decide) (by omega) (by omega) (fun q36 => ?_) (fun q36 => ?_)
      · skip
        refine sA_iload dd_X9_chain_165 (.tail _ (.head _)) ?_
        refine sA_iret (z := n) dd_X9_chain_167 rfl ?_
        refine ⟨_, rfl, hI1, hf1, ?_⟩
        exact .inr ⟨by omega, by omega, by omega, by omega, by omega, by omega, .inr ⟨by omega, by omega, i4, fun j h1 h2 => (i5 j h1 (by omega)).trans (i3 j h1 h2), i6⟩⟩
      · skip
        refine sA_aload_n dd_X9_chain_140 rfl (.tail _ (.tail _ (.head _))) ?_
        refine sA_getr (ci := 9) (j := 7) (q := (RX9, TX9, 28)) dd_X9_chain_141 rfl (by decide) fl_X9_22 (by decide) gs_s106 rfl ?_
        refine sA_bipush (z := 60) dd_X9_chain_144 (by decide) ?_
        refine sA_iload_n dd_X9_chain_146 rfl (.tail _ (.tail _ (.tail _ (.head _)))) ?_
        refine sA_imul dd_X9_chain_147 ?_
        refine sA_iload dd_X9_chain_148 (.head _) ?_
        refine sA_iadd dd_X9_chain_150 ?_
        refine sA_aload_n dd_X9_chain_151 rfl (.tail _ (.tail _ (.head _))) ?_
        refine sA_getr (ci := 9) (j := 23) (q := (RX9, TX9, 28)) dd_X9_chain_152 rfl (by decide) fl_X9_47 (by decide) gs_s106 rfl ?_
        refine sA_iload dd_X9_chain_155 (.head _) ?_
        refine sA_iald (n := 600) dd_X9_chain_157 (by decide) gs_s118 (by omega) (by decide) ?_
        have b37 : (-2147483648 : Int) ≤ A1 118 k.toNat ∧ A1 118 k.toNat ≤ 2147483647 := hI1.2 118 k.toNat
        refine sA_iast (n := 540) dd_X9_chain_158 (by decide) gs_s111 (by omega) (by decide) ?_
        have I39 : gs_I F1 (gs_up A1 111 (((60 * r) + k).toNat) (A1 118 k.toNat)) := gs_I_ast hI1 (show (-2147483648 : Int) ≤ A1 118 k.toNat ∧ A1 118 k.toNat ≤ 2147483647 by omega)
        have f40 := gs_fr_ast hf1 (a := 111) (z := A1 118 k.toNat) (i := ((60 * r) + k).toNat) (by first | omega | (dsimp only; omega) | (dsimp only) | fail)
        have v41 : (gs_up A1 111 (((60 * r) + k).toNat) (A1 118 k.toNat)) 110 p.toNat = A1 110 p.toNat := gs_up_ne _ _ (by omega)
        have v42 : (gs_up A1 111 (((60 * r) + k).toNat) (A1 118 k.toNat)) 110 q.toNat = A1 110 q.toNat := gs_up_ne _ _ (by omega)
        have u43 : (gs_up A1 111 (((60 * r) + k).toNat) (A1 118 k.toNat)) 118 = A1 118 := (gs_up_row _ _ (by omega)).trans u33
        have u44 : (gs_up A1 111 (((60 * r) + k).toNat) (A1 118 k.toNat)) 110 = A1 110 := (gs_up_row _ _ (by omega)).trans u34
        have u45 : (gs_up A1 111 (((60 * r) + k).toNat) (A1 118 k.toNat)) 111 = gs_u (A1 111) (((60 * r) + k).toNat) (A1 118 k.toNat) := (gs_up_u A1 111 (((60 * r) + k).toNat) (A1 118 k.toNat)).trans (congrArg (fun f => gs_u f (((60 * r) + k).toNat) (A1 118 k.toNat)) u35)
        generalize gs_up A1 111 (((60 * r) + k).toNat) (A1 118 k.toNat) = A38 at I39 f40 v41 v42 u43 u44 u45 ⊢
        refine sA_iinc (lv' := [(5, gs_iv (k + 1)), (4, gs_iv n), (0, .ref 106), (1, gs_iv r)]) dd_X9_chain_159 (.head _) (by decide) rfl ?_
        refine sA_goto (tgt := 133) dd_X9_chain_162 (by decide) ?_
        refine sA_sub (lv2 := [(5, gs_iv (k + 1)), (4, gs_iv n), (0, .ref 106), (1, gs_iv r)]) (List.forall_mem_cons.mpr ⟨(.head _), (List.forall_mem_cons.mpr ⟨(.tail _ (.head _)), (List.forall_mem_cons.mpr ⟨(.tail _ (.tail _ (.head _))), (List.forall_mem_cons.mpr ⟨(.tail _ (.tail _ (.tail _ (.head _)))), (fun _ h => absurd h List.not_mem_nil)⟩)⟩)⟩)⟩) ?_
        exact ih.2 n (k + 1) F1 A38 I39 f40 (by omega) (by omega) (by omega) (by first | (rw [u43]; exact fun j h1 h2 => i5 j h1 (by omega)) | (rw [u43]; exact i3) | fail) (by first | exact u44.trans i4 | (rw [u44, i6]) | fail) (by first | (intro i h1 h2; exfalso; omega) | (rw [u43]; exact gs_plan_ext (by omega) (by omega) u45 i5) | fail) (by first | (intro i h1 h2; rw [u45, gs_u_ne _ _ (by omega)]; exact i6 i h1 h2) | (intro i h1 h2; rw [u45, i7]) | fail) (by omega) (by omega)
theorem c_X9_chain_vf {r p q : Int} {F A : gs_F} (hI : gs_I F A) (hr : -2147483648 ≤ r ∧ r ≤ 2147483647) (hp : -2147483648 ≤ p ∧ p ≤ 2147483647) (hq : -2147483648 ≤ q ∧ q ≤ 2147483647) : sC m_X9_chain 3 [.ref 106, gs_iv r, gs_iv p, gs_iv q] F A (fun rv F' A' => ∃ z : Int, rv = some (gs_iv z) ∧ gs_I F' A' ∧ gs_fr (fun _ _ => False) (fun c => c = 110 ∨ c = 111 ∨ c = 118) F A F' A' ∧ (((r < 0 ∨ 7 < r ∨ p < 0 ∨ 7 < p ∨ q < 0 ∨ 7 < q) ∧ z = -1001 ∧ A' 110 = A 110 ∧ A' 111 = A 111) ∨ (0 ≤ r ∧ r ≤ 7 ∧ 0 ≤ p ∧ p ≤ 7 ∧ 0 ≤ q ∧ q ≤ 7 ∧ ((60 < A 110 p.toNat + A 110 q.toNat ∧ z = -1004 ∧ A' 110 = A 110 ∧ A' 111 = A 111) ∨ (A 110 p.toNat + A 110 q.toNat ≤ 60 ∧ z = A 110 p.toNat + A 110 q.toNat ∧ A' 110 = gs_u (A 110) r.toNat z ∧ (∀ j : Int, 0 ≤ j → j < z → A' 111 (60 * r + j).toNat = (if j < A 110 p.toNat then A 111 (60 * p + j).toNat else A 111 (60 * q + j - A 110 p.toNat).toNat)) ∧ (∀ i : Int, 0 ≤ i → (i < 60 * r ∨ 60 * r + 60 ≤ i) → A' 111 i.toNat = A 111 i.toNat)))))) := by
  refine sC_of ok_X9_chain.1 (Nat.le_of_ble_eq_true rfl) ?_
  show sA _ _ _ 0 [(0, .ref 106), (1, gs_iv r), (2, gs_iv p), (3, gs_iv q)] [] F A
  have hf : gs_fr (fun _ _ => False) (fun c => c = 110 ∨ c = 111 ∨ c = 118) F A F A := gs_fr_refl _ _ _ _
  have u46 : A 118 = A 118 := rfl
  have u47 : A 110 = A 110 := rfl
  have u48 : A 111 = A 111 := rfl
  refine sA_aload_n dd_X9_chain_0 rfl (.head _) ?_
  refine sA_iload_n dd_X9_chain_1 rfl (.tail _ (.head _)) ?_
  refine sA_callV (y2 := m_X9_noPlan) (n2 := 1) (d2 := 2) (a := 106) (ci := 9) (q := (RX9, TX9, 28)) (as := [gs_iv r]) (rest := []) dd_X9_chain_2 ok_X9_noPlan ml_X9_218 rfl rfl (by decide) gs_s106 rfl rfl (Nat.le_of_ble_eq_true rfl) (by decide) (c_X9_noPlan hI (by omega)) (fun r49 F50 A51 h52 => ?_)
  obtain ⟨z55, e54, e56, e57, x53⟩ := h52
  subst e54 e56 e57
  show sA _ _ _ 5 _ [gs_iv z55] _ _
  refine sA_if_ne (tgt := 24) dd_X9_chain_5 (by decide) (by omega) (fun q58 => ?_) (fun q58 => ?_)
  · skip
    refine sA_sipush (z := (-1001)) dd_X9_chain_24 (by decide) ?_
    refine sA_iret (z := -1001) dd_X9_chain_27 rfl ?_
    refine ⟨_, rfl, hI, hf, ?_⟩
    exact .inl ⟨by omega, by omega, u47, u48⟩
  · skip
    refine sA_aload_n dd_X9_chain_8 rfl (.head _) ?_
    refine sA_iload_n dd_X9_chain_9 rfl (.tail _ (.tail _ (.head _))) ?_
    refine sA_callV (y2 := m_X9_noPlan) (n2 := 1) (d2 := 2) (a := 106) (ci := 9) (q := (RX9, TX9, 28)) (as := [gs_iv p]) (rest := []) dd_X9_chain_10 ok_X9_noPlan ml_X9_218 rfl rfl (by decide) gs_s106 rfl rfl (Nat.le_of_ble_eq_true rfl) (by decide) (c_X9_noPlan hI (by omega)) (fun r59 F60 A61 h62 => ?_)
    obtain ⟨z65, e64, e66, e67, x63⟩ := h62
    subst e64 e66 e67
    show sA _ _ _ 13 _ [gs_iv z65] _ _
    refine sA_if_ne (tgt := 24) dd_X9_chain_13 (by decide) (by omega) (fun q68 => ?_) (fun q68 => ?_)
    · skip
      refine sA_sipush (z := (-1001)) dd_X9_chain_24 (by decide) ?_
      refine sA_iret (z := -1001) dd_X9_chain_27 rfl ?_
      refine ⟨_, rfl, hI, hf, ?_⟩
      exact .inl ⟨by omega, by omega, u47, u48⟩
    · skip
      refine sA_aload_n dd_X9_chain_16 rfl (.head _) ?_
      refine sA_iload_n dd_X9_chain_17 rfl (.tail _ (.tail _ (.tail _ (.head _)))) ?_
      refine sA_callV (y2 := m_X9_noPlan) (n2 := 1) (d2 := 2) (a := 106) (ci := 9) (q := (RX9, TX9, 28)) (as := [gs_iv q]) (rest := []) dd_X9_chain_18 ok_X9_noPlan ml_X9_218 rfl rfl (by decide) gs_s106 rfl rfl (Nat.le_of_ble_eq_true rfl) (by decide) (c_X9_noPlan hI (by omega)) (fun r69 F70 A71 h72 => ?_)
      obtain ⟨z75, e74, e76, e77, x73⟩ := h72
      subst e74 e76 e77
      show sA _ _ _ 21 _ [gs_iv z75] _ _
      refine sA_if_eq (tgt := 28) dd_X9_chain_21 (by decide) (by omega) (fun q78 => ?_) (fun q78 => ?_)
      · skip
        refine sA_aload_n dd_X9_chain_28 rfl (.head _) ?_
        refine sA_getr (ci := 9) (j := 6) (q := (RX9, TX9, 28)) dd_X9_chain_29 rfl (by decide) fl_X9_19 (by decide) gs_s106 rfl ?_
        refine sA_iload_n dd_X9_chain_32 rfl (.tail _ (.tail _ (.head _))) ?_
        refine sA_iald (n := 9) dd_X9_chain_33 (by decide) gs_s110 (by omega) (by decide) ?_
        have b79 : (0 : Int) ≤ A 110 p.toNat ∧ A 110 p.toNat ≤ 60 := hI.2 110 p.toNat
        refine sA_aload_n dd_X9_chain_34 rfl (.head _) ?_
        refine sA_getr (ci := 9) (j := 6) (q := (RX9, TX9, 28)) dd_X9_chain_35 rfl (by decide) fl_X9_19 (by decide) gs_s106 rfl ?_
        refine sA_iload_n dd_X9_chain_38 rfl (.tail _ (.tail _ (.tail _ (.head _)))) ?_
        refine sA_iald (n := 9) dd_X9_chain_39 (by decide) gs_s110 (by omega) (by decide) ?_
        have b80 : (0 : Int) ≤ A 110 q.toNat ∧ A 110 q.toNat ≤ 60 := hI.2 110 q.toNat
        refine sA_iadd dd_X9_chain_40 ?_
        refine sA_istore (lv' := [(4, gs_iv ((A 110 p.toNat) + (A 110 q.toNat))), (0, .ref 106), (1, gs_iv r), (2, gs_iv p), (3, gs_iv q)]) dd_X9_chain_41 (by decide) rfl ?_
        refine sA_iload dd_X9_chain_43 (.head _) ?_
        refine sA_bipush (z := 60) dd_X9_chain_45 (by decide) ?_
        refine sA_icmp_le (tgt := 54) dd_X9_chain_47 (by decide) (by omega) (by omega) (fun q81 => ?_) (fun q81 => ?_)
        · skip
          refine sA_iconst (z := 0) dd_X9_chain_54 ?_
          refine sA_istore (lv' := [(5, gs_iv 0), (4, gs_iv ((A 110 p.toNat) + (A 110 q.toNat))), (0, .ref 106), (1, gs_iv r), (2, gs_iv p), (3, gs_iv q)]) dd_X9_chain_55 (by decide) rfl ?_
          refine sA_sub (lv2 := [(5, gs_iv 0), (4, gs_iv ((A 110 p.toNat) + (A 110 q.toNat))), (0, .ref 106), (1, gs_iv r), (2, gs_iv p), (3, gs_iv q)]) (List.forall_mem_cons.mpr ⟨(.head _), (List.forall_mem_cons.mpr ⟨(.tail _ (.head _)), (List.forall_mem_cons.mpr ⟨(.tail _ (.tail _ (.head _))), (List.forall_mem_cons.mpr ⟨(.tail _ (.tail _ (.tail _ (.head _)))), (List.forall_mem_cons.mpr ⟨(.tail _ (.tail _ (.tail _ (.tail _ (.head _))))), (List.forall_mem_cons.mpr ⟨(.tail _ (.tail _ (.tail _ (.tail _ (.tail _ (.head _)))))), (fun _ h => absurd h List.not_mem_nil)⟩)⟩)⟩)⟩)⟩)⟩) ?_
          exact (k_X9_chain_vf hI hr hp hq (((A 110 p.toNat) + (A 110 q.toNat)) - 0 + 100 : Int).toNat.succ).1 ((A 110 p.toNat) + (A 110 q.toNat)) 0 F A hI hf (by omega) (by omega) (by omega) (by omega) (by omega) (by first | (intro j h1 h2; exfalso; omega) | exact gs_u_ext (h := fun j => (if j < A 110 p.toNat then A 111 (60 * p + j).toNat else A 111 (60 * q + j - A 110 p.toNat).toNat)) (by omega) u46 (by show A1 111 (60 * p + k).toNat = (if k < A 110 p.toNat then A 111 (60 * p + k).toNat else A 111 (60 * q + k - A 110 p.toNat).toNat); rw [if_pos (by rw [← i6]; omega), i7]) i5 | exact gs_u_ext (h := fun j => (if j < A 110 p.toNat then A 111 (60 * p + j).toNat else A 111 (60 * q + j - A 110 p.toNat).toNat)) (by omega) u46 (by show A1 111 (60 * q + k - A1 110 p.toNat).toNat = (if k < A 110 p.toNat then A 111 (60 * p + k).toNat else A 111 (60 * q + k - A 110 p.toNat).toNat); rw [if_neg (by rw [← i6]; omega), i6, i7]) i5 | fail) (by first | exact u47.trans i6 | exact u47 | fail) (by first | exact u48.trans i7 | exact u48 | fail) (by omega) (by omega)
        · skip
          refine sA_sipush (z := (-1004)) dd_X9_chain_50 (by decide) ?_
          refine sA_iret (z := -1004) dd_X9_chain_53 rfl ?_
          refine ⟨_, rfl, hI, hf, ?_⟩
          exact .inr ⟨by omega, by omega, by omega, by omega, by omega, by omega, .inl ⟨by omega, by omega, u47, u48⟩⟩
      · skip
        refine sA_sipush (z := (-1001)) dd_X9_chain_24 (by decide) ?_
        refine sA_iret (z := -1001) dd_X9_chain_27 rfl ?_
        refine ⟨_, rfl, hI, hf, ?_⟩
        exact .inl ⟨by omega, by omega, u47, u48⟩
theorem k_X9_turn_vf {r p : Int} {F A : gs_F} (hI : gs_I F A) (hr : -2147483648 ≤ r ∧ r ≤ 2147483647) (hp : -2147483648 ≤ p ∧ p ≤ 2147483647) (hc : 0 ≤ p → p ≤ 7 → ∀ i : Int, 0 ≤ i → i < A 110 p.toNat → 0 ≤ A 111 (60 * p + i).toNat ∧ A 111 (60 * p + i).toNat ≤ 15) : ∀ nN : Nat, (∀ (n : Int) (k : Int)  (F1 A1 : gs_F), gs_I F1 A1 → gs_fr (fun _ _ => False) (fun c => c = 110 ∨ c = 111 ∨ c = 118) F A F1 A1 → 0 ≤ r ∧ r ≤ 7 → 0 ≤ p ∧ p ≤ 7 → 0 ≤ k ∧ k ≤ n → n ≤ 60 → (∀ j : Int, 0 ≤ j → j < k → A1 118 j.toNat = A 111 (60 * p + n - 1 - j).toNat) → A1 110 = A 110 → A1 111 = A 111 → n = A 110 p.toNat → n - k + 100 < (nN : Int) → sA m_X9_turn 3 (fun rv F' A' => ∃ z : Int, rv = some (gs_iv z) ∧ gs_I F' A' ∧ gs_fr (fun _ _ => False) (fun c => c = 110 ∨ c = 111 ∨ c = 118) F A F' A' ∧ (((r < 0 ∨ 7 < r ∨ p < 0 ∨ 7 < p) ∧ z = -1001 ∧ A' 110 = A 110 ∧ A' 111 = A 111) ∨ (0 ≤ r ∧ r ≤ 7 ∧ 0 ≤ p ∧ p ≤ 7 ∧ z = A 110 p.toNat ∧ A' 110 = gs_u (A 110) r.toNat z ∧ (∀ j : Int, 0 ≤ j → j < z → A' 111 (60 * r + j).toNat = rd_flip (A 111 (60 * p + z - 1 - j).toNat)) ∧ (∀ i : Int, 0 ≤ i → (i < 60 * r ∨ 60 * r + 60 ≤ i) → A' 111 i.toNat = A 111 i.toNat)))) 30 [(4, gs_iv k), (3, gs_iv n), (0, .ref 106), (1, gs_iv r), (2, gs_iv p)] [] F1 A1) ∧ (∀ (n : Int) (k : Int)  (F1 A1 : gs_F), gs_I F1 A1 → gs_fr (fun _ _ => False) (fun c => c = 110 ∨ c = 111 ∨ c = 118) F A F1 A1 → 0 ≤ r ∧ r ≤ 7 → 0 ≤ k ∧ k ≤ n → n ≤ 60 → (∀ j : Int, 0 ≤ j → j < n → A1 118 j.toNat = A 111 (60 * p + n - 1 - j).toNat) → A1 110 = gs_u (A 110) r.toNat n → (∀ i : Int, 0 ≤ i → i < k → A1 111 (60 * r + i).toNat = rd_flip (A1 118 i.toNat)) → (∀ i : Int, 0 ≤ i → (i < 60 * r ∨ 60 * r + 60 ≤ i) → A1 111 i.toNat = A 111 i.toNat) → 0 ≤ p ∧ p ≤ 7 → n = A 110 p.toNat → n - k < (nN : Int) → sA m_X9_turn 3 (fun rv F' A' => ∃ z : Int, rv = some (gs_iv z) ∧ gs_I F' A' ∧ gs_fr (fun _ _ => False) (fun c => c = 110 ∨ c = 111 ∨ c = 118) F A F' A' ∧ (((r < 0 ∨ 7 < r ∨ p < 0 ∨ 7 < p) ∧ z = -1001 ∧ A' 110 = A 110 ∧ A' 111 = A 111) ∨ (0 ≤ r ∧ r ≤ 7 ∧ 0 ≤ p ∧ p ≤ 7 ∧ z = A 110 p.toNat ∧ A' 110 = gs_u (A 110) r.toNat z ∧ (∀ j : Int, 0 ≤ j → j < z → A' 111 (60 * r + j).toNat = rd_flip (A 111 (60 * p + z - 1 - j).toNat)) ∧ (∀ i : Int, 0 ≤ i → (i < 60 * r ∨ 60 * r + 60 ≤ i) → A' 111 i.toNat = A 111 i.toNat)))) 75 [(4, gs_iv k), (3, gs_iv n), (0, .ref 106), (1, gs_iv r)] [] F1 A1) := by
  intro nN
  induction nN with
  | zero =>
    exact ⟨fun a0 a1 a2 a3 a4 a5 i0 i1 i2 i3 i4 i5 i6 i7 hm => by exfalso; omega, fun a0 a1 a2 a3 a4 a5 i0 i1 i2 i3 i4 i5 i6 i7 i8 hm => by exfalso; omega⟩
  | succ nN ih =>
    refine ⟨?_, ?_⟩
    · skip
      intro n k F1 A1 hI1 hf1 i0 i1 i2 i3 i4 i5 i6 i7 hm
      have u1 : A1 118 = A1 118 := rfl
      have u2 : A1 110 = A1 110 := rfl
      have u3 : A1 111 = A1 111 := rfl
      refine sA_iload dd_X9_turn_30 (.head _) ?_
      refine sA_iload_n dd_X9_turn_32 rfl (.tail _ (.head _)) ?_
      refine sA_icmp_ge (tgt := 65) dd_X9_turn_33 (by decide) (by omega) (by omega) (fun q4 => ?_) (fun q4 => ?_)
      · skip
        refine sA_aload_n dd_X9_turn_65 rfl (.tail _ (.tail _ (.head _))) ?_
        refine sA_getr (ci := 9) (j := 6) (q := (RX9, TX9, 28)) dd_X9_turn_66 rfl (by decide) fl_X9_19 (by decide) gs_s106 rfl ?_
        refine sA_iload_n dd_X9_turn_69 rfl (.tail _ (.tail _ (.tail _ (.head _)))) ?_
        refine sA_iload_n dd_X9_turn_70 rfl (.tail _ (.head _)) ?_
        refine sA_iast (n := 9) dd_X9_turn_71 (by decide) gs_s110 (by omega) (by decide) ?_
        have I6 : gs_I F1 (gs_up A1 110 r.toNat n) := gs_I_ast hI1 (show (0 : Int) ≤ n ∧ n ≤ 60 by omega)
        have f7 := gs_fr_ast hf1 (a := 110) (z := n) (i := r.toNat) (by first | omega | (dsimp only; omega) | (dsimp only) | fail)
        have u8 : (gs_up A1 110 r.toNat n) 118 = A1 118 := (gs_up_row _ _ (by omega)).trans u1
        have u9 : (gs_up A1 110 r.toNat n) 110 = gs_u (A1 110) r.toNat n := (gs_up_u A1 110 r.toNat n).trans (congrArg (fun f => gs_u f r.toNat n) u2)
        have u10 : (gs_up A1 110 r.toNat n) 111 = A1 111 := (gs_up_row _ _ (by omega)).trans u3
        generalize gs_up A1 110 r.toNat n = A5 at I6 f7 u8 u9 u10 ⊢
        refine sA_iconst (z := 0) dd_X9_turn_72 ?_
        refine sA_istore (lv' := [(4, gs_iv 0), (3, gs_iv n), (0, .ref 106), (1, gs_iv r), (2, gs_iv p)]) dd_X9_turn_73 (by decide) rfl ?_
        refine sA_sub (lv2 := [(4, gs_iv 0), (3, gs_iv n), (0, .ref 106), (1, gs_iv r)]) (List.forall_mem_cons.mpr ⟨(.head _), (List.forall_mem_cons.mpr ⟨(.tail _ (.head _)), (List.forall_mem_cons.mpr ⟨(.tail _ (.tail _ (.head _))), (List.forall_mem_cons.mpr ⟨(.tail _ (.tail _ (.tail _ (.head _)))), (fun _ h => absurd h List.not_mem_nil)⟩)⟩)⟩)⟩) ?_
        exact ih.2 n 0 F1 A5 I6 f7 (by omega) (by omega) (by omega) (by first | (rw [u8]; exact fun j h1 h2 => i4 j h1 (by omega)) | (rw [u8]; exact i3) | fail) (by first | exact u9.trans i4 | (rw [u9, i5]) | fail) (by first | (intro i h1 h2; exfalso; omega) | (rw [u8]; exact gs_feed_ext (N := 60 * r) (m := k) (h := fun i => rd_flip (A1 118 i.toNat)) (by omega) (by omega) u10 (by omega) i5) | fail) (by first | (intro i h1 h2; rw [u10, gs_u_ne _ _ (by omega)]; exact i6 i h1 h2) | (intro i h1 h2; rw [u10, i6]) | fail) (by omega) (by first | exact i8 | exact i7 | fail) (by omega)
      · skip
        refine sA_aload_n dd_X9_turn_36 rfl (.tail _ (.tail _ (.head _))) ?_
        refine sA_getr (ci := 9) (j := 23) (q := (RX9, TX9, 28)) dd_X9_turn_37 rfl (by decide) fl_X9_47 (by decide) gs_s106 rfl ?_
        refine sA_iload dd_X9_turn_40 (.head _) ?_
        refine sA_aload_n dd_X9_turn_42 rfl (.tail _ (.tail _ (.head _))) ?_
        refine sA_getr (ci := 9) (j := 7) (q := (RX9, TX9, 28)) dd_X9_turn_43 rfl (by decide) fl_X9_22 (by decide) gs_s106 rfl ?_
        refine sA_bipush (z := 60) dd_X9_turn_46 (by decide) ?_
        refine sA_iload_n dd_X9_turn_48 rfl (.tail _ (.tail _ (.tail _ (.tail _ (.head _))))) ?_
        refine sA_imul dd_X9_turn_49 ?_
        refine sA_iload_n dd_X9_turn_50 rfl (.tail _ (.head _)) ?_
        refine sA_iadd dd_X9_turn_51 ?_
        refine sA_iconst (z := 1) dd_X9_turn_52 ?_
        refine sA_isub dd_X9_turn_53 ?_
        refine sA_iload dd_X9_turn_54 (.head _) ?_
        refine sA_isub dd_X9_turn_56 ?_
        refine sA_iald (n := 540) dd_X9_turn_57 (by decide) gs_s111 (by omega) (by decide) ?_
        have b11 : (-2147483648 : Int) ≤ A1 111 ((((60 * p) + n) - 1) - k).toNat ∧ A1 111 ((((60 * p) + n) - 1) - k).toNat ≤ 2147483647 := hI1.2 111 ((((60 * p) + n) - 1) - k).toNat
        refine sA_iast (n := 600) dd_X9_turn_58 (by decide) gs_s118 (by omega) (by decide) ?_
        have I13 : gs_I F1 (gs_up A1 118 k.toNat (A1 111 ((((60 * p) + n) - 1) - k).toNat)) := gs_I_ast hI1 (show (-2147483648 : Int) ≤ A1 111 ((((60 * p) + n) - 1) - k).toNat ∧ A1 111 ((((60 * p) + n) - 1) - k).toNat ≤ 2147483647 by omega)
        have f14 := gs_fr_ast hf1 (a := 118) (z := A1 111 ((((60 * p) + n) - 1) - k).toNat) (i := k.toNat) (by first | omega | (dsimp only; omega) | (dsimp only) | fail)
        have u15 : (gs_up A1 118 k.toNat (A1 111 ((((60 * p) + n) - 1) - k).toNat)) 118 = gs_u (A1 118) k.toNat (A1 111 ((((60 * p) + n) - 1) - k).toNat) := (gs_up_u A1 118 k.toNat (A1 111 ((((60 * p) + n) - 1) - k).toNat)).trans (congrArg (fun f => gs_u f k.toNat (A1 111 ((((60 * p) + n) - 1) - k).toNat)) u1)
        have u16 : (gs_up A1 118 k.toNat (A1 111 ((((60 * p) + n) - 1) - k).toNat)) 110 = A1 110 := (gs_up_row _ _ (by omega)).trans u2
        have u17 : (gs_up A1 118 k.toNat (A1 111 ((((60 * p) + n) - 1) - k).toNat)) 111 = A1 111 := (gs_up_row _ _ (by omega)).trans u3
        generalize gs_up A1 118 k.toNat (A1 111 ((((60 * p) + n) - 1) - k).toNat) = A12 at I13 f14 u15 u16 u17 ⊢
        refine sA_iinc (lv' := [(4, gs_iv (k + 1)), (3, gs_iv n), (0, .ref 106), (1, gs_iv r), (2, gs_iv p)]) dd_X9_turn_59 (.head _) (by decide) rfl ?_
        refine sA_goto (tgt := 30) dd_X9_turn_62 (by decide) ?_
        refine sA_sub (lv2 := [(4, gs_iv (k + 1)), (3, gs_iv n), (0, .ref 106), (1, gs_iv r), (2, gs_iv p)]) (List.forall_mem_cons.mpr ⟨(.head _), (List.forall_mem_cons.mpr ⟨(.tail _ (.head _)), (List.forall_mem_cons.mpr ⟨(.tail _ (.tail _ (.head _))), (List.forall_mem_cons.mpr ⟨(.tail _ (.tail _ (.tail _ (.head _)))), (List.forall_mem_cons.mpr ⟨(.tail _ (.tail _ (.tail _ (.tail _ (.head _))))), (fun _ h => absurd h List.not_mem_nil)⟩)⟩)⟩)⟩)⟩) ?_
        exact ih.1 n (k + 1) F1 A12 I13 f14 (by omega) (by omega) (by omega) (by omega) (by first | (intro j h1 h2; exfalso; omega) | exact gs_u_ext (h := fun j => A 111 (60 * p + n - 1 - j).toNat) (by omega) u15 (by rw [i6]) i4 | fail) (by first | exact u16.trans i5 | exact u16 | fail) (by first | exact u17.trans i6 | exact u17 | fail) (by first | rfl | exact i7 | fail) (by omega)
    · skip
      intro n k F1 A1 hI1 hf1 i0 i1 i2 i3 i4 i5 i6 i7 i8 hm
      have u18 : A1 118 = A1 118 := rfl
      have u19 : A1 110 = A1 110 := rfl
      have u20 : A1 111 = A1 111 := rfl
      refine sA_iload dd_X9_turn_75 (.head _) ?_
      refine sA_iload_n dd_X9_turn_77 rfl (.tail _ (.head _)) ?_
      refine sA_icmp_ge (tgt := 132) dd_X9_turn_78 (by decide) (by omega) (by omega) (fun q21 => ?_) (fun q21 => ?_)
      · skip
        refine sA_iload_n dd_X9_turn_132 rfl (.tail _ (.head _)) ?_
        refine sA_iret (z := n) dd_X9_turn_133 rfl ?_
        refine ⟨_, rfl, hI1, hf1, ?_⟩
        exact .inr ⟨by omega, by omega, by omega, by omega, i8, i4, fun j h1 h2 => by rw [i5 j h1 (by omega), i3 j h1 h2], i6⟩
      · skip
        have h118 := i3 k i1.1 (by omega)
        have hcr := hc (by omega) (by omega) (n - 1 - k) (by omega) (by omega)
        rw [show 60 * p + (n - 1 - k) = 60 * p + n - 1 - k by omega, ← h118] at hcr
        have hfl := rd_flip_e hcr
        refine sA_aload_n dd_X9_turn_81 rfl (.tail _ (.tail _ (.head _))) ?_
        refine sA_getr (ci := 9) (j := 7) (q := (RX9, TX9, 28)) dd_X9_turn_82 rfl (by decide) fl_X9_22 (by decide) gs_s106 rfl ?_
        refine sA_bipush (z := 60) dd_X9_turn_85 (by decide) ?_
        refine sA_iload_n dd_X9_turn_87 rfl (.tail _ (.tail _ (.tail _ (.head _)))) ?_
        refine sA_imul dd_X9_turn_88 ?_
        refine sA_iload dd_X9_turn_89 (.head _) ?_
        refine sA_iadd dd_X9_turn_91 ?_
        refine sA_aload_n dd_X9_turn_92 rfl (.tail _ (.tail _ (.head _))) ?_
        refine sA_getr (ci := 9) (j := 23) (q := (RX9, TX9, 28)) dd_X9_turn_93 rfl (by decide) fl_X9_47 (by decide) gs_s106 rfl ?_
        refine sA_iload dd_X9_turn_96 (.head _) ?_
        refine sA_iald (n := 600) dd_X9_turn_98 (by decide) gs_s118 (by omega) (by decide) ?_
        have b22 : (-2147483648 : Int) ≤ A1 118 k.toNat ∧ A1 118 k.toNat ≤ 2147483647 := hI1.2 118 k.toNat
        refine sA_iconst (z := 2) dd_X9_turn_99 ?_
        refine sA_iremN dd_X9_turn_100 (by omega) (by omega) (by omega) ?_
        refine sA_if_ne (tgt := 116) dd_X9_turn_101 (by decide) (by omega) (fun q23 => ?_) (fun q23 => ?_)
        · skip
          refine sA_aload_n dd_X9_turn_116 rfl (.tail _ (.tail _ (.head _))) ?_
          refine sA_getr (ci := 9) (j := 23) (q := (RX9, TX9, 28)) dd_X9_turn_117 rfl (by decide) fl_X9_47 (by decide) gs_s106 rfl ?_
          refine sA_iload dd_X9_turn_120 (.head _) ?_
          refine sA_iald (n := 600) dd_X9_turn_122 (by decide) gs_s118 (by omega) (by decide) ?_
          refine sA_iconst (z := 1) dd_X9_turn_123 ?_
          refine sA_isub dd_X9_turn_124 ?_
          refine sA_iast (n := 540) dd_X9_turn_125 (by decide) gs_s111 (by omega) (by decide) ?_
          have I25 : gs_I F1 (gs_up A1 111 (((60 * r) + k).toNat) ((A1 118 k.toNat) - 1)) := gs_I_ast hI1 (show (-2147483648 : Int) ≤ (A1 118 k.toNat) - 1 ∧ (A1 118 k.toNat) - 1 ≤ 2147483647 by omega)
          have f26 := gs_fr_ast hf1 (a := 111) (z := (A1 118 k.toNat) - 1) (i := ((60 * r) + k).toNat) (by first | omega | (dsimp only; omega) | (dsimp only) | fail)
          have u27 : (gs_up A1 111 (((60 * r) + k).toNat) ((A1 118 k.toNat) - 1)) 118 = A1 118 := (gs_up_row _ _ (by omega)).trans u18
          have u28 : (gs_up A1 111 (((60 * r) + k).toNat) ((A1 118 k.toNat) - 1)) 110 = A1 110 := (gs_up_row _ _ (by omega)).trans u19
          have u29 : (gs_up A1 111 (((60 * r) + k).toNat) ((A1 118 k.toNat) - 1)) 111 = gs_u (A1 111) (((60 * r) + k).toNat) ((A1 118 k.toNat) - 1) := (gs_up_u A1 111 (((60 * r) + k).toNat) ((A1 118 k.toNat) - 1)).trans (congrArg (fun f => gs_u f (((60 * r) + k).toNat) ((A1 118 k.toNat) - 1)) u20)
          generalize gs_up A1 111 (((60 * r) + k).toNat) ((A1 118 k.toNat) - 1) = A24 at I25 f26 u27 u28 u29 ⊢
          refine sA_iinc (lv' := [(4, gs_iv (k + 1)), (3, gs_iv n), (0, .ref 106), (1, gs_iv r)]) dd_X9_turn_126 (.head _) (by decide) rfl ?_
          refine sA_goto (tgt := 75) dd_X9_turn_129 (by decide) ?_
          refine sA_sub (lv2 := [(4, gs_iv (k + 1)), (3, gs_iv n), (0, .ref 106), (1, gs_iv r)]) (List.forall_mem_cons.mpr ⟨(.head _), (List.forall_mem_cons.mpr ⟨(.tail _ (.head _)), (List.forall_mem_cons.mpr ⟨(.tail _ (.tail _ (.head _))), (List.forall_mem_cons.mpr ⟨(.tail _ (.tail _ (.tail _ (.head _)))), (fun _ h => absurd h List.not_mem_nil)⟩)⟩)⟩)⟩) ?_
          exact ih.2 n (k + 1) F1 A24 I25 f26 (by omega) (by omega) (by omega) (by first | (rw [u27]; exact fun j h1 h2 => i4 j h1 (by omega)) | (rw [u27]; exact i3) | fail) (by first | exact u28.trans i4 | (rw [u28, i5]) | fail) (by first | (intro i h1 h2; exfalso; omega) | (rw [u27]; exact gs_feed_ext (N := 60 * r) (m := k) (h := fun i => rd_flip (A1 118 i.toNat)) (by omega) (by omega) u29 (by omega) i5) | fail) (by first | (intro i h1 h2; rw [u29, gs_u_ne _ _ (by omega)]; exact i6 i h1 h2) | (intro i h1 h2; rw [u29, i6]) | fail) (by omega) (by first | exact i8 | exact i7 | fail) (by omega)
        · skip
          refine sA_aload_n dd_X9_turn_104 rfl (.tail _ (.tail _ (.head _))) ?_
          refine sA_getr (ci := 9) (j := 23) (q := (RX9, TX9, 28)) dd_X9_turn_105 rfl (by decide) fl_X9_47 (by decide) gs_s106 rfl ?_
          refine sA_iload dd_X9_turn_108 (.head _) ?_
          refine sA_iald (n := 600) dd_X9_turn_110 (by decide) gs_s118 (by omega) (by decide) ?_
          refine sA_iconst (z := 1) dd_X9_turn_111 ?_
          refine sA_iadd dd_X9_turn_112 ?_
          refine sA_goto (tgt := 125) dd_X9_turn_113 (by decide) ?_
          refine sA_iast (n := 540) dd_X9_turn_125 (by decide) gs_s111 (by omega) (by decide) ?_
          have I31 : gs_I F1 (gs_up A1 111 (((60 * r) + k).toNat) ((A1 118 k.toNat) + 1)) := gs_I_ast hI1 (show (-2147483648 : Int) ≤ (A1 118 k.toNat) + 1 ∧ (A1 118 k.toNat) + 1 ≤ 2147483647 by omega)
          have f32 := gs_fr_ast hf1 (a := 111) (z := (A1 118 k.toNat) + 1) (i := ((60 * r) + k).toNat) (by first | omega | (dsimp only; omega) | (dsimp only) | fail)
          have u33 : (gs_up A1 111 (((60 * r) + k).toNat) ((A1 118 k.toNat) + 1)) 118 = A1 118 := (gs_up_row _ _ (by omega)).trans u18
          have u34 : (gs_up A1 111 (((60 * r) + k).toNat) ((A1 118 k.toNat) + 1)) 110 = A1 110 := (gs_up_row _ _ (by omega)).trans u19
          have u35 : (gs_up A1 111 (((60 * r) + k).toNat) ((A1 118 k.toNat) + 1)) 111 = gs_u (A1 111) (((60 * r) + k).toNat) ((A1 118 k.toNat) + 1) := (gs_up_u A1 111 (((60 * r) + k).toNat) ((A1 118 k.toNat) + 1)).trans (congrArg (fun f => gs_u f (((60 * r) + k).toNat) ((A1 118 k.toNat) + 1)) u20)
          generalize gs_up A1 111 (((60 * r) + k).toNat) ((A1 118 k.toNat) + 1) = A30 at I31 f32 u33 u34 u35 ⊢
          refine sA_iinc (lv' := [(4, gs_iv (k + 1)), (3, gs_iv n), (0, .ref 106), (1, gs_iv r)]) dd_X9_turn_126 (.head _) (by decide) rfl ?_
          refine sA_goto (tgt := 75) dd_X9_turn_129 (by decide) ?_
          refine sA_sub (lv2 := [(4, gs_iv (k + 1)), (3, gs_iv n), (0, .ref 106), (1, gs_iv r)]) (List.forall_mem_cons.mpr ⟨(.head _), (List.forall_mem_cons.mpr ⟨(.tail _ (.head _)), (List.forall_mem_cons.mpr ⟨(.tail _ (.tail _ (.head _))), (List.forall_mem_cons.mpr ⟨(.tail _ (.tail _ (.tail _ (.head _)))), (fun _ h => absurd h List.not_mem_nil)⟩)⟩)⟩)⟩) ?_
          exact ih.2 n (k + 1) F1 A30 I31 f32 (by omega) (by omega) (by omega) (by first | (rw [u33]; exact fun j h1 h2 => i4 j h1 (by omega)) | (rw [u33]; exact i3) | fail) (by first | exact u34.trans i4 | (rw [u34, i5]) | fail) (by first | (intro i h1 h2; exfalso; omega) | (rw [u33]; exact gs_feed_ext (N := 60 * r) (m := k) (h := fun i => rd_flip (A1 118 i.toNat)) (by omega) (by omega) u35 (by omega) i5) | fail) (by first | (intro i h1 h2; rw [u35, gs_u_ne _ _ (by omega)]; exact i6 i h1 h2) | (intro i h1 h2; rw [u35, i6]) | fail) (by omega) (by first | exact i8 | exact i7 | fail) (by omega)
theorem c_X9_turn_vf {r p : Int} {F A : gs_F} (hI : gs_I F A) (hr : -2147483648 ≤ r ∧ r ≤ 2147483647) (hp : -2147483648 ≤ p ∧ p ≤ 2147483647) (hc : 0 ≤ p → p ≤ 7 → ∀ i : Int, 0 ≤ i → i < A 110 p.toNat → 0 ≤ A 111 (60 * p + i).toNat ∧ A 111 (60 * p + i).toNat ≤ 15) : sC m_X9_turn 3 [.ref 106, gs_iv r, gs_iv p] F A (fun rv F' A' => ∃ z : Int, rv = some (gs_iv z) ∧ gs_I F' A' ∧ gs_fr (fun _ _ => False) (fun c => c = 110 ∨ c = 111 ∨ c = 118) F A F' A' ∧ (((r < 0 ∨ 7 < r ∨ p < 0 ∨ 7 < p) ∧ z = -1001 ∧ A' 110 = A 110 ∧ A' 111 = A 111) ∨ (0 ≤ r ∧ r ≤ 7 ∧ 0 ≤ p ∧ p ≤ 7 ∧ z = A 110 p.toNat ∧ A' 110 = gs_u (A 110) r.toNat z ∧ (∀ j : Int, 0 ≤ j → j < z → A' 111 (60 * r + j).toNat = rd_flip (A 111 (60 * p + z - 1 - j).toNat)) ∧ (∀ i : Int, 0 ≤ i → (i < 60 * r ∨ 60 * r + 60 ≤ i) → A' 111 i.toNat = A 111 i.toNat)))) := by
  refine sC_of ok_X9_turn.1 (Nat.le_of_ble_eq_true rfl) ?_
  show sA _ _ _ 0 [(0, .ref 106), (1, gs_iv r), (2, gs_iv p)] [] F A
  have hf : gs_fr (fun _ _ => False) (fun c => c = 110 ∨ c = 111 ∨ c = 118) F A F A := gs_fr_refl _ _ _ _
  have u36 : A 118 = A 118 := rfl
  have u37 : A 110 = A 110 := rfl
  have u38 : A 111 = A 111 := rfl
  refine sA_aload_n dd_X9_turn_0 rfl (.head _) ?_
  refine sA_iload_n dd_X9_turn_1 rfl (.tail _ (.head _)) ?_
  refine sA_callV (y2 := m_X9_noPlan) (n2 := 1) (d2 := 2) (a := 106) (ci := 9) (q := (RX9, TX9, 28)) (as := [gs_iv r]) (rest := []) dd_X9_turn_2 ok_X9_noPlan ml_X9_218 rfl rfl (by decide) gs_s106 rfl rfl (Nat.le_of_ble_eq_true rfl) (by decide) (c_X9_noPlan hI (by omega)) (fun r39 F40 A41 h42 => ?_)
  obtain ⟨z45, e44, e46, e47, x43⟩ := h42
  subst e44 e46 e47
  show sA _ _ _ 5 _ [gs_iv z45] _ _
  refine sA_if_ne (tgt := 16) dd_X9_turn_5 (by decide) (by omega) (fun q48 => ?_) (fun q48 => ?_)
  · skip
    refine sA_sipush (z := (-1001)) dd_X9_turn_16 (by decide) ?_
    refine sA_iret (z := -1001) dd_X9_turn_19 rfl ?_
    refine ⟨_, rfl, hI, hf, ?_⟩
    exact .inl ⟨by omega, by omega, u37, u38⟩
  · skip
    refine sA_aload_n dd_X9_turn_8 rfl (.head _) ?_
    refine sA_iload_n dd_X9_turn_9 rfl (.tail _ (.tail _ (.head _))) ?_
    refine sA_callV (y2 := m_X9_noPlan) (n2 := 1) (d2 := 2) (a := 106) (ci := 9) (q := (RX9, TX9, 28)) (as := [gs_iv p]) (rest := []) dd_X9_turn_10 ok_X9_noPlan ml_X9_218 rfl rfl (by decide) gs_s106 rfl rfl (Nat.le_of_ble_eq_true rfl) (by decide) (c_X9_noPlan hI (by omega)) (fun r49 F50 A51 h52 => ?_)
    obtain ⟨z55, e54, e56, e57, x53⟩ := h52
    subst e54 e56 e57
    show sA _ _ _ 13 _ [gs_iv z55] _ _
    refine sA_if_eq (tgt := 20) dd_X9_turn_13 (by decide) (by omega) (fun q58 => ?_) (fun q58 => ?_)
    · skip
      refine sA_aload_n dd_X9_turn_20 rfl (.head _) ?_
      refine sA_getr (ci := 9) (j := 6) (q := (RX9, TX9, 28)) dd_X9_turn_21 rfl (by decide) fl_X9_19 (by decide) gs_s106 rfl ?_
      refine sA_iload_n dd_X9_turn_24 rfl (.tail _ (.tail _ (.head _))) ?_
      refine sA_iald (n := 9) dd_X9_turn_25 (by decide) gs_s110 (by omega) (by decide) ?_
      have b59 : (0 : Int) ≤ A 110 p.toNat ∧ A 110 p.toNat ≤ 60 := hI.2 110 p.toNat
      refine sA_istore_n (lv' := [(3, gs_iv (A 110 p.toNat)), (0, .ref 106), (1, gs_iv r), (2, gs_iv p)]) dd_X9_turn_26 rfl (by decide) rfl ?_
      refine sA_iconst (z := 0) dd_X9_turn_27 ?_
      refine sA_istore (lv' := [(4, gs_iv 0), (3, gs_iv (A 110 p.toNat)), (0, .ref 106), (1, gs_iv r), (2, gs_iv p)]) dd_X9_turn_28 (by decide) rfl ?_
      refine sA_sub (lv2 := [(4, gs_iv 0), (3, gs_iv (A 110 p.toNat)), (0, .ref 106), (1, gs_iv r), (2, gs_iv p)]) (List.forall_mem_cons.mpr ⟨(.head _), (List.forall_mem_cons.mpr ⟨(.tail _ (.head _)), (List.forall_mem_cons.mpr ⟨(.tail _ (.tail _ (.head _))), (List.forall_mem_cons.mpr ⟨(.tail _ (.tail _ (.tail _ (.head _)))), (List.forall_mem_cons.mpr ⟨(.tail _ (.tail _ (.tail _ (.tail _ (.head _))))), (fun _ h => absurd h List.not_mem_nil)⟩)⟩)⟩)⟩)⟩) ?_
      exact (k_X9_turn_vf hI hr hp hc ((A 110 p.toNat) - 0 + 100 : Int).toNat.succ).1 (A 110 p.toNat) 0 F A hI hf (by omega) (by omega) (by omega) (by omega) (by first | (intro j h1 h2; exfalso; omega) | exact gs_u_ext (h := fun j => A 111 (60 * p + n - 1 - j).toNat) (by omega) u36 (by rw [i6]) i4 | fail) (by first | exact u37.trans i5 | exact u37 | fail) (by first | exact u38.trans i6 | exact u38 | fail) (by first | rfl | exact i7 | fail) (by omega)
    · skip
      refine sA_sipush (z := (-1001)) dd_X9_turn_16 (by decide) ?_
      refine sA_iret (z := -1001) dd_X9_turn_19 rfl ?_
      refine ⟨_, rfl, hI, hf, ?_⟩
      exact .inl ⟨by omega, by omega, u37, u38⟩
theorem c_X9_draftPlan_vf {a b e : Int} {F A : gs_F} (hI : gs_I F A) (ha : -2147483648 ≤ a ∧ a ≤ 2147483647) (hb : -2147483648 ≤ b ∧ b ≤ 2147483647) (he : -2147483648 ≤ e ∧ e ≤ 2147483647) : sC m_X9_draftPlan 1 [.ref 106, gs_iv a, gs_iv b, gs_iv e] F A (fun rv F' A' => rv = none ∧ gs_I F' A' ∧ gs_fr (fun _ _ => False) (fun c => c = 110 ∨ c = 111) F A F' A' ∧ (gs_k8 A A')) := by
  refine sC_of ok_X9_draftPlan.1 (Nat.le_of_ble_eq_true rfl) ?_
  show sA _ _ _ 0 [(0, .ref 106), (1, gs_iv a), (2, gs_iv b), (3, gs_iv e)] [] F A
  have hf : gs_fr (fun _ _ => False) (fun c => c = 110 ∨ c = 111) F A F A := gs_fr_refl _ _ _ _
  have u1 : A 110 = A 110 := rfl
  have u2 : A 111 = A 111 := rfl
  have hk8 : gs_k8 A A := gs_k8_fr rfl rfl
  refine sA_aload_n dd_X9_draftPlan_0 rfl (.head _) ?_
  refine sA_getr (ci := 9) (j := 6) (q := (RX9, TX9, 28)) dd_X9_draftPlan_1 rfl (by decide) fl_X9_19 (by decide) gs_s106 rfl ?_
  refine sA_bipush (z := 8) dd_X9_draftPlan_4 (by decide) ?_
  refine sA_iload_n dd_X9_draftPlan_6 rfl (.tail _ (.tail _ (.tail _ (.head _)))) ?_
  refine sA_if_ge (tgt := 14) dd_X9_draftPlan_7 (by decide) (by omega) (fun q3 => ?_) (fun q3 => ?_)
  · skip
    refine sA_iconst (z := 3) dd_X9_draftPlan_14 ?_
    refine sA_iast (n := 9) dd_X9_draftPlan_15 (by decide) gs_s110 (by omega) (by decide) ?_
    have I5 : gs_I F (gs_up A 110 ((8 : Int).toNat) 3) := gs_I_ast hI (show (0 : Int) ≤ 3 ∧ 3 ≤ 60 by omega)
    have f6 := gs_fr_ast hf (a := 110) (z := 3) (i := (8 : Int).toNat) (by first | omega | (dsimp only; omega) | (dsimp only) | fail)
    have u7 : (gs_up A 110 ((8 : Int).toNat) 3) 110 = gs_u (A 110) ((8 : Int).toNat) 3 := (gs_up_u A 110 ((8 : Int).toNat) 3).trans (congrArg (fun f => gs_u f ((8 : Int).toNat) 3) u1)
    have u8 : (gs_up A 110 ((8 : Int).toNat) 3) 111 = A 111 := (gs_up_row _ _ (by omega)).trans u2
    generalize gs_up A 110 ((8 : Int).toNat) 3 = A4 at I5 f6 u7 u8 ⊢
    refine sA_aload_n dd_X9_draftPlan_16 rfl (.head _) ?_
    refine sA_getr (ci := 9) (j := 7) (q := (RX9, TX9, 28)) dd_X9_draftPlan_17 rfl (by decide) fl_X9_22 (by decide) gs_s106 rfl ?_
    refine sA_sipush (z := 480) dd_X9_draftPlan_20 (by decide) ?_
    refine sA_iload_n dd_X9_draftPlan_23 rfl (.tail _ (.head _)) ?_
    refine sA_iast (n := 540) dd_X9_draftPlan_24 (by decide) gs_s111 (by omega) (by decide) ?_
    have I10 : gs_I F (gs_up A4 111 ((480 : Int).toNat) a) := gs_I_ast I5 (show (-2147483648 : Int) ≤ a ∧ a ≤ 2147483647 by omega)
    have f11 := gs_fr_ast f6 (a := 111) (z := a) (i := (480 : Int).toNat) (by first | omega | (dsimp only; omega) | (dsimp only) | fail)
    have u12 : (gs_up A4 111 ((480 : Int).toNat) a) 110 = gs_u (A 110) ((8 : Int).toNat) 3 := (gs_up_row _ _ (by omega)).trans u7
    have u13 : (gs_up A4 111 ((480 : Int).toNat) a) 111 = gs_u (A 111) ((480 : Int).toNat) a := (gs_up_u A4 111 ((480 : Int).toNat) a).trans (congrArg (fun f => gs_u f ((480 : Int).toNat) a) u8)
    generalize gs_up A4 111 ((480 : Int).toNat) a = A9 at I10 f11 u12 u13 ⊢
    refine sA_aload_n dd_X9_draftPlan_25 rfl (.head _) ?_
    refine sA_getr (ci := 9) (j := 7) (q := (RX9, TX9, 28)) dd_X9_draftPlan_26 rfl (by decide) fl_X9_22 (by decide) gs_s106 rfl ?_
    refine sA_sipush (z := 481) dd_X9_draftPlan_29 (by decide) ?_
    refine sA_iload_n dd_X9_draftPlan_32 rfl (.tail _ (.tail _ (.head _))) ?_
    refine sA_iast (n := 540) dd_X9_draftPlan_33 (by decide) gs_s111 (by omega) (by decide) ?_
    have I15 : gs_I F (gs_up A9 111 ((481 : Int).toNat) b) := gs_I_ast I10 (show (-2147483648 : Int) ≤ b ∧ b ≤ 2147483647 by omega)
    have f16 := gs_fr_ast f11 (a := 111) (z := b) (i := (481 : Int).toNat) (by first | omega | (dsimp only; omega) | (dsimp only) | fail)
    have u17 : (gs_up A9 111 ((481 : Int).toNat) b) 110 = gs_u (A 110) ((8 : Int).toNat) 3 := (gs_up_row _ _ (by omega)).trans u12
    have u18 : (gs_up A9 111 ((481 : Int).toNat) b) 111 = gs_u (gs_u (A 111) ((480 : Int).toNat) a) ((481 : Int).toNat) b := (gs_up_u A9 111 ((481 : Int).toNat) b).trans (congrArg (fun f => gs_u f ((481 : Int).toNat) b) u13)
    generalize gs_up A9 111 ((481 : Int).toNat) b = A14 at I15 f16 u17 u18 ⊢
    refine sA_aload_n dd_X9_draftPlan_34 rfl (.head _) ?_
    refine sA_getr (ci := 9) (j := 7) (q := (RX9, TX9, 28)) dd_X9_draftPlan_35 rfl (by decide) fl_X9_22 (by decide) gs_s106 rfl ?_
    refine sA_sipush (z := 482) dd_X9_draftPlan_38 (by decide) ?_
    refine sA_iload_n dd_X9_draftPlan_41 rfl (.tail _ (.tail _ (.tail _ (.head _)))) ?_
    refine sA_iast (n := 540) dd_X9_draftPlan_42 (by decide) gs_s111 (by omega) (by decide) ?_
    have I20 : gs_I F (gs_up A14 111 ((482 : Int).toNat) e) := gs_I_ast I15 (show (-2147483648 : Int) ≤ e ∧ e ≤ 2147483647 by omega)
    have f21 := gs_fr_ast f16 (a := 111) (z := e) (i := (482 : Int).toNat) (by first | omega | (dsimp only; omega) | (dsimp only) | fail)
    have u22 : (gs_up A14 111 ((482 : Int).toNat) e) 110 = gs_u (A 110) ((8 : Int).toNat) 3 := (gs_up_row _ _ (by omega)).trans u17
    have u23 : (gs_up A14 111 ((482 : Int).toNat) e) 111 = gs_u (gs_u (gs_u (A 111) ((480 : Int).toNat) a) ((481 : Int).toNat) b) ((482 : Int).toNat) e := (gs_up_u A14 111 ((482 : Int).toNat) e).trans (congrArg (fun f => gs_u f ((482 : Int).toNat) e) u18)
    generalize gs_up A14 111 ((482 : Int).toNat) e = A19 at I20 f21 u22 u23 ⊢
    refine sA_vret dd_X9_draftPlan_43 rfl ?_
    refine ⟨rfl, I20, f21, ?_⟩
    refine ⟨fun i hi => ?_, fun i hi => ?_⟩
    · rw [u22, gs_u_ne _ _ (by omega)]
    · rw [u23, gs_u_ne _ _ (by omega), gs_u_ne _ _ (by omega), gs_u_ne _ _ (by omega)]
  · skip
    refine sA_iconst (z := 2) dd_X9_draftPlan_10 ?_
    refine sA_goto (tgt := 15) dd_X9_draftPlan_11 (by decide) ?_
    refine sA_iast (n := 9) dd_X9_draftPlan_15 (by decide) gs_s110 (by omega) (by decide) ?_
    have I25 : gs_I F (gs_up A 110 ((8 : Int).toNat) 2) := gs_I_ast hI (show (0 : Int) ≤ 2 ∧ 2 ≤ 60 by omega)
    have f26 := gs_fr_ast hf (a := 110) (z := 2) (i := (8 : Int).toNat) (by first | omega | (dsimp only; omega) | (dsimp only) | fail)
    have u27 : (gs_up A 110 ((8 : Int).toNat) 2) 110 = gs_u (A 110) ((8 : Int).toNat) 2 := (gs_up_u A 110 ((8 : Int).toNat) 2).trans (congrArg (fun f => gs_u f ((8 : Int).toNat) 2) u1)
    have u28 : (gs_up A 110 ((8 : Int).toNat) 2) 111 = A 111 := (gs_up_row _ _ (by omega)).trans u2
    generalize gs_up A 110 ((8 : Int).toNat) 2 = A24 at I25 f26 u27 u28 ⊢
    refine sA_aload_n dd_X9_draftPlan_16 rfl (.head _) ?_
    refine sA_getr (ci := 9) (j := 7) (q := (RX9, TX9, 28)) dd_X9_draftPlan_17 rfl (by decide) fl_X9_22 (by decide) gs_s106 rfl ?_
    refine sA_sipush (z := 480) dd_X9_draftPlan_20 (by decide) ?_
    refine sA_iload_n dd_X9_draftPlan_23 rfl (.tail _ (.head _)) ?_
    refine sA_iast (n := 540) dd_X9_draftPlan_24 (by decide) gs_s111 (by omega) (by decide) ?_
    have I30 : gs_I F (gs_up A24 111 ((480 : Int).toNat) a) := gs_I_ast I25 (show (-2147483648 : Int) ≤ a ∧ a ≤ 2147483647 by omega)
    have f31 := gs_fr_ast f26 (a := 111) (z := a) (i := (480 : Int).toNat) (by first | omega | (dsimp only; omega) | (dsimp only) | fail)
    have u32 : (gs_up A24 111 ((480 : Int).toNat) a) 110 = gs_u (A 110) ((8 : Int).toNat) 2 := (gs_up_row _ _ (by omega)).trans u27
    have u33 : (gs_up A24 111 ((480 : Int).toNat) a) 111 = gs_u (A 111) ((480 : Int).toNat) a := (gs_up_u A24 111 ((480 : Int).toNat) a).trans (congrArg (fun f => gs_u f ((480 : Int).toNat) a) u28)
    generalize gs_up A24 111 ((480 : Int).toNat) a = A29 at I30 f31 u32 u33 ⊢
    refine sA_aload_n dd_X9_draftPlan_25 rfl (.head _) ?_
    refine sA_getr (ci := 9) (j := 7) (q := (RX9, TX9, 28)) dd_X9_draftPlan_26 rfl (by decide) fl_X9_22 (by decide) gs_s106 rfl ?_
    refine sA_sipush (z := 481) dd_X9_draftPlan_29 (by decide) ?_
    refine sA_iload_n dd_X9_draftPlan_32 rfl (.tail _ (.tail _ (.head _))) ?_
    refine sA_iast (n := 540) dd_X9_draftPlan_33 (by decide) gs_s111 (by omega) (by decide) ?_
    have I35 : gs_I F (gs_up A29 111 ((481 : Int).toNat) b) := gs_I_ast I30 (show (-2147483648 : Int) ≤ b ∧ b ≤ 2147483647 by omega)
    have f36 := gs_fr_ast f31 (a := 111) (z := b) (i := (481 : Int).toNat) (by first | omega | (dsimp only; omega) | (dsimp only) | fail)
    have u37 : (gs_up A29 111 ((481 : Int).toNat) b) 110 = gs_u (A 110) ((8 : Int).toNat) 2 := (gs_up_row _ _ (by omega)).trans u32
    have u38 : (gs_up A29 111 ((481 : Int).toNat) b) 111 = gs_u (gs_u (A 111) ((480 : Int).toNat) a) ((481 : Int).toNat) b := (gs_up_u A29 111 ((481 : Int).toNat) b).trans (congrArg (fun f => gs_u f ((481 : Int).toNat) b) u33)
    generalize gs_up A29 111 ((481 : Int).toNat) b = A34 at I35 f36 u37 u38 ⊢
    refine sA_aload_n dd_X9_draftPlan_34 rfl (.head _) ?_
    refine sA_getr (ci := 9) (j := 7) (q := (RX9, TX9, 28)) dd_X9_draftPlan_35 rfl (by decide) fl_X9_22 (by decide) gs_s106 rfl ?_
    refine sA_sipush (z := 482) dd_X9_draftPlan_38 (by decide) ?_
    refine sA_iload_n dd_X9_draftPlan_41 rfl (.tail _ (.tail _ (.tail _ (.head _)))) ?_
    refine sA_iast (n := 540) dd_X9_draftPlan_42 (by decide) gs_s111 (by omega) (by decide) ?_
    have I40 : gs_I F (gs_up A34 111 ((482 : Int).toNat) e) := gs_I_ast I35 (show (-2147483648 : Int) ≤ e ∧ e ≤ 2147483647 by omega)
    have f41 := gs_fr_ast f36 (a := 111) (z := e) (i := (482 : Int).toNat) (by first | omega | (dsimp only; omega) | (dsimp only) | fail)
    have u42 : (gs_up A34 111 ((482 : Int).toNat) e) 110 = gs_u (A 110) ((8 : Int).toNat) 2 := (gs_up_row _ _ (by omega)).trans u37
    have u43 : (gs_up A34 111 ((482 : Int).toNat) e) 111 = gs_u (gs_u (gs_u (A 111) ((480 : Int).toNat) a) ((481 : Int).toNat) b) ((482 : Int).toNat) e := (gs_up_u A34 111 ((482 : Int).toNat) e).trans (congrArg (fun f => gs_u f ((482 : Int).toNat) e) u38)
    generalize gs_up A34 111 ((482 : Int).toNat) e = A39 at I40 f41 u42 u43 ⊢
    refine sA_vret dd_X9_draftPlan_43 rfl ?_
    refine ⟨rfl, I40, f41, ?_⟩
    refine ⟨fun i hi => ?_, fun i hi => ?_⟩
    · rw [u42, gs_u_ne _ _ (by omega)]
    · rw [u43, gs_u_ne _ _ (by omega), gs_u_ne _ _ (by omega), gs_u_ne _ _ (by omega)]
theorem k_X9_numberPlan_vf {n x : Int} {F A : gs_F} (hI : gs_I F A) (hn : 0 ≤ n ∧ n ≤ 3) (hx : -2147483648 ≤ x ∧ x ≤ 2147483647) : ∀ nN : Nat, (∀ (l : Int) (k : Int)  (F1 A1 : gs_F), gs_I F1 A1 → gs_fr (fun _ _ => False) (fun c => c = 110 ∨ c = 111) F A F1 A1 → -2147483648 ≤ l ∧ l ≤ 2147483647 → -1 ≤ k ∧ k ≤ 2 → gs_k8 A A1 → k + 1 < (nN : Int) → sA m_X9_numberPlan 2 (fun rv F' A' => rv = none ∧ gs_I F' A' ∧ gs_fr (fun _ _ => False) (fun c => c = 110 ∨ c = 111) F A F' A' ∧ (gs_k8 A A')) 15 [(4, gs_iv k), (3, gs_iv l), (0, .ref 106)] [] F1 A1) := by
  intro nN
  induction nN with
  | zero =>
    exact fun a0 a1 a2 a3 a4 a5 i0 i1 i2 hm => by exfalso; omega
  | succ nN ih =>
    intro l k F1 A1 hI1 hf1 i0 i1 i2 hm
    have u1 : A1 110 = A1 110 := rfl
    have u2 : A1 111 = A1 111 := rfl
    have hb0 : (1 : Int) ≤ F1 106 0 ∧ F1 106 0 ≤ 3 := hI1.1 106 0
    refine sA_iload dd_X9_numberPlan_15 (.head _) ?_
    refine sA_if_lt (tgt := 54) dd_X9_numberPlan_17 (by decide) (by omega) (fun q3 => ?_) (fun q3 => ?_)
    · skip
      refine sA_vret dd_X9_numberPlan_54 rfl ?_
      refine ⟨rfl, hI1, hf1, ?_⟩
      exact i2
    · skip
      refine sA_aload_n dd_X9_numberPlan_20 rfl (.tail _ (.tail _ (.head _))) ?_
      refine sA_getr (ci := 9) (j := 7) (q := (RX9, TX9, 28)) dd_X9_numberPlan_21 rfl (by decide) fl_X9_22 (by decide) gs_s106 rfl ?_
      refine sA_sipush (z := 480) dd_X9_numberPlan_24 (by decide) ?_
      refine sA_iload dd_X9_numberPlan_27 (.head _) ?_
      refine sA_iadd dd_X9_numberPlan_29 ?_
      refine sA_iload_n dd_X9_numberPlan_30 rfl (.tail _ (.head _)) ?_
      refine sA_iconst (z := 2) dd_X9_numberPlan_31 ?_
      refine sA_aload_n dd_X9_numberPlan_32 rfl (.tail _ (.tail _ (.head _))) ?_
      refine sA_callV (y2 := m_X9_twists) (n2 := 0) (d2 := 1) (a := 106) (ci := 9) (q := (RX9, TX9, 28)) (as := []) (rest := [gs_iv 2, gs_iv l, gs_iv (480 + k), .ref 111]) dd_X9_numberPlan_33 ok_X9_twists ml_X9_289 rfl rfl (by decide) gs_s106 rfl rfl (Nat.le_of_ble_eq_true rfl) (by decide) (c_X9_twists hI1 ) (fun r4 F5 A6 h7 => ?_)
      obtain ⟨z10, e9, e11, e12, x8⟩ := h7
      subst e9 e11 e12
      show sA _ _ _ 36 _ [gs_iv z10, gs_iv 2, gs_iv l, gs_iv (480 + k), .ref 111] _ _
      refine sA_imul dd_X9_numberPlan_36 ?_
      refine sA_irem dd_X9_numberPlan_37 (by omega) (by omega) (by omega) ?_
      refine sA_wrap ?_
      have b14 := gs_w_rng (l.tmod (2 * z10))
      generalize gs_w (l.tmod (2 * z10)) = w13 at b14 ⊢
      refine sA_iast (n := 540) dd_X9_numberPlan_38 (by decide) gs_s111 (by omega) (by decide) ?_
      have I16 : gs_I F1 (gs_up A1 111 ((480 + k).toNat) w13) := gs_I_ast hI1 (show (-2147483648 : Int) ≤ w13 ∧ w13 ≤ 2147483647 by omega)
      have f17 := gs_fr_ast hf1 (a := 111) (z := w13) (i := (480 + k).toNat) (by first | omega | (dsimp only; omega) | (dsimp only) | fail)
      have u18 : (gs_up A1 111 ((480 + k).toNat) w13) 110 = A1 110 := (gs_up_row _ _ (by omega)).trans u1
      have u19 : (gs_up A1 111 ((480 + k).toNat) w13) 111 = gs_u (A1 111) ((480 + k).toNat) w13 := (gs_up_u A1 111 ((480 + k).toNat) w13).trans (congrArg (fun f => gs_u f ((480 + k).toNat) w13) u2)
      generalize gs_up A1 111 ((480 + k).toNat) w13 = A15 at I16 f17 u18 u19 ⊢
      refine sA_iload_n dd_X9_numberPlan_39 rfl (.tail _ (.head _)) ?_
      refine sA_iconst (z := 2) dd_X9_numberPlan_40 ?_
      refine sA_aload_n dd_X9_numberPlan_41 rfl (.tail _ (.tail _ (.head _))) ?_
      refine sA_callV (y2 := m_X9_twists) (n2 := 0) (d2 := 1) (a := 106) (ci := 9) (q := (RX9, TX9, 28)) (as := []) (rest := [gs_iv 2, gs_iv l]) dd_X9_numberPlan_42 ok_X9_twists ml_X9_289 rfl rfl (by decide) gs_s106 rfl rfl (Nat.le_of_ble_eq_true rfl) (by decide) (c_X9_twists I16 ) (fun r20 F21 A22 h23 => ?_)
      obtain ⟨z26, e25, e27, e28, x24⟩ := h23
      subst e25 e27 e28
      show sA _ _ _ 45 _ [gs_iv z26, gs_iv 2, gs_iv l] _ _
      refine sA_imul dd_X9_numberPlan_45 ?_
      refine sA_idiv dd_X9_numberPlan_46 (by omega) (by omega) (by omega) ?_
      refine sA_wrap ?_
      have b30 := gs_w_rng (l.tdiv (2 * z26))
      generalize gs_w (l.tdiv (2 * z26)) = w29 at b30 ⊢
      refine sA_istore_n (lv' := [(3, gs_iv w29), (4, gs_iv k), (0, .ref 106)]) dd_X9_numberPlan_47 rfl (by decide) rfl ?_
      refine sA_iinc (lv' := [(4, gs_iv (k + (-1))), (3, gs_iv w29), (0, .ref 106)]) dd_X9_numberPlan_48 (.tail _ (.head _)) (by decide) rfl ?_
      refine sA_goto (tgt := 15) dd_X9_numberPlan_51 (by decide) ?_
      refine sA_sub (lv2 := [(4, gs_iv (k + (-1))), (3, gs_iv w29), (0, .ref 106)]) (List.forall_mem_cons.mpr ⟨(.head _), (List.forall_mem_cons.mpr ⟨(.tail _ (.head _)), (List.forall_mem_cons.mpr ⟨(.tail _ (.tail _ (.head _))), (fun _ h => absurd h List.not_mem_nil)⟩)⟩)⟩) ?_
      exact ih w29 (k + (-1)) F1 A15 I16 f17 (by omega) (by omega) (by first | (refine gs_k8_tr (B := A1) i2 ⟨fun i hi => ?_, fun i hi => ?_⟩ <;> first | (rw [u18]) | (rw [u19, gs_u_ne _ _ (by omega)]) | fail) | (refine ⟨fun i hi => ?_, fun i hi => ?_⟩ <;> first | (rw [u18, gs_u_ne _ _ (by omega)]) | (rw [u19]) | fail) | fail) (by omega)
theorem c_X9_numberPlan_vf {n x : Int} {F A : gs_F} (hI : gs_I F A) (hn : 0 ≤ n ∧ n ≤ 3) (hx : -2147483648 ≤ x ∧ x ≤ 2147483647) : sC m_X9_numberPlan 2 [.ref 106, gs_iv n, gs_iv x] F A (fun rv F' A' => rv = none ∧ gs_I F' A' ∧ gs_fr (fun _ _ => False) (fun c => c = 110 ∨ c = 111) F A F' A' ∧ (gs_k8 A A')) := by
  refine sC_of ok_X9_numberPlan.1 (Nat.le_of_ble_eq_true rfl) ?_
  show sA _ _ _ 0 [(0, .ref 106), (1, gs_iv n), (2, gs_iv x)] [] F A
  have hf : gs_fr (fun _ _ => False) (fun c => c = 110 ∨ c = 111) F A F A := gs_fr_refl _ _ _ _
  have u31 : A 110 = A 110 := rfl
  have u32 : A 111 = A 111 := rfl
  have hk8 : gs_k8 A A := gs_k8_fr rfl rfl
  refine sA_aload_n dd_X9_numberPlan_0 rfl (.head _) ?_
  refine sA_getr (ci := 9) (j := 6) (q := (RX9, TX9, 28)) dd_X9_numberPlan_1 rfl (by decide) fl_X9_19 (by decide) gs_s106 rfl ?_
  refine sA_bipush (z := 8) dd_X9_numberPlan_4 (by decide) ?_
  refine sA_iload_n dd_X9_numberPlan_6 rfl (.tail _ (.head _)) ?_
  refine sA_iast (n := 9) dd_X9_numberPlan_7 (by decide) gs_s110 (by omega) (by decide) ?_
  have I34 : gs_I F (gs_up A 110 ((8 : Int).toNat) n) := gs_I_ast hI (show (0 : Int) ≤ n ∧ n ≤ 60 by omega)
  have f35 := gs_fr_ast hf (a := 110) (z := n) (i := (8 : Int).toNat) (by first | omega | (dsimp only; omega) | (dsimp only) | fail)
  have u36 : (gs_up A 110 ((8 : Int).toNat) n) 110 = gs_u (A 110) ((8 : Int).toNat) n := (gs_up_u A 110 ((8 : Int).toNat) n).trans (congrArg (fun f => gs_u f ((8 : Int).toNat) n) u31)
  have u37 : (gs_up A 110 ((8 : Int).toNat) n) 111 = A 111 := (gs_up_row _ _ (by omega)).trans u32
  generalize gs_up A 110 ((8 : Int).toNat) n = A33 at I34 f35 u36 u37 ⊢
  refine sA_iload_n dd_X9_numberPlan_8 rfl (.tail _ (.tail _ (.head _))) ?_
  refine sA_istore_n (lv' := [(3, gs_iv x), (0, .ref 106), (1, gs_iv n), (2, gs_iv x)]) dd_X9_numberPlan_9 rfl (by decide) rfl ?_
  refine sA_iload_n dd_X9_numberPlan_10 rfl (.tail _ (.tail _ (.head _))) ?_
  refine sA_iconst (z := 1) dd_X9_numberPlan_11 ?_
  refine sA_isub dd_X9_numberPlan_12 ?_
  refine sA_istore (lv' := [(4, gs_iv (n - 1)), (3, gs_iv x), (0, .ref 106), (1, gs_iv n), (2, gs_iv x)]) dd_X9_numberPlan_13 (by decide) rfl ?_
  refine sA_sub (lv2 := [(4, gs_iv (n - 1)), (3, gs_iv x), (0, .ref 106)]) (List.forall_mem_cons.mpr ⟨(.head _), (List.forall_mem_cons.mpr ⟨(.tail _ (.head _)), (List.forall_mem_cons.mpr ⟨(.tail _ (.tail _ (.head _))), (fun _ h => absurd h List.not_mem_nil)⟩)⟩)⟩) ?_
  exact (k_X9_numberPlan_vf hI hn hx ((n - 1) + 1 : Int).toNat.succ) x (n - 1) F A33 I34 f35 (by omega) (by omega) (by first | (refine gs_k8_tr (B := A1) i2 ⟨fun i hi => ?_, fun i hi => ?_⟩ <;> first | (rw [u36]) | (rw [u37, gs_u_ne _ _ (by omega)]) | fail) | (refine ⟨fun i hi => ?_, fun i hi => ?_⟩ <;> first | (rw [u36, gs_u_ne _ _ (by omega)]) | (rw [u37]) | fail) | fail) (by omega)
theorem c_X9_law_vf {t s : Int} {F A : gs_F} (hI : gs_I F A) (ht : -2147483648 ≤ t ∧ t ≤ 2147483647) (hs : -2147483648 ≤ s ∧ s ≤ 2147483647) : sC m_X9_law 8 [.ref 106, gs_iv t, gs_iv s] F A (fun rv F' A' => ∃ z : Int, rv = some (gs_iv z) ∧ gs_I F' A' ∧ gs_fr (fun c j => c = 106 ∧ (j = 13 ∨ j = 15)) (fun c => c = 110 ∨ c = 111 ∨ c = 114 ∨ c = 115 ∨ c = 119 ∨ c = 120) F A F' A' ∧ (gs_k8 A A')) := by
  refine sC_of ok_X9_law.1 (Nat.le_of_ble_eq_true rfl) ?_
  show sA _ _ _ 0 [(0, .ref 106), (1, gs_iv t), (2, gs_iv s)] [] F A
  have hf : gs_fr (fun c j => c = 106 ∧ (j = 13 ∨ j = 15)) (fun c => c = 110 ∨ c = 111 ∨ c = 114 ∨ c = 115 ∨ c = 119 ∨ c = 120) F A F A := gs_fr_refl _ _ _ _
  have hk8 : gs_k8 A A := gs_k8_fr rfl rfl
  have hb0 : (1 : Int) ≤ F 106 0 ∧ F 106 0 ≤ 3 := hI.1 106 0
  refine sA_iload_n dd_X9_law_0 rfl (.tail _ (.head _)) ?_
  refine sA_i2l dd_X9_law_1 (by omega) ?_
  refine sA_lconst (z := 0) dd_X9_law_2 (by decide) ?_
  refine sA_aload_n dd_X9_law_3 rfl (.head _) ?_
  refine sA_callV (y2 := m_X9_twists) (n2 := 0) (d2 := 1) (a := 106) (ci := 9) (q := (RX9, TX9, 28)) (as := []) (rest := [gs_lv 0, gs_lv t]) dd_X9_law_4 ok_X9_twists ml_X9_289 rfl rfl (by decide) gs_s106 rfl rfl (Nat.le_of_ble_eq_true rfl) (by decide) (c_X9_twists hI ) (fun r1 F2 A3 h4 => ?_)
  obtain ⟨z7, e6, e8, e9, x5⟩ := h4
  subst e6 e8 e9
  show sA _ _ _ 7 _ [gs_iv z7, gs_lv 0, gs_lv t] _ _
  refine sA_iconst (z := 1) dd_X9_law_7 ?_
  refine sA_isub dd_X9_law_8 ?_
  refine sA_i2l dd_X9_law_9 (by omega) ?_
  refine sA_callS (y2 := m_X9_in) (n2 := 3) (d2 := 1) (as := [gs_lv t, gs_lv 0, gs_lv (z7 - 1)]) (rest := []) dd_X9_law_10 ok_X9_in ml_X9_75 rfl rfl (Nat.le_of_ble_eq_true rfl) (by decide) (c_X9_in (by omega) (by omega) (by omega)) (fun r10 F11 A12 h13 => ?_)
  obtain ⟨z16, e15, e17, e18, x14⟩ := h13
  subst e15 e17 e18
  show sA _ _ _ 13 _ [gs_iv z16] _ _
  refine sA_if_eq (tgt := 32) dd_X9_law_13 (by decide) (by omega) (fun q19 => ?_) (fun q19 => ?_)
  · skip
    refine sA_sipush (z := (-1001)) dd_X9_law_32 (by decide) ?_
    refine sA_iret (z := -1001) dd_X9_law_35 rfl ?_
    refine ⟨_, rfl, hI, hf, ?_⟩
    exact hk8
  · skip
    refine sA_iload_n dd_X9_law_16 rfl (.tail _ (.tail _ (.head _))) ?_
    refine sA_i2l dd_X9_law_17 (by omega) ?_
    refine sA_lconst (z := 0) dd_X9_law_18 (by decide) ?_
    refine sA_aload_n dd_X9_law_19 rfl (.head _) ?_
    refine sA_callV (y2 := m_X9_twists) (n2 := 0) (d2 := 1) (a := 106) (ci := 9) (q := (RX9, TX9, 28)) (as := []) (rest := [gs_lv 0, gs_lv s]) dd_X9_law_20 ok_X9_twists ml_X9_289 rfl rfl (by decide) gs_s106 rfl rfl (Nat.le_of_ble_eq_true rfl) (by decide) (c_X9_twists hI ) (fun r20 F21 A22 h23 => ?_)
    obtain ⟨z26, e25, e27, e28, x24⟩ := h23
    subst e25 e27 e28
    show sA _ _ _ 23 _ [gs_iv z26, gs_lv 0, gs_lv s] _ _
    refine sA_iconst (z := 1) dd_X9_law_23 ?_
    refine sA_isub dd_X9_law_24 ?_
    refine sA_i2l dd_X9_law_25 (by omega) ?_
    refine sA_callS (y2 := m_X9_in) (n2 := 3) (d2 := 1) (as := [gs_lv s, gs_lv 0, gs_lv (z26 - 1)]) (rest := []) dd_X9_law_26 ok_X9_in ml_X9_75 rfl rfl (Nat.le_of_ble_eq_true rfl) (by decide) (c_X9_in (by omega) (by omega) (by omega)) (fun r29 F30 A31 h32 => ?_)
    obtain ⟨z35, e34, e36, e37, x33⟩ := h32
    subst e34 e36 e37
    show sA _ _ _ 29 _ [gs_iv z35] _ _
    refine sA_if_ne (tgt := 36) dd_X9_law_29 (by decide) (by omega) (fun q38 => ?_) (fun q38 => ?_)
    · skip
      refine sA_iconst (z := 2) dd_X9_law_36 ?_
      refine sA_iload_n dd_X9_law_37 rfl (.tail _ (.head _)) ?_
      refine sA_imul dd_X9_law_38 ?_
      refine sA_istore_n (lv' := [(3, gs_iv (2 * t)), (0, .ref 106), (1, gs_iv t), (2, gs_iv s)]) dd_X9_law_39 rfl (by decide) rfl ?_
      refine sA_iconst (z := 2) dd_X9_law_40 ?_
      refine sA_iload_n dd_X9_law_41 rfl (.tail _ (.tail _ (.tail _ (.head _)))) ?_
      refine sA_imul dd_X9_law_42 ?_
      refine sA_istore (lv' := [(4, gs_iv (2 * s)), (3, gs_iv (2 * t)), (0, .ref 106), (1, gs_iv t), (2, gs_iv s)]) dd_X9_law_43 (by decide) rfl ?_
      refine sA_aload_n dd_X9_law_45 rfl (.tail _ (.tail _ (.head _))) ?_
      refine sA_iload_n dd_X9_law_46 rfl (.tail _ (.head _)) ?_
      refine sA_iload dd_X9_law_47 (.head _) ?_
      refine sA_iconst (z := (-1)) dd_X9_law_49 ?_
      refine sA_callV (y2 := m_X9_draftPlan) (n2 := 3) (d2 := 1) (a := 106) (ci := 9) (q := (RX9, TX9, 28)) (as := [gs_iv (2 * t), gs_iv (2 * s), gs_iv (-1)]) (rest := []) dd_X9_law_50 ok_X9_draftPlan ml_X9_292 rfl rfl (by decide) gs_s106 rfl rfl (Nat.le_of_ble_eq_true rfl) (by decide) (c_X9_draftPlan_vf hI (by omega) (by omega) (by omega)) (fun r39 F40 A41 h42 => ?_)
      obtain ⟨e44, I45, f46, x43⟩ := h42
      subst e44
      have f47 := gs_fr_tr hf f46 (fun b j h => by first | exact False.elim h | omega | (dsimp only at h ⊢; omega) | fail) (fun b h => by first | exact False.elim h | omega | (dsimp only at h ⊢; omega) | fail)
      have t48 : gs_k8 A A41 := gs_k8_tr hk8 x43
      have y49 : gs_k8 A A41 := x43
      clear x43
      show sA _ _ _ 53 _ [] _ _
      refine sA_aload_n dd_X9_law_53 rfl (.tail _ (.tail _ (.head _))) ?_
      refine sA_bipush (z := 8) dd_X9_law_54 (by decide) ?_
      refine sA_callV (y2 := m_X9_findImages) (n2 := 1) (d2 := 7) (a := 106) (ci := 9) (q := (RX9, TX9, 28)) (as := [gs_iv 8]) (rest := []) dd_X9_law_56 ok_X9_findImages ml_X9_242 rfl rfl (by decide) gs_s106 rfl rfl (Nat.le_of_ble_eq_true rfl) (by decide) (c_X9_findImages I45 (by omega)) (fun r50 F51 A52 h53 => ?_)
      obtain ⟨z56, e55, I57, f58, x54⟩ := h53
      subst e55
      have f59 := gs_fr_tr f47 f58 (fun b j h => by first | exact False.elim h | omega | (dsimp only at h ⊢; omega) | fail) (fun b h => by first | exact False.elim h | omega | (dsimp only at h ⊢; omega) | fail)
      have t60 : gs_k8 A A52 := gs_k8_tr t48 (gs_k8_fr (f58.2 110 (by first | exact id | omega | (dsimp only; omega) | fail)) (f58.2 111 (by first | exact id | omega | (dsimp only; omega) | fail)))
      show sA _ _ _ 59 _ [gs_iv z56] _ _
      refine sA_istore (lv' := [(5, gs_iv z56), (4, gs_iv (2 * s)), (3, gs_iv (2 * t)), (0, .ref 106), (1, gs_iv t), (2, gs_iv s)]) dd_X9_law_59 (by decide) rfl ?_
      refine sA_aload_n dd_X9_law_61 rfl (.tail _ (.tail _ (.tail _ (.head _)))) ?_
      refine sA_iload dd_X9_law_62 (.tail _ (.head _)) ?_
      refine sA_iload_n dd_X9_law_64 rfl (.tail _ (.tail _ (.head _))) ?_
      refine sA_iconst (z := (-1)) dd_X9_law_65 ?_
      refine sA_callV (y2 := m_X9_draftPlan) (n2 := 3) (d2 := 1) (a := 106) (ci := 9) (q := (RX9, TX9, 28)) (as := [gs_iv (2 * s), gs_iv (2 * t), gs_iv (-1)]) (rest := []) dd_X9_law_66 ok_X9_draftPlan ml_X9_292 rfl rfl (by decide) gs_s106 rfl rfl (Nat.le_of_ble_eq_true rfl) (by decide) (c_X9_draftPlan_vf I57 (by omega) (by omega) (by omega)) (fun r61 F62 A63 h64 => ?_)
      obtain ⟨e66, I67, f68, x65⟩ := h64
      subst e66
      have f69 := gs_fr_tr f59 f68 (fun b j h => by first | exact False.elim h | omega | (dsimp only at h ⊢; omega) | fail) (fun b h => by first | exact False.elim h | omega | (dsimp only at h ⊢; omega) | fail)
      have t70 : gs_k8 A A63 := gs_k8_tr t60 x65
      have y71 : gs_k8 A52 A63 := x65
      clear x65
      show sA _ _ _ 69 _ [] _ _
      refine sA_aload_n dd_X9_law_69 rfl (.tail _ (.tail _ (.tail _ (.head _)))) ?_
      refine sA_callV (y2 := m_X9_isDraftLike) (n2 := 0) (d2 := 6) (a := 106) (ci := 9) (q := (RX9, TX9, 28)) (as := []) (rest := []) dd_X9_law_70 ok_X9_isDraftLike ml_X9_296 rfl rfl (by decide) gs_s106 rfl rfl (Nat.le_of_ble_eq_true rfl) (by decide) (c_X9_isDraftLike I67 ) (fun r72 F73 A74 h75 => ?_)
      obtain ⟨z78, e77, I79, f80, x76⟩ := h75
      subst e77
      have f81 := gs_fr_tr f69 f80 (fun b j h => by first | exact False.elim h | omega | (dsimp only at h ⊢; omega) | fail) (fun b h => by first | exact False.elim h | omega | (dsimp only at h ⊢; omega) | fail)
      have t82 : gs_k8 A A74 := gs_k8_tr t70 (gs_k8_fr (f80.2 110 (by first | exact id | omega | (dsimp only; omega) | fail)) (f80.2 111 (by first | exact id | omega | (dsimp only; omega) | fail)))
      show sA _ _ _ 73 _ [gs_iv z78] _ _
      refine sA_if_eq (tgt := 78) dd_X9_law_73 (by decide) (by omega) (fun q83 => ?_) (fun q83 => ?_)
      · skip
        refine sA_aload_n dd_X9_law_78 rfl (.tail _ (.tail _ (.tail _ (.head _)))) ?_
        refine sA_iload_n dd_X9_law_79 rfl (.tail _ (.tail _ (.head _))) ?_
        refine sA_iload dd_X9_law_80 (.tail _ (.head _)) ?_
        refine sA_iload_n dd_X9_law_82 rfl (.tail _ (.tail _ (.head _))) ?_
        refine sA_callV (y2 := m_X9_draftPlan) (n2 := 3) (d2 := 1) (a := 106) (ci := 9) (q := (RX9, TX9, 28)) (as := [gs_iv (2 * t), gs_iv (2 * s), gs_iv (2 * t)]) (rest := []) dd_X9_law_83 ok_X9_draftPlan ml_X9_292 rfl rfl (by decide) gs_s106 rfl rfl (Nat.le_of_ble_eq_true rfl) (by decide) (c_X9_draftPlan_vf I79 (by omega) (by omega) (by omega)) (fun r84 F85 A86 h87 => ?_)
        obtain ⟨e89, I90, f91, x88⟩ := h87
        subst e89
        have f92 := gs_fr_tr f81 f91 (fun b j h => by first | exact False.elim h | omega | (dsimp only at h ⊢; omega) | fail) (fun b h => by first | exact False.elim h | omega | (dsimp only at h ⊢; omega) | fail)
        have t93 : gs_k8 A A86 := gs_k8_tr t82 x88
        have y94 : gs_k8 A74 A86 := x88
        clear x88
        show sA _ _ _ 86 _ [] _ _
        refine sA_aload_n dd_X9_law_86 rfl (.tail _ (.tail _ (.tail _ (.head _)))) ?_
        refine sA_bipush (z := 8) dd_X9_law_87 (by decide) ?_
        refine sA_callV (y2 := m_X9_findImages) (n2 := 1) (d2 := 7) (a := 106) (ci := 9) (q := (RX9, TX9, 28)) (as := [gs_iv 8]) (rest := []) dd_X9_law_89 ok_X9_findImages ml_X9_242 rfl rfl (by decide) gs_s106 rfl rfl (Nat.le_of_ble_eq_true rfl) (by decide) (c_X9_findImages I90 (by omega)) (fun r95 F96 A97 h98 => ?_)
        obtain ⟨z101, e100, I102, f103, x99⟩ := h98
        subst e100
        have f104 := gs_fr_tr f92 f103 (fun b j h => by first | exact False.elim h | omega | (dsimp only at h ⊢; omega) | fail) (fun b h => by first | exact False.elim h | omega | (dsimp only at h ⊢; omega) | fail)
        have t105 : gs_k8 A A97 := gs_k8_tr t93 (gs_k8_fr (f103.2 110 (by first | exact id | omega | (dsimp only; omega) | fail)) (f103.2 111 (by first | exact id | omega | (dsimp only; omega) | fail)))
        show sA _ _ _ 92 _ [gs_iv z101] _ _
        refine sA_istore (lv' := [(5, gs_iv z101), (4, gs_iv (2 * s)), (3, gs_iv (2 * t)), (0, .ref 106), (1, gs_iv t), (2, gs_iv s)]) dd_X9_law_92 (by decide) rfl ?_
        refine sA_aload_n dd_X9_law_94 rfl (.tail _ (.tail _ (.tail _ (.head _)))) ?_
        refine sA_iload dd_X9_law_95 (.tail _ (.head _)) ?_
        refine sA_iload_n dd_X9_law_97 rfl (.tail _ (.tail _ (.head _))) ?_
        refine sA_iload dd_X9_law_98 (.tail _ (.head _)) ?_
        refine sA_callV (y2 := m_X9_draftPlan) (n2 := 3) (d2 := 1) (a := 106) (ci := 9) (q := (RX9, TX9, 28)) (as := [gs_iv (2 * s), gs_iv (2 * t), gs_iv (2 * s)]) (rest := []) dd_X9_law_100 ok_X9_draftPlan ml_X9_292 rfl rfl (by decide) gs_s106 rfl rfl (Nat.le_of_ble_eq_true rfl) (by decide) (c_X9_draftPlan_vf I102 (by omega) (by omega) (by omega)) (fun r106 F107 A108 h109 => ?_)
        obtain ⟨e111, I112, f113, x110⟩ := h109
        subst e111
        have f114 := gs_fr_tr f104 f113 (fun b j h => by first | exact False.elim h | omega | (dsimp only at h ⊢; omega) | fail) (fun b h => by first | exact False.elim h | omega | (dsimp only at h ⊢; omega) | fail)
        have t115 : gs_k8 A A108 := gs_k8_tr t105 x110
        have y116 : gs_k8 A97 A108 := x110
        clear x110
        show sA _ _ _ 103 _ [] _ _
        refine sA_aload_n dd_X9_law_103 rfl (.tail _ (.tail _ (.tail _ (.head _)))) ?_
        refine sA_callV (y2 := m_X9_isDraftLike) (n2 := 0) (d2 := 6) (a := 106) (ci := 9) (q := (RX9, TX9, 28)) (as := []) (rest := []) dd_X9_law_104 ok_X9_isDraftLike ml_X9_296 rfl rfl (by decide) gs_s106 rfl rfl (Nat.le_of_ble_eq_true rfl) (by decide) (c_X9_isDraftLike I112 ) (fun r117 F118 A119 h120 => ?_)
        obtain ⟨z123, e122, I124, f125, x121⟩ := h120
        subst e122
        have f126 := gs_fr_tr f114 f125 (fun b j h => by first | exact False.elim h | omega | (dsimp only at h ⊢; omega) | fail) (fun b h => by first | exact False.elim h | omega | (dsimp only at h ⊢; omega) | fail)
        have t127 : gs_k8 A A119 := gs_k8_tr t115 (gs_k8_fr (f125.2 110 (by first | exact id | omega | (dsimp only; omega) | fail)) (f125.2 111 (by first | exact id | omega | (dsimp only; omega) | fail)))
        show sA _ _ _ 107 _ [gs_iv z123] _ _
        refine sA_if_eq (tgt := 114) dd_X9_law_107 (by decide) (by omega) (fun q128 => ?_) (fun q128 => ?_)
        · skip
          refine sA_iconst (z := 2) dd_X9_law_114 ?_
          refine sA_iret (z := 2) dd_X9_law_115 rfl ?_
          refine ⟨_, rfl, I124, f126, ?_⟩
          exact t127
        · skip
          refine sA_iconst (z := 1) dd_X9_law_110 ?_
          refine sA_goto (tgt := 115) dd_X9_law_111 (by decide) ?_
          refine sA_iret (z := 1) dd_X9_law_115 rfl ?_
          refine ⟨_, rfl, I124, f126, ?_⟩
          exact t127
      · skip
        refine sA_iconst (z := 0) dd_X9_law_76 ?_
        refine sA_iret (z := 0) dd_X9_law_77 rfl ?_
        refine ⟨_, rfl, I79, f81, ?_⟩
        exact t82
    · skip
      refine sA_sipush (z := (-1001)) dd_X9_law_32 (by decide) ?_
      refine sA_iret (z := -1001) dd_X9_law_35 rfl ?_
      refine ⟨_, rfl, hI, hf, ?_⟩
      exact hk8
theorem k_X9_carry_vf {r s n i : Int} {F A : gs_F} (hI : gs_I F A) (hr : -2147483648 ≤ r ∧ r ≤ 2147483647) (hs : -2147483648 ≤ s ∧ s ≤ 2147483647) (hn : -2147483648 ≤ n ∧ n ≤ 2147483647) (hi : -2147483648 ≤ i ∧ i ≤ 2147483647) (hX : ∀ r : Nat, (r : Int) < F 106 3 → 1 ≤ A 108 r) : ∀ nN : Nat, (∀ (m : Int)  (F1 A1 : gs_F), gs_I F1 A1 → gs_fr (fun c j => c = 106 ∧ (j = 9 ∨ j = 11 ∨ j = 13 ∨ j = 15)) (fun c => c = 110 ∨ c = 111 ∨ c = 112 ∨ c = 113 ∨ c = 114 ∨ c = 115) F A F1 A1 → 0 ≤ r ∧ r < 12 → 0 ≤ s ∧ s < F 106 3 ∧ s < 12 → 0 ≤ n ∧ n ≤ 3 → -1 ≤ i ∧ i ≤ 2 → 0 ≤ m ∧ m ≤ n + 1 → gs_k8 A A1 → (4 - m) * 4294967296 + 1 < (nN : Int) → sA m_X9_carry 7 (fun rv F' A' => ∃ z : Int, rv = some (gs_iv z) ∧ gs_I F' A' ∧ gs_fr (fun c j => c = 106 ∧ (j = 9 ∨ j = 11 ∨ j = 13 ∨ j = 15)) (fun c => c = 110 ∨ c = 111 ∨ c = 112 ∨ c = 113 ∨ c = 114 ∨ c = 115) F A F' A' ∧ (gs_k8 A A')) 54 [(5, gs_iv m), (0, .ref 106), (1, gs_iv r), (2, gs_iv s), (3, gs_iv n), (4, gs_iv i)] [] F1 A1) ∧ (∀ (m : Int) (l : Int) (x : Int)  (F1 A1 : gs_F), gs_I F1 A1 → gs_fr (fun c j => c = 106 ∧ (j = 9 ∨ j = 11 ∨ j = 13 ∨ j = 15)) (fun c => c = 110 ∨ c = 111 ∨ c = 112 ∨ c = 113 ∨ c = 114 ∨ c = 115) F A F1 A1 → 0 ≤ r ∧ r < 12 → 0 ≤ s ∧ s < F 106 3 ∧ s < 12 → 0 ≤ n ∧ n ≤ 3 → -1 ≤ i ∧ i ≤ 2 → 0 ≤ m ∧ m ≤ n → -2147483648 ≤ l ∧ l ≤ 2147483647 → 0 ≤ x ∧ x ≤ 2147483647 → gs_k8 A A1 → (4 - m) * 4294967296 - x < (nN : Int) → sA m_X9_carry 7 (fun rv F' A' => ∃ z : Int, rv = some (gs_iv z) ∧ gs_I F' A' ∧ gs_fr (fun c j => c = 106 ∧ (j = 9 ∨ j = 11 ∨ j = 13 ∨ j = 15)) (fun c => c = 110 ∨ c = 111 ∨ c = 112 ∨ c = 113 ∨ c = 114 ∨ c = 115) F A F' A' ∧ (gs_k8 A A')) 71 [(7, gs_iv x), (6, gs_iv l), (5, gs_iv m), (0, .ref 106), (1, gs_iv r), (2, gs_iv s), (3, gs_iv n), (4, gs_iv i)] [] F1 A1) := by
  intro nN
  induction nN with
  | zero =>
    exact ⟨fun a0 a1 a2 a3 a4 i0 i1 i2 i3 i4 i5 hm => by exfalso; omega, fun a0 a1 a2 a3 a4 a5 a6 i0 i1 i2 i3 i4 i5 i6 i7 hm => by exfalso; omega⟩
  | succ nN ih =>
    refine ⟨?_, ?_⟩
    · skip
      intro m F1 A1 hI1 hf1 i0 i1 i2 i3 i4 i5 hm
      have hA8 := hf1.2 108 (by dsimp only; omega)
      have hx_s : 1 ≤ A1 108 s.toNat := by rw [hA8]; exact hX _ (by omega)
      refine sA_iload dd_X9_carry_54 (.head _) ?_
      refine sA_iload_n dd_X9_carry_56 rfl (.tail _ (.tail _ (.tail _ (.tail _ (.head _))))) ?_
      refine sA_icmp_gt (tgt := 141) dd_X9_carry_57 (by decide) (by omega) (by omega) (fun q1 => ?_) (fun q1 => ?_)
      · skip
        refine sA_iconst (z := (-1)) dd_X9_carry_141 ?_
        refine sA_iret (z := -1) dd_X9_carry_142 rfl ?_
        refine ⟨_, rfl, hI1, hf1, ?_⟩
        exact i5
      · skip
        refine sA_aload_n dd_X9_carry_60 rfl (.tail _ (.head _)) ?_
        refine sA_iload dd_X9_carry_61 (.head _) ?_
        refine sA_callV (y2 := m_X9_power) (n2 := 1) (d2 := 2) (a := 106) (ci := 9) (q := (RX9, TX9, 28)) (as := [gs_iv m]) (rest := []) dd_X9_carry_63 ok_X9_power ml_X9_301 rfl rfl (by decide) gs_s106 rfl rfl (Nat.le_of_ble_eq_true rfl) (by decide) (c_X9_power hI1 (by omega)) (fun r2 F3 A4 h5 => ?_)
        obtain ⟨z8, e7, e9, e10, x6⟩ := h5
        subst e7 e9 e10
        show sA _ _ _ 66 _ [gs_iv z8] _ _
        refine sA_istore (lv' := [(6, gs_iv z8), (5, gs_iv m), (0, .ref 106), (1, gs_iv r), (2, gs_iv s), (3, gs_iv n), (4, gs_iv i)]) dd_X9_carry_66 (by decide) rfl ?_
        refine sA_iconst (z := 0) dd_X9_carry_68 ?_
        refine sA_istore (lv' := [(7, gs_iv 0), (6, gs_iv z8), (5, gs_iv m), (0, .ref 106), (1, gs_iv r), (2, gs_iv s), (3, gs_iv n), (4, gs_iv i)]) dd_X9_carry_69 (by decide) rfl ?_
        refine sA_sub (lv2 := [(7, gs_iv 0), (6, gs_iv z8), (5, gs_iv m), (0, .ref 106), (1, gs_iv r), (2, gs_iv s), (3, gs_iv n), (4, gs_iv i)]) (List.forall_mem_cons.mpr ⟨(.head _), (List.forall_mem_cons.mpr ⟨(.tail _ (.head _)), (List.forall_mem_cons.mpr ⟨(.tail _ (.tail _ (.head _))), (List.forall_mem_cons.mpr ⟨(.tail _ (.tail _ (.tail _ (.head _)))), (List.forall_mem_cons.mpr ⟨(.tail _ (.tail _ (.tail _ (.tail _ (.head _))))), (List.forall_mem_cons.mpr ⟨(.tail _ (.tail _ (.tail _ (.tail _ (.tail _ (.head _)))))), (List.forall_mem_cons.mpr ⟨(.tail _ (.tail _ (.tail _ (.tail _ (.tail _ (.tail _ (.head _))))))), (List.forall_mem_cons.mpr ⟨(.tail _ (.tail _ (.tail _ (.tail _ (.tail _ (.tail _ (.tail _ (.head _)))))))), (fun _ h => absurd h List.not_mem_nil)⟩)⟩)⟩)⟩)⟩)⟩)⟩)⟩) ?_
        exact ih.2 m z8 0 F1 A1 hI1 hf1 (by omega) (by omega) (by omega) (by omega) (by omega) (by omega) (by omega) i5 (by omega)
    · skip
      intro m l x F1 A1 hI1 hf1 i0 i1 i2 i3 i4 i5 i6 i7 hm
      have hA8 := hf1.2 108 (by dsimp only; omega)
      have hx_s : 1 ≤ A1 108 s.toNat := by rw [hA8]; exact hX _ (by omega)
      refine sA_iload dd_X9_carry_71 (.head _) ?_
      refine sA_iload dd_X9_carry_73 (.tail _ (.head _)) ?_
      refine sA_icmp_ge (tgt := 135) dd_X9_carry_75 (by decide) (by omega) (by omega) (fun q11 => ?_) (fun q11 => ?_)
      · skip
        refine sA_iinc (lv' := [(5, gs_iv (m + 1)), (7, gs_iv x), (6, gs_iv l), (0, .ref 106), (1, gs_iv r), (2, gs_iv s), (3, gs_iv n), (4, gs_iv i)]) dd_X9_carry_135 (.tail _ (.tail _ (.head _))) (by decide) rfl ?_
        refine sA_goto (tgt := 54) dd_X9_carry_138 (by decide) ?_
        refine sA_sub (lv2 := [(5, gs_iv (m + 1)), (0, .ref 106), (1, gs_iv r), (2, gs_iv s), (3, gs_iv n), (4, gs_iv i)]) (List.forall_mem_cons.mpr ⟨(.head _), (List.forall_mem_cons.mpr ⟨(.tail _ (.tail _ (.tail _ (.head _)))), (List.forall_mem_cons.mpr ⟨(.tail _ (.tail _ (.tail _ (.tail _ (.head _))))), (List.forall_mem_cons.mpr ⟨(.tail _ (.tail _ (.tail _ (.tail _ (.tail _ (.head _)))))), (List.forall_mem_cons.mpr ⟨(.tail _ (.tail _ (.tail _ (.tail _ (.tail _ (.tail _ (.head _))))))), (List.forall_mem_cons.mpr ⟨(.tail _ (.tail _ (.tail _ (.tail _ (.tail _ (.tail _ (.tail _ (.head _)))))))), (fun _ h => absurd h List.not_mem_nil)⟩)⟩)⟩)⟩)⟩)⟩) ?_
        exact ih.1 (m + 1) F1 A1 hI1 hf1 (by omega) (by omega) (by omega) (by omega) (by omega) i7 (by omega)
      · skip
        refine sA_aload_n dd_X9_carry_78 rfl (.tail _ (.tail _ (.tail _ (.head _)))) ?_
        refine sA_iload dd_X9_carry_79 (.tail _ (.tail _ (.head _))) ?_
        refine sA_iload dd_X9_carry_81 (.head _) ?_
        refine sA_callV (y2 := m_X9_numberPlan) (n2 := 2) (d2 := 2) (a := 106) (ci := 9) (q := (RX9, TX9, 28)) (as := [gs_iv m, gs_iv x]) (rest := []) dd_X9_carry_83 ok_X9_numberPlan ml_X9_304 rfl rfl (by decide) gs_s106 rfl rfl (Nat.le_of_ble_eq_true rfl) (by decide) (c_X9_numberPlan_vf hI1 (by omega) (by omega)) (fun r12 F13 A14 h15 => ?_)
        obtain ⟨e17, I18, f19, x16⟩ := h15
        subst e17
        have v20 : A14 108 s.toNat = A1 108 s.toNat := congrFun (f19.2 108 (by first | exact id | omega | (dsimp only; omega) | (dsimp only) | fail)) _
        have f21 := gs_fr_tr hf1 f19 (fun b j h => by first | exact False.elim h | omega | (dsimp only at h ⊢; omega) | fail) (fun b h => by first | exact False.elim h | omega | (dsimp only at h ⊢; omega) | fail)
        have t22 : gs_k8 A A14 := gs_k8_tr i7 x16
        have y23 : gs_k8 A1 A14 := x16
        clear x16
        show sA _ _ _ 86 _ [] _ _
        refine sA_aload_n dd_X9_carry_86 rfl (.tail _ (.tail _ (.tail _ (.head _)))) ?_
        refine sA_iload_n dd_X9_carry_87 rfl (.tail _ (.tail _ (.tail _ (.tail _ (.head _))))) ?_
        refine sA_iload_n dd_X9_carry_88 rfl (.tail _ (.tail _ (.tail _ (.tail _ (.tail _ (.head _)))))) ?_
        refine sA_callV (y2 := m_X9_carries) (n2 := 2) (d2 := 6) (a := 106) (ci := 9) (q := (RX9, TX9, 28)) (as := [gs_iv r, gs_iv s]) (rest := []) dd_X9_carry_89 ok_X9_carries ml_X9_308 rfl rfl (by decide) gs_s106 rfl rfl (Nat.le_of_ble_eq_true rfl) (by decide) (c_X9_carries I18 (by omega) (by omega) (by omega)) (fun r24 F25 A26 h27 => ?_)
        obtain ⟨z30, e29, I31, f32, x28⟩ := h27
        subst e29
        have v33 : A26 108 s.toNat = A14 108 s.toNat := congrFun (f32.2 108 (by first | exact id | omega | (dsimp only; omega) | (dsimp only) | fail)) _
        have f34 := gs_fr_tr f21 f32 (fun b j h => by first | exact False.elim h | omega | (dsimp only at h ⊢; omega) | fail) (fun b h => by first | exact False.elim h | omega | (dsimp only at h ⊢; omega) | fail)
        have t35 : gs_k8 A A26 := gs_k8_tr t22 (gs_k8_fr (f32.2 110 (by first | exact id | omega | (dsimp only; omega) | fail)) (f32.2 111 (by first | exact id | omega | (dsimp only; omega) | fail)))
        show sA _ _ _ 92 _ [gs_iv z30] _ _
        refine sA_if_eq (tgt := 129) dd_X9_carry_92 (by decide) (by omega) (fun q36 => ?_) (fun q36 => ?_)
        · skip
          refine sA_iinc (lv' := [(7, gs_iv (x + 1)), (6, gs_iv l), (5, gs_iv m), (0, .ref 106), (1, gs_iv r), (2, gs_iv s), (3, gs_iv n), (4, gs_iv i)]) dd_X9_carry_129 (.head _) (by decide) rfl ?_
          refine sA_goto (tgt := 71) dd_X9_carry_132 (by decide) ?_
          refine sA_sub (lv2 := [(7, gs_iv (x + 1)), (6, gs_iv l), (5, gs_iv m), (0, .ref 106), (1, gs_iv r), (2, gs_iv s), (3, gs_iv n), (4, gs_iv i)]) (List.forall_mem_cons.mpr ⟨(.head _), (List.forall_mem_cons.mpr ⟨(.tail _ (.head _)), (List.forall_mem_cons.mpr ⟨(.tail _ (.tail _ (.head _))), (List.forall_mem_cons.mpr ⟨(.tail _ (.tail _ (.tail _ (.head _)))), (List.forall_mem_cons.mpr ⟨(.tail _ (.tail _ (.tail _ (.tail _ (.head _))))), (List.forall_mem_cons.mpr ⟨(.tail _ (.tail _ (.tail _ (.tail _ (.tail _ (.head _)))))), (List.forall_mem_cons.mpr ⟨(.tail _ (.tail _ (.tail _ (.tail _ (.tail _ (.tail _ (.head _))))))), (List.forall_mem_cons.mpr ⟨(.tail _ (.tail _ (.tail _ (.tail _ (.tail _ (.tail _ (.tail _ (.head _)))))))), (fun _ h => absurd h List.not_mem_nil)⟩)⟩)⟩)⟩)⟩)⟩)⟩)⟩) ?_
          exact ih.2 m l (x + 1) F25 A26 I31 f34 (by omega) (by omega) (by omega) (by omega) (by omega) (by omega) (by omega) t35 (by omega)
        · skip
          refine sA_iload dd_X9_carry_95 (.tail _ (.tail _ (.tail _ (.tail _ (.tail _ (.tail _ (.tail _ (.head _)))))))) ?_
          refine sA_iconst (z := (-1)) dd_X9_carry_97 ?_
          refine sA_icmp_ne (tgt := 106) dd_X9_carry_98 (by decide) (by omega) (by omega) (fun q37 => ?_) (fun q37 => ?_)
          · skip
            refine sA_iload dd_X9_carry_106 (.tail _ (.tail _ (.tail _ (.tail _ (.tail _ (.tail _ (.tail _ (.head _)))))))) ?_
            refine sA_iload dd_X9_carry_108 (.tail _ (.tail _ (.head _))) ?_
            refine sA_icmp_ge (tgt := 127) dd_X9_carry_110 (by decide) (by omega) (by omega) (fun q38 => ?_) (fun q38 => ?_)
            · skip
              refine sA_iconst (z := (-1)) dd_X9_carry_127 ?_
              refine sA_iret (z := -1) dd_X9_carry_128 rfl ?_
              refine ⟨_, rfl, I31, f34, ?_⟩
              exact t35
            · skip
              refine sA_aload_n dd_X9_carry_113 rfl (.tail _ (.tail _ (.tail _ (.head _)))) ?_
              refine sA_getr (ci := 9) (j := 7) (q := (RX9, TX9, 28)) dd_X9_carry_114 rfl (by decide) fl_X9_22 (by decide) gs_s106 rfl ?_
              refine sA_sipush (z := 480) dd_X9_carry_117 (by decide) ?_
              refine sA_iload dd_X9_carry_120 (.tail _ (.tail _ (.tail _ (.tail _ (.tail _ (.tail _ (.tail _ (.head _)))))))) ?_
              refine sA_iadd dd_X9_carry_122 ?_
              refine sA_iald (n := 540) dd_X9_carry_123 (by decide) gs_s111 (by omega) (by decide) ?_
              have b39 : (-2147483648 : Int) ≤ A26 111 (480 + i).toNat ∧ A26 111 (480 + i).toNat ≤ 2147483647 := I31.2 111 (480 + i).toNat
              refine sA_goto (tgt := 128) dd_X9_carry_124 (by decide) ?_
              refine sA_iret (z := A26 111 (480 + i).toNat) dd_X9_carry_128 rfl ?_
              refine ⟨_, rfl, I31, f34, ?_⟩
              exact t35
          · skip
            refine sA_iload dd_X9_carry_101 (.tail _ (.tail _ (.head _))) ?_
            refine sA_goto (tgt := 128) dd_X9_carry_103 (by decide) ?_
            refine sA_iret (z := m) dd_X9_carry_128 rfl ?_
            refine ⟨_, rfl, I31, f34, ?_⟩
            exact t35
theorem c_X9_carry_vf {r s n i : Int} {F A : gs_F} (hI : gs_I F A) (hr : -2147483648 ≤ r ∧ r ≤ 2147483647) (hs : -2147483648 ≤ s ∧ s ≤ 2147483647) (hn : -2147483648 ≤ n ∧ n ≤ 2147483647) (hi : -2147483648 ≤ i ∧ i ≤ 2147483647) (hX : ∀ r : Nat, (r : Int) < F 106 3 → 1 ≤ A 108 r) : sC m_X9_carry 7 [.ref 106, gs_iv r, gs_iv s, gs_iv n, gs_iv i] F A (fun rv F' A' => ∃ z : Int, rv = some (gs_iv z) ∧ gs_I F' A' ∧ gs_fr (fun c j => c = 106 ∧ (j = 9 ∨ j = 11 ∨ j = 13 ∨ j = 15)) (fun c => c = 110 ∨ c = 111 ∨ c = 112 ∨ c = 113 ∨ c = 114 ∨ c = 115) F A F' A' ∧ (gs_k8 A A')) := by
  refine sC_of ok_X9_carry.1 (Nat.le_of_ble_eq_true rfl) ?_
  show sA _ _ _ 0 [(0, .ref 106), (1, gs_iv r), (2, gs_iv s), (3, gs_iv n), (4, gs_iv i)] [] F A
  have hf : gs_fr (fun c j => c = 106 ∧ (j = 9 ∨ j = 11 ∨ j = 13 ∨ j = 15)) (fun c => c = 110 ∨ c = 111 ∨ c = 112 ∨ c = 113 ∨ c = 114 ∨ c = 115) F A F A := gs_fr_refl _ _ _ _
  have hk8 : gs_k8 A A := gs_k8_fr rfl rfl
  refine sA_aload_n dd_X9_carry_0 rfl (.head _) ?_
  refine sA_iload_n dd_X9_carry_1 rfl (.tail _ (.head _)) ?_
  refine sA_callV (y2 := m_X9_noRing) (n2 := 1) (d2 := 2) (a := 106) (ci := 9) (q := (RX9, TX9, 28)) (as := [gs_iv r]) (rest := []) dd_X9_carry_2 ok_X9_noRing ml_X9_100 rfl rfl (by decide) gs_s106 rfl rfl (Nat.le_of_ble_eq_true rfl) (by decide) (c_X9_noRing hI (by omega)) (fun r40 F41 A42 h43 => ?_)
  obtain ⟨z46, e45, e47, e48, x44⟩ := h43
  subst e45 e47 e48
  show sA _ _ _ 5 _ [gs_iv z46] _ _
  refine sA_if_ne (tgt := 16) dd_X9_carry_5 (by decide) (by omega) (fun q49 => ?_) (fun q49 => ?_)
  · skip
    refine sA_sipush (z := (-1001)) dd_X9_carry_16 (by decide) ?_
    refine sA_iret (z := -1001) dd_X9_carry_19 rfl ?_
    refine ⟨_, rfl, hI, hf, ?_⟩
    exact hk8
  · skip
    refine sA_aload_n dd_X9_carry_8 rfl (.head _) ?_
    refine sA_iload_n dd_X9_carry_9 rfl (.tail _ (.tail _ (.head _))) ?_
    refine sA_callV (y2 := m_X9_noRing) (n2 := 1) (d2 := 2) (a := 106) (ci := 9) (q := (RX9, TX9, 28)) (as := [gs_iv s]) (rest := []) dd_X9_carry_10 ok_X9_noRing ml_X9_100 rfl rfl (by decide) gs_s106 rfl rfl (Nat.le_of_ble_eq_true rfl) (by decide) (c_X9_noRing hI (by omega)) (fun r50 F51 A52 h53 => ?_)
    obtain ⟨z56, e55, e57, e58, x54⟩ := h53
    subst e55 e57 e58
    show sA _ _ _ 13 _ [gs_iv z56] _ _
    refine sA_if_eq (tgt := 20) dd_X9_carry_13 (by decide) (by omega) (fun q59 => ?_) (fun q59 => ?_)
    · skip
      refine sA_iload_n dd_X9_carry_20 rfl (.tail _ (.tail _ (.tail _ (.head _)))) ?_
      refine sA_i2l dd_X9_carry_21 (by omega) ?_
      refine sA_lconst (z := 0) dd_X9_carry_22 (by decide) ?_
      refine sA_ldc2 (z := 3) dd_X9_carry_23 (ri_lw_in (pl := 872) (by decide +kernel)) ?_
      refine sA_callS (y2 := m_X9_in) (n2 := 3) (d2 := 1) (as := [gs_lv n, gs_lv 0, gs_lv 3]) (rest := []) dd_X9_carry_26 ok_X9_in ml_X9_75 rfl rfl (Nat.le_of_ble_eq_true rfl) (by decide) (c_X9_in (by omega) (by omega) (by omega)) (fun r60 F61 A62 h63 => ?_)
      obtain ⟨z66, e65, e67, e68, x64⟩ := h63
      subst e65 e67 e68
      show sA _ _ _ 29 _ [gs_iv z66] _ _
      refine sA_if_eq (tgt := 47) dd_X9_carry_29 (by decide) (by omega) (fun q69 => ?_) (fun q69 => ?_)
      · skip
        refine sA_sipush (z := (-1002)) dd_X9_carry_47 (by decide) ?_
        refine sA_iret (z := -1002) dd_X9_carry_50 rfl ?_
        refine ⟨_, rfl, hI, hf, ?_⟩
        exact hk8
      · skip
        refine sA_iload dd_X9_carry_32 (.tail _ (.tail _ (.tail _ (.tail _ (.head _))))) ?_
        refine sA_i2l dd_X9_carry_34 (by omega) ?_
        refine sA_ldc2 (z := -1) dd_X9_carry_35 (ri_lw_in (pl := 1155) (by decide +kernel)) ?_
        refine sA_ldc2 (z := 2) dd_X9_carry_38 (ri_lw_in (pl := 1193) (by decide +kernel)) ?_
        refine sA_callS (y2 := m_X9_in) (n2 := 3) (d2 := 1) (as := [gs_lv i, gs_lv (-1), gs_lv 2]) (rest := []) dd_X9_carry_41 ok_X9_in ml_X9_75 rfl rfl (Nat.le_of_ble_eq_true rfl) (by decide) (c_X9_in (by omega) (by omega) (by omega)) (fun r70 F71 A72 h73 => ?_)
        obtain ⟨z76, e75, e77, e78, x74⟩ := h73
        subst e75 e77 e78
        show sA _ _ _ 44 _ [gs_iv z76] _ _
        refine sA_if_ne (tgt := 51) dd_X9_carry_44 (by decide) (by omega) (fun q79 => ?_) (fun q79 => ?_)
        · skip
          refine sA_iconst (z := 0) dd_X9_carry_51 ?_
          refine sA_istore (lv' := [(5, gs_iv 0), (0, .ref 106), (1, gs_iv r), (2, gs_iv s), (3, gs_iv n), (4, gs_iv i)]) dd_X9_carry_52 (by decide) rfl ?_
          refine sA_sub (lv2 := [(5, gs_iv 0), (0, .ref 106), (1, gs_iv r), (2, gs_iv s), (3, gs_iv n), (4, gs_iv i)]) (List.forall_mem_cons.mpr ⟨(.head _), (List.forall_mem_cons.mpr ⟨(.tail _ (.head _)), (List.forall_mem_cons.mpr ⟨(.tail _ (.tail _ (.head _))), (List.forall_mem_cons.mpr ⟨(.tail _ (.tail _ (.tail _ (.head _)))), (List.forall_mem_cons.mpr ⟨(.tail _ (.tail _ (.tail _ (.tail _ (.head _))))), (List.forall_mem_cons.mpr ⟨(.tail _ (.tail _ (.tail _ (.tail _ (.tail _ (.head _)))))), (fun _ h => absurd h List.not_mem_nil)⟩)⟩)⟩)⟩)⟩)⟩) ?_
          exact (k_X9_carry_vf hI hr hs hn hi hX ((4 - 0) * 4294967296 + 1 : Int).toNat.succ).1 0 F A hI hf (by omega) (by omega) (by omega) (by omega) (by omega) hk8 (by omega)
        · skip
          refine sA_sipush (z := (-1002)) dd_X9_carry_47 (by decide) ?_
          refine sA_iret (z := -1002) dd_X9_carry_50 rfl ?_
          refine ⟨_, rfl, hI, hf, ?_⟩
          exact hk8
    · skip
      refine sA_sipush (z := (-1001)) dd_X9_carry_16 (by decide) ?_
      refine sA_iret (z := -1001) dd_X9_carry_19 rfl ?_
      refine ⟨_, rfl, hI, hf, ?_⟩
      exact hk8
theorem k_X9_fewest_vf {p n i : Int} {F A : gs_F} (hI : gs_I F A) (hp : -2147483648 ≤ p ∧ p ≤ 2147483647) (hn : -2147483648 ≤ n ∧ n ≤ 2147483647) (hi : -2147483648 ≤ i ∧ i ≤ 2147483647) : ∀ nN : Nat, (∀ (m : Int)  (F1 A1 : gs_F), gs_I F1 A1 → gs_fr (fun c j => c = 106 ∧ (j = 13 ∨ j = 15)) (fun c => c = 110 ∨ c = 111 ∨ c = 114 ∨ c = 115 ∨ c = 119 ∨ c = 120) F A F1 A1 → 0 ≤ n ∧ n ≤ 3 → -1 ≤ i ∧ i ≤ 2 → 0 ≤ m ∧ m ≤ n + 1 → gs_k8 A A1 → (4 - m) * 4294967296 + 1 < (nN : Int) → sA m_X9_fewest 8 (fun rv F' A' => ∃ z : Int, rv = some (gs_iv z) ∧ gs_I F' A' ∧ gs_fr (fun c j => c = 106 ∧ (j = 13 ∨ j = 15)) (fun c => c = 110 ∨ c = 111 ∨ c = 114 ∨ c = 115 ∨ c = 119 ∨ c = 120) F A F' A' ∧ (gs_k8 A A')) 57 [(4, gs_iv m), (0, .ref 106), (2, gs_iv n), (3, gs_iv i)] [] F1 A1) ∧ (∀ (m : Int) (l : Int) (x : Int)  (F1 A1 : gs_F), gs_I F1 A1 → gs_fr (fun c j => c = 106 ∧ (j = 13 ∨ j = 15)) (fun c => c = 110 ∨ c = 111 ∨ c = 114 ∨ c = 115 ∨ c = 119 ∨ c = 120) F A F1 A1 → 0 ≤ n ∧ n ≤ 3 → -1 ≤ i ∧ i ≤ 2 → 0 ≤ m ∧ m ≤ n → -2147483648 ≤ l ∧ l ≤ 2147483647 → 0 ≤ x ∧ x ≤ 2147483647 → gs_k8 A A1 → (4 - m) * 4294967296 - x < (nN : Int) → sA m_X9_fewest 8 (fun rv F' A' => ∃ z : Int, rv = some (gs_iv z) ∧ gs_I F' A' ∧ gs_fr (fun c j => c = 106 ∧ (j = 13 ∨ j = 15)) (fun c => c = 110 ∨ c = 111 ∨ c = 114 ∨ c = 115 ∨ c = 119 ∨ c = 120) F A F' A' ∧ (gs_k8 A A')) 74 [(6, gs_iv x), (5, gs_iv l), (4, gs_iv m), (0, .ref 106), (2, gs_iv n), (3, gs_iv i)] [] F1 A1) := by
  intro nN
  induction nN with
  | zero =>
    exact ⟨fun a0 a1 a2 a3 a4 i0 i1 i2 i3 hm => by exfalso; omega, fun a0 a1 a2 a3 a4 a5 a6 i0 i1 i2 i3 i4 i5 hm => by exfalso; omega⟩
  | succ nN ih =>
    refine ⟨?_, ?_⟩
    · skip
      intro m F1 A1 hI1 hf1 i0 i1 i2 i3 hm
      refine sA_iload dd_X9_fewest_57 (.head _) ?_
      refine sA_iload_n dd_X9_fewest_59 rfl (.tail _ (.tail _ (.head _))) ?_
      refine sA_icmp_gt (tgt := 139) dd_X9_fewest_60 (by decide) (by omega) (by omega) (fun q1 => ?_) (fun q1 => ?_)
      · skip
        refine sA_iconst (z := (-1)) dd_X9_fewest_139 ?_
        refine sA_iret (z := -1) dd_X9_fewest_140 rfl ?_
        refine ⟨_, rfl, hI1, hf1, ?_⟩
        exact i3
      · skip
        refine sA_aload_n dd_X9_fewest_63 rfl (.tail _ (.head _)) ?_
        refine sA_iload dd_X9_fewest_64 (.head _) ?_
        refine sA_callV (y2 := m_X9_power) (n2 := 1) (d2 := 2) (a := 106) (ci := 9) (q := (RX9, TX9, 28)) (as := [gs_iv m]) (rest := []) dd_X9_fewest_66 ok_X9_power ml_X9_301 rfl rfl (by decide) gs_s106 rfl rfl (Nat.le_of_ble_eq_true rfl) (by decide) (c_X9_power hI1 (by omega)) (fun r2 F3 A4 h5 => ?_)
        obtain ⟨z8, e7, e9, e10, x6⟩ := h5
        subst e7 e9 e10
        show sA _ _ _ 69 _ [gs_iv z8] _ _
        refine sA_istore (lv' := [(5, gs_iv z8), (4, gs_iv m), (0, .ref 106), (2, gs_iv n), (3, gs_iv i)]) dd_X9_fewest_69 (by decide) rfl ?_
        refine sA_iconst (z := 0) dd_X9_fewest_71 ?_
        refine sA_istore (lv' := [(6, gs_iv 0), (5, gs_iv z8), (4, gs_iv m), (0, .ref 106), (2, gs_iv n), (3, gs_iv i)]) dd_X9_fewest_72 (by decide) rfl ?_
        refine sA_sub (lv2 := [(6, gs_iv 0), (5, gs_iv z8), (4, gs_iv m), (0, .ref 106), (2, gs_iv n), (3, gs_iv i)]) (List.forall_mem_cons.mpr ⟨(.head _), (List.forall_mem_cons.mpr ⟨(.tail _ (.head _)), (List.forall_mem_cons.mpr ⟨(.tail _ (.tail _ (.head _))), (List.forall_mem_cons.mpr ⟨(.tail _ (.tail _ (.tail _ (.head _)))), (List.forall_mem_cons.mpr ⟨(.tail _ (.tail _ (.tail _ (.tail _ (.head _))))), (List.forall_mem_cons.mpr ⟨(.tail _ (.tail _ (.tail _ (.tail _ (.tail _ (.head _)))))), (fun _ h => absurd h List.not_mem_nil)⟩)⟩)⟩)⟩)⟩)⟩) ?_
        exact ih.2 m z8 0 F1 A1 hI1 hf1 (by omega) (by omega) (by omega) (by omega) (by omega) i3 (by omega)
    · skip
      intro m l x F1 A1 hI1 hf1 i0 i1 i2 i3 i4 i5 hm
      refine sA_iload dd_X9_fewest_74 (.head _) ?_
      refine sA_iload dd_X9_fewest_76 (.tail _ (.head _)) ?_
      refine sA_icmp_ge (tgt := 133) dd_X9_fewest_78 (by decide) (by omega) (by omega) (fun q11 => ?_) (fun q11 => ?_)
      · skip
        refine sA_iinc (lv' := [(4, gs_iv (m + 1)), (6, gs_iv x), (5, gs_iv l), (0, .ref 106), (2, gs_iv n), (3, gs_iv i)]) dd_X9_fewest_133 (.tail _ (.tail _ (.head _))) (by decide) rfl ?_
        refine sA_goto (tgt := 57) dd_X9_fewest_136 (by decide) ?_
        refine sA_sub (lv2 := [(4, gs_iv (m + 1)), (0, .ref 106), (2, gs_iv n), (3, gs_iv i)]) (List.forall_mem_cons.mpr ⟨(.head _), (List.forall_mem_cons.mpr ⟨(.tail _ (.tail _ (.tail _ (.head _)))), (List.forall_mem_cons.mpr ⟨(.tail _ (.tail _ (.tail _ (.tail _ (.head _))))), (List.forall_mem_cons.mpr ⟨(.tail _ (.tail _ (.tail _ (.tail _ (.tail _ (.head _)))))), (fun _ h => absurd h List.not_mem_nil)⟩)⟩)⟩)⟩) ?_
        exact ih.1 (m + 1) F1 A1 hI1 hf1 (by omega) (by omega) (by omega) i5 (by omega)
      · skip
        refine sA_aload_n dd_X9_fewest_81 rfl (.tail _ (.tail _ (.tail _ (.head _)))) ?_
        refine sA_iload dd_X9_fewest_82 (.tail _ (.tail _ (.head _))) ?_
        refine sA_iload dd_X9_fewest_84 (.head _) ?_
        refine sA_callV (y2 := m_X9_numberPlan) (n2 := 2) (d2 := 2) (a := 106) (ci := 9) (q := (RX9, TX9, 28)) (as := [gs_iv m, gs_iv x]) (rest := []) dd_X9_fewest_86 ok_X9_numberPlan ml_X9_304 rfl rfl (by decide) gs_s106 rfl rfl (Nat.le_of_ble_eq_true rfl) (by decide) (c_X9_numberPlan_vf hI1 (by omega) (by omega)) (fun r12 F13 A14 h15 => ?_)
        obtain ⟨e17, I18, f19, x16⟩ := h15
        subst e17
        have f20 := gs_fr_tr hf1 f19 (fun b j h => by first | exact False.elim h | omega | (dsimp only at h ⊢; omega) | fail) (fun b h => by first | exact False.elim h | omega | (dsimp only at h ⊢; omega) | fail)
        have t21 : gs_k8 A A14 := gs_k8_tr i5 x16
        have y22 : gs_k8 A1 A14 := x16
        clear x16
        show sA _ _ _ 89 _ [] _ _
        refine sA_aload_n dd_X9_fewest_89 rfl (.tail _ (.tail _ (.tail _ (.head _)))) ?_
        refine sA_callV (y2 := m_X9_isDraftLike) (n2 := 0) (d2 := 6) (a := 106) (ci := 9) (q := (RX9, TX9, 28)) (as := []) (rest := []) dd_X9_fewest_90 ok_X9_isDraftLike ml_X9_296 rfl rfl (by decide) gs_s106 rfl rfl (Nat.le_of_ble_eq_true rfl) (by decide) (c_X9_isDraftLike I18 ) (fun r23 F24 A25 h26 => ?_)
        obtain ⟨z29, e28, I30, f31, x27⟩ := h26
        subst e28
        have f32 := gs_fr_tr f20 f31 (fun b j h => by first | exact False.elim h | omega | (dsimp only at h ⊢; omega) | fail) (fun b h => by first | exact False.elim h | omega | (dsimp only at h ⊢; omega) | fail)
        have t33 : gs_k8 A A25 := gs_k8_tr t21 (gs_k8_fr (f31.2 110 (by first | exact id | omega | (dsimp only; omega) | fail)) (f31.2 111 (by first | exact id | omega | (dsimp only; omega) | fail)))
        show sA _ _ _ 93 _ [gs_iv z29] _ _
        refine sA_if_eq (tgt := 127) dd_X9_fewest_93 (by decide) (by omega) (fun q34 => ?_) (fun q34 => ?_)
        · skip
          refine sA_iinc (lv' := [(6, gs_iv (x + 1)), (5, gs_iv l), (4, gs_iv m), (0, .ref 106), (2, gs_iv n), (3, gs_iv i)]) dd_X9_fewest_127 (.head _) (by decide) rfl ?_
          refine sA_goto (tgt := 74) dd_X9_fewest_130 (by decide) ?_
          refine sA_sub (lv2 := [(6, gs_iv (x + 1)), (5, gs_iv l), (4, gs_iv m), (0, .ref 106), (2, gs_iv n), (3, gs_iv i)]) (List.forall_mem_cons.mpr ⟨(.head _), (List.forall_mem_cons.mpr ⟨(.tail _ (.head _)), (List.forall_mem_cons.mpr ⟨(.tail _ (.tail _ (.head _))), (List.forall_mem_cons.mpr ⟨(.tail _ (.tail _ (.tail _ (.head _)))), (List.forall_mem_cons.mpr ⟨(.tail _ (.tail _ (.tail _ (.tail _ (.head _))))), (List.forall_mem_cons.mpr ⟨(.tail _ (.tail _ (.tail _ (.tail _ (.tail _ (.head _)))))), (fun _ h => absurd h List.not_mem_nil)⟩)⟩)⟩)⟩)⟩)⟩) ?_
          exact ih.2 m l (x + 1) F24 A25 I30 f32 (by omega) (by omega) (by omega) (by omega) (by omega) t33 (by omega)
        · skip
          refine sA_iload_n dd_X9_fewest_96 rfl (.tail _ (.tail _ (.tail _ (.tail _ (.tail _ (.head _)))))) ?_
          refine sA_iconst (z := (-1)) dd_X9_fewest_97 ?_
          refine sA_icmp_ne (tgt := 106) dd_X9_fewest_98 (by decide) (by omega) (by omega) (fun q35 => ?_) (fun q35 => ?_)
          · skip
            refine sA_iload_n dd_X9_fewest_106 rfl (.tail _ (.tail _ (.tail _ (.tail _ (.tail _ (.head _)))))) ?_
            refine sA_iload dd_X9_fewest_107 (.tail _ (.tail _ (.head _))) ?_
            refine sA_icmp_ge (tgt := 125) dd_X9_fewest_109 (by decide) (by omega) (by omega) (fun q36 => ?_) (fun q36 => ?_)
            · skip
              refine sA_iconst (z := (-1)) dd_X9_fewest_125 ?_
              refine sA_iret (z := -1) dd_X9_fewest_126 rfl ?_
              refine ⟨_, rfl, I30, f32, ?_⟩
              exact t33
            · skip
              refine sA_aload_n dd_X9_fewest_112 rfl (.tail _ (.tail _ (.tail _ (.head _)))) ?_
              refine sA_getr (ci := 9) (j := 7) (q := (RX9, TX9, 28)) dd_X9_fewest_113 rfl (by decide) fl_X9_22 (by decide) gs_s106 rfl ?_
              refine sA_sipush (z := 480) dd_X9_fewest_116 (by decide) ?_
              refine sA_iload_n dd_X9_fewest_119 rfl (.tail _ (.tail _ (.tail _ (.tail _ (.tail _ (.head _)))))) ?_
              refine sA_iadd dd_X9_fewest_120 ?_
              refine sA_iald (n := 540) dd_X9_fewest_121 (by decide) gs_s111 (by omega) (by decide) ?_
              have b37 : (-2147483648 : Int) ≤ A25 111 (480 + i).toNat ∧ A25 111 (480 + i).toNat ≤ 2147483647 := I30.2 111 (480 + i).toNat
              refine sA_goto (tgt := 126) dd_X9_fewest_122 (by decide) ?_
              refine sA_iret (z := A25 111 (480 + i).toNat) dd_X9_fewest_126 rfl ?_
              refine ⟨_, rfl, I30, f32, ?_⟩
              exact t33
          · skip
            refine sA_iload dd_X9_fewest_101 (.tail _ (.tail _ (.head _))) ?_
            refine sA_goto (tgt := 126) dd_X9_fewest_103 (by decide) ?_
            refine sA_iret (z := m) dd_X9_fewest_126 rfl ?_
            refine ⟨_, rfl, I30, f32, ?_⟩
            exact t33
theorem c_X9_fewest_vf {p n i : Int} {F A : gs_F} (hI : gs_I F A) (hp : -2147483648 ≤ p ∧ p ≤ 2147483647) (hn : -2147483648 ≤ n ∧ n ≤ 2147483647) (hi : -2147483648 ≤ i ∧ i ≤ 2147483647) : sC m_X9_fewest 8 [.ref 106, gs_iv p, gs_iv n, gs_iv i] F A (fun rv F' A' => ∃ z : Int, rv = some (gs_iv z) ∧ gs_I F' A' ∧ gs_fr (fun c j => c = 106 ∧ (j = 13 ∨ j = 15)) (fun c => c = 110 ∨ c = 111 ∨ c = 114 ∨ c = 115 ∨ c = 119 ∨ c = 120) F A F' A' ∧ (gs_k8 A A')) := by
  refine sC_of ok_X9_fewest.1 (Nat.le_of_ble_eq_true rfl) ?_
  show sA _ _ _ 0 [(0, .ref 106), (1, gs_iv p), (2, gs_iv n), (3, gs_iv i)] [] F A
  have hf : gs_fr (fun c j => c = 106 ∧ (j = 13 ∨ j = 15)) (fun c => c = 110 ∨ c = 111 ∨ c = 114 ∨ c = 115 ∨ c = 119 ∨ c = 120) F A F A := gs_fr_refl _ _ _ _
  have hk8 : gs_k8 A A := gs_k8_fr rfl rfl
  refine sA_aload_n dd_X9_fewest_0 rfl (.head _) ?_
  refine sA_iload_n dd_X9_fewest_1 rfl (.tail _ (.head _)) ?_
  refine sA_callV (y2 := m_X9_noPlan) (n2 := 1) (d2 := 2) (a := 106) (ci := 9) (q := (RX9, TX9, 28)) (as := [gs_iv p]) (rest := []) dd_X9_fewest_2 ok_X9_noPlan ml_X9_218 rfl rfl (by decide) gs_s106 rfl rfl (Nat.le_of_ble_eq_true rfl) (by decide) (c_X9_noPlan hI (by omega)) (fun r38 F39 A40 h41 => ?_)
  obtain ⟨z44, e43, e45, e46, x42⟩ := h41
  subst e43 e45 e46
  show sA _ _ _ 5 _ [gs_iv z44] _ _
  refine sA_if_eq (tgt := 12) dd_X9_fewest_5 (by decide) (by omega) (fun q47 => ?_) (fun q47 => ?_)
  · skip
    refine sA_iload_n dd_X9_fewest_12 rfl (.tail _ (.tail _ (.head _))) ?_
    refine sA_i2l dd_X9_fewest_13 (by omega) ?_
    refine sA_lconst (z := 0) dd_X9_fewest_14 (by decide) ?_
    refine sA_ldc2 (z := 3) dd_X9_fewest_15 (ri_lw_in (pl := 872) (by decide +kernel)) ?_
    refine sA_callS (y2 := m_X9_in) (n2 := 3) (d2 := 1) (as := [gs_lv n, gs_lv 0, gs_lv 3]) (rest := []) dd_X9_fewest_18 ok_X9_in ml_X9_75 rfl rfl (Nat.le_of_ble_eq_true rfl) (by decide) (c_X9_in (by omega) (by omega) (by omega)) (fun r48 F49 A50 h51 => ?_)
    obtain ⟨z54, e53, e55, e56, x52⟩ := h51
    subst e53 e55 e56
    show sA _ _ _ 21 _ [gs_iv z54] _ _
    refine sA_if_eq (tgt := 38) dd_X9_fewest_21 (by decide) (by omega) (fun q57 => ?_) (fun q57 => ?_)
    · skip
      refine sA_sipush (z := (-1002)) dd_X9_fewest_38 (by decide) ?_
      refine sA_iret (z := -1002) dd_X9_fewest_41 rfl ?_
      refine ⟨_, rfl, hI, hf, ?_⟩
      exact hk8
    · skip
      refine sA_iload_n dd_X9_fewest_24 rfl (.tail _ (.tail _ (.tail _ (.head _)))) ?_
      refine sA_i2l dd_X9_fewest_25 (by omega) ?_
      refine sA_ldc2 (z := -1) dd_X9_fewest_26 (ri_lw_in (pl := 1155) (by decide +kernel)) ?_
      refine sA_ldc2 (z := 2) dd_X9_fewest_29 (ri_lw_in (pl := 1193) (by decide +kernel)) ?_
      refine sA_callS (y2 := m_X9_in) (n2 := 3) (d2 := 1) (as := [gs_lv i, gs_lv (-1), gs_lv 2]) (rest := []) dd_X9_fewest_32 ok_X9_in ml_X9_75 rfl rfl (Nat.le_of_ble_eq_true rfl) (by decide) (c_X9_in (by omega) (by omega) (by omega)) (fun r58 F59 A60 h61 => ?_)
      obtain ⟨z64, e63, e65, e66, x62⟩ := h61
      subst e63 e65 e66
      show sA _ _ _ 35 _ [gs_iv z64] _ _
      refine sA_if_ne (tgt := 42) dd_X9_fewest_35 (by decide) (by omega) (fun q67 => ?_) (fun q67 => ?_)
      · skip
        refine sA_aload_n dd_X9_fewest_42 rfl (.head _) ?_
        refine sA_iload_n dd_X9_fewest_43 rfl (.tail _ (.head _)) ?_
        refine sA_callV (y2 := m_X9_findImages) (n2 := 1) (d2 := 7) (a := 106) (ci := 9) (q := (RX9, TX9, 28)) (as := [gs_iv p]) (rest := []) dd_X9_fewest_44 ok_X9_findImages ml_X9_242 rfl rfl (by decide) gs_s106 rfl rfl (Nat.le_of_ble_eq_true rfl) (by decide) (c_X9_findImages hI (by omega)) (fun r68 F69 A70 h71 => ?_)
        obtain ⟨z74, e73, I75, f76, x72⟩ := h71
        subst e73
        have f77 := gs_fr_tr hf f76 (fun b j h => by first | exact False.elim h | omega | (dsimp only at h ⊢; omega) | fail) (fun b h => by first | exact False.elim h | omega | (dsimp only at h ⊢; omega) | fail)
        have t78 : gs_k8 A A70 := gs_k8_tr hk8 (gs_k8_fr (f76.2 110 (by first | exact id | omega | (dsimp only; omega) | fail)) (f76.2 111 (by first | exact id | omega | (dsimp only; omega) | fail)))
        show sA _ _ _ 47 _ [gs_iv z74] _ _
        refine sA_if_ne (tgt := 54) dd_X9_fewest_47 (by decide) (by omega) (fun q79 => ?_) (fun q79 => ?_)
        · skip
          refine sA_iconst (z := 0) dd_X9_fewest_54 ?_
          refine sA_istore (lv' := [(4, gs_iv 0), (0, .ref 106), (1, gs_iv p), (2, gs_iv n), (3, gs_iv i)]) dd_X9_fewest_55 (by decide) rfl ?_
          refine sA_sub (lv2 := [(4, gs_iv 0), (0, .ref 106), (2, gs_iv n), (3, gs_iv i)]) (List.forall_mem_cons.mpr ⟨(.head _), (List.forall_mem_cons.mpr ⟨(.tail _ (.head _)), (List.forall_mem_cons.mpr ⟨(.tail _ (.tail _ (.tail _ (.head _)))), (List.forall_mem_cons.mpr ⟨(.tail _ (.tail _ (.tail _ (.tail _ (.head _))))), (fun _ h => absurd h List.not_mem_nil)⟩)⟩)⟩)⟩) ?_
          exact (k_X9_fewest_vf hI hp hn hi ((4 - 0) * 4294967296 + 1 : Int).toNat.succ).1 0 F69 A70 I75 f77 (by omega) (by omega) (by omega) t78 (by omega)
        · skip
          refine sA_sipush (z := (-1005)) dd_X9_fewest_50 (by decide) ?_
          refine sA_iret (z := -1005) dd_X9_fewest_53 rfl ?_
          refine ⟨_, rfl, I75, f77, ?_⟩
          exact t78
      · skip
        refine sA_sipush (z := (-1002)) dd_X9_fewest_38 (by decide) ?_
        refine sA_iret (z := -1002) dd_X9_fewest_41 rfl ?_
        refine ⟨_, rfl, hI, hf, ?_⟩
        exact hk8
  · skip
    refine sA_sipush (z := (-1001)) dd_X9_fewest_8 (by decide) ?_
    refine sA_iret (z := -1001) dd_X9_fewest_11 rfl ?_
    refine ⟨_, rfl, hI, hf, ?_⟩
    exact hk8
theorem k_X8_layOut_vf {g : Int} {F A : gs_F} (hI : gs_I F A) (hg : 1 ≤ g ∧ g ≤ 3) : ∀ nN : Nat, (∀ (p : Int)  (F1 A1 : gs_F), gs_I F1 A1 → gs_fr (fun c j => (c = 0 ∧ (j = 11 ∨ j = 12)) ∨ (c = 3 ∧ j = 1) ∨ (90 ≤ c ∧ c < 106 ∧ j = 1) ∨ (c = 5 ∧ j = 0) ∨ ((c = 8 ∨ c = 10) ∧ j = 1)) (fun c => c = 9 ∨ c = 11 ∨ c = 6) F A F1 A1 → 0 ≤ p ∧ p ≤ 8 → F1 0 11 = g → F1 0 12 = 0 → F1 3 1 = 0 → (∀ i : Nat, (i : Int) < p → F1 (90 + 2 * i) 1 = 0) → 8 - p < (nN : Int) → sA m_X8_layOut 6 (fun rv F' A' => rv = none ∧ gs_I F' A' ∧ gs_fr (fun c j => (c = 0 ∧ (j = 11 ∨ j = 12)) ∨ (c = 3 ∧ j = 1) ∨ (90 ≤ c ∧ c < 106 ∧ j = 1) ∨ (c = 5 ∧ j = 0) ∨ ((c = 8 ∨ c = 10) ∧ j = 1)) (fun c => c = 9 ∨ c = 11 ∨ c = 6) F A F' A' ∧ (F' 0 11 = g ∧ F' 0 12 = 0 ∧ F' 3 1 = 0 ∧ F' 5 0 = 3 * g - 1 ∧ (∀ i : Nat, i < 8 → F' (90 + 2 * i) 1 = 0))) 20 [(2, gs_iv p), (0, .ref 0), (1, gs_iv g)] [] F1 A1) := by
  intro nN
  induction nN with
  | zero =>
    exact fun a0 a1 a2 a3 a4 i0 i1 i2 i3 i4 hm => by exfalso; omega
  | succ nN ih =>
    intro p F1 A1 hI1 hf1 i0 i1 i2 i3 i4 hm
    have b1 : (1 : Int) ≤ F1 0 11 ∧ F1 0 11 ≤ 3 := hI1.1 0 11
    have b2 : (0 : Int) ≤ F1 0 12 ∧ F1 0 12 ≤ 12 := hI1.1 0 12
    have b3 := gs_row_sz gs_row_3 hI1
    refine sA_iload_n dd_X8_layOut_20 rfl (.head _) ?_
    refine sA_bipush (z := 8) dd_X8_layOut_21 (by decide) ?_
    refine sA_icmp_ge (tgt := 42) dd_X8_layOut_23 (by decide) (by omega) (by omega) (fun q4 => ?_) (fun q4 => ?_)
    · skip
      refine sA_aload_n dd_X8_layOut_42 rfl (.tail _ (.head _)) ?_
      refine sA_getr (ci := 8) (j := 3) (q := (RX8, TX8, 13)) dd_X8_layOut_43 rfl (by decide) fl_X8_33 (by decide) gs_s0 rfl ?_
      refine sA_iload_n dd_X8_layOut_46 rfl (.tail _ (.tail _ (.head _))) ?_
      refine sA_callV (y2 := m_X7_layOut) (n2 := 1) (d2 := 5) (a := 5) (ci := 7) (q := (RX7, TX7, 5)) (as := [gs_iv g]) (rest := []) dd_X8_layOut_47 ok_X7_layOut ml_X8_239 rfl rfl (by decide) gs_s5 rfl rfl (Nat.le_of_ble_eq_true rfl) (by decide) (c_X7_layOut hI1 (by omega)) (fun r5 F6 A7 h8 => ?_)
      obtain ⟨e10, I11, f12, x9⟩ := h8
      subst e10
      have v13 : F6 0 11 = F1 0 11 := f12.1 0 11 (by first | exact id | omega | (dsimp only; omega) | (dsimp only) | fail)
      have v14 : F6 0 12 = F1 0 12 := f12.1 0 12 (by first | exact id | omega | (dsimp only; omega) | (dsimp only) | fail)
      have v15 : F6 3 1 = F1 3 1 := f12.1 3 1 (by first | exact id | omega | (dsimp only; omega) | (dsimp only) | fail)
      have f16 := gs_fr_tr hf1 f12 (fun b j h => by first | exact False.elim h | omega | (dsimp only at h ⊢; omega) | fail) (fun b h => by first | exact False.elim h | omega | (dsimp only at h ⊢; omega) | fail)
      show sA _ _ _ 50 _ [] _ _
      refine sA_vret dd_X8_layOut_50 rfl ?_
      refine ⟨rfl, I11, f16, ?_⟩
      refine ⟨by omega, by omega, by omega, by omega, fun i hi => ?_⟩
      rw [f12.1 (90 + 2 * i) 1 (by dsimp only; omega)]
      exact i4 i (by omega)
    · skip
      refine sA_aload_n dd_X8_layOut_26 rfl (.tail _ (.head _)) ?_
      refine sA_getr (ci := 8) (j := 1) (q := (RX8, TX8, 13)) dd_X8_layOut_27 rfl (by decide) fl_X8_17 (by decide) gs_s0 rfl ?_
      refine sA_iload_n dd_X8_layOut_30 rfl (.head _) ?_
      refine sA_aald (n := 8) dd_X8_layOut_31 (by decide) (by decide) (by decide) gs_s2 (by omega) (by decide) ?_
      have g17 := gs_plan_at (k := p.toNat) (by omega)
      refine sA_iconst (z := 0) dd_X8_layOut_32 ?_
      refine sA_put (ci := 2) (j := 1) (q := (RX2, TX2, 2)) (ty := .int) dd_X8_layOut_33 rfl (by decide) fl_X8_162 rfl (tyX2_ok 1 (by decide)) rfl rfl (Nat.lt_of_succ_lt g17.1) g17.2.1 rfl ?_
      have I19 : gs_I (gs_up F1 (90 + 2 * p.toNat) 1 0) A1 := gs_plan_put g17 hI1 (by omega)
      have f20 := gs_fr_put hf1 (a := 90 + 2 * p.toNat) (z := 0) (j := 1) (by first | omega | (dsimp only; omega) | (dsimp only) | fail)
      have v21 : gs_up F1 (90 + 2 * p.toNat) 1 0 (90 + 2 * p.toNat) 1 = 0 := gs_up_self _ _ _ _
      have g22 : ∀ b k, ¬ (b = (90 + 2 * p.toNat) ∧ k = 1) → (gs_up F1 (90 + 2 * p.toNat) 1 0) b k = F1 b k := fun b k h => gs_up_ne _ _ (by omega)
      have v23 : (gs_up F1 (90 + 2 * p.toNat) 1 0) 0 11 = F1 0 11 := gs_up_ne _ _ (by omega)
      have v24 : (gs_up F1 (90 + 2 * p.toNat) 1 0) 0 12 = F1 0 12 := gs_up_ne _ _ (by omega)
      have v25 : (gs_up F1 (90 + 2 * p.toNat) 1 0) 3 1 = F1 3 1 := gs_up_ne _ _ (by omega)
      generalize gs_up F1 (90 + 2 * p.toNat) 1 0 = F18 at I19 f20 v21 g22 v23 v24 v25 ⊢
      refine sA_iinc (lv' := [(2, gs_iv (p + 1)), (0, .ref 0), (1, gs_iv g)]) dd_X8_layOut_36 (.head _) (by decide) rfl ?_
      refine sA_goto (tgt := 20) dd_X8_layOut_39 (by decide) ?_
      have b26 : (1 : Int) ≤ F18 0 11 ∧ F18 0 11 ≤ 3 := I19.1 0 11
      have b27 : (0 : Int) ≤ F18 0 12 ∧ F18 0 12 ≤ 12 := I19.1 0 12
      have b28 := gs_row_sz gs_row_3 I19
      refine sA_sub (lv2 := [(2, gs_iv (p + 1)), (0, .ref 0), (1, gs_iv g)]) (List.forall_mem_cons.mpr ⟨(.head _), (List.forall_mem_cons.mpr ⟨(.tail _ (.head _)), (List.forall_mem_cons.mpr ⟨(.tail _ (.tail _ (.head _))), (fun _ h => absurd h List.not_mem_nil)⟩)⟩)⟩) ?_
      exact ih (p + 1) F18 A1 I19 f20 (by omega) (by omega) (by omega) (by omega) (fun i hi => by first | (exfalso; omega) | (by_cases h : i = p.toNat <;> first | (rw [g22 _ _ (by omega)]; exact i4 i (by omega)) | (rw [h]; omega) | fail) | fail) (by omega)
theorem c_X8_layOut_vf {g : Int} {F A : gs_F} (hI : gs_I F A) (hg : 1 ≤ g ∧ g ≤ 3) : sC m_X8_layOut 6 [.ref 0, gs_iv g] F A (fun rv F' A' => rv = none ∧ gs_I F' A' ∧ gs_fr (fun c j => (c = 0 ∧ (j = 11 ∨ j = 12)) ∨ (c = 3 ∧ j = 1) ∨ (90 ≤ c ∧ c < 106 ∧ j = 1) ∨ (c = 5 ∧ j = 0) ∨ ((c = 8 ∨ c = 10) ∧ j = 1)) (fun c => c = 9 ∨ c = 11 ∨ c = 6) F A F' A' ∧ (F' 0 11 = g ∧ F' 0 12 = 0 ∧ F' 3 1 = 0 ∧ F' 5 0 = 3 * g - 1 ∧ (∀ i : Nat, i < 8 → F' (90 + 2 * i) 1 = 0))) := by
  refine sC_of ok_X8_layOut.1 (Nat.le_of_ble_eq_true rfl) ?_
  show sA _ _ _ 0 [(0, .ref 0), (1, gs_iv g)] [] F A
  have hf : gs_fr (fun c j => (c = 0 ∧ (j = 11 ∨ j = 12)) ∨ (c = 3 ∧ j = 1) ∨ (90 ≤ c ∧ c < 106 ∧ j = 1) ∨ (c = 5 ∧ j = 0) ∨ ((c = 8 ∨ c = 10) ∧ j = 1)) (fun c => c = 9 ∨ c = 11 ∨ c = 6) F A F A := gs_fr_refl _ _ _ _
  have b29 : (1 : Int) ≤ F 0 11 ∧ F 0 11 ≤ 3 := hI.1 0 11
  have b30 : (0 : Int) ≤ F 0 12 ∧ F 0 12 ≤ 12 := hI.1 0 12
  have b31 := gs_row_sz gs_row_3 hI
  refine sA_aload_n dd_X8_layOut_0 rfl (.head _) ?_
  refine sA_iload_n dd_X8_layOut_1 rfl (.tail _ (.head _)) ?_
  refine sA_put (ci := 8) (j := 11) (q := (RX8, TX8, 13)) (ty := .int) dd_X8_layOut_2 rfl (by decide) fl_X8_84 rfl (tyX8_ok 11 (by decide)) rfl rfl (by decide) gs_s0 rfl ?_
  have I33 : gs_I (gs_up F 0 11 g) A := gs_I_put hI (show (1 : Int) ≤ g ∧ g ≤ 3 by omega)
  have f34 := gs_fr_put hf (a := 0) (z := g) (j := 11) (by first | omega | (dsimp only; omega) | (dsimp only) | fail)
  have v35 : gs_up F 0 11 g 0 11 = g := gs_up_self _ _ _ _
  have g36 : ∀ b k, ¬ (b = 0 ∧ k = 11) → (gs_up F 0 11 g) b k = F b k := fun b k h => gs_up_ne _ _ (by omega)
  have v37 : (gs_up F 0 11 g) 0 12 = F 0 12 := gs_up_ne _ _ (by omega)
  have v38 : (gs_up F 0 11 g) 3 1 = F 3 1 := gs_up_ne _ _ (by omega)
  generalize gs_up F 0 11 g = F32 at I33 f34 v35 g36 v37 v38 ⊢
  refine sA_aload_n dd_X8_layOut_5 rfl (.head _) ?_
  refine sA_iconst (z := 0) dd_X8_layOut_6 ?_
  refine sA_put (ci := 8) (j := 12) (q := (RX8, TX8, 13)) (ty := .int) dd_X8_layOut_7 rfl (by decide) fl_X8_94 rfl (tyX8_ok 12 (by decide)) rfl rfl (by decide) gs_s0 rfl ?_
  have I40 : gs_I (gs_up F32 0 12 0) A := gs_I_put I33 (show (0 : Int) ≤ 0 ∧ 0 ≤ 12 by omega)
  have f41 := gs_fr_put f34 (a := 0) (z := 0) (j := 12) (by first | omega | (dsimp only; omega) | (dsimp only) | fail)
  have v42 : gs_up F32 0 12 0 0 12 = 0 := gs_up_self _ _ _ _
  have g43 : ∀ b k, ¬ (b = 0 ∧ k = 12) → (gs_up F32 0 12 0) b k = F32 b k := fun b k h => gs_up_ne _ _ (by omega)
  have v44 : (gs_up F32 0 12 0) 0 11 = F32 0 11 := gs_up_ne _ _ (by omega)
  have v45 : (gs_up F32 0 12 0) 3 1 = F32 3 1 := gs_up_ne _ _ (by omega)
  generalize gs_up F32 0 12 0 = F39 at I40 f41 v42 g43 v44 v45 ⊢
  refine sA_aload_n dd_X8_layOut_10 rfl (.head _) ?_
  refine sA_getr (ci := 8) (j := 2) (q := (RX8, TX8, 13)) dd_X8_layOut_11 rfl (by decide) fl_X8_26 (by decide) gs_s0 rfl ?_
  refine sA_iconst (z := 0) dd_X8_layOut_14 ?_
  refine sA_put (ci := 4) (j := 1) (q := (RX4, TX4, 2)) (ty := .int) dd_X8_layOut_15 rfl (by decide) fl_X8_88 rfl (tyX4_ok 1 (by decide)) rfl rfl (Nat.lt_of_succ_lt gs_row_3.1) gs_row_3.2.1 rfl ?_
  have I47 : gs_I (gs_up F39 3 1 0) A := gs_row_put gs_row_3 I40 (by omega)
  have f48 := gs_fr_put f41 (a := 3) (z := 0) (j := 1) (by first | omega | (dsimp only; omega) | (dsimp only) | fail)
  have v49 : gs_up F39 3 1 0 3 1 = 0 := gs_up_self _ _ _ _
  have g50 : ∀ b k, ¬ (b = 3 ∧ k = 1) → (gs_up F39 3 1 0) b k = F39 b k := fun b k h => gs_up_ne _ _ (by omega)
  have v51 : (gs_up F39 3 1 0) 0 11 = F39 0 11 := gs_up_ne _ _ (by omega)
  have v52 : (gs_up F39 3 1 0) 0 12 = F39 0 12 := gs_up_ne _ _ (by omega)
  generalize gs_up F39 3 1 0 = F46 at I47 f48 v49 g50 v51 v52 ⊢
  refine sA_iconst (z := 0) dd_X8_layOut_18 ?_
  refine sA_istore_n (lv' := [(2, gs_iv 0), (0, .ref 0), (1, gs_iv g)]) dd_X8_layOut_19 rfl (by decide) rfl ?_
  have b53 : (1 : Int) ≤ F46 0 11 ∧ F46 0 11 ≤ 3 := I47.1 0 11
  have b54 : (0 : Int) ≤ F46 0 12 ∧ F46 0 12 ≤ 12 := I47.1 0 12
  have b55 := gs_row_sz gs_row_3 I47
  refine sA_sub (lv2 := [(2, gs_iv 0), (0, .ref 0), (1, gs_iv g)]) (List.forall_mem_cons.mpr ⟨(.head _), (List.forall_mem_cons.mpr ⟨(.tail _ (.head _)), (List.forall_mem_cons.mpr ⟨(.tail _ (.tail _ (.head _))), (fun _ h => absurd h List.not_mem_nil)⟩)⟩)⟩) ?_
  exact (k_X8_layOut_vf hI hg (8 - 0 : Int).toNat.succ) 0 F46 A I47 f48 (by omega) (by omega) (by omega) (by omega) (fun i hi => by first | (exfalso; omega) | (by_cases h : i = p.toNat <;> first | (rw [g50 _ _ (by omega)]; exact i4 i (by omega)) | (rw [h]; omega) | fail) | fail) (by omega)
theorem c_X8_skin_vf {g : Int} {F A : gs_F} (hI : gs_I F A) (hg : -2147483648 ≤ g ∧ g ≤ 2147483647) : sC m_X8_skin 7 [.ref 0, gs_iv g] F A (fun rv F' A' => ∃ z : Int, rv = some (gs_iv z) ∧ gs_I F' A' ∧ gs_fr (fun c j => (c = 0 ∧ (j = 11 ∨ j = 12)) ∨ (c = 3 ∧ j = 1) ∨ (90 ≤ c ∧ c < 106 ∧ j = 1) ∨ (c = 5 ∧ j = 0) ∨ ((c = 8 ∨ c = 10) ∧ j = 1)) (fun c => c = 9 ∨ c = 11 ∨ c = 6) F A F' A' ∧ ((1 ≤ g ∧ g ≤ 3 ∧ z = 2 * g ∧ F' 0 11 = g ∧ F' 0 12 = 0 ∧ F' 3 1 = 0 ∧ F' 5 0 = 3 * g - 1 ∧ (∀ i : Nat, i < 8 → F' (90 + 2 * i) 1 = 0)) ∨ ((g < 1 ∨ 3 < g) ∧ z = -1002 ∧ F' = F ∧ A' = A))) := by
  refine sC_of ok_X8_skin.1 (Nat.le_of_ble_eq_true rfl) ?_
  show sA _ _ _ 0 [(0, .ref 0), (1, gs_iv g)] [] F A
  have hf : gs_fr (fun c j => (c = 0 ∧ (j = 11 ∨ j = 12)) ∨ (c = 3 ∧ j = 1) ∨ (90 ≤ c ∧ c < 106 ∧ j = 1) ∨ (c = 5 ∧ j = 0) ∨ ((c = 8 ∨ c = 10) ∧ j = 1)) (fun c => c = 9 ∨ c = 11 ∨ c = 6) F A F A := gs_fr_refl _ _ _ _
  refine sA_iload_n dd_X8_skin_0 rfl (.tail _ (.head _)) ?_
  refine sA_iconst (z := 1) dd_X8_skin_1 ?_
  refine sA_icmp_lt (tgt := 10) dd_X8_skin_2 (by decide) (by omega) (by omega) (fun q1 => ?_) (fun q1 => ?_)
  · skip
    refine sA_sipush (z := (-1002)) dd_X8_skin_10 (by decide) ?_
    refine sA_iret (z := -1002) dd_X8_skin_13 rfl ?_
    refine ⟨_, rfl, hI, hf, ?_⟩
    exact .inr ⟨by omega, by omega, rfl, rfl⟩
  · skip
    refine sA_iload_n dd_X8_skin_5 rfl (.tail _ (.head _)) ?_
    refine sA_iconst (z := 3) dd_X8_skin_6 ?_
    refine sA_icmp_le (tgt := 14) dd_X8_skin_7 (by decide) (by omega) (by omega) (fun q2 => ?_) (fun q2 => ?_)
    · skip
      refine sA_aload_n dd_X8_skin_14 rfl (.head _) ?_
      refine sA_iload_n dd_X8_skin_15 rfl (.tail _ (.head _)) ?_
      refine sA_callV (y2 := m_X8_layOut) (n2 := 1) (d2 := 6) (a := 0) (ci := 8) (q := (RX8, TX8, 13)) (as := [gs_iv g]) (rest := []) dd_X8_skin_16 ok_X8_layOut ml_X8_81 rfl rfl (by decide) gs_s0 rfl rfl (Nat.le_of_ble_eq_true rfl) (by decide) (c_X8_layOut_vf hI (by omega)) (fun r3 F4 A5 h6 => ?_)
      obtain ⟨e8, I9, f10, x7⟩ := h6
      subst e8
      have f11 := gs_fr_tr hf f10 (fun b j h => by first | exact False.elim h | omega | (dsimp only at h ⊢; omega) | fail) (fun b h => by first | exact False.elim h | omega | (dsimp only at h ⊢; omega) | fail)
      have y12 : F4 0 11 = g ∧ F4 0 12 = 0 ∧ F4 3 1 = 0 ∧ F4 5 0 = 3 * g - 1 ∧ (∀ i : Nat, i < 8 → F4 (90 + 2 * i) 1 = 0) := x7
      clear x7
      show sA _ _ _ 19 _ [] _ _
      refine sA_iconst (z := 2) dd_X8_skin_19 ?_
      refine sA_iload_n dd_X8_skin_20 rfl (.tail _ (.head _)) ?_
      refine sA_imul dd_X8_skin_21 ?_
      refine sA_iret (z := 2 * g) dd_X8_skin_22 rfl ?_
      refine ⟨_, rfl, I9, f11, ?_⟩
      exact .inl ⟨by omega, by omega, by omega, by omega, by omega, by omega, by omega, y12.2.2.2.2⟩
    · skip
      refine sA_sipush (z := (-1002)) dd_X8_skin_10 (by decide) ?_
      refine sA_iret (z := -1002) dd_X8_skin_13 rfl ?_
      refine ⟨_, rfl, hI, hf, ?_⟩
      exact .inr ⟨by omega, by omega, rfl, rfl⟩
theorem k_X9_lay_vf {g : Int} {F A : gs_F} (hI : gs_I F A) (hg : 1 ≤ g ∧ g ≤ 3) : ∀ nN : Nat, (∀ (p : Int)  (F1 A1 : gs_F), gs_I F1 A1 → gs_fr (fun c j => c = 106 ∧ (j = 0 ∨ j = 1 ∨ j = 3)) (fun c => c = 110) F A F1 A1 → 0 ≤ p ∧ p ≤ 9 → F1 106 0 = g ∧ F1 106 1 = 0 ∧ F1 106 3 = 0 → (∀ j : Int, 0 ≤ j → j < p → A1 110 j.toNat = 0) → 9 - p < (nN : Int) → sA m_X9_lay 1 (fun rv F' A' => rv = none ∧ gs_I F' A' ∧ gs_fr (fun c j => c = 106 ∧ (j = 0 ∨ j = 1 ∨ j = 3)) (fun c => c = 110) F A F' A' ∧ (F' 106 0 = g ∧ F' 106 1 = 0 ∧ F' 106 3 = 0 ∧ (∀ j : Int, 0 ≤ j → j < 9 → A' 110 j.toNat = 0))) 17 [(2, gs_iv p), (0, .ref 106)] [] F1 A1) := by
  intro nN
  induction nN with
  | zero =>
    exact fun a0 a1 a2 a3 a4 i0 i1 i2 hm => by exfalso; omega
  | succ nN ih =>
    intro p F1 A1 hI1 hf1 i0 i1 i2 hm
    have b1 : (1 : Int) ≤ F1 106 0 ∧ F1 106 0 ≤ 3 := hI1.1 106 0
    have b2 : (0 : Int) ≤ F1 106 1 ∧ F1 106 1 ≤ 60 := hI1.1 106 1
    have b3 : (0 : Int) ≤ F1 106 3 ∧ F1 106 3 ≤ 12 := hI1.1 106 3
    have u4 : A1 110 = A1 110 := rfl
    refine sA_iload_n dd_X9_lay_17 rfl (.head _) ?_
    refine sA_bipush (z := 9) dd_X9_lay_18 (by decide) ?_
    refine sA_icmp_ge (tgt := 36) dd_X9_lay_20 (by decide) (by omega) (by omega) (fun q5 => ?_) (fun q5 => ?_)
    · skip
      refine sA_vret dd_X9_lay_36 rfl ?_
      refine ⟨rfl, hI1, hf1, ?_⟩
      exact ⟨by omega, by omega, by omega, fun j h1 h2 => i2 j h1 (by omega)⟩
    · skip
      refine sA_aload_n dd_X9_lay_23 rfl (.tail _ (.head _)) ?_
      refine sA_getr (ci := 9) (j := 6) (q := (RX9, TX9, 28)) dd_X9_lay_24 rfl (by decide) fl_X9_19 (by decide) gs_s106 rfl ?_
      refine sA_iload_n dd_X9_lay_27 rfl (.head _) ?_
      refine sA_iconst (z := 0) dd_X9_lay_28 ?_
      refine sA_iast (n := 9) dd_X9_lay_29 (by decide) gs_s110 (by omega) (by decide) ?_
      have I7 : gs_I F1 (gs_up A1 110 p.toNat 0) := gs_I_ast hI1 (show (0 : Int) ≤ 0 ∧ 0 ≤ 60 by omega)
      have f8 := gs_fr_ast hf1 (a := 110) (z := 0) (i := p.toNat) (by first | omega | (dsimp only; omega) | (dsimp only) | fail)
      have u9 : (gs_up A1 110 p.toNat 0) 110 = gs_u (A1 110) p.toNat 0 := (gs_up_u A1 110 p.toNat 0).trans (congrArg (fun f => gs_u f p.toNat 0) u4)
      generalize gs_up A1 110 p.toNat 0 = A6 at I7 f8 u9 ⊢
      refine sA_iinc (lv' := [(2, gs_iv (p + 1)), (0, .ref 106)]) dd_X9_lay_30 (.head _) (by decide) rfl ?_
      refine sA_goto (tgt := 17) dd_X9_lay_33 (by decide) ?_
      refine sA_sub (lv2 := [(2, gs_iv (p + 1)), (0, .ref 106)]) (List.forall_mem_cons.mpr ⟨(.head _), (List.forall_mem_cons.mpr ⟨(.tail _ (.head _)), (fun _ h => absurd h List.not_mem_nil)⟩)⟩) ?_
      exact ih (p + 1) F1 A6 I7 f8 (by omega) (by omega) (by first | (intro j h1 h2; exfalso; omega) | exact gs_u_ext (h := fun _ => 0) (by omega) u9 rfl i2 | fail) (by omega)
theorem c_X9_lay_vf {g : Int} {F A : gs_F} (hI : gs_I F A) (hg : 1 ≤ g ∧ g ≤ 3) : sC m_X9_lay 1 [.ref 106, gs_iv g] F A (fun rv F' A' => rv = none ∧ gs_I F' A' ∧ gs_fr (fun c j => c = 106 ∧ (j = 0 ∨ j = 1 ∨ j = 3)) (fun c => c = 110) F A F' A' ∧ (F' 106 0 = g ∧ F' 106 1 = 0 ∧ F' 106 3 = 0 ∧ (∀ j : Int, 0 ≤ j → j < 9 → A' 110 j.toNat = 0))) := by
  refine sC_of ok_X9_lay.1 (Nat.le_of_ble_eq_true rfl) ?_
  show sA _ _ _ 0 [(0, .ref 106), (1, gs_iv g)] [] F A
  have hf : gs_fr (fun c j => c = 106 ∧ (j = 0 ∨ j = 1 ∨ j = 3)) (fun c => c = 110) F A F A := gs_fr_refl _ _ _ _
  have b10 : (1 : Int) ≤ F 106 0 ∧ F 106 0 ≤ 3 := hI.1 106 0
  have b11 : (0 : Int) ≤ F 106 1 ∧ F 106 1 ≤ 60 := hI.1 106 1
  have b12 : (0 : Int) ≤ F 106 3 ∧ F 106 3 ≤ 12 := hI.1 106 3
  have u13 : A 110 = A 110 := rfl
  refine sA_aload_n dd_X9_lay_0 rfl (.head _) ?_
  refine sA_iload_n dd_X9_lay_1 rfl (.tail _ (.head _)) ?_
  refine sA_put (ci := 9) (j := 0) (q := (RX9, TX9, 28)) (ty := .int) dd_X9_lay_2 rfl (by decide) fl_X9_64 rfl (tyX9_ok 0 (by decide)) rfl rfl (by decide) gs_s106 rfl ?_
  have I15 : gs_I (gs_up F 106 0 g) A := gs_I_put hI (show (1 : Int) ≤ g ∧ g ≤ 3 by omega)
  have f16 := gs_fr_put hf (a := 106) (z := g) (j := 0) (by first | omega | (dsimp only; omega) | (dsimp only) | fail)
  have v17 : gs_up F 106 0 g 106 0 = g := gs_up_self _ _ _ _
  have v18 : (gs_up F 106 0 g) 106 1 = F 106 1 := gs_up_ne _ _ (by omega)
  have v19 : (gs_up F 106 0 g) 106 3 = F 106 3 := gs_up_ne _ _ (by omega)
  generalize gs_up F 106 0 g = F14 at I15 f16 v17 v18 v19 ⊢
  refine sA_aload_n dd_X9_lay_5 rfl (.head _) ?_
  refine sA_iconst (z := 0) dd_X9_lay_6 ?_
  refine sA_put (ci := 9) (j := 1) (q := (RX9, TX9, 28)) (ty := .int) dd_X9_lay_7 rfl (by decide) fl_X9_67 rfl (tyX9_ok 1 (by decide)) rfl rfl (by decide) gs_s106 rfl ?_
  have I21 : gs_I (gs_up F14 106 1 0) A := gs_I_put I15 (show (0 : Int) ≤ 0 ∧ 0 ≤ 60 by omega)
  have f22 := gs_fr_put f16 (a := 106) (z := 0) (j := 1) (by first | omega | (dsimp only; omega) | (dsimp only) | fail)
  have v23 : gs_up F14 106 1 0 106 1 = 0 := gs_up_self _ _ _ _
  have v24 : (gs_up F14 106 1 0) 106 0 = F14 106 0 := gs_up_ne _ _ (by omega)
  have v25 : (gs_up F14 106 1 0) 106 3 = F14 106 3 := gs_up_ne _ _ (by omega)
  generalize gs_up F14 106 1 0 = F20 at I21 f22 v23 v24 v25 ⊢
  refine sA_aload_n dd_X9_lay_10 rfl (.head _) ?_
  refine sA_iconst (z := 0) dd_X9_lay_11 ?_
  refine sA_put (ci := 9) (j := 3) (q := (RX9, TX9, 28)) (ty := .int) dd_X9_lay_12 rfl (by decide) fl_X9_70 rfl (tyX9_ok 3 (by decide)) rfl rfl (by decide) gs_s106 rfl ?_
  have I27 : gs_I (gs_up F20 106 3 0) A := gs_I_put I21 (show (0 : Int) ≤ 0 ∧ 0 ≤ 12 by omega)
  have f28 := gs_fr_put f22 (a := 106) (z := 0) (j := 3) (by first | omega | (dsimp only; omega) | (dsimp only) | fail)
  have v29 : gs_up F20 106 3 0 106 3 = 0 := gs_up_self _ _ _ _
  have v30 : (gs_up F20 106 3 0) 106 0 = F20 106 0 := gs_up_ne _ _ (by omega)
  have v31 : (gs_up F20 106 3 0) 106 1 = F20 106 1 := gs_up_ne _ _ (by omega)
  generalize gs_up F20 106 3 0 = F26 at I27 f28 v29 v30 v31 ⊢
  refine sA_iconst (z := 0) dd_X9_lay_15 ?_
  refine sA_istore_n (lv' := [(2, gs_iv 0), (0, .ref 106), (1, gs_iv g)]) dd_X9_lay_16 rfl (by decide) rfl ?_
  have b32 : (1 : Int) ≤ F26 106 0 ∧ F26 106 0 ≤ 3 := I27.1 106 0
  have b33 : (0 : Int) ≤ F26 106 1 ∧ F26 106 1 ≤ 60 := I27.1 106 1
  have b34 : (0 : Int) ≤ F26 106 3 ∧ F26 106 3 ≤ 12 := I27.1 106 3
  refine sA_sub (lv2 := [(2, gs_iv 0), (0, .ref 106)]) (List.forall_mem_cons.mpr ⟨(.head _), (List.forall_mem_cons.mpr ⟨(.tail _ (.head _)), (fun _ h => absurd h List.not_mem_nil)⟩)⟩) ?_
  exact (k_X9_lay_vf hI hg (9 - 0 : Int).toNat.succ) 0 F26 A I27 f28 (by omega) (by omega) (by first | (intro j h1 h2; exfalso; omega) | exact gs_u_ext (h := fun _ => 0) (by omega) u13 rfl i2 | fail) (by omega)
theorem c_X9_skin_vf {g : Int} {F A : gs_F} (hI : gs_I F A) (hg : -2147483648 ≤ g ∧ g ≤ 2147483647) : sC m_X9_skin 2 [.ref 106, gs_iv g] F A (fun rv F' A' => ∃ z : Int, rv = some (gs_iv z) ∧ gs_I F' A' ∧ gs_fr (fun c j => c = 106 ∧ (j = 0 ∨ j = 1 ∨ j = 3)) (fun c => c = 110) F A F' A' ∧ ((1 ≤ g ∧ g ≤ 3 ∧ z = 2 * g ∧ F' 106 0 = g ∧ F' 106 1 = 0 ∧ F' 106 3 = 0 ∧ (∀ j : Int, 0 ≤ j → j < 9 → A' 110 j.toNat = 0)) ∨ ((g < 1 ∨ 3 < g) ∧ z = -1002 ∧ F' = F ∧ A' = A))) := by
  refine sC_of ok_X9_skin.1 (Nat.le_of_ble_eq_true rfl) ?_
  show sA _ _ _ 0 [(0, .ref 106), (1, gs_iv g)] [] F A
  have hf : gs_fr (fun c j => c = 106 ∧ (j = 0 ∨ j = 1 ∨ j = 3)) (fun c => c = 110) F A F A := gs_fr_refl _ _ _ _
  refine sA_iload_n dd_X9_skin_0 rfl (.tail _ (.head _)) ?_
  refine sA_i2l dd_X9_skin_1 (by omega) ?_
  refine sA_lconst (z := 1) dd_X9_skin_2 (by decide) ?_
  refine sA_ldc2 (z := 3) dd_X9_skin_3 (ri_lw_in (pl := 872) (by decide +kernel)) ?_
  refine sA_callS (y2 := m_X9_in) (n2 := 3) (d2 := 1) (as := [gs_lv g, gs_lv 1, gs_lv 3]) (rest := []) dd_X9_skin_6 ok_X9_in ml_X9_75 rfl rfl (Nat.le_of_ble_eq_true rfl) (by decide) (c_X9_in (by omega) (by omega) (by omega)) (fun r1 F2 A3 h4 => ?_)
  obtain ⟨z7, e6, e8, e9, x5⟩ := h4
  subst e6 e8 e9
  show sA _ _ _ 9 _ [gs_iv z7] _ _
  refine sA_if_ne (tgt := 16) dd_X9_skin_9 (by decide) (by omega) (fun q10 => ?_) (fun q10 => ?_)
  · skip
    refine sA_aload_n dd_X9_skin_16 rfl (.head _) ?_
    refine sA_iload_n dd_X9_skin_17 rfl (.tail _ (.head _)) ?_
    refine sA_callV (y2 := m_X9_lay) (n2 := 1) (d2 := 1) (a := 106) (ci := 9) (q := (RX9, TX9, 28)) (as := [gs_iv g]) (rest := []) dd_X9_skin_18 ok_X9_lay ml_X9_60 rfl rfl (by decide) gs_s106 rfl rfl (Nat.le_of_ble_eq_true rfl) (by decide) (c_X9_lay_vf hI (by omega)) (fun r11 F12 A13 h14 => ?_)
    obtain ⟨e16, I17, f18, x15⟩ := h14
    subst e16
    have f19 := gs_fr_tr hf f18 (fun b j h => by first | exact False.elim h | omega | (dsimp only at h ⊢; omega) | fail) (fun b h => by first | exact False.elim h | omega | (dsimp only at h ⊢; omega) | fail)
    have y20 : F12 106 0 = g ∧ F12 106 1 = 0 ∧ F12 106 3 = 0 ∧ (∀ j : Int, 0 ≤ j → j < 9 → A13 110 j.toNat = 0) := x15
    clear x15
    show sA _ _ _ 21 _ [] _ _
    refine sA_iconst (z := 2) dd_X9_skin_21 ?_
    refine sA_aload_n dd_X9_skin_22 rfl (.head _) ?_
    refine sA_geti (ci := 9) (j := 0) (q := (RX9, TX9, 28)) dd_X9_skin_23 rfl (by decide) fl_X9_64 (by decide) gs_s106 rfl ?_
    have b21 : (1 : Int) ≤ F12 106 0 ∧ F12 106 0 ≤ 3 := I17.1 106 0
    refine sA_imul dd_X9_skin_26 ?_
    refine sA_iret (z := 2 * (F12 106 0)) dd_X9_skin_27 rfl ?_
    refine ⟨_, rfl, I17, f19, ?_⟩
    exact .inl ⟨by omega, by omega, by omega, by omega, by omega, by omega, y20.2.2.2⟩
  · skip
    refine sA_sipush (z := (-1002)) dd_X9_skin_12 (by decide) ?_
    refine sA_iret (z := -1002) dd_X9_skin_15 rfl ?_
    refine ⟨_, rfl, hI, hf, ?_⟩
    exact .inr ⟨by omega, by omega, rfl, rfl⟩
end
