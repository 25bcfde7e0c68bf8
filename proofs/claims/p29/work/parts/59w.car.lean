noncomputable section
/-! ===== rings carried ===== -/
/-- the row s, closed, is the n letters f -/
def gs_cls (s : List Int) (f : Nat → Int) (n : Int) : Prop := ∃ (h : Nat → Int) (m k : Int), 0 ≤ m ∧ s = gs_stk h m.toNat ∧ gs_lo h m k ∧ n = m - 2 * k ∧ ∀ i : Int, 0 ≤ i → i < n → f i.toNat = h (k + i).toNat
theorem gs_cls_mk {h f : Nat → Int} {m n k : Int} (hm : 0 ≤ m) (lo : gs_lo h m k) (e : n = m - 2 * k) (ef : f = gs_cc h h k.toNat 0 (m - 2 * k).toNat) : gs_cls (gs_stk h m.toNat) f n := by
  have k0 := lo.1
  refine ⟨h, m, k, hm, rfl, lo, e, fun i h1 h2 => ?_⟩
  rw [ef]
  unfold gs_cc
  rw [if_pos (by omega)]
  congr 1
  omega
theorem gs_cls_uni {s : List Int} {f f2 : Nat → Int} {n n2 : Int} (a : gs_cls s f n) (b : gs_cls s f2 n2) : n2 = n ∧ ∀ i : Nat, (i : Int) < n → f i = f2 i := by
  obtain ⟨h, m, k, a1, a2, a3, a4, a5⟩ := a
  obtain ⟨h2, m2, k2, b1, b2, b3, b4, b5⟩ := b
  rw [a2] at b2
  obtain ⟨e1, e2⟩ := gs_stk_inj _ _ b2
  have em : m2 = m := by omega
  subst em
  have ek : k2 = k := gs_lo_uni a3 (gs_lo_cg (fun i hi => (e2 i (by omega)).symm) b3)
  subst ek
  have k0 := a3.1
  refine ⟨by omega, fun i hi => ?_⟩
  have w1 := a5 i (by omega) hi
  have w2 := b5 i (by omega) (by omega)
  rw [Int.toNat_natCast] at w1 w2
  rw [w1, w2]
  exact e2 _ (by omega)
theorem gs_cls_lo {s : List Int} {f : Nat → Int} {n : Int} (a : gs_cls s f n) : gs_lo f n 0 := by
  obtain ⟨h, m, k, a1, a2, a3, a4, a5⟩ := a
  have k0 := a3.1
  have k1 := a3.2.1
  refine ⟨by omega, by omega, fun j h1 h2 => by omega, fun w => ?_⟩
  have w2 := w.2
  rw [a5 0 (by omega) (by omega), a5 (n - 1 - 0) (by omega) (by omega)] at w2
  apply a3.2.2.2
  refine ⟨by omega, ?_⟩
  rw [show k + 0 = k by omega, show k + (n - 1 - 0) = m - 1 - k by omega] at w2
  exact w2
theorem k_X9_takeRing_vf {r : Int} {F A : gs_F} (hI : gs_I F A) (hr : 0 ≤ r ∧ r < 12) : ∀ nN : Nat, (∀ (k : Int)  (F1 A1 : gs_F), gs_I F1 A1 → gs_fr (fun c j => c = 106 ∧ j = 13) (fun c => c = 114) F A F1 A1 → 0 ≤ k ∧ k ≤ F1 106 13 → F1 106 13 ≤ 60 → F1 106 13 = A 108 r.toNat → (∀ j : Int, 0 ≤ j → j < k → A1 114 j.toNat = A 109 (60 * r + j).toNat) → F1 106 13 - k < (nN : Int) → sA m_X9_takeRing 1 (fun rv F' A' => rv = none ∧ gs_I F' A' ∧ gs_fr (fun c j => c = 106 ∧ j = 13) (fun c => c = 114) F A F' A' ∧ (F' 106 13 = A 108 r.toNat ∧ ∀ k : Int, 0 ≤ k → k < A 108 r.toNat → A' 114 k.toNat = A 109 (60 * r + k).toNat)) 12 [(2, gs_iv k), (0, .ref 106), (1, gs_iv r)] [] F1 A1) := by
  intro nN
  induction nN with
  | zero =>
    exact fun a0 a1 a2 a3 a4 i0 i1 i2 i3 hm => by exfalso; omega
  | succ nN ih =>
    intro k F1 A1 hI1 hf1 i0 i1 i2 i3 hm
    have b1 : (0 : Int) ≤ F1 106 13 ∧ F1 106 13 ≤ 400 := hI1.1 106 13
    have u2 : A1 114 = A1 114 := rfl
    refine sA_iload_n dd_X9_takeRing_12 rfl (.head _) ?_
    refine sA_aload_n dd_X9_takeRing_13 rfl (.tail _ (.head _)) ?_
    refine sA_geti (ci := 9) (j := 13) (q := (RX9, TX9, 28)) dd_X9_takeRing_14 rfl (by decide) fl_X9_167 (by decide) gs_s106 rfl ?_
    refine sA_icmp_ge (tgt := 43) dd_X9_takeRing_17 (by decide) (by omega) (by omega) (fun q3 => ?_) (fun q3 => ?_)
    · skip
      refine sA_vret dd_X9_takeRing_43 rfl ?_
      refine ⟨rfl, hI1, hf1, ?_⟩
      exact ⟨by omega, fun j h1 h2 => i3 j h1 (by omega)⟩
    · skip
      refine sA_aload_n dd_X9_takeRing_20 rfl (.tail _ (.head _)) ?_
      refine sA_getr (ci := 9) (j := 12) (q := (RX9, TX9, 28)) dd_X9_takeRing_21 rfl (by decide) fl_X9_31 (by decide) gs_s106 rfl ?_
      refine sA_iload_n dd_X9_takeRing_24 rfl (.head _) ?_
      refine sA_aload_n dd_X9_takeRing_25 rfl (.tail _ (.head _)) ?_
      refine sA_getr (ci := 9) (j := 5) (q := (RX9, TX9, 28)) dd_X9_takeRing_26 rfl (by decide) fl_X9_16 (by decide) gs_s106 rfl ?_
      refine sA_bipush (z := 60) dd_X9_takeRing_29 (by decide) ?_
      refine sA_iload_n dd_X9_takeRing_31 rfl (.tail _ (.tail _ (.head _))) ?_
      refine sA_imul dd_X9_takeRing_32 ?_
      refine sA_iload_n dd_X9_takeRing_33 rfl (.head _) ?_
      refine sA_iadd dd_X9_takeRing_34 ?_
      refine sA_iald (n := 720) dd_X9_takeRing_35 (by decide) gs_s109 (by omega) (by decide) ?_
      have b4 : (-9 : Int) ≤ A1 109 ((60 * r) + k).toNat ∧ A1 109 ((60 * r) + k).toNat ≤ 9 := hI1.2 109 ((60 * r) + k).toNat
      refine sA_iast (n := 401) dd_X9_takeRing_36 (by decide) gs_s114 (by omega) (by decide) ?_
      have I6 : gs_I F1 (gs_up A1 114 k.toNat (A1 109 ((60 * r) + k).toNat)) := gs_I_ast hI1 (show (-9 : Int) ≤ A1 109 ((60 * r) + k).toNat ∧ A1 109 ((60 * r) + k).toNat ≤ 9 by omega)
      have f7 := gs_fr_ast hf1 (a := 114) (z := A1 109 ((60 * r) + k).toNat) (i := k.toNat) (by first | omega | (dsimp only; omega) | (dsimp only) | fail)
      have u8 : (gs_up A1 114 k.toNat (A1 109 ((60 * r) + k).toNat)) 114 = gs_u (A1 114) k.toNat (A1 109 ((60 * r) + k).toNat) := (gs_up_u A1 114 k.toNat (A1 109 ((60 * r) + k).toNat)).trans (congrArg (fun f => gs_u f k.toNat (A1 109 ((60 * r) + k).toNat)) u2)
      generalize gs_up A1 114 k.toNat (A1 109 ((60 * r) + k).toNat) = A5 at I6 f7 u8 ⊢
      refine sA_iinc (lv' := [(2, gs_iv (k + 1)), (0, .ref 106), (1, gs_iv r)]) dd_X9_takeRing_37 (.head _) (by decide) rfl ?_
      refine sA_goto (tgt := 12) dd_X9_takeRing_40 (by decide) ?_
      refine sA_sub (lv2 := [(2, gs_iv (k + 1)), (0, .ref 106), (1, gs_iv r)]) (List.forall_mem_cons.mpr ⟨(.head _), (List.forall_mem_cons.mpr ⟨(.tail _ (.head _)), (List.forall_mem_cons.mpr ⟨(.tail _ (.tail _ (.head _))), (fun _ h => absurd h List.not_mem_nil)⟩)⟩)⟩) ?_
      exact ih (k + 1) F1 A5 I6 f7 (by omega) (by omega) (by omega) (by first | (intro j h1 h2; exfalso; omega) | exact gs_u_ext (h := fun j => A 109 (60 * r + j).toNat) (by omega) u8 (by rw [hf1.2 109 (by dsimp only; omega)]) i3 | fail) (by omega)
theorem c_X9_takeRing_vf {r : Int} {F A : gs_F} (hI : gs_I F A) (hr : 0 ≤ r ∧ r < 12) : sC m_X9_takeRing 1 [.ref 106, gs_iv r] F A (fun rv F' A' => rv = none ∧ gs_I F' A' ∧ gs_fr (fun c j => c = 106 ∧ j = 13) (fun c => c = 114) F A F' A' ∧ (F' 106 13 = A 108 r.toNat ∧ ∀ k : Int, 0 ≤ k → k < A 108 r.toNat → A' 114 k.toNat = A 109 (60 * r + k).toNat)) := by
  refine sC_of ok_X9_takeRing.1 (Nat.le_of_ble_eq_true rfl) ?_
  show sA _ _ _ 0 [(0, .ref 106), (1, gs_iv r)] [] F A
  have hf : gs_fr (fun c j => c = 106 ∧ j = 13) (fun c => c = 114) F A F A := gs_fr_refl _ _ _ _
  have b9 : (0 : Int) ≤ F 106 13 ∧ F 106 13 ≤ 400 := hI.1 106 13
  have u10 : A 114 = A 114 := rfl
  refine sA_aload_n dd_X9_takeRing_0 rfl (.head _) ?_
  refine sA_aload_n dd_X9_takeRing_1 rfl (.head _) ?_
  refine sA_getr (ci := 9) (j := 4) (q := (RX9, TX9, 28)) dd_X9_takeRing_2 rfl (by decide) fl_X9_13 (by decide) gs_s106 rfl ?_
  refine sA_iload_n dd_X9_takeRing_5 rfl (.tail _ (.head _)) ?_
  refine sA_iald (n := 12) dd_X9_takeRing_6 (by decide) gs_s108 (by omega) (by decide) ?_
  have b11 : (0 : Int) ≤ A 108 r.toNat ∧ A 108 r.toNat ≤ 60 := hI.2 108 r.toNat
  refine sA_put (ci := 9) (j := 13) (q := (RX9, TX9, 28)) (ty := .int) dd_X9_takeRing_7 rfl (by decide) fl_X9_167 rfl (tyX9_ok 13 (by decide)) rfl rfl (by decide) gs_s106 rfl ?_
  have I13 : gs_I (gs_up F 106 13 (A 108 r.toNat)) A := gs_I_put hI (show (0 : Int) ≤ A 108 r.toNat ∧ A 108 r.toNat ≤ 400 by omega)
  have f14 := gs_fr_put hf (a := 106) (z := A 108 r.toNat) (j := 13) (by first | omega | (dsimp only; omega) | (dsimp only) | fail)
  have v15 : gs_up F 106 13 (A 108 r.toNat) 106 13 = A 108 r.toNat := gs_up_self _ _ _ _
  generalize gs_up F 106 13 (A 108 r.toNat) = F12 at I13 f14 v15 ⊢
  refine sA_iconst (z := 0) dd_X9_takeRing_10 ?_
  refine sA_istore_n (lv' := [(2, gs_iv 0), (0, .ref 106), (1, gs_iv r)]) dd_X9_takeRing_11 rfl (by decide) rfl ?_
  have b16 : (0 : Int) ≤ F12 106 13 ∧ F12 106 13 ≤ 400 := I13.1 106 13
  refine sA_sub (lv2 := [(2, gs_iv 0), (0, .ref 106), (1, gs_iv r)]) (List.forall_mem_cons.mpr ⟨(.head _), (List.forall_mem_cons.mpr ⟨(.tail _ (.head _)), (List.forall_mem_cons.mpr ⟨(.tail _ (.tail _ (.head _))), (fun _ h => absurd h List.not_mem_nil)⟩)⟩)⟩) ?_
  exact (k_X9_takeRing_vf hI hr (F12 106 13 - 0 : Int).toNat.succ) 0 F12 A I13 f14 (by omega) (by omega) (by omega) (by first | (intro j h1 h2; exfalso; omega) | exact gs_u_ext (h := fun j => A 109 (60 * r + j).toNat) (by omega) u10 (by rw [hf1.2 109 (by dsimp only; omega)]) i3 | fail) (by omega)
theorem k_X9_closeToU_vf  {F A : gs_F} (hI : gs_I F A)  : ∀ nN : Nat, (∀ (fm : Int) (t : Int)  (F1 A1 : gs_F), gs_I F1 A1 → gs_fr (fun c j => c = 106 ∧ j = 9) (fun c => c = 112) F A F1 A1 → 0 ≤ fm ∧ fm ≤ t → t ≤ 400 → fm + t = F 106 13 → (∀ j : Int, 0 ≤ j → j < fm → A 114 j.toNat = -(A 114 (F 106 13 - 1 - j).toNat)) → t - fm + 1000 < (nN : Int) → sA m_X9_closeToU 1 (fun rv F' A' => rv = none ∧ gs_I F' A' ∧ gs_fr (fun c j => c = 106 ∧ j = 9) (fun c => c = 112) F A F' A' ∧ (∃ k : Int, gs_lo (A 114) (F 106 13) k ∧ F' 106 9 = F 106 13 - 2 * k ∧ ∀ i : Int, 0 ≤ i → i < F 106 13 - 2 * k → A' 112 i.toNat = A 114 (k + i).toNat)) 7 [(1, gs_iv fm), (2, gs_iv t), (0, .ref 106)] [] F1 A1) ∧ (∀ (fm : Int) (t : Int) (k : Int)  (F1 A1 : gs_F), gs_I F1 A1 → gs_fr (fun c j => c = 106 ∧ j = 9) (fun c => c = 112) F A F1 A1 → 0 ≤ fm ∧ fm ≤ k → k ≤ t ∧ t ≤ 400 → fm + t = F 106 13 ∧ F1 106 9 = t - fm → gs_lo (A 114) (F 106 13) fm → (∀ i : Int, 0 ≤ i → i < k - fm → A1 112 i.toNat = A 114 (fm + i).toNat) → t - k < (nN : Int) → sA m_X9_closeToU 1 (fun rv F' A' => rv = none ∧ gs_I F' A' ∧ gs_fr (fun c j => c = 106 ∧ j = 9) (fun c => c = 112) F A F' A' ∧ (∃ k : Int, gs_lo (A 114) (F 106 13) k ∧ F' 106 9 = F 106 13 - 2 * k ∧ ∀ i : Int, 0 ≤ i → i < F 106 13 - 2 * k → A' 112 i.toNat = A 114 (k + i).toNat)) 51 [(3, gs_iv k), (1, gs_iv fm), (2, gs_iv t), (0, .ref 106)] [] F1 A1) := by
  intro nN
  induction nN with
  | zero =>
    exact ⟨fun a0 a1 a2 a3 a4 a5 i0 i1 i2 i3 hm => by exfalso; omega, fun a0 a1 a2 a3 a4 a5 a6 i0 i1 i2 i3 i4 hm => by exfalso; omega⟩
  | succ nN ih =>
    refine ⟨?_, ?_⟩
    · skip
      intro fm t F1 A1 hI1 hf1 i0 i1 i2 i3 hm
      have b1 : (0 : Int) ≤ F1 106 13 ∧ F1 106 13 ≤ 400 := hI1.1 106 13
      have u2 : A1 112 = A1 112 := rfl
      refine sA_iload_n dd_X9_closeToU_7 rfl (.tail _ (.head _)) ?_
      refine sA_iload_n dd_X9_closeToU_8 rfl (.head _) ?_
      refine sA_isub dd_X9_closeToU_9 ?_
      refine sA_iconst (z := 1) dd_X9_closeToU_10 ?_
      refine sA_icmp_le (tgt := 42) dd_X9_closeToU_11 (by decide) (by omega) (by omega) (fun q3 => ?_) (fun q3 => ?_)
      · skip
        have h114 : A1 114 = A 114 := hf1.2 114 (by dsimp only; omega)
        have hlo : gs_lo (A 114) (F 106 13) fm := ⟨by omega, by omega, i3, fun w => by
          have w2 := w.2
          rw [← h114, show F 106 13 - 1 - fm = t - 1 by omega] at w2
          omega⟩
        refine sA_aload_n dd_X9_closeToU_42 rfl (.tail _ (.tail _ (.head _))) ?_
        refine sA_iload_n dd_X9_closeToU_43 rfl (.tail _ (.head _)) ?_
        refine sA_iload_n dd_X9_closeToU_44 rfl (.head _) ?_
        refine sA_isub dd_X9_closeToU_45 ?_
        refine sA_put (ci := 9) (j := 9) (q := (RX9, TX9, 28)) (ty := .int) dd_X9_closeToU_46 rfl (by decide) fl_X9_83 rfl (tyX9_ok 9 (by decide)) rfl rfl (by decide) gs_s106 rfl ?_
        have I5 : gs_I (gs_up F1 106 9 (t - fm)) A1 := gs_I_put hI1 (show (0 : Int) ≤ t - fm ∧ t - fm ≤ 400 by omega)
        have f6 := gs_fr_put hf1 (a := 106) (z := t - fm) (j := 9) (by first | omega | (dsimp only; omega) | (dsimp only) | fail)
        have v7 : gs_up F1 106 9 (t - fm) 106 9 = t - fm := gs_up_self _ _ _ _
        have v8 : (gs_up F1 106 9 (t - fm)) 106 13 = F1 106 13 := gs_up_ne _ _ (by omega)
        generalize gs_up F1 106 9 (t - fm) = F4 at I5 f6 v7 v8 ⊢
        refine sA_iload_n dd_X9_closeToU_49 rfl (.head _) ?_
        refine sA_istore_n (lv' := [(3, gs_iv fm), (1, gs_iv fm), (2, gs_iv t), (0, .ref 106)]) dd_X9_closeToU_50 rfl (by decide) rfl ?_
        have b9 : (0 : Int) ≤ F4 106 13 ∧ F4 106 13 ≤ 400 := I5.1 106 13
        refine sA_sub (lv2 := [(3, gs_iv fm), (1, gs_iv fm), (2, gs_iv t), (0, .ref 106)]) (List.forall_mem_cons.mpr ⟨(.head _), (List.forall_mem_cons.mpr ⟨(.tail _ (.head _)), (List.forall_mem_cons.mpr ⟨(.tail _ (.tail _ (.head _))), (List.forall_mem_cons.mpr ⟨(.tail _ (.tail _ (.tail _ (.head _)))), (fun _ h => absurd h List.not_mem_nil)⟩)⟩)⟩)⟩) ?_
        exact ih.2 fm t fm F4 A1 I5 f6 (by omega) (by omega) (by omega) hlo (fun i h1 h2 => by exfalso; omega) (by omega)
      · skip
        refine sA_aload_n dd_X9_closeToU_14 rfl (.tail _ (.tail _ (.head _))) ?_
        refine sA_getr (ci := 9) (j := 12) (q := (RX9, TX9, 28)) dd_X9_closeToU_15 rfl (by decide) fl_X9_31 (by decide) gs_s106 rfl ?_
        refine sA_iload_n dd_X9_closeToU_18 rfl (.head _) ?_
        refine sA_iald (n := 401) dd_X9_closeToU_19 (by decide) gs_s114 (by omega) (by decide) ?_
        have b10 : (-9 : Int) ≤ A1 114 fm.toNat ∧ A1 114 fm.toNat ≤ 9 := hI1.2 114 fm.toNat
        refine sA_iconst (z := 0) dd_X9_closeToU_20 ?_
        refine sA_aload_n dd_X9_closeToU_21 rfl (.tail _ (.tail _ (.head _))) ?_
        refine sA_getr (ci := 9) (j := 12) (q := (RX9, TX9, 28)) dd_X9_closeToU_22 rfl (by decide) fl_X9_31 (by decide) gs_s106 rfl ?_
        refine sA_iload_n dd_X9_closeToU_25 rfl (.tail _ (.head _)) ?_
        refine sA_iconst (z := 1) dd_X9_closeToU_26 ?_
        refine sA_isub dd_X9_closeToU_27 ?_
        refine sA_iald (n := 401) dd_X9_closeToU_28 (by decide) gs_s114 (by omega) (by decide) ?_
        have b11 : (-9 : Int) ≤ A1 114 (t - 1).toNat ∧ A1 114 (t - 1).toNat ≤ 9 := hI1.2 114 (t - 1).toNat
        refine sA_isub dd_X9_closeToU_29 ?_
        refine sA_icmp_ne (tgt := 42) dd_X9_closeToU_30 (by decide) (by omega) (by omega) (fun q12 => ?_) (fun q12 => ?_)
        · skip
          have h114 : A1 114 = A 114 := hf1.2 114 (by dsimp only; omega)
          have hlo : gs_lo (A 114) (F 106 13) fm := ⟨by omega, by omega, i3, fun w => by
            have w2 := w.2
            rw [← h114, show F 106 13 - 1 - fm = t - 1 by omega] at w2
            omega⟩
          refine sA_aload_n dd_X9_closeToU_42 rfl (.tail _ (.tail _ (.head _))) ?_
          refine sA_iload_n dd_X9_closeToU_43 rfl (.tail _ (.head _)) ?_
          refine sA_iload_n dd_X9_closeToU_44 rfl (.head _) ?_
          refine sA_isub dd_X9_closeToU_45 ?_
          refine sA_put (ci := 9) (j := 9) (q := (RX9, TX9, 28)) (ty := .int) dd_X9_closeToU_46 rfl (by decide) fl_X9_83 rfl (tyX9_ok 9 (by decide)) rfl rfl (by decide) gs_s106 rfl ?_
          have I14 : gs_I (gs_up F1 106 9 (t - fm)) A1 := gs_I_put hI1 (show (0 : Int) ≤ t - fm ∧ t - fm ≤ 400 by omega)
          have f15 := gs_fr_put hf1 (a := 106) (z := t - fm) (j := 9) (by first | omega | (dsimp only; omega) | (dsimp only) | fail)
          have v16 : gs_up F1 106 9 (t - fm) 106 9 = t - fm := gs_up_self _ _ _ _
          have v17 : (gs_up F1 106 9 (t - fm)) 106 13 = F1 106 13 := gs_up_ne _ _ (by omega)
          generalize gs_up F1 106 9 (t - fm) = F13 at I14 f15 v16 v17 ⊢
          refine sA_iload_n dd_X9_closeToU_49 rfl (.head _) ?_
          refine sA_istore_n (lv' := [(3, gs_iv fm), (1, gs_iv fm), (2, gs_iv t), (0, .ref 106)]) dd_X9_closeToU_50 rfl (by decide) rfl ?_
          have b18 : (0 : Int) ≤ F13 106 13 ∧ F13 106 13 ≤ 400 := I14.1 106 13
          refine sA_sub (lv2 := [(3, gs_iv fm), (1, gs_iv fm), (2, gs_iv t), (0, .ref 106)]) (List.forall_mem_cons.mpr ⟨(.head _), (List.forall_mem_cons.mpr ⟨(.tail _ (.head _)), (List.forall_mem_cons.mpr ⟨(.tail _ (.tail _ (.head _))), (List.forall_mem_cons.mpr ⟨(.tail _ (.tail _ (.tail _ (.head _)))), (fun _ h => absurd h List.not_mem_nil)⟩)⟩)⟩)⟩) ?_
          exact ih.2 fm t fm F13 A1 I14 f15 (by omega) (by omega) (by omega) hlo (fun i h1 h2 => by exfalso; omega) (by omega)
        · skip
          have h114 : A1 114 = A 114 := hf1.2 114 (by dsimp only; omega)
          have hq33 : A 114 fm.toNat = -(A 114 (F 106 13 - 1 - fm).toNat) := by
            rw [← h114, show F 106 13 - 1 - fm = t - 1 by omega]
            omega
          refine sA_iinc (lv' := [(1, gs_iv (fm + 1)), (2, gs_iv t), (0, .ref 106)]) dd_X9_closeToU_33 (.head _) (by decide) rfl ?_
          refine sA_iinc (lv' := [(2, gs_iv (t + (-1))), (1, gs_iv (fm + 1)), (0, .ref 106)]) dd_X9_closeToU_36 (.tail _ (.head _)) (by decide) rfl ?_
          refine sA_goto (tgt := 7) dd_X9_closeToU_39 (by decide) ?_
          refine sA_sub (lv2 := [(1, gs_iv (fm + 1)), (2, gs_iv (t + (-1))), (0, .ref 106)]) (List.forall_mem_cons.mpr ⟨(.tail _ (.head _)), (List.forall_mem_cons.mpr ⟨(.head _), (List.forall_mem_cons.mpr ⟨(.tail _ (.tail _ (.head _))), (fun _ h => absurd h List.not_mem_nil)⟩)⟩)⟩) ?_
          exact ih.1 (fm + 1) (t + (-1)) F1 A1 hI1 hf1 (by omega) (by omega) (by omega) (fun j h1 h2 => by by_cases h : j < fm <;> first | exact i3 j h1 h | (have e : j = fm := (by omega); rw [e]; exact hq33) | fail) (by omega)
    · skip
      intro fm t k F1 A1 hI1 hf1 i0 i1 i2 i3 i4 hm
      have b19 : (0 : Int) ≤ F1 106 13 ∧ F1 106 13 ≤ 400 := hI1.1 106 13
      have u20 : A1 112 = A1 112 := rfl
      refine sA_iload_n dd_X9_closeToU_51 rfl (.head _) ?_
      refine sA_iload_n dd_X9_closeToU_52 rfl (.tail _ (.tail _ (.head _))) ?_
      refine sA_icmp_ge (tgt := 76) dd_X9_closeToU_53 (by decide) (by omega) (by omega) (fun q21 => ?_) (fun q21 => ?_)
      · skip
        refine sA_vret dd_X9_closeToU_76 rfl ?_
        refine ⟨rfl, hI1, hf1, ?_⟩
        exact ⟨fm, i3, by omega, fun i h1 h2 => i4 i h1 (by omega)⟩
      · skip
        refine sA_aload_n dd_X9_closeToU_56 rfl (.tail _ (.tail _ (.tail _ (.head _)))) ?_
        refine sA_getr (ci := 9) (j := 8) (q := (RX9, TX9, 28)) dd_X9_closeToU_57 rfl (by decide) fl_X9_25 (by decide) gs_s106 rfl ?_
        refine sA_iload_n dd_X9_closeToU_60 rfl (.head _) ?_
        refine sA_iload_n dd_X9_closeToU_61 rfl (.tail _ (.head _)) ?_
        refine sA_isub dd_X9_closeToU_62 ?_
        refine sA_aload_n dd_X9_closeToU_63 rfl (.tail _ (.tail _ (.tail _ (.head _)))) ?_
        refine sA_getr (ci := 9) (j := 12) (q := (RX9, TX9, 28)) dd_X9_closeToU_64 rfl (by decide) fl_X9_31 (by decide) gs_s106 rfl ?_
        refine sA_iload_n dd_X9_closeToU_67 rfl (.head _) ?_
        refine sA_iald (n := 401) dd_X9_closeToU_68 (by decide) gs_s114 (by omega) (by decide) ?_
        have b22 : (-9 : Int) ≤ A1 114 k.toNat ∧ A1 114 k.toNat ≤ 9 := hI1.2 114 k.toNat
        refine sA_iast (n := 400) dd_X9_closeToU_69 (by decide) gs_s112 (by omega) (by decide) ?_
        have I24 : gs_I F1 (gs_up A1 112 ((k - fm).toNat) (A1 114 k.toNat)) := gs_I_ast hI1 (show (-9 : Int) ≤ A1 114 k.toNat ∧ A1 114 k.toNat ≤ 9 by omega)
        have f25 := gs_fr_ast hf1 (a := 112) (z := A1 114 k.toNat) (i := (k - fm).toNat) (by first | omega | (dsimp only; omega) | (dsimp only) | fail)
        have u26 : (gs_up A1 112 ((k - fm).toNat) (A1 114 k.toNat)) 112 = gs_u (A1 112) ((k - fm).toNat) (A1 114 k.toNat) := (gs_up_u A1 112 ((k - fm).toNat) (A1 114 k.toNat)).trans (congrArg (fun f => gs_u f ((k - fm).toNat) (A1 114 k.toNat)) u20)
        generalize gs_up A1 112 ((k - fm).toNat) (A1 114 k.toNat) = A23 at I24 f25 u26 ⊢
        refine sA_iinc (lv' := [(3, gs_iv (k + 1)), (1, gs_iv fm), (2, gs_iv t), (0, .ref 106)]) dd_X9_closeToU_70 (.head _) (by decide) rfl ?_
        refine sA_goto (tgt := 51) dd_X9_closeToU_73 (by decide) ?_
        refine sA_sub (lv2 := [(3, gs_iv (k + 1)), (1, gs_iv fm), (2, gs_iv t), (0, .ref 106)]) (List.forall_mem_cons.mpr ⟨(.head _), (List.forall_mem_cons.mpr ⟨(.tail _ (.head _)), (List.forall_mem_cons.mpr ⟨(.tail _ (.tail _ (.head _))), (List.forall_mem_cons.mpr ⟨(.tail _ (.tail _ (.tail _ (.head _)))), (fun _ h => absurd h List.not_mem_nil)⟩)⟩)⟩)⟩) ?_
        exact ih.2 fm t (k + 1) F1 A23 I24 f25 (by omega) (by omega) (by omega) i3 (by rw [show k + 1 - fm = k - fm + 1 by omega]; exact gs_u_ext (h := fun i => A 114 (fm + i).toNat) (by omega) u26 (by rw [hf1.2 114 (by dsimp only; omega)]; show A 114 k.toNat = A 114 (fm + (k - fm)).toNat; rw [show fm + (k - fm) = k by omega]) i4) (by omega)
theorem c_X9_closeToU_vf  {F A : gs_F} (hI : gs_I F A)  : sC m_X9_closeToU 1 [.ref 106] F A (fun rv F' A' => rv = none ∧ gs_I F' A' ∧ gs_fr (fun c j => c = 106 ∧ j = 9) (fun c => c = 112) F A F' A' ∧ (∃ k : Int, gs_lo (A 114) (F 106 13) k ∧ F' 106 9 = F 106 13 - 2 * k ∧ ∀ i : Int, 0 ≤ i → i < F 106 13 - 2 * k → A' 112 i.toNat = A 114 (k + i).toNat)) := by
  refine sC_of ok_X9_closeToU.1 (Nat.le_of_ble_eq_true rfl) ?_
  show sA _ _ _ 0 [(0, .ref 106)] [] F A
  have hf : gs_fr (fun c j => c = 106 ∧ j = 9) (fun c => c = 112) F A F A := gs_fr_refl _ _ _ _
  have b27 : (0 : Int) ≤ F 106 13 ∧ F 106 13 ≤ 400 := hI.1 106 13
  have u28 : A 112 = A 112 := rfl
  refine sA_iconst (z := 0) dd_X9_closeToU_0 ?_
  refine sA_istore_n (lv' := [(1, gs_iv 0), (0, .ref 106)]) dd_X9_closeToU_1 rfl (by decide) rfl ?_
  refine sA_aload_n dd_X9_closeToU_2 rfl (.tail _ (.head _)) ?_
  refine sA_geti (ci := 9) (j := 13) (q := (RX9, TX9, 28)) dd_X9_closeToU_3 rfl (by decide) fl_X9_167 (by decide) gs_s106 rfl ?_
  refine sA_istore_n (lv' := [(2, gs_iv (F 106 13)), (1, gs_iv 0), (0, .ref 106)]) dd_X9_closeToU_6 rfl (by decide) rfl ?_
  refine sA_sub (lv2 := [(1, gs_iv 0), (2, gs_iv (F 106 13)), (0, .ref 106)]) (List.forall_mem_cons.mpr ⟨(.tail _ (.head _)), (List.forall_mem_cons.mpr ⟨(.head _), (List.forall_mem_cons.mpr ⟨(.tail _ (.tail _ (.head _))), (fun _ h => absurd h List.not_mem_nil)⟩)⟩)⟩) ?_
  exact (k_X9_closeToU_vf hI ((F 106 13) - 0 + 1000 : Int).toNat.succ).1 0 (F 106 13) F A hI hf (by omega) (by omega) (by omega) (fun j h1 h2 => by exfalso; omega) (by omega)
theorem c_X8_carryToWork_vf {p r : Int} {F A : gs_F} (hI : gs_I F A) (hp : 0 ≤ p ∧ p ≤ 7) (hr : 0 ≤ r ∧ r < 12) (hW : gs_W (A 6) (F 0 11)) (hcd : ∀ i : Int, 0 ≤ i → i < F (90 + 2 * p.toNat) 1 → 0 ≤ A (90 + 2 * p.toNat + 1) i.toNat ∧ A (90 + 2 * p.toNat + 1) i.toNat < 6 * F 0 11 - 2) (hV : sp_val (F 0 11) (gs_stk (A (54 + 3 * r.toNat + 1 + 1)) (F (54 + 3 * r.toNat + 1) 1).toNat)) : sC m_X8_carryToWork 4 [.ref 0, gs_iv p, gs_iv r] F A (fun rv F' A' => ∃ z : Int, rv = some (gs_iv z) ∧ gs_I F' A' ∧ gs_fr (fun c j => c = 48 ∧ j = 1) (fun c => c = 49 ∨ c = 7) F A F' A' ∧ ((z = 0 ∧ gs_plc F A (F 0 11) (90 + 2 * p.toNat) (gs_stk (A (54 + 3 * r.toNat + 1 + 1)) (F (54 + 3 * r.toNat + 1) 1).toNat) = none) ∨ (z = 1 ∧ ∃ st : List Int, gs_plc F A (F 0 11) (90 + 2 * p.toNat) (gs_stk (A (54 + 3 * r.toNat + 1 + 1)) (F (54 + 3 * r.toNat + 1) 1).toNat) = some st ∧ gs_cls st (A' 49) (F' 48 1)))) := by
  refine sC_of ok_X8_carryToWork.1 (Nat.le_of_ble_eq_true rfl) ?_
  show sA _ _ _ 0 [(0, .ref 0), (1, gs_iv p), (2, gs_iv r)] [] F A
  have hf : gs_fr (fun c j => c = 48 ∧ j = 1) (fun c => c = 49 ∨ c = 7) F A F A := gs_fr_refl _ _ _ _
  have hg : (1 : Int) ≤ F 0 11 ∧ F 0 11 ≤ 3 := hI.1 0 11
  refine sA_aload_n dd_X8_carryToWork_0 rfl (.head _) ?_
  refine sA_getr (ci := 8) (j := 8) (q := (RX8, TX8, 13)) dd_X8_carryToWork_1 rfl (by decide) fl_X8_69 (by decide) gs_s0 rfl ?_
  refine sA_aload_n dd_X8_carryToWork_4 rfl (.head _) ?_
  refine sA_getr (ci := 8) (j := 0) (q := (RX8, TX8, 13)) dd_X8_carryToWork_5 rfl (by decide) fl_X8_11 (by decide) gs_s0 rfl ?_
  refine sA_iload_n dd_X8_carryToWork_8 rfl (.tail _ (.tail _ (.head _))) ?_
  refine sA_aald (n := 12) dd_X8_carryToWork_9 (by decide) (by decide) (by decide) gs_s1 (by omega) (by decide) ?_
  have g1 := gs_ring_at (k := r.toNat) (by omega)
  refine sA_getr (ci := 3) (j := 0) (q := (RX3, TX3, 3)) dd_X8_carryToWork_10 rfl (by decide) fl_X8_105 (Nat.lt_of_succ_lt g1.1) g1.2.1 rfl ?_
  refine sA_callV (y2 := m_X4_copy) (n2 := 1) (d2 := 1) (a := 48) (ci := 4) (q := (RX4, TX4, 2)) (as := [.ref (54 + 3 * r.toNat + 1)]) (rest := []) dd_X8_carryToWork_13 ok_X4_copy ml_X8_240 rfl rfl (Nat.lt_of_succ_lt gs_row_48.1) gs_row_48.2.1 rfl rfl (Nat.le_of_ble_eq_true rfl) (by decide) (c_X4_copy_vf hI gs_row_48 g1.2.2.1) (fun r2 F3 A4 h5 => ?_)
  obtain ⟨e7, I8, f9, x6⟩ := h5
  subst e7
  have f10 := gs_fr_tr hf f9 (fun b j h => by first | exact False.elim h | omega | (dsimp only at h ⊢; omega) | fail) (fun b h => by first | exact False.elim h | omega | (dsimp only at h ⊢; omega) | fail)
  have y11 : F (54 + 3 * r.toNat + 1) 1 ≤ (400 : Int) → (F3 48 1 = F (54 + 3 * r.toNat + 1) 1 ∧ A4 49 = gs_cc (A ((54 + 3 * r.toNat + 1) + 1)) (A 49) 0 0 (F (54 + 3 * r.toNat + 1) 1).toNat) := x6
  clear x6
  show sA _ _ _ 16 _ [] _ _
  refine sA_aload_n dd_X8_carryToWork_16 rfl (.head _) ?_
  refine sA_getr (ci := 8) (j := 3) (q := (RX8, TX8, 13)) dd_X8_carryToWork_17 rfl (by decide) fl_X8_33 (by decide) gs_s0 rfl ?_
  refine sA_aload_n dd_X8_carryToWork_20 rfl (.head _) ?_
  refine sA_getr (ci := 8) (j := 1) (q := (RX8, TX8, 13)) dd_X8_carryToWork_21 rfl (by decide) fl_X8_17 (by decide) gs_s0 rfl ?_
  refine sA_iload_n dd_X8_carryToWork_24 rfl (.tail _ (.head _)) ?_
  refine sA_aald (n := 8) dd_X8_carryToWork_25 (by decide) (by decide) (by decide) gs_s2 (by omega) (by decide) ?_
  have g12 := gs_plan_at (k := p.toNat) (by omega)
  refine sA_aload_n dd_X8_carryToWork_26 rfl (.head _) ?_
  refine sA_getr (ci := 8) (j := 8) (q := (RX8, TX8, 13)) dd_X8_carryToWork_27 rfl (by decide) fl_X8_69 (by decide) gs_s0 rfl ?_
  have hbr := gs_row_sz (gs_ring_at (k := r.toNat) (by omega)).2.2.1 hI
  obtain ⟨c1, c2⟩ := y11 (by omega)
  have hstk : gs_stk (A4 49) (F3 48 1).toNat = (gs_stk (A (54 + 3 * r.toNat + 1 + 1)) (F (54 + 3 * r.toNat + 1) 1).toNat) := by
    rw [c1, c2]
    refine gs_stk_cg _ (fun i hi => ?_)
    unfold gs_cc
    rw [if_pos (by omega)]
    congr 1
    omega
  have hL : (400 : Nat) = 400 := rfl
  have hV1 : sp_val (F 0 11) (gs_stk (A4 49) (F3 48 1).toNat) := by
    rw [hstk]
    exact hV
  have hp1 : A4 (90 + 2 * p.toNat + 1) = A (90 + 2 * p.toNat + 1) := f10.2 (90 + 2 * p.toNat + 1) (by dsimp only; omega)
  have hpn : F3 (90 + 2 * p.toNat) 1 = F (90 + 2 * p.toNat) 1 := f10.1 (90 + 2 * p.toNat) 1 (by dsimp only; omega)
  have hW1 : gs_W (A4 6) (F 0 11) := by rw [f10.2 6 (by dsimp only; omega)]; exact hW
  have hcd1 : ∀ i : Int, 0 ≤ i → i < F3 (90 + 2 * p.toNat) 1 → 0 ≤ A4 (90 + 2 * p.toNat + 1) i.toNat ∧ A4 (90 + 2 * p.toNat + 1) i.toNat < 6 * F 0 11 - 2 := by rw [hp1, hpn]; exact hcd
  refine sA_callV (y2 := m_X7_doPlan) (n2 := 2) (d2 := 3) (a := 5) (ci := 7) (q := (RX7, TX7, 5)) (as := [.ref (90 + 2 * p.toNat), .ref 48]) (rest := []) dd_X8_carryToWork_30 ok_X7_doPlan ml_X8_181 rfl rfl (by decide) gs_s5 rfl rfl (Nat.le_of_ble_eq_true rfl) (by decide) (c_X7_doPlan_vf I8 g12 gs_row_48 hg hcd1 hW1 hV1 hL (by omega) (by omega) (by omega)) (fun r13 F14 A15 h16 => ?_)
  obtain ⟨z19, e18, I20, f21, x17⟩ := h16
  subst e18
  have f22 := gs_fr_tr f10 f21 (fun b j h => by first | exact False.elim h | omega | (dsimp only at h ⊢; omega) | fail) (fun b h => by first | exact False.elim h | omega | (dsimp only at h ⊢; omega) | fail)
  have y23 : (z19 = 1 ∧ sp_pl (fun u => sp_tw (sp_w (F 0 11) u)) (A4 ((90 + 2 * p.toNat) + 1)) (F3 (90 + 2 * p.toNat) 1).toNat (gs_stk (A4 49) (F3 48 1).toNat) = some (gs_stk (A15 49) (F14 48 1).toNat)) ∨ (z19 = 0 ∧ sp_pl (fun u => sp_tw (sp_w (F 0 11) u)) (A4 ((90 + 2 * p.toNat) + 1)) (F3 (90 + 2 * p.toNat) 1).toNat (gs_stk (A4 49) (F3 48 1).toNat) = none) := x17
  clear x17
  show sA _ _ _ 33 _ [gs_iv z19] _ _
  refine sA_if_ne (tgt := 38) dd_X8_carryToWork_33 (by decide) (by omega) (fun q24 => ?_) (fun q24 => ?_)
  · skip
    refine sA_aload_n dd_X8_carryToWork_38 rfl (.head _) ?_
    refine sA_getr (ci := 8) (j := 8) (q := (RX8, TX8, 13)) dd_X8_carryToWork_39 rfl (by decide) fl_X8_69 (by decide) gs_s0 rfl ?_
    refine sA_callV (y2 := m_X4_close) (n2 := 0) (d2 := 2) (a := 48) (ci := 4) (q := (RX4, TX4, 2)) (as := []) (rest := []) dd_X8_carryToWork_42 ok_X4_close ml_X8_243 rfl rfl (Nat.lt_of_succ_lt gs_row_48.1) gs_row_48.2.1 rfl rfl (Nat.le_of_ble_eq_true rfl) (by decide) (c_X4_close_vf I20 gs_row_48) (fun r25 F26 A27 h28 => ?_)
    obtain ⟨e30, I31, f32, x29⟩ := h28
    subst e30
    have f33 := gs_fr_tr f22 f32 (fun b j h => by first | exact False.elim h | omega | (dsimp only at h ⊢; omega) | fail) (fun b h => by first | exact False.elim h | omega | (dsimp only at h ⊢; omega) | fail)
    have y34 : ∃ k : Int, gs_lo (A15 49) (F14 48 1) k ∧ F26 48 1 = F14 48 1 - 2 * k ∧ A27 49 = gs_cc (A15 49) (A15 49) k.toNat 0 (F14 48 1 - 2 * k).toNat := x29
    clear x29
    show sA _ _ _ 45 _ [] _ _
    refine sA_iconst (z := 1) dd_X8_carryToWork_45 ?_
    refine sA_bret (z := 1) dd_X8_carryToWork_46 rfl (by omega) ?_
    refine ⟨_, rfl, I31, f33, ?_⟩
    rcases y23 with y | y
    · have y2 := y.2
      rw [hp1, hpn, hstk] at y2
      obtain ⟨k, k1, k2, k3⟩ := y34
      have hb48 : (0 : Int) ≤ F14 48 1 ∧ F14 48 1 ≤ 400 := I20.1 48 1
      exact .inr ⟨rfl, _, y2, gs_cls_mk (by omega) k1 k2 k3⟩
    · exfalso
      omega
  · skip
    refine sA_iconst (z := 0) dd_X8_carryToWork_36 ?_
    refine sA_bret (z := 0) dd_X8_carryToWork_37 rfl (by omega) ?_
    refine ⟨_, rfl, I20, f22, ?_⟩
    rcases y23 with y | y
    · exfalso
      omega
    · have y2 := y.2
      rw [hp1, hpn, hstk] at y2
      exact .inl ⟨rfl, y2⟩
theorem c_X8_carried_vf {p r w : Int} {F A : gs_F} (hI : gs_I F A) (hp : -2147483648 ≤ p ∧ p ≤ 2147483647) (hr : -2147483648 ≤ r ∧ r ≤ 2147483647) (hw : -2147483648 ≤ w ∧ w ≤ 2147483647) (hW : gs_W (A 6) (F 0 11)) (hcd : 0 ≤ p → p ≤ 7 → ∀ i : Int, 0 ≤ i → i < F (90 + 2 * p.toNat) 1 → 0 ≤ A (90 + 2 * p.toNat + 1) i.toNat ∧ A (90 + 2 * p.toNat + 1) i.toNat < 6 * F 0 11 - 2) (hV : 0 ≤ r → r < F 0 12 → sp_val (F 0 11) (gs_stk (A (54 + 3 * r.toNat + 1 + 1)) (F (54 + 3 * r.toNat + 1) 1).toNat)) : sC m_X8_carried 5 [.ref 0, gs_iv p, gs_iv r, gs_iv w] F A (fun rv F' A' => ∃ z : Int, rv = some (gs_iv z) ∧ gs_I F' A' ∧ gs_fr (fun c j => c = 48 ∧ j = 1) (fun c => c = 49 ∨ c = 7) F A F' A' ∧ (((p < 0 ∨ 7 < p ∨ r < 0 ∨ F 0 12 ≤ r ∨ (w ≠ -1 ∧ (w < 0 ∨ F 0 12 ≤ w))) ∧ z = -1001) ∨ (0 ≤ p ∧ p ≤ 7 ∧ 0 ≤ r ∧ r < F 0 12 ∧ (w = -1 ∨ (0 ≤ w ∧ w < F 0 12)) ∧ ((gs_plc F A (F 0 11) (90 + 2 * p.toNat) (gs_stk (A (54 + 3 * r.toNat + 1 + 1)) (F (54 + 3 * r.toNat + 1) 1).toNat) = none ∧ z = -1005) ∨ (∃ (st : List Int) (fu : Nat → Int) (nu : Int), gs_plc F A (F 0 11) (90 + 2 * p.toNat) (gs_stk (A (54 + 3 * r.toNat + 1 + 1)) (F (54 + 3 * r.toNat + 1) 1).toNat) = some st ∧ gs_cls st fu nu ∧ ((w = -1 ∧ z = nu) ∨ (w ≠ -1 ∧ ((z = 1 ∧ gs_on fu nu (A (54 + 3 * w.toNat + 1 + 1)) (F (54 + 3 * w.toNat + 1) 1)) ∨ (z = 0 ∧ ¬ gs_on fu nu (A (54 + 3 * w.toNat + 1 + 1)) (F (54 + 3 * w.toNat + 1) 1)))))))))) := by
  refine sC_of ok_X8_carried.1 (Nat.le_of_ble_eq_true rfl) ?_
  show sA _ _ _ 0 [(0, .ref 0), (1, gs_iv p), (2, gs_iv r), (3, gs_iv w)] [] F A
  have hf : gs_fr (fun c j => c = 48 ∧ j = 1) (fun c => c = 49 ∨ c = 7) F A F A := gs_fr_refl _ _ _ _
  refine sA_iload_n dd_X8_carried_0 rfl (.tail _ (.head _)) ?_
  refine sA_callS (y2 := m_X8_isPlan) (n2 := 1) (d2 := 1) (as := [gs_iv p]) (rest := []) dd_X8_carried_1 ok_X8_isPlan ml_X8_148 rfl rfl (Nat.le_of_ble_eq_true rfl) (by decide) (c_X8_isPlan (by omega)) (fun r1 F2 A3 h4 => ?_)
  obtain ⟨z7, e6, e8, e9, x5⟩ := h4
  subst e6 e8 e9
  show sA _ _ _ 4 _ [gs_iv z7] _ _
  refine sA_if_eq (tgt := 28) dd_X8_carried_4 (by decide) (by omega) (fun q10 => ?_) (fun q10 => ?_)
  · skip
    refine sA_sipush (z := (-1001)) dd_X8_carried_28 (by decide) ?_
    refine sA_iret (z := -1001) dd_X8_carried_31 rfl ?_
    refine ⟨_, rfl, hI, hf, ?_⟩
    exact .inl ⟨by omega, rfl⟩
  · skip
    refine sA_aload_n dd_X8_carried_7 rfl (.head _) ?_
    refine sA_iload_n dd_X8_carried_8 rfl (.tail _ (.tail _ (.head _))) ?_
    refine sA_callV (y2 := m_X8_isRing) (n2 := 1) (d2 := 1) (a := 0) (ci := 8) (q := (RX8, TX8, 13)) (as := [gs_iv r]) (rest := []) dd_X8_carried_9 ok_X8_isRing ml_X8_101 rfl rfl (by decide) gs_s0 rfl rfl (Nat.le_of_ble_eq_true rfl) (by decide) (c_X8_isRing hI (by omega)) (fun r11 F12 A13 h14 => ?_)
    obtain ⟨z17, e16, e18, e19, x15⟩ := h14
    subst e16 e18 e19
    show sA _ _ _ 12 _ [gs_iv z17] _ _
    refine sA_if_eq (tgt := 28) dd_X8_carried_12 (by decide) (by omega) (fun q20 => ?_) (fun q20 => ?_)
    · skip
      refine sA_sipush (z := (-1001)) dd_X8_carried_28 (by decide) ?_
      refine sA_iret (z := -1001) dd_X8_carried_31 rfl ?_
      refine ⟨_, rfl, hI, hf, ?_⟩
      exact .inl ⟨by omega, rfl⟩
    · skip
      refine sA_iload_n dd_X8_carried_15 rfl (.tail _ (.tail _ (.tail _ (.head _)))) ?_
      refine sA_iconst (z := (-1)) dd_X8_carried_16 ?_
      refine sA_icmp_eq (tgt := 32) dd_X8_carried_17 (by decide) (by omega) (by omega) (fun q21 => ?_) (fun q21 => ?_)
      · skip
        refine sA_aload_n dd_X8_carried_32 rfl (.head _) ?_
        refine sA_iload_n dd_X8_carried_33 rfl (.tail _ (.head _)) ?_
        refine sA_iload_n dd_X8_carried_34 rfl (.tail _ (.tail _ (.head _))) ?_
        have hcd0 := hcd (by omega) (by omega)
        have hV0 := hV (by omega) (by omega)
        refine sA_callV (y2 := m_X8_carryToWork) (n2 := 2) (d2 := 4) (a := 0) (ci := 8) (q := (RX8, TX8, 13)) (as := [gs_iv p, gs_iv r]) (rest := []) dd_X8_carried_35 ok_X8_carryToWork ml_X8_185 rfl rfl (by decide) gs_s0 rfl rfl (Nat.le_of_ble_eq_true rfl) (by decide) (c_X8_carryToWork_vf hI (by omega) (by omega) hW hcd0 hV0) (fun r22 F23 A24 h25 => ?_)
        obtain ⟨z28, e27, I29, f30, x26⟩ := h25
        subst e27
        have f31 := gs_fr_tr hf f30 (fun b j h => by first | exact False.elim h | omega | (dsimp only at h ⊢; omega) | fail) (fun b h => by first | exact False.elim h | omega | (dsimp only at h ⊢; omega) | fail)
        have y32 : (z28 = 0 ∧ gs_plc F A (F 0 11) (90 + 2 * p.toNat) (gs_stk (A (54 + 3 * r.toNat + 1 + 1)) (F (54 + 3 * r.toNat + 1) 1).toNat) = none) ∨ (z28 = 1 ∧ ∃ st : List Int, gs_plc F A (F 0 11) (90 + 2 * p.toNat) (gs_stk (A (54 + 3 * r.toNat + 1 + 1)) (F (54 + 3 * r.toNat + 1) 1).toNat) = some st ∧ gs_cls st (A24 49) (F23 48 1)) := x26
        clear x26
        show sA _ _ _ 38 _ [gs_iv z28] _ _
        refine sA_if_ne (tgt := 45) dd_X8_carried_38 (by decide) (by omega) (fun q33 => ?_) (fun q33 => ?_)
        · skip
          refine sA_iload_n dd_X8_carried_45 rfl (.tail _ (.tail _ (.tail _ (.head _)))) ?_
          refine sA_iconst (z := (-1)) dd_X8_carried_46 ?_
          refine sA_icmp_ne (tgt := 60) dd_X8_carried_47 (by decide) (by omega) (by omega) (fun q34 => absurd q34 (by omega)) (fun q34 => ?_)
          refine sA_aload_n dd_X8_carried_50 rfl (.head _) ?_
          refine sA_getr (ci := 8) (j := 8) (q := (RX8, TX8, 13)) dd_X8_carried_51 rfl (by decide) fl_X8_69 (by decide) gs_s0 rfl ?_
          refine sA_geti (ci := 4) (j := 1) (q := (RX4, TX4, 2)) dd_X8_carried_54 rfl (by decide) fl_X8_88 (Nat.lt_of_succ_lt gs_row_48.1) gs_row_48.2.1 rfl ?_
          have b35 := gs_row_sz gs_row_48 I29
          refine sA_goto (tgt := 79) dd_X8_carried_57 (by decide) ?_
          refine sA_iret (z := F23 48 1) dd_X8_carried_79 rfl ?_
          refine ⟨_, rfl, I29, f31, ?_⟩
          rcases y32 with y | y
          · exfalso
            omega
          · obtain ⟨y1, st, y2, y3⟩ := y
            exact .inr ⟨by omega, by omega, by omega, by omega, by omega, .inr ⟨st, _, _, y2, y3, .inl ⟨by omega, rfl⟩⟩⟩
        · skip
          refine sA_sipush (z := (-1005)) dd_X8_carried_41 (by decide) ?_
          refine sA_iret (z := -1005) dd_X8_carried_44 rfl ?_
          refine ⟨_, rfl, I29, f31, ?_⟩
          rcases y32 with y | y
          · exact .inr ⟨by omega, by omega, by omega, by omega, by omega, .inl ⟨y.2, rfl⟩⟩
          · exfalso
            omega
      · skip
        refine sA_aload_n dd_X8_carried_20 rfl (.head _) ?_
        refine sA_iload_n dd_X8_carried_21 rfl (.tail _ (.tail _ (.tail _ (.head _)))) ?_
        refine sA_callV (y2 := m_X8_isRing) (n2 := 1) (d2 := 1) (a := 0) (ci := 8) (q := (RX8, TX8, 13)) (as := [gs_iv w]) (rest := []) dd_X8_carried_22 ok_X8_isRing ml_X8_101 rfl rfl (by decide) gs_s0 rfl rfl (Nat.le_of_ble_eq_true rfl) (by decide) (c_X8_isRing hI (by omega)) (fun r36 F37 A38 h39 => ?_)
        obtain ⟨z42, e41, e43, e44, x40⟩ := h39
        subst e41 e43 e44
        show sA _ _ _ 25 _ [gs_iv z42] _ _
        refine sA_if_ne (tgt := 32) dd_X8_carried_25 (by decide) (by omega) (fun q45 => ?_) (fun q45 => ?_)
        · skip
          refine sA_aload_n dd_X8_carried_32 rfl (.head _) ?_
          refine sA_iload_n dd_X8_carried_33 rfl (.tail _ (.head _)) ?_
          refine sA_iload_n dd_X8_carried_34 rfl (.tail _ (.tail _ (.head _))) ?_
          have hcd0 := hcd (by omega) (by omega)
          have hV0 := hV (by omega) (by omega)
          refine sA_callV (y2 := m_X8_carryToWork) (n2 := 2) (d2 := 4) (a := 0) (ci := 8) (q := (RX8, TX8, 13)) (as := [gs_iv p, gs_iv r]) (rest := []) dd_X8_carried_35 ok_X8_carryToWork ml_X8_185 rfl rfl (by decide) gs_s0 rfl rfl (Nat.le_of_ble_eq_true rfl) (by decide) (c_X8_carryToWork_vf hI (by omega) (by omega) hW hcd0 hV0) (fun r46 F47 A48 h49 => ?_)
          obtain ⟨z52, e51, I53, f54, x50⟩ := h49
          subst e51
          have f55 := gs_fr_tr hf f54 (fun b j h => by first | exact False.elim h | omega | (dsimp only at h ⊢; omega) | fail) (fun b h => by first | exact False.elim h | omega | (dsimp only at h ⊢; omega) | fail)
          have y56 : (z52 = 0 ∧ gs_plc F A (F 0 11) (90 + 2 * p.toNat) (gs_stk (A (54 + 3 * r.toNat + 1 + 1)) (F (54 + 3 * r.toNat + 1) 1).toNat) = none) ∨ (z52 = 1 ∧ ∃ st : List Int, gs_plc F A (F 0 11) (90 + 2 * p.toNat) (gs_stk (A (54 + 3 * r.toNat + 1 + 1)) (F (54 + 3 * r.toNat + 1) 1).toNat) = some st ∧ gs_cls st (A48 49) (F47 48 1)) := x50
          clear x50
          show sA _ _ _ 38 _ [gs_iv z52] _ _
          refine sA_if_ne (tgt := 45) dd_X8_carried_38 (by decide) (by omega) (fun q57 => ?_) (fun q57 => ?_)
          · skip
            refine sA_iload_n dd_X8_carried_45 rfl (.tail _ (.tail _ (.tail _ (.head _)))) ?_
            refine sA_iconst (z := (-1)) dd_X8_carried_46 ?_
            refine sA_icmp_ne (tgt := 60) dd_X8_carried_47 (by decide) (by omega) (by omega) (fun q58 => ?_) (fun q58 => absurd q58 (by omega))
            refine sA_aload_n dd_X8_carried_60 rfl (.head _) ?_
            refine sA_getr (ci := 8) (j := 8) (q := (RX8, TX8, 13)) dd_X8_carried_61 rfl (by decide) fl_X8_69 (by decide) gs_s0 rfl ?_
            refine sA_aload_n dd_X8_carried_64 rfl (.head _) ?_
            refine sA_getr (ci := 8) (j := 0) (q := (RX8, TX8, 13)) dd_X8_carried_65 rfl (by decide) fl_X8_11 (by decide) gs_s0 rfl ?_
            refine sA_iload_n dd_X8_carried_68 rfl (.tail _ (.tail _ (.tail _ (.head _)))) ?_
            refine sA_aald (n := 12) dd_X8_carried_69 (by decide) (by decide) (by decide) gs_s1 (by omega) (by decide) ?_
            have g59 := gs_ring_at (k := w.toNat) (by omega)
            refine sA_getr (ci := 3) (j := 0) (q := (RX3, TX3, 3)) dd_X8_carried_70 rfl (by decide) fl_X8_105 (Nat.lt_of_succ_lt g59.1) g59.2.1 rfl ?_
            refine sA_callV (y2 := m_X4_isOneWith) (n2 := 1) (d2 := 2) (a := 48) (ci := 4) (q := (RX4, TX4, 2)) (as := [.ref (54 + 3 * w.toNat + 1)]) (rest := []) dd_X8_carried_73 ok_X4_isOneWith ml_X8_131 rfl rfl (Nat.lt_of_succ_lt gs_row_48.1) gs_row_48.2.1 rfl rfl (Nat.le_of_ble_eq_true rfl) (by decide) (c_X4_isOneWith_vf I53 gs_row_48 g59.2.2.1) (fun r60 F61 A62 h63 => ?_)
            obtain ⟨z66, e65, e67, e68, x64⟩ := h63
            subst e65 e67 e68
            have y69 : (z66 = 1 ∧ gs_on (A48 49) (F47 48 1) (A48 ((54 + 3 * w.toNat + 1) + 1)) (F47 (54 + 3 * w.toNat + 1) 1)) ∨ (z66 = 0 ∧ ¬ gs_on (A48 49) (F47 48 1) (A48 ((54 + 3 * w.toNat + 1) + 1)) (F47 (54 + 3 * w.toNat + 1) 1)) := x64
            clear x64
            show sA _ _ _ 76 _ [gs_iv z66] _ _
            have hz73 : z66 = 0 ∨ z66 = 1 := by omega
            refine sA_callS (y2 := m_X8_oneIf) (n2 := 1) (d2 := 1) (as := [gs_iv z66]) (rest := []) dd_X8_carried_76 ok_X8_oneIf ml_X8_112 rfl rfl (Nat.le_of_ble_eq_true rfl) (by decide) (c_X8_oneIf (by omega)) (fun r70 F71 A72 h73 => ?_)
            obtain ⟨z76, e75, e77, e78, x74⟩ := h73
            subst e75 e77 e78
            show sA _ _ _ 79 _ [gs_iv z76] _ _
            refine sA_iret (z := z76) dd_X8_carried_79 rfl ?_
            refine ⟨_, rfl, I53, f55, ?_⟩
            rcases y56 with y | y
            · exfalso
              omega
            · obtain ⟨y1, st, y2, y3⟩ := y
              refine .inr ⟨by omega, by omega, by omega, by omega, by omega, .inr ⟨st, _, _, y2, y3, .inr ⟨by omega, ?_⟩⟩⟩
              have e1 : A48 (54 + 3 * w.toNat + 1 + 1) = A (54 + 3 * w.toNat + 1 + 1) := f55.2 _ (by dsimp only; omega)
              have e2 : F47 (54 + 3 * w.toNat + 1) 1 = F (54 + 3 * w.toNat + 1) 1 := f55.1 _ _ (by dsimp only; omega)
              have yy := y69
              rw [e1, e2] at yy
              rcases yy with h | h
              · exact .inl ⟨by omega, h.2⟩
              · exact .inr ⟨by omega, h.2⟩
          · skip
            refine sA_sipush (z := (-1005)) dd_X8_carried_41 (by decide) ?_
            refine sA_iret (z := -1005) dd_X8_carried_44 rfl ?_
            refine ⟨_, rfl, I53, f55, ?_⟩
            rcases y56 with y | y
            · exact .inr ⟨by omega, by omega, by omega, by omega, by omega, .inl ⟨y.2, rfl⟩⟩
            · exfalso
              omega
        · skip
          refine sA_sipush (z := (-1001)) dd_X8_carried_28 (by decide) ?_
          refine sA_iret (z := -1001) dd_X8_carried_31 rfl ?_
          refine ⟨_, rfl, hI, hf, ?_⟩
          exact .inl ⟨by omega, rfl⟩
theorem c_X9_carried_vf {p r w : Int} {F A : gs_F} (hI : gs_I F A) (hp : -2147483648 ≤ p ∧ p ≤ 2147483647) (hr : -2147483648 ≤ r ∧ r ≤ 2147483647) (hw : -2147483648 ≤ w ∧ w ≤ 2147483647) (hX : ∀ r : Nat, (r : Int) < F 106 3 → 1 ≤ A 108 r) (hcd : 0 ≤ p → p ≤ 7 → ∀ i : Int, 0 ≤ i → i < A 110 p.toNat → 0 ≤ A 111 (60 * p + i).toNat ∧ A 111 (60 * p + i).toNat ≤ 15) : sC m_X9_carried 7 [.ref 106, gs_iv p, gs_iv r, gs_iv w] F A (fun rv F' A' => ∃ z : Int, rv = some (gs_iv z) ∧ gs_I F' A' ∧ gs_fr (fun c j => c = 106 ∧ (j = 9 ∨ j = 11 ∨ j = 13 ∨ j = 15)) (fun c => c = 112 ∨ c = 113 ∨ c = 114 ∨ c = 115) F A F' A' ∧ (((p < 0 ∨ 7 < p ∨ r < 0 ∨ F 106 3 ≤ r ∨ (w ≠ -1 ∧ (w < 0 ∨ F 106 3 ≤ w))) ∧ z = -1001) ∨ (0 ≤ p ∧ p ≤ 7 ∧ 0 ≤ r ∧ r < F 106 3 ∧ (w = -1 ∨ (0 ≤ w ∧ w < F 106 3)) ∧ ((gs_plm F A p (gs_stk (fun i => A 109 (60 * r.toNat + i)) (A 108 r.toNat).toNat) = none ∧ z = -1005) ∨ (∃ (st : List Int) (fu : Nat → Int) (nu : Int), gs_plm F A p (gs_stk (fun i => A 109 (60 * r.toNat + i)) (A 108 r.toNat).toNat) = some st ∧ gs_cls st fu nu ∧ ((w = -1 ∧ z = nu) ∨ (w ≠ -1 ∧ ((z = 1 ∧ gs_ao fu nu (fun i => A 109 (60 * w.toNat + i)) (A 108 w.toNat)) ∨ (z = 0 ∧ ¬ gs_ao fu nu (fun i => A 109 (60 * w.toNat + i)) (A 108 w.toNat)))))))))) := by
  refine sC_of ok_X9_carried.1 (Nat.le_of_ble_eq_true rfl) ?_
  show sA _ _ _ 0 [(0, .ref 106), (1, gs_iv p), (2, gs_iv r), (3, gs_iv w)] [] F A
  have hf : gs_fr (fun c j => c = 106 ∧ (j = 9 ∨ j = 11 ∨ j = 13 ∨ j = 15)) (fun c => c = 112 ∨ c = 113 ∨ c = 114 ∨ c = 115) F A F A := gs_fr_refl _ _ _ _
  have b1 : (0 : Int) ≤ F 106 9 ∧ F 106 9 ≤ 400 := hI.1 106 9
  have b2 : (0 : Int) ≤ F 106 11 ∧ F 106 11 ≤ 60 := hI.1 106 11
  have b3 : (0 : Int) ≤ F 106 3 ∧ F 106 3 ≤ 12 := hI.1 106 3
  refine sA_aload_n dd_X9_carried_0 rfl (.head _) ?_
  refine sA_iload_n dd_X9_carried_1 rfl (.tail _ (.head _)) ?_
  refine sA_callV (y2 := m_X9_noPlan) (n2 := 1) (d2 := 2) (a := 106) (ci := 9) (q := (RX9, TX9, 28)) (as := [gs_iv p]) (rest := []) dd_X9_carried_2 ok_X9_noPlan ml_X9_218 rfl rfl (by decide) gs_s106 rfl rfl (Nat.le_of_ble_eq_true rfl) (by decide) (c_X9_noPlan hI (by omega)) (fun r4 F5 A6 h7 => ?_)
  obtain ⟨z10, e9, e11, e12, x8⟩ := h7
  subst e9 e11 e12
  show sA _ _ _ 5 _ [gs_iv z10] _ _
  refine sA_if_ne (tgt := 29) dd_X9_carried_5 (by decide) (by omega) (fun q13 => ?_) (fun q13 => ?_)
  · skip
    refine sA_sipush (z := (-1001)) dd_X9_carried_29 (by decide) ?_
    refine sA_iret (z := -1001) dd_X9_carried_32 rfl ?_
    refine ⟨_, rfl, hI, hf, ?_⟩
    exact .inl ⟨by omega, rfl⟩
  · skip
    refine sA_aload_n dd_X9_carried_8 rfl (.head _) ?_
    refine sA_iload_n dd_X9_carried_9 rfl (.tail _ (.tail _ (.head _))) ?_
    refine sA_callV (y2 := m_X9_noRing) (n2 := 1) (d2 := 2) (a := 106) (ci := 9) (q := (RX9, TX9, 28)) (as := [gs_iv r]) (rest := []) dd_X9_carried_10 ok_X9_noRing ml_X9_100 rfl rfl (by decide) gs_s106 rfl rfl (Nat.le_of_ble_eq_true rfl) (by decide) (c_X9_noRing hI (by omega)) (fun r14 F15 A16 h17 => ?_)
    obtain ⟨z20, e19, e21, e22, x18⟩ := h17
    subst e19 e21 e22
    show sA _ _ _ 13 _ [gs_iv z20] _ _
    refine sA_if_ne (tgt := 29) dd_X9_carried_13 (by decide) (by omega) (fun q23 => ?_) (fun q23 => ?_)
    · skip
      refine sA_sipush (z := (-1001)) dd_X9_carried_29 (by decide) ?_
      refine sA_iret (z := -1001) dd_X9_carried_32 rfl ?_
      refine ⟨_, rfl, hI, hf, ?_⟩
      exact .inl ⟨by omega, rfl⟩
    · skip
      refine sA_iload_n dd_X9_carried_16 rfl (.tail _ (.tail _ (.tail _ (.head _)))) ?_
      refine sA_iconst (z := (-1)) dd_X9_carried_17 ?_
      refine sA_icmp_eq (tgt := 33) dd_X9_carried_18 (by decide) (by omega) (by omega) (fun q24 => ?_) (fun q24 => ?_)
      · skip
        refine sA_aload_n dd_X9_carried_33 rfl (.head _) ?_
        refine sA_iload_n dd_X9_carried_34 rfl (.tail _ (.tail _ (.head _))) ?_
        refine sA_callV (y2 := m_X9_takeRing) (n2 := 1) (d2 := 1) (a := 106) (ci := 9) (q := (RX9, TX9, 28)) (as := [gs_iv r]) (rest := []) dd_X9_carried_35 ok_X9_takeRing ml_X9_230 rfl rfl (by decide) gs_s106 rfl rfl (Nat.le_of_ble_eq_true rfl) (by decide) (c_X9_takeRing_vf hI (by omega)) (fun r25 F26 A27 h28 => ?_)
        obtain ⟨e30, I31, f32, x29⟩ := h28
        subst e30
        have v33 : F26 106 9 = F 106 9 := f32.1 106 9 (by first | exact id | omega | (dsimp only; omega) | (dsimp only) | fail)
        have v34 : F26 106 11 = F 106 11 := f32.1 106 11 (by first | exact id | omega | (dsimp only; omega) | (dsimp only) | fail)
        have v35 : F26 106 3 = F 106 3 := f32.1 106 3 (by first | exact id | omega | (dsimp only; omega) | (dsimp only) | fail)
        have v36 : A27 108 w.toNat = A 108 w.toNat := congrFun (f32.2 108 (by first | exact id | omega | (dsimp only; omega) | (dsimp only) | fail)) _
        have f37 := gs_fr_tr hf f32 (fun b j h => by first | exact False.elim h | omega | (dsimp only at h ⊢; omega) | fail) (fun b h => by first | exact False.elim h | omega | (dsimp only at h ⊢; omega) | fail)
        have y38 : F26 106 13 = A 108 r.toNat ∧ ∀ k : Int, 0 ≤ k → k < A 108 r.toNat → A27 114 k.toNat = A 109 (60 * r + k).toNat := x29
        clear x29
        show sA _ _ _ 38 _ [] _ _
        refine sA_aload_n dd_X9_carried_38 rfl (.head _) ?_
        refine sA_iload_n dd_X9_carried_39 rfl (.tail _ (.head _)) ?_
        have tr := y38
        have hstk : gs_stk (A27 114) (F26 106 13).toNat = (gs_stk (fun i => A 109 (60 * r.toNat + i)) (A 108 r.toNat).toNat) := by
          rw [tr.1]
          refine gs_stk_cg _ (fun i hi => ?_)
          show A27 114 i = A 109 (60 * r.toNat + i)
          have w := tr.2 i (by omega) (by omega)
          rw [Int.toNat_natCast, show (60 * r + (i : Int)).toNat = 60 * r.toNat + i by omega] at w
          exact w
        have h110 : A27 110 = A 110 := f37.2 110 (by dsimp only; omega)
        have h111 : A27 111 = A 111 := f37.2 111 (by dsimp only; omega)
        have hg0 : F26 106 0 = F 106 0 := f37.1 106 0 (by dsimp only; omega)
        have hcd1 : ∀ i : Int, 0 ≤ i → i < A27 110 p.toNat → 0 ≤ A27 111 (60 * p + i).toNat ∧ A27 111 (60 * p + i).toNat ≤ 15 := by rw [h110, h111]; exact (hcd (by omega) (by omega))
        refine sA_callV (y2 := m_X9_imageRow) (n2 := 1) (d2 := 5) (a := 106) (ci := 9) (q := (RX9, TX9, 28)) (as := [gs_iv p]) (rest := []) dd_X9_carried_40 ok_X9_imageRow ml_X9_227 rfl rfl (by decide) gs_s106 rfl rfl (Nat.le_of_ble_eq_true rfl) (by decide) (c_X9_imageRow_vf I31 (by omega) hcd1) (fun r39 F40 A41 h42 => ?_)
        obtain ⟨z45, e44, I46, f47, x43⟩ := h42
        subst e44
        have v48 : F40 106 9 = F26 106 9 := f47.1 106 9 (by first | exact id | omega | (dsimp only; omega) | (dsimp only) | fail)
        have v49 : F40 106 11 = F26 106 11 := f47.1 106 11 (by first | exact id | omega | (dsimp only; omega) | (dsimp only) | fail)
        have v50 : F40 106 3 = F26 106 3 := f47.1 106 3 (by first | exact id | omega | (dsimp only; omega) | (dsimp only) | fail)
        have v51 : A41 108 w.toNat = A27 108 w.toNat := congrFun (f47.2 108 (by first | exact id | omega | (dsimp only; omega) | (dsimp only) | fail)) _
        have f52 := gs_fr_tr f37 f47 (fun b j h => by first | exact False.elim h | omega | (dsimp only at h ⊢; omega) | fail) (fun b h => by first | exact False.elim h | omega | (dsimp only at h ⊢; omega) | fail)
        have y53 : (z45 = 1 ∧ sp_pl (fun u => sp_tw (sp_m (F26 106 0) u)) (fun i => A27 111 (60 * p.toNat + i)) (A27 110 p.toNat).toNat (gs_stk (A27 114) (F26 106 13).toNat) = some (gs_stk (A41 114) (F40 106 13).toNat)) ∨ (z45 = 0 ∧ sp_pl (fun u => sp_tw (sp_m (F26 106 0) u)) (fun i => A27 111 (60 * p.toNat + i)) (A27 110 p.toNat).toNat (gs_stk (A27 114) (F26 106 13).toNat) = none) := x43
        clear x43
        show sA _ _ _ 43 _ [gs_iv z45] _ _
        refine sA_if_ne (tgt := 50) dd_X9_carried_43 (by decide) (by omega) (fun q54 => ?_) (fun q54 => ?_)
        · skip
          refine sA_aload_n dd_X9_carried_50 rfl (.head _) ?_
          refine sA_callV (y2 := m_X9_closeToU) (n2 := 0) (d2 := 1) (a := 106) (ci := 9) (q := (RX9, TX9, 28)) (as := []) (rest := []) dd_X9_carried_51 ok_X9_closeToU ml_X9_233 rfl rfl (by decide) gs_s106 rfl rfl (Nat.le_of_ble_eq_true rfl) (by decide) (c_X9_closeToU_vf I46 ) (fun r55 F56 A57 h58 => ?_)
          obtain ⟨e60, I61, f62, x59⟩ := h58
          subst e60
          have v64 : F56 106 11 = F40 106 11 := f62.1 106 11 (by first | exact id | omega | (dsimp only; omega) | (dsimp only) | fail)
          have v65 : F56 106 3 = F40 106 3 := f62.1 106 3 (by first | exact id | omega | (dsimp only; omega) | (dsimp only) | fail)
          have v66 : A57 108 w.toNat = A41 108 w.toNat := congrFun (f62.2 108 (by first | exact id | omega | (dsimp only; omega) | (dsimp only) | fail)) _
          have f67 := gs_fr_tr f52 f62 (fun b j h => by first | exact False.elim h | omega | (dsimp only at h ⊢; omega) | fail) (fun b h => by first | exact False.elim h | omega | (dsimp only at h ⊢; omega) | fail)
          have y68 : ∃ k : Int, gs_lo (A41 114) (F40 106 13) k ∧ F56 106 9 = F40 106 13 - 2 * k ∧ ∀ i : Int, 0 ≤ i → i < F40 106 13 - 2 * k → A57 112 i.toNat = A41 114 (k + i).toNat := x59
          clear x59
          show sA _ _ _ 54 _ [] _ _
          refine sA_iload_n dd_X9_carried_54 rfl (.tail _ (.tail _ (.tail _ (.head _)))) ?_
          refine sA_iconst (z := (-1)) dd_X9_carried_55 ?_
          refine sA_icmp_ne (tgt := 64) dd_X9_carried_56 (by decide) (by omega) (by omega) (fun q69 => absurd q69 (by omega)) (fun q69 => ?_)
          refine sA_aload_n dd_X9_carried_59 rfl (.head _) ?_
          refine sA_geti (ci := 9) (j := 9) (q := (RX9, TX9, 28)) dd_X9_carried_60 rfl (by decide) fl_X9_83 (by decide) gs_s106 rfl ?_
          have b70 : (0 : Int) ≤ F56 106 9 ∧ F56 106 9 ≤ 400 := I61.1 106 9
          refine sA_iret (z := F56 106 9) dd_X9_carried_63 rfl ?_
          refine ⟨_, rfl, I61, f67, ?_⟩
          rcases y53 with y | y
          · have y2 := y.2
            rw [h110, h111, hg0, hstk] at y2
            obtain ⟨k, k1, k2, k3⟩ := y68
            have hb13 : (0 : Int) ≤ F40 106 13 ∧ F40 106 13 ≤ 400 := I46.1 106 13
            have y3 : gs_cls (gs_stk (A41 114) (F40 106 13).toNat) (A57 112) (F56 106 9) := ⟨_, _, k, by omega, rfl, k1, k2, fun i h1 h2 => k3 i h1 (by omega)⟩
            exact .inr ⟨by omega, by omega, by omega, by omega, by omega, .inr ⟨_, _, _, y2, y3, .inl ⟨by omega, rfl⟩⟩⟩
          · exfalso
            omega
        · skip
          refine sA_sipush (z := (-1005)) dd_X9_carried_46 (by decide) ?_
          refine sA_iret (z := -1005) dd_X9_carried_49 rfl ?_
          refine ⟨_, rfl, I46, f52, ?_⟩
          rcases y53 with y | y
          · exfalso
            omega
          · have y2 := y.2
            rw [h110, h111, hg0, hstk] at y2
            exact .inr ⟨by omega, by omega, by omega, by omega, by omega, .inl ⟨y2, rfl⟩⟩
      · skip
        refine sA_aload_n dd_X9_carried_21 rfl (.head _) ?_
        refine sA_iload_n dd_X9_carried_22 rfl (.tail _ (.tail _ (.tail _ (.head _)))) ?_
        refine sA_callV (y2 := m_X9_noRing) (n2 := 1) (d2 := 2) (a := 106) (ci := 9) (q := (RX9, TX9, 28)) (as := [gs_iv w]) (rest := []) dd_X9_carried_23 ok_X9_noRing ml_X9_100 rfl rfl (by decide) gs_s106 rfl rfl (Nat.le_of_ble_eq_true rfl) (by decide) (c_X9_noRing hI (by omega)) (fun r71 F72 A73 h74 => ?_)
        obtain ⟨z77, e76, e78, e79, x75⟩ := h74
        subst e76 e78 e79
        show sA _ _ _ 26 _ [gs_iv z77] _ _
        refine sA_if_eq (tgt := 33) dd_X9_carried_26 (by decide) (by omega) (fun q80 => ?_) (fun q80 => ?_)
        · skip
          refine sA_aload_n dd_X9_carried_33 rfl (.head _) ?_
          refine sA_iload_n dd_X9_carried_34 rfl (.tail _ (.tail _ (.head _))) ?_
          refine sA_callV (y2 := m_X9_takeRing) (n2 := 1) (d2 := 1) (a := 106) (ci := 9) (q := (RX9, TX9, 28)) (as := [gs_iv r]) (rest := []) dd_X9_carried_35 ok_X9_takeRing ml_X9_230 rfl rfl (by decide) gs_s106 rfl rfl (Nat.le_of_ble_eq_true rfl) (by decide) (c_X9_takeRing_vf hI (by omega)) (fun r81 F82 A83 h84 => ?_)
          obtain ⟨e86, I87, f88, x85⟩ := h84
          subst e86
          have v89 : F82 106 9 = F 106 9 := f88.1 106 9 (by first | exact id | omega | (dsimp only; omega) | (dsimp only) | fail)
          have v90 : F82 106 11 = F 106 11 := f88.1 106 11 (by first | exact id | omega | (dsimp only; omega) | (dsimp only) | fail)
          have v91 : F82 106 3 = F 106 3 := f88.1 106 3 (by first | exact id | omega | (dsimp only; omega) | (dsimp only) | fail)
          have v92 : A83 108 w.toNat = A 108 w.toNat := congrFun (f88.2 108 (by first | exact id | omega | (dsimp only; omega) | (dsimp only) | fail)) _
          have f93 := gs_fr_tr hf f88 (fun b j h => by first | exact False.elim h | omega | (dsimp only at h ⊢; omega) | fail) (fun b h => by first | exact False.elim h | omega | (dsimp only at h ⊢; omega) | fail)
          have y94 : F82 106 13 = A 108 r.toNat ∧ ∀ k : Int, 0 ≤ k → k < A 108 r.toNat → A83 114 k.toNat = A 109 (60 * r + k).toNat := x85
          clear x85
          show sA _ _ _ 38 _ [] _ _
          refine sA_aload_n dd_X9_carried_38 rfl (.head _) ?_
          refine sA_iload_n dd_X9_carried_39 rfl (.tail _ (.head _)) ?_
          have tr := y94
          have hstk : gs_stk (A83 114) (F82 106 13).toNat = (gs_stk (fun i => A 109 (60 * r.toNat + i)) (A 108 r.toNat).toNat) := by
            rw [tr.1]
            refine gs_stk_cg _ (fun i hi => ?_)
            show A83 114 i = A 109 (60 * r.toNat + i)
            have w := tr.2 i (by omega) (by omega)
            rw [Int.toNat_natCast, show (60 * r + (i : Int)).toNat = 60 * r.toNat + i by omega] at w
            exact w
          have h110 : A83 110 = A 110 := f93.2 110 (by dsimp only; omega)
          have h111 : A83 111 = A 111 := f93.2 111 (by dsimp only; omega)
          have hg0 : F82 106 0 = F 106 0 := f93.1 106 0 (by dsimp only; omega)
          have hcd1 : ∀ i : Int, 0 ≤ i → i < A83 110 p.toNat → 0 ≤ A83 111 (60 * p + i).toNat ∧ A83 111 (60 * p + i).toNat ≤ 15 := by rw [h110, h111]; exact (hcd (by omega) (by omega))
          refine sA_callV (y2 := m_X9_imageRow) (n2 := 1) (d2 := 5) (a := 106) (ci := 9) (q := (RX9, TX9, 28)) (as := [gs_iv p]) (rest := []) dd_X9_carried_40 ok_X9_imageRow ml_X9_227 rfl rfl (by decide) gs_s106 rfl rfl (Nat.le_of_ble_eq_true rfl) (by decide) (c_X9_imageRow_vf I87 (by omega) hcd1) (fun r95 F96 A97 h98 => ?_)
          obtain ⟨z101, e100, I102, f103, x99⟩ := h98
          subst e100
          have v104 : F96 106 9 = F82 106 9 := f103.1 106 9 (by first | exact id | omega | (dsimp only; omega) | (dsimp only) | fail)
          have v105 : F96 106 11 = F82 106 11 := f103.1 106 11 (by first | exact id | omega | (dsimp only; omega) | (dsimp only) | fail)
          have v106 : F96 106 3 = F82 106 3 := f103.1 106 3 (by first | exact id | omega | (dsimp only; omega) | (dsimp only) | fail)
          have v107 : A97 108 w.toNat = A83 108 w.toNat := congrFun (f103.2 108 (by first | exact id | omega | (dsimp only; omega) | (dsimp only) | fail)) _
          have f108 := gs_fr_tr f93 f103 (fun b j h => by first | exact False.elim h | omega | (dsimp only at h ⊢; omega) | fail) (fun b h => by first | exact False.elim h | omega | (dsimp only at h ⊢; omega) | fail)
          have y109 : (z101 = 1 ∧ sp_pl (fun u => sp_tw (sp_m (F82 106 0) u)) (fun i => A83 111 (60 * p.toNat + i)) (A83 110 p.toNat).toNat (gs_stk (A83 114) (F82 106 13).toNat) = some (gs_stk (A97 114) (F96 106 13).toNat)) ∨ (z101 = 0 ∧ sp_pl (fun u => sp_tw (sp_m (F82 106 0) u)) (fun i => A83 111 (60 * p.toNat + i)) (A83 110 p.toNat).toNat (gs_stk (A83 114) (F82 106 13).toNat) = none) := x99
          clear x99
          show sA _ _ _ 43 _ [gs_iv z101] _ _
          refine sA_if_ne (tgt := 50) dd_X9_carried_43 (by decide) (by omega) (fun q110 => ?_) (fun q110 => ?_)
          · skip
            refine sA_aload_n dd_X9_carried_50 rfl (.head _) ?_
            refine sA_callV (y2 := m_X9_closeToU) (n2 := 0) (d2 := 1) (a := 106) (ci := 9) (q := (RX9, TX9, 28)) (as := []) (rest := []) dd_X9_carried_51 ok_X9_closeToU ml_X9_233 rfl rfl (by decide) gs_s106 rfl rfl (Nat.le_of_ble_eq_true rfl) (by decide) (c_X9_closeToU_vf I102 ) (fun r111 F112 A113 h114 => ?_)
            obtain ⟨e116, I117, f118, x115⟩ := h114
            subst e116
            have v120 : F112 106 11 = F96 106 11 := f118.1 106 11 (by first | exact id | omega | (dsimp only; omega) | (dsimp only) | fail)
            have v121 : F112 106 3 = F96 106 3 := f118.1 106 3 (by first | exact id | omega | (dsimp only; omega) | (dsimp only) | fail)
            have v122 : A113 108 w.toNat = A97 108 w.toNat := congrFun (f118.2 108 (by first | exact id | omega | (dsimp only; omega) | (dsimp only) | fail)) _
            have f123 := gs_fr_tr f108 f118 (fun b j h => by first | exact False.elim h | omega | (dsimp only at h ⊢; omega) | fail) (fun b h => by first | exact False.elim h | omega | (dsimp only at h ⊢; omega) | fail)
            have y124 : ∃ k : Int, gs_lo (A97 114) (F96 106 13) k ∧ F112 106 9 = F96 106 13 - 2 * k ∧ ∀ i : Int, 0 ≤ i → i < F96 106 13 - 2 * k → A113 112 i.toNat = A97 114 (k + i).toNat := x115
            clear x115
            show sA _ _ _ 54 _ [] _ _
            refine sA_iload_n dd_X9_carried_54 rfl (.tail _ (.tail _ (.tail _ (.head _)))) ?_
            refine sA_iconst (z := (-1)) dd_X9_carried_55 ?_
            refine sA_icmp_ne (tgt := 64) dd_X9_carried_56 (by decide) (by omega) (by omega) (fun q125 => ?_) (fun q125 => absurd q125 (by omega))
            have hx_w := hX w.toNat (by omega)
            refine sA_aload_n dd_X9_carried_64 rfl (.head _) ?_
            refine sA_iload_n dd_X9_carried_65 rfl (.tail _ (.tail _ (.tail _ (.head _)))) ?_
            refine sA_callV (y2 := m_X9_takeV) (n2 := 1) (d2 := 1) (a := 106) (ci := 9) (q := (RX9, TX9, 28)) (as := [gs_iv w]) (rest := []) dd_X9_carried_66 ok_X9_takeV ml_X9_106 rfl rfl (by decide) gs_s106 rfl rfl (Nat.le_of_ble_eq_true rfl) (by decide) (c_X9_takeV_vf I117 (by omega)) (fun r126 F127 A128 h129 => ?_)
            obtain ⟨e131, I132, f133, x130⟩ := h129
            subst e131
            have v134 : F127 106 9 = F112 106 9 := f133.1 106 9 (by first | exact id | omega | (dsimp only; omega) | (dsimp only) | fail)
            have v136 : F127 106 3 = F112 106 3 := f133.1 106 3 (by first | exact id | omega | (dsimp only; omega) | (dsimp only) | fail)
            have v137 : A128 108 w.toNat = A113 108 w.toNat := congrFun (f133.2 108 (by first | exact id | omega | (dsimp only; omega) | (dsimp only) | fail)) _
            have f138 := gs_fr_tr f123 f133 (fun b j h => by first | exact False.elim h | omega | (dsimp only at h ⊢; omega) | fail) (fun b h => by first | exact False.elim h | omega | (dsimp only at h ⊢; omega) | fail)
            have y139 : F127 106 11 = A113 108 w.toNat ∧ ∀ k : Int, 0 ≤ k → k < A113 108 w.toNat → A128 113 k.toNat = A113 109 (60 * w + k).toNat := x130
            clear x130
            show sA _ _ _ 69 _ [] _ _
            refine sA_aload_n dd_X9_carried_69 rfl (.head _) ?_
            refine sA_callV (y2 := m_X9_areOne) (n2 := 0) (d2 := 3) (a := 106) (ci := 9) (q := (RX9, TX9, 28)) (as := []) (rest := []) dd_X9_carried_70 ok_X9_areOne ml_X9_109 rfl rfl (by decide) gs_s106 rfl rfl (Nat.le_of_ble_eq_true rfl) (by decide) (c_X9_areOne_vf I132 (by omega)) (fun r140 F141 A142 h143 => ?_)
            obtain ⟨z146, e145, I147, f148, x144⟩ := h143
            subst e145
            have v149 : F141 106 9 = F127 106 9 := f148.1 106 9 (by first | exact id | omega | (dsimp only; omega) | (dsimp only) | fail)
            have v150 : F141 106 11 = F127 106 11 := f148.1 106 11 (by first | exact id | omega | (dsimp only; omega) | (dsimp only) | fail)
            have v151 : F141 106 3 = F127 106 3 := f148.1 106 3 (by first | exact id | omega | (dsimp only; omega) | (dsimp only) | fail)
            have v152 : A142 108 w.toNat = A128 108 w.toNat := congrFun (f148.2 108 (by first | exact id | omega | (dsimp only; omega) | (dsimp only) | fail)) _
            have f153 := gs_fr_tr f138 f148 (fun b j h => by first | exact False.elim h | omega | (dsimp only at h ⊢; omega) | fail) (fun b h => by first | exact False.elim h | omega | (dsimp only at h ⊢; omega) | fail)
            have y154 : (z146 = 1 ∧ gs_ao (A128 112) (F127 106 9) (A128 113) (F127 106 11)) ∨ (z146 = 0 ∧ ¬ gs_ao (A128 112) (F127 106 9) (A128 113) (F127 106 11)) := x144
            clear x144
            show sA _ _ _ 73 _ [gs_iv z146] _ _
            have hz70 : z146 = 0 ∨ z146 = 1 := by omega
            refine sA_callS (y2 := m_X9_bit) (n2 := 1) (d2 := 1) (as := [gs_iv z146]) (rest := []) dd_X9_carried_73 ok_X9_bit ml_X9_112 rfl rfl (Nat.le_of_ble_eq_true rfl) (by decide) (c_X9_bit (by omega)) (fun r155 F156 A157 h158 => ?_)
            obtain ⟨z161, e160, e162, e163, x159⟩ := h158
            subst e160 e162 e163
            show sA _ _ _ 76 _ [gs_iv z161] _ _
            refine sA_iret (z := z161) dd_X9_carried_76 rfl ?_
            refine ⟨_, rfl, I147, f153, ?_⟩
            rcases y109 with y | y
            · have y2 := y.2
              rw [h110, h111, hg0, hstk] at y2
              obtain ⟨k, k1, k2, k3⟩ := y124
              have hb13 : (0 : Int) ≤ F96 106 13 ∧ F96 106 13 ≤ 400 := I102.1 106 13
              have y3 : gs_cls (gs_stk (A97 114) (F96 106 13).toNat) (A113 112) (F112 106 9) := ⟨_, _, k, by omega, rfl, k1, k2, fun i h1 h2 => k3 i h1 (by omega)⟩
              refine .inr ⟨by omega, by omega, by omega, by omega, by omega, .inr ⟨_, _, _, y2, y3, .inr ⟨by omega, ?_⟩⟩⟩
              have tv := y139
              have e108 : A113 108 = A 108 := (f118.2 108 (by dsimp only; omega)).trans ((f103.2 108 (by dsimp only; omega)).trans (f88.2 108 (by dsimp only; omega)))
              have e109 : A113 109 = A 109 := (f118.2 109 (by dsimp only; omega)).trans ((f103.2 109 (by dsimp only; omega)).trans (f88.2 109 (by dsimp only; omega)))
              rw [e108, e109] at tv
              have e11 : F127 106 11 = A 108 w.toNat := by omega
              have e9 : F127 106 9 = F112 106 9 := by omega
              have e112 : A128 112 = A113 112 := f133.2 112 (by dsimp only; omega)
              have hv : ∀ i : Nat, (i : Int) < A 108 w.toNat → A128 113 i = A 109 (60 * w.toNat + i) := fun i hi => by
                have q := tv.2 i (by omega) (by omega)
                rw [Int.toNat_natCast, show (60 * w + (i : Int)).toNat = 60 * w.toNat + i by omega] at q
                exact q
              have hy := y154
              rw [e9, e11, e112] at hy
              have hcg := gs_ao_cg (u := A113 112) (n := F112 106 9) (m := A 108 w.toNat) (fun _ _ => rfl) hv
              rcases hy with h | h
              · exact .inl ⟨by omega, hcg.mp h.2⟩
              · exact .inr ⟨by omega, fun q => h.2 (hcg.mpr q)⟩
            · exfalso
              omega
          · skip
            refine sA_sipush (z := (-1005)) dd_X9_carried_46 (by decide) ?_
            refine sA_iret (z := -1005) dd_X9_carried_49 rfl ?_
            refine ⟨_, rfl, I102, f108, ?_⟩
            rcases y109 with y | y
            · exfalso
              omega
            · have y2 := y.2
              rw [h110, h111, hg0, hstk] at y2
              exact .inr ⟨by omega, by omega, by omega, by omega, by omega, .inl ⟨y2, rfl⟩⟩
        · skip
          refine sA_sipush (z := (-1001)) dd_X9_carried_29 (by decide) ?_
          refine sA_iret (z := -1001) dd_X9_carried_32 rfl ?_
          refine ⟨_, rfl, hI, hf, ?_⟩
          exact .inl ⟨by omega, rfl⟩
end
