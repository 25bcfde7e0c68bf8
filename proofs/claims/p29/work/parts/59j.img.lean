noncomputable section
/-! ===== the table laid out; image ===== -/
theorem gs_sl_cg {f h : Nat → Int} {a : Nat} : ∀ n : Nat, (∀ i : Nat, i < n → f (a + i) = h (a + i)) → gs_sl f a n = gs_sl h a n
  | 0, _ => rfl
  | n + 1, e => by
    show gs_sl f a n ++ [f (a + n)] = gs_sl h a n ++ [h (a + n)]
    rw [gs_sl_cg n (fun i hi => e i (by omega)), e n (by omega)]
theorem gs_We_fr {T T2 : Nat → Int} {g v y : Int} (hl : (sp_w g v y).length ≤ 9) (h : gs_We T g v y) (hs : 0 ≤ v * 13 + y + 6) (e : ∀ i : Int, (v * 13 + y + 6) * 10 ≤ i → i < (v * 13 + y + 6) * 10 + 10 → T2 i.toNat = T i.toNat) : gs_We T2 g v y := by
  refine ⟨(e _ (by omega) (by omega)).trans h.1, Eq.trans ?_ h.2⟩
  refine gs_sl_cg _ (fun i hi => ?_)
  have w := e ((v * 13 + y + 6) * 10 + 1 + i) (by omega) (by omega)
  rw [show ((v * 13 + y + 6) * 10 + 1 + (i : Int)).toNat = ((v * 13 + y + 6) * 10).toNat + 1 + i by omega] at w
  exact w
theorem gs_lay_step {T T1 T2 : Nat → Int} {g t x : Int} (hg : 1 ≤ g ∧ g ≤ 3) (ht : 0 ≤ t ∧ 2 * t + 1 < 6 * g - 2) (hx : 1 ≤ x ∧ x ≤ 2 * g)
    (old : ∀ v y : Int, 0 ≤ v → v < 2 * t + 2 → (v < 2 * t ∨ (-x < y ∧ y < x)) → y ≠ 0 → -(2 * g) ≤ y → y ≤ 2 * g → gs_We T g v y)
    (a : gs_We T1 g (2 * t) x ∧ gs_We T1 g (2 * t) (-x) ∧ (∀ i : Int, 0 ≤ i → (i < (2 * t * 13 + x + 6) * 10 ∨ (2 * t * 13 + x + 6) * 10 + 10 ≤ i) → (i < (2 * t * 13 + -x + 6) * 10 ∨ (2 * t * 13 + -x + 6) * 10 + 10 ≤ i) → T1 i.toNat = T i.toNat))
    (b : gs_We T2 g (2 * t + 1) x ∧ gs_We T2 g (2 * t + 1) (-x) ∧ (∀ i : Int, 0 ≤ i → (i < ((2 * t + 1) * 13 + x + 6) * 10 ∨ ((2 * t + 1) * 13 + x + 6) * 10 + 10 ≤ i) → (i < ((2 * t + 1) * 13 + -x + 6) * 10 ∨ ((2 * t + 1) * 13 + -x + 6) * 10 + 10 ≤ i) → T2 i.toNat = T1 i.toNat)) :
    ∀ v y : Int, 0 ≤ v → v < 2 * t + 2 → (v < 2 * t ∨ (-(x + 1) < y ∧ y < x + 1)) → y ≠ 0 → -(2 * g) ≤ y → y ≤ 2 * g → gs_We T2 g v y := by
  intro v y h1 h2 h3 h4 h5 h6
  have hl := (sp_w_ok (u := v) (x := y) hg ⟨h1, by omega⟩ ⟨h4, h5, h6⟩).2
  by_cases q1 : v = 2 * t + 1 ∧ y = x
  · rw [q1.1, q1.2]
    exact b.1
  · by_cases q2 : v = 2 * t + 1 ∧ y = -x
    · rw [q2.1, q2.2]
      exact b.2.1
    · refine gs_We_fr hl ?_ (by omega) (fun i i1 i2 => b.2.2 i (by omega) (by omega) (by omega))
      by_cases q3 : v = 2 * t ∧ y = x
      · rw [q3.1, q3.2]
        exact a.1
      · by_cases q4 : v = 2 * t ∧ y = -x
        · rw [q4.1, q4.2]
          exact a.2.1
        · exact gs_We_fr hl (old v y h1 h2 (by omega) h4 h5 h6) (by omega) (fun i i1 i2 => a.2.2 i (by omega) (by omega) (by omega))
theorem k_X7_layOut_vf {g : Int} {F A : gs_F} (hI : gs_I F A) (hg : 1 ≤ g ∧ g ≤ 3) : ∀ nN : Nat, (∀ (t : Int)  (F1 A1 : gs_F), gs_I F1 A1 → gs_fr (fun c j => (c = 5 ∧ j = 0) ∨ ((c = 8 ∨ c = 10) ∧ j = 1)) (fun c => c = 9 ∨ c = 11 ∨ c = 6) F A F1 A1 → 0 ≤ t ∧ t ≤ F1 5 0 → F1 5 0 = 3 * g - 1 → (∀ v y : Int, 0 ≤ v → v < 2 * t → y ≠ 0 → -(2 * g) ≤ y → y ≤ 2 * g → gs_We (A1 6) g v y) → (F1 5 0 - t) * 20 + 1 < (nN : Int) → sA m_X7_layOut 5 (fun rv F' A' => rv = none ∧ gs_I F' A' ∧ gs_fr (fun c j => (c = 5 ∧ j = 0) ∨ ((c = 8 ∨ c = 10) ∧ j = 1)) (fun c => c = 9 ∨ c = 11 ∨ c = 6) F A F' A' ∧ (F' 5 0 = 3 * g - 1 ∧ gs_W (A' 6) g)) 11 [(2, gs_iv t), (0, .ref 5), (1, gs_iv g)] [] F1 A1) ∧ (∀ (t : Int) (x : Int)  (F1 A1 : gs_F), gs_I F1 A1 → gs_fr (fun c j => (c = 5 ∧ j = 0) ∨ ((c = 8 ∨ c = 10) ∧ j = 1)) (fun c => c = 9 ∨ c = 11 ∨ c = 6) F A F1 A1 → 0 ≤ t ∧ t < F1 5 0 → F1 5 0 = 3 * g - 1 → 1 ≤ x ∧ x ≤ 2 * g + 1 → (∀ v y : Int, 0 ≤ v → v < 2 * t + 2 → (v < 2 * t ∨ (-x < y ∧ y < x)) → y ≠ 0 → -(2 * g) ≤ y → y ≤ 2 * g → gs_We (A1 6) g v y) → (F1 5 0 - t) * 20 - x < (nN : Int) → sA m_X7_layOut 5 (fun rv F' A' => rv = none ∧ gs_I F' A' ∧ gs_fr (fun c j => (c = 5 ∧ j = 0) ∨ ((c = 8 ∨ c = 10) ∧ j = 1)) (fun c => c = 9 ∨ c = 11 ∨ c = 6) F A F' A' ∧ (F' 5 0 = 3 * g - 1 ∧ gs_W (A' 6) g)) 21 [(3, gs_iv x), (2, gs_iv t), (0, .ref 5), (1, gs_iv g)] [] F1 A1) := by
  intro nN
  induction nN with
  | zero =>
    exact ⟨fun a0 a1 a2 a3 a4 i0 i1 i2 hm => by exfalso; omega, fun a0 a1 a2 a3 a4 a5 i0 i1 i2 i3 hm => by exfalso; omega⟩
  | succ nN ih =>
    refine ⟨?_, ?_⟩
    · skip
      intro t F1 A1 hI1 hf1 i0 i1 i2 hm
      have b1 : (1 : Int) ≤ F1 5 0 ∧ F1 5 0 ≤ 8 := hI1.1 5 0
      refine sA_iload_n dd_X7_layOut_11 rfl (.head _) ?_
      refine sA_aload_n dd_X7_layOut_12 rfl (.tail _ (.head _)) ?_
      refine sA_geti (ci := 7) (j := 0) (q := (RX7, TX7, 5)) dd_X7_layOut_13 rfl (by decide) fl_X7_30 (by decide) gs_s5 rfl ?_
      refine sA_icmp_ge (tgt := 60) dd_X7_layOut_16 (by decide) (by omega) (by omega) (fun q2 => ?_) (fun q2 => ?_)
      · skip
        refine sA_vret dd_X7_layOut_60 rfl ?_
        refine ⟨rfl, hI1, hf1, ?_⟩
        exact ⟨by omega, fun v y h1 h2 h3 h4 h5 => i2 v y h1 (by omega) h3 h4 h5⟩
      · skip
        refine sA_iconst (z := 1) dd_X7_layOut_19 ?_
        refine sA_istore_n (lv' := [(3, gs_iv 1), (2, gs_iv t), (0, .ref 5), (1, gs_iv g)]) dd_X7_layOut_20 rfl (by decide) rfl ?_
        refine sA_sub (lv2 := [(3, gs_iv 1), (2, gs_iv t), (0, .ref 5), (1, gs_iv g)]) (List.forall_mem_cons.mpr ⟨(.head _), (List.forall_mem_cons.mpr ⟨(.tail _ (.head _)), (List.forall_mem_cons.mpr ⟨(.tail _ (.tail _ (.head _))), (List.forall_mem_cons.mpr ⟨(.tail _ (.tail _ (.tail _ (.head _)))), (fun _ h => absurd h List.not_mem_nil)⟩)⟩)⟩)⟩) ?_
        exact ih.2 t 1 F1 A1 hI1 hf1 (by omega) (by omega) (by omega) (fun v y h1 h2 h3 h4 h5 h6 => i2 v y h1 (by omega) h4 h5 h6) (by omega)
    · skip
      intro t x F1 A1 hI1 hf1 i0 i1 i2 i3 hm
      have b3 : (1 : Int) ≤ F1 5 0 ∧ F1 5 0 ≤ 8 := hI1.1 5 0
      refine sA_iload_n dd_X7_layOut_21 rfl (.head _) ?_
      refine sA_iconst (z := 2) dd_X7_layOut_22 ?_
      refine sA_iload_n dd_X7_layOut_23 rfl (.tail _ (.tail _ (.tail _ (.head _)))) ?_
      refine sA_imul dd_X7_layOut_24 ?_
      refine sA_icmp_gt (tgt := 54) dd_X7_layOut_25 (by decide) (by omega) (by omega) (fun q4 => ?_) (fun q4 => ?_)
      · skip
        refine sA_iinc (lv' := [(2, gs_iv (t + 1)), (3, gs_iv x), (0, .ref 5), (1, gs_iv g)]) dd_X7_layOut_54 (.tail _ (.head _)) (by decide) rfl ?_
        refine sA_goto (tgt := 11) dd_X7_layOut_57 (by decide) ?_
        refine sA_sub (lv2 := [(2, gs_iv (t + 1)), (0, .ref 5), (1, gs_iv g)]) (List.forall_mem_cons.mpr ⟨(.head _), (List.forall_mem_cons.mpr ⟨(.tail _ (.tail _ (.head _))), (List.forall_mem_cons.mpr ⟨(.tail _ (.tail _ (.tail _ (.head _)))), (fun _ h => absurd h List.not_mem_nil)⟩)⟩)⟩) ?_
        exact ih.1 (t + 1) F1 A1 hI1 hf1 (by omega) (by omega) (fun v y h1 h2 h3 h4 h5 => i3 v y h1 (by omega) (by omega) h3 h4 h5) (by omega)
      · skip
        refine sA_aload_n dd_X7_layOut_28 rfl (.tail _ (.tail _ (.head _))) ?_
        refine sA_iconst (z := 2) dd_X7_layOut_29 ?_
        refine sA_iload_n dd_X7_layOut_30 rfl (.tail _ (.head _)) ?_
        refine sA_imul dd_X7_layOut_31 ?_
        refine sA_iload_n dd_X7_layOut_32 rfl (.head _) ?_
        refine sA_iload_n dd_X7_layOut_33 rfl (.tail _ (.tail _ (.tail _ (.head _)))) ?_
        refine sA_callV (y2 := m_X7_layWord) (n2 := 3) (d2 := 4) (a := 5) (ci := 7) (q := (RX7, TX7, 5)) (as := [gs_iv (2 * t), gs_iv x, gs_iv g]) (rest := []) dd_X7_layOut_34 ok_X7_layWord ml_X7_34 rfl rfl (by decide) gs_s5 rfl rfl (Nat.le_of_ble_eq_true rfl) (by decide) (c_X7_layWord_vf hI1 (by omega) (by omega) (by omega)) (fun r5 F6 A7 h8 => ?_)
        obtain ⟨e10, I11, f12, x9⟩ := h8
        subst e10
        have v13 : F6 5 0 = F1 5 0 := f12.1 5 0 (by first | exact id | omega | (dsimp only; omega) | (dsimp only) | fail)
        have f14 := gs_fr_tr hf1 f12 (fun b j h => by first | exact False.elim h | omega | (dsimp only at h ⊢; omega) | fail) (fun b h => by first | exact False.elim h | omega | (dsimp only at h ⊢; omega) | fail)
        have y15 : gs_We (A7 6) g (2 * t) x ∧ gs_We (A7 6) g (2 * t) (-x) ∧ (∀ i : Int, 0 ≤ i → (i < (((2 * t) * 13 + x + 6) * 10) ∨ (((2 * t) * 13 + x + 6) * 10) + 10 ≤ i) → (i < (((2 * t) * 13 + -x + 6) * 10) ∨ (((2 * t) * 13 + -x + 6) * 10) + 10 ≤ i) → A7 6 i.toNat = A1 6 i.toNat) := x9
        clear x9
        show sA _ _ _ 37 _ [] _ _
        refine sA_aload_n dd_X7_layOut_37 rfl (.tail _ (.tail _ (.head _))) ?_
        refine sA_iconst (z := 2) dd_X7_layOut_38 ?_
        refine sA_iload_n dd_X7_layOut_39 rfl (.tail _ (.head _)) ?_
        refine sA_imul dd_X7_layOut_40 ?_
        refine sA_iconst (z := 1) dd_X7_layOut_41 ?_
        refine sA_iadd dd_X7_layOut_42 ?_
        refine sA_iload_n dd_X7_layOut_43 rfl (.head _) ?_
        refine sA_iload_n dd_X7_layOut_44 rfl (.tail _ (.tail _ (.tail _ (.head _)))) ?_
        refine sA_callV (y2 := m_X7_layWord) (n2 := 3) (d2 := 4) (a := 5) (ci := 7) (q := (RX7, TX7, 5)) (as := [gs_iv ((2 * t) + 1), gs_iv x, gs_iv g]) (rest := []) dd_X7_layOut_45 ok_X7_layWord ml_X7_34 rfl rfl (by decide) gs_s5 rfl rfl (Nat.le_of_ble_eq_true rfl) (by decide) (c_X7_layWord_vf I11 (by omega) (by omega) (by omega)) (fun r16 F17 A18 h19 => ?_)
        obtain ⟨e21, I22, f23, x20⟩ := h19
        subst e21
        have v24 : F17 5 0 = F6 5 0 := f23.1 5 0 (by first | exact id | omega | (dsimp only; omega) | (dsimp only) | fail)
        have f25 := gs_fr_tr f14 f23 (fun b j h => by first | exact False.elim h | omega | (dsimp only at h ⊢; omega) | fail) (fun b h => by first | exact False.elim h | omega | (dsimp only at h ⊢; omega) | fail)
        have y26 : gs_We (A18 6) g ((2 * t) + 1) x ∧ gs_We (A18 6) g ((2 * t) + 1) (-x) ∧ (∀ i : Int, 0 ≤ i → (i < ((((2 * t) + 1) * 13 + x + 6) * 10) ∨ ((((2 * t) + 1) * 13 + x + 6) * 10) + 10 ≤ i) → (i < ((((2 * t) + 1) * 13 + -x + 6) * 10) ∨ ((((2 * t) + 1) * 13 + -x + 6) * 10) + 10 ≤ i) → A18 6 i.toNat = A7 6 i.toNat) := x20
        clear x20
        show sA _ _ _ 48 _ [] _ _
        refine sA_iinc (lv' := [(3, gs_iv (x + 1)), (2, gs_iv t), (0, .ref 5), (1, gs_iv g)]) dd_X7_layOut_48 (.head _) (by decide) rfl ?_
        refine sA_goto (tgt := 21) dd_X7_layOut_51 (by decide) ?_
        have b27 : (1 : Int) ≤ F17 5 0 ∧ F17 5 0 ≤ 8 := I22.1 5 0
        refine sA_sub (lv2 := [(3, gs_iv (x + 1)), (2, gs_iv t), (0, .ref 5), (1, gs_iv g)]) (List.forall_mem_cons.mpr ⟨(.head _), (List.forall_mem_cons.mpr ⟨(.tail _ (.head _)), (List.forall_mem_cons.mpr ⟨(.tail _ (.tail _ (.head _))), (List.forall_mem_cons.mpr ⟨(.tail _ (.tail _ (.tail _ (.head _)))), (fun _ h => absurd h List.not_mem_nil)⟩)⟩)⟩)⟩) ?_
        exact ih.2 t (x + 1) F17 A18 I22 f25 (by omega) (by omega) (by omega) (gs_lay_step hg (by omega) (by omega) i3 y15 y26) (by omega)
theorem c_X7_layOut_vf {g : Int} {F A : gs_F} (hI : gs_I F A) (hg : 1 ≤ g ∧ g ≤ 3) : sC m_X7_layOut 5 [.ref 5, gs_iv g] F A (fun rv F' A' => rv = none ∧ gs_I F' A' ∧ gs_fr (fun c j => (c = 5 ∧ j = 0) ∨ ((c = 8 ∨ c = 10) ∧ j = 1)) (fun c => c = 9 ∨ c = 11 ∨ c = 6) F A F' A' ∧ (F' 5 0 = 3 * g - 1 ∧ gs_W (A' 6) g)) := by
  refine sC_of ok_X7_layOut.1 (Nat.le_of_ble_eq_true rfl) ?_
  show sA _ _ _ 0 [(0, .ref 5), (1, gs_iv g)] [] F A
  have hf : gs_fr (fun c j => (c = 5 ∧ j = 0) ∨ ((c = 8 ∨ c = 10) ∧ j = 1)) (fun c => c = 9 ∨ c = 11 ∨ c = 6) F A F A := gs_fr_refl _ _ _ _
  have b28 : (1 : Int) ≤ F 5 0 ∧ F 5 0 ≤ 8 := hI.1 5 0
  refine sA_aload_n dd_X7_layOut_0 rfl (.head _) ?_
  refine sA_iconst (z := 3) dd_X7_layOut_1 ?_
  refine sA_iload_n dd_X7_layOut_2 rfl (.tail _ (.head _)) ?_
  refine sA_imul dd_X7_layOut_3 ?_
  refine sA_iconst (z := 1) dd_X7_layOut_4 ?_
  refine sA_isub dd_X7_layOut_5 ?_
  refine sA_put (ci := 7) (j := 0) (q := (RX7, TX7, 5)) (ty := .int) dd_X7_layOut_6 rfl (by decide) fl_X7_30 rfl (tyX7_ok 0 (by decide)) rfl rfl (by decide) gs_s5 rfl ?_
  have I30 : gs_I (gs_up F 5 0 ((3 * g) - 1)) A := gs_I_put hI (show (1 : Int) ≤ (3 * g) - 1 ∧ (3 * g) - 1 ≤ 8 by omega)
  have f31 := gs_fr_put hf (a := 5) (z := (3 * g) - 1) (j := 0) (by first | omega | (dsimp only; omega) | (dsimp only) | fail)
  have v32 : gs_up F 5 0 ((3 * g) - 1) 5 0 = (3 * g) - 1 := gs_up_self _ _ _ _
  generalize gs_up F 5 0 ((3 * g) - 1) = F29 at I30 f31 v32 ⊢
  refine sA_iconst (z := 0) dd_X7_layOut_9 ?_
  refine sA_istore_n (lv' := [(2, gs_iv 0), (0, .ref 5), (1, gs_iv g)]) dd_X7_layOut_10 rfl (by decide) rfl ?_
  have b33 : (1 : Int) ≤ F29 5 0 ∧ F29 5 0 ≤ 8 := I30.1 5 0
  refine sA_sub (lv2 := [(2, gs_iv 0), (0, .ref 5), (1, gs_iv g)]) (List.forall_mem_cons.mpr ⟨(.head _), (List.forall_mem_cons.mpr ⟨(.tail _ (.head _)), (List.forall_mem_cons.mpr ⟨(.tail _ (.tail _ (.head _))), (fun _ h => absurd h List.not_mem_nil)⟩)⟩)⟩) ?_
  exact (k_X7_layOut_vf hI hg ((F29 5 0 - 0) * 20 + 1 : Int).toNat.succ).1 0 F29 A I30 f31 (by omega) (by omega) (fun v y h1 h2 => by exfalso; omega) (by omega)
theorem k_X8_layOut_vg {g : Int} {F A : gs_F} (hI : gs_I F A) (hg : 1 ≤ g ∧ g ≤ 3) : ∀ nN : Nat, (∀ (p : Int)  (F1 A1 : gs_F), gs_I F1 A1 → gs_fr (fun c j => (c = 0 ∧ (j = 11 ∨ j = 12)) ∨ (c = 3 ∧ j = 1) ∨ (90 ≤ c ∧ c < 106 ∧ j = 1) ∨ (c = 5 ∧ j = 0) ∨ ((c = 8 ∨ c = 10) ∧ j = 1)) (fun c => c = 9 ∨ c = 11 ∨ c = 6) F A F1 A1 → 0 ≤ p ∧ p ≤ 8 → F1 0 11 = g → F1 0 12 = 0 → F1 3 1 = 0 → (∀ i : Nat, (i : Int) < p → F1 (90 + 2 * i) 1 = 0) → 8 - p < (nN : Int) → sA m_X8_layOut 6 (fun rv F' A' => rv = none ∧ gs_I F' A' ∧ gs_fr (fun c j => (c = 0 ∧ (j = 11 ∨ j = 12)) ∨ (c = 3 ∧ j = 1) ∨ (90 ≤ c ∧ c < 106 ∧ j = 1) ∨ (c = 5 ∧ j = 0) ∨ ((c = 8 ∨ c = 10) ∧ j = 1)) (fun c => c = 9 ∨ c = 11 ∨ c = 6) F A F' A' ∧ (F' 0 11 = g ∧ F' 0 12 = 0 ∧ F' 3 1 = 0 ∧ F' 5 0 = 3 * g - 1 ∧ (∀ i : Nat, i < 8 → F' (90 + 2 * i) 1 = 0) ∧ gs_W (A' 6) g)) 20 [(2, gs_iv p), (0, .ref 0), (1, gs_iv g)] [] F1 A1) := by
  intro nN
  induction nN with
  | zero =>
    exact fun a0 a1 a2 a3 a4 i0 i1 i2 i3 i4 hm => by exfalso; omega
  | succ nN ih =>
    intro p F1 A1 hI1 hf1 i0 i1 i2 i3 i4 hm
    have b1 : (1 : Int) ≤ F1 0 11 ∧ F1 0 11 ≤ 3 := hI1.1 0 11
    have b2 : (0 : Int) ≤ F1 0 12 ∧ F1 0 12 ≤ 12 := hI1.1 0 12
    have b3 := gs_row_sz gs_row_3 hI1
    refine sA_iload_n dd_X8_layOut_20 rfl (.head _) ?_
    refine sA_bipush (z := 8) dd_X8_layOut_21 (by decide) ?_
    refine sA_icmp_ge (tgt := 42) dd_X8_layOut_23 (by decide) (by omega) (by omega) (fun q4 => ?_) (fun q4 => ?_)
    · skip
      refine sA_aload_n dd_X8_layOut_42 rfl (.tail _ (.head _)) ?_
      refine sA_getr (ci := 8) (j := 3) (q := (RX8, TX8, 13)) dd_X8_layOut_43 rfl (by decide) fl_X8_33 (by decide) gs_s0 rfl ?_
      refine sA_iload_n dd_X8_layOut_46 rfl (.tail _ (.tail _ (.head _))) ?_
      refine sA_callV (y2 := m_X7_layOut) (n2 := 1) (d2 := 5) (a := 5) (ci := 7) (q := (RX7, TX7, 5)) (as := [gs_iv g]) (rest := []) dd_X8_layOut_47 ok_X7_layOut ml_X8_239 rfl rfl (by decide) gs_s5 rfl rfl (Nat.le_of_ble_eq_true rfl) (by decide) (c_X7_layOut_vf hI1 (by omega)) (fun r5 F6 A7 h8 => ?_)
      obtain ⟨e10, I11, f12, x9⟩ := h8
      subst e10
      have v13 : F6 0 11 = F1 0 11 := f12.1 0 11 (by first | exact id | omega | (dsimp only; omega) | (dsimp only) | fail)
      have v14 : F6 0 12 = F1 0 12 := f12.1 0 12 (by first | exact id | omega | (dsimp only; omega) | (dsimp only) | fail)
      have v15 : F6 3 1 = F1 3 1 := f12.1 3 1 (by first | exact id | omega | (dsimp only; omega) | (dsimp only) | fail)
      have f16 := gs_fr_tr hf1 f12 (fun b j h => by first | exact False.elim h | omega | (dsimp only at h ⊢; omega) | fail) (fun b h => by first | exact False.elim h | omega | (dsimp only at h ⊢; omega) | fail)
      have y17 : F6 5 0 = 3 * g - 1 ∧ gs_W (A7 6) g := x9
      clear x9
      show sA _ _ _ 50 _ [] _ _
      refine sA_vret dd_X8_layOut_50 rfl ?_
      refine ⟨rfl, I11, f16, ?_⟩
      refine ⟨by omega, by omega, by omega, by omega, fun i hi => ?_, y17.2⟩
      rw [f12.1 (90 + 2 * i) 1 (by dsimp only; omega)]
      exact i4 i (by omega)
    · skip
      refine sA_aload_n dd_X8_layOut_26 rfl (.tail _ (.head _)) ?_
      refine sA_getr (ci := 8) (j := 1) (q := (RX8, TX8, 13)) dd_X8_layOut_27 rfl (by decide) fl_X8_17 (by decide) gs_s0 rfl ?_
      refine sA_iload_n dd_X8_layOut_30 rfl (.head _) ?_
      refine sA_aald (n := 8) dd_X8_layOut_31 (by decide) (by decide) (by decide) gs_s2 (by omega) (by decide) ?_
      have g18 := gs_plan_at (k := p.toNat) (by omega)
      refine sA_iconst (z := 0) dd_X8_layOut_32 ?_
      refine sA_put (ci := 2) (j := 1) (q := (RX2, TX2, 2)) (ty := .int) dd_X8_layOut_33 rfl (by decide) fl_X8_162 rfl (tyX2_ok 1 (by decide)) rfl rfl (Nat.lt_of_succ_lt g18.1) g18.2.1 rfl ?_
      have I20 : gs_I (gs_up F1 (90 + 2 * p.toNat) 1 0) A1 := gs_plan_put g18 hI1 (by omega)
      have f21 := gs_fr_put hf1 (a := 90 + 2 * p.toNat) (z := 0) (j := 1) (by first | omega | (dsimp only; omega) | (dsimp only) | fail)
      have v22 : gs_up F1 (90 + 2 * p.toNat) 1 0 (90 + 2 * p.toNat) 1 = 0 := gs_up_self _ _ _ _
      have g23 : ∀ b k, ¬ (b = (90 + 2 * p.toNat) ∧ k = 1) → (gs_up F1 (90 + 2 * p.toNat) 1 0) b k = F1 b k := fun b k h => gs_up_ne _ _ (by omega)
      have v24 : (gs_up F1 (90 + 2 * p.toNat) 1 0) 0 11 = F1 0 11 := gs_up_ne _ _ (by omega)
      have v25 : (gs_up F1 (90 + 2 * p.toNat) 1 0) 0 12 = F1 0 12 := gs_up_ne _ _ (by omega)
      have v26 : (gs_up F1 (90 + 2 * p.toNat) 1 0) 3 1 = F1 3 1 := gs_up_ne _ _ (by omega)
      generalize gs_up F1 (90 + 2 * p.toNat) 1 0 = F19 at I20 f21 v22 g23 v24 v25 v26 ⊢
      refine sA_iinc (lv' := [(2, gs_iv (p + 1)), (0, .ref 0), (1, gs_iv g)]) dd_X8_layOut_36 (.head _) (by decide) rfl ?_
      refine sA_goto (tgt := 20) dd_X8_layOut_39 (by decide) ?_
      have b27 : (1 : Int) ≤ F19 0 11 ∧ F19 0 11 ≤ 3 := I20.1 0 11
      have b28 : (0 : Int) ≤ F19 0 12 ∧ F19 0 12 ≤ 12 := I20.1 0 12
      have b29 := gs_row_sz gs_row_3 I20
      refine sA_sub (lv2 := [(2, gs_iv (p + 1)), (0, .ref 0), (1, gs_iv g)]) (List.forall_mem_cons.mpr ⟨(.head _), (List.forall_mem_cons.mpr ⟨(.tail _ (.head _)), (List.forall_mem_cons.mpr ⟨(.tail _ (.tail _ (.head _))), (fun _ h => absurd h List.not_mem_nil)⟩)⟩)⟩) ?_
      exact ih (p + 1) F19 A1 I20 f21 (by omega) (by omega) (by omega) (by omega) (fun i hi => by first | (exfalso; omega) | (by_cases h : i = p.toNat <;> first | (rw [g23 _ _ (by omega)]; exact i4 i (by omega)) | (rw [h]; omega) | fail) | fail) (by omega)
theorem c_X8_layOut_vg {g : Int} {F A : gs_F} (hI : gs_I F A) (hg : 1 ≤ g ∧ g ≤ 3) : sC m_X8_layOut 6 [.ref 0, gs_iv g] F A (fun rv F' A' => rv = none ∧ gs_I F' A' ∧ gs_fr (fun c j => (c = 0 ∧ (j = 11 ∨ j = 12)) ∨ (c = 3 ∧ j = 1) ∨ (90 ≤ c ∧ c < 106 ∧ j = 1) ∨ (c = 5 ∧ j = 0) ∨ ((c = 8 ∨ c = 10) ∧ j = 1)) (fun c => c = 9 ∨ c = 11 ∨ c = 6) F A F' A' ∧ (F' 0 11 = g ∧ F' 0 12 = 0 ∧ F' 3 1 = 0 ∧ F' 5 0 = 3 * g - 1 ∧ (∀ i : Nat, i < 8 → F' (90 + 2 * i) 1 = 0) ∧ gs_W (A' 6) g)) := by
  refine sC_of ok_X8_layOut.1 (Nat.le_of_ble_eq_true rfl) ?_
  show sA _ _ _ 0 [(0, .ref 0), (1, gs_iv g)] [] F A
  have hf : gs_fr (fun c j => (c = 0 ∧ (j = 11 ∨ j = 12)) ∨ (c = 3 ∧ j = 1) ∨ (90 ≤ c ∧ c < 106 ∧ j = 1) ∨ (c = 5 ∧ j = 0) ∨ ((c = 8 ∨ c = 10) ∧ j = 1)) (fun c => c = 9 ∨ c = 11 ∨ c = 6) F A F A := gs_fr_refl _ _ _ _
  have b30 : (1 : Int) ≤ F 0 11 ∧ F 0 11 ≤ 3 := hI.1 0 11
  have b31 : (0 : Int) ≤ F 0 12 ∧ F 0 12 ≤ 12 := hI.1 0 12
  have b32 := gs_row_sz gs_row_3 hI
  refine sA_aload_n dd_X8_layOut_0 rfl (.head _) ?_
  refine sA_iload_n dd_X8_layOut_1 rfl (.tail _ (.head _)) ?_
  refine sA_put (ci := 8) (j := 11) (q := (RX8, TX8, 13)) (ty := .int) dd_X8_layOut_2 rfl (by decide) fl_X8_84 rfl (tyX8_ok 11 (by decide)) rfl rfl (by decide) gs_s0 rfl ?_
  have I34 : gs_I (gs_up F 0 11 g) A := gs_I_put hI (show (1 : Int) ≤ g ∧ g ≤ 3 by omega)
  have f35 := gs_fr_put hf (a := 0) (z := g) (j := 11) (by first | omega | (dsimp only; omega) | (dsimp only) | fail)
  have v36 : gs_up F 0 11 g 0 11 = g := gs_up_self _ _ _ _
  have g37 : ∀ b k, ¬ (b = 0 ∧ k = 11) → (gs_up F 0 11 g) b k = F b k := fun b k h => gs_up_ne _ _ (by omega)
  have v38 : (gs_up F 0 11 g) 0 12 = F 0 12 := gs_up_ne _ _ (by omega)
  have v39 : (gs_up F 0 11 g) 3 1 = F 3 1 := gs_up_ne _ _ (by omega)
  generalize gs_up F 0 11 g = F33 at I34 f35 v36 g37 v38 v39 ⊢
  refine sA_aload_n dd_X8_layOut_5 rfl (.head _) ?_
  refine sA_iconst (z := 0) dd_X8_layOut_6 ?_
  refine sA_put (ci := 8) (j := 12) (q := (RX8, TX8, 13)) (ty := .int) dd_X8_layOut_7 rfl (by decide) fl_X8_94 rfl (tyX8_ok 12 (by decide)) rfl rfl (by decide) gs_s0 rfl ?_
  have I41 : gs_I (gs_up F33 0 12 0) A := gs_I_put I34 (show (0 : Int) ≤ 0 ∧ 0 ≤ 12 by omega)
  have f42 := gs_fr_put f35 (a := 0) (z := 0) (j := 12) (by first | omega | (dsimp only; omega) | (dsimp only) | fail)
  have v43 : gs_up F33 0 12 0 0 12 = 0 := gs_up_self _ _ _ _
  have g44 : ∀ b k, ¬ (b = 0 ∧ k = 12) → (gs_up F33 0 12 0) b k = F33 b k := fun b k h => gs_up_ne _ _ (by omega)
  have v45 : (gs_up F33 0 12 0) 0 11 = F33 0 11 := gs_up_ne _ _ (by omega)
  have v46 : (gs_up F33 0 12 0) 3 1 = F33 3 1 := gs_up_ne _ _ (by omega)
  generalize gs_up F33 0 12 0 = F40 at I41 f42 v43 g44 v45 v46 ⊢
  refine sA_aload_n dd_X8_layOut_10 rfl (.head _) ?_
  refine sA_getr (ci := 8) (j := 2) (q := (RX8, TX8, 13)) dd_X8_layOut_11 rfl (by decide) fl_X8_26 (by decide) gs_s0 rfl ?_
  refine sA_iconst (z := 0) dd_X8_layOut_14 ?_
  refine sA_put (ci := 4) (j := 1) (q := (RX4, TX4, 2)) (ty := .int) dd_X8_layOut_15 rfl (by decide) fl_X8_88 rfl (tyX4_ok 1 (by decide)) rfl rfl (Nat.lt_of_succ_lt gs_row_3.1) gs_row_3.2.1 rfl ?_
  have I48 : gs_I (gs_up F40 3 1 0) A := gs_row_put gs_row_3 I41 (by omega)
  have f49 := gs_fr_put f42 (a := 3) (z := 0) (j := 1) (by first | omega | (dsimp only; omega) | (dsimp only) | fail)
  have v50 : gs_up F40 3 1 0 3 1 = 0 := gs_up_self _ _ _ _
  have g51 : ∀ b k, ¬ (b = 3 ∧ k = 1) → (gs_up F40 3 1 0) b k = F40 b k := fun b k h => gs_up_ne _ _ (by omega)
  have v52 : (gs_up F40 3 1 0) 0 11 = F40 0 11 := gs_up_ne _ _ (by omega)
  have v53 : (gs_up F40 3 1 0) 0 12 = F40 0 12 := gs_up_ne _ _ (by omega)
  generalize gs_up F40 3 1 0 = F47 at I48 f49 v50 g51 v52 v53 ⊢
  refine sA_iconst (z := 0) dd_X8_layOut_18 ?_
  refine sA_istore_n (lv' := [(2, gs_iv 0), (0, .ref 0), (1, gs_iv g)]) dd_X8_layOut_19 rfl (by decide) rfl ?_
  have b54 : (1 : Int) ≤ F47 0 11 ∧ F47 0 11 ≤ 3 := I48.1 0 11
  have b55 : (0 : Int) ≤ F47 0 12 ∧ F47 0 12 ≤ 12 := I48.1 0 12
  have b56 := gs_row_sz gs_row_3 I48
  refine sA_sub (lv2 := [(2, gs_iv 0), (0, .ref 0), (1, gs_iv g)]) (List.forall_mem_cons.mpr ⟨(.head _), (List.forall_mem_cons.mpr ⟨(.tail _ (.head _)), (List.forall_mem_cons.mpr ⟨(.tail _ (.tail _ (.head _))), (fun _ h => absurd h List.not_mem_nil)⟩)⟩)⟩) ?_
  exact (k_X8_layOut_vg hI hg (8 - 0 : Int).toNat.succ) 0 F47 A I48 f49 (by omega) (by omega) (by omega) (by omega) (fun i hi => by first | (exfalso; omega) | (by_cases h : i = p.toNat <;> first | (rw [g51 _ _ (by omega)]; exact i4 i (by omega)) | (rw [h]; omega) | fail) | fail) (by omega)
theorem c_X8_skin_vg {g : Int} {F A : gs_F} (hI : gs_I F A) (hg : -2147483648 ≤ g ∧ g ≤ 2147483647) : sC m_X8_skin 7 [.ref 0, gs_iv g] F A (fun rv F' A' => ∃ z : Int, rv = some (gs_iv z) ∧ gs_I F' A' ∧ gs_fr (fun c j => (c = 0 ∧ (j = 11 ∨ j = 12)) ∨ (c = 3 ∧ j = 1) ∨ (90 ≤ c ∧ c < 106 ∧ j = 1) ∨ (c = 5 ∧ j = 0) ∨ ((c = 8 ∨ c = 10) ∧ j = 1)) (fun c => c = 9 ∨ c = 11 ∨ c = 6) F A F' A' ∧ ((1 ≤ g ∧ g ≤ 3 ∧ z = 2 * g ∧ F' 0 11 = g ∧ F' 0 12 = 0 ∧ F' 3 1 = 0 ∧ F' 5 0 = 3 * g - 1 ∧ (∀ i : Nat, i < 8 → F' (90 + 2 * i) 1 = 0) ∧ gs_W (A' 6) g) ∨ ((g < 1 ∨ 3 < g) ∧ z = -1002 ∧ F' = F ∧ A' = A))) := by
  refine sC_of ok_X8_skin.1 (Nat.le_of_ble_eq_true rfl) ?_
  show sA _ _ _ 0 [(0, .ref 0), (1, gs_iv g)] [] F A
  have hf : gs_fr (fun c j => (c = 0 ∧ (j = 11 ∨ j = 12)) ∨ (c = 3 ∧ j = 1) ∨ (90 ≤ c ∧ c < 106 ∧ j = 1) ∨ (c = 5 ∧ j = 0) ∨ ((c = 8 ∨ c = 10) ∧ j = 1)) (fun c => c = 9 ∨ c = 11 ∨ c = 6) F A F A := gs_fr_refl _ _ _ _
  refine sA_iload_n dd_X8_skin_0 rfl (.tail _ (.head _)) ?_
  refine sA_iconst (z := 1) dd_X8_skin_1 ?_
  refine sA_icmp_lt (tgt := 10) dd_X8_skin_2 (by decide) (by omega) (by omega) (fun q1 => ?_) (fun q1 => ?_)
  · skip
    refine sA_sipush (z := (-1002)) dd_X8_skin_10 (by decide) ?_
    refine sA_iret (z := -1002) dd_X8_skin_13 rfl ?_
    refine ⟨_, rfl, hI, hf, ?_⟩
    exact .inr ⟨by omega, by omega, rfl, rfl⟩
  · skip
    refine sA_iload_n dd_X8_skin_5 rfl (.tail _ (.head _)) ?_
    refine sA_iconst (z := 3) dd_X8_skin_6 ?_
    refine sA_icmp_le (tgt := 14) dd_X8_skin_7 (by decide) (by omega) (by omega) (fun q2 => ?_) (fun q2 => ?_)
    · skip
      refine sA_aload_n dd_X8_skin_14 rfl (.head _) ?_
      refine sA_iload_n dd_X8_skin_15 rfl (.tail _ (.head _)) ?_
      refine sA_callV (y2 := m_X8_layOut) (n2 := 1) (d2 := 6) (a := 0) (ci := 8) (q := (RX8, TX8, 13)) (as := [gs_iv g]) (rest := []) dd_X8_skin_16 ok_X8_layOut ml_X8_81 rfl rfl (by decide) gs_s0 rfl rfl (Nat.le_of_ble_eq_true rfl) (by decide) (c_X8_layOut_vg hI (by omega)) (fun r3 F4 A5 h6 => ?_)
      obtain ⟨e8, I9, f10, x7⟩ := h6
      subst e8
      have f11 := gs_fr_tr hf f10 (fun b j h => by first | exact False.elim h | omega | (dsimp only at h ⊢; omega) | fail) (fun b h => by first | exact False.elim h | omega | (dsimp only at h ⊢; omega) | fail)
      have y12 : F4 0 11 = g ∧ F4 0 12 = 0 ∧ F4 3 1 = 0 ∧ F4 5 0 = 3 * g - 1 ∧ (∀ i : Nat, i < 8 → F4 (90 + 2 * i) 1 = 0) ∧ gs_W (A5 6) g := x7
      clear x7
      show sA _ _ _ 19 _ [] _ _
      refine sA_iconst (z := 2) dd_X8_skin_19 ?_
      refine sA_iload_n dd_X8_skin_20 rfl (.tail _ (.head _)) ?_
      refine sA_imul dd_X8_skin_21 ?_
      refine sA_iret (z := 2 * g) dd_X8_skin_22 rfl ?_
      refine ⟨_, rfl, I9, f11, ?_⟩
      exact .inl ⟨by omega, by omega, by omega, by omega, by omega, by omega, by omega, y12.2.2.2.2.1, y12.2.2.2.2.2⟩
    · skip
      refine sA_sipush (z := (-1002)) dd_X8_skin_10 (by decide) ?_
      refine sA_iret (z := -1002) dd_X8_skin_13 rfl ?_
      refine ⟨_, rfl, hI, hf, ?_⟩
      exact .inr ⟨by omega, by omega, rfl, rfl⟩
theorem c_X4_becomeLetter_vf {a L : Nat} {x : Int} {F A : gs_F} (hI : gs_I F A) (hr : gs_row a L) (hx : -9 ≤ x ∧ x ≤ 9) : sC m_X4_becomeLetter 1 [.ref a, gs_iv x] F A (fun rv F' A' => rv = none ∧ gs_I F' A' ∧ gs_fr (fun c j => c = a ∧ j = 1) (fun c => c = a + 1) F A F' A' ∧ (F' a 1 = 1 ∧ A' (a + 1) = gs_u (A (a + 1)) 0 x)) := by
  refine sC_of ok_X4_becomeLetter.1 (Nat.le_of_ble_eq_true rfl) ?_
  show sA _ _ _ 0 [(0, .ref a), (1, gs_iv x)] [] F A
  have hf : gs_fr (fun c j => c = a ∧ j = 1) (fun c => c = a + 1) F A F A := gs_fr_refl _ _ _ _
  have b1 := gs_row_sz hr hI
  have u2 : A (a + 1) = A (a + 1) := rfl
  have hL := hr.2.2.2.2.2.1
  refine sA_aload_n dd_X4_becomeLetter_0 rfl (.head _) ?_
  refine sA_getr (ci := 4) (j := 0) (q := (RX4, TX4, 2)) dd_X4_becomeLetter_1 rfl (by decide) fl_X4_13 (Nat.lt_of_succ_lt hr.1) hr.2.1 rfl ?_
  refine sA_iconst (z := 0) dd_X4_becomeLetter_4 ?_
  refine sA_iload_n dd_X4_becomeLetter_5 rfl (.tail _ (.head _)) ?_
  refine sA_iast (n := L) dd_X4_becomeLetter_6 hr.1 hr.2.2.1 (by omega) (Nat.le_trans hr.2.2.2.2.2.2 (by decide)) ?_
  have I4 : gs_I F (gs_up A (a + 1) ((0 : Int).toNat) x) := gs_row_ast hr hI (by omega)
  have f5 := gs_fr_ast hf (a := a + 1) (z := x) (i := (0 : Int).toNat) (by first | omega | (dsimp only; omega) | (dsimp only) | fail)
  have u6 : (gs_up A (a + 1) ((0 : Int).toNat) x) (a + 1) = gs_u (A (a + 1)) ((0 : Int).toNat) x := (gs_up_u A (a + 1) ((0 : Int).toNat) x).trans (congrArg (fun f => gs_u f ((0 : Int).toNat) x) u2)
  generalize gs_up A (a + 1) ((0 : Int).toNat) x = A3 at I4 f5 u6 ⊢
  refine sA_aload_n dd_X4_becomeLetter_7 rfl (.head _) ?_
  refine sA_iconst (z := 1) dd_X4_becomeLetter_8 ?_
  refine sA_put (ci := 4) (j := 1) (q := (RX4, TX4, 2)) (ty := .int) dd_X4_becomeLetter_9 rfl (by decide) fl_X4_19 rfl (tyX4_ok 1 (by decide)) rfl rfl (Nat.lt_of_succ_lt hr.1) hr.2.1 rfl ?_
  have I8 : gs_I (gs_up F a 1 1) A3 := gs_row_put hr I4 (by omega)
  have f9 := gs_fr_put f5 (a := a) (z := 1) (j := 1) (by first | omega | (dsimp only; omega) | (dsimp only) | fail)
  have v10 : gs_up F a 1 1 a 1 = 1 := gs_up_self _ _ _ _
  generalize gs_up F a 1 1 = F7 at I8 f9 v10 ⊢
  refine sA_vret dd_X4_becomeLetter_12 rfl ?_
  refine ⟨rfl, I8, f9, ?_⟩
  exact ⟨by omega, u6⟩
theorem c_X9_takeLetter_vf {x : Int} {F A : gs_F} (hI : gs_I F A) (hx : -6 ≤ x ∧ x ≤ 6) : sC m_X9_takeLetter 1 [.ref 106, gs_iv x] F A (fun rv F' A' => rv = none ∧ gs_I F' A' ∧ gs_fr (fun c j => c = 106 ∧ j = 13) (fun c => c = 114) F A F' A' ∧ (F' 106 13 = 1 ∧ A' 114 = gs_u (A 114) 0 x)) := by
  refine sC_of ok_X9_takeLetter.1 (Nat.le_of_ble_eq_true rfl) ?_
  show sA _ _ _ 0 [(0, .ref 106), (1, gs_iv x)] [] F A
  have hf : gs_fr (fun c j => c = 106 ∧ j = 13) (fun c => c = 114) F A F A := gs_fr_refl _ _ _ _
  have u1 : A 114 = A 114 := rfl
  refine sA_aload_n dd_X9_takeLetter_0 rfl (.head _) ?_
  refine sA_iconst (z := 1) dd_X9_takeLetter_1 ?_
  refine sA_put (ci := 9) (j := 13) (q := (RX9, TX9, 28)) (ty := .int) dd_X9_takeLetter_2 rfl (by decide) fl_X9_167 rfl (tyX9_ok 13 (by decide)) rfl rfl (by decide) gs_s106 rfl ?_
  have I3 : gs_I (gs_up F 106 13 1) A := gs_I_put hI (show (0 : Int) ≤ 1 ∧ 1 ≤ 400 by omega)
  have f4 := gs_fr_put hf (a := 106) (z := 1) (j := 13) (by first | omega | (dsimp only; omega) | (dsimp only) | fail)
  have v5 : gs_up F 106 13 1 106 13 = 1 := gs_up_self _ _ _ _
  generalize gs_up F 106 13 1 = F2 at I3 f4 v5 ⊢
  refine sA_aload_n dd_X9_takeLetter_5 rfl (.head _) ?_
  refine sA_getr (ci := 9) (j := 12) (q := (RX9, TX9, 28)) dd_X9_takeLetter_6 rfl (by decide) fl_X9_31 (by decide) gs_s106 rfl ?_
  refine sA_iconst (z := 0) dd_X9_takeLetter_9 ?_
  refine sA_iload_n dd_X9_takeLetter_10 rfl (.tail _ (.head _)) ?_
  refine sA_iast (n := 401) dd_X9_takeLetter_11 (by decide) gs_s114 (by omega) (by decide) ?_
  have I7 : gs_I F2 (gs_up A 114 ((0 : Int).toNat) x) := gs_I_ast I3 (show (-9 : Int) ≤ x ∧ x ≤ 9 by omega)
  have f8 := gs_fr_ast f4 (a := 114) (z := x) (i := (0 : Int).toNat) (by first | omega | (dsimp only; omega) | (dsimp only) | fail)
  have u9 : (gs_up A 114 ((0 : Int).toNat) x) 114 = gs_u (A 114) ((0 : Int).toNat) x := (gs_up_u A 114 ((0 : Int).toNat) x).trans (congrArg (fun f => gs_u f ((0 : Int).toNat) x) u1)
  generalize gs_up A 114 ((0 : Int).toNat) x = A6 at I7 f8 u9 ⊢
  refine sA_vret dd_X9_takeLetter_12 rfl ?_
  refine ⟨rfl, I7, f8, ?_⟩
  exact ⟨by omega, u9⟩
theorem c_X8_image_vf {p x i : Int} {F A : gs_F} (hI : gs_I F A) (hp : -2147483648 ≤ p ∧ p ≤ 2147483647) (hx : -2147483648 ≤ x ∧ x ≤ 2147483647) (hi : -2147483648 ≤ i ∧ i ≤ 2147483647) (hW : gs_W (A 6) (F 0 11)) (hcd : 0 ≤ p → p ≤ 7 → ∀ i : Int, 0 ≤ i → i < F (90 + 2 * p.toNat) 1 → 0 ≤ A (90 + 2 * p.toNat + 1) i.toNat ∧ A (90 + 2 * p.toNat + 1) i.toNat < 6 * F 0 11 - 2) : sC m_X8_image 4 [.ref 0, gs_iv p, gs_iv x, gs_iv i] F A (fun rv F' A' => ∃ z : Int, rv = some (gs_iv z) ∧ gs_I F' A' ∧ gs_fr (fun c j => c = 48 ∧ j = 1) (fun c => c = 49 ∨ c = 7) F A F' A' ∧ (((p < 0 ∨ 7 < p) ∧ z = -1001) ∨ (0 ≤ p ∧ p ≤ 7 ∧ (x < 1 ∨ 2 * F 0 11 < x) ∧ z = -1002) ∨ (0 ≤ p ∧ p ≤ 7 ∧ 1 ≤ x ∧ x ≤ 2 * F 0 11 ∧ ((sp_pl (fun u => sp_tw (sp_w (F 0 11) u)) (A (90 + 2 * p.toNat + 1)) (F (90 + 2 * p.toNat) 1).toNat [x] = none ∧ z = -1005) ∨ (sp_pl (fun u => sp_tw (sp_w (F 0 11) u)) (A (90 + 2 * p.toNat + 1)) (F (90 + 2 * p.toNat) 1).toNat [x] = some (gs_stk (A' 49) (F' 48 1).toNat) ∧ ((i = -1 ∧ z = F' 48 1) ∨ (i ≠ -1 ∧ 0 ≤ i ∧ i < F' 48 1 ∧ z = A' 49 i.toNat) ∨ (i ≠ -1 ∧ (i < 0 ∨ F' 48 1 ≤ i) ∧ z = 0))))))) := by
  refine sC_of ok_X8_image.1 (Nat.le_of_ble_eq_true rfl) ?_
  show sA _ _ _ 0 [(0, .ref 0), (1, gs_iv p), (2, gs_iv x), (3, gs_iv i)] [] F A
  have hf : gs_fr (fun c j => c = 48 ∧ j = 1) (fun c => c = 49 ∨ c = 7) F A F A := gs_fr_refl _ _ _ _
  have u1 : A 49 = A 49 := rfl
  refine sA_iload_n dd_X8_image_0 rfl (.tail _ (.head _)) ?_
  refine sA_callS (y2 := m_X8_isPlan) (n2 := 1) (d2 := 1) (as := [gs_iv p]) (rest := []) dd_X8_image_1 ok_X8_isPlan ml_X8_148 rfl rfl (Nat.le_of_ble_eq_true rfl) (by decide) (c_X8_isPlan (by omega)) (fun r2 F3 A4 h5 => ?_)
  obtain ⟨z8, e7, e9, e10, x6⟩ := h5
  subst e7 e9 e10
  show sA _ _ _ 4 _ [gs_iv z8] _ _
  refine sA_if_ne (tgt := 11) dd_X8_image_4 (by decide) (by omega) (fun q11 => ?_) (fun q11 => ?_)
  · skip
    refine sA_aload_n dd_X8_image_11 rfl (.head _) ?_
    refine sA_iload_n dd_X8_image_12 rfl (.tail _ (.tail _ (.head _))) ?_
    refine sA_callV (y2 := m_X8_isLetter) (n2 := 1) (d2 := 1) (a := 0) (ci := 8) (q := (RX8, TX8, 13)) (as := [gs_iv x]) (rest := []) dd_X8_image_13 ok_X8_isLetter ml_X8_175 rfl rfl (by decide) gs_s0 rfl rfl (Nat.le_of_ble_eq_true rfl) (by decide) (c_X8_isLetter hI (by omega)) (fun r12 F13 A14 h15 => ?_)
    obtain ⟨z18, e17, e19, e20, x16⟩ := h15
    subst e17 e19 e20
    show sA _ _ _ 16 _ [gs_iv z18] _ _
    refine sA_if_ne (tgt := 23) dd_X8_image_16 (by decide) (by omega) (fun q21 => ?_) (fun q21 => ?_)
    · skip
      refine sA_aload_n dd_X8_image_23 rfl (.head _) ?_
      refine sA_getr (ci := 8) (j := 8) (q := (RX8, TX8, 13)) dd_X8_image_24 rfl (by decide) fl_X8_69 (by decide) gs_s0 rfl ?_
      refine sA_iload_n dd_X8_image_27 rfl (.tail _ (.tail _ (.head _))) ?_
      refine sA_callV (y2 := m_X4_becomeLetter) (n2 := 1) (d2 := 1) (a := 48) (ci := 4) (q := (RX4, TX4, 2)) (as := [gs_iv x]) (rest := []) dd_X8_image_28 ok_X4_becomeLetter ml_X8_178 rfl rfl (Nat.lt_of_succ_lt gs_row_48.1) gs_row_48.2.1 rfl rfl (Nat.le_of_ble_eq_true rfl) (by decide) (c_X4_becomeLetter_vf hI gs_row_48 (by omega)) (fun r22 F23 A24 h25 => ?_)
      obtain ⟨e27, I28, f29, x26⟩ := h25
      subst e27
      have f30 := gs_fr_tr hf f29 (fun b j h => by first | exact False.elim h | omega | (dsimp only at h ⊢; omega) | fail) (fun b h => by first | exact False.elim h | omega | (dsimp only at h ⊢; omega) | fail)
      have u31 : A24 49 = A24 49 := rfl
      have y32 : F23 48 1 = 1 ∧ A24 49 = gs_u (A 49) 0 x := x26
      clear x26
      show sA _ _ _ 31 _ [] _ _
      refine sA_aload_n dd_X8_image_31 rfl (.head _) ?_
      refine sA_getr (ci := 8) (j := 3) (q := (RX8, TX8, 13)) dd_X8_image_32 rfl (by decide) fl_X8_33 (by decide) gs_s0 rfl ?_
      refine sA_aload_n dd_X8_image_35 rfl (.head _) ?_
      refine sA_getr (ci := 8) (j := 1) (q := (RX8, TX8, 13)) dd_X8_image_36 rfl (by decide) fl_X8_17 (by decide) gs_s0 rfl ?_
      refine sA_iload_n dd_X8_image_39 rfl (.tail _ (.head _)) ?_
      refine sA_aald (n := 8) dd_X8_image_40 (by decide) (by decide) (by decide) gs_s2 (by omega) (by decide) ?_
      have g33 := gs_plan_at (k := p.toNat) (by omega)
      have hg : (1 : Int) ≤ F 0 11 ∧ F 0 11 ≤ 3 := hI.1 0 11
      have hL : (400 : Nat) = 400 := rfl
      have y28 := y32
      have hstk : gs_stk (A24 49) (F23 48 1).toNat = [x] := by
        rw [y28.1, y28.2]
        show [gs_u (A 49) 0 x 0] = [x]
        rw [gs_u_self]
      have hV1 : sp_val (F 0 11) (gs_stk (A24 49) (F23 48 1).toNat) := by
        rw [hstk]
        intro y hy
        rw [List.mem_singleton] at hy
        omega
      have hpl : A24 (90 + 2 * p.toNat + 1) = A (90 + 2 * p.toNat + 1) := f29.2 _ (by dsimp only; omega)
      have hpn : F23 (90 + 2 * p.toNat) 1 = F (90 + 2 * p.toNat) 1 := f29.1 _ _ (by dsimp only; omega)
      have hW1 : gs_W (A24 6) (F 0 11) := by rw [f29.2 6 (by dsimp only; omega)]; exact hW
      have hcd1 : ∀ i : Int, 0 ≤ i → i < F23 (90 + 2 * p.toNat) 1 → 0 ≤ A24 (90 + 2 * p.toNat + 1) i.toNat ∧ A24 (90 + 2 * p.toNat + 1) i.toNat < 6 * F 0 11 - 2 := by rw [hpl, hpn]; exact hcd (by omega) (by omega)
      refine sA_aload_n dd_X8_image_41 rfl (.head _) ?_
      refine sA_getr (ci := 8) (j := 8) (q := (RX8, TX8, 13)) dd_X8_image_42 rfl (by decide) fl_X8_69 (by decide) gs_s0 rfl ?_
      refine sA_callV (y2 := m_X7_doPlan) (n2 := 2) (d2 := 3) (a := 5) (ci := 7) (q := (RX7, TX7, 5)) (as := [.ref (90 + 2 * p.toNat), .ref 48]) (rest := []) dd_X8_image_45 ok_X7_doPlan ml_X8_181 rfl rfl (by decide) gs_s5 rfl rfl (Nat.le_of_ble_eq_true rfl) (by decide) (c_X7_doPlan_vf I28 g33 gs_row_48 hg hcd1 hW1 hV1 hL (by omega) (by omega) (by omega)) (fun r34 F35 A36 h37 => ?_)
      obtain ⟨z40, e39, I41, f42, x38⟩ := h37
      subst e39
      have f43 := gs_fr_tr f30 f42 (fun b j h => by first | exact False.elim h | omega | (dsimp only at h ⊢; omega) | fail) (fun b h => by first | exact False.elim h | omega | (dsimp only at h ⊢; omega) | fail)
      have u44 : A36 49 = A36 49 := rfl
      have y45 : (z40 = 1 ∧ sp_pl (fun u => sp_tw (sp_w (F 0 11) u)) (A24 ((90 + 2 * p.toNat) + 1)) (F23 (90 + 2 * p.toNat) 1).toNat (gs_stk (A24 49) (F23 48 1).toNat) = some (gs_stk (A36 49) (F35 48 1).toNat)) ∨ (z40 = 0 ∧ sp_pl (fun u => sp_tw (sp_w (F 0 11) u)) (A24 ((90 + 2 * p.toNat) + 1)) (F23 (90 + 2 * p.toNat) 1).toNat (gs_stk (A24 49) (F23 48 1).toNat) = none) := x38
      clear x38
      show sA _ _ _ 48 _ [gs_iv z40] _ _
      refine sA_if_ne (tgt := 55) dd_X8_image_48 (by decide) (by omega) (fun q46 => ?_) (fun q46 => ?_)
      · skip
        refine sA_iload_n dd_X8_image_55 rfl (.tail _ (.tail _ (.tail _ (.head _)))) ?_
        refine sA_iconst (z := (-1)) dd_X8_image_56 ?_
        refine sA_icmp_ne (tgt := 68) dd_X8_image_57 (by decide) (by omega) (by omega) (fun q47 => ?_) (fun q47 => ?_)
        · skip
          refine sA_iload_n dd_X8_image_68 rfl (.tail _ (.tail _ (.tail _ (.head _)))) ?_
          refine sA_if_lt (tgt := 95) dd_X8_image_69 (by decide) (by omega) (fun q48 => ?_) (fun q48 => ?_)
          · skip
            refine sA_iconst (z := 0) dd_X8_image_95 ?_
            refine sA_iret (z := 0) dd_X8_image_96 rfl ?_
            refine ⟨_, rfl, I41, f43, ?_⟩
            have yy := y45
            rw [hpl, hpn, hstk] at yy
            rcases yy with y | y
            · exact .inr (.inr ⟨by omega, by omega, by omega, by omega, .inr ⟨y.2, by omega⟩⟩)
            · exfalso
              omega
          · skip
            refine sA_iload_n dd_X8_image_72 rfl (.tail _ (.tail _ (.tail _ (.head _)))) ?_
            refine sA_aload_n dd_X8_image_73 rfl (.head _) ?_
            refine sA_getr (ci := 8) (j := 8) (q := (RX8, TX8, 13)) dd_X8_image_74 rfl (by decide) fl_X8_69 (by decide) gs_s0 rfl ?_
            refine sA_geti (ci := 4) (j := 1) (q := (RX4, TX4, 2)) dd_X8_image_77 rfl (by decide) fl_X8_88 (Nat.lt_of_succ_lt gs_row_48.1) gs_row_48.2.1 rfl ?_
            have b49 := gs_row_sz gs_row_48 I41
            refine sA_icmp_ge (tgt := 95) dd_X8_image_80 (by decide) (by omega) (by omega) (fun q50 => ?_) (fun q50 => ?_)
            · skip
              refine sA_iconst (z := 0) dd_X8_image_95 ?_
              refine sA_iret (z := 0) dd_X8_image_96 rfl ?_
              refine ⟨_, rfl, I41, f43, ?_⟩
              have yy := y45
              rw [hpl, hpn, hstk] at yy
              rcases yy with y | y
              · exact .inr (.inr ⟨by omega, by omega, by omega, by omega, .inr ⟨y.2, by omega⟩⟩)
              · exfalso
                omega
            · skip
              refine sA_aload_n dd_X8_image_83 rfl (.head _) ?_
              refine sA_getr (ci := 8) (j := 8) (q := (RX8, TX8, 13)) dd_X8_image_84 rfl (by decide) fl_X8_69 (by decide) gs_s0 rfl ?_
              refine sA_getr (ci := 4) (j := 0) (q := (RX4, TX4, 2)) dd_X8_image_87 rfl (by decide) fl_X8_123 (Nat.lt_of_succ_lt gs_row_48.1) gs_row_48.2.1 rfl ?_
              refine sA_iload_n dd_X8_image_90 rfl (.tail _ (.tail _ (.tail _ (.head _)))) ?_
              refine sA_iald (n := 400) dd_X8_image_91 gs_row_48.1 gs_row_48.2.2.1 (by omega) (Nat.le_trans gs_row_48.2.2.2.2.2.2 (by decide)) ?_
              have b51 := gs_row_el gs_row_48 I41 i.toNat
              refine sA_goto (tgt := 96) dd_X8_image_92 (by decide) ?_
              refine sA_iret (z := A36 49 i.toNat) dd_X8_image_96 rfl ?_
              refine ⟨_, rfl, I41, f43, ?_⟩
              have yy := y45
              rw [hpl, hpn, hstk] at yy
              rcases yy with y | y
              · exact .inr (.inr ⟨by omega, by omega, by omega, by omega, .inr ⟨y.2, by omega⟩⟩)
              · exfalso
                omega
        · skip
          refine sA_aload_n dd_X8_image_60 rfl (.head _) ?_
          refine sA_getr (ci := 8) (j := 8) (q := (RX8, TX8, 13)) dd_X8_image_61 rfl (by decide) fl_X8_69 (by decide) gs_s0 rfl ?_
          refine sA_geti (ci := 4) (j := 1) (q := (RX4, TX4, 2)) dd_X8_image_64 rfl (by decide) fl_X8_88 (Nat.lt_of_succ_lt gs_row_48.1) gs_row_48.2.1 rfl ?_
          have b52 := gs_row_sz gs_row_48 I41
          refine sA_iret (z := F35 48 1) dd_X8_image_67 rfl ?_
          refine ⟨_, rfl, I41, f43, ?_⟩
          have yy := y45
          rw [hpl, hpn, hstk] at yy
          rcases yy with y | y
          · exact .inr (.inr ⟨by omega, by omega, by omega, by omega, .inr ⟨y.2, by omega⟩⟩)
          · exfalso
            omega
      · skip
        refine sA_sipush (z := (-1005)) dd_X8_image_51 (by decide) ?_
        refine sA_iret (z := -1005) dd_X8_image_54 rfl ?_
        refine ⟨_, rfl, I41, f43, ?_⟩
        have yy := y45
        rw [hpl, hpn, hstk] at yy
        rcases yy with y | y
        · exfalso
          omega
        · exact .inr (.inr ⟨by omega, by omega, by omega, by omega, .inl ⟨y.2, rfl⟩⟩)
    · skip
      refine sA_sipush (z := (-1002)) dd_X8_image_19 (by decide) ?_
      refine sA_iret (z := -1002) dd_X8_image_22 rfl ?_
      refine ⟨_, rfl, hI, hf, ?_⟩
      exact .inr (.inl ⟨by omega, by omega, by omega, rfl⟩)
  · skip
    refine sA_sipush (z := (-1001)) dd_X8_image_7 (by decide) ?_
    refine sA_iret (z := -1001) dd_X8_image_10 rfl ?_
    refine ⟨_, rfl, hI, hf, ?_⟩
    exact .inl ⟨by omega, rfl⟩
theorem c_X9_image_vf {p x i : Int} {F A : gs_F} (hI : gs_I F A) (hp : -2147483648 ≤ p ∧ p ≤ 2147483647) (hx : -2147483648 ≤ x ∧ x ≤ 2147483647) (hi : -2147483648 ≤ i ∧ i ≤ 2147483647) (hcd : 0 ≤ p → p ≤ 7 → ∀ i : Int, 0 ≤ i → i < A 110 p.toNat → 0 ≤ A 111 (60 * p + i).toNat ∧ A 111 (60 * p + i).toNat ≤ 15) : sC m_X9_image 6 [.ref 106, gs_iv p, gs_iv x, gs_iv i] F A (fun rv F' A' => ∃ z : Int, rv = some (gs_iv z) ∧ gs_I F' A' ∧ gs_fr (fun c j => c = 106 ∧ (j = 13 ∨ j = 15)) (fun c => c = 114 ∨ c = 115) F A F' A' ∧ (((p < 0 ∨ 7 < p) ∧ z = -1001) ∨ (0 ≤ p ∧ p ≤ 7 ∧ (x < 1 ∨ 2 * F 106 0 < x) ∧ z = -1002) ∨ (0 ≤ p ∧ p ≤ 7 ∧ 1 ≤ x ∧ x ≤ 2 * F 106 0 ∧ ((sp_pl (fun u => sp_tw (sp_m (F 106 0) u)) (fun i => A 111 (60 * p.toNat + i)) (A 110 p.toNat).toNat [x] = none ∧ z = -1005) ∨ (sp_pl (fun u => sp_tw (sp_m (F 106 0) u)) (fun i => A 111 (60 * p.toNat + i)) (A 110 p.toNat).toNat [x] = some (gs_stk (A' 114) (F' 106 13).toNat) ∧ ((i = -1 ∧ z = F' 106 13) ∨ (i ≠ -1 ∧ 0 ≤ i ∧ i < F' 106 13 ∧ z = A' 114 i.toNat) ∨ (i ≠ -1 ∧ (i < 0 ∨ F' 106 13 ≤ i) ∧ z = 0))))))) := by
  refine sC_of ok_X9_image.1 (Nat.le_of_ble_eq_true rfl) ?_
  show sA _ _ _ 0 [(0, .ref 106), (1, gs_iv p), (2, gs_iv x), (3, gs_iv i)] [] F A
  have hf : gs_fr (fun c j => c = 106 ∧ (j = 13 ∨ j = 15)) (fun c => c = 114 ∨ c = 115) F A F A := gs_fr_refl _ _ _ _
  refine sA_aload_n dd_X9_image_0 rfl (.head _) ?_
  refine sA_iload_n dd_X9_image_1 rfl (.tail _ (.head _)) ?_
  refine sA_callV (y2 := m_X9_noPlan) (n2 := 1) (d2 := 2) (a := 106) (ci := 9) (q := (RX9, TX9, 28)) (as := [gs_iv p]) (rest := []) dd_X9_image_2 ok_X9_noPlan ml_X9_218 rfl rfl (by decide) gs_s106 rfl rfl (Nat.le_of_ble_eq_true rfl) (by decide) (c_X9_noPlan hI (by omega)) (fun r1 F2 A3 h4 => ?_)
  obtain ⟨z7, e6, e8, e9, x5⟩ := h4
  subst e6 e8 e9
  show sA _ _ _ 5 _ [gs_iv z7] _ _
  refine sA_if_eq (tgt := 12) dd_X9_image_5 (by decide) (by omega) (fun q10 => ?_) (fun q10 => ?_)
  · skip
    refine sA_iload_n dd_X9_image_12 rfl (.tail _ (.tail _ (.head _))) ?_
    refine sA_i2l dd_X9_image_13 (by omega) ?_
    refine sA_lconst (z := 1) dd_X9_image_14 (by decide) ?_
    refine sA_iconst (z := 2) dd_X9_image_15 ?_
    refine sA_aload_n dd_X9_image_16 rfl (.head _) ?_
    refine sA_geti (ci := 9) (j := 0) (q := (RX9, TX9, 28)) dd_X9_image_17 rfl (by decide) fl_X9_64 (by decide) gs_s106 rfl ?_
    have b11 : (1 : Int) ≤ F 106 0 ∧ F 106 0 ≤ 3 := hI.1 106 0
    refine sA_imul dd_X9_image_20 ?_
    refine sA_i2l dd_X9_image_21 (by omega) ?_
    refine sA_callS (y2 := m_X9_in) (n2 := 3) (d2 := 1) (as := [gs_lv x, gs_lv 1, gs_lv (2 * (F 106 0))]) (rest := []) dd_X9_image_22 ok_X9_in ml_X9_75 rfl rfl (Nat.le_of_ble_eq_true rfl) (by decide) (c_X9_in (by omega) (by omega) (by omega)) (fun r12 F13 A14 h15 => ?_)
    obtain ⟨z18, e17, e19, e20, x16⟩ := h15
    subst e17 e19 e20
    show sA _ _ _ 25 _ [gs_iv z18] _ _
    refine sA_if_ne (tgt := 32) dd_X9_image_25 (by decide) (by omega) (fun q21 => ?_) (fun q21 => ?_)
    · skip
      refine sA_aload_n dd_X9_image_32 rfl (.head _) ?_
      refine sA_iload_n dd_X9_image_33 rfl (.tail _ (.tail _ (.head _))) ?_
      refine sA_callV (y2 := m_X9_takeLetter) (n2 := 1) (d2 := 1) (a := 106) (ci := 9) (q := (RX9, TX9, 28)) (as := [gs_iv x]) (rest := []) dd_X9_image_34 ok_X9_takeLetter ml_X9_224 rfl rfl (by decide) gs_s106 rfl rfl (Nat.le_of_ble_eq_true rfl) (by decide) (c_X9_takeLetter_vf hI (by omega)) (fun r22 F23 A24 h25 => ?_)
      obtain ⟨e27, I28, f29, x26⟩ := h25
      subst e27
      have f30 := gs_fr_tr hf f29 (fun b j h => by first | exact False.elim h | omega | (dsimp only at h ⊢; omega) | fail) (fun b h => by first | exact False.elim h | omega | (dsimp only at h ⊢; omega) | fail)
      have y31 : F23 106 13 = 1 ∧ A24 114 = gs_u (A 114) 0 x := x26
      clear x26
      show sA _ _ _ 37 _ [] _ _
      refine sA_aload_n dd_X9_image_37 rfl (.head _) ?_
      have y34 := y31
      have hstk : gs_stk (A24 114) (F23 106 13).toNat = [x] := by
        rw [y34.1, y34.2]
        show [gs_u (A 114) 0 x 0] = [x]
        rw [gs_u_self]
      have h110 : A24 110 = A 110 := f29.2 110 (by dsimp only; omega)
      have h111 : A24 111 = A 111 := f29.2 111 (by dsimp only; omega)
      have hcd1 : ∀ i : Int, 0 ≤ i → i < A24 110 p.toNat → 0 ≤ A24 111 (60 * p + i).toNat ∧ A24 111 (60 * p + i).toNat ≤ 15 := by rw [h110, h111]; exact hcd (by omega) (by omega)
      have hg0 : F23 106 0 = F 106 0 := f29.1 106 0 (by dsimp only; omega)
      refine sA_iload_n dd_X9_image_38 rfl (.tail _ (.head _)) ?_
      refine sA_callV (y2 := m_X9_imageRow) (n2 := 1) (d2 := 5) (a := 106) (ci := 9) (q := (RX9, TX9, 28)) (as := [gs_iv p]) (rest := []) dd_X9_image_39 ok_X9_imageRow ml_X9_227 rfl rfl (by decide) gs_s106 rfl rfl (Nat.le_of_ble_eq_true rfl) (by decide) (c_X9_imageRow_vf I28 (by omega) hcd1) (fun r32 F33 A34 h35 => ?_)
      obtain ⟨z38, e37, I39, f40, x36⟩ := h35
      subst e37
      have f41 := gs_fr_tr f30 f40 (fun b j h => by first | exact False.elim h | omega | (dsimp only at h ⊢; omega) | fail) (fun b h => by first | exact False.elim h | omega | (dsimp only at h ⊢; omega) | fail)
      have y42 : (z38 = 1 ∧ sp_pl (fun u => sp_tw (sp_m (F23 106 0) u)) (fun i => A24 111 (60 * p.toNat + i)) (A24 110 p.toNat).toNat (gs_stk (A24 114) (F23 106 13).toNat) = some (gs_stk (A34 114) (F33 106 13).toNat)) ∨ (z38 = 0 ∧ sp_pl (fun u => sp_tw (sp_m (F23 106 0) u)) (fun i => A24 111 (60 * p.toNat + i)) (A24 110 p.toNat).toNat (gs_stk (A24 114) (F23 106 13).toNat) = none) := x36
      clear x36
      show sA _ _ _ 42 _ [gs_iv z38] _ _
      refine sA_if_ne (tgt := 49) dd_X9_image_42 (by decide) (by omega) (fun q43 => ?_) (fun q43 => ?_)
      · skip
        refine sA_iload_n dd_X9_image_49 rfl (.tail _ (.tail _ (.tail _ (.head _)))) ?_
        refine sA_iconst (z := (-1)) dd_X9_image_50 ?_
        refine sA_icmp_ne (tgt := 61) dd_X9_image_51 (by decide) (by omega) (by omega) (fun q44 => ?_) (fun q44 => ?_)
        · skip
          refine sA_iload_n dd_X9_image_61 rfl (.tail _ (.tail _ (.tail _ (.head _)))) ?_
          refine sA_i2l dd_X9_image_62 (by omega) ?_
          refine sA_lconst (z := 0) dd_X9_image_63 (by decide) ?_
          refine sA_aload_n dd_X9_image_64 rfl (.head _) ?_
          refine sA_geti (ci := 9) (j := 13) (q := (RX9, TX9, 28)) dd_X9_image_65 rfl (by decide) fl_X9_167 (by decide) gs_s106 rfl ?_
          have b45 : (0 : Int) ≤ F33 106 13 ∧ F33 106 13 ≤ 400 := I39.1 106 13
          refine sA_iconst (z := 1) dd_X9_image_68 ?_
          refine sA_isub dd_X9_image_69 ?_
          refine sA_i2l dd_X9_image_70 (by omega) ?_
          refine sA_callS (y2 := m_X9_in) (n2 := 3) (d2 := 1) (as := [gs_lv i, gs_lv 0, gs_lv ((F33 106 13) - 1)]) (rest := []) dd_X9_image_71 ok_X9_in ml_X9_75 rfl rfl (Nat.le_of_ble_eq_true rfl) (by decide) (c_X9_in (by omega) (by omega) (by omega)) (fun r46 F47 A48 h49 => ?_)
          obtain ⟨z52, e51, e53, e54, x50⟩ := h49
          subst e51 e53 e54
          show sA _ _ _ 74 _ [gs_iv z52] _ _
          refine sA_if_eq (tgt := 86) dd_X9_image_74 (by decide) (by omega) (fun q55 => ?_) (fun q55 => ?_)
          · skip
            refine sA_iconst (z := 0) dd_X9_image_86 ?_
            refine sA_iret (z := 0) dd_X9_image_87 rfl ?_
            refine ⟨_, rfl, I39, f41, ?_⟩
            have yy := y42
            rw [h110, h111, hg0, hstk] at yy
            rcases yy with y | y
            · exact .inr (.inr ⟨by omega, by omega, by omega, by omega, .inr ⟨y.2, by omega⟩⟩)
            · exfalso
              omega
          · skip
            refine sA_aload_n dd_X9_image_77 rfl (.head _) ?_
            refine sA_getr (ci := 9) (j := 12) (q := (RX9, TX9, 28)) dd_X9_image_78 rfl (by decide) fl_X9_31 (by decide) gs_s106 rfl ?_
            refine sA_iload_n dd_X9_image_81 rfl (.tail _ (.tail _ (.tail _ (.head _)))) ?_
            refine sA_iald (n := 401) dd_X9_image_82 (by decide) gs_s114 (by omega) (by decide) ?_
            have b56 : (-9 : Int) ≤ A34 114 i.toNat ∧ A34 114 i.toNat ≤ 9 := I39.2 114 i.toNat
            refine sA_goto (tgt := 87) dd_X9_image_83 (by decide) ?_
            refine sA_iret (z := A34 114 i.toNat) dd_X9_image_87 rfl ?_
            refine ⟨_, rfl, I39, f41, ?_⟩
            have yy := y42
            rw [h110, h111, hg0, hstk] at yy
            rcases yy with y | y
            · exact .inr (.inr ⟨by omega, by omega, by omega, by omega, .inr ⟨y.2, by omega⟩⟩)
            · exfalso
              omega
        · skip
          refine sA_aload_n dd_X9_image_54 rfl (.head _) ?_
          refine sA_geti (ci := 9) (j := 13) (q := (RX9, TX9, 28)) dd_X9_image_55 rfl (by decide) fl_X9_167 (by decide) gs_s106 rfl ?_
          have b57 : (0 : Int) ≤ F33 106 13 ∧ F33 106 13 ≤ 400 := I39.1 106 13
          refine sA_goto (tgt := 87) dd_X9_image_58 (by decide) ?_
          refine sA_iret (z := F33 106 13) dd_X9_image_87 rfl ?_
          refine ⟨_, rfl, I39, f41, ?_⟩
          have yy := y42
          rw [h110, h111, hg0, hstk] at yy
          rcases yy with y | y
          · exact .inr (.inr ⟨by omega, by omega, by omega, by omega, .inr ⟨y.2, by omega⟩⟩)
          · exfalso
            omega
      · skip
        refine sA_sipush (z := (-1005)) dd_X9_image_45 (by decide) ?_
        refine sA_iret (z := -1005) dd_X9_image_48 rfl ?_
        refine ⟨_, rfl, I39, f41, ?_⟩
        have yy := y42
        rw [h110, h111, hg0, hstk] at yy
        rcases yy with y | y
        · exfalso
          omega
        · exact .inr (.inr ⟨by omega, by omega, by omega, by omega, .inl ⟨y.2, rfl⟩⟩)
    · skip
      refine sA_sipush (z := (-1002)) dd_X9_image_28 (by decide) ?_
      refine sA_iret (z := -1002) dd_X9_image_31 rfl ?_
      refine ⟨_, rfl, hI, hf, ?_⟩
      exact .inr (.inl ⟨by omega, by omega, by omega, rfl⟩)
  · skip
    refine sA_sipush (z := (-1001)) dd_X9_image_8 (by decide) ?_
    refine sA_iret (z := -1001) dd_X9_image_11 rfl ?_
    refine ⟨_, rfl, hI, hf, ?_⟩
    exact .inl ⟨by omega, rfl⟩
end
