noncomputable section
/-! ===== the table of words of the class ===== -/
def gs_We (T : Nat → Int) (g u x : Int) : Prop := T ((u * 13 + x + 6) * 10).toNat = ((sp_w g u x).length : Int) ∧ gs_sl T (((u * 13 + x + 6) * 10).toNat + 1) (sp_w g u x).length = sp_w g u x
theorem gs_sl_back {f h : Nat → Int} {a : Nat} (N : Nat) : ∀ n : Nat, n ≤ N → (∀ i : Nat, i < n → f (a + i) = -(h (N - 1 - i))) → gs_sl f a n = ((gs_stk h N).map (fun y => -y)).take n
  | 0, _, _ => by rw [List.take_zero]; rfl
  | n + 1, hn, e => by
    have key : ∀ M : Nat, n < M → (gs_stk h M)[n]? = some (h (M - 1 - n)) := by
      intro M hM
      have gen : ∀ (M n : Nat), n < M → (gs_stk h M)[n]? = some (h (M - 1 - n)) := by
        intro M
        induction M with
        | zero => intro n hn; omega
        | succ M ih =>
          intro n hn
          match n with
          | 0 => rfl
          | n + 1 =>
            show (gs_stk h M)[n]? = some (h (M + 1 - 1 - (n + 1)))
            rw [ih n (by omega), show M + 1 - 1 - (n + 1) = M - 1 - n by omega]
      exact gen M n hM
    show gs_sl f a n ++ [f (a + n)] = _
    rw [gs_sl_back N n (by omega) (fun i hi => e i (by omega)), e n (by omega), List.take_succ, List.getElem?_map, key N (by omega)]
    rfl
theorem gs_lw_fin {T0 T1 T2 f h : Nat → Int} {g u x : Int} {n n2 : Int} (hg : 1 ≤ g ∧ g ≤ 3) (hu : 0 ≤ u ∧ u < 6 * g - 2) (hx : 1 ≤ x ∧ x ≤ 2 * g) (hst : gs_stk f n.toNat = sp_all [] (sp_m g u x)) (hn : 0 ≤ n ∧ n ≤ 9) (hn2 : 0 ≤ n2 ∧ n2 ≤ 9)
    (b1 : n2 = n) (b2 : ∀ k : Int, 0 ≤ k → k < n → h k.toNat = -(f (n - 1 - k).toNat))
    (k1 : T1 ((u * 13 + x + 6) * 10).toNat = n) (k2 : ∀ i : Int, 0 ≤ i → i < n → T1 ((u * 13 + x + 6) * 10 + 1 + i).toNat = f i.toNat) (k3 : ∀ i : Int, 0 ≤ i → (i < (u * 13 + x + 6) * 10 ∨ (u * 13 + x + 6) * 10 + 10 ≤ i) → T1 i.toNat = T0 i.toNat)
    (n1 : T2 ((u * 13 + -x + 6) * 10).toNat = n2) (n3 : ∀ i : Int, 0 ≤ i → i < n2 → T2 ((u * 13 + -x + 6) * 10 + 1 + i).toNat = h i.toNat) (n4 : ∀ i : Int, 0 ≤ i → (i < (u * 13 + -x + 6) * 10 ∨ (u * 13 + -x + 6) * 10 + 10 ≤ i) → T2 i.toNat = T1 i.toNat) :
    gs_We T2 g u x ∧ gs_We T2 g u (-x) ∧ (∀ i : Int, 0 ≤ i → (i < (u * 13 + x + 6) * 10 ∨ (u * 13 + x + 6) * 10 + 10 ≤ i) → (i < (u * 13 + -x + 6) * 10 ∨ (u * 13 + -x + 6) * 10 + 10 ≤ i) → T2 i.toNat = T0 i.toNat) := by
  have hl : (sp_w g u x).length = n.toNat := by
    unfold sp_w
    rw [List.length_reverse, ← hst, gs_stk_len]
  have hbk : sp_w g u (-x) = (sp_w g u x).reverse.map (fun y => -y) := by
    have h := sp_chk_at hg hu hx
    unfold sp_chk at h
    simp only [Bool.and_eq_true, decide_eq_true_eq] at h
    exact h.2
  have hl2 : (sp_w g u (-x)).length = n.toNat := by
    rw [hbk, List.length_map, List.length_reverse, hl]
  refine ⟨⟨?_, ?_⟩, ⟨?_, ?_⟩, fun i h1 h2 h3 => (n4 i h1 h3).trans (k3 i h1 h2)⟩
  · rw [hl, n4 _ (by omega) (by omega), k1]
    omega
  · rw [hl]
    have e := gs_sl_stk (f := T2) (h := f) (a := ((u * 13 + x + 6) * 10).toNat + 1) n.toNat (fun i hi => by
      have w := n4 ((u * 13 + x + 6) * 10 + 1 + i) (by omega) (by omega)
      have w2 := k2 i (by omega) (by omega)
      rw [show ((u * 13 + x + 6) * 10 + 1 + (i : Int)).toNat = ((u * 13 + x + 6) * 10).toNat + 1 + i by omega] at w w2
      rw [Int.toNat_natCast] at w2
      rw [w, w2])
    rw [e, hst]
    rfl
  · rw [hl2, n1]
    omega
  · rw [hl2]
    have e := gs_sl_back (f := T2) (h := f) (a := ((u * 13 + -x + 6) * 10).toNat + 1) n.toNat n.toNat (Nat.le_refl _) (fun i hi => by
      have w := n3 i (by omega) (by omega)
      have w2 := b2 i (by omega) (by omega)
      rw [show ((u * 13 + -x + 6) * 10 + 1 + (i : Int)).toNat = ((u * 13 + -x + 6) * 10).toNat + 1 + i by omega] at w
      rw [show (n - 1 - (i : Int)).toNat = n.toNat - 1 - i by omega] at w2
      rw [w, w2])
    rw [e, hbk]
    unfold sp_w
    rw [List.reverse_reverse, ← hst, List.take_of_length_le (by rw [List.length_map, gs_stk_len]; exact Nat.le_refl _)]
theorem sp_m_pos {g u x o : Int} (hx : 1 ≤ x) (ho : (u % 2 = 1 ∧ o = 1) ∨ (u % 2 ≠ 1 ∧ o = 0)) : sp_m g u x = sp_mi g (u / 2) o x 0 := by
  unfold sp_m
  rw [if_neg (show ¬ x < 0 by omega), if_neg (show ¬ x < 0 by omega)]
  rcases ho with ⟨h1, h2⟩ | ⟨h1, h2⟩
  · rw [if_pos h1, h2]
  · rw [if_neg h1, h2]
theorem sp_word1 {g t x o w : Int} (ht : t < g) (how : (o = 1 ∧ w = -1) ∨ (o = 0 ∧ w = 1)) : (if x = 2 * t + 2 then [x, w * (2 * t + 1)] else [x]) = sp_mi g t o x 0 := by
  unfold sp_mi
  rw [if_pos ht]
  by_cases q : x = 2 * t + 2
  · rw [if_pos q, if_pos q, if_neg (show ¬ (0 : Int) = 1 by decide)]
    rcases how with ⟨h1, h2⟩ | ⟨h1, h2⟩
    · rw [if_pos h1, h2, q, show -1 * (2 * t + 1) = -(2 * t + 1) by omega]
    · rw [if_neg (show ¬ o = 1 by omega), h2, q, show 1 * (2 * t + 1) = 2 * t + 1 by omega]
  · rw [if_neg q, if_neg q, if_neg (show ¬ (0 : Int) = 1 by decide)]
theorem sp_word2 {g t x o w : Int} (ht : ¬ t < g) (ht2 : t < 2 * g) (how : (o = 1 ∧ w = -1) ∨ (o = 0 ∧ w = 1)) : (if x = 2 * (t - g) + 1 then [x, -w * (2 * (t - g) + 2)] else [x]) = sp_mi g t o x 0 := by
  unfold sp_mi
  rw [if_neg ht, if_pos ht2]
  by_cases q : x = 2 * (t - g) + 1
  · rw [if_pos q, if_pos q, if_neg (show ¬ (0 : Int) = 1 by decide)]
    rcases how with ⟨h1, h2⟩ | ⟨h1, h2⟩
    · rw [if_pos h1, h2, q, show - -1 * (2 * (t - g) + 2) = 2 * (t - g) + 2 by omega]
    · rw [if_neg (show ¬ o = 1 by omega), h2, q, show -1 * (2 * (t - g) + 2) = -(2 * (t - g) + 2) by omega]
  · rw [if_neg q, if_neg q, if_neg (show ¬ (0 : Int) = 1 by decide)]
theorem sp_word3 {g t x o w : Int} (ht : ¬ t < g) (ht2 : ¬ t < 2 * g) (how : (o = 1 ∧ w = -1) ∨ (o = 0 ∧ w = 1)) : (if x = 2 * (t - 2 * g) + 2 then sp_C (t - 2 * g) ((1 - -w) / 2) ++ [x] else if x = 2 * (t - 2 * g) + 3 then sp_C (t - 2 * g) ((1 - -w) / 2) ++ ([x] ++ sp_C (t - 2 * g) ((1 - w) / 2)) else if x = 2 * (t - 2 * g) + 4 then [x] ++ sp_C (t - 2 * g) ((1 - w) / 2) else [x]) = sp_mi g t o x 0 := by
  have e1 : (1 - -w) / 2 = 1 - o := by omega
  have e2 : (1 - w) / 2 = o := by omega
  unfold sp_mi
  rw [if_neg ht, if_neg ht2, e1, e2]
  simp only [if_neg (show ¬ (0 : Int) = 1 by decide)]
theorem c_X4_push_vs {a L : Nat} {x : Int} {F A : gs_F} (hI : gs_I F A) (hr : gs_row a L) (hx : -9 ≤ x ∧ x ≤ 9) : sC m_X4_push 1 [.ref a, gs_iv x] F A (fun rv F' A' => rv = none ∧ gs_I F' A' ∧ gs_fr (fun c j => c = a ∧ j = 1) (fun c => c = a + 1) F A F' A' ∧ ((F' a 1 ≤ F a 1 + 1 ∧ 0 ≤ F' a 1) ∧ (F a 1 < (L : Int) → gs_stk (A' (a + 1)) (F' a 1).toNat = sp_push (gs_stk (A (a + 1)) (F a 1).toNat) x))) := by
  refine sC_of ok_X4_push.1 (Nat.le_of_ble_eq_true rfl) ?_
  show sA _ _ _ 0 [(0, .ref a), (1, gs_iv x)] [] F A
  have hf : gs_fr (fun c j => c = a ∧ j = 1) (fun c => c = a + 1) F A F A := gs_fr_refl _ _ _ _
  have b1 := gs_row_sz hr hI
  have u2 : A (a + 1) = A (a + 1) := rfl
  refine sA_aload_n dd_X4_push_0 rfl (.head _) ?_
  refine sA_geti (ci := 4) (j := 1) (q := (RX4, TX4, 2)) dd_X4_push_1 rfl (by decide) fl_X4_19 (Nat.lt_of_succ_lt hr.1) hr.2.1 rfl ?_
  refine sA_if_le (tgt := 36) dd_X4_push_4 (by decide) (by omega) (fun q3 => ?_) (fun q3 => ?_)
  · skip
    refine sA_aload_n dd_X4_push_36 rfl (.head _) ?_
    refine sA_geti (ci := 4) (j := 1) (q := (RX4, TX4, 2)) dd_X4_push_37 rfl (by decide) fl_X4_19 (Nat.lt_of_succ_lt hr.1) hr.2.1 rfl ?_
    refine sA_aload_n dd_X4_push_40 rfl (.head _) ?_
    refine sA_getr (ci := 4) (j := 0) (q := (RX4, TX4, 2)) dd_X4_push_41 rfl (by decide) fl_X4_13 (Nat.lt_of_succ_lt hr.1) hr.2.1 rfl ?_
    refine sA_alen (n := L) dd_X4_push_44 hr.1 hr.2.2.1 ?_
    have b4 := hr.2.2.2.2.2
    refine sA_icmp_ge (tgt := 68) dd_X4_push_45 (by decide) (by omega) (by omega) (fun q5 => ?_) (fun q5 => ?_)
    · skip
      refine sA_vret dd_X4_push_68 rfl ?_
      refine ⟨rfl, hI, hf, ?_⟩
      have hp : gs_psh (F a 1) (A (a + 1)) x (L : Int) (F a 1) (A (a + 1)) := by
        first | (exact .inl ⟨by omega, by omega, by omega, u2⟩) | (exact .inr (.inl ⟨by omega, by omega, by omega, u2⟩)) | (exact .inr (.inr ⟨by omega, by omega, by omega, u2⟩)) | fail
      exact ⟨by omega, fun h => gs_psh_stk (by omega) h hp⟩
    · skip
      refine sA_aload_n dd_X4_push_48 rfl (.head _) ?_
      refine sA_getr (ci := 4) (j := 0) (q := (RX4, TX4, 2)) dd_X4_push_49 rfl (by decide) fl_X4_13 (Nat.lt_of_succ_lt hr.1) hr.2.1 rfl ?_
      refine sA_aload_n dd_X4_push_52 rfl (.head _) ?_
      refine sA_geti (ci := 4) (j := 1) (q := (RX4, TX4, 2)) dd_X4_push_53 rfl (by decide) fl_X4_19 (Nat.lt_of_succ_lt hr.1) hr.2.1 rfl ?_
      refine sA_iload_n dd_X4_push_56 rfl (.tail _ (.head _)) ?_
      refine sA_iast (n := L) dd_X4_push_57 hr.1 hr.2.2.1 (by omega) (Nat.le_trans hr.2.2.2.2.2.2 (by decide)) ?_
      have I7 : gs_I F (gs_up A (a + 1) ((F a 1).toNat) x) := gs_row_ast hr hI (by omega)
      have f8 := gs_fr_ast hf (a := a + 1) (z := x) (i := (F a 1).toNat) (by first | omega | (dsimp only; omega) | (dsimp only) | fail)
      have u9 : (gs_up A (a + 1) ((F a 1).toNat) x) (a + 1) = gs_u (A (a + 1)) ((F a 1).toNat) x := (gs_up_u A (a + 1) ((F a 1).toNat) x).trans (congrArg (fun f => gs_u f ((F a 1).toNat) x) u2)
      generalize gs_up A (a + 1) ((F a 1).toNat) x = A6 at I7 f8 u9 ⊢
      refine sA_aload_n dd_X4_push_58 rfl (.head _) ?_
      refine sA_dup dd_X4_push_59 rfl ?_
      refine sA_geti (ci := 4) (j := 1) (q := (RX4, TX4, 2)) dd_X4_push_60 rfl (by decide) fl_X4_19 (Nat.lt_of_succ_lt hr.1) hr.2.1 rfl ?_
      refine sA_iconst (z := 1) dd_X4_push_63 ?_
      refine sA_iadd dd_X4_push_64 ?_
      refine sA_put (ci := 4) (j := 1) (q := (RX4, TX4, 2)) (ty := .int) dd_X4_push_65 rfl (by decide) fl_X4_19 rfl (tyX4_ok 1 (by decide)) rfl rfl (Nat.lt_of_succ_lt hr.1) hr.2.1 rfl ?_
      have I11 : gs_I (gs_up F a 1 ((F a 1) + 1)) A6 := gs_row_put hr I7 (by omega)
      have f12 := gs_fr_put f8 (a := a) (z := (F a 1) + 1) (j := 1) (by first | omega | (dsimp only; omega) | (dsimp only) | fail)
      have v13 : gs_up F a 1 ((F a 1) + 1) a 1 = (F a 1) + 1 := gs_up_self _ _ _ _
      generalize gs_up F a 1 ((F a 1) + 1) = F10 at I11 f12 v13 ⊢
      refine sA_vret dd_X4_push_68 rfl ?_
      refine ⟨rfl, I11, f12, ?_⟩
      have hp : gs_psh (F a 1) (A (a + 1)) x (L : Int) (F10 a 1) (A6 (a + 1)) := by
        first | (exact .inl ⟨by omega, by omega, by omega, u9⟩) | (exact .inr (.inl ⟨by omega, by omega, by omega, u9⟩)) | (exact .inr (.inr ⟨by omega, by omega, by omega, u9⟩)) | fail
      exact ⟨by omega, fun h => gs_psh_stk (by omega) h hp⟩
  · skip
    refine sA_aload_n dd_X4_push_7 rfl (.head _) ?_
    refine sA_getr (ci := 4) (j := 0) (q := (RX4, TX4, 2)) dd_X4_push_8 rfl (by decide) fl_X4_13 (Nat.lt_of_succ_lt hr.1) hr.2.1 rfl ?_
    refine sA_aload_n dd_X4_push_11 rfl (.head _) ?_
    refine sA_geti (ci := 4) (j := 1) (q := (RX4, TX4, 2)) dd_X4_push_12 rfl (by decide) fl_X4_19 (Nat.lt_of_succ_lt hr.1) hr.2.1 rfl ?_
    refine sA_iconst (z := 1) dd_X4_push_15 ?_
    refine sA_isub dd_X4_push_16 ?_
    refine sA_iald (n := L) dd_X4_push_17 hr.1 hr.2.2.1 (by omega) (Nat.le_trans hr.2.2.2.2.2.2 (by decide)) ?_
    have b14 := gs_row_el hr hI ((F a 1) - 1).toNat
    refine sA_iload_n dd_X4_push_18 rfl (.tail _ (.head _)) ?_
    refine sA_ineg dd_X4_push_19 ?_
    refine sA_icmp_ne (tgt := 36) dd_X4_push_20 (by decide) (by omega) (by omega) (fun q15 => ?_) (fun q15 => ?_)
    · skip
      refine sA_aload_n dd_X4_push_36 rfl (.head _) ?_
      refine sA_geti (ci := 4) (j := 1) (q := (RX4, TX4, 2)) dd_X4_push_37 rfl (by decide) fl_X4_19 (Nat.lt_of_succ_lt hr.1) hr.2.1 rfl ?_
      refine sA_aload_n dd_X4_push_40 rfl (.head _) ?_
      refine sA_getr (ci := 4) (j := 0) (q := (RX4, TX4, 2)) dd_X4_push_41 rfl (by decide) fl_X4_13 (Nat.lt_of_succ_lt hr.1) hr.2.1 rfl ?_
      refine sA_alen (n := L) dd_X4_push_44 hr.1 hr.2.2.1 ?_
      have b16 := hr.2.2.2.2.2
      refine sA_icmp_ge (tgt := 68) dd_X4_push_45 (by decide) (by omega) (by omega) (fun q17 => ?_) (fun q17 => ?_)
      · skip
        refine sA_vret dd_X4_push_68 rfl ?_
        refine ⟨rfl, hI, hf, ?_⟩
        have hp : gs_psh (F a 1) (A (a + 1)) x (L : Int) (F a 1) (A (a + 1)) := by
          first | (exact .inl ⟨by omega, by omega, by omega, u2⟩) | (exact .inr (.inl ⟨by omega, by omega, by omega, u2⟩)) | (exact .inr (.inr ⟨by omega, by omega, by omega, u2⟩)) | fail
        exact ⟨by omega, fun h => gs_psh_stk (by omega) h hp⟩
      · skip
        refine sA_aload_n dd_X4_push_48 rfl (.head _) ?_
        refine sA_getr (ci := 4) (j := 0) (q := (RX4, TX4, 2)) dd_X4_push_49 rfl (by decide) fl_X4_13 (Nat.lt_of_succ_lt hr.1) hr.2.1 rfl ?_
        refine sA_aload_n dd_X4_push_52 rfl (.head _) ?_
        refine sA_geti (ci := 4) (j := 1) (q := (RX4, TX4, 2)) dd_X4_push_53 rfl (by decide) fl_X4_19 (Nat.lt_of_succ_lt hr.1) hr.2.1 rfl ?_
        refine sA_iload_n dd_X4_push_56 rfl (.tail _ (.head _)) ?_
        refine sA_iast (n := L) dd_X4_push_57 hr.1 hr.2.2.1 (by omega) (Nat.le_trans hr.2.2.2.2.2.2 (by decide)) ?_
        have I19 : gs_I F (gs_up A (a + 1) ((F a 1).toNat) x) := gs_row_ast hr hI (by omega)
        have f20 := gs_fr_ast hf (a := a + 1) (z := x) (i := (F a 1).toNat) (by first | omega | (dsimp only; omega) | (dsimp only) | fail)
        have u21 : (gs_up A (a + 1) ((F a 1).toNat) x) (a + 1) = gs_u (A (a + 1)) ((F a 1).toNat) x := (gs_up_u A (a + 1) ((F a 1).toNat) x).trans (congrArg (fun f => gs_u f ((F a 1).toNat) x) u2)
        generalize gs_up A (a + 1) ((F a 1).toNat) x = A18 at I19 f20 u21 ⊢
        refine sA_aload_n dd_X4_push_58 rfl (.head _) ?_
        refine sA_dup dd_X4_push_59 rfl ?_
        refine sA_geti (ci := 4) (j := 1) (q := (RX4, TX4, 2)) dd_X4_push_60 rfl (by decide) fl_X4_19 (Nat.lt_of_succ_lt hr.1) hr.2.1 rfl ?_
        refine sA_iconst (z := 1) dd_X4_push_63 ?_
        refine sA_iadd dd_X4_push_64 ?_
        refine sA_put (ci := 4) (j := 1) (q := (RX4, TX4, 2)) (ty := .int) dd_X4_push_65 rfl (by decide) fl_X4_19 rfl (tyX4_ok 1 (by decide)) rfl rfl (Nat.lt_of_succ_lt hr.1) hr.2.1 rfl ?_
        have I23 : gs_I (gs_up F a 1 ((F a 1) + 1)) A18 := gs_row_put hr I19 (by omega)
        have f24 := gs_fr_put f20 (a := a) (z := (F a 1) + 1) (j := 1) (by first | omega | (dsimp only; omega) | (dsimp only) | fail)
        have v25 : gs_up F a 1 ((F a 1) + 1) a 1 = (F a 1) + 1 := gs_up_self _ _ _ _
        generalize gs_up F a 1 ((F a 1) + 1) = F22 at I23 f24 v25 ⊢
        refine sA_vret dd_X4_push_68 rfl ?_
        refine ⟨rfl, I23, f24, ?_⟩
        have hp : gs_psh (F a 1) (A (a + 1)) x (L : Int) (F22 a 1) (A18 (a + 1)) := by
          first | (exact .inl ⟨by omega, by omega, by omega, u21⟩) | (exact .inr (.inl ⟨by omega, by omega, by omega, u21⟩)) | (exact .inr (.inr ⟨by omega, by omega, by omega, u21⟩)) | fail
        exact ⟨by omega, fun h => gs_psh_stk (by omega) h hp⟩
    · skip
      refine sA_aload_n dd_X4_push_23 rfl (.head _) ?_
      refine sA_dup dd_X4_push_24 rfl ?_
      refine sA_geti (ci := 4) (j := 1) (q := (RX4, TX4, 2)) dd_X4_push_25 rfl (by decide) fl_X4_19 (Nat.lt_of_succ_lt hr.1) hr.2.1 rfl ?_
      refine sA_iconst (z := 1) dd_X4_push_28 ?_
      refine sA_isub dd_X4_push_29 ?_
      refine sA_put (ci := 4) (j := 1) (q := (RX4, TX4, 2)) (ty := .int) dd_X4_push_30 rfl (by decide) fl_X4_19 rfl (tyX4_ok 1 (by decide)) rfl rfl (Nat.lt_of_succ_lt hr.1) hr.2.1 rfl ?_
      have I27 : gs_I (gs_up F a 1 ((F a 1) - 1)) A := gs_row_put hr hI (by omega)
      have f28 := gs_fr_put hf (a := a) (z := (F a 1) - 1) (j := 1) (by first | omega | (dsimp only; omega) | (dsimp only) | fail)
      have v29 : gs_up F a 1 ((F a 1) - 1) a 1 = (F a 1) - 1 := gs_up_self _ _ _ _
      generalize gs_up F a 1 ((F a 1) - 1) = F26 at I27 f28 v29 ⊢
      refine sA_goto (tgt := 68) dd_X4_push_33 (by decide) ?_
      refine sA_vret dd_X4_push_68 rfl ?_
      refine ⟨rfl, I27, f28, ?_⟩
      have hp : gs_psh (F a 1) (A (a + 1)) x (L : Int) (F26 a 1) (A (a + 1)) := by
        first | (exact .inl ⟨by omega, by omega, by omega, u2⟩) | (exact .inr (.inl ⟨by omega, by omega, by omega, u2⟩)) | (exact .inr (.inr ⟨by omega, by omega, by omega, u2⟩)) | fail
      exact ⟨by omega, fun h => gs_psh_stk (by omega) h hp⟩
theorem c_X7_spellFirst_vf {i w x : Int} {F A : gs_F} (hI : gs_I F A) (hi : 0 ≤ i ∧ i ≤ 2) (hw : w = 1 ∨ w = -1) (hx : 1 ≤ x ∧ x ≤ 6) (hs8 : F 8 1 = 0) : sC m_X7_spellFirst 2 [.ref 5, gs_iv i, gs_iv w, gs_iv x] F A (fun rv F' A' => rv = none ∧ gs_I F' A' ∧ gs_fr (fun c j => c = 8 ∧ j = 1) (fun c => c = 9) F A F' A' ∧ (F' 8 1 ≤ F 8 1 + 2 ∧ 0 ≤ F' 8 1 ∧ gs_stk (A' 9) (F' 8 1).toNat = sp_all (gs_stk (A 9) (F 8 1).toNat) (if x = 2 * i + 2 then [x, w * (2 * i + 1)] else [x]))) := by
  refine sC_of ok_X7_spellFirst.1 (Nat.le_of_ble_eq_true rfl) ?_
  show sA _ _ _ 0 [(0, .ref 5), (1, gs_iv i), (2, gs_iv w), (3, gs_iv x)] [] F A
  have hf : gs_fr (fun c j => c = 8 ∧ j = 1) (fun c => c = 9) F A F A := gs_fr_refl _ _ _ _
  have b1 := gs_row_sz gs_row_8 hI
  refine sA_aload_n dd_X7_spellFirst_0 rfl (.head _) ?_
  refine sA_getr (ci := 7) (j := 3) (q := (RX7, TX7, 5)) dd_X7_spellFirst_1 rfl (by decide) fl_X7_23 (by decide) gs_s5 rfl ?_
  refine sA_iload_n dd_X7_spellFirst_4 rfl (.tail _ (.tail _ (.tail _ (.head _)))) ?_
  refine sA_callV (y2 := m_X4_push) (n2 := 1) (d2 := 1) (a := 8) (ci := 4) (q := (RX4, TX4, 2)) (as := [gs_iv x]) (rest := []) dd_X7_spellFirst_5 ok_X4_push ml_X7_58 rfl rfl (Nat.lt_of_succ_lt gs_row_8.1) gs_row_8.2.1 rfl rfl (Nat.le_of_ble_eq_true rfl) (by decide) (c_X4_push_vs hI gs_row_8 (by omega)) (fun r2 F3 A4 h5 => ?_)
  obtain ⟨e7, I8, f9, x6⟩ := h5
  subst e7
  have f11 := gs_fr_tr hf f9 (fun b j h => by first | exact False.elim h | omega | (dsimp only at h ⊢; omega) | fail) (fun b h => by first | exact False.elim h | omega | (dsimp only at h ⊢; omega) | fail)
  have y12 : (F3 8 1 ≤ F 8 1 + 1 ∧ 0 ≤ F3 8 1) ∧ (F 8 1 < (9 : Int) → gs_stk (A4 9) (F3 8 1).toNat = sp_push (gs_stk (A 9) (F 8 1).toNat) x) := x6
  clear x6
  show sA _ _ _ 8 _ [] _ _
  refine sA_iload_n dd_X7_spellFirst_8 rfl (.tail _ (.tail _ (.tail _ (.head _)))) ?_
  refine sA_iconst (z := 2) dd_X7_spellFirst_9 ?_
  refine sA_iload_n dd_X7_spellFirst_10 rfl (.tail _ (.head _)) ?_
  refine sA_imul dd_X7_spellFirst_11 ?_
  refine sA_iconst (z := 2) dd_X7_spellFirst_12 ?_
  refine sA_iadd dd_X7_spellFirst_13 ?_
  refine sA_icmp_ne (tgt := 31) dd_X7_spellFirst_14 (by decide) (by omega) (by omega) (fun q13 => ?_) (fun q13 => ?_)
  · skip
    refine sA_vret dd_X7_spellFirst_31 rfl ?_
    refine ⟨rfl, I8, f11, ?_⟩
    refine ⟨by omega, by omega, ?_⟩
    rw [if_neg (by omega)]
    show _ = sp_push _ _
    exact ((y12.2 (by omega)).trans (sp_push_cg (by first | rfl | omega | (rcases hw with rfl | rfl <;> omega) | fail) rfl))
  · skip
    refine sA_aload_n dd_X7_spellFirst_17 rfl (.head _) ?_
    refine sA_getr (ci := 7) (j := 3) (q := (RX7, TX7, 5)) dd_X7_spellFirst_18 rfl (by decide) fl_X7_23 (by decide) gs_s5 rfl ?_
    refine sA_iload_n dd_X7_spellFirst_21 rfl (.tail _ (.tail _ (.head _))) ?_
    refine sA_iconst (z := 2) dd_X7_spellFirst_22 ?_
    refine sA_iload_n dd_X7_spellFirst_23 rfl (.tail _ (.head _)) ?_
    refine sA_imul dd_X7_spellFirst_24 ?_
    refine sA_iconst (z := 1) dd_X7_spellFirst_25 ?_
    refine sA_iadd dd_X7_spellFirst_26 ?_
    refine sA_imul dd_X7_spellFirst_27 ?_
    have hz : -9 ≤ w * ((2 * i) + 1) ∧ w * ((2 * i) + 1) ≤ 9 := by rcases hw with rfl | rfl <;> omega
    refine sA_callV (y2 := m_X4_push) (n2 := 1) (d2 := 1) (a := 8) (ci := 4) (q := (RX4, TX4, 2)) (as := [gs_iv (w * ((2 * i) + 1))]) (rest := []) dd_X7_spellFirst_28 ok_X4_push ml_X7_58 rfl rfl (Nat.lt_of_succ_lt gs_row_8.1) gs_row_8.2.1 rfl rfl (Nat.le_of_ble_eq_true rfl) (by decide) (c_X4_push_vs I8 gs_row_8 (by omega)) (fun r14 F15 A16 h17 => ?_)
    obtain ⟨e19, I20, f21, x18⟩ := h17
    subst e19
    have f23 := gs_fr_tr f11 f21 (fun b j h => by first | exact False.elim h | omega | (dsimp only at h ⊢; omega) | fail) (fun b h => by first | exact False.elim h | omega | (dsimp only at h ⊢; omega) | fail)
    have y24 : (F15 8 1 ≤ F3 8 1 + 1 ∧ 0 ≤ F15 8 1) ∧ (F3 8 1 < (9 : Int) → gs_stk (A16 9) (F15 8 1).toNat = sp_push (gs_stk (A4 9) (F3 8 1).toNat) (w * ((2 * i) + 1))) := x18
    clear x18
    show sA _ _ _ 31 _ [] _ _
    refine sA_vret dd_X7_spellFirst_31 rfl ?_
    refine ⟨rfl, I20, f23, ?_⟩
    refine ⟨by omega, by omega, ?_⟩
    rw [if_pos (by omega)]
    show _ = sp_push (sp_push _ _) _
    exact ((y24.2 (by omega)).trans (sp_push_cg (by first | rfl | omega | (rcases hw with rfl | rfl <;> omega) | fail) ((y12.2 (by omega)).trans (sp_push_cg (by first | rfl | omega | (rcases hw with rfl | rfl <;> omega) | fail) rfl))))
theorem c_X7_spellSecond_vf {i w x : Int} {F A : gs_F} (hI : gs_I F A) (hi : 0 ≤ i ∧ i ≤ 2) (hw : w = 1 ∨ w = -1) (hx : 1 ≤ x ∧ x ≤ 6) (hs8 : F 8 1 = 0) : sC m_X7_spellSecond 2 [.ref 5, gs_iv i, gs_iv w, gs_iv x] F A (fun rv F' A' => rv = none ∧ gs_I F' A' ∧ gs_fr (fun c j => c = 8 ∧ j = 1) (fun c => c = 9) F A F' A' ∧ (F' 8 1 ≤ F 8 1 + 2 ∧ 0 ≤ F' 8 1 ∧ gs_stk (A' 9) (F' 8 1).toNat = sp_all (gs_stk (A 9) (F 8 1).toNat) (if x = 2 * i + 1 then [x, -w * (2 * i + 2)] else [x]))) := by
  refine sC_of ok_X7_spellSecond.1 (Nat.le_of_ble_eq_true rfl) ?_
  show sA _ _ _ 0 [(0, .ref 5), (1, gs_iv i), (2, gs_iv w), (3, gs_iv x)] [] F A
  have hf : gs_fr (fun c j => c = 8 ∧ j = 1) (fun c => c = 9) F A F A := gs_fr_refl _ _ _ _
  have b1 := gs_row_sz gs_row_8 hI
  refine sA_aload_n dd_X7_spellSecond_0 rfl (.head _) ?_
  refine sA_getr (ci := 7) (j := 3) (q := (RX7, TX7, 5)) dd_X7_spellSecond_1 rfl (by decide) fl_X7_23 (by decide) gs_s5 rfl ?_
  refine sA_iload_n dd_X7_spellSecond_4 rfl (.tail _ (.tail _ (.tail _ (.head _)))) ?_
  refine sA_callV (y2 := m_X4_push) (n2 := 1) (d2 := 1) (a := 8) (ci := 4) (q := (RX4, TX4, 2)) (as := [gs_iv x]) (rest := []) dd_X7_spellSecond_5 ok_X4_push ml_X7_58 rfl rfl (Nat.lt_of_succ_lt gs_row_8.1) gs_row_8.2.1 rfl rfl (Nat.le_of_ble_eq_true rfl) (by decide) (c_X4_push_vs hI gs_row_8 (by omega)) (fun r2 F3 A4 h5 => ?_)
  obtain ⟨e7, I8, f9, x6⟩ := h5
  subst e7
  have f11 := gs_fr_tr hf f9 (fun b j h => by first | exact False.elim h | omega | (dsimp only at h ⊢; omega) | fail) (fun b h => by first | exact False.elim h | omega | (dsimp only at h ⊢; omega) | fail)
  have y12 : (F3 8 1 ≤ F 8 1 + 1 ∧ 0 ≤ F3 8 1) ∧ (F 8 1 < (9 : Int) → gs_stk (A4 9) (F3 8 1).toNat = sp_push (gs_stk (A 9) (F 8 1).toNat) x) := x6
  clear x6
  show sA _ _ _ 8 _ [] _ _
  refine sA_iload_n dd_X7_spellSecond_8 rfl (.tail _ (.tail _ (.tail _ (.head _)))) ?_
  refine sA_iconst (z := 2) dd_X7_spellSecond_9 ?_
  refine sA_iload_n dd_X7_spellSecond_10 rfl (.tail _ (.head _)) ?_
  refine sA_imul dd_X7_spellSecond_11 ?_
  refine sA_iconst (z := 1) dd_X7_spellSecond_12 ?_
  refine sA_iadd dd_X7_spellSecond_13 ?_
  refine sA_icmp_ne (tgt := 32) dd_X7_spellSecond_14 (by decide) (by omega) (by omega) (fun q13 => ?_) (fun q13 => ?_)
  · skip
    refine sA_vret dd_X7_spellSecond_32 rfl ?_
    refine ⟨rfl, I8, f11, ?_⟩
    refine ⟨by omega, by omega, ?_⟩
    rw [if_neg (by omega)]
    show _ = sp_push _ _
    exact ((y12.2 (by omega)).trans (sp_push_cg (by first | rfl | omega | (rcases hw with rfl | rfl <;> omega) | fail) rfl))
  · skip
    refine sA_aload_n dd_X7_spellSecond_17 rfl (.head _) ?_
    refine sA_getr (ci := 7) (j := 3) (q := (RX7, TX7, 5)) dd_X7_spellSecond_18 rfl (by decide) fl_X7_23 (by decide) gs_s5 rfl ?_
    refine sA_iload_n dd_X7_spellSecond_21 rfl (.tail _ (.tail _ (.head _))) ?_
    refine sA_ineg dd_X7_spellSecond_22 ?_
    refine sA_iconst (z := 2) dd_X7_spellSecond_23 ?_
    refine sA_iload_n dd_X7_spellSecond_24 rfl (.tail _ (.head _)) ?_
    refine sA_imul dd_X7_spellSecond_25 ?_
    refine sA_iconst (z := 2) dd_X7_spellSecond_26 ?_
    refine sA_iadd dd_X7_spellSecond_27 ?_
    refine sA_imul dd_X7_spellSecond_28 ?_
    have hz : -9 ≤ (-w) * ((2 * i) + 2) ∧ (-w) * ((2 * i) + 2) ≤ 9 := by rcases hw with rfl | rfl <;> omega
    refine sA_callV (y2 := m_X4_push) (n2 := 1) (d2 := 1) (a := 8) (ci := 4) (q := (RX4, TX4, 2)) (as := [gs_iv ((-w) * ((2 * i) + 2))]) (rest := []) dd_X7_spellSecond_29 ok_X4_push ml_X7_58 rfl rfl (Nat.lt_of_succ_lt gs_row_8.1) gs_row_8.2.1 rfl rfl (Nat.le_of_ble_eq_true rfl) (by decide) (c_X4_push_vs I8 gs_row_8 (by omega)) (fun r14 F15 A16 h17 => ?_)
    obtain ⟨e19, I20, f21, x18⟩ := h17
    subst e19
    have f23 := gs_fr_tr f11 f21 (fun b j h => by first | exact False.elim h | omega | (dsimp only at h ⊢; omega) | fail) (fun b h => by first | exact False.elim h | omega | (dsimp only at h ⊢; omega) | fail)
    have y24 : (F15 8 1 ≤ F3 8 1 + 1 ∧ 0 ≤ F15 8 1) ∧ (F3 8 1 < (9 : Int) → gs_stk (A16 9) (F15 8 1).toNat = sp_push (gs_stk (A4 9) (F3 8 1).toNat) ((-w) * ((2 * i) + 2))) := x18
    clear x18
    show sA _ _ _ 32 _ [] _ _
    refine sA_vret dd_X7_spellSecond_32 rfl ?_
    refine ⟨rfl, I20, f23, ?_⟩
    refine ⟨by omega, by omega, ?_⟩
    rw [if_pos (by omega)]
    show _ = sp_push (sp_push _ _) _
    exact ((y24.2 (by omega)).trans (sp_push_cg (by first | rfl | omega | (rcases hw with rfl | rfl <;> omega) | fail) ((y12.2 (by omega)).trans (sp_push_cg (by first | rfl | omega | (rcases hw with rfl | rfl <;> omega) | fail) rfl))))
theorem c_X7_spellBetween_vf {i w : Int} {F A : gs_F} (hI : gs_I F A) (hi : 0 ≤ i ∧ i ≤ 2) (hw : w = 1 ∨ w = -1) (hs8 : F 8 1 ≤ 5) : sC m_X7_spellBetween 2 [.ref 5, gs_iv i, gs_iv w] F A (fun rv F' A' => rv = none ∧ gs_I F' A' ∧ gs_fr (fun c j => c = 8 ∧ j = 1) (fun c => c = 9) F A F' A' ∧ (F' 8 1 ≤ F 8 1 + 4 ∧ 0 ≤ F' 8 1 ∧ gs_stk (A' 9) (F' 8 1).toNat = sp_all (gs_stk (A 9) (F 8 1).toNat) (sp_C i ((1 - w) / 2)))) := by
  refine sC_of ok_X7_spellBetween.1 (Nat.le_of_ble_eq_true rfl) ?_
  show sA _ _ _ 0 [(0, .ref 5), (1, gs_iv i), (2, gs_iv w)] [] F A
  have hf : gs_fr (fun c j => c = 8 ∧ j = 1) (fun c => c = 9) F A F A := gs_fr_refl _ _ _ _
  have b1 := gs_row_sz gs_row_8 hI
  refine sA_iconst (z := 2) dd_X7_spellBetween_0 ?_
  refine sA_iload_n dd_X7_spellBetween_1 rfl (.tail _ (.head _)) ?_
  refine sA_imul dd_X7_spellBetween_2 ?_
  refine sA_iconst (z := 1) dd_X7_spellBetween_3 ?_
  refine sA_iadd dd_X7_spellBetween_4 ?_
  refine sA_istore_n (lv' := [(3, gs_iv ((2 * i) + 1)), (0, .ref 5), (1, gs_iv i), (2, gs_iv w)]) dd_X7_spellBetween_5 rfl (by decide) rfl ?_
  refine sA_iconst (z := 2) dd_X7_spellBetween_6 ?_
  refine sA_iload_n dd_X7_spellBetween_7 rfl (.tail _ (.tail _ (.head _))) ?_
  refine sA_imul dd_X7_spellBetween_8 ?_
  refine sA_iconst (z := 2) dd_X7_spellBetween_9 ?_
  refine sA_iadd dd_X7_spellBetween_10 ?_
  refine sA_istore (lv' := [(4, gs_iv ((2 * i) + 2)), (3, gs_iv ((2 * i) + 1)), (0, .ref 5), (1, gs_iv i), (2, gs_iv w)]) dd_X7_spellBetween_11 (by decide) rfl ?_
  refine sA_iconst (z := 2) dd_X7_spellBetween_13 ?_
  refine sA_iload_n dd_X7_spellBetween_14 rfl (.tail _ (.tail _ (.tail _ (.head _)))) ?_
  refine sA_imul dd_X7_spellBetween_15 ?_
  refine sA_iconst (z := 3) dd_X7_spellBetween_16 ?_
  refine sA_iadd dd_X7_spellBetween_17 ?_
  refine sA_istore (lv' := [(5, gs_iv ((2 * i) + 3)), (4, gs_iv ((2 * i) + 2)), (3, gs_iv ((2 * i) + 1)), (0, .ref 5), (1, gs_iv i), (2, gs_iv w)]) dd_X7_spellBetween_18 (by decide) rfl ?_
  refine sA_aload_n dd_X7_spellBetween_20 rfl (.tail _ (.tail _ (.tail _ (.head _)))) ?_
  refine sA_getr (ci := 7) (j := 3) (q := (RX7, TX7, 5)) dd_X7_spellBetween_21 rfl (by decide) fl_X7_23 (by decide) gs_s5 rfl ?_
  refine sA_iload_n dd_X7_spellBetween_24 rfl (.tail _ (.tail _ (.tail _ (.tail _ (.tail _ (.head _)))))) ?_
  refine sA_if_le (tgt := 33) dd_X7_spellBetween_25 (by decide) (by omega) (fun q2 => ?_) (fun q2 => ?_)
  · skip
    refine sA_iload dd_X7_spellBetween_33 (.head _) ?_
    refine sA_ineg dd_X7_spellBetween_35 ?_
    refine sA_callV (y2 := m_X4_push) (n2 := 1) (d2 := 1) (a := 8) (ci := 4) (q := (RX4, TX4, 2)) (as := [gs_iv (-((2 * i) + 3))]) (rest := []) dd_X7_spellBetween_36 ok_X4_push ml_X7_58 rfl rfl (Nat.lt_of_succ_lt gs_row_8.1) gs_row_8.2.1 rfl rfl (Nat.le_of_ble_eq_true rfl) (by decide) (c_X4_push_vs hI gs_row_8 (by omega)) (fun r3 F4 A5 h6 => ?_)
    obtain ⟨e8, I9, f10, x7⟩ := h6
    subst e8
    have f12 := gs_fr_tr hf f10 (fun b j h => by first | exact False.elim h | omega | (dsimp only at h ⊢; omega) | fail) (fun b h => by first | exact False.elim h | omega | (dsimp only at h ⊢; omega) | fail)
    have y13 : (F4 8 1 ≤ F 8 1 + 1 ∧ 0 ≤ F4 8 1) ∧ (F 8 1 < (9 : Int) → gs_stk (A5 9) (F4 8 1).toNat = sp_push (gs_stk (A 9) (F 8 1).toNat) (-((2 * i) + 3))) := x7
    clear x7
    show sA _ _ _ 39 _ [] _ _
    refine sA_aload_n dd_X7_spellBetween_39 rfl (.tail _ (.tail _ (.tail _ (.head _)))) ?_
    refine sA_getr (ci := 7) (j := 3) (q := (RX7, TX7, 5)) dd_X7_spellBetween_40 rfl (by decide) fl_X7_23 (by decide) gs_s5 rfl ?_
    refine sA_iload_n dd_X7_spellBetween_43 rfl (.tail _ (.tail _ (.tail _ (.tail _ (.tail _ (.head _)))))) ?_
    refine sA_if_le (tgt := 52) dd_X7_spellBetween_44 (by decide) (by omega) (fun q14 => ?_) (fun q14 => absurd q14 (by omega))
    refine sA_iload dd_X7_spellBetween_52 (.tail _ (.head _)) ?_
    refine sA_callV (y2 := m_X4_push) (n2 := 1) (d2 := 1) (a := 8) (ci := 4) (q := (RX4, TX4, 2)) (as := [gs_iv ((2 * i) + 2)]) (rest := []) dd_X7_spellBetween_54 ok_X4_push ml_X7_58 rfl rfl (Nat.lt_of_succ_lt gs_row_8.1) gs_row_8.2.1 rfl rfl (Nat.le_of_ble_eq_true rfl) (by decide) (c_X4_push_vs I9 gs_row_8 (by omega)) (fun r15 F16 A17 h18 => ?_)
    obtain ⟨e20, I21, f22, x19⟩ := h18
    subst e20
    have f24 := gs_fr_tr f12 f22 (fun b j h => by first | exact False.elim h | omega | (dsimp only at h ⊢; omega) | fail) (fun b h => by first | exact False.elim h | omega | (dsimp only at h ⊢; omega) | fail)
    have y25 : (F16 8 1 ≤ F4 8 1 + 1 ∧ 0 ≤ F16 8 1) ∧ (F4 8 1 < (9 : Int) → gs_stk (A17 9) (F16 8 1).toNat = sp_push (gs_stk (A5 9) (F4 8 1).toNat) ((2 * i) + 2)) := x19
    clear x19
    show sA _ _ _ 57 _ [] _ _
    refine sA_aload_n dd_X7_spellBetween_57 rfl (.tail _ (.tail _ (.tail _ (.head _)))) ?_
    refine sA_getr (ci := 7) (j := 3) (q := (RX7, TX7, 5)) dd_X7_spellBetween_58 rfl (by decide) fl_X7_23 (by decide) gs_s5 rfl ?_
    refine sA_iload_n dd_X7_spellBetween_61 rfl (.tail _ (.tail _ (.tail _ (.tail _ (.tail _ (.head _)))))) ?_
    refine sA_if_le (tgt := 71) dd_X7_spellBetween_62 (by decide) (by omega) (fun q26 => ?_) (fun q26 => absurd q26 (by omega))
    refine sA_iload_n dd_X7_spellBetween_71 rfl (.tail _ (.tail _ (.head _))) ?_
    refine sA_callV (y2 := m_X4_push) (n2 := 1) (d2 := 1) (a := 8) (ci := 4) (q := (RX4, TX4, 2)) (as := [gs_iv ((2 * i) + 1)]) (rest := []) dd_X7_spellBetween_72 ok_X4_push ml_X7_58 rfl rfl (Nat.lt_of_succ_lt gs_row_8.1) gs_row_8.2.1 rfl rfl (Nat.le_of_ble_eq_true rfl) (by decide) (c_X4_push_vs I21 gs_row_8 (by omega)) (fun r27 F28 A29 h30 => ?_)
    obtain ⟨e32, I33, f34, x31⟩ := h30
    subst e32
    have f36 := gs_fr_tr f24 f34 (fun b j h => by first | exact False.elim h | omega | (dsimp only at h ⊢; omega) | fail) (fun b h => by first | exact False.elim h | omega | (dsimp only at h ⊢; omega) | fail)
    have y37 : (F28 8 1 ≤ F16 8 1 + 1 ∧ 0 ≤ F28 8 1) ∧ (F16 8 1 < (9 : Int) → gs_stk (A29 9) (F28 8 1).toNat = sp_push (gs_stk (A17 9) (F16 8 1).toNat) ((2 * i) + 1)) := x31
    clear x31
    show sA _ _ _ 75 _ [] _ _
    refine sA_aload_n dd_X7_spellBetween_75 rfl (.tail _ (.tail _ (.tail _ (.head _)))) ?_
    refine sA_getr (ci := 7) (j := 3) (q := (RX7, TX7, 5)) dd_X7_spellBetween_76 rfl (by decide) fl_X7_23 (by decide) gs_s5 rfl ?_
    refine sA_iload_n dd_X7_spellBetween_79 rfl (.tail _ (.tail _ (.tail _ (.tail _ (.tail _ (.head _)))))) ?_
    refine sA_if_le (tgt := 88) dd_X7_spellBetween_80 (by decide) (by omega) (fun q38 => ?_) (fun q38 => absurd q38 (by omega))
    refine sA_iload dd_X7_spellBetween_88 (.tail _ (.head _)) ?_
    refine sA_ineg dd_X7_spellBetween_90 ?_
    refine sA_callV (y2 := m_X4_push) (n2 := 1) (d2 := 1) (a := 8) (ci := 4) (q := (RX4, TX4, 2)) (as := [gs_iv (-((2 * i) + 2))]) (rest := []) dd_X7_spellBetween_91 ok_X4_push ml_X7_58 rfl rfl (Nat.lt_of_succ_lt gs_row_8.1) gs_row_8.2.1 rfl rfl (Nat.le_of_ble_eq_true rfl) (by decide) (c_X4_push_vs I33 gs_row_8 (by omega)) (fun r39 F40 A41 h42 => ?_)
    obtain ⟨e44, I45, f46, x43⟩ := h42
    subst e44
    have f48 := gs_fr_tr f36 f46 (fun b j h => by first | exact False.elim h | omega | (dsimp only at h ⊢; omega) | fail) (fun b h => by first | exact False.elim h | omega | (dsimp only at h ⊢; omega) | fail)
    have y49 : (F40 8 1 ≤ F28 8 1 + 1 ∧ 0 ≤ F40 8 1) ∧ (F28 8 1 < (9 : Int) → gs_stk (A41 9) (F40 8 1).toNat = sp_push (gs_stk (A29 9) (F28 8 1).toNat) (-((2 * i) + 2))) := x43
    clear x43
    show sA _ _ _ 94 _ [] _ _
    refine sA_vret dd_X7_spellBetween_94 rfl ?_
    refine ⟨rfl, I45, f48, ?_⟩
    refine ⟨by omega, by omega, ?_⟩
    unfold sp_C
    first | rw [if_pos (by omega)] | rw [if_neg (by omega)] | fail
    show _ = sp_push (sp_push (sp_push (sp_push _ _) _) _) _
    exact ((y49.2 (by omega)).trans (sp_push_cg (by first | rfl | omega | (rcases hw with rfl | rfl <;> omega) | fail) ((y37.2 (by omega)).trans (sp_push_cg (by first | rfl | omega | (rcases hw with rfl | rfl <;> omega) | fail) ((y25.2 (by omega)).trans (sp_push_cg (by first | rfl | omega | (rcases hw with rfl | rfl <;> omega) | fail) ((y13.2 (by omega)).trans (sp_push_cg (by first | rfl | omega | (rcases hw with rfl | rfl <;> omega) | fail) rfl))))))))
  · skip
    refine sA_iload dd_X7_spellBetween_28 (.tail _ (.head _)) ?_
    refine sA_goto (tgt := 36) dd_X7_spellBetween_30 (by decide) ?_
    refine sA_callV (y2 := m_X4_push) (n2 := 1) (d2 := 1) (a := 8) (ci := 4) (q := (RX4, TX4, 2)) (as := [gs_iv ((2 * i) + 2)]) (rest := []) dd_X7_spellBetween_36 ok_X4_push ml_X7_58 rfl rfl (Nat.lt_of_succ_lt gs_row_8.1) gs_row_8.2.1 rfl rfl (Nat.le_of_ble_eq_true rfl) (by decide) (c_X4_push_vs hI gs_row_8 (by omega)) (fun r50 F51 A52 h53 => ?_)
    obtain ⟨e55, I56, f57, x54⟩ := h53
    subst e55
    have f59 := gs_fr_tr hf f57 (fun b j h => by first | exact False.elim h | omega | (dsimp only at h ⊢; omega) | fail) (fun b h => by first | exact False.elim h | omega | (dsimp only at h ⊢; omega) | fail)
    have y60 : (F51 8 1 ≤ F 8 1 + 1 ∧ 0 ≤ F51 8 1) ∧ (F 8 1 < (9 : Int) → gs_stk (A52 9) (F51 8 1).toNat = sp_push (gs_stk (A 9) (F 8 1).toNat) ((2 * i) + 2)) := x54
    clear x54
    show sA _ _ _ 39 _ [] _ _
    refine sA_aload_n dd_X7_spellBetween_39 rfl (.tail _ (.tail _ (.tail _ (.head _)))) ?_
    refine sA_getr (ci := 7) (j := 3) (q := (RX7, TX7, 5)) dd_X7_spellBetween_40 rfl (by decide) fl_X7_23 (by decide) gs_s5 rfl ?_
    refine sA_iload_n dd_X7_spellBetween_43 rfl (.tail _ (.tail _ (.tail _ (.tail _ (.tail _ (.head _)))))) ?_
    refine sA_if_le (tgt := 52) dd_X7_spellBetween_44 (by decide) (by omega) (fun q61 => absurd q61 (by omega)) (fun q61 => ?_)
    refine sA_iload_n dd_X7_spellBetween_47 rfl (.tail _ (.tail _ (.head _))) ?_
    refine sA_ineg dd_X7_spellBetween_48 ?_
    refine sA_goto (tgt := 54) dd_X7_spellBetween_49 (by decide) ?_
    refine sA_callV (y2 := m_X4_push) (n2 := 1) (d2 := 1) (a := 8) (ci := 4) (q := (RX4, TX4, 2)) (as := [gs_iv (-((2 * i) + 1))]) (rest := []) dd_X7_spellBetween_54 ok_X4_push ml_X7_58 rfl rfl (Nat.lt_of_succ_lt gs_row_8.1) gs_row_8.2.1 rfl rfl (Nat.le_of_ble_eq_true rfl) (by decide) (c_X4_push_vs I56 gs_row_8 (by omega)) (fun r62 F63 A64 h65 => ?_)
    obtain ⟨e67, I68, f69, x66⟩ := h65
    subst e67
    have f71 := gs_fr_tr f59 f69 (fun b j h => by first | exact False.elim h | omega | (dsimp only at h ⊢; omega) | fail) (fun b h => by first | exact False.elim h | omega | (dsimp only at h ⊢; omega) | fail)
    have y72 : (F63 8 1 ≤ F51 8 1 + 1 ∧ 0 ≤ F63 8 1) ∧ (F51 8 1 < (9 : Int) → gs_stk (A64 9) (F63 8 1).toNat = sp_push (gs_stk (A52 9) (F51 8 1).toNat) (-((2 * i) + 1))) := x66
    clear x66
    show sA _ _ _ 57 _ [] _ _
    refine sA_aload_n dd_X7_spellBetween_57 rfl (.tail _ (.tail _ (.tail _ (.head _)))) ?_
    refine sA_getr (ci := 7) (j := 3) (q := (RX7, TX7, 5)) dd_X7_spellBetween_58 rfl (by decide) fl_X7_23 (by decide) gs_s5 rfl ?_
    refine sA_iload_n dd_X7_spellBetween_61 rfl (.tail _ (.tail _ (.tail _ (.tail _ (.tail _ (.head _)))))) ?_
    refine sA_if_le (tgt := 71) dd_X7_spellBetween_62 (by decide) (by omega) (fun q73 => absurd q73 (by omega)) (fun q73 => ?_)
    refine sA_iload dd_X7_spellBetween_65 (.tail _ (.head _)) ?_
    refine sA_ineg dd_X7_spellBetween_67 ?_
    refine sA_goto (tgt := 72) dd_X7_spellBetween_68 (by decide) ?_
    refine sA_callV (y2 := m_X4_push) (n2 := 1) (d2 := 1) (a := 8) (ci := 4) (q := (RX4, TX4, 2)) (as := [gs_iv (-((2 * i) + 2))]) (rest := []) dd_X7_spellBetween_72 ok_X4_push ml_X7_58 rfl rfl (Nat.lt_of_succ_lt gs_row_8.1) gs_row_8.2.1 rfl rfl (Nat.le_of_ble_eq_true rfl) (by decide) (c_X4_push_vs I68 gs_row_8 (by omega)) (fun r74 F75 A76 h77 => ?_)
    obtain ⟨e79, I80, f81, x78⟩ := h77
    subst e79
    have f83 := gs_fr_tr f71 f81 (fun b j h => by first | exact False.elim h | omega | (dsimp only at h ⊢; omega) | fail) (fun b h => by first | exact False.elim h | omega | (dsimp only at h ⊢; omega) | fail)
    have y84 : (F75 8 1 ≤ F63 8 1 + 1 ∧ 0 ≤ F75 8 1) ∧ (F63 8 1 < (9 : Int) → gs_stk (A76 9) (F75 8 1).toNat = sp_push (gs_stk (A64 9) (F63 8 1).toNat) (-((2 * i) + 2))) := x78
    clear x78
    show sA _ _ _ 75 _ [] _ _
    refine sA_aload_n dd_X7_spellBetween_75 rfl (.tail _ (.tail _ (.tail _ (.head _)))) ?_
    refine sA_getr (ci := 7) (j := 3) (q := (RX7, TX7, 5)) dd_X7_spellBetween_76 rfl (by decide) fl_X7_23 (by decide) gs_s5 rfl ?_
    refine sA_iload_n dd_X7_spellBetween_79 rfl (.tail _ (.tail _ (.tail _ (.tail _ (.tail _ (.head _)))))) ?_
    refine sA_if_le (tgt := 88) dd_X7_spellBetween_80 (by decide) (by omega) (fun q85 => absurd q85 (by omega)) (fun q85 => ?_)
    refine sA_iload dd_X7_spellBetween_83 (.head _) ?_
    refine sA_goto (tgt := 91) dd_X7_spellBetween_85 (by decide) ?_
    refine sA_callV (y2 := m_X4_push) (n2 := 1) (d2 := 1) (a := 8) (ci := 4) (q := (RX4, TX4, 2)) (as := [gs_iv ((2 * i) + 3)]) (rest := []) dd_X7_spellBetween_91 ok_X4_push ml_X7_58 rfl rfl (Nat.lt_of_succ_lt gs_row_8.1) gs_row_8.2.1 rfl rfl (Nat.le_of_ble_eq_true rfl) (by decide) (c_X4_push_vs I80 gs_row_8 (by omega)) (fun r86 F87 A88 h89 => ?_)
    obtain ⟨e91, I92, f93, x90⟩ := h89
    subst e91
    have f95 := gs_fr_tr f83 f93 (fun b j h => by first | exact False.elim h | omega | (dsimp only at h ⊢; omega) | fail) (fun b h => by first | exact False.elim h | omega | (dsimp only at h ⊢; omega) | fail)
    have y96 : (F87 8 1 ≤ F75 8 1 + 1 ∧ 0 ≤ F87 8 1) ∧ (F75 8 1 < (9 : Int) → gs_stk (A88 9) (F87 8 1).toNat = sp_push (gs_stk (A76 9) (F75 8 1).toNat) ((2 * i) + 3)) := x90
    clear x90
    show sA _ _ _ 94 _ [] _ _
    refine sA_vret dd_X7_spellBetween_94 rfl ?_
    refine ⟨rfl, I92, f95, ?_⟩
    refine ⟨by omega, by omega, ?_⟩
    unfold sp_C
    first | rw [if_pos (by omega)] | rw [if_neg (by omega)] | fail
    show _ = sp_push (sp_push (sp_push (sp_push _ _) _) _) _
    exact ((y96.2 (by omega)).trans (sp_push_cg (by first | rfl | omega | (rcases hw with rfl | rfl <;> omega) | fail) ((y84.2 (by omega)).trans (sp_push_cg (by first | rfl | omega | (rcases hw with rfl | rfl <;> omega) | fail) ((y72.2 (by omega)).trans (sp_push_cg (by first | rfl | omega | (rcases hw with rfl | rfl <;> omega) | fail) ((y60.2 (by omega)).trans (sp_push_cg (by first | rfl | omega | (rcases hw with rfl | rfl <;> omega) | fail) rfl))))))))
theorem c_X7_spellThird_vf {i w x : Int} {F A : gs_F} (hI : gs_I F A) (hi : 0 ≤ i ∧ i ≤ 2) (hw : w = 1 ∨ w = -1) (hx : 1 ≤ x ∧ x ≤ 6) (hs8 : F 8 1 = 0) : sC m_X7_spellThird 3 [.ref 5, gs_iv i, gs_iv w, gs_iv x] F A (fun rv F' A' => rv = none ∧ gs_I F' A' ∧ gs_fr (fun c j => c = 8 ∧ j = 1) (fun c => c = 9) F A F' A' ∧ (F' 8 1 ≤ F 8 1 + 9 ∧ 0 ≤ F' 8 1 ∧ gs_stk (A' 9) (F' 8 1).toNat = sp_all (gs_stk (A 9) (F 8 1).toNat) (if x = 2 * i + 2 then sp_C i ((1 - -w) / 2) ++ [x] else if x = 2 * i + 3 then sp_C i ((1 - -w) / 2) ++ ([x] ++ sp_C i ((1 - w) / 2)) else if x = 2 * i + 4 then [x] ++ sp_C i ((1 - w) / 2) else [x]))) := by
  refine sC_of ok_X7_spellThird.1 (Nat.le_of_ble_eq_true rfl) ?_
  show sA _ _ _ 0 [(0, .ref 5), (1, gs_iv i), (2, gs_iv w), (3, gs_iv x)] [] F A
  have hf : gs_fr (fun c j => c = 8 ∧ j = 1) (fun c => c = 9) F A F A := gs_fr_refl _ _ _ _
  have b1 := gs_row_sz gs_row_8 hI
  refine sA_iload_n dd_X7_spellThird_0 rfl (.tail _ (.tail _ (.tail _ (.head _)))) ?_
  refine sA_iconst (z := 2) dd_X7_spellThird_1 ?_
  refine sA_iload_n dd_X7_spellThird_2 rfl (.tail _ (.head _)) ?_
  refine sA_imul dd_X7_spellThird_3 ?_
  refine sA_iconst (z := 2) dd_X7_spellThird_4 ?_
  refine sA_iadd dd_X7_spellThird_5 ?_
  refine sA_icmp_eq (tgt := 18) dd_X7_spellThird_6 (by decide) (by omega) (by omega) (fun q2 => ?_) (fun q2 => ?_)
  · skip
    refine sA_aload_n dd_X7_spellThird_18 rfl (.head _) ?_
    refine sA_iload_n dd_X7_spellThird_19 rfl (.tail _ (.head _)) ?_
    refine sA_iload_n dd_X7_spellThird_20 rfl (.tail _ (.tail _ (.head _))) ?_
    refine sA_ineg dd_X7_spellThird_21 ?_
    refine sA_callV (y2 := m_X7_spellBetween) (n2 := 2) (d2 := 2) (a := 5) (ci := 7) (q := (RX7, TX7, 5)) (as := [gs_iv i, gs_iv (-w)]) (rest := []) dd_X7_spellThird_22 ok_X7_spellBetween ml_X7_61 rfl rfl (by decide) gs_s5 rfl rfl (Nat.le_of_ble_eq_true rfl) (by decide) (c_X7_spellBetween_vf hI (by omega) (by omega) (by omega)) (fun r3 F4 A5 h6 => ?_)
    obtain ⟨e8, I9, f10, x7⟩ := h6
    subst e8
    have f12 := gs_fr_tr hf f10 (fun b j h => by first | exact False.elim h | omega | (dsimp only at h ⊢; omega) | fail) (fun b h => by first | exact False.elim h | omega | (dsimp only at h ⊢; omega) | fail)
    have y13 : F4 8 1 ≤ F 8 1 + 4 ∧ 0 ≤ F4 8 1 ∧ gs_stk (A5 9) (F4 8 1).toNat = sp_all (gs_stk (A 9) (F 8 1).toNat) (sp_C i ((1 - (-w)) / 2)) := x7
    clear x7
    show sA _ _ _ 25 _ [] _ _
    refine sA_aload_n dd_X7_spellThird_25 rfl (.head _) ?_
    refine sA_getr (ci := 7) (j := 3) (q := (RX7, TX7, 5)) dd_X7_spellThird_26 rfl (by decide) fl_X7_23 (by decide) gs_s5 rfl ?_
    refine sA_iload_n dd_X7_spellThird_29 rfl (.tail _ (.tail _ (.tail _ (.head _)))) ?_
    refine sA_callV (y2 := m_X4_push) (n2 := 1) (d2 := 1) (a := 8) (ci := 4) (q := (RX4, TX4, 2)) (as := [gs_iv x]) (rest := []) dd_X7_spellThird_30 ok_X4_push ml_X7_58 rfl rfl (Nat.lt_of_succ_lt gs_row_8.1) gs_row_8.2.1 rfl rfl (Nat.le_of_ble_eq_true rfl) (by decide) (c_X4_push_vs I9 gs_row_8 (by omega)) (fun r14 F15 A16 h17 => ?_)
    obtain ⟨e19, I20, f21, x18⟩ := h17
    subst e19
    have f23 := gs_fr_tr f12 f21 (fun b j h => by first | exact False.elim h | omega | (dsimp only at h ⊢; omega) | fail) (fun b h => by first | exact False.elim h | omega | (dsimp only at h ⊢; omega) | fail)
    have y24 : (F15 8 1 ≤ F4 8 1 + 1 ∧ 0 ≤ F15 8 1) ∧ (F4 8 1 < (9 : Int) → gs_stk (A16 9) (F15 8 1).toNat = sp_push (gs_stk (A5 9) (F4 8 1).toNat) x) := x18
    clear x18
    show sA _ _ _ 33 _ [] _ _
    refine sA_iload_n dd_X7_spellThird_33 rfl (.tail _ (.tail _ (.tail _ (.head _)))) ?_
    refine sA_iconst (z := 2) dd_X7_spellThird_34 ?_
    refine sA_iload_n dd_X7_spellThird_35 rfl (.tail _ (.head _)) ?_
    refine sA_imul dd_X7_spellThird_36 ?_
    refine sA_iconst (z := 3) dd_X7_spellThird_37 ?_
    refine sA_iadd dd_X7_spellThird_38 ?_
    refine sA_icmp_eq (tgt := 51) dd_X7_spellThird_39 (by decide) (by omega) (by omega) (fun q25 => ?_) (fun q25 => ?_)
    · skip
      refine sA_aload_n dd_X7_spellThird_51 rfl (.head _) ?_
      refine sA_iload_n dd_X7_spellThird_52 rfl (.tail _ (.head _)) ?_
      refine sA_iload_n dd_X7_spellThird_53 rfl (.tail _ (.tail _ (.head _))) ?_
      refine sA_callV (y2 := m_X7_spellBetween) (n2 := 2) (d2 := 2) (a := 5) (ci := 7) (q := (RX7, TX7, 5)) (as := [gs_iv i, gs_iv w]) (rest := []) dd_X7_spellThird_54 ok_X7_spellBetween ml_X7_61 rfl rfl (by decide) gs_s5 rfl rfl (Nat.le_of_ble_eq_true rfl) (by decide) (c_X7_spellBetween_vf I20 (by omega) (by omega) (by omega)) (fun r26 F27 A28 h29 => ?_)
      obtain ⟨e31, I32, f33, x30⟩ := h29
      subst e31
      have f35 := gs_fr_tr f23 f33 (fun b j h => by first | exact False.elim h | omega | (dsimp only at h ⊢; omega) | fail) (fun b h => by first | exact False.elim h | omega | (dsimp only at h ⊢; omega) | fail)
      have y36 : F27 8 1 ≤ F15 8 1 + 4 ∧ 0 ≤ F27 8 1 ∧ gs_stk (A28 9) (F27 8 1).toNat = sp_all (gs_stk (A16 9) (F15 8 1).toNat) (sp_C i ((1 - w) / 2)) := x30
      clear x30
      show sA _ _ _ 57 _ [] _ _
      refine sA_vret dd_X7_spellThird_57 rfl ?_
      refine ⟨rfl, I32, f35, ?_⟩
      first
        | (exfalso; omega)
        | (refine ⟨by omega, by omega, ?_⟩
           repeat (first | rw [if_pos (by omega)] | rw [if_neg (by omega)] | fail)
           rw [sp_all_app, sp_all_app]
           show _ = sp_all (sp_push (sp_all _ _) _) _
           exact (y36.2.2.trans (sp_all_cg2 ((y24.2 (by omega)).trans (sp_push_cg (by first | rfl | omega | (rcases hw with rfl | rfl <;> omega) | fail) (y13.2.2.trans (sp_all_cg2 rfl (sp_C_cg rfl (by first | rfl | omega | fail)))))) (sp_C_cg rfl (by first | rfl | omega | fail)))))
        | fail
    · skip
      refine sA_iload_n dd_X7_spellThird_42 rfl (.tail _ (.tail _ (.tail _ (.head _)))) ?_
      refine sA_iconst (z := 2) dd_X7_spellThird_43 ?_
      refine sA_iload_n dd_X7_spellThird_44 rfl (.tail _ (.head _)) ?_
      refine sA_imul dd_X7_spellThird_45 ?_
      refine sA_iconst (z := 4) dd_X7_spellThird_46 ?_
      refine sA_iadd dd_X7_spellThird_47 ?_
      refine sA_icmp_ne (tgt := 57) dd_X7_spellThird_48 (by decide) (by omega) (by omega) (fun q37 => ?_) (fun q37 => ?_)
      · skip
        refine sA_vret dd_X7_spellThird_57 rfl ?_
        refine ⟨rfl, I20, f23, ?_⟩
        first
          | (exfalso; omega)
          | (refine ⟨by omega, by omega, ?_⟩
             repeat (first | rw [if_pos (by omega)] | rw [if_neg (by omega)] | fail)
             rw [sp_all_app]
             show _ = sp_push (sp_all _ _) _
             exact ((y24.2 (by omega)).trans (sp_push_cg (by first | rfl | omega | (rcases hw with rfl | rfl <;> omega) | fail) (y13.2.2.trans (sp_all_cg2 rfl (sp_C_cg rfl (by first | rfl | omega | fail)))))))
          | fail
      · skip
        refine sA_aload_n dd_X7_spellThird_51 rfl (.head _) ?_
        refine sA_iload_n dd_X7_spellThird_52 rfl (.tail _ (.head _)) ?_
        refine sA_iload_n dd_X7_spellThird_53 rfl (.tail _ (.tail _ (.head _))) ?_
        refine sA_callV (y2 := m_X7_spellBetween) (n2 := 2) (d2 := 2) (a := 5) (ci := 7) (q := (RX7, TX7, 5)) (as := [gs_iv i, gs_iv w]) (rest := []) dd_X7_spellThird_54 ok_X7_spellBetween ml_X7_61 rfl rfl (by decide) gs_s5 rfl rfl (Nat.le_of_ble_eq_true rfl) (by decide) (c_X7_spellBetween_vf I20 (by omega) (by omega) (by omega)) (fun r38 F39 A40 h41 => ?_)
        obtain ⟨e43, I44, f45, x42⟩ := h41
        subst e43
        have f47 := gs_fr_tr f23 f45 (fun b j h => by first | exact False.elim h | omega | (dsimp only at h ⊢; omega) | fail) (fun b h => by first | exact False.elim h | omega | (dsimp only at h ⊢; omega) | fail)
        have y48 : F39 8 1 ≤ F15 8 1 + 4 ∧ 0 ≤ F39 8 1 ∧ gs_stk (A40 9) (F39 8 1).toNat = sp_all (gs_stk (A16 9) (F15 8 1).toNat) (sp_C i ((1 - w) / 2)) := x42
        clear x42
        show sA _ _ _ 57 _ [] _ _
        refine sA_vret dd_X7_spellThird_57 rfl ?_
        refine ⟨rfl, I44, f47, ?_⟩
        first
          | (exfalso; omega)
          | (refine ⟨by omega, by omega, ?_⟩
             repeat (first | rw [if_pos (by omega)] | rw [if_neg (by omega)] | fail)
             rw [sp_all_app, sp_all_app]
             show _ = sp_all (sp_push (sp_all _ _) _) _
             exact (y48.2.2.trans (sp_all_cg2 ((y24.2 (by omega)).trans (sp_push_cg (by first | rfl | omega | (rcases hw with rfl | rfl <;> omega) | fail) (y13.2.2.trans (sp_all_cg2 rfl (sp_C_cg rfl (by first | rfl | omega | fail)))))) (sp_C_cg rfl (by first | rfl | omega | fail)))))
          | fail
  · skip
    refine sA_iload_n dd_X7_spellThird_9 rfl (.tail _ (.tail _ (.tail _ (.head _)))) ?_
    refine sA_iconst (z := 2) dd_X7_spellThird_10 ?_
    refine sA_iload_n dd_X7_spellThird_11 rfl (.tail _ (.head _)) ?_
    refine sA_imul dd_X7_spellThird_12 ?_
    refine sA_iconst (z := 3) dd_X7_spellThird_13 ?_
    refine sA_iadd dd_X7_spellThird_14 ?_
    refine sA_icmp_ne (tgt := 25) dd_X7_spellThird_15 (by decide) (by omega) (by omega) (fun q49 => ?_) (fun q49 => ?_)
    · skip
      refine sA_aload_n dd_X7_spellThird_25 rfl (.head _) ?_
      refine sA_getr (ci := 7) (j := 3) (q := (RX7, TX7, 5)) dd_X7_spellThird_26 rfl (by decide) fl_X7_23 (by decide) gs_s5 rfl ?_
      refine sA_iload_n dd_X7_spellThird_29 rfl (.tail _ (.tail _ (.tail _ (.head _)))) ?_
      refine sA_callV (y2 := m_X4_push) (n2 := 1) (d2 := 1) (a := 8) (ci := 4) (q := (RX4, TX4, 2)) (as := [gs_iv x]) (rest := []) dd_X7_spellThird_30 ok_X4_push ml_X7_58 rfl rfl (Nat.lt_of_succ_lt gs_row_8.1) gs_row_8.2.1 rfl rfl (Nat.le_of_ble_eq_true rfl) (by decide) (c_X4_push_vs hI gs_row_8 (by omega)) (fun r50 F51 A52 h53 => ?_)
      obtain ⟨e55, I56, f57, x54⟩ := h53
      subst e55
      have f59 := gs_fr_tr hf f57 (fun b j h => by first | exact False.elim h | omega | (dsimp only at h ⊢; omega) | fail) (fun b h => by first | exact False.elim h | omega | (dsimp only at h ⊢; omega) | fail)
      have y60 : (F51 8 1 ≤ F 8 1 + 1 ∧ 0 ≤ F51 8 1) ∧ (F 8 1 < (9 : Int) → gs_stk (A52 9) (F51 8 1).toNat = sp_push (gs_stk (A 9) (F 8 1).toNat) x) := x54
      clear x54
      show sA _ _ _ 33 _ [] _ _
      refine sA_iload_n dd_X7_spellThird_33 rfl (.tail _ (.tail _ (.tail _ (.head _)))) ?_
      refine sA_iconst (z := 2) dd_X7_spellThird_34 ?_
      refine sA_iload_n dd_X7_spellThird_35 rfl (.tail _ (.head _)) ?_
      refine sA_imul dd_X7_spellThird_36 ?_
      refine sA_iconst (z := 3) dd_X7_spellThird_37 ?_
      refine sA_iadd dd_X7_spellThird_38 ?_
      refine sA_icmp_eq (tgt := 51) dd_X7_spellThird_39 (by decide) (by omega) (by omega) (fun q61 => absurd q61 (by omega)) (fun q61 => ?_)
      refine sA_iload_n dd_X7_spellThird_42 rfl (.tail _ (.tail _ (.tail _ (.head _)))) ?_
      refine sA_iconst (z := 2) dd_X7_spellThird_43 ?_
      refine sA_iload_n dd_X7_spellThird_44 rfl (.tail _ (.head _)) ?_
      refine sA_imul dd_X7_spellThird_45 ?_
      refine sA_iconst (z := 4) dd_X7_spellThird_46 ?_
      refine sA_iadd dd_X7_spellThird_47 ?_
      refine sA_icmp_ne (tgt := 57) dd_X7_spellThird_48 (by decide) (by omega) (by omega) (fun q62 => ?_) (fun q62 => ?_)
      · skip
        refine sA_vret dd_X7_spellThird_57 rfl ?_
        refine ⟨rfl, I56, f59, ?_⟩
        first
          | (exfalso; omega)
          | (refine ⟨by omega, by omega, ?_⟩
             repeat (first | rw [if_pos (by omega)] | rw [if_neg (by omega)] | fail)
             show _ = sp_push _ _
             exact ((y60.2 (by omega)).trans (sp_push_cg (by first | rfl | omega | (rcases hw with rfl | rfl <;> omega) | fail) rfl)))
          | fail
      · skip
        refine sA_aload_n dd_X7_spellThird_51 rfl (.head _) ?_
        refine sA_iload_n dd_X7_spellThird_52 rfl (.tail _ (.head _)) ?_
        refine sA_iload_n dd_X7_spellThird_53 rfl (.tail _ (.tail _ (.head _))) ?_
        refine sA_callV (y2 := m_X7_spellBetween) (n2 := 2) (d2 := 2) (a := 5) (ci := 7) (q := (RX7, TX7, 5)) (as := [gs_iv i, gs_iv w]) (rest := []) dd_X7_spellThird_54 ok_X7_spellBetween ml_X7_61 rfl rfl (by decide) gs_s5 rfl rfl (Nat.le_of_ble_eq_true rfl) (by decide) (c_X7_spellBetween_vf I56 (by omega) (by omega) (by omega)) (fun r63 F64 A65 h66 => ?_)
        obtain ⟨e68, I69, f70, x67⟩ := h66
        subst e68
        have f72 := gs_fr_tr f59 f70 (fun b j h => by first | exact False.elim h | omega | (dsimp only at h ⊢; omega) | fail) (fun b h => by first | exact False.elim h | omega | (dsimp only at h ⊢; omega) | fail)
        have y73 : F64 8 1 ≤ F51 8 1 + 4 ∧ 0 ≤ F64 8 1 ∧ gs_stk (A65 9) (F64 8 1).toNat = sp_all (gs_stk (A52 9) (F51 8 1).toNat) (sp_C i ((1 - w) / 2)) := x67
        clear x67
        show sA _ _ _ 57 _ [] _ _
        refine sA_vret dd_X7_spellThird_57 rfl ?_
        refine ⟨rfl, I69, f72, ?_⟩
        first
          | (exfalso; omega)
          | (refine ⟨by omega, by omega, ?_⟩
             repeat (first | rw [if_pos (by omega)] | rw [if_neg (by omega)] | fail)
             rw [sp_all_app]
             show _ = sp_all (sp_push _ _) _
             exact (y73.2.2.trans (sp_all_cg2 ((y60.2 (by omega)).trans (sp_push_cg (by first | rfl | omega | (rcases hw with rfl | rfl <;> omega) | fail) rfl)) (sp_C_cg rfl (by first | rfl | omega | fail)))))
          | fail
    · skip
      refine sA_aload_n dd_X7_spellThird_18 rfl (.head _) ?_
      refine sA_iload_n dd_X7_spellThird_19 rfl (.tail _ (.head _)) ?_
      refine sA_iload_n dd_X7_spellThird_20 rfl (.tail _ (.tail _ (.head _))) ?_
      refine sA_ineg dd_X7_spellThird_21 ?_
      refine sA_callV (y2 := m_X7_spellBetween) (n2 := 2) (d2 := 2) (a := 5) (ci := 7) (q := (RX7, TX7, 5)) (as := [gs_iv i, gs_iv (-w)]) (rest := []) dd_X7_spellThird_22 ok_X7_spellBetween ml_X7_61 rfl rfl (by decide) gs_s5 rfl rfl (Nat.le_of_ble_eq_true rfl) (by decide) (c_X7_spellBetween_vf hI (by omega) (by omega) (by omega)) (fun r74 F75 A76 h77 => ?_)
      obtain ⟨e79, I80, f81, x78⟩ := h77
      subst e79
      have f83 := gs_fr_tr hf f81 (fun b j h => by first | exact False.elim h | omega | (dsimp only at h ⊢; omega) | fail) (fun b h => by first | exact False.elim h | omega | (dsimp only at h ⊢; omega) | fail)
      have y84 : F75 8 1 ≤ F 8 1 + 4 ∧ 0 ≤ F75 8 1 ∧ gs_stk (A76 9) (F75 8 1).toNat = sp_all (gs_stk (A 9) (F 8 1).toNat) (sp_C i ((1 - (-w)) / 2)) := x78
      clear x78
      show sA _ _ _ 25 _ [] _ _
      refine sA_aload_n dd_X7_spellThird_25 rfl (.head _) ?_
      refine sA_getr (ci := 7) (j := 3) (q := (RX7, TX7, 5)) dd_X7_spellThird_26 rfl (by decide) fl_X7_23 (by decide) gs_s5 rfl ?_
      refine sA_iload_n dd_X7_spellThird_29 rfl (.tail _ (.tail _ (.tail _ (.head _)))) ?_
      refine sA_callV (y2 := m_X4_push) (n2 := 1) (d2 := 1) (a := 8) (ci := 4) (q := (RX4, TX4, 2)) (as := [gs_iv x]) (rest := []) dd_X7_spellThird_30 ok_X4_push ml_X7_58 rfl rfl (Nat.lt_of_succ_lt gs_row_8.1) gs_row_8.2.1 rfl rfl (Nat.le_of_ble_eq_true rfl) (by decide) (c_X4_push_vs I80 gs_row_8 (by omega)) (fun r85 F86 A87 h88 => ?_)
      obtain ⟨e90, I91, f92, x89⟩ := h88
      subst e90
      have f94 := gs_fr_tr f83 f92 (fun b j h => by first | exact False.elim h | omega | (dsimp only at h ⊢; omega) | fail) (fun b h => by first | exact False.elim h | omega | (dsimp only at h ⊢; omega) | fail)
      have y95 : (F86 8 1 ≤ F75 8 1 + 1 ∧ 0 ≤ F86 8 1) ∧ (F75 8 1 < (9 : Int) → gs_stk (A87 9) (F86 8 1).toNat = sp_push (gs_stk (A76 9) (F75 8 1).toNat) x) := x89
      clear x89
      show sA _ _ _ 33 _ [] _ _
      refine sA_iload_n dd_X7_spellThird_33 rfl (.tail _ (.tail _ (.tail _ (.head _)))) ?_
      refine sA_iconst (z := 2) dd_X7_spellThird_34 ?_
      refine sA_iload_n dd_X7_spellThird_35 rfl (.tail _ (.head _)) ?_
      refine sA_imul dd_X7_spellThird_36 ?_
      refine sA_iconst (z := 3) dd_X7_spellThird_37 ?_
      refine sA_iadd dd_X7_spellThird_38 ?_
      refine sA_icmp_eq (tgt := 51) dd_X7_spellThird_39 (by decide) (by omega) (by omega) (fun q96 => ?_) (fun q96 => absurd q96 (by omega))
      refine sA_aload_n dd_X7_spellThird_51 rfl (.head _) ?_
      refine sA_iload_n dd_X7_spellThird_52 rfl (.tail _ (.head _)) ?_
      refine sA_iload_n dd_X7_spellThird_53 rfl (.tail _ (.tail _ (.head _))) ?_
      refine sA_callV (y2 := m_X7_spellBetween) (n2 := 2) (d2 := 2) (a := 5) (ci := 7) (q := (RX7, TX7, 5)) (as := [gs_iv i, gs_iv w]) (rest := []) dd_X7_spellThird_54 ok_X7_spellBetween ml_X7_61 rfl rfl (by decide) gs_s5 rfl rfl (Nat.le_of_ble_eq_true rfl) (by decide) (c_X7_spellBetween_vf I91 (by omega) (by omega) (by omega)) (fun r97 F98 A99 h100 => ?_)
      obtain ⟨e102, I103, f104, x101⟩ := h100
      subst e102
      have f106 := gs_fr_tr f94 f104 (fun b j h => by first | exact False.elim h | omega | (dsimp only at h ⊢; omega) | fail) (fun b h => by first | exact False.elim h | omega | (dsimp only at h ⊢; omega) | fail)
      have y107 : F98 8 1 ≤ F86 8 1 + 4 ∧ 0 ≤ F98 8 1 ∧ gs_stk (A99 9) (F98 8 1).toNat = sp_all (gs_stk (A87 9) (F86 8 1).toNat) (sp_C i ((1 - w) / 2)) := x101
      clear x101
      show sA _ _ _ 57 _ [] _ _
      refine sA_vret dd_X7_spellThird_57 rfl ?_
      refine ⟨rfl, I103, f106, ?_⟩
      first
        | (exfalso; omega)
        | (refine ⟨by omega, by omega, ?_⟩
           repeat (first | rw [if_pos (by omega)] | rw [if_neg (by omega)] | fail)
           rw [sp_all_app, sp_all_app]
           show _ = sp_all (sp_push (sp_all _ _) _) _
           exact (y107.2.2.trans (sp_all_cg2 ((y95.2 (by omega)).trans (sp_push_cg (by first | rfl | omega | (rcases hw with rfl | rfl <;> omega) | fail) (y84.2.2.trans (sp_all_cg2 rfl (sp_C_cg rfl (by first | rfl | omega | fail)))))) (sp_C_cg rfl (by first | rfl | omega | fail)))))
        | fail
theorem k_X4_becomeBack_vf {a L b M : Nat} {F A : gs_F} (hI : gs_I F A) (hr : gs_row a L) (ho : gs_row b M) (hab : a ≠ b) : ∀ nN : Nat, (∀ (k : Int)  (F1 A1 : gs_F), gs_I F1 A1 → gs_fr (fun c j => c = a ∧ j = 1) (fun c => c = a + 1) F A F1 A1 → 0 ≤ k → k ≤ F1 a 1 → F1 a 1 ≤ (M : Int) → F1 a 1 ≤ F b 1 → (∀ j : Int, 0 ≤ j → j < k → A1 (a + 1) j.toNat = -(A (b + 1) (F1 a 1 - 1 - j).toNat)) → (F b 1 ≤ (L : Int) → F1 a 1 = F b 1) → F1 a 1 - k < (nN : Int) → sA m_X4_becomeBack 1 (fun rv F' A' => rv = none ∧ gs_I F' A' ∧ gs_fr (fun c j => c = a ∧ j = 1) (fun c => c = a + 1) F A F' A' ∧ (F b 1 ≤ (L : Int) → (F' a 1 = F b 1 ∧ ∀ k : Int, 0 ≤ k → k < F b 1 → A' (a + 1) k.toNat = -(A (b + 1) (F b 1 - 1 - k).toNat)))) 18 [(2, gs_iv k), (0, .ref a), (1, .ref b)] [] F1 A1) := by
  intro nN
  induction nN with
  | zero =>
    exact fun a0 a1 a2 a3 a4 i0 i1 i2 i3 i4 i5 hm => by exfalso; omega
  | succ nN ih =>
    intro k F1 A1 hI1 hf1 i0 i1 i2 i3 i4 i5 hm
    have b1 := gs_row_sz hr hI1
    have b2 := gs_row_sz ho hI1
    have u3 : A1 (a + 1) = A1 (a + 1) := rfl
    refine sA_iload_n dd_X4_becomeBack_18 rfl (.head _) ?_
    refine sA_aload_n dd_X4_becomeBack_19 rfl (.tail _ (.head _)) ?_
    refine sA_geti (ci := 4) (j := 1) (q := (RX4, TX4, 2)) dd_X4_becomeBack_20 rfl (by decide) fl_X4_19 (Nat.lt_of_succ_lt hr.1) hr.2.1 rfl ?_
    refine sA_icmp_ge (tgt := 52) dd_X4_becomeBack_23 (by decide) (by omega) (by omega) (fun q4 => ?_) (fun q4 => ?_)
    · skip
      refine sA_vret dd_X4_becomeBack_52 rfl ?_
      refine ⟨rfl, hI1, hf1, ?_⟩
      intro hle
      have e := i5 hle
      refine ⟨e, fun j h1 h2 => ?_⟩
      rw [← e]
      exact i4 j h1 (by omega)
    · skip
      refine sA_aload_n dd_X4_becomeBack_26 rfl (.tail _ (.head _)) ?_
      refine sA_getr (ci := 4) (j := 0) (q := (RX4, TX4, 2)) dd_X4_becomeBack_27 rfl (by decide) fl_X4_13 (Nat.lt_of_succ_lt hr.1) hr.2.1 rfl ?_
      refine sA_iload_n dd_X4_becomeBack_30 rfl (.head _) ?_
      refine sA_aload_n dd_X4_becomeBack_31 rfl (.tail _ (.tail _ (.head _))) ?_
      refine sA_getr (ci := 4) (j := 0) (q := (RX4, TX4, 2)) dd_X4_becomeBack_32 rfl (by decide) fl_X4_13 (Nat.lt_of_succ_lt ho.1) ho.2.1 rfl ?_
      refine sA_aload_n dd_X4_becomeBack_35 rfl (.tail _ (.head _)) ?_
      refine sA_geti (ci := 4) (j := 1) (q := (RX4, TX4, 2)) dd_X4_becomeBack_36 rfl (by decide) fl_X4_19 (Nat.lt_of_succ_lt hr.1) hr.2.1 rfl ?_
      refine sA_iconst (z := 1) dd_X4_becomeBack_39 ?_
      refine sA_isub dd_X4_becomeBack_40 ?_
      refine sA_iload_n dd_X4_becomeBack_41 rfl (.head _) ?_
      refine sA_isub dd_X4_becomeBack_42 ?_
      refine sA_iald (n := M) dd_X4_becomeBack_43 ho.1 ho.2.2.1 (by omega) (Nat.le_trans ho.2.2.2.2.2.2 (by decide)) ?_
      have b5 := gs_row_el ho hI1 (((F1 a 1) - 1) - k).toNat
      refine sA_ineg dd_X4_becomeBack_44 ?_
      refine sA_iast (n := L) dd_X4_becomeBack_45 hr.1 hr.2.2.1 (by omega) (Nat.le_trans hr.2.2.2.2.2.2 (by decide)) ?_
      have I7 : gs_I F1 (gs_up A1 (a + 1) k.toNat (-(A1 (b + 1) (((F1 a 1) - 1) - k).toNat))) := gs_row_ast hr hI1 (by omega)
      have f8 := gs_fr_ast hf1 (a := a + 1) (z := -(A1 (b + 1) (((F1 a 1) - 1) - k).toNat)) (i := k.toNat) (by first | omega | (dsimp only; omega) | (dsimp only) | fail)
      have u9 : (gs_up A1 (a + 1) k.toNat (-(A1 (b + 1) (((F1 a 1) - 1) - k).toNat))) (a + 1) = gs_u (A1 (a + 1)) k.toNat (-(A1 (b + 1) (((F1 a 1) - 1) - k).toNat)) := (gs_up_u A1 (a + 1) k.toNat (-(A1 (b + 1) (((F1 a 1) - 1) - k).toNat))).trans (congrArg (fun f => gs_u f k.toNat (-(A1 (b + 1) (((F1 a 1) - 1) - k).toNat))) u3)
      generalize gs_up A1 (a + 1) k.toNat (-(A1 (b + 1) (((F1 a 1) - 1) - k).toNat)) = A6 at I7 f8 u9 ⊢
      refine sA_iinc (lv' := [(2, gs_iv (k + 1)), (0, .ref a), (1, .ref b)]) dd_X4_becomeBack_46 (.head _) (by decide) rfl ?_
      refine sA_goto (tgt := 18) dd_X4_becomeBack_49 (by decide) ?_
      refine sA_sub (lv2 := [(2, gs_iv (k + 1)), (0, .ref a), (1, .ref b)]) (List.forall_mem_cons.mpr ⟨(.head _), (List.forall_mem_cons.mpr ⟨(.tail _ (.head _)), (List.forall_mem_cons.mpr ⟨(.tail _ (.tail _ (.head _))), (fun _ h => absurd h List.not_mem_nil)⟩)⟩)⟩) ?_
      exact ih (k + 1) F1 A6 I7 f8 (by omega) (by omega) (by omega) (by omega) (gs_u_ext (h := fun j => -(A (b + 1) (F1 a 1 - 1 - j).toNat)) (by omega) u9 (by rw [hf1.2 (b + 1) (by dsimp only; omega)]) i4) (by omega) (by omega)
theorem c_X4_becomeBack_vf {a L b M : Nat} {F A : gs_F} (hI : gs_I F A) (hr : gs_row a L) (ho : gs_row b M) (hab : a ≠ b) : sC m_X4_becomeBack 1 [.ref a, .ref b] F A (fun rv F' A' => rv = none ∧ gs_I F' A' ∧ gs_fr (fun c j => c = a ∧ j = 1) (fun c => c = a + 1) F A F' A' ∧ (F b 1 ≤ (L : Int) → (F' a 1 = F b 1 ∧ ∀ k : Int, 0 ≤ k → k < F b 1 → A' (a + 1) k.toNat = -(A (b + 1) (F b 1 - 1 - k).toNat)))) := by
  refine sC_of ok_X4_becomeBack.1 (Nat.le_of_ble_eq_true rfl) ?_
  show sA _ _ _ 0 [(0, .ref a), (1, .ref b)] [] F A
  have hf : gs_fr (fun c j => c = a ∧ j = 1) (fun c => c = a + 1) F A F A := gs_fr_refl _ _ _ _
  have b10 := gs_row_sz hr hI
  have b11 := gs_row_sz ho hI
  have u12 : A (a + 1) = A (a + 1) := rfl
  refine sA_aload_n dd_X4_becomeBack_0 rfl (.head _) ?_
  refine sA_aload_n dd_X4_becomeBack_1 rfl (.tail _ (.head _)) ?_
  refine sA_geti (ci := 4) (j := 1) (q := (RX4, TX4, 2)) dd_X4_becomeBack_2 rfl (by decide) fl_X4_19 (Nat.lt_of_succ_lt ho.1) ho.2.1 rfl ?_
  refine sA_aload_n dd_X4_becomeBack_5 rfl (.head _) ?_
  refine sA_getr (ci := 4) (j := 0) (q := (RX4, TX4, 2)) dd_X4_becomeBack_6 rfl (by decide) fl_X4_13 (Nat.lt_of_succ_lt hr.1) hr.2.1 rfl ?_
  refine sA_alen (n := L) dd_X4_becomeBack_9 hr.1 hr.2.2.1 ?_
  have b13 := hr.2.2.2.2.2
  refine sA_mmin dd_X4_becomeBack_10 (ri_lw_in (pl := 338) (by decide +kernel)) (by decide) (by omega) (by omega) (Nat.le_of_ble_eq_true rfl) (fun w14 q15 => ?_)
  refine sA_put (ci := 4) (j := 1) (q := (RX4, TX4, 2)) (ty := .int) dd_X4_becomeBack_13 rfl (by decide) fl_X4_19 rfl (tyX4_ok 1 (by decide)) rfl rfl (Nat.lt_of_succ_lt hr.1) hr.2.1 rfl ?_
  have I17 : gs_I (gs_up F a 1 w14) A := gs_row_put hr hI (by omega)
  have f18 := gs_fr_put hf (a := a) (z := w14) (j := 1) (by first | omega | (dsimp only; omega) | (dsimp only) | fail)
  have v19 : gs_up F a 1 w14 a 1 = w14 := gs_up_self _ _ _ _
  generalize gs_up F a 1 w14 = F16 at I17 f18 v19 ⊢
  refine sA_iconst (z := 0) dd_X4_becomeBack_16 ?_
  refine sA_istore_n (lv' := [(2, gs_iv 0), (0, .ref a), (1, .ref b)]) dd_X4_becomeBack_17 rfl (by decide) rfl ?_
  have b20 := gs_row_sz hr I17
  have b21 := gs_row_sz ho I17
  refine sA_sub (lv2 := [(2, gs_iv 0), (0, .ref a), (1, .ref b)]) (List.forall_mem_cons.mpr ⟨(.head _), (List.forall_mem_cons.mpr ⟨(.tail _ (.head _)), (List.forall_mem_cons.mpr ⟨(.tail _ (.tail _ (.head _))), (fun _ h => absurd h List.not_mem_nil)⟩)⟩)⟩) ?_
  exact (k_X4_becomeBack_vf hI hr ho hab (F16 a 1 - 0 : Int).toNat.succ) 0 F16 A I17 f18 (by omega) (by omega) (by omega) (by omega) (fun j h1 h2 => by exfalso; omega) (by omega) (by omega)
theorem c_X7_keepWord_vf {b : Nat} {u x : Int} {F A : gs_F} (hI : gs_I F A) (hu : 0 ≤ u ∧ u ≤ 15) (hx : -6 ≤ x ∧ x ≤ 6) (ho : gs_row b 9) (hb8 : b = 8 ∨ b = 10) : sC m_X7_keepWord 2 [.ref 5, gs_iv u, gs_iv x, .ref b] F A (fun rv F' A' => rv = none ∧ gs_I F' A' ∧ gs_fr (fun _ _ => False) (fun c => c = 6) F A F' A' ∧ (A' 6 ((u * 13 + x + 6) * 10).toNat = F b 1 ∧ (∀ i : Int, 0 ≤ i → i < F b 1 → A' 6 (((u * 13 + x + 6) * 10) + 1 + i).toNat = A (b + 1) i.toNat) ∧ (∀ i : Int, 0 ≤ i → (i < ((u * 13 + x + 6) * 10) ∨ ((u * 13 + x + 6) * 10) + 10 ≤ i) → A' 6 i.toNat = A 6 i.toNat))) := by
  refine sC_of ok_X7_keepWord.1 (Nat.le_of_ble_eq_true rfl) ?_
  show sA _ _ _ 0 [(0, .ref 5), (1, gs_iv u), (2, gs_iv x), (3, .ref b)] [] F A
  have hf : gs_fr (fun _ _ => False) (fun c => c = 6) F A F A := gs_fr_refl _ _ _ _
  have b1 := gs_row_sz ho hI
  have u2 : A 6 = A 6 := rfl
  have u3 : A (b + 1) = A (b + 1) := rfl
  refine sA_iload_n dd_X7_keepWord_0 rfl (.tail _ (.head _)) ?_
  refine sA_iload_n dd_X7_keepWord_1 rfl (.tail _ (.tail _ (.head _))) ?_
  refine sA_callS (y2 := m_X7_slotOf) (n2 := 2) (d2 := 1) (as := [gs_iv u, gs_iv x]) (rest := []) dd_X7_keepWord_2 ok_X7_slotOf ml_X7_65 rfl rfl (Nat.le_of_ble_eq_true rfl) (by decide) (c_X7_slotOf ) (fun r4 F5 A6 h7 => ?_)
  obtain ⟨z10, e9, e11, e12, x8⟩ := h7
  subst e9 e11 e12
  show sA _ _ _ 5 _ [gs_iv z10] _ _
  refine sA_istore (lv' := [(4, gs_iv z10), (0, .ref 5), (1, gs_iv u), (2, gs_iv x), (3, .ref b)]) dd_X7_keepWord_5 (by decide) rfl ?_
  refine sA_aload_n dd_X7_keepWord_7 rfl (.tail _ (.head _)) ?_
  refine sA_getr (ci := 7) (j := 1) (q := (RX7, TX7, 5)) dd_X7_keepWord_8 rfl (by decide) fl_X7_11 (by decide) gs_s5 rfl ?_
  refine sA_iload dd_X7_keepWord_11 (.head _) ?_
  refine sA_aload_n dd_X7_keepWord_13 rfl (.tail _ (.tail _ (.tail _ (.tail _ (.head _))))) ?_
  refine sA_geti (ci := 4) (j := 1) (q := (RX4, TX4, 2)) dd_X7_keepWord_14 rfl (by decide) fl_X7_38 (Nat.lt_of_succ_lt ho.1) ho.2.1 rfl ?_
  refine sA_iast (n := 2080) dd_X7_keepWord_17 (by decide) gs_s6 (by omega) (by decide) ?_
  have I14 : gs_I F (gs_up A 6 z10.toNat (F b 1)) := gs_I_ast hI (show (-9 : Int) ≤ F b 1 ∧ F b 1 ≤ 9 by omega)
  have f15 := gs_fr_ast hf (a := 6) (z := F b 1) (i := z10.toNat) (by first | omega | (dsimp only; omega) | (dsimp only) | fail)
  have u16 : (gs_up A 6 z10.toNat (F b 1)) 6 = gs_u (A 6) z10.toNat (F b 1) := (gs_up_u A 6 z10.toNat (F b 1)).trans (congrArg (fun f => gs_u f z10.toNat (F b 1)) u2)
  have u17 : (gs_up A 6 z10.toNat (F b 1)) (b + 1) = A (b + 1) := (gs_up_row _ _ (by omega)).trans u3
  generalize gs_up A 6 z10.toNat (F b 1) = A13 at I14 f15 u16 u17 ⊢
  refine sA_aload_n dd_X7_keepWord_18 rfl (.tail _ (.tail _ (.tail _ (.tail _ (.head _))))) ?_
  refine sA_getr (ci := 4) (j := 0) (q := (RX4, TX4, 2)) dd_X7_keepWord_19 rfl (by decide) fl_X7_69 (Nat.lt_of_succ_lt ho.1) ho.2.1 rfl ?_
  refine sA_iconst (z := 0) dd_X7_keepWord_22 ?_
  refine sA_aload_n dd_X7_keepWord_23 rfl (.tail _ (.head _)) ?_
  refine sA_getr (ci := 7) (j := 1) (q := (RX7, TX7, 5)) dd_X7_keepWord_24 rfl (by decide) fl_X7_11 (by decide) gs_s5 rfl ?_
  refine sA_iload dd_X7_keepWord_27 (.head _) ?_
  refine sA_iconst (z := 1) dd_X7_keepWord_29 ?_
  refine sA_iadd dd_X7_keepWord_30 ?_
  refine sA_aload_n dd_X7_keepWord_31 rfl (.tail _ (.tail _ (.tail _ (.tail _ (.head _))))) ?_
  refine sA_geti (ci := 4) (j := 1) (q := (RX4, TX4, 2)) dd_X7_keepWord_32 rfl (by decide) fl_X7_38 (Nat.lt_of_succ_lt ho.1) ho.2.1 rfl ?_
  refine sA_copy (n1 := 9) (n2 := 2080) dd_X7_keepWord_35 (ri_lw_in (pl := 348) (by decide +kernel)) gs_copyok ho.1 ho.2.2.1 (by decide) gs_s6 (by omega) (by omega) (by omega) (by omega) (by omega) (Nat.le_trans ho.2.2.2.2.2.2 (by decide)) (by decide) (by decide) (Nat.le_of_ble_eq_true rfl) ?_
  have I19 : gs_I F (gs_cp A13 (b + 1) 6 (0 : Int).toNat (z10 + 1).toNat (F b 1).toNat) := gs_I_cp I14 (b := 6) (a := (b + 1)) (p := ((-9), 9)) (q := ((-9), 9)) rfl ho.2.2.2.2.1 (by decide)
  have f20 := gs_fr_cp f15 (a := (b + 1)) (b := 6) (sp := (0 : Int).toNat) (dp := (z10 + 1).toNat) (n := (F b 1).toNat) (by first | omega | (dsimp only; omega) | (dsimp only) | fail)
  have u21 : (gs_cp A13 (b + 1) 6 (0 : Int).toNat (z10 + 1).toNat (F b 1).toNat) 6 = gs_cc (A (b + 1)) (gs_u (A 6) z10.toNat (F b 1)) (0 : Int).toNat (z10 + 1).toNat (F b 1).toNat := (gs_cp_u A13 (b + 1) 6 _ _ _).trans (by rw [u17, u16])
  have u22 : (gs_cp A13 (b + 1) 6 (0 : Int).toNat (z10 + 1).toNat (F b 1).toNat) (b + 1) = A (b + 1) := (gs_cp_row _ (by omega)).trans u17
  generalize gs_cp A13 (b + 1) 6 (0 : Int).toNat (z10 + 1).toNat (F b 1).toNat = A18 at I19 f20 u21 u22 ⊢
  refine sA_vret dd_X7_keepWord_38 rfl ?_
  refine ⟨rfl, I19, f20, ?_⟩
  have es : z10 = ((u * 13 + x + 6) * 10) := by omega
  rw [← es]
  refine ⟨?_, fun i h1 h2 => ?_, fun i h1 h2 => ?_⟩
  · rw [u21]
    unfold gs_cc
    rw [if_neg (by omega), gs_u_self]
  · rw [u21]
    unfold gs_cc
    rw [if_pos (by omega)]
    congr 1
    omega
  · rw [u21]
    unfold gs_cc
    rw [if_neg (by omega), gs_u_ne _ _ (by omega)]
theorem c_X7_layWord_vf {u x g : Int} {F A : gs_F} (hI : gs_I F A) (hg : 1 ≤ g ∧ g ≤ 3) (hu : 0 ≤ u ∧ u < 6 * g - 2) (hx : 1 ≤ x ∧ x ≤ 2 * g) : sC m_X7_layWord 4 [.ref 5, gs_iv u, gs_iv x, gs_iv g] F A (fun rv F' A' => rv = none ∧ gs_I F' A' ∧ gs_fr (fun c j => (c = 8 ∨ c = 10) ∧ j = 1) (fun c => c = 9 ∨ c = 11 ∨ c = 6) F A F' A' ∧ (gs_We (A' 6) g u x ∧ gs_We (A' 6) g u (-x) ∧ (∀ i : Int, 0 ≤ i → (i < ((u * 13 + x + 6) * 10) ∨ ((u * 13 + x + 6) * 10) + 10 ≤ i) → (i < ((u * 13 + -x + 6) * 10) ∨ ((u * 13 + -x + 6) * 10) + 10 ≤ i) → A' 6 i.toNat = A 6 i.toNat))) := by
  refine sC_of ok_X7_layWord.1 (Nat.le_of_ble_eq_true rfl) ?_
  show sA _ _ _ 0 [(0, .ref 5), (1, gs_iv u), (2, gs_iv x), (3, gs_iv g)] [] F A
  have hf : gs_fr (fun c j => (c = 8 ∨ c = 10) ∧ j = 1) (fun c => c = 9 ∨ c = 11 ∨ c = 6) F A F A := gs_fr_refl _ _ _ _
  have b1 := gs_row_sz gs_row_8 hI
  have b2 := gs_row_sz gs_row_10 hI
  have u3 : A 6 = A 6 := rfl
  refine sA_iload_n dd_X7_layWord_0 rfl (.tail _ (.head _)) ?_
  refine sA_iconst (z := 2) dd_X7_layWord_1 ?_
  refine sA_idivN dd_X7_layWord_2 (by omega) (by omega) (by omega) ?_
  refine sA_istore (lv' := [(4, gs_iv (u / 2)), (0, .ref 5), (1, gs_iv u), (2, gs_iv x), (3, gs_iv g)]) dd_X7_layWord_3 (by decide) rfl ?_
  refine sA_iload_n dd_X7_layWord_5 rfl (.tail _ (.tail _ (.head _))) ?_
  refine sA_iconst (z := 2) dd_X7_layWord_6 ?_
  refine sA_iremN dd_X7_layWord_7 (by omega) (by omega) (by omega) ?_
  refine sA_if_ne (tgt := 15) dd_X7_layWord_8 (by decide) (by omega) (fun q4 => ?_) (fun q4 => ?_)
  · skip
    refine sA_iconst (z := (-1)) dd_X7_layWord_15 ?_
    refine sA_istore (lv' := [(5, gs_iv (-1)), (4, gs_iv (u / 2)), (0, .ref 5), (1, gs_iv u), (2, gs_iv x), (3, gs_iv g)]) dd_X7_layWord_16 (by decide) rfl ?_
    refine sA_aload_n dd_X7_layWord_18 rfl (.tail _ (.tail _ (.head _))) ?_
    refine sA_getr (ci := 7) (j := 3) (q := (RX7, TX7, 5)) dd_X7_layWord_19 rfl (by decide) fl_X7_23 (by decide) gs_s5 rfl ?_
    refine sA_iconst (z := 0) dd_X7_layWord_22 ?_
    refine sA_put (ci := 4) (j := 1) (q := (RX4, TX4, 2)) (ty := .int) dd_X7_layWord_23 rfl (by decide) fl_X7_38 rfl (tyX4_ok 1 (by decide)) rfl rfl (Nat.lt_of_succ_lt gs_row_8.1) gs_row_8.2.1 rfl ?_
    have I6 : gs_I (gs_up F 8 1 0) A := gs_row_put gs_row_8 hI (by omega)
    have f7 := gs_fr_put hf (a := 8) (z := 0) (j := 1) (by first | omega | (dsimp only; omega) | (dsimp only) | fail)
    have v8 : gs_up F 8 1 0 8 1 = 0 := gs_up_self _ _ _ _
    have v9 : (gs_up F 8 1 0) 10 1 = F 10 1 := gs_up_ne _ _ (by omega)
    generalize gs_up F 8 1 0 = F5 at I6 f7 v8 v9 ⊢
    refine sA_iload dd_X7_layWord_26 (.tail _ (.head _)) ?_
    refine sA_iload_n dd_X7_layWord_28 rfl (.tail _ (.tail _ (.tail _ (.tail _ (.tail _ (.head _)))))) ?_
    refine sA_icmp_ge (tgt := 44) dd_X7_layWord_29 (by decide) (by omega) (by omega) (fun q10 => ?_) (fun q10 => ?_)
    · skip
      refine sA_iload dd_X7_layWord_44 (.tail _ (.head _)) ?_
      refine sA_iconst (z := 2) dd_X7_layWord_46 ?_
      refine sA_iload_n dd_X7_layWord_47 rfl (.tail _ (.tail _ (.tail _ (.tail _ (.tail _ (.head _)))))) ?_
      refine sA_imul dd_X7_layWord_48 ?_
      refine sA_icmp_ge (tgt := 66) dd_X7_layWord_49 (by decide) (by omega) (by omega) (fun q11 => ?_) (fun q11 => ?_)
      · skip
        refine sA_aload_n dd_X7_layWord_66 rfl (.tail _ (.tail _ (.head _))) ?_
        refine sA_iload dd_X7_layWord_67 (.tail _ (.head _)) ?_
        refine sA_iconst (z := 2) dd_X7_layWord_69 ?_
        refine sA_iload_n dd_X7_layWord_70 rfl (.tail _ (.tail _ (.tail _ (.tail _ (.tail _ (.head _)))))) ?_
        refine sA_imul dd_X7_layWord_71 ?_
        refine sA_isub dd_X7_layWord_72 ?_
        refine sA_iload dd_X7_layWord_73 (.head _) ?_
        refine sA_iload_n dd_X7_layWord_75 rfl (.tail _ (.tail _ (.tail _ (.tail _ (.head _))))) ?_
        refine sA_callV (y2 := m_X7_spellThird) (n2 := 3) (d2 := 3) (a := 5) (ci := 7) (q := (RX7, TX7, 5)) (as := [gs_iv ((u / 2) - (2 * g)), gs_iv (-1), gs_iv x]) (rest := []) dd_X7_layWord_76 ok_X7_spellThird ml_X7_47 rfl rfl (by decide) gs_s5 rfl rfl (Nat.le_of_ble_eq_true rfl) (by decide) (c_X7_spellThird_vf I6 (by omega) (by omega) (by omega) (by omega)) (fun r12 F13 A14 h15 => ?_)
        obtain ⟨e17, I18, f19, x16⟩ := h15
        subst e17
        have v21 : F13 10 1 = F5 10 1 := f19.1 10 1 (by first | exact id | omega | (dsimp only; omega) | (dsimp only) | fail)
        have f22 := gs_fr_tr f7 f19 (fun b j h => by first | exact False.elim h | omega | (dsimp only at h ⊢; omega) | fail) (fun b h => by first | exact False.elim h | omega | (dsimp only at h ⊢; omega) | fail)
        have u23 : A14 6 = A 6 := (f19.2 6 (by first | exact id | omega | (dsimp only; omega) | (dsimp only) | fail)).trans u3
        have y24 : F13 8 1 ≤ F5 8 1 + 9 ∧ 0 ≤ F13 8 1 ∧ gs_stk (A14 9) (F13 8 1).toNat = sp_all (gs_stk (A 9) (F5 8 1).toNat) (if x = 2 * ((u / 2) - (2 * g)) + 2 then sp_C ((u / 2) - (2 * g)) ((1 - -(-1 : Int)) / 2) ++ [x] else if x = 2 * ((u / 2) - (2 * g)) + 3 then sp_C ((u / 2) - (2 * g)) ((1 - -(-1 : Int)) / 2) ++ ([x] ++ sp_C ((u / 2) - (2 * g)) ((1 - (-1 : Int)) / 2)) else if x = 2 * ((u / 2) - (2 * g)) + 4 then [x] ++ sp_C ((u / 2) - (2 * g)) ((1 - (-1 : Int)) / 2) else [x]) := x16
        clear x16
        show sA _ _ _ 79 _ [] _ _
        refine sA_aload_n dd_X7_layWord_79 rfl (.tail _ (.tail _ (.head _))) ?_
        refine sA_getr (ci := 7) (j := 4) (q := (RX7, TX7, 5)) dd_X7_layWord_80 rfl (by decide) fl_X7_27 (by decide) gs_s5 rfl ?_
        refine sA_aload_n dd_X7_layWord_83 rfl (.tail _ (.tail _ (.head _))) ?_
        refine sA_getr (ci := 7) (j := 3) (q := (RX7, TX7, 5)) dd_X7_layWord_84 rfl (by decide) fl_X7_23 (by decide) gs_s5 rfl ?_
        refine sA_callV (y2 := m_X4_becomeBack) (n2 := 1) (d2 := 1) (a := 10) (ci := 4) (q := (RX4, TX4, 2)) (as := [.ref 8]) (rest := []) dd_X7_layWord_87 ok_X4_becomeBack ml_X7_50 rfl rfl (Nat.lt_of_succ_lt gs_row_10.1) gs_row_10.2.1 rfl rfl (Nat.le_of_ble_eq_true rfl) (by decide) (c_X4_becomeBack_vf I18 gs_row_10 gs_row_8 (by omega)) (fun r25 F26 A27 h28 => ?_)
        obtain ⟨e30, I31, f32, x29⟩ := h28
        subst e30
        have v33 : F26 8 1 = F13 8 1 := f32.1 8 1 (by first | exact id | omega | (dsimp only; omega) | (dsimp only) | fail)
        have f35 := gs_fr_tr f22 f32 (fun b j h => by first | exact False.elim h | omega | (dsimp only at h ⊢; omega) | fail) (fun b h => by first | exact False.elim h | omega | (dsimp only at h ⊢; omega) | fail)
        have u36 : A27 6 = A 6 := (f32.2 6 (by first | exact id | omega | (dsimp only; omega) | (dsimp only) | fail)).trans u23
        have y37 : F13 8 1 ≤ (9 : Int) → (F26 10 1 = F13 8 1 ∧ ∀ k : Int, 0 ≤ k → k < F13 8 1 → A27 11 k.toNat = -(A14 9 (F13 8 1 - 1 - k).toNat)) := x29
        clear x29
        show sA _ _ _ 90 _ [] _ _
        refine sA_aload_n dd_X7_layWord_90 rfl (.tail _ (.tail _ (.head _))) ?_
        refine sA_iload_n dd_X7_layWord_91 rfl (.tail _ (.tail _ (.tail _ (.head _)))) ?_
        refine sA_iload_n dd_X7_layWord_92 rfl (.tail _ (.tail _ (.tail _ (.tail _ (.head _))))) ?_
        refine sA_aload_n dd_X7_layWord_93 rfl (.tail _ (.tail _ (.head _))) ?_
        refine sA_getr (ci := 7) (j := 3) (q := (RX7, TX7, 5)) dd_X7_layWord_94 rfl (by decide) fl_X7_23 (by decide) gs_s5 rfl ?_
        refine sA_callV (y2 := m_X7_keepWord) (n2 := 3) (d2 := 2) (a := 5) (ci := 7) (q := (RX7, TX7, 5)) (as := [gs_iv u, gs_iv x, .ref 8]) (rest := []) dd_X7_layWord_97 ok_X7_keepWord ml_X7_54 rfl rfl (by decide) gs_s5 rfl rfl (Nat.le_of_ble_eq_true rfl) (by decide) (c_X7_keepWord_vf I31 (by omega) (by omega) gs_row_8 (by omega)) (fun r38 F39 A40 h41 => ?_)
        obtain ⟨e43, I44, f45, x42⟩ := h41
        subst e43
        have v46 : F39 8 1 = F26 8 1 := f45.1 8 1 (by first | exact id | omega | (dsimp only; omega) | (dsimp only) | fail)
        have v47 : F39 10 1 = F26 10 1 := f45.1 10 1 (by first | exact id | omega | (dsimp only; omega) | (dsimp only) | fail)
        have f48 := gs_fr_tr f35 f45 (fun b j h => by first | exact False.elim h | omega | (dsimp only at h ⊢; omega) | fail) (fun b h => by first | exact False.elim h | omega | (dsimp only at h ⊢; omega) | fail)
        have u49 : A40 6 = A40 6 := rfl
        have y50 : A40 6 ((u * 13 + x + 6) * 10).toNat = F26 8 1 ∧ (∀ i : Int, 0 ≤ i → i < F26 8 1 → A40 6 (((u * 13 + x + 6) * 10) + 1 + i).toNat = A27 9 i.toNat) ∧ (∀ i : Int, 0 ≤ i → (i < ((u * 13 + x + 6) * 10) ∨ ((u * 13 + x + 6) * 10) + 10 ≤ i) → A40 6 i.toNat = A27 6 i.toNat) := x42
        clear x42
        show sA _ _ _ 100 _ [] _ _
        refine sA_aload_n dd_X7_layWord_100 rfl (.tail _ (.tail _ (.head _))) ?_
        refine sA_iload_n dd_X7_layWord_101 rfl (.tail _ (.tail _ (.tail _ (.head _)))) ?_
        refine sA_iload_n dd_X7_layWord_102 rfl (.tail _ (.tail _ (.tail _ (.tail _ (.head _))))) ?_
        refine sA_ineg dd_X7_layWord_103 ?_
        refine sA_aload_n dd_X7_layWord_104 rfl (.tail _ (.tail _ (.head _))) ?_
        refine sA_getr (ci := 7) (j := 4) (q := (RX7, TX7, 5)) dd_X7_layWord_105 rfl (by decide) fl_X7_27 (by decide) gs_s5 rfl ?_
        refine sA_callV (y2 := m_X7_keepWord) (n2 := 3) (d2 := 2) (a := 5) (ci := 7) (q := (RX7, TX7, 5)) (as := [gs_iv u, gs_iv (-x), .ref 10]) (rest := []) dd_X7_layWord_108 ok_X7_keepWord ml_X7_54 rfl rfl (by decide) gs_s5 rfl rfl (Nat.le_of_ble_eq_true rfl) (by decide) (c_X7_keepWord_vf I44 (by omega) (by omega) gs_row_10 (by omega)) (fun r51 F52 A53 h54 => ?_)
        obtain ⟨e56, I57, f58, x55⟩ := h54
        subst e56
        have v59 : F52 8 1 = F39 8 1 := f58.1 8 1 (by first | exact id | omega | (dsimp only; omega) | (dsimp only) | fail)
        have v60 : F52 10 1 = F39 10 1 := f58.1 10 1 (by first | exact id | omega | (dsimp only; omega) | (dsimp only) | fail)
        have f61 := gs_fr_tr f48 f58 (fun b j h => by first | exact False.elim h | omega | (dsimp only at h ⊢; omega) | fail) (fun b h => by first | exact False.elim h | omega | (dsimp only at h ⊢; omega) | fail)
        have u62 : A53 6 = A53 6 := rfl
        have y63 : A53 6 ((u * 13 + (-x) + 6) * 10).toNat = F39 10 1 ∧ (∀ i : Int, 0 ≤ i → i < F39 10 1 → A53 6 (((u * 13 + (-x) + 6) * 10) + 1 + i).toNat = A40 11 i.toNat) ∧ (∀ i : Int, 0 ≤ i → (i < ((u * 13 + (-x) + 6) * 10) ∨ ((u * 13 + (-x) + 6) * 10) + 10 ≤ i) → A53 6 i.toNat = A40 6 i.toNat) := x55
        clear x55
        show sA _ _ _ 111 _ [] _ _
        refine sA_vret dd_X7_layWord_111 rfl ?_
        refine ⟨rfl, I57, f61, ?_⟩
        have hst : gs_stk (A14 9) (F13 8 1).toNat = sp_all [] (sp_m g u x) := by
          have y := y24.2.2
          rw [show F5 8 1 = 0 by omega] at y
          refine y.trans ?_
          show sp_all [] _ = _
          rw [sp_m_pos (o := 1) (by omega) (by omega)]
          exact congrArg (sp_all []) (sp_word3 (by omega) (by omega) (by omega))
        obtain ⟨b1, b2⟩ := y37 (by omega)
        obtain ⟨k1, k2, k3⟩ := y50
        obtain ⟨n1, n2, n3⟩ := y63
        have e8 : F26 8 1 = F13 8 1 := by omega
        have e9 : A27 9 = A14 9 := f32.2 9 (by dsimp only; omega)
        have e10 : F39 10 1 = F26 10 1 := by omega
        have e11 : A40 11 = A27 11 := f45.2 11 (by dsimp only; omega)
        rw [e8] at k1
        rw [e8, e9] at k2
        rw [u36] at k3
        rw [e10] at n1
        rw [e10, e11] at n2
        exact gs_lw_fin hg hu hx hst (by omega) (by omega) b1 b2 k1 k2 k3 n1 n2 n3
      · skip
        refine sA_aload_n dd_X7_layWord_52 rfl (.tail _ (.tail _ (.head _))) ?_
        refine sA_iload dd_X7_layWord_53 (.tail _ (.head _)) ?_
        refine sA_iload_n dd_X7_layWord_55 rfl (.tail _ (.tail _ (.tail _ (.tail _ (.tail _ (.head _)))))) ?_
        refine sA_isub dd_X7_layWord_56 ?_
        refine sA_iload dd_X7_layWord_57 (.head _) ?_
        refine sA_iload_n dd_X7_layWord_59 rfl (.tail _ (.tail _ (.tail _ (.tail _ (.head _))))) ?_
        refine sA_callV (y2 := m_X7_spellSecond) (n2 := 3) (d2 := 2) (a := 5) (ci := 7) (q := (RX7, TX7, 5)) (as := [gs_iv ((u / 2) - g), gs_iv (-1), gs_iv x]) (rest := []) dd_X7_layWord_60 ok_X7_spellSecond ml_X7_44 rfl rfl (by decide) gs_s5 rfl rfl (Nat.le_of_ble_eq_true rfl) (by decide) (c_X7_spellSecond_vf I6 (by omega) (by omega) (by omega) (by omega)) (fun r64 F65 A66 h67 => ?_)
        obtain ⟨e69, I70, f71, x68⟩ := h67
        subst e69
        have v73 : F65 10 1 = F5 10 1 := f71.1 10 1 (by first | exact id | omega | (dsimp only; omega) | (dsimp only) | fail)
        have f74 := gs_fr_tr f7 f71 (fun b j h => by first | exact False.elim h | omega | (dsimp only at h ⊢; omega) | fail) (fun b h => by first | exact False.elim h | omega | (dsimp only at h ⊢; omega) | fail)
        have u75 : A66 6 = A 6 := (f71.2 6 (by first | exact id | omega | (dsimp only; omega) | (dsimp only) | fail)).trans u3
        have y76 : F65 8 1 ≤ F5 8 1 + 2 ∧ 0 ≤ F65 8 1 ∧ gs_stk (A66 9) (F65 8 1).toNat = sp_all (gs_stk (A 9) (F5 8 1).toNat) (if x = 2 * ((u / 2) - g) + 1 then [x, -(-1 : Int) * (2 * ((u / 2) - g) + 2)] else [x]) := x68
        clear x68
        show sA _ _ _ 63 _ [] _ _
        refine sA_goto (tgt := 79) dd_X7_layWord_63 (by decide) ?_
        refine sA_aload_n dd_X7_layWord_79 rfl (.tail _ (.tail _ (.head _))) ?_
        refine sA_getr (ci := 7) (j := 4) (q := (RX7, TX7, 5)) dd_X7_layWord_80 rfl (by decide) fl_X7_27 (by decide) gs_s5 rfl ?_
        refine sA_aload_n dd_X7_layWord_83 rfl (.tail _ (.tail _ (.head _))) ?_
        refine sA_getr (ci := 7) (j := 3) (q := (RX7, TX7, 5)) dd_X7_layWord_84 rfl (by decide) fl_X7_23 (by decide) gs_s5 rfl ?_
        refine sA_callV (y2 := m_X4_becomeBack) (n2 := 1) (d2 := 1) (a := 10) (ci := 4) (q := (RX4, TX4, 2)) (as := [.ref 8]) (rest := []) dd_X7_layWord_87 ok_X4_becomeBack ml_X7_50 rfl rfl (Nat.lt_of_succ_lt gs_row_10.1) gs_row_10.2.1 rfl rfl (Nat.le_of_ble_eq_true rfl) (by decide) (c_X4_becomeBack_vf I70 gs_row_10 gs_row_8 (by omega)) (fun r77 F78 A79 h80 => ?_)
        obtain ⟨e82, I83, f84, x81⟩ := h80
        subst e82
        have v85 : F78 8 1 = F65 8 1 := f84.1 8 1 (by first | exact id | omega | (dsimp only; omega) | (dsimp only) | fail)
        have f87 := gs_fr_tr f74 f84 (fun b j h => by first | exact False.elim h | omega | (dsimp only at h ⊢; omega) | fail) (fun b h => by first | exact False.elim h | omega | (dsimp only at h ⊢; omega) | fail)
        have u88 : A79 6 = A 6 := (f84.2 6 (by first | exact id | omega | (dsimp only; omega) | (dsimp only) | fail)).trans u75
        have y89 : F65 8 1 ≤ (9 : Int) → (F78 10 1 = F65 8 1 ∧ ∀ k : Int, 0 ≤ k → k < F65 8 1 → A79 11 k.toNat = -(A66 9 (F65 8 1 - 1 - k).toNat)) := x81
        clear x81
        show sA _ _ _ 90 _ [] _ _
        refine sA_aload_n dd_X7_layWord_90 rfl (.tail _ (.tail _ (.head _))) ?_
        refine sA_iload_n dd_X7_layWord_91 rfl (.tail _ (.tail _ (.tail _ (.head _)))) ?_
        refine sA_iload_n dd_X7_layWord_92 rfl (.tail _ (.tail _ (.tail _ (.tail _ (.head _))))) ?_
        refine sA_aload_n dd_X7_layWord_93 rfl (.tail _ (.tail _ (.head _))) ?_
        refine sA_getr (ci := 7) (j := 3) (q := (RX7, TX7, 5)) dd_X7_layWord_94 rfl (by decide) fl_X7_23 (by decide) gs_s5 rfl ?_
        refine sA_callV (y2 := m_X7_keepWord) (n2 := 3) (d2 := 2) (a := 5) (ci := 7) (q := (RX7, TX7, 5)) (as := [gs_iv u, gs_iv x, .ref 8]) (rest := []) dd_X7_layWord_97 ok_X7_keepWord ml_X7_54 rfl rfl (by decide) gs_s5 rfl rfl (Nat.le_of_ble_eq_true rfl) (by decide) (c_X7_keepWord_vf I83 (by omega) (by omega) gs_row_8 (by omega)) (fun r90 F91 A92 h93 => ?_)
        obtain ⟨e95, I96, f97, x94⟩ := h93
        subst e95
        have v98 : F91 8 1 = F78 8 1 := f97.1 8 1 (by first | exact id | omega | (dsimp only; omega) | (dsimp only) | fail)
        have v99 : F91 10 1 = F78 10 1 := f97.1 10 1 (by first | exact id | omega | (dsimp only; omega) | (dsimp only) | fail)
        have f100 := gs_fr_tr f87 f97 (fun b j h => by first | exact False.elim h | omega | (dsimp only at h ⊢; omega) | fail) (fun b h => by first | exact False.elim h | omega | (dsimp only at h ⊢; omega) | fail)
        have u101 : A92 6 = A92 6 := rfl
        have y102 : A92 6 ((u * 13 + x + 6) * 10).toNat = F78 8 1 ∧ (∀ i : Int, 0 ≤ i → i < F78 8 1 → A92 6 (((u * 13 + x + 6) * 10) + 1 + i).toNat = A79 9 i.toNat) ∧ (∀ i : Int, 0 ≤ i → (i < ((u * 13 + x + 6) * 10) ∨ ((u * 13 + x + 6) * 10) + 10 ≤ i) → A92 6 i.toNat = A79 6 i.toNat) := x94
        clear x94
        show sA _ _ _ 100 _ [] _ _
        refine sA_aload_n dd_X7_layWord_100 rfl (.tail _ (.tail _ (.head _))) ?_
        refine sA_iload_n dd_X7_layWord_101 rfl (.tail _ (.tail _ (.tail _ (.head _)))) ?_
        refine sA_iload_n dd_X7_layWord_102 rfl (.tail _ (.tail _ (.tail _ (.tail _ (.head _))))) ?_
        refine sA_ineg dd_X7_layWord_103 ?_
        refine sA_aload_n dd_X7_layWord_104 rfl (.tail _ (.tail _ (.head _))) ?_
        refine sA_getr (ci := 7) (j := 4) (q := (RX7, TX7, 5)) dd_X7_layWord_105 rfl (by decide) fl_X7_27 (by decide) gs_s5 rfl ?_
        refine sA_callV (y2 := m_X7_keepWord) (n2 := 3) (d2 := 2) (a := 5) (ci := 7) (q := (RX7, TX7, 5)) (as := [gs_iv u, gs_iv (-x), .ref 10]) (rest := []) dd_X7_layWord_108 ok_X7_keepWord ml_X7_54 rfl rfl (by decide) gs_s5 rfl rfl (Nat.le_of_ble_eq_true rfl) (by decide) (c_X7_keepWord_vf I96 (by omega) (by omega) gs_row_10 (by omega)) (fun r103 F104 A105 h106 => ?_)
        obtain ⟨e108, I109, f110, x107⟩ := h106
        subst e108
        have v111 : F104 8 1 = F91 8 1 := f110.1 8 1 (by first | exact id | omega | (dsimp only; omega) | (dsimp only) | fail)
        have v112 : F104 10 1 = F91 10 1 := f110.1 10 1 (by first | exact id | omega | (dsimp only; omega) | (dsimp only) | fail)
        have f113 := gs_fr_tr f100 f110 (fun b j h => by first | exact False.elim h | omega | (dsimp only at h ⊢; omega) | fail) (fun b h => by first | exact False.elim h | omega | (dsimp only at h ⊢; omega) | fail)
        have u114 : A105 6 = A105 6 := rfl
        have y115 : A105 6 ((u * 13 + (-x) + 6) * 10).toNat = F91 10 1 ∧ (∀ i : Int, 0 ≤ i → i < F91 10 1 → A105 6 (((u * 13 + (-x) + 6) * 10) + 1 + i).toNat = A92 11 i.toNat) ∧ (∀ i : Int, 0 ≤ i → (i < ((u * 13 + (-x) + 6) * 10) ∨ ((u * 13 + (-x) + 6) * 10) + 10 ≤ i) → A105 6 i.toNat = A92 6 i.toNat) := x107
        clear x107
        show sA _ _ _ 111 _ [] _ _
        refine sA_vret dd_X7_layWord_111 rfl ?_
        refine ⟨rfl, I109, f113, ?_⟩
        have hst : gs_stk (A66 9) (F65 8 1).toNat = sp_all [] (sp_m g u x) := by
          have y := y76.2.2
          rw [show F5 8 1 = 0 by omega] at y
          refine y.trans ?_
          show sp_all [] _ = _
          rw [sp_m_pos (o := 1) (by omega) (by omega)]
          exact congrArg (sp_all []) (sp_word2 (by omega) (by omega) (by omega))
        obtain ⟨b1, b2⟩ := y89 (by omega)
        obtain ⟨k1, k2, k3⟩ := y102
        obtain ⟨n1, n2, n3⟩ := y115
        have e8 : F78 8 1 = F65 8 1 := by omega
        have e9 : A79 9 = A66 9 := f84.2 9 (by dsimp only; omega)
        have e10 : F91 10 1 = F78 10 1 := by omega
        have e11 : A92 11 = A79 11 := f97.2 11 (by dsimp only; omega)
        rw [e8] at k1
        rw [e8, e9] at k2
        rw [u88] at k3
        rw [e10] at n1
        rw [e10, e11] at n2
        exact gs_lw_fin hg hu hx hst (by omega) (by omega) b1 b2 k1 k2 k3 n1 n2 n3
    · skip
      refine sA_aload_n dd_X7_layWord_32 rfl (.tail _ (.tail _ (.head _))) ?_
      refine sA_iload dd_X7_layWord_33 (.tail _ (.head _)) ?_
      refine sA_iload dd_X7_layWord_35 (.head _) ?_
      refine sA_iload_n dd_X7_layWord_37 rfl (.tail _ (.tail _ (.tail _ (.tail _ (.head _))))) ?_
      refine sA_callV (y2 := m_X7_spellFirst) (n2 := 3) (d2 := 2) (a := 5) (ci := 7) (q := (RX7, TX7, 5)) (as := [gs_iv (u / 2), gs_iv (-1), gs_iv x]) (rest := []) dd_X7_layWord_38 ok_X7_spellFirst ml_X7_41 rfl rfl (by decide) gs_s5 rfl rfl (Nat.le_of_ble_eq_true rfl) (by decide) (c_X7_spellFirst_vf I6 (by omega) (by omega) (by omega) (by omega)) (fun r116 F117 A118 h119 => ?_)
      obtain ⟨e121, I122, f123, x120⟩ := h119
      subst e121
      have v125 : F117 10 1 = F5 10 1 := f123.1 10 1 (by first | exact id | omega | (dsimp only; omega) | (dsimp only) | fail)
      have f126 := gs_fr_tr f7 f123 (fun b j h => by first | exact False.elim h | omega | (dsimp only at h ⊢; omega) | fail) (fun b h => by first | exact False.elim h | omega | (dsimp only at h ⊢; omega) | fail)
      have u127 : A118 6 = A 6 := (f123.2 6 (by first | exact id | omega | (dsimp only; omega) | (dsimp only) | fail)).trans u3
      have y128 : F117 8 1 ≤ F5 8 1 + 2 ∧ 0 ≤ F117 8 1 ∧ gs_stk (A118 9) (F117 8 1).toNat = sp_all (gs_stk (A 9) (F5 8 1).toNat) (if x = 2 * (u / 2) + 2 then [x, (-1 : Int) * (2 * (u / 2) + 1)] else [x]) := x120
      clear x120
      show sA _ _ _ 41 _ [] _ _
      refine sA_goto (tgt := 79) dd_X7_layWord_41 (by decide) ?_
      refine sA_aload_n dd_X7_layWord_79 rfl (.tail _ (.tail _ (.head _))) ?_
      refine sA_getr (ci := 7) (j := 4) (q := (RX7, TX7, 5)) dd_X7_layWord_80 rfl (by decide) fl_X7_27 (by decide) gs_s5 rfl ?_
      refine sA_aload_n dd_X7_layWord_83 rfl (.tail _ (.tail _ (.head _))) ?_
      refine sA_getr (ci := 7) (j := 3) (q := (RX7, TX7, 5)) dd_X7_layWord_84 rfl (by decide) fl_X7_23 (by decide) gs_s5 rfl ?_
      refine sA_callV (y2 := m_X4_becomeBack) (n2 := 1) (d2 := 1) (a := 10) (ci := 4) (q := (RX4, TX4, 2)) (as := [.ref 8]) (rest := []) dd_X7_layWord_87 ok_X4_becomeBack ml_X7_50 rfl rfl (Nat.lt_of_succ_lt gs_row_10.1) gs_row_10.2.1 rfl rfl (Nat.le_of_ble_eq_true rfl) (by decide) (c_X4_becomeBack_vf I122 gs_row_10 gs_row_8 (by omega)) (fun r129 F130 A131 h132 => ?_)
      obtain ⟨e134, I135, f136, x133⟩ := h132
      subst e134
      have v137 : F130 8 1 = F117 8 1 := f136.1 8 1 (by first | exact id | omega | (dsimp only; omega) | (dsimp only) | fail)
      have f139 := gs_fr_tr f126 f136 (fun b j h => by first | exact False.elim h | omega | (dsimp only at h ⊢; omega) | fail) (fun b h => by first | exact False.elim h | omega | (dsimp only at h ⊢; omega) | fail)
      have u140 : A131 6 = A 6 := (f136.2 6 (by first | exact id | omega | (dsimp only; omega) | (dsimp only) | fail)).trans u127
      have y141 : F117 8 1 ≤ (9 : Int) → (F130 10 1 = F117 8 1 ∧ ∀ k : Int, 0 ≤ k → k < F117 8 1 → A131 11 k.toNat = -(A118 9 (F117 8 1 - 1 - k).toNat)) := x133
      clear x133
      show sA _ _ _ 90 _ [] _ _
      refine sA_aload_n dd_X7_layWord_90 rfl (.tail _ (.tail _ (.head _))) ?_
      refine sA_iload_n dd_X7_layWord_91 rfl (.tail _ (.tail _ (.tail _ (.head _)))) ?_
      refine sA_iload_n dd_X7_layWord_92 rfl (.tail _ (.tail _ (.tail _ (.tail _ (.head _))))) ?_
      refine sA_aload_n dd_X7_layWord_93 rfl (.tail _ (.tail _ (.head _))) ?_
      refine sA_getr (ci := 7) (j := 3) (q := (RX7, TX7, 5)) dd_X7_layWord_94 rfl (by decide) fl_X7_23 (by decide) gs_s5 rfl ?_
      refine sA_callV (y2 := m_X7_keepWord) (n2 := 3) (d2 := 2) (a := 5) (ci := 7) (q := (RX7, TX7, 5)) (as := [gs_iv u, gs_iv x, .ref 8]) (rest := []) dd_X7_layWord_97 ok_X7_keepWord ml_X7_54 rfl rfl (by decide) gs_s5 rfl rfl (Nat.le_of_ble_eq_true rfl) (by decide) (c_X7_keepWord_vf I135 (by omega) (by omega) gs_row_8 (by omega)) (fun r142 F143 A144 h145 => ?_)
      obtain ⟨e147, I148, f149, x146⟩ := h145
      subst e147
      have v150 : F143 8 1 = F130 8 1 := f149.1 8 1 (by first | exact id | omega | (dsimp only; omega) | (dsimp only) | fail)
      have v151 : F143 10 1 = F130 10 1 := f149.1 10 1 (by first | exact id | omega | (dsimp only; omega) | (dsimp only) | fail)
      have f152 := gs_fr_tr f139 f149 (fun b j h => by first | exact False.elim h | omega | (dsimp only at h ⊢; omega) | fail) (fun b h => by first | exact False.elim h | omega | (dsimp only at h ⊢; omega) | fail)
      have u153 : A144 6 = A144 6 := rfl
      have y154 : A144 6 ((u * 13 + x + 6) * 10).toNat = F130 8 1 ∧ (∀ i : Int, 0 ≤ i → i < F130 8 1 → A144 6 (((u * 13 + x + 6) * 10) + 1 + i).toNat = A131 9 i.toNat) ∧ (∀ i : Int, 0 ≤ i → (i < ((u * 13 + x + 6) * 10) ∨ ((u * 13 + x + 6) * 10) + 10 ≤ i) → A144 6 i.toNat = A131 6 i.toNat) := x146
      clear x146
      show sA _ _ _ 100 _ [] _ _
      refine sA_aload_n dd_X7_layWord_100 rfl (.tail _ (.tail _ (.head _))) ?_
      refine sA_iload_n dd_X7_layWord_101 rfl (.tail _ (.tail _ (.tail _ (.head _)))) ?_
      refine sA_iload_n dd_X7_layWord_102 rfl (.tail _ (.tail _ (.tail _ (.tail _ (.head _))))) ?_
      refine sA_ineg dd_X7_layWord_103 ?_
      refine sA_aload_n dd_X7_layWord_104 rfl (.tail _ (.tail _ (.head _))) ?_
      refine sA_getr (ci := 7) (j := 4) (q := (RX7, TX7, 5)) dd_X7_layWord_105 rfl (by decide) fl_X7_27 (by decide) gs_s5 rfl ?_
      refine sA_callV (y2 := m_X7_keepWord) (n2 := 3) (d2 := 2) (a := 5) (ci := 7) (q := (RX7, TX7, 5)) (as := [gs_iv u, gs_iv (-x), .ref 10]) (rest := []) dd_X7_layWord_108 ok_X7_keepWord ml_X7_54 rfl rfl (by decide) gs_s5 rfl rfl (Nat.le_of_ble_eq_true rfl) (by decide) (c_X7_keepWord_vf I148 (by omega) (by omega) gs_row_10 (by omega)) (fun r155 F156 A157 h158 => ?_)
      obtain ⟨e160, I161, f162, x159⟩ := h158
      subst e160
      have v163 : F156 8 1 = F143 8 1 := f162.1 8 1 (by first | exact id | omega | (dsimp only; omega) | (dsimp only) | fail)
      have v164 : F156 10 1 = F143 10 1 := f162.1 10 1 (by first | exact id | omega | (dsimp only; omega) | (dsimp only) | fail)
      have f165 := gs_fr_tr f152 f162 (fun b j h => by first | exact False.elim h | omega | (dsimp only at h ⊢; omega) | fail) (fun b h => by first | exact False.elim h | omega | (dsimp only at h ⊢; omega) | fail)
      have u166 : A157 6 = A157 6 := rfl
      have y167 : A157 6 ((u * 13 + (-x) + 6) * 10).toNat = F143 10 1 ∧ (∀ i : Int, 0 ≤ i → i < F143 10 1 → A157 6 (((u * 13 + (-x) + 6) * 10) + 1 + i).toNat = A144 11 i.toNat) ∧ (∀ i : Int, 0 ≤ i → (i < ((u * 13 + (-x) + 6) * 10) ∨ ((u * 13 + (-x) + 6) * 10) + 10 ≤ i) → A157 6 i.toNat = A144 6 i.toNat) := x159
      clear x159
      show sA _ _ _ 111 _ [] _ _
      refine sA_vret dd_X7_layWord_111 rfl ?_
      refine ⟨rfl, I161, f165, ?_⟩
      have hst : gs_stk (A118 9) (F117 8 1).toNat = sp_all [] (sp_m g u x) := by
        have y := y128.2.2
        rw [show F5 8 1 = 0 by omega] at y
        refine y.trans ?_
        show sp_all [] _ = _
        rw [sp_m_pos (o := 1) (by omega) (by omega)]
        exact congrArg (sp_all []) (sp_word1 (by omega) (by omega))
      obtain ⟨b1, b2⟩ := y141 (by omega)
      obtain ⟨k1, k2, k3⟩ := y154
      obtain ⟨n1, n2, n3⟩ := y167
      have e8 : F130 8 1 = F117 8 1 := by omega
      have e9 : A131 9 = A118 9 := f136.2 9 (by dsimp only; omega)
      have e10 : F143 10 1 = F130 10 1 := by omega
      have e11 : A144 11 = A131 11 := f149.2 11 (by dsimp only; omega)
      rw [e8] at k1
      rw [e8, e9] at k2
      rw [u140] at k3
      rw [e10] at n1
      rw [e10, e11] at n2
      exact gs_lw_fin hg hu hx hst (by omega) (by omega) b1 b2 k1 k2 k3 n1 n2 n3
  · skip
    refine sA_iconst (z := 1) dd_X7_layWord_11 ?_
    refine sA_goto (tgt := 16) dd_X7_layWord_12 (by decide) ?_
    refine sA_istore (lv' := [(5, gs_iv 1), (4, gs_iv (u / 2)), (0, .ref 5), (1, gs_iv u), (2, gs_iv x), (3, gs_iv g)]) dd_X7_layWord_16 (by decide) rfl ?_
    refine sA_aload_n dd_X7_layWord_18 rfl (.tail _ (.tail _ (.head _))) ?_
    refine sA_getr (ci := 7) (j := 3) (q := (RX7, TX7, 5)) dd_X7_layWord_19 rfl (by decide) fl_X7_23 (by decide) gs_s5 rfl ?_
    refine sA_iconst (z := 0) dd_X7_layWord_22 ?_
    refine sA_put (ci := 4) (j := 1) (q := (RX4, TX4, 2)) (ty := .int) dd_X7_layWord_23 rfl (by decide) fl_X7_38 rfl (tyX4_ok 1 (by decide)) rfl rfl (Nat.lt_of_succ_lt gs_row_8.1) gs_row_8.2.1 rfl ?_
    have I169 : gs_I (gs_up F 8 1 0) A := gs_row_put gs_row_8 hI (by omega)
    have f170 := gs_fr_put hf (a := 8) (z := 0) (j := 1) (by first | omega | (dsimp only; omega) | (dsimp only) | fail)
    have v171 : gs_up F 8 1 0 8 1 = 0 := gs_up_self _ _ _ _
    have v172 : (gs_up F 8 1 0) 10 1 = F 10 1 := gs_up_ne _ _ (by omega)
    generalize gs_up F 8 1 0 = F168 at I169 f170 v171 v172 ⊢
    refine sA_iload dd_X7_layWord_26 (.tail _ (.head _)) ?_
    refine sA_iload_n dd_X7_layWord_28 rfl (.tail _ (.tail _ (.tail _ (.tail _ (.tail _ (.head _)))))) ?_
    refine sA_icmp_ge (tgt := 44) dd_X7_layWord_29 (by decide) (by omega) (by omega) (fun q173 => ?_) (fun q173 => ?_)
    · skip
      refine sA_iload dd_X7_layWord_44 (.tail _ (.head _)) ?_
      refine sA_iconst (z := 2) dd_X7_layWord_46 ?_
      refine sA_iload_n dd_X7_layWord_47 rfl (.tail _ (.tail _ (.tail _ (.tail _ (.tail _ (.head _)))))) ?_
      refine sA_imul dd_X7_layWord_48 ?_
      refine sA_icmp_ge (tgt := 66) dd_X7_layWord_49 (by decide) (by omega) (by omega) (fun q174 => ?_) (fun q174 => ?_)
      · skip
        refine sA_aload_n dd_X7_layWord_66 rfl (.tail _ (.tail _ (.head _))) ?_
        refine sA_iload dd_X7_layWord_67 (.tail _ (.head _)) ?_
        refine sA_iconst (z := 2) dd_X7_layWord_69 ?_
        refine sA_iload_n dd_X7_layWord_70 rfl (.tail _ (.tail _ (.tail _ (.tail _ (.tail _ (.head _)))))) ?_
        refine sA_imul dd_X7_layWord_71 ?_
        refine sA_isub dd_X7_layWord_72 ?_
        refine sA_iload dd_X7_layWord_73 (.head _) ?_
        refine sA_iload_n dd_X7_layWord_75 rfl (.tail _ (.tail _ (.tail _ (.tail _ (.head _))))) ?_
        refine sA_callV (y2 := m_X7_spellThird) (n2 := 3) (d2 := 3) (a := 5) (ci := 7) (q := (RX7, TX7, 5)) (as := [gs_iv ((u / 2) - (2 * g)), gs_iv 1, gs_iv x]) (rest := []) dd_X7_layWord_76 ok_X7_spellThird ml_X7_47 rfl rfl (by decide) gs_s5 rfl rfl (Nat.le_of_ble_eq_true rfl) (by decide) (c_X7_spellThird_vf I169 (by omega) (by omega) (by omega) (by omega)) (fun r175 F176 A177 h178 => ?_)
        obtain ⟨e180, I181, f182, x179⟩ := h178
        subst e180
        have v184 : F176 10 1 = F168 10 1 := f182.1 10 1 (by first | exact id | omega | (dsimp only; omega) | (dsimp only) | fail)
        have f185 := gs_fr_tr f170 f182 (fun b j h => by first | exact False.elim h | omega | (dsimp only at h ⊢; omega) | fail) (fun b h => by first | exact False.elim h | omega | (dsimp only at h ⊢; omega) | fail)
        have u186 : A177 6 = A 6 := (f182.2 6 (by first | exact id | omega | (dsimp only; omega) | (dsimp only) | fail)).trans u3
        have y187 : F176 8 1 ≤ F168 8 1 + 9 ∧ 0 ≤ F176 8 1 ∧ gs_stk (A177 9) (F176 8 1).toNat = sp_all (gs_stk (A 9) (F168 8 1).toNat) (if x = 2 * ((u / 2) - (2 * g)) + 2 then sp_C ((u / 2) - (2 * g)) ((1 - -(1 : Int)) / 2) ++ [x] else if x = 2 * ((u / 2) - (2 * g)) + 3 then sp_C ((u / 2) - (2 * g)) ((1 - -(1 : Int)) / 2) ++ ([x] ++ sp_C ((u / 2) - (2 * g)) ((1 - (1 : Int)) / 2)) else if x = 2 * ((u / 2) - (2 * g)) + 4 then [x] ++ sp_C ((u / 2) - (2 * g)) ((1 - (1 : Int)) / 2) else [x]) := x179
        clear x179
        show sA _ _ _ 79 _ [] _ _
        refine sA_aload_n dd_X7_layWord_79 rfl (.tail _ (.tail _ (.head _))) ?_
        refine sA_getr (ci := 7) (j := 4) (q := (RX7, TX7, 5)) dd_X7_layWord_80 rfl (by decide) fl_X7_27 (by decide) gs_s5 rfl ?_
        refine sA_aload_n dd_X7_layWord_83 rfl (.tail _ (.tail _ (.head _))) ?_
        refine sA_getr (ci := 7) (j := 3) (q := (RX7, TX7, 5)) dd_X7_layWord_84 rfl (by decide) fl_X7_23 (by decide) gs_s5 rfl ?_
        refine sA_callV (y2 := m_X4_becomeBack) (n2 := 1) (d2 := 1) (a := 10) (ci := 4) (q := (RX4, TX4, 2)) (as := [.ref 8]) (rest := []) dd_X7_layWord_87 ok_X4_becomeBack ml_X7_50 rfl rfl (Nat.lt_of_succ_lt gs_row_10.1) gs_row_10.2.1 rfl rfl (Nat.le_of_ble_eq_true rfl) (by decide) (c_X4_becomeBack_vf I181 gs_row_10 gs_row_8 (by omega)) (fun r188 F189 A190 h191 => ?_)
        obtain ⟨e193, I194, f195, x192⟩ := h191
        subst e193
        have v196 : F189 8 1 = F176 8 1 := f195.1 8 1 (by first | exact id | omega | (dsimp only; omega) | (dsimp only) | fail)
        have f198 := gs_fr_tr f185 f195 (fun b j h => by first | exact False.elim h | omega | (dsimp only at h ⊢; omega) | fail) (fun b h => by first | exact False.elim h | omega | (dsimp only at h ⊢; omega) | fail)
        have u199 : A190 6 = A 6 := (f195.2 6 (by first | exact id | omega | (dsimp only; omega) | (dsimp only) | fail)).trans u186
        have y200 : F176 8 1 ≤ (9 : Int) → (F189 10 1 = F176 8 1 ∧ ∀ k : Int, 0 ≤ k → k < F176 8 1 → A190 11 k.toNat = -(A177 9 (F176 8 1 - 1 - k).toNat)) := x192
        clear x192
        show sA _ _ _ 90 _ [] _ _
        refine sA_aload_n dd_X7_layWord_90 rfl (.tail _ (.tail _ (.head _))) ?_
        refine sA_iload_n dd_X7_layWord_91 rfl (.tail _ (.tail _ (.tail _ (.head _)))) ?_
        refine sA_iload_n dd_X7_layWord_92 rfl (.tail _ (.tail _ (.tail _ (.tail _ (.head _))))) ?_
        refine sA_aload_n dd_X7_layWord_93 rfl (.tail _ (.tail _ (.head _))) ?_
        refine sA_getr (ci := 7) (j := 3) (q := (RX7, TX7, 5)) dd_X7_layWord_94 rfl (by decide) fl_X7_23 (by decide) gs_s5 rfl ?_
        refine sA_callV (y2 := m_X7_keepWord) (n2 := 3) (d2 := 2) (a := 5) (ci := 7) (q := (RX7, TX7, 5)) (as := [gs_iv u, gs_iv x, .ref 8]) (rest := []) dd_X7_layWord_97 ok_X7_keepWord ml_X7_54 rfl rfl (by decide) gs_s5 rfl rfl (Nat.le_of_ble_eq_true rfl) (by decide) (c_X7_keepWord_vf I194 (by omega) (by omega) gs_row_8 (by omega)) (fun r201 F202 A203 h204 => ?_)
        obtain ⟨e206, I207, f208, x205⟩ := h204
        subst e206
        have v209 : F202 8 1 = F189 8 1 := f208.1 8 1 (by first | exact id | omega | (dsimp only; omega) | (dsimp only) | fail)
        have v210 : F202 10 1 = F189 10 1 := f208.1 10 1 (by first | exact id | omega | (dsimp only; omega) | (dsimp only) | fail)
        have f211 := gs_fr_tr f198 f208 (fun b j h => by first | exact False.elim h | omega | (dsimp only at h ⊢; omega) | fail) (fun b h => by first | exact False.elim h | omega | (dsimp only at h ⊢; omega) | fail)
        have u212 : A203 6 = A203 6 := rfl
        have y213 : A203 6 ((u * 13 + x + 6) * 10).toNat = F189 8 1 ∧ (∀ i : Int, 0 ≤ i → i < F189 8 1 → A203 6 (((u * 13 + x + 6) * 10) + 1 + i).toNat = A190 9 i.toNat) ∧ (∀ i : Int, 0 ≤ i → (i < ((u * 13 + x + 6) * 10) ∨ ((u * 13 + x + 6) * 10) + 10 ≤ i) → A203 6 i.toNat = A190 6 i.toNat) := x205
        clear x205
        show sA _ _ _ 100 _ [] _ _
        refine sA_aload_n dd_X7_layWord_100 rfl (.tail _ (.tail _ (.head _))) ?_
        refine sA_iload_n dd_X7_layWord_101 rfl (.tail _ (.tail _ (.tail _ (.head _)))) ?_
        refine sA_iload_n dd_X7_layWord_102 rfl (.tail _ (.tail _ (.tail _ (.tail _ (.head _))))) ?_
        refine sA_ineg dd_X7_layWord_103 ?_
        refine sA_aload_n dd_X7_layWord_104 rfl (.tail _ (.tail _ (.head _))) ?_
        refine sA_getr (ci := 7) (j := 4) (q := (RX7, TX7, 5)) dd_X7_layWord_105 rfl (by decide) fl_X7_27 (by decide) gs_s5 rfl ?_
        refine sA_callV (y2 := m_X7_keepWord) (n2 := 3) (d2 := 2) (a := 5) (ci := 7) (q := (RX7, TX7, 5)) (as := [gs_iv u, gs_iv (-x), .ref 10]) (rest := []) dd_X7_layWord_108 ok_X7_keepWord ml_X7_54 rfl rfl (by decide) gs_s5 rfl rfl (Nat.le_of_ble_eq_true rfl) (by decide) (c_X7_keepWord_vf I207 (by omega) (by omega) gs_row_10 (by omega)) (fun r214 F215 A216 h217 => ?_)
        obtain ⟨e219, I220, f221, x218⟩ := h217
        subst e219
        have v222 : F215 8 1 = F202 8 1 := f221.1 8 1 (by first | exact id | omega | (dsimp only; omega) | (dsimp only) | fail)
        have v223 : F215 10 1 = F202 10 1 := f221.1 10 1 (by first | exact id | omega | (dsimp only; omega) | (dsimp only) | fail)
        have f224 := gs_fr_tr f211 f221 (fun b j h => by first | exact False.elim h | omega | (dsimp only at h ⊢; omega) | fail) (fun b h => by first | exact False.elim h | omega | (dsimp only at h ⊢; omega) | fail)
        have u225 : A216 6 = A216 6 := rfl
        have y226 : A216 6 ((u * 13 + (-x) + 6) * 10).toNat = F202 10 1 ∧ (∀ i : Int, 0 ≤ i → i < F202 10 1 → A216 6 (((u * 13 + (-x) + 6) * 10) + 1 + i).toNat = A203 11 i.toNat) ∧ (∀ i : Int, 0 ≤ i → (i < ((u * 13 + (-x) + 6) * 10) ∨ ((u * 13 + (-x) + 6) * 10) + 10 ≤ i) → A216 6 i.toNat = A203 6 i.toNat) := x218
        clear x218
        show sA _ _ _ 111 _ [] _ _
        refine sA_vret dd_X7_layWord_111 rfl ?_
        refine ⟨rfl, I220, f224, ?_⟩
        have hst : gs_stk (A177 9) (F176 8 1).toNat = sp_all [] (sp_m g u x) := by
          have y := y187.2.2
          rw [show F168 8 1 = 0 by omega] at y
          refine y.trans ?_
          show sp_all [] _ = _
          rw [sp_m_pos (o := 0) (by omega) (by omega)]
          exact congrArg (sp_all []) (sp_word3 (by omega) (by omega) (by omega))
        obtain ⟨b1, b2⟩ := y200 (by omega)
        obtain ⟨k1, k2, k3⟩ := y213
        obtain ⟨n1, n2, n3⟩ := y226
        have e8 : F189 8 1 = F176 8 1 := by omega
        have e9 : A190 9 = A177 9 := f195.2 9 (by dsimp only; omega)
        have e10 : F202 10 1 = F189 10 1 := by omega
        have e11 : A203 11 = A190 11 := f208.2 11 (by dsimp only; omega)
        rw [e8] at k1
        rw [e8, e9] at k2
        rw [u199] at k3
        rw [e10] at n1
        rw [e10, e11] at n2
        exact gs_lw_fin hg hu hx hst (by omega) (by omega) b1 b2 k1 k2 k3 n1 n2 n3
      · skip
        refine sA_aload_n dd_X7_layWord_52 rfl (.tail _ (.tail _ (.head _))) ?_
        refine sA_iload dd_X7_layWord_53 (.tail _ (.head _)) ?_
        refine sA_iload_n dd_X7_layWord_55 rfl (.tail _ (.tail _ (.tail _ (.tail _ (.tail _ (.head _)))))) ?_
        refine sA_isub dd_X7_layWord_56 ?_
        refine sA_iload dd_X7_layWord_57 (.head _) ?_
        refine sA_iload_n dd_X7_layWord_59 rfl (.tail _ (.tail _ (.tail _ (.tail _ (.head _))))) ?_
        refine sA_callV (y2 := m_X7_spellSecond) (n2 := 3) (d2 := 2) (a := 5) (ci := 7) (q := (RX7, TX7, 5)) (as := [gs_iv ((u / 2) - g), gs_iv 1, gs_iv x]) (rest := []) dd_X7_layWord_60 ok_X7_spellSecond ml_X7_44 rfl rfl (by decide) gs_s5 rfl rfl (Nat.le_of_ble_eq_true rfl) (by decide) (c_X7_spellSecond_vf I169 (by omega) (by omega) (by omega) (by omega)) (fun r227 F228 A229 h230 => ?_)
        obtain ⟨e232, I233, f234, x231⟩ := h230
        subst e232
        have v236 : F228 10 1 = F168 10 1 := f234.1 10 1 (by first | exact id | omega | (dsimp only; omega) | (dsimp only) | fail)
        have f237 := gs_fr_tr f170 f234 (fun b j h => by first | exact False.elim h | omega | (dsimp only at h ⊢; omega) | fail) (fun b h => by first | exact False.elim h | omega | (dsimp only at h ⊢; omega) | fail)
        have u238 : A229 6 = A 6 := (f234.2 6 (by first | exact id | omega | (dsimp only; omega) | (dsimp only) | fail)).trans u3
        have y239 : F228 8 1 ≤ F168 8 1 + 2 ∧ 0 ≤ F228 8 1 ∧ gs_stk (A229 9) (F228 8 1).toNat = sp_all (gs_stk (A 9) (F168 8 1).toNat) (if x = 2 * ((u / 2) - g) + 1 then [x, -(1 : Int) * (2 * ((u / 2) - g) + 2)] else [x]) := x231
        clear x231
        show sA _ _ _ 63 _ [] _ _
        refine sA_goto (tgt := 79) dd_X7_layWord_63 (by decide) ?_
        refine sA_aload_n dd_X7_layWord_79 rfl (.tail _ (.tail _ (.head _))) ?_
        refine sA_getr (ci := 7) (j := 4) (q := (RX7, TX7, 5)) dd_X7_layWord_80 rfl (by decide) fl_X7_27 (by decide) gs_s5 rfl ?_
        refine sA_aload_n dd_X7_layWord_83 rfl (.tail _ (.tail _ (.head _))) ?_
        refine sA_getr (ci := 7) (j := 3) (q := (RX7, TX7, 5)) dd_X7_layWord_84 rfl (by decide) fl_X7_23 (by decide) gs_s5 rfl ?_
        refine sA_callV (y2 := m_X4_becomeBack) (n2 := 1) (d2 := 1) (a := 10) (ci := 4) (q := (RX4, TX4, 2)) (as := [.ref 8]) (rest := []) dd_X7_layWord_87 ok_X4_becomeBack ml_X7_50 rfl rfl (Nat.lt_of_succ_lt gs_row_10.1) gs_row_10.2.1 rfl rfl (Nat.le_of_ble_eq_true rfl) (by decide) (c_X4_becomeBack_vf I233 gs_row_10 gs_row_8 (by omega)) (fun r240 F241 A242 h243 => ?_)
        obtain ⟨e245, I246, f247, x244⟩ := h243
        subst e245
        have v248 : F241 8 1 = F228 8 1 := f247.1 8 1 (by first | exact id | omega | (dsimp only; omega) | (dsimp only) | fail)
        have f250 := gs_fr_tr f237 f247 (fun b j h => by first | exact False.elim h | omega | (dsimp only at h ⊢; omega) | fail) (fun b h => by first | exact False.elim h | omega | (dsimp only at h ⊢; omega) | fail)
        have u251 : A242 6 = A 6 := (f247.2 6 (by first | exact id | omega | (dsimp only; omega) | (dsimp only) | fail)).trans u238
        have y252 : F228 8 1 ≤ (9 : Int) → (F241 10 1 = F228 8 1 ∧ ∀ k : Int, 0 ≤ k → k < F228 8 1 → A242 11 k.toNat = -(A229 9 (F228 8 1 - 1 - k).toNat)) := x244
        clear x244
        show sA _ _ _ 90 _ [] _ _
        refine sA_aload_n dd_X7_layWord_90 rfl (.tail _ (.tail _ (.head _))) ?_
        refine sA_iload_n dd_X7_layWord_91 rfl (.tail _ (.tail _ (.tail _ (.head _)))) ?_
        refine sA_iload_n dd_X7_layWord_92 rfl (.tail _ (.tail _ (.tail _ (.tail _ (.head _))))) ?_
        refine sA_aload_n dd_X7_layWord_93 rfl (.tail _ (.tail _ (.head _))) ?_
        refine sA_getr (ci := 7) (j := 3) (q := (RX7, TX7, 5)) dd_X7_layWord_94 rfl (by decide) fl_X7_23 (by decide) gs_s5 rfl ?_
        refine sA_callV (y2 := m_X7_keepWord) (n2 := 3) (d2 := 2) (a := 5) (ci := 7) (q := (RX7, TX7, 5)) (as := [gs_iv u, gs_iv x, .ref 8]) (rest := []) dd_X7_layWord_97 ok_X7_keepWord ml_X7_54 rfl rfl (by decide) gs_s5 rfl rfl (Nat.le_of_ble_eq_true rfl) (by decide) (c_X7_keepWord_vf I246 (by omega) (by omega) gs_row_8 (by omega)) (fun r253 F254 A255 h256 => ?_)
        obtain ⟨e258, I259, f260, x257⟩ := h256
        subst e258
        have v261 : F254 8 1 = F241 8 1 := f260.1 8 1 (by first | exact id | omega | (dsimp only; omega) | (dsimp only) | fail)
        have v262 : F254 10 1 = F241 10 1 := f260.1 10 1 (by first | exact id | omega | (dsimp only; omega) | (dsimp only) | fail)
        have f263 := gs_fr_tr f250 f260 (fun b j h => by first | exact False.elim h | omega | (dsimp only at h ⊢; omega) | fail) (fun b h => by first | exact False.elim h | omega | (dsimp only at h ⊢; omega) | fail)
        have u264 : A255 6 = A255 6 := rfl
        have y265 : A255 6 ((u * 13 + x + 6) * 10).toNat = F241 8 1 ∧ (∀ i : Int, 0 ≤ i → i < F241 8 1 → A255 6 (((u * 13 + x + 6) * 10) + 1 + i).toNat = A242 9 i.toNat) ∧ (∀ i : Int, 0 ≤ i → (i < ((u * 13 + x + 6) * 10) ∨ ((u * 13 + x + 6) * 10) + 10 ≤ i) → A255 6 i.toNat = A242 6 i.toNat) := x257
        clear x257
        show sA _ _ _ 100 _ [] _ _
        refine sA_aload_n dd_X7_layWord_100 rfl (.tail _ (.tail _ (.head _))) ?_
        refine sA_iload_n dd_X7_layWord_101 rfl (.tail _ (.tail _ (.tail _ (.head _)))) ?_
        refine sA_iload_n dd_X7_layWord_102 rfl (.tail _ (.tail _ (.tail _ (.tail _ (.head _))))) ?_
        refine sA_ineg dd_X7_layWord_103 ?_
        refine sA_aload_n dd_X7_layWord_104 rfl (.tail _ (.tail _ (.head _))) ?_
        refine sA_getr (ci := 7) (j := 4) (q := (RX7, TX7, 5)) dd_X7_layWord_105 rfl (by decide) fl_X7_27 (by decide) gs_s5 rfl ?_
        refine sA_callV (y2 := m_X7_keepWord) (n2 := 3) (d2 := 2) (a := 5) (ci := 7) (q := (RX7, TX7, 5)) (as := [gs_iv u, gs_iv (-x), .ref 10]) (rest := []) dd_X7_layWord_108 ok_X7_keepWord ml_X7_54 rfl rfl (by decide) gs_s5 rfl rfl (Nat.le_of_ble_eq_true rfl) (by decide) (c_X7_keepWord_vf I259 (by omega) (by omega) gs_row_10 (by omega)) (fun r266 F267 A268 h269 => ?_)
        obtain ⟨e271, I272, f273, x270⟩ := h269
        subst e271
        have v274 : F267 8 1 = F254 8 1 := f273.1 8 1 (by first | exact id | omega | (dsimp only; omega) | (dsimp only) | fail)
        have v275 : F267 10 1 = F254 10 1 := f273.1 10 1 (by first | exact id | omega | (dsimp only; omega) | (dsimp only) | fail)
        have f276 := gs_fr_tr f263 f273 (fun b j h => by first | exact False.elim h | omega | (dsimp only at h ⊢; omega) | fail) (fun b h => by first | exact False.elim h | omega | (dsimp only at h ⊢; omega) | fail)
        have u277 : A268 6 = A268 6 := rfl
        have y278 : A268 6 ((u * 13 + (-x) + 6) * 10).toNat = F254 10 1 ∧ (∀ i : Int, 0 ≤ i → i < F254 10 1 → A268 6 (((u * 13 + (-x) + 6) * 10) + 1 + i).toNat = A255 11 i.toNat) ∧ (∀ i : Int, 0 ≤ i → (i < ((u * 13 + (-x) + 6) * 10) ∨ ((u * 13 + (-x) + 6) * 10) + 10 ≤ i) → A268 6 i.toNat = A255 6 i.toNat) := x270
        clear x270
        show sA _ _ _ 111 _ [] _ _
        refine sA_vret dd_X7_layWord_111 rfl ?_
        refine ⟨rfl, I272, f276, ?_⟩
        have hst : gs_stk (A229 9) (F228 8 1).toNat = sp_all [] (sp_m g u x) := by
          have y := y239.2.2
          rw [show F168 8 1 = 0 by omega] at y
          refine y.trans ?_
          show sp_all [] _ = _
          rw [sp_m_pos (o := 0) (by omega) (by omega)]
          exact congrArg (sp_all []) (sp_word2 (by omega) (by omega) (by omega))
        obtain ⟨b1, b2⟩ := y252 (by omega)
        obtain ⟨k1, k2, k3⟩ := y265
        obtain ⟨n1, n2, n3⟩ := y278
        have e8 : F241 8 1 = F228 8 1 := by omega
        have e9 : A242 9 = A229 9 := f247.2 9 (by dsimp only; omega)
        have e10 : F254 10 1 = F241 10 1 := by omega
        have e11 : A255 11 = A242 11 := f260.2 11 (by dsimp only; omega)
        rw [e8] at k1
        rw [e8, e9] at k2
        rw [u251] at k3
        rw [e10] at n1
        rw [e10, e11] at n2
        exact gs_lw_fin hg hu hx hst (by omega) (by omega) b1 b2 k1 k2 k3 n1 n2 n3
    · skip
      refine sA_aload_n dd_X7_layWord_32 rfl (.tail _ (.tail _ (.head _))) ?_
      refine sA_iload dd_X7_layWord_33 (.tail _ (.head _)) ?_
      refine sA_iload dd_X7_layWord_35 (.head _) ?_
      refine sA_iload_n dd_X7_layWord_37 rfl (.tail _ (.tail _ (.tail _ (.tail _ (.head _))))) ?_
      refine sA_callV (y2 := m_X7_spellFirst) (n2 := 3) (d2 := 2) (a := 5) (ci := 7) (q := (RX7, TX7, 5)) (as := [gs_iv (u / 2), gs_iv 1, gs_iv x]) (rest := []) dd_X7_layWord_38 ok_X7_spellFirst ml_X7_41 rfl rfl (by decide) gs_s5 rfl rfl (Nat.le_of_ble_eq_true rfl) (by decide) (c_X7_spellFirst_vf I169 (by omega) (by omega) (by omega) (by omega)) (fun r279 F280 A281 h282 => ?_)
      obtain ⟨e284, I285, f286, x283⟩ := h282
      subst e284
      have v288 : F280 10 1 = F168 10 1 := f286.1 10 1 (by first | exact id | omega | (dsimp only; omega) | (dsimp only) | fail)
      have f289 := gs_fr_tr f170 f286 (fun b j h => by first | exact False.elim h | omega | (dsimp only at h ⊢; omega) | fail) (fun b h => by first | exact False.elim h | omega | (dsimp only at h ⊢; omega) | fail)
      have u290 : A281 6 = A 6 := (f286.2 6 (by first | exact id | omega | (dsimp only; omega) | (dsimp only) | fail)).trans u3
      have y291 : F280 8 1 ≤ F168 8 1 + 2 ∧ 0 ≤ F280 8 1 ∧ gs_stk (A281 9) (F280 8 1).toNat = sp_all (gs_stk (A 9) (F168 8 1).toNat) (if x = 2 * (u / 2) + 2 then [x, (1 : Int) * (2 * (u / 2) + 1)] else [x]) := x283
      clear x283
      show sA _ _ _ 41 _ [] _ _
      refine sA_goto (tgt := 79) dd_X7_layWord_41 (by decide) ?_
      refine sA_aload_n dd_X7_layWord_79 rfl (.tail _ (.tail _ (.head _))) ?_
      refine sA_getr (ci := 7) (j := 4) (q := (RX7, TX7, 5)) dd_X7_layWord_80 rfl (by decide) fl_X7_27 (by decide) gs_s5 rfl ?_
      refine sA_aload_n dd_X7_layWord_83 rfl (.tail _ (.tail _ (.head _))) ?_
      refine sA_getr (ci := 7) (j := 3) (q := (RX7, TX7, 5)) dd_X7_layWord_84 rfl (by decide) fl_X7_23 (by decide) gs_s5 rfl ?_
      refine sA_callV (y2 := m_X4_becomeBack) (n2 := 1) (d2 := 1) (a := 10) (ci := 4) (q := (RX4, TX4, 2)) (as := [.ref 8]) (rest := []) dd_X7_layWord_87 ok_X4_becomeBack ml_X7_50 rfl rfl (Nat.lt_of_succ_lt gs_row_10.1) gs_row_10.2.1 rfl rfl (Nat.le_of_ble_eq_true rfl) (by decide) (c_X4_becomeBack_vf I285 gs_row_10 gs_row_8 (by omega)) (fun r292 F293 A294 h295 => ?_)
      obtain ⟨e297, I298, f299, x296⟩ := h295
      subst e297
      have v300 : F293 8 1 = F280 8 1 := f299.1 8 1 (by first | exact id | omega | (dsimp only; omega) | (dsimp only) | fail)
      have f302 := gs_fr_tr f289 f299 (fun b j h => by first | exact False.elim h | omega | (dsimp only at h ⊢; omega) | fail) (fun b h => by first | exact False.elim h | omega | (dsimp only at h ⊢; omega) | fail)
      have u303 : A294 6 = A 6 := (f299.2 6 (by first | exact id | omega | (dsimp only; omega) | (dsimp only) | fail)).trans u290
      have y304 : F280 8 1 ≤ (9 : Int) → (F293 10 1 = F280 8 1 ∧ ∀ k : Int, 0 ≤ k → k < F280 8 1 → A294 11 k.toNat = -(A281 9 (F280 8 1 - 1 - k).toNat)) := x296
      clear x296
      show sA _ _ _ 90 _ [] _ _
      refine sA_aload_n dd_X7_layWord_90 rfl (.tail _ (.tail _ (.head _))) ?_
      refine sA_iload_n dd_X7_layWord_91 rfl (.tail _ (.tail _ (.tail _ (.head _)))) ?_
      refine sA_iload_n dd_X7_layWord_92 rfl (.tail _ (.tail _ (.tail _ (.tail _ (.head _))))) ?_
      refine sA_aload_n dd_X7_layWord_93 rfl (.tail _ (.tail _ (.head _))) ?_
      refine sA_getr (ci := 7) (j := 3) (q := (RX7, TX7, 5)) dd_X7_layWord_94 rfl (by decide) fl_X7_23 (by decide) gs_s5 rfl ?_
      refine sA_callV (y2 := m_X7_keepWord) (n2 := 3) (d2 := 2) (a := 5) (ci := 7) (q := (RX7, TX7, 5)) (as := [gs_iv u, gs_iv x, .ref 8]) (rest := []) dd_X7_layWord_97 ok_X7_keepWord ml_X7_54 rfl rfl (by decide) gs_s5 rfl rfl (Nat.le_of_ble_eq_true rfl) (by decide) (c_X7_keepWord_vf I298 (by omega) (by omega) gs_row_8 (by omega)) (fun r305 F306 A307 h308 => ?_)
      obtain ⟨e310, I311, f312, x309⟩ := h308
      subst e310
      have v313 : F306 8 1 = F293 8 1 := f312.1 8 1 (by first | exact id | omega | (dsimp only; omega) | (dsimp only) | fail)
      have v314 : F306 10 1 = F293 10 1 := f312.1 10 1 (by first | exact id | omega | (dsimp only; omega) | (dsimp only) | fail)
      have f315 := gs_fr_tr f302 f312 (fun b j h => by first | exact False.elim h | omega | (dsimp only at h ⊢; omega) | fail) (fun b h => by first | exact False.elim h | omega | (dsimp only at h ⊢; omega) | fail)
      have u316 : A307 6 = A307 6 := rfl
      have y317 : A307 6 ((u * 13 + x + 6) * 10).toNat = F293 8 1 ∧ (∀ i : Int, 0 ≤ i → i < F293 8 1 → A307 6 (((u * 13 + x + 6) * 10) + 1 + i).toNat = A294 9 i.toNat) ∧ (∀ i : Int, 0 ≤ i → (i < ((u * 13 + x + 6) * 10) ∨ ((u * 13 + x + 6) * 10) + 10 ≤ i) → A307 6 i.toNat = A294 6 i.toNat) := x309
      clear x309
      show sA _ _ _ 100 _ [] _ _
      refine sA_aload_n dd_X7_layWord_100 rfl (.tail _ (.tail _ (.head _))) ?_
      refine sA_iload_n dd_X7_layWord_101 rfl (.tail _ (.tail _ (.tail _ (.head _)))) ?_
      refine sA_iload_n dd_X7_layWord_102 rfl (.tail _ (.tail _ (.tail _ (.tail _ (.head _))))) ?_
      refine sA_ineg dd_X7_layWord_103 ?_
      refine sA_aload_n dd_X7_layWord_104 rfl (.tail _ (.tail _ (.head _))) ?_
      refine sA_getr (ci := 7) (j := 4) (q := (RX7, TX7, 5)) dd_X7_layWord_105 rfl (by decide) fl_X7_27 (by decide) gs_s5 rfl ?_
      refine sA_callV (y2 := m_X7_keepWord) (n2 := 3) (d2 := 2) (a := 5) (ci := 7) (q := (RX7, TX7, 5)) (as := [gs_iv u, gs_iv (-x), .ref 10]) (rest := []) dd_X7_layWord_108 ok_X7_keepWord ml_X7_54 rfl rfl (by decide) gs_s5 rfl rfl (Nat.le_of_ble_eq_true rfl) (by decide) (c_X7_keepWord_vf I311 (by omega) (by omega) gs_row_10 (by omega)) (fun r318 F319 A320 h321 => ?_)
      obtain ⟨e323, I324, f325, x322⟩ := h321
      subst e323
      have v326 : F319 8 1 = F306 8 1 := f325.1 8 1 (by first | exact id | omega | (dsimp only; omega) | (dsimp only) | fail)
      have v327 : F319 10 1 = F306 10 1 := f325.1 10 1 (by first | exact id | omega | (dsimp only; omega) | (dsimp only) | fail)
      have f328 := gs_fr_tr f315 f325 (fun b j h => by first | exact False.elim h | omega | (dsimp only at h ⊢; omega) | fail) (fun b h => by first | exact False.elim h | omega | (dsimp only at h ⊢; omega) | fail)
      have u329 : A320 6 = A320 6 := rfl
      have y330 : A320 6 ((u * 13 + (-x) + 6) * 10).toNat = F306 10 1 ∧ (∀ i : Int, 0 ≤ i → i < F306 10 1 → A320 6 (((u * 13 + (-x) + 6) * 10) + 1 + i).toNat = A307 11 i.toNat) ∧ (∀ i : Int, 0 ≤ i → (i < ((u * 13 + (-x) + 6) * 10) ∨ ((u * 13 + (-x) + 6) * 10) + 10 ≤ i) → A320 6 i.toNat = A307 6 i.toNat) := x322
      clear x322
      show sA _ _ _ 111 _ [] _ _
      refine sA_vret dd_X7_layWord_111 rfl ?_
      refine ⟨rfl, I324, f328, ?_⟩
      have hst : gs_stk (A281 9) (F280 8 1).toNat = sp_all [] (sp_m g u x) := by
        have y := y291.2.2
        rw [show F168 8 1 = 0 by omega] at y
        refine y.trans ?_
        show sp_all [] _ = _
        rw [sp_m_pos (o := 0) (by omega) (by omega)]
        exact congrArg (sp_all []) (sp_word1 (by omega) (by omega))
      obtain ⟨b1, b2⟩ := y304 (by omega)
      obtain ⟨k1, k2, k3⟩ := y317
      obtain ⟨n1, n2, n3⟩ := y330
      have e8 : F293 8 1 = F280 8 1 := by omega
      have e9 : A294 9 = A281 9 := f299.2 9 (by dsimp only; omega)
      have e10 : F306 10 1 = F293 10 1 := by omega
      have e11 : A307 11 = A294 11 := f312.2 11 (by dsimp only; omega)
      rw [e8] at k1
      rw [e8, e9] at k2
      rw [u303] at k3
      rw [e10] at n1
      rw [e10, e11] at n2
      exact gs_lw_fin hg hu hx hst (by omega) (by omega) b1 b2 k1 k2 k3 n1 n2 n3
end
