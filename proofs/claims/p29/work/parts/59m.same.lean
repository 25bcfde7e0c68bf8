noncomputable section
/-! ===== same, length ===== -/
def gs_sm (P Q : Int → Option (List Int)) (n z : Int) : Prop :=
  ((∃ x : Int, 1 ≤ x ∧ x ≤ n ∧ P x = none) ∧ z = -1005) ∨ ((∃ x : Int, 1 ≤ x ∧ x ≤ n ∧ Q x = none) ∧ z = -1005) ∨ ((∀ x : Int, 1 ≤ x → x ≤ n → P x ≠ none) ∧ (∀ x : Int, 1 ≤ x → x ≤ n → Q x ≠ none) ∧ ((z = -1 ∧ ∀ x : Int, 1 ≤ x → x ≤ n → P x = Q x) ∨ (1 ≤ z ∧ z ≤ n ∧ P z ≠ Q z ∧ ∀ x : Int, 1 ≤ x → x < z → P x = Q x)))
theorem gs_sm_uni {P Q : Int → Option (List Int)} {n v1 v2 : Int} (h1 : gs_sm P Q n v1) (h2 : gs_sm P Q n v2) : v2 = v1 := by
  rcases h1 with ⟨⟨x, a1, a2, a3⟩, a4⟩ | ⟨⟨x, a1, a2, a3⟩, a4⟩ | ⟨a1, a2, a3⟩ <;> rcases h2 with ⟨⟨y, b1, b2, b3⟩, b4⟩ | ⟨⟨y, b1, b2, b3⟩, b4⟩ | ⟨b1, b2, b3⟩
  · omega
  · omega
  · exact absurd a3 (b1 x a1 a2)
  · omega
  · omega
  · exact absurd a3 (b2 x a1 a2)
  · exact absurd b3 (a1 y b1 b2)
  · exact absurd b3 (a2 y b1 b2)
  · rcases a3 with ⟨a3, a4⟩ | ⟨a3, a4, a5, a6⟩ <;> rcases b3 with ⟨b3, b4⟩ | ⟨b3, b4, b5, b6⟩
    · omega
    · exact absurd (a4 v2 b3 b4) b5
    · exact absurd (b4 v1 a3 a4) a5
    · rcases (show v1 < v2 ∨ v2 < v1 ∨ v2 = v1 by omega) with q | q | q
      · exact absurd (b6 v1 a3 q) a5
      · exact absurd (a6 v2 b3 q) b5
      · exact q
def gs_sm2 (P Q : Int → Option (List Int)) (x f : Int) : Prop := (∀ y : Int, 1 ≤ y → y < x → Q y ≠ none) ∧ ((f = -1 ∧ ∀ y : Int, 1 ≤ y → y < x → P y = Q y) ∨ (1 ≤ f ∧ f < x ∧ P f ≠ Q f ∧ ∀ y : Int, 1 ≤ y → y < f → P y = Q y))
theorem gs_sm2_0 {P Q : Int → Option (List Int)} : gs_sm2 P Q 1 (-1) := ⟨fun y h1 h2 => by omega, .inl ⟨rfl, fun y h1 h2 => by omega⟩⟩
theorem gs_sm2_q {Q : Int → Option (List Int)} {x : Int} (h : ∀ y : Int, 1 ≤ y → y < x → Q y ≠ none) (hq : Q x ≠ none) : ∀ y : Int, 1 ≤ y → y < x + 1 → Q y ≠ none := by
  intro y h1 h2
  by_cases q : y = x
  · rw [q]
    exact hq
  · exact h y h1 (by omega)
theorem gs_sm2_a {P Q : Int → Option (List Int)} {x f : Int} (h : gs_sm2 P Q x f) (hf : f ≠ -1) (hq : Q x ≠ none) : gs_sm2 P Q (x + 1) f := by
  refine ⟨gs_sm2_q h.1 hq, ?_⟩
  rcases h.2 with a | ⟨a1, a2, a3, a4⟩
  · exact absurd a.1 hf
  · exact .inr ⟨a1, by omega, a3, a4⟩
theorem gs_sm2_b {P Q : Int → Option (List Int)} {x f : Int} (h : gs_sm2 P Q x f) (hf : f = -1) (hq : Q x ≠ none) (e : P x = Q x) : gs_sm2 P Q (x + 1) f := by
  refine ⟨gs_sm2_q h.1 hq, ?_⟩
  rcases h.2 with ⟨a1, a2⟩ | ⟨a1, a2, a3, a4⟩
  · refine .inl ⟨a1, fun y h1 h2 => ?_⟩
    by_cases q : y = x
    · rw [q]
      exact e
    · exact a2 y h1 (by omega)
  · omega
theorem gs_sm2_c {P Q : Int → Option (List Int)} {x f : Int} (hx : 1 ≤ x) (h : gs_sm2 P Q x f) (hf : f = -1) (hq : Q x ≠ none) (e : P x ≠ Q x) : gs_sm2 P Q (x + 1) x := by
  refine ⟨gs_sm2_q h.1 hq, ?_⟩
  rcases h.2 with ⟨a1, a2⟩ | ⟨a1, a2, a3, a4⟩
  · exact .inr ⟨hx, by omega, e, fun y h1 h2 => a2 y h1 h2⟩
  · omega
theorem gs_sm_fin {P Q : Int → Option (List Int)} {n x f : Int} {im : Nat → List Int} (hx : x = n + 1) (hP : ∀ ii : Nat, (ii : Int) < n → P ((ii : Int) + 1) = some (im ii)) (h : gs_sm2 P Q x f) : gs_sm P Q n f := by
  subst hx
  refine .inr (.inr ⟨fun y h1 h2 w => ?_, fun y h1 h2 => h.1 y h1 (by omega), ?_⟩)
  · rw [gs_some hP y h1 h2] at w
    cases w
  · rcases h.2 with ⟨a1, a2⟩ | ⟨a1, a2, a3, a4⟩
    · exact .inl ⟨a1, fun y h1 h2 => a2 y h1 (by omega)⟩
    · exact .inr ⟨a1, by omega, a3, a4⟩
def gs_sm3 (P Q : Int → Option (List Int)) (n a f : Int) : Prop := (∀ y : Int, a ≤ y → y ≤ n → Q y ≠ none) ∧ ((f = -1 ∧ ∀ y : Int, a ≤ y → y ≤ n → P y = Q y) ∨ (a ≤ f ∧ f ≤ n ∧ P f ≠ Q f ∧ ∀ y : Int, a ≤ y → y < f → P y = Q y))
theorem gs_sm3_0 {P Q : Int → Option (List Int)} {n a : Int} (h : n < a) : gs_sm3 P Q n a (-1) := ⟨fun y h1 h2 => by omega, .inl ⟨rfl, fun y h1 h2 => by omega⟩⟩
theorem gs_sm3_q {Q : Int → Option (List Int)} {n x : Int} (h : ∀ y : Int, x + 2 ≤ y → y ≤ n → Q y ≠ none) (hq : Q (x + 1) ≠ none) : ∀ y : Int, x + -1 + 2 ≤ y → y ≤ n → Q y ≠ none := by
  intro y h1 h2
  by_cases q : y = x + 1
  · rw [q]
    exact hq
  · exact h y (by omega) h2
theorem gs_sm3_b {P Q : Int → Option (List Int)} {n x f : Int} (h : gs_sm3 P Q n (x + 2) f) (hq : Q (x + 1) ≠ none) (e : P (x + 1) = Q (x + 1)) : gs_sm3 P Q n (x + -1 + 2) f := by
  refine ⟨gs_sm3_q h.1 hq, ?_⟩
  have key : ∀ y : Int, x + -1 + 2 ≤ y → (x + 2 ≤ y → P y = Q y) → P y = Q y := fun y h1 h2 => by
    by_cases q : y = x + 1
    · rw [q]
      exact e
    · exact h2 (by omega)
  rcases h.2 with ⟨a1, a2⟩ | ⟨a1, a2, a3, a4⟩
  · exact .inl ⟨a1, fun y h1 h2 => key y h1 (fun w => a2 y w h2)⟩
  · exact .inr ⟨by omega, a2, a3, fun y h1 h2 => key y h1 (fun w => a4 y w h2)⟩
theorem gs_sm3_c {P Q : Int → Option (List Int)} {n x f : Int} (hx : x + 1 ≤ n) (h : gs_sm3 P Q n (x + 2) f) (hq : Q (x + 1) ≠ none) (e : P (x + 1) ≠ Q (x + 1)) : gs_sm3 P Q n (x + -1 + 2) (x + 1) := by
  exact ⟨gs_sm3_q h.1 hq, .inr ⟨by omega, hx, e, fun y h1 h2 => by omega⟩⟩
theorem gs_sm3_fin {P Q : Int → Option (List Int)} {n x f : Int} {im : Nat → List Int} (hx : x + 2 = 1) (hP : ∀ ii : Nat, (ii : Int) < n → P ((ii : Int) + 1) = some (im ii)) (h : gs_sm3 P Q n (x + 2) f) : gs_sm P Q n f := by
  rw [hx] at h
  refine .inr (.inr ⟨fun y h1 h2 w => ?_, h.1, ?_⟩)
  · rw [gs_some hP y h1 h2] at w
    cases w
  · rcases h.2 with ⟨a1, a2⟩ | ⟨a1, a2, a3, a4⟩
    · exact .inl ⟨a1, a2⟩
    · exact .inr ⟨a1, a2, a3, a4⟩
theorem gs_like_eq {p q : List Int} {P Q : Option (List Int)} (hP : P = some p) (hQ : Q = some q) : P = Q ↔ q = p := by
  rw [hP, hQ]
  constructor
  · intro w
    injection w with w
    exact w.symm
  · intro w
    rw [w]
theorem gs_nn {P : Option (List Int)} {p : List Int} (h : P = some p) : P ≠ none := by
  intro w
  rw [h] at w
  cases w
/-- a plan done again and again -/
def gs_it (P : List Int → Option (List Int)) : Nat → List Int → Option (List Int)
  | 0, r => some r
  | n + 1, r => (gs_it P n r).bind P
theorem gs_it_step {P : List Int → Option (List Int)} {n : Int} {t : Nat} {im im2 : Nat → List Int} (h : ∀ ii : Nat, (ii : Int) < n → gs_it P t [(ii : Int) + 1] = some (im ii)) (h2 : ∀ ii : Nat, (ii : Int) < n → P (im ii) = some (im2 ii)) : ∀ ii : Nat, (ii : Int) < n → gs_it P (t + 1) [(ii : Int) + 1] = some (im2 ii) := by
  intro ii hi
  show (gs_it P t [(ii : Int) + 1]).bind P = _
  rw [h ii hi]
  exact h2 ii hi
theorem gs_it_none {P : List Int → Option (List Int)} {r : List Int} {t : Nat} (h : gs_it P t r = none) : ∀ d : Nat, gs_it P (t + d) r = none
  | 0 => h
  | d + 1 => by
    show (gs_it P (t + d) r).bind P = none
    rw [gs_it_none h d]
    rfl
theorem gs_it_large {P : List Int → Option (List Int)} {n : Int} {t K : Nat} {im : Nat → List Int} (ht : t + 1 ≤ K) (h : ∀ ii : Nat, (ii : Int) < n → gs_it P t [(ii : Int) + 1] = some (im ii)) (h2 : ∃ ii : Nat, (ii : Int) < n ∧ P (im ii) = none) : ∃ ii : Nat, (ii : Int) < n ∧ gs_it P K [(ii : Int) + 1] = none := by
  obtain ⟨ii, hi, e⟩ := h2
  refine ⟨ii, hi, ?_⟩
  have w : gs_it P (t + 1) [(ii : Int) + 1] = none := by
    show (gs_it P t [(ii : Int) + 1]).bind P = none
    rw [h ii hi]
    exact e
  have w2 := gs_it_none w (K - (t + 1))
  rw [show t + 1 + (K - (t + 1)) = K by omega] at w2
  exact w2
def gs_ln (P : List Int → Option (List Int)) (n : Int) (K : Nat) (z : Int) : Prop :=
  ((∃ ii : Nat, (ii : Int) < n ∧ gs_it P K [(ii : Int) + 1] = none) ∧ z = -1005) ∨ (∃ im : Nat → List Int, (∀ ii : Nat, (ii : Int) < n → gs_it P K [(ii : Int) + 1] = some (im ii)) ∧ z = gs_sum (fun i => ((im i).length : Int)) n.toNat)
theorem gs_ln_uni {P : List Int → Option (List Int)} {n v1 v2 : Int} {K : Nat} (h1 : gs_ln P n K v1) (h2 : gs_ln P n K v2) : v2 = v1 := by
  rcases h1 with ⟨⟨i, a1, a2⟩, a3⟩ | ⟨im, a1, a2⟩ <;> rcases h2 with ⟨⟨j, b1, b2⟩, b3⟩ | ⟨im2, b1, b2⟩
  · omega
  · have w := b1 i a1
    rw [a2] at w
    cases w
  · have w := a1 j b1
    rw [b2] at w
    cases w
  · rw [a2, b2]
    refine gs_sum_cg _ (fun i hi => ?_)
    have w1 := a1 i (by omega)
    have w2 := b1 i (by omega)
    rw [w1] at w2
    injection w2 with w2
    show ((im2 i).length : Int) = ((im i).length : Int)
    rw [w2]
theorem k_X8_firstUnlike_vf {a b : Nat} {F A : gs_F} (hI : gs_I F A) (hr : gs_plan a) (ho : gs_plan b) (hW : gs_W (A 6) (F 0 11)) (hcda : ∀ i : Int, 0 ≤ i → i < F a 1 → 0 ≤ A (a + 1) i.toNat ∧ A (a + 1) i.toNat < 6 * F 0 11 - 2) (hcdb : ∀ i : Int, 0 ≤ i → i < F b 1 → 0 ≤ A (b + 1) i.toNat ∧ A (b + 1) i.toNat < 6 * F 0 11 - 2) (ha44 : a = 50 ∨ a = 52 ∨ 90 ≤ a) (hb44 : b = 50 ∨ b = 52 ∨ 90 ≤ b) : ∀ nN : Nat, (∀ (f : Int) (x : Int)  (F1 A1 : gs_F), gs_I F1 A1 → gs_fr (fun c j => (c = 15 ∧ j = 1) ∨ (18 ≤ c ∧ c < 30 ∧ j = 1) ∨ (c = 48 ∧ j = 1)) (fun c => c = 7 ∨ (18 ≤ c ∧ c < 30) ∨ c = 49) F A F1 A1 → 1 ≤ x ∧ x ≤ 7 → -1 ≤ f ∧ f ≤ 6 → x ≤ 2 * F 0 11 + 1 → (∀ ii : Nat, (ii : Int) < 2 * F 0 11 → gs_plc F A (F 0 11) a [(ii : Int) + 1] = some (gs_ic F1 A1 ii)) → gs_sm2 (fun y => gs_plc F A (F 0 11) a [y]) (fun y => gs_plc F A (F 0 11) b [y]) x f → 7 - x < (nN : Int) → sA m_X8_firstUnlike 5 (fun rv F' A' => ∃ z : Int, rv = some (gs_iv z) ∧ gs_I F' A' ∧ gs_fr (fun c j => (c = 15 ∧ j = 1) ∨ (18 ≤ c ∧ c < 30 ∧ j = 1) ∨ (c = 48 ∧ j = 1)) (fun c => c = 7 ∨ (18 ≤ c ∧ c < 30) ∨ c = 49) F A F' A' ∧ (gs_sm (fun y => gs_plc F A (F 0 11) a [y]) (fun y => gs_plc F A (F 0 11) b [y]) (2 * F 0 11) z)) 31 [(4, gs_iv x), (3, gs_iv f), (0, .ref 0), (2, .ref b)] [] F1 A1) := by
  intro nN
  induction nN with
  | zero =>
    exact fun a0 a1 a2 a3 a4 a5 i0 i1 i2 i3 i4 hm => by exfalso; omega
  | succ nN ih =>
    intro f x F1 A1 hI1 hf1 i0 i1 i2 i3 i4 hm
    have b1 := gs_plan_sz hr hI1
    have b2 := gs_plan_sz ho hI1
    have b3 : (1 : Int) ≤ F1 0 11 ∧ F1 0 11 ≤ 3 := hI1.1 0 11
    have hg : (1 : Int) ≤ F 0 11 ∧ F 0 11 ≤ 3 := hI.1 0 11
    have h011 : F1 0 11 = F 0 11 := hf1.1 0 11 (by dsimp only; omega)
    refine sA_iload dd_X8_firstUnlike_31 (.head _) ?_
    refine sA_iconst (z := 2) dd_X8_firstUnlike_33 ?_
    refine sA_aload_n dd_X8_firstUnlike_34 rfl (.tail _ (.tail _ (.head _))) ?_
    refine sA_geti (ci := 8) (j := 11) (q := (RX8, TX8, 13)) dd_X8_firstUnlike_35 rfl (by decide) fl_X8_84 (by decide) gs_s0 rfl ?_
    refine sA_imul dd_X8_firstUnlike_38 ?_
    refine sA_icmp_gt (tgt := 106) dd_X8_firstUnlike_39 (by decide) (by omega) (by omega) (fun q4 => ?_) (fun q4 => ?_)
    · skip
      refine sA_iload_n dd_X8_firstUnlike_106 rfl (.tail _ (.head _)) ?_
      refine sA_iret (z := f) dd_X8_firstUnlike_107 rfl ?_
      refine ⟨_, rfl, hI1, hf1, ?_⟩
      exact gs_sm_fin (by omega) i3 i4
    · skip
      refine sA_aload_n dd_X8_firstUnlike_42 rfl (.tail _ (.tail _ (.head _))) ?_
      refine sA_getr (ci := 8) (j := 8) (q := (RX8, TX8, 13)) dd_X8_firstUnlike_43 rfl (by decide) fl_X8_69 (by decide) gs_s0 rfl ?_
      refine sA_iload dd_X8_firstUnlike_46 (.head _) ?_
      refine sA_callV (y2 := m_X4_becomeLetter) (n2 := 1) (d2 := 1) (a := 48) (ci := 4) (q := (RX4, TX4, 2)) (as := [gs_iv x]) (rest := []) dd_X8_firstUnlike_48 ok_X4_becomeLetter ml_X8_178 rfl rfl (Nat.lt_of_succ_lt gs_row_48.1) gs_row_48.2.1 rfl rfl (Nat.le_of_ble_eq_true rfl) (by decide) (c_X4_becomeLetter_vf hI1 gs_row_48 (by omega)) (fun r5 F6 A7 h8 => ?_)
      obtain ⟨e10, I11, f12, x9⟩ := h8
      subst e10
      have v13 : F6 0 11 = F1 0 11 := f12.1 0 11 (by first | exact id | omega | (dsimp only; omega) | (dsimp only) | fail)
      have f14 := gs_fr_tr hf1 f12 (fun b j h => by first | exact False.elim h | omega | (dsimp only at h ⊢; omega) | fail) (fun b h => by first | exact False.elim h | omega | (dsimp only at h ⊢; omega) | fail)
      have y15 : F6 48 1 = 1 ∧ A7 49 = gs_u (A1 49) 0 x := x9
      clear x9
      show sA _ _ _ 51 _ [] _ _
      refine sA_aload_n dd_X8_firstUnlike_51 rfl (.tail _ (.tail _ (.head _))) ?_
      refine sA_getr (ci := 8) (j := 3) (q := (RX8, TX8, 13)) dd_X8_firstUnlike_52 rfl (by decide) fl_X8_33 (by decide) gs_s0 rfl ?_
      refine sA_aload_n dd_X8_firstUnlike_55 rfl (.tail _ (.tail _ (.tail _ (.head _)))) ?_
      refine sA_aload_n dd_X8_firstUnlike_56 rfl (.tail _ (.tail _ (.head _))) ?_
      refine sA_getr (ci := 8) (j := 8) (q := (RX8, TX8, 13)) dd_X8_firstUnlike_57 rfl (by decide) fl_X8_69 (by decide) gs_s0 rfl ?_
      have hb1 : A7 (b + 1) = A (b + 1) := f14.2 (b + 1) (by dsimp only; omega)
      have hbn : F6 b 1 = F b 1 := f14.1 b 1 (by dsimp only; omega)
      have hW1 : gs_W (A7 6) (F 0 11) := by rw [f14.2 6 (by dsimp only; omega)]; exact hW
      have hcd1 : ∀ i : Int, 0 ≤ i → i < F6 b 1 → 0 ≤ A7 (b + 1) i.toNat ∧ A7 (b + 1) i.toNat < 6 * F 0 11 - 2 := by rw [hb1, hbn]; exact hcdb
      have hL : (400 : Nat) = 400 := rfl
      have y48 := y15
      have hstk : gs_stk (A7 49) (F6 48 1).toNat = [x] := by
        rw [y48.1, y48.2]
        show [gs_u (A1 49) 0 x 0] = [x]
        rw [gs_u_self]
      have hV1 : sp_val (F 0 11) (gs_stk (A7 49) (F6 48 1).toNat) := by
        rw [hstk]
        exact gs_val1 (by omega)
      refine sA_callV (y2 := m_X7_doPlan) (n2 := 2) (d2 := 3) (a := 5) (ci := 7) (q := (RX7, TX7, 5)) (as := [.ref b, .ref 48]) (rest := []) dd_X8_firstUnlike_60 ok_X7_doPlan ml_X8_181 rfl rfl (by decide) gs_s5 rfl rfl (Nat.le_of_ble_eq_true rfl) (by decide) (c_X7_doPlan_vf I11 ho gs_row_48 hg hcd1 hW1 hV1 hL (by omega) (by omega) (by omega)) (fun r16 F17 A18 h19 => ?_)
      obtain ⟨z22, e21, I23, f24, x20⟩ := h19
      subst e21
      have v25 : F17 0 11 = F6 0 11 := f24.1 0 11 (by first | exact id | omega | (dsimp only; omega) | (dsimp only) | fail)
      have f26 := gs_fr_tr f14 f24 (fun b j h => by first | exact False.elim h | omega | (dsimp only at h ⊢; omega) | fail) (fun b h => by first | exact False.elim h | omega | (dsimp only at h ⊢; omega) | fail)
      have y27 : (z22 = 1 ∧ sp_pl (fun u => sp_tw (sp_w (F 0 11) u)) (A7 (b + 1)) (F6 b 1).toNat (gs_stk (A7 49) (F6 48 1).toNat) = some (gs_stk (A18 49) (F17 48 1).toNat)) ∨ (z22 = 0 ∧ sp_pl (fun u => sp_tw (sp_w (F 0 11) u)) (A7 (b + 1)) (F6 b 1).toNat (gs_stk (A7 49) (F6 48 1).toNat) = none) := x20
      clear x20
      show sA _ _ _ 63 _ [gs_iv z22] _ _
      refine sA_if_ne (tgt := 70) dd_X8_firstUnlike_63 (by decide) (by omega) (fun q28 => ?_) (fun q28 => ?_)
      · skip
        have hQx : gs_plc F A (F 0 11) b [x] = some (gs_stk (A18 49) (F17 48 1).toNat) := by
          rcases y27 with y | y
          · have y2 := y.2
            rw [hb1, hbn, hstk] at y2
            exact y2
          · exfalso
            omega
        have hQn := gs_nn hQx
        have hic : ∀ ii : Nat, ii < 6 → gs_ic F17 A18 ii = gs_ic F1 A1 ii := fun ii hi => gs_ic_fr hi (fun c h1 h2 => (f24.1 c 1 (by dsimp only; omega)).trans (f12.1 c 1 (by dsimp only; omega))) (fun c h1 h2 => (f24.2 c (by dsimp only; omega)).trans (f12.2 c (by dsimp only; omega)))
        have hPx : gs_plc F A (F 0 11) a [x] = some (gs_ic F1 A1 (x - 1).toNat) := gs_some (P := fun y => gs_plc F A (F 0 11) a [y]) (n := 2 * F 0 11) (im := gs_ic F1 A1) i3 x (by omega) (by omega)
        refine sA_iload_n dd_X8_firstUnlike_70 rfl (.tail _ (.head _)) ?_
        refine sA_iconst (z := (-1)) dd_X8_firstUnlike_71 ?_
        refine sA_icmp_ne (tgt := 100) dd_X8_firstUnlike_72 (by decide) (by omega) (by omega) (fun q29 => ?_) (fun q29 => ?_)
        · skip
          refine sA_iinc (lv' := [(4, gs_iv (x + 1)), (3, gs_iv f), (0, .ref 0), (2, .ref b)]) dd_X8_firstUnlike_100 (.head _) (by decide) rfl ?_
          refine sA_goto (tgt := 31) dd_X8_firstUnlike_103 (by decide) ?_
          have b30 := gs_plan_sz hr I23
          have b31 := gs_plan_sz ho I23
          have b32 : (1 : Int) ≤ F17 0 11 ∧ F17 0 11 ≤ 3 := I23.1 0 11
          refine sA_sub (lv2 := [(4, gs_iv (x + 1)), (3, gs_iv f), (0, .ref 0), (2, .ref b)]) (List.forall_mem_cons.mpr ⟨(.head _), (List.forall_mem_cons.mpr ⟨(.tail _ (.head _)), (List.forall_mem_cons.mpr ⟨(.tail _ (.tail _ (.head _))), (List.forall_mem_cons.mpr ⟨(.tail _ (.tail _ (.tail _ (.head _)))), (fun _ h => absurd h List.not_mem_nil)⟩)⟩)⟩)⟩) ?_
          exact ih f (x + 1) F17 A18 I23 f26 (by omega) (by omega) (by omega) (fun ii hi => by rw [hic ii (by omega)]; exact i3 ii hi) (gs_sm2_a i4 (by omega) hQn) (by omega)
        · skip
          refine sA_aload_n dd_X8_firstUnlike_75 rfl (.tail _ (.tail _ (.head _))) ?_
          refine sA_getr (ci := 8) (j := 8) (q := (RX8, TX8, 13)) dd_X8_firstUnlike_76 rfl (by decide) fl_X8_69 (by decide) gs_s0 rfl ?_
          refine sA_aload_n dd_X8_firstUnlike_79 rfl (.tail _ (.tail _ (.head _))) ?_
          refine sA_getr (ci := 8) (j := 5) (q := (RX8, TX8, 13)) dd_X8_firstUnlike_80 rfl (by decide) fl_X8_49 (by decide) gs_s0 rfl ?_
          refine sA_getr (ci := 0) (j := 0) (q := (RX0, TX0, 4)) dd_X8_firstUnlike_83 rfl (by decide) fl_X8_246 (by decide) gs_s15 rfl ?_
          refine sA_iload dd_X8_firstUnlike_86 (.head _) ?_
          refine sA_iconst (z := 1) dd_X8_firstUnlike_88 ?_
          refine sA_isub dd_X8_firstUnlike_89 ?_
          refine sA_aald (n := 6) dd_X8_firstUnlike_90 (by decide) (by decide) (by decide) gs_s16 (by omega) (by decide) ?_
          have g33 := gs_row_im (k := (x - 1).toNat) (by omega)
          refine sA_callV (y2 := m_X4_isLike) (n2 := 1) (d2 := 1) (a := 48) (ci := 4) (q := (RX4, TX4, 2)) (as := [.ref (18 + 2 * (x - 1).toNat)]) (rest := []) dd_X8_firstUnlike_91 ok_X4_isLike ml_X8_250 rfl rfl (Nat.lt_of_succ_lt gs_row_48.1) gs_row_48.2.1 rfl rfl (Nat.le_of_ble_eq_true rfl) (by decide) (c_X4_isLike_vf I23 gs_row_48 g33) (fun r34 F35 A36 h37 => ?_)
          obtain ⟨z40, e39, e41, e42, x38⟩ := h37
          subst e39 e41 e42
          have y43 : (z40 = 1 ∧ gs_stk (A18 49) (F17 48 1).toNat = gs_stk (A18 ((18 + 2 * (x - 1).toNat) + 1)) (F17 (18 + 2 * (x - 1).toNat) 1).toNat) ∨ (z40 = 0 ∧ ¬ gs_stk (A18 49) (F17 48 1).toNat = gs_stk (A18 ((18 + 2 * (x - 1).toNat) + 1)) (F17 (18 + 2 * (x - 1).toNat) 1).toNat) := x38
          clear x38
          show sA _ _ _ 94 _ [gs_iv z40] _ _
          refine sA_if_ne (tgt := 100) dd_X8_firstUnlike_94 (by decide) (by omega) (fun q44 => ?_) (fun q44 => ?_)
          · skip
            refine sA_iinc (lv' := [(4, gs_iv (x + 1)), (3, gs_iv f), (0, .ref 0), (2, .ref b)]) dd_X8_firstUnlike_100 (.head _) (by decide) rfl ?_
            refine sA_goto (tgt := 31) dd_X8_firstUnlike_103 (by decide) ?_
            have b45 := gs_plan_sz hr I23
            have b46 := gs_plan_sz ho I23
            have b47 : (1 : Int) ≤ F17 0 11 ∧ F17 0 11 ≤ 3 := I23.1 0 11
            refine sA_sub (lv2 := [(4, gs_iv (x + 1)), (3, gs_iv f), (0, .ref 0), (2, .ref b)]) (List.forall_mem_cons.mpr ⟨(.head _), (List.forall_mem_cons.mpr ⟨(.tail _ (.head _)), (List.forall_mem_cons.mpr ⟨(.tail _ (.tail _ (.head _))), (List.forall_mem_cons.mpr ⟨(.tail _ (.tail _ (.tail _ (.head _)))), (fun _ h => absurd h List.not_mem_nil)⟩)⟩)⟩)⟩) ?_
            exact ih f (x + 1) F17 A18 I23 f26 (by omega) (by omega) (by omega) (fun ii hi => by rw [hic ii (by omega)]; exact i3 ii hi) (gs_sm2_b i4 (by omega) hQn (by rcases y43 with y | y <;> first | (exfalso; omega) | exact (gs_like_eq hPx hQx).mpr (y.2.trans (hic (x - 1).toNat (by omega))) | fail)) (by omega)
          · skip
            refine sA_iload dd_X8_firstUnlike_97 (.head _) ?_
            refine sA_istore_n (lv' := [(3, gs_iv x), (4, gs_iv x), (0, .ref 0), (2, .ref b)]) dd_X8_firstUnlike_99 rfl (by decide) rfl ?_
            refine sA_iinc (lv' := [(4, gs_iv (x + 1)), (3, gs_iv x), (0, .ref 0), (2, .ref b)]) dd_X8_firstUnlike_100 (.tail _ (.head _)) (by decide) rfl ?_
            refine sA_goto (tgt := 31) dd_X8_firstUnlike_103 (by decide) ?_
            have b48 := gs_plan_sz hr I23
            have b49 := gs_plan_sz ho I23
            have b50 : (1 : Int) ≤ F17 0 11 ∧ F17 0 11 ≤ 3 := I23.1 0 11
            refine sA_sub (lv2 := [(4, gs_iv (x + 1)), (3, gs_iv x), (0, .ref 0), (2, .ref b)]) (List.forall_mem_cons.mpr ⟨(.head _), (List.forall_mem_cons.mpr ⟨(.tail _ (.head _)), (List.forall_mem_cons.mpr ⟨(.tail _ (.tail _ (.head _))), (List.forall_mem_cons.mpr ⟨(.tail _ (.tail _ (.tail _ (.head _)))), (fun _ h => absurd h List.not_mem_nil)⟩)⟩)⟩)⟩) ?_
            exact ih x (x + 1) F17 A18 I23 f26 (by omega) (by omega) (by omega) (fun ii hi => by rw [hic ii (by omega)]; exact i3 ii hi) (gs_sm2_c (by omega) i4 (by omega) hQn (by rcases y43 with y | y <;> first | (exfalso; omega) | exact fun w => y.2 (((gs_like_eq hPx hQx).mp w).trans (hic (x - 1).toNat (by omega)).symm) | fail)) (by omega)
      · skip
        refine sA_sipush (z := (-1005)) dd_X8_firstUnlike_66 (by decide) ?_
        refine sA_iret (z := -1005) dd_X8_firstUnlike_69 rfl ?_
        refine ⟨_, rfl, I23, f26, ?_⟩
        rcases y27 with y | y
        · exfalso
          omega
        · have y2 := y.2
          rw [hb1, hbn, hstk] at y2
          exact .inr (.inl ⟨⟨x, by omega, by omega, y2⟩, rfl⟩)
theorem c_X8_firstUnlike_vf {a b : Nat} {F A : gs_F} (hI : gs_I F A) (hr : gs_plan a) (ho : gs_plan b) (hW : gs_W (A 6) (F 0 11)) (hcda : ∀ i : Int, 0 ≤ i → i < F a 1 → 0 ≤ A (a + 1) i.toNat ∧ A (a + 1) i.toNat < 6 * F 0 11 - 2) (hcdb : ∀ i : Int, 0 ≤ i → i < F b 1 → 0 ≤ A (b + 1) i.toNat ∧ A (b + 1) i.toNat < 6 * F 0 11 - 2) (ha44 : a = 50 ∨ a = 52 ∨ 90 ≤ a) (hb44 : b = 50 ∨ b = 52 ∨ 90 ≤ b) : sC m_X8_firstUnlike 5 [.ref 0, .ref a, .ref b] F A (fun rv F' A' => ∃ z : Int, rv = some (gs_iv z) ∧ gs_I F' A' ∧ gs_fr (fun c j => (c = 15 ∧ j = 1) ∨ (18 ≤ c ∧ c < 30 ∧ j = 1) ∨ (c = 48 ∧ j = 1)) (fun c => c = 7 ∨ (18 ≤ c ∧ c < 30) ∨ c = 49) F A F' A' ∧ (gs_sm (fun y => gs_plc F A (F 0 11) a [y]) (fun y => gs_plc F A (F 0 11) b [y]) (2 * F 0 11) z)) := by
  refine sC_of ok_X8_firstUnlike.1 (Nat.le_of_ble_eq_true rfl) ?_
  show sA _ _ _ 0 [(0, .ref 0), (1, .ref a), (2, .ref b)] [] F A
  have hf : gs_fr (fun c j => (c = 15 ∧ j = 1) ∨ (18 ≤ c ∧ c < 30 ∧ j = 1) ∨ (c = 48 ∧ j = 1)) (fun c => c = 7 ∨ (18 ≤ c ∧ c < 30) ∨ c = 49) F A F A := gs_fr_refl _ _ _ _
  have b51 := gs_plan_sz hr hI
  have b52 := gs_plan_sz ho hI
  have b53 : (1 : Int) ≤ F 0 11 ∧ F 0 11 ≤ 3 := hI.1 0 11
  have hg : (1 : Int) ≤ F 0 11 ∧ F 0 11 ≤ 3 := hI.1 0 11
  refine sA_aload_n dd_X8_firstUnlike_0 rfl (.head _) ?_
  refine sA_getr (ci := 8) (j := 5) (q := (RX8, TX8, 13)) dd_X8_firstUnlike_1 rfl (by decide) fl_X8_49 (by decide) gs_s0 rfl ?_
  refine sA_aload_n dd_X8_firstUnlike_4 rfl (.head _) ?_
  refine sA_geti (ci := 8) (j := 11) (q := (RX8, TX8, 13)) dd_X8_firstUnlike_5 rfl (by decide) fl_X8_84 (by decide) gs_s0 rfl ?_
  refine sA_callV (y2 := m_X0_begin) (n2 := 1) (d2 := 2) (a := 15) (ci := 0) (q := (RX0, TX0, 4)) (as := [gs_iv (F 0 11)]) (rest := []) dd_X8_firstUnlike_8 ok_X0_begin ml_X8_193 rfl rfl (by decide) gs_s15 rfl rfl (Nat.le_of_ble_eq_true rfl) (by decide) (c_X0_begin_vf hI (by omega)) (fun r54 F55 A56 h57 => ?_)
  obtain ⟨e59, I60, f61, x58⟩ := h57
  subst e59
  have v62 : F55 0 11 = F 0 11 := f61.1 0 11 (by first | exact id | omega | (dsimp only; omega) | (dsimp only) | fail)
  have f63 := gs_fr_tr hf f61 (fun b j h => by first | exact False.elim h | omega | (dsimp only at h ⊢; omega) | fail) (fun b h => by first | exact False.elim h | omega | (dsimp only at h ⊢; omega) | fail)
  have y64 : F55 15 1 = 2 * (F 0 11) ∧ ∀ ii : Nat, (ii : Int) < 2 * (F 0 11) → gs_ic F55 A56 ii = [(ii : Int) + 1] := x58
  clear x58
  show sA _ _ _ 11 _ [] _ _
  refine sA_aload_n dd_X8_firstUnlike_11 rfl (.head _) ?_
  refine sA_getr (ci := 8) (j := 5) (q := (RX8, TX8, 13)) dd_X8_firstUnlike_12 rfl (by decide) fl_X8_49 (by decide) gs_s0 rfl ?_
  refine sA_aload_n dd_X8_firstUnlike_15 rfl (.tail _ (.head _)) ?_
  have ha1 : A56 (a + 1) = A (a + 1) := f63.2 (a + 1) (by dsimp only; omega)
  have han : F55 a 1 = F a 1 := f63.1 a 1 (by dsimp only; omega)
  have hW1 : gs_W (A56 6) (F 0 11) := by rw [f63.2 6 (by dsimp only; omega)]; exact hW
  have hcd1 : ∀ i : Int, 0 ≤ i → i < F55 a 1 → 0 ≤ A56 (a + 1) i.toNat ∧ A56 (a + 1) i.toNat < 6 * F 0 11 - 2 := by rw [ha1, han]; exact hcda
  have y8a := y64.1
  have hVI1 : ∀ ii : Nat, (ii : Int) < F55 15 1 → sp_val (F 0 11) (gs_ic F55 A56 ii) := fun ii hi => by
    rw [y64.2 ii (by omega)]
    exact gs_val1 (by omega)
  have hPe : ∀ r, gs_plc F55 A56 (F 0 11) a r = gs_plc F A (F 0 11) a r := fun r => by
    unfold gs_plc
    rw [ha1, han]
  refine sA_callV (y2 := m_X0_doPlan) (n2 := 1) (d2 := 4) (a := 15) (ci := 0) (q := (RX0, TX0, 4)) (as := [.ref a]) (rest := []) dd_X8_firstUnlike_16 ok_X0_doPlan ml_X8_196 rfl rfl (by decide) gs_s15 rfl rfl (Nat.le_of_ble_eq_true rfl) (by decide) (c_X0_doPlan_vf I60 hr hg hcd1 hW1 hVI1 (by omega)) (fun r65 F66 A67 h68 => ?_)
  obtain ⟨z71, e70, I72, f73, x69⟩ := h68
  subst e70
  have v74 : F66 0 11 = F55 0 11 := f73.1 0 11 (by first | exact id | omega | (dsimp only; omega) | (dsimp only) | fail)
  have f75 := gs_fr_tr f63 f73 (fun b j h => by first | exact False.elim h | omega | (dsimp only at h ⊢; omega) | fail) (fun b h => by first | exact False.elim h | omega | (dsimp only at h ⊢; omega) | fail)
  have y76 : (z71 = 1 ∧ ∀ ii : Nat, (ii : Int) < F55 15 1 → gs_plc F55 A56 (F 0 11) a (gs_ic F55 A56 ii) = some (gs_ic F66 A67 ii)) ∨ (z71 = 0 ∧ ∃ ii : Nat, (ii : Int) < F55 15 1 ∧ gs_plc F55 A56 (F 0 11) a (gs_ic F55 A56 ii) = none) := x69
  clear x69
  show sA _ _ _ 19 _ [gs_iv z71] _ _
  refine sA_if_ne (tgt := 26) dd_X8_firstUnlike_19 (by decide) (by omega) (fun q77 => ?_) (fun q77 => ?_)
  · skip
    have hP3 : ∀ ii : Nat, (ii : Int) < 2 * F 0 11 → gs_plc F A (F 0 11) a [(ii : Int) + 1] = some (gs_ic F66 A67 ii) := by
      rcases y76 with y | y
      · intro ii hi
        have w := y.2 ii (by omega)
        rw [hPe, y64.2 ii (by omega)] at w
        exact w
      · exfalso
        omega
    refine sA_iconst (z := (-1)) dd_X8_firstUnlike_26 ?_
    refine sA_istore_n (lv' := [(3, gs_iv (-1)), (0, .ref 0), (1, .ref a), (2, .ref b)]) dd_X8_firstUnlike_27 rfl (by decide) rfl ?_
    refine sA_iconst (z := 1) dd_X8_firstUnlike_28 ?_
    refine sA_istore (lv' := [(4, gs_iv 1), (3, gs_iv (-1)), (0, .ref 0), (1, .ref a), (2, .ref b)]) dd_X8_firstUnlike_29 (by decide) rfl ?_
    have b78 := gs_plan_sz hr I72
    have b79 := gs_plan_sz ho I72
    have b80 : (1 : Int) ≤ F66 0 11 ∧ F66 0 11 ≤ 3 := I72.1 0 11
    refine sA_sub (lv2 := [(4, gs_iv 1), (3, gs_iv (-1)), (0, .ref 0), (2, .ref b)]) (List.forall_mem_cons.mpr ⟨(.head _), (List.forall_mem_cons.mpr ⟨(.tail _ (.head _)), (List.forall_mem_cons.mpr ⟨(.tail _ (.tail _ (.head _))), (List.forall_mem_cons.mpr ⟨(.tail _ (.tail _ (.tail _ (.tail _ (.head _))))), (fun _ h => absurd h List.not_mem_nil)⟩)⟩)⟩)⟩) ?_
    exact (k_X8_firstUnlike_vf hI hr ho hW hcda hcdb ha44 hb44 (7 - 1 : Int).toNat.succ) (-1) 1 F66 A67 I72 f75 (by omega) (by omega) (by omega) hP3 gs_sm2_0 (by omega)
  · skip
    refine sA_sipush (z := (-1005)) dd_X8_firstUnlike_22 (by decide) ?_
    refine sA_iret (z := -1005) dd_X8_firstUnlike_25 rfl ?_
    refine ⟨_, rfl, I72, f75, ?_⟩
    rcases y76 with y | y
    · exfalso
      omega
    · obtain ⟨y1, ii, hi, y2⟩ := y
      rw [hPe, y64.2 ii (by omega)] at y2
      exact .inl ⟨⟨(ii : Int) + 1, by omega, by omega, y2⟩, rfl⟩
theorem c_X8_same_vf {p q : Int} {F A : gs_F} (hI : gs_I F A) (hp : -2147483648 ≤ p ∧ p ≤ 2147483647) (hq : -2147483648 ≤ q ∧ q ≤ 2147483647) (hW : gs_W (A 6) (F 0 11)) (hcdp : 0 ≤ p → p ≤ 7 → ∀ i : Int, 0 ≤ i → i < F (90 + 2 * p.toNat) 1 → 0 ≤ A (90 + 2 * p.toNat + 1) i.toNat ∧ A (90 + 2 * p.toNat + 1) i.toNat < 6 * F 0 11 - 2) (hcdq : 0 ≤ q → q ≤ 7 → ∀ i : Int, 0 ≤ i → i < F (90 + 2 * q.toNat) 1 → 0 ≤ A (90 + 2 * q.toNat + 1) i.toNat ∧ A (90 + 2 * q.toNat + 1) i.toNat < 6 * F 0 11 - 2) : sC m_X8_same 6 [.ref 0, gs_iv p, gs_iv q] F A (fun rv F' A' => ∃ z : Int, rv = some (gs_iv z) ∧ gs_I F' A' ∧ gs_fr (fun c j => (c = 15 ∧ j = 1) ∨ (18 ≤ c ∧ c < 30 ∧ j = 1) ∨ (c = 48 ∧ j = 1)) (fun c => c = 7 ∨ (18 ≤ c ∧ c < 30) ∨ c = 49) F A F' A' ∧ (((p < 0 ∨ 7 < p ∨ q < 0 ∨ 7 < q) ∧ z = -1001) ∨ (0 ≤ p ∧ p ≤ 7 ∧ 0 ≤ q ∧ q ≤ 7 ∧ gs_sm (fun y => gs_plc F A (F 0 11) (90 + 2 * p.toNat) [y]) (fun y => gs_plc F A (F 0 11) (90 + 2 * q.toNat) [y]) (2 * F 0 11) z))) := by
  refine sC_of ok_X8_same.1 (Nat.le_of_ble_eq_true rfl) ?_
  show sA _ _ _ 0 [(0, .ref 0), (1, gs_iv p), (2, gs_iv q)] [] F A
  have hf : gs_fr (fun c j => (c = 15 ∧ j = 1) ∨ (18 ≤ c ∧ c < 30 ∧ j = 1) ∨ (c = 48 ∧ j = 1)) (fun c => c = 7 ∨ (18 ≤ c ∧ c < 30) ∨ c = 49) F A F A := gs_fr_refl _ _ _ _
  refine sA_iload_n dd_X8_same_0 rfl (.tail _ (.head _)) ?_
  refine sA_callS (y2 := m_X8_isPlan) (n2 := 1) (d2 := 1) (as := [gs_iv p]) (rest := []) dd_X8_same_1 ok_X8_isPlan ml_X8_148 rfl rfl (Nat.le_of_ble_eq_true rfl) (by decide) (c_X8_isPlan (by omega)) (fun r1 F2 A3 h4 => ?_)
  obtain ⟨z7, e6, e8, e9, x5⟩ := h4
  subst e6 e8 e9
  show sA _ _ _ 4 _ [gs_iv z7] _ _
  refine sA_if_eq (tgt := 14) dd_X8_same_4 (by decide) (by omega) (fun q10 => ?_) (fun q10 => ?_)
  · skip
    refine sA_sipush (z := (-1001)) dd_X8_same_14 (by decide) ?_
    refine sA_iret (z := -1001) dd_X8_same_17 rfl ?_
    refine ⟨_, rfl, hI, hf, ?_⟩
    exact .inl ⟨by omega, rfl⟩
  · skip
    refine sA_iload_n dd_X8_same_7 rfl (.tail _ (.tail _ (.head _))) ?_
    refine sA_callS (y2 := m_X8_isPlan) (n2 := 1) (d2 := 1) (as := [gs_iv q]) (rest := []) dd_X8_same_8 ok_X8_isPlan ml_X8_148 rfl rfl (Nat.le_of_ble_eq_true rfl) (by decide) (c_X8_isPlan (by omega)) (fun r11 F12 A13 h14 => ?_)
    obtain ⟨z17, e16, e18, e19, x15⟩ := h14
    subst e16 e18 e19
    show sA _ _ _ 11 _ [gs_iv z17] _ _
    refine sA_if_ne (tgt := 18) dd_X8_same_11 (by decide) (by omega) (fun q20 => ?_) (fun q20 => ?_)
    · skip
      refine sA_aload_n dd_X8_same_18 rfl (.head _) ?_
      refine sA_aload_n dd_X8_same_19 rfl (.head _) ?_
      refine sA_getr (ci := 8) (j := 1) (q := (RX8, TX8, 13)) dd_X8_same_20 rfl (by decide) fl_X8_17 (by decide) gs_s0 rfl ?_
      refine sA_iload_n dd_X8_same_23 rfl (.tail _ (.head _)) ?_
      refine sA_aald (n := 8) dd_X8_same_24 (by decide) (by decide) (by decide) gs_s2 (by omega) (by decide) ?_
      have g21 := gs_plan_at (k := p.toNat) (by omega)
      refine sA_aload_n dd_X8_same_25 rfl (.head _) ?_
      refine sA_getr (ci := 8) (j := 1) (q := (RX8, TX8, 13)) dd_X8_same_26 rfl (by decide) fl_X8_17 (by decide) gs_s0 rfl ?_
      refine sA_iload_n dd_X8_same_29 rfl (.tail _ (.tail _ (.head _))) ?_
      refine sA_aald (n := 8) dd_X8_same_30 (by decide) (by decide) (by decide) gs_s2 (by omega) (by decide) ?_
      have g22 := gs_plan_at (k := q.toNat) (by omega)
      have hW1 := hW
      have hcda1 := hcdp (by omega) (by omega)
      have hcdb1 := hcdq (by omega) (by omega)
      refine sA_callV (y2 := m_X8_firstUnlike) (n2 := 2) (d2 := 5) (a := 0) (ci := 8) (q := (RX8, TX8, 13)) (as := [.ref (90 + 2 * p.toNat), .ref (90 + 2 * q.toNat)]) (rest := []) dd_X8_same_31 ok_X8_firstUnlike ml_X8_189 rfl rfl (by decide) gs_s0 rfl rfl (Nat.le_of_ble_eq_true rfl) (by decide) (c_X8_firstUnlike_vf hI g21 g22 hW1 hcda1 hcdb1 (by omega) (by omega)) (fun r23 F24 A25 h26 => ?_)
      obtain ⟨z29, e28, I30, f31, x27⟩ := h26
      subst e28
      have f32 := gs_fr_tr hf f31 (fun b j h => by first | exact False.elim h | omega | (dsimp only at h ⊢; omega) | fail) (fun b h => by first | exact False.elim h | omega | (dsimp only at h ⊢; omega) | fail)
      have y33 : gs_sm (fun y => gs_plc F A (F 0 11) (90 + 2 * p.toNat) [y]) (fun y => gs_plc F A (F 0 11) (90 + 2 * q.toNat) [y]) (2 * F 0 11) z29 := x27
      clear x27
      show sA _ _ _ 34 _ [gs_iv z29] _ _
      refine sA_iret (z := z29) dd_X8_same_34 rfl ?_
      refine ⟨_, rfl, I30, f32, ?_⟩
      exact .inr ⟨by omega, by omega, by omega, by omega, y33⟩
    · skip
      refine sA_sipush (z := (-1001)) dd_X8_same_14 (by decide) ?_
      refine sA_iret (z := -1001) dd_X8_same_17 rfl ?_
      refine ⟨_, rfl, hI, hf, ?_⟩
      exact .inl ⟨by omega, rfl⟩
theorem k_X9_same_vf {p q : Int} {F A : gs_F} (hI : gs_I F A) (hp : -2147483648 ≤ p ∧ p ≤ 2147483647) (hq : -2147483648 ≤ q ∧ q ≤ 2147483647) (hcdp : 0 ≤ p → p ≤ 7 → ∀ i : Int, 0 ≤ i → i < A 110 p.toNat → 0 ≤ A 111 (60 * p + i).toNat ∧ A 111 (60 * p + i).toNat ≤ 15) (hcdq : 0 ≤ q → q ≤ 7 → ∀ i : Int, 0 ≤ i → i < A 110 q.toNat → 0 ≤ A 111 (60 * q + i).toNat ∧ A 111 (60 * q + i).toNat ≤ 15) : ∀ nN : Nat, (∀ (f : Int) (x : Int)  (F1 A1 : gs_F), gs_I F1 A1 → gs_fr (fun c j => c = 106 ∧ (j = 13 ∨ j = 15)) (fun c => c = 114 ∨ c = 115 ∨ c = 119 ∨ c = 120) F A F1 A1 → 0 ≤ q ∧ q ≤ 7 → -1 ≤ x ∧ x ≤ 5 → -1 ≤ f ∧ f ≤ 6 → x < 2 * F 106 0 ∧ 0 ≤ p ∧ p ≤ 7 → (∀ ii : Nat, (ii : Int) < 2 * F 106 0 → gs_plm F A p [(ii : Int) + 1] = some (gs_im A1 ii)) → gs_sm3 (fun y => gs_plm F A p [y]) (fun y => gs_plm F A q [y]) (2 * F 106 0) (x + 2) f → x + 1 < (nN : Int) → sA m_X9_same 8 (fun rv F' A' => ∃ z : Int, rv = some (gs_iv z) ∧ gs_I F' A' ∧ gs_fr (fun c j => c = 106 ∧ (j = 13 ∨ j = 15)) (fun c => c = 114 ∨ c = 115 ∨ c = 119 ∨ c = 120) F A F' A' ∧ (((p < 0 ∨ 7 < p ∨ q < 0 ∨ 7 < q) ∧ z = -1001) ∨ (0 ≤ p ∧ p ≤ 7 ∧ 0 ≤ q ∧ q ≤ 7 ∧ gs_sm (fun y => gs_plm F A p [y]) (fun y => gs_plm F A q [y]) (2 * F 106 0) z))) 44 [(4, gs_iv x), (3, gs_iv f), (0, .ref 106), (2, gs_iv q)] [] F1 A1) := by
  intro nN
  induction nN with
  | zero =>
    exact fun a0 a1 a2 a3 a4 a5 i0 i1 i2 i3 i4 i5 hm => by exfalso; omega
  | succ nN ih =>
    intro f x F1 A1 hI1 hf1 i0 i1 i2 i3 i4 i5 hm
    have hb0 : (1 : Int) ≤ F 106 0 ∧ F 106 0 ≤ 3 := hI.1 106 0
    refine sA_iload dd_X9_same_44 (.head _) ?_
    refine sA_if_lt (tgt := 93) dd_X9_same_46 (by decide) (by omega) (fun q1 => ?_) (fun q1 => ?_)
    · skip
      refine sA_iload_n dd_X9_same_93 rfl (.tail _ (.head _)) ?_
      refine sA_iret (z := f) dd_X9_same_94 rfl ?_
      refine ⟨_, rfl, hI1, hf1, ?_⟩
      exact .inr ⟨by omega, by omega, by omega, by omega, gs_sm3_fin (by omega) i4 i5⟩
    · skip
      refine sA_aload_n dd_X9_same_49 rfl (.tail _ (.tail _ (.head _))) ?_
      refine sA_iload dd_X9_same_50 (.head _) ?_
      refine sA_iconst (z := 1) dd_X9_same_52 ?_
      refine sA_iadd dd_X9_same_53 ?_
      refine sA_callV (y2 := m_X9_takeLetter) (n2 := 1) (d2 := 1) (a := 106) (ci := 9) (q := (RX9, TX9, 28)) (as := [gs_iv (x + 1)]) (rest := []) dd_X9_same_54 ok_X9_takeLetter ml_X9_224 rfl rfl (by decide) gs_s106 rfl rfl (Nat.le_of_ble_eq_true rfl) (by decide) (c_X9_takeLetter_vf hI1 (by omega)) (fun r2 F3 A4 h5 => ?_)
      obtain ⟨e7, I8, f9, x6⟩ := h5
      subst e7
      have f10 := gs_fr_tr hf1 f9 (fun b j h => by first | exact False.elim h | omega | (dsimp only at h ⊢; omega) | fail) (fun b h => by first | exact False.elim h | omega | (dsimp only at h ⊢; omega) | fail)
      have y11 : F3 106 13 = 1 ∧ A4 114 = gs_u (A1 114) 0 (x + 1) := x6
      clear x6
      show sA _ _ _ 57 _ [] _ _
      refine sA_aload_n dd_X9_same_57 rfl (.tail _ (.tail _ (.head _))) ?_
      refine sA_iload_n dd_X9_same_58 rfl (.tail _ (.tail _ (.tail _ (.head _)))) ?_
      have h110 : A4 110 = A 110 := f10.2 110 (by dsimp only; omega)
      have h111 : A4 111 = A 111 := f10.2 111 (by dsimp only; omega)
      have hg0 : F3 106 0 = F 106 0 := f10.1 106 0 (by dsimp only; omega)
      have hcd1 : ∀ i : Int, 0 ≤ i → i < A4 110 q.toNat → 0 ≤ A4 111 (60 * q + i).toNat ∧ A4 111 (60 * q + i).toNat ≤ 15 := by rw [h110, h111]; exact (hcdq (by omega) (by omega))
      have y54 := y11
      have hstk : gs_stk (A4 114) (F3 106 13).toNat = [x + 1] := by
        rw [y54.1, y54.2]
        show [gs_u (A1 114) 0 (x + 1) 0] = [x + 1]
        rw [gs_u_self]
      refine sA_callV (y2 := m_X9_imageRow) (n2 := 1) (d2 := 5) (a := 106) (ci := 9) (q := (RX9, TX9, 28)) (as := [gs_iv q]) (rest := []) dd_X9_same_59 ok_X9_imageRow ml_X9_227 rfl rfl (by decide) gs_s106 rfl rfl (Nat.le_of_ble_eq_true rfl) (by decide) (c_X9_imageRow_vf I8 (by omega) hcd1) (fun r12 F13 A14 h15 => ?_)
      obtain ⟨z18, e17, I19, f20, x16⟩ := h15
      subst e17
      have f21 := gs_fr_tr f10 f20 (fun b j h => by first | exact False.elim h | omega | (dsimp only at h ⊢; omega) | fail) (fun b h => by first | exact False.elim h | omega | (dsimp only at h ⊢; omega) | fail)
      have y22 : (z18 = 1 ∧ sp_pl (fun u => sp_tw (sp_m (F3 106 0) u)) (fun i => A4 111 (60 * q.toNat + i)) (A4 110 q.toNat).toNat (gs_stk (A4 114) (F3 106 13).toNat) = some (gs_stk (A14 114) (F13 106 13).toNat)) ∨ (z18 = 0 ∧ sp_pl (fun u => sp_tw (sp_m (F3 106 0) u)) (fun i => A4 111 (60 * q.toNat + i)) (A4 110 q.toNat).toNat (gs_stk (A4 114) (F3 106 13).toNat) = none) := x16
      clear x16
      show sA _ _ _ 62 _ [gs_iv z18] _ _
      refine sA_if_ne (tgt := 69) dd_X9_same_62 (by decide) (by omega) (fun q23 => ?_) (fun q23 => ?_)
      · skip
        have hQx : gs_plm F A q [x + 1] = some (gs_stk (A14 114) (F13 106 13).toNat) := by
          rcases y22 with y | y
          · have y2 := y.2
            rw [h110, h111, hg0, hstk] at y2
            exact y2
          · exfalso
            omega
        have hQn := gs_nn hQx
        have him : ∀ ii : Nat, gs_im A14 ii = gs_im A1 ii := fun ii => gs_im_cg ((f20.2 119 (by dsimp only; omega)).trans (f9.2 119 (by dsimp only; omega))) ((f20.2 120 (by dsimp only; omega)).trans (f9.2 120 (by dsimp only; omega))) ii
        have hPx : gs_plm F A p [x + 1] = some (gs_im A1 x.toNat) := by
          have w := i4 x.toNat (by omega)
          rw [show ((x.toNat : Nat) : Int) + 1 = x + 1 by omega] at w
          exact w
        refine sA_aload_n dd_X9_same_69 rfl (.tail _ (.tail _ (.head _))) ?_
        refine sA_iload dd_X9_same_70 (.head _) ?_
        refine sA_callV (y2 := m_X9_isImage) (n2 := 1) (d2 := 1) (a := 106) (ci := 9) (q := (RX9, TX9, 28)) (as := [gs_iv x]) (rest := []) dd_X9_same_72 ok_X9_isImage ml_X9_245 rfl rfl (by decide) gs_s106 rfl rfl (Nat.le_of_ble_eq_true rfl) (by decide) (c_X9_isImage_vf I19 (by omega)) (fun r24 F25 A26 h27 => ?_)
        obtain ⟨z30, e29, e31, e32, x28⟩ := h27
        subst e29 e31 e32
        have y33 : (z30 = 1 ∧ (gs_stk (A14 114) (F13 106 13).toNat = gs_im A14 x.toNat)) ∨ (z30 = 0 ∧ ¬ (gs_stk (A14 114) (F13 106 13).toNat = gs_im A14 x.toNat)) := x28
        clear x28
        show sA _ _ _ 75 _ [gs_iv z30] _ _
        refine sA_if_eq (tgt := 82) dd_X9_same_75 (by decide) (by omega) (fun q34 => ?_) (fun q34 => ?_)
        · skip
          refine sA_iload dd_X9_same_82 (.head _) ?_
          refine sA_iconst (z := 1) dd_X9_same_84 ?_
          refine sA_iadd dd_X9_same_85 ?_
          refine sA_istore_n (lv' := [(3, gs_iv (x + 1)), (4, gs_iv x), (0, .ref 106), (2, gs_iv q)]) dd_X9_same_86 rfl (by decide) rfl ?_
          refine sA_iinc (lv' := [(4, gs_iv (x + (-1))), (3, gs_iv (x + 1)), (0, .ref 106), (2, gs_iv q)]) dd_X9_same_87 (.tail _ (.head _)) (by decide) rfl ?_
          refine sA_goto (tgt := 44) dd_X9_same_90 (by decide) ?_
          refine sA_sub (lv2 := [(4, gs_iv (x + (-1))), (3, gs_iv (x + 1)), (0, .ref 106), (2, gs_iv q)]) (List.forall_mem_cons.mpr ⟨(.head _), (List.forall_mem_cons.mpr ⟨(.tail _ (.head _)), (List.forall_mem_cons.mpr ⟨(.tail _ (.tail _ (.head _))), (List.forall_mem_cons.mpr ⟨(.tail _ (.tail _ (.tail _ (.head _)))), (fun _ h => absurd h List.not_mem_nil)⟩)⟩)⟩)⟩) ?_
          exact ih (x + 1) (x + (-1)) F13 A14 I19 f21 (by omega) (by omega) (by omega) (by omega) (fun ii hi => by rw [him ii]; exact i4 ii hi) (gs_sm3_c (by omega) i5 hQn (by rcases y33 with y | y <;> first | (exfalso; omega) | exact fun w => y.2 (((gs_like_eq hPx hQx).mp w).trans (him x.toNat).symm) | fail)) (by omega)
        · skip
          refine sA_iload_n dd_X9_same_78 rfl (.tail _ (.head _)) ?_
          refine sA_goto (tgt := 86) dd_X9_same_79 (by decide) ?_
          refine sA_istore_n (lv' := [(3, gs_iv f), (4, gs_iv x), (0, .ref 106), (2, gs_iv q)]) dd_X9_same_86 rfl (by decide) rfl ?_
          refine sA_iinc (lv' := [(4, gs_iv (x + (-1))), (3, gs_iv f), (0, .ref 106), (2, gs_iv q)]) dd_X9_same_87 (.tail _ (.head _)) (by decide) rfl ?_
          refine sA_goto (tgt := 44) dd_X9_same_90 (by decide) ?_
          refine sA_sub (lv2 := [(4, gs_iv (x + (-1))), (3, gs_iv f), (0, .ref 106), (2, gs_iv q)]) (List.forall_mem_cons.mpr ⟨(.head _), (List.forall_mem_cons.mpr ⟨(.tail _ (.head _)), (List.forall_mem_cons.mpr ⟨(.tail _ (.tail _ (.head _))), (List.forall_mem_cons.mpr ⟨(.tail _ (.tail _ (.tail _ (.head _)))), (fun _ h => absurd h List.not_mem_nil)⟩)⟩)⟩)⟩) ?_
          exact ih f (x + (-1)) F13 A14 I19 f21 (by omega) (by omega) (by omega) (by omega) (fun ii hi => by rw [him ii]; exact i4 ii hi) (gs_sm3_b i5 hQn (by rcases y33 with y | y <;> first | (exfalso; omega) | exact (gs_like_eq hPx hQx).mpr (y.2.trans (him x.toNat)) | fail)) (by omega)
      · skip
        refine sA_sipush (z := (-1005)) dd_X9_same_65 (by decide) ?_
        refine sA_iret (z := -1005) dd_X9_same_68 rfl ?_
        refine ⟨_, rfl, I19, f21, ?_⟩
        rcases y22 with y | y
        · exfalso
          omega
        · have y2 := y.2
          rw [h110, h111, hg0, hstk] at y2
          exact .inr ⟨by omega, by omega, by omega, by omega, .inr (.inl ⟨⟨x + 1, by omega, by omega, y2⟩, rfl⟩)⟩
theorem c_X9_same_vf {p q : Int} {F A : gs_F} (hI : gs_I F A) (hp : -2147483648 ≤ p ∧ p ≤ 2147483647) (hq : -2147483648 ≤ q ∧ q ≤ 2147483647) (hcdp : 0 ≤ p → p ≤ 7 → ∀ i : Int, 0 ≤ i → i < A 110 p.toNat → 0 ≤ A 111 (60 * p + i).toNat ∧ A 111 (60 * p + i).toNat ≤ 15) (hcdq : 0 ≤ q → q ≤ 7 → ∀ i : Int, 0 ≤ i → i < A 110 q.toNat → 0 ≤ A 111 (60 * q + i).toNat ∧ A 111 (60 * q + i).toNat ≤ 15) : sC m_X9_same 8 [.ref 106, gs_iv p, gs_iv q] F A (fun rv F' A' => ∃ z : Int, rv = some (gs_iv z) ∧ gs_I F' A' ∧ gs_fr (fun c j => c = 106 ∧ (j = 13 ∨ j = 15)) (fun c => c = 114 ∨ c = 115 ∨ c = 119 ∨ c = 120) F A F' A' ∧ (((p < 0 ∨ 7 < p ∨ q < 0 ∨ 7 < q) ∧ z = -1001) ∨ (0 ≤ p ∧ p ≤ 7 ∧ 0 ≤ q ∧ q ≤ 7 ∧ gs_sm (fun y => gs_plm F A p [y]) (fun y => gs_plm F A q [y]) (2 * F 106 0) z))) := by
  refine sC_of ok_X9_same.1 (Nat.le_of_ble_eq_true rfl) ?_
  show sA _ _ _ 0 [(0, .ref 106), (1, gs_iv p), (2, gs_iv q)] [] F A
  have hf : gs_fr (fun c j => c = 106 ∧ (j = 13 ∨ j = 15)) (fun c => c = 114 ∨ c = 115 ∨ c = 119 ∨ c = 120) F A F A := gs_fr_refl _ _ _ _
  have hb0 : (1 : Int) ≤ F 106 0 ∧ F 106 0 ≤ 3 := hI.1 106 0
  refine sA_aload_n dd_X9_same_0 rfl (.head _) ?_
  refine sA_iload_n dd_X9_same_1 rfl (.tail _ (.head _)) ?_
  refine sA_callV (y2 := m_X9_noPlan) (n2 := 1) (d2 := 2) (a := 106) (ci := 9) (q := (RX9, TX9, 28)) (as := [gs_iv p]) (rest := []) dd_X9_same_2 ok_X9_noPlan ml_X9_218 rfl rfl (by decide) gs_s106 rfl rfl (Nat.le_of_ble_eq_true rfl) (by decide) (c_X9_noPlan hI (by omega)) (fun r35 F36 A37 h38 => ?_)
  obtain ⟨z41, e40, e42, e43, x39⟩ := h38
  subst e40 e42 e43
  show sA _ _ _ 5 _ [gs_iv z41] _ _
  refine sA_if_ne (tgt := 16) dd_X9_same_5 (by decide) (by omega) (fun q44 => ?_) (fun q44 => ?_)
  · skip
    refine sA_sipush (z := (-1001)) dd_X9_same_16 (by decide) ?_
    refine sA_iret (z := -1001) dd_X9_same_19 rfl ?_
    refine ⟨_, rfl, hI, hf, ?_⟩
    exact .inl ⟨by omega, rfl⟩
  · skip
    refine sA_aload_n dd_X9_same_8 rfl (.head _) ?_
    refine sA_iload_n dd_X9_same_9 rfl (.tail _ (.tail _ (.head _))) ?_
    refine sA_callV (y2 := m_X9_noPlan) (n2 := 1) (d2 := 2) (a := 106) (ci := 9) (q := (RX9, TX9, 28)) (as := [gs_iv q]) (rest := []) dd_X9_same_10 ok_X9_noPlan ml_X9_218 rfl rfl (by decide) gs_s106 rfl rfl (Nat.le_of_ble_eq_true rfl) (by decide) (c_X9_noPlan hI (by omega)) (fun r45 F46 A47 h48 => ?_)
    obtain ⟨z51, e50, e52, e53, x49⟩ := h48
    subst e50 e52 e53
    show sA _ _ _ 13 _ [gs_iv z51] _ _
    refine sA_if_eq (tgt := 20) dd_X9_same_13 (by decide) (by omega) (fun q54 => ?_) (fun q54 => ?_)
    · skip
      refine sA_aload_n dd_X9_same_20 rfl (.head _) ?_
      refine sA_iload_n dd_X9_same_21 rfl (.tail _ (.head _)) ?_
      have hcd1 := hcdp (by omega) (by omega)
      refine sA_callV (y2 := m_X9_findImages) (n2 := 1) (d2 := 7) (a := 106) (ci := 9) (q := (RX9, TX9, 28)) (as := [gs_iv p]) (rest := []) dd_X9_same_22 ok_X9_findImages ml_X9_242 rfl rfl (by decide) gs_s106 rfl rfl (Nat.le_of_ble_eq_true rfl) (by decide) (c_X9_findImages_vf hI (by omega) hcd1) (fun r55 F56 A57 h58 => ?_)
      obtain ⟨z61, e60, I62, f63, x59⟩ := h58
      subst e60
      have f64 := gs_fr_tr hf f63 (fun b j h => by first | exact False.elim h | omega | (dsimp only at h ⊢; omega) | fail) (fun b h => by first | exact False.elim h | omega | (dsimp only at h ⊢; omega) | fail)
      have y65 : (z61 = 1 ∧ ∀ ii : Nat, (ii : Int) < 2 * F 106 0 → gs_plm F A p [(ii : Int) + 1] = some (gs_im A57 ii)) ∨ (z61 = 0 ∧ ∃ ii : Nat, (ii : Int) < 2 * F 106 0 ∧ gs_plm F A p [(ii : Int) + 1] = none) := x59
      clear x59
      show sA _ _ _ 25 _ [gs_iv z61] _ _
      refine sA_if_ne (tgt := 32) dd_X9_same_25 (by decide) (by omega) (fun q66 => ?_) (fun q66 => ?_)
      · skip
        have hg0e : F56 106 0 = F 106 0 := f64.1 106 0 (by dsimp only; omega)
        have hP3 : ∀ ii : Nat, (ii : Int) < 2 * F 106 0 → gs_plm F A p [(ii : Int) + 1] = some (gs_im A57 ii) := by
          rcases y65 with y | y
          · exact y.2
          · exfalso
            omega
        refine sA_iconst (z := (-1)) dd_X9_same_32 ?_
        refine sA_istore_n (lv' := [(3, gs_iv (-1)), (0, .ref 106), (1, gs_iv p), (2, gs_iv q)]) dd_X9_same_33 rfl (by decide) rfl ?_
        refine sA_iconst (z := 2) dd_X9_same_34 ?_
        refine sA_aload_n dd_X9_same_35 rfl (.tail _ (.head _)) ?_
        refine sA_geti (ci := 9) (j := 0) (q := (RX9, TX9, 28)) dd_X9_same_36 rfl (by decide) fl_X9_64 (by decide) gs_s106 rfl ?_
        have b67 : (1 : Int) ≤ F56 106 0 ∧ F56 106 0 ≤ 3 := I62.1 106 0
        refine sA_imul dd_X9_same_39 ?_
        refine sA_iconst (z := 1) dd_X9_same_40 ?_
        refine sA_isub dd_X9_same_41 ?_
        refine sA_istore (lv' := [(4, gs_iv ((2 * (F56 106 0)) - 1)), (3, gs_iv (-1)), (0, .ref 106), (1, gs_iv p), (2, gs_iv q)]) dd_X9_same_42 (by decide) rfl ?_
        refine sA_sub (lv2 := [(4, gs_iv ((2 * (F56 106 0)) - 1)), (3, gs_iv (-1)), (0, .ref 106), (2, gs_iv q)]) (List.forall_mem_cons.mpr ⟨(.head _), (List.forall_mem_cons.mpr ⟨(.tail _ (.head _)), (List.forall_mem_cons.mpr ⟨(.tail _ (.tail _ (.head _))), (List.forall_mem_cons.mpr ⟨(.tail _ (.tail _ (.tail _ (.tail _ (.head _))))), (fun _ h => absurd h List.not_mem_nil)⟩)⟩)⟩)⟩) ?_
        exact (k_X9_same_vf hI hp hq hcdp hcdq (((2 * (F56 106 0)) - 1) + 1 : Int).toNat.succ) (-1) ((2 * (F56 106 0)) - 1) F56 A57 I62 f64 (by omega) (by omega) (by omega) (by omega) hP3 (gs_sm3_0 (by omega)) (by omega)
      · skip
        refine sA_sipush (z := (-1005)) dd_X9_same_28 (by decide) ?_
        refine sA_iret (z := -1005) dd_X9_same_31 rfl ?_
        refine ⟨_, rfl, I62, f64, ?_⟩
        rcases y65 with y | y
        · exfalso
          omega
        · obtain ⟨y1, ii, hi, y2⟩ := y
          exact .inr ⟨by omega, by omega, by omega, by omega, .inl ⟨⟨(ii : Int) + 1, by omega, by omega, y2⟩, rfl⟩⟩
    · skip
      refine sA_sipush (z := (-1001)) dd_X9_same_16 (by decide) ?_
      refine sA_iret (z := -1001) dd_X9_same_19 rfl ?_
      refine ⟨_, rfl, hI, hf, ?_⟩
      exact .inl ⟨by omega, rfl⟩
theorem k_X8_length_vf {p k : Int} {F A : gs_F} (hI : gs_I F A) (hp : -2147483648 ≤ p ∧ p ≤ 2147483647) (hk : -2147483648 ≤ k ∧ k ≤ 2147483647) (hW : gs_W (A 6) (F 0 11)) (hcd : 0 ≤ p → p ≤ 7 → ∀ i : Int, 0 ≤ i → i < F (90 + 2 * p.toNat) 1 → 0 ≤ A (90 + 2 * p.toNat + 1) i.toNat ∧ A (90 + 2 * p.toNat + 1) i.toNat < 6 * F 0 11 - 2) : ∀ nN : Nat, (∀ (t : Int)  (F1 A1 : gs_F), gs_I F1 A1 → gs_fr (fun c j => (c = 15 ∧ j = 1) ∨ (18 ≤ c ∧ c < 30 ∧ j = 1)) (fun c => c = 7 ∨ (18 ≤ c ∧ c < 30)) F A F1 A1 → 0 ≤ t ∧ t ≤ k → 0 ≤ p ∧ p ≤ 7 → k ≤ 24 → (∀ ii : Nat, (ii : Int) < 2 * F 0 11 → gs_it (gs_plc F A (F 0 11) (90 + 2 * p.toNat)) t.toNat [(ii : Int) + 1] = some (gs_ic F1 A1 ii)) → F1 15 1 = 2 * F 0 11 → (∀ ii : Nat, (ii : Int) < 2 * F 0 11 → sp_val (F 0 11) (gs_ic F1 A1 ii)) → k - t < (nN : Int) → sA m_X8_length 5 (fun rv F' A' => ∃ z : Int, rv = some (gs_iv z) ∧ gs_I F' A' ∧ gs_fr (fun c j => (c = 15 ∧ j = 1) ∨ (18 ≤ c ∧ c < 30 ∧ j = 1)) (fun c => c = 7 ∨ (18 ≤ c ∧ c < 30)) F A F' A' ∧ (((p < 0 ∨ 7 < p) ∧ z = -1001) ∨ (0 ≤ p ∧ p ≤ 7 ∧ (k < 0 ∨ 24 < k) ∧ z = -1002) ∨ (0 ≤ p ∧ p ≤ 7 ∧ 0 ≤ k ∧ k ≤ 24 ∧ gs_ln (gs_plc F A (F 0 11) (90 + 2 * p.toNat)) (2 * F 0 11) k.toNat z))) 38 [(3, gs_iv t), (0, .ref 0), (1, gs_iv p), (2, gs_iv k)] [] F1 A1) := by
  intro nN
  induction nN with
  | zero =>
    exact fun a0 a1 a2 a3 a4 i0 i1 i2 i3 i4 i5 hm => by exfalso; omega
  | succ nN ih =>
    intro t F1 A1 hI1 hf1 i0 i1 i2 i3 i4 i5 hm
    have b1 : (0 : Int) ≤ F1 15 1 ∧ F1 15 1 ≤ 6 := hI1.1 15 1
    have hg : (1 : Int) ≤ F 0 11 ∧ F 0 11 ≤ 3 := hI.1 0 11
    refine sA_iload_n dd_X8_length_38 rfl (.head _) ?_
    refine sA_iload_n dd_X8_length_39 rfl (.tail _ (.tail _ (.tail _ (.head _)))) ?_
    refine sA_icmp_ge (tgt := 69) dd_X8_length_40 (by decide) (by omega) (by omega) (fun q2 => ?_) (fun q2 => ?_)
    · skip
      refine sA_aload_n dd_X8_length_69 rfl (.tail _ (.head _)) ?_
      refine sA_getr (ci := 8) (j := 5) (q := (RX8, TX8, 13)) dd_X8_length_70 rfl (by decide) fl_X8_49 (by decide) gs_s0 rfl ?_
      refine sA_callV (y2 := m_X0_lettersTogether) (n2 := 0) (d2 := 1) (a := 15) (ci := 0) (q := (RX0, TX0, 4)) (as := []) (rest := []) dd_X8_length_73 ok_X0_lettersTogether ml_X8_216 rfl rfl (by decide) gs_s15 rfl rfl (Nat.le_of_ble_eq_true rfl) (by decide) (c_X0_lettersTogether_vf hI1 ) (fun r3 F4 A5 h6 => ?_)
      obtain ⟨z9, e8, e10, e11, x7⟩ := h6
      subst e8 e10 e11
      have y12 : (0 ≤ z9 ∧ z9 ≤ 2400) ∧ z9 = gs_sum (fun i => F1 (18 + 2 * i) 1) (F1 15 1).toNat := x7
      clear x7
      show sA _ _ _ 76 _ [gs_iv z9] _ _
      refine sA_iret (z := z9) dd_X8_length_76 rfl ?_
      refine ⟨_, rfl, hI1, hf1, ?_⟩
      refine .inr (.inr ⟨by omega, by omega, by omega, by omega, .inr ⟨gs_ic F1 A1, ?_, ?_⟩⟩)
      · rw [show k = t by omega]
        exact i3
      · rw [y12.2, show F1 15 1 = 2 * F 0 11 by omega]
        refine gs_sum_cg _ (fun i hi => ?_)
        show F1 (18 + 2 * i) 1 = ((gs_stk (A1 (18 + 2 * i + 1)) (F1 (18 + 2 * i) 1).toNat).length : Int)
        rw [gs_stk_len]
        have hb := gs_row_sz (gs_row_im (k := i) (by omega)) hI1
        omega
    · skip
      refine sA_aload_n dd_X8_length_43 rfl (.tail _ (.head _)) ?_
      refine sA_getr (ci := 8) (j := 5) (q := (RX8, TX8, 13)) dd_X8_length_44 rfl (by decide) fl_X8_49 (by decide) gs_s0 rfl ?_
      refine sA_aload_n dd_X8_length_47 rfl (.tail _ (.head _)) ?_
      refine sA_getr (ci := 8) (j := 1) (q := (RX8, TX8, 13)) dd_X8_length_48 rfl (by decide) fl_X8_17 (by decide) gs_s0 rfl ?_
      refine sA_iload_n dd_X8_length_51 rfl (.tail _ (.tail _ (.head _))) ?_
      refine sA_aald (n := 8) dd_X8_length_52 (by decide) (by decide) (by decide) gs_s2 (by omega) (by decide) ?_
      have g13 := gs_plan_at (k := p.toNat) (by omega)
      have hp1 : A1 (90 + 2 * p.toNat + 1) = A (90 + 2 * p.toNat + 1) := hf1.2 (90 + 2 * p.toNat + 1) (by dsimp only; omega)
      have hpn : F1 (90 + 2 * p.toNat) 1 = F (90 + 2 * p.toNat) 1 := hf1.1 (90 + 2 * p.toNat) 1 (by dsimp only; omega)
      have hW1 : gs_W (A1 6) (F 0 11) := by rw [hf1.2 6 (by dsimp only; omega)]; exact hW
      have hcd1 : ∀ i : Int, 0 ≤ i → i < F1 (90 + 2 * p.toNat) 1 → 0 ≤ A1 (90 + 2 * p.toNat + 1) i.toNat ∧ A1 (90 + 2 * p.toNat + 1) i.toNat < 6 * F 0 11 - 2 := by rw [hp1, hpn]; exact (hcd (by omega) (by omega))
      have hPe : ∀ r, gs_plc F1 A1 (F 0 11) (90 + 2 * p.toNat) r = gs_plc F A (F 0 11) (90 + 2 * p.toNat) r := fun r => by
        unfold gs_plc
        rw [hp1, hpn]
      have hVI1 : ∀ ii : Nat, (ii : Int) < F1 15 1 → sp_val (F 0 11) (gs_ic F1 A1 ii) := fun ii hi => i5 ii (by omega)
      refine sA_callV (y2 := m_X0_doPlan) (n2 := 1) (d2 := 4) (a := 15) (ci := 0) (q := (RX0, TX0, 4)) (as := [.ref (90 + 2 * p.toNat)]) (rest := []) dd_X8_length_53 ok_X0_doPlan ml_X8_196 rfl rfl (by decide) gs_s15 rfl rfl (Nat.le_of_ble_eq_true rfl) (by decide) (c_X0_doPlan_vf hI1 g13 hg hcd1 hW1 hVI1 (by omega)) (fun r14 F15 A16 h17 => ?_)
      obtain ⟨z20, e19, I21, f22, x18⟩ := h17
      subst e19
      have v23 : F15 15 1 = F1 15 1 := f22.1 15 1 (by first | exact id | omega | (dsimp only; omega) | (dsimp only) | fail)
      have f24 := gs_fr_tr hf1 f22 (fun b j h => by first | exact False.elim h | omega | (dsimp only at h ⊢; omega) | fail) (fun b h => by first | exact False.elim h | omega | (dsimp only at h ⊢; omega) | fail)
      have y25 : (z20 = 1 ∧ ∀ ii : Nat, (ii : Int) < F1 15 1 → gs_plc F1 A1 (F 0 11) (90 + 2 * p.toNat) (gs_ic F1 A1 ii) = some (gs_ic F15 A16 ii)) ∨ (z20 = 0 ∧ ∃ ii : Nat, (ii : Int) < F1 15 1 ∧ gs_plc F1 A1 (F 0 11) (90 + 2 * p.toNat) (gs_ic F1 A1 ii) = none) := x18
      clear x18
      show sA _ _ _ 56 _ [gs_iv z20] _ _
      refine sA_if_ne (tgt := 63) dd_X8_length_56 (by decide) (by omega) (fun q26 => ?_) (fun q26 => ?_)
      · skip
        have hst : ∀ ii : Nat, (ii : Int) < 2 * F 0 11 → gs_plc F A (F 0 11) (90 + 2 * p.toNat) (gs_ic F1 A1 ii) = some (gs_ic F15 A16 ii) := by
          rcases y25 with y | y
          · intro ii hi
            have w := y.2 ii (by omega)
            rw [hPe] at w
            exact w
          · exfalso
            omega
        refine sA_iinc (lv' := [(3, gs_iv (t + 1)), (0, .ref 0), (1, gs_iv p), (2, gs_iv k)]) dd_X8_length_63 (.head _) (by decide) rfl ?_
        refine sA_goto (tgt := 38) dd_X8_length_66 (by decide) ?_
        have b27 : (0 : Int) ≤ F15 15 1 ∧ F15 15 1 ≤ 6 := I21.1 15 1
        refine sA_sub (lv2 := [(3, gs_iv (t + 1)), (0, .ref 0), (1, gs_iv p), (2, gs_iv k)]) (List.forall_mem_cons.mpr ⟨(.head _), (List.forall_mem_cons.mpr ⟨(.tail _ (.head _)), (List.forall_mem_cons.mpr ⟨(.tail _ (.tail _ (.head _))), (List.forall_mem_cons.mpr ⟨(.tail _ (.tail _ (.tail _ (.head _)))), (fun _ h => absurd h List.not_mem_nil)⟩)⟩)⟩)⟩) ?_
        exact ih (t + 1) F15 A16 I21 f24 (by omega) (by omega) (by omega) (by rw [show (t + 1).toNat = t.toNat + 1 by omega]; exact gs_it_step i3 hst) (by omega) (fun ii hi => gs_plc_val hg (hcd (by omega) (by omega)) (i5 ii hi) (hst ii hi)) (by omega)
      · skip
        refine sA_sipush (z := (-1005)) dd_X8_length_59 (by decide) ?_
        refine sA_iret (z := -1005) dd_X8_length_62 rfl ?_
        refine ⟨_, rfl, I21, f24, ?_⟩
        rcases y25 with y | y
        · exfalso
          omega
        · obtain ⟨y1, ii, hi, y2⟩ := y
          rw [hPe] at y2
          exact .inr (.inr ⟨by omega, by omega, by omega, by omega, .inl ⟨gs_it_large (by omega) i3 ⟨ii, by omega, y2⟩, rfl⟩⟩)
theorem c_X8_length_vf {p k : Int} {F A : gs_F} (hI : gs_I F A) (hp : -2147483648 ≤ p ∧ p ≤ 2147483647) (hk : -2147483648 ≤ k ∧ k ≤ 2147483647) (hW : gs_W (A 6) (F 0 11)) (hcd : 0 ≤ p → p ≤ 7 → ∀ i : Int, 0 ≤ i → i < F (90 + 2 * p.toNat) 1 → 0 ≤ A (90 + 2 * p.toNat + 1) i.toNat ∧ A (90 + 2 * p.toNat + 1) i.toNat < 6 * F 0 11 - 2) : sC m_X8_length 5 [.ref 0, gs_iv p, gs_iv k] F A (fun rv F' A' => ∃ z : Int, rv = some (gs_iv z) ∧ gs_I F' A' ∧ gs_fr (fun c j => (c = 15 ∧ j = 1) ∨ (18 ≤ c ∧ c < 30 ∧ j = 1)) (fun c => c = 7 ∨ (18 ≤ c ∧ c < 30)) F A F' A' ∧ (((p < 0 ∨ 7 < p) ∧ z = -1001) ∨ (0 ≤ p ∧ p ≤ 7 ∧ (k < 0 ∨ 24 < k) ∧ z = -1002) ∨ (0 ≤ p ∧ p ≤ 7 ∧ 0 ≤ k ∧ k ≤ 24 ∧ gs_ln (gs_plc F A (F 0 11) (90 + 2 * p.toNat)) (2 * F 0 11) k.toNat z))) := by
  refine sC_of ok_X8_length.1 (Nat.le_of_ble_eq_true rfl) ?_
  show sA _ _ _ 0 [(0, .ref 0), (1, gs_iv p), (2, gs_iv k)] [] F A
  have hf : gs_fr (fun c j => (c = 15 ∧ j = 1) ∨ (18 ≤ c ∧ c < 30 ∧ j = 1)) (fun c => c = 7 ∨ (18 ≤ c ∧ c < 30)) F A F A := gs_fr_refl _ _ _ _
  have b28 : (0 : Int) ≤ F 15 1 ∧ F 15 1 ≤ 6 := hI.1 15 1
  have hg : (1 : Int) ≤ F 0 11 ∧ F 0 11 ≤ 3 := hI.1 0 11
  refine sA_iload_n dd_X8_length_0 rfl (.tail _ (.head _)) ?_
  refine sA_callS (y2 := m_X8_isPlan) (n2 := 1) (d2 := 1) (as := [gs_iv p]) (rest := []) dd_X8_length_1 ok_X8_isPlan ml_X8_148 rfl rfl (Nat.le_of_ble_eq_true rfl) (by decide) (c_X8_isPlan (by omega)) (fun r29 F30 A31 h32 => ?_)
  obtain ⟨z35, e34, e36, e37, x33⟩ := h32
  subst e34 e36 e37
  show sA _ _ _ 4 _ [gs_iv z35] _ _
  refine sA_if_ne (tgt := 11) dd_X8_length_4 (by decide) (by omega) (fun q38 => ?_) (fun q38 => ?_)
  · skip
    refine sA_iload_n dd_X8_length_11 rfl (.tail _ (.tail _ (.head _))) ?_
    refine sA_if_lt (tgt := 21) dd_X8_length_12 (by decide) (by omega) (fun q39 => ?_) (fun q39 => ?_)
    · skip
      refine sA_sipush (z := (-1002)) dd_X8_length_21 (by decide) ?_
      refine sA_iret (z := -1002) dd_X8_length_24 rfl ?_
      refine ⟨_, rfl, hI, hf, ?_⟩
      exact .inr (.inl ⟨by omega, by omega, by omega, rfl⟩)
    · skip
      refine sA_iload_n dd_X8_length_15 rfl (.tail _ (.tail _ (.head _))) ?_
      refine sA_bipush (z := 24) dd_X8_length_16 (by decide) ?_
      refine sA_icmp_le (tgt := 25) dd_X8_length_18 (by decide) (by omega) (by omega) (fun q40 => ?_) (fun q40 => ?_)
      · skip
        refine sA_aload_n dd_X8_length_25 rfl (.head _) ?_
        refine sA_getr (ci := 8) (j := 5) (q := (RX8, TX8, 13)) dd_X8_length_26 rfl (by decide) fl_X8_49 (by decide) gs_s0 rfl ?_
        refine sA_aload_n dd_X8_length_29 rfl (.head _) ?_
        refine sA_geti (ci := 8) (j := 11) (q := (RX8, TX8, 13)) dd_X8_length_30 rfl (by decide) fl_X8_84 (by decide) gs_s0 rfl ?_
        have b41 : (1 : Int) ≤ F 0 11 ∧ F 0 11 ≤ 3 := hI.1 0 11
        refine sA_callV (y2 := m_X0_begin) (n2 := 1) (d2 := 2) (a := 15) (ci := 0) (q := (RX0, TX0, 4)) (as := [gs_iv (F 0 11)]) (rest := []) dd_X8_length_33 ok_X0_begin ml_X8_193 rfl rfl (by decide) gs_s15 rfl rfl (Nat.le_of_ble_eq_true rfl) (by decide) (c_X0_begin_vf hI (by omega)) (fun r42 F43 A44 h45 => ?_)
        obtain ⟨e47, I48, f49, x46⟩ := h45
        subst e47
        have f51 := gs_fr_tr hf f49 (fun b j h => by first | exact False.elim h | omega | (dsimp only at h ⊢; omega) | fail) (fun b h => by first | exact False.elim h | omega | (dsimp only at h ⊢; omega) | fail)
        have y52 : F43 15 1 = 2 * (F 0 11) ∧ ∀ ii : Nat, (ii : Int) < 2 * (F 0 11) → gs_ic F43 A44 ii = [(ii : Int) + 1] := x46
        clear x46
        show sA _ _ _ 36 _ [] _ _
        have y33a := y52.1
        refine sA_iconst (z := 0) dd_X8_length_36 ?_
        refine sA_istore_n (lv' := [(3, gs_iv 0), (0, .ref 0), (1, gs_iv p), (2, gs_iv k)]) dd_X8_length_37 rfl (by decide) rfl ?_
        have b53 : (0 : Int) ≤ F43 15 1 ∧ F43 15 1 ≤ 6 := I48.1 15 1
        refine sA_sub (lv2 := [(3, gs_iv 0), (0, .ref 0), (1, gs_iv p), (2, gs_iv k)]) (List.forall_mem_cons.mpr ⟨(.head _), (List.forall_mem_cons.mpr ⟨(.tail _ (.head _)), (List.forall_mem_cons.mpr ⟨(.tail _ (.tail _ (.head _))), (List.forall_mem_cons.mpr ⟨(.tail _ (.tail _ (.tail _ (.head _)))), (fun _ h => absurd h List.not_mem_nil)⟩)⟩)⟩)⟩) ?_
        exact (k_X8_length_vf hI hp hk hW hcd (k - 0 : Int).toNat.succ) 0 F43 A44 I48 f51 (by omega) (by omega) (by omega) (fun ii hi => by rw [y52.2 ii (by omega)]; rfl) (by omega) (fun ii hi => by rw [y52.2 ii (by omega)]; exact gs_val1 (by omega)) (by omega)
      · skip
        refine sA_sipush (z := (-1002)) dd_X8_length_21 (by decide) ?_
        refine sA_iret (z := -1002) dd_X8_length_24 rfl ?_
        refine ⟨_, rfl, hI, hf, ?_⟩
        exact .inr (.inl ⟨by omega, by omega, by omega, rfl⟩)
  · skip
    refine sA_sipush (z := (-1001)) dd_X8_length_7 (by decide) ?_
    refine sA_iret (z := -1001) dd_X8_length_10 rfl ?_
    refine ⟨_, rfl, hI, hf, ?_⟩
    exact .inl ⟨by omega, rfl⟩
theorem k_X9_length_vf {p k : Int} {F A : gs_F} (hI : gs_I F A) (hp : -2147483648 ≤ p ∧ p ≤ 2147483647) (hk : -2147483648 ≤ k ∧ k ≤ 2147483647) (hcd : 0 ≤ p → p ≤ 7 → ∀ i : Int, 0 ≤ i → i < A 110 p.toNat → 0 ≤ A 111 (60 * p + i).toNat ∧ A 111 (60 * p + i).toNat ≤ 15) : ∀ nN : Nat, (∀ (n : Int)  (F1 A1 : gs_F), gs_I F1 A1 → gs_fr (fun c j => c = 106 ∧ (j = 13 ∨ j = 15)) (fun c => c = 114 ∨ c = 115 ∨ c = 119 ∨ c = 120) F A F1 A1 → 0 ≤ p ∧ p ≤ 7 → 0 ≤ n ∧ n ≤ k → k ≤ 24 → (∀ ii : Nat, (ii : Int) < 2 * F 106 0 → gs_it (gs_plm F A p) n.toNat [(ii : Int) + 1] = some (gs_im A1 ii)) → k - n < (nN : Int) → sA m_X9_length 8 (fun rv F' A' => ∃ z : Int, rv = some (gs_iv z) ∧ gs_I F' A' ∧ gs_fr (fun c j => c = 106 ∧ (j = 13 ∨ j = 15)) (fun c => c = 114 ∨ c = 115 ∨ c = 119 ∨ c = 120) F A F' A' ∧ (((p < 0 ∨ 7 < p) ∧ z = -1001) ∨ (0 ≤ p ∧ p ≤ 7 ∧ (k < 0 ∨ 24 < k) ∧ z = -1002) ∨ (0 ≤ p ∧ p ≤ 7 ∧ 0 ≤ k ∧ k ≤ 24 ∧ gs_ln (gs_plm F A p) (2 * F 106 0) k.toNat z))) 34 [(3, gs_iv n), (0, .ref 106), (1, gs_iv p), (2, gs_iv k)] [] F1 A1) := by
  intro nN
  induction nN with
  | zero =>
    exact fun a0 a1 a2 a3 a4 i0 i1 i2 i3 hm => by exfalso; omega
  | succ nN ih =>
    intro n F1 A1 hI1 hf1 i0 i1 i2 i3 hm
    refine sA_iload_n dd_X9_length_34 rfl (.head _) ?_
    refine sA_iload_n dd_X9_length_35 rfl (.tail _ (.tail _ (.tail _ (.head _)))) ?_
    refine sA_icmp_ge (tgt := 57) dd_X9_length_36 (by decide) (by omega) (by omega) (fun q1 => ?_) (fun q1 => ?_)
    · skip
      have hg0 : F1 106 0 = F 106 0 := hf1.1 106 0 (by dsimp only; omega)
      refine sA_aload_n dd_X9_length_57 rfl (.tail _ (.head _)) ?_
      refine sA_callV (y2 := m_X9_lengthNow) (n2 := 0) (d2 := 1) (a := 106) (ci := 9) (q := (RX9, TX9, 28)) (as := []) (rest := []) dd_X9_length_58 ok_X9_lengthNow ml_X9_281 rfl rfl (by decide) gs_s106 rfl rfl (Nat.le_of_ble_eq_true rfl) (by decide) (c_X9_lengthNow_vf hI1 ) (fun r2 F3 A4 h5 => ?_)
      obtain ⟨z8, e7, e9, e10, x6⟩ := h5
      subst e7 e9 e10
      have y11 : (0 ≤ z8 ∧ z8 ≤ 2400) ∧ z8 = gs_sum (A1 120) (2 * F1 106 0).toNat := x6
      clear x6
      show sA _ _ _ 61 _ [gs_iv z8] _ _
      refine sA_iret (z := z8) dd_X9_length_61 rfl ?_
      refine ⟨_, rfl, hI1, hf1, ?_⟩
      refine .inr (.inr ⟨by omega, by omega, by omega, by omega, .inr ⟨gs_im A1, ?_, ?_⟩⟩)
      · rw [show k = n by omega]
        exact i3
      · rw [y11.2, hg0]
        refine gs_sum_cg _ (fun i hi => ?_)
        show A1 120 i = ((gs_stk (fun j => A1 119 (400 * i + j)) (A1 120 i).toNat).length : Int)
        rw [gs_stk_len]
        have hb : (0 : Int) ≤ A1 120 i ∧ A1 120 i ≤ 400 := hI1.2 120 i
        omega
    · skip
      refine sA_aload_n dd_X9_length_39 rfl (.tail _ (.head _)) ?_
      refine sA_iload_n dd_X9_length_40 rfl (.tail _ (.tail _ (.head _))) ?_
      have h110 : A1 110 = A 110 := hf1.2 110 (by dsimp only; omega)
      have h111 : A1 111 = A 111 := hf1.2 111 (by dsimp only; omega)
      have hg0 : F1 106 0 = F 106 0 := hf1.1 106 0 (by dsimp only; omega)
      have hcd1 : ∀ i : Int, 0 ≤ i → i < A1 110 p.toNat → 0 ≤ A1 111 (60 * p + i).toNat ∧ A1 111 (60 * p + i).toNat ≤ 15 := by rw [h110, h111]; exact (hcd (by omega) (by omega))
      have hPe : ∀ r, gs_plm F1 A1 p r = gs_plm F A p r := fun r => by
        unfold gs_plm
        rw [h110, h111, hg0]
      refine sA_callV (y2 := m_X9_goOn) (n2 := 1) (d2 := 6) (a := 106) (ci := 9) (q := (RX9, TX9, 28)) (as := [gs_iv p]) (rest := []) dd_X9_length_41 ok_X9_goOn ml_X9_239 rfl rfl (by decide) gs_s106 rfl rfl (Nat.le_of_ble_eq_true rfl) (by decide) (c_X9_goOn_vf hI1 (by omega) hcd1) (fun r12 F13 A14 h15 => ?_)
      obtain ⟨z18, e17, I19, f20, x16⟩ := h15
      subst e17
      have f21 := gs_fr_tr hf1 f20 (fun b j h => by first | exact False.elim h | omega | (dsimp only at h ⊢; omega) | fail) (fun b h => by first | exact False.elim h | omega | (dsimp only at h ⊢; omega) | fail)
      have y22 : (z18 = 1 ∧ ∀ ii : Nat, (ii : Int) < 2 * F1 106 0 → gs_plm F1 A1 p (gs_im A1 ii) = some (gs_im A14 ii)) ∨ (z18 = 0 ∧ ∃ ii : Nat, (ii : Int) < 2 * F1 106 0 ∧ gs_plm F1 A1 p (gs_im A1 ii) = none) := x16
      clear x16
      show sA _ _ _ 44 _ [gs_iv z18] _ _
      refine sA_if_ne (tgt := 51) dd_X9_length_44 (by decide) (by omega) (fun q23 => ?_) (fun q23 => ?_)
      · skip
        have hst : ∀ ii : Nat, (ii : Int) < 2 * F 106 0 → gs_plm F A p (gs_im A1 ii) = some (gs_im A14 ii) := by
          rcases y22 with y | y
          · intro ii hi
            have w := y.2 ii (by omega)
            rw [hPe] at w
            exact w
          · exfalso
            omega
        refine sA_iinc (lv' := [(3, gs_iv (n + 1)), (0, .ref 106), (1, gs_iv p), (2, gs_iv k)]) dd_X9_length_51 (.head _) (by decide) rfl ?_
        refine sA_goto (tgt := 34) dd_X9_length_54 (by decide) ?_
        refine sA_sub (lv2 := [(3, gs_iv (n + 1)), (0, .ref 106), (1, gs_iv p), (2, gs_iv k)]) (List.forall_mem_cons.mpr ⟨(.head _), (List.forall_mem_cons.mpr ⟨(.tail _ (.head _)), (List.forall_mem_cons.mpr ⟨(.tail _ (.tail _ (.head _))), (List.forall_mem_cons.mpr ⟨(.tail _ (.tail _ (.tail _ (.head _)))), (fun _ h => absurd h List.not_mem_nil)⟩)⟩)⟩)⟩) ?_
        exact ih (n + 1) F13 A14 I19 f21 (by omega) (by omega) (by omega) (by rw [show (n + 1).toNat = n.toNat + 1 by omega]; exact gs_it_step i3 hst) (by omega)
      · skip
        refine sA_sipush (z := (-1005)) dd_X9_length_47 (by decide) ?_
        refine sA_iret (z := -1005) dd_X9_length_50 rfl ?_
        refine ⟨_, rfl, I19, f21, ?_⟩
        rcases y22 with y | y
        · exfalso
          omega
        · obtain ⟨y1, ii, hi, y2⟩ := y
          rw [hPe] at y2
          exact .inr (.inr ⟨by omega, by omega, by omega, by omega, .inl ⟨gs_it_large (by omega) i3 ⟨ii, by omega, y2⟩, rfl⟩⟩)
theorem c_X9_length_vf {p k : Int} {F A : gs_F} (hI : gs_I F A) (hp : -2147483648 ≤ p ∧ p ≤ 2147483647) (hk : -2147483648 ≤ k ∧ k ≤ 2147483647) (hcd : 0 ≤ p → p ≤ 7 → ∀ i : Int, 0 ≤ i → i < A 110 p.toNat → 0 ≤ A 111 (60 * p + i).toNat ∧ A 111 (60 * p + i).toNat ≤ 15) : sC m_X9_length 8 [.ref 106, gs_iv p, gs_iv k] F A (fun rv F' A' => ∃ z : Int, rv = some (gs_iv z) ∧ gs_I F' A' ∧ gs_fr (fun c j => c = 106 ∧ (j = 13 ∨ j = 15)) (fun c => c = 114 ∨ c = 115 ∨ c = 119 ∨ c = 120) F A F' A' ∧ (((p < 0 ∨ 7 < p) ∧ z = -1001) ∨ (0 ≤ p ∧ p ≤ 7 ∧ (k < 0 ∨ 24 < k) ∧ z = -1002) ∨ (0 ≤ p ∧ p ≤ 7 ∧ 0 ≤ k ∧ k ≤ 24 ∧ gs_ln (gs_plm F A p) (2 * F 106 0) k.toNat z))) := by
  refine sC_of ok_X9_length.1 (Nat.le_of_ble_eq_true rfl) ?_
  show sA _ _ _ 0 [(0, .ref 106), (1, gs_iv p), (2, gs_iv k)] [] F A
  have hf : gs_fr (fun c j => c = 106 ∧ (j = 13 ∨ j = 15)) (fun c => c = 114 ∨ c = 115 ∨ c = 119 ∨ c = 120) F A F A := gs_fr_refl _ _ _ _
  refine sA_aload_n dd_X9_length_0 rfl (.head _) ?_
  refine sA_iload_n dd_X9_length_1 rfl (.tail _ (.head _)) ?_
  refine sA_callV (y2 := m_X9_noPlan) (n2 := 1) (d2 := 2) (a := 106) (ci := 9) (q := (RX9, TX9, 28)) (as := [gs_iv p]) (rest := []) dd_X9_length_2 ok_X9_noPlan ml_X9_218 rfl rfl (by decide) gs_s106 rfl rfl (Nat.le_of_ble_eq_true rfl) (by decide) (c_X9_noPlan hI (by omega)) (fun r24 F25 A26 h27 => ?_)
  obtain ⟨z30, e29, e31, e32, x28⟩ := h27
  subst e29 e31 e32
  show sA _ _ _ 5 _ [gs_iv z30] _ _
  refine sA_if_eq (tgt := 12) dd_X9_length_5 (by decide) (by omega) (fun q33 => ?_) (fun q33 => ?_)
  · skip
    refine sA_iload_n dd_X9_length_12 rfl (.tail _ (.tail _ (.head _))) ?_
    refine sA_i2l dd_X9_length_13 (by omega) ?_
    refine sA_lconst (z := 0) dd_X9_length_14 (by decide) ?_
    refine sA_ldc2 (z := 24) dd_X9_length_15 (ri_lw_in (pl := 1128) (by decide +kernel)) ?_
    refine sA_callS (y2 := m_X9_in) (n2 := 3) (d2 := 1) (as := [gs_lv k, gs_lv 0, gs_lv 24]) (rest := []) dd_X9_length_18 ok_X9_in ml_X9_75 rfl rfl (Nat.le_of_ble_eq_true rfl) (by decide) (c_X9_in (by omega) (by omega) (by omega)) (fun r34 F35 A36 h37 => ?_)
    obtain ⟨z40, e39, e41, e42, x38⟩ := h37
    subst e39 e41 e42
    show sA _ _ _ 21 _ [gs_iv z40] _ _
    refine sA_if_ne (tgt := 28) dd_X9_length_21 (by decide) (by omega) (fun q43 => ?_) (fun q43 => ?_)
    · skip
      refine sA_aload_n dd_X9_length_28 rfl (.head _) ?_
      refine sA_callV (y2 := m_X9_startImages) (n2 := 0) (d2 := 1) (a := 106) (ci := 9) (q := (RX9, TX9, 28)) (as := []) (rest := []) dd_X9_length_29 ok_X9_startImages ml_X9_236 rfl rfl (by decide) gs_s106 rfl rfl (Nat.le_of_ble_eq_true rfl) (by decide) (c_X9_startImages_vf hI ) (fun r44 F45 A46 h47 => ?_)
      obtain ⟨e49, I50, f51, x48⟩ := h47
      subst e49
      have f52 := gs_fr_tr hf f51 (fun b j h => by first | exact False.elim h | omega | (dsimp only at h ⊢; omega) | fail) (fun b h => by first | exact False.elim h | omega | (dsimp only at h ⊢; omega) | fail)
      have y53 : ∀ ii : Nat, (ii : Int) < 2 * F 106 0 → gs_im A46 ii = [(ii : Int) + 1] := x48
      clear x48
      show sA _ _ _ 32 _ [] _ _
      refine sA_iconst (z := 0) dd_X9_length_32 ?_
      refine sA_istore_n (lv' := [(3, gs_iv 0), (0, .ref 106), (1, gs_iv p), (2, gs_iv k)]) dd_X9_length_33 rfl (by decide) rfl ?_
      refine sA_sub (lv2 := [(3, gs_iv 0), (0, .ref 106), (1, gs_iv p), (2, gs_iv k)]) (List.forall_mem_cons.mpr ⟨(.head _), (List.forall_mem_cons.mpr ⟨(.tail _ (.head _)), (List.forall_mem_cons.mpr ⟨(.tail _ (.tail _ (.head _))), (List.forall_mem_cons.mpr ⟨(.tail _ (.tail _ (.tail _ (.head _)))), (fun _ h => absurd h List.not_mem_nil)⟩)⟩)⟩)⟩) ?_
      exact (k_X9_length_vf hI hp hk hcd (k - 0 : Int).toNat.succ) 0 F45 A46 I50 f52 (by omega) (by omega) (by omega) (fun ii hi => by rw [y53 ii (by omega)]; rfl) (by omega)
    · skip
      refine sA_sipush (z := (-1002)) dd_X9_length_24 (by decide) ?_
      refine sA_iret (z := -1002) dd_X9_length_27 rfl ?_
      refine ⟨_, rfl, hI, hf, ?_⟩
      exact .inr (.inl ⟨by omega, by omega, by omega, rfl⟩)
  · skip
    refine sA_sipush (z := (-1001)) dd_X9_length_8 (by decide) ?_
    refine sA_iret (z := -1001) dd_X9_length_11 rfl ?_
    refine ⟨_, rfl, hI, hf, ?_⟩
    exact .inl ⟨by omega, rfl⟩
end
