noncomputable section
/-! ===== images of all letters ===== -/
def gs_ic (F A : gs_F) (k : Nat) : List Int := gs_stk (A (18 + 2 * k + 1)) (F (18 + 2 * k) 1).toNat
def gs_im (A : gs_F) (k : Nat) : List Int := gs_stk (fun i => A 119 (400 * k + i)) (A 120 k).toNat
def gs_plc (F A : gs_F) (g : Int) (b : Nat) (r : List Int) : Option (List Int) := sp_pl (fun u => sp_tw (sp_w g u)) (A (b + 1)) (F b 1).toNat r
def gs_plm (F A : gs_F) (p : Int) (r : List Int) : Option (List Int) := sp_pl (fun u => sp_tw (sp_m (F 106 0) u)) (fun i => A 111 (60 * p.toNat + i)) (A 110 p.toNat).toNat r
def gs_sum (f : Nat → Int) : Nat → Int
  | 0 => 0
  | n + 1 => gs_sum f n + f n
theorem gs_sum_cg {f h : Nat → Int} : ∀ n : Nat, (∀ i : Nat, i < n → f i = h i) → gs_sum f n = gs_sum h n
  | 0, _ => rfl
  | n + 1, e => by
    show gs_sum f n + f n = gs_sum h n + h n
    rw [gs_sum_cg n (fun i hi => e i (by omega)), e n (by omega)]
theorem gs_ic_fr {F A F2 A2 : gs_F} {k : Nat} (hk : k < 6) (hF : ∀ c, 18 ≤ c → c < 30 → F2 c 1 = F c 1) (hA : ∀ c, 18 ≤ c → c < 30 → A2 c = A c) : gs_ic F2 A2 k = gs_ic F A k := by
  unfold gs_ic
  rw [hF _ (by omega) (by omega), hA _ (by omega) (by omega)]
theorem gs_im_cg {A A2 : gs_F} (e9 : A2 119 = A 119) (e0 : A2 120 = A 120) (k : Nat) : gs_im A2 k = gs_im A k := by
  unfold gs_im
  rw [e9, e0]
theorem gs_val1 {g x : Int} (h : 1 ≤ x ∧ x ≤ 2 * g) : sp_val g [x] := by
  intro y hy
  rw [List.mem_singleton] at hy
  omega
theorem sp_pl_val {g : Int} (hg : 1 ≤ g ∧ g ≤ 3) {c : Nat → Int} : ∀ (n : Nat) (r r2 : List Int), (∀ i : Nat, i < n → 0 ≤ c i ∧ c i < 6 * g - 2) → sp_val g r → sp_pl (fun u => sp_tw (sp_w g u)) c n r = some r2 → sp_val g r2
  | 0, r, r2, _, hv, e => by
    have e : some r = some r2 := e
    injection e with e
    rw [← e]
    exact hv
  | n + 1, r, r2, hc, hv, e => by
    have e : (if 400 < (sp_tw (sp_w g (c n)) r).length then none else sp_pl (fun u => sp_tw (sp_w g u)) c n (sp_tw (sp_w g (c n)) r)) = some r2 := e
    split at e
    · cases e
    · exact sp_pl_val hg n _ r2 (fun i hi => hc i (by omega)) (sp_tw_val hg (hc n (by omega)) r hv) e
theorem gs_plc_val {F A : gs_F} {g : Int} {b : Nat} {r r2 : List Int} (hg : 1 ≤ g ∧ g ≤ 3) (hcd : ∀ i : Int, 0 ≤ i → i < F b 1 → 0 ≤ A (b + 1) i.toNat ∧ A (b + 1) i.toNat < 6 * g - 2) (hv : sp_val g r) (e : gs_plc F A g b r = some r2) : sp_val g r2 :=
  sp_pl_val hg _ _ _ (fun i hi => by
    have w := hcd i (by omega) (by omega)
    rw [Int.toNat_natCast] at w
    exact w) hv e
theorem gs_beg_ext {F A F2 A2 : gs_F} {x : Int} (hx : 1 ≤ x) (old : ∀ k : Nat, (k : Int) + 1 < x → gs_ic F A k = [(k : Int) + 1])
    (y1 : F2 (18 + 2 * (x - 1).toNat) 1 = 1) (y2 : A2 (18 + 2 * (x - 1).toNat + 1) = gs_u (A (18 + 2 * (x - 1).toNat + 1)) 0 x)
    (hF : ∀ c, c ≠ 18 + 2 * (x - 1).toNat → F2 c 1 = F c 1) (hA : ∀ c, c ≠ 18 + 2 * (x - 1).toNat + 1 → A2 c = A c) : ∀ k : Nat, (k : Int) + 1 < x + 1 → gs_ic F2 A2 k = [(k : Int) + 1] := by
  intro k hk
  by_cases q : k = (x - 1).toNat
  · subst q
    unfold gs_ic
    rw [y1, y2]
    show [gs_u (A (18 + 2 * (x - 1).toNat + 1)) 0 x 0] = _
    rw [gs_u_self, show (((x - 1).toNat : Nat) : Int) + 1 = x by omega]
  · have e := old k (by omega)
    unfold gs_ic at e ⊢
    rw [hF _ (by omega), hA _ (by omega)]
    exact e
theorem gs_idp_ext {F A F1 A1 F2 A2 : gs_F} {PL : List Int → Option (List Int)} {n k : Int} (hk : 0 ≤ k) (hkn : k < n) (hA0 : ∀ i : Nat, (i : Int) < k → PL (gs_ic F A i) = some (gs_ic F1 A1 i)) (hB0 : ∀ i : Nat, k ≤ (i : Int) → (i : Int) < n → gs_ic F1 A1 i = gs_ic F A i)
    (y : PL (gs_ic F1 A1 k.toNat) = some (gs_ic F2 A2 k.toNat)) (hF : ∀ c, c ≠ 18 + 2 * k.toNat → F2 c 1 = F1 c 1) (hA : ∀ c, c ≠ 7 → c ≠ 18 + 2 * k.toNat + 1 → A2 c = A1 c) :
    (∀ i : Nat, (i : Int) < k + 1 → PL (gs_ic F A i) = some (gs_ic F2 A2 i)) ∧ (∀ i : Nat, k + 1 ≤ (i : Int) → (i : Int) < n → gs_ic F2 A2 i = gs_ic F A i) := by
  have key : ∀ i : Nat, (i : Int) ≠ k → gs_ic F2 A2 i = gs_ic F1 A1 i := fun i hi => by
    unfold gs_ic
    rw [hF _ (by omega), hA _ (by omega) (by omega)]
  refine ⟨fun i hi => ?_, fun i h1 h2 => ?_⟩
  · by_cases q : (i : Int) = k
    · have e : i = k.toNat := by omega
      rw [e, ← hB0 k.toNat (by omega) (by omega)]
      exact y
    · rw [key i q]
      exact hA0 i (by omega)
  · rw [key i (by omega)]
    exact hB0 i (by omega) h2
theorem gs_sti_ext {A A2 : gs_F} {x : Int} (hx : 0 ≤ x) (old : ∀ k : Nat, (k : Int) < x → gs_im A k = [(k : Int) + 1]) (e0 : A2 120 = gs_u (A 120) x.toNat 1) (e9 : A2 119 = gs_u (A 119) (400 * x).toNat (x + 1)) : ∀ k : Nat, (k : Int) < x + 1 → gs_im A2 k = [(k : Int) + 1] := by
  intro k hk
  by_cases q : k = x.toNat
  · subst q
    unfold gs_im
    rw [e0, gs_u_self]
    show [A2 119 (400 * x.toNat + 0)] = _
    rw [e9, show 400 * x.toNat + 0 = (400 * x).toNat by omega, gs_u_self, show ((x.toNat : Nat) : Int) + 1 = x + 1 by omega]
  · have e := old k (by omega)
    have hl : (A 120 k).toNat = 1 := by
      have h := congrArg List.length e
      unfold gs_im at h
      rw [gs_stk_len] at h
      exact h
    unfold gs_im at e ⊢
    rw [e0, gs_u_ne _ _ q, ← e]
    refine gs_stk_cg _ (fun i hi => ?_)
    show A2 119 (400 * k + i) = A 119 (400 * k + i)
    rw [e9, gs_u_ne _ _ (by omega)]
theorem gs_im_fr {A A2 : gs_F} {x : Int} (hx : 0 ≤ x) (hb : ∀ j : Nat, A 120 j ≤ 400) (e0 : ∀ j : Nat, (j : Int) ≠ x → A2 120 j = A 120 j) (e9 : ∀ i : Int, 0 ≤ i → (i < 400 * x ∨ 400 * x + 400 ≤ i) → A2 119 i.toNat = A 119 i.toNat) (k : Nat) (hk : (k : Int) ≠ x) : gs_im A2 k = gs_im A k := by
  unfold gs_im
  rw [e0 k hk]
  refine gs_stk_cg _ (fun i hi => ?_)
  show A2 119 (400 * k + i) = A 119 (400 * k + i)
  have h := hb k
  have w := e9 (400 * (k : Int) + i) (by omega) (by omega)
  rw [show (400 * (k : Int) + (i : Int)).toNat = 400 * k + i by omega] at w
  exact w
theorem gs_im_row {A : gs_F} {x k n : Int} (hx : 0 ≤ x) (hk : n ≤ k) (e : A 120 x.toNat = n) (h : ∀ j : Int, 0 ≤ j → j < k → A 119 (400 * x + j).toNat = A 114 j.toNat) : gs_im A x.toNat = gs_stk (A 114) n.toNat := by
  unfold gs_im
  rw [e]
  refine gs_stk_cg _ (fun i hi => ?_)
  show A 119 (400 * x.toNat + i) = A 114 i
  have w := h i (by omega) (by omega)
  rw [show (400 * x + (i : Int)).toNat = 400 * x.toNat + i by omega, Int.toNat_natCast] at w
  exact w
theorem gs_im_inj {f : Nat → Int} {n : Int} {A : gs_F} {x : Int} (hx : 0 ≤ x) (hn : 0 ≤ n) (h0 : 0 ≤ A 120 x.toNat) (e : gs_stk f n.toNat = gs_im A x.toNat) : n = A 120 x.toNat ∧ ∀ j : Int, 0 ≤ j → j < n → f j.toNat = A 119 (400 * x + j).toNat := by
  obtain ⟨e1, e2⟩ := gs_stk_inj _ _ e
  refine ⟨by omega, fun j h1 h2 => ?_⟩
  have w := e2 j.toNat (by omega)
  rw [w]
  show A 119 (400 * x.toNat + j.toNat) = _
  congr 1
  omega
theorem gs_some {P : Int → Option (List Int)} {n : Int} {im : Nat → List Int} (h : ∀ ii : Nat, (ii : Int) < n → P ((ii : Int) + 1) = some (im ii)) : ∀ y : Int, 1 ≤ y → y ≤ n → P y = some (im (y - 1).toNat) := by
  intro y h1 h2
  have w := h (y - 1).toNat (by omega)
  rw [show (((y - 1).toNat : Nat) : Int) + 1 = y by omega] at w
  exact w
theorem k_X4_isLike_vf {a L b M : Nat} {F A : gs_F} (hI : gs_I F A) (hr : gs_row a L) (ho : gs_row b M) : ∀ nN : Nat, (∀ (k : Int),  0 ≤ k → k ≤ F a 1 → F a 1 = F b 1 → (∀ j : Int, 0 ≤ j → j < k → A (a + 1) j.toNat = A (b + 1) j.toNat) → F a 1 - k < (nN : Int) → sA m_X4_isLike 1 (fun rv F' A' => ∃ z : Int, rv = some (gs_iv z) ∧ F = F' ∧ A = A' ∧ ((z = 1 ∧ gs_stk (A (a + 1)) (F a 1).toNat = gs_stk (A (b + 1)) (F b 1).toNat) ∨ (z = 0 ∧ ¬ gs_stk (A (a + 1)) (F a 1).toNat = gs_stk (A (b + 1)) (F b 1).toNat))) 15 [(2, gs_iv k), (0, .ref a), (1, .ref b)] [] F A) := by
  intro nN
  induction nN with
  | zero =>
    exact fun a0 i0 i1 i2 i3 hm => by exfalso; omega
  | succ nN ih =>
    intro k i0 i1 i2 i3 hm
    have b1 := gs_row_sz hr hI
    have b2 := gs_row_sz ho hI
    refine sA_iload_n dd_X4_isLike_15 rfl (.head _) ?_
    refine sA_aload_n dd_X4_isLike_16 rfl (.tail _ (.head _)) ?_
    refine sA_geti (ci := 4) (j := 1) (q := (RX4, TX4, 2)) dd_X4_isLike_17 rfl (by decide) fl_X4_19 (Nat.lt_of_succ_lt hr.1) hr.2.1 rfl ?_
    refine sA_icmp_ge (tgt := 46) dd_X4_isLike_20 (by decide) (by omega) (by omega) (fun q3 => ?_) (fun q3 => ?_)
    · skip
      refine sA_iconst (z := 1) dd_X4_isLike_46 ?_
      refine sA_bret (z := 1) dd_X4_isLike_47 rfl (by omega) ?_
      refine ⟨_, rfl, rfl, rfl, ?_⟩
      refine .inl ⟨rfl, ?_⟩
      rw [i2]
      refine gs_stk_cg _ (fun i hi => ?_)
      have w := i3 i (by omega) (by omega)
      rw [Int.toNat_natCast] at w
      exact w
    · skip
      refine sA_aload_n dd_X4_isLike_23 rfl (.tail _ (.head _)) ?_
      refine sA_getr (ci := 4) (j := 0) (q := (RX4, TX4, 2)) dd_X4_isLike_24 rfl (by decide) fl_X4_13 (Nat.lt_of_succ_lt hr.1) hr.2.1 rfl ?_
      refine sA_iload_n dd_X4_isLike_27 rfl (.head _) ?_
      refine sA_iald (n := L) dd_X4_isLike_28 hr.1 hr.2.2.1 (by omega) (Nat.le_trans hr.2.2.2.2.2.2 (by decide)) ?_
      have b4 := gs_row_el hr hI k.toNat
      refine sA_aload_n dd_X4_isLike_29 rfl (.tail _ (.tail _ (.head _))) ?_
      refine sA_getr (ci := 4) (j := 0) (q := (RX4, TX4, 2)) dd_X4_isLike_30 rfl (by decide) fl_X4_13 (Nat.lt_of_succ_lt ho.1) ho.2.1 rfl ?_
      refine sA_iload_n dd_X4_isLike_33 rfl (.head _) ?_
      refine sA_iald (n := M) dd_X4_isLike_34 ho.1 ho.2.2.1 (by omega) (Nat.le_trans ho.2.2.2.2.2.2 (by decide)) ?_
      have b5 := gs_row_el ho hI k.toNat
      refine sA_icmp_eq (tgt := 40) dd_X4_isLike_35 (by decide) (by omega) (by omega) (fun q6 => ?_) (fun q6 => ?_)
      · skip
        refine sA_iinc (lv' := [(2, gs_iv (k + 1)), (0, .ref a), (1, .ref b)]) dd_X4_isLike_40 (.head _) (by decide) rfl ?_
        refine sA_goto (tgt := 15) dd_X4_isLike_43 (by decide) ?_
        refine sA_sub (lv2 := [(2, gs_iv (k + 1)), (0, .ref a), (1, .ref b)]) (List.forall_mem_cons.mpr ⟨(.head _), (List.forall_mem_cons.mpr ⟨(.tail _ (.head _)), (List.forall_mem_cons.mpr ⟨(.tail _ (.tail _ (.head _))), (fun _ h => absurd h List.not_mem_nil)⟩)⟩)⟩) ?_
        exact ih (k + 1)  (by omega) (by omega) (by omega) (fun j h1 h2 => by first | (exfalso; omega) | (by_cases h : j < k <;> first | exact i3 j h1 h | (have e : j = k := (by omega); rw [e]; omega) | fail) | fail) (by omega)
      · skip
        refine sA_iconst (z := 0) dd_X4_isLike_38 ?_
        refine sA_bret (z := 0) dd_X4_isLike_39 rfl (by omega) ?_
        refine ⟨_, rfl, rfl, rfl, ?_⟩
        exact .inr ⟨rfl, fun w => by have w2 := (gs_stk_inj _ _ w).2 k.toNat (by omega); omega⟩
theorem c_X4_isLike_vf {a L b M : Nat} {F A : gs_F} (hI : gs_I F A) (hr : gs_row a L) (ho : gs_row b M) : sC m_X4_isLike 1 [.ref a, .ref b] F A (fun rv F' A' => ∃ z : Int, rv = some (gs_iv z) ∧ F = F' ∧ A = A' ∧ ((z = 1 ∧ gs_stk (A (a + 1)) (F a 1).toNat = gs_stk (A (b + 1)) (F b 1).toNat) ∨ (z = 0 ∧ ¬ gs_stk (A (a + 1)) (F a 1).toNat = gs_stk (A (b + 1)) (F b 1).toNat))) := by
  refine sC_of ok_X4_isLike.1 (Nat.le_of_ble_eq_true rfl) ?_
  show sA _ _ _ 0 [(0, .ref a), (1, .ref b)] [] F A
  have b7 := gs_row_sz hr hI
  have b8 := gs_row_sz ho hI
  refine sA_aload_n dd_X4_isLike_0 rfl (.head _) ?_
  refine sA_geti (ci := 4) (j := 1) (q := (RX4, TX4, 2)) dd_X4_isLike_1 rfl (by decide) fl_X4_19 (Nat.lt_of_succ_lt hr.1) hr.2.1 rfl ?_
  refine sA_aload_n dd_X4_isLike_4 rfl (.tail _ (.head _)) ?_
  refine sA_geti (ci := 4) (j := 1) (q := (RX4, TX4, 2)) dd_X4_isLike_5 rfl (by decide) fl_X4_19 (Nat.lt_of_succ_lt ho.1) ho.2.1 rfl ?_
  refine sA_icmp_eq (tgt := 13) dd_X4_isLike_8 (by decide) (by omega) (by omega) (fun q9 => ?_) (fun q9 => ?_)
  · skip
    refine sA_iconst (z := 0) dd_X4_isLike_13 ?_
    refine sA_istore_n (lv' := [(2, gs_iv 0), (0, .ref a), (1, .ref b)]) dd_X4_isLike_14 rfl (by decide) rfl ?_
    refine sA_sub (lv2 := [(2, gs_iv 0), (0, .ref a), (1, .ref b)]) (List.forall_mem_cons.mpr ⟨(.head _), (List.forall_mem_cons.mpr ⟨(.tail _ (.head _)), (List.forall_mem_cons.mpr ⟨(.tail _ (.tail _ (.head _))), (fun _ h => absurd h List.not_mem_nil)⟩)⟩)⟩) ?_
    exact (k_X4_isLike_vf hI hr ho (F a 1 - 0 : Int).toNat.succ) 0  (by omega) (by omega) (by omega) (fun j h1 h2 => by first | (exfalso; omega) | (by_cases h : j < k <;> first | exact i3 j h1 h | (have e : j = k := (by omega); rw [e]; omega) | fail) | fail) (by omega)
  · skip
    refine sA_iconst (z := 0) dd_X4_isLike_11 ?_
    refine sA_bret (z := 0) dd_X4_isLike_12 rfl (by omega) ?_
    refine ⟨_, rfl, rfl, rfl, ?_⟩
    exact .inr ⟨rfl, fun w => by have w2 := (gs_stk_inj _ _ w).1; omega⟩
theorem k_X0_begin_vf {g : Int} {F A : gs_F} (hI : gs_I F A) (hg : 1 ≤ g ∧ g ≤ 3) : ∀ nN : Nat, (∀ (x : Int)  (F1 A1 : gs_F), gs_I F1 A1 → gs_fr (fun c j => (c = 15 ∧ j = 1) ∨ (18 ≤ c ∧ c < 30 ∧ j = 1)) (fun c => 18 ≤ c ∧ c < 30) F A F1 A1 → 1 ≤ x ∧ x ≤ F1 15 1 + 1 → F1 15 1 = 2 * g → (∀ ii : Nat, (ii : Int) + 1 < x → gs_ic F1 A1 ii = [(ii : Int) + 1]) → F1 15 1 + 1 - x < (nN : Int) → sA m_X0_begin 2 (fun rv F' A' => rv = none ∧ gs_I F' A' ∧ gs_fr (fun c j => (c = 15 ∧ j = 1) ∨ (18 ≤ c ∧ c < 30 ∧ j = 1)) (fun c => 18 ≤ c ∧ c < 30) F A F' A' ∧ (F' 15 1 = 2 * g ∧ ∀ ii : Nat, (ii : Int) < 2 * g → gs_ic F' A' ii = [(ii : Int) + 1])) 9 [(2, gs_iv x), (0, .ref 15)] [] F1 A1) := by
  intro nN
  induction nN with
  | zero =>
    exact fun a0 a1 a2 a3 a4 i0 i1 i2 hm => by exfalso; omega
  | succ nN ih =>
    intro x F1 A1 hI1 hf1 i0 i1 i2 hm
    have b1 : (0 : Int) ≤ F1 15 1 ∧ F1 15 1 ≤ 6 := hI1.1 15 1
    refine sA_iload_n dd_X0_begin_9 rfl (.head _) ?_
    refine sA_aload_n dd_X0_begin_10 rfl (.tail _ (.head _)) ?_
    refine sA_geti (ci := 0) (j := 1) (q := (RX0, TX0, 4)) dd_X0_begin_11 rfl (by decide) fl_X0_28 (by decide) gs_s15 rfl ?_
    refine sA_icmp_gt (tgt := 35) dd_X0_begin_14 (by decide) (by omega) (by omega) (fun q2 => ?_) (fun q2 => ?_)
    · skip
      refine sA_vret dd_X0_begin_35 rfl ?_
      refine ⟨rfl, hI1, hf1, ?_⟩
      exact ⟨by omega, fun ii hi => i2 ii (by omega)⟩
    · skip
      refine sA_aload_n dd_X0_begin_17 rfl (.tail _ (.head _)) ?_
      refine sA_getr (ci := 0) (j := 0) (q := (RX0, TX0, 4)) dd_X0_begin_18 rfl (by decide) fl_X0_11 (by decide) gs_s15 rfl ?_
      refine sA_iload_n dd_X0_begin_21 rfl (.head _) ?_
      refine sA_iconst (z := 1) dd_X0_begin_22 ?_
      refine sA_isub dd_X0_begin_23 ?_
      refine sA_aald (n := 6) dd_X0_begin_24 (by decide) (by decide) (by decide) gs_s16 (by omega) (by decide) ?_
      have g3 := gs_row_im (k := (x - 1).toNat) (by omega)
      refine sA_iload_n dd_X0_begin_25 rfl (.head _) ?_
      refine sA_callV (y2 := m_X4_becomeLetter) (n2 := 1) (d2 := 1) (a := (18 + 2 * (x - 1).toNat)) (ci := 4) (q := (RX4, TX4, 2)) (as := [gs_iv x]) (rest := []) dd_X0_begin_26 ok_X4_becomeLetter ml_X0_32 rfl rfl (Nat.lt_of_succ_lt g3.1) g3.2.1 rfl rfl (Nat.le_of_ble_eq_true rfl) (by decide) (c_X4_becomeLetter_vf hI1 g3 (by omega)) (fun r4 F5 A6 h7 => ?_)
      obtain ⟨e9, I10, f11, x8⟩ := h7
      subst e9
      have v12 : F5 15 1 = F1 15 1 := f11.1 15 1 (by first | exact id | omega | (dsimp only; omega) | (dsimp only) | fail)
      have f13 := gs_fr_tr hf1 f11 (fun b j h => by first | exact False.elim h | omega | (dsimp only at h ⊢; omega) | fail) (fun b h => by first | exact False.elim h | omega | (dsimp only at h ⊢; omega) | fail)
      have y14 : F5 (18 + 2 * (x - 1).toNat) 1 = 1 ∧ A6 ((18 + 2 * (x - 1).toNat) + 1) = gs_u (A1 ((18 + 2 * (x - 1).toNat) + 1)) 0 x := x8
      clear x8
      show sA _ _ _ 29 _ [] _ _
      refine sA_iinc (lv' := [(2, gs_iv (x + 1)), (0, .ref 15)]) dd_X0_begin_29 (.head _) (by decide) rfl ?_
      refine sA_goto (tgt := 9) dd_X0_begin_32 (by decide) ?_
      have b15 : (0 : Int) ≤ F5 15 1 ∧ F5 15 1 ≤ 6 := I10.1 15 1
      refine sA_sub (lv2 := [(2, gs_iv (x + 1)), (0, .ref 15)]) (List.forall_mem_cons.mpr ⟨(.head _), (List.forall_mem_cons.mpr ⟨(.tail _ (.head _)), (fun _ h => absurd h List.not_mem_nil)⟩)⟩) ?_
      exact ih (x + 1) F5 A6 I10 f13 (by omega) (by omega) (gs_beg_ext (by omega) i2 y14.1 y14.2 (fun c h => f11.1 c 1 (by dsimp only; omega)) (fun c h => f11.2 c (by dsimp only; omega))) (by omega)
theorem c_X0_begin_vf {g : Int} {F A : gs_F} (hI : gs_I F A) (hg : 1 ≤ g ∧ g ≤ 3) : sC m_X0_begin 2 [.ref 15, gs_iv g] F A (fun rv F' A' => rv = none ∧ gs_I F' A' ∧ gs_fr (fun c j => (c = 15 ∧ j = 1) ∨ (18 ≤ c ∧ c < 30 ∧ j = 1)) (fun c => 18 ≤ c ∧ c < 30) F A F' A' ∧ (F' 15 1 = 2 * g ∧ ∀ ii : Nat, (ii : Int) < 2 * g → gs_ic F' A' ii = [(ii : Int) + 1])) := by
  refine sC_of ok_X0_begin.1 (Nat.le_of_ble_eq_true rfl) ?_
  show sA _ _ _ 0 [(0, .ref 15), (1, gs_iv g)] [] F A
  have hf : gs_fr (fun c j => (c = 15 ∧ j = 1) ∨ (18 ≤ c ∧ c < 30 ∧ j = 1)) (fun c => 18 ≤ c ∧ c < 30) F A F A := gs_fr_refl _ _ _ _
  have b16 : (0 : Int) ≤ F 15 1 ∧ F 15 1 ≤ 6 := hI.1 15 1
  refine sA_aload_n dd_X0_begin_0 rfl (.head _) ?_
  refine sA_iconst (z := 2) dd_X0_begin_1 ?_
  refine sA_iload_n dd_X0_begin_2 rfl (.tail _ (.head _)) ?_
  refine sA_imul dd_X0_begin_3 ?_
  refine sA_put (ci := 0) (j := 1) (q := (RX0, TX0, 4)) (ty := .int) dd_X0_begin_4 rfl (by decide) fl_X0_28 rfl (tyX0_ok 1 (by decide)) rfl rfl (by decide) gs_s15 rfl ?_
  have I18 : gs_I (gs_up F 15 1 (2 * g)) A := gs_I_put hI (show (0 : Int) ≤ 2 * g ∧ 2 * g ≤ 6 by omega)
  have f19 := gs_fr_put hf (a := 15) (z := 2 * g) (j := 1) (by first | omega | (dsimp only; omega) | (dsimp only) | fail)
  have v20 : gs_up F 15 1 (2 * g) 15 1 = 2 * g := gs_up_self _ _ _ _
  generalize gs_up F 15 1 (2 * g) = F17 at I18 f19 v20 ⊢
  refine sA_iconst (z := 1) dd_X0_begin_7 ?_
  refine sA_istore_n (lv' := [(2, gs_iv 1), (0, .ref 15), (1, gs_iv g)]) dd_X0_begin_8 rfl (by decide) rfl ?_
  have b21 : (0 : Int) ≤ F17 15 1 ∧ F17 15 1 ≤ 6 := I18.1 15 1
  refine sA_sub (lv2 := [(2, gs_iv 1), (0, .ref 15)]) (List.forall_mem_cons.mpr ⟨(.head _), (List.forall_mem_cons.mpr ⟨(.tail _ (.head _)), (fun _ h => absurd h List.not_mem_nil)⟩)⟩) ?_
  exact (k_X0_begin_vf hI hg (F17 15 1 + 1 - 1 : Int).toNat.succ) 1 F17 A I18 f19 (by omega) (by omega) (fun ii hi => by exfalso; omega) (by omega)
theorem k_X0_doPlan_vf {b : Nat} {g : Int} {F A : gs_F} (hI : gs_I F A) (ho : gs_plan b) (hg : 1 ≤ g ∧ g ≤ 3) (hcd : ∀ i : Int, 0 ≤ i → i < F b 1 → 0 ≤ A (b + 1) i.toNat ∧ A (b + 1) i.toNat < 6 * g - 2) (hW : gs_W (A 6) g) (hVI : ∀ ii : Nat, (ii : Int) < F 15 1 → sp_val g (gs_ic F A ii)) (hb44 : b = 44 ∨ b = 50 ∨ b = 52 ∨ 90 ≤ b) : ∀ nN : Nat, (∀ (k : Int)  (F1 A1 : gs_F), gs_I F1 A1 → gs_fr (fun c j => 18 ≤ c ∧ c < 30 ∧ j = 1) (fun c => c = 7 ∨ (18 ≤ c ∧ c < 30)) F A F1 A1 → 0 ≤ k ∧ k ≤ F1 15 1 → F1 15 1 = F 15 1 → (∀ ii : Nat, (ii : Int) < k → gs_plc F A g b (gs_ic F A ii) = some (gs_ic F1 A1 ii)) → (∀ ii : Nat, k ≤ (ii : Int) → (ii : Int) < F 15 1 → gs_ic F1 A1 ii = gs_ic F A ii) → F1 15 1 - k < (nN : Int) → sA m_X0_doPlan 4 (fun rv F' A' => ∃ z : Int, rv = some (gs_iv z) ∧ gs_I F' A' ∧ gs_fr (fun c j => 18 ≤ c ∧ c < 30 ∧ j = 1) (fun c => c = 7 ∨ (18 ≤ c ∧ c < 30)) F A F' A' ∧ ((z = 1 ∧ ∀ ii : Nat, (ii : Int) < F 15 1 → gs_plc F A g b (gs_ic F A ii) = some (gs_ic F' A' ii)) ∨ (z = 0 ∧ ∃ ii : Nat, (ii : Int) < F 15 1 ∧ gs_plc F A g b (gs_ic F A ii) = none))) 2 [(2, gs_iv k), (0, .ref 15), (1, .ref b)] [] F1 A1) := by
  intro nN
  induction nN with
  | zero =>
    exact fun a0 a1 a2 a3 a4 i0 i1 i2 i3 hm => by exfalso; omega
  | succ nN ih =>
    intro k F1 A1 hI1 hf1 i0 i1 i2 i3 hm
    have b1 := gs_plan_sz ho hI1
    have b2 : (0 : Int) ≤ F1 15 1 ∧ F1 15 1 ≤ 6 := hI1.1 15 1
    refine sA_iload_n dd_X0_doPlan_2 rfl (.head _) ?_
    refine sA_aload_n dd_X0_doPlan_3 rfl (.tail _ (.head _)) ?_
    refine sA_geti (ci := 0) (j := 1) (q := (RX0, TX0, 4)) dd_X0_doPlan_4 rfl (by decide) fl_X0_28 (by decide) gs_s15 rfl ?_
    refine sA_icmp_ge (tgt := 35) dd_X0_doPlan_7 (by decide) (by omega) (by omega) (fun q3 => ?_) (fun q3 => ?_)
    · skip
      refine sA_iconst (z := 1) dd_X0_doPlan_35 ?_
      refine sA_bret (z := 1) dd_X0_doPlan_36 rfl (by omega) ?_
      refine ⟨_, rfl, hI1, hf1, ?_⟩
      exact .inl ⟨rfl, fun ii hi => i2 ii (by omega)⟩
    · skip
      refine sA_aload_n dd_X0_doPlan_10 rfl (.tail _ (.head _)) ?_
      refine sA_getr (ci := 0) (j := 3) (q := (RX0, TX0, 4)) dd_X0_doPlan_11 rfl (by decide) fl_X0_21 (by decide) gs_s15 rfl ?_
      refine sA_aload_n dd_X0_doPlan_14 rfl (.tail _ (.tail _ (.head _))) ?_
      refine sA_aload_n dd_X0_doPlan_15 rfl (.tail _ (.head _)) ?_
      refine sA_getr (ci := 0) (j := 0) (q := (RX0, TX0, 4)) dd_X0_doPlan_16 rfl (by decide) fl_X0_11 (by decide) gs_s15 rfl ?_
      refine sA_iload_n dd_X0_doPlan_19 rfl (.head _) ?_
      refine sA_aald (n := 6) dd_X0_doPlan_20 (by decide) (by decide) (by decide) gs_s16 (by omega) (by decide) ?_
      have g4 := gs_row_im (k := k.toNat) (by omega)
      have hb1 : A1 (b + 1) = A (b + 1) := hf1.2 (b + 1) (by dsimp only; omega)
      have hbn : F1 b 1 = F b 1 := hf1.1 b 1 (by dsimp only; omega)
      have hW1 : gs_W (A1 6) g := by rw [hf1.2 6 (by dsimp only; omega)]; exact hW
      have hL : (400 : Nat) = 400 := rfl
      have hcd1 : ∀ i : Int, 0 ≤ i → i < F1 b 1 → 0 ≤ A1 (b + 1) i.toNat ∧ A1 (b + 1) i.toNat < 6 * g - 2 := by rw [hb1, hbn]; exact hcd
      have hV1 : sp_val g (gs_stk (A1 (18 + 2 * k.toNat + 1)) (F1 (18 + 2 * k.toNat) 1).toNat) := by
        have hv := hVI k.toNat (by omega)
        rw [← i3 k.toNat (by omega) (by omega)] at hv
        exact hv
      refine sA_callV (y2 := m_X7_doPlan) (n2 := 2) (d2 := 3) (a := 5) (ci := 7) (q := (RX7, TX7, 5)) (as := [.ref b, .ref (18 + 2 * k.toNat)]) (rest := []) dd_X0_doPlan_21 ok_X7_doPlan ml_X0_35 rfl rfl (by decide) gs_s5 rfl rfl (Nat.le_of_ble_eq_true rfl) (by decide) (c_X7_doPlan_vf hI1 ho g4 hg hcd1 hW1 hV1 hL (by omega) (by omega) (by omega)) (fun r5 F6 A7 h8 => ?_)
      obtain ⟨z11, e10, I12, f13, x9⟩ := h8
      subst e10
      have v14 : F6 15 1 = F1 15 1 := f13.1 15 1 (by first | exact id | omega | (dsimp only; omega) | (dsimp only) | fail)
      have f15 := gs_fr_tr hf1 f13 (fun b j h => by first | exact False.elim h | omega | (dsimp only at h ⊢; omega) | fail) (fun b h => by first | exact False.elim h | omega | (dsimp only at h ⊢; omega) | fail)
      have y16 : (z11 = 1 ∧ sp_pl (fun u => sp_tw (sp_w g u)) (A1 (b + 1)) (F1 b 1).toNat (gs_stk (A1 ((18 + 2 * k.toNat) + 1)) (F1 (18 + 2 * k.toNat) 1).toNat) = some (gs_stk (A7 ((18 + 2 * k.toNat) + 1)) (F6 (18 + 2 * k.toNat) 1).toNat)) ∨ (z11 = 0 ∧ sp_pl (fun u => sp_tw (sp_w g u)) (A1 (b + 1)) (F1 b 1).toNat (gs_stk (A1 ((18 + 2 * k.toNat) + 1)) (F1 (18 + 2 * k.toNat) 1).toNat) = none) := x9
      clear x9
      show sA _ _ _ 24 _ [gs_iv z11] _ _
      refine sA_if_ne (tgt := 29) dd_X0_doPlan_24 (by decide) (by omega) (fun q17 => ?_) (fun q17 => ?_)
      · skip
        refine sA_iinc (lv' := [(2, gs_iv (k + 1)), (0, .ref 15), (1, .ref b)]) dd_X0_doPlan_29 (.head _) (by decide) rfl ?_
        refine sA_goto (tgt := 2) dd_X0_doPlan_32 (by decide) ?_
        have b18 := gs_plan_sz ho I12
        have b19 : (0 : Int) ≤ F6 15 1 ∧ F6 15 1 ≤ 6 := I12.1 15 1
        refine sA_sub (lv2 := [(2, gs_iv (k + 1)), (0, .ref 15), (1, .ref b)]) (List.forall_mem_cons.mpr ⟨(.head _), (List.forall_mem_cons.mpr ⟨(.tail _ (.head _)), (List.forall_mem_cons.mpr ⟨(.tail _ (.tail _ (.head _))), (fun _ h => absurd h List.not_mem_nil)⟩)⟩)⟩) ?_
        exact ih (k + 1) F6 A7 I12 f15 (by omega) (by omega) (by rcases y16 with y | y <;> first | (exfalso; omega) | (have y2 := y.2; rw [hb1, hbn] at y2; exact (gs_idp_ext (PL := gs_plc F A g b) (by omega) (by omega) i2 i3 y2 (fun c h => f13.1 c 1 (by dsimp only; omega)) (fun c h1 h2 => f13.2 c (by dsimp only; omega))).1) | fail) (by rcases y16 with y | y <;> first | (exfalso; omega) | (have y2 := y.2; rw [hb1, hbn] at y2; exact (gs_idp_ext (PL := gs_plc F A g b) (by omega) (by omega) i2 i3 y2 (fun c h => f13.1 c 1 (by dsimp only; omega)) (fun c h1 h2 => f13.2 c (by dsimp only; omega))).2) | fail) (by omega)
      · skip
        refine sA_iconst (z := 0) dd_X0_doPlan_27 ?_
        refine sA_bret (z := 0) dd_X0_doPlan_28 rfl (by omega) ?_
        refine ⟨_, rfl, I12, f15, ?_⟩
        rcases y16 with y | y
        · exfalso
          omega
        · refine .inr ⟨rfl, k.toNat, by omega, ?_⟩
          have y2 := y.2
          rw [hb1, hbn] at y2
          rw [← i3 k.toNat (by omega) (by omega)]
          exact y2
theorem c_X0_doPlan_vf {b : Nat} {g : Int} {F A : gs_F} (hI : gs_I F A) (ho : gs_plan b) (hg : 1 ≤ g ∧ g ≤ 3) (hcd : ∀ i : Int, 0 ≤ i → i < F b 1 → 0 ≤ A (b + 1) i.toNat ∧ A (b + 1) i.toNat < 6 * g - 2) (hW : gs_W (A 6) g) (hVI : ∀ ii : Nat, (ii : Int) < F 15 1 → sp_val g (gs_ic F A ii)) (hb44 : b = 44 ∨ b = 50 ∨ b = 52 ∨ 90 ≤ b) : sC m_X0_doPlan 4 [.ref 15, .ref b] F A (fun rv F' A' => ∃ z : Int, rv = some (gs_iv z) ∧ gs_I F' A' ∧ gs_fr (fun c j => 18 ≤ c ∧ c < 30 ∧ j = 1) (fun c => c = 7 ∨ (18 ≤ c ∧ c < 30)) F A F' A' ∧ ((z = 1 ∧ ∀ ii : Nat, (ii : Int) < F 15 1 → gs_plc F A g b (gs_ic F A ii) = some (gs_ic F' A' ii)) ∨ (z = 0 ∧ ∃ ii : Nat, (ii : Int) < F 15 1 ∧ gs_plc F A g b (gs_ic F A ii) = none))) := by
  refine sC_of ok_X0_doPlan.1 (Nat.le_of_ble_eq_true rfl) ?_
  show sA _ _ _ 0 [(0, .ref 15), (1, .ref b)] [] F A
  have hf : gs_fr (fun c j => 18 ≤ c ∧ c < 30 ∧ j = 1) (fun c => c = 7 ∨ (18 ≤ c ∧ c < 30)) F A F A := gs_fr_refl _ _ _ _
  have b20 := gs_plan_sz ho hI
  have b21 : (0 : Int) ≤ F 15 1 ∧ F 15 1 ≤ 6 := hI.1 15 1
  refine sA_iconst (z := 0) dd_X0_doPlan_0 ?_
  refine sA_istore_n (lv' := [(2, gs_iv 0), (0, .ref 15), (1, .ref b)]) dd_X0_doPlan_1 rfl (by decide) rfl ?_
  refine sA_sub (lv2 := [(2, gs_iv 0), (0, .ref 15), (1, .ref b)]) (List.forall_mem_cons.mpr ⟨(.head _), (List.forall_mem_cons.mpr ⟨(.tail _ (.head _)), (List.forall_mem_cons.mpr ⟨(.tail _ (.tail _ (.head _))), (fun _ h => absurd h List.not_mem_nil)⟩)⟩)⟩) ?_
  exact (k_X0_doPlan_vf hI ho hg hcd hW hVI hb44 (F 15 1 - 0 : Int).toNat.succ) 0 F A hI hf (by omega) (by omega) (fun ii hi => by exfalso; omega) (fun ii h1 h2 => rfl) (by omega)
theorem k_X0_lettersTogether_vf  {F A : gs_F} (hI : gs_I F A)  : ∀ nN : Nat, (∀ (s : Int) (k : Int),  0 ≤ k ∧ k ≤ F 15 1 → 0 ≤ s ∧ s ≤ 400 * k → s = gs_sum (fun i => F (18 + 2 * i) 1) k.toNat → F 15 1 - k < (nN : Int) → sA m_X0_lettersTogether 1 (fun rv F' A' => ∃ z : Int, rv = some (gs_iv z) ∧ F = F' ∧ A = A' ∧ ((0 ≤ z ∧ z ≤ 2400) ∧ z = gs_sum (fun i => F (18 + 2 * i) 1) (F 15 1).toNat)) 4 [(2, gs_iv k), (1, gs_iv s), (0, .ref 15)] [] F A) := by
  intro nN
  induction nN with
  | zero =>
    exact fun a0 a1 i0 i1 i2 hm => by exfalso; omega
  | succ nN ih =>
    intro s k i0 i1 i2 hm
    refine sA_iload_n dd_X0_lettersTogether_4 rfl (.head _) ?_
    refine sA_aload_n dd_X0_lettersTogether_5 rfl (.tail _ (.tail _ (.head _))) ?_
    refine sA_geti (ci := 0) (j := 1) (q := (RX0, TX0, 4)) dd_X0_lettersTogether_6 rfl (by decide) fl_X0_28 (by decide) gs_s15 rfl ?_
    have b1 : (0 : Int) ≤ F 15 1 ∧ F 15 1 ≤ 6 := hI.1 15 1
    refine sA_icmp_ge (tgt := 30) dd_X0_lettersTogether_9 (by decide) (by omega) (by omega) (fun q2 => ?_) (fun q2 => ?_)
    · skip
      refine sA_iload_n dd_X0_lettersTogether_30 rfl (.tail _ (.head _)) ?_
      refine sA_iret (z := s) dd_X0_lettersTogether_31 rfl ?_
      refine ⟨_, rfl, rfl, rfl, ?_⟩
      refine ⟨by omega, ?_⟩
      rw [show F 15 1 = k by omega]
      exact i2
    · skip
      refine sA_iload_n dd_X0_lettersTogether_12 rfl (.tail _ (.head _)) ?_
      refine sA_aload_n dd_X0_lettersTogether_13 rfl (.tail _ (.tail _ (.head _))) ?_
      refine sA_getr (ci := 0) (j := 0) (q := (RX0, TX0, 4)) dd_X0_lettersTogether_14 rfl (by decide) fl_X0_11 (by decide) gs_s15 rfl ?_
      refine sA_iload_n dd_X0_lettersTogether_17 rfl (.head _) ?_
      refine sA_aald (n := 6) dd_X0_lettersTogether_18 (by decide) (by decide) (by decide) gs_s16 (by omega) (by decide) ?_
      have g3 := gs_row_im (k := k.toNat) (by omega)
      refine sA_geti (ci := 4) (j := 1) (q := (RX4, TX4, 2)) dd_X0_lettersTogether_19 rfl (by decide) fl_X0_41 (Nat.lt_of_succ_lt g3.1) g3.2.1 rfl ?_
      have b4 := gs_row_sz g3 hI
      refine sA_iadd dd_X0_lettersTogether_22 ?_
      refine sA_istore_n (lv' := [(1, gs_iv (s + (F (18 + 2 * k.toNat) 1))), (2, gs_iv k), (0, .ref 15)]) dd_X0_lettersTogether_23 rfl (by decide) rfl ?_
      refine sA_iinc (lv' := [(2, gs_iv (k + 1)), (1, gs_iv (s + (F (18 + 2 * k.toNat) 1))), (0, .ref 15)]) dd_X0_lettersTogether_24 (.tail _ (.head _)) (by decide) rfl ?_
      refine sA_goto (tgt := 4) dd_X0_lettersTogether_27 (by decide) ?_
      refine sA_sub (lv2 := [(2, gs_iv (k + 1)), (1, gs_iv (s + (F (18 + 2 * k.toNat) 1))), (0, .ref 15)]) (List.forall_mem_cons.mpr ⟨(.head _), (List.forall_mem_cons.mpr ⟨(.tail _ (.head _)), (List.forall_mem_cons.mpr ⟨(.tail _ (.tail _ (.head _))), (fun _ h => absurd h List.not_mem_nil)⟩)⟩)⟩) ?_
      exact ih (s + (F (18 + 2 * k.toNat) 1)) (k + 1)  (by omega) (by omega) (by rw [show (k + 1).toNat = k.toNat + 1 by omega]; exact congrArg (fun q => q + F (18 + 2 * k.toNat) 1) i2) (by omega)
theorem c_X0_lettersTogether_vf  {F A : gs_F} (hI : gs_I F A)  : sC m_X0_lettersTogether 1 [.ref 15] F A (fun rv F' A' => ∃ z : Int, rv = some (gs_iv z) ∧ F = F' ∧ A = A' ∧ ((0 ≤ z ∧ z ≤ 2400) ∧ z = gs_sum (fun i => F (18 + 2 * i) 1) (F 15 1).toNat)) := by
  refine sC_of ok_X0_lettersTogether.1 (Nat.le_of_ble_eq_true rfl) ?_
  show sA _ _ _ 0 [(0, .ref 15)] [] F A
  have hb15 : (0 : Int) ≤ F 15 1 ∧ F 15 1 ≤ 6 := hI.1 15 1
  refine sA_iconst (z := 0) dd_X0_lettersTogether_0 ?_
  refine sA_istore_n (lv' := [(1, gs_iv 0), (0, .ref 15)]) dd_X0_lettersTogether_1 rfl (by decide) rfl ?_
  refine sA_iconst (z := 0) dd_X0_lettersTogether_2 ?_
  refine sA_istore_n (lv' := [(2, gs_iv 0), (1, gs_iv 0), (0, .ref 15)]) dd_X0_lettersTogether_3 rfl (by decide) rfl ?_
  refine sA_sub (lv2 := [(2, gs_iv 0), (1, gs_iv 0), (0, .ref 15)]) (List.forall_mem_cons.mpr ⟨(.head _), (List.forall_mem_cons.mpr ⟨(.tail _ (.head _)), (List.forall_mem_cons.mpr ⟨(.tail _ (.tail _ (.head _))), (fun _ h => absurd h List.not_mem_nil)⟩)⟩)⟩) ?_
  exact (k_X0_lettersTogether_vf hI (F 15 1 - 0 : Int).toNat.succ) 0 0  (by omega) (by omega) (by rfl) (by omega)
theorem k_X9_lengthNow_vf  {F A : gs_F} (hI : gs_I F A)  : ∀ nN : Nat, (∀ (s : Int) (x : Int),  0 ≤ x ∧ x ≤ 6 → 0 ≤ s ∧ s ≤ 400 * x → x ≤ 2 * F 106 0 → s = gs_sum (A 120) x.toNat → 6 - x < (nN : Int) → sA m_X9_lengthNow 1 (fun rv F' A' => ∃ z : Int, rv = some (gs_iv z) ∧ F = F' ∧ A = A' ∧ ((0 ≤ z ∧ z ≤ 2400) ∧ z = gs_sum (A 120) (2 * F 106 0).toNat)) 4 [(2, gs_iv x), (1, gs_iv s), (0, .ref 106)] [] F A) := by
  intro nN
  induction nN with
  | zero =>
    exact fun a0 a1 i0 i1 i2 i3 hm => by exfalso; omega
  | succ nN ih =>
    intro s x i0 i1 i2 i3 hm
    refine sA_iload_n dd_X9_lengthNow_4 rfl (.head _) ?_
    refine sA_iconst (z := 2) dd_X9_lengthNow_5 ?_
    refine sA_aload_n dd_X9_lengthNow_6 rfl (.tail _ (.tail _ (.head _))) ?_
    refine sA_geti (ci := 9) (j := 0) (q := (RX9, TX9, 28)) dd_X9_lengthNow_7 rfl (by decide) fl_X9_64 (by decide) gs_s106 rfl ?_
    have b1 : (1 : Int) ≤ F 106 0 ∧ F 106 0 ≤ 3 := hI.1 106 0
    refine sA_imul dd_X9_lengthNow_10 ?_
    refine sA_icmp_ge (tgt := 29) dd_X9_lengthNow_11 (by decide) (by omega) (by omega) (fun q2 => ?_) (fun q2 => ?_)
    · skip
      refine sA_iload_n dd_X9_lengthNow_29 rfl (.tail _ (.head _)) ?_
      refine sA_iret (z := s) dd_X9_lengthNow_30 rfl ?_
      refine ⟨_, rfl, rfl, rfl, ?_⟩
      refine ⟨by omega, ?_⟩
      rw [show 2 * F 106 0 = x by omega]
      exact i3
    · skip
      refine sA_iload_n dd_X9_lengthNow_14 rfl (.tail _ (.head _)) ?_
      refine sA_aload_n dd_X9_lengthNow_15 rfl (.tail _ (.tail _ (.head _))) ?_
      refine sA_getr (ci := 9) (j := 26) (q := (RX9, TX9, 28)) dd_X9_lengthNow_16 rfl (by decide) fl_X9_53 (by decide) gs_s106 rfl ?_
      refine sA_iload_n dd_X9_lengthNow_19 rfl (.head _) ?_
      refine sA_iald (n := 6) dd_X9_lengthNow_20 (by decide) gs_s120 (by omega) (by decide) ?_
      have b3 : (0 : Int) ≤ A 120 x.toNat ∧ A 120 x.toNat ≤ 400 := hI.2 120 x.toNat
      refine sA_iadd dd_X9_lengthNow_21 ?_
      refine sA_istore_n (lv' := [(1, gs_iv (s + (A 120 x.toNat))), (2, gs_iv x), (0, .ref 106)]) dd_X9_lengthNow_22 rfl (by decide) rfl ?_
      refine sA_iinc (lv' := [(2, gs_iv (x + 1)), (1, gs_iv (s + (A 120 x.toNat))), (0, .ref 106)]) dd_X9_lengthNow_23 (.tail _ (.head _)) (by decide) rfl ?_
      refine sA_goto (tgt := 4) dd_X9_lengthNow_26 (by decide) ?_
      refine sA_sub (lv2 := [(2, gs_iv (x + 1)), (1, gs_iv (s + (A 120 x.toNat))), (0, .ref 106)]) (List.forall_mem_cons.mpr ⟨(.head _), (List.forall_mem_cons.mpr ⟨(.tail _ (.head _)), (List.forall_mem_cons.mpr ⟨(.tail _ (.tail _ (.head _))), (fun _ h => absurd h List.not_mem_nil)⟩)⟩)⟩) ?_
      exact ih (s + (A 120 x.toNat)) (x + 1)  (by omega) (by omega) (by omega) (by rw [show (x + 1).toNat = x.toNat + 1 by omega]; exact congrArg (fun q => q + A 120 x.toNat) i3) (by omega)
theorem c_X9_lengthNow_vf  {F A : gs_F} (hI : gs_I F A)  : sC m_X9_lengthNow 1 [.ref 106] F A (fun rv F' A' => ∃ z : Int, rv = some (gs_iv z) ∧ F = F' ∧ A = A' ∧ ((0 ≤ z ∧ z ≤ 2400) ∧ z = gs_sum (A 120) (2 * F 106 0).toNat)) := by
  refine sC_of ok_X9_lengthNow.1 (Nat.le_of_ble_eq_true rfl) ?_
  show sA _ _ _ 0 [(0, .ref 106)] [] F A
  have hb0 : (1 : Int) ≤ F 106 0 ∧ F 106 0 ≤ 3 := hI.1 106 0
  refine sA_iconst (z := 0) dd_X9_lengthNow_0 ?_
  refine sA_istore_n (lv' := [(1, gs_iv 0), (0, .ref 106)]) dd_X9_lengthNow_1 rfl (by decide) rfl ?_
  refine sA_iconst (z := 0) dd_X9_lengthNow_2 ?_
  refine sA_istore_n (lv' := [(2, gs_iv 0), (1, gs_iv 0), (0, .ref 106)]) dd_X9_lengthNow_3 rfl (by decide) rfl ?_
  refine sA_sub (lv2 := [(2, gs_iv 0), (1, gs_iv 0), (0, .ref 106)]) (List.forall_mem_cons.mpr ⟨(.head _), (List.forall_mem_cons.mpr ⟨(.tail _ (.head _)), (List.forall_mem_cons.mpr ⟨(.tail _ (.tail _ (.head _))), (fun _ h => absurd h List.not_mem_nil)⟩)⟩)⟩) ?_
  exact (k_X9_lengthNow_vf hI (6 - 0 : Int).toNat.succ) 0 0  (by omega) (by omega) (by omega) (by rfl) (by omega)
theorem k_X9_startImages_vf  {F A : gs_F} (hI : gs_I F A)  : ∀ nN : Nat, (∀ (x : Int)  (F1 A1 : gs_F), gs_I F1 A1 → gs_fr (fun _ _ => False) (fun c => c = 119 ∨ c = 120) F A F1 A1 → 0 ≤ x ∧ x ≤ 6 → (∀ ii : Nat, (ii : Int) < x → gs_im A1 ii = [(ii : Int) + 1]) → F1 106 0 = F 106 0 → 6 - x < (nN : Int) → sA m_X9_startImages 1 (fun rv F' A' => rv = none ∧ gs_I F' A' ∧ gs_fr (fun _ _ => False) (fun c => c = 119 ∨ c = 120) F A F' A' ∧ (∀ ii : Nat, (ii : Int) < 2 * F 106 0 → gs_im A' ii = [(ii : Int) + 1])) 2 [(1, gs_iv x), (0, .ref 106)] [] F1 A1) := by
  intro nN
  induction nN with
  | zero =>
    exact fun a0 a1 a2 a3 a4 i0 i1 i2 hm => by exfalso; omega
  | succ nN ih =>
    intro x F1 A1 hI1 hf1 i0 i1 i2 hm
    have u1 : A1 119 = A1 119 := rfl
    have u2 : A1 120 = A1 120 := rfl
    refine sA_iload_n dd_X9_startImages_2 rfl (.head _) ?_
    refine sA_iconst (z := 2) dd_X9_startImages_3 ?_
    refine sA_aload_n dd_X9_startImages_4 rfl (.tail _ (.head _)) ?_
    refine sA_geti (ci := 9) (j := 0) (q := (RX9, TX9, 28)) dd_X9_startImages_5 rfl (by decide) fl_X9_64 (by decide) gs_s106 rfl ?_
    have b3 : (1 : Int) ≤ F1 106 0 ∧ F1 106 0 ≤ 3 := hI1.1 106 0
    refine sA_imul dd_X9_startImages_8 ?_
    refine sA_icmp_ge (tgt := 38) dd_X9_startImages_9 (by decide) (by omega) (by omega) (fun q4 => ?_) (fun q4 => ?_)
    · skip
      refine sA_vret dd_X9_startImages_38 rfl ?_
      refine ⟨rfl, hI1, hf1, ?_⟩
      exact fun ii hi => i1 ii (by omega)
    · skip
      refine sA_aload_n dd_X9_startImages_12 rfl (.tail _ (.head _)) ?_
      refine sA_getr (ci := 9) (j := 26) (q := (RX9, TX9, 28)) dd_X9_startImages_13 rfl (by decide) fl_X9_53 (by decide) gs_s106 rfl ?_
      refine sA_iload_n dd_X9_startImages_16 rfl (.head _) ?_
      refine sA_iconst (z := 1) dd_X9_startImages_17 ?_
      refine sA_iast (n := 6) dd_X9_startImages_18 (by decide) gs_s120 (by omega) (by decide) ?_
      have I6 : gs_I F1 (gs_up A1 120 x.toNat 1) := gs_I_ast hI1 (show (0 : Int) ≤ 1 ∧ 1 ≤ 400 by omega)
      have f7 := gs_fr_ast hf1 (a := 120) (z := 1) (i := x.toNat) (by first | omega | (dsimp only; omega) | (dsimp only) | fail)
      have u8 : (gs_up A1 120 x.toNat 1) 119 = A1 119 := (gs_up_row _ _ (by omega)).trans u1
      have u9 : (gs_up A1 120 x.toNat 1) 120 = gs_u (A1 120) x.toNat 1 := (gs_up_u A1 120 x.toNat 1).trans (congrArg (fun f => gs_u f x.toNat 1) u2)
      generalize gs_up A1 120 x.toNat 1 = A5 at I6 f7 u8 u9 ⊢
      refine sA_aload_n dd_X9_startImages_19 rfl (.tail _ (.head _)) ?_
      refine sA_getr (ci := 9) (j := 25) (q := (RX9, TX9, 28)) dd_X9_startImages_20 rfl (by decide) fl_X9_50 (by decide) gs_s106 rfl ?_
      refine sA_sipush (z := 400) dd_X9_startImages_23 (by decide) ?_
      refine sA_iload_n dd_X9_startImages_26 rfl (.head _) ?_
      refine sA_imul dd_X9_startImages_27 ?_
      refine sA_iload_n dd_X9_startImages_28 rfl (.head _) ?_
      refine sA_iconst (z := 1) dd_X9_startImages_29 ?_
      refine sA_iadd dd_X9_startImages_30 ?_
      refine sA_iast (n := 2400) dd_X9_startImages_31 (by decide) gs_s119 (by omega) (by decide) ?_
      have I11 : gs_I F1 (gs_up A5 119 ((400 * x).toNat) (x + 1)) := gs_I_ast I6 (show (-9 : Int) ≤ x + 1 ∧ x + 1 ≤ 9 by omega)
      have f12 := gs_fr_ast f7 (a := 119) (z := x + 1) (i := (400 * x).toNat) (by first | omega | (dsimp only; omega) | (dsimp only) | fail)
      have u13 : (gs_up A5 119 ((400 * x).toNat) (x + 1)) 119 = gs_u (A1 119) ((400 * x).toNat) (x + 1) := (gs_up_u A5 119 ((400 * x).toNat) (x + 1)).trans (congrArg (fun f => gs_u f ((400 * x).toNat) (x + 1)) u8)
      have u14 : (gs_up A5 119 ((400 * x).toNat) (x + 1)) 120 = gs_u (A1 120) x.toNat 1 := (gs_up_row _ _ (by omega)).trans u9
      generalize gs_up A5 119 ((400 * x).toNat) (x + 1) = A10 at I11 f12 u13 u14 ⊢
      refine sA_iinc (lv' := [(1, gs_iv (x + 1)), (0, .ref 106)]) dd_X9_startImages_32 (.head _) (by decide) rfl ?_
      refine sA_goto (tgt := 2) dd_X9_startImages_35 (by decide) ?_
      refine sA_sub (lv2 := [(1, gs_iv (x + 1)), (0, .ref 106)]) (List.forall_mem_cons.mpr ⟨(.head _), (List.forall_mem_cons.mpr ⟨(.tail _ (.head _)), (fun _ h => absurd h List.not_mem_nil)⟩)⟩) ?_
      exact ih (x + 1) F1 A10 I11 f12 (by omega) (gs_sti_ext (by omega) i1 u14 u13) (by omega) (by omega)
theorem c_X9_startImages_vf  {F A : gs_F} (hI : gs_I F A)  : sC m_X9_startImages 1 [.ref 106] F A (fun rv F' A' => rv = none ∧ gs_I F' A' ∧ gs_fr (fun _ _ => False) (fun c => c = 119 ∨ c = 120) F A F' A' ∧ (∀ ii : Nat, (ii : Int) < 2 * F 106 0 → gs_im A' ii = [(ii : Int) + 1])) := by
  refine sC_of ok_X9_startImages.1 (Nat.le_of_ble_eq_true rfl) ?_
  show sA _ _ _ 0 [(0, .ref 106)] [] F A
  have hf : gs_fr (fun _ _ => False) (fun c => c = 119 ∨ c = 120) F A F A := gs_fr_refl _ _ _ _
  have u15 : A 119 = A 119 := rfl
  have u16 : A 120 = A 120 := rfl
  refine sA_iconst (z := 0) dd_X9_startImages_0 ?_
  refine sA_istore_n (lv' := [(1, gs_iv 0), (0, .ref 106)]) dd_X9_startImages_1 rfl (by decide) rfl ?_
  refine sA_sub (lv2 := [(1, gs_iv 0), (0, .ref 106)]) (List.forall_mem_cons.mpr ⟨(.head _), (List.forall_mem_cons.mpr ⟨(.tail _ (.head _)), (fun _ h => absurd h List.not_mem_nil)⟩)⟩) ?_
  exact (k_X9_startImages_vf hI (6 - 0 : Int).toNat.succ) 0 F A hI hf (by omega) (fun ii hi => by exfalso; omega) (by omega) (by omega)
theorem k_X9_goOn_vf {p : Int} {F A : gs_F} (hI : gs_I F A) (hp : 0 ≤ p ∧ p ≤ 8) (hcd : ∀ i : Int, 0 ≤ i → i < A 110 p.toNat → 0 ≤ A 111 (60 * p + i).toNat ∧ A 111 (60 * p + i).toNat ≤ 15) : ∀ nN : Nat, (∀ (x : Int)  (F1 A1 : gs_F), gs_I F1 A1 → gs_fr (fun c j => c = 106 ∧ (j = 13 ∨ j = 15)) (fun c => c = 114 ∨ c = 115 ∨ c = 119 ∨ c = 120) F A F1 A1 → 0 ≤ x ∧ x ≤ 6 → x ≤ 2 * F 106 0 ∧ F1 106 0 = F 106 0 → (∀ ii : Nat, (ii : Int) < x → gs_plm F A p (gs_im A ii) = some (gs_im A1 ii)) → (∀ ii : Nat, x ≤ (ii : Int) → (ii : Int) < 2 * F 106 0 → gs_im A1 ii = gs_im A ii) → (6 - x) * 2000 + 1 < (nN : Int) → sA m_X9_goOn 6 (fun rv F' A' => ∃ z : Int, rv = some (gs_iv z) ∧ gs_I F' A' ∧ gs_fr (fun c j => c = 106 ∧ (j = 13 ∨ j = 15)) (fun c => c = 114 ∨ c = 115 ∨ c = 119 ∨ c = 120) F A F' A' ∧ ((z = 1 ∧ ∀ ii : Nat, (ii : Int) < 2 * F 106 0 → gs_plm F A p (gs_im A ii) = some (gs_im A' ii)) ∨ (z = 0 ∧ ∃ ii : Nat, (ii : Int) < 2 * F 106 0 ∧ gs_plm F A p (gs_im A ii) = none))) 2 [(2, gs_iv x), (0, .ref 106), (1, gs_iv p)] [] F1 A1) ∧ (∀ (x : Int) (k : Int)  (F1 A1 : gs_F), gs_I F1 A1 → gs_fr (fun c j => c = 106 ∧ (j = 13 ∨ j = 15)) (fun c => c = 114 ∨ c = 115 ∨ c = 119 ∨ c = 120) F A F1 A1 → 0 ≤ x ∧ x < 6 → 0 ≤ k ∧ k ≤ F1 106 13 → F1 106 13 ≤ 400 → x < 2 * F 106 0 ∧ F1 106 0 = F 106 0 → (∀ ii : Nat, (ii : Int) < x → gs_plm F A p (gs_im A ii) = some (gs_im A1 ii)) → (∀ ii : Nat, x ≤ (ii : Int) → (ii : Int) < 2 * F 106 0 → gs_im A1 ii = gs_im A ii) → F1 106 13 = A1 120 x.toNat → (∀ j : Int, 0 ≤ j → j < k → A1 114 j.toNat = A1 119 (400 * x + j).toNat) → (6 - x) * 2000 - k < (nN : Int) → sA m_X9_goOn 6 (fun rv F' A' => ∃ z : Int, rv = some (gs_iv z) ∧ gs_I F' A' ∧ gs_fr (fun c j => c = 106 ∧ (j = 13 ∨ j = 15)) (fun c => c = 114 ∨ c = 115 ∨ c = 119 ∨ c = 120) F A F' A' ∧ ((z = 1 ∧ ∀ ii : Nat, (ii : Int) < 2 * F 106 0 → gs_plm F A p (gs_im A ii) = some (gs_im A' ii)) ∨ (z = 0 ∧ ∃ ii : Nat, (ii : Int) < 2 * F 106 0 ∧ gs_plm F A p (gs_im A ii) = none))) 24 [(3, gs_iv k), (2, gs_iv x), (0, .ref 106), (1, gs_iv p)] [] F1 A1) ∧ (∀ (x : Int) (k : Int)  (F1 A1 : gs_F), gs_I F1 A1 → gs_fr (fun c j => c = 106 ∧ (j = 13 ∨ j = 15)) (fun c => c = 114 ∨ c = 115 ∨ c = 119 ∨ c = 120) F A F1 A1 → 0 ≤ x ∧ x < 6 → 0 ≤ k ∧ k ≤ F1 106 13 → F1 106 13 ≤ 400 → x < 2 * F 106 0 ∧ F1 106 0 = F 106 0 → (∀ ii : Nat, (ii : Int) < x → gs_plm F A p (gs_im A ii) = some (gs_im A1 ii)) → (∀ ii : Nat, x + 1 ≤ (ii : Int) → (ii : Int) < 2 * F 106 0 → gs_im A1 ii = gs_im A ii) → gs_plm F A p (gs_im A x.toNat) = some (gs_stk (A1 114) (F1 106 13).toNat) → A1 120 x.toNat = F1 106 13 → (∀ j : Int, 0 ≤ j → j < k → A1 119 (400 * x + j).toNat = A1 114 j.toNat) → (6 - x) * 2000 - 500 - k < (nN : Int) → sA m_X9_goOn 6 (fun rv F' A' => ∃ z : Int, rv = some (gs_iv z) ∧ gs_I F' A' ∧ gs_fr (fun c j => c = 106 ∧ (j = 13 ∨ j = 15)) (fun c => c = 114 ∨ c = 115 ∨ c = 119 ∨ c = 120) F A F' A' ∧ ((z = 1 ∧ ∀ ii : Nat, (ii : Int) < 2 * F 106 0 → gs_plm F A p (gs_im A ii) = some (gs_im A' ii)) ∨ (z = 0 ∧ ∃ ii : Nat, (ii : Int) < 2 * F 106 0 ∧ gs_plm F A p (gs_im A ii) = none))) 78 [(3, gs_iv k), (2, gs_iv x), (0, .ref 106), (1, gs_iv p)] [] F1 A1) := by
  intro nN
  induction nN with
  | zero =>
    exact ⟨fun a0 a1 a2 a3 a4 i0 i1 i2 i3 hm => by exfalso; omega, fun a0 a1 a2 a3 a4 a5 i0 i1 i2 i3 i4 i5 i6 i7 hm => by exfalso; omega, fun a0 a1 a2 a3 a4 a5 i0 i1 i2 i3 i4 i5 i6 i7 i8 hm => by exfalso; omega⟩
  | succ nN ih =>
    refine ⟨?_, ?_, ?_⟩
    · skip
      intro x F1 A1 hI1 hf1 i0 i1 i2 i3 hm
      have b1 : (0 : Int) ≤ F1 106 13 ∧ F1 106 13 ≤ 400 := hI1.1 106 13
      have b2 : (1 : Int) ≤ F1 106 0 ∧ F1 106 0 ≤ 3 := hI1.1 106 0
      have u3 : A1 114 = A1 114 := rfl
      have u4 : A1 119 = A1 119 := rfl
      have u5 : A1 120 = A1 120 := rfl
      refine sA_iload_n dd_X9_goOn_2 rfl (.head _) ?_
      refine sA_iconst (z := 2) dd_X9_goOn_3 ?_
      refine sA_aload_n dd_X9_goOn_4 rfl (.tail _ (.head _)) ?_
      refine sA_geti (ci := 9) (j := 0) (q := (RX9, TX9, 28)) dd_X9_goOn_5 rfl (by decide) fl_X9_64 (by decide) gs_s106 rfl ?_
      refine sA_imul dd_X9_goOn_8 ?_
      refine sA_icmp_ge (tgt := 116) dd_X9_goOn_9 (by decide) (by omega) (by omega) (fun q6 => ?_) (fun q6 => ?_)
      · skip
        refine sA_iconst (z := 1) dd_X9_goOn_116 ?_
        refine sA_bret (z := 1) dd_X9_goOn_117 rfl (by omega) ?_
        refine ⟨_, rfl, hI1, hf1, ?_⟩
        exact .inl ⟨rfl, fun ii hi => i2 ii (by omega)⟩
      · skip
        refine sA_aload_n dd_X9_goOn_12 rfl (.tail _ (.head _)) ?_
        refine sA_aload_n dd_X9_goOn_13 rfl (.tail _ (.head _)) ?_
        refine sA_getr (ci := 9) (j := 26) (q := (RX9, TX9, 28)) dd_X9_goOn_14 rfl (by decide) fl_X9_53 (by decide) gs_s106 rfl ?_
        refine sA_iload_n dd_X9_goOn_17 rfl (.head _) ?_
        refine sA_iald (n := 6) dd_X9_goOn_18 (by decide) gs_s120 (by omega) (by decide) ?_
        have b7 : (0 : Int) ≤ A1 120 x.toNat ∧ A1 120 x.toNat ≤ 400 := hI1.2 120 x.toNat
        refine sA_put (ci := 9) (j := 13) (q := (RX9, TX9, 28)) (ty := .int) dd_X9_goOn_19 rfl (by decide) fl_X9_167 rfl (tyX9_ok 13 (by decide)) rfl rfl (by decide) gs_s106 rfl ?_
        have I9 : gs_I (gs_up F1 106 13 (A1 120 x.toNat)) A1 := gs_I_put hI1 (show (0 : Int) ≤ A1 120 x.toNat ∧ A1 120 x.toNat ≤ 400 by omega)
        have f10 := gs_fr_put hf1 (a := 106) (z := A1 120 x.toNat) (j := 13) (by first | omega | (dsimp only; omega) | (dsimp only) | fail)
        have v11 : gs_up F1 106 13 (A1 120 x.toNat) 106 13 = A1 120 x.toNat := gs_up_self _ _ _ _
        have v12 : (gs_up F1 106 13 (A1 120 x.toNat)) 106 0 = F1 106 0 := gs_up_ne _ _ (by omega)
        generalize gs_up F1 106 13 (A1 120 x.toNat) = F8 at I9 f10 v11 v12 ⊢
        refine sA_iconst (z := 0) dd_X9_goOn_22 ?_
        refine sA_istore_n (lv' := [(3, gs_iv 0), (2, gs_iv x), (0, .ref 106), (1, gs_iv p)]) dd_X9_goOn_23 rfl (by decide) rfl ?_
        have b13 : (0 : Int) ≤ F8 106 13 ∧ F8 106 13 ≤ 400 := I9.1 106 13
        have b14 : (1 : Int) ≤ F8 106 0 ∧ F8 106 0 ≤ 3 := I9.1 106 0
        refine sA_sub (lv2 := [(3, gs_iv 0), (2, gs_iv x), (0, .ref 106), (1, gs_iv p)]) (List.forall_mem_cons.mpr ⟨(.head _), (List.forall_mem_cons.mpr ⟨(.tail _ (.head _)), (List.forall_mem_cons.mpr ⟨(.tail _ (.tail _ (.head _))), (List.forall_mem_cons.mpr ⟨(.tail _ (.tail _ (.tail _ (.head _)))), (fun _ h => absurd h List.not_mem_nil)⟩)⟩)⟩)⟩) ?_
        exact ih.2.1 x 0 F8 A1 I9 f10 (by omega) (by omega) (by omega) (by omega) i2 i3 (by omega) (fun j h1 h2 => by exfalso; omega) (by omega)
    · skip
      intro x k F1 A1 hI1 hf1 i0 i1 i2 i3 i4 i5 i6 i7 hm
      have b15 : (0 : Int) ≤ F1 106 13 ∧ F1 106 13 ≤ 400 := hI1.1 106 13
      have b16 : (1 : Int) ≤ F1 106 0 ∧ F1 106 0 ≤ 3 := hI1.1 106 0
      have u17 : A1 114 = A1 114 := rfl
      have u18 : A1 119 = A1 119 := rfl
      have u19 : A1 120 = A1 120 := rfl
      have hb13 : (0 : Int) ≤ F1 106 13 ∧ F1 106 13 ≤ 400 := hI1.1 106 13
      refine sA_iload_n dd_X9_goOn_24 rfl (.head _) ?_
      refine sA_aload_n dd_X9_goOn_25 rfl (.tail _ (.tail _ (.head _))) ?_
      refine sA_geti (ci := 9) (j := 13) (q := (RX9, TX9, 28)) dd_X9_goOn_26 rfl (by decide) fl_X9_167 (by decide) gs_s106 rfl ?_
      refine sA_icmp_ge (tgt := 56) dd_X9_goOn_29 (by decide) (by omega) (by omega) (fun q20 => ?_) (fun q20 => ?_)
      · skip
        refine sA_aload_n dd_X9_goOn_56 rfl (.tail _ (.tail _ (.head _))) ?_
        refine sA_iload_n dd_X9_goOn_57 rfl (.tail _ (.tail _ (.tail _ (.head _)))) ?_
        have h110 : A1 110 = A 110 := hf1.2 110 (by dsimp only; omega)
        have h111 : A1 111 = A 111 := hf1.2 111 (by dsimp only; omega)
        have hg0 : F1 106 0 = F 106 0 := hf1.1 106 0 (by dsimp only; omega)
        have hcd1 : ∀ i : Int, 0 ≤ i → i < A1 110 p.toNat → 0 ≤ A1 111 (60 * p + i).toNat ∧ A1 111 (60 * p + i).toNat ≤ 15 := by rw [h110, h111]; exact hcd
        have hst : gs_stk (A1 114) (F1 106 13).toNat = gs_im A x.toNat := by
          rw [← i5 x.toNat (by omega) (by omega)]
          unfold gs_im
          rw [i6]
          refine gs_stk_cg _ (fun i hi => ?_)
          show A1 114 i = A1 119 (400 * x.toNat + i)
          have h := i7 i (by omega) (by omega)
          rw [Int.toNat_natCast] at h
          rw [h]
          congr 1
          omega
        refine sA_callV (y2 := m_X9_imageRow) (n2 := 1) (d2 := 5) (a := 106) (ci := 9) (q := (RX9, TX9, 28)) (as := [gs_iv p]) (rest := []) dd_X9_goOn_58 ok_X9_imageRow ml_X9_227 rfl rfl (by decide) gs_s106 rfl rfl (Nat.le_of_ble_eq_true rfl) (by decide) (c_X9_imageRow_vf hI1 (by omega) hcd1) (fun r21 F22 A23 h24 => ?_)
        obtain ⟨z27, e26, I28, f29, x25⟩ := h24
        subst e26
        have v31 : F22 106 0 = F1 106 0 := f29.1 106 0 (by first | exact id | omega | (dsimp only; omega) | (dsimp only) | fail)
        have f32 := gs_fr_tr hf1 f29 (fun b j h => by first | exact False.elim h | omega | (dsimp only at h ⊢; omega) | fail) (fun b h => by first | exact False.elim h | omega | (dsimp only at h ⊢; omega) | fail)
        have u33 : A23 114 = A23 114 := rfl
        have u34 : A23 119 = A1 119 := (f29.2 119 (by first | exact id | omega | (dsimp only; omega) | (dsimp only) | fail)).trans u18
        have u35 : A23 120 = A1 120 := (f29.2 120 (by first | exact id | omega | (dsimp only; omega) | (dsimp only) | fail)).trans u19
        have y36 : (z27 = 1 ∧ sp_pl (fun u => sp_tw (sp_m (F1 106 0) u)) (fun i => A1 111 (60 * p.toNat + i)) (A1 110 p.toNat).toNat (gs_stk (A1 114) (F1 106 13).toNat) = some (gs_stk (A23 114) (F22 106 13).toNat)) ∨ (z27 = 0 ∧ sp_pl (fun u => sp_tw (sp_m (F1 106 0) u)) (fun i => A1 111 (60 * p.toNat + i)) (A1 110 p.toNat).toNat (gs_stk (A1 114) (F1 106 13).toNat) = none) := x25
        clear x25
        show sA _ _ _ 61 _ [gs_iv z27] _ _
        refine sA_if_ne (tgt := 66) dd_X9_goOn_61 (by decide) (by omega) (fun q37 => ?_) (fun q37 => ?_)
        · skip
          refine sA_aload_n dd_X9_goOn_66 rfl (.tail _ (.tail _ (.head _))) ?_
          refine sA_getr (ci := 9) (j := 26) (q := (RX9, TX9, 28)) dd_X9_goOn_67 rfl (by decide) fl_X9_53 (by decide) gs_s106 rfl ?_
          refine sA_iload_n dd_X9_goOn_70 rfl (.tail _ (.head _)) ?_
          refine sA_aload_n dd_X9_goOn_71 rfl (.tail _ (.tail _ (.head _))) ?_
          refine sA_geti (ci := 9) (j := 13) (q := (RX9, TX9, 28)) dd_X9_goOn_72 rfl (by decide) fl_X9_167 (by decide) gs_s106 rfl ?_
          have b38 : (0 : Int) ≤ F22 106 13 ∧ F22 106 13 ≤ 400 := I28.1 106 13
          refine sA_iast (n := 6) dd_X9_goOn_75 (by decide) gs_s120 (by omega) (by decide) ?_
          have I40 : gs_I F22 (gs_up A23 120 x.toNat (F22 106 13)) := gs_I_ast I28 (show (0 : Int) ≤ F22 106 13 ∧ F22 106 13 ≤ 400 by omega)
          have f41 := gs_fr_ast f32 (a := 120) (z := F22 106 13) (i := x.toNat) (by first | omega | (dsimp only; omega) | (dsimp only) | fail)
          have u42 : (gs_up A23 120 x.toNat (F22 106 13)) 114 = A23 114 := (gs_up_row _ _ (by omega)).trans u33
          have u43 : (gs_up A23 120 x.toNat (F22 106 13)) 119 = A1 119 := (gs_up_row _ _ (by omega)).trans u34
          have u44 : (gs_up A23 120 x.toNat (F22 106 13)) 120 = gs_u (A1 120) x.toNat (F22 106 13) := (gs_up_u A23 120 x.toNat (F22 106 13)).trans (congrArg (fun f => gs_u f x.toNat (F22 106 13)) u35)
          generalize gs_up A23 120 x.toNat (F22 106 13) = A39 at I40 f41 u42 u43 u44 ⊢
          refine sA_iconst (z := 0) dd_X9_goOn_76 ?_
          refine sA_istore_n (lv' := [(3, gs_iv 0), (2, gs_iv x), (0, .ref 106), (1, gs_iv p)]) dd_X9_goOn_77 rfl (by decide) rfl ?_
          have b45 : (1 : Int) ≤ F22 106 0 ∧ F22 106 0 ≤ 3 := I40.1 106 0
          refine sA_sub (lv2 := [(3, gs_iv 0), (2, gs_iv x), (0, .ref 106), (1, gs_iv p)]) (List.forall_mem_cons.mpr ⟨(.head _), (List.forall_mem_cons.mpr ⟨(.tail _ (.head _)), (List.forall_mem_cons.mpr ⟨(.tail _ (.tail _ (.head _))), (List.forall_mem_cons.mpr ⟨(.tail _ (.tail _ (.tail _ (.head _)))), (fun _ h => absurd h List.not_mem_nil)⟩)⟩)⟩)⟩) ?_
          exact ih.2.2 x 0 F22 A39 I40 f41 (by omega) (by omega) (by omega) (by omega) (fun ii hi => by rw [(gs_im_fr (A := A1) (A2 := A39) (x := x) (by omega) (fun j => (show (0 : Int) ≤ A1 120 j ∧ A1 120 j ≤ 400 from hI1.2 120 j).2) (fun j h => by rw [u44, gs_u_ne _ _ (by omega)]) (fun j _ _ => by rw [u43]) ii (by omega))]; exact i4 ii hi) (fun ii h1 h2 => by rw [(gs_im_fr (A := A1) (A2 := A39) (x := x) (by omega) (fun j => (show (0 : Int) ≤ A1 120 j ∧ A1 120 j ≤ 400 from hI1.2 120 j).2) (fun j h => by rw [u44, gs_u_ne _ _ (by omega)]) (fun j _ _ => by rw [u43]) ii (by omega))]; exact i5 ii (by omega) h2) (by rcases y36 with y | y <;> first | (exfalso; omega) | (have y2 := y.2; rw [h110, h111, hg0, hst] at y2; rw [u42]; exact y2) | fail) (by rw [u44, gs_u_self]) (fun j h1 h2 => by exfalso; omega) (by omega)
        · skip
          refine sA_iconst (z := 0) dd_X9_goOn_64 ?_
          refine sA_bret (z := 0) dd_X9_goOn_65 rfl (by omega) ?_
          refine ⟨_, rfl, I28, f32, ?_⟩
          rcases y36 with y | y
          · exfalso
            omega
          · refine .inr ⟨rfl, x.toNat, by omega, ?_⟩
            have y2 := y.2
            rw [h110, h111, hg0, hst] at y2
            exact y2
      · skip
        refine sA_aload_n dd_X9_goOn_32 rfl (.tail _ (.tail _ (.head _))) ?_
        refine sA_getr (ci := 9) (j := 12) (q := (RX9, TX9, 28)) dd_X9_goOn_33 rfl (by decide) fl_X9_31 (by decide) gs_s106 rfl ?_
        refine sA_iload_n dd_X9_goOn_36 rfl (.head _) ?_
        refine sA_aload_n dd_X9_goOn_37 rfl (.tail _ (.tail _ (.head _))) ?_
        refine sA_getr (ci := 9) (j := 25) (q := (RX9, TX9, 28)) dd_X9_goOn_38 rfl (by decide) fl_X9_50 (by decide) gs_s106 rfl ?_
        refine sA_sipush (z := 400) dd_X9_goOn_41 (by decide) ?_
        refine sA_iload_n dd_X9_goOn_44 rfl (.tail _ (.head _)) ?_
        refine sA_imul dd_X9_goOn_45 ?_
        refine sA_iload_n dd_X9_goOn_46 rfl (.head _) ?_
        refine sA_iadd dd_X9_goOn_47 ?_
        refine sA_iald (n := 2400) dd_X9_goOn_48 (by decide) gs_s119 (by omega) (by decide) ?_
        have b46 : (-9 : Int) ≤ A1 119 ((400 * x) + k).toNat ∧ A1 119 ((400 * x) + k).toNat ≤ 9 := hI1.2 119 ((400 * x) + k).toNat
        refine sA_iast (n := 401) dd_X9_goOn_49 (by decide) gs_s114 (by omega) (by decide) ?_
        have I48 : gs_I F1 (gs_up A1 114 k.toNat (A1 119 ((400 * x) + k).toNat)) := gs_I_ast hI1 (show (-9 : Int) ≤ A1 119 ((400 * x) + k).toNat ∧ A1 119 ((400 * x) + k).toNat ≤ 9 by omega)
        have f49 := gs_fr_ast hf1 (a := 114) (z := A1 119 ((400 * x) + k).toNat) (i := k.toNat) (by first | omega | (dsimp only; omega) | (dsimp only) | fail)
        have u50 : (gs_up A1 114 k.toNat (A1 119 ((400 * x) + k).toNat)) 114 = gs_u (A1 114) k.toNat (A1 119 ((400 * x) + k).toNat) := (gs_up_u A1 114 k.toNat (A1 119 ((400 * x) + k).toNat)).trans (congrArg (fun f => gs_u f k.toNat (A1 119 ((400 * x) + k).toNat)) u17)
        have u51 : (gs_up A1 114 k.toNat (A1 119 ((400 * x) + k).toNat)) 119 = A1 119 := (gs_up_row _ _ (by omega)).trans u18
        have u52 : (gs_up A1 114 k.toNat (A1 119 ((400 * x) + k).toNat)) 120 = A1 120 := (gs_up_row _ _ (by omega)).trans u19
        generalize gs_up A1 114 k.toNat (A1 119 ((400 * x) + k).toNat) = A47 at I48 f49 u50 u51 u52 ⊢
        refine sA_iinc (lv' := [(3, gs_iv (k + 1)), (2, gs_iv x), (0, .ref 106), (1, gs_iv p)]) dd_X9_goOn_50 (.head _) (by decide) rfl ?_
        refine sA_goto (tgt := 24) dd_X9_goOn_53 (by decide) ?_
        refine sA_sub (lv2 := [(3, gs_iv (k + 1)), (2, gs_iv x), (0, .ref 106), (1, gs_iv p)]) (List.forall_mem_cons.mpr ⟨(.head _), (List.forall_mem_cons.mpr ⟨(.tail _ (.head _)), (List.forall_mem_cons.mpr ⟨(.tail _ (.tail _ (.head _))), (List.forall_mem_cons.mpr ⟨(.tail _ (.tail _ (.tail _ (.head _)))), (fun _ h => absurd h List.not_mem_nil)⟩)⟩)⟩)⟩) ?_
        exact ih.2.1 x (k + 1) F1 A47 I48 f49 (by omega) (by omega) (by omega) (by omega) (fun ii hi => by rw [gs_im_cg u51 u52]; exact i4 ii hi) (fun ii h1 h2 => by rw [gs_im_cg u51 u52]; exact i5 ii h1 h2) (by rw [u52]; exact i6) (by rw [u51]; exact gs_u_ext (h := fun j => A1 119 (400 * x + j).toNat) (by omega) u50 rfl i7) (by omega)
    · skip
      intro x k F1 A1 hI1 hf1 i0 i1 i2 i3 i4 i5 i6 i7 i8 hm
      have b53 : (0 : Int) ≤ F1 106 13 ∧ F1 106 13 ≤ 400 := hI1.1 106 13
      have b54 : (1 : Int) ≤ F1 106 0 ∧ F1 106 0 ≤ 3 := hI1.1 106 0
      have u55 : A1 114 = A1 114 := rfl
      have u56 : A1 119 = A1 119 := rfl
      have u57 : A1 120 = A1 120 := rfl
      have hb13 : (0 : Int) ≤ F1 106 13 ∧ F1 106 13 ≤ 400 := hI1.1 106 13
      refine sA_iload_n dd_X9_goOn_78 rfl (.head _) ?_
      refine sA_aload_n dd_X9_goOn_79 rfl (.tail _ (.tail _ (.head _))) ?_
      refine sA_geti (ci := 9) (j := 13) (q := (RX9, TX9, 28)) dd_X9_goOn_80 rfl (by decide) fl_X9_167 (by decide) gs_s106 rfl ?_
      refine sA_icmp_ge (tgt := 110) dd_X9_goOn_83 (by decide) (by omega) (by omega) (fun q58 => ?_) (fun q58 => ?_)
      · skip
        refine sA_iinc (lv' := [(2, gs_iv (x + 1)), (3, gs_iv k), (0, .ref 106), (1, gs_iv p)]) dd_X9_goOn_110 (.tail _ (.head _)) (by decide) rfl ?_
        refine sA_goto (tgt := 2) dd_X9_goOn_113 (by decide) ?_
        refine sA_sub (lv2 := [(2, gs_iv (x + 1)), (0, .ref 106), (1, gs_iv p)]) (List.forall_mem_cons.mpr ⟨(.head _), (List.forall_mem_cons.mpr ⟨(.tail _ (.tail _ (.head _))), (List.forall_mem_cons.mpr ⟨(.tail _ (.tail _ (.tail _ (.head _)))), (fun _ h => absurd h List.not_mem_nil)⟩)⟩)⟩) ?_
        exact ih.1 (x + 1) F1 A1 hI1 hf1 (by omega) (by omega) (fun ii hi => by by_cases h : (ii : Int) = x <;> first | exact i4 ii (by omega) | (rw [show ii = x.toNat by omega, i6, gs_im_row (by omega) (by omega) i7 i8]) | fail) (fun ii h1 h2 => i5 ii (by omega) h2) (by omega)
      · skip
        refine sA_aload_n dd_X9_goOn_86 rfl (.tail _ (.tail _ (.head _))) ?_
        refine sA_getr (ci := 9) (j := 25) (q := (RX9, TX9, 28)) dd_X9_goOn_87 rfl (by decide) fl_X9_50 (by decide) gs_s106 rfl ?_
        refine sA_sipush (z := 400) dd_X9_goOn_90 (by decide) ?_
        refine sA_iload_n dd_X9_goOn_93 rfl (.tail _ (.head _)) ?_
        refine sA_imul dd_X9_goOn_94 ?_
        refine sA_iload_n dd_X9_goOn_95 rfl (.head _) ?_
        refine sA_iadd dd_X9_goOn_96 ?_
        refine sA_aload_n dd_X9_goOn_97 rfl (.tail _ (.tail _ (.head _))) ?_
        refine sA_getr (ci := 9) (j := 12) (q := (RX9, TX9, 28)) dd_X9_goOn_98 rfl (by decide) fl_X9_31 (by decide) gs_s106 rfl ?_
        refine sA_iload_n dd_X9_goOn_101 rfl (.head _) ?_
        refine sA_iald (n := 401) dd_X9_goOn_102 (by decide) gs_s114 (by omega) (by decide) ?_
        have b59 : (-9 : Int) ≤ A1 114 k.toNat ∧ A1 114 k.toNat ≤ 9 := hI1.2 114 k.toNat
        refine sA_iast (n := 2400) dd_X9_goOn_103 (by decide) gs_s119 (by omega) (by decide) ?_
        have I61 : gs_I F1 (gs_up A1 119 (((400 * x) + k).toNat) (A1 114 k.toNat)) := gs_I_ast hI1 (show (-9 : Int) ≤ A1 114 k.toNat ∧ A1 114 k.toNat ≤ 9 by omega)
        have f62 := gs_fr_ast hf1 (a := 119) (z := A1 114 k.toNat) (i := ((400 * x) + k).toNat) (by first | omega | (dsimp only; omega) | (dsimp only) | fail)
        have u63 : (gs_up A1 119 (((400 * x) + k).toNat) (A1 114 k.toNat)) 114 = A1 114 := (gs_up_row _ _ (by omega)).trans u55
        have u64 : (gs_up A1 119 (((400 * x) + k).toNat) (A1 114 k.toNat)) 119 = gs_u (A1 119) (((400 * x) + k).toNat) (A1 114 k.toNat) := (gs_up_u A1 119 (((400 * x) + k).toNat) (A1 114 k.toNat)).trans (congrArg (fun f => gs_u f (((400 * x) + k).toNat) (A1 114 k.toNat)) u56)
        have u65 : (gs_up A1 119 (((400 * x) + k).toNat) (A1 114 k.toNat)) 120 = A1 120 := (gs_up_row _ _ (by omega)).trans u57
        generalize gs_up A1 119 (((400 * x) + k).toNat) (A1 114 k.toNat) = A60 at I61 f62 u63 u64 u65 ⊢
        refine sA_iinc (lv' := [(3, gs_iv (k + 1)), (2, gs_iv x), (0, .ref 106), (1, gs_iv p)]) dd_X9_goOn_104 (.head _) (by decide) rfl ?_
        refine sA_goto (tgt := 78) dd_X9_goOn_107 (by decide) ?_
        refine sA_sub (lv2 := [(3, gs_iv (k + 1)), (2, gs_iv x), (0, .ref 106), (1, gs_iv p)]) (List.forall_mem_cons.mpr ⟨(.head _), (List.forall_mem_cons.mpr ⟨(.tail _ (.head _)), (List.forall_mem_cons.mpr ⟨(.tail _ (.tail _ (.head _))), (List.forall_mem_cons.mpr ⟨(.tail _ (.tail _ (.tail _ (.head _)))), (fun _ h => absurd h List.not_mem_nil)⟩)⟩)⟩)⟩) ?_
        exact ih.2.2 x (k + 1) F1 A60 I61 f62 (by omega) (by omega) (by omega) (by omega) (fun ii hi => by rw [(gs_im_fr (A := A1) (A2 := A60) (x := x) (by omega) (fun j => (show (0 : Int) ≤ A1 120 j ∧ A1 120 j ≤ 400 from hI1.2 120 j).2) (fun j h => by rw [u65]) (fun j _ _ => by rw [u64, gs_u_ne _ _ (by omega)]) ii (by omega))]; exact i4 ii hi) (fun ii h1 h2 => by rw [(gs_im_fr (A := A1) (A2 := A60) (x := x) (by omega) (fun j => (show (0 : Int) ≤ A1 120 j ∧ A1 120 j ≤ 400 from hI1.2 120 j).2) (fun j h => by rw [u65]) (fun j _ _ => by rw [u64, gs_u_ne _ _ (by omega)]) ii (by omega))]; exact i5 ii (by omega) h2) (by rw [u63]; exact i6) (by rw [u65]; exact i7) (by rw [u63]; exact gs_feed_ext (N := 400 * x) (m := k) (h := fun j => A1 114 j.toNat) (by omega) (by omega) u64 rfl i8) (by omega)
theorem c_X9_goOn_vf {p : Int} {F A : gs_F} (hI : gs_I F A) (hp : 0 ≤ p ∧ p ≤ 8) (hcd : ∀ i : Int, 0 ≤ i → i < A 110 p.toNat → 0 ≤ A 111 (60 * p + i).toNat ∧ A 111 (60 * p + i).toNat ≤ 15) : sC m_X9_goOn 6 [.ref 106, gs_iv p] F A (fun rv F' A' => ∃ z : Int, rv = some (gs_iv z) ∧ gs_I F' A' ∧ gs_fr (fun c j => c = 106 ∧ (j = 13 ∨ j = 15)) (fun c => c = 114 ∨ c = 115 ∨ c = 119 ∨ c = 120) F A F' A' ∧ ((z = 1 ∧ ∀ ii : Nat, (ii : Int) < 2 * F 106 0 → gs_plm F A p (gs_im A ii) = some (gs_im A' ii)) ∨ (z = 0 ∧ ∃ ii : Nat, (ii : Int) < 2 * F 106 0 ∧ gs_plm F A p (gs_im A ii) = none))) := by
  refine sC_of ok_X9_goOn.1 (Nat.le_of_ble_eq_true rfl) ?_
  show sA _ _ _ 0 [(0, .ref 106), (1, gs_iv p)] [] F A
  have hf : gs_fr (fun c j => c = 106 ∧ (j = 13 ∨ j = 15)) (fun c => c = 114 ∨ c = 115 ∨ c = 119 ∨ c = 120) F A F A := gs_fr_refl _ _ _ _
  have b66 : (0 : Int) ≤ F 106 13 ∧ F 106 13 ≤ 400 := hI.1 106 13
  have b67 : (1 : Int) ≤ F 106 0 ∧ F 106 0 ≤ 3 := hI.1 106 0
  have u68 : A 114 = A 114 := rfl
  have u69 : A 119 = A 119 := rfl
  have u70 : A 120 = A 120 := rfl
  have hb0 : (1 : Int) ≤ F 106 0 ∧ F 106 0 ≤ 3 := hI.1 106 0
  refine sA_iconst (z := 0) dd_X9_goOn_0 ?_
  refine sA_istore_n (lv' := [(2, gs_iv 0), (0, .ref 106), (1, gs_iv p)]) dd_X9_goOn_1 rfl (by decide) rfl ?_
  refine sA_sub (lv2 := [(2, gs_iv 0), (0, .ref 106), (1, gs_iv p)]) (List.forall_mem_cons.mpr ⟨(.head _), (List.forall_mem_cons.mpr ⟨(.tail _ (.head _)), (List.forall_mem_cons.mpr ⟨(.tail _ (.tail _ (.head _))), (fun _ h => absurd h List.not_mem_nil)⟩)⟩)⟩) ?_
  exact (k_X9_goOn_vf hI hp hcd ((6 - 0) * 2000 + 1 : Int).toNat.succ).1 0 F A hI hf (by omega) (by omega) (fun ii hi => by exfalso; omega) (fun ii h1 h2 => rfl) (by omega)
theorem c_X9_findImages_vf {p : Int} {F A : gs_F} (hI : gs_I F A) (hp : 0 ≤ p ∧ p ≤ 8) (hcd : ∀ i : Int, 0 ≤ i → i < A 110 p.toNat → 0 ≤ A 111 (60 * p + i).toNat ∧ A 111 (60 * p + i).toNat ≤ 15) : sC m_X9_findImages 7 [.ref 106, gs_iv p] F A (fun rv F' A' => ∃ z : Int, rv = some (gs_iv z) ∧ gs_I F' A' ∧ gs_fr (fun c j => c = 106 ∧ (j = 13 ∨ j = 15)) (fun c => c = 114 ∨ c = 115 ∨ c = 119 ∨ c = 120) F A F' A' ∧ ((z = 1 ∧ ∀ ii : Nat, (ii : Int) < 2 * F 106 0 → gs_plm F A p [(ii : Int) + 1] = some (gs_im A' ii)) ∨ (z = 0 ∧ ∃ ii : Nat, (ii : Int) < 2 * F 106 0 ∧ gs_plm F A p [(ii : Int) + 1] = none))) := by
  refine sC_of ok_X9_findImages.1 (Nat.le_of_ble_eq_true rfl) ?_
  show sA _ _ _ 0 [(0, .ref 106), (1, gs_iv p)] [] F A
  have hf : gs_fr (fun c j => c = 106 ∧ (j = 13 ∨ j = 15)) (fun c => c = 114 ∨ c = 115 ∨ c = 119 ∨ c = 120) F A F A := gs_fr_refl _ _ _ _
  refine sA_aload_n dd_X9_findImages_0 rfl (.head _) ?_
  refine sA_callV (y2 := m_X9_startImages) (n2 := 0) (d2 := 1) (a := 106) (ci := 9) (q := (RX9, TX9, 28)) (as := []) (rest := []) dd_X9_findImages_1 ok_X9_startImages ml_X9_236 rfl rfl (by decide) gs_s106 rfl rfl (Nat.le_of_ble_eq_true rfl) (by decide) (c_X9_startImages_vf hI ) (fun r1 F2 A3 h4 => ?_)
  obtain ⟨e6, I7, f8, x5⟩ := h4
  subst e6
  have f9 := gs_fr_tr hf f8 (fun b j h => by first | exact False.elim h | omega | (dsimp only at h ⊢; omega) | fail) (fun b h => by first | exact False.elim h | omega | (dsimp only at h ⊢; omega) | fail)
  have y10 : ∀ ii : Nat, (ii : Int) < 2 * F 106 0 → gs_im A3 ii = [(ii : Int) + 1] := x5
  clear x5
  show sA _ _ _ 4 _ [] _ _
  refine sA_aload_n dd_X9_findImages_4 rfl (.head _) ?_
  refine sA_iload_n dd_X9_findImages_5 rfl (.tail _ (.head _)) ?_
  have h110 : A3 110 = A 110 := f9.2 110 (by dsimp only; omega)
  have h111 : A3 111 = A 111 := f9.2 111 (by dsimp only; omega)
  have hg0 : F2 106 0 = F 106 0 := f9.1 106 0 (by dsimp only; omega)
  have hcd1 : ∀ i : Int, 0 ≤ i → i < A3 110 p.toNat → 0 ≤ A3 111 (60 * p + i).toNat ∧ A3 111 (60 * p + i).toNat ≤ 15 := by rw [h110, h111]; exact hcd
  refine sA_callV (y2 := m_X9_goOn) (n2 := 1) (d2 := 6) (a := 106) (ci := 9) (q := (RX9, TX9, 28)) (as := [gs_iv p]) (rest := []) dd_X9_findImages_6 ok_X9_goOn ml_X9_239 rfl rfl (by decide) gs_s106 rfl rfl (Nat.le_of_ble_eq_true rfl) (by decide) (c_X9_goOn_vf I7 (by omega) hcd1) (fun r11 F12 A13 h14 => ?_)
  obtain ⟨z17, e16, I18, f19, x15⟩ := h14
  subst e16
  have f20 := gs_fr_tr f9 f19 (fun b j h => by first | exact False.elim h | omega | (dsimp only at h ⊢; omega) | fail) (fun b h => by first | exact False.elim h | omega | (dsimp only at h ⊢; omega) | fail)
  have y21 : (z17 = 1 ∧ ∀ ii : Nat, (ii : Int) < 2 * F2 106 0 → gs_plm F2 A3 p (gs_im A3 ii) = some (gs_im A13 ii)) ∨ (z17 = 0 ∧ ∃ ii : Nat, (ii : Int) < 2 * F2 106 0 ∧ gs_plm F2 A3 p (gs_im A3 ii) = none) := x15
  clear x15
  show sA _ _ _ 9 _ [gs_iv z17] _ _
  refine sA_bret (z := z17) dd_X9_findImages_9 rfl (by omega) ?_
  refine ⟨_, rfl, I18, f20, ?_⟩
  have e : ∀ r, gs_plm F2 A3 p r = gs_plm F A p r := fun r => by
    unfold gs_plm
    rw [h110, h111, hg0]
  rcases y21 with y | y
  · refine .inl ⟨y.1, fun ii hi => ?_⟩
    have y2 := y.2 ii (by omega)
    rw [e, y10 ii (by omega)] at y2
    exact y2
  · obtain ⟨y1, ii, hi, y2⟩ := y
    rw [e, y10 ii (by omega)] at y2
    exact .inr ⟨y1, ii, by omega, y2⟩
theorem k_X9_isImage_vf {x : Int} {F A : gs_F} (hI : gs_I F A) (hx : 0 ≤ x ∧ x < 6) : ∀ nN : Nat, (∀ (b : Int) (k : Int),  b = 0 ∨ b = 1 → 0 ≤ k ∧ k ≤ F 106 13 → (b = 1 → F 106 13 = A 120 x.toNat) → (b = 1 → ∀ j : Int, 0 ≤ j → j < k → A 114 j.toNat = A 119 (400 * x + j).toNat) → (b = 0 → ¬ (gs_stk (A 114) (F 106 13).toNat = gs_im A x.toNat)) → F 106 13 - k < (nN : Int) → sA m_X9_isImage 1 (fun rv F' A' => ∃ z : Int, rv = some (gs_iv z) ∧ F = F' ∧ A = A' ∧ ((z = 1 ∧ (gs_stk (A 114) (F 106 13).toNat = gs_im A x.toNat)) ∨ (z = 0 ∧ ¬ (gs_stk (A 114) (F 106 13).toNat = gs_im A x.toNat)))) 21 [(3, gs_iv k), (2, gs_iv b), (0, .ref 106), (1, gs_iv x)] [] F A) := by
  intro nN
  induction nN with
  | zero =>
    exact fun a0 a1 i0 i1 i2 i3 i4 hm => by exfalso; omega
  | succ nN ih =>
    intro b k i0 i1 i2 i3 i4 hm
    refine sA_iload_n dd_X9_isImage_21 rfl (.head _) ?_
    refine sA_aload_n dd_X9_isImage_22 rfl (.tail _ (.tail _ (.head _))) ?_
    refine sA_geti (ci := 9) (j := 13) (q := (RX9, TX9, 28)) dd_X9_isImage_23 rfl (by decide) fl_X9_167 (by decide) gs_s106 rfl ?_
    have b1 : (0 : Int) ≤ F 106 13 ∧ F 106 13 ≤ 400 := hI.1 106 13
    refine sA_icmp_ge (tgt := 66) dd_X9_isImage_26 (by decide) (by omega) (by omega) (fun q2 => ?_) (fun q2 => ?_)
    · skip
      refine sA_iload_n dd_X9_isImage_66 rfl (.tail _ (.head _)) ?_
      refine sA_bret (z := b) dd_X9_isImage_67 rfl (by omega) ?_
      refine ⟨_, rfl, rfl, rfl, ?_⟩
      rcases i0 with h | h
      · exact .inr ⟨h, i4 h⟩
      · refine .inl ⟨h, ?_⟩
        have e := i2 h
        unfold gs_im
        rw [← e]
        refine gs_stk_cg _ (fun i hi => ?_)
        have w := i3 h i (by omega) (by omega)
        rw [Int.toNat_natCast] at w
        show A 114 i = A 119 (400 * x.toNat + i)
        rw [w]
        congr 1
        omega
    · skip
      refine sA_iload_n dd_X9_isImage_29 rfl (.tail _ (.head _)) ?_
      refine sA_if_eq (tgt := 66) dd_X9_isImage_30 (by decide) (by omega) (fun q3 => ?_) (fun q3 => ?_)
      · skip
        refine sA_iload_n dd_X9_isImage_66 rfl (.tail _ (.head _)) ?_
        refine sA_bret (z := b) dd_X9_isImage_67 rfl (by omega) ?_
        refine ⟨_, rfl, rfl, rfl, ?_⟩
        rcases i0 with h | h
        · exact .inr ⟨h, i4 h⟩
        · refine .inl ⟨h, ?_⟩
          have e := i2 h
          unfold gs_im
          rw [← e]
          refine gs_stk_cg _ (fun i hi => ?_)
          have w := i3 h i (by omega) (by omega)
          rw [Int.toNat_natCast] at w
          show A 114 i = A 119 (400 * x.toNat + i)
          rw [w]
          congr 1
          omega
      · skip
        refine sA_aload_n dd_X9_isImage_33 rfl (.tail _ (.tail _ (.head _))) ?_
        refine sA_getr (ci := 9) (j := 12) (q := (RX9, TX9, 28)) dd_X9_isImage_34 rfl (by decide) fl_X9_31 (by decide) gs_s106 rfl ?_
        refine sA_iload_n dd_X9_isImage_37 rfl (.head _) ?_
        refine sA_iald (n := 401) dd_X9_isImage_38 (by decide) gs_s114 (by omega) (by decide) ?_
        have b4 : (-9 : Int) ≤ A 114 k.toNat ∧ A 114 k.toNat ≤ 9 := hI.2 114 k.toNat
        refine sA_aload_n dd_X9_isImage_39 rfl (.tail _ (.tail _ (.head _))) ?_
        refine sA_getr (ci := 9) (j := 25) (q := (RX9, TX9, 28)) dd_X9_isImage_40 rfl (by decide) fl_X9_50 (by decide) gs_s106 rfl ?_
        refine sA_sipush (z := 400) dd_X9_isImage_43 (by decide) ?_
        refine sA_iload_n dd_X9_isImage_46 rfl (.tail _ (.tail _ (.tail _ (.head _)))) ?_
        refine sA_imul dd_X9_isImage_47 ?_
        refine sA_iload_n dd_X9_isImage_48 rfl (.head _) ?_
        refine sA_iadd dd_X9_isImage_49 ?_
        refine sA_iald (n := 2400) dd_X9_isImage_50 (by decide) gs_s119 (by omega) (by decide) ?_
        have b5 : (-9 : Int) ≤ A 119 ((400 * x) + k).toNat ∧ A 119 ((400 * x) + k).toNat ≤ 9 := hI.2 119 ((400 * x) + k).toNat
        refine sA_icmp_ne (tgt := 58) dd_X9_isImage_51 (by decide) (by omega) (by omega) (fun q6 => ?_) (fun q6 => ?_)
        · skip
          refine sA_iconst (z := 0) dd_X9_isImage_58 ?_
          refine sA_istore_n (lv' := [(2, gs_iv 0), (3, gs_iv k), (0, .ref 106), (1, gs_iv x)]) dd_X9_isImage_59 rfl (by decide) rfl ?_
          refine sA_iinc (lv' := [(3, gs_iv (k + 1)), (2, gs_iv 0), (0, .ref 106), (1, gs_iv x)]) dd_X9_isImage_60 (.tail _ (.head _)) (by decide) rfl ?_
          refine sA_goto (tgt := 21) dd_X9_isImage_63 (by decide) ?_
          refine sA_sub (lv2 := [(3, gs_iv (k + 1)), (2, gs_iv 0), (0, .ref 106), (1, gs_iv x)]) (List.forall_mem_cons.mpr ⟨(.head _), (List.forall_mem_cons.mpr ⟨(.tail _ (.head _)), (List.forall_mem_cons.mpr ⟨(.tail _ (.tail _ (.head _))), (List.forall_mem_cons.mpr ⟨(.tail _ (.tail _ (.tail _ (.head _)))), (fun _ h => absurd h List.not_mem_nil)⟩)⟩)⟩)⟩) ?_
          exact ih 0 (k + 1)  (by omega) (by omega) (by omega) (by first | (intro h0 j h1 h2; exfalso; omega) | (intro h0 j h1 h2; by_cases h : j < k <;> first | exact i3 (by omega) j h1 h | (have e : j = k := (by omega); rw [e]; omega) | fail) | fail) (by intro h0 w; have w2 := gs_im_inj (by omega) (by omega) (show (0 : Int) ≤ A 120 x.toNat ∧ A 120 x.toNat ≤ 400 from hI.2 120 x.toNat).1 w; first | (exfalso; omega) | (have w3 := w2.2 k (by omega) (by omega); omega) | fail) (by omega)
        · skip
          refine sA_iconst (z := 1) dd_X9_isImage_54 ?_
          refine sA_goto (tgt := 59) dd_X9_isImage_55 (by decide) ?_
          refine sA_istore_n (lv' := [(2, gs_iv 1), (3, gs_iv k), (0, .ref 106), (1, gs_iv x)]) dd_X9_isImage_59 rfl (by decide) rfl ?_
          refine sA_iinc (lv' := [(3, gs_iv (k + 1)), (2, gs_iv 1), (0, .ref 106), (1, gs_iv x)]) dd_X9_isImage_60 (.tail _ (.head _)) (by decide) rfl ?_
          refine sA_goto (tgt := 21) dd_X9_isImage_63 (by decide) ?_
          refine sA_sub (lv2 := [(3, gs_iv (k + 1)), (2, gs_iv 1), (0, .ref 106), (1, gs_iv x)]) (List.forall_mem_cons.mpr ⟨(.head _), (List.forall_mem_cons.mpr ⟨(.tail _ (.head _)), (List.forall_mem_cons.mpr ⟨(.tail _ (.tail _ (.head _))), (List.forall_mem_cons.mpr ⟨(.tail _ (.tail _ (.tail _ (.head _)))), (fun _ h => absurd h List.not_mem_nil)⟩)⟩)⟩)⟩) ?_
          exact ih 1 (k + 1)  (by omega) (by omega) (by omega) (by first | (intro h0 j h1 h2; exfalso; omega) | (intro h0 j h1 h2; by_cases h : j < k <;> first | exact i3 (by omega) j h1 h | (have e : j = k := (by omega); rw [e]; omega) | fail) | fail) (by intro h0 w; have w2 := gs_im_inj (by omega) (by omega) (show (0 : Int) ≤ A 120 x.toNat ∧ A 120 x.toNat ≤ 400 from hI.2 120 x.toNat).1 w; first | (exfalso; omega) | (have w3 := w2.2 k (by omega) (by omega); omega) | fail) (by omega)
theorem c_X9_isImage_vf {x : Int} {F A : gs_F} (hI : gs_I F A) (hx : 0 ≤ x ∧ x < 6) : sC m_X9_isImage 1 [.ref 106, gs_iv x] F A (fun rv F' A' => ∃ z : Int, rv = some (gs_iv z) ∧ F = F' ∧ A = A' ∧ ((z = 1 ∧ (gs_stk (A 114) (F 106 13).toNat = gs_im A x.toNat)) ∨ (z = 0 ∧ ¬ (gs_stk (A 114) (F 106 13).toNat = gs_im A x.toNat)))) := by
  refine sC_of ok_X9_isImage.1 (Nat.le_of_ble_eq_true rfl) ?_
  show sA _ _ _ 0 [(0, .ref 106), (1, gs_iv x)] [] F A
  refine sA_aload_n dd_X9_isImage_0 rfl (.head _) ?_
  refine sA_geti (ci := 9) (j := 13) (q := (RX9, TX9, 28)) dd_X9_isImage_1 rfl (by decide) fl_X9_167 (by decide) gs_s106 rfl ?_
  have b7 : (0 : Int) ≤ F 106 13 ∧ F 106 13 ≤ 400 := hI.1 106 13
  refine sA_aload_n dd_X9_isImage_4 rfl (.head _) ?_
  refine sA_getr (ci := 9) (j := 26) (q := (RX9, TX9, 28)) dd_X9_isImage_5 rfl (by decide) fl_X9_53 (by decide) gs_s106 rfl ?_
  refine sA_iload_n dd_X9_isImage_8 rfl (.tail _ (.head _)) ?_
  refine sA_iald (n := 6) dd_X9_isImage_9 (by decide) gs_s120 (by omega) (by decide) ?_
  have b8 : (0 : Int) ≤ A 120 x.toNat ∧ A 120 x.toNat ≤ 400 := hI.2 120 x.toNat
  refine sA_icmp_ne (tgt := 17) dd_X9_isImage_10 (by decide) (by omega) (by omega) (fun q9 => ?_) (fun q9 => ?_)
  · skip
    refine sA_iconst (z := 0) dd_X9_isImage_17 ?_
    refine sA_istore_n (lv' := [(2, gs_iv 0), (0, .ref 106), (1, gs_iv x)]) dd_X9_isImage_18 rfl (by decide) rfl ?_
    refine sA_iconst (z := 0) dd_X9_isImage_19 ?_
    refine sA_istore_n (lv' := [(3, gs_iv 0), (2, gs_iv 0), (0, .ref 106), (1, gs_iv x)]) dd_X9_isImage_20 rfl (by decide) rfl ?_
    refine sA_sub (lv2 := [(3, gs_iv 0), (2, gs_iv 0), (0, .ref 106), (1, gs_iv x)]) (List.forall_mem_cons.mpr ⟨(.head _), (List.forall_mem_cons.mpr ⟨(.tail _ (.head _)), (List.forall_mem_cons.mpr ⟨(.tail _ (.tail _ (.head _))), (List.forall_mem_cons.mpr ⟨(.tail _ (.tail _ (.tail _ (.head _)))), (fun _ h => absurd h List.not_mem_nil)⟩)⟩)⟩)⟩) ?_
    exact (k_X9_isImage_vf hI hx (F 106 13 - 0 : Int).toNat.succ) 0 0  (by omega) (by omega) (by omega) (by first | (intro h0 j h1 h2; exfalso; omega) | (intro h0 j h1 h2; by_cases h : j < k <;> first | exact i3 (by omega) j h1 h | (have e : j = k := (by omega); rw [e]; omega) | fail) | fail) (by intro h0 w; have w2 := gs_im_inj (by omega) (by omega) (show (0 : Int) ≤ A 120 x.toNat ∧ A 120 x.toNat ≤ 400 from hI.2 120 x.toNat).1 w; first | (exfalso; omega) | (have w3 := w2.2 k (by omega) (by omega); omega) | fail) (by omega)
  · skip
    refine sA_iconst (z := 1) dd_X9_isImage_13 ?_
    refine sA_goto (tgt := 18) dd_X9_isImage_14 (by decide) ?_
    refine sA_istore_n (lv' := [(2, gs_iv 1), (0, .ref 106), (1, gs_iv x)]) dd_X9_isImage_18 rfl (by decide) rfl ?_
    refine sA_iconst (z := 0) dd_X9_isImage_19 ?_
    refine sA_istore_n (lv' := [(3, gs_iv 0), (2, gs_iv 1), (0, .ref 106), (1, gs_iv x)]) dd_X9_isImage_20 rfl (by decide) rfl ?_
    refine sA_sub (lv2 := [(3, gs_iv 0), (2, gs_iv 1), (0, .ref 106), (1, gs_iv x)]) (List.forall_mem_cons.mpr ⟨(.head _), (List.forall_mem_cons.mpr ⟨(.tail _ (.head _)), (List.forall_mem_cons.mpr ⟨(.tail _ (.tail _ (.head _))), (List.forall_mem_cons.mpr ⟨(.tail _ (.tail _ (.tail _ (.head _)))), (fun _ h => absurd h List.not_mem_nil)⟩)⟩)⟩)⟩) ?_
    exact (k_X9_isImage_vf hI hx (F 106 13 - 0 : Int).toNat.succ) 1 0  (by omega) (by omega) (by omega) (by first | (intro h0 j h1 h2; exfalso; omega) | (intro h0 j h1 h2; by_cases h : j < k <;> first | exact i3 (by omega) j h1 h | (have e : j = k := (by omega); rw [e]; omega) | fail) | fail) (by intro h0 w; have w2 := gs_im_inj (by omega) (by omega) (show (0 : Int) ≤ A 120 x.toNat ∧ A 120 x.toNat ≤ 400 from hI.2 120 x.toNat).1 w; first | (exfalso; omega) | (have w3 := w2.2 k (by omega) (by omega); omega) | fail) (by omega)
end
