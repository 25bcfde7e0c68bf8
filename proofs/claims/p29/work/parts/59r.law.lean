noncomputable section
/-! ===== law ===== -/
def sp_p2 (g a b x : Int) : Option (List Int) := sp_pl (fun u => sp_tw (sp_m g u)) (fun i => if i = 0 then a else b) 2 [x]
def sp_p3 (g a b x : Int) : Option (List Int) := sp_pl (fun u => sp_tw (sp_m g u)) (fun i => if i = 1 then b else a) 3 [x]
theorem sp_p23_all : ∀ g : Fin 4, 1 ≤ g.val → ∀ t : Fin 8, t.val < 3 * g.val - 1 → ∀ u : Fin 8, u.val < 3 * g.val - 1 → ∀ x : Fin 7, 1 ≤ x.val → x.val ≤ 2 * g.val → ((sp_p2 (g.val : Int) (2 * (t.val : Int)) (2 * (u.val : Int)) (x.val : Int)).isSome && (sp_p3 (g.val : Int) (2 * (t.val : Int)) (2 * (u.val : Int)) (x.val : Int)).isSome) = true := by decide +kernel
theorem sp_p23 {g t u x : Int} (hg : 1 ≤ g ∧ g ≤ 3) (ht : 0 ≤ t ∧ t < 3 * g - 1) (hu : 0 ≤ u ∧ u < 3 * g - 1) (hx : 1 ≤ x ∧ x ≤ 2 * g) : sp_p2 g (2 * t) (2 * u) x ≠ none ∧ sp_p3 g (2 * t) (2 * u) x ≠ none := by
  have h := sp_p23_all ⟨g.toNat, by omega⟩ (by show 1 ≤ g.toNat; omega) ⟨t.toNat, by omega⟩ (by show t.toNat < 3 * g.toNat - 1; omega) ⟨u.toNat, by omega⟩ (by show u.toNat < 3 * g.toNat - 1; omega) ⟨x.toNat, by omega⟩ (by show 1 ≤ x.toNat; omega) (by show x.toNat ≤ 2 * g.toNat; omega)
  have h : ((sp_p2 ((g.toNat : Nat) : Int) (2 * ((t.toNat : Nat) : Int)) (2 * ((u.toNat : Nat) : Int)) ((x.toNat : Nat) : Int)).isSome && (sp_p3 ((g.toNat : Nat) : Int) (2 * ((t.toNat : Nat) : Int)) (2 * ((u.toNat : Nat) : Int)) ((x.toNat : Nat) : Int)).isSome) = true := h
  rw [show ((g.toNat : Nat) : Int) = g by omega, show ((t.toNat : Nat) : Int) = t by omega, show ((u.toNat : Nat) : Int) = u by omega, show ((x.toNat : Nat) : Int) = x by omega, Bool.and_eq_true] at h
  constructor
  · intro w
    rw [w] at h
    exact absurd h.1 (by decide)
  · intro w
    rw [w] at h
    exact absurd h.2 (by decide)
theorem gs_plc_p2 {F A : gs_F} {g a c y : Int} {b : Nat} (e : F b 1 = 2) (e0 : A (b + 1) 0 = a) (e1 : A (b + 1) 1 = c) : gs_plc F A g b [y] = sp_p2 g a c y := by
  unfold gs_plc sp_p2
  rw [e]
  refine sp_pl_cg 2 _ (fun i hi => ?_) (fun i _ r => sp_tw_wm _ _ r)
  rcases (show i = 0 ∨ i = 1 by omega) with q | q
  · rw [q]
    exact e0
  · rw [q]
    exact e1
theorem gs_plc_p3 {F A : gs_F} {g a c y : Int} {b : Nat} (e : F b 1 = 3) (e0 : A (b + 1) 0 = a) (e1 : A (b + 1) 1 = c) (e2 : A (b + 1) 2 = a) : gs_plc F A g b [y] = sp_p3 g a c y := by
  unfold gs_plc sp_p3
  rw [e]
  refine sp_pl_cg 3 _ (fun i hi => ?_) (fun i _ r => sp_tw_wm _ _ r)
  rcases (show i = 0 ∨ i = 1 ∨ i = 2 by omega) with q | q | q
  · rw [q]
    exact e0
  · rw [q]
    exact e1
  · rw [q]
    exact e2
theorem gs_plm_p2 {F A : gs_F} {a c y : Int} (e : A 110 8 = 2) (e0 : A 111 480 = a) (e1 : A 111 481 = c) : gs_plm F A 8 [y] = sp_p2 (F 106 0) a c y := by
  unfold gs_plm sp_p2
  rw [show (8 : Int).toNat = 8 from rfl, e]
  refine sp_pl_cg 2 _ (fun i hi => ?_) (fun i _ r => rfl)
  rcases (show i = 0 ∨ i = 1 by omega) with q | q
  · rw [q]
    exact e0
  · rw [q]
    exact e1
theorem gs_plm_p3 {F A : gs_F} {a c y : Int} (e : A 110 8 = 3) (e0 : A 111 480 = a) (e1 : A 111 481 = c) (e2 : A 111 482 = a) : gs_plm F A 8 [y] = sp_p3 (F 106 0) a c y := by
  unfold gs_plm sp_p3
  rw [show (8 : Int).toNat = 8 from rfl, e]
  refine sp_pl_cg 3 _ (fun i hi => ?_) (fun i _ r => rfl)
  rcases (show i = 0 ∨ i = 1 ∨ i = 2 by omega) with q | q | q
  · rw [q]
    exact e0
  · rw [q]
    exact e1
  · rw [q]
    exact e2
theorem gs_sm_eq {P Q P2 Q2 : Int → Option (List Int)} {n z : Int} (h : gs_sm P Q n z) (e1 : P = P2) (e2 : Q = Q2) (hP : ∀ x : Int, 1 ≤ x → x ≤ n → P2 x ≠ none) (hQ : ∀ x : Int, 1 ≤ x → x ≤ n → Q2 x ≠ none) : z = -1 ↔ ∀ x : Int, 1 ≤ x → x ≤ n → P2 x = Q2 x := by
  subst e1 e2
  rcases h with ⟨⟨x, a1, a2, a3⟩, a4⟩ | ⟨⟨x, a1, a2, a3⟩, a4⟩ | ⟨a1, a2, a3⟩
  · exact absurd a3 (hP x a1 a2)
  · exact absurd a3 (hQ x a1 a2)
  · rcases a3 with ⟨a3, a4⟩ | ⟨a3, a4, a5, a6⟩
    · exact ⟨fun _ => a4, fun _ => a3⟩
    · exact ⟨fun w => by omega, fun w => absurd (w z a3 a4) a5⟩
theorem gs_sm_rng {P Q : Int → Option (List Int)} {n z : Int} (h : gs_sm P Q n z) (hn : 0 ≤ n) : -1005 ≤ z ∧ z ≤ n := by
  rcases h with ⟨_, a⟩ | ⟨_, a⟩ | ⟨_, _, ⟨a, _⟩ | ⟨a, b, _, _⟩⟩ <;> omega
/-- law of the twists t and u -/
def gs_lw (g t u z : Int) : Prop := ((∀ x : Int, 1 ≤ x → x ≤ 2 * g → sp_p2 g (2 * t) (2 * u) x = sp_p2 g (2 * u) (2 * t) x) ∧ z = 0) ∨ ((¬ ∀ x : Int, 1 ≤ x → x ≤ 2 * g → sp_p2 g (2 * t) (2 * u) x = sp_p2 g (2 * u) (2 * t) x) ∧ (((∀ x : Int, 1 ≤ x → x ≤ 2 * g → sp_p3 g (2 * t) (2 * u) x = sp_p3 g (2 * u) (2 * t) x) ∧ z = 1) ∨ ((¬ ∀ x : Int, 1 ≤ x → x ≤ 2 * g → sp_p3 g (2 * t) (2 * u) x = sp_p3 g (2 * u) (2 * t) x) ∧ z = 2)))
theorem gs_lw_uni {g t u v1 v2 : Int} (h1 : gs_lw g t u v1) (h2 : gs_lw g t u v2) : v2 = v1 := by
  rcases h1 with ⟨a1, a2⟩ | ⟨a1, ⟨a2, a3⟩ | ⟨a2, a3⟩⟩ <;> rcases h2 with ⟨b1, b2⟩ | ⟨b1, ⟨b2, b3⟩ | ⟨b2, b3⟩⟩
  · omega
  · exact absurd a1 b1
  · exact absurd a1 b1
  · exact absurd b1 a1
  · omega
  · exact absurd a2 b2
  · exact absurd b1 a1
  · exact absurd b2 a2
  · omega
theorem gs_addA {f0 f1 : Nat → Int} {n0 n1 a k : Int} (h0 : n0 = k) (hk : 0 ≤ k ∧ k < 60) (y1 : (n0 < 60 ∧ n1 = n0 + 1 ∧ f1 = gs_u f0 n0.toNat a) ∨ (n0 = 60 ∧ n1 = 60 ∧ f1 = f0)) : n1 = k + 1 ∧ f1 k.toNat = a ∧ ∀ i : Nat, i ≠ k.toNat → f1 i = f0 i := by
  subst h0
  rcases y1 with ⟨a1, a2, a3⟩ | a1
  · refine ⟨a2, ?_, fun i hi => ?_⟩
    · rw [a3, gs_u_self]
    · rw [a3, gs_u_ne _ _ hi]
  · omega
def gs_dl (F A : gs_F) : Prop := ∀ ii : Nat, (ii : Int) < 2 * F 106 0 → gs_plm F A 8 [(ii : Int) + 1] = some (gs_im A ii)
theorem gs_dl_eq {F A : gs_F} {P Q : Int → Option (List Int)} (hP : ∀ ii : Nat, (ii : Int) < 2 * F 106 0 → P ((ii : Int) + 1) = some (gs_im A ii)) (hQ : ∀ y : Int, gs_plm F A 8 [y] = Q y) : gs_dl F A ↔ ∀ x : Int, 1 ≤ x → x ≤ 2 * F 106 0 → P x = Q x := by
  unfold gs_dl
  constructor
  · intro h x h1 h2
    have w := h (x - 1).toNat (by omega)
    have w2 := hP (x - 1).toNat (by omega)
    rw [show (((x - 1).toNat : Nat) : Int) + 1 = x by omega] at w w2
    rw [w2, ← hQ, w]
  · intro h ii hi
    rw [hQ, ← h _ (by omega) (by omega)]
    exact hP ii hi
theorem gs_cd2 {A : gs_F} {a b : Int} (e : A 110 8 = 2) (e0 : A 111 480 = a) (e1 : A 111 481 = b) (ha : 0 ≤ a ∧ a ≤ 15) (hb : 0 ≤ b ∧ b ≤ 15) : ∀ i : Int, 0 ≤ i → i < A 110 (8 : Int).toNat → 0 ≤ A 111 (60 * (8 : Int) + i).toNat ∧ A 111 (60 * (8 : Int) + i).toNat ≤ 15 := by
  intro i h1 h2
  rw [show (8 : Int).toNat = 8 from rfl, e] at h2
  rcases (show i = 0 ∨ i = 1 by omega) with q | q
  · rw [q, show (60 * (8 : Int) + 0).toNat = 480 from rfl, e0]
    exact ha
  · rw [q, show (60 * (8 : Int) + 1).toNat = 481 from rfl, e1]
    exact hb
theorem gs_cd3 {A : gs_F} {a b c : Int} (e : A 110 8 = 3) (e0 : A 111 480 = a) (e1 : A 111 481 = b) (e2 : A 111 482 = c) (ha : 0 ≤ a ∧ a ≤ 15) (hb : 0 ≤ b ∧ b ≤ 15) (hc : 0 ≤ c ∧ c ≤ 15) : ∀ i : Int, 0 ≤ i → i < A 110 (8 : Int).toNat → 0 ≤ A 111 (60 * (8 : Int) + i).toNat ∧ A 111 (60 * (8 : Int) + i).toNat ≤ 15 := by
  intro i h1 h2
  rw [show (8 : Int).toNat = 8 from rfl, e] at h2
  rcases (show i = 0 ∨ i = 1 ∨ i = 2 by omega) with q | q | q
  · rw [q, show (60 * (8 : Int) + 0).toNat = 480 from rfl, e0]
    exact ha
  · rw [q, show (60 * (8 : Int) + 1).toNat = 481 from rfl, e1]
    exact hb
  · rw [q, show (60 * (8 : Int) + 2).toNat = 482 from rfl, e2]
    exact hc
theorem c_X8_law_vf {t u : Int} {F A : gs_F} (hI : gs_I F A) (ht : -2147483648 ≤ t ∧ t ≤ 2147483647) (hu : -2147483648 ≤ u ∧ u ≤ 2147483647) (hW : gs_W (A 6) (F 0 11)) (h5 : F 5 0 = 3 * F 0 11 - 1) : sC m_X8_law 6 [.ref 0, gs_iv t, gs_iv u] F A (fun rv F' A' => ∃ z : Int, rv = some (gs_iv z) ∧ gs_I F' A' ∧ gs_fr (fun c j => (c = 15 ∧ j = 1) ∨ (18 ≤ c ∧ c < 30 ∧ j = 1) ∨ ((c = 48 ∨ c = 50 ∨ c = 52) ∧ j = 1)) (fun c => c = 7 ∨ (18 ≤ c ∧ c < 30) ∨ c = 49 ∨ c = 51 ∨ c = 53) F A F' A' ∧ (((t < 0 ∨ 3 * F 0 11 - 1 ≤ t ∨ u < 0 ∨ 3 * F 0 11 - 1 ≤ u) ∧ z = -1001) ∨ (0 ≤ t ∧ t < 3 * F 0 11 - 1 ∧ 0 ≤ u ∧ u < 3 * F 0 11 - 1 ∧ gs_lw (F 0 11) t u z))) := by
  refine sC_of ok_X8_law.1 (Nat.le_of_ble_eq_true rfl) ?_
  show sA _ _ _ 0 [(0, .ref 0), (1, gs_iv t), (2, gs_iv u)] [] F A
  have hf : gs_fr (fun c j => (c = 15 ∧ j = 1) ∨ (18 ≤ c ∧ c < 30 ∧ j = 1) ∨ ((c = 48 ∨ c = 50 ∨ c = 52) ∧ j = 1)) (fun c => c = 7 ∨ (18 ≤ c ∧ c < 30) ∨ c = 49 ∨ c = 51 ∨ c = 53) F A F A := gs_fr_refl _ _ _ _
  have b1 := gs_plan_sz gs_plan_50 hI
  have b2 := gs_plan_sz gs_plan_52 hI
  have b3 : (1 : Int) ≤ F 0 11 ∧ F 0 11 ≤ 3 := hI.1 0 11
  have b4 : (1 : Int) ≤ F 5 0 ∧ F 5 0 ≤ 8 := hI.1 5 0
  have u5 : A 51 = A 51 := rfl
  have u6 : A 53 = A 53 := rfl
  have hg : (1 : Int) ≤ F 0 11 ∧ F 0 11 ≤ 3 := hI.1 0 11
  refine sA_aload_n dd_X8_law_0 rfl (.head _) ?_
  refine sA_iload_n dd_X8_law_1 rfl (.tail _ (.head _)) ?_
  refine sA_callV (y2 := m_X8_isTwist) (n2 := 1) (d2 := 1) (a := 0) (ci := 8) (q := (RX8, TX8, 13)) (as := [gs_iv t]) (rest := []) dd_X8_law_2 ok_X8_isTwist ml_X8_224 rfl rfl (by decide) gs_s0 rfl rfl (Nat.le_of_ble_eq_true rfl) (by decide) (c_X8_isTwist hI (by omega)) (fun r7 F8 A9 h10 => ?_)
  obtain ⟨z13, e12, e14, e15, x11⟩ := h10
  subst e12 e14 e15
  show sA _ _ _ 5 _ [gs_iv z13] _ _
  refine sA_if_eq (tgt := 16) dd_X8_law_5 (by decide) (by omega) (fun q16 => ?_) (fun q16 => ?_)
  · skip
    refine sA_sipush (z := (-1001)) dd_X8_law_16 (by decide) ?_
    refine sA_iret (z := -1001) dd_X8_law_19 rfl ?_
    refine ⟨_, rfl, hI, hf, ?_⟩
    exact .inl ⟨by omega, rfl⟩
  · skip
    refine sA_aload_n dd_X8_law_8 rfl (.head _) ?_
    refine sA_iload_n dd_X8_law_9 rfl (.tail _ (.tail _ (.head _))) ?_
    refine sA_callV (y2 := m_X8_isTwist) (n2 := 1) (d2 := 1) (a := 0) (ci := 8) (q := (RX8, TX8, 13)) (as := [gs_iv u]) (rest := []) dd_X8_law_10 ok_X8_isTwist ml_X8_224 rfl rfl (by decide) gs_s0 rfl rfl (Nat.le_of_ble_eq_true rfl) (by decide) (c_X8_isTwist hI (by omega)) (fun r17 F18 A19 h20 => ?_)
    obtain ⟨z23, e22, e24, e25, x21⟩ := h20
    subst e22 e24 e25
    show sA _ _ _ 13 _ [gs_iv z23] _ _
    refine sA_if_ne (tgt := 20) dd_X8_law_13 (by decide) (by omega) (fun q26 => ?_) (fun q26 => ?_)
    · skip
      refine sA_aload_n dd_X8_law_20 rfl (.head _) ?_
      refine sA_getr (ci := 8) (j := 9) (q := (RX8, TX8, 13)) dd_X8_law_21 rfl (by decide) fl_X8_73 (by decide) gs_s0 rfl ?_
      refine sA_iconst (z := 0) dd_X8_law_24 ?_
      refine sA_put (ci := 2) (j := 1) (q := (RX2, TX2, 2)) (ty := .int) dd_X8_law_25 rfl (by decide) fl_X8_162 rfl (tyX2_ok 1 (by decide)) rfl rfl (Nat.lt_of_succ_lt gs_plan_50.1) gs_plan_50.2.1 rfl ?_
      have I28 : gs_I (gs_up F 50 1 0) A := gs_plan_put gs_plan_50 hI (by omega)
      have f29 := gs_fr_put hf (a := 50) (z := 0) (j := 1) (by first | omega | (dsimp only; omega) | (dsimp only) | fail)
      have v30 : gs_up F 50 1 0 50 1 = 0 := gs_up_self _ _ _ _
      have v31 : (gs_up F 50 1 0) 52 1 = F 52 1 := gs_up_ne _ _ (by omega)
      have v32 : (gs_up F 50 1 0) 0 11 = F 0 11 := gs_up_ne _ _ (by omega)
      have v33 : (gs_up F 50 1 0) 5 0 = F 5 0 := gs_up_ne _ _ (by omega)
      generalize gs_up F 50 1 0 = F27 at I28 f29 v30 v31 v32 v33 ⊢
      refine sA_aload_n dd_X8_law_28 rfl (.head _) ?_
      refine sA_getr (ci := 8) (j := 9) (q := (RX8, TX8, 13)) dd_X8_law_29 rfl (by decide) fl_X8_73 (by decide) gs_s0 rfl ?_
      refine sA_iconst (z := 2) dd_X8_law_32 ?_
      refine sA_iload_n dd_X8_law_33 rfl (.tail _ (.head _)) ?_
      refine sA_imul dd_X8_law_34 ?_
      refine sA_callV (y2 := m_X2_add) (n2 := 1) (d2 := 1) (a := 50) (ci := 2) (q := (RX2, TX2, 2)) (as := [gs_iv (2 * t)]) (rest := []) dd_X8_law_35 ok_X2_add ml_X8_227 rfl rfl (Nat.lt_of_succ_lt gs_plan_50.1) gs_plan_50.2.1 rfl rfl (Nat.le_of_ble_eq_true rfl) (by decide) (c_X2_add_vf I28 gs_plan_50 (by omega)) (fun r34 F35 A36 h37 => ?_)
      obtain ⟨e39, I40, f41, x38⟩ := h37
      subst e39
      have v43 : F35 52 1 = F27 52 1 := f41.1 52 1 (by first | exact id | omega | (dsimp only; omega) | (dsimp only) | fail)
      have v44 : F35 0 11 = F27 0 11 := f41.1 0 11 (by first | exact id | omega | (dsimp only; omega) | (dsimp only) | fail)
      have v45 : F35 5 0 = F27 5 0 := f41.1 5 0 (by first | exact id | omega | (dsimp only; omega) | (dsimp only) | fail)
      have f46 := gs_fr_tr f29 f41 (fun b j h => by first | exact False.elim h | omega | (dsimp only at h ⊢; omega) | fail) (fun b h => by first | exact False.elim h | omega | (dsimp only at h ⊢; omega) | fail)
      have u47 : A36 51 = A36 51 := rfl
      have u48 : A36 53 = A 53 := (f41.2 53 (by first | exact id | omega | (dsimp only; omega) | (dsimp only) | fail)).trans u6
      have y49 : (F27 50 1 < 60 ∧ F35 50 1 = F27 50 1 + 1 ∧ A36 51 = gs_u (A 51) (F27 50 1).toNat (2 * t)) ∨ (F27 50 1 = 60 ∧ F35 50 1 = 60 ∧ A36 51 = A 51) := x38
      clear x38
      show sA _ _ _ 38 _ [] _ _
      refine sA_aload_n dd_X8_law_38 rfl (.head _) ?_
      refine sA_getr (ci := 8) (j := 9) (q := (RX8, TX8, 13)) dd_X8_law_39 rfl (by decide) fl_X8_73 (by decide) gs_s0 rfl ?_
      refine sA_iconst (z := 2) dd_X8_law_42 ?_
      refine sA_iload_n dd_X8_law_43 rfl (.tail _ (.tail _ (.head _))) ?_
      refine sA_imul dd_X8_law_44 ?_
      refine sA_callV (y2 := m_X2_add) (n2 := 1) (d2 := 1) (a := 50) (ci := 2) (q := (RX2, TX2, 2)) (as := [gs_iv (2 * u)]) (rest := []) dd_X8_law_45 ok_X2_add ml_X8_227 rfl rfl (Nat.lt_of_succ_lt gs_plan_50.1) gs_plan_50.2.1 rfl rfl (Nat.le_of_ble_eq_true rfl) (by decide) (c_X2_add_vf I40 gs_plan_50 (by omega)) (fun r50 F51 A52 h53 => ?_)
      obtain ⟨e55, I56, f57, x54⟩ := h53
      subst e55
      have v59 : F51 52 1 = F35 52 1 := f57.1 52 1 (by first | exact id | omega | (dsimp only; omega) | (dsimp only) | fail)
      have v60 : F51 0 11 = F35 0 11 := f57.1 0 11 (by first | exact id | omega | (dsimp only; omega) | (dsimp only) | fail)
      have v61 : F51 5 0 = F35 5 0 := f57.1 5 0 (by first | exact id | omega | (dsimp only; omega) | (dsimp only) | fail)
      have f62 := gs_fr_tr f46 f57 (fun b j h => by first | exact False.elim h | omega | (dsimp only at h ⊢; omega) | fail) (fun b h => by first | exact False.elim h | omega | (dsimp only at h ⊢; omega) | fail)
      have u63 : A52 51 = A52 51 := rfl
      have u64 : A52 53 = A 53 := (f57.2 53 (by first | exact id | omega | (dsimp only; omega) | (dsimp only) | fail)).trans u48
      have y65 : (F35 50 1 < 60 ∧ F51 50 1 = F35 50 1 + 1 ∧ A52 51 = gs_u (A36 51) (F35 50 1).toNat (2 * u)) ∨ (F35 50 1 = 60 ∧ F51 50 1 = 60 ∧ A52 51 = A36 51) := x54
      clear x54
      show sA _ _ _ 48 _ [] _ _
      refine sA_aload_n dd_X8_law_48 rfl (.head _) ?_
      refine sA_getr (ci := 8) (j := 10) (q := (RX8, TX8, 13)) dd_X8_law_49 rfl (by decide) fl_X8_77 (by decide) gs_s0 rfl ?_
      refine sA_iconst (z := 0) dd_X8_law_52 ?_
      refine sA_put (ci := 2) (j := 1) (q := (RX2, TX2, 2)) (ty := .int) dd_X8_law_53 rfl (by decide) fl_X8_162 rfl (tyX2_ok 1 (by decide)) rfl rfl (Nat.lt_of_succ_lt gs_plan_52.1) gs_plan_52.2.1 rfl ?_
      have I67 : gs_I (gs_up F51 52 1 0) A52 := gs_plan_put gs_plan_52 I56 (by omega)
      have f68 := gs_fr_put f62 (a := 52) (z := 0) (j := 1) (by first | omega | (dsimp only; omega) | (dsimp only) | fail)
      have v69 : gs_up F51 52 1 0 52 1 = 0 := gs_up_self _ _ _ _
      have v70 : (gs_up F51 52 1 0) 50 1 = F51 50 1 := gs_up_ne _ _ (by omega)
      have v71 : (gs_up F51 52 1 0) 0 11 = F51 0 11 := gs_up_ne _ _ (by omega)
      have v72 : (gs_up F51 52 1 0) 5 0 = F51 5 0 := gs_up_ne _ _ (by omega)
      generalize gs_up F51 52 1 0 = F66 at I67 f68 v69 v70 v71 v72 ⊢
      refine sA_aload_n dd_X8_law_56 rfl (.head _) ?_
      refine sA_getr (ci := 8) (j := 10) (q := (RX8, TX8, 13)) dd_X8_law_57 rfl (by decide) fl_X8_77 (by decide) gs_s0 rfl ?_
      refine sA_iconst (z := 2) dd_X8_law_60 ?_
      refine sA_iload_n dd_X8_law_61 rfl (.tail _ (.tail _ (.head _))) ?_
      refine sA_imul dd_X8_law_62 ?_
      refine sA_callV (y2 := m_X2_add) (n2 := 1) (d2 := 1) (a := 52) (ci := 2) (q := (RX2, TX2, 2)) (as := [gs_iv (2 * u)]) (rest := []) dd_X8_law_63 ok_X2_add ml_X8_227 rfl rfl (Nat.lt_of_succ_lt gs_plan_52.1) gs_plan_52.2.1 rfl rfl (Nat.le_of_ble_eq_true rfl) (by decide) (c_X2_add_vf I67 gs_plan_52 (by omega)) (fun r73 F74 A75 h76 => ?_)
      obtain ⟨e78, I79, f80, x77⟩ := h76
      subst e78
      have v81 : F74 50 1 = F66 50 1 := f80.1 50 1 (by first | exact id | omega | (dsimp only; omega) | (dsimp only) | fail)
      have v83 : F74 0 11 = F66 0 11 := f80.1 0 11 (by first | exact id | omega | (dsimp only; omega) | (dsimp only) | fail)
      have v84 : F74 5 0 = F66 5 0 := f80.1 5 0 (by first | exact id | omega | (dsimp only; omega) | (dsimp only) | fail)
      have f85 := gs_fr_tr f68 f80 (fun b j h => by first | exact False.elim h | omega | (dsimp only at h ⊢; omega) | fail) (fun b h => by first | exact False.elim h | omega | (dsimp only at h ⊢; omega) | fail)
      have u86 : A75 51 = A52 51 := (f80.2 51 (by first | exact id | omega | (dsimp only; omega) | (dsimp only) | fail)).trans u63
      have u87 : A75 53 = A75 53 := rfl
      have y88 : (F66 52 1 < 60 ∧ F74 52 1 = F66 52 1 + 1 ∧ A75 53 = gs_u (A52 53) (F66 52 1).toNat (2 * u)) ∨ (F66 52 1 = 60 ∧ F74 52 1 = 60 ∧ A75 53 = A52 53) := x77
      clear x77
      show sA _ _ _ 66 _ [] _ _
      refine sA_aload_n dd_X8_law_66 rfl (.head _) ?_
      refine sA_getr (ci := 8) (j := 10) (q := (RX8, TX8, 13)) dd_X8_law_67 rfl (by decide) fl_X8_77 (by decide) gs_s0 rfl ?_
      refine sA_iconst (z := 2) dd_X8_law_70 ?_
      refine sA_iload_n dd_X8_law_71 rfl (.tail _ (.head _)) ?_
      refine sA_imul dd_X8_law_72 ?_
      refine sA_callV (y2 := m_X2_add) (n2 := 1) (d2 := 1) (a := 52) (ci := 2) (q := (RX2, TX2, 2)) (as := [gs_iv (2 * t)]) (rest := []) dd_X8_law_73 ok_X2_add ml_X8_227 rfl rfl (Nat.lt_of_succ_lt gs_plan_52.1) gs_plan_52.2.1 rfl rfl (Nat.le_of_ble_eq_true rfl) (by decide) (c_X2_add_vf I79 gs_plan_52 (by omega)) (fun r89 F90 A91 h92 => ?_)
      obtain ⟨e94, I95, f96, x93⟩ := h92
      subst e94
      have v97 : F90 50 1 = F74 50 1 := f96.1 50 1 (by first | exact id | omega | (dsimp only; omega) | (dsimp only) | fail)
      have v99 : F90 0 11 = F74 0 11 := f96.1 0 11 (by first | exact id | omega | (dsimp only; omega) | (dsimp only) | fail)
      have v100 : F90 5 0 = F74 5 0 := f96.1 5 0 (by first | exact id | omega | (dsimp only; omega) | (dsimp only) | fail)
      have f101 := gs_fr_tr f85 f96 (fun b j h => by first | exact False.elim h | omega | (dsimp only at h ⊢; omega) | fail) (fun b h => by first | exact False.elim h | omega | (dsimp only at h ⊢; omega) | fail)
      have u102 : A91 51 = A52 51 := (f96.2 51 (by first | exact id | omega | (dsimp only; omega) | (dsimp only) | fail)).trans u86
      have u103 : A91 53 = A91 53 := rfl
      have y104 : (F74 52 1 < 60 ∧ F90 52 1 = F74 52 1 + 1 ∧ A91 53 = gs_u (A75 53) (F74 52 1).toNat (2 * t)) ∨ (F74 52 1 = 60 ∧ F90 52 1 = 60 ∧ A91 53 = A75 53) := x93
      clear x93
      show sA _ _ _ 76 _ [] _ _
      refine sA_aload_n dd_X8_law_76 rfl (.head _) ?_
      refine sA_aload_n dd_X8_law_77 rfl (.head _) ?_
      refine sA_getr (ci := 8) (j := 9) (q := (RX8, TX8, 13)) dd_X8_law_78 rfl (by decide) fl_X8_73 (by decide) gs_s0 rfl ?_
      refine sA_aload_n dd_X8_law_81 rfl (.head _) ?_
      refine sA_getr (ci := 8) (j := 10) (q := (RX8, TX8, 13)) dd_X8_law_82 rfl (by decide) fl_X8_77 (by decide) gs_s0 rfl ?_
      have a1 := gs_addA (k := 0) (by omega) (by omega) y49
      have a1n := a1.1
      have a2 := gs_addA (k := 1) (by omega) (by omega) y65
      have a2n := a2.1
      have b1 := gs_addA (k := 0) (by omega) (by omega) y88
      have b1n := b1.1
      have b2 := gs_addA (k := 1) (by omega) (by omega) y104
      have b2n := b2.1
      have h011 : F90 0 11 = F 0 11 := f101.1 0 11 (by dsimp only; omega)
      have hW1 : gs_W (A91 6) (F90 0 11) := by rw [h011, f101.2 6 (by dsimp only; omega)]; exact hW
      have l0 : A91 51 0 = 2 * t := by
        rw [u102]
        exact (a2.2.2 0 (by decide)).trans a1.2.1
      have l1 : A91 51 1 = 2 * u := by
        rw [u102]
        exact a2.2.1
      have r0 : A91 53 0 = 2 * u := (b2.2.2 0 (by decide)).trans b1.2.1
      have r1 : A91 53 1 = 2 * t := b2.2.1
      have ln : F90 50 1 = 2 := by omega
      have rn : F90 52 1 = 2 := by omega
      have hcda1 : ∀ i : Int, 0 ≤ i → i < F90 50 1 → 0 ≤ A91 51 i.toNat ∧ A91 51 i.toNat < 6 * F90 0 11 - 2 := fun i h1 h2 => by
        rcases (show i = 0 ∨ i = 1 by omega) with e | e
        · rw [e, show (0 : Int).toNat = 0 from rfl, l0]
          omega
        · rw [e, show (1 : Int).toNat = 1 from rfl, l1]
          omega
      have hcdb1 : ∀ i : Int, 0 ≤ i → i < F90 52 1 → 0 ≤ A91 53 i.toNat ∧ A91 53 i.toNat < 6 * F90 0 11 - 2 := fun i h1 h2 => by
        rcases (show i = 0 ∨ i = 1 by omega) with e | e
        · rw [e, show (0 : Int).toNat = 0 from rfl, r0]
          omega
        · rw [e, show (1 : Int).toNat = 1 from rfl, r1]
          omega
      refine sA_callV (y2 := m_X8_firstUnlike) (n2 := 2) (d2 := 5) (a := 0) (ci := 8) (q := (RX8, TX8, 13)) (as := [.ref 50, .ref 52]) (rest := []) dd_X8_law_85 ok_X8_firstUnlike ml_X8_189 rfl rfl (by decide) gs_s0 rfl rfl (Nat.le_of_ble_eq_true rfl) (by decide) (c_X8_firstUnlike_vf I95 gs_plan_50 gs_plan_52 hW1 hcda1 hcdb1 (by omega) (by omega)) (fun r105 F106 A107 h108 => ?_)
      obtain ⟨z111, e110, I112, f113, x109⟩ := h108
      subst e110
      have v114 : F106 50 1 = F90 50 1 := f113.1 50 1 (by first | exact id | omega | (dsimp only; omega) | (dsimp only) | fail)
      have v115 : F106 52 1 = F90 52 1 := f113.1 52 1 (by first | exact id | omega | (dsimp only; omega) | (dsimp only) | fail)
      have v116 : F106 0 11 = F90 0 11 := f113.1 0 11 (by first | exact id | omega | (dsimp only; omega) | (dsimp only) | fail)
      have v117 : F106 5 0 = F90 5 0 := f113.1 5 0 (by first | exact id | omega | (dsimp only; omega) | (dsimp only) | fail)
      have f118 := gs_fr_tr f101 f113 (fun b j h => by first | exact False.elim h | omega | (dsimp only at h ⊢; omega) | fail) (fun b h => by first | exact False.elim h | omega | (dsimp only at h ⊢; omega) | fail)
      have u119 : A107 51 = A52 51 := (f113.2 51 (by first | exact id | omega | (dsimp only; omega) | (dsimp only) | fail)).trans u102
      have u120 : A107 53 = A91 53 := (f113.2 53 (by first | exact id | omega | (dsimp only; omega) | (dsimp only) | fail)).trans u103
      have y121 : gs_sm (fun y => gs_plc F90 A91 (F90 0 11) 50 [y]) (fun y => gs_plc F90 A91 (F90 0 11) 52 [y]) (2 * F90 0 11) z111 := x109
      clear x109
      show sA _ _ _ 88 _ [gs_iv z111] _ _
      have hr85 := gs_sm_rng y121 (by omega)
      have y85 := y121
      rw [h011] at y85
      have k2 : z111 = -1 ↔ ∀ x : Int, 1 ≤ x → x ≤ 2 * F 0 11 → sp_p2 (F 0 11) (2 * t) (2 * u) x = sp_p2 (F 0 11) (2 * u) (2 * t) x := gs_sm_eq y85 (funext fun y => gs_plc_p2 ln l0 l1) (funext fun y => gs_plc_p2 rn r0 r1) (fun x h1 h2 => (sp_p23 hg (by omega) (by omega) ⟨h1, h2⟩).1) (fun x h1 h2 => (sp_p23 hg (by omega) (by omega) ⟨h1, h2⟩).1)
      refine sA_iconst (z := (-1)) dd_X8_law_88 ?_
      refine sA_icmp_ne (tgt := 94) dd_X8_law_89 (by decide) (by omega) (by omega) (fun q122 => ?_) (fun q122 => ?_)
      · skip
        refine sA_aload_n dd_X8_law_94 rfl (.head _) ?_
        refine sA_getr (ci := 8) (j := 9) (q := (RX8, TX8, 13)) dd_X8_law_95 rfl (by decide) fl_X8_73 (by decide) gs_s0 rfl ?_
        refine sA_iconst (z := 2) dd_X8_law_98 ?_
        refine sA_iload_n dd_X8_law_99 rfl (.tail _ (.head _)) ?_
        refine sA_imul dd_X8_law_100 ?_
        refine sA_callV (y2 := m_X2_add) (n2 := 1) (d2 := 1) (a := 50) (ci := 2) (q := (RX2, TX2, 2)) (as := [gs_iv (2 * t)]) (rest := []) dd_X8_law_101 ok_X2_add ml_X8_227 rfl rfl (Nat.lt_of_succ_lt gs_plan_50.1) gs_plan_50.2.1 rfl rfl (Nat.le_of_ble_eq_true rfl) (by decide) (c_X2_add_vf I112 gs_plan_50 (by omega)) (fun r123 F124 A125 h126 => ?_)
        obtain ⟨e128, I129, f130, x127⟩ := h126
        subst e128
        have v132 : F124 52 1 = F106 52 1 := f130.1 52 1 (by first | exact id | omega | (dsimp only; omega) | (dsimp only) | fail)
        have v133 : F124 0 11 = F106 0 11 := f130.1 0 11 (by first | exact id | omega | (dsimp only; omega) | (dsimp only) | fail)
        have v134 : F124 5 0 = F106 5 0 := f130.1 5 0 (by first | exact id | omega | (dsimp only; omega) | (dsimp only) | fail)
        have f135 := gs_fr_tr f118 f130 (fun b j h => by first | exact False.elim h | omega | (dsimp only at h ⊢; omega) | fail) (fun b h => by first | exact False.elim h | omega | (dsimp only at h ⊢; omega) | fail)
        have u136 : A125 51 = A125 51 := rfl
        have u137 : A125 53 = A91 53 := (f130.2 53 (by first | exact id | omega | (dsimp only; omega) | (dsimp only) | fail)).trans u120
        have y138 : (F106 50 1 < 60 ∧ F124 50 1 = F106 50 1 + 1 ∧ A125 51 = gs_u (A107 51) (F106 50 1).toNat (2 * t)) ∨ (F106 50 1 = 60 ∧ F124 50 1 = 60 ∧ A125 51 = A107 51) := x127
        clear x127
        show sA _ _ _ 104 _ [] _ _
        refine sA_aload_n dd_X8_law_104 rfl (.head _) ?_
        refine sA_getr (ci := 8) (j := 10) (q := (RX8, TX8, 13)) dd_X8_law_105 rfl (by decide) fl_X8_77 (by decide) gs_s0 rfl ?_
        refine sA_iconst (z := 2) dd_X8_law_108 ?_
        refine sA_iload_n dd_X8_law_109 rfl (.tail _ (.tail _ (.head _))) ?_
        refine sA_imul dd_X8_law_110 ?_
        refine sA_callV (y2 := m_X2_add) (n2 := 1) (d2 := 1) (a := 52) (ci := 2) (q := (RX2, TX2, 2)) (as := [gs_iv (2 * u)]) (rest := []) dd_X8_law_111 ok_X2_add ml_X8_227 rfl rfl (Nat.lt_of_succ_lt gs_plan_52.1) gs_plan_52.2.1 rfl rfl (Nat.le_of_ble_eq_true rfl) (by decide) (c_X2_add_vf I129 gs_plan_52 (by omega)) (fun r139 F140 A141 h142 => ?_)
        obtain ⟨e144, I145, f146, x143⟩ := h142
        subst e144
        have v147 : F140 50 1 = F124 50 1 := f146.1 50 1 (by first | exact id | omega | (dsimp only; omega) | (dsimp only) | fail)
        have v149 : F140 0 11 = F124 0 11 := f146.1 0 11 (by first | exact id | omega | (dsimp only; omega) | (dsimp only) | fail)
        have v150 : F140 5 0 = F124 5 0 := f146.1 5 0 (by first | exact id | omega | (dsimp only; omega) | (dsimp only) | fail)
        have f151 := gs_fr_tr f135 f146 (fun b j h => by first | exact False.elim h | omega | (dsimp only at h ⊢; omega) | fail) (fun b h => by first | exact False.elim h | omega | (dsimp only at h ⊢; omega) | fail)
        have u152 : A141 51 = A125 51 := (f146.2 51 (by first | exact id | omega | (dsimp only; omega) | (dsimp only) | fail)).trans u136
        have u153 : A141 53 = A141 53 := rfl
        have y154 : (F124 52 1 < 60 ∧ F140 52 1 = F124 52 1 + 1 ∧ A141 53 = gs_u (A125 53) (F124 52 1).toNat (2 * u)) ∨ (F124 52 1 = 60 ∧ F140 52 1 = 60 ∧ A141 53 = A125 53) := x143
        clear x143
        show sA _ _ _ 114 _ [] _ _
        refine sA_aload_n dd_X8_law_114 rfl (.head _) ?_
        refine sA_aload_n dd_X8_law_115 rfl (.head _) ?_
        refine sA_getr (ci := 8) (j := 9) (q := (RX8, TX8, 13)) dd_X8_law_116 rfl (by decide) fl_X8_73 (by decide) gs_s0 rfl ?_
        refine sA_aload_n dd_X8_law_119 rfl (.head _) ?_
        refine sA_getr (ci := 8) (j := 10) (q := (RX8, TX8, 13)) dd_X8_law_120 rfl (by decide) fl_X8_77 (by decide) gs_s0 rfl ?_
        have a3 := gs_addA (k := 2) (by omega) (by omega) y138
        have a3n := a3.1
        have b3 := gs_addA (k := 2) (by omega) (by omega) y154
        have b3n := b3.1
        have h011b : F140 0 11 = F 0 11 := f151.1 0 11 (by dsimp only; omega)
        have hW1 : gs_W (A141 6) (F140 0 11) := by rw [h011b, f151.2 6 (by dsimp only; omega)]; exact hW
        have m0 : A141 51 0 = 2 * t := by
          rw [u152]
          refine (a3.2.2 0 (by decide)).trans ?_
          rw [u119]
          exact (a2.2.2 0 (by decide)).trans a1.2.1
        have m1 : A141 51 1 = 2 * u := by
          rw [u152]
          refine (a3.2.2 1 (by decide)).trans ?_
          rw [u119]
          exact a2.2.1
        have m2 : A141 51 2 = 2 * t := by
          rw [u152]
          exact a3.2.1
        have s0 : A141 53 0 = 2 * u := by
          refine (b3.2.2 0 (by decide)).trans ?_
          rw [u137]
          exact (b2.2.2 0 (by decide)).trans b1.2.1
        have s1 : A141 53 1 = 2 * t := by
          refine (b3.2.2 1 (by decide)).trans ?_
          rw [u137]
          exact b2.2.1
        have s2 : A141 53 2 = 2 * u := b3.2.1
        have mn : F140 50 1 = 3 := by omega
        have sn : F140 52 1 = 3 := by omega
        have hcda1 : ∀ i : Int, 0 ≤ i → i < F140 50 1 → 0 ≤ A141 51 i.toNat ∧ A141 51 i.toNat < 6 * F140 0 11 - 2 := fun i h1 h2 => by
          rcases (show i = 0 ∨ i = 1 ∨ i = 2 by omega) with e | e | e
          · rw [e, show (0 : Int).toNat = 0 from rfl, m0]
            omega
          · rw [e, show (1 : Int).toNat = 1 from rfl, m1]
            omega
          · rw [e, show (2 : Int).toNat = 2 from rfl, m2]
            omega
        have hcdb1 : ∀ i : Int, 0 ≤ i → i < F140 52 1 → 0 ≤ A141 53 i.toNat ∧ A141 53 i.toNat < 6 * F140 0 11 - 2 := fun i h1 h2 => by
          rcases (show i = 0 ∨ i = 1 ∨ i = 2 by omega) with e | e | e
          · rw [e, show (0 : Int).toNat = 0 from rfl, s0]
            omega
          · rw [e, show (1 : Int).toNat = 1 from rfl, s1]
            omega
          · rw [e, show (2 : Int).toNat = 2 from rfl, s2]
            omega
        refine sA_callV (y2 := m_X8_firstUnlike) (n2 := 2) (d2 := 5) (a := 0) (ci := 8) (q := (RX8, TX8, 13)) (as := [.ref 50, .ref 52]) (rest := []) dd_X8_law_123 ok_X8_firstUnlike ml_X8_189 rfl rfl (by decide) gs_s0 rfl rfl (Nat.le_of_ble_eq_true rfl) (by decide) (c_X8_firstUnlike_vf I145 gs_plan_50 gs_plan_52 hW1 hcda1 hcdb1 (by omega) (by omega)) (fun r155 F156 A157 h158 => ?_)
        obtain ⟨z161, e160, I162, f163, x159⟩ := h158
        subst e160
        have v164 : F156 50 1 = F140 50 1 := f163.1 50 1 (by first | exact id | omega | (dsimp only; omega) | (dsimp only) | fail)
        have v165 : F156 52 1 = F140 52 1 := f163.1 52 1 (by first | exact id | omega | (dsimp only; omega) | (dsimp only) | fail)
        have v166 : F156 0 11 = F140 0 11 := f163.1 0 11 (by first | exact id | omega | (dsimp only; omega) | (dsimp only) | fail)
        have v167 : F156 5 0 = F140 5 0 := f163.1 5 0 (by first | exact id | omega | (dsimp only; omega) | (dsimp only) | fail)
        have f168 := gs_fr_tr f151 f163 (fun b j h => by first | exact False.elim h | omega | (dsimp only at h ⊢; omega) | fail) (fun b h => by first | exact False.elim h | omega | (dsimp only at h ⊢; omega) | fail)
        have u169 : A157 51 = A125 51 := (f163.2 51 (by first | exact id | omega | (dsimp only; omega) | (dsimp only) | fail)).trans u152
        have u170 : A157 53 = A141 53 := (f163.2 53 (by first | exact id | omega | (dsimp only; omega) | (dsimp only) | fail)).trans u153
        have y171 : gs_sm (fun y => gs_plc F140 A141 (F140 0 11) 50 [y]) (fun y => gs_plc F140 A141 (F140 0 11) 52 [y]) (2 * F140 0 11) z161 := x159
        clear x159
        show sA _ _ _ 126 _ [gs_iv z161] _ _
        have hr123 := gs_sm_rng y171 (by omega)
        have y123 := y171
        rw [h011b] at y123
        have k3 : z161 = -1 ↔ ∀ x : Int, 1 ≤ x → x ≤ 2 * F 0 11 → sp_p3 (F 0 11) (2 * t) (2 * u) x = sp_p3 (F 0 11) (2 * u) (2 * t) x := gs_sm_eq y123 (funext fun y => gs_plc_p3 mn m0 m1 m2) (funext fun y => gs_plc_p3 sn s0 s1 s2) (fun x h1 h2 => (sp_p23 hg (by omega) (by omega) ⟨h1, h2⟩).2) (fun x h1 h2 => (sp_p23 hg (by omega) (by omega) ⟨h1, h2⟩).2)
        refine sA_iconst (z := (-1)) dd_X8_law_126 ?_
        refine sA_icmp_ne (tgt := 134) dd_X8_law_127 (by decide) (by omega) (by omega) (fun q172 => ?_) (fun q172 => ?_)
        · skip
          refine sA_iconst (z := 2) dd_X8_law_134 ?_
          refine sA_iret (z := 2) dd_X8_law_135 rfl ?_
          refine ⟨_, rfl, I162, f168, ?_⟩
          refine .inr ⟨by omega, by omega, by omega, by omega, .inr ⟨fun w => absurd (k2.mpr w) (by omega), ?_⟩⟩
          first | exact .inl ⟨k3.mp (by omega), rfl⟩ | exact .inr ⟨fun w => absurd (k3.mpr w) (by omega), rfl⟩ | fail
        · skip
          refine sA_iconst (z := 1) dd_X8_law_130 ?_
          refine sA_goto (tgt := 135) dd_X8_law_131 (by decide) ?_
          refine sA_iret (z := 1) dd_X8_law_135 rfl ?_
          refine ⟨_, rfl, I162, f168, ?_⟩
          refine .inr ⟨by omega, by omega, by omega, by omega, .inr ⟨fun w => absurd (k2.mpr w) (by omega), ?_⟩⟩
          first | exact .inl ⟨k3.mp (by omega), rfl⟩ | exact .inr ⟨fun w => absurd (k3.mpr w) (by omega), rfl⟩ | fail
      · skip
        refine sA_iconst (z := 0) dd_X8_law_92 ?_
        refine sA_iret (z := 0) dd_X8_law_93 rfl ?_
        refine ⟨_, rfl, I112, f118, ?_⟩
        exact .inr ⟨by omega, by omega, by omega, by omega, .inl ⟨k2.mp (by omega), rfl⟩⟩
    · skip
      refine sA_sipush (z := (-1001)) dd_X8_law_16 (by decide) ?_
      refine sA_iret (z := -1001) dd_X8_law_19 rfl ?_
      refine ⟨_, rfl, hI, hf, ?_⟩
      exact .inl ⟨by omega, rfl⟩
theorem c_X9_draftPlan_vg {a b e : Int} {F A : gs_F} (hI : gs_I F A) (ha : -2147483648 ≤ a ∧ a ≤ 2147483647) (hb : -2147483648 ≤ b ∧ b ≤ 2147483647) (he : -2147483648 ≤ e ∧ e ≤ 2147483647) : sC m_X9_draftPlan 1 [.ref 106, gs_iv a, gs_iv b, gs_iv e] F A (fun rv F' A' => rv = none ∧ gs_I F' A' ∧ gs_fr (fun _ _ => False) (fun c => c = 110 ∨ c = 111) F A F' A' ∧ (gs_k8 A A' ∧ ((e < 0 ∧ A' 110 8 = 2) ∨ (0 ≤ e ∧ A' 110 8 = 3)) ∧ A' 111 480 = a ∧ A' 111 481 = b ∧ A' 111 482 = e)) := by
  refine sC_of ok_X9_draftPlan.1 (Nat.le_of_ble_eq_true rfl) ?_
  show sA _ _ _ 0 [(0, .ref 106), (1, gs_iv a), (2, gs_iv b), (3, gs_iv e)] [] F A
  have hf : gs_fr (fun _ _ => False) (fun c => c = 110 ∨ c = 111) F A F A := gs_fr_refl _ _ _ _
  have u1 : A 110 = A 110 := rfl
  have u2 : A 111 = A 111 := rfl
  have hk8 : gs_k8 A A := gs_k8_fr rfl rfl
  refine sA_aload_n dd_X9_draftPlan_0 rfl (.head _) ?_
  refine sA_getr (ci := 9) (j := 6) (q := (RX9, TX9, 28)) dd_X9_draftPlan_1 rfl (by decide) fl_X9_19 (by decide) gs_s106 rfl ?_
  refine sA_bipush (z := 8) dd_X9_draftPlan_4 (by decide) ?_
  refine sA_iload_n dd_X9_draftPlan_6 rfl (.tail _ (.tail _ (.tail _ (.head _)))) ?_
  refine sA_if_ge (tgt := 14) dd_X9_draftPlan_7 (by decide) (by omega) (fun q3 => ?_) (fun q3 => ?_)
  · skip
    refine sA_iconst (z := 3) dd_X9_draftPlan_14 ?_
    refine sA_iast (n := 9) dd_X9_draftPlan_15 (by decide) gs_s110 (by omega) (by decide) ?_
    have I5 : gs_I F (gs_up A 110 ((8 : Int).toNat) 3) := gs_I_ast hI (show (0 : Int) ≤ 3 ∧ 3 ≤ 60 by omega)
    have f6 := gs_fr_ast hf (a := 110) (z := 3) (i := (8 : Int).toNat) (by first | omega | (dsimp only; omega) | (dsimp only) | fail)
    have u7 : (gs_up A 110 ((8 : Int).toNat) 3) 110 = gs_u (A 110) ((8 : Int).toNat) 3 := (gs_up_u A 110 ((8 : Int).toNat) 3).trans (congrArg (fun f => gs_u f ((8 : Int).toNat) 3) u1)
    have u8 : (gs_up A 110 ((8 : Int).toNat) 3) 111 = A 111 := (gs_up_row _ _ (by omega)).trans u2
    generalize gs_up A 110 ((8 : Int).toNat) 3 = A4 at I5 f6 u7 u8 ⊢
    refine sA_aload_n dd_X9_draftPlan_16 rfl (.head _) ?_
    refine sA_getr (ci := 9) (j := 7) (q := (RX9, TX9, 28)) dd_X9_draftPlan_17 rfl (by decide) fl_X9_22 (by decide) gs_s106 rfl ?_
    refine sA_sipush (z := 480) dd_X9_draftPlan_20 (by decide) ?_
    refine sA_iload_n dd_X9_draftPlan_23 rfl (.tail _ (.head _)) ?_
    refine sA_iast (n := 540) dd_X9_draftPlan_24 (by decide) gs_s111 (by omega) (by decide) ?_
    have I10 : gs_I F (gs_up A4 111 ((480 : Int).toNat) a) := gs_I_ast I5 (show (-2147483648 : Int) ≤ a ∧ a ≤ 2147483647 by omega)
    have f11 := gs_fr_ast f6 (a := 111) (z := a) (i := (480 : Int).toNat) (by first | omega | (dsimp only; omega) | (dsimp only) | fail)
    have u12 : (gs_up A4 111 ((480 : Int).toNat) a) 110 = gs_u (A 110) ((8 : Int).toNat) 3 := (gs_up_row _ _ (by omega)).trans u7
    have u13 : (gs_up A4 111 ((480 : Int).toNat) a) 111 = gs_u (A 111) ((480 : Int).toNat) a := (gs_up_u A4 111 ((480 : Int).toNat) a).trans (congrArg (fun f => gs_u f ((480 : Int).toNat) a) u8)
    generalize gs_up A4 111 ((480 : Int).toNat) a = A9 at I10 f11 u12 u13 ⊢
    refine sA_aload_n dd_X9_draftPlan_25 rfl (.head _) ?_
    refine sA_getr (ci := 9) (j := 7) (q := (RX9, TX9, 28)) dd_X9_draftPlan_26 rfl (by decide) fl_X9_22 (by decide) gs_s106 rfl ?_
    refine sA_sipush (z := 481) dd_X9_draftPlan_29 (by decide) ?_
    refine sA_iload_n dd_X9_draftPlan_32 rfl (.tail _ (.tail _ (.head _))) ?_
    refine sA_iast (n := 540) dd_X9_draftPlan_33 (by decide) gs_s111 (by omega) (by decide) ?_
    have I15 : gs_I F (gs_up A9 111 ((481 : Int).toNat) b) := gs_I_ast I10 (show (-2147483648 : Int) ≤ b ∧ b ≤ 2147483647 by omega)
    have f16 := gs_fr_ast f11 (a := 111) (z := b) (i := (481 : Int).toNat) (by first | omega | (dsimp only; omega) | (dsimp only) | fail)
    have u17 : (gs_up A9 111 ((481 : Int).toNat) b) 110 = gs_u (A 110) ((8 : Int).toNat) 3 := (gs_up_row _ _ (by omega)).trans u12
    have u18 : (gs_up A9 111 ((481 : Int).toNat) b) 111 = gs_u (gs_u (A 111) ((480 : Int).toNat) a) ((481 : Int).toNat) b := (gs_up_u A9 111 ((481 : Int).toNat) b).trans (congrArg (fun f => gs_u f ((481 : Int).toNat) b) u13)
    generalize gs_up A9 111 ((481 : Int).toNat) b = A14 at I15 f16 u17 u18 ⊢
    refine sA_aload_n dd_X9_draftPlan_34 rfl (.head _) ?_
    refine sA_getr (ci := 9) (j := 7) (q := (RX9, TX9, 28)) dd_X9_draftPlan_35 rfl (by decide) fl_X9_22 (by decide) gs_s106 rfl ?_
    refine sA_sipush (z := 482) dd_X9_draftPlan_38 (by decide) ?_
    refine sA_iload_n dd_X9_draftPlan_41 rfl (.tail _ (.tail _ (.tail _ (.head _)))) ?_
    refine sA_iast (n := 540) dd_X9_draftPlan_42 (by decide) gs_s111 (by omega) (by decide) ?_
    have I20 : gs_I F (gs_up A14 111 ((482 : Int).toNat) e) := gs_I_ast I15 (show (-2147483648 : Int) ≤ e ∧ e ≤ 2147483647 by omega)
    have f21 := gs_fr_ast f16 (a := 111) (z := e) (i := (482 : Int).toNat) (by first | omega | (dsimp only; omega) | (dsimp only) | fail)
    have u22 : (gs_up A14 111 ((482 : Int).toNat) e) 110 = gs_u (A 110) ((8 : Int).toNat) 3 := (gs_up_row _ _ (by omega)).trans u17
    have u23 : (gs_up A14 111 ((482 : Int).toNat) e) 111 = gs_u (gs_u (gs_u (A 111) ((480 : Int).toNat) a) ((481 : Int).toNat) b) ((482 : Int).toNat) e := (gs_up_u A14 111 ((482 : Int).toNat) e).trans (congrArg (fun f => gs_u f ((482 : Int).toNat) e) u18)
    generalize gs_up A14 111 ((482 : Int).toNat) e = A19 at I20 f21 u22 u23 ⊢
    refine sA_vret dd_X9_draftPlan_43 rfl ?_
    refine ⟨rfl, I20, f21, ?_⟩
    refine ⟨⟨fun i hi => ?_, fun i hi => ?_⟩, ?_, ?_, ?_, ?_⟩
    · rw [u22, gs_u_ne _ _ (by omega)]
    · rw [u23, gs_u_ne _ _ (by omega), gs_u_ne _ _ (by omega), gs_u_ne _ _ (by omega)]
    · rw [u22]
      first | exact .inl ⟨by omega, gs_u_self _ _ _⟩ | exact .inr ⟨by omega, gs_u_self _ _ _⟩ | fail
    · rw [u23, gs_u_ne _ _ (by omega), gs_u_ne _ _ (by omega)]
      exact gs_u_self _ _ _
    · rw [u23, gs_u_ne _ _ (by omega)]
      exact gs_u_self _ _ _
    · rw [u23]
      exact gs_u_self _ _ _
  · skip
    refine sA_iconst (z := 2) dd_X9_draftPlan_10 ?_
    refine sA_goto (tgt := 15) dd_X9_draftPlan_11 (by decide) ?_
    refine sA_iast (n := 9) dd_X9_draftPlan_15 (by decide) gs_s110 (by omega) (by decide) ?_
    have I25 : gs_I F (gs_up A 110 ((8 : Int).toNat) 2) := gs_I_ast hI (show (0 : Int) ≤ 2 ∧ 2 ≤ 60 by omega)
    have f26 := gs_fr_ast hf (a := 110) (z := 2) (i := (8 : Int).toNat) (by first | omega | (dsimp only; omega) | (dsimp only) | fail)
    have u27 : (gs_up A 110 ((8 : Int).toNat) 2) 110 = gs_u (A 110) ((8 : Int).toNat) 2 := (gs_up_u A 110 ((8 : Int).toNat) 2).trans (congrArg (fun f => gs_u f ((8 : Int).toNat) 2) u1)
    have u28 : (gs_up A 110 ((8 : Int).toNat) 2) 111 = A 111 := (gs_up_row _ _ (by omega)).trans u2
    generalize gs_up A 110 ((8 : Int).toNat) 2 = A24 at I25 f26 u27 u28 ⊢
    refine sA_aload_n dd_X9_draftPlan_16 rfl (.head _) ?_
    refine sA_getr (ci := 9) (j := 7) (q := (RX9, TX9, 28)) dd_X9_draftPlan_17 rfl (by decide) fl_X9_22 (by decide) gs_s106 rfl ?_
    refine sA_sipush (z := 480) dd_X9_draftPlan_20 (by decide) ?_
    refine sA_iload_n dd_X9_draftPlan_23 rfl (.tail _ (.head _)) ?_
    refine sA_iast (n := 540) dd_X9_draftPlan_24 (by decide) gs_s111 (by omega) (by decide) ?_
    have I30 : gs_I F (gs_up A24 111 ((480 : Int).toNat) a) := gs_I_ast I25 (show (-2147483648 : Int) ≤ a ∧ a ≤ 2147483647 by omega)
    have f31 := gs_fr_ast f26 (a := 111) (z := a) (i := (480 : Int).toNat) (by first | omega | (dsimp only; omega) | (dsimp only) | fail)
    have u32 : (gs_up A24 111 ((480 : Int).toNat) a) 110 = gs_u (A 110) ((8 : Int).toNat) 2 := (gs_up_row _ _ (by omega)).trans u27
    have u33 : (gs_up A24 111 ((480 : Int).toNat) a) 111 = gs_u (A 111) ((480 : Int).toNat) a := (gs_up_u A24 111 ((480 : Int).toNat) a).trans (congrArg (fun f => gs_u f ((480 : Int).toNat) a) u28)
    generalize gs_up A24 111 ((480 : Int).toNat) a = A29 at I30 f31 u32 u33 ⊢
    refine sA_aload_n dd_X9_draftPlan_25 rfl (.head _) ?_
    refine sA_getr (ci := 9) (j := 7) (q := (RX9, TX9, 28)) dd_X9_draftPlan_26 rfl (by decide) fl_X9_22 (by decide) gs_s106 rfl ?_
    refine sA_sipush (z := 481) dd_X9_draftPlan_29 (by decide) ?_
    refine sA_iload_n dd_X9_draftPlan_32 rfl (.tail _ (.tail _ (.head _))) ?_
    refine sA_iast (n := 540) dd_X9_draftPlan_33 (by decide) gs_s111 (by omega) (by decide) ?_
    have I35 : gs_I F (gs_up A29 111 ((481 : Int).toNat) b) := gs_I_ast I30 (show (-2147483648 : Int) ≤ b ∧ b ≤ 2147483647 by omega)
    have f36 := gs_fr_ast f31 (a := 111) (z := b) (i := (481 : Int).toNat) (by first | omega | (dsimp only; omega) | (dsimp only) | fail)
    have u37 : (gs_up A29 111 ((481 : Int).toNat) b) 110 = gs_u (A 110) ((8 : Int).toNat) 2 := (gs_up_row _ _ (by omega)).trans u32
    have u38 : (gs_up A29 111 ((481 : Int).toNat) b) 111 = gs_u (gs_u (A 111) ((480 : Int).toNat) a) ((481 : Int).toNat) b := (gs_up_u A29 111 ((481 : Int).toNat) b).trans (congrArg (fun f => gs_u f ((481 : Int).toNat) b) u33)
    generalize gs_up A29 111 ((481 : Int).toNat) b = A34 at I35 f36 u37 u38 ⊢
    refine sA_aload_n dd_X9_draftPlan_34 rfl (.head _) ?_
    refine sA_getr (ci := 9) (j := 7) (q := (RX9, TX9, 28)) dd_X9_draftPlan_35 rfl (by decide) fl_X9_22 (by decide) gs_s106 rfl ?_
    refine sA_sipush (z := 482) dd_X9_draftPlan_38 (by decide) ?_
    refine sA_iload_n dd_X9_draftPlan_41 rfl (.tail _ (.tail _ (.tail _ (.head _)))) ?_
    refine sA_iast (n := 540) dd_X9_draftPlan_42 (by decide) gs_s111 (by omega) (by decide) ?_
    have I40 : gs_I F (gs_up A34 111 ((482 : Int).toNat) e) := gs_I_ast I35 (show (-2147483648 : Int) ≤ e ∧ e ≤ 2147483647 by omega)
    have f41 := gs_fr_ast f36 (a := 111) (z := e) (i := (482 : Int).toNat) (by first | omega | (dsimp only; omega) | (dsimp only) | fail)
    have u42 : (gs_up A34 111 ((482 : Int).toNat) e) 110 = gs_u (A 110) ((8 : Int).toNat) 2 := (gs_up_row _ _ (by omega)).trans u37
    have u43 : (gs_up A34 111 ((482 : Int).toNat) e) 111 = gs_u (gs_u (gs_u (A 111) ((480 : Int).toNat) a) ((481 : Int).toNat) b) ((482 : Int).toNat) e := (gs_up_u A34 111 ((482 : Int).toNat) e).trans (congrArg (fun f => gs_u f ((482 : Int).toNat) e) u38)
    generalize gs_up A34 111 ((482 : Int).toNat) e = A39 at I40 f41 u42 u43 ⊢
    refine sA_vret dd_X9_draftPlan_43 rfl ?_
    refine ⟨rfl, I40, f41, ?_⟩
    refine ⟨⟨fun i hi => ?_, fun i hi => ?_⟩, ?_, ?_, ?_, ?_⟩
    · rw [u42, gs_u_ne _ _ (by omega)]
    · rw [u43, gs_u_ne _ _ (by omega), gs_u_ne _ _ (by omega), gs_u_ne _ _ (by omega)]
    · rw [u42]
      first | exact .inl ⟨by omega, gs_u_self _ _ _⟩ | exact .inr ⟨by omega, gs_u_self _ _ _⟩ | fail
    · rw [u43, gs_u_ne _ _ (by omega), gs_u_ne _ _ (by omega)]
      exact gs_u_self _ _ _
    · rw [u43, gs_u_ne _ _ (by omega)]
      exact gs_u_self _ _ _
    · rw [u43]
      exact gs_u_self _ _ _
theorem k_X9_isDraftLike_vf  {F A : gs_F} (hI : gs_I F A) (hcd : ∀ i : Int, 0 ≤ i → i < A 110 (8 : Int).toNat → 0 ≤ A 111 (60 * (8 : Int) + i).toNat ∧ A 111 (60 * (8 : Int) + i).toNat ≤ 15) : ∀ nN : Nat, (∀ (b : Int) (x : Int)  (F1 A1 : gs_F), gs_I F1 A1 → gs_fr (fun c j => c = 106 ∧ (j = 13 ∨ j = 15)) (fun c => c = 114 ∨ c = 115) F A F1 A1 → b = 0 ∨ b = 1 → 0 ≤ x ∧ x ≤ 6 → x ≤ 2 * F 106 0 ∧ F1 106 0 = F 106 0 → (b = 1 → ∀ ii : Nat, (ii : Int) < x → gs_plm F A 8 [(ii : Int) + 1] = some (gs_im A ii)) → (b = 0 → ¬ gs_dl F A) → 6 - x < (nN : Int) → sA m_X9_isDraftLike 6 (fun rv F' A' => ∃ z : Int, rv = some (gs_iv z) ∧ gs_I F' A' ∧ gs_fr (fun c j => c = 106 ∧ (j = 13 ∨ j = 15)) (fun c => c = 114 ∨ c = 115) F A F' A' ∧ ((z = 1 ∧ gs_dl F A) ∨ (z = 0 ∧ ¬ gs_dl F A))) 4 [(2, gs_iv x), (1, gs_iv b), (0, .ref 106)] [] F1 A1) := by
  intro nN
  induction nN with
  | zero =>
    exact fun a0 a1 a2 a3 a4 a5 i0 i1 i2 i3 i4 hm => by exfalso; omega
  | succ nN ih =>
    intro b x F1 A1 hI1 hf1 i0 i1 i2 i3 i4 hm
    have b1 : (1 : Int) ≤ F1 106 0 ∧ F1 106 0 ≤ 3 := hI1.1 106 0
    refine sA_iload_n dd_X9_isDraftLike_4 rfl (.head _) ?_
    refine sA_iconst (z := 2) dd_X9_isDraftLike_5 ?_
    refine sA_aload_n dd_X9_isDraftLike_6 rfl (.tail _ (.tail _ (.head _))) ?_
    refine sA_geti (ci := 9) (j := 0) (q := (RX9, TX9, 28)) dd_X9_isDraftLike_7 rfl (by decide) fl_X9_64 (by decide) gs_s106 rfl ?_
    refine sA_imul dd_X9_isDraftLike_10 ?_
    refine sA_icmp_ge (tgt := 54) dd_X9_isDraftLike_11 (by decide) (by omega) (by omega) (fun q2 => ?_) (fun q2 => ?_)
    · skip
      refine sA_iload_n dd_X9_isDraftLike_54 rfl (.tail _ (.head _)) ?_
      refine sA_bret (z := b) dd_X9_isDraftLike_55 rfl (by omega) ?_
      refine ⟨_, rfl, hI1, hf1, ?_⟩
      rcases i0 with h | h
      · exact .inr ⟨h, i4 h⟩
      · exact .inl ⟨h, fun ii hi => i3 h ii (by omega)⟩
    · skip
      refine sA_iload_n dd_X9_isDraftLike_14 rfl (.tail _ (.head _)) ?_
      refine sA_if_eq (tgt := 54) dd_X9_isDraftLike_15 (by decide) (by omega) (fun q3 => ?_) (fun q3 => ?_)
      · skip
        refine sA_iload_n dd_X9_isDraftLike_54 rfl (.tail _ (.head _)) ?_
        refine sA_bret (z := b) dd_X9_isDraftLike_55 rfl (by omega) ?_
        refine ⟨_, rfl, hI1, hf1, ?_⟩
        rcases i0 with h | h
        · exact .inr ⟨h, i4 h⟩
        · exact .inl ⟨h, fun ii hi => i3 h ii (by omega)⟩
      · skip
        refine sA_aload_n dd_X9_isDraftLike_18 rfl (.tail _ (.tail _ (.head _))) ?_
        refine sA_iload_n dd_X9_isDraftLike_19 rfl (.head _) ?_
        refine sA_iconst (z := 1) dd_X9_isDraftLike_20 ?_
        refine sA_iadd dd_X9_isDraftLike_21 ?_
        refine sA_callV (y2 := m_X9_takeLetter) (n2 := 1) (d2 := 1) (a := 106) (ci := 9) (q := (RX9, TX9, 28)) (as := [gs_iv (x + 1)]) (rest := []) dd_X9_isDraftLike_22 ok_X9_takeLetter ml_X9_224 rfl rfl (by decide) gs_s106 rfl rfl (Nat.le_of_ble_eq_true rfl) (by decide) (c_X9_takeLetter_vf hI1 (by omega)) (fun r4 F5 A6 h7 => ?_)
        obtain ⟨e9, I10, f11, x8⟩ := h7
        subst e9
        have v12 : F5 106 0 = F1 106 0 := f11.1 106 0 (by first | exact id | omega | (dsimp only; omega) | (dsimp only) | fail)
        have f13 := gs_fr_tr hf1 f11 (fun b j h => by first | exact False.elim h | omega | (dsimp only at h ⊢; omega) | fail) (fun b h => by first | exact False.elim h | omega | (dsimp only at h ⊢; omega) | fail)
        have y14 : F5 106 13 = 1 ∧ A6 114 = gs_u (A1 114) 0 (x + 1) := x8
        clear x8
        show sA _ _ _ 25 _ [] _ _
        refine sA_aload_n dd_X9_isDraftLike_25 rfl (.tail _ (.tail _ (.head _))) ?_
        refine sA_bipush (z := 8) dd_X9_isDraftLike_26 (by decide) ?_
        have h110 : A6 110 = A 110 := f13.2 110 (by dsimp only; omega)
        have h111 : A6 111 = A 111 := f13.2 111 (by dsimp only; omega)
        have hg0 : F5 106 0 = F 106 0 := f13.1 106 0 (by dsimp only; omega)
        have hcd1 : ∀ i : Int, 0 ≤ i → i < A6 110 (8 : Int).toNat → 0 ≤ A6 111 (60 * (8 : Int) + i).toNat ∧ A6 111 (60 * (8 : Int) + i).toNat ≤ 15 := by rw [h110, h111]; exact hcd
        have y22 := y14
        have hstk : gs_stk (A6 114) (F5 106 13).toNat = [x + 1] := by
          rw [y22.1, y22.2]
          show [gs_u (A1 114) 0 (x + 1) 0] = [x + 1]
          rw [gs_u_self]
        have hw_at : gs_dl F A → gs_plm F A 8 [x + 1] = some (gs_im A x.toNat) := fun w => by
          have w2 := w x.toNat (by omega)
          rw [show ((x.toNat : Nat) : Int) + 1 = x + 1 by omega] at w2
          exact w2
        refine sA_callV (y2 := m_X9_imageRow) (n2 := 1) (d2 := 5) (a := 106) (ci := 9) (q := (RX9, TX9, 28)) (as := [gs_iv 8]) (rest := []) dd_X9_isDraftLike_28 ok_X9_imageRow ml_X9_227 rfl rfl (by decide) gs_s106 rfl rfl (Nat.le_of_ble_eq_true rfl) (by decide) (c_X9_imageRow_vf I10 (by omega) hcd1) (fun r15 F16 A17 h18 => ?_)
        obtain ⟨z21, e20, I22, f23, x19⟩ := h18
        subst e20
        have v24 : F16 106 0 = F5 106 0 := f23.1 106 0 (by first | exact id | omega | (dsimp only; omega) | (dsimp only) | fail)
        have f25 := gs_fr_tr f13 f23 (fun b j h => by first | exact False.elim h | omega | (dsimp only at h ⊢; omega) | fail) (fun b h => by first | exact False.elim h | omega | (dsimp only at h ⊢; omega) | fail)
        have y26 : (z21 = 1 ∧ sp_pl (fun u => sp_tw (sp_m (F5 106 0) u)) (fun i => A6 111 (60 * (8 : Int).toNat + i)) (A6 110 (8 : Int).toNat).toNat (gs_stk (A6 114) (F5 106 13).toNat) = some (gs_stk (A17 114) (F16 106 13).toNat)) ∨ (z21 = 0 ∧ sp_pl (fun u => sp_tw (sp_m (F5 106 0) u)) (fun i => A6 111 (60 * (8 : Int).toNat + i)) (A6 110 (8 : Int).toNat).toNat (gs_stk (A6 114) (F5 106 13).toNat) = none) := x19
        clear x19
        show sA _ _ _ 31 _ [gs_iv z21] _ _
        refine sA_if_eq (tgt := 46) dd_X9_isDraftLike_31 (by decide) (by omega) (fun q27 => ?_) (fun q27 => ?_)
        · skip
          refine sA_iconst (z := 0) dd_X9_isDraftLike_46 ?_
          refine sA_istore_n (lv' := [(1, gs_iv 0), (2, gs_iv x), (0, .ref 106)]) dd_X9_isDraftLike_47 rfl (by decide) rfl ?_
          refine sA_iinc (lv' := [(2, gs_iv (x + 1)), (1, gs_iv 0), (0, .ref 106)]) dd_X9_isDraftLike_48 (.tail _ (.head _)) (by decide) rfl ?_
          refine sA_goto (tgt := 4) dd_X9_isDraftLike_51 (by decide) ?_
          have b28 : (1 : Int) ≤ F16 106 0 ∧ F16 106 0 ≤ 3 := I22.1 106 0
          refine sA_sub (lv2 := [(2, gs_iv (x + 1)), (1, gs_iv 0), (0, .ref 106)]) (List.forall_mem_cons.mpr ⟨(.head _), (List.forall_mem_cons.mpr ⟨(.tail _ (.head _)), (List.forall_mem_cons.mpr ⟨(.tail _ (.tail _ (.head _))), (fun _ h => absurd h List.not_mem_nil)⟩)⟩)⟩) ?_
          exact ih 0 (x + 1) F16 A17 I22 f25 (by omega) (by omega) (by omega) (fun h0 ii hi => by exfalso; omega) (fun h0 w => by rcases y26 with y | y <;> first | (exfalso; omega) | (have y2 := y.2; rw [h110, h111, hg0, hstk] at y2; exact gs_nn (hw_at w) y2) | fail) (by omega)
        · skip
          have hQx : gs_plm F A 8 [x + 1] = some (gs_stk (A17 114) (F16 106 13).toNat) := by
            rcases y26 with y | y
            · have y2 := y.2
              rw [h110, h111, hg0, hstk] at y2
              exact y2
            · exfalso
              omega
          have him : ∀ ii : Nat, gs_im A17 ii = gs_im A ii := fun ii => gs_im_cg (f25.2 119 (by dsimp only; omega)) (f25.2 120 (by dsimp only; omega)) ii
          refine sA_aload_n dd_X9_isDraftLike_34 rfl (.tail _ (.tail _ (.head _))) ?_
          refine sA_iload_n dd_X9_isDraftLike_35 rfl (.head _) ?_
          refine sA_callV (y2 := m_X9_isImage) (n2 := 1) (d2 := 1) (a := 106) (ci := 9) (q := (RX9, TX9, 28)) (as := [gs_iv x]) (rest := []) dd_X9_isDraftLike_36 ok_X9_isImage ml_X9_245 rfl rfl (by decide) gs_s106 rfl rfl (Nat.le_of_ble_eq_true rfl) (by decide) (c_X9_isImage_vf I22 (by omega)) (fun r29 F30 A31 h32 => ?_)
          obtain ⟨z35, e34, e36, e37, x33⟩ := h32
          subst e34 e36 e37
          have y38 : (z35 = 1 ∧ (gs_stk (A17 114) (F16 106 13).toNat = gs_im A17 x.toNat)) ∨ (z35 = 0 ∧ ¬ (gs_stk (A17 114) (F16 106 13).toNat = gs_im A17 x.toNat)) := x33
          clear x33
          show sA _ _ _ 39 _ [gs_iv z35] _ _
          refine sA_if_eq (tgt := 46) dd_X9_isDraftLike_39 (by decide) (by omega) (fun q39 => ?_) (fun q39 => ?_)
          · skip
            refine sA_iconst (z := 0) dd_X9_isDraftLike_46 ?_
            refine sA_istore_n (lv' := [(1, gs_iv 0), (2, gs_iv x), (0, .ref 106)]) dd_X9_isDraftLike_47 rfl (by decide) rfl ?_
            refine sA_iinc (lv' := [(2, gs_iv (x + 1)), (1, gs_iv 0), (0, .ref 106)]) dd_X9_isDraftLike_48 (.tail _ (.head _)) (by decide) rfl ?_
            refine sA_goto (tgt := 4) dd_X9_isDraftLike_51 (by decide) ?_
            have b40 : (1 : Int) ≤ F16 106 0 ∧ F16 106 0 ≤ 3 := I22.1 106 0
            refine sA_sub (lv2 := [(2, gs_iv (x + 1)), (1, gs_iv 0), (0, .ref 106)]) (List.forall_mem_cons.mpr ⟨(.head _), (List.forall_mem_cons.mpr ⟨(.tail _ (.head _)), (List.forall_mem_cons.mpr ⟨(.tail _ (.tail _ (.head _))), (fun _ h => absurd h List.not_mem_nil)⟩)⟩)⟩) ?_
            exact ih 0 (x + 1) F16 A17 I22 f25 (by omega) (by omega) (by omega) (fun h0 ii hi => by exfalso; omega) (fun h0 w => by rcases y38 with y | y <;> first | (exfalso; omega) | (have w2 := (hw_at w); rw [hQx] at w2; injection w2 with w2; exact y.2 (w2.trans (him x.toNat).symm)) | fail) (by omega)
          · skip
            refine sA_iconst (z := 1) dd_X9_isDraftLike_42 ?_
            refine sA_goto (tgt := 47) dd_X9_isDraftLike_43 (by decide) ?_
            refine sA_istore_n (lv' := [(1, gs_iv 1), (2, gs_iv x), (0, .ref 106)]) dd_X9_isDraftLike_47 rfl (by decide) rfl ?_
            refine sA_iinc (lv' := [(2, gs_iv (x + 1)), (1, gs_iv 1), (0, .ref 106)]) dd_X9_isDraftLike_48 (.tail _ (.head _)) (by decide) rfl ?_
            refine sA_goto (tgt := 4) dd_X9_isDraftLike_51 (by decide) ?_
            have b41 : (1 : Int) ≤ F16 106 0 ∧ F16 106 0 ≤ 3 := I22.1 106 0
            refine sA_sub (lv2 := [(2, gs_iv (x + 1)), (1, gs_iv 1), (0, .ref 106)]) (List.forall_mem_cons.mpr ⟨(.head _), (List.forall_mem_cons.mpr ⟨(.tail _ (.head _)), (List.forall_mem_cons.mpr ⟨(.tail _ (.tail _ (.head _))), (fun _ h => absurd h List.not_mem_nil)⟩)⟩)⟩) ?_
            exact ih 1 (x + 1) F16 A17 I22 f25 (by omega) (by omega) (by omega) (fun h0 ii hi => by by_cases h : (ii : Int) < x <;> first | exact i3 (by omega) ii h | (rcases y38 with y | y <;> first | (exfalso; omega) | (rw [show (ii : Int) + 1 = x + 1 by omega, show ii = x.toNat by omega, hQx, y.2, him]) | fail) | fail) (fun h0 => by exfalso; omega) (by omega)
theorem c_X9_isDraftLike_vf  {F A : gs_F} (hI : gs_I F A) (hcd : ∀ i : Int, 0 ≤ i → i < A 110 (8 : Int).toNat → 0 ≤ A 111 (60 * (8 : Int) + i).toNat ∧ A 111 (60 * (8 : Int) + i).toNat ≤ 15) : sC m_X9_isDraftLike 6 [.ref 106] F A (fun rv F' A' => ∃ z : Int, rv = some (gs_iv z) ∧ gs_I F' A' ∧ gs_fr (fun c j => c = 106 ∧ (j = 13 ∨ j = 15)) (fun c => c = 114 ∨ c = 115) F A F' A' ∧ ((z = 1 ∧ gs_dl F A) ∨ (z = 0 ∧ ¬ gs_dl F A))) := by
  refine sC_of ok_X9_isDraftLike.1 (Nat.le_of_ble_eq_true rfl) ?_
  show sA _ _ _ 0 [(0, .ref 106)] [] F A
  have hf : gs_fr (fun c j => c = 106 ∧ (j = 13 ∨ j = 15)) (fun c => c = 114 ∨ c = 115) F A F A := gs_fr_refl _ _ _ _
  have b42 : (1 : Int) ≤ F 106 0 ∧ F 106 0 ≤ 3 := hI.1 106 0
  have hb0 : (1 : Int) ≤ F 106 0 ∧ F 106 0 ≤ 3 := hI.1 106 0
  refine sA_iconst (z := 1) dd_X9_isDraftLike_0 ?_
  refine sA_istore_n (lv' := [(1, gs_iv 1), (0, .ref 106)]) dd_X9_isDraftLike_1 rfl (by decide) rfl ?_
  refine sA_iconst (z := 0) dd_X9_isDraftLike_2 ?_
  refine sA_istore_n (lv' := [(2, gs_iv 0), (1, gs_iv 1), (0, .ref 106)]) dd_X9_isDraftLike_3 rfl (by decide) rfl ?_
  refine sA_sub (lv2 := [(2, gs_iv 0), (1, gs_iv 1), (0, .ref 106)]) (List.forall_mem_cons.mpr ⟨(.head _), (List.forall_mem_cons.mpr ⟨(.tail _ (.head _)), (List.forall_mem_cons.mpr ⟨(.tail _ (.tail _ (.head _))), (fun _ h => absurd h List.not_mem_nil)⟩)⟩)⟩) ?_
  exact (k_X9_isDraftLike_vf hI hcd (6 - 0 : Int).toNat.succ) 1 0 F A hI hf (by omega) (by omega) (by omega) (fun h0 ii hi => by exfalso; omega) (fun h0 => by exfalso; omega) (by omega)
theorem c_X9_law_vg {t s : Int} {F A : gs_F} (hI : gs_I F A) (ht : -2147483648 ≤ t ∧ t ≤ 2147483647) (hs : -2147483648 ≤ s ∧ s ≤ 2147483647) : sC m_X9_law 8 [.ref 106, gs_iv t, gs_iv s] F A (fun rv F' A' => ∃ z : Int, rv = some (gs_iv z) ∧ gs_I F' A' ∧ gs_fr (fun c j => c = 106 ∧ (j = 13 ∨ j = 15)) (fun c => c = 110 ∨ c = 111 ∨ c = 114 ∨ c = 115 ∨ c = 119 ∨ c = 120) F A F' A' ∧ (gs_k8 A A' ∧ (((t < 0 ∨ 3 * F 106 0 - 1 ≤ t ∨ s < 0 ∨ 3 * F 106 0 - 1 ≤ s) ∧ z = -1001) ∨ (0 ≤ t ∧ t < 3 * F 106 0 - 1 ∧ 0 ≤ s ∧ s < 3 * F 106 0 - 1 ∧ gs_lw (F 106 0) t s z)))) := by
  refine sC_of ok_X9_law.1 (Nat.le_of_ble_eq_true rfl) ?_
  show sA _ _ _ 0 [(0, .ref 106), (1, gs_iv t), (2, gs_iv s)] [] F A
  have hf : gs_fr (fun c j => c = 106 ∧ (j = 13 ∨ j = 15)) (fun c => c = 110 ∨ c = 111 ∨ c = 114 ∨ c = 115 ∨ c = 119 ∨ c = 120) F A F A := gs_fr_refl _ _ _ _
  have hk8 : gs_k8 A A := gs_k8_fr rfl rfl
  have hb0 : (1 : Int) ≤ F 106 0 ∧ F 106 0 ≤ 3 := hI.1 106 0
  have hgg : (1 : Int) ≤ F 106 0 ∧ F 106 0 ≤ 3 := hI.1 106 0
  refine sA_iload_n dd_X9_law_0 rfl (.tail _ (.head _)) ?_
  refine sA_i2l dd_X9_law_1 (by omega) ?_
  refine sA_lconst (z := 0) dd_X9_law_2 (by decide) ?_
  refine sA_aload_n dd_X9_law_3 rfl (.head _) ?_
  refine sA_callV (y2 := m_X9_twists) (n2 := 0) (d2 := 1) (a := 106) (ci := 9) (q := (RX9, TX9, 28)) (as := []) (rest := [gs_lv 0, gs_lv t]) dd_X9_law_4 ok_X9_twists ml_X9_289 rfl rfl (by decide) gs_s106 rfl rfl (Nat.le_of_ble_eq_true rfl) (by decide) (c_X9_twists hI ) (fun r1 F2 A3 h4 => ?_)
  obtain ⟨z7, e6, e8, e9, x5⟩ := h4
  subst e6 e8 e9
  show sA _ _ _ 7 _ [gs_iv z7, gs_lv 0, gs_lv t] _ _
  refine sA_iconst (z := 1) dd_X9_law_7 ?_
  refine sA_isub dd_X9_law_8 ?_
  refine sA_i2l dd_X9_law_9 (by omega) ?_
  refine sA_callS (y2 := m_X9_in) (n2 := 3) (d2 := 1) (as := [gs_lv t, gs_lv 0, gs_lv (z7 - 1)]) (rest := []) dd_X9_law_10 ok_X9_in ml_X9_75 rfl rfl (Nat.le_of_ble_eq_true rfl) (by decide) (c_X9_in (by omega) (by omega) (by omega)) (fun r10 F11 A12 h13 => ?_)
  obtain ⟨z16, e15, e17, e18, x14⟩ := h13
  subst e15 e17 e18
  show sA _ _ _ 13 _ [gs_iv z16] _ _
  refine sA_if_eq (tgt := 32) dd_X9_law_13 (by decide) (by omega) (fun q19 => ?_) (fun q19 => ?_)
  · skip
    refine sA_sipush (z := (-1001)) dd_X9_law_32 (by decide) ?_
    refine sA_iret (z := -1001) dd_X9_law_35 rfl ?_
    refine ⟨_, rfl, hI, hf, ?_⟩
    exact ⟨hk8, .inl ⟨by omega, rfl⟩⟩
  · skip
    refine sA_iload_n dd_X9_law_16 rfl (.tail _ (.tail _ (.head _))) ?_
    refine sA_i2l dd_X9_law_17 (by omega) ?_
    refine sA_lconst (z := 0) dd_X9_law_18 (by decide) ?_
    refine sA_aload_n dd_X9_law_19 rfl (.head _) ?_
    refine sA_callV (y2 := m_X9_twists) (n2 := 0) (d2 := 1) (a := 106) (ci := 9) (q := (RX9, TX9, 28)) (as := []) (rest := [gs_lv 0, gs_lv s]) dd_X9_law_20 ok_X9_twists ml_X9_289 rfl rfl (by decide) gs_s106 rfl rfl (Nat.le_of_ble_eq_true rfl) (by decide) (c_X9_twists hI ) (fun r20 F21 A22 h23 => ?_)
    obtain ⟨z26, e25, e27, e28, x24⟩ := h23
    subst e25 e27 e28
    show sA _ _ _ 23 _ [gs_iv z26, gs_lv 0, gs_lv s] _ _
    refine sA_iconst (z := 1) dd_X9_law_23 ?_
    refine sA_isub dd_X9_law_24 ?_
    refine sA_i2l dd_X9_law_25 (by omega) ?_
    refine sA_callS (y2 := m_X9_in) (n2 := 3) (d2 := 1) (as := [gs_lv s, gs_lv 0, gs_lv (z26 - 1)]) (rest := []) dd_X9_law_26 ok_X9_in ml_X9_75 rfl rfl (Nat.le_of_ble_eq_true rfl) (by decide) (c_X9_in (by omega) (by omega) (by omega)) (fun r29 F30 A31 h32 => ?_)
    obtain ⟨z35, e34, e36, e37, x33⟩ := h32
    subst e34 e36 e37
    show sA _ _ _ 29 _ [gs_iv z35] _ _
    refine sA_if_ne (tgt := 36) dd_X9_law_29 (by decide) (by omega) (fun q38 => ?_) (fun q38 => ?_)
    · skip
      refine sA_iconst (z := 2) dd_X9_law_36 ?_
      refine sA_iload_n dd_X9_law_37 rfl (.tail _ (.head _)) ?_
      refine sA_imul dd_X9_law_38 ?_
      refine sA_istore_n (lv' := [(3, gs_iv (2 * t)), (0, .ref 106), (1, gs_iv t), (2, gs_iv s)]) dd_X9_law_39 rfl (by decide) rfl ?_
      refine sA_iconst (z := 2) dd_X9_law_40 ?_
      refine sA_iload_n dd_X9_law_41 rfl (.tail _ (.tail _ (.tail _ (.head _)))) ?_
      refine sA_imul dd_X9_law_42 ?_
      refine sA_istore (lv' := [(4, gs_iv (2 * s)), (3, gs_iv (2 * t)), (0, .ref 106), (1, gs_iv t), (2, gs_iv s)]) dd_X9_law_43 (by decide) rfl ?_
      refine sA_aload_n dd_X9_law_45 rfl (.tail _ (.tail _ (.head _))) ?_
      refine sA_iload_n dd_X9_law_46 rfl (.tail _ (.head _)) ?_
      refine sA_iload dd_X9_law_47 (.head _) ?_
      refine sA_iconst (z := (-1)) dd_X9_law_49 ?_
      refine sA_callV (y2 := m_X9_draftPlan) (n2 := 3) (d2 := 1) (a := 106) (ci := 9) (q := (RX9, TX9, 28)) (as := [gs_iv (2 * t), gs_iv (2 * s), gs_iv (-1)]) (rest := []) dd_X9_law_50 ok_X9_draftPlan ml_X9_292 rfl rfl (by decide) gs_s106 rfl rfl (Nat.le_of_ble_eq_true rfl) (by decide) (c_X9_draftPlan_vg hI (by omega) (by omega) (by omega)) (fun r39 F40 A41 h42 => ?_)
      obtain ⟨e44, I45, f46, x43⟩ := h42
      subst e44
      have f47 := gs_fr_tr hf f46 (fun b j h => by first | exact False.elim h | omega | (dsimp only at h ⊢; omega) | fail) (fun b h => by first | exact False.elim h | omega | (dsimp only at h ⊢; omega) | fail)
      have t48 : gs_k8 A A41 := gs_k8_tr hk8 x43.1
      have y49 : gs_k8 A A41 ∧ (((-1 : Int) < 0 ∧ A41 110 8 = 2) ∨ (0 ≤ (-1 : Int) ∧ A41 110 8 = 3)) ∧ A41 111 480 = (2 * t) ∧ A41 111 481 = (2 * s) ∧ A41 111 482 = (-1 : Int) := x43
      clear x43
      show sA _ _ _ 53 _ [] _ _
      refine sA_aload_n dd_X9_law_53 rfl (.tail _ (.tail _ (.head _))) ?_
      refine sA_bipush (z := 8) dd_X9_law_54 (by decide) ?_
      have d50 := y49.2.1
      have d50a := y49.2.2.1
      have d50b := y49.2.2.2.1
      have d50c := y49.2.2.2.2
      have d50n : A41 110 8 = 2 := by omega
      have hg50 : F40 106 0 = F 106 0 := f47.1 106 0 (by dsimp only; omega)
      have hcd1 := gs_cd2 d50n d50a d50b (by omega) (by omega)
      refine sA_callV (y2 := m_X9_findImages) (n2 := 1) (d2 := 7) (a := 106) (ci := 9) (q := (RX9, TX9, 28)) (as := [gs_iv 8]) (rest := []) dd_X9_law_56 ok_X9_findImages ml_X9_242 rfl rfl (by decide) gs_s106 rfl rfl (Nat.le_of_ble_eq_true rfl) (by decide) (c_X9_findImages_vf I45 (by omega) hcd1) (fun r50 F51 A52 h53 => ?_)
      obtain ⟨z56, e55, I57, f58, x54⟩ := h53
      subst e55
      have f59 := gs_fr_tr f47 f58 (fun b j h => by first | exact False.elim h | omega | (dsimp only at h ⊢; omega) | fail) (fun b h => by first | exact False.elim h | omega | (dsimp only at h ⊢; omega) | fail)
      have t60 : gs_k8 A A52 := gs_k8_tr t48 (gs_k8_fr (f58.2 110 (by first | exact id | omega | (dsimp only; omega) | fail)) (f58.2 111 (by first | exact id | omega | (dsimp only; omega) | fail)))
      have y61 : (z56 = 1 ∧ ∀ ii : Nat, (ii : Int) < 2 * F40 106 0 → gs_plm F40 A41 (8 : Int) [(ii : Int) + 1] = some (gs_im A52 ii)) ∨ (z56 = 0 ∧ ∃ ii : Nat, (ii : Int) < 2 * F40 106 0 ∧ gs_plm F40 A41 (8 : Int) [(ii : Int) + 1] = none) := x54
      clear x54
      show sA _ _ _ 59 _ [gs_iv z56] _ _
      refine sA_istore (lv' := [(5, gs_iv z56), (4, gs_iv (2 * s)), (3, gs_iv (2 * t)), (0, .ref 106), (1, gs_iv t), (2, gs_iv s)]) dd_X9_law_59 (by decide) rfl ?_
      have hP2 : ∀ ii : Nat, (ii : Int) < 2 * F 106 0 → sp_p2 (F 106 0) (2 * t) (2 * s) ((ii : Int) + 1) = some (gs_im A52 ii) := by
        rcases y61 with y | y
        · intro ii hi
          have w := y.2 ii (by omega)
          rw [gs_plm_p2 d50n d50a d50b, hg50] at w
          exact w
        · exfalso
          obtain ⟨y1, ii, hi, y2⟩ := y
          rw [gs_plm_p2 d50n d50a d50b, hg50] at y2
          exact (sp_p23 hgg (by omega) (by omega) ⟨by omega, by omega⟩).1 y2
      clear y61
      refine sA_aload_n dd_X9_law_61 rfl (.tail _ (.tail _ (.tail _ (.head _)))) ?_
      refine sA_iload dd_X9_law_62 (.tail _ (.head _)) ?_
      refine sA_iload_n dd_X9_law_64 rfl (.tail _ (.tail _ (.head _))) ?_
      refine sA_iconst (z := (-1)) dd_X9_law_65 ?_
      refine sA_callV (y2 := m_X9_draftPlan) (n2 := 3) (d2 := 1) (a := 106) (ci := 9) (q := (RX9, TX9, 28)) (as := [gs_iv (2 * s), gs_iv (2 * t), gs_iv (-1)]) (rest := []) dd_X9_law_66 ok_X9_draftPlan ml_X9_292 rfl rfl (by decide) gs_s106 rfl rfl (Nat.le_of_ble_eq_true rfl) (by decide) (c_X9_draftPlan_vg I57 (by omega) (by omega) (by omega)) (fun r62 F63 A64 h65 => ?_)
      obtain ⟨e67, I68, f69, x66⟩ := h65
      subst e67
      have f70 := gs_fr_tr f59 f69 (fun b j h => by first | exact False.elim h | omega | (dsimp only at h ⊢; omega) | fail) (fun b h => by first | exact False.elim h | omega | (dsimp only at h ⊢; omega) | fail)
      have t71 : gs_k8 A A64 := gs_k8_tr t60 x66.1
      have y72 : gs_k8 A52 A64 ∧ (((-1 : Int) < 0 ∧ A64 110 8 = 2) ∨ (0 ≤ (-1 : Int) ∧ A64 110 8 = 3)) ∧ A64 111 480 = (2 * s) ∧ A64 111 481 = (2 * t) ∧ A64 111 482 = (-1 : Int) := x66
      clear x66
      show sA _ _ _ 69 _ [] _ _
      refine sA_aload_n dd_X9_law_69 rfl (.tail _ (.tail _ (.tail _ (.head _)))) ?_
      have d66 := y72.2.1
      have d66a := y72.2.2.1
      have d66b := y72.2.2.2.1
      have d66c := y72.2.2.2.2
      have d66n : A64 110 8 = 2 := by omega
      have hg66 : F63 106 0 = F 106 0 := f70.1 106 0 (by dsimp only; omega)
      have hcd1 := gs_cd2 d66n d66a d66b (by omega) (by omega)
      have him66 : ∀ ii : Nat, gs_im A64 ii = gs_im A52 ii := fun ii => gs_im_cg (f69.2 119 (by dsimp only; omega)) (f69.2 120 (by dsimp only; omega)) ii
      refine sA_callV (y2 := m_X9_isDraftLike) (n2 := 0) (d2 := 6) (a := 106) (ci := 9) (q := (RX9, TX9, 28)) (as := []) (rest := []) dd_X9_law_70 ok_X9_isDraftLike ml_X9_296 rfl rfl (by decide) gs_s106 rfl rfl (Nat.le_of_ble_eq_true rfl) (by decide) (c_X9_isDraftLike_vf I68 hcd1) (fun r73 F74 A75 h76 => ?_)
      obtain ⟨z79, e78, I80, f81, x77⟩ := h76
      subst e78
      have f82 := gs_fr_tr f70 f81 (fun b j h => by first | exact False.elim h | omega | (dsimp only at h ⊢; omega) | fail) (fun b h => by first | exact False.elim h | omega | (dsimp only at h ⊢; omega) | fail)
      have t83 : gs_k8 A A75 := gs_k8_tr t71 (gs_k8_fr (f81.2 110 (by first | exact id | omega | (dsimp only; omega) | fail)) (f81.2 111 (by first | exact id | omega | (dsimp only; omega) | fail)))
      have y84 : (z79 = 1 ∧ gs_dl F63 A64) ∨ (z79 = 0 ∧ ¬ gs_dl F63 A64) := x77
      clear x77
      show sA _ _ _ 73 _ [gs_iv z79] _ _
      have k2 : gs_dl F63 A64 ↔ ∀ x : Int, 1 ≤ x → x ≤ 2 * F 106 0 → sp_p2 (F 106 0) (2 * t) (2 * s) x = sp_p2 (F 106 0) (2 * s) (2 * t) x := by
        have e := gs_dl_eq (F := F63) (A := A64) (P := sp_p2 (F 106 0) (2 * t) (2 * s)) (Q := sp_p2 (F 106 0) (2 * s) (2 * t)) (fun ii hi => by rw [him66 ii]; exact hP2 ii (by omega)) (fun y => by rw [gs_plm_p2 d66n d66a d66b, hg66])
        rw [hg66] at e
        exact e
      refine sA_if_eq (tgt := 78) dd_X9_law_73 (by decide) (by omega) (fun q85 => ?_) (fun q85 => ?_)
      · skip
        have n2 : ¬ (∀ x : Int, 1 ≤ x → x ≤ 2 * F 106 0 → sp_p2 (F 106 0) (2 * t) (2 * s) x = sp_p2 (F 106 0) (2 * s) (2 * t) x) := fun w => by
          rcases y84 with y | y
          · omega
          · exact y.2 (k2.mpr w)
        refine sA_aload_n dd_X9_law_78 rfl (.tail _ (.tail _ (.tail _ (.head _)))) ?_
        refine sA_iload_n dd_X9_law_79 rfl (.tail _ (.tail _ (.head _))) ?_
        refine sA_iload dd_X9_law_80 (.tail _ (.head _)) ?_
        refine sA_iload_n dd_X9_law_82 rfl (.tail _ (.tail _ (.head _))) ?_
        refine sA_callV (y2 := m_X9_draftPlan) (n2 := 3) (d2 := 1) (a := 106) (ci := 9) (q := (RX9, TX9, 28)) (as := [gs_iv (2 * t), gs_iv (2 * s), gs_iv (2 * t)]) (rest := []) dd_X9_law_83 ok_X9_draftPlan ml_X9_292 rfl rfl (by decide) gs_s106 rfl rfl (Nat.le_of_ble_eq_true rfl) (by decide) (c_X9_draftPlan_vg I80 (by omega) (by omega) (by omega)) (fun r86 F87 A88 h89 => ?_)
        obtain ⟨e91, I92, f93, x90⟩ := h89
        subst e91
        have f94 := gs_fr_tr f82 f93 (fun b j h => by first | exact False.elim h | omega | (dsimp only at h ⊢; omega) | fail) (fun b h => by first | exact False.elim h | omega | (dsimp only at h ⊢; omega) | fail)
        have t95 : gs_k8 A A88 := gs_k8_tr t83 x90.1
        have y96 : gs_k8 A75 A88 ∧ (((2 * t) < 0 ∧ A88 110 8 = 2) ∨ (0 ≤ (2 * t) ∧ A88 110 8 = 3)) ∧ A88 111 480 = (2 * t) ∧ A88 111 481 = (2 * s) ∧ A88 111 482 = (2 * t) := x90
        clear x90
        show sA _ _ _ 86 _ [] _ _
        refine sA_aload_n dd_X9_law_86 rfl (.tail _ (.tail _ (.tail _ (.head _)))) ?_
        refine sA_bipush (z := 8) dd_X9_law_87 (by decide) ?_
        have d83 := y96.2.1
        have d83a := y96.2.2.1
        have d83b := y96.2.2.2.1
        have d83c := y96.2.2.2.2
        have d83n : A88 110 8 = 3 := by omega
        have hg83 : F87 106 0 = F 106 0 := f94.1 106 0 (by dsimp only; omega)
        have hcd1 := gs_cd3 d83n d83a d83b d83c (by omega) (by omega) (by omega)
        refine sA_callV (y2 := m_X9_findImages) (n2 := 1) (d2 := 7) (a := 106) (ci := 9) (q := (RX9, TX9, 28)) (as := [gs_iv 8]) (rest := []) dd_X9_law_89 ok_X9_findImages ml_X9_242 rfl rfl (by decide) gs_s106 rfl rfl (Nat.le_of_ble_eq_true rfl) (by decide) (c_X9_findImages_vf I92 (by omega) hcd1) (fun r97 F98 A99 h100 => ?_)
        obtain ⟨z103, e102, I104, f105, x101⟩ := h100
        subst e102
        have f106 := gs_fr_tr f94 f105 (fun b j h => by first | exact False.elim h | omega | (dsimp only at h ⊢; omega) | fail) (fun b h => by first | exact False.elim h | omega | (dsimp only at h ⊢; omega) | fail)
        have t107 : gs_k8 A A99 := gs_k8_tr t95 (gs_k8_fr (f105.2 110 (by first | exact id | omega | (dsimp only; omega) | fail)) (f105.2 111 (by first | exact id | omega | (dsimp only; omega) | fail)))
        have y108 : (z103 = 1 ∧ ∀ ii : Nat, (ii : Int) < 2 * F87 106 0 → gs_plm F87 A88 (8 : Int) [(ii : Int) + 1] = some (gs_im A99 ii)) ∨ (z103 = 0 ∧ ∃ ii : Nat, (ii : Int) < 2 * F87 106 0 ∧ gs_plm F87 A88 (8 : Int) [(ii : Int) + 1] = none) := x101
        clear x101
        show sA _ _ _ 92 _ [gs_iv z103] _ _
        refine sA_istore (lv' := [(5, gs_iv z103), (4, gs_iv (2 * s)), (3, gs_iv (2 * t)), (0, .ref 106), (1, gs_iv t), (2, gs_iv s)]) dd_X9_law_92 (by decide) rfl ?_
        have hP3 : ∀ ii : Nat, (ii : Int) < 2 * F 106 0 → sp_p3 (F 106 0) (2 * t) (2 * s) ((ii : Int) + 1) = some (gs_im A99 ii) := by
          rcases y108 with y | y
          · intro ii hi
            have w := y.2 ii (by omega)
            rw [gs_plm_p3 d83n d83a d83b d83c, hg83] at w
            exact w
          · exfalso
            obtain ⟨y1, ii, hi, y2⟩ := y
            rw [gs_plm_p3 d83n d83a d83b d83c, hg83] at y2
            exact (sp_p23 hgg (by omega) (by omega) ⟨by omega, by omega⟩).2 y2
        clear y108
        refine sA_aload_n dd_X9_law_94 rfl (.tail _ (.tail _ (.tail _ (.head _)))) ?_
        refine sA_iload dd_X9_law_95 (.tail _ (.head _)) ?_
        refine sA_iload_n dd_X9_law_97 rfl (.tail _ (.tail _ (.head _))) ?_
        refine sA_iload dd_X9_law_98 (.tail _ (.head _)) ?_
        refine sA_callV (y2 := m_X9_draftPlan) (n2 := 3) (d2 := 1) (a := 106) (ci := 9) (q := (RX9, TX9, 28)) (as := [gs_iv (2 * s), gs_iv (2 * t), gs_iv (2 * s)]) (rest := []) dd_X9_law_100 ok_X9_draftPlan ml_X9_292 rfl rfl (by decide) gs_s106 rfl rfl (Nat.le_of_ble_eq_true rfl) (by decide) (c_X9_draftPlan_vg I104 (by omega) (by omega) (by omega)) (fun r109 F110 A111 h112 => ?_)
        obtain ⟨e114, I115, f116, x113⟩ := h112
        subst e114
        have f117 := gs_fr_tr f106 f116 (fun b j h => by first | exact False.elim h | omega | (dsimp only at h ⊢; omega) | fail) (fun b h => by first | exact False.elim h | omega | (dsimp only at h ⊢; omega) | fail)
        have t118 : gs_k8 A A111 := gs_k8_tr t107 x113.1
        have y119 : gs_k8 A99 A111 ∧ (((2 * s) < 0 ∧ A111 110 8 = 2) ∨ (0 ≤ (2 * s) ∧ A111 110 8 = 3)) ∧ A111 111 480 = (2 * s) ∧ A111 111 481 = (2 * t) ∧ A111 111 482 = (2 * s) := x113
        clear x113
        show sA _ _ _ 103 _ [] _ _
        refine sA_aload_n dd_X9_law_103 rfl (.tail _ (.tail _ (.tail _ (.head _)))) ?_
        have d100 := y119.2.1
        have d100a := y119.2.2.1
        have d100b := y119.2.2.2.1
        have d100c := y119.2.2.2.2
        have d100n : A111 110 8 = 3 := by omega
        have hg100 : F110 106 0 = F 106 0 := f117.1 106 0 (by dsimp only; omega)
        have hcd1 := gs_cd3 d100n d100a d100b d100c (by omega) (by omega) (by omega)
        have him100 : ∀ ii : Nat, gs_im A111 ii = gs_im A99 ii := fun ii => gs_im_cg (f116.2 119 (by dsimp only; omega)) (f116.2 120 (by dsimp only; omega)) ii
        refine sA_callV (y2 := m_X9_isDraftLike) (n2 := 0) (d2 := 6) (a := 106) (ci := 9) (q := (RX9, TX9, 28)) (as := []) (rest := []) dd_X9_law_104 ok_X9_isDraftLike ml_X9_296 rfl rfl (by decide) gs_s106 rfl rfl (Nat.le_of_ble_eq_true rfl) (by decide) (c_X9_isDraftLike_vf I115 hcd1) (fun r120 F121 A122 h123 => ?_)
        obtain ⟨z126, e125, I127, f128, x124⟩ := h123
        subst e125
        have f129 := gs_fr_tr f117 f128 (fun b j h => by first | exact False.elim h | omega | (dsimp only at h ⊢; omega) | fail) (fun b h => by first | exact False.elim h | omega | (dsimp only at h ⊢; omega) | fail)
        have t130 : gs_k8 A A122 := gs_k8_tr t118 (gs_k8_fr (f128.2 110 (by first | exact id | omega | (dsimp only; omega) | fail)) (f128.2 111 (by first | exact id | omega | (dsimp only; omega) | fail)))
        have y131 : (z126 = 1 ∧ gs_dl F110 A111) ∨ (z126 = 0 ∧ ¬ gs_dl F110 A111) := x124
        clear x124
        show sA _ _ _ 107 _ [gs_iv z126] _ _
        have k3 : gs_dl F110 A111 ↔ ∀ x : Int, 1 ≤ x → x ≤ 2 * F 106 0 → sp_p3 (F 106 0) (2 * t) (2 * s) x = sp_p3 (F 106 0) (2 * s) (2 * t) x := by
          have e := gs_dl_eq (F := F110) (A := A111) (P := sp_p3 (F 106 0) (2 * t) (2 * s)) (Q := sp_p3 (F 106 0) (2 * s) (2 * t)) (fun ii hi => by rw [him100 ii]; exact hP3 ii (by omega)) (fun y => by rw [gs_plm_p3 d100n d100a d100b d100c, hg100])
          rw [hg100] at e
          exact e
        refine sA_if_eq (tgt := 114) dd_X9_law_107 (by decide) (by omega) (fun q132 => ?_) (fun q132 => ?_)
        · skip
          refine sA_iconst (z := 2) dd_X9_law_114 ?_
          refine sA_iret (z := 2) dd_X9_law_115 rfl ?_
          refine ⟨_, rfl, I127, f129, ?_⟩
          refine ⟨t130, .inr ⟨by omega, by omega, by omega, by omega, .inr ⟨n2, ?_⟩⟩⟩
          rcases y131 with y | y
          · first | exact .inl ⟨k3.mp y.2, rfl⟩ | (exfalso; omega) | fail
          · first | exact .inr ⟨fun w => y.2 (k3.mpr w), rfl⟩ | (exfalso; omega) | fail
        · skip
          refine sA_iconst (z := 1) dd_X9_law_110 ?_
          refine sA_goto (tgt := 115) dd_X9_law_111 (by decide) ?_
          refine sA_iret (z := 1) dd_X9_law_115 rfl ?_
          refine ⟨_, rfl, I127, f129, ?_⟩
          refine ⟨t130, .inr ⟨by omega, by omega, by omega, by omega, .inr ⟨n2, ?_⟩⟩⟩
          rcases y131 with y | y
          · first | exact .inl ⟨k3.mp y.2, rfl⟩ | (exfalso; omega) | fail
          · first | exact .inr ⟨fun w => y.2 (k3.mpr w), rfl⟩ | (exfalso; omega) | fail
      · skip
        refine sA_iconst (z := 0) dd_X9_law_76 ?_
        refine sA_iret (z := 0) dd_X9_law_77 rfl ?_
        refine ⟨_, rfl, I80, f82, ?_⟩
        refine ⟨t83, .inr ⟨by omega, by omega, by omega, by omega, .inl ⟨?_, rfl⟩⟩⟩
        rcases y84 with y | y
        · exact k2.mp y.2
        · exfalso
          omega
    · skip
      refine sA_sipush (z := (-1001)) dd_X9_law_32 (by decide) ?_
      refine sA_iret (z := -1001) dd_X9_law_35 rfl ?_
      refine ⟨_, rfl, hI, hf, ?_⟩
      exact ⟨hk8, .inl ⟨by omega, rfl⟩⟩
end
