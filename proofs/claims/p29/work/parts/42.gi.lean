noncomputable section
/-! ===== what holds of the two tables between calls; which cells a call may change ===== -/
def gs_I (F A : gs_F) : Prop := (∀ a j, (gs_bF a j).1 ≤ F a j ∧ F a j ≤ (gs_bF a j).2) ∧ (∀ a i, (gs_bA a).1 ≤ A a i ∧ A a i ≤ (gs_bA a).2)
def gs_fr (S : Nat → Nat → Prop) (T : Nat → Prop) (F A F' A' : gs_F) : Prop := (∀ b j, ¬ S b j → F' b j = F b j) ∧ (∀ b, ¬ T b → A' b = A b)
section
variable {F A F1 A1 F2 A2 : gs_F} {S S2 : Nat → Nat → Prop} {T T2 : Nat → Prop}
theorem gs_I_put (h : gs_I F A) {a j : Nat} {z : Int} (hz : (gs_bF a j).1 ≤ z ∧ z ≤ (gs_bF a j).2) : gs_I (gs_up F a j z) A := ⟨fun b k => by
  by_cases q : b = a ∧ k = j
  · obtain ⟨rfl, rfl⟩ := q
    rw [gs_up_self]
    exact hz
  · rw [gs_up_ne F z (by omega)]
    exact h.1 b k, h.2⟩
theorem gs_I_ast (h : gs_I F A) {a i : Nat} {z : Int} (hz : (gs_bA a).1 ≤ z ∧ z ≤ (gs_bA a).2) : gs_I F (gs_up A a i z) := ⟨h.1, fun b k => by
  by_cases q : b = a ∧ k = i
  · obtain ⟨rfl, rfl⟩ := q
    rw [gs_up_self]
    exact hz
  · rw [gs_up_ne A z (by omega)]
    exact h.2 b k⟩
theorem gs_I_cp (h : gs_I F A) {a b sp dp n : Nat} {p q : Int × Int} (hb : gs_bA b = p) (ha : gs_bA a = q) (hpq : p.1 ≤ q.1 ∧ q.2 ≤ p.2) : gs_I F (gs_cp A a b sp dp n) := ⟨h.1, fun c k => by
  unfold gs_cp
  split
  · rename_i w
    have h2 := h.2 a (sp + (k - dp))
    rw [w.1, hb]
    rw [ha] at h2
    omega
  · exact h.2 c k⟩
theorem gs_fr_refl (S : Nat → Nat → Prop) (T : Nat → Prop) (F A : gs_F) : gs_fr S T F A F A := ⟨fun _ _ _ => rfl, fun _ _ => rfl⟩
theorem gs_fr_put (h : gs_fr S T F A F1 A1) {a j : Nat} {z : Int} (hS : S a j) : gs_fr S T F A (gs_up F1 a j z) A1 := ⟨fun b k hb => by
  rw [gs_up_ne F1 z (by
    rcases Classical.em (b = a) with rfl | q
    · right; intro q2; subst q2; exact hb hS
    · exact .inl q)]
  exact h.1 b k hb, h.2⟩
theorem gs_fr_ast (h : gs_fr S T F A F1 A1) {a i : Nat} {z : Int} (hS : T a) : gs_fr S T F A F1 (gs_up A1 a i z) := ⟨h.1, fun b hb => by
  rw [gs_up_row A1 z (by intro q; subst q; exact hb hS)]
  exact h.2 b hb⟩
theorem gs_fr_cp (h : gs_fr S T F A F1 A1) {a b sp dp n : Nat} (hS : T b) : gs_fr S T F A F1 (gs_cp A1 a b sp dp n) := ⟨h.1, fun c hc => by
  rw [gs_cp_row A1 (by intro q; subst q; exact hc hS)]
  exact h.2 c hc⟩
theorem gs_fr_tr (h : gs_fr S T F A F1 A1) (h2 : gs_fr S2 T2 F1 A1 F2 A2) (hS : ∀ b j, S2 b j → S b j) (hT : ∀ b, T2 b → T b) : gs_fr S T F A F2 A2 :=
  ⟨fun b j q => (h2.1 b j (fun w => q (hS b j w))).trans (h.1 b j q), fun b q => (h2.2 b (fun w => q (hT b w))).trans (h.2 b q)⟩
end
abbrev gs_row (a L : Nat) : Prop := a + 1 < 122 ∧ gs_sh a = .inl (4, [some (a + 1), none]) ∧ gs_sh (a + 1) = .inr (.inl (0, L)) ∧ gs_bF a 1 = (0, (L : Int)) ∧ gs_bA (a + 1) = (-9, 9) ∧ 1 ≤ L ∧ L ≤ 400
abbrev gs_plan (a : Nat) : Prop := a + 1 < 122 ∧ gs_sh a = .inl (2, [some (a + 1), none]) ∧ gs_sh (a + 1) = .inr (.inl (0, 60)) ∧ gs_bF a 1 = (0, 60) ∧ gs_bA (a + 1) = (-2147483648, 2147483647)
abbrev gs_ring (a : Nat) : Prop := a + 1 < 122 ∧ gs_sh a = .inl (3, [some (a + 1), none, none]) ∧ gs_row (a + 1) 60 ∧ gs_bF a 1 = (0, 1) ∧ gs_bF a 2 = (-2147483648, 2147483647)
theorem gs_row_im {k : Nat} (h : k < 6) : gs_row (18 + 2 * k) 400 := by
  match k, h with
  | 0, _ => decide +kernel
  | 1, _ => decide +kernel
  | 2, _ => decide +kernel
  | 3, _ => decide +kernel
  | 4, _ => decide +kernel
  | 5, _ => decide +kernel
  | k + 6, h => omega
theorem gs_row_st {k : Nat} (h : k < 4) : gs_row (35 + 2 * k) 400 := by
  match k, h with
  | 0, _ => decide +kernel
  | 1, _ => decide +kernel
  | 2, _ => decide +kernel
  | 3, _ => decide +kernel
  | k + 4, h => omega
theorem gs_plan_at {k : Nat} (h : k < 8) : gs_plan (90 + 2 * k) := by
  match k, h with
  | 0, _ => decide +kernel
  | 1, _ => decide +kernel
  | 2, _ => decide +kernel
  | 3, _ => decide +kernel
  | 4, _ => decide +kernel
  | 5, _ => decide +kernel
  | 6, _ => decide +kernel
  | 7, _ => decide +kernel
  | k + 8, h => omega
theorem gs_ring_at {k : Nat} (h : k < 12) : gs_ring (54 + 3 * k) := by
  match k, h with
  | 0, _ => exact ⟨by decide, by decide +kernel, (by decide +kernel : gs_row _ 60), by decide +kernel, by decide +kernel⟩
  | 1, _ => exact ⟨by decide, by decide +kernel, (by decide +kernel : gs_row _ 60), by decide +kernel, by decide +kernel⟩
  | 2, _ => exact ⟨by decide, by decide +kernel, (by decide +kernel : gs_row _ 60), by decide +kernel, by decide +kernel⟩
  | 3, _ => exact ⟨by decide, by decide +kernel, (by decide +kernel : gs_row _ 60), by decide +kernel, by decide +kernel⟩
  | 4, _ => exact ⟨by decide, by decide +kernel, (by decide +kernel : gs_row _ 60), by decide +kernel, by decide +kernel⟩
  | 5, _ => exact ⟨by decide, by decide +kernel, (by decide +kernel : gs_row _ 60), by decide +kernel, by decide +kernel⟩
  | 6, _ => exact ⟨by decide, by decide +kernel, (by decide +kernel : gs_row _ 60), by decide +kernel, by decide +kernel⟩
  | 7, _ => exact ⟨by decide, by decide +kernel, (by decide +kernel : gs_row _ 60), by decide +kernel, by decide +kernel⟩
  | 8, _ => exact ⟨by decide, by decide +kernel, (by decide +kernel : gs_row _ 60), by decide +kernel, by decide +kernel⟩
  | 9, _ => exact ⟨by decide, by decide +kernel, (by decide +kernel : gs_row _ 60), by decide +kernel, by decide +kernel⟩
  | 10, _ => exact ⟨by decide, by decide +kernel, (by decide +kernel : gs_row _ 60), by decide +kernel, by decide +kernel⟩
  | 11, _ => exact ⟨by decide, by decide +kernel, (by decide +kernel : gs_row _ 60), by decide +kernel, by decide +kernel⟩
  | k + 12, h => omega
theorem gs_row_3 : gs_row 3 60 := by decide +kernel
theorem gs_row_8 : gs_row 8 9 := by decide +kernel
theorem gs_row_10 : gs_row 10 9 := by decide +kernel
theorem gs_row_13 : gs_row 13 60 := by decide +kernel
theorem gs_row_33 : gs_row 33 60 := by decide +kernel
theorem gs_row_35 : gs_row 35 400 := by decide +kernel
theorem gs_row_48 : gs_row 48 400 := by decide +kernel
theorem gs_plan_44 : gs_plan 44 := by decide +kernel
theorem gs_plan_50 : gs_plan 50 := by decide +kernel
theorem gs_plan_52 : gs_plan 52 := by decide +kernel
section
variable {F A : gs_F} {a L : Nat}
theorem gs_row_sz (h : gs_row a L) (hI : gs_I F A) : 0 ≤ F a 1 ∧ F a 1 ≤ (L : Int) ∧ (L : Int) ≤ 400 := by
  have b := hI.1 a 1
  rw [h.2.2.2.1] at b
  have := h.2.2.2.2.2.2
  exact ⟨b.1, b.2, by omega⟩
theorem gs_row_el (h : gs_row a L) (hI : gs_I F A) (i : Nat) : -9 ≤ A (a + 1) i ∧ A (a + 1) i ≤ 9 := by
  have b := hI.2 (a + 1) i
  rw [h.2.2.2.2.1] at b
  exact b
theorem gs_row_put (h : gs_row a L) (hI : gs_I F A) {z : Int} (hz : 0 ≤ z ∧ z ≤ (L : Int)) : gs_I (gs_up F a 1 z) A := gs_I_put hI (by rw [h.2.2.2.1]; exact hz)
theorem gs_row_ast (h : gs_row a L) (hI : gs_I F A) {i : Nat} {z : Int} (hz : -9 ≤ z ∧ z ≤ 9) : gs_I F (gs_up A (a + 1) i z) := gs_I_ast hI (by rw [h.2.2.2.2.1]; exact hz)
theorem gs_plan_sz (h : gs_plan a) (hI : gs_I F A) : 0 ≤ F a 1 ∧ F a 1 ≤ 60 := by
  have b := hI.1 a 1
  rw [h.2.2.2.1] at b
  exact b
theorem gs_plan_el (h : gs_plan a) (hI : gs_I F A) (i : Nat) : -2147483648 ≤ A (a + 1) i ∧ A (a + 1) i ≤ 2147483647 := by
  have b := hI.2 (a + 1) i
  rw [h.2.2.2.2] at b
  exact b
theorem gs_plan_put (h : gs_plan a) (hI : gs_I F A) {z : Int} (hz : 0 ≤ z ∧ z ≤ 60) : gs_I (gs_up F a 1 z) A := gs_I_put hI (by rw [h.2.2.2.1]; exact hz)
theorem gs_plan_ast (h : gs_plan a) (hI : gs_I F A) {i : Nat} {z : Int} (hz : -2147483648 ≤ z ∧ z ≤ 2147483647) : gs_I F (gs_up A (a + 1) i z) := gs_I_ast hI (by rw [h.2.2.2.2]; exact hz)
theorem gs_ring_f1 (h : gs_ring a) (hI : gs_I F A) : 0 ≤ F a 1 ∧ F a 1 ≤ 1 := by
  have b := hI.1 a 1
  rw [h.2.2.2.1] at b
  exact b
theorem gs_ring_f2 (h : gs_ring a) (hI : gs_I F A) : -2147483648 ≤ F a 2 ∧ F a 2 ≤ 2147483647 := by
  have b := hI.1 a 2
  rw [h.2.2.2.2] at b
  exact b
theorem gs_ring_put1 (h : gs_ring a) (hI : gs_I F A) {z : Int} (hz : 0 ≤ z ∧ z ≤ 1) : gs_I (gs_up F a 1 z) A := gs_I_put hI (by rw [h.2.2.2.1]; exact hz)
theorem gs_ring_put2 (h : gs_ring a) (hI : gs_I F A) {z : Int} (hz : -2147483648 ≤ z ∧ z ≤ 2147483647) : gs_I (gs_up F a 2 z) A := gs_I_put hI (by rw [h.2.2.2.2]; exact hz)
end
theorem gs_copyok : Cond.native arraycopyName ∈ am_tbl ∧ Cond.static arraycopyName ∈ am_tbl ∧ Cond.initialized "java/lang/System" ∈ am_tbl := by decide +kernel
theorem gs_pl_bd (k : Nat) : 0 ≤ gs_t (am_PL k) ∧ gs_t (am_PL k) ≤ 11 := by
  match k with
  | 0 => decide
  | 1 => decide
  | 2 => decide
  | 3 => decide
  | 4 => decide
  | 5 => decide
  | 6 => decide
  | 7 => decide
  | 8 => decide
  | 9 => decide
  | 10 => decide
  | 11 => decide
  | 12 => decide
  | k + 13 =>
    have e : am_PL (k + 13) = 0 := by simp [am_PL]
    rw [e]
    decide
theorem gs_and_le {x z : Int} (h : 0 ≤ x ∧ x ≤ 2147483647) : 0 ≤ gs_t (Int32.ofInt x &&& Int32.ofInt z) ∧ gs_t (Int32.ofInt x &&& Int32.ofInt z) ≤ x := by
  have hx : (Int32.ofInt x).toBitVec.toNat = x.toNat := by
    have h2 : (Int32.ofInt x).toBitVec.toInt = x := gs_toI ⟨by omega, by omega⟩
    have h3 := (Int32.ofInt x).toBitVec.isLt
    rw [BitVec.toInt_eq_toNat_cond] at h2
    split at h2 <;> omega
  have hle : (Int32.ofInt x &&& Int32.ofInt z).toBitVec.toNat ≤ x.toNat := by
    rw [Int32.toBitVec_and, BitVec.toNat_and, hx]
    exact Nat.and_le_left
  have e2 : gs_t (Int32.ofInt x &&& Int32.ofInt z) = ((Int32.ofInt x &&& Int32.ofInt z).toBitVec.toNat : Int) := by
    unfold gs_t
    show (Int32.ofInt x &&& Int32.ofInt z).toBitVec.toInt = _
    rw [BitVec.toInt_eq_toNat_of_lt (by omega)]
  omega
theorem gs_row_37 : gs_row 37 400 := by decide +kernel
theorem gs_row_39 : gs_row 39 400 := by decide +kernel
theorem gs_row_41 : gs_row 41 400 := by decide +kernel
theorem gs_shl1 {x : Int} (h : 0 ≤ x ∧ x ≤ 6) : 1 ≤ gs_t (Int32.ofInt 1 <<< (Int32.ofInt x &&& 31)) ∧ gs_t (Int32.ofInt 1 <<< (Int32.ofInt x &&& 31)) ≤ 64 := by
  have e : x = 0 ∨ x = 1 ∨ x = 2 ∨ x = 3 ∨ x = 4 ∨ x = 5 ∨ x = 6 := by omega
  rcases e with rfl | rfl | rfl | rfl | rfl | rfl | rfl <;> decide
theorem gs_mul_bd {x y m k : Int} (h1 : -m ≤ x ∧ x ≤ m) (h2 : 0 ≤ y ∧ y ≤ k) (h3 : 0 ≤ m) : -(m * k) ≤ x * y ∧ x * y ≤ m * k := by
  have a1 : x * y ≤ m * y := Int.mul_le_mul_of_nonneg_right h1.2 h2.1
  have a2 : m * y ≤ m * k := Int.mul_le_mul_of_nonneg_left h2.2 h3
  have a3 : -m * y ≤ x * y := Int.mul_le_mul_of_nonneg_right h1.1 h2.1
  have a4 : -m * y = -(m * y) := Int.neg_mul m y
  omega
theorem gs_mul_np {x y : Int} (h1 : x ≤ 0) (h2 : 0 ≤ y) : x * y ≤ 0 := by
  have := Int.mul_le_mul_of_nonneg_right h1 h2
  omega
theorem gs_tdiv2 {x : Int} : (0 ≤ x ∧ x.tdiv 2 = x / 2) ∨ (x ≤ 0 ∧ x.tdiv 2 = -((-x) / 2)) := by
  rcases Int.le_total 0 x with h | h
  · left
    exact ⟨h, Int.tdiv_eq_ediv_of_nonneg h⟩
  · right
    refine ⟨h, ?_⟩
    have e : (-(-x)).tdiv 2 = -((-x).tdiv 2) := Int.neg_tdiv (-x) 2
    rw [Int.neg_neg] at e
    rw [e, Int.tdiv_eq_ediv_of_nonneg (by omega)]
theorem gs_tdiv2s (x : Int) (h : -200 ≤ x ∧ x ≤ 200) : -100 ≤ x.tdiv 2 ∧ x.tdiv 2 ≤ 100 := by
  rcases @gs_tdiv2 x with ⟨q, e⟩ | ⟨q, e⟩ <;> rw [e] <;> omega
theorem gs_tdiv2b (x : Int) (h : -2147483648 ≤ x ∧ x ≤ 2147483647) : -1073741824 ≤ x.tdiv 2 ∧ x.tdiv 2 ≤ 1073741823 := by
  rcases @gs_tdiv2 x with ⟨q, e⟩ | ⟨q, e⟩ <;> rw [e] <;> omega
theorem gs_mul_ge {x y : Int} (h1 : 0 ≤ x) (h2 : 1 ≤ y) : x ≤ x * y := by
  have := Int.mul_le_mul_of_nonneg_left h2 h1
  omega
theorem gs_up_cs (A : gs_F) (a j : Nat) (z : Int) (k : Nat) : (k = j ∧ gs_up A a j z a k = z) ∨ (k ≠ j ∧ gs_up A a j z a k = A a k) := by
  by_cases h : k = j
  · left
    rw [h]
    exact ⟨rfl, gs_up_self _ _ _ _⟩
  · right
    exact ⟨h, gs_up_ne _ _ (.inr h)⟩
theorem gs_X_fr {F A F' A' : gs_F} (hX : ∀ r : Nat, (r : Int) < F 106 3 → 1 ≤ A 108 r) (h1 : F' 106 3 = F 106 3) (h2 : A' 108 = A 108) : ∀ r : Nat, (r : Int) < F' 106 3 → 1 ≤ A' 108 r := fun r h => by
  rw [h2]
  exact hX r (by omega)
theorem gs_boolf {z : Int} (h : z = 0 ∨ z = 1) : fits .boolean (gs_iv z) = true := by rcases h with rfl | rfl <;> rfl
end
