noncomputable section
/-! ===== plans by their numbers; fewest ===== -/
def sp_nm (B : Int) : Nat → Int → Nat → Int
  | 0, _ => fun _ => 0
  | k + 1, r => fun j => if j = k then r % B else sp_nm B k (r / B) j
def sp_pw (B : Int) : Nat → Int
  | 0 => 1
  | k + 1 => sp_pw B k * B
theorem sp_nm_rng {B : Int} (hB : 0 < B) : ∀ (k : Nat) (r : Int) (j : Nat), 0 ≤ sp_nm B k r j ∧ sp_nm B k r j < B
  | 0, r, j => ⟨Int.le_refl 0, hB⟩
  | k + 1, r, j => by
    show 0 ≤ (if j = k then r % B else sp_nm B k (r / B) j) ∧ (if j = k then r % B else sp_nm B k (r / B) j) < B
    split
    · exact ⟨Int.emod_nonneg r (by omega), Int.emod_lt_of_pos r hB⟩
    · exact sp_nm_rng hB k (r / B) j
theorem sp_pw_bd {B : Int} (hB : 1 ≤ B ∧ B ≤ 16) : ∀ k : Nat, k ≤ 4 → 1 ≤ sp_pw B k ∧ sp_pw B k ≤ 65536 := by
  have e0 : sp_pw B 0 = 1 := rfl
  have e1 : sp_pw B 1 = sp_pw B 0 * B := rfl
  have e2 : sp_pw B 2 = sp_pw B 1 * B := rfl
  have e3 : sp_pw B 3 = sp_pw B 2 * B := rfl
  have e4 : sp_pw B 4 = sp_pw B 3 * B := rfl
  have key : ∀ {a m : Int}, 1 ≤ a → a ≤ m → 1 ≤ a * B ∧ a * B ≤ m * 16 := by
    intro a m h1 h2
    have w1 := Int.mul_le_mul h1 hB.1 (by omega) (by omega)
    have w2 := Int.mul_le_mul h2 hB.2 (by omega) (by omega)
    omega
  have k1 := key (a := sp_pw B 0) (m := 1) (by omega) (by omega)
  rw [← e1] at k1
  have k2 := key (a := sp_pw B 1) (m := 16) (by omega) (by omega)
  rw [← e2] at k2
  have k3 := key (a := sp_pw B 2) (m := 256) (by omega) (by omega)
  rw [← e3] at k3
  have k4 := key (a := sp_pw B 3) (m := 4096) (by omega) (by omega)
  rw [← e4] at k4
  intro k hk
  rcases (show k = 0 ∨ k = 1 ∨ k = 2 ∨ k = 3 ∨ k = 4 by omega) with q | q | q | q | q <;> subst q <;> omega
theorem gs_sp_ext {B : Int} {f f2 : Nat → Int} {k r p rs bs : Int} (hp : 0 ≤ p) (hb : bs = B) (e : f2 = gs_u f p.toNat (rs % bs)) (h5 : ∀ j : Int, 0 ≤ j → j < k → p < j → f j.toNat = sp_nm B k.toNat r j.toNat) (h6 : ∀ j : Nat, (j : Int) ≤ p → sp_nm B (p + 1).toNat rs j = sp_nm B k.toNat r j) :
    (∀ j : Int, 0 ≤ j → j < k → p + -1 < j → f2 j.toNat = sp_nm B k.toNat r j.toNat) ∧ (∀ j : Nat, (j : Int) ≤ p + -1 → sp_nm B (p + -1 + 1).toNat (rs / bs) j = sp_nm B k.toNat r j) := by
  subst hb
  refine ⟨fun j h1 h2 h3 => ?_, fun j hj => ?_⟩
  · rw [e]
    by_cases q : j = p
    · rw [q, gs_u_self, ← h6 p.toNat (by omega), show (p + 1).toNat = p.toNat + 1 by omega]
      show _ = (if p.toNat = p.toNat then rs % bs else _)
      rw [if_pos rfl]
    · rw [gs_u_ne _ _ (by omega)]
      exact h5 j h1 h2 (by omega)
  · have w := h6 j (by omega)
    rw [show (p + 1).toNat = p.toNat + 1 by omega] at w
    have w : (if j = p.toNat then rs % bs else sp_nm bs p.toNat (rs / bs) j) = sp_nm bs k.toNat r j := w
    rw [if_neg (by omega)] at w
    rw [show (p + -1 + 1).toNat = p.toNat by omega]
    exact w
/-- the plan of k twists and number r (g handles, B = 6 g - 2) -/
def sp_np (g B : Int) (k : Nat) (r : Int) (w : List Int) : Option (List Int) := sp_pl (fun u => sp_tw (sp_m g u)) (sp_nm B k r) k w
theorem gs_plc_np {F A : gs_F} {g B k r : Int} {b : Nat} {w : List Int} (hk : 0 ≤ k) (e : F b 1 = k) (h : ∀ j : Int, 0 ≤ j → j < k → A (b + 1) j.toNat = sp_nm B k.toNat r j.toNat) : gs_plc F A g b w = sp_np g B k.toNat r w := by
  unfold gs_plc sp_np
  rw [e]
  refine sp_pl_cg _ _ (fun i hi => ?_) (fun i _ r => sp_tw_wm _ _ r)
  have q := h i (by omega) (by omega)
  rw [Int.toNat_natCast] at q
  exact q
theorem gs_plm_np {F A : gs_F} {B k r : Int} {w : List Int} (hk : 0 ≤ k) (e : A 110 8 = k) (h : ∀ j : Int, 0 ≤ j → j < k → A 111 (480 + j).toNat = sp_nm B k.toNat r j.toNat) : gs_plm F A 8 w = sp_np (F 106 0) B k.toNat r w := by
  unfold gs_plm sp_np
  rw [show (8 : Int).toNat = 8 from rfl, e]
  refine sp_pl_cg _ _ (fun i hi => ?_) (fun i _ r => rfl)
  have q := h i (by omega) (by omega)
  rw [Int.toNat_natCast, show (480 + (i : Int)).toNat = 60 * 8 + i by omega] at q
  exact q
def gs_hit (g B : Int) (im : Nat → List Int) (k : Nat) (r : Int) : Prop := ∀ ii : Nat, (ii : Int) < 2 * g → sp_np g B k r [(ii : Int) + 1] = some (im ii)
theorem gs_hit_cg {g B : Int} {im im2 : Nat → List Int} {k : Nat} {r : Int} (e : ∀ ii : Nat, (ii : Int) < 2 * g → im ii = im2 ii) (h : gs_hit g B im k r) : gs_hit g B im2 k r := by
  intro ii hi
  rw [← e ii hi]
  exact h ii hi
def gs_bef (H : Nat → Int → Prop) (B k r : Int) : Prop := ∀ k2 r2 : Int, 0 ≤ k2 → 0 ≤ r2 → r2 < sp_pw B k2.toNat → (k2 < k ∨ (k2 = k ∧ r2 < r)) → ¬ H k2.toNat r2
theorem gs_bef_0 {H : Nat → Int → Prop} {B : Int} : gs_bef H B 0 0 := fun k2 r2 h1 h2 h3 h4 => by omega
theorem gs_bef_r {H : Nat → Int → Prop} {B k r : Int} (h : gs_bef H B k r) (hn : ¬ H k.toNat r) : gs_bef H B k (r + 1) := by
  intro k2 r2 h1 h2 h3 h4
  by_cases q : k2 = k ∧ r2 = r
  · rw [q.1, q.2]
    exact hn
  · exact h k2 r2 h1 h2 h3 (by omega)
theorem gs_bef_k {H : Nat → Int → Prop} {B k r : Int} (h : gs_bef H B k r) (hr : sp_pw B k.toNat ≤ r) : gs_bef H B (k + 1) 0 := by
  intro k2 r2 h1 h2 h3 h4
  by_cases q : k2 = k
  · subst q
    exact h k2 r2 h1 h2 h3 (by omega)
  · exact h k2 r2 h1 h2 h3 (by omega)
def gs_srch (H : Nat → Int → Prop) (B n k r : Int) : Prop := 0 ≤ k ∧ k ≤ n ∧ 0 ≤ r ∧ r < sp_pw B k.toNat ∧ H k.toNat r ∧ gs_bef H B k r
theorem gs_srch_uni {H : Nat → Int → Prop} {B n k r k2 r2 : Int} (h1 : gs_srch H B n k r) (h2 : gs_srch H B n k2 r2) : k2 = k ∧ r2 = r := by
  obtain ⟨a1, a2, a3, a4, a5, a6⟩ := h1
  obtain ⟨b1, b2, b3, b4, b5, b6⟩ := h2
  by_cases q : k2 < k ∨ (k2 = k ∧ r2 < r)
  · exact absurd b5 (a6 k2 r2 b1 b3 b4 q)
  · by_cases q2 : k < k2 ∨ (k = k2 ∧ r < r2)
    · exact absurd a5 (b6 k r a1 a3 a4 q2)
    · omega
theorem gs_srch_no {H : Nat → Int → Prop} {B n k r : Int} (h1 : gs_srch H B n k r) (h2 : gs_bef H B (n + 1) 0) : False := by
  obtain ⟨a1, a2, a3, a4, a5, a6⟩ := h1
  exact h2 k r a1 a3 a4 (by omega) a5
/-- what is answered of the plan found -/
def gs_ans (B k r i z : Int) : Prop := (i = -1 ∧ z = k) ∨ (0 ≤ i ∧ i < k ∧ z = sp_nm B k.toNat r i.toNat) ∨ (0 ≤ i ∧ k ≤ i ∧ z = -1)
def gs_sv (H : Nat → Int → Prop) (B n i z : Int) : Prop := (∃ k r : Int, gs_srch H B n k r ∧ gs_ans B k r i z) ∨ (gs_bef H B (n + 1) 0 ∧ z = -1)
theorem gs_sv_uni {H : Nat → Int → Prop} {B n i v1 v2 : Int} (h1 : gs_sv H B n i v1) (h2 : gs_sv H B n i v2) : v2 = v1 := by
  rcases h1 with ⟨k, r, a1, a2⟩ | ⟨a1, a2⟩ <;> rcases h2 with ⟨k2, r2, b1, b2⟩ | ⟨b1, b2⟩
  · obtain ⟨e1, e2⟩ := gs_srch_uni a1 b1
    subst e1 e2
    unfold gs_ans at a2 b2
    omega
  · exact (gs_srch_no a1 b1).elim
  · exact (gs_srch_no b1 a1).elim
  · omega
theorem gs_sv_cg {H H2 : Nat → Int → Prop} {B n i z : Int} (e : ∀ k r, H k r ↔ H2 k r) (h : gs_sv H B n i z) : gs_sv H2 B n i z := by
  have e2 : H = H2 := funext fun k => funext fun r => propext (e k r)
  rw [← e2]
  exact h
def gs_fw (P : List Int → Option (List Int)) (g B n i z : Int) : Prop := ((∃ ii : Nat, (ii : Int) < 2 * g ∧ P [(ii : Int) + 1] = none) ∧ z = -1005) ∨ (∃ im : Nat → List Int, (∀ ii : Nat, (ii : Int) < 2 * g → P [(ii : Int) + 1] = some (im ii)) ∧ gs_sv (gs_hit g B im) B n i z)
theorem gs_fw_uni {P : List Int → Option (List Int)} {g B n i v1 v2 : Int} (h1 : gs_fw P g B n i v1) (h2 : gs_fw P g B n i v2) : v2 = v1 := by
  rcases h1 with ⟨⟨x, a1, a2⟩, a3⟩ | ⟨im, a1, a2⟩ <;> rcases h2 with ⟨⟨y, b1, b2⟩, b3⟩ | ⟨im2, b1, b2⟩
  · omega
  · have w := b1 x a1
    rw [a2] at w
    cases w
  · have w := a1 y b1
    rw [b2] at w
    cases w
  · have e : ∀ ii : Nat, (ii : Int) < 2 * g → im2 ii = im ii := fun ii hi => by
      have w := a1 ii hi
      rw [b1 ii hi] at w
      injection w
    exact gs_sv_uni a2 (gs_sv_cg (fun k r => ⟨gs_hit_cg e, gs_hit_cg (fun ii hi => (e ii hi).symm)⟩) b2)
def gs_da (F A : gs_F) (g : Int) (b : Nat) : Prop := ∀ ii : Nat, (ii : Int) < F 15 1 → gs_plc F A g b [(ii : Int) + 1] = some (gs_ic F A ii)
theorem k_X5_spell_vf {b : Nat} {r k : Int} {F A : gs_F} (hI : gs_I F A) (hr0 : -2147483648 ≤ r ∧ r ≤ 2147483647) (hk : 0 ≤ k ∧ k ≤ 60) (ho : gs_plan b) (h5 : 1 ≤ F 5 0) (hr1 : 0 ≤ r) : ∀ nN : Nat, (∀ (bs : Int) (rs : Int) (p : Int)  (F1 A1 : gs_F), gs_I F1 A1 → gs_fr (fun c j => c = b ∧ j = 1) (fun c => c = b + 1) F A F1 A1 → -1 ≤ p ∧ p ≤ 59 → -2147483648 ≤ rs ∧ rs ≤ 2147483647 → 1 ≤ bs ∧ bs ≤ 16 → bs = 2 * F 5 0 → F1 b 1 = k ∧ p < k ∧ 0 ≤ rs → (∀ j : Int, 0 ≤ j → j < k → p < j → A1 (b + 1) j.toNat = sp_nm (2 * F 5 0) k.toNat r j.toNat) → (∀ j : Nat, (j : Int) ≤ p → sp_nm (2 * F 5 0) (p + 1).toNat rs j = sp_nm (2 * F 5 0) k.toNat r j) → p + 1 < (nN : Int) → sA m_X5_spell 1 (fun rv F' A' => rv = none ∧ gs_I F' A' ∧ gs_fr (fun c j => c = b ∧ j = 1) (fun c => c = b + 1) F A F' A' ∧ (F' b 1 = k ∧ ∀ j : Int, 0 ≤ j → j < k → A' (b + 1) j.toNat = sp_nm (2 * F 5 0) k.toNat r j.toNat)) 28 [(6, gs_iv p), (5, gs_iv rs), (4, gs_iv bs), (3, .ref b)] [] F1 A1) := by
  intro nN
  induction nN with
  | zero =>
    exact fun a0 a1 a2 a3 a4 a5 a6 i0 i1 i2 i3 i4 i5 i6 hm => by exfalso; omega
  | succ nN ih =>
    intro bs rs p F1 A1 hI1 hf1 i0 i1 i2 i3 i4 i5 i6 hm
    have b1 := gs_plan_sz ho hI1
    have u2 : A1 (b + 1) = A1 (b + 1) := rfl
    refine sA_iload dd_X5_spell_28 (.head _) ?_
    refine sA_if_lt (tgt := 58) dd_X5_spell_30 (by decide) (by omega) (fun q3 => ?_) (fun q3 => ?_)
    · skip
      refine sA_vret dd_X5_spell_58 rfl ?_
      refine ⟨rfl, hI1, hf1, ?_⟩
      exact ⟨by omega, fun j h1 h2 => i5 j h1 h2 (by omega)⟩
    · skip
      have hm1 := Int.emod_nonneg rs (show bs ≠ 0 by omega)
      have hm2 := Int.emod_lt_of_pos rs (show 0 < bs by omega)
      have hd1 : 0 ≤ rs / bs := Int.ediv_nonneg (by omega) (by omega)
      have hd2 : rs / bs ≤ rs := Int.ediv_le_self bs (by omega)
      refine sA_aload_n dd_X5_spell_33 rfl (.tail _ (.tail _ (.tail _ (.head _)))) ?_
      refine sA_getr (ci := 2) (j := 0) (q := (RX2, TX2, 2)) dd_X5_spell_34 rfl (by decide) fl_X5_83 (Nat.lt_of_succ_lt ho.1) ho.2.1 rfl ?_
      refine sA_iload dd_X5_spell_37 (.head _) ?_
      refine sA_iload dd_X5_spell_39 (.tail _ (.head _)) ?_
      refine sA_iload dd_X5_spell_41 (.tail _ (.tail _ (.head _))) ?_
      refine sA_iremN dd_X5_spell_43 (by omega) (by omega) (by omega) ?_
      refine sA_iast (n := 60) dd_X5_spell_44 ho.1 ho.2.2.1 (by omega) (by decide) ?_
      have I5 : gs_I F1 (gs_up A1 (b + 1) p.toNat (rs % bs)) := gs_plan_ast ho hI1 (by omega)
      have f6 := gs_fr_ast hf1 (a := b + 1) (z := rs % bs) (i := p.toNat) (by first | omega | (dsimp only; omega) | (dsimp only) | fail)
      have u7 : (gs_up A1 (b + 1) p.toNat (rs % bs)) (b + 1) = gs_u (A1 (b + 1)) p.toNat (rs % bs) := (gs_up_u A1 (b + 1) p.toNat (rs % bs)).trans (congrArg (fun f => gs_u f p.toNat (rs % bs)) u2)
      generalize gs_up A1 (b + 1) p.toNat (rs % bs) = A4 at I5 f6 u7 ⊢
      refine sA_iload dd_X5_spell_45 (.tail _ (.head _)) ?_
      refine sA_iload dd_X5_spell_47 (.tail _ (.tail _ (.head _))) ?_
      refine sA_idivN dd_X5_spell_49 (by omega) (by omega) (by omega) ?_
      refine sA_istore (lv' := [(5, gs_iv (rs / bs)), (6, gs_iv p), (4, gs_iv bs), (3, .ref b)]) dd_X5_spell_50 (by decide) rfl ?_
      refine sA_iinc (lv' := [(6, gs_iv (p + (-1))), (5, gs_iv (rs / bs)), (4, gs_iv bs), (3, .ref b)]) dd_X5_spell_52 (.tail _ (.head _)) (by decide) rfl ?_
      refine sA_goto (tgt := 28) dd_X5_spell_55 (by decide) ?_
      refine sA_sub (lv2 := [(6, gs_iv (p + (-1))), (5, gs_iv (rs / bs)), (4, gs_iv bs), (3, .ref b)]) (List.forall_mem_cons.mpr ⟨(.head _), (List.forall_mem_cons.mpr ⟨(.tail _ (.head _)), (List.forall_mem_cons.mpr ⟨(.tail _ (.tail _ (.head _))), (List.forall_mem_cons.mpr ⟨(.tail _ (.tail _ (.tail _ (.head _)))), (fun _ h => absurd h List.not_mem_nil)⟩)⟩)⟩)⟩) ?_
      exact ih bs (rs / bs) (p + (-1)) F1 A4 I5 f6 (by omega) (by omega) (by omega) (by omega) (by omega) (gs_sp_ext (by omega) i3 u7 i5 i6).1 (gs_sp_ext (by omega) i3 u7 i5 i6).2 (by omega)
theorem c_X5_spell_vf {b : Nat} {r k : Int} {F A : gs_F} (hI : gs_I F A) (hr0 : -2147483648 ≤ r ∧ r ≤ 2147483647) (hk : 0 ≤ k ∧ k ≤ 60) (ho : gs_plan b) (h5 : 1 ≤ F 5 0) (hr1 : 0 ≤ r) : sC m_X5_spell 1 [.ref 30, gs_iv r, gs_iv k, .ref b] F A (fun rv F' A' => rv = none ∧ gs_I F' A' ∧ gs_fr (fun c j => c = b ∧ j = 1) (fun c => c = b + 1) F A F' A' ∧ (F' b 1 = k ∧ ∀ j : Int, 0 ≤ j → j < k → A' (b + 1) j.toNat = sp_nm (2 * F 5 0) k.toNat r j.toNat)) := by
  refine sC_of ok_X5_spell.1 (Nat.le_of_ble_eq_true rfl) ?_
  show sA _ _ _ 0 [(0, .ref 30), (1, gs_iv r), (2, gs_iv k), (3, .ref b)] [] F A
  have hf : gs_fr (fun c j => c = b ∧ j = 1) (fun c => c = b + 1) F A F A := gs_fr_refl _ _ _ _
  have b8 := gs_plan_sz ho hI
  have u9 : A (b + 1) = A (b + 1) := rfl
  refine sA_iconst (z := 1) dd_X5_spell_0 ?_
  refine sA_iconst (z := 2) dd_X5_spell_1 ?_
  refine sA_aload_n dd_X5_spell_2 rfl (.head _) ?_
  refine sA_getr (ci := 5) (j := 0) (q := (RX5, TX5, 6)) dd_X5_spell_3 rfl (by decide) fl_X5_28 (by decide) gs_s30 rfl ?_
  refine sA_geti (ci := 7) (j := 0) (q := (RX7, TX7, 5)) dd_X5_spell_6 rfl (by decide) fl_X5_64 (by decide) gs_s5 rfl ?_
  have b10 : (1 : Int) ≤ F 5 0 ∧ F 5 0 ≤ 8 := hI.1 5 0
  refine sA_imul dd_X5_spell_9 ?_
  refine sA_mmax dd_X5_spell_10 (ri_lw_in (pl := 756) (by decide +kernel)) (by decide) (by omega) (by omega) (Nat.le_of_ble_eq_true rfl) (fun w11 q12 => ?_)
  refine sA_istore (lv' := [(4, gs_iv w11), (0, .ref 30), (1, gs_iv r), (2, gs_iv k), (3, .ref b)]) dd_X5_spell_13 (by decide) rfl ?_
  refine sA_iload_n dd_X5_spell_15 rfl (.tail _ (.tail _ (.head _))) ?_
  refine sA_istore (lv' := [(5, gs_iv r), (4, gs_iv w11), (0, .ref 30), (1, gs_iv r), (2, gs_iv k), (3, .ref b)]) dd_X5_spell_16 (by decide) rfl ?_
  refine sA_aload_n dd_X5_spell_18 rfl (.tail _ (.tail _ (.tail _ (.tail _ (.tail _ (.head _)))))) ?_
  refine sA_iload_n dd_X5_spell_19 rfl (.tail _ (.tail _ (.tail _ (.tail _ (.head _))))) ?_
  refine sA_put (ci := 2) (j := 1) (q := (RX2, TX2, 2)) (ty := .int) dd_X5_spell_20 rfl (by decide) fl_X5_47 rfl (tyX2_ok 1 (by decide)) rfl rfl (Nat.lt_of_succ_lt ho.1) ho.2.1 rfl ?_
  have I14 : gs_I (gs_up F b 1 k) A := gs_plan_put ho hI (by omega)
  have f15 := gs_fr_put hf (a := b) (z := k) (j := 1) (by first | omega | (dsimp only; omega) | (dsimp only) | fail)
  have v16 : gs_up F b 1 k b 1 = k := gs_up_self _ _ _ _
  generalize gs_up F b 1 k = F13 at I14 f15 v16 ⊢
  refine sA_iload_n dd_X5_spell_23 rfl (.tail _ (.tail _ (.tail _ (.tail _ (.head _))))) ?_
  refine sA_iconst (z := 1) dd_X5_spell_24 ?_
  refine sA_isub dd_X5_spell_25 ?_
  refine sA_istore (lv' := [(6, gs_iv (k - 1)), (5, gs_iv r), (4, gs_iv w11), (0, .ref 30), (1, gs_iv r), (2, gs_iv k), (3, .ref b)]) dd_X5_spell_26 (by decide) rfl ?_
  have b17 := gs_plan_sz ho I14
  refine sA_sub (lv2 := [(6, gs_iv (k - 1)), (5, gs_iv r), (4, gs_iv w11), (3, .ref b)]) (List.forall_mem_cons.mpr ⟨(.head _), (List.forall_mem_cons.mpr ⟨(.tail _ (.head _)), (List.forall_mem_cons.mpr ⟨(.tail _ (.tail _ (.head _))), (List.forall_mem_cons.mpr ⟨(.tail _ (.tail _ (.tail _ (.tail _ (.tail _ (.tail _ (.head _))))))), (fun _ h => absurd h List.not_mem_nil)⟩)⟩)⟩)⟩) ?_
  exact (k_X5_spell_vf hI hr0 hk ho h5 hr1 ((k - 1) + 1 : Int).toNat.succ) w11 r (k - 1) F13 A I14 f15 (by omega) (by omega) (by omega) (by omega) (by omega) (fun j h1 h2 h3 => by exfalso; omega) (fun j hj => by rw [show (k - 1 + 1).toNat = k.toNat by omega]) (by omega)
theorem k_X5_doesAsImages_vf {b : Nat} {g : Int} {F A : gs_F} (hI : gs_I F A) (ho : gs_plan b) (hg : 1 ≤ g ∧ g ≤ 3) (hcd : ∀ i : Int, 0 ≤ i → i < F b 1 → 0 ≤ A (b + 1) i.toNat ∧ A (b + 1) i.toNat < 6 * g - 2) (hW : gs_W (A 6) g) (h15 : F 15 1 = 2 * g) (hb44 : b = 44 ∨ b = 50 ∨ b = 52 ∨ 90 ≤ b) : ∀ nN : Nat, (∀ (x : Int)  (F1 A1 : gs_F), gs_I F1 A1 → gs_fr (fun c j => c = 35 ∧ j = 1) (fun c => c = 36 ∨ c = 7) F A F1 A1 → 1 ≤ x ∧ x ≤ 7 → F1 15 1 = F 15 1 ∧ x ≤ F 15 1 + 1 → (∀ ii : Nat, (ii : Int) + 1 < x → gs_plc F A g b [(ii : Int) + 1] = some (gs_ic F A ii)) → 7 - x < (nN : Int) → sA m_X5_doesAsImages 4 (fun rv F' A' => ∃ z : Int, rv = some (gs_iv z) ∧ gs_I F' A' ∧ gs_fr (fun c j => c = 35 ∧ j = 1) (fun c => c = 36 ∨ c = 7) F A F' A' ∧ ((z = 1 ∧ gs_da F A g b) ∨ (z = 0 ∧ ¬ gs_da F A g b))) 9 [(3, gs_iv x), (0, .ref 30), (1, .ref b), (2, .ref 35)] [] F1 A1) := by
  intro nN
  induction nN with
  | zero =>
    exact fun a0 a1 a2 a3 a4 i0 i1 i2 hm => by exfalso; omega
  | succ nN ih =>
    intro x F1 A1 hI1 hf1 i0 i1 i2 hm
    have b1 := gs_plan_sz ho hI1
    have b2 : (0 : Int) ≤ F1 15 1 ∧ F1 15 1 ≤ 6 := hI1.1 15 1
    have hb15 : (0 : Int) ≤ F 15 1 ∧ F 15 1 ≤ 6 := hI.1 15 1
    refine sA_iload_n dd_X5_doesAsImages_9 rfl (.head _) ?_
    refine sA_aload_n dd_X5_doesAsImages_10 rfl (.tail _ (.head _)) ?_
    refine sA_getr (ci := 5) (j := 1) (q := (RX5, TX5, 6)) dd_X5_doesAsImages_11 rfl (by decide) fl_X5_32 (by decide) gs_s30 rfl ?_
    refine sA_geti (ci := 0) (j := 1) (q := (RX0, TX0, 4)) dd_X5_doesAsImages_14 rfl (by decide) fl_X5_90 (by decide) gs_s15 rfl ?_
    refine sA_icmp_gt (tgt := 63) dd_X5_doesAsImages_17 (by decide) (by omega) (by omega) (fun q3 => ?_) (fun q3 => ?_)
    · skip
      refine sA_iconst (z := 1) dd_X5_doesAsImages_63 ?_
      refine sA_bret (z := 1) dd_X5_doesAsImages_64 rfl (by omega) ?_
      refine ⟨_, rfl, hI1, hf1, ?_⟩
      exact .inl ⟨rfl, fun ii hi => i2 ii (by omega)⟩
    · skip
      refine sA_aload_n dd_X5_doesAsImages_20 rfl (.tail _ (.tail _ (.tail _ (.head _)))) ?_
      refine sA_iload_n dd_X5_doesAsImages_21 rfl (.head _) ?_
      refine sA_callV (y2 := m_X4_becomeLetter) (n2 := 1) (d2 := 1) (a := 35) (ci := 4) (q := (RX4, TX4, 2)) (as := [gs_iv x]) (rest := []) dd_X5_doesAsImages_22 ok_X4_becomeLetter ml_X5_95 rfl rfl (Nat.lt_of_succ_lt gs_row_35.1) gs_row_35.2.1 rfl rfl (Nat.le_of_ble_eq_true rfl) (by decide) (c_X4_becomeLetter_vf hI1 gs_row_35 (by omega)) (fun r4 F5 A6 h7 => ?_)
      obtain ⟨e9, I10, f11, x8⟩ := h7
      subst e9
      have v12 : F5 15 1 = F1 15 1 := f11.1 15 1 (by first | exact id | omega | (dsimp only; omega) | (dsimp only) | fail)
      have f13 := gs_fr_tr hf1 f11 (fun b j h => by first | exact False.elim h | omega | (dsimp only at h ⊢; omega) | fail) (fun b h => by first | exact False.elim h | omega | (dsimp only at h ⊢; omega) | fail)
      have y14 : F5 35 1 = 1 ∧ A6 36 = gs_u (A1 36) 0 x := x8
      clear x8
      show sA _ _ _ 25 _ [] _ _
      refine sA_aload_n dd_X5_doesAsImages_25 rfl (.tail _ (.head _)) ?_
      refine sA_getr (ci := 5) (j := 0) (q := (RX5, TX5, 6)) dd_X5_doesAsImages_26 rfl (by decide) fl_X5_28 (by decide) gs_s30 rfl ?_
      refine sA_aload_n dd_X5_doesAsImages_29 rfl (.tail _ (.tail _ (.head _))) ?_
      refine sA_aload_n dd_X5_doesAsImages_30 rfl (.tail _ (.tail _ (.tail _ (.head _)))) ?_
      have hb1 : A6 (b + 1) = A (b + 1) := f13.2 (b + 1) (by dsimp only; omega)
      have hbn : F5 b 1 = F b 1 := f13.1 b 1 (by dsimp only; omega)
      have hW1 : gs_W (A6 6) g := by rw [f13.2 6 (by dsimp only; omega)]; exact hW
      have hL : (400 : Nat) = 400 := rfl
      have hcd1 : ∀ i : Int, 0 ≤ i → i < F5 b 1 → 0 ≤ A6 (b + 1) i.toNat ∧ A6 (b + 1) i.toNat < 6 * g - 2 := by rw [hb1, hbn]; exact hcd
      have y22 := y14
      have hstk : gs_stk (A6 36) (F5 35 1).toNat = [x] := by
        rw [y22.1, y22.2]
        show [gs_u (A1 36) 0 x 0] = [x]
        rw [gs_u_self]
      have hV1 : sp_val g (gs_stk (A6 36) (F5 35 1).toNat) := by
        rw [hstk]
        exact gs_val1 (by omega)
      have hw_at : gs_da F A g b → gs_plc F A g b [x] = some (gs_ic F A (x - 1).toNat) := fun w => by
        have w2 := w (x - 1).toNat (by omega)
        rw [show (((x - 1).toNat : Nat) : Int) + 1 = x by omega] at w2
        exact w2
      refine sA_callV (y2 := m_X7_doPlan) (n2 := 2) (d2 := 3) (a := 5) (ci := 7) (q := (RX7, TX7, 5)) (as := [.ref b, .ref 35]) (rest := []) dd_X5_doesAsImages_31 ok_X7_doPlan ml_X5_98 rfl rfl (by decide) gs_s5 rfl rfl (Nat.le_of_ble_eq_true rfl) (by decide) (c_X7_doPlan_vf I10 ho gs_row_35 hg hcd1 hW1 hV1 hL (by omega) (by omega) (by omega)) (fun r15 F16 A17 h18 => ?_)
      obtain ⟨z21, e20, I22, f23, x19⟩ := h18
      subst e20
      have v24 : F16 15 1 = F5 15 1 := f23.1 15 1 (by first | exact id | omega | (dsimp only; omega) | (dsimp only) | fail)
      have f25 := gs_fr_tr f13 f23 (fun b j h => by first | exact False.elim h | omega | (dsimp only at h ⊢; omega) | fail) (fun b h => by first | exact False.elim h | omega | (dsimp only at h ⊢; omega) | fail)
      have y26 : (z21 = 1 ∧ sp_pl (fun u => sp_tw (sp_w g u)) (A6 (b + 1)) (F5 b 1).toNat (gs_stk (A6 36) (F5 35 1).toNat) = some (gs_stk (A17 36) (F16 35 1).toNat)) ∨ (z21 = 0 ∧ sp_pl (fun u => sp_tw (sp_w g u)) (A6 (b + 1)) (F5 b 1).toNat (gs_stk (A6 36) (F5 35 1).toNat) = none) := x19
      clear x19
      show sA _ _ _ 34 _ [gs_iv z21] _ _
      refine sA_if_eq (tgt := 55) dd_X5_doesAsImages_34 (by decide) (by omega) (fun q27 => ?_) (fun q27 => ?_)
      · skip
        refine sA_iconst (z := 0) dd_X5_doesAsImages_55 ?_
        refine sA_bret (z := 0) dd_X5_doesAsImages_56 rfl (by omega) ?_
        refine ⟨_, rfl, I22, f25, ?_⟩
        refine .inr ⟨rfl, fun w => ?_⟩
        have w2 := hw_at w
        rcases y26 with y | y
        · exfalso
          omega
        · have y2 := y.2
          rw [hb1, hbn, hstk] at y2
          exact gs_nn w2 y2
      · skip
        have hQx : gs_plc F A g b [x] = some (gs_stk (A17 36) (F16 35 1).toNat) := by
          rcases y26 with y | y
          · have y2 := y.2
            rw [hb1, hbn, hstk] at y2
            exact y2
          · exfalso
            omega
        have hic : ∀ ii : Nat, ii < 6 → gs_ic F16 A17 ii = gs_ic F A ii := fun ii hi => gs_ic_fr hi (fun c h1 h2 => f25.1 c 1 (by dsimp only; omega)) (fun c h1 h2 => f25.2 c (by dsimp only; omega))
        refine sA_aload_n dd_X5_doesAsImages_37 rfl (.tail _ (.tail _ (.tail _ (.head _)))) ?_
        refine sA_aload_n dd_X5_doesAsImages_38 rfl (.tail _ (.head _)) ?_
        refine sA_getr (ci := 5) (j := 1) (q := (RX5, TX5, 6)) dd_X5_doesAsImages_39 rfl (by decide) fl_X5_32 (by decide) gs_s30 rfl ?_
        refine sA_getr (ci := 0) (j := 0) (q := (RX0, TX0, 4)) dd_X5_doesAsImages_42 rfl (by decide) fl_X5_102 (by decide) gs_s15 rfl ?_
        refine sA_iload_n dd_X5_doesAsImages_45 rfl (.head _) ?_
        refine sA_iconst (z := 1) dd_X5_doesAsImages_46 ?_
        refine sA_isub dd_X5_doesAsImages_47 ?_
        refine sA_aald (n := 6) dd_X5_doesAsImages_48 (by decide) (by decide) (by decide) gs_s16 (by omega) (by decide) ?_
        have g28 := gs_row_im (k := (x - 1).toNat) (by omega)
        refine sA_callV (y2 := m_X4_isLike) (n2 := 1) (d2 := 1) (a := 35) (ci := 4) (q := (RX4, TX4, 2)) (as := [.ref (18 + 2 * (x - 1).toNat)]) (rest := []) dd_X5_doesAsImages_49 ok_X4_isLike ml_X5_105 rfl rfl (Nat.lt_of_succ_lt gs_row_35.1) gs_row_35.2.1 rfl rfl (Nat.le_of_ble_eq_true rfl) (by decide) (c_X4_isLike_vf I22 gs_row_35 g28) (fun r29 F30 A31 h32 => ?_)
        obtain ⟨z35, e34, e36, e37, x33⟩ := h32
        subst e34 e36 e37
        have y38 : (z35 = 1 ∧ gs_stk (A17 36) (F16 35 1).toNat = gs_stk (A17 ((18 + 2 * (x - 1).toNat) + 1)) (F16 (18 + 2 * (x - 1).toNat) 1).toNat) ∨ (z35 = 0 ∧ ¬ gs_stk (A17 36) (F16 35 1).toNat = gs_stk (A17 ((18 + 2 * (x - 1).toNat) + 1)) (F16 (18 + 2 * (x - 1).toNat) 1).toNat) := x33
        clear x33
        show sA _ _ _ 52 _ [gs_iv z35] _ _
        refine sA_if_ne (tgt := 57) dd_X5_doesAsImages_52 (by decide) (by omega) (fun q39 => ?_) (fun q39 => ?_)
        · skip
          refine sA_iinc (lv' := [(3, gs_iv (x + 1)), (0, .ref 30), (1, .ref b), (2, .ref 35)]) dd_X5_doesAsImages_57 (.head _) (by decide) rfl ?_
          refine sA_goto (tgt := 9) dd_X5_doesAsImages_60 (by decide) ?_
          have b40 := gs_plan_sz ho I22
          have b41 : (0 : Int) ≤ F16 15 1 ∧ F16 15 1 ≤ 6 := I22.1 15 1
          refine sA_sub (lv2 := [(3, gs_iv (x + 1)), (0, .ref 30), (1, .ref b), (2, .ref 35)]) (List.forall_mem_cons.mpr ⟨(.head _), (List.forall_mem_cons.mpr ⟨(.tail _ (.head _)), (List.forall_mem_cons.mpr ⟨(.tail _ (.tail _ (.head _))), (List.forall_mem_cons.mpr ⟨(.tail _ (.tail _ (.tail _ (.head _)))), (fun _ h => absurd h List.not_mem_nil)⟩)⟩)⟩)⟩) ?_
          exact ih (x + 1) F16 A17 I22 f25 (by omega) (by omega) (fun ii hi => by by_cases h : (ii : Int) + 1 < x <;> first | exact i2 ii h | (rcases y38 with y | y <;> first | (exfalso; omega) | (rw [show (ii : Int) + 1 = x by omega, show ii = (x - 1).toNat by omega, hQx, y.2]; exact congrArg some (hic (x - 1).toNat (by omega))) | fail) | fail) (by omega)
        · skip
          refine sA_iconst (z := 0) dd_X5_doesAsImages_55 ?_
          refine sA_bret (z := 0) dd_X5_doesAsImages_56 rfl (by omega) ?_
          refine ⟨_, rfl, I22, f25, ?_⟩
          refine .inr ⟨rfl, fun w => ?_⟩
          have w2 := hw_at w
          rcases y38 with y | y
          · exfalso
            omega
          · rw [hQx] at w2
            injection w2 with w2
            exact y.2 (w2.trans (hic (x - 1).toNat (by omega)).symm)
theorem c_X5_doesAsImages_vf {b : Nat} {g : Int} {F A : gs_F} (hI : gs_I F A) (ho : gs_plan b) (hg : 1 ≤ g ∧ g ≤ 3) (hcd : ∀ i : Int, 0 ≤ i → i < F b 1 → 0 ≤ A (b + 1) i.toNat ∧ A (b + 1) i.toNat < 6 * g - 2) (hW : gs_W (A 6) g) (h15 : F 15 1 = 2 * g) (hb44 : b = 44 ∨ b = 50 ∨ b = 52 ∨ 90 ≤ b) : sC m_X5_doesAsImages 4 [.ref 30, .ref b] F A (fun rv F' A' => ∃ z : Int, rv = some (gs_iv z) ∧ gs_I F' A' ∧ gs_fr (fun c j => c = 35 ∧ j = 1) (fun c => c = 36 ∨ c = 7) F A F' A' ∧ ((z = 1 ∧ gs_da F A g b) ∨ (z = 0 ∧ ¬ gs_da F A g b))) := by
  refine sC_of ok_X5_doesAsImages.1 (Nat.le_of_ble_eq_true rfl) ?_
  show sA _ _ _ 0 [(0, .ref 30), (1, .ref b)] [] F A
  have hf : gs_fr (fun c j => c = 35 ∧ j = 1) (fun c => c = 36 ∨ c = 7) F A F A := gs_fr_refl _ _ _ _
  have b42 := gs_plan_sz ho hI
  have b43 : (0 : Int) ≤ F 15 1 ∧ F 15 1 ≤ 6 := hI.1 15 1
  have hb15 : (0 : Int) ≤ F 15 1 ∧ F 15 1 ≤ 6 := hI.1 15 1
  refine sA_aload_n dd_X5_doesAsImages_0 rfl (.head _) ?_
  refine sA_getr (ci := 5) (j := 2) (q := (RX5, TX5, 6)) dd_X5_doesAsImages_1 rfl (by decide) fl_X5_11 (by decide) gs_s30 rfl ?_
  refine sA_iconst (z := 0) dd_X5_doesAsImages_4 ?_
  refine sA_aald (n := 4) dd_X5_doesAsImages_5 (by decide) (by decide) (by decide) gs_s31 (by omega) (by decide) ?_
  show sA _ _ _ _ _ (.ref 35 :: _) _ _
  refine sA_astore_n (lv' := [(2, .ref 35), (0, .ref 30), (1, .ref b)]) dd_X5_doesAsImages_6 rfl (by decide) rfl ?_
  refine sA_iconst (z := 1) dd_X5_doesAsImages_7 ?_
  refine sA_istore_n (lv' := [(3, gs_iv 1), (2, .ref 35), (0, .ref 30), (1, .ref b)]) dd_X5_doesAsImages_8 rfl (by decide) rfl ?_
  refine sA_sub (lv2 := [(3, gs_iv 1), (0, .ref 30), (1, .ref b), (2, .ref 35)]) (List.forall_mem_cons.mpr ⟨(.head _), (List.forall_mem_cons.mpr ⟨(.tail _ (.tail _ (.head _))), (List.forall_mem_cons.mpr ⟨(.tail _ (.tail _ (.tail _ (.head _)))), (List.forall_mem_cons.mpr ⟨(.tail _ (.head _)), (fun _ h => absurd h List.not_mem_nil)⟩)⟩)⟩)⟩) ?_
  exact (k_X5_doesAsImages_vf hI ho hg hcd hW h15 hb44 (7 - 1 : Int).toNat.succ) 1 F A hI hf (by omega) (by omega) (fun ii hi => by exfalso; omega) (by omega)
theorem k_X5_forImages_vf {b : Nat} {n : Int} {g : Int} {F A : gs_F} (hI : gs_I F A) (hn : 0 ≤ n ∧ n ≤ 3) (ho : gs_plan b) (hg : 1 ≤ g ∧ g ≤ 3) (hW : gs_W (A 6) g) (h15 : F 15 1 = 2 * g) (h5 : F 5 0 = 3 * g - 1) (hb44 : b = 50 ∨ b = 52) : ∀ nN : Nat, (∀ (m : Int) (k : Int)  (F1 A1 : gs_F), gs_I F1 A1 → gs_fr (fun c j => (c = 35 ∧ j = 1) ∨ (c = b ∧ j = 1)) (fun c => c = 36 ∨ c = 7 ∨ c = b + 1) F A F1 A1 → -2147483648 ≤ m ∧ m ≤ 2147483647 → 0 ≤ k ∧ k ≤ n + 1 → m = sp_pw (2 * F 5 0) k.toNat → F1 15 1 = F 15 1 ∧ F1 5 0 = F 5 0 → gs_bef (gs_hit g (2 * F 5 0) (gs_ic F A)) (2 * F 5 0) k 0 → (4 - k) * 4294967296 + 1 < (nN : Int) → sA m_X5_forImages 5 (fun rv F' A' => ∃ z : Int, rv = some (gs_iv z) ∧ gs_I F' A' ∧ gs_fr (fun c j => (c = 35 ∧ j = 1) ∨ (c = b ∧ j = 1)) (fun c => c = 36 ∨ c = 7 ∨ c = b + 1) F A F' A' ∧ ((z = 1 ∧ ∃ k r : Int, gs_srch (gs_hit g (2 * F 5 0) (gs_ic F A)) (2 * F 5 0) n k r ∧ F' b 1 = k ∧ ∀ j : Int, 0 ≤ j → j < k → A' (b + 1) j.toNat = sp_nm (2 * F 5 0) k.toNat r j.toNat) ∨ (z = 0 ∧ gs_bef (gs_hit g (2 * F 5 0) (gs_ic F A)) (2 * F 5 0) (n + 1) 0))) 5 [(4, gs_iv k), (3, gs_iv m), (0, .ref 30), (1, gs_iv n), (2, .ref b)] [] F1 A1) ∧ (∀ (m : Int) (k : Int) (r : Int)  (F1 A1 : gs_F), gs_I F1 A1 → gs_fr (fun c j => (c = 35 ∧ j = 1) ∨ (c = b ∧ j = 1)) (fun c => c = 36 ∨ c = 7 ∨ c = b + 1) F A F1 A1 → -2147483648 ≤ m ∧ m ≤ 2147483647 → 0 ≤ k ∧ k ≤ n → 0 ≤ r ∧ r ≤ 2147483647 → m = sp_pw (2 * F 5 0) k.toNat → F1 15 1 = F 15 1 ∧ F1 5 0 = F 5 0 → gs_bef (gs_hit g (2 * F 5 0) (gs_ic F A)) (2 * F 5 0) k r → (4 - k) * 4294967296 - r < (nN : Int) → sA m_X5_forImages 5 (fun rv F' A' => ∃ z : Int, rv = some (gs_iv z) ∧ gs_I F' A' ∧ gs_fr (fun c j => (c = 35 ∧ j = 1) ∨ (c = b ∧ j = 1)) (fun c => c = 36 ∨ c = 7 ∨ c = b + 1) F A F' A' ∧ ((z = 1 ∧ ∃ k r : Int, gs_srch (gs_hit g (2 * F 5 0) (gs_ic F A)) (2 * F 5 0) n k r ∧ F' b 1 = k ∧ ∀ j : Int, 0 ≤ j → j < k → A' (b + 1) j.toNat = sp_nm (2 * F 5 0) k.toNat r j.toNat) ∨ (z = 0 ∧ gs_bef (gs_hit g (2 * F 5 0) (gs_ic F A)) (2 * F 5 0) (n + 1) 0))) 14 [(5, gs_iv r), (4, gs_iv k), (3, gs_iv m), (0, .ref 30), (1, gs_iv n), (2, .ref b)] [] F1 A1) := by
  intro nN
  induction nN with
  | zero =>
    exact ⟨fun a0 a1 a2 a3 a4 a5 i0 i1 i2 i3 i4 hm => by exfalso; omega, fun a0 a1 a2 a3 a4 a5 a6 i0 i1 i2 i3 i4 i5 hm => by exfalso; omega⟩
  | succ nN ih =>
    refine ⟨?_, ?_⟩
    · skip
      intro m k F1 A1 hI1 hf1 i0 i1 i2 i3 i4 hm
      have b1 := gs_plan_sz ho hI1
      have b2 : (0 : Int) ≤ F1 15 1 ∧ F1 15 1 ≤ 6 := hI1.1 15 1
      have b3 : (1 : Int) ≤ F1 5 0 ∧ F1 5 0 ≤ 8 := hI1.1 5 0
      have hpb := sp_pw_bd (B := (2 * F 5 0)) (by omega)
      refine sA_iload dd_X5_forImages_5 (.head _) ?_
      refine sA_iload_n dd_X5_forImages_7 rfl (.tail _ (.tail _ (.tail _ (.head _)))) ?_
      refine sA_icmp_gt (tgt := 63) dd_X5_forImages_8 (by decide) (by omega) (by omega) (fun q4 => ?_) (fun q4 => ?_)
      · skip
        refine sA_iconst (z := 0) dd_X5_forImages_63 ?_
        refine sA_bret (z := 0) dd_X5_forImages_64 rfl (by omega) ?_
        refine ⟨_, rfl, hI1, hf1, ?_⟩
        refine .inr ⟨rfl, ?_⟩
        rw [show n + 1 = k by omega]
        exact i4
      · skip
        refine sA_iconst (z := 0) dd_X5_forImages_11 ?_
        refine sA_istore (lv' := [(5, gs_iv 0), (4, gs_iv k), (3, gs_iv m), (0, .ref 30), (1, gs_iv n), (2, .ref b)]) dd_X5_forImages_12 (by decide) rfl ?_
        refine sA_sub (lv2 := [(5, gs_iv 0), (4, gs_iv k), (3, gs_iv m), (0, .ref 30), (1, gs_iv n), (2, .ref b)]) (List.forall_mem_cons.mpr ⟨(.head _), (List.forall_mem_cons.mpr ⟨(.tail _ (.head _)), (List.forall_mem_cons.mpr ⟨(.tail _ (.tail _ (.head _))), (List.forall_mem_cons.mpr ⟨(.tail _ (.tail _ (.tail _ (.head _)))), (List.forall_mem_cons.mpr ⟨(.tail _ (.tail _ (.tail _ (.tail _ (.head _))))), (List.forall_mem_cons.mpr ⟨(.tail _ (.tail _ (.tail _ (.tail _ (.tail _ (.head _)))))), (fun _ h => absurd h List.not_mem_nil)⟩)⟩)⟩)⟩)⟩)⟩) ?_
        exact ih.2 m k 0 F1 A1 hI1 hf1 (by omega) (by omega) (by omega) i2 (by omega) i4 (by omega)
    · skip
      intro m k r F1 A1 hI1 hf1 i0 i1 i2 i3 i4 i5 hm
      have b5 := gs_plan_sz ho hI1
      have b6 : (0 : Int) ≤ F1 15 1 ∧ F1 15 1 ≤ 6 := hI1.1 15 1
      have b7 : (1 : Int) ≤ F1 5 0 ∧ F1 5 0 ≤ 8 := hI1.1 5 0
      have hpb := sp_pw_bd (B := (2 * F 5 0)) (by omega)
      have hpk := hpb k.toNat (by omega)
      refine sA_iload dd_X5_forImages_14 (.head _) ?_
      refine sA_iload_n dd_X5_forImages_16 rfl (.tail _ (.tail _ (.head _))) ?_
      refine sA_icmp_ge (tgt := 45) dd_X5_forImages_17 (by decide) (by omega) (by omega) (fun q8 => ?_) (fun q8 => ?_)
      · skip
        have hpw : m * (2 * F1 5 0) = sp_pw (2 * F 5 0) (k.toNat + 1) := by
          show _ = sp_pw (2 * F 5 0) k.toNat * (2 * F 5 0)
          rw [← i3, show F1 5 0 = F 5 0 by omega]
        have hpk2 := hpb (k.toNat + 1) (by omega)
        refine sA_iload_n dd_X5_forImages_45 rfl (.tail _ (.tail _ (.head _))) ?_
        refine sA_iconst (z := 2) dd_X5_forImages_46 ?_
        refine sA_aload_n dd_X5_forImages_47 rfl (.tail _ (.tail _ (.tail _ (.head _)))) ?_
        refine sA_getr (ci := 5) (j := 0) (q := (RX5, TX5, 6)) dd_X5_forImages_48 rfl (by decide) fl_X5_28 (by decide) gs_s30 rfl ?_
        refine sA_geti (ci := 7) (j := 0) (q := (RX7, TX7, 5)) dd_X5_forImages_51 rfl (by decide) fl_X5_64 (by decide) gs_s5 rfl ?_
        refine sA_imul dd_X5_forImages_54 ?_
        refine sA_imul dd_X5_forImages_55 ?_
        refine sA_istore_n (lv' := [(3, gs_iv (m * (2 * (F1 5 0)))), (5, gs_iv r), (4, gs_iv k), (0, .ref 30), (1, gs_iv n), (2, .ref b)]) dd_X5_forImages_56 rfl (by decide) rfl ?_
        refine sA_iinc (lv' := [(4, gs_iv (k + 1)), (3, gs_iv (m * (2 * (F1 5 0)))), (5, gs_iv r), (0, .ref 30), (1, gs_iv n), (2, .ref b)]) dd_X5_forImages_57 (.tail _ (.tail _ (.head _))) (by decide) rfl ?_
        refine sA_goto (tgt := 5) dd_X5_forImages_60 (by decide) ?_
        refine sA_sub (lv2 := [(4, gs_iv (k + 1)), (3, gs_iv (m * (2 * (F1 5 0)))), (0, .ref 30), (1, gs_iv n), (2, .ref b)]) (List.forall_mem_cons.mpr ⟨(.head _), (List.forall_mem_cons.mpr ⟨(.tail _ (.head _)), (List.forall_mem_cons.mpr ⟨(.tail _ (.tail _ (.tail _ (.head _)))), (List.forall_mem_cons.mpr ⟨(.tail _ (.tail _ (.tail _ (.tail _ (.head _))))), (List.forall_mem_cons.mpr ⟨(.tail _ (.tail _ (.tail _ (.tail _ (.tail _ (.head _)))))), (fun _ h => absurd h List.not_mem_nil)⟩)⟩)⟩)⟩)⟩) ?_
        exact ih.1 (m * (2 * (F1 5 0))) (k + 1) F1 A1 hI1 hf1 (by omega) (by omega) (by rw [show (k + 1).toNat = k.toNat + 1 by omega]; show _ = sp_pw (2 * F 5 0) k.toNat * (2 * F 5 0); rw [← i3, show F1 5 0 = F 5 0 by omega]) (by omega) (gs_bef_k i5 (by rw [← i3]; omega)) (by omega)
      · skip
        refine sA_aload_n dd_X5_forImages_20 rfl (.tail _ (.tail _ (.tail _ (.head _)))) ?_
        refine sA_iload dd_X5_forImages_21 (.head _) ?_
        refine sA_iload dd_X5_forImages_23 (.tail _ (.head _)) ?_
        refine sA_aload_n dd_X5_forImages_25 rfl (.tail _ (.tail _ (.tail _ (.tail _ (.tail _ (.head _)))))) ?_
        refine sA_callV (y2 := m_X5_spell) (n2 := 3) (d2 := 1) (a := 30) (ci := 5) (q := (RX5, TX5, 6)) (as := [gs_iv r, gs_iv k, .ref b]) (rest := []) dd_X5_forImages_26 ok_X5_spell ml_X5_60 rfl rfl (by decide) gs_s30 rfl rfl (Nat.le_of_ble_eq_true rfl) (by decide) (c_X5_spell_vf hI1 (by omega) (by omega) ho (by omega) (by omega)) (fun r9 F10 A11 h12 => ?_)
        obtain ⟨e14, I15, f16, x13⟩ := h12
        subst e14
        have v17 : F10 15 1 = F1 15 1 := f16.1 15 1 (by first | exact id | omega | (dsimp only; omega) | (dsimp only) | fail)
        have v18 : F10 5 0 = F1 5 0 := f16.1 5 0 (by first | exact id | omega | (dsimp only; omega) | (dsimp only) | fail)
        have f19 := gs_fr_tr hf1 f16 (fun b j h => by first | exact False.elim h | omega | (dsimp only at h ⊢; omega) | fail) (fun b h => by first | exact False.elim h | omega | (dsimp only at h ⊢; omega) | fail)
        have y20 : F10 b 1 = k ∧ ∀ j : Int, 0 ≤ j → j < k → A11 (b + 1) j.toNat = sp_nm (2 * F1 5 0) k.toNat r j.toNat := x13
        clear x13
        show sA _ _ _ 29 _ [] _ _
        refine sA_aload_n dd_X5_forImages_29 rfl (.tail _ (.tail _ (.tail _ (.head _)))) ?_
        refine sA_aload_n dd_X5_forImages_30 rfl (.tail _ (.tail _ (.tail _ (.tail _ (.tail _ (.head _)))))) ?_
        have y26a := y20.1
        have hPe : ∀ w, gs_plc F10 A11 g b w = sp_np g (2 * F 5 0) k.toNat r w := fun w => gs_plc_np (by omega) y20.1 (fun j h1 h2 => by rw [y20.2 j h1 h2, show F1 5 0 = F 5 0 by omega])
        have hic : ∀ ii : Nat, ii < 6 → gs_ic F10 A11 ii = gs_ic F A ii := fun ii hi => gs_ic_fr hi (fun c h1 h2 => f19.1 c 1 (by dsimp only; omega)) (fun c h1 h2 => f19.2 c (by dsimp only; omega))
        have hW1 : gs_W (A11 6) g := by rw [f19.2 6 (by dsimp only; omega)]; exact hW
        have hcd1 : ∀ i : Int, 0 ≤ i → i < F10 b 1 → 0 ≤ A11 (b + 1) i.toNat ∧ A11 (b + 1) i.toNat < 6 * g - 2 := fun i h1 h2 => by
          rw [y20.2 i h1 (by omega)]
          have w := sp_nm_rng (B := 2 * F1 5 0) (by omega) k.toNat r i.toNat
          omega
        have hda : gs_da F10 A11 g b ↔ gs_hit g (2 * F 5 0) (gs_ic F A) k.toNat r := by
          unfold gs_da gs_hit
          rw [show F10 15 1 = 2 * g by omega]
          constructor
          · intro h ii hi
            rw [← hPe, ← hic ii (by omega)]
            exact h ii hi
          · intro h ii hi
            rw [hPe, hic ii (by omega)]
            exact h ii hi
        refine sA_callV (y2 := m_X5_doesAsImages) (n2 := 1) (d2 := 4) (a := 30) (ci := 5) (q := (RX5, TX5, 6)) (as := [.ref b]) (rest := []) dd_X5_forImages_31 ok_X5_doesAsImages ml_X5_86 rfl rfl (by decide) gs_s30 rfl rfl (Nat.le_of_ble_eq_true rfl) (by decide) (c_X5_doesAsImages_vf I15 ho hg hcd1 hW1 (by omega) (by omega)) (fun r21 F22 A23 h24 => ?_)
        obtain ⟨z27, e26, I28, f29, x25⟩ := h24
        subst e26
        have v30 : F22 15 1 = F10 15 1 := f29.1 15 1 (by first | exact id | omega | (dsimp only; omega) | (dsimp only) | fail)
        have v31 : F22 5 0 = F10 5 0 := f29.1 5 0 (by first | exact id | omega | (dsimp only; omega) | (dsimp only) | fail)
        have f32 := gs_fr_tr f19 f29 (fun b j h => by first | exact False.elim h | omega | (dsimp only at h ⊢; omega) | fail) (fun b h => by first | exact False.elim h | omega | (dsimp only at h ⊢; omega) | fail)
        have y33 : (z27 = 1 ∧ gs_da F10 A11 g b) ∨ (z27 = 0 ∧ ¬ gs_da F10 A11 g b) := x25
        clear x25
        show sA _ _ _ 34 _ [gs_iv z27] _ _
        refine sA_if_eq (tgt := 39) dd_X5_forImages_34 (by decide) (by omega) (fun q34 => ?_) (fun q34 => ?_)
        · skip
          have hnh : ¬ gs_hit g (2 * F 5 0) (gs_ic F A) k.toNat r := fun w => by
            rcases y33 with y | y
            · omega
            · exact y.2 (hda.mpr w)
          refine sA_iinc (lv' := [(5, gs_iv (r + 1)), (4, gs_iv k), (3, gs_iv m), (0, .ref 30), (1, gs_iv n), (2, .ref b)]) dd_X5_forImages_39 (.head _) (by decide) rfl ?_
          refine sA_goto (tgt := 14) dd_X5_forImages_42 (by decide) ?_
          have b35 := gs_plan_sz ho I28
          have b36 : (0 : Int) ≤ F22 15 1 ∧ F22 15 1 ≤ 6 := I28.1 15 1
          have b37 : (1 : Int) ≤ F22 5 0 ∧ F22 5 0 ≤ 8 := I28.1 5 0
          refine sA_sub (lv2 := [(5, gs_iv (r + 1)), (4, gs_iv k), (3, gs_iv m), (0, .ref 30), (1, gs_iv n), (2, .ref b)]) (List.forall_mem_cons.mpr ⟨(.head _), (List.forall_mem_cons.mpr ⟨(.tail _ (.head _)), (List.forall_mem_cons.mpr ⟨(.tail _ (.tail _ (.head _))), (List.forall_mem_cons.mpr ⟨(.tail _ (.tail _ (.tail _ (.head _)))), (List.forall_mem_cons.mpr ⟨(.tail _ (.tail _ (.tail _ (.tail _ (.head _))))), (List.forall_mem_cons.mpr ⟨(.tail _ (.tail _ (.tail _ (.tail _ (.tail _ (.head _)))))), (fun _ h => absurd h List.not_mem_nil)⟩)⟩)⟩)⟩)⟩)⟩) ?_
          exact ih.2 m k (r + 1) F22 A23 I28 f32 (by omega) (by omega) (by omega) i3 (by omega) (gs_bef_r i5 hnh) (by omega)
        · skip
          refine sA_iconst (z := 1) dd_X5_forImages_37 ?_
          refine sA_bret (z := 1) dd_X5_forImages_38 rfl (by omega) ?_
          refine ⟨_, rfl, I28, f32, ?_⟩
          refine .inl ⟨rfl, k, r, ⟨by omega, by omega, by omega, by rw [← i3]; omega, ?_, i5⟩, ?_, fun j h1 h2 => ?_⟩
          · rcases y33 with y | y
            · exact hda.mp y.2
            · exfalso
              omega
          · rw [f29.1 b 1 (by dsimp only; omega)]
            omega
          · rw [f29.2 (b + 1) (by dsimp only; omega), y20.2 j h1 h2, show F1 5 0 = F 5 0 by omega]
theorem c_X5_forImages_vf {b : Nat} {n : Int} {g : Int} {F A : gs_F} (hI : gs_I F A) (hn : 0 ≤ n ∧ n ≤ 3) (ho : gs_plan b) (hg : 1 ≤ g ∧ g ≤ 3) (hW : gs_W (A 6) g) (h15 : F 15 1 = 2 * g) (h5 : F 5 0 = 3 * g - 1) (hb44 : b = 50 ∨ b = 52) : sC m_X5_forImages 5 [.ref 30, gs_iv n, .ref b] F A (fun rv F' A' => ∃ z : Int, rv = some (gs_iv z) ∧ gs_I F' A' ∧ gs_fr (fun c j => (c = 35 ∧ j = 1) ∨ (c = b ∧ j = 1)) (fun c => c = 36 ∨ c = 7 ∨ c = b + 1) F A F' A' ∧ ((z = 1 ∧ ∃ k r : Int, gs_srch (gs_hit g (2 * F 5 0) (gs_ic F A)) (2 * F 5 0) n k r ∧ F' b 1 = k ∧ ∀ j : Int, 0 ≤ j → j < k → A' (b + 1) j.toNat = sp_nm (2 * F 5 0) k.toNat r j.toNat) ∨ (z = 0 ∧ gs_bef (gs_hit g (2 * F 5 0) (gs_ic F A)) (2 * F 5 0) (n + 1) 0))) := by
  refine sC_of ok_X5_forImages.1 (Nat.le_of_ble_eq_true rfl) ?_
  show sA _ _ _ 0 [(0, .ref 30), (1, gs_iv n), (2, .ref b)] [] F A
  have hf : gs_fr (fun c j => (c = 35 ∧ j = 1) ∨ (c = b ∧ j = 1)) (fun c => c = 36 ∨ c = 7 ∨ c = b + 1) F A F A := gs_fr_refl _ _ _ _
  have b38 := gs_plan_sz ho hI
  have b39 : (0 : Int) ≤ F 15 1 ∧ F 15 1 ≤ 6 := hI.1 15 1
  have b40 : (1 : Int) ≤ F 5 0 ∧ F 5 0 ≤ 8 := hI.1 5 0
  have hpb := sp_pw_bd (B := (2 * F 5 0)) (by omega)
  refine sA_iconst (z := 1) dd_X5_forImages_0 ?_
  refine sA_istore_n (lv' := [(3, gs_iv 1), (0, .ref 30), (1, gs_iv n), (2, .ref b)]) dd_X5_forImages_1 rfl (by decide) rfl ?_
  refine sA_iconst (z := 0) dd_X5_forImages_2 ?_
  refine sA_istore (lv' := [(4, gs_iv 0), (3, gs_iv 1), (0, .ref 30), (1, gs_iv n), (2, .ref b)]) dd_X5_forImages_3 (by decide) rfl ?_
  refine sA_sub (lv2 := [(4, gs_iv 0), (3, gs_iv 1), (0, .ref 30), (1, gs_iv n), (2, .ref b)]) (List.forall_mem_cons.mpr ⟨(.head _), (List.forall_mem_cons.mpr ⟨(.tail _ (.head _)), (List.forall_mem_cons.mpr ⟨(.tail _ (.tail _ (.head _))), (List.forall_mem_cons.mpr ⟨(.tail _ (.tail _ (.tail _ (.head _)))), (List.forall_mem_cons.mpr ⟨(.tail _ (.tail _ (.tail _ (.tail _ (.head _))))), (fun _ h => absurd h List.not_mem_nil)⟩)⟩)⟩)⟩)⟩) ?_
  exact (k_X5_forImages_vf hI hn ho hg hW h15 h5 hb44 ((4 - 0) * 4294967296 + 1 : Int).toNat.succ).1 1 0 F A hI hf (by omega) (by omega) (by rfl) (by omega) gs_bef_0 (by omega)
theorem c_X8_fewest_vf {p n i : Int} {F A : gs_F} (hI : gs_I F A) (hp : -2147483648 ≤ p ∧ p ≤ 2147483647) (hn : -2147483648 ≤ n ∧ n ≤ 2147483647) (hi : -2147483648 ≤ i ∧ i ≤ 2147483647) (hW : gs_W (A 6) (F 0 11)) (hcd : 0 ≤ p → p ≤ 7 → ∀ i : Int, 0 ≤ i → i < F (90 + 2 * p.toNat) 1 → 0 ≤ A (90 + 2 * p.toNat + 1) i.toNat ∧ A (90 + 2 * p.toNat + 1) i.toNat < 6 * F 0 11 - 2) (h5 : F 5 0 = 3 * F 0 11 - 1) : sC m_X8_fewest 6 [.ref 0, gs_iv p, gs_iv n, gs_iv i] F A (fun rv F' A' => ∃ z : Int, rv = some (gs_iv z) ∧ gs_I F' A' ∧ gs_fr (fun c j => (c = 15 ∧ j = 1) ∨ (18 ≤ c ∧ c < 30 ∧ j = 1) ∨ (c = 35 ∧ j = 1) ∨ (c = 50 ∧ j = 1)) (fun c => c = 7 ∨ (18 ≤ c ∧ c < 30) ∨ c = 36 ∨ c = 51) F A F' A' ∧ (((p < 0 ∨ 7 < p) ∧ z = -1001) ∨ (0 ≤ p ∧ p ≤ 7 ∧ (n < 0 ∨ 3 < n ∨ i < -1 ∨ 2 < i) ∧ z = -1002) ∨ (0 ≤ p ∧ p ≤ 7 ∧ 0 ≤ n ∧ n ≤ 3 ∧ -1 ≤ i ∧ i ≤ 2 ∧ gs_fw (gs_plc F A (F 0 11) (90 + 2 * p.toNat)) (F 0 11) (2 * (3 * F 0 11 - 1)) n i z))) := by
  refine sC_of ok_X8_fewest.1 (Nat.le_of_ble_eq_true rfl) ?_
  show sA _ _ _ 0 [(0, .ref 0), (1, gs_iv p), (2, gs_iv n), (3, gs_iv i)] [] F A
  have hf : gs_fr (fun c j => (c = 15 ∧ j = 1) ∨ (18 ≤ c ∧ c < 30 ∧ j = 1) ∨ (c = 35 ∧ j = 1) ∨ (c = 50 ∧ j = 1)) (fun c => c = 7 ∨ (18 ≤ c ∧ c < 30) ∨ c = 36 ∨ c = 51) F A F A := gs_fr_refl _ _ _ _
  have b1 : (0 : Int) ≤ F 15 1 ∧ F 15 1 ≤ 6 := hI.1 15 1
  have b2 : (1 : Int) ≤ F 5 0 ∧ F 5 0 ≤ 8 := hI.1 5 0
  have b3 : (1 : Int) ≤ F 0 11 ∧ F 0 11 ≤ 3 := hI.1 0 11
  have hg : (1 : Int) ≤ F 0 11 ∧ F 0 11 ≤ 3 := hI.1 0 11
  refine sA_iload_n dd_X8_fewest_0 rfl (.tail _ (.head _)) ?_
  refine sA_callS (y2 := m_X8_isPlan) (n2 := 1) (d2 := 1) (as := [gs_iv p]) (rest := []) dd_X8_fewest_1 ok_X8_isPlan ml_X8_148 rfl rfl (Nat.le_of_ble_eq_true rfl) (by decide) (c_X8_isPlan (by omega)) (fun r4 F5 A6 h7 => ?_)
  obtain ⟨z10, e9, e11, e12, x8⟩ := h7
  subst e9 e11 e12
  show sA _ _ _ 4 _ [gs_iv z10] _ _
  refine sA_if_ne (tgt := 11) dd_X8_fewest_4 (by decide) (by omega) (fun q13 => ?_) (fun q13 => ?_)
  · skip
    refine sA_iload_n dd_X8_fewest_11 rfl (.tail _ (.tail _ (.head _))) ?_
    refine sA_iload_n dd_X8_fewest_12 rfl (.tail _ (.tail _ (.tail _ (.head _)))) ?_
    refine sA_callS (y2 := m_X8_isSearch) (n2 := 2) (d2 := 1) (as := [gs_iv n, gs_iv i]) (rest := []) dd_X8_fewest_13 ok_X8_isSearch ml_X8_228 rfl rfl (Nat.le_of_ble_eq_true rfl) (by decide) (c_X8_isSearch (by omega) (by omega)) (fun r14 F15 A16 h17 => ?_)
    obtain ⟨z20, e19, e21, e22, x18⟩ := h17
    subst e19 e21 e22
    show sA _ _ _ 16 _ [gs_iv z20] _ _
    refine sA_if_ne (tgt := 23) dd_X8_fewest_16 (by decide) (by omega) (fun q23 => ?_) (fun q23 => ?_)
    · skip
      refine sA_aload_n dd_X8_fewest_23 rfl (.head _) ?_
      refine sA_getr (ci := 8) (j := 5) (q := (RX8, TX8, 13)) dd_X8_fewest_24 rfl (by decide) fl_X8_49 (by decide) gs_s0 rfl ?_
      refine sA_aload_n dd_X8_fewest_27 rfl (.head _) ?_
      refine sA_geti (ci := 8) (j := 11) (q := (RX8, TX8, 13)) dd_X8_fewest_28 rfl (by decide) fl_X8_84 (by decide) gs_s0 rfl ?_
      refine sA_callV (y2 := m_X0_begin) (n2 := 1) (d2 := 2) (a := 15) (ci := 0) (q := (RX0, TX0, 4)) (as := [gs_iv (F 0 11)]) (rest := []) dd_X8_fewest_31 ok_X0_begin ml_X8_193 rfl rfl (by decide) gs_s15 rfl rfl (Nat.le_of_ble_eq_true rfl) (by decide) (c_X0_begin_vf hI (by omega)) (fun r24 F25 A26 h27 => ?_)
      obtain ⟨e29, I30, f31, x28⟩ := h27
      subst e29
      have v33 : F25 5 0 = F 5 0 := f31.1 5 0 (by first | exact id | omega | (dsimp only; omega) | (dsimp only) | fail)
      have v34 : F25 0 11 = F 0 11 := f31.1 0 11 (by first | exact id | omega | (dsimp only; omega) | (dsimp only) | fail)
      have f35 := gs_fr_tr hf f31 (fun b j h => by first | exact False.elim h | omega | (dsimp only at h ⊢; omega) | fail) (fun b h => by first | exact False.elim h | omega | (dsimp only at h ⊢; omega) | fail)
      have y36 : F25 15 1 = 2 * (F 0 11) ∧ ∀ ii : Nat, (ii : Int) < 2 * (F 0 11) → gs_ic F25 A26 ii = [(ii : Int) + 1] := x28
      clear x28
      show sA _ _ _ 34 _ [] _ _
      refine sA_aload_n dd_X8_fewest_34 rfl (.head _) ?_
      refine sA_getr (ci := 8) (j := 5) (q := (RX8, TX8, 13)) dd_X8_fewest_35 rfl (by decide) fl_X8_49 (by decide) gs_s0 rfl ?_
      refine sA_aload_n dd_X8_fewest_38 rfl (.head _) ?_
      refine sA_getr (ci := 8) (j := 1) (q := (RX8, TX8, 13)) dd_X8_fewest_39 rfl (by decide) fl_X8_17 (by decide) gs_s0 rfl ?_
      refine sA_iload_n dd_X8_fewest_42 rfl (.tail _ (.head _)) ?_
      refine sA_aald (n := 8) dd_X8_fewest_43 (by decide) (by decide) (by decide) gs_s2 (by omega) (by decide) ?_
      have g37 := gs_plan_at (k := p.toNat) (by omega)
      have hp1 : A26 (90 + 2 * p.toNat + 1) = A (90 + 2 * p.toNat + 1) := f35.2 (90 + 2 * p.toNat + 1) (by dsimp only; omega)
      have hpn : F25 (90 + 2 * p.toNat) 1 = F (90 + 2 * p.toNat) 1 := f35.1 (90 + 2 * p.toNat) 1 (by dsimp only; omega)
      have hW1 : gs_W (A26 6) (F 0 11) := by rw [f35.2 6 (by dsimp only; omega)]; exact hW
      have hcd1 : ∀ i : Int, 0 ≤ i → i < F25 (90 + 2 * p.toNat) 1 → 0 ≤ A26 (90 + 2 * p.toNat + 1) i.toNat ∧ A26 (90 + 2 * p.toNat + 1) i.toNat < 6 * F 0 11 - 2 := by rw [hp1, hpn]; exact (hcd (by omega) (by omega))
      have y8a := y36.1
      have hVI1 : ∀ ii : Nat, (ii : Int) < F25 15 1 → sp_val (F 0 11) (gs_ic F25 A26 ii) := fun ii hi => by
        rw [y36.2 ii (by omega)]
        exact gs_val1 (by omega)
      have hPe : ∀ r, gs_plc F25 A26 (F 0 11) (90 + 2 * p.toNat) r = gs_plc F A (F 0 11) (90 + 2 * p.toNat) r := fun r => by
        unfold gs_plc
        rw [hp1, hpn]
      refine sA_callV (y2 := m_X0_doPlan) (n2 := 1) (d2 := 4) (a := 15) (ci := 0) (q := (RX0, TX0, 4)) (as := [.ref (90 + 2 * p.toNat)]) (rest := []) dd_X8_fewest_44 ok_X0_doPlan ml_X8_196 rfl rfl (by decide) gs_s15 rfl rfl (Nat.le_of_ble_eq_true rfl) (by decide) (c_X0_doPlan_vf I30 g37 hg hcd1 hW1 hVI1 (by omega)) (fun r38 F39 A40 h41 => ?_)
      obtain ⟨z44, e43, I45, f46, x42⟩ := h41
      subst e43
      have v47 : F39 15 1 = F25 15 1 := f46.1 15 1 (by first | exact id | omega | (dsimp only; omega) | (dsimp only) | fail)
      have v48 : F39 5 0 = F25 5 0 := f46.1 5 0 (by first | exact id | omega | (dsimp only; omega) | (dsimp only) | fail)
      have v49 : F39 0 11 = F25 0 11 := f46.1 0 11 (by first | exact id | omega | (dsimp only; omega) | (dsimp only) | fail)
      have f50 := gs_fr_tr f35 f46 (fun b j h => by first | exact False.elim h | omega | (dsimp only at h ⊢; omega) | fail) (fun b h => by first | exact False.elim h | omega | (dsimp only at h ⊢; omega) | fail)
      have y51 : (z44 = 1 ∧ ∀ ii : Nat, (ii : Int) < F25 15 1 → gs_plc F25 A26 (F 0 11) (90 + 2 * p.toNat) (gs_ic F25 A26 ii) = some (gs_ic F39 A40 ii)) ∨ (z44 = 0 ∧ ∃ ii : Nat, (ii : Int) < F25 15 1 ∧ gs_plc F25 A26 (F 0 11) (90 + 2 * p.toNat) (gs_ic F25 A26 ii) = none) := x42
      clear x42
      show sA _ _ _ 47 _ [gs_iv z44] _ _
      refine sA_if_ne (tgt := 54) dd_X8_fewest_47 (by decide) (by omega) (fun q52 => ?_) (fun q52 => ?_)
      · skip
        have hP3 : ∀ ii : Nat, (ii : Int) < 2 * F 0 11 → gs_plc F A (F 0 11) (90 + 2 * p.toNat) [(ii : Int) + 1] = some (gs_ic F39 A40 ii) := by
          rcases y51 with y | y
          · intro ii hi
            have w := y.2 ii (by omega)
            rw [hPe, y36.2 ii (by omega)] at w
            exact w
          · exfalso
            omega
        clear y51
        refine sA_aload_n dd_X8_fewest_54 rfl (.head _) ?_
        refine sA_getr (ci := 8) (j := 6) (q := (RX8, TX8, 13)) dd_X8_fewest_55 rfl (by decide) fl_X8_58 (by decide) gs_s0 rfl ?_
        refine sA_iload_n dd_X8_fewest_58 rfl (.tail _ (.tail _ (.head _))) ?_
        refine sA_aload_n dd_X8_fewest_59 rfl (.head _) ?_
        refine sA_getr (ci := 8) (j := 9) (q := (RX8, TX8, 13)) dd_X8_fewest_60 rfl (by decide) fl_X8_73 (by decide) gs_s0 rfl ?_
        have hW1 : gs_W (A40 6) (F 0 11) := by rw [f50.2 6 (by dsimp only; omega)]; exact hW
        have h5c : F39 5 0 = 3 * F 0 11 - 1 := by omega
        refine sA_callV (y2 := m_X5_forImages) (n2 := 2) (d2 := 5) (a := 30) (ci := 5) (q := (RX5, TX5, 6)) (as := [gs_iv n, .ref 50]) (rest := []) dd_X8_fewest_63 ok_X5_forImages ml_X8_235 rfl rfl (by decide) gs_s30 rfl rfl (Nat.le_of_ble_eq_true rfl) (by decide) (c_X5_forImages_vf I45 (by omega) gs_plan_50 hg hW1 (by omega) (by omega) (by omega)) (fun r53 F54 A55 h56 => ?_)
        obtain ⟨z59, e58, I60, f61, x57⟩ := h56
        subst e58
        have v62 : F54 15 1 = F39 15 1 := f61.1 15 1 (by first | exact id | omega | (dsimp only; omega) | (dsimp only) | fail)
        have v63 : F54 5 0 = F39 5 0 := f61.1 5 0 (by first | exact id | omega | (dsimp only; omega) | (dsimp only) | fail)
        have v64 : F54 0 11 = F39 0 11 := f61.1 0 11 (by first | exact id | omega | (dsimp only; omega) | (dsimp only) | fail)
        have f65 := gs_fr_tr f50 f61 (fun b j h => by first | exact False.elim h | omega | (dsimp only at h ⊢; omega) | fail) (fun b h => by first | exact False.elim h | omega | (dsimp only at h ⊢; omega) | fail)
        have y66 : (z59 = 1 ∧ ∃ k r : Int, gs_srch (gs_hit (F 0 11) (2 * F39 5 0) (gs_ic F39 A40)) (2 * F39 5 0) n k r ∧ F54 50 1 = k ∧ ∀ j : Int, 0 ≤ j → j < k → A55 51 j.toNat = sp_nm (2 * F39 5 0) k.toNat r j.toNat) ∨ (z59 = 0 ∧ gs_bef (gs_hit (F 0 11) (2 * F39 5 0) (gs_ic F39 A40)) (2 * F39 5 0) (n + 1) 0) := x57
        clear x57
        show sA _ _ _ 66 _ [gs_iv z59] _ _
        refine sA_if_eq (tgt := 80) dd_X8_fewest_66 (by decide) (by omega) (fun q67 => ?_) (fun q67 => ?_)
        · skip
          refine sA_iconst (z := (-1)) dd_X8_fewest_80 ?_
          refine sA_iret (z := -1) dd_X8_fewest_81 rfl ?_
          refine ⟨_, rfl, I60, f65, ?_⟩
          have yy := y66
          clear y66
          rw [h5c] at yy
          rcases yy with y | y
          · exfalso
            omega
          · exact .inr (.inr ⟨by omega, by omega, by omega, by omega, by omega, by omega, .inr ⟨gs_ic F39 A40, hP3, .inr ⟨y.2, rfl⟩⟩⟩)
        · skip
          refine sA_aload_n dd_X8_fewest_69 rfl (.head _) ?_
          refine sA_getr (ci := 8) (j := 9) (q := (RX8, TX8, 13)) dd_X8_fewest_70 rfl (by decide) fl_X8_73 (by decide) gs_s0 rfl ?_
          refine sA_iload_n dd_X8_fewest_73 rfl (.tail _ (.tail _ (.tail _ (.head _)))) ?_
          refine sA_callV (y2 := m_X2_codeOrSize) (n2 := 1) (d2 := 1) (a := 50) (ci := 2) (q := (RX2, TX2, 2)) (as := [gs_iv i]) (rest := []) dd_X8_fewest_74 ok_X2_codeOrSize ml_X8_166 rfl rfl (Nat.lt_of_succ_lt gs_plan_50.1) gs_plan_50.2.1 rfl rfl (Nat.le_of_ble_eq_true rfl) (by decide) (c_X2_codeOrSize_vf I60 gs_plan_50 (by omega)) (fun r68 F69 A70 h71 => ?_)
          obtain ⟨z74, e73, e75, e76, x72⟩ := h71
          subst e73 e75 e76
          have y77 : (i = -1 ∧ z74 = F54 50 1) ∨ (i ≠ -1 ∧ 0 ≤ i ∧ i < F54 50 1 ∧ z74 = A55 51 i.toNat) ∨ (i ≠ -1 ∧ (i < 0 ∨ F54 50 1 ≤ i) ∧ z74 = -1) := x72
          clear x72
          show sA _ _ _ 77 _ [gs_iv z74] _ _
          refine sA_goto (tgt := 81) dd_X8_fewest_77 (by decide) ?_
          refine sA_iret (z := z74) dd_X8_fewest_81 rfl ?_
          refine ⟨_, rfl, I60, f65, ?_⟩
          have yy := y66
          clear y66
          rw [h5c] at yy
          rcases yy with y | y
          · obtain ⟨y1, k, r, y2, y3, y4⟩ := y
            have y20 := y2.1
            refine .inr (.inr ⟨by omega, by omega, by omega, by omega, by omega, by omega, .inr ⟨gs_ic F39 A40, hP3, .inl ⟨k, r, y2, ?_⟩⟩⟩)
            rcases y77 with c | c | c
            · exact .inl ⟨c.1, by omega⟩
            · refine .inr (.inl ⟨c.2.1, by omega, ?_⟩)
              have c4 := y4 i c.2.1 (by omega)
              exact c.2.2.2.trans c4
            · exact .inr (.inr ⟨by omega, by omega, c.2.2⟩)
          · exfalso
            omega
      · skip
        refine sA_sipush (z := (-1005)) dd_X8_fewest_50 (by decide) ?_
        refine sA_iret (z := -1005) dd_X8_fewest_53 rfl ?_
        refine ⟨_, rfl, I45, f50, ?_⟩
        rcases y51 with y | y
        · exfalso
          omega
        · obtain ⟨y1, ii, hi, y2⟩ := y
          rw [hPe, y36.2 ii (by omega)] at y2
          exact .inr (.inr ⟨by omega, by omega, by omega, by omega, by omega, by omega, .inl ⟨⟨ii, by omega, y2⟩, rfl⟩⟩)
    · skip
      refine sA_sipush (z := (-1002)) dd_X8_fewest_19 (by decide) ?_
      refine sA_iret (z := -1002) dd_X8_fewest_22 rfl ?_
      refine ⟨_, rfl, hI, hf, ?_⟩
      exact .inr (.inl ⟨by omega, by omega, by omega, rfl⟩)
  · skip
    refine sA_sipush (z := (-1001)) dd_X8_fewest_7 (by decide) ?_
    refine sA_iret (z := -1001) dd_X8_fewest_10 rfl ?_
    refine ⟨_, rfl, hI, hf, ?_⟩
    exact .inl ⟨by omega, rfl⟩
end
