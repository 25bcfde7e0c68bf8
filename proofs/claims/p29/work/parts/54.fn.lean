noncomputable section
/-! ===== what methods write: rows as functions; letters put behind a clean row ===== -/
def gs_u (f : Nat → Int) (n : Nat) (x : Int) : Nat → Int := fun k => if k = n then x else f k
def gs_cc (f h : Nat → Int) (sp dp n : Nat) : Nat → Int := fun k => if dp ≤ k ∧ k < dp + n then f (sp + (k - dp)) else h k
theorem gs_up_u (A : gs_F) (a j : Nat) (z : Int) : gs_up A a j z a = gs_u (A a) j z := by
  funext k
  unfold gs_up gs_u
  by_cases h : k = j
  · rw [if_pos ⟨rfl, h⟩, if_pos h]
  · rw [if_neg (fun q => h q.2), if_neg h]
theorem gs_cp_u (A : gs_F) (a b sp dp n : Nat) : gs_cp A a b sp dp n b = gs_cc (A a) (A b) sp dp n := by
  funext k
  unfold gs_cp gs_cc
  by_cases h : dp ≤ k ∧ k < dp + n
  · rw [if_pos ⟨rfl, h⟩, if_pos h]
  · rw [if_neg (fun q => h q.2), if_neg h]
theorem gs_u_self (f : Nat → Int) (n : Nat) (x : Int) : gs_u f n x n = x := if_pos rfl
theorem gs_u_ne (f : Nat → Int) {n k : Nat} (x : Int) (h : k ≠ n) : gs_u f n x k = f k := if_neg h
/-- a letter x comes behind the n letters f: the row is made clean (L: its room) -/
def gs_psh (n : Int) (f : Nat → Int) (x L n2 : Int) (f2 : Nat → Int) : Prop :=
  (0 < n ∧ f (n - 1).toNat = -x ∧ n2 = n - 1 ∧ f2 = f) ∨ ((n = 0 ∨ f (n - 1).toNat ≠ -x) ∧ n < L ∧ n2 = n + 1 ∧ f2 = gs_u f n.toNat x) ∨ ((n = 0 ∨ f (n - 1).toNat ≠ -x) ∧ n = L ∧ n2 = n ∧ f2 = f)
/-- letter(x): its answer z, the draft behind it -/
def gs_let (g n : Int) (f : Nat → Int) (x z n2 : Int) (f2 : Nat → Int) : Prop :=
  ((x = 0 ∨ x < -2 * g ∨ 2 * g < x) ∧ z = -1002 ∧ n2 = n ∧ f2 = f) ∨ (x ≠ 0 ∧ -2 * g ≤ x ∧ x ≤ 2 * g ∧ ((n = 60 ∧ z = -1004 ∧ n2 = n ∧ f2 = f) ∨ (n < 60 ∧ z = n2 ∧ gs_psh n f x 60 n2 f2)))
/-- a clean row without 0 -/
def gs_D1 (n : Nat) (f : Nat → Int) : Prop := (∀ i, i < n → f i ≠ 0) ∧ (∀ i, i + 1 < n → f i ≠ -(f (i + 1)))
theorem gs_psh_det {n x L n1 n2 : Int} {f h f1 f2 : Nat → Int} (hn : 0 ≤ n) (hf : ∀ i : Nat, i < n.toNat → f i = h i) (p1 : gs_psh n f x L n1 f1) (p2 : gs_psh n h x L n2 f2) : n1 = n2 ∧ (∀ i : Nat, i < n1.toNat → f1 i = f2 i) := by
  have e : 0 < n → f (n - 1).toNat = h (n - 1).toNat := fun q => hf _ (by omega)
  rcases p1 with ⟨a1, a2, a3, a4⟩ | ⟨a1, a2, a3, a4⟩ | ⟨a1, a2, a3, a4⟩ <;> rcases p2 with ⟨b1, b2, b3, b4⟩ | ⟨b1, b2, b3, b4⟩ | ⟨b1, b2, b3, b4⟩ <;> first
    | (exfalso; omega)
    | (refine ⟨by omega, fun i hi => ?_⟩
       rw [a4, b4]
       first
         | exact hf i (by omega)
         | (by_cases q : i = n.toNat
            · rw [q, gs_u_self, gs_u_self]
            · rw [gs_u_ne _ _ q, gs_u_ne _ _ q]
              exact hf i (by omega)))
theorem gs_psh_D {n x L n1 : Int} {f f1 : Nat → Int} (hn : 0 ≤ n) (hx : x ≠ 0) (hD : gs_D1 n.toNat f) (p1 : gs_psh n f x L n1 f1) : gs_D1 n1.toNat f1 := by
  rcases p1 with ⟨a1, a2, a3, a4⟩ | ⟨a1, a2, a3, a4⟩ | ⟨a1, a2, a3, a4⟩
  · rw [a4]
    exact ⟨fun i hi => hD.1 i (by omega), fun i hi => hD.2 i (by omega)⟩
  · rw [a4]
    refine ⟨fun i hi => ?_, fun i hi => ?_⟩
    · by_cases q : i = n.toNat
      · rw [q, gs_u_self]
        exact hx
      · rw [gs_u_ne _ _ q]
        exact hD.1 i (by omega)
    · rw [gs_u_ne f x (show i ≠ n.toNat by omega)]
      by_cases q : i + 1 = n.toNat
      · rw [q, gs_u_self]
        have e : i = (n - 1).toNat := by omega
        rw [e]
        rcases a1 with a1 | a1
        · omega
        · exact a1
      · rw [gs_u_ne f x q]
        exact hD.2 i (by omega)
  · rw [a4]
    exact ⟨fun i hi => hD.1 i (by omega), fun i hi => hD.2 i (by omega)⟩
theorem gs_let_det {g n x v1 v2 n1 n2 : Int} {f h f1 f2 : Nat → Int} (hn : 0 ≤ n) (hf : ∀ i : Nat, i < n.toNat → f i = h i) (hD : gs_D1 n.toNat h) (p1 : gs_let g n f x v1 n1 f1) (p2 : gs_let g n h x v2 n2 f2) : v2 = v1 ∧ n1 = n2 ∧ (∀ i : Nat, i < n1.toNat → f1 i = f2 i) ∧ gs_D1 n2.toNat f2 := by
  rcases p1 with ⟨a1, a2, a3, a4⟩ | ⟨a1, a2, a3, a4⟩
  · rcases p2 with ⟨b1, b2, b3, b4⟩ | ⟨b1, b2, b3, b4⟩
    · rw [a4, b4, a3, b3]
      exact ⟨by omega, rfl, hf, hD⟩
    · exfalso
      omega
  · rcases p2 with ⟨b1, b2, b3, b4⟩ | ⟨b1, b2, b3, b4⟩
    · exfalso
      omega
    · rcases a4 with ⟨c1, c2, c3, c4⟩ | ⟨c1, c2, c3⟩ <;> rcases b4 with ⟨e1, e2, e3, e4⟩ | ⟨e1, e2, e3⟩
      · rw [c4, e4, c3, e3]
        exact ⟨by omega, rfl, hf, hD⟩
      · exfalso
        omega
      · exfalso
        omega
      · obtain ⟨k1, k2⟩ := gs_psh_det hn hf c3 e3
        exact ⟨by omega, k1, k2, gs_psh_D hn a1 hD e3⟩
theorem c_X4_push_vf {a L : Nat} {x : Int} {F A : gs_F} (hI : gs_I F A) (hr : gs_row a L) (hx : -9 ≤ x ∧ x ≤ 9) : sC m_X4_push 1 [.ref a, gs_iv x] F A (fun rv F' A' => rv = none ∧ gs_I F' A' ∧ gs_fr (fun c j => c = a ∧ j = 1) (fun c => c = a + 1) F A F' A' ∧ (gs_psh (F a 1) (A (a + 1)) x (L : Int) (F' a 1) (A' (a + 1)))) := by
  refine sC_of ok_X4_push.1 (Nat.le_of_ble_eq_true rfl) ?_
  show sA _ _ _ 0 [(0, .ref a), (1, gs_iv x)] [] F A
  have hf : gs_fr (fun c j => c = a ∧ j = 1) (fun c => c = a + 1) F A F A := gs_fr_refl _ _ _ _
  have b1 := gs_row_sz hr hI
  have u2 : A (a + 1) = A (a + 1) := rfl
  refine sA_aload_n dd_X4_push_0 rfl (.head _) ?_
  refine sA_geti (ci := 4) (j := 1) (q := (RX4, TX4, 2)) dd_X4_push_1 rfl (by decide) fl_X4_19 (Nat.lt_of_succ_lt hr.1) hr.2.1 rfl ?_
  refine sA_if_le (tgt := 36) dd_X4_push_4 (by decide) (by omega) (fun q3 => ?_) (fun q3 => ?_)
  · skip
    refine sA_aload_n dd_X4_push_36 rfl (.head _) ?_
    refine sA_geti (ci := 4) (j := 1) (q := (RX4, TX4, 2)) dd_X4_push_37 rfl (by decide) fl_X4_19 (Nat.lt_of_succ_lt hr.1) hr.2.1 rfl ?_
    refine sA_aload_n dd_X4_push_40 rfl (.head _) ?_
    refine sA_getr (ci := 4) (j := 0) (q := (RX4, TX4, 2)) dd_X4_push_41 rfl (by decide) fl_X4_13 (Nat.lt_of_succ_lt hr.1) hr.2.1 rfl ?_
    refine sA_alen (n := L) dd_X4_push_44 hr.1 hr.2.2.1 ?_
    have b4 := hr.2.2.2.2.2
    refine sA_icmp_ge (tgt := 68) dd_X4_push_45 (by decide) (by omega) (by omega) (fun q5 => ?_) (fun q5 => ?_)
    · skip
      refine sA_vret dd_X4_push_68 rfl ?_
      refine ⟨rfl, hI, hf, ?_⟩
      first | (exact .inl ⟨by omega, by omega, by omega, u2⟩) | (exact .inr (.inl ⟨by omega, by omega, by omega, u2⟩)) | (exact .inr (.inr ⟨by omega, by omega, by omega, u2⟩))
    · skip
      refine sA_aload_n dd_X4_push_48 rfl (.head _) ?_
      refine sA_getr (ci := 4) (j := 0) (q := (RX4, TX4, 2)) dd_X4_push_49 rfl (by decide) fl_X4_13 (Nat.lt_of_succ_lt hr.1) hr.2.1 rfl ?_
      refine sA_aload_n dd_X4_push_52 rfl (.head _) ?_
      refine sA_geti (ci := 4) (j := 1) (q := (RX4, TX4, 2)) dd_X4_push_53 rfl (by decide) fl_X4_19 (Nat.lt_of_succ_lt hr.1) hr.2.1 rfl ?_
      refine sA_iload_n dd_X4_push_56 rfl (.tail _ (.head _)) ?_
      refine sA_iast (n := L) dd_X4_push_57 hr.1 hr.2.2.1 (by omega) (Nat.le_trans hr.2.2.2.2.2.2 (by decide)) ?_
      have I7 : gs_I F (gs_up A (a + 1) ((F a 1).toNat) x) := gs_row_ast hr hI (by omega)
      have f8 := gs_fr_ast hf (a := a + 1) (z := x) (i := (F a 1).toNat) (by first | omega | (dsimp only; omega) | (dsimp only))
      have u9 : (gs_up A (a + 1) ((F a 1).toNat) x) (a + 1) = gs_u (A (a + 1)) ((F a 1).toNat) x := (gs_up_u A (a + 1) ((F a 1).toNat) x).trans (congrArg (fun f => gs_u f ((F a 1).toNat) x) u2)
      generalize gs_up A (a + 1) ((F a 1).toNat) x = A6 at I7 f8 u9 ⊢
      refine sA_aload_n dd_X4_push_58 rfl (.head _) ?_
      refine sA_dup dd_X4_push_59 rfl ?_
      refine sA_geti (ci := 4) (j := 1) (q := (RX4, TX4, 2)) dd_X4_push_60 rfl (by decide) fl_X4_19 (Nat.lt_of_succ_lt hr.1) hr.2.1 rfl ?_
      refine sA_iconst (z := 1) dd_X4_push_63 ?_
      refine sA_iadd dd_X4_push_64 ?_
      refine sA_put (ci := 4) (j := 1) (q := (RX4, TX4, 2)) (ty := .int) dd_X4_push_65 rfl (by decide) fl_X4_19 rfl (tyX4_ok 1 (by decide)) rfl rfl (Nat.lt_of_succ_lt hr.1) hr.2.1 rfl ?_
      have I11 : gs_I (gs_up F a 1 ((F a 1) + 1)) A6 := gs_row_put hr I7 (by omega)
      have f12 := gs_fr_put f8 (a := a) (z := (F a 1) + 1) (j := 1) (by first | omega | (dsimp only; omega) | (dsimp only))
      have v13 : gs_up F a 1 ((F a 1) + 1) a 1 = (F a 1) + 1 := gs_up_self _ _ _ _
      generalize gs_up F a 1 ((F a 1) + 1) = F10 at I11 f12 v13 ⊢
      refine sA_vret dd_X4_push_68 rfl ?_
      refine ⟨rfl, I11, f12, ?_⟩
      first | (exact .inl ⟨by omega, by omega, by omega, u9⟩) | (exact .inr (.inl ⟨by omega, by omega, by omega, u9⟩)) | (exact .inr (.inr ⟨by omega, by omega, by omega, u9⟩))
  · skip
    refine sA_aload_n dd_X4_push_7 rfl (.head _) ?_
    refine sA_getr (ci := 4) (j := 0) (q := (RX4, TX4, 2)) dd_X4_push_8 rfl (by decide) fl_X4_13 (Nat.lt_of_succ_lt hr.1) hr.2.1 rfl ?_
    refine sA_aload_n dd_X4_push_11 rfl (.head _) ?_
    refine sA_geti (ci := 4) (j := 1) (q := (RX4, TX4, 2)) dd_X4_push_12 rfl (by decide) fl_X4_19 (Nat.lt_of_succ_lt hr.1) hr.2.1 rfl ?_
    refine sA_iconst (z := 1) dd_X4_push_15 ?_
    refine sA_isub dd_X4_push_16 ?_
    refine sA_iald (n := L) dd_X4_push_17 hr.1 hr.2.2.1 (by omega) (Nat.le_trans hr.2.2.2.2.2.2 (by decide)) ?_
    have b14 := gs_row_el hr hI ((F a 1) - 1).toNat
    refine sA_iload_n dd_X4_push_18 rfl (.tail _ (.head _)) ?_
    refine sA_ineg dd_X4_push_19 ?_
    refine sA_icmp_ne (tgt := 36) dd_X4_push_20 (by decide) (by omega) (by omega) (fun q15 => ?_) (fun q15 => ?_)
    · skip
      refine sA_aload_n dd_X4_push_36 rfl (.head _) ?_
      refine sA_geti (ci := 4) (j := 1) (q := (RX4, TX4, 2)) dd_X4_push_37 rfl (by decide) fl_X4_19 (Nat.lt_of_succ_lt hr.1) hr.2.1 rfl ?_
      refine sA_aload_n dd_X4_push_40 rfl (.head _) ?_
      refine sA_getr (ci := 4) (j := 0) (q := (RX4, TX4, 2)) dd_X4_push_41 rfl (by decide) fl_X4_13 (Nat.lt_of_succ_lt hr.1) hr.2.1 rfl ?_
      refine sA_alen (n := L) dd_X4_push_44 hr.1 hr.2.2.1 ?_
      have b16 := hr.2.2.2.2.2
      refine sA_icmp_ge (tgt := 68) dd_X4_push_45 (by decide) (by omega) (by omega) (fun q17 => ?_) (fun q17 => ?_)
      · skip
        refine sA_vret dd_X4_push_68 rfl ?_
        refine ⟨rfl, hI, hf, ?_⟩
        first | (exact .inl ⟨by omega, by omega, by omega, u2⟩) | (exact .inr (.inl ⟨by omega, by omega, by omega, u2⟩)) | (exact .inr (.inr ⟨by omega, by omega, by omega, u2⟩))
      · skip
        refine sA_aload_n dd_X4_push_48 rfl (.head _) ?_
        refine sA_getr (ci := 4) (j := 0) (q := (RX4, TX4, 2)) dd_X4_push_49 rfl (by decide) fl_X4_13 (Nat.lt_of_succ_lt hr.1) hr.2.1 rfl ?_
        refine sA_aload_n dd_X4_push_52 rfl (.head _) ?_
        refine sA_geti (ci := 4) (j := 1) (q := (RX4, TX4, 2)) dd_X4_push_53 rfl (by decide) fl_X4_19 (Nat.lt_of_succ_lt hr.1) hr.2.1 rfl ?_
        refine sA_iload_n dd_X4_push_56 rfl (.tail _ (.head _)) ?_
        refine sA_iast (n := L) dd_X4_push_57 hr.1 hr.2.2.1 (by omega) (Nat.le_trans hr.2.2.2.2.2.2 (by decide)) ?_
        have I19 : gs_I F (gs_up A (a + 1) ((F a 1).toNat) x) := gs_row_ast hr hI (by omega)
        have f20 := gs_fr_ast hf (a := a + 1) (z := x) (i := (F a 1).toNat) (by first | omega | (dsimp only; omega) | (dsimp only))
        have u21 : (gs_up A (a + 1) ((F a 1).toNat) x) (a + 1) = gs_u (A (a + 1)) ((F a 1).toNat) x := (gs_up_u A (a + 1) ((F a 1).toNat) x).trans (congrArg (fun f => gs_u f ((F a 1).toNat) x) u2)
        generalize gs_up A (a + 1) ((F a 1).toNat) x = A18 at I19 f20 u21 ⊢
        refine sA_aload_n dd_X4_push_58 rfl (.head _) ?_
        refine sA_dup dd_X4_push_59 rfl ?_
        refine sA_geti (ci := 4) (j := 1) (q := (RX4, TX4, 2)) dd_X4_push_60 rfl (by decide) fl_X4_19 (Nat.lt_of_succ_lt hr.1) hr.2.1 rfl ?_
        refine sA_iconst (z := 1) dd_X4_push_63 ?_
        refine sA_iadd dd_X4_push_64 ?_
        refine sA_put (ci := 4) (j := 1) (q := (RX4, TX4, 2)) (ty := .int) dd_X4_push_65 rfl (by decide) fl_X4_19 rfl (tyX4_ok 1 (by decide)) rfl rfl (Nat.lt_of_succ_lt hr.1) hr.2.1 rfl ?_
        have I23 : gs_I (gs_up F a 1 ((F a 1) + 1)) A18 := gs_row_put hr I19 (by omega)
        have f24 := gs_fr_put f20 (a := a) (z := (F a 1) + 1) (j := 1) (by first | omega | (dsimp only; omega) | (dsimp only))
        have v25 : gs_up F a 1 ((F a 1) + 1) a 1 = (F a 1) + 1 := gs_up_self _ _ _ _
        generalize gs_up F a 1 ((F a 1) + 1) = F22 at I23 f24 v25 ⊢
        refine sA_vret dd_X4_push_68 rfl ?_
        refine ⟨rfl, I23, f24, ?_⟩
        first | (exact .inl ⟨by omega, by omega, by omega, u21⟩) | (exact .inr (.inl ⟨by omega, by omega, by omega, u21⟩)) | (exact .inr (.inr ⟨by omega, by omega, by omega, u21⟩))
    · skip
      refine sA_aload_n dd_X4_push_23 rfl (.head _) ?_
      refine sA_dup dd_X4_push_24 rfl ?_
      refine sA_geti (ci := 4) (j := 1) (q := (RX4, TX4, 2)) dd_X4_push_25 rfl (by decide) fl_X4_19 (Nat.lt_of_succ_lt hr.1) hr.2.1 rfl ?_
      refine sA_iconst (z := 1) dd_X4_push_28 ?_
      refine sA_isub dd_X4_push_29 ?_
      refine sA_put (ci := 4) (j := 1) (q := (RX4, TX4, 2)) (ty := .int) dd_X4_push_30 rfl (by decide) fl_X4_19 rfl (tyX4_ok 1 (by decide)) rfl rfl (Nat.lt_of_succ_lt hr.1) hr.2.1 rfl ?_
      have I27 : gs_I (gs_up F a 1 ((F a 1) - 1)) A := gs_row_put hr hI (by omega)
      have f28 := gs_fr_put hf (a := a) (z := (F a 1) - 1) (j := 1) (by first | omega | (dsimp only; omega) | (dsimp only))
      have v29 : gs_up F a 1 ((F a 1) - 1) a 1 = (F a 1) - 1 := gs_up_self _ _ _ _
      generalize gs_up F a 1 ((F a 1) - 1) = F26 at I27 f28 v29 ⊢
      refine sA_goto (tgt := 68) dd_X4_push_33 (by decide) ?_
      refine sA_vret dd_X4_push_68 rfl ?_
      refine ⟨rfl, I27, f28, ?_⟩
      first | (exact .inl ⟨by omega, by omega, by omega, u2⟩) | (exact .inr (.inl ⟨by omega, by omega, by omega, u2⟩)) | (exact .inr (.inr ⟨by omega, by omega, by omega, u2⟩))
theorem c_X8_letter_vf {x : Int} {F A : gs_F} (hI : gs_I F A) (hx : -2147483648 ≤ x ∧ x ≤ 2147483647) : sC m_X8_letter 2 [.ref 0, gs_iv x] F A (fun rv F' A' => ∃ z : Int, rv = some (gs_iv z) ∧ gs_I F' A' ∧ gs_fr (fun c j => c = 3 ∧ j = 1) (fun c => c = 4) F A F' A' ∧ (gs_let (F 0 11) (F 3 1) (A 4) x z (F' 3 1) (A' 4))) := by
  refine sC_of ok_X8_letter.1 (Nat.le_of_ble_eq_true rfl) ?_
  show sA _ _ _ 0 [(0, .ref 0), (1, gs_iv x)] [] F A
  have hf : gs_fr (fun c j => c = 3 ∧ j = 1) (fun c => c = 4) F A F A := gs_fr_refl _ _ _ _
  have u1 : A 4 = A 4 := rfl
  refine sA_iload_n dd_X8_letter_0 rfl (.tail _ (.head _)) ?_
  refine sA_if_eq (tgt := 25) dd_X8_letter_1 (by decide) (by omega) (fun q2 => ?_) (fun q2 => ?_)
  · skip
    refine sA_sipush (z := (-1002)) dd_X8_letter_25 (by decide) ?_
    refine sA_iret (z := -1002) dd_X8_letter_28 rfl ?_
    refine ⟨_, rfl, hI, hf, ?_⟩
    exact .inl ⟨by omega, by omega, rfl, u1⟩
  · skip
    refine sA_iload_n dd_X8_letter_4 rfl (.tail _ (.head _)) ?_
    refine sA_bipush (z := (-2)) dd_X8_letter_5 (by decide) ?_
    refine sA_aload_n dd_X8_letter_7 rfl (.head _) ?_
    refine sA_geti (ci := 8) (j := 11) (q := (RX8, TX8, 13)) dd_X8_letter_8 rfl (by decide) fl_X8_84 (by decide) gs_s0 rfl ?_
    have b3 : (1 : Int) ≤ F 0 11 ∧ F 0 11 ≤ 3 := hI.1 0 11
    refine sA_imul dd_X8_letter_11 ?_
    refine sA_icmp_lt (tgt := 25) dd_X8_letter_12 (by decide) (by omega) (by omega) (fun q4 => ?_) (fun q4 => ?_)
    · skip
      refine sA_sipush (z := (-1002)) dd_X8_letter_25 (by decide) ?_
      refine sA_iret (z := -1002) dd_X8_letter_28 rfl ?_
      refine ⟨_, rfl, hI, hf, ?_⟩
      exact .inl ⟨by omega, by omega, rfl, u1⟩
    · skip
      refine sA_iload_n dd_X8_letter_15 rfl (.tail _ (.head _)) ?_
      refine sA_iconst (z := 2) dd_X8_letter_16 ?_
      refine sA_aload_n dd_X8_letter_17 rfl (.head _) ?_
      refine sA_geti (ci := 8) (j := 11) (q := (RX8, TX8, 13)) dd_X8_letter_18 rfl (by decide) fl_X8_84 (by decide) gs_s0 rfl ?_
      refine sA_imul dd_X8_letter_21 ?_
      refine sA_icmp_le (tgt := 29) dd_X8_letter_22 (by decide) (by omega) (by omega) (fun q5 => ?_) (fun q5 => ?_)
      · skip
        refine sA_aload_n dd_X8_letter_29 rfl (.head _) ?_
        refine sA_getr (ci := 8) (j := 2) (q := (RX8, TX8, 13)) dd_X8_letter_30 rfl (by decide) fl_X8_26 (by decide) gs_s0 rfl ?_
        refine sA_geti (ci := 4) (j := 1) (q := (RX4, TX4, 2)) dd_X8_letter_33 rfl (by decide) fl_X8_88 (Nat.lt_of_succ_lt gs_row_3.1) gs_row_3.2.1 rfl ?_
        have b6 := gs_row_sz gs_row_3 hI
        refine sA_bipush (z := 60) dd_X8_letter_36 (by decide) ?_
        refine sA_icmp_lt (tgt := 45) dd_X8_letter_38 (by decide) (by omega) (by omega) (fun q7 => ?_) (fun q7 => ?_)
        · skip
          refine sA_aload_n dd_X8_letter_45 rfl (.head _) ?_
          refine sA_getr (ci := 8) (j := 2) (q := (RX8, TX8, 13)) dd_X8_letter_46 rfl (by decide) fl_X8_26 (by decide) gs_s0 rfl ?_
          refine sA_iload_n dd_X8_letter_49 rfl (.tail _ (.head _)) ?_
          refine sA_callV (y2 := m_X4_push) (n2 := 1) (d2 := 1) (a := 3) (ci := 4) (q := (RX4, TX4, 2)) (as := [gs_iv x]) (rest := []) dd_X8_letter_50 ok_X4_push ml_X8_91 rfl rfl (Nat.lt_of_succ_lt gs_row_3.1) gs_row_3.2.1 rfl rfl (Nat.le_of_ble_eq_true rfl) (by decide) (c_X4_push_vf hI gs_row_3 (by omega)) (fun r8 F9 A10 h11 => ?_)
          obtain ⟨e13, I14, f15, x12⟩ := h11
          subst e13
          have f16 := gs_fr_tr hf f15 (fun b j h => by first | exact False.elim h | omega | (dsimp only at h ⊢; omega)) (fun b h => by first | exact False.elim h | omega | (dsimp only at h ⊢; omega))
          have u17 : A10 4 = A10 4 := rfl
          have y18 : gs_psh (F 3 1) (A 4) x (60 : Int) (F9 3 1) (A10 4) := x12
          show sA _ _ _ 53 _ [] _ _
          refine sA_aload_n dd_X8_letter_53 rfl (.head _) ?_
          refine sA_getr (ci := 8) (j := 2) (q := (RX8, TX8, 13)) dd_X8_letter_54 rfl (by decide) fl_X8_26 (by decide) gs_s0 rfl ?_
          refine sA_geti (ci := 4) (j := 1) (q := (RX4, TX4, 2)) dd_X8_letter_57 rfl (by decide) fl_X8_88 (Nat.lt_of_succ_lt gs_row_3.1) gs_row_3.2.1 rfl ?_
          have b19 := gs_row_sz gs_row_3 I14
          refine sA_iret (z := F9 3 1) dd_X8_letter_60 rfl ?_
          refine ⟨_, rfl, I14, f16, ?_⟩
          exact .inr ⟨by omega, by omega, by omega, .inr ⟨by omega, rfl, y18⟩⟩
        · skip
          refine sA_sipush (z := (-1004)) dd_X8_letter_41 (by decide) ?_
          refine sA_iret (z := -1004) dd_X8_letter_44 rfl ?_
          refine ⟨_, rfl, hI, hf, ?_⟩
          exact .inr ⟨by omega, by omega, by omega, .inl ⟨by omega, by omega, rfl, u1⟩⟩
      · skip
        refine sA_sipush (z := (-1002)) dd_X8_letter_25 (by decide) ?_
        refine sA_iret (z := -1002) dd_X8_letter_28 rfl ?_
        refine ⟨_, rfl, hI, hf, ?_⟩
        exact .inl ⟨by omega, by omega, rfl, u1⟩
theorem c_X9_letter_vf {x : Int} {F A : gs_F} (hI : gs_I F A) (hx : -2147483648 ≤ x ∧ x ≤ 2147483647) : sC m_X9_letter 3 [.ref 106, gs_iv x] F A (fun rv F' A' => ∃ z : Int, rv = some (gs_iv z) ∧ gs_I F' A' ∧ gs_fr (fun c j => c = 106 ∧ j = 1) (fun c => c = 107) F A F' A' ∧ (gs_let (F 106 0) (F 106 1) (A 107) x z (F' 106 1) (A' 107))) := by
  refine sC_of ok_X9_letter.1 (Nat.le_of_ble_eq_true rfl) ?_
  show sA _ _ _ 0 [(0, .ref 106), (1, gs_iv x)] [] F A
  have hf : gs_fr (fun c j => c = 106 ∧ j = 1) (fun c => c = 107) F A F A := gs_fr_refl _ _ _ _
  have b1 : (0 : Int) ≤ F 106 1 ∧ F 106 1 ≤ 60 := hI.1 106 1
  have u2 : A 107 = A 107 := rfl
  refine sA_aload_n dd_X9_letter_0 rfl (.head _) ?_
  refine sA_iload_n dd_X9_letter_1 rfl (.tail _ (.head _)) ?_
  refine sA_callV (y2 := m_X9_isLetter) (n2 := 1) (d2 := 2) (a := 106) (ci := 9) (q := (RX9, TX9, 28)) (as := [gs_iv x]) (rest := []) dd_X9_letter_2 ok_X9_isLetter ml_X9_79 rfl rfl (by decide) gs_s106 rfl rfl (Nat.le_of_ble_eq_true rfl) (by decide) (c_X9_isLetter hI (by omega)) (fun r3 F4 A5 h6 => ?_)
  obtain ⟨z9, e8, e10, e11, x7⟩ := h6
  subst e8 e10 e11
  show sA _ _ _ 5 _ [gs_iv z9] _ _
  refine sA_if_ne (tgt := 12) dd_X9_letter_5 (by decide) (by omega) (fun q12 => ?_) (fun q12 => ?_)
  · skip
    refine sA_aload_n dd_X9_letter_12 rfl (.head _) ?_
    refine sA_geti (ci := 9) (j := 1) (q := (RX9, TX9, 28)) dd_X9_letter_13 rfl (by decide) fl_X9_67 (by decide) gs_s106 rfl ?_
    refine sA_bipush (z := 60) dd_X9_letter_16 (by decide) ?_
    refine sA_icmp_ne (tgt := 25) dd_X9_letter_18 (by decide) (by omega) (by omega) (fun q13 => ?_) (fun q13 => ?_)
    · skip
      refine sA_aload_n dd_X9_letter_25 rfl (.head _) ?_
      refine sA_geti (ci := 9) (j := 1) (q := (RX9, TX9, 28)) dd_X9_letter_26 rfl (by decide) fl_X9_67 (by decide) gs_s106 rfl ?_
      refine sA_if_le (tgt := 62) dd_X9_letter_29 (by decide) (by omega) (fun q14 => ?_) (fun q14 => ?_)
      · skip
        refine sA_aload_n dd_X9_letter_62 rfl (.head _) ?_
        refine sA_getr (ci := 9) (j := 2) (q := (RX9, TX9, 28)) dd_X9_letter_63 rfl (by decide) fl_X9_7 (by decide) gs_s106 rfl ?_
        refine sA_aload_n dd_X9_letter_66 rfl (.head _) ?_
        refine sA_geti (ci := 9) (j := 1) (q := (RX9, TX9, 28)) dd_X9_letter_67 rfl (by decide) fl_X9_67 (by decide) gs_s106 rfl ?_
        refine sA_iload_n dd_X9_letter_70 rfl (.tail _ (.head _)) ?_
        refine sA_iast (n := 60) dd_X9_letter_71 (by decide) gs_s107 (by omega) (by decide) ?_
        have I16 : gs_I F (gs_up A 107 ((F 106 1).toNat) x) := gs_I_ast hI (show (-9 : Int) ≤ x ∧ x ≤ 9 by omega)
        have f17 := gs_fr_ast hf (a := 107) (z := x) (i := (F 106 1).toNat) (by first | omega | (dsimp only; omega) | (dsimp only))
        have u18 : (gs_up A 107 ((F 106 1).toNat) x) 107 = gs_u (A 107) ((F 106 1).toNat) x := (gs_up_u A 107 ((F 106 1).toNat) x).trans (congrArg (fun f => gs_u f ((F 106 1).toNat) x) u2)
        generalize gs_up A 107 ((F 106 1).toNat) x = A15 at I16 f17 u18 ⊢
        refine sA_aload_n dd_X9_letter_72 rfl (.head _) ?_
        refine sA_dup dd_X9_letter_73 rfl ?_
        refine sA_geti (ci := 9) (j := 1) (q := (RX9, TX9, 28)) dd_X9_letter_74 rfl (by decide) fl_X9_67 (by decide) gs_s106 rfl ?_
        refine sA_iconst (z := 1) dd_X9_letter_77 ?_
        refine sA_iadd dd_X9_letter_78 ?_
        refine sA_put (ci := 9) (j := 1) (q := (RX9, TX9, 28)) (ty := .int) dd_X9_letter_79 rfl (by decide) fl_X9_67 rfl (tyX9_ok 1 (by decide)) rfl rfl (by decide) gs_s106 rfl ?_
        have I20 : gs_I (gs_up F 106 1 ((F 106 1) + 1)) A15 := gs_I_put I16 (show (0 : Int) ≤ (F 106 1) + 1 ∧ (F 106 1) + 1 ≤ 60 by omega)
        have f21 := gs_fr_put f17 (a := 106) (z := (F 106 1) + 1) (j := 1) (by first | omega | (dsimp only; omega) | (dsimp only))
        have v22 : gs_up F 106 1 ((F 106 1) + 1) 106 1 = (F 106 1) + 1 := gs_up_self _ _ _ _
        generalize gs_up F 106 1 ((F 106 1) + 1) = F19 at I20 f21 v22 ⊢
        refine sA_aload_n dd_X9_letter_82 rfl (.head _) ?_
        refine sA_geti (ci := 9) (j := 1) (q := (RX9, TX9, 28)) dd_X9_letter_83 rfl (by decide) fl_X9_67 (by decide) gs_s106 rfl ?_
        have b23 : (0 : Int) ≤ F19 106 1 ∧ F19 106 1 ≤ 60 := I20.1 106 1
        refine sA_iret (z := F19 106 1) dd_X9_letter_86 rfl ?_
        refine ⟨_, rfl, I20, f21, ?_⟩
        refine .inr ⟨by omega, by omega, by omega, .inr ⟨by omega, rfl, ?_⟩⟩
        first | (exact .inl ⟨by omega, by omega, by omega, u18⟩) | (exact .inr (.inl ⟨by omega, by omega, by omega, u18⟩)) | (exact .inr (.inr ⟨by omega, by omega, by omega, u18⟩))
      · skip
        refine sA_aload_n dd_X9_letter_32 rfl (.head _) ?_
        refine sA_getr (ci := 9) (j := 2) (q := (RX9, TX9, 28)) dd_X9_letter_33 rfl (by decide) fl_X9_7 (by decide) gs_s106 rfl ?_
        refine sA_aload_n dd_X9_letter_36 rfl (.head _) ?_
        refine sA_geti (ci := 9) (j := 1) (q := (RX9, TX9, 28)) dd_X9_letter_37 rfl (by decide) fl_X9_67 (by decide) gs_s106 rfl ?_
        refine sA_iconst (z := 1) dd_X9_letter_40 ?_
        refine sA_isub dd_X9_letter_41 ?_
        refine sA_iald (n := 60) dd_X9_letter_42 (by decide) gs_s107 (by omega) (by decide) ?_
        have b24 : (-9 : Int) ≤ A 107 ((F 106 1) - 1).toNat ∧ A 107 ((F 106 1) - 1).toNat ≤ 9 := hI.2 107 ((F 106 1) - 1).toNat
        refine sA_iconst (z := 0) dd_X9_letter_43 ?_
        refine sA_iload_n dd_X9_letter_44 rfl (.tail _ (.head _)) ?_
        refine sA_isub dd_X9_letter_45 ?_
        refine sA_icmp_ne (tgt := 62) dd_X9_letter_46 (by decide) (by omega) (by omega) (fun q25 => ?_) (fun q25 => ?_)
        · skip
          refine sA_aload_n dd_X9_letter_62 rfl (.head _) ?_
          refine sA_getr (ci := 9) (j := 2) (q := (RX9, TX9, 28)) dd_X9_letter_63 rfl (by decide) fl_X9_7 (by decide) gs_s106 rfl ?_
          refine sA_aload_n dd_X9_letter_66 rfl (.head _) ?_
          refine sA_geti (ci := 9) (j := 1) (q := (RX9, TX9, 28)) dd_X9_letter_67 rfl (by decide) fl_X9_67 (by decide) gs_s106 rfl ?_
          refine sA_iload_n dd_X9_letter_70 rfl (.tail _ (.head _)) ?_
          refine sA_iast (n := 60) dd_X9_letter_71 (by decide) gs_s107 (by omega) (by decide) ?_
          have I27 : gs_I F (gs_up A 107 ((F 106 1).toNat) x) := gs_I_ast hI (show (-9 : Int) ≤ x ∧ x ≤ 9 by omega)
          have f28 := gs_fr_ast hf (a := 107) (z := x) (i := (F 106 1).toNat) (by first | omega | (dsimp only; omega) | (dsimp only))
          have u29 : (gs_up A 107 ((F 106 1).toNat) x) 107 = gs_u (A 107) ((F 106 1).toNat) x := (gs_up_u A 107 ((F 106 1).toNat) x).trans (congrArg (fun f => gs_u f ((F 106 1).toNat) x) u2)
          generalize gs_up A 107 ((F 106 1).toNat) x = A26 at I27 f28 u29 ⊢
          refine sA_aload_n dd_X9_letter_72 rfl (.head _) ?_
          refine sA_dup dd_X9_letter_73 rfl ?_
          refine sA_geti (ci := 9) (j := 1) (q := (RX9, TX9, 28)) dd_X9_letter_74 rfl (by decide) fl_X9_67 (by decide) gs_s106 rfl ?_
          refine sA_iconst (z := 1) dd_X9_letter_77 ?_
          refine sA_iadd dd_X9_letter_78 ?_
          refine sA_put (ci := 9) (j := 1) (q := (RX9, TX9, 28)) (ty := .int) dd_X9_letter_79 rfl (by decide) fl_X9_67 rfl (tyX9_ok 1 (by decide)) rfl rfl (by decide) gs_s106 rfl ?_
          have I31 : gs_I (gs_up F 106 1 ((F 106 1) + 1)) A26 := gs_I_put I27 (show (0 : Int) ≤ (F 106 1) + 1 ∧ (F 106 1) + 1 ≤ 60 by omega)
          have f32 := gs_fr_put f28 (a := 106) (z := (F 106 1) + 1) (j := 1) (by first | omega | (dsimp only; omega) | (dsimp only))
          have v33 : gs_up F 106 1 ((F 106 1) + 1) 106 1 = (F 106 1) + 1 := gs_up_self _ _ _ _
          generalize gs_up F 106 1 ((F 106 1) + 1) = F30 at I31 f32 v33 ⊢
          refine sA_aload_n dd_X9_letter_82 rfl (.head _) ?_
          refine sA_geti (ci := 9) (j := 1) (q := (RX9, TX9, 28)) dd_X9_letter_83 rfl (by decide) fl_X9_67 (by decide) gs_s106 rfl ?_
          have b34 : (0 : Int) ≤ F30 106 1 ∧ F30 106 1 ≤ 60 := I31.1 106 1
          refine sA_iret (z := F30 106 1) dd_X9_letter_86 rfl ?_
          refine ⟨_, rfl, I31, f32, ?_⟩
          refine .inr ⟨by omega, by omega, by omega, .inr ⟨by omega, rfl, ?_⟩⟩
          first | (exact .inl ⟨by omega, by omega, by omega, u29⟩) | (exact .inr (.inl ⟨by omega, by omega, by omega, u29⟩)) | (exact .inr (.inr ⟨by omega, by omega, by omega, u29⟩))
        · skip
          refine sA_aload_n dd_X9_letter_49 rfl (.head _) ?_
          refine sA_dup dd_X9_letter_50 rfl ?_
          refine sA_geti (ci := 9) (j := 1) (q := (RX9, TX9, 28)) dd_X9_letter_51 rfl (by decide) fl_X9_67 (by decide) gs_s106 rfl ?_
          refine sA_iconst (z := 1) dd_X9_letter_54 ?_
          refine sA_isub dd_X9_letter_55 ?_
          refine sA_put (ci := 9) (j := 1) (q := (RX9, TX9, 28)) (ty := .int) dd_X9_letter_56 rfl (by decide) fl_X9_67 rfl (tyX9_ok 1 (by decide)) rfl rfl (by decide) gs_s106 rfl ?_
          have I36 : gs_I (gs_up F 106 1 ((F 106 1) - 1)) A := gs_I_put hI (show (0 : Int) ≤ (F 106 1) - 1 ∧ (F 106 1) - 1 ≤ 60 by omega)
          have f37 := gs_fr_put hf (a := 106) (z := (F 106 1) - 1) (j := 1) (by first | omega | (dsimp only; omega) | (dsimp only))
          have v38 : gs_up F 106 1 ((F 106 1) - 1) 106 1 = (F 106 1) - 1 := gs_up_self _ _ _ _
          generalize gs_up F 106 1 ((F 106 1) - 1) = F35 at I36 f37 v38 ⊢
          refine sA_goto (tgt := 82) dd_X9_letter_59 (by decide) ?_
          refine sA_aload_n dd_X9_letter_82 rfl (.head _) ?_
          refine sA_geti (ci := 9) (j := 1) (q := (RX9, TX9, 28)) dd_X9_letter_83 rfl (by decide) fl_X9_67 (by decide) gs_s106 rfl ?_
          have b39 : (0 : Int) ≤ F35 106 1 ∧ F35 106 1 ≤ 60 := I36.1 106 1
          refine sA_iret (z := F35 106 1) dd_X9_letter_86 rfl ?_
          refine ⟨_, rfl, I36, f37, ?_⟩
          refine .inr ⟨by omega, by omega, by omega, .inr ⟨by omega, rfl, ?_⟩⟩
          first | (exact .inl ⟨by omega, by omega, by omega, u2⟩) | (exact .inr (.inl ⟨by omega, by omega, by omega, u2⟩)) | (exact .inr (.inr ⟨by omega, by omega, by omega, u2⟩))
    · skip
      refine sA_sipush (z := (-1004)) dd_X9_letter_21 (by decide) ?_
      refine sA_iret (z := -1004) dd_X9_letter_24 rfl ?_
      refine ⟨_, rfl, hI, hf, ?_⟩
      exact .inr ⟨by omega, by omega, by omega, .inl ⟨by omega, by omega, rfl, u2⟩⟩
  · skip
    refine sA_sipush (z := (-1002)) dd_X9_letter_8 (by decide) ?_
    refine sA_iret (z := -1002) dd_X9_letter_11 rfl ?_
    refine ⟨_, rfl, hI, hf, ?_⟩
    exact .inl ⟨by omega, by omega, rfl, u2⟩
theorem k_X9_ring_vf  {F A : gs_F} (hI : gs_I F A) (hX : ∀ r : Nat, (r : Int) < F 106 3 → 1 ≤ A 108 r) (hD : gs_D1 (F 106 1).toNat (A 107)) : ∀ nN : Nat, (∀ (fm : Int) (t : Int)  (F1 A1 : gs_F), gs_I F1 A1 → gs_fr (fun c j => c = 106 ∧ (j = 1 ∨ j = 3)) (fun c => c = 108 ∨ c = 109) F A F1 A1 → 0 ≤ fm ∧ fm ≤ t → t ≤ 60 → F1 106 3 = F 106 3 ∧ F1 106 1 = F 106 1 → (∀ r : Nat, (r : Int) < F1 106 3 → 1 ≤ A1 108 r) → fm + t = F 106 1 → F 106 1 = 0 ∨ fm < t → t - fm + 1000 < (nN : Int) → sA m_X9_ring 1 (fun rv F' A' => ∃ z : Int, rv = some (gs_iv z) ∧ gs_I F' A' ∧ gs_fr (fun c j => c = 106 ∧ (j = 1 ∨ j = 3)) (fun c => c = 108 ∨ c = 109) F A F' A' ∧ (((F 106 1 = 0 ∧ z = -1003 ∧ F' 106 3 = F 106 3 ∧ F' 106 1 = F 106 1) ∨ (F 106 1 ≠ 0 ∧ F 106 3 = 12 ∧ z = -1004 ∧ F' 106 3 = F 106 3 ∧ F' 106 1 = F 106 1) ∨ (F 106 1 ≠ 0 ∧ F 106 3 < 12 ∧ z = F 106 3 ∧ F' 106 3 = F 106 3 + 1 ∧ F' 106 1 = 0)) ∧ (∀ r : Nat, (r : Int) < F' 106 3 → 1 ≤ A' 108 r))) 7 [(1, gs_iv fm), (2, gs_iv t), (0, .ref 106)] [] F1 A1) ∧ (∀ (fm : Int) (t : Int) (k : Int)  (F1 A1 : gs_F), gs_I F1 A1 → gs_fr (fun c j => c = 106 ∧ (j = 1 ∨ j = 3)) (fun c => c = 108 ∨ c = 109) F A F1 A1 → 0 ≤ fm ∧ fm ≤ k → k ≤ t ∧ t ≤ 60 → F1 106 3 = F 106 3 ∧ F 106 3 < 12 → (∀ r : Nat, (r : Int) ≤ F1 106 3 → 1 ≤ A1 108 r) → F 106 1 ≠ 0 → t - k < (nN : Int) → sA m_X9_ring 1 (fun rv F' A' => ∃ z : Int, rv = some (gs_iv z) ∧ gs_I F' A' ∧ gs_fr (fun c j => c = 106 ∧ (j = 1 ∨ j = 3)) (fun c => c = 108 ∨ c = 109) F A F' A' ∧ (((F 106 1 = 0 ∧ z = -1003 ∧ F' 106 3 = F 106 3 ∧ F' 106 1 = F 106 1) ∨ (F 106 1 ≠ 0 ∧ F 106 3 = 12 ∧ z = -1004 ∧ F' 106 3 = F 106 3 ∧ F' 106 1 = F 106 1) ∨ (F 106 1 ≠ 0 ∧ F 106 3 < 12 ∧ z = F 106 3 ∧ F' 106 3 = F 106 3 + 1 ∧ F' 106 1 = 0)) ∧ (∀ r : Nat, (r : Int) < F' 106 3 → 1 ≤ A' 108 r))) 80 [(3, gs_iv k), (1, gs_iv fm), (2, gs_iv t), (0, .ref 106)] [] F1 A1) := by
  intro nN
  induction nN with
  | zero =>
    exact ⟨fun a0 a1 a2 a3 a4 a5 i0 i1 i2 i3 i4 i5 hm => by exfalso; omega, fun a0 a1 a2 a3 a4 a5 a6 i0 i1 i2 i3 i4 hm => by exfalso; omega⟩
  | succ nN ih =>
    refine ⟨?_, ?_⟩
    · skip
      intro fm t F1 A1 hI1 hf1 i0 i1 i2 i3 i4 i5 hm
      have b1 : (0 : Int) ≤ F1 106 1 ∧ F1 106 1 ≤ 60 := hI1.1 106 1
      have b2 : (0 : Int) ≤ F1 106 3 ∧ F1 106 3 ≤ 12 := hI1.1 106 3
      refine sA_iload_n dd_X9_ring_7 rfl (.tail _ (.head _)) ?_
      refine sA_iload_n dd_X9_ring_8 rfl (.head _) ?_
      refine sA_isub dd_X9_ring_9 ?_
      refine sA_iconst (z := 1) dd_X9_ring_10 ?_
      refine sA_icmp_le (tgt := 42) dd_X9_ring_11 (by decide) (by omega) (by omega) (fun q3 => ?_) (fun q3 => ?_)
      · skip
        refine sA_iload_n dd_X9_ring_42 rfl (.tail _ (.head _)) ?_
        refine sA_iload_n dd_X9_ring_43 rfl (.head _) ?_
        refine sA_isub dd_X9_ring_44 ?_
        refine sA_iconst (z := 1) dd_X9_ring_45 ?_
        refine sA_icmp_ge (tgt := 53) dd_X9_ring_46 (by decide) (by omega) (by omega) (fun q4 => ?_) (fun q4 => ?_)
        · skip
          refine sA_aload_n dd_X9_ring_53 rfl (.tail _ (.tail _ (.head _))) ?_
          refine sA_geti (ci := 9) (j := 3) (q := (RX9, TX9, 28)) dd_X9_ring_54 rfl (by decide) fl_X9_70 (by decide) gs_s106 rfl ?_
          refine sA_bipush (z := 12) dd_X9_ring_57 (by decide) ?_
          refine sA_icmp_ne (tgt := 66) dd_X9_ring_59 (by decide) (by omega) (by omega) (fun q5 => ?_) (fun q5 => ?_)
          · skip
            refine sA_aload_n dd_X9_ring_66 rfl (.tail _ (.tail _ (.head _))) ?_
            refine sA_getr (ci := 9) (j := 4) (q := (RX9, TX9, 28)) dd_X9_ring_67 rfl (by decide) fl_X9_13 (by decide) gs_s106 rfl ?_
            refine sA_aload_n dd_X9_ring_70 rfl (.tail _ (.tail _ (.head _))) ?_
            refine sA_geti (ci := 9) (j := 3) (q := (RX9, TX9, 28)) dd_X9_ring_71 rfl (by decide) fl_X9_70 (by decide) gs_s106 rfl ?_
            refine sA_iload_n dd_X9_ring_74 rfl (.tail _ (.head _)) ?_
            refine sA_iload_n dd_X9_ring_75 rfl (.head _) ?_
            refine sA_isub dd_X9_ring_76 ?_
            refine sA_iast (n := 12) dd_X9_ring_77 (by decide) gs_s108 (by omega) (by decide) ?_
            have I7 : gs_I F1 (gs_up A1 108 ((F1 106 3).toNat) (t - fm)) := gs_I_ast hI1 (show (0 : Int) ≤ t - fm ∧ t - fm ≤ 60 by omega)
            have f8 := gs_fr_ast hf1 (a := 108) (z := t - fm) (i := (F1 106 3).toNat) (by first | omega | (dsimp only; omega) | (dsimp only))
            have v9 := gs_up_cs A1 108 ((F1 106 3).toNat) (t - fm)
            generalize gs_up A1 108 ((F1 106 3).toNat) (t - fm) = A6 at I7 f8 v9 ⊢
            refine sA_iload_n dd_X9_ring_78 rfl (.head _) ?_
            refine sA_istore_n (lv' := [(3, gs_iv fm), (1, gs_iv fm), (2, gs_iv t), (0, .ref 106)]) dd_X9_ring_79 rfl (by decide) rfl ?_
            refine sA_sub (lv2 := [(3, gs_iv fm), (1, gs_iv fm), (2, gs_iv t), (0, .ref 106)]) (List.forall_mem_cons.mpr ⟨(.head _), (List.forall_mem_cons.mpr ⟨(.tail _ (.head _)), (List.forall_mem_cons.mpr ⟨(.tail _ (.tail _ (.head _))), (List.forall_mem_cons.mpr ⟨(.tail _ (.tail _ (.tail _ (.head _)))), (fun _ h => absurd h List.not_mem_nil)⟩)⟩)⟩)⟩) ?_
            exact ih.2 fm t fm F1 A6 I7 f8 (by omega) (by omega) (by omega) (by intro r h; first | (rw [v9]; exact i3 r h) | (have q := v9 r; have q2 := i3 r; omega)) (by omega) (by omega)
          · skip
            refine sA_sipush (z := (-1004)) dd_X9_ring_62 (by decide) ?_
            refine sA_iret (z := -1004) dd_X9_ring_65 rfl ?_
            refine ⟨_, rfl, hI1, hf1, ?_⟩
            exact ⟨by omega, i3⟩
        · skip
          refine sA_sipush (z := (-1003)) dd_X9_ring_49 (by decide) ?_
          refine sA_iret (z := -1003) dd_X9_ring_52 rfl ?_
          refine ⟨_, rfl, hI1, hf1, ?_⟩
          exact ⟨by omega, i3⟩
      · skip
        refine sA_aload_n dd_X9_ring_14 rfl (.tail _ (.tail _ (.head _))) ?_
        refine sA_getr (ci := 9) (j := 2) (q := (RX9, TX9, 28)) dd_X9_ring_15 rfl (by decide) fl_X9_7 (by decide) gs_s106 rfl ?_
        refine sA_iload_n dd_X9_ring_18 rfl (.head _) ?_
        refine sA_iald (n := 60) dd_X9_ring_19 (by decide) gs_s107 (by omega) (by decide) ?_
        have b10 : (-9 : Int) ≤ A1 107 fm.toNat ∧ A1 107 fm.toNat ≤ 9 := hI1.2 107 fm.toNat
        refine sA_iconst (z := 0) dd_X9_ring_20 ?_
        refine sA_aload_n dd_X9_ring_21 rfl (.tail _ (.tail _ (.head _))) ?_
        refine sA_getr (ci := 9) (j := 2) (q := (RX9, TX9, 28)) dd_X9_ring_22 rfl (by decide) fl_X9_7 (by decide) gs_s106 rfl ?_
        refine sA_iload_n dd_X9_ring_25 rfl (.tail _ (.head _)) ?_
        refine sA_iconst (z := 1) dd_X9_ring_26 ?_
        refine sA_isub dd_X9_ring_27 ?_
        refine sA_iald (n := 60) dd_X9_ring_28 (by decide) gs_s107 (by omega) (by decide) ?_
        have b11 : (-9 : Int) ≤ A1 107 (t - 1).toNat ∧ A1 107 (t - 1).toNat ≤ 9 := hI1.2 107 (t - 1).toNat
        refine sA_isub dd_X9_ring_29 ?_
        refine sA_icmp_ne (tgt := 42) dd_X9_ring_30 (by decide) (by omega) (by omega) (fun q12 => ?_) (fun q12 => ?_)
        · skip
          refine sA_iload_n dd_X9_ring_42 rfl (.tail _ (.head _)) ?_
          refine sA_iload_n dd_X9_ring_43 rfl (.head _) ?_
          refine sA_isub dd_X9_ring_44 ?_
          refine sA_iconst (z := 1) dd_X9_ring_45 ?_
          refine sA_icmp_ge (tgt := 53) dd_X9_ring_46 (by decide) (by omega) (by omega) (fun q13 => ?_) (fun q13 => ?_)
          · skip
            refine sA_aload_n dd_X9_ring_53 rfl (.tail _ (.tail _ (.head _))) ?_
            refine sA_geti (ci := 9) (j := 3) (q := (RX9, TX9, 28)) dd_X9_ring_54 rfl (by decide) fl_X9_70 (by decide) gs_s106 rfl ?_
            refine sA_bipush (z := 12) dd_X9_ring_57 (by decide) ?_
            refine sA_icmp_ne (tgt := 66) dd_X9_ring_59 (by decide) (by omega) (by omega) (fun q14 => ?_) (fun q14 => ?_)
            · skip
              refine sA_aload_n dd_X9_ring_66 rfl (.tail _ (.tail _ (.head _))) ?_
              refine sA_getr (ci := 9) (j := 4) (q := (RX9, TX9, 28)) dd_X9_ring_67 rfl (by decide) fl_X9_13 (by decide) gs_s106 rfl ?_
              refine sA_aload_n dd_X9_ring_70 rfl (.tail _ (.tail _ (.head _))) ?_
              refine sA_geti (ci := 9) (j := 3) (q := (RX9, TX9, 28)) dd_X9_ring_71 rfl (by decide) fl_X9_70 (by decide) gs_s106 rfl ?_
              refine sA_iload_n dd_X9_ring_74 rfl (.tail _ (.head _)) ?_
              refine sA_iload_n dd_X9_ring_75 rfl (.head _) ?_
              refine sA_isub dd_X9_ring_76 ?_
              refine sA_iast (n := 12) dd_X9_ring_77 (by decide) gs_s108 (by omega) (by decide) ?_
              have I16 : gs_I F1 (gs_up A1 108 ((F1 106 3).toNat) (t - fm)) := gs_I_ast hI1 (show (0 : Int) ≤ t - fm ∧ t - fm ≤ 60 by omega)
              have f17 := gs_fr_ast hf1 (a := 108) (z := t - fm) (i := (F1 106 3).toNat) (by first | omega | (dsimp only; omega) | (dsimp only))
              have v18 := gs_up_cs A1 108 ((F1 106 3).toNat) (t - fm)
              generalize gs_up A1 108 ((F1 106 3).toNat) (t - fm) = A15 at I16 f17 v18 ⊢
              refine sA_iload_n dd_X9_ring_78 rfl (.head _) ?_
              refine sA_istore_n (lv' := [(3, gs_iv fm), (1, gs_iv fm), (2, gs_iv t), (0, .ref 106)]) dd_X9_ring_79 rfl (by decide) rfl ?_
              refine sA_sub (lv2 := [(3, gs_iv fm), (1, gs_iv fm), (2, gs_iv t), (0, .ref 106)]) (List.forall_mem_cons.mpr ⟨(.head _), (List.forall_mem_cons.mpr ⟨(.tail _ (.head _)), (List.forall_mem_cons.mpr ⟨(.tail _ (.tail _ (.head _))), (List.forall_mem_cons.mpr ⟨(.tail _ (.tail _ (.tail _ (.head _)))), (fun _ h => absurd h List.not_mem_nil)⟩)⟩)⟩)⟩) ?_
              exact ih.2 fm t fm F1 A15 I16 f17 (by omega) (by omega) (by omega) (by intro r h; first | (rw [v18]; exact i3 r h) | (have q := v18 r; have q2 := i3 r; omega)) (by omega) (by omega)
            · skip
              refine sA_sipush (z := (-1004)) dd_X9_ring_62 (by decide) ?_
              refine sA_iret (z := -1004) dd_X9_ring_65 rfl ?_
              refine ⟨_, rfl, hI1, hf1, ?_⟩
              exact ⟨by omega, i3⟩
          · skip
            refine sA_sipush (z := (-1003)) dd_X9_ring_49 (by decide) ?_
            refine sA_iret (z := -1003) dd_X9_ring_52 rfl ?_
            refine ⟨_, rfl, hI1, hf1, ?_⟩
            exact ⟨by omega, i3⟩
        · skip
          have h107 : A1 107 = A 107 := hf1.2 107 (by dsimp only; omega)
          have hcl : t - fm = 2 → A1 107 fm.toNat ≠ 0 - A1 107 (t - 1).toNat := fun h => by
            have e : (t - 1).toNat = fm.toNat + 1 := by omega
            rw [h107, e]
            have := hD.2 fm.toNat (by omega)
            omega
          refine sA_iinc (lv' := [(1, gs_iv (fm + 1)), (2, gs_iv t), (0, .ref 106)]) dd_X9_ring_33 (.head _) (by decide) rfl ?_
          refine sA_iinc (lv' := [(2, gs_iv (t + (-1))), (1, gs_iv (fm + 1)), (0, .ref 106)]) dd_X9_ring_36 (.tail _ (.head _)) (by decide) rfl ?_
          refine sA_goto (tgt := 7) dd_X9_ring_39 (by decide) ?_
          refine sA_sub (lv2 := [(1, gs_iv (fm + 1)), (2, gs_iv (t + (-1))), (0, .ref 106)]) (List.forall_mem_cons.mpr ⟨(.tail _ (.head _)), (List.forall_mem_cons.mpr ⟨(.head _), (List.forall_mem_cons.mpr ⟨(.tail _ (.tail _ (.head _))), (fun _ h => absurd h List.not_mem_nil)⟩)⟩)⟩) ?_
          exact ih.1 (fm + 1) (t + (-1)) F1 A1 hI1 hf1 (by omega) (by omega) (by omega) (by first | exact hX | exact i3) (by omega) (by omega) (by omega)
    · skip
      intro fm t k F1 A1 hI1 hf1 i0 i1 i2 i3 i4 hm
      have b19 : (0 : Int) ≤ F1 106 1 ∧ F1 106 1 ≤ 60 := hI1.1 106 1
      have b20 : (0 : Int) ≤ F1 106 3 ∧ F1 106 3 ≤ 12 := hI1.1 106 3
      refine sA_iload_n dd_X9_ring_80 rfl (.head _) ?_
      refine sA_iload_n dd_X9_ring_81 rfl (.tail _ (.tail _ (.head _))) ?_
      refine sA_icmp_ge (tgt := 113) dd_X9_ring_82 (by decide) (by omega) (by omega) (fun q21 => ?_) (fun q21 => ?_)
      · skip
        refine sA_aload_n dd_X9_ring_113 rfl (.tail _ (.tail _ (.tail _ (.head _)))) ?_
        refine sA_iconst (z := 0) dd_X9_ring_114 ?_
        refine sA_put (ci := 9) (j := 1) (q := (RX9, TX9, 28)) (ty := .int) dd_X9_ring_115 rfl (by decide) fl_X9_67 rfl (tyX9_ok 1 (by decide)) rfl rfl (by decide) gs_s106 rfl ?_
        have I23 : gs_I (gs_up F1 106 1 0) A1 := gs_I_put hI1 (show (0 : Int) ≤ 0 ∧ 0 ≤ 60 by omega)
        have f24 := gs_fr_put hf1 (a := 106) (z := 0) (j := 1) (by first | omega | (dsimp only; omega) | (dsimp only))
        have v25 : gs_up F1 106 1 0 106 1 = 0 := gs_up_self _ _ _ _
        have v26 : (gs_up F1 106 1 0) 106 3 = F1 106 3 := gs_up_ne _ _ (by omega)
        generalize gs_up F1 106 1 0 = F22 at I23 f24 v25 v26 ⊢
        refine sA_aload_n dd_X9_ring_118 rfl (.tail _ (.tail _ (.tail _ (.head _)))) ?_
        refine sA_dup dd_X9_ring_119 rfl ?_
        refine sA_geti (ci := 9) (j := 3) (q := (RX9, TX9, 28)) dd_X9_ring_120 rfl (by decide) fl_X9_70 (by decide) gs_s106 rfl ?_
        have b27 : (0 : Int) ≤ F22 106 3 ∧ F22 106 3 ≤ 12 := I23.1 106 3
        refine sA_iconst (z := 1) dd_X9_ring_123 ?_
        refine sA_iadd dd_X9_ring_124 ?_
        refine sA_put (ci := 9) (j := 3) (q := (RX9, TX9, 28)) (ty := .int) dd_X9_ring_125 rfl (by decide) fl_X9_70 rfl (tyX9_ok 3 (by decide)) rfl rfl (by decide) gs_s106 rfl ?_
        have I29 : gs_I (gs_up F22 106 3 ((F22 106 3) + 1)) A1 := gs_I_put I23 (show (0 : Int) ≤ (F22 106 3) + 1 ∧ (F22 106 3) + 1 ≤ 12 by omega)
        have f30 := gs_fr_put f24 (a := 106) (z := (F22 106 3) + 1) (j := 3) (by first | omega | (dsimp only; omega) | (dsimp only))
        have v31 : gs_up F22 106 3 ((F22 106 3) + 1) 106 3 = (F22 106 3) + 1 := gs_up_self _ _ _ _
        have v32 : (gs_up F22 106 3 ((F22 106 3) + 1)) 106 1 = F22 106 1 := gs_up_ne _ _ (by omega)
        generalize gs_up F22 106 3 ((F22 106 3) + 1) = F28 at I29 f30 v31 v32 ⊢
        refine sA_aload_n dd_X9_ring_128 rfl (.tail _ (.tail _ (.tail _ (.head _)))) ?_
        refine sA_geti (ci := 9) (j := 3) (q := (RX9, TX9, 28)) dd_X9_ring_129 rfl (by decide) fl_X9_70 (by decide) gs_s106 rfl ?_
        have b33 : (0 : Int) ≤ F28 106 3 ∧ F28 106 3 ≤ 12 := I29.1 106 3
        refine sA_iconst (z := 1) dd_X9_ring_132 ?_
        refine sA_isub dd_X9_ring_133 ?_
        refine sA_iret (z := (F28 106 3) - 1) dd_X9_ring_134 rfl ?_
        refine ⟨_, rfl, I29, f30, ?_⟩
        exact ⟨by omega, fun r h => i3 r (by omega)⟩
      · skip
        refine sA_aload_n dd_X9_ring_85 rfl (.tail _ (.tail _ (.tail _ (.head _)))) ?_
        refine sA_getr (ci := 9) (j := 5) (q := (RX9, TX9, 28)) dd_X9_ring_86 rfl (by decide) fl_X9_16 (by decide) gs_s106 rfl ?_
        refine sA_bipush (z := 60) dd_X9_ring_89 (by decide) ?_
        refine sA_aload_n dd_X9_ring_91 rfl (.tail _ (.tail _ (.tail _ (.head _)))) ?_
        refine sA_geti (ci := 9) (j := 3) (q := (RX9, TX9, 28)) dd_X9_ring_92 rfl (by decide) fl_X9_70 (by decide) gs_s106 rfl ?_
        refine sA_imul dd_X9_ring_95 ?_
        refine sA_iload_n dd_X9_ring_96 rfl (.head _) ?_
        refine sA_iadd dd_X9_ring_97 ?_
        refine sA_iload_n dd_X9_ring_98 rfl (.tail _ (.head _)) ?_
        refine sA_isub dd_X9_ring_99 ?_
        refine sA_aload_n dd_X9_ring_100 rfl (.tail _ (.tail _ (.tail _ (.head _)))) ?_
        refine sA_getr (ci := 9) (j := 2) (q := (RX9, TX9, 28)) dd_X9_ring_101 rfl (by decide) fl_X9_7 (by decide) gs_s106 rfl ?_
        refine sA_iload_n dd_X9_ring_104 rfl (.head _) ?_
        refine sA_iald (n := 60) dd_X9_ring_105 (by decide) gs_s107 (by omega) (by decide) ?_
        have b34 : (-9 : Int) ≤ A1 107 k.toNat ∧ A1 107 k.toNat ≤ 9 := hI1.2 107 k.toNat
        refine sA_iast (n := 720) dd_X9_ring_106 (by decide) gs_s109 (by omega) (by decide) ?_
        have I36 : gs_I F1 (gs_up A1 109 ((((60 * (F1 106 3)) + k) - fm).toNat) (A1 107 k.toNat)) := gs_I_ast hI1 (show (-9 : Int) ≤ A1 107 k.toNat ∧ A1 107 k.toNat ≤ 9 by omega)
        have f37 := gs_fr_ast hf1 (a := 109) (z := A1 107 k.toNat) (i := (((60 * (F1 106 3)) + k) - fm).toNat) (by first | omega | (dsimp only; omega) | (dsimp only))
        have v38 : (gs_up A1 109 ((((60 * (F1 106 3)) + k) - fm).toNat) (A1 107 k.toNat)) 108 = A1 108 := gs_up_row _ _ (by decide)
        generalize gs_up A1 109 ((((60 * (F1 106 3)) + k) - fm).toNat) (A1 107 k.toNat) = A35 at I36 f37 v38 ⊢
        refine sA_iinc (lv' := [(3, gs_iv (k + 1)), (1, gs_iv fm), (2, gs_iv t), (0, .ref 106)]) dd_X9_ring_107 (.head _) (by decide) rfl ?_
        refine sA_goto (tgt := 80) dd_X9_ring_110 (by decide) ?_
        refine sA_sub (lv2 := [(3, gs_iv (k + 1)), (1, gs_iv fm), (2, gs_iv t), (0, .ref 106)]) (List.forall_mem_cons.mpr ⟨(.head _), (List.forall_mem_cons.mpr ⟨(.tail _ (.head _)), (List.forall_mem_cons.mpr ⟨(.tail _ (.tail _ (.head _))), (List.forall_mem_cons.mpr ⟨(.tail _ (.tail _ (.tail _ (.head _)))), (fun _ h => absurd h List.not_mem_nil)⟩)⟩)⟩)⟩) ?_
        exact ih.2 fm t (k + 1) F1 A35 I36 f37 (by omega) (by omega) (by omega) (by intro r h; first | (rw [v38]; exact i3 r h) | (have q := v38 r; have q2 := i3 r; omega)) (by omega) (by omega)
theorem c_X9_ring_vf  {F A : gs_F} (hI : gs_I F A) (hX : ∀ r : Nat, (r : Int) < F 106 3 → 1 ≤ A 108 r) (hD : gs_D1 (F 106 1).toNat (A 107)) : sC m_X9_ring 1 [.ref 106] F A (fun rv F' A' => ∃ z : Int, rv = some (gs_iv z) ∧ gs_I F' A' ∧ gs_fr (fun c j => c = 106 ∧ (j = 1 ∨ j = 3)) (fun c => c = 108 ∨ c = 109) F A F' A' ∧ (((F 106 1 = 0 ∧ z = -1003 ∧ F' 106 3 = F 106 3 ∧ F' 106 1 = F 106 1) ∨ (F 106 1 ≠ 0 ∧ F 106 3 = 12 ∧ z = -1004 ∧ F' 106 3 = F 106 3 ∧ F' 106 1 = F 106 1) ∨ (F 106 1 ≠ 0 ∧ F 106 3 < 12 ∧ z = F 106 3 ∧ F' 106 3 = F 106 3 + 1 ∧ F' 106 1 = 0)) ∧ (∀ r : Nat, (r : Int) < F' 106 3 → 1 ≤ A' 108 r))) := by
  refine sC_of ok_X9_ring.1 (Nat.le_of_ble_eq_true rfl) ?_
  show sA _ _ _ 0 [(0, .ref 106)] [] F A
  have hf : gs_fr (fun c j => c = 106 ∧ (j = 1 ∨ j = 3)) (fun c => c = 108 ∨ c = 109) F A F A := gs_fr_refl _ _ _ _
  have b39 : (0 : Int) ≤ F 106 1 ∧ F 106 1 ≤ 60 := hI.1 106 1
  have b40 : (0 : Int) ≤ F 106 3 ∧ F 106 3 ≤ 12 := hI.1 106 3
  refine sA_iconst (z := 0) dd_X9_ring_0 ?_
  refine sA_istore_n (lv' := [(1, gs_iv 0), (0, .ref 106)]) dd_X9_ring_1 rfl (by decide) rfl ?_
  refine sA_aload_n dd_X9_ring_2 rfl (.tail _ (.head _)) ?_
  refine sA_geti (ci := 9) (j := 1) (q := (RX9, TX9, 28)) dd_X9_ring_3 rfl (by decide) fl_X9_67 (by decide) gs_s106 rfl ?_
  refine sA_istore_n (lv' := [(2, gs_iv (F 106 1)), (1, gs_iv 0), (0, .ref 106)]) dd_X9_ring_6 rfl (by decide) rfl ?_
  refine sA_sub (lv2 := [(1, gs_iv 0), (2, gs_iv (F 106 1)), (0, .ref 106)]) (List.forall_mem_cons.mpr ⟨(.tail _ (.head _)), (List.forall_mem_cons.mpr ⟨(.head _), (List.forall_mem_cons.mpr ⟨(.tail _ (.tail _ (.head _))), (fun _ h => absurd h List.not_mem_nil)⟩)⟩)⟩) ?_
  exact (k_X9_ring_vf hI hX hD ((F 106 1) - 0 + 1000 : Int).toNat.succ).1 0 (F 106 1) F A hI hf (by omega) (by omega) (by omega) (by first | exact hX | exact i3) (by omega) (by omega) (by omega)
/-! ===== the two objects side by side: handles, rings' number, twists, draft, text's size ===== -/
def gs_R1 (F A : gs_F) : Prop := F 0 11 = F 106 0 ∧ F 0 12 = F 106 3 ∧ F 5 0 = 3 * F 0 11 - 1 ∧ F 3 1 = F 106 1 ∧ F 43 0 = F 106 17 ∧ (∀ i : Nat, i < (F 3 1).toNat → A 4 i = A 107 i) ∧ gs_D1 (F 106 1).toNat (A 107)
theorem gs_R1_mk {F A F2 A2 : gs_F} (h : gs_R1 F A) (e1 : F2 0 11 = F2 106 0) (e2 : F2 0 12 = F2 106 3) (e3 : F2 5 0 = 3 * F2 0 11 - 1) (e4 : F2 3 1 = F2 106 1) (e5 : F2 43 0 = F2 106 17) (e6 : A2 4 = A 4) (e7 : A2 107 = A 107) (e8 : F2 3 1 = F 3 1 ∨ F2 3 1 = 0) : gs_R1 F2 A2 := by
  obtain ⟨h1, h2, h3, h4, h5, h6, h7⟩ := h
  refine ⟨e1, e2, e3, e4, e5, fun i hi => ?_, ?_⟩
  · rw [e6, e7]
    exact h6 i (by omega)
  · rw [e7]
    exact ⟨fun i hi => h7.1 i (by omega), fun i hi => h7.2 i (by omega)⟩
theorem gs_R1_let {F A F1 A1 F2 A2 : gs_F} {x v1 v2 : Int} (h : gs_R1 F A) (h0 : 0 ≤ F 106 1) (p1 : gs_let (F 0 11) (F 3 1) (A 4) x v1 (F1 3 1) (A1 4)) (p2 : gs_let (F1 106 0) (F1 106 1) (A1 107) x v2 (F2 106 1) (A2 107))
    (c1 : F1 106 0 = F 106 0) (c2 : F1 106 1 = F 106 1) (c3 : A1 107 = A 107) (c4 : A2 4 = A1 4) (c5 : F2 3 1 = F1 3 1) (e1 : F2 0 11 = F2 106 0) (e2 : F2 0 12 = F2 106 3) (e3 : F2 5 0 = 3 * F2 0 11 - 1) (e5 : F2 43 0 = F2 106 17) : v2 = v1 ∧ gs_R1 F2 A2 := by
  obtain ⟨h1, h2, h3, h4, h5, h6, h7⟩ := h
  rw [c1, c2, c3, ← h1, ← h4] at p2
  rw [← h4] at h7
  obtain ⟨k1, k2, k3, k4⟩ := gs_let_det (by omega) h6 h7 p1 p2
  refine ⟨k1, e1, e2, e3, by omega, e5, fun i hi => ?_, k4⟩
  rw [c4]
  exact k3 i (by omega)
end
