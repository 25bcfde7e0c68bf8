noncomputable section
/-! ===== meetings of carried rings ===== -/
theorem sp_pl_red {tw : Int → List Int → List Int} {c : Nat → Int} (ht : ∀ u r, sp_red (tw u r)) : ∀ (n : Nat) (r s : List Int), sp_red r → sp_pl tw c n r = some s → sp_red s
  | 0, r, s, h, e => by
    have e : some r = some s := e
    injection e with e
    rw [← e]
    exact h
  | n + 1, r, s, h, e => by
    have e : (if 400 < (tw (c n) r).length then none else sp_pl tw c n (tw (c n) r)) = some s := e
    split at e
    · cases e
    · exact sp_pl_red ht n _ s (ht _ _) e
theorem gs_stk_red {f : Nat → Int} : ∀ n : Nat, gs_cl (n : Int) f → sp_red (gs_stk f n)
  | 0, _ => trivial
  | 1, _ => trivial
  | n + 2, h => by
    show f (n + 1) ≠ -(f n) ∧ sp_red (gs_stk f (n + 1))
    exact ⟨fun w => h n (by omega) (by omega), gs_stk_red (n + 1) (fun i hi => h i (by omega))⟩
theorem gs_red_stk {f : Nat → Int} : ∀ n : Nat, sp_red (gs_stk f n) → gs_cl (n : Int) f
  | 0, _ => fun i hi => by omega
  | 1, _ => fun i hi => by omega
  | n + 2, h => fun i hi => by
    have h : f (n + 1) ≠ -(f n) ∧ sp_red (gs_stk f (n + 1)) := h
    by_cases q : i = n
    · rw [q]
      exact fun w => h.1 (by omega)
    · exact gs_red_stk (n + 1) h.2 i (by omega)
theorem gs_cls_vl {g n : Int} {f : Nat → Int} {s : List Int} (a : gs_cls s f n) (v : sp_val g s) : gs_vl g n f := by
  obtain ⟨h, m, k, a1, a2, a3, a4, a5⟩ := a
  intro i hi
  have k0 := a3.1
  have w := a5 i (by omega) hi
  rw [Int.toNat_natCast] at w
  rw [w]
  apply v
  rw [a2]
  exact gs_stk_mem _ _ (by omega)
theorem gs_cls_cl {n : Int} {f : Nat → Int} {s : List Int} (a : gs_cls s f n) (v : sp_red s) : gs_cl n f := by
  obtain ⟨h, m, k, a1, a2, a3, a4, a5⟩ := a
  have k0 := a3.1
  rw [a2] at v
  have c := gs_red_stk m.toNat v
  intro i hi
  have w1 := a5 i (by omega) (by omega)
  have w2 := a5 ((i : Int) + 1) (by omega) (by omega)
  rw [Int.toNat_natCast] at w1
  rw [show ((i : Int) + 1).toNat = i + 1 by omega] at w2
  have w3 := c (k + i).toNat (by omega)
  rw [show (k + (i : Int)).toNat + 1 = (k + ((i : Int) + 1)).toNat by omega] at w3
  rw [w1, w2]
  exact w3
theorem gs_plm_w {F A : gs_F} {p : Int} (r : List Int) : gs_plm F A p r = sp_pl (fun u => sp_tw (sp_w (F 106 0) u)) (fun i => A 111 (60 * p.toNat + i)) (A 110 p.toNat).toNat r := sp_pl_cg _ _ (fun _ _ => rfl) (fun _ _ r => (sp_tw_wm _ _ r).symm)
theorem gs_plm_val {F A : gs_F} {p : Int} {r s : List Int} (hg : 1 ≤ F 106 0 ∧ F 106 0 ≤ 3) (hp : 0 ≤ p) (hcd : ∀ i : Int, 0 ≤ i → i < A 110 p.toNat → 0 ≤ A 111 (60 * p + i).toNat ∧ A 111 (60 * p + i).toNat < 6 * F 106 0 - 2) (hv : sp_val (F 106 0) r) (e : gs_plm F A p r = some s) : sp_val (F 106 0) s := by
  rw [gs_plm_w] at e
  refine sp_pl_val hg _ _ _ (fun i hi => ?_) hv e
  have w := hcd i (by omega) (by omega)
  rw [show (60 * p + (i : Int)).toNat = 60 * p.toNat + i by omega] at w
  exact w
theorem gs_plm_red {F A : gs_F} {p : Int} {r s : List Int} (hr : sp_red r) (e : gs_plm F A p r = some s) : sp_red s := sp_pl_red (fun u r => sp_tw_red _ r) _ _ _ hr e
theorem gs_codeM {F A F1 A1 : gs_F} {p : Int} (hp : gs_Rp F A) (e1 : A1 110 = A 110) (e2 : A1 111 = A 111) (e0 : F1 106 0 = F 106 0) : 0 ≤ p → p ≤ 7 → ∀ i : Int, 0 ≤ i → i < A1 110 p.toNat → 0 ≤ A1 111 (60 * p + i).toNat ∧ A1 111 (60 * p + i).toNat < 6 * F1 106 0 - 2 := by
  intro h1 h2 i h3 h4
  rw [e1] at h4
  rw [e2, e0]
  have w := (hp p.toNat (by omega)).2 i h3 h4
  rw [show ((p.toNat : Nat) : Int) = p by omega] at w
  exact w.2
theorem c_X8_meetsThen_vf {p r s : Int} {F A : gs_F} (hI : gs_I F A) (hp : -2147483648 ≤ p ∧ p ≤ 2147483647) (hr : -2147483648 ≤ r ∧ r ≤ 2147483647) (hs : -2147483648 ≤ s ∧ s ≤ 2147483647) (hW : gs_W (A 6) (F 0 11)) (hcd : 0 ≤ p → p ≤ 7 → ∀ i : Int, 0 ≤ i → i < F (90 + 2 * p.toNat) 1 → 0 ≤ A (90 + 2 * p.toNat + 1) i.toNat ∧ A (90 + 2 * p.toNat + 1) i.toNat < 6 * F 0 11 - 2) (hV : 0 ≤ r → r < F 0 12 → sp_val (F 0 11) (gs_stk (A (54 + 3 * r.toNat + 1 + 1)) (F (54 + 3 * r.toNat + 1) 1).toNat)) (hVc : ∀ r : Nat, (r : Int) < F 0 12 → gs_vl 3 (F (54 + 3 * r + 1) 1) (A (54 + 3 * r + 1 + 1))) : sC m_X8_meetsThen 6 [.ref 0, gs_iv p, gs_iv r, gs_iv s] F A (fun rv F' A' => ∃ z : Int, rv = some (gs_iv z) ∧ gs_I F' A' ∧ gs_fr (fun c j => (c = 48 ∨ c = 13) ∧ j = 1) (fun c => c = 49 ∨ c = 7 ∨ c = 14) F A F' A' ∧ (((p < 0 ∨ 7 < p ∨ r < 0 ∨ F 0 12 ≤ r ∨ s < 0 ∨ F 0 12 ≤ s) ∧ z = -1001) ∨ (0 ≤ p ∧ p ≤ 7 ∧ 0 ≤ r ∧ r < F 0 12 ∧ 0 ≤ s ∧ s < F 0 12 ∧ (((F (54 + 3 * r.toNat) 1 ≠ 0 ∨ F (54 + 3 * s.toNat) 1 ≠ 0) ∧ z = -1003) ∨ (F (54 + 3 * r.toNat) 1 = 0 ∧ F (54 + 3 * s.toNat) 1 = 0 ∧ ((gs_plc F A (F 0 11) (90 + 2 * p.toNat) (gs_stk (A (54 + 3 * r.toNat + 1 + 1)) (F (54 + 3 * r.toNat + 1) 1).toNat) = none ∧ z = -1005) ∨ ∃ (st : List Int) (fu : Nat → Int) (nu : Int), gs_plc F A (F 0 11) (90 + 2 * p.toNat) (gs_stk (A (54 + 3 * r.toNat + 1 + 1)) (F (54 + 3 * r.toNat + 1) 1).toNat) = some st ∧ gs_cls st fu nu ∧ z = mt_sm 12 fu nu (A (54 + 3 * s.toNat + 1 + 1)) (F (54 + 3 * s.toNat + 1) 1))))))) := by
  refine sC_of ok_X8_meetsThen.1 (Nat.le_of_ble_eq_true rfl) ?_
  show sA _ _ _ 0 [(0, .ref 0), (1, gs_iv p), (2, gs_iv r), (3, gs_iv s)] [] F A
  have hf : gs_fr (fun c j => (c = 48 ∨ c = 13) ∧ j = 1) (fun c => c = 49 ∨ c = 7 ∨ c = 14) F A F A := gs_fr_refl _ _ _ _
  refine sA_iload_n dd_X8_meetsThen_0 rfl (.tail _ (.head _)) ?_
  refine sA_callS (y2 := m_X8_isPlan) (n2 := 1) (d2 := 1) (as := [gs_iv p]) (rest := []) dd_X8_meetsThen_1 ok_X8_isPlan ml_X8_148 rfl rfl (Nat.le_of_ble_eq_true rfl) (by decide) (c_X8_isPlan (by omega)) (fun r1 F2 A3 h4 => ?_)
  obtain ⟨z7, e6, e8, e9, x5⟩ := h4
  subst e6 e8 e9
  show sA _ _ _ 4 _ [gs_iv z7] _ _
  refine sA_if_eq (tgt := 23) dd_X8_meetsThen_4 (by decide) (by omega) (fun q10 => ?_) (fun q10 => ?_)
  · skip
    refine sA_sipush (z := (-1001)) dd_X8_meetsThen_23 (by decide) ?_
    refine sA_iret (z := -1001) dd_X8_meetsThen_26 rfl ?_
    refine ⟨_, rfl, hI, hf, ?_⟩
    exact .inl ⟨by omega, rfl⟩
  · skip
    refine sA_aload_n dd_X8_meetsThen_7 rfl (.head _) ?_
    refine sA_iload_n dd_X8_meetsThen_8 rfl (.tail _ (.tail _ (.head _))) ?_
    refine sA_callV (y2 := m_X8_isRing) (n2 := 1) (d2 := 1) (a := 0) (ci := 8) (q := (RX8, TX8, 13)) (as := [gs_iv r]) (rest := []) dd_X8_meetsThen_9 ok_X8_isRing ml_X8_101 rfl rfl (by decide) gs_s0 rfl rfl (Nat.le_of_ble_eq_true rfl) (by decide) (c_X8_isRing hI (by omega)) (fun r11 F12 A13 h14 => ?_)
    obtain ⟨z17, e16, e18, e19, x15⟩ := h14
    subst e16 e18 e19
    show sA _ _ _ 12 _ [gs_iv z17] _ _
    refine sA_if_eq (tgt := 23) dd_X8_meetsThen_12 (by decide) (by omega) (fun q20 => ?_) (fun q20 => ?_)
    · skip
      refine sA_sipush (z := (-1001)) dd_X8_meetsThen_23 (by decide) ?_
      refine sA_iret (z := -1001) dd_X8_meetsThen_26 rfl ?_
      refine ⟨_, rfl, hI, hf, ?_⟩
      exact .inl ⟨by omega, rfl⟩
    · skip
      refine sA_aload_n dd_X8_meetsThen_15 rfl (.head _) ?_
      refine sA_iload_n dd_X8_meetsThen_16 rfl (.tail _ (.tail _ (.tail _ (.head _)))) ?_
      refine sA_callV (y2 := m_X8_isRing) (n2 := 1) (d2 := 1) (a := 0) (ci := 8) (q := (RX8, TX8, 13)) (as := [gs_iv s]) (rest := []) dd_X8_meetsThen_17 ok_X8_isRing ml_X8_101 rfl rfl (by decide) gs_s0 rfl rfl (Nat.le_of_ble_eq_true rfl) (by decide) (c_X8_isRing hI (by omega)) (fun r21 F22 A23 h24 => ?_)
      obtain ⟨z27, e26, e28, e29, x25⟩ := h24
      subst e26 e28 e29
      show sA _ _ _ 20 _ [gs_iv z27] _ _
      refine sA_if_ne (tgt := 27) dd_X8_meetsThen_20 (by decide) (by omega) (fun q30 => ?_) (fun q30 => ?_)
      · skip
        refine sA_aload_n dd_X8_meetsThen_27 rfl (.head _) ?_
        refine sA_getr (ci := 8) (j := 0) (q := (RX8, TX8, 13)) dd_X8_meetsThen_28 rfl (by decide) fl_X8_11 (by decide) gs_s0 rfl ?_
        refine sA_iload_n dd_X8_meetsThen_31 rfl (.tail _ (.tail _ (.head _))) ?_
        refine sA_aald (n := 12) dd_X8_meetsThen_32 (by decide) (by decide) (by decide) gs_s1 (by omega) (by decide) ?_
        have g31 := gs_ring_at (k := r.toNat) (by omega)
        refine sA_geti (ci := 3) (j := 1) (q := (RX3, TX3, 3)) dd_X8_meetsThen_33 rfl (by decide) fl_X8_108 (Nat.lt_of_succ_lt g31.1) g31.2.1 rfl ?_
        have b32 := gs_ring_f1 g31 hI
        refine sA_if_ne (tgt := 51) dd_X8_meetsThen_36 (by decide) (by omega) (fun q33 => ?_) (fun q33 => ?_)
        · skip
          refine sA_sipush (z := (-1003)) dd_X8_meetsThen_51 (by decide) ?_
          refine sA_iret (z := -1003) dd_X8_meetsThen_54 rfl ?_
          refine ⟨_, rfl, hI, hf, ?_⟩
          exact .inr ⟨by omega, by omega, by omega, by omega, by omega, by omega, .inl ⟨by omega, rfl⟩⟩
        · skip
          refine sA_aload_n dd_X8_meetsThen_39 rfl (.head _) ?_
          refine sA_getr (ci := 8) (j := 0) (q := (RX8, TX8, 13)) dd_X8_meetsThen_40 rfl (by decide) fl_X8_11 (by decide) gs_s0 rfl ?_
          refine sA_iload_n dd_X8_meetsThen_43 rfl (.tail _ (.tail _ (.tail _ (.head _)))) ?_
          refine sA_aald (n := 12) dd_X8_meetsThen_44 (by decide) (by decide) (by decide) gs_s1 (by omega) (by decide) ?_
          have g34 := gs_ring_at (k := s.toNat) (by omega)
          refine sA_geti (ci := 3) (j := 1) (q := (RX3, TX3, 3)) dd_X8_meetsThen_45 rfl (by decide) fl_X8_108 (Nat.lt_of_succ_lt g34.1) g34.2.1 rfl ?_
          have b35 := gs_ring_f1 g34 hI
          refine sA_if_eq (tgt := 55) dd_X8_meetsThen_48 (by decide) (by omega) (fun q36 => ?_) (fun q36 => ?_)
          · skip
            have hcd0 := hcd (by omega) (by omega)
            have hV0 := hV (by omega) (by omega)
            have hg : (1 : Int) ≤ F 0 11 ∧ F 0 11 ≤ 3 := hI.1 0 11
            refine sA_aload_n dd_X8_meetsThen_55 rfl (.head _) ?_
            refine sA_iload_n dd_X8_meetsThen_56 rfl (.tail _ (.head _)) ?_
            refine sA_iload_n dd_X8_meetsThen_57 rfl (.tail _ (.tail _ (.head _))) ?_
            refine sA_callV (y2 := m_X8_carryToWork) (n2 := 2) (d2 := 4) (a := 0) (ci := 8) (q := (RX8, TX8, 13)) (as := [gs_iv p, gs_iv r]) (rest := []) dd_X8_meetsThen_58 ok_X8_carryToWork ml_X8_185 rfl rfl (by decide) gs_s0 rfl rfl (Nat.le_of_ble_eq_true rfl) (by decide) (c_X8_carryToWork_vf hI (by omega) (by omega) hW hcd0 hV0) (fun r37 F38 A39 h40 => ?_)
            obtain ⟨z43, e42, I44, f45, x41⟩ := h40
            subst e42
            have f46 := gs_fr_tr hf f45 (fun b j h => by first | exact False.elim h | omega | (dsimp only at h ⊢; omega) | fail) (fun b h => by first | exact False.elim h | omega | (dsimp only at h ⊢; omega) | fail)
            have y47 : (z43 = 0 ∧ gs_plc F A (F 0 11) (90 + 2 * p.toNat) (gs_stk (A (54 + 3 * r.toNat + 1 + 1)) (F (54 + 3 * r.toNat + 1) 1).toNat) = none) ∨ (z43 = 1 ∧ ∃ st : List Int, gs_plc F A (F 0 11) (90 + 2 * p.toNat) (gs_stk (A (54 + 3 * r.toNat + 1 + 1)) (F (54 + 3 * r.toNat + 1) 1).toNat) = some st ∧ gs_cls st (A39 49) (F38 48 1)) := x41
            clear x41
            show sA _ _ _ 61 _ [gs_iv z43] _ _
            refine sA_if_ne (tgt := 68) dd_X8_meetsThen_61 (by decide) (by omega) (fun q48 => ?_) (fun q48 => ?_)
            · skip
              have hct : ∃ st : List Int, gs_plc F A (F 0 11) (90 + 2 * p.toNat) (gs_stk (A (54 + 3 * r.toNat + 1 + 1)) (F (54 + 3 * r.toNat + 1) 1).toNat) = some st ∧ gs_cls st (A39 49) (F38 48 1) := by
                rcases y47 with y | y
                · exfalso
                  omega
                · exact y.2
              obtain ⟨st, c1, c2⟩ := hct
              have hVu := mt_vl3 hg.2 (gs_cls_vl c2 (gs_plc_val hg hcd0 hV0 c1))
              have es1 : F38 (54 + 3 * s.toNat + 1) 1 = F (54 + 3 * s.toNat + 1) 1 := f46.1 _ _ (by dsimp only; omega)
              have es2 : A39 (54 + 3 * s.toNat + 1 + 1) = A (54 + 3 * s.toNat + 1 + 1) := f46.2 _ (by dsimp only; omega)
              have hVv : gs_vl 3 (F38 (54 + 3 * s.toNat + 1) 1) (A39 (54 + 3 * s.toNat + 1 + 1)) := by rw [es1, es2]; exact hVc s.toNat (by omega)
              refine sA_aload_n dd_X8_meetsThen_68 rfl (.head _) ?_
              refine sA_getr (ci := 8) (j := 4) (q := (RX8, TX8, 13)) dd_X8_meetsThen_69 rfl (by decide) fl_X8_40 (by decide) gs_s0 rfl ?_
              refine sA_aload_n dd_X8_meetsThen_72 rfl (.head _) ?_
              refine sA_getr (ci := 8) (j := 8) (q := (RX8, TX8, 13)) dd_X8_meetsThen_73 rfl (by decide) fl_X8_69 (by decide) gs_s0 rfl ?_
              refine sA_aload_n dd_X8_meetsThen_76 rfl (.head _) ?_
              refine sA_getr (ci := 8) (j := 0) (q := (RX8, TX8, 13)) dd_X8_meetsThen_77 rfl (by decide) fl_X8_11 (by decide) gs_s0 rfl ?_
              refine sA_iload_n dd_X8_meetsThen_80 rfl (.tail _ (.tail _ (.tail _ (.head _)))) ?_
              refine sA_aald (n := 12) dd_X8_meetsThen_81 (by decide) (by decide) (by decide) gs_s1 (by omega) (by decide) ?_
              have g49 := gs_ring_at (k := s.toNat) (by omega)
              refine sA_getr (ci := 3) (j := 0) (q := (RX3, TX3, 3)) dd_X8_meetsThen_82 rfl (by decide) fl_X8_105 (Nat.lt_of_succ_lt g49.1) g49.2.1 rfl ?_
              refine sA_callV (y2 := m_X1_between) (n2 := 2) (d2 := 5) (a := 12) (ci := 1) (q := (RX1, TX1, 1)) (as := [.ref 48, .ref (54 + 3 * s.toNat + 1)]) (rest := []) dd_X8_meetsThen_85 ok_X1_between ml_X8_127 rfl rfl (by decide) gs_s12 rfl rfl (Nat.le_of_ble_eq_true rfl) (by decide) (c_X1_between_vf I44 gs_row_48 g49.2.2.1 (by omega) (by omega) hVu hVv) (fun r50 F51 A52 h53 => ?_)
              obtain ⟨z56, e55, I57, f58, x54⟩ := h53
              subst e55
              have f59 := gs_fr_tr f46 f58 (fun b j h => by first | exact False.elim h | omega | (dsimp only at h ⊢; omega) | fail) (fun b h => by first | exact False.elim h | omega | (dsimp only at h ⊢; omega) | fail)
              have y60 : (0 ≤ z56 ∧ z56 ≤ 400000) ∧ z56 = mt_sm 12 (A39 49) (F38 48 1) (A39 ((54 + 3 * s.toNat + 1) + 1)) (F38 (54 + 3 * s.toNat + 1) 1) := x54
              clear x54
              show sA _ _ _ 88 _ [gs_iv z56] _ _
              refine sA_iret (z := z56) dd_X8_meetsThen_88 rfl ?_
              refine ⟨_, rfl, I57, f59, ?_⟩
              have y := y60.2
              rw [es1, es2] at y
              exact .inr ⟨by omega, by omega, by omega, by omega, by omega, by omega, .inr ⟨by omega, by omega, .inr ⟨st, _, _, c1, c2, y⟩⟩⟩
            · skip
              refine sA_sipush (z := (-1005)) dd_X8_meetsThen_64 (by decide) ?_
              refine sA_iret (z := -1005) dd_X8_meetsThen_67 rfl ?_
              refine ⟨_, rfl, I44, f46, ?_⟩
              rcases y47 with y | y
              · exact .inr ⟨by omega, by omega, by omega, by omega, by omega, by omega, .inr ⟨by omega, by omega, .inl ⟨y.2, rfl⟩⟩⟩
              · exfalso
                omega
          · skip
            refine sA_sipush (z := (-1003)) dd_X8_meetsThen_51 (by decide) ?_
            refine sA_iret (z := -1003) dd_X8_meetsThen_54 rfl ?_
            refine ⟨_, rfl, hI, hf, ?_⟩
            exact .inr ⟨by omega, by omega, by omega, by omega, by omega, by omega, .inl ⟨by omega, rfl⟩⟩
      · skip
        refine sA_sipush (z := (-1001)) dd_X8_meetsThen_23 (by decide) ?_
        refine sA_iret (z := -1001) dd_X8_meetsThen_26 rfl ?_
        refine ⟨_, rfl, hI, hf, ?_⟩
        exact .inl ⟨by omega, rfl⟩
theorem c_X9_meetsThen_vf {p r s : Int} {F A : gs_F} (hI : gs_I F A) (hp : -2147483648 ≤ p ∧ p ≤ 2147483647) (hr : -2147483648 ≤ r ∧ r ≤ 2147483647) (hs : -2147483648 ≤ s ∧ s ≤ 2147483647) (hX : ∀ r : Nat, (r : Int) < F 106 3 → 1 ≤ A 108 r) (hcd : 0 ≤ p → p ≤ 7 → ∀ i : Int, 0 ≤ i → i < A 110 p.toNat → 0 ≤ A 111 (60 * p + i).toNat ∧ A 111 (60 * p + i).toNat ≤ 15) (hcdm : 0 ≤ p → p ≤ 7 → ∀ i : Int, 0 ≤ i → i < A 110 p.toNat → 0 ≤ A 111 (60 * p + i).toNat ∧ A 111 (60 * p + i).toNat < 6 * F 106 0 - 2) (hVg : ∀ r : Nat, (r : Int) < F 106 3 → gs_vl (F 106 0) (A 108 r) (fun i => A 109 (60 * r + i))) : sC m_X9_meetsThen 7 [.ref 106, gs_iv p, gs_iv r, gs_iv s] F A (fun rv F' A' => ∃ z : Int, rv = some (gs_iv z) ∧ gs_I F' A' ∧ gs_fr (fun c j => c = 106 ∧ (j = 9 ∨ j = 11 ∨ j = 13 ∨ j = 15)) (fun c => c = 112 ∨ c = 113 ∨ c = 114 ∨ c = 115) F A F' A' ∧ (((p < 0 ∨ 7 < p ∨ r < 0 ∨ F 106 3 ≤ r ∨ s < 0 ∨ F 106 3 ≤ s) ∧ z = -1001) ∨ (0 ≤ p ∧ p ≤ 7 ∧ 0 ≤ r ∧ r < F 106 3 ∧ 0 ≤ s ∧ s < F 106 3 ∧ (((gs_pow (fun i => A 109 (60 * r.toNat + i)) (A 108 r.toNat) ∨ gs_pow (fun i => A 109 (60 * s.toNat + i)) (A 108 s.toNat)) ∧ z = -1003) ∨ (¬ gs_pow (fun i => A 109 (60 * r.toNat + i)) (A 108 r.toNat) ∧ ¬ gs_pow (fun i => A 109 (60 * s.toNat + i)) (A 108 s.toNat) ∧ ((gs_plm F A p (gs_stk (fun i => A 109 (60 * r.toNat + i)) (A 108 r.toNat).toNat) = none ∧ z = -1005) ∨ ∃ (st : List Int) (fu : Nat → Int) (nu : Int), gs_plm F A p (gs_stk (fun i => A 109 (60 * r.toNat + i)) (A 108 r.toNat).toNat) = some st ∧ gs_cls st fu nu ∧ z = mt_m9 (4 * F 106 0) fu nu (fun i => A 109 (60 * s.toNat + i)) (A 108 s.toNat))))))) := by
  refine sC_of ok_X9_meetsThen.1 (Nat.le_of_ble_eq_true rfl) ?_
  show sA _ _ _ 0 [(0, .ref 106), (1, gs_iv p), (2, gs_iv r), (3, gs_iv s)] [] F A
  have hf : gs_fr (fun c j => c = 106 ∧ (j = 9 ∨ j = 11 ∨ j = 13 ∨ j = 15)) (fun c => c = 112 ∨ c = 113 ∨ c = 114 ∨ c = 115) F A F A := gs_fr_refl _ _ _ _
  have b1 : (0 : Int) ≤ F 106 9 ∧ F 106 9 ≤ 400 := hI.1 106 9
  have b2 : (0 : Int) ≤ F 106 11 ∧ F 106 11 ≤ 60 := hI.1 106 11
  have b3 : (0 : Int) ≤ F 106 3 ∧ F 106 3 ≤ 12 := hI.1 106 3
  have b4 : (1 : Int) ≤ F 106 0 ∧ F 106 0 ≤ 3 := hI.1 106 0
  refine sA_aload_n dd_X9_meetsThen_0 rfl (.head _) ?_
  refine sA_iload_n dd_X9_meetsThen_1 rfl (.tail _ (.head _)) ?_
  refine sA_callV (y2 := m_X9_noPlan) (n2 := 1) (d2 := 2) (a := 106) (ci := 9) (q := (RX9, TX9, 28)) (as := [gs_iv p]) (rest := []) dd_X9_meetsThen_2 ok_X9_noPlan ml_X9_218 rfl rfl (by decide) gs_s106 rfl rfl (Nat.le_of_ble_eq_true rfl) (by decide) (c_X9_noPlan hI (by omega)) (fun r5 F6 A7 h8 => ?_)
  obtain ⟨z11, e10, e12, e13, x9⟩ := h8
  subst e10 e12 e13
  show sA _ _ _ 5 _ [gs_iv z11] _ _
  refine sA_if_ne (tgt := 24) dd_X9_meetsThen_5 (by decide) (by omega) (fun q14 => ?_) (fun q14 => ?_)
  · skip
    refine sA_sipush (z := (-1001)) dd_X9_meetsThen_24 (by decide) ?_
    refine sA_iret (z := -1001) dd_X9_meetsThen_27 rfl ?_
    refine ⟨_, rfl, hI, hf, ?_⟩
    exact .inl ⟨by omega, rfl⟩
  · skip
    refine sA_aload_n dd_X9_meetsThen_8 rfl (.head _) ?_
    refine sA_iload_n dd_X9_meetsThen_9 rfl (.tail _ (.tail _ (.head _))) ?_
    refine sA_callV (y2 := m_X9_noRing) (n2 := 1) (d2 := 2) (a := 106) (ci := 9) (q := (RX9, TX9, 28)) (as := [gs_iv r]) (rest := []) dd_X9_meetsThen_10 ok_X9_noRing ml_X9_100 rfl rfl (by decide) gs_s106 rfl rfl (Nat.le_of_ble_eq_true rfl) (by decide) (c_X9_noRing hI (by omega)) (fun r15 F16 A17 h18 => ?_)
    obtain ⟨z21, e20, e22, e23, x19⟩ := h18
    subst e20 e22 e23
    show sA _ _ _ 13 _ [gs_iv z21] _ _
    refine sA_if_ne (tgt := 24) dd_X9_meetsThen_13 (by decide) (by omega) (fun q24 => ?_) (fun q24 => ?_)
    · skip
      refine sA_sipush (z := (-1001)) dd_X9_meetsThen_24 (by decide) ?_
      refine sA_iret (z := -1001) dd_X9_meetsThen_27 rfl ?_
      refine ⟨_, rfl, hI, hf, ?_⟩
      exact .inl ⟨by omega, rfl⟩
    · skip
      refine sA_aload_n dd_X9_meetsThen_16 rfl (.head _) ?_
      refine sA_iload_n dd_X9_meetsThen_17 rfl (.tail _ (.tail _ (.tail _ (.head _)))) ?_
      refine sA_callV (y2 := m_X9_noRing) (n2 := 1) (d2 := 2) (a := 106) (ci := 9) (q := (RX9, TX9, 28)) (as := [gs_iv s]) (rest := []) dd_X9_meetsThen_18 ok_X9_noRing ml_X9_100 rfl rfl (by decide) gs_s106 rfl rfl (Nat.le_of_ble_eq_true rfl) (by decide) (c_X9_noRing hI (by omega)) (fun r25 F26 A27 h28 => ?_)
      obtain ⟨z31, e30, e32, e33, x29⟩ := h28
      subst e30 e32 e33
      show sA _ _ _ 21 _ [gs_iv z31] _ _
      refine sA_if_eq (tgt := 28) dd_X9_meetsThen_21 (by decide) (by omega) (fun q34 => ?_) (fun q34 => ?_)
      · skip
        refine sA_aload_n dd_X9_meetsThen_28 rfl (.head _) ?_
        refine sA_iload_n dd_X9_meetsThen_29 rfl (.tail _ (.tail _ (.head _))) ?_
        refine sA_callV (y2 := m_X9_isPower) (n2 := 1) (d2 := 1) (a := 106) (ci := 9) (q := (RX9, TX9, 28)) (as := [gs_iv r]) (rest := []) dd_X9_meetsThen_30 ok_X9_isPower ml_X9_145 rfl rfl (by decide) gs_s106 rfl rfl (Nat.le_of_ble_eq_true rfl) (by decide) (c_X9_isPower_vf hI (by omega)) (fun r35 F36 A37 h38 => ?_)
        obtain ⟨z41, e40, e42, e43, x39⟩ := h38
        subst e40 e42 e43
        have y44 : (z41 = 1 ∧ gs_pow (fun i => A 109 (60 * r.toNat + i)) (A 108 r.toNat)) ∨ (z41 = 0 ∧ ¬ gs_pow (fun i => A 109 (60 * r.toNat + i)) (A 108 r.toNat)) := x39
        clear x39
        show sA _ _ _ 33 _ [gs_iv z41] _ _
        refine sA_if_ne (tgt := 44) dd_X9_meetsThen_33 (by decide) (by omega) (fun q45 => ?_) (fun q45 => ?_)
        · skip
          refine sA_sipush (z := (-1003)) dd_X9_meetsThen_44 (by decide) ?_
          refine sA_iret (z := -1003) dd_X9_meetsThen_47 rfl ?_
          refine ⟨_, rfl, hI, hf, ?_⟩
          refine .inr ⟨by omega, by omega, by omega, by omega, by omega, by omega, ?_⟩
          rcases y44 with q | q <;> first | (exfalso; omega) | exact .inl ⟨.inl q.2, rfl⟩ | fail
        · skip
          refine sA_aload_n dd_X9_meetsThen_36 rfl (.head _) ?_
          refine sA_iload_n dd_X9_meetsThen_37 rfl (.tail _ (.tail _ (.tail _ (.head _)))) ?_
          refine sA_callV (y2 := m_X9_isPower) (n2 := 1) (d2 := 1) (a := 106) (ci := 9) (q := (RX9, TX9, 28)) (as := [gs_iv s]) (rest := []) dd_X9_meetsThen_38 ok_X9_isPower ml_X9_145 rfl rfl (by decide) gs_s106 rfl rfl (Nat.le_of_ble_eq_true rfl) (by decide) (c_X9_isPower_vf hI (by omega)) (fun r46 F47 A48 h49 => ?_)
          obtain ⟨z52, e51, e53, e54, x50⟩ := h49
          subst e51 e53 e54
          have y55 : (z52 = 1 ∧ gs_pow (fun i => A 109 (60 * s.toNat + i)) (A 108 s.toNat)) ∨ (z52 = 0 ∧ ¬ gs_pow (fun i => A 109 (60 * s.toNat + i)) (A 108 s.toNat)) := x50
          clear x50
          show sA _ _ _ 41 _ [gs_iv z52] _ _
          refine sA_if_eq (tgt := 48) dd_X9_meetsThen_41 (by decide) (by omega) (fun q56 => ?_) (fun q56 => ?_)
          · skip
            have np1 : ¬ gs_pow (fun i => A 109 (60 * r.toNat + i)) (A 108 r.toNat) := by
              rcases y44 with q | q
              · exfalso
                omega
              · exact q.2
            have np2 : ¬ gs_pow (fun i => A 109 (60 * s.toNat + i)) (A 108 s.toNat) := by
              rcases y55 with q | q
              · exfalso
                omega
              · exact q.2
            refine sA_aload_n dd_X9_meetsThen_48 rfl (.head _) ?_
            refine sA_iload_n dd_X9_meetsThen_49 rfl (.tail _ (.tail _ (.head _))) ?_
            refine sA_callV (y2 := m_X9_takeRing) (n2 := 1) (d2 := 1) (a := 106) (ci := 9) (q := (RX9, TX9, 28)) (as := [gs_iv r]) (rest := []) dd_X9_meetsThen_50 ok_X9_takeRing ml_X9_230 rfl rfl (by decide) gs_s106 rfl rfl (Nat.le_of_ble_eq_true rfl) (by decide) (c_X9_takeRing_vf hI (by omega)) (fun r57 F58 A59 h60 => ?_)
            obtain ⟨e62, I63, f64, x61⟩ := h60
            subst e62
            have v65 : F58 106 9 = F 106 9 := f64.1 106 9 (by first | exact id | omega | (dsimp only; omega) | (dsimp only) | fail)
            have v66 : F58 106 11 = F 106 11 := f64.1 106 11 (by first | exact id | omega | (dsimp only; omega) | (dsimp only) | fail)
            have v67 : F58 106 3 = F 106 3 := f64.1 106 3 (by first | exact id | omega | (dsimp only; omega) | (dsimp only) | fail)
            have v68 : F58 106 0 = F 106 0 := f64.1 106 0 (by first | exact id | omega | (dsimp only; omega) | (dsimp only) | fail)
            have v69 : A59 108 s.toNat = A 108 s.toNat := congrFun (f64.2 108 (by first | exact id | omega | (dsimp only; omega) | (dsimp only) | fail)) _
            have f70 := gs_fr_tr hf f64 (fun b j h => by first | exact False.elim h | omega | (dsimp only at h ⊢; omega) | fail) (fun b h => by first | exact False.elim h | omega | (dsimp only at h ⊢; omega) | fail)
            have y71 : F58 106 13 = A 108 r.toNat ∧ ∀ k : Int, 0 ≤ k → k < A 108 r.toNat → A59 114 k.toNat = A 109 (60 * r + k).toNat := x61
            clear x61
            show sA _ _ _ 53 _ [] _ _
            refine sA_aload_n dd_X9_meetsThen_53 rfl (.head _) ?_
            refine sA_iload_n dd_X9_meetsThen_54 rfl (.tail _ (.head _)) ?_
            have tr := y71
            have hstk : gs_stk (A59 114) (F58 106 13).toNat = (gs_stk (fun i => A 109 (60 * r.toNat + i)) (A 108 r.toNat).toNat) := by
              rw [tr.1]
              refine gs_stk_cg _ (fun i hi => ?_)
              show A59 114 i = A 109 (60 * r.toNat + i)
              have w := tr.2 i (by omega) (by omega)
              rw [Int.toNat_natCast, show (60 * r + (i : Int)).toNat = 60 * r.toNat + i by omega] at w
              exact w
            have h110 : A59 110 = A 110 := f70.2 110 (by dsimp only; omega)
            have h111 : A59 111 = A 111 := f70.2 111 (by dsimp only; omega)
            have hg0 : F58 106 0 = F 106 0 := f70.1 106 0 (by dsimp only; omega)
            have hcd1 : ∀ i : Int, 0 ≤ i → i < A59 110 p.toNat → 0 ≤ A59 111 (60 * p + i).toNat ∧ A59 111 (60 * p + i).toNat ≤ 15 := by rw [h110, h111]; exact (hcd (by omega) (by omega))
            refine sA_callV (y2 := m_X9_imageRow) (n2 := 1) (d2 := 5) (a := 106) (ci := 9) (q := (RX9, TX9, 28)) (as := [gs_iv p]) (rest := []) dd_X9_meetsThen_55 ok_X9_imageRow ml_X9_227 rfl rfl (by decide) gs_s106 rfl rfl (Nat.le_of_ble_eq_true rfl) (by decide) (c_X9_imageRow_vf I63 (by omega) hcd1) (fun r72 F73 A74 h75 => ?_)
            obtain ⟨z78, e77, I79, f80, x76⟩ := h75
            subst e77
            have v81 : F73 106 9 = F58 106 9 := f80.1 106 9 (by first | exact id | omega | (dsimp only; omega) | (dsimp only) | fail)
            have v82 : F73 106 11 = F58 106 11 := f80.1 106 11 (by first | exact id | omega | (dsimp only; omega) | (dsimp only) | fail)
            have v83 : F73 106 3 = F58 106 3 := f80.1 106 3 (by first | exact id | omega | (dsimp only; omega) | (dsimp only) | fail)
            have v84 : F73 106 0 = F58 106 0 := f80.1 106 0 (by first | exact id | omega | (dsimp only; omega) | (dsimp only) | fail)
            have v85 : A74 108 s.toNat = A59 108 s.toNat := congrFun (f80.2 108 (by first | exact id | omega | (dsimp only; omega) | (dsimp only) | fail)) _
            have f86 := gs_fr_tr f70 f80 (fun b j h => by first | exact False.elim h | omega | (dsimp only at h ⊢; omega) | fail) (fun b h => by first | exact False.elim h | omega | (dsimp only at h ⊢; omega) | fail)
            have y87 : (z78 = 1 ∧ sp_pl (fun u => sp_tw (sp_m (F58 106 0) u)) (fun i => A59 111 (60 * p.toNat + i)) (A59 110 p.toNat).toNat (gs_stk (A59 114) (F58 106 13).toNat) = some (gs_stk (A74 114) (F73 106 13).toNat)) ∨ (z78 = 0 ∧ sp_pl (fun u => sp_tw (sp_m (F58 106 0) u)) (fun i => A59 111 (60 * p.toNat + i)) (A59 110 p.toNat).toNat (gs_stk (A59 114) (F58 106 13).toNat) = none) := x76
            clear x76
            show sA _ _ _ 58 _ [gs_iv z78] _ _
            refine sA_if_ne (tgt := 65) dd_X9_meetsThen_58 (by decide) (by omega) (fun q88 => ?_) (fun q88 => ?_)
            · skip
              have hg : (1 : Int) ≤ F 106 0 ∧ F 106 0 ≤ 3 := hI.1 106 0
              have c1 : ∃ st : List Int, gs_plm F A p (gs_stk (fun i => A 109 (60 * r.toNat + i)) (A 108 r.toNat).toNat) = some st ∧ st = gs_stk (A74 114) (F73 106 13).toNat := by
                rcases y87 with y | y
                · have y2 := y.2
                  rw [h110, h111, hg0, hstk] at y2
                  exact ⟨_, y2, rfl⟩
                · exfalso
                  omega
              obtain ⟨st, c1, c3⟩ := c1
              have hb13 : (0 : Int) ≤ F73 106 13 ∧ F73 106 13 ≤ 400 := I79.1 106 13
              refine sA_aload_n dd_X9_meetsThen_65 rfl (.head _) ?_
              refine sA_callV (y2 := m_X9_closeToU) (n2 := 0) (d2 := 1) (a := 106) (ci := 9) (q := (RX9, TX9, 28)) (as := []) (rest := []) dd_X9_meetsThen_66 ok_X9_closeToU ml_X9_233 rfl rfl (by decide) gs_s106 rfl rfl (Nat.le_of_ble_eq_true rfl) (by decide) (c_X9_closeToU_vf I79 ) (fun r89 F90 A91 h92 => ?_)
              obtain ⟨e94, I95, f96, x93⟩ := h92
              subst e94
              have v98 : F90 106 11 = F73 106 11 := f96.1 106 11 (by first | exact id | omega | (dsimp only; omega) | (dsimp only) | fail)
              have v99 : F90 106 3 = F73 106 3 := f96.1 106 3 (by first | exact id | omega | (dsimp only; omega) | (dsimp only) | fail)
              have v100 : F90 106 0 = F73 106 0 := f96.1 106 0 (by first | exact id | omega | (dsimp only; omega) | (dsimp only) | fail)
              have v101 : A91 108 s.toNat = A74 108 s.toNat := congrFun (f96.2 108 (by first | exact id | omega | (dsimp only; omega) | (dsimp only) | fail)) _
              have f102 := gs_fr_tr f86 f96 (fun b j h => by first | exact False.elim h | omega | (dsimp only at h ⊢; omega) | fail) (fun b h => by first | exact False.elim h | omega | (dsimp only at h ⊢; omega) | fail)
              have y103 : ∃ k : Int, gs_lo (A74 114) (F73 106 13) k ∧ F90 106 9 = F73 106 13 - 2 * k ∧ ∀ i : Int, 0 ≤ i → i < F73 106 13 - 2 * k → A91 112 i.toNat = A74 114 (k + i).toNat := x93
              clear x93
              show sA _ _ _ 69 _ [] _ _
              have c2 : gs_cls st (A91 112) (F90 106 9) := by
                obtain ⟨k, k1, k2, k3⟩ := y103
                exact ⟨_, _, k, hb13.1, c3, k1, k2, fun i h1 h2 => k3 i h1 (by omega)⟩
              have hvl : gs_vl (F 106 0) (F90 106 9) (A91 112) := gs_cls_vl c2 (gs_plm_val hg (by omega) (hcdm (by omega) (by omega)) (gs_stk_val _ (fun i hi => hVg r.toNat (by omega) i (by omega))) c1)
              refine sA_aload_n dd_X9_meetsThen_69 rfl (.head _) ?_
              refine sA_iload_n dd_X9_meetsThen_70 rfl (.tail _ (.tail _ (.tail _ (.head _)))) ?_
              refine sA_callV (y2 := m_X9_takeV) (n2 := 1) (d2 := 1) (a := 106) (ci := 9) (q := (RX9, TX9, 28)) (as := [gs_iv s]) (rest := []) dd_X9_meetsThen_71 ok_X9_takeV ml_X9_106 rfl rfl (by decide) gs_s106 rfl rfl (Nat.le_of_ble_eq_true rfl) (by decide) (c_X9_takeV_vf I95 (by omega)) (fun r104 F105 A106 h107 => ?_)
              obtain ⟨e109, I110, f111, x108⟩ := h107
              subst e109
              have v112 : F105 106 9 = F90 106 9 := f111.1 106 9 (by first | exact id | omega | (dsimp only; omega) | (dsimp only) | fail)
              have v114 : F105 106 3 = F90 106 3 := f111.1 106 3 (by first | exact id | omega | (dsimp only; omega) | (dsimp only) | fail)
              have v115 : F105 106 0 = F90 106 0 := f111.1 106 0 (by first | exact id | omega | (dsimp only; omega) | (dsimp only) | fail)
              have v116 : A106 108 s.toNat = A91 108 s.toNat := congrFun (f111.2 108 (by first | exact id | omega | (dsimp only; omega) | (dsimp only) | fail)) _
              have f117 := gs_fr_tr f102 f111 (fun b j h => by first | exact False.elim h | omega | (dsimp only at h ⊢; omega) | fail) (fun b h => by first | exact False.elim h | omega | (dsimp only at h ⊢; omega) | fail)
              have y118 : F105 106 11 = A91 108 s.toNat ∧ ∀ k : Int, 0 ≤ k → k < A91 108 s.toNat → A106 113 k.toNat = A91 109 (60 * s + k).toNat := x108
              clear x108
              show sA _ _ _ 74 _ [] _ _
              have hx_s := hX s.toNat (by omega)
              have tv := y118
              have e108 : A91 108 = A 108 := (f96.2 108 (by dsimp only; omega)).trans ((f80.2 108 (by dsimp only; omega)).trans (f64.2 108 (by dsimp only; omega)))
              have e109 : A91 109 = A 109 := (f96.2 109 (by dsimp only; omega)).trans ((f80.2 109 (by dsimp only; omega)).trans (f64.2 109 (by dsimp only; omega)))
              rw [e108, e109] at tv
              have hv := mt_row_of (f := A 109) (r := s) (by omega) tv.2
              have e112 : A106 112 = A91 112 := f111.2 112 (by dsimp only; omega)
              have e9 : F105 106 9 = F90 106 9 := by omega
              have e11 : F105 106 11 = A 108 s.toNat := by omega
              have e0 : F105 106 0 = F 106 0 := by omega
              have hVu : gs_vl 3 (F105 106 9) (A106 112) := by rw [e9, e112]; exact mt_vl3 hg.2 hvl
              have hVv : gs_vl 3 (F105 106 11) (A106 113) := by rw [e11]; exact mt_vl_cg (fun k hk => (hv k hk).symm) (mt_vl3 hg.2 (hVg s.toNat (by omega)))
              refine sA_aload_n dd_X9_meetsThen_74 rfl (.head _) ?_
              refine sA_callV (y2 := m_X9_meetings) (n2 := 0) (d2 := 6) (a := 106) (ci := 9) (q := (RX9, TX9, 28)) (as := []) (rest := []) dd_X9_meetsThen_75 ok_X9_meetings ml_X9_141 rfl rfl (by decide) gs_s106 rfl rfl (Nat.le_of_ble_eq_true rfl) (by decide) (c_X9_meetings_vf I110 (by omega) hVu hVv) (fun r119 F120 A121 h122 => ?_)
              obtain ⟨z125, e124, I126, f127, x123⟩ := h122
              subst e124
              have v128 : F120 106 9 = F105 106 9 := f127.1 106 9 (by first | exact id | omega | (dsimp only; omega) | (dsimp only) | fail)
              have v129 : F120 106 11 = F105 106 11 := f127.1 106 11 (by first | exact id | omega | (dsimp only; omega) | (dsimp only) | fail)
              have v130 : F120 106 3 = F105 106 3 := f127.1 106 3 (by first | exact id | omega | (dsimp only; omega) | (dsimp only) | fail)
              have v131 : F120 106 0 = F105 106 0 := f127.1 106 0 (by first | exact id | omega | (dsimp only; omega) | (dsimp only) | fail)
              have v132 : A121 108 s.toNat = A106 108 s.toNat := congrFun (f127.2 108 (by first | exact id | omega | (dsimp only; omega) | (dsimp only) | fail)) _
              have f133 := gs_fr_tr f117 f127 (fun b j h => by first | exact False.elim h | omega | (dsimp only at h ⊢; omega) | fail) (fun b h => by first | exact False.elim h | omega | (dsimp only at h ⊢; omega) | fail)
              have y134 : (0 ≤ z125 ∧ z125 ≤ 48000) ∧ z125 = mt_m9 (4 * F105 106 0) (A106 112) (F105 106 9) (A106 113) (F105 106 11) := x123
              clear x123
              show sA _ _ _ 78 _ [gs_iv z125] _ _
              refine sA_iret (z := z125) dd_X9_meetsThen_78 rfl ?_
              refine ⟨_, rfl, I126, f133, ?_⟩
              have y := y134.2
              rw [e0, e9, e11, e112] at y
              refine .inr ⟨by omega, by omega, by omega, by omega, by omega, by omega, .inr ⟨np1, np2, .inr ⟨st, _, _, c1, c2, y.trans ?_⟩⟩⟩
              exact mt_m9_cg (fun _ _ => rfl) hv
            · skip
              refine sA_sipush (z := (-1005)) dd_X9_meetsThen_61 (by decide) ?_
              refine sA_iret (z := -1005) dd_X9_meetsThen_64 rfl ?_
              refine ⟨_, rfl, I79, f86, ?_⟩
              rcases y87 with y | y
              · exfalso
                omega
              · have y2 := y.2
                rw [h110, h111, hg0, hstk] at y2
                exact .inr ⟨by omega, by omega, by omega, by omega, by omega, by omega, .inr ⟨np1, np2, .inl ⟨y2, rfl⟩⟩⟩
          · skip
            refine sA_sipush (z := (-1003)) dd_X9_meetsThen_44 (by decide) ?_
            refine sA_iret (z := -1003) dd_X9_meetsThen_47 rfl ?_
            refine ⟨_, rfl, hI, hf, ?_⟩
            refine .inr ⟨by omega, by omega, by omega, by omega, by omega, by omega, ?_⟩
            rcases y55 with q | q <;> first | (exfalso; omega) | exact .inl ⟨.inr q.2, rfl⟩ | fail
      · skip
        refine sA_sipush (z := (-1001)) dd_X9_meetsThen_24 (by decide) ?_
        refine sA_iret (z := -1001) dd_X9_meetsThen_27 rfl ?_
        refine ⟨_, rfl, hI, hf, ?_⟩
        exact .inl ⟨by omega, rfl⟩
end
