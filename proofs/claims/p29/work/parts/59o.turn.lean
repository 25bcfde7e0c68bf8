noncomputable section
/-! ===== full turns ===== -/
def sp_rl (k : Int) : Int := if k % 4 < 2 then k / 4 * 2 + 1 + k % 2 else -(k / 4 * 2 + 1 + k % 2)
/-- letter j of the rim, or of the rim back -/
def sp_rimf (g m : Int) : Nat → Int := fun j => if 0 < m then sp_rl j else -(sp_rl (4 * g - 1 - j))
def sp_rim (g m : Int) : List Int := gs_sl (sp_rimf g m) 0 (4 * g).toNat
def sp_rep (w : List Int) : Nat → List Int
  | 0 => []
  | n + 1 => sp_rep w n ++ w
/-- the rim m times, x, the rim back m times, clean -/
def sp_rr (g m x : Int) : List Int := sp_all (sp_push (sp_all [] (sp_rep (sp_rim g m) m.natAbs)) x) (sp_rep (sp_rim g (-m)) m.natAbs)
theorem sp_rimf_pos {g m k : Int} (hm : 0 < m) (hk : 0 ≤ k) : sp_rimf g m (0 + k.toNat) = sp_rl k := by
  unfold sp_rimf
  rw [if_pos hm, show ((0 + k.toNat : Nat) : Int) = k by omega]
theorem sp_rimf_neg {g m k : Int} (hm : ¬ 0 < m) (hk : 0 ≤ k) : sp_rimf g m (0 + k.toNat) = -(sp_rl (4 * g - 1 - k)) := by
  unfold sp_rimf
  rw [if_neg hm, show ((0 + k.toNat : Nat) : Int) = k by omega]
theorem sp_rim_sg {g s m : Int} (h : 0 < s ↔ 0 < m) : sp_rim g s = sp_rim g m := by
  have e : sp_rimf g s = sp_rimf g m := by
    funext j
    unfold sp_rimf
    by_cases q : 0 < s
    · rw [if_pos q, if_pos (h.mp q)]
    · rw [if_neg q, if_neg (fun w => q (h.mpr w))]
  unfold sp_rim
  rw [e]
theorem sp_rl4 {h : Int} (_h : 0 ≤ h) : sp_rl (4 * h) = 2 * h + 1 ∧ sp_rl (4 * h + 1) = 2 * h + 2 ∧ sp_rl (4 * h + 2) = -2 * h - 1 ∧ sp_rl (4 * h + 3) = -2 * h - 2 := by
  unfold sp_rl
  rw [if_pos (by omega), if_pos (by omega), if_neg (by omega), if_neg (by omega)]
  omega
theorem sp_rff {g s h : Int} (hs : 0 < s) (hh : 0 ≤ h) : sp_rimf g s (0 + (4 * h).toNat) = 2 * h + 1 ∧ sp_rimf g s (0 + ((4 * h).toNat + 1)) = 2 * h + 2 ∧ sp_rimf g s (0 + ((4 * h).toNat + 2)) = -2 * h - 1 ∧ sp_rimf g s (0 + ((4 * h).toNat + 3)) = -2 * h - 2 := by
  obtain ⟨a1, a2, a3, a4⟩ := sp_rl4 hh
  unfold sp_rimf
  rw [if_pos hs, if_pos hs, if_pos hs, if_pos hs, show ((0 + (4 * h).toNat : Nat) : Int) = 4 * h by omega, show ((0 + ((4 * h).toNat + 1) : Nat) : Int) = 4 * h + 1 by omega, show ((0 + ((4 * h).toNat + 2) : Nat) : Int) = 4 * h + 2 by omega, show ((0 + ((4 * h).toNat + 3) : Nat) : Int) = 4 * h + 3 by omega]
  exact ⟨a1, a2, a3, a4⟩
theorem sp_rfb {g s h n : Int} (hs : ¬ 0 < s) (hh : 0 ≤ h) (hn : n = g - 1 - h) (hn0 : 0 ≤ n) : sp_rimf g s (0 + (4 * h).toNat) = 2 * n + 2 ∧ sp_rimf g s (0 + ((4 * h).toNat + 1)) = 2 * n + 1 ∧ sp_rimf g s (0 + ((4 * h).toNat + 2)) = -2 * n - 2 ∧ sp_rimf g s (0 + ((4 * h).toNat + 3)) = -2 * n - 1 := by
  obtain ⟨a1, a2, a3, a4⟩ := sp_rl4 hn0
  unfold sp_rimf
  rw [if_neg hs, if_neg hs, if_neg hs, if_neg hs, show 4 * g - 1 - ((0 + (4 * h).toNat : Nat) : Int) = 4 * n + 3 by omega, show 4 * g - 1 - ((0 + ((4 * h).toNat + 1) : Nat) : Int) = 4 * n + 2 by omega, show 4 * g - 1 - ((0 + ((4 * h).toNat + 2) : Nat) : Int) = 4 * n + 1 by omega, show 4 * g - 1 - ((0 + ((4 * h).toNat + 3) : Nat) : Int) = 4 * n by omega]
  refine ⟨?_, ?_, ?_, ?_⟩ <;> omega
theorem sp_all_sl4 (r : List Int) (f : Nat → Int) (n : Nat) : sp_all r (gs_sl f 0 (n + 4)) = sp_push (sp_push (sp_push (sp_push (sp_all r (gs_sl f 0 n)) (f (0 + n))) (f (0 + (n + 1)))) (f (0 + (n + 2)))) (f (0 + (n + 3))) := by
  rw [show n + 4 = n + 3 + 1 from rfl, sp_all_sl, show n + 3 = n + 2 + 1 from rfl, sp_all_sl, show n + 2 = n + 1 + 1 from rfl, sp_all_sl, sp_all_sl]
def gs_tn (F A : gs_F) (g m : Int) : Prop := ∀ ii : Nat, (ii : Int) < F 15 1 → sp_rr g m ((ii : Int) + 1) = gs_ic F A ii
def gs_tm (F A : gs_F) (m : Int) : Prop := ∀ ii : Nat, (ii : Int) < 2 * F 106 0 → sp_rr (F 106 0) m ((ii : Int) + 1) = gs_im A ii
theorem gs_tn_fr {F A F2 A2 : gs_F} {g m : Int} (e : F2 15 1 = F 15 1) (hb : F 15 1 ≤ 6) (hic : ∀ ii : Nat, ii < 6 → gs_ic F2 A2 ii = gs_ic F A ii) : gs_tn F2 A2 g m ↔ gs_tn F A g m := by
  unfold gs_tn
  rw [e]
  constructor
  · intro h ii hi
    rw [← hic ii (by omega)]
    exact h ii hi
  · intro h ii hi
    rw [hic ii (by omega)]
    exact h ii hi
theorem gs_tm_fr {F A F2 A2 : gs_F} {m : Int} (e : F2 106 0 = F 106 0) (him : ∀ ii : Nat, gs_im A2 ii = gs_im A ii) : gs_tm F2 A2 m ↔ gs_tm F A m := by
  unfold gs_tm
  rw [e]
  constructor
  · intro h ii hi
    rw [← him ii]
    exact h ii hi
  · intro h ii hi
    rw [him ii]
    exact h ii hi
/-- m, if T holds of m and of none of less size; 99 -/
def gs_ft (T : Int → Prop) (z : Int) : Prop := (∃ m : Int, 0 ≤ m ∧ m ≤ 5 ∧ (∀ j : Int, 0 ≤ j → j < m → ¬ T j ∧ ¬ T (-j)) ∧ ((T m ∧ z = m) ∨ (¬ T m ∧ T (-m) ∧ z = -m))) ∨ ((∀ j : Int, 0 ≤ j → j < 6 → ¬ T j ∧ ¬ T (-j)) ∧ z = 99)
theorem gs_ft_cg {T T2 : Int → Prop} {z : Int} (h : ∀ j : Int, T j ↔ T2 j) (q : gs_ft T z) : gs_ft T2 z := by
  have e : T = T2 := funext fun j => propext (h j)
  rw [← e]
  exact q
theorem gs_ft_uni {T : Int → Prop} {v1 v2 : Int} (h1 : gs_ft T v1) (h2 : gs_ft T v2) : v2 = v1 := by
  rcases h1 with ⟨m, a1, a2, a3, a4⟩ | ⟨a1, a2⟩ <;> rcases h2 with ⟨n, b1, b2, b3, b4⟩ | ⟨b1, b2⟩
  · have key : ∀ {m n w : Int}, 0 ≤ m → m < n → (∀ j : Int, 0 ≤ j → j < n → ¬ T j ∧ ¬ T (-j)) → ((T m ∧ w = m) ∨ (¬ T m ∧ T (-m) ∧ w = -m)) → False := by
      intro m n w h0 h1 h2 h3
      have h4 := h2 m h0 h1
      rcases h3 with h3 | h3
      · exact h4.1 h3.1
      · exact h4.2 h3.2.1
    rcases (show m < n ∨ n < m ∨ n = m by omega) with q | q | q
    · exact (key a1 q b3 a4).elim
    · exact (key b1 q a3 b4).elim
    · subst q
      rcases a4 with a4 | a4 <;> rcases b4 with b4 | b4
      · omega
      · exact absurd a4.1 b4.1
      · exact absurd b4.1 a4.1
      · omega
  · have h4 := b1 m a1 (by omega)
    rcases a4 with a4 | a4
    · exact absurd a4.1 h4.1
    · exact absurd a4.2.1 h4.2
  · have h4 := a1 n b1 (by omega)
    rcases b4 with b4 | b4
    · exact absurd b4.1 h4.1
    · exact absurd b4.2.1 h4.2
  · omega
/-- what the images of a plan, done k times, are: too large, or these -/
def gs_big (P : List Int → Option (List Int)) (g : Int) (k : Nat) : Prop := ∃ ii : Nat, (ii : Int) < 2 * g ∧ gs_it P k [(ii : Int) + 1] = none
def gs_tk (P : List Int → Option (List Int)) (g : Int) (k : Nat) (z : Int) : Prop := ∃ im : Nat → List Int, (∀ ii : Nat, (ii : Int) < 2 * g → gs_it P k [(ii : Int) + 1] = some (im ii)) ∧ gs_ft (fun m => ∀ ii : Nat, (ii : Int) < 2 * g → sp_rr g m ((ii : Int) + 1) = im ii) z
theorem gs_tk_uni {P : List Int → Option (List Int)} {g v1 v2 : Int} {k : Nat} (h1 : gs_tk P g k v1) (h2 : gs_tk P g k v2) : v2 = v1 := by
  obtain ⟨im, a1, a2⟩ := h1
  obtain ⟨im2, b1, b2⟩ := h2
  refine gs_ft_uni a2 (gs_ft_cg (fun m => ?_) b2)
  have e : ∀ ii : Nat, (ii : Int) < 2 * g → im2 ii = im ii := fun ii hi => by
    have w := a1 ii hi
    rw [b1 ii hi] at w
    injection w
  constructor
  · intro h ii hi
    rw [← e ii hi]
    exact h ii hi
  · intro h ii hi
    show _ = im2 ii
    rw [e ii hi]
    exact h ii hi
theorem gs_tk_big {P : List Int → Option (List Int)} {g v : Int} {k : Nat} (h1 : gs_tk P g k v) (h2 : gs_big P g k) : False := by
  obtain ⟨im, a1, a2⟩ := h1
  obtain ⟨ii, hi, e⟩ := h2
  rw [a1 ii hi] at e
  cases e
theorem gs_tk_mk {F A : gs_F} {P : List Int → Option (List Int)} {g z : Int} {k : Nat} (e15 : F 15 1 = 2 * g) (h : ∀ ii : Nat, (ii : Int) < 2 * g → gs_it P k [(ii : Int) + 1] = some (gs_ic F A ii)) (q : gs_ft (fun m => gs_tn F A g m) z) : gs_tk P g k z := by
  refine ⟨gs_ic F A, h, gs_ft_cg (fun m => ?_) q⟩
  unfold gs_tn
  rw [e15]
theorem gs_tk_mk9 {F A : gs_F} {P : List Int → Option (List Int)} {z : Int} {k : Nat} (h : ∀ ii : Nat, (ii : Int) < 2 * F 106 0 → gs_it P k [(ii : Int) + 1] = some (gs_im A ii)) (q : gs_ft (fun m => gs_tm F A m) z) : gs_tk P (F 106 0) k z := ⟨gs_im A, h, q⟩
def gs_tv (P : List Int → Option (List Int)) (g z : Int) : Prop := (gs_big P g 1 ∧ z = -1005) ∨ gs_tk P g 1 z
theorem gs_tv_uni {P : List Int → Option (List Int)} {g v1 v2 : Int} (h1 : gs_tv P g v1) (h2 : gs_tv P g v2) : v2 = v1 := by
  rcases h1 with ⟨a1, a2⟩ | a1 <;> rcases h2 with ⟨b1, b2⟩ | b1
  · omega
  · exact (gs_tk_big b1 a1).elim
  · exact (gs_tk_big a1 b1).elim
  · exact gs_tk_uni a1 b1
def gs_or (P : List Int → Option (List Int)) (g n z : Int) : Prop := (∃ k : Int, 1 ≤ k ∧ k ≤ n ∧ (∀ j : Int, 1 ≤ j → j < k → gs_tk P g j.toNat 99) ∧ ((gs_big P g k.toNat ∧ z = -1005) ∨ (∃ w : Int, w ≠ 99 ∧ gs_tk P g k.toNat w ∧ z = k))) ∨ ((∀ j : Int, 1 ≤ j → j ≤ n → gs_tk P g j.toNat 99) ∧ z = -1)
theorem gs_or_uni {P : List Int → Option (List Int)} {g n v1 v2 : Int} (h1 : gs_or P g n v1) (h2 : gs_or P g n v2) : v2 = v1 := by
  have key : ∀ {k v : Int}, gs_tk P g k.toNat 99 → ((gs_big P g k.toNat ∧ v = -1005) ∨ (∃ w : Int, w ≠ 99 ∧ gs_tk P g k.toNat w ∧ v = k)) → False := by
    intro k v h h2
    rcases h2 with h2 | ⟨w, w1, w2, w3⟩
    · exact gs_tk_big h h2.1
    · exact w1 (gs_tk_uni h w2)
  rcases h1 with ⟨k, a1, a2, a3, a4⟩ | ⟨a1, a2⟩ <;> rcases h2 with ⟨l, b1, b2, b3, b4⟩ | ⟨b1, b2⟩
  · rcases (show k < l ∨ l < k ∨ l = k by omega) with q | q | q
    · exact (key (b3 k a1 q) a4).elim
    · exact (key (a3 l b1 q) b4).elim
    · subst q
      rcases a4 with a4 | ⟨w, w1, w2, w3⟩ <;> rcases b4 with b4 | ⟨u, u1, u2, u3⟩
      · omega
      · exact (gs_tk_big u2 a4.1).elim
      · exact (gs_tk_big w2 b4.1).elim
      · omega
  · exact (key (b1 k a1 a2) a4).elim
  · exact (key (a1 l b1 b2) b4).elim
  · omega
theorem gs_no_ext {T : Int → Prop} {m : Int} (h : ∀ j : Int, 0 ≤ j → j < m → ¬ T j ∧ ¬ T (-j)) (h1 : ¬ T m) (h2 : ¬ T (-m)) : ∀ j : Int, 0 ≤ j → j < m + 1 → ¬ T j ∧ ¬ T (-j) := by
  intro j j1 j2
  by_cases q : j = m
  · rw [q]
    exact ⟨h1, h2⟩
  · exact h j j1 (by omega)
theorem gs_tk_ext {P : List Int → Option (List Int)} {g k : Int} (h : ∀ j : Int, 1 ≤ j → j < k → gs_tk P g j.toNat 99) (h1 : gs_tk P g k.toNat 99) : ∀ j : Int, 1 ≤ j → j < k + 1 → gs_tk P g j.toNat 99 := by
  intro j j1 j2
  by_cases q : j = k
  · rw [q]
    exact h1
  · exact h j j1 (by omega)
theorem gs_big_mk {P : List Int → Option (List Int)} {g : Int} {t : Nat} {im : Nat → List Int} (h : ∀ ii : Nat, (ii : Int) < 2 * g → gs_it P t [(ii : Int) + 1] = some (im ii)) (h2 : ∃ ii : Nat, (ii : Int) < 2 * g ∧ P (im ii) = none) : gs_big P g (t + 1) := gs_it_large (Nat.le_refl _) h h2
theorem c_X0_rimLetter_vf {k : Int} {F A : gs_F} (hk : 0 ≤ k ∧ k ≤ 11) : sC m_X0_rimLetter 1 [gs_iv k] F A (fun rv F' A' => ∃ z : Int, rv = some (gs_iv z) ∧ F = F' ∧ A = A' ∧ (z = sp_rl k ∧ -6 ≤ z ∧ z ≤ 6)) := by
  refine sC_of ok_X0_rimLetter.1 (Nat.le_of_ble_eq_true rfl) ?_
  show sA _ _ _ 0 [(0, gs_iv k)] [] F A
  refine sA_iload_n dd_X0_rimLetter_0 rfl (.head _) ?_
  refine sA_iconst (z := 4) dd_X0_rimLetter_1 ?_
  refine sA_idivN dd_X0_rimLetter_2 (by omega) (by omega) (by omega) ?_
  refine sA_iconst (z := 2) dd_X0_rimLetter_3 ?_
  refine sA_imul dd_X0_rimLetter_4 ?_
  refine sA_iconst (z := 1) dd_X0_rimLetter_5 ?_
  refine sA_iadd dd_X0_rimLetter_6 ?_
  refine sA_iload_n dd_X0_rimLetter_7 rfl (.head _) ?_
  refine sA_iconst (z := 2) dd_X0_rimLetter_8 ?_
  refine sA_iremN dd_X0_rimLetter_9 (by omega) (by omega) (by omega) ?_
  refine sA_iadd dd_X0_rimLetter_10 ?_
  refine sA_istore_n (lv' := [(1, gs_iv ((((k / 4) * 2) + 1) + (k % 2))), (0, gs_iv k)]) dd_X0_rimLetter_11 rfl (by decide) rfl ?_
  refine sA_iload_n dd_X0_rimLetter_12 rfl (.tail _ (.head _)) ?_
  refine sA_iconst (z := 4) dd_X0_rimLetter_13 ?_
  refine sA_iremN dd_X0_rimLetter_14 (by omega) (by omega) (by omega) ?_
  refine sA_iconst (z := 2) dd_X0_rimLetter_15 ?_
  refine sA_icmp_ge (tgt := 23) dd_X0_rimLetter_16 (by decide) (by omega) (by omega) (fun q1 => ?_) (fun q1 => ?_)
  · skip
    refine sA_iload_n dd_X0_rimLetter_23 rfl (.head _) ?_
    refine sA_ineg dd_X0_rimLetter_24 ?_
    refine sA_iret (z := -((((k / 4) * 2) + 1) + (k % 2))) dd_X0_rimLetter_25 rfl ?_
    refine ⟨_, rfl, rfl, rfl, ?_⟩
    unfold sp_rl
    first | rw [if_pos (by omega)] | rw [if_neg (by omega)] | fail
    exact ⟨by omega, by omega, by omega⟩
  · skip
    refine sA_iload_n dd_X0_rimLetter_19 rfl (.head _) ?_
    refine sA_goto (tgt := 25) dd_X0_rimLetter_20 (by decide) ?_
    refine sA_iret (z := (((k / 4) * 2) + 1) + (k % 2)) dd_X0_rimLetter_25 rfl ?_
    refine ⟨_, rfl, rfl, rfl, ?_⟩
    unfold sp_rl
    first | rw [if_pos (by omega)] | rw [if_neg (by omega)] | fail
    exact ⟨by omega, by omega, by omega⟩
theorem k_X0_pushRim_vf {a L : Nat} {m : Int} {g : Int} {F A : gs_F} (hI : gs_I F A) (hm0 : -5 ≤ m ∧ m ≤ 5) (hr : gs_row a L) (hL : L = 400) (hs : F a 1 ≤ 200) (h15 : F 15 1 = 2 * g) (hg : 1 ≤ g ∧ g ≤ 3) (ha18 : 18 ≤ a) : ∀ nN : Nat, (∀ (t : Int)  (F1 A1 : gs_F), gs_I F1 A1 → gs_fr (fun c j => c = a ∧ j = 1) (fun c => c = a + 1) F A F1 A1 → 0 ≤ t ∧ t ≤ 5 → t ≤ m ∨ t ≤ -m → F1 a 1 ≤ F a 1 + 12 * t ∧ 0 ≤ F1 a 1 ∧ F1 15 1 = F 15 1 → gs_stk (A1 (a + 1)) (F1 a 1).toNat = sp_all (gs_stk (A (a + 1)) (F a 1).toNat) (sp_rep (sp_rim g m) t.toNat) → (5 - t) * 20 + 1 < (nN : Int) → sA m_X0_pushRim 2 (fun rv F' A' => rv = none ∧ gs_I F' A' ∧ gs_fr (fun c j => c = a ∧ j = 1) (fun c => c = a + 1) F A F' A' ∧ (F' a 1 ≤ F a 1 + 60 ∧ 0 ≤ F' a 1 ∧ gs_stk (A' (a + 1)) (F' a 1).toNat = sp_all (gs_stk (A (a + 1)) (F a 1).toNat) (sp_rep (sp_rim g m) m.natAbs))) 2 [(3, gs_iv t), (0, .ref 15), (1, gs_iv m), (2, .ref a)] [] F1 A1) ∧ (∀ (t : Int) (k : Int)  (F1 A1 : gs_F), gs_I F1 A1 → gs_fr (fun c j => c = a ∧ j = 1) (fun c => c = a + 1) F A F1 A1 → 0 ≤ t ∧ t < 5 → 0 ≤ k ∧ k ≤ 12 → t < m ∨ t < -m → F1 a 1 ≤ F a 1 + 12 * t + k ∧ 0 ≤ F1 a 1 ∧ F1 15 1 = F 15 1 → k ≤ 4 * g → gs_stk (A1 (a + 1)) (F1 a 1).toNat = sp_all (sp_all (gs_stk (A (a + 1)) (F a 1).toNat) (sp_rep (sp_rim g m) t.toNat)) (gs_sl (sp_rimf g m) 0 k.toNat) → (5 - t) * 20 - k < (nN : Int) → sA m_X0_pushRim 2 (fun rv F' A' => rv = none ∧ gs_I F' A' ∧ gs_fr (fun c j => c = a ∧ j = 1) (fun c => c = a + 1) F A F' A' ∧ (F' a 1 ≤ F a 1 + 60 ∧ 0 ≤ F' a 1 ∧ gs_stk (A' (a + 1)) (F' a 1).toNat = sp_all (gs_stk (A (a + 1)) (F a 1).toNat) (sp_rep (sp_rim g m) m.natAbs))) 13 [(4, gs_iv k), (3, gs_iv t), (0, .ref 15), (1, gs_iv m), (2, .ref a)] [] F1 A1) := by
  intro nN
  induction nN with
  | zero =>
    exact ⟨fun a0 a1 a2 a3 a4 i0 i1 i2 i3 hm => by exfalso; omega, fun a0 a1 a2 a3 a4 a5 i0 i1 i2 i3 i4 i5 hm => by exfalso; omega⟩
  | succ nN ih =>
    refine ⟨?_, ?_⟩
    · skip
      intro t F1 A1 hI1 hf1 i0 i1 i2 i3 hm
      have b1 := gs_row_sz hr hI1
      have b2 : (0 : Int) ≤ F1 15 1 ∧ F1 15 1 ≤ 6 := hI1.1 15 1
      refine sA_iload_n dd_X0_pushRim_2 rfl (.head _) ?_
      refine sA_iload_n dd_X0_pushRim_3 rfl (.tail _ (.tail _ (.head _))) ?_
      refine sA_mabs dd_X0_pushRim_4 (ri_lw_in (pl := 656) (by decide +kernel)) (by decide) (by omega) (Nat.le_of_ble_eq_true rfl) (fun w3 q4 => ?_)
      refine sA_icmp_ge (tgt := 67) dd_X0_pushRim_7 (by decide) (by omega) (by omega) (fun q5 => ?_) (fun q5 => ?_)
      · skip
        refine sA_vret dd_X0_pushRim_67 rfl ?_
        refine ⟨rfl, hI1, hf1, ?_⟩
        have e : m.natAbs = t.toNat := by omega
        refine ⟨by omega, by omega, ?_⟩
        rw [e]
        exact i3
      · skip
        refine sA_iconst (z := 0) dd_X0_pushRim_10 ?_
        refine sA_istore (lv' := [(4, gs_iv 0), (3, gs_iv t), (0, .ref 15), (1, gs_iv m), (2, .ref a)]) dd_X0_pushRim_11 (by decide) rfl ?_
        refine sA_sub (lv2 := [(4, gs_iv 0), (3, gs_iv t), (0, .ref 15), (1, gs_iv m), (2, .ref a)]) (List.forall_mem_cons.mpr ⟨(.head _), (List.forall_mem_cons.mpr ⟨(.tail _ (.head _)), (List.forall_mem_cons.mpr ⟨(.tail _ (.tail _ (.head _))), (List.forall_mem_cons.mpr ⟨(.tail _ (.tail _ (.tail _ (.head _)))), (List.forall_mem_cons.mpr ⟨(.tail _ (.tail _ (.tail _ (.tail _ (.head _))))), (fun _ h => absurd h List.not_mem_nil)⟩)⟩)⟩)⟩)⟩) ?_
        exact ih.2 t 0 F1 A1 hI1 hf1 (by omega) (by omega) (by omega) (by omega) (by omega) (by exact i3) (by omega)
    · skip
      intro t k F1 A1 hI1 hf1 i0 i1 i2 i3 i4 i5 hm
      have b6 := gs_row_sz hr hI1
      have b7 : (0 : Int) ≤ F1 15 1 ∧ F1 15 1 ≤ 6 := hI1.1 15 1
      refine sA_iload dd_X0_pushRim_13 (.head _) ?_
      refine sA_iconst (z := 2) dd_X0_pushRim_15 ?_
      refine sA_aload_n dd_X0_pushRim_16 rfl (.tail _ (.tail _ (.head _))) ?_
      refine sA_geti (ci := 0) (j := 1) (q := (RX0, TX0, 4)) dd_X0_pushRim_17 rfl (by decide) fl_X0_28 (by decide) gs_s15 rfl ?_
      refine sA_imul dd_X0_pushRim_20 ?_
      refine sA_icmp_ge (tgt := 61) dd_X0_pushRim_21 (by decide) (by omega) (by omega) (fun q8 => ?_) (fun q8 => ?_)
      · skip
        refine sA_iinc (lv' := [(3, gs_iv (t + 1)), (4, gs_iv k), (0, .ref 15), (1, gs_iv m), (2, .ref a)]) dd_X0_pushRim_61 (.tail _ (.head _)) (by decide) rfl ?_
        refine sA_goto (tgt := 2) dd_X0_pushRim_64 (by decide) ?_
        refine sA_sub (lv2 := [(3, gs_iv (t + 1)), (0, .ref 15), (1, gs_iv m), (2, .ref a)]) (List.forall_mem_cons.mpr ⟨(.head _), (List.forall_mem_cons.mpr ⟨(.tail _ (.tail _ (.head _))), (List.forall_mem_cons.mpr ⟨(.tail _ (.tail _ (.tail _ (.head _)))), (List.forall_mem_cons.mpr ⟨(.tail _ (.tail _ (.tail _ (.tail _ (.head _))))), (fun _ h => absurd h List.not_mem_nil)⟩)⟩)⟩)⟩) ?_
        exact ih.1 (t + 1) F1 A1 hI1 hf1 (by omega) (by omega) (by omega) (by rw [show (t + 1).toNat = t.toNat + 1 by omega]; show _ = sp_all _ (sp_rep (sp_rim g m) t.toNat ++ sp_rim g m); rw [sp_all_app, i5, show k = 4 * g by omega]; rfl) (by omega)
      · skip
        refine sA_aload_n dd_X0_pushRim_24 rfl (.tail _ (.tail _ (.tail _ (.tail _ (.head _))))) ?_
        refine sA_iload_n dd_X0_pushRim_25 rfl (.tail _ (.tail _ (.tail _ (.head _)))) ?_
        refine sA_if_le (tgt := 37) dd_X0_pushRim_26 (by decide) (by omega) (fun q9 => ?_) (fun q9 => ?_)
        · skip
          refine sA_iconst (z := 2) dd_X0_pushRim_37 ?_
          refine sA_aload_n dd_X0_pushRim_38 rfl (.tail _ (.tail _ (.head _))) ?_
          refine sA_geti (ci := 0) (j := 1) (q := (RX0, TX0, 4)) dd_X0_pushRim_39 rfl (by decide) fl_X0_28 (by decide) gs_s15 rfl ?_
          refine sA_imul dd_X0_pushRim_42 ?_
          refine sA_iconst (z := 1) dd_X0_pushRim_43 ?_
          refine sA_isub dd_X0_pushRim_44 ?_
          refine sA_iload dd_X0_pushRim_45 (.head _) ?_
          refine sA_isub dd_X0_pushRim_47 ?_
          refine sA_callS (y2 := m_X0_rimLetter) (n2 := 1) (d2 := 1) (as := [gs_iv (((2 * (F1 15 1)) - 1) - k)]) (rest := [.ref a]) dd_X0_pushRim_48 ok_X0_rimLetter ml_X0_65 rfl rfl (Nat.le_of_ble_eq_true rfl) (by decide) (c_X0_rimLetter_vf (by omega)) (fun r10 F11 A12 h13 => ?_)
          obtain ⟨z16, e15, e17, e18, x14⟩ := h13
          subst e15 e17 e18
          have y19 : z16 = sp_rl (((2 * (F1 15 1)) - 1) - k) ∧ -6 ≤ z16 ∧ z16 ≤ 6 := x14
          clear x14
          show sA _ _ _ 51 _ [gs_iv z16, .ref a] _ _
          refine sA_ineg dd_X0_pushRim_51 ?_
          refine sA_callV (y2 := m_X4_push) (n2 := 1) (d2 := 1) (a := a) (ci := 4) (q := (RX4, TX4, 2)) (as := [gs_iv (-z16)]) (rest := []) dd_X0_pushRim_52 ok_X4_push ml_X0_52 rfl rfl (Nat.lt_of_succ_lt hr.1) hr.2.1 rfl rfl (Nat.le_of_ble_eq_true rfl) (by decide) (c_X4_push_vs hI1 hr (by omega)) (fun r20 F21 A22 h23 => ?_)
          obtain ⟨e25, I26, f27, x24⟩ := h23
          subst e25
          have v28 : F21 15 1 = F1 15 1 := f27.1 15 1 (by first | exact id | omega | (dsimp only; omega) | (dsimp only) | fail)
          have f30 := gs_fr_tr hf1 f27 (fun b j h => by first | exact False.elim h | omega | (dsimp only at h ⊢; omega) | fail) (fun b h => by first | exact False.elim h | omega | (dsimp only at h ⊢; omega) | fail)
          have y31 : (F21 a 1 ≤ F1 a 1 + 1 ∧ 0 ≤ F21 a 1) ∧ (F1 a 1 < (L : Int) → gs_stk (A22 (a + 1)) (F21 a 1).toNat = sp_push (gs_stk (A1 (a + 1)) (F1 a 1).toNat) (-z16)) := x24
          clear x24
          show sA _ _ _ 55 _ [] _ _
          refine sA_iinc (lv' := [(4, gs_iv (k + 1)), (3, gs_iv t), (0, .ref 15), (1, gs_iv m), (2, .ref a)]) dd_X0_pushRim_55 (.head _) (by decide) rfl ?_
          refine sA_goto (tgt := 13) dd_X0_pushRim_58 (by decide) ?_
          have b32 := gs_row_sz hr I26
          have b33 : (0 : Int) ≤ F21 15 1 ∧ F21 15 1 ≤ 6 := I26.1 15 1
          refine sA_sub (lv2 := [(4, gs_iv (k + 1)), (3, gs_iv t), (0, .ref 15), (1, gs_iv m), (2, .ref a)]) (List.forall_mem_cons.mpr ⟨(.head _), (List.forall_mem_cons.mpr ⟨(.tail _ (.head _)), (List.forall_mem_cons.mpr ⟨(.tail _ (.tail _ (.head _))), (List.forall_mem_cons.mpr ⟨(.tail _ (.tail _ (.tail _ (.head _)))), (List.forall_mem_cons.mpr ⟨(.tail _ (.tail _ (.tail _ (.tail _ (.head _))))), (fun _ h => absurd h List.not_mem_nil)⟩)⟩)⟩)⟩)⟩) ?_
          exact ih.2 t (k + 1) F21 A22 I26 f30 (by omega) (by omega) (by omega) (by omega) (by omega) (by rw [show (k + 1).toNat = k.toNat + 1 by omega, sp_all_sl, ← i5]; exact (y31.2 (by omega)).trans (sp_push_cg (by rw [sp_rimf_neg (by omega) (by omega), y19.1, show 2 * F1 15 1 - 1 - k = 4 * g - 1 - k by omega]) rfl)) (by omega)
        · skip
          refine sA_iload dd_X0_pushRim_29 (.head _) ?_
          refine sA_callS (y2 := m_X0_rimLetter) (n2 := 1) (d2 := 1) (as := [gs_iv k]) (rest := [.ref a]) dd_X0_pushRim_31 ok_X0_rimLetter ml_X0_65 rfl rfl (Nat.le_of_ble_eq_true rfl) (by decide) (c_X0_rimLetter_vf (by omega)) (fun r34 F35 A36 h37 => ?_)
          obtain ⟨z40, e39, e41, e42, x38⟩ := h37
          subst e39 e41 e42
          have y43 : z40 = sp_rl k ∧ -6 ≤ z40 ∧ z40 ≤ 6 := x38
          clear x38
          show sA _ _ _ 34 _ [gs_iv z40, .ref a] _ _
          refine sA_goto (tgt := 52) dd_X0_pushRim_34 (by decide) ?_
          refine sA_callV (y2 := m_X4_push) (n2 := 1) (d2 := 1) (a := a) (ci := 4) (q := (RX4, TX4, 2)) (as := [gs_iv z40]) (rest := []) dd_X0_pushRim_52 ok_X4_push ml_X0_52 rfl rfl (Nat.lt_of_succ_lt hr.1) hr.2.1 rfl rfl (Nat.le_of_ble_eq_true rfl) (by decide) (c_X4_push_vs hI1 hr (by omega)) (fun r44 F45 A46 h47 => ?_)
          obtain ⟨e49, I50, f51, x48⟩ := h47
          subst e49
          have v52 : F45 15 1 = F1 15 1 := f51.1 15 1 (by first | exact id | omega | (dsimp only; omega) | (dsimp only) | fail)
          have f54 := gs_fr_tr hf1 f51 (fun b j h => by first | exact False.elim h | omega | (dsimp only at h ⊢; omega) | fail) (fun b h => by first | exact False.elim h | omega | (dsimp only at h ⊢; omega) | fail)
          have y55 : (F45 a 1 ≤ F1 a 1 + 1 ∧ 0 ≤ F45 a 1) ∧ (F1 a 1 < (L : Int) → gs_stk (A46 (a + 1)) (F45 a 1).toNat = sp_push (gs_stk (A1 (a + 1)) (F1 a 1).toNat) z40) := x48
          clear x48
          show sA _ _ _ 55 _ [] _ _
          refine sA_iinc (lv' := [(4, gs_iv (k + 1)), (3, gs_iv t), (0, .ref 15), (1, gs_iv m), (2, .ref a)]) dd_X0_pushRim_55 (.head _) (by decide) rfl ?_
          refine sA_goto (tgt := 13) dd_X0_pushRim_58 (by decide) ?_
          have b56 := gs_row_sz hr I50
          have b57 : (0 : Int) ≤ F45 15 1 ∧ F45 15 1 ≤ 6 := I50.1 15 1
          refine sA_sub (lv2 := [(4, gs_iv (k + 1)), (3, gs_iv t), (0, .ref 15), (1, gs_iv m), (2, .ref a)]) (List.forall_mem_cons.mpr ⟨(.head _), (List.forall_mem_cons.mpr ⟨(.tail _ (.head _)), (List.forall_mem_cons.mpr ⟨(.tail _ (.tail _ (.head _))), (List.forall_mem_cons.mpr ⟨(.tail _ (.tail _ (.tail _ (.head _)))), (List.forall_mem_cons.mpr ⟨(.tail _ (.tail _ (.tail _ (.tail _ (.head _))))), (fun _ h => absurd h List.not_mem_nil)⟩)⟩)⟩)⟩)⟩) ?_
          exact ih.2 t (k + 1) F45 A46 I50 f54 (by omega) (by omega) (by omega) (by omega) (by omega) (by rw [show (k + 1).toNat = k.toNat + 1 by omega, sp_all_sl, ← i5]; exact (y55.2 (by omega)).trans (sp_push_cg (y43.1.trans (sp_rimf_pos (by omega) (by omega)).symm) rfl)) (by omega)
theorem c_X0_pushRim_vf {a L : Nat} {m : Int} {g : Int} {F A : gs_F} (hI : gs_I F A) (hm0 : -5 ≤ m ∧ m ≤ 5) (hr : gs_row a L) (hL : L = 400) (hs : F a 1 ≤ 200) (h15 : F 15 1 = 2 * g) (hg : 1 ≤ g ∧ g ≤ 3) (ha18 : 18 ≤ a) : sC m_X0_pushRim 2 [.ref 15, gs_iv m, .ref a] F A (fun rv F' A' => rv = none ∧ gs_I F' A' ∧ gs_fr (fun c j => c = a ∧ j = 1) (fun c => c = a + 1) F A F' A' ∧ (F' a 1 ≤ F a 1 + 60 ∧ 0 ≤ F' a 1 ∧ gs_stk (A' (a + 1)) (F' a 1).toNat = sp_all (gs_stk (A (a + 1)) (F a 1).toNat) (sp_rep (sp_rim g m) m.natAbs))) := by
  refine sC_of ok_X0_pushRim.1 (Nat.le_of_ble_eq_true rfl) ?_
  show sA _ _ _ 0 [(0, .ref 15), (1, gs_iv m), (2, .ref a)] [] F A
  have hf : gs_fr (fun c j => c = a ∧ j = 1) (fun c => c = a + 1) F A F A := gs_fr_refl _ _ _ _
  have b58 := gs_row_sz hr hI
  have b59 : (0 : Int) ≤ F 15 1 ∧ F 15 1 ≤ 6 := hI.1 15 1
  refine sA_iconst (z := 0) dd_X0_pushRim_0 ?_
  refine sA_istore_n (lv' := [(3, gs_iv 0), (0, .ref 15), (1, gs_iv m), (2, .ref a)]) dd_X0_pushRim_1 rfl (by decide) rfl ?_
  refine sA_sub (lv2 := [(3, gs_iv 0), (0, .ref 15), (1, gs_iv m), (2, .ref a)]) (List.forall_mem_cons.mpr ⟨(.head _), (List.forall_mem_cons.mpr ⟨(.tail _ (.head _)), (List.forall_mem_cons.mpr ⟨(.tail _ (.tail _ (.head _))), (List.forall_mem_cons.mpr ⟨(.tail _ (.tail _ (.tail _ (.head _)))), (fun _ h => absurd h List.not_mem_nil)⟩)⟩)⟩)⟩) ?_
  exact (k_X0_pushRim_vf hI hm0 hr hL hs h15 hg ha18 ((5 - 0) * 20 + 1 : Int).toNat.succ).1 0 F A hI hf (by omega) (by omega) (by omega) (by rfl) (by omega)
theorem k_X0_areTurns_vf {a L : Nat} {m : Int} {g : Int} {F A : gs_F} (hI : gs_I F A) (hm0 : -5 ≤ m ∧ m ≤ 5) (hr : gs_row a L) (hL : L = 400) (h15 : F 15 1 = 2 * g) (hg : 1 ≤ g ∧ g ≤ 3) (ha30 : 30 ≤ a) : ∀ nN : Nat, (∀ (x : Int)  (F1 A1 : gs_F), gs_I F1 A1 → gs_fr (fun c j => c = a ∧ j = 1) (fun c => c = a + 1) F A F1 A1 → 1 ≤ x ∧ x ≤ 7 → F1 15 1 = 2 * g ∧ x ≤ 2 * g + 1 → (∀ ii : Nat, (ii : Int) + 1 < x → sp_rr g m ((ii : Int) + 1) = gs_ic F A ii) → 7 - x < (nN : Int) → sA m_X0_areTurns 3 (fun rv F' A' => ∃ z : Int, rv = some (gs_iv z) ∧ gs_I F' A' ∧ gs_fr (fun c j => c = a ∧ j = 1) (fun c => c = a + 1) F A F' A' ∧ ((z = 1 ∧ gs_tn F A g m) ∨ (z = 0 ∧ ¬ gs_tn F A g m))) 2 [(3, gs_iv x), (0, .ref 15), (1, gs_iv m), (2, .ref a)] [] F1 A1) := by
  intro nN
  induction nN with
  | zero =>
    exact fun a0 a1 a2 a3 a4 i0 i1 i2 hm => by exfalso; omega
  | succ nN ih =>
    intro x F1 A1 hI1 hf1 i0 i1 i2 hm
    have b1 := gs_row_sz hr hI1
    have b2 : (0 : Int) ≤ F1 15 1 ∧ F1 15 1 ≤ 6 := hI1.1 15 1
    refine sA_iload_n dd_X0_areTurns_2 rfl (.head _) ?_
    refine sA_aload_n dd_X0_areTurns_3 rfl (.tail _ (.head _)) ?_
    refine sA_geti (ci := 0) (j := 1) (q := (RX0, TX0, 4)) dd_X0_areTurns_4 rfl (by decide) fl_X0_28 (by decide) gs_s15 rfl ?_
    refine sA_icmp_gt (tgt := 56) dd_X0_areTurns_7 (by decide) (by omega) (by omega) (fun q3 => ?_) (fun q3 => ?_)
    · skip
      refine sA_iconst (z := 1) dd_X0_areTurns_56 ?_
      refine sA_bret (z := 1) dd_X0_areTurns_57 rfl (by omega) ?_
      refine ⟨_, rfl, hI1, hf1, ?_⟩
      exact .inl ⟨rfl, fun ii hi => i2 ii (by omega)⟩
    · skip
      refine sA_aload_n dd_X0_areTurns_10 rfl (.tail _ (.tail _ (.tail _ (.head _)))) ?_
      refine sA_iconst (z := 0) dd_X0_areTurns_11 ?_
      refine sA_put (ci := 4) (j := 1) (q := (RX4, TX4, 2)) (ty := .int) dd_X0_areTurns_12 rfl (by decide) fl_X0_41 rfl (tyX4_ok 1 (by decide)) rfl rfl (Nat.lt_of_succ_lt hr.1) hr.2.1 rfl ?_
      have I5 : gs_I (gs_up F1 a 1 0) A1 := gs_row_put hr hI1 (by omega)
      have f6 := gs_fr_put hf1 (a := a) (z := 0) (j := 1) (by first | omega | (dsimp only; omega) | (dsimp only) | fail)
      have v7 : gs_up F1 a 1 0 a 1 = 0 := gs_up_self _ _ _ _
      have v8 : (gs_up F1 a 1 0) 15 1 = F1 15 1 := gs_up_ne _ _ (by omega)
      generalize gs_up F1 a 1 0 = F4 at I5 f6 v7 v8 ⊢
      refine sA_aload_n dd_X0_areTurns_15 rfl (.tail _ (.head _)) ?_
      refine sA_iload_n dd_X0_areTurns_16 rfl (.tail _ (.tail _ (.head _))) ?_
      refine sA_aload_n dd_X0_areTurns_17 rfl (.tail _ (.tail _ (.tail _ (.head _)))) ?_
      refine sA_callV (y2 := m_X0_pushRim) (n2 := 2) (d2 := 2) (a := 15) (ci := 0) (q := (RX0, TX0, 4)) (as := [gs_iv m, .ref a]) (rest := []) dd_X0_areTurns_18 ok_X0_pushRim ml_X0_48 rfl rfl (by decide) gs_s15 rfl rfl (Nat.le_of_ble_eq_true rfl) (by decide) (c_X0_pushRim_vf I5 (by omega) hr (by omega) (by omega) (by omega) hg (by omega)) (fun r9 F10 A11 h12 => ?_)
      obtain ⟨e14, I15, f16, x13⟩ := h12
      subst e14
      have v17 : F10 15 1 = F4 15 1 := f16.1 15 1 (by first | exact id | omega | (dsimp only; omega) | (dsimp only) | fail)
      have f19 := gs_fr_tr f6 f16 (fun b j h => by first | exact False.elim h | omega | (dsimp only at h ⊢; omega) | fail) (fun b h => by first | exact False.elim h | omega | (dsimp only at h ⊢; omega) | fail)
      have y20 : F10 a 1 ≤ F4 a 1 + 60 ∧ 0 ≤ F10 a 1 ∧ gs_stk (A11 (a + 1)) (F10 a 1).toNat = sp_all (gs_stk (A1 (a + 1)) (F4 a 1).toNat) (sp_rep (sp_rim g m) m.natAbs) := x13
      clear x13
      show sA _ _ _ 21 _ [] _ _
      have y18a := y20.1
      have y18b := y20.2.1
      refine sA_aload_n dd_X0_areTurns_21 rfl (.tail _ (.tail _ (.tail _ (.head _)))) ?_
      refine sA_iload_n dd_X0_areTurns_22 rfl (.head _) ?_
      refine sA_callV (y2 := m_X4_push) (n2 := 1) (d2 := 1) (a := a) (ci := 4) (q := (RX4, TX4, 2)) (as := [gs_iv x]) (rest := []) dd_X0_areTurns_23 ok_X4_push ml_X0_52 rfl rfl (Nat.lt_of_succ_lt hr.1) hr.2.1 rfl rfl (Nat.le_of_ble_eq_true rfl) (by decide) (c_X4_push_vs I15 hr (by omega)) (fun r21 F22 A23 h24 => ?_)
      obtain ⟨e26, I27, f28, x25⟩ := h24
      subst e26
      have v29 : F22 15 1 = F10 15 1 := f28.1 15 1 (by first | exact id | omega | (dsimp only; omega) | (dsimp only) | fail)
      have f31 := gs_fr_tr f19 f28 (fun b j h => by first | exact False.elim h | omega | (dsimp only at h ⊢; omega) | fail) (fun b h => by first | exact False.elim h | omega | (dsimp only at h ⊢; omega) | fail)
      have y32 : (F22 a 1 ≤ F10 a 1 + 1 ∧ 0 ≤ F22 a 1) ∧ (F10 a 1 < (L : Int) → gs_stk (A23 (a + 1)) (F22 a 1).toNat = sp_push (gs_stk (A11 (a + 1)) (F10 a 1).toNat) x) := x25
      clear x25
      show sA _ _ _ 26 _ [] _ _
      have y23a := y32.1
      refine sA_aload_n dd_X0_areTurns_26 rfl (.tail _ (.head _)) ?_
      refine sA_iload_n dd_X0_areTurns_27 rfl (.tail _ (.tail _ (.head _))) ?_
      refine sA_ineg dd_X0_areTurns_28 ?_
      refine sA_aload_n dd_X0_areTurns_29 rfl (.tail _ (.tail _ (.tail _ (.head _)))) ?_
      refine sA_callV (y2 := m_X0_pushRim) (n2 := 2) (d2 := 2) (a := 15) (ci := 0) (q := (RX0, TX0, 4)) (as := [gs_iv (-m), .ref a]) (rest := []) dd_X0_areTurns_30 ok_X0_pushRim ml_X0_48 rfl rfl (by decide) gs_s15 rfl rfl (Nat.le_of_ble_eq_true rfl) (by decide) (c_X0_pushRim_vf I27 (by omega) hr (by omega) (by omega) (by omega) hg (by omega)) (fun r33 F34 A35 h36 => ?_)
      obtain ⟨e38, I39, f40, x37⟩ := h36
      subst e38
      have v41 : F34 15 1 = F22 15 1 := f40.1 15 1 (by first | exact id | omega | (dsimp only; omega) | (dsimp only) | fail)
      have f43 := gs_fr_tr f31 f40 (fun b j h => by first | exact False.elim h | omega | (dsimp only at h ⊢; omega) | fail) (fun b h => by first | exact False.elim h | omega | (dsimp only at h ⊢; omega) | fail)
      have y44 : F34 a 1 ≤ F22 a 1 + 60 ∧ 0 ≤ F34 a 1 ∧ gs_stk (A35 (a + 1)) (F34 a 1).toNat = sp_all (gs_stk (A23 (a + 1)) (F22 a 1).toNat) (sp_rep (sp_rim g (-m)) (-m).natAbs) := x37
      clear x37
      show sA _ _ _ 33 _ [] _ _
      refine sA_aload_n dd_X0_areTurns_33 rfl (.tail _ (.tail _ (.tail _ (.head _)))) ?_
      refine sA_aload_n dd_X0_areTurns_34 rfl (.tail _ (.head _)) ?_
      refine sA_getr (ci := 0) (j := 0) (q := (RX0, TX0, 4)) dd_X0_areTurns_35 rfl (by decide) fl_X0_11 (by decide) gs_s15 rfl ?_
      refine sA_iload_n dd_X0_areTurns_38 rfl (.head _) ?_
      refine sA_iconst (z := 1) dd_X0_areTurns_39 ?_
      refine sA_isub dd_X0_areTurns_40 ?_
      refine sA_aald (n := 6) dd_X0_areTurns_41 (by decide) (by decide) (by decide) gs_s16 (by omega) (by decide) ?_
      have g45 := gs_row_im (k := (x - 1).toNat) (by omega)
      have hrr : gs_stk (A35 (a + 1)) (F34 a 1).toNat = sp_rr g m x := by
        refine y44.2.2.trans ?_
        rw [y32.2 (by omega), y20.2.2, show F4 a 1 = 0 by omega]
        unfold sp_rr
        rw [Int.natAbs_neg]
        rfl
      have hic : ∀ ii : Nat, ii < 6 → gs_ic F34 A35 ii = gs_ic F A ii := fun ii hi => gs_ic_fr hi (fun c h1 h2 => f43.1 c 1 (by dsimp only; omega)) (fun c h1 h2 => f43.2 c (by dsimp only; omega))
      refine sA_callV (y2 := m_X4_isLike) (n2 := 1) (d2 := 1) (a := a) (ci := 4) (q := (RX4, TX4, 2)) (as := [.ref (18 + 2 * (x - 1).toNat)]) (rest := []) dd_X0_areTurns_42 ok_X4_isLike ml_X0_55 rfl rfl (Nat.lt_of_succ_lt hr.1) hr.2.1 rfl rfl (Nat.le_of_ble_eq_true rfl) (by decide) (c_X4_isLike_vf I39 hr g45) (fun r46 F47 A48 h49 => ?_)
      obtain ⟨z52, e51, e53, e54, x50⟩ := h49
      subst e51 e53 e54
      have y55 : (z52 = 1 ∧ gs_stk (A35 (a + 1)) (F34 a 1).toNat = gs_stk (A35 ((18 + 2 * (x - 1).toNat) + 1)) (F34 (18 + 2 * (x - 1).toNat) 1).toNat) ∨ (z52 = 0 ∧ ¬ gs_stk (A35 (a + 1)) (F34 a 1).toNat = gs_stk (A35 ((18 + 2 * (x - 1).toNat) + 1)) (F34 (18 + 2 * (x - 1).toNat) 1).toNat) := x50
      clear x50
      show sA _ _ _ 45 _ [gs_iv z52] _ _
      refine sA_if_ne (tgt := 50) dd_X0_areTurns_45 (by decide) (by omega) (fun q56 => ?_) (fun q56 => ?_)
      · skip
        have hlk : sp_rr g m x = gs_ic F A (x - 1).toNat := by
          rcases y55 with y | y
          · exact hrr.symm.trans (y.2.trans (hic (x - 1).toNat (by omega)))
          · exfalso
            omega
        refine sA_iinc (lv' := [(3, gs_iv (x + 1)), (0, .ref 15), (1, gs_iv m), (2, .ref a)]) dd_X0_areTurns_50 (.head _) (by decide) rfl ?_
        refine sA_goto (tgt := 2) dd_X0_areTurns_53 (by decide) ?_
        have b57 := gs_row_sz hr I39
        have b58 : (0 : Int) ≤ F34 15 1 ∧ F34 15 1 ≤ 6 := I39.1 15 1
        refine sA_sub (lv2 := [(3, gs_iv (x + 1)), (0, .ref 15), (1, gs_iv m), (2, .ref a)]) (List.forall_mem_cons.mpr ⟨(.head _), (List.forall_mem_cons.mpr ⟨(.tail _ (.head _)), (List.forall_mem_cons.mpr ⟨(.tail _ (.tail _ (.head _))), (List.forall_mem_cons.mpr ⟨(.tail _ (.tail _ (.tail _ (.head _)))), (fun _ h => absurd h List.not_mem_nil)⟩)⟩)⟩)⟩) ?_
        exact ih (x + 1) F34 A35 I39 f43 (by omega) (by omega) (fun ii hi => by by_cases h : (ii : Int) + 1 < x <;> first | exact i2 ii h | (rw [show (ii : Int) + 1 = x by omega, show ii = (x - 1).toNat by omega]; exact hlk) | fail) (by omega)
      · skip
        refine sA_iconst (z := 0) dd_X0_areTurns_48 ?_
        refine sA_bret (z := 0) dd_X0_areTurns_49 rfl (by omega) ?_
        refine ⟨_, rfl, I39, f43, ?_⟩
        refine .inr ⟨rfl, fun w => ?_⟩
        have w2 := w (x - 1).toNat (by omega)
        rw [show (((x - 1).toNat : Nat) : Int) + 1 = x by omega] at w2
        rcases y55 with y | y
        · exfalso
          omega
        · exact y.2 (hrr.trans (w2.trans (hic (x - 1).toNat (by omega)).symm))
theorem c_X0_areTurns_vf {a L : Nat} {m : Int} {g : Int} {F A : gs_F} (hI : gs_I F A) (hm0 : -5 ≤ m ∧ m ≤ 5) (hr : gs_row a L) (hL : L = 400) (h15 : F 15 1 = 2 * g) (hg : 1 ≤ g ∧ g ≤ 3) (ha30 : 30 ≤ a) : sC m_X0_areTurns 3 [.ref 15, gs_iv m, .ref a] F A (fun rv F' A' => ∃ z : Int, rv = some (gs_iv z) ∧ gs_I F' A' ∧ gs_fr (fun c j => c = a ∧ j = 1) (fun c => c = a + 1) F A F' A' ∧ ((z = 1 ∧ gs_tn F A g m) ∨ (z = 0 ∧ ¬ gs_tn F A g m))) := by
  refine sC_of ok_X0_areTurns.1 (Nat.le_of_ble_eq_true rfl) ?_
  show sA _ _ _ 0 [(0, .ref 15), (1, gs_iv m), (2, .ref a)] [] F A
  have hf : gs_fr (fun c j => c = a ∧ j = 1) (fun c => c = a + 1) F A F A := gs_fr_refl _ _ _ _
  have b59 := gs_row_sz hr hI
  have b60 : (0 : Int) ≤ F 15 1 ∧ F 15 1 ≤ 6 := hI.1 15 1
  refine sA_iconst (z := 1) dd_X0_areTurns_0 ?_
  refine sA_istore_n (lv' := [(3, gs_iv 1), (0, .ref 15), (1, gs_iv m), (2, .ref a)]) dd_X0_areTurns_1 rfl (by decide) rfl ?_
  refine sA_sub (lv2 := [(3, gs_iv 1), (0, .ref 15), (1, gs_iv m), (2, .ref a)]) (List.forall_mem_cons.mpr ⟨(.head _), (List.forall_mem_cons.mpr ⟨(.tail _ (.head _)), (List.forall_mem_cons.mpr ⟨(.tail _ (.tail _ (.head _))), (List.forall_mem_cons.mpr ⟨(.tail _ (.tail _ (.tail _ (.head _)))), (fun _ h => absurd h List.not_mem_nil)⟩)⟩)⟩)⟩) ?_
  exact (k_X0_areTurns_vf hI hm0 hr hL h15 hg ha30 (7 - 1 : Int).toNat.succ) 1 F A hI hf (by omega) (by omega) (fun ii hi => by exfalso; omega) (by omega)
theorem k_X0_fullTurns_vf {a L : Nat} {g : Int} {F A : gs_F} (hI : gs_I F A) (hr : gs_row a L) (hL : L = 400) (h15 : F 15 1 = 2 * g) (hg : 1 ≤ g ∧ g ≤ 3) (ha30 : 30 ≤ a) : ∀ nN : Nat, (∀ (m : Int)  (F1 A1 : gs_F), gs_I F1 A1 → gs_fr (fun c j => c = a ∧ j = 1) (fun c => c = a + 1) F A F1 A1 → 0 ≤ m ∧ m ≤ 6 → F1 15 1 = F 15 1 → (∀ j : Int, 0 ≤ j → j < m → ¬ gs_tn F A g j ∧ ¬ gs_tn F A g (-j)) → 6 - m < (nN : Int) → sA m_X0_fullTurns 4 (fun rv F' A' => ∃ z : Int, rv = some (gs_iv z) ∧ gs_I F' A' ∧ gs_fr (fun c j => c = a ∧ j = 1) (fun c => c = a + 1) F A F' A' ∧ ((-100 ≤ z ∧ z ≤ 100) ∧ gs_ft (fun j => gs_tn F A g j) z)) 2 [(2, gs_iv m), (0, .ref 15), (1, .ref a)] [] F1 A1) := by
  intro nN
  induction nN with
  | zero =>
    exact fun a0 a1 a2 a3 a4 i0 i1 i2 hm => by exfalso; omega
  | succ nN ih =>
    intro m F1 A1 hI1 hf1 i0 i1 i2 hm
    have b1 := gs_row_sz hr hI1
    have b2 : (0 : Int) ≤ F1 15 1 ∧ F1 15 1 ≤ 6 := hI1.1 15 1
    refine sA_iload_n dd_X0_fullTurns_2 rfl (.head _) ?_
    refine sA_iconst (z := 5) dd_X0_fullTurns_3 ?_
    refine sA_icmp_gt (tgt := 37) dd_X0_fullTurns_4 (by decide) (by omega) (by omega) (fun q3 => ?_) (fun q3 => ?_)
    · skip
      refine sA_bipush (z := 99) dd_X0_fullTurns_37 (by decide) ?_
      refine sA_iret (z := 99) dd_X0_fullTurns_39 rfl ?_
      refine ⟨_, rfl, hI1, hf1, ?_⟩
      exact ⟨by omega, .inr ⟨fun j h1 h2 => i2 j h1 (by omega), rfl⟩⟩
    · skip
      refine sA_aload_n dd_X0_fullTurns_7 rfl (.tail _ (.head _)) ?_
      refine sA_iload_n dd_X0_fullTurns_8 rfl (.head _) ?_
      refine sA_aload_n dd_X0_fullTurns_9 rfl (.tail _ (.tail _ (.head _))) ?_
      have hic10 : ∀ ii : Nat, ii < 6 → gs_ic F1 A1 ii = gs_ic F A ii := fun ii hi => gs_ic_fr hi (fun c h1 h2 => hf1.1 c 1 (by dsimp only; omega)) (fun c h1 h2 => hf1.2 c (by dsimp only; omega))
      have ht10 : gs_tn F1 A1 g m ↔ gs_tn F A g m := gs_tn_fr (by omega) (by omega) hic10
      refine sA_callV (y2 := m_X0_areTurns) (n2 := 2) (d2 := 3) (a := 15) (ci := 0) (q := (RX0, TX0, 4)) (as := [gs_iv m, .ref a]) (rest := []) dd_X0_fullTurns_10 ok_X0_areTurns ml_X0_44 rfl rfl (by decide) gs_s15 rfl rfl (Nat.le_of_ble_eq_true rfl) (by decide) (c_X0_areTurns_vf hI1 (by omega) hr (by omega) (by omega) hg (by omega)) (fun r4 F5 A6 h7 => ?_)
      obtain ⟨z10, e9, I11, f12, x8⟩ := h7
      subst e9
      have v13 : F5 15 1 = F1 15 1 := f12.1 15 1 (by first | exact id | omega | (dsimp only; omega) | (dsimp only) | fail)
      have f14 := gs_fr_tr hf1 f12 (fun b j h => by first | exact False.elim h | omega | (dsimp only at h ⊢; omega) | fail) (fun b h => by first | exact False.elim h | omega | (dsimp only at h ⊢; omega) | fail)
      have y15 : (z10 = 1 ∧ gs_tn F1 A1 g m) ∨ (z10 = 0 ∧ ¬ gs_tn F1 A1 g m) := x8
      clear x8
      show sA _ _ _ 13 _ [gs_iv z10] _ _
      refine sA_if_eq (tgt := 18) dd_X0_fullTurns_13 (by decide) (by omega) (fun q16 => ?_) (fun q16 => ?_)
      · skip
        have hno1 : ¬ gs_tn F A g m := fun w => by
          rcases y15 with y | y
          · omega
          · exact y.2 (ht10.mpr w)
        refine sA_aload_n dd_X0_fullTurns_18 rfl (.tail _ (.head _)) ?_
        refine sA_iload_n dd_X0_fullTurns_19 rfl (.head _) ?_
        refine sA_ineg dd_X0_fullTurns_20 ?_
        refine sA_aload_n dd_X0_fullTurns_21 rfl (.tail _ (.tail _ (.head _))) ?_
        have hic22 : ∀ ii : Nat, ii < 6 → gs_ic F5 A6 ii = gs_ic F A ii := fun ii hi => gs_ic_fr hi (fun c h1 h2 => f14.1 c 1 (by dsimp only; omega)) (fun c h1 h2 => f14.2 c (by dsimp only; omega))
        have ht22 : gs_tn F5 A6 g (-m) ↔ gs_tn F A g (-m) := gs_tn_fr (by omega) (by omega) hic22
        refine sA_callV (y2 := m_X0_areTurns) (n2 := 2) (d2 := 3) (a := 15) (ci := 0) (q := (RX0, TX0, 4)) (as := [gs_iv (-m), .ref a]) (rest := []) dd_X0_fullTurns_22 ok_X0_areTurns ml_X0_44 rfl rfl (by decide) gs_s15 rfl rfl (Nat.le_of_ble_eq_true rfl) (by decide) (c_X0_areTurns_vf I11 (by omega) hr (by omega) (by omega) hg (by omega)) (fun r17 F18 A19 h20 => ?_)
        obtain ⟨z23, e22, I24, f25, x21⟩ := h20
        subst e22
        have v26 : F18 15 1 = F5 15 1 := f25.1 15 1 (by first | exact id | omega | (dsimp only; omega) | (dsimp only) | fail)
        have f27 := gs_fr_tr f14 f25 (fun b j h => by first | exact False.elim h | omega | (dsimp only at h ⊢; omega) | fail) (fun b h => by first | exact False.elim h | omega | (dsimp only at h ⊢; omega) | fail)
        have y28 : (z23 = 1 ∧ gs_tn F5 A6 g (-m)) ∨ (z23 = 0 ∧ ¬ gs_tn F5 A6 g (-m)) := x21
        clear x21
        show sA _ _ _ 25 _ [gs_iv z23] _ _
        refine sA_if_eq (tgt := 31) dd_X0_fullTurns_25 (by decide) (by omega) (fun q29 => ?_) (fun q29 => ?_)
        · skip
          have hno2 : ¬ gs_tn F A g (-m) := fun w => by
            rcases y28 with y | y
            · omega
            · exact y.2 (ht22.mpr w)
          refine sA_iinc (lv' := [(2, gs_iv (m + 1)), (0, .ref 15), (1, .ref a)]) dd_X0_fullTurns_31 (.head _) (by decide) rfl ?_
          refine sA_goto (tgt := 2) dd_X0_fullTurns_34 (by decide) ?_
          have b30 := gs_row_sz hr I24
          have b31 : (0 : Int) ≤ F18 15 1 ∧ F18 15 1 ≤ 6 := I24.1 15 1
          refine sA_sub (lv2 := [(2, gs_iv (m + 1)), (0, .ref 15), (1, .ref a)]) (List.forall_mem_cons.mpr ⟨(.head _), (List.forall_mem_cons.mpr ⟨(.tail _ (.head _)), (List.forall_mem_cons.mpr ⟨(.tail _ (.tail _ (.head _))), (fun _ h => absurd h List.not_mem_nil)⟩)⟩)⟩) ?_
          exact ih (m + 1) F18 A19 I24 f27 (by omega) (by omega) (gs_no_ext (T := fun j => gs_tn F A g j) i2 hno1 hno2) (by omega)
        · skip
          refine sA_iload_n dd_X0_fullTurns_28 rfl (.head _) ?_
          refine sA_ineg dd_X0_fullTurns_29 ?_
          refine sA_iret (z := -m) dd_X0_fullTurns_30 rfl ?_
          refine ⟨_, rfl, I24, f27, ?_⟩
          refine ⟨by omega, ?_⟩
          rcases y28 with y | y
          · exact .inl ⟨m, by omega, by omega, i2, .inr ⟨hno1, ht22.mp y.2, rfl⟩⟩
          · exfalso
            omega
      · skip
        refine sA_iload_n dd_X0_fullTurns_16 rfl (.head _) ?_
        refine sA_iret (z := m) dd_X0_fullTurns_17 rfl ?_
        refine ⟨_, rfl, I11, f14, ?_⟩
        refine ⟨by omega, ?_⟩
        rcases y15 with y | y
        · exact .inl ⟨m, by omega, by omega, i2, .inl ⟨ht10.mp y.2, rfl⟩⟩
        · exfalso
          omega
theorem c_X0_fullTurns_vf {a L : Nat} {g : Int} {F A : gs_F} (hI : gs_I F A) (hr : gs_row a L) (hL : L = 400) (h15 : F 15 1 = 2 * g) (hg : 1 ≤ g ∧ g ≤ 3) (ha30 : 30 ≤ a) : sC m_X0_fullTurns 4 [.ref 15, .ref a] F A (fun rv F' A' => ∃ z : Int, rv = some (gs_iv z) ∧ gs_I F' A' ∧ gs_fr (fun c j => c = a ∧ j = 1) (fun c => c = a + 1) F A F' A' ∧ ((-100 ≤ z ∧ z ≤ 100) ∧ gs_ft (fun j => gs_tn F A g j) z)) := by
  refine sC_of ok_X0_fullTurns.1 (Nat.le_of_ble_eq_true rfl) ?_
  show sA _ _ _ 0 [(0, .ref 15), (1, .ref a)] [] F A
  have hf : gs_fr (fun c j => c = a ∧ j = 1) (fun c => c = a + 1) F A F A := gs_fr_refl _ _ _ _
  have b32 := gs_row_sz hr hI
  have b33 : (0 : Int) ≤ F 15 1 ∧ F 15 1 ≤ 6 := hI.1 15 1
  refine sA_iconst (z := 0) dd_X0_fullTurns_0 ?_
  refine sA_istore_n (lv' := [(2, gs_iv 0), (0, .ref 15), (1, .ref a)]) dd_X0_fullTurns_1 rfl (by decide) rfl ?_
  refine sA_sub (lv2 := [(2, gs_iv 0), (0, .ref 15), (1, .ref a)]) (List.forall_mem_cons.mpr ⟨(.head _), (List.forall_mem_cons.mpr ⟨(.tail _ (.head _)), (List.forall_mem_cons.mpr ⟨(.tail _ (.tail _ (.head _))), (fun _ h => absurd h List.not_mem_nil)⟩)⟩)⟩) ?_
  exact (k_X0_fullTurns_vf hI hr hL h15 hg ha30 (6 - 0 : Int).toNat.succ) 0 F A hI hf (by omega) (by omega) (fun j h1 h2 => by exfalso; omega) (by omega)
theorem c_X8_turns_vf {p : Int} {F A : gs_F} (hI : gs_I F A) (hp : -2147483648 ≤ p ∧ p ≤ 2147483647) (hW : gs_W (A 6) (F 0 11)) (hcd : 0 ≤ p → p ≤ 7 → ∀ i : Int, 0 ≤ i → i < F (90 + 2 * p.toNat) 1 → 0 ≤ A (90 + 2 * p.toNat + 1) i.toNat ∧ A (90 + 2 * p.toNat + 1) i.toNat < 6 * F 0 11 - 2) : sC m_X8_turns 5 [.ref 0, gs_iv p] F A (fun rv F' A' => ∃ z : Int, rv = some (gs_iv z) ∧ gs_I F' A' ∧ gs_fr (fun c j => (c = 15 ∧ j = 1) ∨ (18 ≤ c ∧ c < 30 ∧ j = 1) ∨ (c = 48 ∧ j = 1)) (fun c => c = 7 ∨ (18 ≤ c ∧ c < 30) ∨ c = 49) F A F' A' ∧ (((p < 0 ∨ 7 < p) ∧ z = -1001) ∨ (0 ≤ p ∧ p ≤ 7 ∧ gs_tv (gs_plc F A (F 0 11) (90 + 2 * p.toNat)) (F 0 11) z))) := by
  refine sC_of ok_X8_turns.1 (Nat.le_of_ble_eq_true rfl) ?_
  show sA _ _ _ 0 [(0, .ref 0), (1, gs_iv p)] [] F A
  have hf : gs_fr (fun c j => (c = 15 ∧ j = 1) ∨ (18 ≤ c ∧ c < 30 ∧ j = 1) ∨ (c = 48 ∧ j = 1)) (fun c => c = 7 ∨ (18 ≤ c ∧ c < 30) ∨ c = 49) F A F A := gs_fr_refl _ _ _ _
  have b1 : (0 : Int) ≤ F 15 1 ∧ F 15 1 ≤ 6 := hI.1 15 1
  have hg : (1 : Int) ≤ F 0 11 ∧ F 0 11 ≤ 3 := hI.1 0 11
  refine sA_iload_n dd_X8_turns_0 rfl (.tail _ (.head _)) ?_
  refine sA_callS (y2 := m_X8_isPlan) (n2 := 1) (d2 := 1) (as := [gs_iv p]) (rest := []) dd_X8_turns_1 ok_X8_isPlan ml_X8_148 rfl rfl (Nat.le_of_ble_eq_true rfl) (by decide) (c_X8_isPlan (by omega)) (fun r2 F3 A4 h5 => ?_)
  obtain ⟨z8, e7, e9, e10, x6⟩ := h5
  subst e7 e9 e10
  show sA _ _ _ 4 _ [gs_iv z8] _ _
  refine sA_if_ne (tgt := 11) dd_X8_turns_4 (by decide) (by omega) (fun q11 => ?_) (fun q11 => ?_)
  · skip
    refine sA_aload_n dd_X8_turns_11 rfl (.head _) ?_
    refine sA_getr (ci := 8) (j := 5) (q := (RX8, TX8, 13)) dd_X8_turns_12 rfl (by decide) fl_X8_49 (by decide) gs_s0 rfl ?_
    refine sA_aload_n dd_X8_turns_15 rfl (.head _) ?_
    refine sA_geti (ci := 8) (j := 11) (q := (RX8, TX8, 13)) dd_X8_turns_16 rfl (by decide) fl_X8_84 (by decide) gs_s0 rfl ?_
    have b12 : (1 : Int) ≤ F 0 11 ∧ F 0 11 ≤ 3 := hI.1 0 11
    refine sA_callV (y2 := m_X0_begin) (n2 := 1) (d2 := 2) (a := 15) (ci := 0) (q := (RX0, TX0, 4)) (as := [gs_iv (F 0 11)]) (rest := []) dd_X8_turns_19 ok_X0_begin ml_X8_193 rfl rfl (by decide) gs_s15 rfl rfl (Nat.le_of_ble_eq_true rfl) (by decide) (c_X0_begin_vf hI (by omega)) (fun r13 F14 A15 h16 => ?_)
    obtain ⟨e18, I19, f20, x17⟩ := h16
    subst e18
    have f22 := gs_fr_tr hf f20 (fun b j h => by first | exact False.elim h | omega | (dsimp only at h ⊢; omega) | fail) (fun b h => by first | exact False.elim h | omega | (dsimp only at h ⊢; omega) | fail)
    have y23 : F14 15 1 = 2 * (F 0 11) ∧ ∀ ii : Nat, (ii : Int) < 2 * (F 0 11) → gs_ic F14 A15 ii = [(ii : Int) + 1] := x17
    clear x17
    show sA _ _ _ 22 _ [] _ _
    refine sA_aload_n dd_X8_turns_22 rfl (.head _) ?_
    refine sA_getr (ci := 8) (j := 5) (q := (RX8, TX8, 13)) dd_X8_turns_23 rfl (by decide) fl_X8_49 (by decide) gs_s0 rfl ?_
    refine sA_aload_n dd_X8_turns_26 rfl (.head _) ?_
    refine sA_getr (ci := 8) (j := 1) (q := (RX8, TX8, 13)) dd_X8_turns_27 rfl (by decide) fl_X8_17 (by decide) gs_s0 rfl ?_
    refine sA_iload_n dd_X8_turns_30 rfl (.tail _ (.head _)) ?_
    refine sA_aald (n := 8) dd_X8_turns_31 (by decide) (by decide) (by decide) gs_s2 (by omega) (by decide) ?_
    have g24 := gs_plan_at (k := p.toNat) (by omega)
    have hp1 : A15 (90 + 2 * p.toNat + 1) = A (90 + 2 * p.toNat + 1) := f22.2 (90 + 2 * p.toNat + 1) (by dsimp only; omega)
    have hpn : F14 (90 + 2 * p.toNat) 1 = F (90 + 2 * p.toNat) 1 := f22.1 (90 + 2 * p.toNat) 1 (by dsimp only; omega)
    have hW1 : gs_W (A15 6) (F 0 11) := by rw [f22.2 6 (by dsimp only; omega)]; exact hW
    have hcd1 : ∀ i : Int, 0 ≤ i → i < F14 (90 + 2 * p.toNat) 1 → 0 ≤ A15 (90 + 2 * p.toNat + 1) i.toNat ∧ A15 (90 + 2 * p.toNat + 1) i.toNat < 6 * F 0 11 - 2 := by rw [hp1, hpn]; exact (hcd (by omega) (by omega))
    have y8a := y23.1
    have hVI1 : ∀ ii : Nat, (ii : Int) < F14 15 1 → sp_val (F 0 11) (gs_ic F14 A15 ii) := fun ii hi => by
      rw [y23.2 ii (by omega)]
      exact gs_val1 (by omega)
    have hPe : ∀ r, gs_plc F14 A15 (F 0 11) (90 + 2 * p.toNat) r = gs_plc F A (F 0 11) (90 + 2 * p.toNat) r := fun r => by
      unfold gs_plc
      rw [hp1, hpn]
    refine sA_callV (y2 := m_X0_doPlan) (n2 := 1) (d2 := 4) (a := 15) (ci := 0) (q := (RX0, TX0, 4)) (as := [.ref (90 + 2 * p.toNat)]) (rest := []) dd_X8_turns_32 ok_X0_doPlan ml_X8_196 rfl rfl (by decide) gs_s15 rfl rfl (Nat.le_of_ble_eq_true rfl) (by decide) (c_X0_doPlan_vf I19 g24 hg hcd1 hW1 hVI1 (by omega)) (fun r25 F26 A27 h28 => ?_)
    obtain ⟨z31, e30, I32, f33, x29⟩ := h28
    subst e30
    have v34 : F26 15 1 = F14 15 1 := f33.1 15 1 (by first | exact id | omega | (dsimp only; omega) | (dsimp only) | fail)
    have f35 := gs_fr_tr f22 f33 (fun b j h => by first | exact False.elim h | omega | (dsimp only at h ⊢; omega) | fail) (fun b h => by first | exact False.elim h | omega | (dsimp only at h ⊢; omega) | fail)
    have y36 : (z31 = 1 ∧ ∀ ii : Nat, (ii : Int) < F14 15 1 → gs_plc F14 A15 (F 0 11) (90 + 2 * p.toNat) (gs_ic F14 A15 ii) = some (gs_ic F26 A27 ii)) ∨ (z31 = 0 ∧ ∃ ii : Nat, (ii : Int) < F14 15 1 ∧ gs_plc F14 A15 (F 0 11) (90 + 2 * p.toNat) (gs_ic F14 A15 ii) = none) := x29
    clear x29
    show sA _ _ _ 35 _ [gs_iv z31] _ _
    refine sA_if_eq (tgt := 52) dd_X8_turns_35 (by decide) (by omega) (fun q37 => ?_) (fun q37 => ?_)
    · skip
      refine sA_sipush (z := (-1005)) dd_X8_turns_52 (by decide) ?_
      refine sA_iret (z := -1005) dd_X8_turns_55 rfl ?_
      refine ⟨_, rfl, I32, f35, ?_⟩
      rcases y36 with y | y
      · exfalso
        omega
      · obtain ⟨y1, ii, hi, y2⟩ := y
        rw [hPe, y23.2 ii (by omega)] at y2
        exact .inr ⟨by omega, by omega, .inl ⟨⟨ii, by omega, y2⟩, rfl⟩⟩
    · skip
      have hst : ∀ ii : Nat, (ii : Int) < 2 * F 0 11 → gs_it (gs_plc F A (F 0 11) (90 + 2 * p.toNat)) 1 [(ii : Int) + 1] = some (gs_ic F26 A27 ii) := by
        rcases y36 with y | y
        · intro ii hi
          have w := y.2 ii (by omega)
          rw [hPe, y23.2 ii (by omega)] at w
          exact w
        · exfalso
          omega
      refine sA_aload_n dd_X8_turns_38 rfl (.head _) ?_
      refine sA_getr (ci := 8) (j := 5) (q := (RX8, TX8, 13)) dd_X8_turns_39 rfl (by decide) fl_X8_49 (by decide) gs_s0 rfl ?_
      refine sA_aload_n dd_X8_turns_42 rfl (.head _) ?_
      refine sA_getr (ci := 8) (j := 8) (q := (RX8, TX8, 13)) dd_X8_turns_43 rfl (by decide) fl_X8_69 (by decide) gs_s0 rfl ?_
      refine sA_callV (y2 := m_X0_fullTurns) (n2 := 1) (d2 := 4) (a := 15) (ci := 0) (q := (RX0, TX0, 4)) (as := [.ref 48]) (rest := []) dd_X8_turns_46 ok_X0_fullTurns ml_X8_199 rfl rfl (by decide) gs_s15 rfl rfl (Nat.le_of_ble_eq_true rfl) (by decide) (c_X0_fullTurns_vf I32 gs_row_48 (by omega) (by omega) hg (by omega)) (fun r38 F39 A40 h41 => ?_)
      obtain ⟨z44, e43, I45, f46, x42⟩ := h41
      subst e43
      have v47 : F39 15 1 = F26 15 1 := f46.1 15 1 (by first | exact id | omega | (dsimp only; omega) | (dsimp only) | fail)
      have f48 := gs_fr_tr f35 f46 (fun b j h => by first | exact False.elim h | omega | (dsimp only at h ⊢; omega) | fail) (fun b h => by first | exact False.elim h | omega | (dsimp only at h ⊢; omega) | fail)
      have y49 : (-100 ≤ z44 ∧ z44 ≤ 100) ∧ gs_ft (fun j => gs_tn F26 A27 (F 0 11) j) z44 := x42
      clear x42
      show sA _ _ _ 49 _ [gs_iv z44] _ _
      refine sA_goto (tgt := 55) dd_X8_turns_49 (by decide) ?_
      refine sA_iret (z := z44) dd_X8_turns_55 rfl ?_
      refine ⟨_, rfl, I45, f48, ?_⟩
      refine .inr ⟨by omega, by omega, .inr (gs_tk_mk (F := F26) (A := A27) (by omega) hst y49.2)⟩
  · skip
    refine sA_sipush (z := (-1001)) dd_X8_turns_7 (by decide) ?_
    refine sA_iret (z := -1001) dd_X8_turns_10 rfl ?_
    refine ⟨_, rfl, hI, hf, ?_⟩
    exact .inl ⟨by omega, rfl⟩
theorem k_X8_order_vf {p n : Int} {F A : gs_F} (hI : gs_I F A) (hp : -2147483648 ≤ p ∧ p ≤ 2147483647) (hn : -2147483648 ≤ n ∧ n ≤ 2147483647) (hW : gs_W (A 6) (F 0 11)) (hcd : 0 ≤ p → p ≤ 7 → ∀ i : Int, 0 ≤ i → i < F (90 + 2 * p.toNat) 1 → 0 ≤ A (90 + 2 * p.toNat + 1) i.toNat ∧ A (90 + 2 * p.toNat + 1) i.toNat < 6 * F 0 11 - 2) : ∀ nN : Nat, (∀ (k : Int)  (F1 A1 : gs_F), gs_I F1 A1 → gs_fr (fun c j => (c = 15 ∧ j = 1) ∨ (18 ≤ c ∧ c < 30 ∧ j = 1) ∨ (c = 48 ∧ j = 1)) (fun c => c = 7 ∨ (18 ≤ c ∧ c < 30) ∨ c = 49) F A F1 A1 → 1 ≤ k ∧ k ≤ n + 1 → 0 ≤ p ∧ p ≤ 7 → 1 ≤ n ∧ n ≤ 24 → (∀ ii : Nat, (ii : Int) < 2 * F 0 11 → gs_it (gs_plc F A (F 0 11) (90 + 2 * p.toNat)) (k - 1).toNat [(ii : Int) + 1] = some (gs_ic F1 A1 ii)) → F1 15 1 = 2 * F 0 11 → (∀ ii : Nat, (ii : Int) < 2 * F 0 11 → sp_val (F 0 11) (gs_ic F1 A1 ii)) → (∀ j : Int, 1 ≤ j → j < k → gs_tk (gs_plc F A (F 0 11) (90 + 2 * p.toNat)) (F 0 11) j.toNat 99) → n + 1 - k < (nN : Int) → sA m_X8_order 5 (fun rv F' A' => ∃ z : Int, rv = some (gs_iv z) ∧ gs_I F' A' ∧ gs_fr (fun c j => (c = 15 ∧ j = 1) ∨ (18 ≤ c ∧ c < 30 ∧ j = 1) ∨ (c = 48 ∧ j = 1)) (fun c => c = 7 ∨ (18 ≤ c ∧ c < 30) ∨ c = 49) F A F' A' ∧ (((p < 0 ∨ 7 < p) ∧ z = -1001) ∨ (0 ≤ p ∧ p ≤ 7 ∧ (n < 1 ∨ 24 < n) ∧ z = -1002) ∨ (0 ≤ p ∧ p ≤ 7 ∧ 1 ≤ n ∧ n ≤ 24 ∧ gs_or (gs_plc F A (F 0 11) (90 + 2 * p.toNat)) (F 0 11) n z))) 39 [(3, gs_iv k), (0, .ref 0), (1, gs_iv p), (2, gs_iv n)] [] F1 A1) := by
  intro nN
  induction nN with
  | zero =>
    exact fun a0 a1 a2 a3 a4 i0 i1 i2 i3 i4 i5 i6 hm => by exfalso; omega
  | succ nN ih =>
    intro k F1 A1 hI1 hf1 i0 i1 i2 i3 i4 i5 i6 hm
    have b1 : (0 : Int) ≤ F1 15 1 ∧ F1 15 1 ≤ 6 := hI1.1 15 1
    have hg : (1 : Int) ≤ F 0 11 ∧ F 0 11 ≤ 3 := hI.1 0 11
    refine sA_iload_n dd_X8_order_39 rfl (.head _) ?_
    refine sA_iload_n dd_X8_order_40 rfl (.tail _ (.tail _ (.tail _ (.head _)))) ?_
    refine sA_icmp_gt (tgt := 88) dd_X8_order_41 (by decide) (by omega) (by omega) (fun q2 => ?_) (fun q2 => ?_)
    · skip
      refine sA_iconst (z := (-1)) dd_X8_order_88 ?_
      refine sA_iret (z := -1) dd_X8_order_89 rfl ?_
      refine ⟨_, rfl, hI1, hf1, ?_⟩
      exact .inr (.inr ⟨by omega, by omega, by omega, by omega, .inr ⟨fun j h1 h2 => i6 j h1 (by omega), rfl⟩⟩)
    · skip
      refine sA_aload_n dd_X8_order_44 rfl (.tail _ (.head _)) ?_
      refine sA_getr (ci := 8) (j := 5) (q := (RX8, TX8, 13)) dd_X8_order_45 rfl (by decide) fl_X8_49 (by decide) gs_s0 rfl ?_
      refine sA_aload_n dd_X8_order_48 rfl (.tail _ (.head _)) ?_
      refine sA_getr (ci := 8) (j := 1) (q := (RX8, TX8, 13)) dd_X8_order_49 rfl (by decide) fl_X8_17 (by decide) gs_s0 rfl ?_
      refine sA_iload_n dd_X8_order_52 rfl (.tail _ (.tail _ (.head _))) ?_
      refine sA_aald (n := 8) dd_X8_order_53 (by decide) (by decide) (by decide) gs_s2 (by omega) (by decide) ?_
      have g3 := gs_plan_at (k := p.toNat) (by omega)
      have hp1 : A1 (90 + 2 * p.toNat + 1) = A (90 + 2 * p.toNat + 1) := hf1.2 (90 + 2 * p.toNat + 1) (by dsimp only; omega)
      have hpn : F1 (90 + 2 * p.toNat) 1 = F (90 + 2 * p.toNat) 1 := hf1.1 (90 + 2 * p.toNat) 1 (by dsimp only; omega)
      have hW1 : gs_W (A1 6) (F 0 11) := by rw [hf1.2 6 (by dsimp only; omega)]; exact hW
      have hcd1 : ∀ i : Int, 0 ≤ i → i < F1 (90 + 2 * p.toNat) 1 → 0 ≤ A1 (90 + 2 * p.toNat + 1) i.toNat ∧ A1 (90 + 2 * p.toNat + 1) i.toNat < 6 * F 0 11 - 2 := by rw [hp1, hpn]; exact (hcd (by omega) (by omega))
      have hPe : ∀ r, gs_plc F1 A1 (F 0 11) (90 + 2 * p.toNat) r = gs_plc F A (F 0 11) (90 + 2 * p.toNat) r := fun r => by
        unfold gs_plc
        rw [hp1, hpn]
      have hVI1 : ∀ ii : Nat, (ii : Int) < F1 15 1 → sp_val (F 0 11) (gs_ic F1 A1 ii) := fun ii hi => i5 ii (by omega)
      refine sA_callV (y2 := m_X0_doPlan) (n2 := 1) (d2 := 4) (a := 15) (ci := 0) (q := (RX0, TX0, 4)) (as := [.ref (90 + 2 * p.toNat)]) (rest := []) dd_X8_order_54 ok_X0_doPlan ml_X8_196 rfl rfl (by decide) gs_s15 rfl rfl (Nat.le_of_ble_eq_true rfl) (by decide) (c_X0_doPlan_vf hI1 g3 hg hcd1 hW1 hVI1 (by omega)) (fun r4 F5 A6 h7 => ?_)
      obtain ⟨z10, e9, I11, f12, x8⟩ := h7
      subst e9
      have v13 : F5 15 1 = F1 15 1 := f12.1 15 1 (by first | exact id | omega | (dsimp only; omega) | (dsimp only) | fail)
      have f14 := gs_fr_tr hf1 f12 (fun b j h => by first | exact False.elim h | omega | (dsimp only at h ⊢; omega) | fail) (fun b h => by first | exact False.elim h | omega | (dsimp only at h ⊢; omega) | fail)
      have y15 : (z10 = 1 ∧ ∀ ii : Nat, (ii : Int) < F1 15 1 → gs_plc F1 A1 (F 0 11) (90 + 2 * p.toNat) (gs_ic F1 A1 ii) = some (gs_ic F5 A6 ii)) ∨ (z10 = 0 ∧ ∃ ii : Nat, (ii : Int) < F1 15 1 ∧ gs_plc F1 A1 (F 0 11) (90 + 2 * p.toNat) (gs_ic F1 A1 ii) = none) := x8
      clear x8
      show sA _ _ _ 57 _ [gs_iv z10] _ _
      refine sA_if_ne (tgt := 64) dd_X8_order_57 (by decide) (by omega) (fun q16 => ?_) (fun q16 => ?_)
      · skip
        have hst0 : ∀ ii : Nat, (ii : Int) < 2 * F 0 11 → gs_plc F A (F 0 11) (90 + 2 * p.toNat) (gs_ic F1 A1 ii) = some (gs_ic F5 A6 ii) := by
          rcases y15 with y | y
          · intro ii hi
            have w := y.2 ii (by omega)
            rw [hPe] at w
            exact w
          · exfalso
            omega
        have hst : ∀ ii : Nat, (ii : Int) < 2 * F 0 11 → gs_it (gs_plc F A (F 0 11) (90 + 2 * p.toNat)) k.toNat [(ii : Int) + 1] = some (gs_ic F5 A6 ii) := by
          rw [show k.toNat = (k - 1).toNat + 1 by omega]
          exact gs_it_step i3 hst0
        refine sA_aload_n dd_X8_order_64 rfl (.tail _ (.head _)) ?_
        refine sA_getr (ci := 8) (j := 5) (q := (RX8, TX8, 13)) dd_X8_order_65 rfl (by decide) fl_X8_49 (by decide) gs_s0 rfl ?_
        refine sA_aload_n dd_X8_order_68 rfl (.tail _ (.head _)) ?_
        refine sA_getr (ci := 8) (j := 8) (q := (RX8, TX8, 13)) dd_X8_order_69 rfl (by decide) fl_X8_69 (by decide) gs_s0 rfl ?_
        refine sA_callV (y2 := m_X0_fullTurns) (n2 := 1) (d2 := 4) (a := 15) (ci := 0) (q := (RX0, TX0, 4)) (as := [.ref 48]) (rest := []) dd_X8_order_72 ok_X0_fullTurns ml_X8_199 rfl rfl (by decide) gs_s15 rfl rfl (Nat.le_of_ble_eq_true rfl) (by decide) (c_X0_fullTurns_vf I11 gs_row_48 (by omega) (by omega) hg (by omega)) (fun r17 F18 A19 h20 => ?_)
        obtain ⟨z23, e22, I24, f25, x21⟩ := h20
        subst e22
        have v26 : F18 15 1 = F5 15 1 := f25.1 15 1 (by first | exact id | omega | (dsimp only; omega) | (dsimp only) | fail)
        have f27 := gs_fr_tr f14 f25 (fun b j h => by first | exact False.elim h | omega | (dsimp only at h ⊢; omega) | fail) (fun b h => by first | exact False.elim h | omega | (dsimp only at h ⊢; omega) | fail)
        have y28 : (-100 ≤ z23 ∧ z23 ≤ 100) ∧ gs_ft (fun j => gs_tn F5 A6 (F 0 11) j) z23 := x21
        clear x21
        show sA _ _ _ 75 _ [gs_iv z23] _ _
        refine sA_bipush (z := 99) dd_X8_order_75 (by decide) ?_
        refine sA_icmp_eq (tgt := 82) dd_X8_order_77 (by decide) (by omega) (by omega) (fun q29 => ?_) (fun q29 => ?_)
        · skip
          have hic72 : ∀ ii : Nat, ii < 6 → gs_ic F18 A19 ii = gs_ic F5 A6 ii := fun ii hi => gs_ic_fr hi (fun c h1 h2 => f25.1 c 1 (by dsimp only; omega)) (fun c h1 h2 => f25.2 c (by dsimp only; omega))
          refine sA_iinc (lv' := [(3, gs_iv (k + 1)), (0, .ref 0), (1, gs_iv p), (2, gs_iv n)]) dd_X8_order_82 (.head _) (by decide) rfl ?_
          refine sA_goto (tgt := 39) dd_X8_order_85 (by decide) ?_
          have b30 : (0 : Int) ≤ F18 15 1 ∧ F18 15 1 ≤ 6 := I24.1 15 1
          refine sA_sub (lv2 := [(3, gs_iv (k + 1)), (0, .ref 0), (1, gs_iv p), (2, gs_iv n)]) (List.forall_mem_cons.mpr ⟨(.head _), (List.forall_mem_cons.mpr ⟨(.tail _ (.head _)), (List.forall_mem_cons.mpr ⟨(.tail _ (.tail _ (.head _))), (List.forall_mem_cons.mpr ⟨(.tail _ (.tail _ (.tail _ (.head _)))), (fun _ h => absurd h List.not_mem_nil)⟩)⟩)⟩)⟩) ?_
          exact ih (k + 1) F18 A19 I24 f27 (by omega) (by omega) (by omega) (fun ii hi => by rw [show (k + 1 - 1).toNat = k.toNat by omega, hic72 ii (by omega)]; exact hst ii hi) (by omega) (fun ii hi => by rw [hic72 ii (by omega)]; exact gs_plc_val hg (hcd (by omega) (by omega)) (i5 ii hi) (hst0 ii hi)) (gs_tk_ext i6 (by have y := y28.2; rw [show z23 = 99 by omega] at y; exact gs_tk_mk (F := F5) (A := A6) (by omega) hst y)) (by omega)
        · skip
          refine sA_iload_n dd_X8_order_80 rfl (.head _) ?_
          refine sA_iret (z := k) dd_X8_order_81 rfl ?_
          refine ⟨_, rfl, I24, f27, ?_⟩
          exact .inr (.inr ⟨by omega, by omega, by omega, by omega, .inl ⟨k, by omega, by omega, i6, .inr ⟨z23, by omega, gs_tk_mk (F := F5) (A := A6) (by omega) hst y28.2, rfl⟩⟩⟩)
      · skip
        refine sA_sipush (z := (-1005)) dd_X8_order_60 (by decide) ?_
        refine sA_iret (z := -1005) dd_X8_order_63 rfl ?_
        refine ⟨_, rfl, I11, f14, ?_⟩
        rcases y15 with y | y
        · exfalso
          omega
        · obtain ⟨y1, ii, hi, y2⟩ := y
          rw [hPe] at y2
          refine .inr (.inr ⟨by omega, by omega, by omega, by omega, .inl ⟨k, by omega, by omega, i6, .inl ⟨?_, rfl⟩⟩⟩)
          rw [show k.toNat = (k - 1).toNat + 1 by omega]
          exact gs_big_mk i3 ⟨ii, by omega, y2⟩
theorem c_X8_order_vf {p n : Int} {F A : gs_F} (hI : gs_I F A) (hp : -2147483648 ≤ p ∧ p ≤ 2147483647) (hn : -2147483648 ≤ n ∧ n ≤ 2147483647) (hW : gs_W (A 6) (F 0 11)) (hcd : 0 ≤ p → p ≤ 7 → ∀ i : Int, 0 ≤ i → i < F (90 + 2 * p.toNat) 1 → 0 ≤ A (90 + 2 * p.toNat + 1) i.toNat ∧ A (90 + 2 * p.toNat + 1) i.toNat < 6 * F 0 11 - 2) : sC m_X8_order 5 [.ref 0, gs_iv p, gs_iv n] F A (fun rv F' A' => ∃ z : Int, rv = some (gs_iv z) ∧ gs_I F' A' ∧ gs_fr (fun c j => (c = 15 ∧ j = 1) ∨ (18 ≤ c ∧ c < 30 ∧ j = 1) ∨ (c = 48 ∧ j = 1)) (fun c => c = 7 ∨ (18 ≤ c ∧ c < 30) ∨ c = 49) F A F' A' ∧ (((p < 0 ∨ 7 < p) ∧ z = -1001) ∨ (0 ≤ p ∧ p ≤ 7 ∧ (n < 1 ∨ 24 < n) ∧ z = -1002) ∨ (0 ≤ p ∧ p ≤ 7 ∧ 1 ≤ n ∧ n ≤ 24 ∧ gs_or (gs_plc F A (F 0 11) (90 + 2 * p.toNat)) (F 0 11) n z))) := by
  refine sC_of ok_X8_order.1 (Nat.le_of_ble_eq_true rfl) ?_
  show sA _ _ _ 0 [(0, .ref 0), (1, gs_iv p), (2, gs_iv n)] [] F A
  have hf : gs_fr (fun c j => (c = 15 ∧ j = 1) ∨ (18 ≤ c ∧ c < 30 ∧ j = 1) ∨ (c = 48 ∧ j = 1)) (fun c => c = 7 ∨ (18 ≤ c ∧ c < 30) ∨ c = 49) F A F A := gs_fr_refl _ _ _ _
  have b31 : (0 : Int) ≤ F 15 1 ∧ F 15 1 ≤ 6 := hI.1 15 1
  have hg : (1 : Int) ≤ F 0 11 ∧ F 0 11 ≤ 3 := hI.1 0 11
  refine sA_iload_n dd_X8_order_0 rfl (.tail _ (.head _)) ?_
  refine sA_callS (y2 := m_X8_isPlan) (n2 := 1) (d2 := 1) (as := [gs_iv p]) (rest := []) dd_X8_order_1 ok_X8_isPlan ml_X8_148 rfl rfl (Nat.le_of_ble_eq_true rfl) (by decide) (c_X8_isPlan (by omega)) (fun r32 F33 A34 h35 => ?_)
  obtain ⟨z38, e37, e39, e40, x36⟩ := h35
  subst e37 e39 e40
  show sA _ _ _ 4 _ [gs_iv z38] _ _
  refine sA_if_ne (tgt := 11) dd_X8_order_4 (by decide) (by omega) (fun q41 => ?_) (fun q41 => ?_)
  · skip
    refine sA_iload_n dd_X8_order_11 rfl (.tail _ (.tail _ (.head _))) ?_
    refine sA_iconst (z := 1) dd_X8_order_12 ?_
    refine sA_icmp_lt (tgt := 22) dd_X8_order_13 (by decide) (by omega) (by omega) (fun q42 => ?_) (fun q42 => ?_)
    · skip
      refine sA_sipush (z := (-1002)) dd_X8_order_22 (by decide) ?_
      refine sA_iret (z := -1002) dd_X8_order_25 rfl ?_
      refine ⟨_, rfl, hI, hf, ?_⟩
      exact .inr (.inl ⟨by omega, by omega, by omega, rfl⟩)
    · skip
      refine sA_iload_n dd_X8_order_16 rfl (.tail _ (.tail _ (.head _))) ?_
      refine sA_bipush (z := 24) dd_X8_order_17 (by decide) ?_
      refine sA_icmp_le (tgt := 26) dd_X8_order_19 (by decide) (by omega) (by omega) (fun q43 => ?_) (fun q43 => ?_)
      · skip
        refine sA_aload_n dd_X8_order_26 rfl (.head _) ?_
        refine sA_getr (ci := 8) (j := 5) (q := (RX8, TX8, 13)) dd_X8_order_27 rfl (by decide) fl_X8_49 (by decide) gs_s0 rfl ?_
        refine sA_aload_n dd_X8_order_30 rfl (.head _) ?_
        refine sA_geti (ci := 8) (j := 11) (q := (RX8, TX8, 13)) dd_X8_order_31 rfl (by decide) fl_X8_84 (by decide) gs_s0 rfl ?_
        have b44 : (1 : Int) ≤ F 0 11 ∧ F 0 11 ≤ 3 := hI.1 0 11
        refine sA_callV (y2 := m_X0_begin) (n2 := 1) (d2 := 2) (a := 15) (ci := 0) (q := (RX0, TX0, 4)) (as := [gs_iv (F 0 11)]) (rest := []) dd_X8_order_34 ok_X0_begin ml_X8_193 rfl rfl (by decide) gs_s15 rfl rfl (Nat.le_of_ble_eq_true rfl) (by decide) (c_X0_begin_vf hI (by omega)) (fun r45 F46 A47 h48 => ?_)
        obtain ⟨e50, I51, f52, x49⟩ := h48
        subst e50
        have f54 := gs_fr_tr hf f52 (fun b j h => by first | exact False.elim h | omega | (dsimp only at h ⊢; omega) | fail) (fun b h => by first | exact False.elim h | omega | (dsimp only at h ⊢; omega) | fail)
        have y55 : F46 15 1 = 2 * (F 0 11) ∧ ∀ ii : Nat, (ii : Int) < 2 * (F 0 11) → gs_ic F46 A47 ii = [(ii : Int) + 1] := x49
        clear x49
        show sA _ _ _ 37 _ [] _ _
        have y34a := y55.1
        refine sA_iconst (z := 1) dd_X8_order_37 ?_
        refine sA_istore_n (lv' := [(3, gs_iv 1), (0, .ref 0), (1, gs_iv p), (2, gs_iv n)]) dd_X8_order_38 rfl (by decide) rfl ?_
        have b56 : (0 : Int) ≤ F46 15 1 ∧ F46 15 1 ≤ 6 := I51.1 15 1
        refine sA_sub (lv2 := [(3, gs_iv 1), (0, .ref 0), (1, gs_iv p), (2, gs_iv n)]) (List.forall_mem_cons.mpr ⟨(.head _), (List.forall_mem_cons.mpr ⟨(.tail _ (.head _)), (List.forall_mem_cons.mpr ⟨(.tail _ (.tail _ (.head _))), (List.forall_mem_cons.mpr ⟨(.tail _ (.tail _ (.tail _ (.head _)))), (fun _ h => absurd h List.not_mem_nil)⟩)⟩)⟩)⟩) ?_
        exact (k_X8_order_vf hI hp hn hW hcd (n + 1 - 1 : Int).toNat.succ) 1 F46 A47 I51 f54 (by omega) (by omega) (by omega) (fun ii hi => by rw [y55.2 ii (by omega)]; rfl) (by omega) (fun ii hi => by rw [y55.2 ii (by omega)]; exact gs_val1 (by omega)) (fun j h1 h2 => by exfalso; omega) (by omega)
      · skip
        refine sA_sipush (z := (-1002)) dd_X8_order_22 (by decide) ?_
        refine sA_iret (z := -1002) dd_X8_order_25 rfl ?_
        refine ⟨_, rfl, hI, hf, ?_⟩
        exact .inr (.inl ⟨by omega, by omega, by omega, rfl⟩)
  · skip
    refine sA_sipush (z := (-1001)) dd_X8_order_7 (by decide) ?_
    refine sA_iret (z := -1001) dd_X8_order_10 rfl ?_
    refine ⟨_, rfl, hI, hf, ?_⟩
    exact .inl ⟨by omega, rfl⟩
end
