noncomputable section
/-! ===== the class's reader ===== -/
def rd_ok (s : rd_S) (z : Int) (F A : gs_F) : Prop := (z = 0 ∧ s = (0, 0, F 43 7, F 43 8, F 43 9, F 43 6, F 44 1, A 45, A 47)) ∨ (z ≠ 0 ∧ s.1 = z ∧ s.2.1 = F 43 1)
def rd_c (F A : gs_F) (g : Int) (i : Nat) : rd_S := rd g (A 46) (0, 0, 0, F 43 8, F 43 9, 0, 0, A 45, A 47) i
/-- e letters from s on, then k letters more, each as the one e ahead -/
def gs_rp (c : Nat → Int) (s e k : Int) : Nat → Int := fun i => if s + e ≤ (i : Int) ∧ (i : Int) < s + e + k then c (s + ((i : Int) - s) % e).toNat else c i
theorem gs_rp_0 (c : Nat → Int) (s e : Int) : c = gs_rp c s e 0 := by
  funext i
  unfold gs_rp
  rw [if_neg (by omega)]
theorem gs_rp_00 {c : Nat → Int} {s e k : Int} (h : k = 0) : c = gs_rp c s e k := by
  subst h
  exact gs_rp_0 _ _ _
theorem gs_rp_step {c : Nat → Int} {s e k : Int} (he : 0 < e) (hs : 0 ≤ s) (hk : 0 ≤ k) : gs_u (gs_rp c s e k) (s + e + k).toNat (gs_rp c s e k (s + k).toNat) = gs_rp c s e (k + 1) := by
  funext i
  by_cases q : i = (s + e + k).toNat
  · have e1 : ((s + e + k).toNat : Int) - s = k + e := by omega
    have e2 : ((s + k).toNat : Int) - s = k := by omega
    rw [q, gs_u_self]
    unfold gs_rp
    rw [e1, e2, Int.add_emod_right, if_pos (show s + e ≤ ((s + e + k).toNat : Int) ∧ ((s + e + k).toNat : Int) < s + e + (k + 1) by omega)]
    split
    · rfl
    · rename_i w
      rw [Int.emod_eq_of_lt hk (by omega)]
  · rw [gs_u_ne _ _ q]
    unfold gs_rp
    by_cases w : s + e ≤ (i : Int) ∧ (i : Int) < s + e + k
    · rw [if_pos w, if_pos (by omega)]
    · rw [if_neg w, if_neg (by omega)]
theorem gs_rp_rpt {c : Nat → Int} {s e t k : Int} (h : k = e * t - e) : gs_rp c s e k = gs_rpt c s e t := by
  funext i
  unfold gs_rp gs_rpt
  by_cases w : s + e ≤ (i : Int) ∧ (i : Int) < s + e + k
  · rw [if_pos w, if_pos (by omega)]
  · rw [if_neg w, if_neg (by omega)]
theorem rd_0_good {g kd kb : Int} {c o : Nat → Int} : rd_good g (0, 0, 0, kd, kb, 0, 0, c, o) := fun _ => ⟨⟨Int.le_refl 0, by show (0 : Int) ≤ 4; decide, Int.le_refl 0, by show (0 : Int) ≤ 60; decide, .inl rfl, fun w => absurd w (by show ¬ (0 : Int) = 1; decide), fun w => absurd w (by show ¬ (0 : Int) = 2; decide), fun w => absurd w (by show ¬ (0 : Int) = 3; decide)⟩, fun j j1 j2 => by
  have j2 : j < 0 ∨ ((0 : Int) = 3 ∧ j = 0) := j2
  omega, fun j j1 j2 => by
  have j2 : j < 0 := j2
  omega⟩
theorem rd_gd_of {g : Int} {t : Nat → Int} {s0 : rd_S} {i : Nat} {st kd kb op n : Int} {c o : Nat → Int} (hg : 1 ≤ g ∧ g ≤ 3) (h0 : rd_good g s0) (e : rd g t s0 i = (0, 0, st, kd, kb, op, n, c, o)) : rd_gd g st kd op n c o := by
  have h := rd_all_good hg h0 (t := t) i
  rw [e] at h
  exact h rfl
theorem rd_next {g : Int} {t : Nat → Int} {s0 : rd_S} {p : Int} {st kd kb op n : Int} {c o : Nat → Int} (hp : 0 ≤ p) (e : rd g t s0 p.toNat = (0, 0, st, kd, kb, op, n, c, o)) (hv : t p.toNat ≠ 32) : rd g t s0 (p + 1).toNat = rd_tk g st kd kb op n c o (t p.toNat) p := by
  have e1 : (p + 1).toNat = p.toNat + 1 := by omega
  rw [e1]
  show rd_step g (rd g t s0 p.toNat) (t p.toNat) (p.toNat : Int) = _
  rw [e]
  unfold rd_step
  rw [if_neg (fun w => w rfl), if_neg hv]
  show rd_tk g st kd kb op n c o (t p.toNat) (p.toNat : Int) = _
  rw [show (p.toNat : Int) = p by omega]
theorem rd_nextb {g : Int} {t : Nat → Int} {s0 : rd_S} {p : Int} (hp : 0 ≤ p) (hv : t p.toNat = 32) : rd g t s0 (p + 1).toNat = rd g t s0 p.toNat := by
  have e1 : (p + 1).toNat = p.toNat + 1 := by omega
  rw [e1]
  exact rd_blank 1 (fun j hj => by rw [show p.toNat + j = p.toNat by omega]; exact hv)
theorem rd_fin_flt {g : Int} {t : Nat → Int} {s0 : rd_S} {i N : Nat} {n : Int} (h : i ≤ N) (hf : (rd g t s0 i).1 ≠ 0) : rd_fin (rd g t s0 N) n = ((rd g t s0 i).1, (rd g t s0 i).2.1) := by
  have e := rd_stay hf (N - i)
  rw [show i + (N - i) = N by omega] at e
  rw [e]
  unfold rd_fin
  rw [if_pos hf]
theorem c_X2_add_vf {a : Nat} {x : Int} {F A : gs_F} (hI : gs_I F A) (hr : gs_plan a) (hx : -2147483648 ≤ x ∧ x ≤ 2147483647) : sC m_X2_add 1 [.ref a, gs_iv x] F A (fun rv F' A' => rv = none ∧ gs_I F' A' ∧ gs_fr (fun c j => c = a ∧ j = 1) (fun c => c = a + 1) F A F' A' ∧ ((F a 1 < 60 ∧ F' a 1 = F a 1 + 1 ∧ A' (a + 1) = gs_u (A (a + 1)) (F a 1).toNat x) ∨ (F a 1 = 60 ∧ F' a 1 = 60 ∧ A' (a + 1) = A (a + 1)))) := by
  refine sC_of ok_X2_add.1 (Nat.le_of_ble_eq_true rfl) ?_
  show sA _ _ _ 0 [(0, .ref a), (1, gs_iv x)] [] F A
  have hf : gs_fr (fun c j => c = a ∧ j = 1) (fun c => c = a + 1) F A F A := gs_fr_refl _ _ _ _
  have b1 := gs_plan_sz hr hI
  have u2 : A (a + 1) = A (a + 1) := rfl
  refine sA_aload_n dd_X2_add_0 rfl (.head _) ?_
  refine sA_geti (ci := 2) (j := 1) (q := (RX2, TX2, 2)) dd_X2_add_1 rfl (by decide) fl_X2_15 (Nat.lt_of_succ_lt hr.1) hr.2.1 rfl ?_
  refine sA_aload_n dd_X2_add_4 rfl (.head _) ?_
  refine sA_getr (ci := 2) (j := 0) (q := (RX2, TX2, 2)) dd_X2_add_5 rfl (by decide) fl_X2_9 (Nat.lt_of_succ_lt hr.1) hr.2.1 rfl ?_
  refine sA_alen (n := 60) dd_X2_add_8 hr.1 hr.2.2.1 ?_
  refine sA_icmp_ge (tgt := 32) dd_X2_add_9 (by decide) (by omega) (by omega) (fun q3 => ?_) (fun q3 => ?_)
  · skip
    refine sA_vret dd_X2_add_32 rfl ?_
    refine ⟨rfl, hI, hf, ?_⟩
    first | (exact .inl ⟨by omega, by omega, u2⟩) | (exact .inr ⟨by omega, by omega, u2⟩) | fail
  · skip
    refine sA_aload_n dd_X2_add_12 rfl (.head _) ?_
    refine sA_getr (ci := 2) (j := 0) (q := (RX2, TX2, 2)) dd_X2_add_13 rfl (by decide) fl_X2_9 (Nat.lt_of_succ_lt hr.1) hr.2.1 rfl ?_
    refine sA_aload_n dd_X2_add_16 rfl (.head _) ?_
    refine sA_geti (ci := 2) (j := 1) (q := (RX2, TX2, 2)) dd_X2_add_17 rfl (by decide) fl_X2_15 (Nat.lt_of_succ_lt hr.1) hr.2.1 rfl ?_
    refine sA_iload_n dd_X2_add_20 rfl (.tail _ (.head _)) ?_
    refine sA_iast (n := 60) dd_X2_add_21 hr.1 hr.2.2.1 (by omega) (by decide) ?_
    have I5 : gs_I F (gs_up A (a + 1) ((F a 1).toNat) x) := gs_plan_ast hr hI (by omega)
    have f6 := gs_fr_ast hf (a := a + 1) (z := x) (i := (F a 1).toNat) (by first | omega | (dsimp only; omega) | (dsimp only) | fail)
    have u7 : (gs_up A (a + 1) ((F a 1).toNat) x) (a + 1) = gs_u (A (a + 1)) ((F a 1).toNat) x := (gs_up_u A (a + 1) ((F a 1).toNat) x).trans (congrArg (fun f => gs_u f ((F a 1).toNat) x) u2)
    generalize gs_up A (a + 1) ((F a 1).toNat) x = A4 at I5 f6 u7 ⊢
    refine sA_aload_n dd_X2_add_22 rfl (.head _) ?_
    refine sA_dup dd_X2_add_23 rfl ?_
    refine sA_geti (ci := 2) (j := 1) (q := (RX2, TX2, 2)) dd_X2_add_24 rfl (by decide) fl_X2_15 (Nat.lt_of_succ_lt hr.1) hr.2.1 rfl ?_
    refine sA_iconst (z := 1) dd_X2_add_27 ?_
    refine sA_iadd dd_X2_add_28 ?_
    refine sA_put (ci := 2) (j := 1) (q := (RX2, TX2, 2)) (ty := .int) dd_X2_add_29 rfl (by decide) fl_X2_15 rfl (tyX2_ok 1 (by decide)) rfl rfl (Nat.lt_of_succ_lt hr.1) hr.2.1 rfl ?_
    have I9 : gs_I (gs_up F a 1 ((F a 1) + 1)) A4 := gs_plan_put hr I5 (by omega)
    have f10 := gs_fr_put f6 (a := a) (z := (F a 1) + 1) (j := 1) (by first | omega | (dsimp only; omega) | (dsimp only) | fail)
    have v11 : gs_up F a 1 ((F a 1) + 1) a 1 = (F a 1) + 1 := gs_up_self _ _ _ _
    generalize gs_up F a 1 ((F a 1) + 1) = F8 at I9 f10 v11 ⊢
    refine sA_vret dd_X2_add_32 rfl ?_
    refine ⟨rfl, I9, f10, ?_⟩
    first | (exact .inl ⟨by omega, by omega, u7⟩) | (exact .inr ⟨by omega, by omega, u7⟩) | fail
theorem c_X2_copy_vf {a b : Nat} {F A : gs_F} (hI : gs_I F A) (hr : gs_plan a) (ho : gs_plan b) : sC m_X2_copy 1 [.ref a, .ref b] F A (fun rv F' A' => rv = none ∧ gs_I F' A' ∧ gs_fr (fun c j => c = a ∧ j = 1) (fun c => c = a + 1) F A F' A' ∧ (F' a 1 = F b 1 ∧ A' (a + 1) = gs_cc (A (b + 1)) (A (a + 1)) 0 0 (F b 1).toNat)) := by
  refine sC_of ok_X2_copy.1 (Nat.le_of_ble_eq_true rfl) ?_
  show sA _ _ _ 0 [(0, .ref a), (1, .ref b)] [] F A
  have hf : gs_fr (fun c j => c = a ∧ j = 1) (fun c => c = a + 1) F A F A := gs_fr_refl _ _ _ _
  have b1 := gs_plan_sz hr hI
  have b2 := gs_plan_sz ho hI
  have u3 : A (a + 1) = A (a + 1) := rfl
  refine sA_aload_n dd_X2_copy_0 rfl (.head _) ?_
  refine sA_aload_n dd_X2_copy_1 rfl (.tail _ (.head _)) ?_
  refine sA_geti (ci := 2) (j := 1) (q := (RX2, TX2, 2)) dd_X2_copy_2 rfl (by decide) fl_X2_15 (Nat.lt_of_succ_lt ho.1) ho.2.1 rfl ?_
  refine sA_put (ci := 2) (j := 1) (q := (RX2, TX2, 2)) (ty := .int) dd_X2_copy_5 rfl (by decide) fl_X2_15 rfl (tyX2_ok 1 (by decide)) rfl rfl (Nat.lt_of_succ_lt hr.1) hr.2.1 rfl ?_
  have I5 : gs_I (gs_up F a 1 (F b 1)) A := gs_plan_put hr hI (by omega)
  have f6 := gs_fr_put hf (a := a) (z := F b 1) (j := 1) (by first | omega | (dsimp only; omega) | (dsimp only) | fail)
  have v7 : gs_up F a 1 (F b 1) a 1 = F b 1 := gs_up_self _ _ _ _
  generalize gs_up F a 1 (F b 1) = F4 at I5 f6 v7 ⊢
  refine sA_aload_n dd_X2_copy_8 rfl (.tail _ (.head _)) ?_
  refine sA_getr (ci := 2) (j := 0) (q := (RX2, TX2, 2)) dd_X2_copy_9 rfl (by decide) fl_X2_9 (Nat.lt_of_succ_lt ho.1) ho.2.1 rfl ?_
  refine sA_iconst (z := 0) dd_X2_copy_12 ?_
  refine sA_aload_n dd_X2_copy_13 rfl (.head _) ?_
  refine sA_getr (ci := 2) (j := 0) (q := (RX2, TX2, 2)) dd_X2_copy_14 rfl (by decide) fl_X2_9 (Nat.lt_of_succ_lt hr.1) hr.2.1 rfl ?_
  refine sA_iconst (z := 0) dd_X2_copy_17 ?_
  refine sA_aload_n dd_X2_copy_18 rfl (.head _) ?_
  refine sA_geti (ci := 2) (j := 1) (q := (RX2, TX2, 2)) dd_X2_copy_19 rfl (by decide) fl_X2_15 (Nat.lt_of_succ_lt hr.1) hr.2.1 rfl ?_
  have b8 := gs_plan_sz hr I5
  refine sA_copy (n1 := 60) (n2 := 60) dd_X2_copy_22 (ri_lw_in (pl := 554) (by decide +kernel)) gs_copyok ho.1 ho.2.2.1 hr.1 hr.2.2.1 (by omega) (by omega) (by omega) (by omega) (by omega) (by decide) (by decide) (by decide) (Nat.le_of_ble_eq_true rfl) ?_
  have I10 : gs_I F4 (gs_cp A (b + 1) (a + 1) (0 : Int).toNat (0 : Int).toNat (F4 a 1).toNat) := gs_I_cp I5 (b := (a + 1)) (a := (b + 1)) (p := ((-2147483648), 2147483647)) (q := ((-2147483648), 2147483647)) hr.2.2.2.2 ho.2.2.2.2 (by decide)
  have f11 := gs_fr_cp f6 (a := (b + 1)) (b := (a + 1)) (sp := (0 : Int).toNat) (dp := (0 : Int).toNat) (n := (F4 a 1).toNat) (by first | omega | (dsimp only; omega) | (dsimp only) | fail)
  have u12 : (gs_cp A (b + 1) (a + 1) (0 : Int).toNat (0 : Int).toNat (F4 a 1).toNat) (a + 1) = gs_cc (A (b + 1)) (A (a + 1)) (0 : Int).toNat (0 : Int).toNat (F4 a 1).toNat := (gs_cp_u A (b + 1) (a + 1) _ _ _).trans (by rw [u3])
  generalize gs_cp A (b + 1) (a + 1) (0 : Int).toNat (0 : Int).toNat (F4 a 1).toNat = A9 at I10 f11 u12 ⊢
  refine sA_vret dd_X2_copy_25 rfl ?_
  refine ⟨rfl, I10, f11, ?_⟩
  refine ⟨by omega, u12.trans ?_⟩
  have e : F4 a 1 = F b 1 := by omega
  rw [e]
  first | done | rfl | fail
theorem c_X6_add_vf {x : Int} {F A : gs_F} (hI : gs_I F A) (hx : -2147483648 ≤ x ∧ x ≤ 2147483647) : sC m_X6_add 1 [.ref 43, gs_iv x] F A (fun rv F' A' => rv = none ∧ gs_I F' A' ∧ gs_fr (fun c j => c = 43 ∧ j = 0) (fun c => c = 46) F A F' A' ∧ ((F 43 0 < 120 ∧ F' 43 0 = F 43 0 + 1 ∧ A' 46 = gs_u (A 46) (F 43 0).toNat x) ∨ (F 43 0 = 120 ∧ F' 43 0 = 120 ∧ A' 46 = A 46))) := by
  refine sC_of ok_X6_add.1 (Nat.le_of_ble_eq_true rfl) ?_
  show sA _ _ _ 0 [(0, .ref 43), (1, gs_iv x)] [] F A
  have hf : gs_fr (fun c j => c = 43 ∧ j = 0) (fun c => c = 46) F A F A := gs_fr_refl _ _ _ _
  have b1 : (0 : Int) ≤ F 43 0 ∧ F 43 0 ≤ 120 := hI.1 43 0
  have u2 : A 46 = A 46 := rfl
  refine sA_aload_n dd_X6_add_0 rfl (.head _) ?_
  refine sA_geti (ci := 6) (j := 0) (q := (RX6, TX6, 10)) dd_X6_add_1 rfl (by decide) fl_X6_29 (by decide) gs_s43 rfl ?_
  refine sA_aload_n dd_X6_add_4 rfl (.head _) ?_
  refine sA_getr (ci := 6) (j := 3) (q := (RX6, TX6, 10)) dd_X6_add_5 rfl (by decide) fl_X6_22 (by decide) gs_s43 rfl ?_
  refine sA_alen (n := 120) dd_X6_add_8 (by decide) gs_s46 ?_
  refine sA_icmp_ge (tgt := 32) dd_X6_add_9 (by decide) (by omega) (by omega) (fun q3 => ?_) (fun q3 => ?_)
  · skip
    refine sA_vret dd_X6_add_32 rfl ?_
    refine ⟨rfl, hI, hf, ?_⟩
    first | (exact .inl ⟨by omega, by omega, u2⟩) | (exact .inr ⟨by omega, by omega, u2⟩) | fail
  · skip
    refine sA_aload_n dd_X6_add_12 rfl (.head _) ?_
    refine sA_getr (ci := 6) (j := 3) (q := (RX6, TX6, 10)) dd_X6_add_13 rfl (by decide) fl_X6_22 (by decide) gs_s43 rfl ?_
    refine sA_aload_n dd_X6_add_16 rfl (.head _) ?_
    refine sA_geti (ci := 6) (j := 0) (q := (RX6, TX6, 10)) dd_X6_add_17 rfl (by decide) fl_X6_29 (by decide) gs_s43 rfl ?_
    refine sA_iload_n dd_X6_add_20 rfl (.tail _ (.head _)) ?_
    refine sA_iast (n := 120) dd_X6_add_21 (by decide) gs_s46 (by omega) (by decide) ?_
    have I5 : gs_I F (gs_up A 46 ((F 43 0).toNat) x) := gs_I_ast hI (show (-2147483648 : Int) ≤ x ∧ x ≤ 2147483647 by omega)
    have f6 := gs_fr_ast hf (a := 46) (z := x) (i := (F 43 0).toNat) (by first | omega | (dsimp only; omega) | (dsimp only) | fail)
    have u7 : (gs_up A 46 ((F 43 0).toNat) x) 46 = gs_u (A 46) ((F 43 0).toNat) x := (gs_up_u A 46 ((F 43 0).toNat) x).trans (congrArg (fun f => gs_u f ((F 43 0).toNat) x) u2)
    generalize gs_up A 46 ((F 43 0).toNat) x = A4 at I5 f6 u7 ⊢
    refine sA_aload_n dd_X6_add_22 rfl (.head _) ?_
    refine sA_dup dd_X6_add_23 rfl ?_
    refine sA_geti (ci := 6) (j := 0) (q := (RX6, TX6, 10)) dd_X6_add_24 rfl (by decide) fl_X6_29 (by decide) gs_s43 rfl ?_
    refine sA_iconst (z := 1) dd_X6_add_27 ?_
    refine sA_iadd dd_X6_add_28 ?_
    refine sA_put (ci := 6) (j := 0) (q := (RX6, TX6, 10)) (ty := .int) dd_X6_add_29 rfl (by decide) fl_X6_29 rfl (tyX6_ok 0 (by decide)) rfl rfl (by decide) gs_s43 rfl ?_
    have I9 : gs_I (gs_up F 43 0 ((F 43 0) + 1)) A4 := gs_I_put I5 (show (0 : Int) ≤ (F 43 0) + 1 ∧ (F 43 0) + 1 ≤ 120 by omega)
    have f10 := gs_fr_put f6 (a := 43) (z := (F 43 0) + 1) (j := 0) (by first | omega | (dsimp only; omega) | (dsimp only) | fail)
    have v11 : gs_up F 43 0 ((F 43 0) + 1) 43 0 = (F 43 0) + 1 := gs_up_self _ _ _ _
    generalize gs_up F 43 0 ((F 43 0) + 1) = F8 at I9 f10 v11 ⊢
    refine sA_vret dd_X6_add_32 rfl ?_
    refine ⟨rfl, I9, f10, ?_⟩
    first | (exact .inl ⟨by omega, by omega, u7⟩) | (exact .inr ⟨by omega, by omega, u7⟩) | fail
theorem c_X6_takeHandle_vf {v : Int} {F A : gs_F} (hI : gs_I F A) (hv : -2147483648 ≤ v ∧ v ≤ 2147483647) (hk : 0 ≤ F 43 8 ∧ F 43 8 ≤ 2) : sC m_X6_takeHandle 2 [.ref 43, gs_iv v] F A (fun rv F' A' => ∃ z : Int, rv = some (gs_iv z) ∧ gs_I F' A' ∧ gs_fr (fun c j => (c = 43 ∧ (j = 1 ∨ (6 ≤ j ∧ j ≤ 9))) ∨ (c = 44 ∧ j = 1)) (fun c => c = 45 ∨ c = 47) F A F' A' ∧ ((0 ≤ z ∧ z ≤ 4) ∧ rd_ok (rd_han (F 43 5) (F 43 8) (F 43 9) (F 43 6) (F 44 1) (A 45) (A 47) v (F 43 1)) z F' A')) := by
  refine sC_of ok_X6_takeHandle.1 (Nat.le_of_ble_eq_true rfl) ?_
  show sA _ _ _ 0 [(0, .ref 43), (1, gs_iv v)] [] F A
  have hf : gs_fr (fun c j => (c = 43 ∧ (j = 1 ∨ (6 ≤ j ∧ j ≤ 9))) ∨ (c = 44 ∧ j = 1)) (fun c => c = 45 ∨ c = 47) F A F A := gs_fr_refl _ _ _ _
  have b1 : (-2147483648 : Int) ≤ F 43 1 ∧ F 43 1 ≤ 2147483647 := hI.1 43 1
  have b2 : (0 : Int) ≤ F 43 5 ∧ F 43 5 ≤ 3 := hI.1 43 5
  have b3 : (0 : Int) ≤ F 43 6 ∧ F 43 6 ≤ 4 := hI.1 43 6
  have b4 : (-2147483648 : Int) ≤ F 43 7 ∧ F 43 7 ≤ 2147483647 := hI.1 43 7
  have b5 : (-2147483648 : Int) ≤ F 43 8 ∧ F 43 8 ≤ 2147483647 := hI.1 43 8
  have b6 : (-2147483648 : Int) ≤ F 43 9 ∧ F 43 9 ≤ 2147483647 := hI.1 43 9
  have b7 := gs_plan_sz gs_plan_44 hI
  have u8 : A 45 = A 45 := rfl
  have u9 : A 47 = A 47 := rfl
  refine sA_iload_n dd_X6_takeHandle_0 rfl (.tail _ (.head _)) ?_
  refine sA_callS (y2 := m_X6_isFigure) (n2 := 1) (d2 := 1) (as := [gs_iv v]) (rest := []) dd_X6_takeHandle_1 ok_X6_isFigure ml_X6_56 rfl rfl (Nat.le_of_ble_eq_true rfl) (by decide) (c_X6_isFigure (by omega)) (fun r10 F11 A12 h13 => ?_)
  obtain ⟨z16, e15, e17, e18, x14⟩ := h13
  subst e15 e17 e18
  show sA _ _ _ 4 _ [gs_iv z16] _ _
  refine sA_if_ne (tgt := 9) dd_X6_takeHandle_4 (by decide) (by omega) (fun q19 => ?_) (fun q19 => ?_)
  · skip
    refine sA_iload_n dd_X6_takeHandle_9 rfl (.tail _ (.head _)) ?_
    refine sA_bipush (z := 48) dd_X6_takeHandle_10 (by decide) ?_
    refine sA_isub dd_X6_takeHandle_12 ?_
    refine sA_istore_n (lv' := [(2, gs_iv (v - 48)), (0, .ref 43), (1, gs_iv v)]) dd_X6_takeHandle_13 rfl (by decide) rfl ?_
    refine sA_iload_n dd_X6_takeHandle_14 rfl (.head _) ?_
    refine sA_iconst (z := 1) dd_X6_takeHandle_15 ?_
    refine sA_icmp_lt (tgt := 44) dd_X6_takeHandle_16 (by decide) (by omega) (by omega) (fun q20 => ?_) (fun q20 => ?_)
    · skip
      refine sA_iconst (z := 2) dd_X6_takeHandle_44 ?_
      refine sA_iret (z := 2) dd_X6_takeHandle_45 rfl ?_
      refine ⟨_, rfl, hI, hf, ?_⟩
      refine ⟨by omega, ?_⟩
      have e : rd_han (F 43 5) (F 43 8) (F 43 9) (F 43 6) (F 44 1) (A 45) (A 47) v (F 43 1) = rd_flt 2 (F 43 1) := by
        unfold rd_han
        rw [if_neg (by omega), if_pos (by omega)]
      rw [e]
      exact .inr ⟨by decide, rfl, (show F 43 1 = F 43 1 by omega)⟩
    · skip
      refine sA_iload_n dd_X6_takeHandle_19 rfl (.head _) ?_
      refine sA_aload_n dd_X6_takeHandle_20 rfl (.tail _ (.head _)) ?_
      refine sA_geti (ci := 6) (j := 8) (q := (RX6, TX6, 10)) dd_X6_takeHandle_21 rfl (by decide) fl_X6_60 (by decide) gs_s43 rfl ?_
      refine sA_iconst (z := 2) dd_X6_takeHandle_24 ?_
      refine sA_icmp_ne (tgt := 37) dd_X6_takeHandle_25 (by decide) (by omega) (by omega) (fun q21 => ?_) (fun q21 => ?_)
      · skip
        refine sA_aload_n dd_X6_takeHandle_37 rfl (.tail _ (.head _)) ?_
        refine sA_geti (ci := 6) (j := 5) (q := (RX6, TX6, 10)) dd_X6_takeHandle_38 rfl (by decide) fl_X6_33 (by decide) gs_s43 rfl ?_
        refine sA_icmp_le (tgt := 46) dd_X6_takeHandle_41 (by decide) (by omega) (by omega) (fun q22 => ?_) (fun q22 => ?_)
        · skip
          refine sA_aload_n dd_X6_takeHandle_46 rfl (.tail _ (.head _)) ?_
          have hg5 : (0 : Int) ≤ F 43 5 ∧ F 43 5 ≤ 3 := hI.1 43 5
          refine sA_getr (ci := 6) (j := 2) (q := (RX6, TX6, 10)) dd_X6_takeHandle_47 rfl (by decide) fl_X6_18 (by decide) gs_s43 rfl ?_
          refine sA_geti (ci := 2) (j := 1) (q := (RX2, TX2, 2)) dd_X6_takeHandle_50 rfl (by decide) fl_X6_32 (Nat.lt_of_succ_lt gs_plan_44.1) gs_plan_44.2.1 rfl ?_
          refine sA_bipush (z := 60) dd_X6_takeHandle_53 (by decide) ?_
          refine sA_icmp_lt (tgt := 68) dd_X6_takeHandle_55 (by decide) (by omega) (by omega) (fun q23 => ?_) (fun q23 => ?_)
          · skip
            refine sA_aload_n dd_X6_takeHandle_68 rfl (.tail _ (.head _)) ?_
            refine sA_getr (ci := 6) (j := 2) (q := (RX6, TX6, 10)) dd_X6_takeHandle_69 rfl (by decide) fl_X6_18 (by decide) gs_s43 rfl ?_
            refine sA_iconst (z := 2) dd_X6_takeHandle_72 ?_
            refine sA_aload_n dd_X6_takeHandle_73 rfl (.tail _ (.head _)) ?_
            refine sA_geti (ci := 6) (j := 8) (q := (RX6, TX6, 10)) dd_X6_takeHandle_74 rfl (by decide) fl_X6_60 (by decide) gs_s43 rfl ?_
            refine sA_aload_n dd_X6_takeHandle_77 rfl (.tail _ (.head _)) ?_
            refine sA_geti (ci := 6) (j := 5) (q := (RX6, TX6, 10)) dd_X6_takeHandle_78 rfl (by decide) fl_X6_33 (by decide) gs_s43 rfl ?_
            have hmb := gs_mul_bd (x := F 43 8) (y := F 43 5) (m := 2) (k := 3) (by omega) (by omega) (by omega)
            refine sA_imul dd_X6_takeHandle_81 ?_
            refine sA_iload_n dd_X6_takeHandle_82 rfl (.head _) ?_
            refine sA_iadd dd_X6_takeHandle_83 ?_
            refine sA_iconst (z := 1) dd_X6_takeHandle_84 ?_
            refine sA_isub dd_X6_takeHandle_85 ?_
            refine sA_imul dd_X6_takeHandle_86 ?_
            refine sA_callV (y2 := m_X2_add) (n2 := 1) (d2 := 1) (a := 44) (ci := 2) (q := (RX2, TX2, 2)) (as := [gs_iv (2 * ((((F 43 8) * (F 43 5)) + (v - 48)) - 1))]) (rest := []) dd_X6_takeHandle_87 ok_X2_add ml_X6_66 rfl rfl (Nat.lt_of_succ_lt gs_plan_44.1) gs_plan_44.2.1 rfl rfl (Nat.le_of_ble_eq_true rfl) (by decide) (c_X2_add_vf hI gs_plan_44 (by omega)) (fun r24 F25 A26 h27 => ?_)
            obtain ⟨e29, I30, f31, x28⟩ := h27
            subst e29
            have v32 : F25 43 1 = F 43 1 := f31.1 43 1 (by first | exact id | omega | (dsimp only; omega) | (dsimp only) | fail)
            have v33 : F25 43 5 = F 43 5 := f31.1 43 5 (by first | exact id | omega | (dsimp only; omega) | (dsimp only) | fail)
            have v34 : F25 43 6 = F 43 6 := f31.1 43 6 (by first | exact id | omega | (dsimp only; omega) | (dsimp only) | fail)
            have v35 : F25 43 7 = F 43 7 := f31.1 43 7 (by first | exact id | omega | (dsimp only; omega) | (dsimp only) | fail)
            have v36 : F25 43 8 = F 43 8 := f31.1 43 8 (by first | exact id | omega | (dsimp only; omega) | (dsimp only) | fail)
            have v37 : F25 43 9 = F 43 9 := f31.1 43 9 (by first | exact id | omega | (dsimp only; omega) | (dsimp only) | fail)
            have f39 := gs_fr_tr hf f31 (fun b j h => by first | exact False.elim h | omega | (dsimp only at h ⊢; omega) | fail) (fun b h => by first | exact False.elim h | omega | (dsimp only at h ⊢; omega) | fail)
            have u40 : A26 45 = A26 45 := rfl
            have u41 : A26 47 = A 47 := (f31.2 47 (by first | exact id | omega | (dsimp only; omega) | (dsimp only) | fail)).trans u9
            have y42 : (F 44 1 < 60 ∧ F25 44 1 = F 44 1 + 1 ∧ A26 45 = gs_u (A 45) (F 44 1).toNat (2 * ((((F 43 8) * (F 43 5)) + (v - 48)) - 1))) ∨ (F 44 1 = 60 ∧ F25 44 1 = 60 ∧ A26 45 = A 45) := x28
            clear x28
            show sA _ _ _ 90 _ [] _ _
            refine sA_aload_n dd_X6_takeHandle_90 rfl (.tail _ (.head _)) ?_
            refine sA_iconst (z := 2) dd_X6_takeHandle_91 ?_
            refine sA_put (ci := 6) (j := 7) (q := (RX6, TX6, 10)) (ty := .int) dd_X6_takeHandle_92 rfl (by decide) fl_X6_39 rfl (tyX6_ok 7 (by decide)) rfl rfl (by decide) gs_s43 rfl ?_
            have I44 : gs_I (gs_up F25 43 7 2) A26 := gs_I_put I30 (show (-2147483648 : Int) ≤ 2 ∧ 2 ≤ 2147483647 by omega)
            have f45 := gs_fr_put f39 (a := 43) (z := 2) (j := 7) (by first | omega | (dsimp only; omega) | (dsimp only) | fail)
            have v46 : gs_up F25 43 7 2 43 7 = 2 := gs_up_self _ _ _ _
            have v47 : (gs_up F25 43 7 2) 43 1 = F25 43 1 := gs_up_ne _ _ (by omega)
            have v48 : (gs_up F25 43 7 2) 43 5 = F25 43 5 := gs_up_ne _ _ (by omega)
            have v49 : (gs_up F25 43 7 2) 43 6 = F25 43 6 := gs_up_ne _ _ (by omega)
            have v50 : (gs_up F25 43 7 2) 43 8 = F25 43 8 := gs_up_ne _ _ (by omega)
            have v51 : (gs_up F25 43 7 2) 43 9 = F25 43 9 := gs_up_ne _ _ (by omega)
            have v52 : (gs_up F25 43 7 2) 44 1 = F25 44 1 := gs_up_ne _ _ (by omega)
            generalize gs_up F25 43 7 2 = F43 at I44 f45 v46 v47 v48 v49 v50 v51 v52 ⊢
            refine sA_iconst (z := 0) dd_X6_takeHandle_95 ?_
            refine sA_iret (z := 0) dd_X6_takeHandle_96 rfl ?_
            refine ⟨_, rfl, I44, f45, ?_⟩
            refine ⟨by omega, ?_⟩
            rcases y42 with y | y
            · have y3 := y.2.2
              refine .inl ⟨rfl, ?_⟩
              unfold rd_han
              rw [if_neg (by omega), if_neg (by omega), if_neg (by omega)]
              have e1 : F43 43 7 = 2 := by omega
              have e2 : F43 43 8 = F 43 8 := by omega
              have e3 : F43 43 9 = F 43 9 := by omega
              have e4 : F43 43 6 = F 43 6 := by omega
              have e5 : F43 44 1 = F 44 1 + 1 := by omega
              rw [e1, e2, e3, e4, e5, y3, u41]
            · exfalso
              omega
          · skip
            refine sA_aload_n dd_X6_takeHandle_58 rfl (.tail _ (.head _)) ?_
            refine sA_aload_n dd_X6_takeHandle_59 rfl (.tail _ (.head _)) ?_
            refine sA_geti (ci := 6) (j := 9) (q := (RX6, TX6, 10)) dd_X6_takeHandle_60 rfl (by decide) fl_X6_63 (by decide) gs_s43 rfl ?_
            refine sA_put (ci := 6) (j := 1) (q := (RX6, TX6, 10)) (ty := .int) dd_X6_takeHandle_63 rfl (by decide) fl_X6_9 rfl (tyX6_ok 1 (by decide)) rfl rfl (by decide) gs_s43 rfl ?_
            have I54 : gs_I (gs_up F 43 1 (F 43 9)) A := gs_I_put hI (show (-2147483648 : Int) ≤ F 43 9 ∧ F 43 9 ≤ 2147483647 by omega)
            have f55 := gs_fr_put hf (a := 43) (z := F 43 9) (j := 1) (by first | omega | (dsimp only; omega) | (dsimp only) | fail)
            have v56 : gs_up F 43 1 (F 43 9) 43 1 = F 43 9 := gs_up_self _ _ _ _
            have v57 : (gs_up F 43 1 (F 43 9)) 43 5 = F 43 5 := gs_up_ne _ _ (by omega)
            have v58 : (gs_up F 43 1 (F 43 9)) 43 6 = F 43 6 := gs_up_ne _ _ (by omega)
            have v59 : (gs_up F 43 1 (F 43 9)) 43 7 = F 43 7 := gs_up_ne _ _ (by omega)
            have v60 : (gs_up F 43 1 (F 43 9)) 43 8 = F 43 8 := gs_up_ne _ _ (by omega)
            have v61 : (gs_up F 43 1 (F 43 9)) 43 9 = F 43 9 := gs_up_ne _ _ (by omega)
            have v62 : (gs_up F 43 1 (F 43 9)) 44 1 = F 44 1 := gs_up_ne _ _ (by omega)
            generalize gs_up F 43 1 (F 43 9) = F53 at I54 f55 v56 v57 v58 v59 v60 v61 v62 ⊢
            refine sA_iconst (z := 3) dd_X6_takeHandle_66 ?_
            refine sA_iret (z := 3) dd_X6_takeHandle_67 rfl ?_
            refine ⟨_, rfl, I54, f55, ?_⟩
            refine ⟨by omega, ?_⟩
            have e : rd_han (F 43 5) (F 43 8) (F 43 9) (F 43 6) (F 44 1) (A 45) (A 47) v (F 43 1) = rd_flt 3 (F 43 9) := by
              unfold rd_han
              rw [if_neg (by omega), if_neg (by omega), if_pos (by omega)]
            rw [e]
            exact .inr ⟨by decide, rfl, (show F 43 9 = F53 43 1 by omega)⟩
        · skip
          refine sA_iconst (z := 2) dd_X6_takeHandle_44 ?_
          refine sA_iret (z := 2) dd_X6_takeHandle_45 rfl ?_
          refine ⟨_, rfl, hI, hf, ?_⟩
          refine ⟨by omega, ?_⟩
          have e : rd_han (F 43 5) (F 43 8) (F 43 9) (F 43 6) (F 44 1) (A 45) (A 47) v (F 43 1) = rd_flt 2 (F 43 1) := by
            unfold rd_han
            rw [if_neg (by omega), if_pos (by omega)]
          rw [e]
          exact .inr ⟨by decide, rfl, (show F 43 1 = F 43 1 by omega)⟩
      · skip
        refine sA_aload_n dd_X6_takeHandle_28 rfl (.tail _ (.head _)) ?_
        refine sA_geti (ci := 6) (j := 5) (q := (RX6, TX6, 10)) dd_X6_takeHandle_29 rfl (by decide) fl_X6_33 (by decide) gs_s43 rfl ?_
        refine sA_iconst (z := 1) dd_X6_takeHandle_32 ?_
        refine sA_isub dd_X6_takeHandle_33 ?_
        refine sA_goto (tgt := 41) dd_X6_takeHandle_34 (by decide) ?_
        refine sA_icmp_le (tgt := 46) dd_X6_takeHandle_41 (by decide) (by omega) (by omega) (fun q63 => ?_) (fun q63 => ?_)
        · skip
          refine sA_aload_n dd_X6_takeHandle_46 rfl (.tail _ (.head _)) ?_
          have hg5 : (0 : Int) ≤ F 43 5 ∧ F 43 5 ≤ 3 := hI.1 43 5
          refine sA_getr (ci := 6) (j := 2) (q := (RX6, TX6, 10)) dd_X6_takeHandle_47 rfl (by decide) fl_X6_18 (by decide) gs_s43 rfl ?_
          refine sA_geti (ci := 2) (j := 1) (q := (RX2, TX2, 2)) dd_X6_takeHandle_50 rfl (by decide) fl_X6_32 (Nat.lt_of_succ_lt gs_plan_44.1) gs_plan_44.2.1 rfl ?_
          refine sA_bipush (z := 60) dd_X6_takeHandle_53 (by decide) ?_
          refine sA_icmp_lt (tgt := 68) dd_X6_takeHandle_55 (by decide) (by omega) (by omega) (fun q64 => ?_) (fun q64 => ?_)
          · skip
            refine sA_aload_n dd_X6_takeHandle_68 rfl (.tail _ (.head _)) ?_
            refine sA_getr (ci := 6) (j := 2) (q := (RX6, TX6, 10)) dd_X6_takeHandle_69 rfl (by decide) fl_X6_18 (by decide) gs_s43 rfl ?_
            refine sA_iconst (z := 2) dd_X6_takeHandle_72 ?_
            refine sA_aload_n dd_X6_takeHandle_73 rfl (.tail _ (.head _)) ?_
            refine sA_geti (ci := 6) (j := 8) (q := (RX6, TX6, 10)) dd_X6_takeHandle_74 rfl (by decide) fl_X6_60 (by decide) gs_s43 rfl ?_
            refine sA_aload_n dd_X6_takeHandle_77 rfl (.tail _ (.head _)) ?_
            refine sA_geti (ci := 6) (j := 5) (q := (RX6, TX6, 10)) dd_X6_takeHandle_78 rfl (by decide) fl_X6_33 (by decide) gs_s43 rfl ?_
            have hmb := gs_mul_bd (x := F 43 8) (y := F 43 5) (m := 2) (k := 3) (by omega) (by omega) (by omega)
            refine sA_imul dd_X6_takeHandle_81 ?_
            refine sA_iload_n dd_X6_takeHandle_82 rfl (.head _) ?_
            refine sA_iadd dd_X6_takeHandle_83 ?_
            refine sA_iconst (z := 1) dd_X6_takeHandle_84 ?_
            refine sA_isub dd_X6_takeHandle_85 ?_
            refine sA_imul dd_X6_takeHandle_86 ?_
            refine sA_callV (y2 := m_X2_add) (n2 := 1) (d2 := 1) (a := 44) (ci := 2) (q := (RX2, TX2, 2)) (as := [gs_iv (2 * ((((F 43 8) * (F 43 5)) + (v - 48)) - 1))]) (rest := []) dd_X6_takeHandle_87 ok_X2_add ml_X6_66 rfl rfl (Nat.lt_of_succ_lt gs_plan_44.1) gs_plan_44.2.1 rfl rfl (Nat.le_of_ble_eq_true rfl) (by decide) (c_X2_add_vf hI gs_plan_44 (by omega)) (fun r65 F66 A67 h68 => ?_)
            obtain ⟨e70, I71, f72, x69⟩ := h68
            subst e70
            have v73 : F66 43 1 = F 43 1 := f72.1 43 1 (by first | exact id | omega | (dsimp only; omega) | (dsimp only) | fail)
            have v74 : F66 43 5 = F 43 5 := f72.1 43 5 (by first | exact id | omega | (dsimp only; omega) | (dsimp only) | fail)
            have v75 : F66 43 6 = F 43 6 := f72.1 43 6 (by first | exact id | omega | (dsimp only; omega) | (dsimp only) | fail)
            have v76 : F66 43 7 = F 43 7 := f72.1 43 7 (by first | exact id | omega | (dsimp only; omega) | (dsimp only) | fail)
            have v77 : F66 43 8 = F 43 8 := f72.1 43 8 (by first | exact id | omega | (dsimp only; omega) | (dsimp only) | fail)
            have v78 : F66 43 9 = F 43 9 := f72.1 43 9 (by first | exact id | omega | (dsimp only; omega) | (dsimp only) | fail)
            have f80 := gs_fr_tr hf f72 (fun b j h => by first | exact False.elim h | omega | (dsimp only at h ⊢; omega) | fail) (fun b h => by first | exact False.elim h | omega | (dsimp only at h ⊢; omega) | fail)
            have u81 : A67 45 = A67 45 := rfl
            have u82 : A67 47 = A 47 := (f72.2 47 (by first | exact id | omega | (dsimp only; omega) | (dsimp only) | fail)).trans u9
            have y83 : (F 44 1 < 60 ∧ F66 44 1 = F 44 1 + 1 ∧ A67 45 = gs_u (A 45) (F 44 1).toNat (2 * ((((F 43 8) * (F 43 5)) + (v - 48)) - 1))) ∨ (F 44 1 = 60 ∧ F66 44 1 = 60 ∧ A67 45 = A 45) := x69
            clear x69
            show sA _ _ _ 90 _ [] _ _
            refine sA_aload_n dd_X6_takeHandle_90 rfl (.tail _ (.head _)) ?_
            refine sA_iconst (z := 2) dd_X6_takeHandle_91 ?_
            refine sA_put (ci := 6) (j := 7) (q := (RX6, TX6, 10)) (ty := .int) dd_X6_takeHandle_92 rfl (by decide) fl_X6_39 rfl (tyX6_ok 7 (by decide)) rfl rfl (by decide) gs_s43 rfl ?_
            have I85 : gs_I (gs_up F66 43 7 2) A67 := gs_I_put I71 (show (-2147483648 : Int) ≤ 2 ∧ 2 ≤ 2147483647 by omega)
            have f86 := gs_fr_put f80 (a := 43) (z := 2) (j := 7) (by first | omega | (dsimp only; omega) | (dsimp only) | fail)
            have v87 : gs_up F66 43 7 2 43 7 = 2 := gs_up_self _ _ _ _
            have v88 : (gs_up F66 43 7 2) 43 1 = F66 43 1 := gs_up_ne _ _ (by omega)
            have v89 : (gs_up F66 43 7 2) 43 5 = F66 43 5 := gs_up_ne _ _ (by omega)
            have v90 : (gs_up F66 43 7 2) 43 6 = F66 43 6 := gs_up_ne _ _ (by omega)
            have v91 : (gs_up F66 43 7 2) 43 8 = F66 43 8 := gs_up_ne _ _ (by omega)
            have v92 : (gs_up F66 43 7 2) 43 9 = F66 43 9 := gs_up_ne _ _ (by omega)
            have v93 : (gs_up F66 43 7 2) 44 1 = F66 44 1 := gs_up_ne _ _ (by omega)
            generalize gs_up F66 43 7 2 = F84 at I85 f86 v87 v88 v89 v90 v91 v92 v93 ⊢
            refine sA_iconst (z := 0) dd_X6_takeHandle_95 ?_
            refine sA_iret (z := 0) dd_X6_takeHandle_96 rfl ?_
            refine ⟨_, rfl, I85, f86, ?_⟩
            refine ⟨by omega, ?_⟩
            rcases y83 with y | y
            · have y3 := y.2.2
              refine .inl ⟨rfl, ?_⟩
              unfold rd_han
              rw [if_neg (by omega), if_neg (by omega), if_neg (by omega)]
              have e1 : F84 43 7 = 2 := by omega
              have e2 : F84 43 8 = F 43 8 := by omega
              have e3 : F84 43 9 = F 43 9 := by omega
              have e4 : F84 43 6 = F 43 6 := by omega
              have e5 : F84 44 1 = F 44 1 + 1 := by omega
              rw [e1, e2, e3, e4, e5, y3, u82]
            · exfalso
              omega
          · skip
            refine sA_aload_n dd_X6_takeHandle_58 rfl (.tail _ (.head _)) ?_
            refine sA_aload_n dd_X6_takeHandle_59 rfl (.tail _ (.head _)) ?_
            refine sA_geti (ci := 6) (j := 9) (q := (RX6, TX6, 10)) dd_X6_takeHandle_60 rfl (by decide) fl_X6_63 (by decide) gs_s43 rfl ?_
            refine sA_put (ci := 6) (j := 1) (q := (RX6, TX6, 10)) (ty := .int) dd_X6_takeHandle_63 rfl (by decide) fl_X6_9 rfl (tyX6_ok 1 (by decide)) rfl rfl (by decide) gs_s43 rfl ?_
            have I95 : gs_I (gs_up F 43 1 (F 43 9)) A := gs_I_put hI (show (-2147483648 : Int) ≤ F 43 9 ∧ F 43 9 ≤ 2147483647 by omega)
            have f96 := gs_fr_put hf (a := 43) (z := F 43 9) (j := 1) (by first | omega | (dsimp only; omega) | (dsimp only) | fail)
            have v97 : gs_up F 43 1 (F 43 9) 43 1 = F 43 9 := gs_up_self _ _ _ _
            have v98 : (gs_up F 43 1 (F 43 9)) 43 5 = F 43 5 := gs_up_ne _ _ (by omega)
            have v99 : (gs_up F 43 1 (F 43 9)) 43 6 = F 43 6 := gs_up_ne _ _ (by omega)
            have v100 : (gs_up F 43 1 (F 43 9)) 43 7 = F 43 7 := gs_up_ne _ _ (by omega)
            have v101 : (gs_up F 43 1 (F 43 9)) 43 8 = F 43 8 := gs_up_ne _ _ (by omega)
            have v102 : (gs_up F 43 1 (F 43 9)) 43 9 = F 43 9 := gs_up_ne _ _ (by omega)
            have v103 : (gs_up F 43 1 (F 43 9)) 44 1 = F 44 1 := gs_up_ne _ _ (by omega)
            generalize gs_up F 43 1 (F 43 9) = F94 at I95 f96 v97 v98 v99 v100 v101 v102 v103 ⊢
            refine sA_iconst (z := 3) dd_X6_takeHandle_66 ?_
            refine sA_iret (z := 3) dd_X6_takeHandle_67 rfl ?_
            refine ⟨_, rfl, I95, f96, ?_⟩
            refine ⟨by omega, ?_⟩
            have e : rd_han (F 43 5) (F 43 8) (F 43 9) (F 43 6) (F 44 1) (A 45) (A 47) v (F 43 1) = rd_flt 3 (F 43 9) := by
              unfold rd_han
              rw [if_neg (by omega), if_neg (by omega), if_pos (by omega)]
            rw [e]
            exact .inr ⟨by decide, rfl, (show F 43 9 = F94 43 1 by omega)⟩
        · skip
          refine sA_iconst (z := 2) dd_X6_takeHandle_44 ?_
          refine sA_iret (z := 2) dd_X6_takeHandle_45 rfl ?_
          refine ⟨_, rfl, hI, hf, ?_⟩
          refine ⟨by omega, ?_⟩
          have e : rd_han (F 43 5) (F 43 8) (F 43 9) (F 43 6) (F 44 1) (A 45) (A 47) v (F 43 1) = rd_flt 2 (F 43 1) := by
            unfold rd_han
            rw [if_neg (by omega), if_pos (by omega)]
          rw [e]
          exact .inr ⟨by decide, rfl, (show F 43 1 = F 43 1 by omega)⟩
  · skip
    refine sA_iconst (z := 1) dd_X6_takeHandle_7 ?_
    refine sA_iret (z := 1) dd_X6_takeHandle_8 rfl ?_
    refine ⟨_, rfl, hI, hf, ?_⟩
    refine ⟨by omega, ?_⟩
    have e : rd_han (F 43 5) (F 43 8) (F 43 9) (F 43 6) (F 44 1) (A 45) (A 47) v (F 43 1) = rd_flt 1 (F 43 1) := by
      unfold rd_han
      rw [if_pos (by omega)]
    rw [e]
    exact .inr ⟨by decide, rfl, (show F 43 1 = F 43 1 by omega)⟩
theorem k_X6_takeTimes_vf {v : Int} {F A : gs_F} (hI : gs_I F A) (hv : -2147483648 ≤ v ∧ v ≤ 2147483647) (ho3 : F 43 6 ≤ 3) (hs0 : A 47 (F 43 6).toNat ≤ F 44 1) : ∀ nN : Nat, (∀ (t : Int) (s : Int) (p : Int) (k : Int)  (F1 A1 : gs_F), gs_I F1 A1 → gs_fr (fun c j => (c = 43 ∧ (j = 1 ∨ (6 ≤ j ∧ j ≤ 9))) ∨ (c = 44 ∧ j = 1)) (fun c => c = 45 ∨ c = 47) F A F1 A1 → 0 ≤ k ∧ k ≤ p * t - p → 1 ≤ t ∧ t ≤ 9 → 0 ≤ s ∧ s ≤ 60 → 0 ≤ p ∧ p ≤ 60 → s + p * t ≤ 60 → s = A 47 (F 43 6).toNat → p = F 44 1 - s → t = v - 48 → A1 45 = gs_rp (A 45) s p k → A1 47 = A 47 → F1 43 1 = F 43 1 ∧ F1 43 6 = F 43 6 ∧ F1 43 8 = F 43 8 ∧ F1 43 9 = F 43 9 → F1 44 1 = F 44 1 + k → 48 ≤ v ∧ v ≤ 57 → 600 - k < (nN : Int) → sA m_X6_takeTimes 2 (fun rv F' A' => ∃ z : Int, rv = some (gs_iv z) ∧ gs_I F' A' ∧ gs_fr (fun c j => (c = 43 ∧ (j = 1 ∨ (6 ≤ j ∧ j ≤ 9))) ∨ (c = 44 ∧ j = 1)) (fun c => c = 45 ∨ c = 47) F A F' A' ∧ ((0 ≤ z ∧ z ≤ 4) ∧ rd_ok (rd_tim (F 43 8) (F 43 9) (F 43 6) (F 44 1) (A 45) (A 47) v (F 43 1)) z F' A')) 75 [(5, gs_iv k), (4, gs_iv p), (3, gs_iv s), (2, gs_iv t), (0, .ref 43)] [] F1 A1) := by
  intro nN
  induction nN with
  | zero =>
    exact fun a0 a1 a2 a3 a4 a5 a6 a7 i0 i1 i2 i3 i4 i5 i6 i7 i8 i9 i10 i11 i12 hm => by exfalso; omega
  | succ nN ih =>
    intro t s p k F1 A1 hI1 hf1 i0 i1 i2 i3 i4 i5 i6 i7 i8 i9 i10 i11 i12 hm
    have b1 : (-2147483648 : Int) ≤ F1 43 1 ∧ F1 43 1 ≤ 2147483647 := hI1.1 43 1
    have b2 : (0 : Int) ≤ F1 43 5 ∧ F1 43 5 ≤ 3 := hI1.1 43 5
    have b3 : (0 : Int) ≤ F1 43 6 ∧ F1 43 6 ≤ 4 := hI1.1 43 6
    have b4 : (-2147483648 : Int) ≤ F1 43 7 ∧ F1 43 7 ≤ 2147483647 := hI1.1 43 7
    have b5 : (-2147483648 : Int) ≤ F1 43 8 ∧ F1 43 8 ≤ 2147483647 := hI1.1 43 8
    have b6 : (-2147483648 : Int) ≤ F1 43 9 ∧ F1 43 9 ≤ 2147483647 := hI1.1 43 9
    have b7 := gs_plan_sz gs_plan_44 hI1
    have u8 : A1 45 = A1 45 := rfl
    have u9 : A1 47 = A1 47 := rfl
    have hmu : p * (t - 1) = p * t - p := by rw [Int.mul_sub, Int.mul_one]
    have hmn : p ≤ 0 → p * t - p ≤ 0 := fun h => by
      have := gs_mul_np (x := p) (y := t - 1) h (by omega)
      omega
    have hmb := gs_mul_bd (x := p) (y := t) (m := 60) (k := 9) (by omega) (by omega) (by omega)
    refine sA_iload dd_X6_takeTimes_75 (.head _) ?_
    refine sA_iload dd_X6_takeTimes_77 (.tail _ (.head _)) ?_
    refine sA_iload_n dd_X6_takeTimes_79 rfl (.tail _ (.tail _ (.tail _ (.head _)))) ?_
    refine sA_iconst (z := 1) dd_X6_takeTimes_80 ?_
    refine sA_isub dd_X6_takeTimes_81 ?_
    refine sA_imul dd_X6_takeTimes_82 ?_
    refine sA_icmp_ge (tgt := 111) dd_X6_takeTimes_83 (by decide) (by omega) (by omega) (fun q10 => ?_) (fun q10 => ?_)
    · skip
      refine sA_aload_n dd_X6_takeTimes_111 rfl (.tail _ (.tail _ (.tail _ (.tail _ (.head _))))) ?_
      refine sA_iconst (z := 0) dd_X6_takeTimes_112 ?_
      refine sA_put (ci := 6) (j := 7) (q := (RX6, TX6, 10)) (ty := .int) dd_X6_takeTimes_113 rfl (by decide) fl_X6_39 rfl (tyX6_ok 7 (by decide)) rfl rfl (by decide) gs_s43 rfl ?_
      have I12 : gs_I (gs_up F1 43 7 0) A1 := gs_I_put hI1 (show (-2147483648 : Int) ≤ 0 ∧ 0 ≤ 2147483647 by omega)
      have f13 := gs_fr_put hf1 (a := 43) (z := 0) (j := 7) (by first | omega | (dsimp only; omega) | (dsimp only) | fail)
      have v14 : gs_up F1 43 7 0 43 7 = 0 := gs_up_self _ _ _ _
      have v15 : (gs_up F1 43 7 0) 43 1 = F1 43 1 := gs_up_ne _ _ (by omega)
      have v16 : (gs_up F1 43 7 0) 43 5 = F1 43 5 := gs_up_ne _ _ (by omega)
      have v17 : (gs_up F1 43 7 0) 43 6 = F1 43 6 := gs_up_ne _ _ (by omega)
      have v18 : (gs_up F1 43 7 0) 43 8 = F1 43 8 := gs_up_ne _ _ (by omega)
      have v19 : (gs_up F1 43 7 0) 43 9 = F1 43 9 := gs_up_ne _ _ (by omega)
      have v20 : (gs_up F1 43 7 0) 44 1 = F1 44 1 := gs_up_ne _ _ (by omega)
      generalize gs_up F1 43 7 0 = F11 at I12 f13 v14 v15 v16 v17 v18 v19 v20 ⊢
      refine sA_iconst (z := 0) dd_X6_takeTimes_116 ?_
      refine sA_iret (z := 0) dd_X6_takeTimes_117 rfl ?_
      refine ⟨_, rfl, I12, f13, ?_⟩
      refine ⟨by omega, ?_⟩
      have ek : k = p * t - p := by omega
      have hc : A1 45 = gs_rpt (A 45) s p t := i8.trans (gs_rp_rpt ek)
      refine .inl ⟨rfl, ?_⟩
      unfold rd_tim
      rw [← i5, ← i6, ← i7, if_neg (by omega), if_neg (by omega), if_neg (by omega)]
      have e1 : F11 43 7 = 0 := by omega
      have e2 : F11 43 8 = F 43 8 := by omega
      have e3 : F11 43 9 = F 43 9 := by omega
      have e4 : F11 43 6 = F 43 6 := by omega
      have e5 : F11 44 1 = s + p * t := by omega
      rw [e1, e2, e3, e4, e5, u8, u9, hc, i9]
    · skip
      refine sA_aload_n dd_X6_takeTimes_86 rfl (.tail _ (.tail _ (.tail _ (.tail _ (.head _))))) ?_
      refine sA_getr (ci := 6) (j := 2) (q := (RX6, TX6, 10)) dd_X6_takeTimes_87 rfl (by decide) fl_X6_18 (by decide) gs_s43 rfl ?_
      refine sA_aload_n dd_X6_takeTimes_90 rfl (.tail _ (.tail _ (.tail _ (.tail _ (.head _))))) ?_
      refine sA_getr (ci := 6) (j := 2) (q := (RX6, TX6, 10)) dd_X6_takeTimes_91 rfl (by decide) fl_X6_18 (by decide) gs_s43 rfl ?_
      refine sA_getr (ci := 2) (j := 0) (q := (RX2, TX2, 2)) dd_X6_takeTimes_94 rfl (by decide) fl_X6_70 (Nat.lt_of_succ_lt gs_plan_44.1) gs_plan_44.2.1 rfl ?_
      refine sA_iload_n dd_X6_takeTimes_97 rfl (.tail _ (.tail _ (.head _))) ?_
      refine sA_iload dd_X6_takeTimes_98 (.head _) ?_
      refine sA_iadd dd_X6_takeTimes_100 ?_
      refine sA_iald (n := 60) dd_X6_takeTimes_101 gs_plan_44.1 gs_plan_44.2.2.1 (by omega) (by decide) ?_
      have b21 := gs_plan_el gs_plan_44 hI1 (s + k).toNat
      refine sA_callV (y2 := m_X2_add) (n2 := 1) (d2 := 1) (a := 44) (ci := 2) (q := (RX2, TX2, 2)) (as := [gs_iv (A1 45 (s + k).toNat)]) (rest := []) dd_X6_takeTimes_102 ok_X2_add ml_X6_66 rfl rfl (Nat.lt_of_succ_lt gs_plan_44.1) gs_plan_44.2.1 rfl rfl (Nat.le_of_ble_eq_true rfl) (by decide) (c_X2_add_vf hI1 gs_plan_44 (by omega)) (fun r22 F23 A24 h25 => ?_)
      obtain ⟨e27, I28, f29, x26⟩ := h25
      subst e27
      have v30 : F23 43 1 = F1 43 1 := f29.1 43 1 (by first | exact id | omega | (dsimp only; omega) | (dsimp only) | fail)
      have v31 : F23 43 5 = F1 43 5 := f29.1 43 5 (by first | exact id | omega | (dsimp only; omega) | (dsimp only) | fail)
      have v32 : F23 43 6 = F1 43 6 := f29.1 43 6 (by first | exact id | omega | (dsimp only; omega) | (dsimp only) | fail)
      have v33 : F23 43 7 = F1 43 7 := f29.1 43 7 (by first | exact id | omega | (dsimp only; omega) | (dsimp only) | fail)
      have v34 : F23 43 8 = F1 43 8 := f29.1 43 8 (by first | exact id | omega | (dsimp only; omega) | (dsimp only) | fail)
      have v35 : F23 43 9 = F1 43 9 := f29.1 43 9 (by first | exact id | omega | (dsimp only; omega) | (dsimp only) | fail)
      have f37 := gs_fr_tr hf1 f29 (fun b j h => by first | exact False.elim h | omega | (dsimp only at h ⊢; omega) | fail) (fun b h => by first | exact False.elim h | omega | (dsimp only at h ⊢; omega) | fail)
      have u38 : A24 45 = A24 45 := rfl
      have u39 : A24 47 = A1 47 := (f29.2 47 (by first | exact id | omega | (dsimp only; omega) | (dsimp only) | fail)).trans u9
      have y40 : (F1 44 1 < 60 ∧ F23 44 1 = F1 44 1 + 1 ∧ A24 45 = gs_u (A1 45) (F1 44 1).toNat (A1 45 (s + k).toNat)) ∨ (F1 44 1 = 60 ∧ F23 44 1 = 60 ∧ A24 45 = A1 45) := x26
      clear x26
      show sA _ _ _ 105 _ [] _ _
      refine sA_iinc (lv' := [(5, gs_iv (k + 1)), (4, gs_iv p), (3, gs_iv s), (2, gs_iv t), (0, .ref 43)]) dd_X6_takeTimes_105 (.head _) (by decide) rfl ?_
      refine sA_goto (tgt := 75) dd_X6_takeTimes_108 (by decide) ?_
      have b41 : (-2147483648 : Int) ≤ F23 43 1 ∧ F23 43 1 ≤ 2147483647 := I28.1 43 1
      have b42 : (0 : Int) ≤ F23 43 5 ∧ F23 43 5 ≤ 3 := I28.1 43 5
      have b43 : (0 : Int) ≤ F23 43 6 ∧ F23 43 6 ≤ 4 := I28.1 43 6
      have b44 : (-2147483648 : Int) ≤ F23 43 7 ∧ F23 43 7 ≤ 2147483647 := I28.1 43 7
      have b45 : (-2147483648 : Int) ≤ F23 43 8 ∧ F23 43 8 ≤ 2147483647 := I28.1 43 8
      have b46 : (-2147483648 : Int) ≤ F23 43 9 ∧ F23 43 9 ≤ 2147483647 := I28.1 43 9
      have b47 := gs_plan_sz gs_plan_44 I28
      refine sA_sub (lv2 := [(5, gs_iv (k + 1)), (4, gs_iv p), (3, gs_iv s), (2, gs_iv t), (0, .ref 43)]) (List.forall_mem_cons.mpr ⟨(.head _), (List.forall_mem_cons.mpr ⟨(.tail _ (.head _)), (List.forall_mem_cons.mpr ⟨(.tail _ (.tail _ (.head _))), (List.forall_mem_cons.mpr ⟨(.tail _ (.tail _ (.tail _ (.head _)))), (List.forall_mem_cons.mpr ⟨(.tail _ (.tail _ (.tail _ (.tail _ (.head _))))), (fun _ h => absurd h List.not_mem_nil)⟩)⟩)⟩)⟩)⟩) ?_
      exact ih t s p (k + 1) F23 A24 I28 f37 (by omega) (by omega) (by omega) (by omega) (by omega) (by first | rfl | exact i5 | fail) (by omega) (by omega) (by first | exact gs_rp_0 _ _ _ | (rcases y40 with y | y <;> first | (exfalso; omega) | (rw [y.2.2, i8, show F1 44 1 = s + p + k by omega]; exact gs_rp_step (by omega) (by omega) (by omega)) | fail) | fail) (by first | exact u39 | exact u39.trans i9 | fail) (by omega) (by omega) (by omega) (by omega)
theorem c_X6_takeTimes_vf {v : Int} {F A : gs_F} (hI : gs_I F A) (hv : -2147483648 ≤ v ∧ v ≤ 2147483647) (ho3 : F 43 6 ≤ 3) (hs0 : A 47 (F 43 6).toNat ≤ F 44 1) : sC m_X6_takeTimes 2 [.ref 43, gs_iv v] F A (fun rv F' A' => ∃ z : Int, rv = some (gs_iv z) ∧ gs_I F' A' ∧ gs_fr (fun c j => (c = 43 ∧ (j = 1 ∨ (6 ≤ j ∧ j ≤ 9))) ∨ (c = 44 ∧ j = 1)) (fun c => c = 45 ∨ c = 47) F A F' A' ∧ ((0 ≤ z ∧ z ≤ 4) ∧ rd_ok (rd_tim (F 43 8) (F 43 9) (F 43 6) (F 44 1) (A 45) (A 47) v (F 43 1)) z F' A')) := by
  refine sC_of ok_X6_takeTimes.1 (Nat.le_of_ble_eq_true rfl) ?_
  show sA _ _ _ 0 [(0, .ref 43), (1, gs_iv v)] [] F A
  have hf : gs_fr (fun c j => (c = 43 ∧ (j = 1 ∨ (6 ≤ j ∧ j ≤ 9))) ∨ (c = 44 ∧ j = 1)) (fun c => c = 45 ∨ c = 47) F A F A := gs_fr_refl _ _ _ _
  have b48 : (-2147483648 : Int) ≤ F 43 1 ∧ F 43 1 ≤ 2147483647 := hI.1 43 1
  have b49 : (0 : Int) ≤ F 43 5 ∧ F 43 5 ≤ 3 := hI.1 43 5
  have b50 : (0 : Int) ≤ F 43 6 ∧ F 43 6 ≤ 4 := hI.1 43 6
  have b51 : (-2147483648 : Int) ≤ F 43 7 ∧ F 43 7 ≤ 2147483647 := hI.1 43 7
  have b52 : (-2147483648 : Int) ≤ F 43 8 ∧ F 43 8 ≤ 2147483647 := hI.1 43 8
  have b53 : (-2147483648 : Int) ≤ F 43 9 ∧ F 43 9 ≤ 2147483647 := hI.1 43 9
  have b54 := gs_plan_sz gs_plan_44 hI
  have u55 : A 45 = A 45 := rfl
  have u56 : A 47 = A 47 := rfl
  refine sA_iload_n dd_X6_takeTimes_0 rfl (.tail _ (.head _)) ?_
  refine sA_callS (y2 := m_X6_isFigure) (n2 := 1) (d2 := 1) (as := [gs_iv v]) (rest := []) dd_X6_takeTimes_1 ok_X6_isFigure ml_X6_56 rfl rfl (Nat.le_of_ble_eq_true rfl) (by decide) (c_X6_isFigure (by omega)) (fun r57 F58 A59 h60 => ?_)
  obtain ⟨z63, e62, e64, e65, x61⟩ := h60
  subst e62 e64 e65
  show sA _ _ _ 4 _ [gs_iv z63] _ _
  refine sA_if_ne (tgt := 9) dd_X6_takeTimes_4 (by decide) (by omega) (fun q66 => ?_) (fun q66 => ?_)
  · skip
    refine sA_iload_n dd_X6_takeTimes_9 rfl (.tail _ (.head _)) ?_
    refine sA_bipush (z := 48) dd_X6_takeTimes_10 (by decide) ?_
    refine sA_isub dd_X6_takeTimes_12 ?_
    refine sA_istore_n (lv' := [(2, gs_iv (v - 48)), (0, .ref 43), (1, gs_iv v)]) dd_X6_takeTimes_13 rfl (by decide) rfl ?_
    refine sA_iload_n dd_X6_takeTimes_14 rfl (.head _) ?_
    refine sA_iconst (z := 1) dd_X6_takeTimes_15 ?_
    refine sA_icmp_ge (tgt := 21) dd_X6_takeTimes_16 (by decide) (by omega) (by omega) (fun q67 => ?_) (fun q67 => ?_)
    · skip
      refine sA_aload_n dd_X6_takeTimes_21 rfl (.tail _ (.head _)) ?_
      refine sA_geti (ci := 6) (j := 6) (q := (RX6, TX6, 10)) dd_X6_takeTimes_22 rfl (by decide) fl_X6_36 (by decide) gs_s43 rfl ?_
      refine sA_if_lt (tgt := 36) dd_X6_takeTimes_25 (by decide) (by omega) (fun q68 => ?_) (fun q68 => ?_)
      · skip
        refine sA_iconst (z := 1) dd_X6_takeTimes_36 ?_
        refine sA_iret (z := 1) dd_X6_takeTimes_37 rfl ?_
        refine ⟨_, rfl, hI, hf, ?_⟩
        exfalso
        omega
      · skip
        refine sA_aload_n dd_X6_takeTimes_28 rfl (.tail _ (.head _)) ?_
        refine sA_geti (ci := 6) (j := 6) (q := (RX6, TX6, 10)) dd_X6_takeTimes_29 rfl (by decide) fl_X6_36 (by decide) gs_s43 rfl ?_
        refine sA_iconst (z := 4) dd_X6_takeTimes_32 ?_
        refine sA_icmp_lt (tgt := 38) dd_X6_takeTimes_33 (by decide) (by omega) (by omega) (fun q69 => ?_) (fun q69 => ?_)
        · skip
          refine sA_aload_n dd_X6_takeTimes_38 rfl (.tail _ (.head _)) ?_
          refine sA_getr (ci := 6) (j := 4) (q := (RX6, TX6, 10)) dd_X6_takeTimes_39 rfl (by decide) fl_X6_26 (by decide) gs_s43 rfl ?_
          refine sA_aload_n dd_X6_takeTimes_42 rfl (.tail _ (.head _)) ?_
          refine sA_geti (ci := 6) (j := 6) (q := (RX6, TX6, 10)) dd_X6_takeTimes_43 rfl (by decide) fl_X6_36 (by decide) gs_s43 rfl ?_
          refine sA_iald (n := 4) dd_X6_takeTimes_46 (by decide) gs_s47 (by omega) (by decide) ?_
          have b70 : (0 : Int) ≤ A 47 (F 43 6).toNat ∧ A 47 (F 43 6).toNat ≤ 60 := hI.2 47 (F 43 6).toNat
          refine sA_istore_n (lv' := [(3, gs_iv (A 47 (F 43 6).toNat)), (2, gs_iv (v - 48)), (0, .ref 43), (1, gs_iv v)]) dd_X6_takeTimes_47 rfl (by decide) rfl ?_
          refine sA_aload_n dd_X6_takeTimes_48 rfl (.tail _ (.tail _ (.head _))) ?_
          refine sA_getr (ci := 6) (j := 2) (q := (RX6, TX6, 10)) dd_X6_takeTimes_49 rfl (by decide) fl_X6_18 (by decide) gs_s43 rfl ?_
          refine sA_geti (ci := 2) (j := 1) (q := (RX2, TX2, 2)) dd_X6_takeTimes_52 rfl (by decide) fl_X6_32 (Nat.lt_of_succ_lt gs_plan_44.1) gs_plan_44.2.1 rfl ?_
          refine sA_iload_n dd_X6_takeTimes_55 rfl (.head _) ?_
          refine sA_isub dd_X6_takeTimes_56 ?_
          refine sA_istore (lv' := [(4, gs_iv ((F 44 1) - (A 47 (F 43 6).toNat))), (3, gs_iv (A 47 (F 43 6).toNat)), (2, gs_iv (v - 48)), (0, .ref 43), (1, gs_iv v)]) dd_X6_takeTimes_57 (by decide) rfl ?_
          have hpt := gs_mul_bd (x := F 44 1 - A 47 (F 43 6).toNat) (y := v - 48) (m := 60) (k := 9) (by omega) (by omega) (by omega)
          have hpg := gs_mul_ge (x := F 44 1 - A 47 (F 43 6).toNat) (y := v - 48) (by omega) (by omega)
          refine sA_iload_n dd_X6_takeTimes_59 rfl (.tail _ (.head _)) ?_
          refine sA_iload dd_X6_takeTimes_60 (.head _) ?_
          refine sA_iload_n dd_X6_takeTimes_62 rfl (.tail _ (.tail _ (.head _))) ?_
          refine sA_imul dd_X6_takeTimes_63 ?_
          refine sA_iadd dd_X6_takeTimes_64 ?_
          refine sA_bipush (z := 60) dd_X6_takeTimes_65 (by decide) ?_
          refine sA_icmp_le (tgt := 72) dd_X6_takeTimes_67 (by decide) (by omega) (by omega) (fun q71 => ?_) (fun q71 => ?_)
          · skip
            refine sA_iconst (z := 0) dd_X6_takeTimes_72 ?_
            refine sA_istore (lv' := [(5, gs_iv 0), (4, gs_iv ((F 44 1) - (A 47 (F 43 6).toNat))), (3, gs_iv (A 47 (F 43 6).toNat)), (2, gs_iv (v - 48)), (0, .ref 43), (1, gs_iv v)]) dd_X6_takeTimes_73 (by decide) rfl ?_
            refine sA_sub (lv2 := [(5, gs_iv 0), (4, gs_iv ((F 44 1) - (A 47 (F 43 6).toNat))), (3, gs_iv (A 47 (F 43 6).toNat)), (2, gs_iv (v - 48)), (0, .ref 43)]) (List.forall_mem_cons.mpr ⟨(.head _), (List.forall_mem_cons.mpr ⟨(.tail _ (.head _)), (List.forall_mem_cons.mpr ⟨(.tail _ (.tail _ (.head _))), (List.forall_mem_cons.mpr ⟨(.tail _ (.tail _ (.tail _ (.head _)))), (List.forall_mem_cons.mpr ⟨(.tail _ (.tail _ (.tail _ (.tail _ (.head _))))), (fun _ h => absurd h List.not_mem_nil)⟩)⟩)⟩)⟩)⟩) ?_
            exact (k_X6_takeTimes_vf hI hv ho3 hs0 (600 - 0 : Int).toNat.succ) (v - 48) (A 47 (F 43 6).toNat) ((F 44 1) - (A 47 (F 43 6).toNat)) 0 F A hI hf (by omega) (by omega) (by omega) (by omega) (by omega) (by first | rfl | exact i5 | fail) (by omega) (by omega) (by first | exact gs_rp_0 _ _ _ | (rcases hNONE with y | y <;> first | (exfalso; omega) | (rw [y.2.2, i8, show F1 44 1 = s + p + k by omega]; exact gs_rp_step (by omega) (by omega) (by omega)) | fail) | fail) (by first | exact u56 | exact u56.trans i9 | fail) (by omega) (by omega) (by omega) (by omega)
          · skip
            refine sA_iconst (z := 3) dd_X6_takeTimes_70 ?_
            refine sA_iret (z := 3) dd_X6_takeTimes_71 rfl ?_
            refine ⟨_, rfl, hI, hf, ?_⟩
            refine ⟨by omega, ?_⟩
            have e : rd_tim (F 43 8) (F 43 9) (F 43 6) (F 44 1) (A 45) (A 47) v (F 43 1) = rd_flt 3 (F 43 1) := by
              unfold rd_tim
              rw [if_neg (by omega), if_neg (by omega), if_pos (by omega)]
            rw [e]
            exact .inr ⟨by decide, rfl, (show F 43 1 = F 43 1 by omega)⟩
        · skip
          refine sA_iconst (z := 1) dd_X6_takeTimes_36 ?_
          refine sA_iret (z := 1) dd_X6_takeTimes_37 rfl ?_
          refine ⟨_, rfl, hI, hf, ?_⟩
          exfalso
          omega
    · skip
      refine sA_iconst (z := 2) dd_X6_takeTimes_19 ?_
      refine sA_iret (z := 2) dd_X6_takeTimes_20 rfl ?_
      refine ⟨_, rfl, hI, hf, ?_⟩
      refine ⟨by omega, ?_⟩
      have e : rd_tim (F 43 8) (F 43 9) (F 43 6) (F 44 1) (A 45) (A 47) v (F 43 1) = rd_flt 2 (F 43 1) := by
        unfold rd_tim
        rw [if_neg (by omega), if_pos (by omega)]
      rw [e]
      exact .inr ⟨by decide, rfl, (show F 43 1 = F 43 1 by omega)⟩
  · skip
    refine sA_iconst (z := 1) dd_X6_takeTimes_7 ?_
    refine sA_iret (z := 1) dd_X6_takeTimes_8 rfl ?_
    refine ⟨_, rfl, hI, hf, ?_⟩
    refine ⟨by omega, ?_⟩
    have e : rd_tim (F 43 8) (F 43 9) (F 43 6) (F 44 1) (A 45) (A 47) v (F 43 1) = rd_flt 1 (F 43 1) := by
      unfold rd_tim
      rw [if_pos (by omega)]
    rw [e]
    exact .inr ⟨by decide, rfl, (show F 43 1 = F 43 1 by omega)⟩
theorem c_X6_takeItem_vf {v q : Int} {F A : gs_F} (hI : gs_I F A) (hv : -2147483648 ≤ v ∧ v ≤ 2147483647) (hq : -2147483648 ≤ q ∧ q ≤ 2147483647) (hq1 : F 43 1 = q) : sC m_X6_takeItem 1 [.ref 43, gs_iv v, gs_iv q] F A (fun rv F' A' => ∃ z : Int, rv = some (gs_iv z) ∧ gs_I F' A' ∧ gs_fr (fun c j => (c = 43 ∧ (j = 1 ∨ (6 ≤ j ∧ j ≤ 9))) ∨ (c = 44 ∧ j = 1)) (fun c => c = 45 ∨ c = 47) F A F' A' ∧ ((0 ≤ z ∧ z ≤ 4) ∧ rd_ok (rd_itm (F 43 7) (F 43 8) (F 43 9) (F 43 6) (F 44 1) (A 45) (A 47) v q) z F' A')) := by
  refine sC_of ok_X6_takeItem.1 (Nat.le_of_ble_eq_true rfl) ?_
  show sA _ _ _ 0 [(0, .ref 43), (1, gs_iv v), (2, gs_iv q)] [] F A
  have hf : gs_fr (fun c j => (c = 43 ∧ (j = 1 ∨ (6 ≤ j ∧ j ≤ 9))) ∨ (c = 44 ∧ j = 1)) (fun c => c = 45 ∨ c = 47) F A F A := gs_fr_refl _ _ _ _
  have b1 : (-2147483648 : Int) ≤ F 43 1 ∧ F 43 1 ≤ 2147483647 := hI.1 43 1
  have b2 : (0 : Int) ≤ F 43 5 ∧ F 43 5 ≤ 3 := hI.1 43 5
  have b3 : (0 : Int) ≤ F 43 6 ∧ F 43 6 ≤ 4 := hI.1 43 6
  have b4 : (-2147483648 : Int) ≤ F 43 7 ∧ F 43 7 ≤ 2147483647 := hI.1 43 7
  have b5 : (-2147483648 : Int) ≤ F 43 8 ∧ F 43 8 ≤ 2147483647 := hI.1 43 8
  have b6 : (-2147483648 : Int) ≤ F 43 9 ∧ F 43 9 ≤ 2147483647 := hI.1 43 9
  have b7 := gs_plan_sz gs_plan_44 hI
  have u8 : A 45 = A 45 := rfl
  have u9 : A 47 = A 47 := rfl
  refine sA_aload_n dd_X6_takeItem_0 rfl (.head _) ?_
  refine sA_geti (ci := 6) (j := 7) (q := (RX6, TX6, 10)) dd_X6_takeItem_1 rfl (by decide) fl_X6_39 (by decide) gs_s43 rfl ?_
  refine sA_iconst (z := 2) dd_X6_takeItem_4 ?_
  refine sA_icmp_ne (tgt := 12) dd_X6_takeItem_5 (by decide) (by omega) (by omega) (fun q10 => ?_) (fun q10 => ?_)
  · skip
    refine sA_iconst (z := 0) dd_X6_takeItem_12 ?_
    refine sA_istore_n (lv' := [(3, gs_iv 0), (0, .ref 43), (1, gs_iv v), (2, gs_iv q)]) dd_X6_takeItem_13 rfl (by decide) rfl ?_
    refine sA_aload_n dd_X6_takeItem_14 rfl (.tail _ (.head _)) ?_
    refine sA_iconst (z := 0) dd_X6_takeItem_15 ?_
    refine sA_put (ci := 6) (j := 7) (q := (RX6, TX6, 10)) (ty := .int) dd_X6_takeItem_16 rfl (by decide) fl_X6_39 rfl (tyX6_ok 7 (by decide)) rfl rfl (by decide) gs_s43 rfl ?_
    have I12 : gs_I (gs_up F 43 7 0) A := gs_I_put hI (show (-2147483648 : Int) ≤ 0 ∧ 0 ≤ 2147483647 by omega)
    have f13 := gs_fr_put hf (a := 43) (z := 0) (j := 7) (by first | omega | (dsimp only; omega) | (dsimp only) | fail)
    have v14 : gs_up F 43 7 0 43 7 = 0 := gs_up_self _ _ _ _
    have v15 : (gs_up F 43 7 0) 43 1 = F 43 1 := gs_up_ne _ _ (by omega)
    have v16 : (gs_up F 43 7 0) 43 5 = F 43 5 := gs_up_ne _ _ (by omega)
    have v17 : (gs_up F 43 7 0) 43 6 = F 43 6 := gs_up_ne _ _ (by omega)
    have v18 : (gs_up F 43 7 0) 43 8 = F 43 8 := gs_up_ne _ _ (by omega)
    have v19 : (gs_up F 43 7 0) 43 9 = F 43 9 := gs_up_ne _ _ (by omega)
    have v20 : (gs_up F 43 7 0) 44 1 = F 44 1 := gs_up_ne _ _ (by omega)
    generalize gs_up F 43 7 0 = F11 at I12 f13 v14 v15 v16 v17 v18 v19 v20 ⊢
    refine sA_iload_n dd_X6_takeItem_19 rfl (.tail _ (.tail _ (.head _))) ?_
    refine sA_bipush (z := 45) dd_X6_takeItem_20 (by decide) ?_
    refine sA_icmp_ne (tgt := 62) dd_X6_takeItem_22 (by decide) (by omega) (by omega) (fun q21 => ?_) (fun q21 => ?_)
    · skip
      refine sA_iload_n dd_X6_takeItem_62 rfl (.tail _ (.tail _ (.head _))) ?_
      refine sA_bipush (z := 97) dd_X6_takeItem_63 (by decide) ?_
      refine sA_icmp_lt (tgt := 94) dd_X6_takeItem_65 (by decide) (by omega) (by omega) (fun q22 => ?_) (fun q22 => ?_)
      · skip
        refine sA_iload_n dd_X6_takeItem_94 rfl (.tail _ (.tail _ (.head _))) ?_
        refine sA_bipush (z := 40) dd_X6_takeItem_95 (by decide) ?_
        refine sA_icmp_ne (tgt := 138) dd_X6_takeItem_97 (by decide) (by omega) (by omega) (fun q23 => ?_) (fun q23 => ?_)
        · skip
          refine sA_iload_n dd_X6_takeItem_138 rfl (.tail _ (.tail _ (.head _))) ?_
          refine sA_bipush (z := 41) dd_X6_takeItem_139 (by decide) ?_
          refine sA_icmp_ne (tgt := 168) dd_X6_takeItem_141 (by decide) (by omega) (by omega) (fun q24 => ?_) (fun q24 => ?_)
          · skip
            refine sA_iconst (z := 1) dd_X6_takeItem_168 ?_
            refine sA_iret (z := 1) dd_X6_takeItem_169 rfl ?_
            refine ⟨_, rfl, I12, f13, ?_⟩
            refine ⟨by omega, ?_⟩
            have e : rd_itm (F 43 7) (F 43 8) (F 43 9) (F 43 6) (F 44 1) (A 45) (A 47) v q = rd_flt 1 q := by
              unfold rd_itm
              rw [if_neg (by omega), if_neg (by omega), if_neg (by omega), if_neg (by omega)]
            rw [e]
            exact .inr ⟨by decide, rfl, (show q = F11 43 1 by omega)⟩
          · skip
            refine sA_aload_n dd_X6_takeItem_144 rfl (.tail _ (.head _)) ?_
            refine sA_geti (ci := 6) (j := 6) (q := (RX6, TX6, 10)) dd_X6_takeItem_145 rfl (by decide) fl_X6_36 (by decide) gs_s43 rfl ?_
            have b25 : (0 : Int) ≤ F11 43 6 ∧ F11 43 6 ≤ 4 := I12.1 43 6
            refine sA_if_le (tgt := 168) dd_X6_takeItem_148 (by decide) (by omega) (fun q26 => ?_) (fun q26 => ?_)
            · skip
              refine sA_iconst (z := 1) dd_X6_takeItem_168 ?_
              refine sA_iret (z := 1) dd_X6_takeItem_169 rfl ?_
              refine ⟨_, rfl, I12, f13, ?_⟩
              refine ⟨by omega, ?_⟩
              have e : rd_itm (F 43 7) (F 43 8) (F 43 9) (F 43 6) (F 44 1) (A 45) (A 47) v q = rd_flt 1 q := by
                unfold rd_itm
                rw [if_neg (by omega), if_neg (by omega), if_neg (by omega), if_neg (by omega)]
              rw [e]
              exact .inr ⟨by decide, rfl, (show q = F11 43 1 by omega)⟩
            · skip
              refine sA_aload_n dd_X6_takeItem_151 rfl (.tail _ (.head _)) ?_
              refine sA_dup dd_X6_takeItem_152 rfl ?_
              refine sA_geti (ci := 6) (j := 6) (q := (RX6, TX6, 10)) dd_X6_takeItem_153 rfl (by decide) fl_X6_36 (by decide) gs_s43 rfl ?_
              refine sA_iconst (z := 1) dd_X6_takeItem_156 ?_
              refine sA_isub dd_X6_takeItem_157 ?_
              refine sA_put (ci := 6) (j := 6) (q := (RX6, TX6, 10)) (ty := .int) dd_X6_takeItem_158 rfl (by decide) fl_X6_36 rfl (tyX6_ok 6 (by decide)) rfl rfl (by decide) gs_s43 rfl ?_
              have I28 : gs_I (gs_up F11 43 6 ((F11 43 6) - 1)) A := gs_I_put I12 (show (0 : Int) ≤ (F11 43 6) - 1 ∧ (F11 43 6) - 1 ≤ 4 by omega)
              have f29 := gs_fr_put f13 (a := 43) (z := (F11 43 6) - 1) (j := 6) (by first | omega | (dsimp only; omega) | (dsimp only) | fail)
              have v30 : gs_up F11 43 6 ((F11 43 6) - 1) 43 6 = (F11 43 6) - 1 := gs_up_self _ _ _ _
              have v31 : (gs_up F11 43 6 ((F11 43 6) - 1)) 43 1 = F11 43 1 := gs_up_ne _ _ (by omega)
              have v32 : (gs_up F11 43 6 ((F11 43 6) - 1)) 43 5 = F11 43 5 := gs_up_ne _ _ (by omega)
              have v33 : (gs_up F11 43 6 ((F11 43 6) - 1)) 43 7 = F11 43 7 := gs_up_ne _ _ (by omega)
              have v34 : (gs_up F11 43 6 ((F11 43 6) - 1)) 43 8 = F11 43 8 := gs_up_ne _ _ (by omega)
              have v35 : (gs_up F11 43 6 ((F11 43 6) - 1)) 43 9 = F11 43 9 := gs_up_ne _ _ (by omega)
              have v36 : (gs_up F11 43 6 ((F11 43 6) - 1)) 44 1 = F11 44 1 := gs_up_ne _ _ (by omega)
              generalize gs_up F11 43 6 ((F11 43 6) - 1) = F27 at I28 f29 v30 v31 v32 v33 v34 v35 v36 ⊢
              refine sA_aload_n dd_X6_takeItem_161 rfl (.tail _ (.head _)) ?_
              refine sA_iconst (z := 3) dd_X6_takeItem_162 ?_
              refine sA_put (ci := 6) (j := 7) (q := (RX6, TX6, 10)) (ty := .int) dd_X6_takeItem_163 rfl (by decide) fl_X6_39 rfl (tyX6_ok 7 (by decide)) rfl rfl (by decide) gs_s43 rfl ?_
              have I38 : gs_I (gs_up F27 43 7 3) A := gs_I_put I28 (show (-2147483648 : Int) ≤ 3 ∧ 3 ≤ 2147483647 by omega)
              have f39 := gs_fr_put f29 (a := 43) (z := 3) (j := 7) (by first | omega | (dsimp only; omega) | (dsimp only) | fail)
              have v40 : gs_up F27 43 7 3 43 7 = 3 := gs_up_self _ _ _ _
              have v41 : (gs_up F27 43 7 3) 43 1 = F27 43 1 := gs_up_ne _ _ (by omega)
              have v42 : (gs_up F27 43 7 3) 43 5 = F27 43 5 := gs_up_ne _ _ (by omega)
              have v43 : (gs_up F27 43 7 3) 43 6 = F27 43 6 := gs_up_ne _ _ (by omega)
              have v44 : (gs_up F27 43 7 3) 43 8 = F27 43 8 := gs_up_ne _ _ (by omega)
              have v45 : (gs_up F27 43 7 3) 43 9 = F27 43 9 := gs_up_ne _ _ (by omega)
              have v46 : (gs_up F27 43 7 3) 44 1 = F27 44 1 := gs_up_ne _ _ (by omega)
              generalize gs_up F27 43 7 3 = F37 at I38 f39 v40 v41 v42 v43 v44 v45 v46 ⊢
              refine sA_iconst (z := 0) dd_X6_takeItem_166 ?_
              refine sA_iret (z := 0) dd_X6_takeItem_167 rfl ?_
              refine ⟨_, rfl, I38, f39, ?_⟩
              refine ⟨by omega, ?_⟩
              refine .inl ⟨rfl, ?_⟩
              unfold rd_itm
              rw [if_neg (by omega), if_neg (by omega), if_neg (by omega), if_pos (by omega)]
              have e1 : F37 43 7 = 3 := by omega
              have e2 : F37 43 8 = F 43 8 := by omega
              have e3 : F37 43 9 = F 43 9 := by omega
              have e4 : F37 43 6 = F 43 6 - 1 := by omega
              have e5 : F37 44 1 = F 44 1 := by omega
              rw [e1, e2, e3, e4, e5, u8, u9]
        · skip
          refine sA_aload_n dd_X6_takeItem_100 rfl (.tail _ (.head _)) ?_
          refine sA_geti (ci := 6) (j := 6) (q := (RX6, TX6, 10)) dd_X6_takeItem_101 rfl (by decide) fl_X6_36 (by decide) gs_s43 rfl ?_
          have b47 : (0 : Int) ≤ F11 43 6 ∧ F11 43 6 ≤ 4 := I12.1 43 6
          refine sA_iconst (z := 4) dd_X6_takeItem_104 ?_
          refine sA_icmp_lt (tgt := 110) dd_X6_takeItem_105 (by decide) (by omega) (by omega) (fun q48 => ?_) (fun q48 => ?_)
          · skip
            have h110a : F11 43 6 = F 43 6 := by omega
            have h110b : F11 44 1 = F 44 1 := by omega
            refine sA_aload_n dd_X6_takeItem_110 rfl (.tail _ (.head _)) ?_
            refine sA_getr (ci := 6) (j := 4) (q := (RX6, TX6, 10)) dd_X6_takeItem_111 rfl (by decide) fl_X6_26 (by decide) gs_s43 rfl ?_
            refine sA_aload_n dd_X6_takeItem_114 rfl (.tail _ (.head _)) ?_
            refine sA_geti (ci := 6) (j := 6) (q := (RX6, TX6, 10)) dd_X6_takeItem_115 rfl (by decide) fl_X6_36 (by decide) gs_s43 rfl ?_
            refine sA_aload_n dd_X6_takeItem_118 rfl (.tail _ (.head _)) ?_
            refine sA_getr (ci := 6) (j := 2) (q := (RX6, TX6, 10)) dd_X6_takeItem_119 rfl (by decide) fl_X6_18 (by decide) gs_s43 rfl ?_
            refine sA_geti (ci := 2) (j := 1) (q := (RX2, TX2, 2)) dd_X6_takeItem_122 rfl (by decide) fl_X6_32 (Nat.lt_of_succ_lt gs_plan_44.1) gs_plan_44.2.1 rfl ?_
            have b49 := gs_plan_sz gs_plan_44 I12
            refine sA_iast (n := 4) dd_X6_takeItem_125 (by decide) gs_s47 (by omega) (by decide) ?_
            have I51 : gs_I F11 (gs_up A 47 ((F11 43 6).toNat) (F11 44 1)) := gs_I_ast I12 (show (0 : Int) ≤ F11 44 1 ∧ F11 44 1 ≤ 60 by omega)
            have f52 := gs_fr_ast f13 (a := 47) (z := F11 44 1) (i := (F11 43 6).toNat) (by first | omega | (dsimp only; omega) | (dsimp only) | fail)
            have u53 : (gs_up A 47 ((F11 43 6).toNat) (F11 44 1)) 45 = A 45 := (gs_up_row _ _ (by omega)).trans u8
            have u54 : (gs_up A 47 ((F11 43 6).toNat) (F11 44 1)) 47 = gs_u (A 47) ((F11 43 6).toNat) (F11 44 1) := (gs_up_u A 47 ((F11 43 6).toNat) (F11 44 1)).trans (congrArg (fun f => gs_u f ((F11 43 6).toNat) (F11 44 1)) u9)
            generalize gs_up A 47 ((F11 43 6).toNat) (F11 44 1) = A50 at I51 f52 u53 u54 ⊢
            refine sA_aload_n dd_X6_takeItem_126 rfl (.tail _ (.head _)) ?_
            refine sA_dup dd_X6_takeItem_127 rfl ?_
            refine sA_geti (ci := 6) (j := 6) (q := (RX6, TX6, 10)) dd_X6_takeItem_128 rfl (by decide) fl_X6_36 (by decide) gs_s43 rfl ?_
            refine sA_iconst (z := 1) dd_X6_takeItem_131 ?_
            refine sA_iadd dd_X6_takeItem_132 ?_
            refine sA_put (ci := 6) (j := 6) (q := (RX6, TX6, 10)) (ty := .int) dd_X6_takeItem_133 rfl (by decide) fl_X6_36 rfl (tyX6_ok 6 (by decide)) rfl rfl (by decide) gs_s43 rfl ?_
            have I56 : gs_I (gs_up F11 43 6 ((F11 43 6) + 1)) A50 := gs_I_put I51 (show (0 : Int) ≤ (F11 43 6) + 1 ∧ (F11 43 6) + 1 ≤ 4 by omega)
            have f57 := gs_fr_put f52 (a := 43) (z := (F11 43 6) + 1) (j := 6) (by first | omega | (dsimp only; omega) | (dsimp only) | fail)
            have v58 : gs_up F11 43 6 ((F11 43 6) + 1) 43 6 = (F11 43 6) + 1 := gs_up_self _ _ _ _
            have v59 : (gs_up F11 43 6 ((F11 43 6) + 1)) 43 1 = F11 43 1 := gs_up_ne _ _ (by omega)
            have v60 : (gs_up F11 43 6 ((F11 43 6) + 1)) 43 5 = F11 43 5 := gs_up_ne _ _ (by omega)
            have v61 : (gs_up F11 43 6 ((F11 43 6) + 1)) 43 7 = F11 43 7 := gs_up_ne _ _ (by omega)
            have v62 : (gs_up F11 43 6 ((F11 43 6) + 1)) 43 8 = F11 43 8 := gs_up_ne _ _ (by omega)
            have v63 : (gs_up F11 43 6 ((F11 43 6) + 1)) 43 9 = F11 43 9 := gs_up_ne _ _ (by omega)
            have v64 : (gs_up F11 43 6 ((F11 43 6) + 1)) 44 1 = F11 44 1 := gs_up_ne _ _ (by omega)
            generalize gs_up F11 43 6 ((F11 43 6) + 1) = F55 at I56 f57 v58 v59 v60 v61 v62 v63 v64 ⊢
            refine sA_iconst (z := 0) dd_X6_takeItem_136 ?_
            refine sA_iret (z := 0) dd_X6_takeItem_137 rfl ?_
            refine ⟨_, rfl, I56, f57, ?_⟩
            refine ⟨by omega, ?_⟩
            refine .inl ⟨rfl, ?_⟩
            unfold rd_itm
            rw [if_neg (by omega), if_neg (by omega), if_pos (by omega), if_neg (by omega)]
            have e1 : F55 43 7 = 0 := by omega
            have e2 : F55 43 8 = F 43 8 := by omega
            have e3 : F55 43 9 = F 43 9 := by omega
            have e4 : F55 43 6 = F 43 6 + 1 := by omega
            have e5 : F55 44 1 = F 44 1 := by omega
            rw [e1, e2, e3, e4, e5, u53, u54]
            rw [h110a, h110b]
          · skip
            refine sA_iconst (z := 4) dd_X6_takeItem_108 ?_
            refine sA_iret (z := 4) dd_X6_takeItem_109 rfl ?_
            refine ⟨_, rfl, I12, f13, ?_⟩
            refine ⟨by omega, ?_⟩
            have e : rd_itm (F 43 7) (F 43 8) (F 43 9) (F 43 6) (F 44 1) (A 45) (A 47) v q = rd_flt 4 q := by
              unfold rd_itm
              rw [if_neg (by omega), if_neg (by omega), if_pos (by omega), if_pos (by omega)]
            rw [e]
            exact .inr ⟨by decide, rfl, (show q = F11 43 1 by omega)⟩
      · skip
        refine sA_iload_n dd_X6_takeItem_68 rfl (.tail _ (.tail _ (.head _))) ?_
        refine sA_bipush (z := 99) dd_X6_takeItem_69 (by decide) ?_
        refine sA_icmp_gt (tgt := 94) dd_X6_takeItem_71 (by decide) (by omega) (by omega) (fun q65 => ?_) (fun q65 => ?_)
        · skip
          refine sA_iload_n dd_X6_takeItem_94 rfl (.tail _ (.tail _ (.head _))) ?_
          refine sA_bipush (z := 40) dd_X6_takeItem_95 (by decide) ?_
          refine sA_icmp_ne (tgt := 138) dd_X6_takeItem_97 (by decide) (by omega) (by omega) (fun q66 => ?_) (fun q66 => ?_)
          · skip
            refine sA_iload_n dd_X6_takeItem_138 rfl (.tail _ (.tail _ (.head _))) ?_
            refine sA_bipush (z := 41) dd_X6_takeItem_139 (by decide) ?_
            refine sA_icmp_ne (tgt := 168) dd_X6_takeItem_141 (by decide) (by omega) (by omega) (fun q67 => ?_) (fun q67 => ?_)
            · skip
              refine sA_iconst (z := 1) dd_X6_takeItem_168 ?_
              refine sA_iret (z := 1) dd_X6_takeItem_169 rfl ?_
              refine ⟨_, rfl, I12, f13, ?_⟩
              refine ⟨by omega, ?_⟩
              have e : rd_itm (F 43 7) (F 43 8) (F 43 9) (F 43 6) (F 44 1) (A 45) (A 47) v q = rd_flt 1 q := by
                unfold rd_itm
                rw [if_neg (by omega), if_neg (by omega), if_neg (by omega), if_neg (by omega)]
              rw [e]
              exact .inr ⟨by decide, rfl, (show q = F11 43 1 by omega)⟩
            · skip
              refine sA_aload_n dd_X6_takeItem_144 rfl (.tail _ (.head _)) ?_
              refine sA_geti (ci := 6) (j := 6) (q := (RX6, TX6, 10)) dd_X6_takeItem_145 rfl (by decide) fl_X6_36 (by decide) gs_s43 rfl ?_
              have b68 : (0 : Int) ≤ F11 43 6 ∧ F11 43 6 ≤ 4 := I12.1 43 6
              refine sA_if_le (tgt := 168) dd_X6_takeItem_148 (by decide) (by omega) (fun q69 => ?_) (fun q69 => ?_)
              · skip
                refine sA_iconst (z := 1) dd_X6_takeItem_168 ?_
                refine sA_iret (z := 1) dd_X6_takeItem_169 rfl ?_
                refine ⟨_, rfl, I12, f13, ?_⟩
                refine ⟨by omega, ?_⟩
                have e : rd_itm (F 43 7) (F 43 8) (F 43 9) (F 43 6) (F 44 1) (A 45) (A 47) v q = rd_flt 1 q := by
                  unfold rd_itm
                  rw [if_neg (by omega), if_neg (by omega), if_neg (by omega), if_neg (by omega)]
                rw [e]
                exact .inr ⟨by decide, rfl, (show q = F11 43 1 by omega)⟩
              · skip
                refine sA_aload_n dd_X6_takeItem_151 rfl (.tail _ (.head _)) ?_
                refine sA_dup dd_X6_takeItem_152 rfl ?_
                refine sA_geti (ci := 6) (j := 6) (q := (RX6, TX6, 10)) dd_X6_takeItem_153 rfl (by decide) fl_X6_36 (by decide) gs_s43 rfl ?_
                refine sA_iconst (z := 1) dd_X6_takeItem_156 ?_
                refine sA_isub dd_X6_takeItem_157 ?_
                refine sA_put (ci := 6) (j := 6) (q := (RX6, TX6, 10)) (ty := .int) dd_X6_takeItem_158 rfl (by decide) fl_X6_36 rfl (tyX6_ok 6 (by decide)) rfl rfl (by decide) gs_s43 rfl ?_
                have I71 : gs_I (gs_up F11 43 6 ((F11 43 6) - 1)) A := gs_I_put I12 (show (0 : Int) ≤ (F11 43 6) - 1 ∧ (F11 43 6) - 1 ≤ 4 by omega)
                have f72 := gs_fr_put f13 (a := 43) (z := (F11 43 6) - 1) (j := 6) (by first | omega | (dsimp only; omega) | (dsimp only) | fail)
                have v73 : gs_up F11 43 6 ((F11 43 6) - 1) 43 6 = (F11 43 6) - 1 := gs_up_self _ _ _ _
                have v74 : (gs_up F11 43 6 ((F11 43 6) - 1)) 43 1 = F11 43 1 := gs_up_ne _ _ (by omega)
                have v75 : (gs_up F11 43 6 ((F11 43 6) - 1)) 43 5 = F11 43 5 := gs_up_ne _ _ (by omega)
                have v76 : (gs_up F11 43 6 ((F11 43 6) - 1)) 43 7 = F11 43 7 := gs_up_ne _ _ (by omega)
                have v77 : (gs_up F11 43 6 ((F11 43 6) - 1)) 43 8 = F11 43 8 := gs_up_ne _ _ (by omega)
                have v78 : (gs_up F11 43 6 ((F11 43 6) - 1)) 43 9 = F11 43 9 := gs_up_ne _ _ (by omega)
                have v79 : (gs_up F11 43 6 ((F11 43 6) - 1)) 44 1 = F11 44 1 := gs_up_ne _ _ (by omega)
                generalize gs_up F11 43 6 ((F11 43 6) - 1) = F70 at I71 f72 v73 v74 v75 v76 v77 v78 v79 ⊢
                refine sA_aload_n dd_X6_takeItem_161 rfl (.tail _ (.head _)) ?_
                refine sA_iconst (z := 3) dd_X6_takeItem_162 ?_
                refine sA_put (ci := 6) (j := 7) (q := (RX6, TX6, 10)) (ty := .int) dd_X6_takeItem_163 rfl (by decide) fl_X6_39 rfl (tyX6_ok 7 (by decide)) rfl rfl (by decide) gs_s43 rfl ?_
                have I81 : gs_I (gs_up F70 43 7 3) A := gs_I_put I71 (show (-2147483648 : Int) ≤ 3 ∧ 3 ≤ 2147483647 by omega)
                have f82 := gs_fr_put f72 (a := 43) (z := 3) (j := 7) (by first | omega | (dsimp only; omega) | (dsimp only) | fail)
                have v83 : gs_up F70 43 7 3 43 7 = 3 := gs_up_self _ _ _ _
                have v84 : (gs_up F70 43 7 3) 43 1 = F70 43 1 := gs_up_ne _ _ (by omega)
                have v85 : (gs_up F70 43 7 3) 43 5 = F70 43 5 := gs_up_ne _ _ (by omega)
                have v86 : (gs_up F70 43 7 3) 43 6 = F70 43 6 := gs_up_ne _ _ (by omega)
                have v87 : (gs_up F70 43 7 3) 43 8 = F70 43 8 := gs_up_ne _ _ (by omega)
                have v88 : (gs_up F70 43 7 3) 43 9 = F70 43 9 := gs_up_ne _ _ (by omega)
                have v89 : (gs_up F70 43 7 3) 44 1 = F70 44 1 := gs_up_ne _ _ (by omega)
                generalize gs_up F70 43 7 3 = F80 at I81 f82 v83 v84 v85 v86 v87 v88 v89 ⊢
                refine sA_iconst (z := 0) dd_X6_takeItem_166 ?_
                refine sA_iret (z := 0) dd_X6_takeItem_167 rfl ?_
                refine ⟨_, rfl, I81, f82, ?_⟩
                refine ⟨by omega, ?_⟩
                refine .inl ⟨rfl, ?_⟩
                unfold rd_itm
                rw [if_neg (by omega), if_neg (by omega), if_neg (by omega), if_pos (by omega)]
                have e1 : F80 43 7 = 3 := by omega
                have e2 : F80 43 8 = F 43 8 := by omega
                have e3 : F80 43 9 = F 43 9 := by omega
                have e4 : F80 43 6 = F 43 6 - 1 := by omega
                have e5 : F80 44 1 = F 44 1 := by omega
                rw [e1, e2, e3, e4, e5, u8, u9]
          · skip
            refine sA_aload_n dd_X6_takeItem_100 rfl (.tail _ (.head _)) ?_
            refine sA_geti (ci := 6) (j := 6) (q := (RX6, TX6, 10)) dd_X6_takeItem_101 rfl (by decide) fl_X6_36 (by decide) gs_s43 rfl ?_
            have b90 : (0 : Int) ≤ F11 43 6 ∧ F11 43 6 ≤ 4 := I12.1 43 6
            refine sA_iconst (z := 4) dd_X6_takeItem_104 ?_
            refine sA_icmp_lt (tgt := 110) dd_X6_takeItem_105 (by decide) (by omega) (by omega) (fun q91 => ?_) (fun q91 => ?_)
            · skip
              have h110a : F11 43 6 = F 43 6 := by omega
              have h110b : F11 44 1 = F 44 1 := by omega
              refine sA_aload_n dd_X6_takeItem_110 rfl (.tail _ (.head _)) ?_
              refine sA_getr (ci := 6) (j := 4) (q := (RX6, TX6, 10)) dd_X6_takeItem_111 rfl (by decide) fl_X6_26 (by decide) gs_s43 rfl ?_
              refine sA_aload_n dd_X6_takeItem_114 rfl (.tail _ (.head _)) ?_
              refine sA_geti (ci := 6) (j := 6) (q := (RX6, TX6, 10)) dd_X6_takeItem_115 rfl (by decide) fl_X6_36 (by decide) gs_s43 rfl ?_
              refine sA_aload_n dd_X6_takeItem_118 rfl (.tail _ (.head _)) ?_
              refine sA_getr (ci := 6) (j := 2) (q := (RX6, TX6, 10)) dd_X6_takeItem_119 rfl (by decide) fl_X6_18 (by decide) gs_s43 rfl ?_
              refine sA_geti (ci := 2) (j := 1) (q := (RX2, TX2, 2)) dd_X6_takeItem_122 rfl (by decide) fl_X6_32 (Nat.lt_of_succ_lt gs_plan_44.1) gs_plan_44.2.1 rfl ?_
              have b92 := gs_plan_sz gs_plan_44 I12
              refine sA_iast (n := 4) dd_X6_takeItem_125 (by decide) gs_s47 (by omega) (by decide) ?_
              have I94 : gs_I F11 (gs_up A 47 ((F11 43 6).toNat) (F11 44 1)) := gs_I_ast I12 (show (0 : Int) ≤ F11 44 1 ∧ F11 44 1 ≤ 60 by omega)
              have f95 := gs_fr_ast f13 (a := 47) (z := F11 44 1) (i := (F11 43 6).toNat) (by first | omega | (dsimp only; omega) | (dsimp only) | fail)
              have u96 : (gs_up A 47 ((F11 43 6).toNat) (F11 44 1)) 45 = A 45 := (gs_up_row _ _ (by omega)).trans u8
              have u97 : (gs_up A 47 ((F11 43 6).toNat) (F11 44 1)) 47 = gs_u (A 47) ((F11 43 6).toNat) (F11 44 1) := (gs_up_u A 47 ((F11 43 6).toNat) (F11 44 1)).trans (congrArg (fun f => gs_u f ((F11 43 6).toNat) (F11 44 1)) u9)
              generalize gs_up A 47 ((F11 43 6).toNat) (F11 44 1) = A93 at I94 f95 u96 u97 ⊢
              refine sA_aload_n dd_X6_takeItem_126 rfl (.tail _ (.head _)) ?_
              refine sA_dup dd_X6_takeItem_127 rfl ?_
              refine sA_geti (ci := 6) (j := 6) (q := (RX6, TX6, 10)) dd_X6_takeItem_128 rfl (by decide) fl_X6_36 (by decide) gs_s43 rfl ?_
              refine sA_iconst (z := 1) dd_X6_takeItem_131 ?_
              refine sA_iadd dd_X6_takeItem_132 ?_
              refine sA_put (ci := 6) (j := 6) (q := (RX6, TX6, 10)) (ty := .int) dd_X6_takeItem_133 rfl (by decide) fl_X6_36 rfl (tyX6_ok 6 (by decide)) rfl rfl (by decide) gs_s43 rfl ?_
              have I99 : gs_I (gs_up F11 43 6 ((F11 43 6) + 1)) A93 := gs_I_put I94 (show (0 : Int) ≤ (F11 43 6) + 1 ∧ (F11 43 6) + 1 ≤ 4 by omega)
              have f100 := gs_fr_put f95 (a := 43) (z := (F11 43 6) + 1) (j := 6) (by first | omega | (dsimp only; omega) | (dsimp only) | fail)
              have v101 : gs_up F11 43 6 ((F11 43 6) + 1) 43 6 = (F11 43 6) + 1 := gs_up_self _ _ _ _
              have v102 : (gs_up F11 43 6 ((F11 43 6) + 1)) 43 1 = F11 43 1 := gs_up_ne _ _ (by omega)
              have v103 : (gs_up F11 43 6 ((F11 43 6) + 1)) 43 5 = F11 43 5 := gs_up_ne _ _ (by omega)
              have v104 : (gs_up F11 43 6 ((F11 43 6) + 1)) 43 7 = F11 43 7 := gs_up_ne _ _ (by omega)
              have v105 : (gs_up F11 43 6 ((F11 43 6) + 1)) 43 8 = F11 43 8 := gs_up_ne _ _ (by omega)
              have v106 : (gs_up F11 43 6 ((F11 43 6) + 1)) 43 9 = F11 43 9 := gs_up_ne _ _ (by omega)
              have v107 : (gs_up F11 43 6 ((F11 43 6) + 1)) 44 1 = F11 44 1 := gs_up_ne _ _ (by omega)
              generalize gs_up F11 43 6 ((F11 43 6) + 1) = F98 at I99 f100 v101 v102 v103 v104 v105 v106 v107 ⊢
              refine sA_iconst (z := 0) dd_X6_takeItem_136 ?_
              refine sA_iret (z := 0) dd_X6_takeItem_137 rfl ?_
              refine ⟨_, rfl, I99, f100, ?_⟩
              refine ⟨by omega, ?_⟩
              refine .inl ⟨rfl, ?_⟩
              unfold rd_itm
              rw [if_neg (by omega), if_neg (by omega), if_pos (by omega), if_neg (by omega)]
              have e1 : F98 43 7 = 0 := by omega
              have e2 : F98 43 8 = F 43 8 := by omega
              have e3 : F98 43 9 = F 43 9 := by omega
              have e4 : F98 43 6 = F 43 6 + 1 := by omega
              have e5 : F98 44 1 = F 44 1 := by omega
              rw [e1, e2, e3, e4, e5, u96, u97]
              rw [h110a, h110b]
            · skip
              refine sA_iconst (z := 4) dd_X6_takeItem_108 ?_
              refine sA_iret (z := 4) dd_X6_takeItem_109 rfl ?_
              refine ⟨_, rfl, I12, f13, ?_⟩
              refine ⟨by omega, ?_⟩
              have e : rd_itm (F 43 7) (F 43 8) (F 43 9) (F 43 6) (F 44 1) (A 45) (A 47) v q = rd_flt 4 q := by
                unfold rd_itm
                rw [if_neg (by omega), if_neg (by omega), if_pos (by omega), if_pos (by omega)]
              rw [e]
              exact .inr ⟨by decide, rfl, (show q = F11 43 1 by omega)⟩
        · skip
          refine sA_aload_n dd_X6_takeItem_74 rfl (.tail _ (.head _)) ?_
          refine sA_iload_n dd_X6_takeItem_75 rfl (.tail _ (.tail _ (.head _))) ?_
          refine sA_bipush (z := 97) dd_X6_takeItem_76 (by decide) ?_
          refine sA_isub dd_X6_takeItem_78 ?_
          refine sA_put (ci := 6) (j := 8) (q := (RX6, TX6, 10)) (ty := .int) dd_X6_takeItem_79 rfl (by decide) fl_X6_60 rfl (tyX6_ok 8 (by decide)) rfl rfl (by decide) gs_s43 rfl ?_
          have I109 : gs_I (gs_up F11 43 8 (v - 97)) A := gs_I_put I12 (show (-2147483648 : Int) ≤ v - 97 ∧ v - 97 ≤ 2147483647 by omega)
          have f110 := gs_fr_put f13 (a := 43) (z := v - 97) (j := 8) (by first | omega | (dsimp only; omega) | (dsimp only) | fail)
          have v111 : gs_up F11 43 8 (v - 97) 43 8 = v - 97 := gs_up_self _ _ _ _
          have v112 : (gs_up F11 43 8 (v - 97)) 43 1 = F11 43 1 := gs_up_ne _ _ (by omega)
          have v113 : (gs_up F11 43 8 (v - 97)) 43 5 = F11 43 5 := gs_up_ne _ _ (by omega)
          have v114 : (gs_up F11 43 8 (v - 97)) 43 6 = F11 43 6 := gs_up_ne _ _ (by omega)
          have v115 : (gs_up F11 43 8 (v - 97)) 43 7 = F11 43 7 := gs_up_ne _ _ (by omega)
          have v116 : (gs_up F11 43 8 (v - 97)) 43 9 = F11 43 9 := gs_up_ne _ _ (by omega)
          have v117 : (gs_up F11 43 8 (v - 97)) 44 1 = F11 44 1 := gs_up_ne _ _ (by omega)
          generalize gs_up F11 43 8 (v - 97) = F108 at I109 f110 v111 v112 v113 v114 v115 v116 v117 ⊢
          refine sA_aload_n dd_X6_takeItem_82 rfl (.tail _ (.head _)) ?_
          refine sA_iload_n dd_X6_takeItem_83 rfl (.tail _ (.tail _ (.tail _ (.head _)))) ?_
          refine sA_put (ci := 6) (j := 9) (q := (RX6, TX6, 10)) (ty := .int) dd_X6_takeItem_84 rfl (by decide) fl_X6_63 rfl (tyX6_ok 9 (by decide)) rfl rfl (by decide) gs_s43 rfl ?_
          have I119 : gs_I (gs_up F108 43 9 q) A := gs_I_put I109 (show (-2147483648 : Int) ≤ q ∧ q ≤ 2147483647 by omega)
          have f120 := gs_fr_put f110 (a := 43) (z := q) (j := 9) (by first | omega | (dsimp only; omega) | (dsimp only) | fail)
          have v121 : gs_up F108 43 9 q 43 9 = q := gs_up_self _ _ _ _
          have v122 : (gs_up F108 43 9 q) 43 1 = F108 43 1 := gs_up_ne _ _ (by omega)
          have v123 : (gs_up F108 43 9 q) 43 5 = F108 43 5 := gs_up_ne _ _ (by omega)
          have v124 : (gs_up F108 43 9 q) 43 6 = F108 43 6 := gs_up_ne _ _ (by omega)
          have v125 : (gs_up F108 43 9 q) 43 7 = F108 43 7 := gs_up_ne _ _ (by omega)
          have v126 : (gs_up F108 43 9 q) 43 8 = F108 43 8 := gs_up_ne _ _ (by omega)
          have v127 : (gs_up F108 43 9 q) 44 1 = F108 44 1 := gs_up_ne _ _ (by omega)
          generalize gs_up F108 43 9 q = F118 at I119 f120 v121 v122 v123 v124 v125 v126 v127 ⊢
          refine sA_aload_n dd_X6_takeItem_87 rfl (.tail _ (.head _)) ?_
          refine sA_iconst (z := 1) dd_X6_takeItem_88 ?_
          refine sA_put (ci := 6) (j := 7) (q := (RX6, TX6, 10)) (ty := .int) dd_X6_takeItem_89 rfl (by decide) fl_X6_39 rfl (tyX6_ok 7 (by decide)) rfl rfl (by decide) gs_s43 rfl ?_
          have I129 : gs_I (gs_up F118 43 7 1) A := gs_I_put I119 (show (-2147483648 : Int) ≤ 1 ∧ 1 ≤ 2147483647 by omega)
          have f130 := gs_fr_put f120 (a := 43) (z := 1) (j := 7) (by first | omega | (dsimp only; omega) | (dsimp only) | fail)
          have v131 : gs_up F118 43 7 1 43 7 = 1 := gs_up_self _ _ _ _
          have v132 : (gs_up F118 43 7 1) 43 1 = F118 43 1 := gs_up_ne _ _ (by omega)
          have v133 : (gs_up F118 43 7 1) 43 5 = F118 43 5 := gs_up_ne _ _ (by omega)
          have v134 : (gs_up F118 43 7 1) 43 6 = F118 43 6 := gs_up_ne _ _ (by omega)
          have v135 : (gs_up F118 43 7 1) 43 8 = F118 43 8 := gs_up_ne _ _ (by omega)
          have v136 : (gs_up F118 43 7 1) 43 9 = F118 43 9 := gs_up_ne _ _ (by omega)
          have v137 : (gs_up F118 43 7 1) 44 1 = F118 44 1 := gs_up_ne _ _ (by omega)
          generalize gs_up F118 43 7 1 = F128 at I129 f130 v131 v132 v133 v134 v135 v136 v137 ⊢
          refine sA_iconst (z := 0) dd_X6_takeItem_92 ?_
          refine sA_iret (z := 0) dd_X6_takeItem_93 rfl ?_
          refine ⟨_, rfl, I129, f130, ?_⟩
          refine ⟨by omega, ?_⟩
          refine .inl ⟨rfl, ?_⟩
          unfold rd_itm
          rw [if_neg (by omega), if_pos (by omega)]
          have e1 : F128 43 7 = 1 := by omega
          have e2 : F128 43 8 = v - 97 := by omega
          have e3 : F128 43 9 = q := by omega
          have e4 : F128 43 6 = F 43 6 := by omega
          have e5 : F128 44 1 = F 44 1 := by omega
          rw [e1, e2, e3, e4, e5, u8, u9]
    · skip
      refine sA_iload_n dd_X6_takeItem_25 rfl (.head _) ?_
      refine sA_if_eq (tgt := 62) dd_X6_takeItem_26 (by decide) (by omega) (fun q138 => ?_) (fun q138 => absurd q138 (by omega))
      refine sA_iload_n dd_X6_takeItem_62 rfl (.tail _ (.tail _ (.head _))) ?_
      refine sA_bipush (z := 97) dd_X6_takeItem_63 (by decide) ?_
      refine sA_icmp_lt (tgt := 94) dd_X6_takeItem_65 (by decide) (by omega) (by omega) (fun q139 => ?_) (fun q139 => ?_)
      · skip
        refine sA_iload_n dd_X6_takeItem_94 rfl (.tail _ (.tail _ (.head _))) ?_
        refine sA_bipush (z := 40) dd_X6_takeItem_95 (by decide) ?_
        refine sA_icmp_ne (tgt := 138) dd_X6_takeItem_97 (by decide) (by omega) (by omega) (fun q140 => ?_) (fun q140 => ?_)
        · skip
          refine sA_iload_n dd_X6_takeItem_138 rfl (.tail _ (.tail _ (.head _))) ?_
          refine sA_bipush (z := 41) dd_X6_takeItem_139 (by decide) ?_
          refine sA_icmp_ne (tgt := 168) dd_X6_takeItem_141 (by decide) (by omega) (by omega) (fun q141 => ?_) (fun q141 => ?_)
          · skip
            refine sA_iconst (z := 1) dd_X6_takeItem_168 ?_
            refine sA_iret (z := 1) dd_X6_takeItem_169 rfl ?_
            refine ⟨_, rfl, I12, f13, ?_⟩
            refine ⟨by omega, ?_⟩
            have e : rd_itm (F 43 7) (F 43 8) (F 43 9) (F 43 6) (F 44 1) (A 45) (A 47) v q = rd_flt 1 q := by
              unfold rd_itm
              rw [if_neg (by omega), if_neg (by omega), if_neg (by omega), if_neg (by omega)]
            rw [e]
            exact .inr ⟨by decide, rfl, (show q = F11 43 1 by omega)⟩
          · skip
            refine sA_aload_n dd_X6_takeItem_144 rfl (.tail _ (.head _)) ?_
            refine sA_geti (ci := 6) (j := 6) (q := (RX6, TX6, 10)) dd_X6_takeItem_145 rfl (by decide) fl_X6_36 (by decide) gs_s43 rfl ?_
            have b142 : (0 : Int) ≤ F11 43 6 ∧ F11 43 6 ≤ 4 := I12.1 43 6
            refine sA_if_le (tgt := 168) dd_X6_takeItem_148 (by decide) (by omega) (fun q143 => ?_) (fun q143 => ?_)
            · skip
              refine sA_iconst (z := 1) dd_X6_takeItem_168 ?_
              refine sA_iret (z := 1) dd_X6_takeItem_169 rfl ?_
              refine ⟨_, rfl, I12, f13, ?_⟩
              refine ⟨by omega, ?_⟩
              have e : rd_itm (F 43 7) (F 43 8) (F 43 9) (F 43 6) (F 44 1) (A 45) (A 47) v q = rd_flt 1 q := by
                unfold rd_itm
                rw [if_neg (by omega), if_neg (by omega), if_neg (by omega), if_neg (by omega)]
              rw [e]
              exact .inr ⟨by decide, rfl, (show q = F11 43 1 by omega)⟩
            · skip
              refine sA_aload_n dd_X6_takeItem_151 rfl (.tail _ (.head _)) ?_
              refine sA_dup dd_X6_takeItem_152 rfl ?_
              refine sA_geti (ci := 6) (j := 6) (q := (RX6, TX6, 10)) dd_X6_takeItem_153 rfl (by decide) fl_X6_36 (by decide) gs_s43 rfl ?_
              refine sA_iconst (z := 1) dd_X6_takeItem_156 ?_
              refine sA_isub dd_X6_takeItem_157 ?_
              refine sA_put (ci := 6) (j := 6) (q := (RX6, TX6, 10)) (ty := .int) dd_X6_takeItem_158 rfl (by decide) fl_X6_36 rfl (tyX6_ok 6 (by decide)) rfl rfl (by decide) gs_s43 rfl ?_
              have I145 : gs_I (gs_up F11 43 6 ((F11 43 6) - 1)) A := gs_I_put I12 (show (0 : Int) ≤ (F11 43 6) - 1 ∧ (F11 43 6) - 1 ≤ 4 by omega)
              have f146 := gs_fr_put f13 (a := 43) (z := (F11 43 6) - 1) (j := 6) (by first | omega | (dsimp only; omega) | (dsimp only) | fail)
              have v147 : gs_up F11 43 6 ((F11 43 6) - 1) 43 6 = (F11 43 6) - 1 := gs_up_self _ _ _ _
              have v148 : (gs_up F11 43 6 ((F11 43 6) - 1)) 43 1 = F11 43 1 := gs_up_ne _ _ (by omega)
              have v149 : (gs_up F11 43 6 ((F11 43 6) - 1)) 43 5 = F11 43 5 := gs_up_ne _ _ (by omega)
              have v150 : (gs_up F11 43 6 ((F11 43 6) - 1)) 43 7 = F11 43 7 := gs_up_ne _ _ (by omega)
              have v151 : (gs_up F11 43 6 ((F11 43 6) - 1)) 43 8 = F11 43 8 := gs_up_ne _ _ (by omega)
              have v152 : (gs_up F11 43 6 ((F11 43 6) - 1)) 43 9 = F11 43 9 := gs_up_ne _ _ (by omega)
              have v153 : (gs_up F11 43 6 ((F11 43 6) - 1)) 44 1 = F11 44 1 := gs_up_ne _ _ (by omega)
              generalize gs_up F11 43 6 ((F11 43 6) - 1) = F144 at I145 f146 v147 v148 v149 v150 v151 v152 v153 ⊢
              refine sA_aload_n dd_X6_takeItem_161 rfl (.tail _ (.head _)) ?_
              refine sA_iconst (z := 3) dd_X6_takeItem_162 ?_
              refine sA_put (ci := 6) (j := 7) (q := (RX6, TX6, 10)) (ty := .int) dd_X6_takeItem_163 rfl (by decide) fl_X6_39 rfl (tyX6_ok 7 (by decide)) rfl rfl (by decide) gs_s43 rfl ?_
              have I155 : gs_I (gs_up F144 43 7 3) A := gs_I_put I145 (show (-2147483648 : Int) ≤ 3 ∧ 3 ≤ 2147483647 by omega)
              have f156 := gs_fr_put f146 (a := 43) (z := 3) (j := 7) (by first | omega | (dsimp only; omega) | (dsimp only) | fail)
              have v157 : gs_up F144 43 7 3 43 7 = 3 := gs_up_self _ _ _ _
              have v158 : (gs_up F144 43 7 3) 43 1 = F144 43 1 := gs_up_ne _ _ (by omega)
              have v159 : (gs_up F144 43 7 3) 43 5 = F144 43 5 := gs_up_ne _ _ (by omega)
              have v160 : (gs_up F144 43 7 3) 43 6 = F144 43 6 := gs_up_ne _ _ (by omega)
              have v161 : (gs_up F144 43 7 3) 43 8 = F144 43 8 := gs_up_ne _ _ (by omega)
              have v162 : (gs_up F144 43 7 3) 43 9 = F144 43 9 := gs_up_ne _ _ (by omega)
              have v163 : (gs_up F144 43 7 3) 44 1 = F144 44 1 := gs_up_ne _ _ (by omega)
              generalize gs_up F144 43 7 3 = F154 at I155 f156 v157 v158 v159 v160 v161 v162 v163 ⊢
              refine sA_iconst (z := 0) dd_X6_takeItem_166 ?_
              refine sA_iret (z := 0) dd_X6_takeItem_167 rfl ?_
              refine ⟨_, rfl, I155, f156, ?_⟩
              refine ⟨by omega, ?_⟩
              refine .inl ⟨rfl, ?_⟩
              unfold rd_itm
              rw [if_neg (by omega), if_neg (by omega), if_neg (by omega), if_pos (by omega)]
              have e1 : F154 43 7 = 3 := by omega
              have e2 : F154 43 8 = F 43 8 := by omega
              have e3 : F154 43 9 = F 43 9 := by omega
              have e4 : F154 43 6 = F 43 6 - 1 := by omega
              have e5 : F154 44 1 = F 44 1 := by omega
              rw [e1, e2, e3, e4, e5, u8, u9]
        · skip
          refine sA_aload_n dd_X6_takeItem_100 rfl (.tail _ (.head _)) ?_
          refine sA_geti (ci := 6) (j := 6) (q := (RX6, TX6, 10)) dd_X6_takeItem_101 rfl (by decide) fl_X6_36 (by decide) gs_s43 rfl ?_
          have b164 : (0 : Int) ≤ F11 43 6 ∧ F11 43 6 ≤ 4 := I12.1 43 6
          refine sA_iconst (z := 4) dd_X6_takeItem_104 ?_
          refine sA_icmp_lt (tgt := 110) dd_X6_takeItem_105 (by decide) (by omega) (by omega) (fun q165 => ?_) (fun q165 => ?_)
          · skip
            have h110a : F11 43 6 = F 43 6 := by omega
            have h110b : F11 44 1 = F 44 1 := by omega
            refine sA_aload_n dd_X6_takeItem_110 rfl (.tail _ (.head _)) ?_
            refine sA_getr (ci := 6) (j := 4) (q := (RX6, TX6, 10)) dd_X6_takeItem_111 rfl (by decide) fl_X6_26 (by decide) gs_s43 rfl ?_
            refine sA_aload_n dd_X6_takeItem_114 rfl (.tail _ (.head _)) ?_
            refine sA_geti (ci := 6) (j := 6) (q := (RX6, TX6, 10)) dd_X6_takeItem_115 rfl (by decide) fl_X6_36 (by decide) gs_s43 rfl ?_
            refine sA_aload_n dd_X6_takeItem_118 rfl (.tail _ (.head _)) ?_
            refine sA_getr (ci := 6) (j := 2) (q := (RX6, TX6, 10)) dd_X6_takeItem_119 rfl (by decide) fl_X6_18 (by decide) gs_s43 rfl ?_
            refine sA_geti (ci := 2) (j := 1) (q := (RX2, TX2, 2)) dd_X6_takeItem_122 rfl (by decide) fl_X6_32 (Nat.lt_of_succ_lt gs_plan_44.1) gs_plan_44.2.1 rfl ?_
            have b166 := gs_plan_sz gs_plan_44 I12
            refine sA_iast (n := 4) dd_X6_takeItem_125 (by decide) gs_s47 (by omega) (by decide) ?_
            have I168 : gs_I F11 (gs_up A 47 ((F11 43 6).toNat) (F11 44 1)) := gs_I_ast I12 (show (0 : Int) ≤ F11 44 1 ∧ F11 44 1 ≤ 60 by omega)
            have f169 := gs_fr_ast f13 (a := 47) (z := F11 44 1) (i := (F11 43 6).toNat) (by first | omega | (dsimp only; omega) | (dsimp only) | fail)
            have u170 : (gs_up A 47 ((F11 43 6).toNat) (F11 44 1)) 45 = A 45 := (gs_up_row _ _ (by omega)).trans u8
            have u171 : (gs_up A 47 ((F11 43 6).toNat) (F11 44 1)) 47 = gs_u (A 47) ((F11 43 6).toNat) (F11 44 1) := (gs_up_u A 47 ((F11 43 6).toNat) (F11 44 1)).trans (congrArg (fun f => gs_u f ((F11 43 6).toNat) (F11 44 1)) u9)
            generalize gs_up A 47 ((F11 43 6).toNat) (F11 44 1) = A167 at I168 f169 u170 u171 ⊢
            refine sA_aload_n dd_X6_takeItem_126 rfl (.tail _ (.head _)) ?_
            refine sA_dup dd_X6_takeItem_127 rfl ?_
            refine sA_geti (ci := 6) (j := 6) (q := (RX6, TX6, 10)) dd_X6_takeItem_128 rfl (by decide) fl_X6_36 (by decide) gs_s43 rfl ?_
            refine sA_iconst (z := 1) dd_X6_takeItem_131 ?_
            refine sA_iadd dd_X6_takeItem_132 ?_
            refine sA_put (ci := 6) (j := 6) (q := (RX6, TX6, 10)) (ty := .int) dd_X6_takeItem_133 rfl (by decide) fl_X6_36 rfl (tyX6_ok 6 (by decide)) rfl rfl (by decide) gs_s43 rfl ?_
            have I173 : gs_I (gs_up F11 43 6 ((F11 43 6) + 1)) A167 := gs_I_put I168 (show (0 : Int) ≤ (F11 43 6) + 1 ∧ (F11 43 6) + 1 ≤ 4 by omega)
            have f174 := gs_fr_put f169 (a := 43) (z := (F11 43 6) + 1) (j := 6) (by first | omega | (dsimp only; omega) | (dsimp only) | fail)
            have v175 : gs_up F11 43 6 ((F11 43 6) + 1) 43 6 = (F11 43 6) + 1 := gs_up_self _ _ _ _
            have v176 : (gs_up F11 43 6 ((F11 43 6) + 1)) 43 1 = F11 43 1 := gs_up_ne _ _ (by omega)
            have v177 : (gs_up F11 43 6 ((F11 43 6) + 1)) 43 5 = F11 43 5 := gs_up_ne _ _ (by omega)
            have v178 : (gs_up F11 43 6 ((F11 43 6) + 1)) 43 7 = F11 43 7 := gs_up_ne _ _ (by omega)
            have v179 : (gs_up F11 43 6 ((F11 43 6) + 1)) 43 8 = F11 43 8 := gs_up_ne _ _ (by omega)
            have v180 : (gs_up F11 43 6 ((F11 43 6) + 1)) 43 9 = F11 43 9 := gs_up_ne _ _ (by omega)
            have v181 : (gs_up F11 43 6 ((F11 43 6) + 1)) 44 1 = F11 44 1 := gs_up_ne _ _ (by omega)
            generalize gs_up F11 43 6 ((F11 43 6) + 1) = F172 at I173 f174 v175 v176 v177 v178 v179 v180 v181 ⊢
            refine sA_iconst (z := 0) dd_X6_takeItem_136 ?_
            refine sA_iret (z := 0) dd_X6_takeItem_137 rfl ?_
            refine ⟨_, rfl, I173, f174, ?_⟩
            refine ⟨by omega, ?_⟩
            refine .inl ⟨rfl, ?_⟩
            unfold rd_itm
            rw [if_neg (by omega), if_neg (by omega), if_pos (by omega), if_neg (by omega)]
            have e1 : F172 43 7 = 0 := by omega
            have e2 : F172 43 8 = F 43 8 := by omega
            have e3 : F172 43 9 = F 43 9 := by omega
            have e4 : F172 43 6 = F 43 6 + 1 := by omega
            have e5 : F172 44 1 = F 44 1 := by omega
            rw [e1, e2, e3, e4, e5, u170, u171]
            rw [h110a, h110b]
          · skip
            refine sA_iconst (z := 4) dd_X6_takeItem_108 ?_
            refine sA_iret (z := 4) dd_X6_takeItem_109 rfl ?_
            refine ⟨_, rfl, I12, f13, ?_⟩
            refine ⟨by omega, ?_⟩
            have e : rd_itm (F 43 7) (F 43 8) (F 43 9) (F 43 6) (F 44 1) (A 45) (A 47) v q = rd_flt 4 q := by
              unfold rd_itm
              rw [if_neg (by omega), if_neg (by omega), if_pos (by omega), if_pos (by omega)]
            rw [e]
            exact .inr ⟨by decide, rfl, (show q = F11 43 1 by omega)⟩
      · skip
        refine sA_iload_n dd_X6_takeItem_68 rfl (.tail _ (.tail _ (.head _))) ?_
        refine sA_bipush (z := 99) dd_X6_takeItem_69 (by decide) ?_
        refine sA_icmp_gt (tgt := 94) dd_X6_takeItem_71 (by decide) (by omega) (by omega) (fun q182 => ?_) (fun q182 => ?_)
        · skip
          refine sA_iload_n dd_X6_takeItem_94 rfl (.tail _ (.tail _ (.head _))) ?_
          refine sA_bipush (z := 40) dd_X6_takeItem_95 (by decide) ?_
          refine sA_icmp_ne (tgt := 138) dd_X6_takeItem_97 (by decide) (by omega) (by omega) (fun q183 => ?_) (fun q183 => ?_)
          · skip
            refine sA_iload_n dd_X6_takeItem_138 rfl (.tail _ (.tail _ (.head _))) ?_
            refine sA_bipush (z := 41) dd_X6_takeItem_139 (by decide) ?_
            refine sA_icmp_ne (tgt := 168) dd_X6_takeItem_141 (by decide) (by omega) (by omega) (fun q184 => ?_) (fun q184 => ?_)
            · skip
              refine sA_iconst (z := 1) dd_X6_takeItem_168 ?_
              refine sA_iret (z := 1) dd_X6_takeItem_169 rfl ?_
              refine ⟨_, rfl, I12, f13, ?_⟩
              refine ⟨by omega, ?_⟩
              have e : rd_itm (F 43 7) (F 43 8) (F 43 9) (F 43 6) (F 44 1) (A 45) (A 47) v q = rd_flt 1 q := by
                unfold rd_itm
                rw [if_neg (by omega), if_neg (by omega), if_neg (by omega), if_neg (by omega)]
              rw [e]
              exact .inr ⟨by decide, rfl, (show q = F11 43 1 by omega)⟩
            · skip
              refine sA_aload_n dd_X6_takeItem_144 rfl (.tail _ (.head _)) ?_
              refine sA_geti (ci := 6) (j := 6) (q := (RX6, TX6, 10)) dd_X6_takeItem_145 rfl (by decide) fl_X6_36 (by decide) gs_s43 rfl ?_
              have b185 : (0 : Int) ≤ F11 43 6 ∧ F11 43 6 ≤ 4 := I12.1 43 6
              refine sA_if_le (tgt := 168) dd_X6_takeItem_148 (by decide) (by omega) (fun q186 => ?_) (fun q186 => ?_)
              · skip
                refine sA_iconst (z := 1) dd_X6_takeItem_168 ?_
                refine sA_iret (z := 1) dd_X6_takeItem_169 rfl ?_
                refine ⟨_, rfl, I12, f13, ?_⟩
                refine ⟨by omega, ?_⟩
                have e : rd_itm (F 43 7) (F 43 8) (F 43 9) (F 43 6) (F 44 1) (A 45) (A 47) v q = rd_flt 1 q := by
                  unfold rd_itm
                  rw [if_neg (by omega), if_neg (by omega), if_neg (by omega), if_neg (by omega)]
                rw [e]
                exact .inr ⟨by decide, rfl, (show q = F11 43 1 by omega)⟩
              · skip
                refine sA_aload_n dd_X6_takeItem_151 rfl (.tail _ (.head _)) ?_
                refine sA_dup dd_X6_takeItem_152 rfl ?_
                refine sA_geti (ci := 6) (j := 6) (q := (RX6, TX6, 10)) dd_X6_takeItem_153 rfl (by decide) fl_X6_36 (by decide) gs_s43 rfl ?_
                refine sA_iconst (z := 1) dd_X6_takeItem_156 ?_
                refine sA_isub dd_X6_takeItem_157 ?_
                refine sA_put (ci := 6) (j := 6) (q := (RX6, TX6, 10)) (ty := .int) dd_X6_takeItem_158 rfl (by decide) fl_X6_36 rfl (tyX6_ok 6 (by decide)) rfl rfl (by decide) gs_s43 rfl ?_
                have I188 : gs_I (gs_up F11 43 6 ((F11 43 6) - 1)) A := gs_I_put I12 (show (0 : Int) ≤ (F11 43 6) - 1 ∧ (F11 43 6) - 1 ≤ 4 by omega)
                have f189 := gs_fr_put f13 (a := 43) (z := (F11 43 6) - 1) (j := 6) (by first | omega | (dsimp only; omega) | (dsimp only) | fail)
                have v190 : gs_up F11 43 6 ((F11 43 6) - 1) 43 6 = (F11 43 6) - 1 := gs_up_self _ _ _ _
                have v191 : (gs_up F11 43 6 ((F11 43 6) - 1)) 43 1 = F11 43 1 := gs_up_ne _ _ (by omega)
                have v192 : (gs_up F11 43 6 ((F11 43 6) - 1)) 43 5 = F11 43 5 := gs_up_ne _ _ (by omega)
                have v193 : (gs_up F11 43 6 ((F11 43 6) - 1)) 43 7 = F11 43 7 := gs_up_ne _ _ (by omega)
                have v194 : (gs_up F11 43 6 ((F11 43 6) - 1)) 43 8 = F11 43 8 := gs_up_ne _ _ (by omega)
                have v195 : (gs_up F11 43 6 ((F11 43 6) - 1)) 43 9 = F11 43 9 := gs_up_ne _ _ (by omega)
                have v196 : (gs_up F11 43 6 ((F11 43 6) - 1)) 44 1 = F11 44 1 := gs_up_ne _ _ (by omega)
                generalize gs_up F11 43 6 ((F11 43 6) - 1) = F187 at I188 f189 v190 v191 v192 v193 v194 v195 v196 ⊢
                refine sA_aload_n dd_X6_takeItem_161 rfl (.tail _ (.head _)) ?_
                refine sA_iconst (z := 3) dd_X6_takeItem_162 ?_
                refine sA_put (ci := 6) (j := 7) (q := (RX6, TX6, 10)) (ty := .int) dd_X6_takeItem_163 rfl (by decide) fl_X6_39 rfl (tyX6_ok 7 (by decide)) rfl rfl (by decide) gs_s43 rfl ?_
                have I198 : gs_I (gs_up F187 43 7 3) A := gs_I_put I188 (show (-2147483648 : Int) ≤ 3 ∧ 3 ≤ 2147483647 by omega)
                have f199 := gs_fr_put f189 (a := 43) (z := 3) (j := 7) (by first | omega | (dsimp only; omega) | (dsimp only) | fail)
                have v200 : gs_up F187 43 7 3 43 7 = 3 := gs_up_self _ _ _ _
                have v201 : (gs_up F187 43 7 3) 43 1 = F187 43 1 := gs_up_ne _ _ (by omega)
                have v202 : (gs_up F187 43 7 3) 43 5 = F187 43 5 := gs_up_ne _ _ (by omega)
                have v203 : (gs_up F187 43 7 3) 43 6 = F187 43 6 := gs_up_ne _ _ (by omega)
                have v204 : (gs_up F187 43 7 3) 43 8 = F187 43 8 := gs_up_ne _ _ (by omega)
                have v205 : (gs_up F187 43 7 3) 43 9 = F187 43 9 := gs_up_ne _ _ (by omega)
                have v206 : (gs_up F187 43 7 3) 44 1 = F187 44 1 := gs_up_ne _ _ (by omega)
                generalize gs_up F187 43 7 3 = F197 at I198 f199 v200 v201 v202 v203 v204 v205 v206 ⊢
                refine sA_iconst (z := 0) dd_X6_takeItem_166 ?_
                refine sA_iret (z := 0) dd_X6_takeItem_167 rfl ?_
                refine ⟨_, rfl, I198, f199, ?_⟩
                refine ⟨by omega, ?_⟩
                refine .inl ⟨rfl, ?_⟩
                unfold rd_itm
                rw [if_neg (by omega), if_neg (by omega), if_neg (by omega), if_pos (by omega)]
                have e1 : F197 43 7 = 3 := by omega
                have e2 : F197 43 8 = F 43 8 := by omega
                have e3 : F197 43 9 = F 43 9 := by omega
                have e4 : F197 43 6 = F 43 6 - 1 := by omega
                have e5 : F197 44 1 = F 44 1 := by omega
                rw [e1, e2, e3, e4, e5, u8, u9]
          · skip
            refine sA_aload_n dd_X6_takeItem_100 rfl (.tail _ (.head _)) ?_
            refine sA_geti (ci := 6) (j := 6) (q := (RX6, TX6, 10)) dd_X6_takeItem_101 rfl (by decide) fl_X6_36 (by decide) gs_s43 rfl ?_
            have b207 : (0 : Int) ≤ F11 43 6 ∧ F11 43 6 ≤ 4 := I12.1 43 6
            refine sA_iconst (z := 4) dd_X6_takeItem_104 ?_
            refine sA_icmp_lt (tgt := 110) dd_X6_takeItem_105 (by decide) (by omega) (by omega) (fun q208 => ?_) (fun q208 => ?_)
            · skip
              have h110a : F11 43 6 = F 43 6 := by omega
              have h110b : F11 44 1 = F 44 1 := by omega
              refine sA_aload_n dd_X6_takeItem_110 rfl (.tail _ (.head _)) ?_
              refine sA_getr (ci := 6) (j := 4) (q := (RX6, TX6, 10)) dd_X6_takeItem_111 rfl (by decide) fl_X6_26 (by decide) gs_s43 rfl ?_
              refine sA_aload_n dd_X6_takeItem_114 rfl (.tail _ (.head _)) ?_
              refine sA_geti (ci := 6) (j := 6) (q := (RX6, TX6, 10)) dd_X6_takeItem_115 rfl (by decide) fl_X6_36 (by decide) gs_s43 rfl ?_
              refine sA_aload_n dd_X6_takeItem_118 rfl (.tail _ (.head _)) ?_
              refine sA_getr (ci := 6) (j := 2) (q := (RX6, TX6, 10)) dd_X6_takeItem_119 rfl (by decide) fl_X6_18 (by decide) gs_s43 rfl ?_
              refine sA_geti (ci := 2) (j := 1) (q := (RX2, TX2, 2)) dd_X6_takeItem_122 rfl (by decide) fl_X6_32 (Nat.lt_of_succ_lt gs_plan_44.1) gs_plan_44.2.1 rfl ?_
              have b209 := gs_plan_sz gs_plan_44 I12
              refine sA_iast (n := 4) dd_X6_takeItem_125 (by decide) gs_s47 (by omega) (by decide) ?_
              have I211 : gs_I F11 (gs_up A 47 ((F11 43 6).toNat) (F11 44 1)) := gs_I_ast I12 (show (0 : Int) ≤ F11 44 1 ∧ F11 44 1 ≤ 60 by omega)
              have f212 := gs_fr_ast f13 (a := 47) (z := F11 44 1) (i := (F11 43 6).toNat) (by first | omega | (dsimp only; omega) | (dsimp only) | fail)
              have u213 : (gs_up A 47 ((F11 43 6).toNat) (F11 44 1)) 45 = A 45 := (gs_up_row _ _ (by omega)).trans u8
              have u214 : (gs_up A 47 ((F11 43 6).toNat) (F11 44 1)) 47 = gs_u (A 47) ((F11 43 6).toNat) (F11 44 1) := (gs_up_u A 47 ((F11 43 6).toNat) (F11 44 1)).trans (congrArg (fun f => gs_u f ((F11 43 6).toNat) (F11 44 1)) u9)
              generalize gs_up A 47 ((F11 43 6).toNat) (F11 44 1) = A210 at I211 f212 u213 u214 ⊢
              refine sA_aload_n dd_X6_takeItem_126 rfl (.tail _ (.head _)) ?_
              refine sA_dup dd_X6_takeItem_127 rfl ?_
              refine sA_geti (ci := 6) (j := 6) (q := (RX6, TX6, 10)) dd_X6_takeItem_128 rfl (by decide) fl_X6_36 (by decide) gs_s43 rfl ?_
              refine sA_iconst (z := 1) dd_X6_takeItem_131 ?_
              refine sA_iadd dd_X6_takeItem_132 ?_
              refine sA_put (ci := 6) (j := 6) (q := (RX6, TX6, 10)) (ty := .int) dd_X6_takeItem_133 rfl (by decide) fl_X6_36 rfl (tyX6_ok 6 (by decide)) rfl rfl (by decide) gs_s43 rfl ?_
              have I216 : gs_I (gs_up F11 43 6 ((F11 43 6) + 1)) A210 := gs_I_put I211 (show (0 : Int) ≤ (F11 43 6) + 1 ∧ (F11 43 6) + 1 ≤ 4 by omega)
              have f217 := gs_fr_put f212 (a := 43) (z := (F11 43 6) + 1) (j := 6) (by first | omega | (dsimp only; omega) | (dsimp only) | fail)
              have v218 : gs_up F11 43 6 ((F11 43 6) + 1) 43 6 = (F11 43 6) + 1 := gs_up_self _ _ _ _
              have v219 : (gs_up F11 43 6 ((F11 43 6) + 1)) 43 1 = F11 43 1 := gs_up_ne _ _ (by omega)
              have v220 : (gs_up F11 43 6 ((F11 43 6) + 1)) 43 5 = F11 43 5 := gs_up_ne _ _ (by omega)
              have v221 : (gs_up F11 43 6 ((F11 43 6) + 1)) 43 7 = F11 43 7 := gs_up_ne _ _ (by omega)
              have v222 : (gs_up F11 43 6 ((F11 43 6) + 1)) 43 8 = F11 43 8 := gs_up_ne _ _ (by omega)
              have v223 : (gs_up F11 43 6 ((F11 43 6) + 1)) 43 9 = F11 43 9 := gs_up_ne _ _ (by omega)
              have v224 : (gs_up F11 43 6 ((F11 43 6) + 1)) 44 1 = F11 44 1 := gs_up_ne _ _ (by omega)
              generalize gs_up F11 43 6 ((F11 43 6) + 1) = F215 at I216 f217 v218 v219 v220 v221 v222 v223 v224 ⊢
              refine sA_iconst (z := 0) dd_X6_takeItem_136 ?_
              refine sA_iret (z := 0) dd_X6_takeItem_137 rfl ?_
              refine ⟨_, rfl, I216, f217, ?_⟩
              refine ⟨by omega, ?_⟩
              refine .inl ⟨rfl, ?_⟩
              unfold rd_itm
              rw [if_neg (by omega), if_neg (by omega), if_pos (by omega), if_neg (by omega)]
              have e1 : F215 43 7 = 0 := by omega
              have e2 : F215 43 8 = F 43 8 := by omega
              have e3 : F215 43 9 = F 43 9 := by omega
              have e4 : F215 43 6 = F 43 6 + 1 := by omega
              have e5 : F215 44 1 = F 44 1 := by omega
              rw [e1, e2, e3, e4, e5, u213, u214]
              rw [h110a, h110b]
            · skip
              refine sA_iconst (z := 4) dd_X6_takeItem_108 ?_
              refine sA_iret (z := 4) dd_X6_takeItem_109 rfl ?_
              refine ⟨_, rfl, I12, f13, ?_⟩
              refine ⟨by omega, ?_⟩
              have e : rd_itm (F 43 7) (F 43 8) (F 43 9) (F 43 6) (F 44 1) (A 45) (A 47) v q = rd_flt 4 q := by
                unfold rd_itm
                rw [if_neg (by omega), if_neg (by omega), if_pos (by omega), if_pos (by omega)]
              rw [e]
              exact .inr ⟨by decide, rfl, (show q = F11 43 1 by omega)⟩
        · skip
          refine sA_aload_n dd_X6_takeItem_74 rfl (.tail _ (.head _)) ?_
          refine sA_iload_n dd_X6_takeItem_75 rfl (.tail _ (.tail _ (.head _))) ?_
          refine sA_bipush (z := 97) dd_X6_takeItem_76 (by decide) ?_
          refine sA_isub dd_X6_takeItem_78 ?_
          refine sA_put (ci := 6) (j := 8) (q := (RX6, TX6, 10)) (ty := .int) dd_X6_takeItem_79 rfl (by decide) fl_X6_60 rfl (tyX6_ok 8 (by decide)) rfl rfl (by decide) gs_s43 rfl ?_
          have I226 : gs_I (gs_up F11 43 8 (v - 97)) A := gs_I_put I12 (show (-2147483648 : Int) ≤ v - 97 ∧ v - 97 ≤ 2147483647 by omega)
          have f227 := gs_fr_put f13 (a := 43) (z := v - 97) (j := 8) (by first | omega | (dsimp only; omega) | (dsimp only) | fail)
          have v228 : gs_up F11 43 8 (v - 97) 43 8 = v - 97 := gs_up_self _ _ _ _
          have v229 : (gs_up F11 43 8 (v - 97)) 43 1 = F11 43 1 := gs_up_ne _ _ (by omega)
          have v230 : (gs_up F11 43 8 (v - 97)) 43 5 = F11 43 5 := gs_up_ne _ _ (by omega)
          have v231 : (gs_up F11 43 8 (v - 97)) 43 6 = F11 43 6 := gs_up_ne _ _ (by omega)
          have v232 : (gs_up F11 43 8 (v - 97)) 43 7 = F11 43 7 := gs_up_ne _ _ (by omega)
          have v233 : (gs_up F11 43 8 (v - 97)) 43 9 = F11 43 9 := gs_up_ne _ _ (by omega)
          have v234 : (gs_up F11 43 8 (v - 97)) 44 1 = F11 44 1 := gs_up_ne _ _ (by omega)
          generalize gs_up F11 43 8 (v - 97) = F225 at I226 f227 v228 v229 v230 v231 v232 v233 v234 ⊢
          refine sA_aload_n dd_X6_takeItem_82 rfl (.tail _ (.head _)) ?_
          refine sA_iload_n dd_X6_takeItem_83 rfl (.tail _ (.tail _ (.tail _ (.head _)))) ?_
          refine sA_put (ci := 6) (j := 9) (q := (RX6, TX6, 10)) (ty := .int) dd_X6_takeItem_84 rfl (by decide) fl_X6_63 rfl (tyX6_ok 9 (by decide)) rfl rfl (by decide) gs_s43 rfl ?_
          have I236 : gs_I (gs_up F225 43 9 q) A := gs_I_put I226 (show (-2147483648 : Int) ≤ q ∧ q ≤ 2147483647 by omega)
          have f237 := gs_fr_put f227 (a := 43) (z := q) (j := 9) (by first | omega | (dsimp only; omega) | (dsimp only) | fail)
          have v238 : gs_up F225 43 9 q 43 9 = q := gs_up_self _ _ _ _
          have v239 : (gs_up F225 43 9 q) 43 1 = F225 43 1 := gs_up_ne _ _ (by omega)
          have v240 : (gs_up F225 43 9 q) 43 5 = F225 43 5 := gs_up_ne _ _ (by omega)
          have v241 : (gs_up F225 43 9 q) 43 6 = F225 43 6 := gs_up_ne _ _ (by omega)
          have v242 : (gs_up F225 43 9 q) 43 7 = F225 43 7 := gs_up_ne _ _ (by omega)
          have v243 : (gs_up F225 43 9 q) 43 8 = F225 43 8 := gs_up_ne _ _ (by omega)
          have v244 : (gs_up F225 43 9 q) 44 1 = F225 44 1 := gs_up_ne _ _ (by omega)
          generalize gs_up F225 43 9 q = F235 at I236 f237 v238 v239 v240 v241 v242 v243 v244 ⊢
          refine sA_aload_n dd_X6_takeItem_87 rfl (.tail _ (.head _)) ?_
          refine sA_iconst (z := 1) dd_X6_takeItem_88 ?_
          refine sA_put (ci := 6) (j := 7) (q := (RX6, TX6, 10)) (ty := .int) dd_X6_takeItem_89 rfl (by decide) fl_X6_39 rfl (tyX6_ok 7 (by decide)) rfl rfl (by decide) gs_s43 rfl ?_
          have I246 : gs_I (gs_up F235 43 7 1) A := gs_I_put I236 (show (-2147483648 : Int) ≤ 1 ∧ 1 ≤ 2147483647 by omega)
          have f247 := gs_fr_put f237 (a := 43) (z := 1) (j := 7) (by first | omega | (dsimp only; omega) | (dsimp only) | fail)
          have v248 : gs_up F235 43 7 1 43 7 = 1 := gs_up_self _ _ _ _
          have v249 : (gs_up F235 43 7 1) 43 1 = F235 43 1 := gs_up_ne _ _ (by omega)
          have v250 : (gs_up F235 43 7 1) 43 5 = F235 43 5 := gs_up_ne _ _ (by omega)
          have v251 : (gs_up F235 43 7 1) 43 6 = F235 43 6 := gs_up_ne _ _ (by omega)
          have v252 : (gs_up F235 43 7 1) 43 8 = F235 43 8 := gs_up_ne _ _ (by omega)
          have v253 : (gs_up F235 43 7 1) 43 9 = F235 43 9 := gs_up_ne _ _ (by omega)
          have v254 : (gs_up F235 43 7 1) 44 1 = F235 44 1 := gs_up_ne _ _ (by omega)
          generalize gs_up F235 43 7 1 = F245 at I246 f247 v248 v249 v250 v251 v252 v253 v254 ⊢
          refine sA_iconst (z := 0) dd_X6_takeItem_92 ?_
          refine sA_iret (z := 0) dd_X6_takeItem_93 rfl ?_
          refine ⟨_, rfl, I246, f247, ?_⟩
          refine ⟨by omega, ?_⟩
          refine .inl ⟨rfl, ?_⟩
          unfold rd_itm
          rw [if_neg (by omega), if_pos (by omega)]
          have e1 : F245 43 7 = 1 := by omega
          have e2 : F245 43 8 = v - 97 := by omega
          have e3 : F245 43 9 = q := by omega
          have e4 : F245 43 6 = F 43 6 := by omega
          have e5 : F245 44 1 = F 44 1 := by omega
          rw [e1, e2, e3, e4, e5, u8, u9]
  · skip
    refine sA_iconst (z := 1) dd_X6_takeItem_8 ?_
    refine sA_goto (tgt := 13) dd_X6_takeItem_9 (by decide) ?_
    refine sA_istore_n (lv' := [(3, gs_iv 1), (0, .ref 43), (1, gs_iv v), (2, gs_iv q)]) dd_X6_takeItem_13 rfl (by decide) rfl ?_
    refine sA_aload_n dd_X6_takeItem_14 rfl (.tail _ (.head _)) ?_
    refine sA_iconst (z := 0) dd_X6_takeItem_15 ?_
    refine sA_put (ci := 6) (j := 7) (q := (RX6, TX6, 10)) (ty := .int) dd_X6_takeItem_16 rfl (by decide) fl_X6_39 rfl (tyX6_ok 7 (by decide)) rfl rfl (by decide) gs_s43 rfl ?_
    have I256 : gs_I (gs_up F 43 7 0) A := gs_I_put hI (show (-2147483648 : Int) ≤ 0 ∧ 0 ≤ 2147483647 by omega)
    have f257 := gs_fr_put hf (a := 43) (z := 0) (j := 7) (by first | omega | (dsimp only; omega) | (dsimp only) | fail)
    have v258 : gs_up F 43 7 0 43 7 = 0 := gs_up_self _ _ _ _
    have v259 : (gs_up F 43 7 0) 43 1 = F 43 1 := gs_up_ne _ _ (by omega)
    have v260 : (gs_up F 43 7 0) 43 5 = F 43 5 := gs_up_ne _ _ (by omega)
    have v261 : (gs_up F 43 7 0) 43 6 = F 43 6 := gs_up_ne _ _ (by omega)
    have v262 : (gs_up F 43 7 0) 43 8 = F 43 8 := gs_up_ne _ _ (by omega)
    have v263 : (gs_up F 43 7 0) 43 9 = F 43 9 := gs_up_ne _ _ (by omega)
    have v264 : (gs_up F 43 7 0) 44 1 = F 44 1 := gs_up_ne _ _ (by omega)
    generalize gs_up F 43 7 0 = F255 at I256 f257 v258 v259 v260 v261 v262 v263 v264 ⊢
    refine sA_iload_n dd_X6_takeItem_19 rfl (.tail _ (.tail _ (.head _))) ?_
    refine sA_bipush (z := 45) dd_X6_takeItem_20 (by decide) ?_
    refine sA_icmp_ne (tgt := 62) dd_X6_takeItem_22 (by decide) (by omega) (by omega) (fun q265 => ?_) (fun q265 => ?_)
    · skip
      refine sA_iload_n dd_X6_takeItem_62 rfl (.tail _ (.tail _ (.head _))) ?_
      refine sA_bipush (z := 97) dd_X6_takeItem_63 (by decide) ?_
      refine sA_icmp_lt (tgt := 94) dd_X6_takeItem_65 (by decide) (by omega) (by omega) (fun q266 => ?_) (fun q266 => ?_)
      · skip
        refine sA_iload_n dd_X6_takeItem_94 rfl (.tail _ (.tail _ (.head _))) ?_
        refine sA_bipush (z := 40) dd_X6_takeItem_95 (by decide) ?_
        refine sA_icmp_ne (tgt := 138) dd_X6_takeItem_97 (by decide) (by omega) (by omega) (fun q267 => ?_) (fun q267 => ?_)
        · skip
          refine sA_iload_n dd_X6_takeItem_138 rfl (.tail _ (.tail _ (.head _))) ?_
          refine sA_bipush (z := 41) dd_X6_takeItem_139 (by decide) ?_
          refine sA_icmp_ne (tgt := 168) dd_X6_takeItem_141 (by decide) (by omega) (by omega) (fun q268 => ?_) (fun q268 => ?_)
          · skip
            refine sA_iconst (z := 1) dd_X6_takeItem_168 ?_
            refine sA_iret (z := 1) dd_X6_takeItem_169 rfl ?_
            refine ⟨_, rfl, I256, f257, ?_⟩
            refine ⟨by omega, ?_⟩
            have e : rd_itm (F 43 7) (F 43 8) (F 43 9) (F 43 6) (F 44 1) (A 45) (A 47) v q = rd_flt 1 q := by
              unfold rd_itm
              rw [if_neg (by omega), if_neg (by omega), if_neg (by omega), if_neg (by omega)]
            rw [e]
            exact .inr ⟨by decide, rfl, (show q = F255 43 1 by omega)⟩
          · skip
            refine sA_aload_n dd_X6_takeItem_144 rfl (.tail _ (.head _)) ?_
            refine sA_geti (ci := 6) (j := 6) (q := (RX6, TX6, 10)) dd_X6_takeItem_145 rfl (by decide) fl_X6_36 (by decide) gs_s43 rfl ?_
            have b269 : (0 : Int) ≤ F255 43 6 ∧ F255 43 6 ≤ 4 := I256.1 43 6
            refine sA_if_le (tgt := 168) dd_X6_takeItem_148 (by decide) (by omega) (fun q270 => ?_) (fun q270 => ?_)
            · skip
              refine sA_iconst (z := 1) dd_X6_takeItem_168 ?_
              refine sA_iret (z := 1) dd_X6_takeItem_169 rfl ?_
              refine ⟨_, rfl, I256, f257, ?_⟩
              refine ⟨by omega, ?_⟩
              have e : rd_itm (F 43 7) (F 43 8) (F 43 9) (F 43 6) (F 44 1) (A 45) (A 47) v q = rd_flt 1 q := by
                unfold rd_itm
                rw [if_neg (by omega), if_neg (by omega), if_neg (by omega), if_neg (by omega)]
              rw [e]
              exact .inr ⟨by decide, rfl, (show q = F255 43 1 by omega)⟩
            · skip
              refine sA_aload_n dd_X6_takeItem_151 rfl (.tail _ (.head _)) ?_
              refine sA_dup dd_X6_takeItem_152 rfl ?_
              refine sA_geti (ci := 6) (j := 6) (q := (RX6, TX6, 10)) dd_X6_takeItem_153 rfl (by decide) fl_X6_36 (by decide) gs_s43 rfl ?_
              refine sA_iconst (z := 1) dd_X6_takeItem_156 ?_
              refine sA_isub dd_X6_takeItem_157 ?_
              refine sA_put (ci := 6) (j := 6) (q := (RX6, TX6, 10)) (ty := .int) dd_X6_takeItem_158 rfl (by decide) fl_X6_36 rfl (tyX6_ok 6 (by decide)) rfl rfl (by decide) gs_s43 rfl ?_
              have I272 : gs_I (gs_up F255 43 6 ((F255 43 6) - 1)) A := gs_I_put I256 (show (0 : Int) ≤ (F255 43 6) - 1 ∧ (F255 43 6) - 1 ≤ 4 by omega)
              have f273 := gs_fr_put f257 (a := 43) (z := (F255 43 6) - 1) (j := 6) (by first | omega | (dsimp only; omega) | (dsimp only) | fail)
              have v274 : gs_up F255 43 6 ((F255 43 6) - 1) 43 6 = (F255 43 6) - 1 := gs_up_self _ _ _ _
              have v275 : (gs_up F255 43 6 ((F255 43 6) - 1)) 43 1 = F255 43 1 := gs_up_ne _ _ (by omega)
              have v276 : (gs_up F255 43 6 ((F255 43 6) - 1)) 43 5 = F255 43 5 := gs_up_ne _ _ (by omega)
              have v277 : (gs_up F255 43 6 ((F255 43 6) - 1)) 43 7 = F255 43 7 := gs_up_ne _ _ (by omega)
              have v278 : (gs_up F255 43 6 ((F255 43 6) - 1)) 43 8 = F255 43 8 := gs_up_ne _ _ (by omega)
              have v279 : (gs_up F255 43 6 ((F255 43 6) - 1)) 43 9 = F255 43 9 := gs_up_ne _ _ (by omega)
              have v280 : (gs_up F255 43 6 ((F255 43 6) - 1)) 44 1 = F255 44 1 := gs_up_ne _ _ (by omega)
              generalize gs_up F255 43 6 ((F255 43 6) - 1) = F271 at I272 f273 v274 v275 v276 v277 v278 v279 v280 ⊢
              refine sA_aload_n dd_X6_takeItem_161 rfl (.tail _ (.head _)) ?_
              refine sA_iconst (z := 3) dd_X6_takeItem_162 ?_
              refine sA_put (ci := 6) (j := 7) (q := (RX6, TX6, 10)) (ty := .int) dd_X6_takeItem_163 rfl (by decide) fl_X6_39 rfl (tyX6_ok 7 (by decide)) rfl rfl (by decide) gs_s43 rfl ?_
              have I282 : gs_I (gs_up F271 43 7 3) A := gs_I_put I272 (show (-2147483648 : Int) ≤ 3 ∧ 3 ≤ 2147483647 by omega)
              have f283 := gs_fr_put f273 (a := 43) (z := 3) (j := 7) (by first | omega | (dsimp only; omega) | (dsimp only) | fail)
              have v284 : gs_up F271 43 7 3 43 7 = 3 := gs_up_self _ _ _ _
              have v285 : (gs_up F271 43 7 3) 43 1 = F271 43 1 := gs_up_ne _ _ (by omega)
              have v286 : (gs_up F271 43 7 3) 43 5 = F271 43 5 := gs_up_ne _ _ (by omega)
              have v287 : (gs_up F271 43 7 3) 43 6 = F271 43 6 := gs_up_ne _ _ (by omega)
              have v288 : (gs_up F271 43 7 3) 43 8 = F271 43 8 := gs_up_ne _ _ (by omega)
              have v289 : (gs_up F271 43 7 3) 43 9 = F271 43 9 := gs_up_ne _ _ (by omega)
              have v290 : (gs_up F271 43 7 3) 44 1 = F271 44 1 := gs_up_ne _ _ (by omega)
              generalize gs_up F271 43 7 3 = F281 at I282 f283 v284 v285 v286 v287 v288 v289 v290 ⊢
              refine sA_iconst (z := 0) dd_X6_takeItem_166 ?_
              refine sA_iret (z := 0) dd_X6_takeItem_167 rfl ?_
              refine ⟨_, rfl, I282, f283, ?_⟩
              refine ⟨by omega, ?_⟩
              refine .inl ⟨rfl, ?_⟩
              unfold rd_itm
              rw [if_neg (by omega), if_neg (by omega), if_neg (by omega), if_pos (by omega)]
              have e1 : F281 43 7 = 3 := by omega
              have e2 : F281 43 8 = F 43 8 := by omega
              have e3 : F281 43 9 = F 43 9 := by omega
              have e4 : F281 43 6 = F 43 6 - 1 := by omega
              have e5 : F281 44 1 = F 44 1 := by omega
              rw [e1, e2, e3, e4, e5, u8, u9]
        · skip
          refine sA_aload_n dd_X6_takeItem_100 rfl (.tail _ (.head _)) ?_
          refine sA_geti (ci := 6) (j := 6) (q := (RX6, TX6, 10)) dd_X6_takeItem_101 rfl (by decide) fl_X6_36 (by decide) gs_s43 rfl ?_
          have b291 : (0 : Int) ≤ F255 43 6 ∧ F255 43 6 ≤ 4 := I256.1 43 6
          refine sA_iconst (z := 4) dd_X6_takeItem_104 ?_
          refine sA_icmp_lt (tgt := 110) dd_X6_takeItem_105 (by decide) (by omega) (by omega) (fun q292 => ?_) (fun q292 => ?_)
          · skip
            have h110a : F255 43 6 = F 43 6 := by omega
            have h110b : F255 44 1 = F 44 1 := by omega
            refine sA_aload_n dd_X6_takeItem_110 rfl (.tail _ (.head _)) ?_
            refine sA_getr (ci := 6) (j := 4) (q := (RX6, TX6, 10)) dd_X6_takeItem_111 rfl (by decide) fl_X6_26 (by decide) gs_s43 rfl ?_
            refine sA_aload_n dd_X6_takeItem_114 rfl (.tail _ (.head _)) ?_
            refine sA_geti (ci := 6) (j := 6) (q := (RX6, TX6, 10)) dd_X6_takeItem_115 rfl (by decide) fl_X6_36 (by decide) gs_s43 rfl ?_
            refine sA_aload_n dd_X6_takeItem_118 rfl (.tail _ (.head _)) ?_
            refine sA_getr (ci := 6) (j := 2) (q := (RX6, TX6, 10)) dd_X6_takeItem_119 rfl (by decide) fl_X6_18 (by decide) gs_s43 rfl ?_
            refine sA_geti (ci := 2) (j := 1) (q := (RX2, TX2, 2)) dd_X6_takeItem_122 rfl (by decide) fl_X6_32 (Nat.lt_of_succ_lt gs_plan_44.1) gs_plan_44.2.1 rfl ?_
            have b293 := gs_plan_sz gs_plan_44 I256
            refine sA_iast (n := 4) dd_X6_takeItem_125 (by decide) gs_s47 (by omega) (by decide) ?_
            have I295 : gs_I F255 (gs_up A 47 ((F255 43 6).toNat) (F255 44 1)) := gs_I_ast I256 (show (0 : Int) ≤ F255 44 1 ∧ F255 44 1 ≤ 60 by omega)
            have f296 := gs_fr_ast f257 (a := 47) (z := F255 44 1) (i := (F255 43 6).toNat) (by first | omega | (dsimp only; omega) | (dsimp only) | fail)
            have u297 : (gs_up A 47 ((F255 43 6).toNat) (F255 44 1)) 45 = A 45 := (gs_up_row _ _ (by omega)).trans u8
            have u298 : (gs_up A 47 ((F255 43 6).toNat) (F255 44 1)) 47 = gs_u (A 47) ((F255 43 6).toNat) (F255 44 1) := (gs_up_u A 47 ((F255 43 6).toNat) (F255 44 1)).trans (congrArg (fun f => gs_u f ((F255 43 6).toNat) (F255 44 1)) u9)
            generalize gs_up A 47 ((F255 43 6).toNat) (F255 44 1) = A294 at I295 f296 u297 u298 ⊢
            refine sA_aload_n dd_X6_takeItem_126 rfl (.tail _ (.head _)) ?_
            refine sA_dup dd_X6_takeItem_127 rfl ?_
            refine sA_geti (ci := 6) (j := 6) (q := (RX6, TX6, 10)) dd_X6_takeItem_128 rfl (by decide) fl_X6_36 (by decide) gs_s43 rfl ?_
            refine sA_iconst (z := 1) dd_X6_takeItem_131 ?_
            refine sA_iadd dd_X6_takeItem_132 ?_
            refine sA_put (ci := 6) (j := 6) (q := (RX6, TX6, 10)) (ty := .int) dd_X6_takeItem_133 rfl (by decide) fl_X6_36 rfl (tyX6_ok 6 (by decide)) rfl rfl (by decide) gs_s43 rfl ?_
            have I300 : gs_I (gs_up F255 43 6 ((F255 43 6) + 1)) A294 := gs_I_put I295 (show (0 : Int) ≤ (F255 43 6) + 1 ∧ (F255 43 6) + 1 ≤ 4 by omega)
            have f301 := gs_fr_put f296 (a := 43) (z := (F255 43 6) + 1) (j := 6) (by first | omega | (dsimp only; omega) | (dsimp only) | fail)
            have v302 : gs_up F255 43 6 ((F255 43 6) + 1) 43 6 = (F255 43 6) + 1 := gs_up_self _ _ _ _
            have v303 : (gs_up F255 43 6 ((F255 43 6) + 1)) 43 1 = F255 43 1 := gs_up_ne _ _ (by omega)
            have v304 : (gs_up F255 43 6 ((F255 43 6) + 1)) 43 5 = F255 43 5 := gs_up_ne _ _ (by omega)
            have v305 : (gs_up F255 43 6 ((F255 43 6) + 1)) 43 7 = F255 43 7 := gs_up_ne _ _ (by omega)
            have v306 : (gs_up F255 43 6 ((F255 43 6) + 1)) 43 8 = F255 43 8 := gs_up_ne _ _ (by omega)
            have v307 : (gs_up F255 43 6 ((F255 43 6) + 1)) 43 9 = F255 43 9 := gs_up_ne _ _ (by omega)
            have v308 : (gs_up F255 43 6 ((F255 43 6) + 1)) 44 1 = F255 44 1 := gs_up_ne _ _ (by omega)
            generalize gs_up F255 43 6 ((F255 43 6) + 1) = F299 at I300 f301 v302 v303 v304 v305 v306 v307 v308 ⊢
            refine sA_iconst (z := 0) dd_X6_takeItem_136 ?_
            refine sA_iret (z := 0) dd_X6_takeItem_137 rfl ?_
            refine ⟨_, rfl, I300, f301, ?_⟩
            refine ⟨by omega, ?_⟩
            refine .inl ⟨rfl, ?_⟩
            unfold rd_itm
            rw [if_neg (by omega), if_neg (by omega), if_pos (by omega), if_neg (by omega)]
            have e1 : F299 43 7 = 0 := by omega
            have e2 : F299 43 8 = F 43 8 := by omega
            have e3 : F299 43 9 = F 43 9 := by omega
            have e4 : F299 43 6 = F 43 6 + 1 := by omega
            have e5 : F299 44 1 = F 44 1 := by omega
            rw [e1, e2, e3, e4, e5, u297, u298]
            rw [h110a, h110b]
          · skip
            refine sA_iconst (z := 4) dd_X6_takeItem_108 ?_
            refine sA_iret (z := 4) dd_X6_takeItem_109 rfl ?_
            refine ⟨_, rfl, I256, f257, ?_⟩
            refine ⟨by omega, ?_⟩
            have e : rd_itm (F 43 7) (F 43 8) (F 43 9) (F 43 6) (F 44 1) (A 45) (A 47) v q = rd_flt 4 q := by
              unfold rd_itm
              rw [if_neg (by omega), if_neg (by omega), if_pos (by omega), if_pos (by omega)]
            rw [e]
            exact .inr ⟨by decide, rfl, (show q = F255 43 1 by omega)⟩
      · skip
        refine sA_iload_n dd_X6_takeItem_68 rfl (.tail _ (.tail _ (.head _))) ?_
        refine sA_bipush (z := 99) dd_X6_takeItem_69 (by decide) ?_
        refine sA_icmp_gt (tgt := 94) dd_X6_takeItem_71 (by decide) (by omega) (by omega) (fun q309 => ?_) (fun q309 => ?_)
        · skip
          refine sA_iload_n dd_X6_takeItem_94 rfl (.tail _ (.tail _ (.head _))) ?_
          refine sA_bipush (z := 40) dd_X6_takeItem_95 (by decide) ?_
          refine sA_icmp_ne (tgt := 138) dd_X6_takeItem_97 (by decide) (by omega) (by omega) (fun q310 => ?_) (fun q310 => ?_)
          · skip
            refine sA_iload_n dd_X6_takeItem_138 rfl (.tail _ (.tail _ (.head _))) ?_
            refine sA_bipush (z := 41) dd_X6_takeItem_139 (by decide) ?_
            refine sA_icmp_ne (tgt := 168) dd_X6_takeItem_141 (by decide) (by omega) (by omega) (fun q311 => ?_) (fun q311 => ?_)
            · skip
              refine sA_iconst (z := 1) dd_X6_takeItem_168 ?_
              refine sA_iret (z := 1) dd_X6_takeItem_169 rfl ?_
              refine ⟨_, rfl, I256, f257, ?_⟩
              refine ⟨by omega, ?_⟩
              have e : rd_itm (F 43 7) (F 43 8) (F 43 9) (F 43 6) (F 44 1) (A 45) (A 47) v q = rd_flt 1 q := by
                unfold rd_itm
                rw [if_neg (by omega), if_neg (by omega), if_neg (by omega), if_neg (by omega)]
              rw [e]
              exact .inr ⟨by decide, rfl, (show q = F255 43 1 by omega)⟩
            · skip
              refine sA_aload_n dd_X6_takeItem_144 rfl (.tail _ (.head _)) ?_
              refine sA_geti (ci := 6) (j := 6) (q := (RX6, TX6, 10)) dd_X6_takeItem_145 rfl (by decide) fl_X6_36 (by decide) gs_s43 rfl ?_
              have b312 : (0 : Int) ≤ F255 43 6 ∧ F255 43 6 ≤ 4 := I256.1 43 6
              refine sA_if_le (tgt := 168) dd_X6_takeItem_148 (by decide) (by omega) (fun q313 => ?_) (fun q313 => ?_)
              · skip
                refine sA_iconst (z := 1) dd_X6_takeItem_168 ?_
                refine sA_iret (z := 1) dd_X6_takeItem_169 rfl ?_
                refine ⟨_, rfl, I256, f257, ?_⟩
                refine ⟨by omega, ?_⟩
                have e : rd_itm (F 43 7) (F 43 8) (F 43 9) (F 43 6) (F 44 1) (A 45) (A 47) v q = rd_flt 1 q := by
                  unfold rd_itm
                  rw [if_neg (by omega), if_neg (by omega), if_neg (by omega), if_neg (by omega)]
                rw [e]
                exact .inr ⟨by decide, rfl, (show q = F255 43 1 by omega)⟩
              · skip
                refine sA_aload_n dd_X6_takeItem_151 rfl (.tail _ (.head _)) ?_
                refine sA_dup dd_X6_takeItem_152 rfl ?_
                refine sA_geti (ci := 6) (j := 6) (q := (RX6, TX6, 10)) dd_X6_takeItem_153 rfl (by decide) fl_X6_36 (by decide) gs_s43 rfl ?_
                refine sA_iconst (z := 1) dd_X6_takeItem_156 ?_
                refine sA_isub dd_X6_takeItem_157 ?_
                refine sA_put (ci := 6) (j := 6) (q := (RX6, TX6, 10)) (ty := .int) dd_X6_takeItem_158 rfl (by decide) fl_X6_36 rfl (tyX6_ok 6 (by decide)) rfl rfl (by decide) gs_s43 rfl ?_
                have I315 : gs_I (gs_up F255 43 6 ((F255 43 6) - 1)) A := gs_I_put I256 (show (0 : Int) ≤ (F255 43 6) - 1 ∧ (F255 43 6) - 1 ≤ 4 by omega)
                have f316 := gs_fr_put f257 (a := 43) (z := (F255 43 6) - 1) (j := 6) (by first | omega | (dsimp only; omega) | (dsimp only) | fail)
                have v317 : gs_up F255 43 6 ((F255 43 6) - 1) 43 6 = (F255 43 6) - 1 := gs_up_self _ _ _ _
                have v318 : (gs_up F255 43 6 ((F255 43 6) - 1)) 43 1 = F255 43 1 := gs_up_ne _ _ (by omega)
                have v319 : (gs_up F255 43 6 ((F255 43 6) - 1)) 43 5 = F255 43 5 := gs_up_ne _ _ (by omega)
                have v320 : (gs_up F255 43 6 ((F255 43 6) - 1)) 43 7 = F255 43 7 := gs_up_ne _ _ (by omega)
                have v321 : (gs_up F255 43 6 ((F255 43 6) - 1)) 43 8 = F255 43 8 := gs_up_ne _ _ (by omega)
                have v322 : (gs_up F255 43 6 ((F255 43 6) - 1)) 43 9 = F255 43 9 := gs_up_ne _ _ (by omega)
                have v323 : (gs_up F255 43 6 ((F255 43 6) - 1)) 44 1 = F255 44 1 := gs_up_ne _ _ (by omega)
                generalize gs_up F255 43 6 ((F255 43 6) - 1) = F314 at I315 f316 v317 v318 v319 v320 v321 v322 v323 ⊢
                refine sA_aload_n dd_X6_takeItem_161 rfl (.tail _ (.head _)) ?_
                refine sA_iconst (z := 3) dd_X6_takeItem_162 ?_
                refine sA_put (ci := 6) (j := 7) (q := (RX6, TX6, 10)) (ty := .int) dd_X6_takeItem_163 rfl (by decide) fl_X6_39 rfl (tyX6_ok 7 (by decide)) rfl rfl (by decide) gs_s43 rfl ?_
                have I325 : gs_I (gs_up F314 43 7 3) A := gs_I_put I315 (show (-2147483648 : Int) ≤ 3 ∧ 3 ≤ 2147483647 by omega)
                have f326 := gs_fr_put f316 (a := 43) (z := 3) (j := 7) (by first | omega | (dsimp only; omega) | (dsimp only) | fail)
                have v327 : gs_up F314 43 7 3 43 7 = 3 := gs_up_self _ _ _ _
                have v328 : (gs_up F314 43 7 3) 43 1 = F314 43 1 := gs_up_ne _ _ (by omega)
                have v329 : (gs_up F314 43 7 3) 43 5 = F314 43 5 := gs_up_ne _ _ (by omega)
                have v330 : (gs_up F314 43 7 3) 43 6 = F314 43 6 := gs_up_ne _ _ (by omega)
                have v331 : (gs_up F314 43 7 3) 43 8 = F314 43 8 := gs_up_ne _ _ (by omega)
                have v332 : (gs_up F314 43 7 3) 43 9 = F314 43 9 := gs_up_ne _ _ (by omega)
                have v333 : (gs_up F314 43 7 3) 44 1 = F314 44 1 := gs_up_ne _ _ (by omega)
                generalize gs_up F314 43 7 3 = F324 at I325 f326 v327 v328 v329 v330 v331 v332 v333 ⊢
                refine sA_iconst (z := 0) dd_X6_takeItem_166 ?_
                refine sA_iret (z := 0) dd_X6_takeItem_167 rfl ?_
                refine ⟨_, rfl, I325, f326, ?_⟩
                refine ⟨by omega, ?_⟩
                refine .inl ⟨rfl, ?_⟩
                unfold rd_itm
                rw [if_neg (by omega), if_neg (by omega), if_neg (by omega), if_pos (by omega)]
                have e1 : F324 43 7 = 3 := by omega
                have e2 : F324 43 8 = F 43 8 := by omega
                have e3 : F324 43 9 = F 43 9 := by omega
                have e4 : F324 43 6 = F 43 6 - 1 := by omega
                have e5 : F324 44 1 = F 44 1 := by omega
                rw [e1, e2, e3, e4, e5, u8, u9]
          · skip
            refine sA_aload_n dd_X6_takeItem_100 rfl (.tail _ (.head _)) ?_
            refine sA_geti (ci := 6) (j := 6) (q := (RX6, TX6, 10)) dd_X6_takeItem_101 rfl (by decide) fl_X6_36 (by decide) gs_s43 rfl ?_
            have b334 : (0 : Int) ≤ F255 43 6 ∧ F255 43 6 ≤ 4 := I256.1 43 6
            refine sA_iconst (z := 4) dd_X6_takeItem_104 ?_
            refine sA_icmp_lt (tgt := 110) dd_X6_takeItem_105 (by decide) (by omega) (by omega) (fun q335 => ?_) (fun q335 => ?_)
            · skip
              have h110a : F255 43 6 = F 43 6 := by omega
              have h110b : F255 44 1 = F 44 1 := by omega
              refine sA_aload_n dd_X6_takeItem_110 rfl (.tail _ (.head _)) ?_
              refine sA_getr (ci := 6) (j := 4) (q := (RX6, TX6, 10)) dd_X6_takeItem_111 rfl (by decide) fl_X6_26 (by decide) gs_s43 rfl ?_
              refine sA_aload_n dd_X6_takeItem_114 rfl (.tail _ (.head _)) ?_
              refine sA_geti (ci := 6) (j := 6) (q := (RX6, TX6, 10)) dd_X6_takeItem_115 rfl (by decide) fl_X6_36 (by decide) gs_s43 rfl ?_
              refine sA_aload_n dd_X6_takeItem_118 rfl (.tail _ (.head _)) ?_
              refine sA_getr (ci := 6) (j := 2) (q := (RX6, TX6, 10)) dd_X6_takeItem_119 rfl (by decide) fl_X6_18 (by decide) gs_s43 rfl ?_
              refine sA_geti (ci := 2) (j := 1) (q := (RX2, TX2, 2)) dd_X6_takeItem_122 rfl (by decide) fl_X6_32 (Nat.lt_of_succ_lt gs_plan_44.1) gs_plan_44.2.1 rfl ?_
              have b336 := gs_plan_sz gs_plan_44 I256
              refine sA_iast (n := 4) dd_X6_takeItem_125 (by decide) gs_s47 (by omega) (by decide) ?_
              have I338 : gs_I F255 (gs_up A 47 ((F255 43 6).toNat) (F255 44 1)) := gs_I_ast I256 (show (0 : Int) ≤ F255 44 1 ∧ F255 44 1 ≤ 60 by omega)
              have f339 := gs_fr_ast f257 (a := 47) (z := F255 44 1) (i := (F255 43 6).toNat) (by first | omega | (dsimp only; omega) | (dsimp only) | fail)
              have u340 : (gs_up A 47 ((F255 43 6).toNat) (F255 44 1)) 45 = A 45 := (gs_up_row _ _ (by omega)).trans u8
              have u341 : (gs_up A 47 ((F255 43 6).toNat) (F255 44 1)) 47 = gs_u (A 47) ((F255 43 6).toNat) (F255 44 1) := (gs_up_u A 47 ((F255 43 6).toNat) (F255 44 1)).trans (congrArg (fun f => gs_u f ((F255 43 6).toNat) (F255 44 1)) u9)
              generalize gs_up A 47 ((F255 43 6).toNat) (F255 44 1) = A337 at I338 f339 u340 u341 ⊢
              refine sA_aload_n dd_X6_takeItem_126 rfl (.tail _ (.head _)) ?_
              refine sA_dup dd_X6_takeItem_127 rfl ?_
              refine sA_geti (ci := 6) (j := 6) (q := (RX6, TX6, 10)) dd_X6_takeItem_128 rfl (by decide) fl_X6_36 (by decide) gs_s43 rfl ?_
              refine sA_iconst (z := 1) dd_X6_takeItem_131 ?_
              refine sA_iadd dd_X6_takeItem_132 ?_
              refine sA_put (ci := 6) (j := 6) (q := (RX6, TX6, 10)) (ty := .int) dd_X6_takeItem_133 rfl (by decide) fl_X6_36 rfl (tyX6_ok 6 (by decide)) rfl rfl (by decide) gs_s43 rfl ?_
              have I343 : gs_I (gs_up F255 43 6 ((F255 43 6) + 1)) A337 := gs_I_put I338 (show (0 : Int) ≤ (F255 43 6) + 1 ∧ (F255 43 6) + 1 ≤ 4 by omega)
              have f344 := gs_fr_put f339 (a := 43) (z := (F255 43 6) + 1) (j := 6) (by first | omega | (dsimp only; omega) | (dsimp only) | fail)
              have v345 : gs_up F255 43 6 ((F255 43 6) + 1) 43 6 = (F255 43 6) + 1 := gs_up_self _ _ _ _
              have v346 : (gs_up F255 43 6 ((F255 43 6) + 1)) 43 1 = F255 43 1 := gs_up_ne _ _ (by omega)
              have v347 : (gs_up F255 43 6 ((F255 43 6) + 1)) 43 5 = F255 43 5 := gs_up_ne _ _ (by omega)
              have v348 : (gs_up F255 43 6 ((F255 43 6) + 1)) 43 7 = F255 43 7 := gs_up_ne _ _ (by omega)
              have v349 : (gs_up F255 43 6 ((F255 43 6) + 1)) 43 8 = F255 43 8 := gs_up_ne _ _ (by omega)
              have v350 : (gs_up F255 43 6 ((F255 43 6) + 1)) 43 9 = F255 43 9 := gs_up_ne _ _ (by omega)
              have v351 : (gs_up F255 43 6 ((F255 43 6) + 1)) 44 1 = F255 44 1 := gs_up_ne _ _ (by omega)
              generalize gs_up F255 43 6 ((F255 43 6) + 1) = F342 at I343 f344 v345 v346 v347 v348 v349 v350 v351 ⊢
              refine sA_iconst (z := 0) dd_X6_takeItem_136 ?_
              refine sA_iret (z := 0) dd_X6_takeItem_137 rfl ?_
              refine ⟨_, rfl, I343, f344, ?_⟩
              refine ⟨by omega, ?_⟩
              refine .inl ⟨rfl, ?_⟩
              unfold rd_itm
              rw [if_neg (by omega), if_neg (by omega), if_pos (by omega), if_neg (by omega)]
              have e1 : F342 43 7 = 0 := by omega
              have e2 : F342 43 8 = F 43 8 := by omega
              have e3 : F342 43 9 = F 43 9 := by omega
              have e4 : F342 43 6 = F 43 6 + 1 := by omega
              have e5 : F342 44 1 = F 44 1 := by omega
              rw [e1, e2, e3, e4, e5, u340, u341]
              rw [h110a, h110b]
            · skip
              refine sA_iconst (z := 4) dd_X6_takeItem_108 ?_
              refine sA_iret (z := 4) dd_X6_takeItem_109 rfl ?_
              refine ⟨_, rfl, I256, f257, ?_⟩
              refine ⟨by omega, ?_⟩
              have e : rd_itm (F 43 7) (F 43 8) (F 43 9) (F 43 6) (F 44 1) (A 45) (A 47) v q = rd_flt 4 q := by
                unfold rd_itm
                rw [if_neg (by omega), if_neg (by omega), if_pos (by omega), if_pos (by omega)]
              rw [e]
              exact .inr ⟨by decide, rfl, (show q = F255 43 1 by omega)⟩
        · skip
          refine sA_aload_n dd_X6_takeItem_74 rfl (.tail _ (.head _)) ?_
          refine sA_iload_n dd_X6_takeItem_75 rfl (.tail _ (.tail _ (.head _))) ?_
          refine sA_bipush (z := 97) dd_X6_takeItem_76 (by decide) ?_
          refine sA_isub dd_X6_takeItem_78 ?_
          refine sA_put (ci := 6) (j := 8) (q := (RX6, TX6, 10)) (ty := .int) dd_X6_takeItem_79 rfl (by decide) fl_X6_60 rfl (tyX6_ok 8 (by decide)) rfl rfl (by decide) gs_s43 rfl ?_
          have I353 : gs_I (gs_up F255 43 8 (v - 97)) A := gs_I_put I256 (show (-2147483648 : Int) ≤ v - 97 ∧ v - 97 ≤ 2147483647 by omega)
          have f354 := gs_fr_put f257 (a := 43) (z := v - 97) (j := 8) (by first | omega | (dsimp only; omega) | (dsimp only) | fail)
          have v355 : gs_up F255 43 8 (v - 97) 43 8 = v - 97 := gs_up_self _ _ _ _
          have v356 : (gs_up F255 43 8 (v - 97)) 43 1 = F255 43 1 := gs_up_ne _ _ (by omega)
          have v357 : (gs_up F255 43 8 (v - 97)) 43 5 = F255 43 5 := gs_up_ne _ _ (by omega)
          have v358 : (gs_up F255 43 8 (v - 97)) 43 6 = F255 43 6 := gs_up_ne _ _ (by omega)
          have v359 : (gs_up F255 43 8 (v - 97)) 43 7 = F255 43 7 := gs_up_ne _ _ (by omega)
          have v360 : (gs_up F255 43 8 (v - 97)) 43 9 = F255 43 9 := gs_up_ne _ _ (by omega)
          have v361 : (gs_up F255 43 8 (v - 97)) 44 1 = F255 44 1 := gs_up_ne _ _ (by omega)
          generalize gs_up F255 43 8 (v - 97) = F352 at I353 f354 v355 v356 v357 v358 v359 v360 v361 ⊢
          refine sA_aload_n dd_X6_takeItem_82 rfl (.tail _ (.head _)) ?_
          refine sA_iload_n dd_X6_takeItem_83 rfl (.tail _ (.tail _ (.tail _ (.head _)))) ?_
          refine sA_put (ci := 6) (j := 9) (q := (RX6, TX6, 10)) (ty := .int) dd_X6_takeItem_84 rfl (by decide) fl_X6_63 rfl (tyX6_ok 9 (by decide)) rfl rfl (by decide) gs_s43 rfl ?_
          have I363 : gs_I (gs_up F352 43 9 q) A := gs_I_put I353 (show (-2147483648 : Int) ≤ q ∧ q ≤ 2147483647 by omega)
          have f364 := gs_fr_put f354 (a := 43) (z := q) (j := 9) (by first | omega | (dsimp only; omega) | (dsimp only) | fail)
          have v365 : gs_up F352 43 9 q 43 9 = q := gs_up_self _ _ _ _
          have v366 : (gs_up F352 43 9 q) 43 1 = F352 43 1 := gs_up_ne _ _ (by omega)
          have v367 : (gs_up F352 43 9 q) 43 5 = F352 43 5 := gs_up_ne _ _ (by omega)
          have v368 : (gs_up F352 43 9 q) 43 6 = F352 43 6 := gs_up_ne _ _ (by omega)
          have v369 : (gs_up F352 43 9 q) 43 7 = F352 43 7 := gs_up_ne _ _ (by omega)
          have v370 : (gs_up F352 43 9 q) 43 8 = F352 43 8 := gs_up_ne _ _ (by omega)
          have v371 : (gs_up F352 43 9 q) 44 1 = F352 44 1 := gs_up_ne _ _ (by omega)
          generalize gs_up F352 43 9 q = F362 at I363 f364 v365 v366 v367 v368 v369 v370 v371 ⊢
          refine sA_aload_n dd_X6_takeItem_87 rfl (.tail _ (.head _)) ?_
          refine sA_iconst (z := 1) dd_X6_takeItem_88 ?_
          refine sA_put (ci := 6) (j := 7) (q := (RX6, TX6, 10)) (ty := .int) dd_X6_takeItem_89 rfl (by decide) fl_X6_39 rfl (tyX6_ok 7 (by decide)) rfl rfl (by decide) gs_s43 rfl ?_
          have I373 : gs_I (gs_up F362 43 7 1) A := gs_I_put I363 (show (-2147483648 : Int) ≤ 1 ∧ 1 ≤ 2147483647 by omega)
          have f374 := gs_fr_put f364 (a := 43) (z := 1) (j := 7) (by first | omega | (dsimp only; omega) | (dsimp only) | fail)
          have v375 : gs_up F362 43 7 1 43 7 = 1 := gs_up_self _ _ _ _
          have v376 : (gs_up F362 43 7 1) 43 1 = F362 43 1 := gs_up_ne _ _ (by omega)
          have v377 : (gs_up F362 43 7 1) 43 5 = F362 43 5 := gs_up_ne _ _ (by omega)
          have v378 : (gs_up F362 43 7 1) 43 6 = F362 43 6 := gs_up_ne _ _ (by omega)
          have v379 : (gs_up F362 43 7 1) 43 8 = F362 43 8 := gs_up_ne _ _ (by omega)
          have v380 : (gs_up F362 43 7 1) 43 9 = F362 43 9 := gs_up_ne _ _ (by omega)
          have v381 : (gs_up F362 43 7 1) 44 1 = F362 44 1 := gs_up_ne _ _ (by omega)
          generalize gs_up F362 43 7 1 = F372 at I373 f374 v375 v376 v377 v378 v379 v380 v381 ⊢
          refine sA_iconst (z := 0) dd_X6_takeItem_92 ?_
          refine sA_iret (z := 0) dd_X6_takeItem_93 rfl ?_
          refine ⟨_, rfl, I373, f374, ?_⟩
          refine ⟨by omega, ?_⟩
          refine .inl ⟨rfl, ?_⟩
          unfold rd_itm
          rw [if_neg (by omega), if_pos (by omega)]
          have e1 : F372 43 7 = 1 := by omega
          have e2 : F372 43 8 = v - 97 := by omega
          have e3 : F372 43 9 = q := by omega
          have e4 : F372 43 6 = F 43 6 := by omega
          have e5 : F372 44 1 = F 44 1 := by omega
          rw [e1, e2, e3, e4, e5, u8, u9]
    · skip
      refine sA_iload_n dd_X6_takeItem_25 rfl (.head _) ?_
      refine sA_if_eq (tgt := 62) dd_X6_takeItem_26 (by decide) (by omega) (fun q382 => absurd q382 (by omega)) (fun q382 => ?_)
      refine sA_aload_n dd_X6_takeItem_29 rfl (.tail _ (.head _)) ?_
      refine sA_getr (ci := 6) (j := 2) (q := (RX6, TX6, 10)) dd_X6_takeItem_30 rfl (by decide) fl_X6_18 (by decide) gs_s43 rfl ?_
      refine sA_geti (ci := 2) (j := 1) (q := (RX2, TX2, 2)) dd_X6_takeItem_33 rfl (by decide) fl_X6_32 (Nat.lt_of_succ_lt gs_plan_44.1) gs_plan_44.2.1 rfl ?_
      have b383 := gs_plan_sz gs_plan_44 I256
      refine sA_if_le (tgt := 62) dd_X6_takeItem_36 (by decide) (by omega) (fun q384 => ?_) (fun q384 => ?_)
      · skip
        refine sA_iload_n dd_X6_takeItem_62 rfl (.tail _ (.tail _ (.head _))) ?_
        refine sA_bipush (z := 97) dd_X6_takeItem_63 (by decide) ?_
        refine sA_icmp_lt (tgt := 94) dd_X6_takeItem_65 (by decide) (by omega) (by omega) (fun q385 => ?_) (fun q385 => ?_)
        · skip
          refine sA_iload_n dd_X6_takeItem_94 rfl (.tail _ (.tail _ (.head _))) ?_
          refine sA_bipush (z := 40) dd_X6_takeItem_95 (by decide) ?_
          refine sA_icmp_ne (tgt := 138) dd_X6_takeItem_97 (by decide) (by omega) (by omega) (fun q386 => ?_) (fun q386 => ?_)
          · skip
            refine sA_iload_n dd_X6_takeItem_138 rfl (.tail _ (.tail _ (.head _))) ?_
            refine sA_bipush (z := 41) dd_X6_takeItem_139 (by decide) ?_
            refine sA_icmp_ne (tgt := 168) dd_X6_takeItem_141 (by decide) (by omega) (by omega) (fun q387 => ?_) (fun q387 => ?_)
            · skip
              refine sA_iconst (z := 1) dd_X6_takeItem_168 ?_
              refine sA_iret (z := 1) dd_X6_takeItem_169 rfl ?_
              refine ⟨_, rfl, I256, f257, ?_⟩
              refine ⟨by omega, ?_⟩
              have e : rd_itm (F 43 7) (F 43 8) (F 43 9) (F 43 6) (F 44 1) (A 45) (A 47) v q = rd_flt 1 q := by
                unfold rd_itm
                rw [if_neg (by omega), if_neg (by omega), if_neg (by omega), if_neg (by omega)]
              rw [e]
              exact .inr ⟨by decide, rfl, (show q = F255 43 1 by omega)⟩
            · skip
              refine sA_aload_n dd_X6_takeItem_144 rfl (.tail _ (.head _)) ?_
              refine sA_geti (ci := 6) (j := 6) (q := (RX6, TX6, 10)) dd_X6_takeItem_145 rfl (by decide) fl_X6_36 (by decide) gs_s43 rfl ?_
              have b388 : (0 : Int) ≤ F255 43 6 ∧ F255 43 6 ≤ 4 := I256.1 43 6
              refine sA_if_le (tgt := 168) dd_X6_takeItem_148 (by decide) (by omega) (fun q389 => ?_) (fun q389 => ?_)
              · skip
                refine sA_iconst (z := 1) dd_X6_takeItem_168 ?_
                refine sA_iret (z := 1) dd_X6_takeItem_169 rfl ?_
                refine ⟨_, rfl, I256, f257, ?_⟩
                refine ⟨by omega, ?_⟩
                have e : rd_itm (F 43 7) (F 43 8) (F 43 9) (F 43 6) (F 44 1) (A 45) (A 47) v q = rd_flt 1 q := by
                  unfold rd_itm
                  rw [if_neg (by omega), if_neg (by omega), if_neg (by omega), if_neg (by omega)]
                rw [e]
                exact .inr ⟨by decide, rfl, (show q = F255 43 1 by omega)⟩
              · skip
                refine sA_aload_n dd_X6_takeItem_151 rfl (.tail _ (.head _)) ?_
                refine sA_dup dd_X6_takeItem_152 rfl ?_
                refine sA_geti (ci := 6) (j := 6) (q := (RX6, TX6, 10)) dd_X6_takeItem_153 rfl (by decide) fl_X6_36 (by decide) gs_s43 rfl ?_
                refine sA_iconst (z := 1) dd_X6_takeItem_156 ?_
                refine sA_isub dd_X6_takeItem_157 ?_
                refine sA_put (ci := 6) (j := 6) (q := (RX6, TX6, 10)) (ty := .int) dd_X6_takeItem_158 rfl (by decide) fl_X6_36 rfl (tyX6_ok 6 (by decide)) rfl rfl (by decide) gs_s43 rfl ?_
                have I391 : gs_I (gs_up F255 43 6 ((F255 43 6) - 1)) A := gs_I_put I256 (show (0 : Int) ≤ (F255 43 6) - 1 ∧ (F255 43 6) - 1 ≤ 4 by omega)
                have f392 := gs_fr_put f257 (a := 43) (z := (F255 43 6) - 1) (j := 6) (by first | omega | (dsimp only; omega) | (dsimp only) | fail)
                have v393 : gs_up F255 43 6 ((F255 43 6) - 1) 43 6 = (F255 43 6) - 1 := gs_up_self _ _ _ _
                have v394 : (gs_up F255 43 6 ((F255 43 6) - 1)) 43 1 = F255 43 1 := gs_up_ne _ _ (by omega)
                have v395 : (gs_up F255 43 6 ((F255 43 6) - 1)) 43 5 = F255 43 5 := gs_up_ne _ _ (by omega)
                have v396 : (gs_up F255 43 6 ((F255 43 6) - 1)) 43 7 = F255 43 7 := gs_up_ne _ _ (by omega)
                have v397 : (gs_up F255 43 6 ((F255 43 6) - 1)) 43 8 = F255 43 8 := gs_up_ne _ _ (by omega)
                have v398 : (gs_up F255 43 6 ((F255 43 6) - 1)) 43 9 = F255 43 9 := gs_up_ne _ _ (by omega)
                have v399 : (gs_up F255 43 6 ((F255 43 6) - 1)) 44 1 = F255 44 1 := gs_up_ne _ _ (by omega)
                generalize gs_up F255 43 6 ((F255 43 6) - 1) = F390 at I391 f392 v393 v394 v395 v396 v397 v398 v399 ⊢
                refine sA_aload_n dd_X6_takeItem_161 rfl (.tail _ (.head _)) ?_
                refine sA_iconst (z := 3) dd_X6_takeItem_162 ?_
                refine sA_put (ci := 6) (j := 7) (q := (RX6, TX6, 10)) (ty := .int) dd_X6_takeItem_163 rfl (by decide) fl_X6_39 rfl (tyX6_ok 7 (by decide)) rfl rfl (by decide) gs_s43 rfl ?_
                have I401 : gs_I (gs_up F390 43 7 3) A := gs_I_put I391 (show (-2147483648 : Int) ≤ 3 ∧ 3 ≤ 2147483647 by omega)
                have f402 := gs_fr_put f392 (a := 43) (z := 3) (j := 7) (by first | omega | (dsimp only; omega) | (dsimp only) | fail)
                have v403 : gs_up F390 43 7 3 43 7 = 3 := gs_up_self _ _ _ _
                have v404 : (gs_up F390 43 7 3) 43 1 = F390 43 1 := gs_up_ne _ _ (by omega)
                have v405 : (gs_up F390 43 7 3) 43 5 = F390 43 5 := gs_up_ne _ _ (by omega)
                have v406 : (gs_up F390 43 7 3) 43 6 = F390 43 6 := gs_up_ne _ _ (by omega)
                have v407 : (gs_up F390 43 7 3) 43 8 = F390 43 8 := gs_up_ne _ _ (by omega)
                have v408 : (gs_up F390 43 7 3) 43 9 = F390 43 9 := gs_up_ne _ _ (by omega)
                have v409 : (gs_up F390 43 7 3) 44 1 = F390 44 1 := gs_up_ne _ _ (by omega)
                generalize gs_up F390 43 7 3 = F400 at I401 f402 v403 v404 v405 v406 v407 v408 v409 ⊢
                refine sA_iconst (z := 0) dd_X6_takeItem_166 ?_
                refine sA_iret (z := 0) dd_X6_takeItem_167 rfl ?_
                refine ⟨_, rfl, I401, f402, ?_⟩
                refine ⟨by omega, ?_⟩
                refine .inl ⟨rfl, ?_⟩
                unfold rd_itm
                rw [if_neg (by omega), if_neg (by omega), if_neg (by omega), if_pos (by omega)]
                have e1 : F400 43 7 = 3 := by omega
                have e2 : F400 43 8 = F 43 8 := by omega
                have e3 : F400 43 9 = F 43 9 := by omega
                have e4 : F400 43 6 = F 43 6 - 1 := by omega
                have e5 : F400 44 1 = F 44 1 := by omega
                rw [e1, e2, e3, e4, e5, u8, u9]
          · skip
            refine sA_aload_n dd_X6_takeItem_100 rfl (.tail _ (.head _)) ?_
            refine sA_geti (ci := 6) (j := 6) (q := (RX6, TX6, 10)) dd_X6_takeItem_101 rfl (by decide) fl_X6_36 (by decide) gs_s43 rfl ?_
            have b410 : (0 : Int) ≤ F255 43 6 ∧ F255 43 6 ≤ 4 := I256.1 43 6
            refine sA_iconst (z := 4) dd_X6_takeItem_104 ?_
            refine sA_icmp_lt (tgt := 110) dd_X6_takeItem_105 (by decide) (by omega) (by omega) (fun q411 => ?_) (fun q411 => ?_)
            · skip
              have h110a : F255 43 6 = F 43 6 := by omega
              have h110b : F255 44 1 = F 44 1 := by omega
              refine sA_aload_n dd_X6_takeItem_110 rfl (.tail _ (.head _)) ?_
              refine sA_getr (ci := 6) (j := 4) (q := (RX6, TX6, 10)) dd_X6_takeItem_111 rfl (by decide) fl_X6_26 (by decide) gs_s43 rfl ?_
              refine sA_aload_n dd_X6_takeItem_114 rfl (.tail _ (.head _)) ?_
              refine sA_geti (ci := 6) (j := 6) (q := (RX6, TX6, 10)) dd_X6_takeItem_115 rfl (by decide) fl_X6_36 (by decide) gs_s43 rfl ?_
              refine sA_aload_n dd_X6_takeItem_118 rfl (.tail _ (.head _)) ?_
              refine sA_getr (ci := 6) (j := 2) (q := (RX6, TX6, 10)) dd_X6_takeItem_119 rfl (by decide) fl_X6_18 (by decide) gs_s43 rfl ?_
              refine sA_geti (ci := 2) (j := 1) (q := (RX2, TX2, 2)) dd_X6_takeItem_122 rfl (by decide) fl_X6_32 (Nat.lt_of_succ_lt gs_plan_44.1) gs_plan_44.2.1 rfl ?_
              refine sA_iast (n := 4) dd_X6_takeItem_125 (by decide) gs_s47 (by omega) (by decide) ?_
              have I413 : gs_I F255 (gs_up A 47 ((F255 43 6).toNat) (F255 44 1)) := gs_I_ast I256 (show (0 : Int) ≤ F255 44 1 ∧ F255 44 1 ≤ 60 by omega)
              have f414 := gs_fr_ast f257 (a := 47) (z := F255 44 1) (i := (F255 43 6).toNat) (by first | omega | (dsimp only; omega) | (dsimp only) | fail)
              have u415 : (gs_up A 47 ((F255 43 6).toNat) (F255 44 1)) 45 = A 45 := (gs_up_row _ _ (by omega)).trans u8
              have u416 : (gs_up A 47 ((F255 43 6).toNat) (F255 44 1)) 47 = gs_u (A 47) ((F255 43 6).toNat) (F255 44 1) := (gs_up_u A 47 ((F255 43 6).toNat) (F255 44 1)).trans (congrArg (fun f => gs_u f ((F255 43 6).toNat) (F255 44 1)) u9)
              generalize gs_up A 47 ((F255 43 6).toNat) (F255 44 1) = A412 at I413 f414 u415 u416 ⊢
              refine sA_aload_n dd_X6_takeItem_126 rfl (.tail _ (.head _)) ?_
              refine sA_dup dd_X6_takeItem_127 rfl ?_
              refine sA_geti (ci := 6) (j := 6) (q := (RX6, TX6, 10)) dd_X6_takeItem_128 rfl (by decide) fl_X6_36 (by decide) gs_s43 rfl ?_
              refine sA_iconst (z := 1) dd_X6_takeItem_131 ?_
              refine sA_iadd dd_X6_takeItem_132 ?_
              refine sA_put (ci := 6) (j := 6) (q := (RX6, TX6, 10)) (ty := .int) dd_X6_takeItem_133 rfl (by decide) fl_X6_36 rfl (tyX6_ok 6 (by decide)) rfl rfl (by decide) gs_s43 rfl ?_
              have I418 : gs_I (gs_up F255 43 6 ((F255 43 6) + 1)) A412 := gs_I_put I413 (show (0 : Int) ≤ (F255 43 6) + 1 ∧ (F255 43 6) + 1 ≤ 4 by omega)
              have f419 := gs_fr_put f414 (a := 43) (z := (F255 43 6) + 1) (j := 6) (by first | omega | (dsimp only; omega) | (dsimp only) | fail)
              have v420 : gs_up F255 43 6 ((F255 43 6) + 1) 43 6 = (F255 43 6) + 1 := gs_up_self _ _ _ _
              have v421 : (gs_up F255 43 6 ((F255 43 6) + 1)) 43 1 = F255 43 1 := gs_up_ne _ _ (by omega)
              have v422 : (gs_up F255 43 6 ((F255 43 6) + 1)) 43 5 = F255 43 5 := gs_up_ne _ _ (by omega)
              have v423 : (gs_up F255 43 6 ((F255 43 6) + 1)) 43 7 = F255 43 7 := gs_up_ne _ _ (by omega)
              have v424 : (gs_up F255 43 6 ((F255 43 6) + 1)) 43 8 = F255 43 8 := gs_up_ne _ _ (by omega)
              have v425 : (gs_up F255 43 6 ((F255 43 6) + 1)) 43 9 = F255 43 9 := gs_up_ne _ _ (by omega)
              have v426 : (gs_up F255 43 6 ((F255 43 6) + 1)) 44 1 = F255 44 1 := gs_up_ne _ _ (by omega)
              generalize gs_up F255 43 6 ((F255 43 6) + 1) = F417 at I418 f419 v420 v421 v422 v423 v424 v425 v426 ⊢
              refine sA_iconst (z := 0) dd_X6_takeItem_136 ?_
              refine sA_iret (z := 0) dd_X6_takeItem_137 rfl ?_
              refine ⟨_, rfl, I418, f419, ?_⟩
              refine ⟨by omega, ?_⟩
              refine .inl ⟨rfl, ?_⟩
              unfold rd_itm
              rw [if_neg (by omega), if_neg (by omega), if_pos (by omega), if_neg (by omega)]
              have e1 : F417 43 7 = 0 := by omega
              have e2 : F417 43 8 = F 43 8 := by omega
              have e3 : F417 43 9 = F 43 9 := by omega
              have e4 : F417 43 6 = F 43 6 + 1 := by omega
              have e5 : F417 44 1 = F 44 1 := by omega
              rw [e1, e2, e3, e4, e5, u415, u416]
              rw [h110a, h110b]
            · skip
              refine sA_iconst (z := 4) dd_X6_takeItem_108 ?_
              refine sA_iret (z := 4) dd_X6_takeItem_109 rfl ?_
              refine ⟨_, rfl, I256, f257, ?_⟩
              refine ⟨by omega, ?_⟩
              have e : rd_itm (F 43 7) (F 43 8) (F 43 9) (F 43 6) (F 44 1) (A 45) (A 47) v q = rd_flt 4 q := by
                unfold rd_itm
                rw [if_neg (by omega), if_neg (by omega), if_pos (by omega), if_pos (by omega)]
              rw [e]
              exact .inr ⟨by decide, rfl, (show q = F255 43 1 by omega)⟩
        · skip
          refine sA_iload_n dd_X6_takeItem_68 rfl (.tail _ (.tail _ (.head _))) ?_
          refine sA_bipush (z := 99) dd_X6_takeItem_69 (by decide) ?_
          refine sA_icmp_gt (tgt := 94) dd_X6_takeItem_71 (by decide) (by omega) (by omega) (fun q427 => ?_) (fun q427 => ?_)
          · skip
            refine sA_iload_n dd_X6_takeItem_94 rfl (.tail _ (.tail _ (.head _))) ?_
            refine sA_bipush (z := 40) dd_X6_takeItem_95 (by decide) ?_
            refine sA_icmp_ne (tgt := 138) dd_X6_takeItem_97 (by decide) (by omega) (by omega) (fun q428 => ?_) (fun q428 => ?_)
            · skip
              refine sA_iload_n dd_X6_takeItem_138 rfl (.tail _ (.tail _ (.head _))) ?_
              refine sA_bipush (z := 41) dd_X6_takeItem_139 (by decide) ?_
              refine sA_icmp_ne (tgt := 168) dd_X6_takeItem_141 (by decide) (by omega) (by omega) (fun q429 => ?_) (fun q429 => ?_)
              · skip
                refine sA_iconst (z := 1) dd_X6_takeItem_168 ?_
                refine sA_iret (z := 1) dd_X6_takeItem_169 rfl ?_
                refine ⟨_, rfl, I256, f257, ?_⟩
                refine ⟨by omega, ?_⟩
                have e : rd_itm (F 43 7) (F 43 8) (F 43 9) (F 43 6) (F 44 1) (A 45) (A 47) v q = rd_flt 1 q := by
                  unfold rd_itm
                  rw [if_neg (by omega), if_neg (by omega), if_neg (by omega), if_neg (by omega)]
                rw [e]
                exact .inr ⟨by decide, rfl, (show q = F255 43 1 by omega)⟩
              · skip
                refine sA_aload_n dd_X6_takeItem_144 rfl (.tail _ (.head _)) ?_
                refine sA_geti (ci := 6) (j := 6) (q := (RX6, TX6, 10)) dd_X6_takeItem_145 rfl (by decide) fl_X6_36 (by decide) gs_s43 rfl ?_
                have b430 : (0 : Int) ≤ F255 43 6 ∧ F255 43 6 ≤ 4 := I256.1 43 6
                refine sA_if_le (tgt := 168) dd_X6_takeItem_148 (by decide) (by omega) (fun q431 => ?_) (fun q431 => ?_)
                · skip
                  refine sA_iconst (z := 1) dd_X6_takeItem_168 ?_
                  refine sA_iret (z := 1) dd_X6_takeItem_169 rfl ?_
                  refine ⟨_, rfl, I256, f257, ?_⟩
                  refine ⟨by omega, ?_⟩
                  have e : rd_itm (F 43 7) (F 43 8) (F 43 9) (F 43 6) (F 44 1) (A 45) (A 47) v q = rd_flt 1 q := by
                    unfold rd_itm
                    rw [if_neg (by omega), if_neg (by omega), if_neg (by omega), if_neg (by omega)]
                  rw [e]
                  exact .inr ⟨by decide, rfl, (show q = F255 43 1 by omega)⟩
                · skip
                  refine sA_aload_n dd_X6_takeItem_151 rfl (.tail _ (.head _)) ?_
                  refine sA_dup dd_X6_takeItem_152 rfl ?_
                  refine sA_geti (ci := 6) (j := 6) (q := (RX6, TX6, 10)) dd_X6_takeItem_153 rfl (by decide) fl_X6_36 (by decide) gs_s43 rfl ?_
                  refine sA_iconst (z := 1) dd_X6_takeItem_156 ?_
                  refine sA_isub dd_X6_takeItem_157 ?_
                  refine sA_put (ci := 6) (j := 6) (q := (RX6, TX6, 10)) (ty := .int) dd_X6_takeItem_158 rfl (by decide) fl_X6_36 rfl (tyX6_ok 6 (by decide)) rfl rfl (by decide) gs_s43 rfl ?_
                  have I433 : gs_I (gs_up F255 43 6 ((F255 43 6) - 1)) A := gs_I_put I256 (show (0 : Int) ≤ (F255 43 6) - 1 ∧ (F255 43 6) - 1 ≤ 4 by omega)
                  have f434 := gs_fr_put f257 (a := 43) (z := (F255 43 6) - 1) (j := 6) (by first | omega | (dsimp only; omega) | (dsimp only) | fail)
                  have v435 : gs_up F255 43 6 ((F255 43 6) - 1) 43 6 = (F255 43 6) - 1 := gs_up_self _ _ _ _
                  have v436 : (gs_up F255 43 6 ((F255 43 6) - 1)) 43 1 = F255 43 1 := gs_up_ne _ _ (by omega)
                  have v437 : (gs_up F255 43 6 ((F255 43 6) - 1)) 43 5 = F255 43 5 := gs_up_ne _ _ (by omega)
                  have v438 : (gs_up F255 43 6 ((F255 43 6) - 1)) 43 7 = F255 43 7 := gs_up_ne _ _ (by omega)
                  have v439 : (gs_up F255 43 6 ((F255 43 6) - 1)) 43 8 = F255 43 8 := gs_up_ne _ _ (by omega)
                  have v440 : (gs_up F255 43 6 ((F255 43 6) - 1)) 43 9 = F255 43 9 := gs_up_ne _ _ (by omega)
                  have v441 : (gs_up F255 43 6 ((F255 43 6) - 1)) 44 1 = F255 44 1 := gs_up_ne _ _ (by omega)
                  generalize gs_up F255 43 6 ((F255 43 6) - 1) = F432 at I433 f434 v435 v436 v437 v438 v439 v440 v441 ⊢
                  refine sA_aload_n dd_X6_takeItem_161 rfl (.tail _ (.head _)) ?_
                  refine sA_iconst (z := 3) dd_X6_takeItem_162 ?_
                  refine sA_put (ci := 6) (j := 7) (q := (RX6, TX6, 10)) (ty := .int) dd_X6_takeItem_163 rfl (by decide) fl_X6_39 rfl (tyX6_ok 7 (by decide)) rfl rfl (by decide) gs_s43 rfl ?_
                  have I443 : gs_I (gs_up F432 43 7 3) A := gs_I_put I433 (show (-2147483648 : Int) ≤ 3 ∧ 3 ≤ 2147483647 by omega)
                  have f444 := gs_fr_put f434 (a := 43) (z := 3) (j := 7) (by first | omega | (dsimp only; omega) | (dsimp only) | fail)
                  have v445 : gs_up F432 43 7 3 43 7 = 3 := gs_up_self _ _ _ _
                  have v446 : (gs_up F432 43 7 3) 43 1 = F432 43 1 := gs_up_ne _ _ (by omega)
                  have v447 : (gs_up F432 43 7 3) 43 5 = F432 43 5 := gs_up_ne _ _ (by omega)
                  have v448 : (gs_up F432 43 7 3) 43 6 = F432 43 6 := gs_up_ne _ _ (by omega)
                  have v449 : (gs_up F432 43 7 3) 43 8 = F432 43 8 := gs_up_ne _ _ (by omega)
                  have v450 : (gs_up F432 43 7 3) 43 9 = F432 43 9 := gs_up_ne _ _ (by omega)
                  have v451 : (gs_up F432 43 7 3) 44 1 = F432 44 1 := gs_up_ne _ _ (by omega)
                  generalize gs_up F432 43 7 3 = F442 at I443 f444 v445 v446 v447 v448 v449 v450 v451 ⊢
                  refine sA_iconst (z := 0) dd_X6_takeItem_166 ?_
                  refine sA_iret (z := 0) dd_X6_takeItem_167 rfl ?_
                  refine ⟨_, rfl, I443, f444, ?_⟩
                  refine ⟨by omega, ?_⟩
                  refine .inl ⟨rfl, ?_⟩
                  unfold rd_itm
                  rw [if_neg (by omega), if_neg (by omega), if_neg (by omega), if_pos (by omega)]
                  have e1 : F442 43 7 = 3 := by omega
                  have e2 : F442 43 8 = F 43 8 := by omega
                  have e3 : F442 43 9 = F 43 9 := by omega
                  have e4 : F442 43 6 = F 43 6 - 1 := by omega
                  have e5 : F442 44 1 = F 44 1 := by omega
                  rw [e1, e2, e3, e4, e5, u8, u9]
            · skip
              refine sA_aload_n dd_X6_takeItem_100 rfl (.tail _ (.head _)) ?_
              refine sA_geti (ci := 6) (j := 6) (q := (RX6, TX6, 10)) dd_X6_takeItem_101 rfl (by decide) fl_X6_36 (by decide) gs_s43 rfl ?_
              have b452 : (0 : Int) ≤ F255 43 6 ∧ F255 43 6 ≤ 4 := I256.1 43 6
              refine sA_iconst (z := 4) dd_X6_takeItem_104 ?_
              refine sA_icmp_lt (tgt := 110) dd_X6_takeItem_105 (by decide) (by omega) (by omega) (fun q453 => ?_) (fun q453 => ?_)
              · skip
                have h110a : F255 43 6 = F 43 6 := by omega
                have h110b : F255 44 1 = F 44 1 := by omega
                refine sA_aload_n dd_X6_takeItem_110 rfl (.tail _ (.head _)) ?_
                refine sA_getr (ci := 6) (j := 4) (q := (RX6, TX6, 10)) dd_X6_takeItem_111 rfl (by decide) fl_X6_26 (by decide) gs_s43 rfl ?_
                refine sA_aload_n dd_X6_takeItem_114 rfl (.tail _ (.head _)) ?_
                refine sA_geti (ci := 6) (j := 6) (q := (RX6, TX6, 10)) dd_X6_takeItem_115 rfl (by decide) fl_X6_36 (by decide) gs_s43 rfl ?_
                refine sA_aload_n dd_X6_takeItem_118 rfl (.tail _ (.head _)) ?_
                refine sA_getr (ci := 6) (j := 2) (q := (RX6, TX6, 10)) dd_X6_takeItem_119 rfl (by decide) fl_X6_18 (by decide) gs_s43 rfl ?_
                refine sA_geti (ci := 2) (j := 1) (q := (RX2, TX2, 2)) dd_X6_takeItem_122 rfl (by decide) fl_X6_32 (Nat.lt_of_succ_lt gs_plan_44.1) gs_plan_44.2.1 rfl ?_
                refine sA_iast (n := 4) dd_X6_takeItem_125 (by decide) gs_s47 (by omega) (by decide) ?_
                have I455 : gs_I F255 (gs_up A 47 ((F255 43 6).toNat) (F255 44 1)) := gs_I_ast I256 (show (0 : Int) ≤ F255 44 1 ∧ F255 44 1 ≤ 60 by omega)
                have f456 := gs_fr_ast f257 (a := 47) (z := F255 44 1) (i := (F255 43 6).toNat) (by first | omega | (dsimp only; omega) | (dsimp only) | fail)
                have u457 : (gs_up A 47 ((F255 43 6).toNat) (F255 44 1)) 45 = A 45 := (gs_up_row _ _ (by omega)).trans u8
                have u458 : (gs_up A 47 ((F255 43 6).toNat) (F255 44 1)) 47 = gs_u (A 47) ((F255 43 6).toNat) (F255 44 1) := (gs_up_u A 47 ((F255 43 6).toNat) (F255 44 1)).trans (congrArg (fun f => gs_u f ((F255 43 6).toNat) (F255 44 1)) u9)
                generalize gs_up A 47 ((F255 43 6).toNat) (F255 44 1) = A454 at I455 f456 u457 u458 ⊢
                refine sA_aload_n dd_X6_takeItem_126 rfl (.tail _ (.head _)) ?_
                refine sA_dup dd_X6_takeItem_127 rfl ?_
                refine sA_geti (ci := 6) (j := 6) (q := (RX6, TX6, 10)) dd_X6_takeItem_128 rfl (by decide) fl_X6_36 (by decide) gs_s43 rfl ?_
                refine sA_iconst (z := 1) dd_X6_takeItem_131 ?_
                refine sA_iadd dd_X6_takeItem_132 ?_
                refine sA_put (ci := 6) (j := 6) (q := (RX6, TX6, 10)) (ty := .int) dd_X6_takeItem_133 rfl (by decide) fl_X6_36 rfl (tyX6_ok 6 (by decide)) rfl rfl (by decide) gs_s43 rfl ?_
                have I460 : gs_I (gs_up F255 43 6 ((F255 43 6) + 1)) A454 := gs_I_put I455 (show (0 : Int) ≤ (F255 43 6) + 1 ∧ (F255 43 6) + 1 ≤ 4 by omega)
                have f461 := gs_fr_put f456 (a := 43) (z := (F255 43 6) + 1) (j := 6) (by first | omega | (dsimp only; omega) | (dsimp only) | fail)
                have v462 : gs_up F255 43 6 ((F255 43 6) + 1) 43 6 = (F255 43 6) + 1 := gs_up_self _ _ _ _
                have v463 : (gs_up F255 43 6 ((F255 43 6) + 1)) 43 1 = F255 43 1 := gs_up_ne _ _ (by omega)
                have v464 : (gs_up F255 43 6 ((F255 43 6) + 1)) 43 5 = F255 43 5 := gs_up_ne _ _ (by omega)
                have v465 : (gs_up F255 43 6 ((F255 43 6) + 1)) 43 7 = F255 43 7 := gs_up_ne _ _ (by omega)
                have v466 : (gs_up F255 43 6 ((F255 43 6) + 1)) 43 8 = F255 43 8 := gs_up_ne _ _ (by omega)
                have v467 : (gs_up F255 43 6 ((F255 43 6) + 1)) 43 9 = F255 43 9 := gs_up_ne _ _ (by omega)
                have v468 : (gs_up F255 43 6 ((F255 43 6) + 1)) 44 1 = F255 44 1 := gs_up_ne _ _ (by omega)
                generalize gs_up F255 43 6 ((F255 43 6) + 1) = F459 at I460 f461 v462 v463 v464 v465 v466 v467 v468 ⊢
                refine sA_iconst (z := 0) dd_X6_takeItem_136 ?_
                refine sA_iret (z := 0) dd_X6_takeItem_137 rfl ?_
                refine ⟨_, rfl, I460, f461, ?_⟩
                refine ⟨by omega, ?_⟩
                refine .inl ⟨rfl, ?_⟩
                unfold rd_itm
                rw [if_neg (by omega), if_neg (by omega), if_pos (by omega), if_neg (by omega)]
                have e1 : F459 43 7 = 0 := by omega
                have e2 : F459 43 8 = F 43 8 := by omega
                have e3 : F459 43 9 = F 43 9 := by omega
                have e4 : F459 43 6 = F 43 6 + 1 := by omega
                have e5 : F459 44 1 = F 44 1 := by omega
                rw [e1, e2, e3, e4, e5, u457, u458]
                rw [h110a, h110b]
              · skip
                refine sA_iconst (z := 4) dd_X6_takeItem_108 ?_
                refine sA_iret (z := 4) dd_X6_takeItem_109 rfl ?_
                refine ⟨_, rfl, I256, f257, ?_⟩
                refine ⟨by omega, ?_⟩
                have e : rd_itm (F 43 7) (F 43 8) (F 43 9) (F 43 6) (F 44 1) (A 45) (A 47) v q = rd_flt 4 q := by
                  unfold rd_itm
                  rw [if_neg (by omega), if_neg (by omega), if_pos (by omega), if_pos (by omega)]
                rw [e]
                exact .inr ⟨by decide, rfl, (show q = F255 43 1 by omega)⟩
          · skip
            refine sA_aload_n dd_X6_takeItem_74 rfl (.tail _ (.head _)) ?_
            refine sA_iload_n dd_X6_takeItem_75 rfl (.tail _ (.tail _ (.head _))) ?_
            refine sA_bipush (z := 97) dd_X6_takeItem_76 (by decide) ?_
            refine sA_isub dd_X6_takeItem_78 ?_
            refine sA_put (ci := 6) (j := 8) (q := (RX6, TX6, 10)) (ty := .int) dd_X6_takeItem_79 rfl (by decide) fl_X6_60 rfl (tyX6_ok 8 (by decide)) rfl rfl (by decide) gs_s43 rfl ?_
            have I470 : gs_I (gs_up F255 43 8 (v - 97)) A := gs_I_put I256 (show (-2147483648 : Int) ≤ v - 97 ∧ v - 97 ≤ 2147483647 by omega)
            have f471 := gs_fr_put f257 (a := 43) (z := v - 97) (j := 8) (by first | omega | (dsimp only; omega) | (dsimp only) | fail)
            have v472 : gs_up F255 43 8 (v - 97) 43 8 = v - 97 := gs_up_self _ _ _ _
            have v473 : (gs_up F255 43 8 (v - 97)) 43 1 = F255 43 1 := gs_up_ne _ _ (by omega)
            have v474 : (gs_up F255 43 8 (v - 97)) 43 5 = F255 43 5 := gs_up_ne _ _ (by omega)
            have v475 : (gs_up F255 43 8 (v - 97)) 43 6 = F255 43 6 := gs_up_ne _ _ (by omega)
            have v476 : (gs_up F255 43 8 (v - 97)) 43 7 = F255 43 7 := gs_up_ne _ _ (by omega)
            have v477 : (gs_up F255 43 8 (v - 97)) 43 9 = F255 43 9 := gs_up_ne _ _ (by omega)
            have v478 : (gs_up F255 43 8 (v - 97)) 44 1 = F255 44 1 := gs_up_ne _ _ (by omega)
            generalize gs_up F255 43 8 (v - 97) = F469 at I470 f471 v472 v473 v474 v475 v476 v477 v478 ⊢
            refine sA_aload_n dd_X6_takeItem_82 rfl (.tail _ (.head _)) ?_
            refine sA_iload_n dd_X6_takeItem_83 rfl (.tail _ (.tail _ (.tail _ (.head _)))) ?_
            refine sA_put (ci := 6) (j := 9) (q := (RX6, TX6, 10)) (ty := .int) dd_X6_takeItem_84 rfl (by decide) fl_X6_63 rfl (tyX6_ok 9 (by decide)) rfl rfl (by decide) gs_s43 rfl ?_
            have I480 : gs_I (gs_up F469 43 9 q) A := gs_I_put I470 (show (-2147483648 : Int) ≤ q ∧ q ≤ 2147483647 by omega)
            have f481 := gs_fr_put f471 (a := 43) (z := q) (j := 9) (by first | omega | (dsimp only; omega) | (dsimp only) | fail)
            have v482 : gs_up F469 43 9 q 43 9 = q := gs_up_self _ _ _ _
            have v483 : (gs_up F469 43 9 q) 43 1 = F469 43 1 := gs_up_ne _ _ (by omega)
            have v484 : (gs_up F469 43 9 q) 43 5 = F469 43 5 := gs_up_ne _ _ (by omega)
            have v485 : (gs_up F469 43 9 q) 43 6 = F469 43 6 := gs_up_ne _ _ (by omega)
            have v486 : (gs_up F469 43 9 q) 43 7 = F469 43 7 := gs_up_ne _ _ (by omega)
            have v487 : (gs_up F469 43 9 q) 43 8 = F469 43 8 := gs_up_ne _ _ (by omega)
            have v488 : (gs_up F469 43 9 q) 44 1 = F469 44 1 := gs_up_ne _ _ (by omega)
            generalize gs_up F469 43 9 q = F479 at I480 f481 v482 v483 v484 v485 v486 v487 v488 ⊢
            refine sA_aload_n dd_X6_takeItem_87 rfl (.tail _ (.head _)) ?_
            refine sA_iconst (z := 1) dd_X6_takeItem_88 ?_
            refine sA_put (ci := 6) (j := 7) (q := (RX6, TX6, 10)) (ty := .int) dd_X6_takeItem_89 rfl (by decide) fl_X6_39 rfl (tyX6_ok 7 (by decide)) rfl rfl (by decide) gs_s43 rfl ?_
            have I490 : gs_I (gs_up F479 43 7 1) A := gs_I_put I480 (show (-2147483648 : Int) ≤ 1 ∧ 1 ≤ 2147483647 by omega)
            have f491 := gs_fr_put f481 (a := 43) (z := 1) (j := 7) (by first | omega | (dsimp only; omega) | (dsimp only) | fail)
            have v492 : gs_up F479 43 7 1 43 7 = 1 := gs_up_self _ _ _ _
            have v493 : (gs_up F479 43 7 1) 43 1 = F479 43 1 := gs_up_ne _ _ (by omega)
            have v494 : (gs_up F479 43 7 1) 43 5 = F479 43 5 := gs_up_ne _ _ (by omega)
            have v495 : (gs_up F479 43 7 1) 43 6 = F479 43 6 := gs_up_ne _ _ (by omega)
            have v496 : (gs_up F479 43 7 1) 43 8 = F479 43 8 := gs_up_ne _ _ (by omega)
            have v497 : (gs_up F479 43 7 1) 43 9 = F479 43 9 := gs_up_ne _ _ (by omega)
            have v498 : (gs_up F479 43 7 1) 44 1 = F479 44 1 := gs_up_ne _ _ (by omega)
            generalize gs_up F479 43 7 1 = F489 at I490 f491 v492 v493 v494 v495 v496 v497 v498 ⊢
            refine sA_iconst (z := 0) dd_X6_takeItem_92 ?_
            refine sA_iret (z := 0) dd_X6_takeItem_93 rfl ?_
            refine ⟨_, rfl, I490, f491, ?_⟩
            refine ⟨by omega, ?_⟩
            refine .inl ⟨rfl, ?_⟩
            unfold rd_itm
            rw [if_neg (by omega), if_pos (by omega)]
            have e1 : F489 43 7 = 1 := by omega
            have e2 : F489 43 8 = v - 97 := by omega
            have e3 : F489 43 9 = q := by omega
            have e4 : F489 43 6 = F 43 6 := by omega
            have e5 : F489 44 1 = F 44 1 := by omega
            rw [e1, e2, e3, e4, e5, u8, u9]
      · skip
        refine sA_aload_n dd_X6_takeItem_39 rfl (.tail _ (.head _)) ?_
        refine sA_getr (ci := 6) (j := 2) (q := (RX6, TX6, 10)) dd_X6_takeItem_40 rfl (by decide) fl_X6_18 (by decide) gs_s43 rfl ?_
        refine sA_getr (ci := 2) (j := 0) (q := (RX2, TX2, 2)) dd_X6_takeItem_43 rfl (by decide) fl_X6_70 (Nat.lt_of_succ_lt gs_plan_44.1) gs_plan_44.2.1 rfl ?_
        refine sA_aload_n dd_X6_takeItem_46 rfl (.tail _ (.head _)) ?_
        refine sA_getr (ci := 6) (j := 2) (q := (RX6, TX6, 10)) dd_X6_takeItem_47 rfl (by decide) fl_X6_18 (by decide) gs_s43 rfl ?_
        refine sA_geti (ci := 2) (j := 1) (q := (RX2, TX2, 2)) dd_X6_takeItem_50 rfl (by decide) fl_X6_32 (Nat.lt_of_succ_lt gs_plan_44.1) gs_plan_44.2.1 rfl ?_
        refine sA_iconst (z := 1) dd_X6_takeItem_53 ?_
        refine sA_isub dd_X6_takeItem_54 ?_
        refine sA_dup2 dd_X6_takeItem_55 rfl rfl ?_
        refine sA_iald (n := 60) dd_X6_takeItem_56 gs_plan_44.1 gs_plan_44.2.2.1 (by omega) (by decide) ?_
        have b499 := gs_plan_el gs_plan_44 I256 ((F255 44 1) - 1).toNat
        refine sA_iconst (z := 1) dd_X6_takeItem_57 ?_
        refine sA_ixor dd_X6_takeItem_58 ?_
        have b500 := gs_t_rng (Int32.ofInt (A 45 ((F255 44 1) - 1).toNat) ^^^ Int32.ofInt 1)
        generalize hw501 : gs_t (Int32.ofInt (A 45 ((F255 44 1) - 1).toNat) ^^^ Int32.ofInt 1) = w501 at b500 ⊢
        refine sA_iast (n := 60) dd_X6_takeItem_59 gs_plan_44.1 gs_plan_44.2.2.1 (by omega) (by decide) ?_
        have I503 : gs_I F255 (gs_up A 45 (((F255 44 1) - 1).toNat) w501) := gs_plan_ast gs_plan_44 I256 (by omega)
        have f504 := gs_fr_ast f257 (a := 45) (z := w501) (i := ((F255 44 1) - 1).toNat) (by first | omega | (dsimp only; omega) | (dsimp only) | fail)
        have u505 : (gs_up A 45 (((F255 44 1) - 1).toNat) w501) 45 = gs_u (A 45) (((F255 44 1) - 1).toNat) w501 := (gs_up_u A 45 (((F255 44 1) - 1).toNat) w501).trans (congrArg (fun f => gs_u f (((F255 44 1) - 1).toNat) w501) u8)
        have u506 : (gs_up A 45 (((F255 44 1) - 1).toNat) w501) 47 = A 47 := (gs_up_row _ _ (by omega)).trans u9
        generalize gs_up A 45 (((F255 44 1) - 1).toNat) w501 = A502 at I503 f504 u505 u506 ⊢
        refine sA_iconst (z := 0) dd_X6_takeItem_60 ?_
        refine sA_iret (z := 0) dd_X6_takeItem_61 rfl ?_
        refine ⟨_, rfl, I503, f504, ?_⟩
        refine ⟨by omega, ?_⟩
        have hu := u505
        have hfl : rd_flip (A 45 (F255 44 1 - 1).toNat) = w501 := hw501
        rw [← hfl, show F255 44 1 = F 44 1 by omega] at hu
        refine .inl ⟨rfl, ?_⟩
        unfold rd_itm
        rw [if_pos (by omega)]
        have e1 : F255 43 7 = 0 := by omega
        have e2 : F255 43 8 = F 43 8 := by omega
        have e3 : F255 43 9 = F 43 9 := by omega
        have e4 : F255 43 6 = F 43 6 := by omega
        have e5 : F255 44 1 = F 44 1 := by omega
        rw [e1, e2, e3, e4, e5, hu, u506]
        first | done | rfl | fail
theorem c_X6_take_vf {v q : Int} {F A : gs_F} (hI : gs_I F A) (hv : -2147483648 ≤ v ∧ v ≤ 2147483647) (hq : -2147483648 ≤ q ∧ q ≤ 2147483647) (hq1 : F 43 1 = q) (hgd : rd_gd (F 43 5) (F 43 7) (F 43 8) (F 43 6) (F 44 1) (A 45) (A 47)) : sC m_X6_take 3 [.ref 43, gs_iv v, gs_iv q] F A (fun rv F' A' => ∃ z : Int, rv = some (gs_iv z) ∧ gs_I F' A' ∧ gs_fr (fun c j => (c = 43 ∧ (j = 1 ∨ (6 ≤ j ∧ j ≤ 9))) ∨ (c = 44 ∧ j = 1)) (fun c => c = 45 ∨ c = 47) F A F' A' ∧ ((0 ≤ z ∧ z ≤ 4) ∧ rd_ok (rd_tk (F 43 5) (F 43 7) (F 43 8) (F 43 9) (F 43 6) (F 44 1) (A 45) (A 47) v q) z F' A')) := by
  refine sC_of ok_X6_take.1 (Nat.le_of_ble_eq_true rfl) ?_
  show sA _ _ _ 0 [(0, .ref 43), (1, gs_iv v), (2, gs_iv q)] [] F A
  have hf : gs_fr (fun c j => (c = 43 ∧ (j = 1 ∨ (6 ≤ j ∧ j ≤ 9))) ∨ (c = 44 ∧ j = 1)) (fun c => c = 45 ∨ c = 47) F A F A := gs_fr_refl _ _ _ _
  refine sA_aload_n dd_X6_take_0 rfl (.head _) ?_
  refine sA_geti (ci := 6) (j := 7) (q := (RX6, TX6, 10)) dd_X6_take_1 rfl (by decide) fl_X6_39 (by decide) gs_s43 rfl ?_
  have b1 : (-2147483648 : Int) ≤ F 43 7 ∧ F 43 7 ≤ 2147483647 := hI.1 43 7
  by_cases q2 : F 43 7 = 1
  · refine sA_lookup (off := 28) (tgt := 32) dd_X6_take_4 (by decide) (by omega) (by rw [q2]; rfl) (by decide) ?_
    refine sA_aload_n dd_X6_take_32 rfl (.head _) ?_
    refine sA_iload_n dd_X6_take_33 rfl (.tail _ (.head _)) ?_
    refine sA_callV (y2 := m_X6_takeHandle) (n2 := 1) (d2 := 2) (a := 43) (ci := 6) (q := (RX6, TX6, 10)) (as := [gs_iv v]) (rest := []) dd_X6_take_34 ok_X6_takeHandle ml_X6_46 rfl rfl (by decide) gs_s43 rfl rfl (Nat.le_of_ble_eq_true rfl) (by decide) (c_X6_takeHandle_vf hI (by omega) (hgd.1.2.2.2.2.2.1 (by omega))) (fun r3 F4 A5 h6 => ?_)
    obtain ⟨z9, e8, I10, f11, x7⟩ := h6
    subst e8
    have f12 := gs_fr_tr hf f11 (fun b j h => by first | exact False.elim h | omega | (dsimp only at h ⊢; omega) | fail) (fun b h => by first | exact False.elim h | omega | (dsimp only at h ⊢; omega) | fail)
    have y13 : (0 ≤ z9 ∧ z9 ≤ 4) ∧ rd_ok (rd_han (F 43 5) (F 43 8) (F 43 9) (F 43 6) (F 44 1) (A 45) (A 47) v (F 43 1)) z9 F4 A5 := x7
    clear x7
    show sA _ _ _ 37 _ [gs_iv z9] _ _
    refine sA_iret (z := z9) dd_X6_take_37 rfl ?_
    refine ⟨_, rfl, I10, f12, ?_⟩
    refine ⟨by omega, ?_⟩
    unfold rd_tk
    rw [if_pos (by omega)]
    have y := y13.2
    rw [hq1] at y
    exact y
  · skip
    by_cases q14 : F 43 7 = 3
    · refine sA_lookup (off := 34) (tgt := 38) dd_X6_take_4 (by decide) (by omega) (by rw [q14]; rfl) (by decide) ?_
      refine sA_aload_n dd_X6_take_38 rfl (.head _) ?_
      refine sA_iload_n dd_X6_take_39 rfl (.tail _ (.head _)) ?_
      refine sA_callV (y2 := m_X6_takeTimes) (n2 := 1) (d2 := 2) (a := 43) (ci := 6) (q := (RX6, TX6, 10)) (as := [gs_iv v]) (rest := []) dd_X6_take_40 ok_X6_takeTimes ml_X6_50 rfl rfl (by decide) gs_s43 rfl rfl (Nat.le_of_ble_eq_true rfl) (by decide) (c_X6_takeTimes_vf hI (by omega) (hgd.1.2.2.2.2.2.2.2 (by omega)) (hgd.2.1 (F 43 6) hgd.1.1 (by omega)).2) (fun r15 F16 A17 h18 => ?_)
      obtain ⟨z21, e20, I22, f23, x19⟩ := h18
      subst e20
      have f24 := gs_fr_tr hf f23 (fun b j h => by first | exact False.elim h | omega | (dsimp only at h ⊢; omega) | fail) (fun b h => by first | exact False.elim h | omega | (dsimp only at h ⊢; omega) | fail)
      have y25 : (0 ≤ z21 ∧ z21 ≤ 4) ∧ rd_ok (rd_tim (F 43 8) (F 43 9) (F 43 6) (F 44 1) (A 45) (A 47) v (F 43 1)) z21 F16 A17 := x19
      clear x19
      show sA _ _ _ 43 _ [gs_iv z21] _ _
      refine sA_iret (z := z21) dd_X6_take_43 rfl ?_
      refine ⟨_, rfl, I22, f24, ?_⟩
      refine ⟨by omega, ?_⟩
      unfold rd_tk
      rw [if_neg (by omega), if_pos (by omega)]
      have y := y25.2
      rw [hq1] at y
      exact y
    · skip
      refine sA_lookup (off := 40) (tgt := 44) dd_X6_take_4 (by decide) (by omega) (by simp [Op.lookupswitch.offset, Ne.symm q2, Ne.symm q14]) (by decide) ?_
      refine sA_aload_n dd_X6_take_44 rfl (.head _) ?_
      refine sA_iload_n dd_X6_take_45 rfl (.tail _ (.head _)) ?_
      refine sA_iload_n dd_X6_take_46 rfl (.tail _ (.tail _ (.head _))) ?_
      refine sA_callV (y2 := m_X6_takeItem) (n2 := 2) (d2 := 1) (a := 43) (ci := 6) (q := (RX6, TX6, 10)) (as := [gs_iv v, gs_iv q]) (rest := []) dd_X6_take_47 ok_X6_takeItem ml_X6_53 rfl rfl (by decide) gs_s43 rfl rfl (Nat.le_of_ble_eq_true rfl) (by decide) (c_X6_takeItem_vf hI (by omega) (by omega) (by omega)) (fun r26 F27 A28 h29 => ?_)
      obtain ⟨z32, e31, I33, f34, x30⟩ := h29
      subst e31
      have f35 := gs_fr_tr hf f34 (fun b j h => by first | exact False.elim h | omega | (dsimp only at h ⊢; omega) | fail) (fun b h => by first | exact False.elim h | omega | (dsimp only at h ⊢; omega) | fail)
      have y36 : (0 ≤ z32 ∧ z32 ≤ 4) ∧ rd_ok (rd_itm (F 43 7) (F 43 8) (F 43 9) (F 43 6) (F 44 1) (A 45) (A 47) v q) z32 F27 A28 := x30
      clear x30
      show sA _ _ _ 50 _ [gs_iv z32] _ _
      refine sA_iret (z := z32) dd_X6_take_50 rfl ?_
      refine ⟨_, rfl, I33, f35, ?_⟩
      refine ⟨by omega, ?_⟩
      unfold rd_tk
      rw [if_neg (by omega), if_neg (by omega)]
      exact y36.2
theorem k_X6_understand_vf {g : Int} {F A : gs_F} (hI : gs_I F A) (hg : 1 ≤ g ∧ g ≤ 3) : ∀ nN : Nat, (∀ (p : Int)  (F1 A1 : gs_F), gs_I F1 A1 → gs_fr (fun c j => (c = 43 ∧ (j = 1 ∨ (5 ≤ j ∧ j ≤ 9))) ∨ (c = 44 ∧ j = 1)) (fun c => c = 45 ∨ c = 47) F A F1 A1 → 0 ≤ p ∧ p ≤ F1 43 0 → F1 43 0 = F 43 0 → F1 43 5 = g → rd_c F A g p.toNat = (0, 0, F1 43 7, F1 43 8, F1 43 9, F1 43 6, F1 44 1, A1 45, A1 47) → F1 43 0 - p < (nN : Int) → sA m_X6_understand 4 (fun rv F' A' => ∃ z : Int, rv = some (gs_iv z) ∧ gs_I F' A' ∧ gs_fr (fun c j => (c = 43 ∧ (j = 1 ∨ (5 ≤ j ∧ j ≤ 9))) ∨ (c = 44 ∧ j = 1)) (fun c => c = 45 ∨ c = 47) F A F' A' ∧ ((0 ≤ z ∧ z ≤ 4) ∧ (rd_fin (rd_c F A g (F 43 0).toNat) (F 43 0) = (z, F' 43 1)) ∧ (z = 0 → rd_c F A g (F 43 0).toNat = (0, 0, F' 43 7, F' 43 8, F' 43 9, F' 43 6, F' 44 1, A' 45, A' 47)))) 25 [(2, gs_iv p), (0, .ref 43)] [] F1 A1) := by
  intro nN
  induction nN with
  | zero =>
    exact fun a0 a1 a2 a3 a4 i0 i1 i2 i3 hm => by exfalso; omega
  | succ nN ih =>
    intro p F1 A1 hI1 hf1 i0 i1 i2 i3 hm
    have b1 : (-2147483648 : Int) ≤ F1 43 1 ∧ F1 43 1 ≤ 2147483647 := hI1.1 43 1
    have b2 : (0 : Int) ≤ F1 43 5 ∧ F1 43 5 ≤ 3 := hI1.1 43 5
    have b3 : (0 : Int) ≤ F1 43 6 ∧ F1 43 6 ≤ 4 := hI1.1 43 6
    have b4 : (-2147483648 : Int) ≤ F1 43 7 ∧ F1 43 7 ≤ 2147483647 := hI1.1 43 7
    have b5 : (-2147483648 : Int) ≤ F1 43 8 ∧ F1 43 8 ≤ 2147483647 := hI1.1 43 8
    have b6 : (-2147483648 : Int) ≤ F1 43 9 ∧ F1 43 9 ≤ 2147483647 := hI1.1 43 9
    have b7 := gs_plan_sz gs_plan_44 hI1
    have b8 : (0 : Int) ≤ F1 43 0 ∧ F1 43 0 ≤ 120 := hI1.1 43 0
    refine sA_iload_n dd_X6_understand_25 rfl (.head _) ?_
    refine sA_aload_n dd_X6_understand_26 rfl (.tail _ (.head _)) ?_
    refine sA_geti (ci := 6) (j := 0) (q := (RX6, TX6, 10)) dd_X6_understand_27 rfl (by decide) fl_X6_29 (by decide) gs_s43 rfl ?_
    refine sA_icmp_ge (tgt := 77) dd_X6_understand_30 (by decide) (by omega) (by omega) (fun q9 => ?_) (fun q9 => ?_)
    · skip
      refine sA_aload_n dd_X6_understand_77 rfl (.tail _ (.head _)) ?_
      refine sA_aload_n dd_X6_understand_78 rfl (.tail _ (.head _)) ?_
      refine sA_geti (ci := 6) (j := 0) (q := (RX6, TX6, 10)) dd_X6_understand_79 rfl (by decide) fl_X6_29 (by decide) gs_s43 rfl ?_
      refine sA_put (ci := 6) (j := 1) (q := (RX6, TX6, 10)) (ty := .int) dd_X6_understand_82 rfl (by decide) fl_X6_9 rfl (tyX6_ok 1 (by decide)) rfl rfl (by decide) gs_s43 rfl ?_
      have I11 : gs_I (gs_up F1 43 1 (F1 43 0)) A1 := gs_I_put hI1 (show (-2147483648 : Int) ≤ F1 43 0 ∧ F1 43 0 ≤ 2147483647 by omega)
      have f12 := gs_fr_put hf1 (a := 43) (z := F1 43 0) (j := 1) (by first | omega | (dsimp only; omega) | (dsimp only) | fail)
      have v13 : gs_up F1 43 1 (F1 43 0) 43 1 = F1 43 0 := gs_up_self _ _ _ _
      have v14 : (gs_up F1 43 1 (F1 43 0)) 43 5 = F1 43 5 := gs_up_ne _ _ (by omega)
      have v15 : (gs_up F1 43 1 (F1 43 0)) 43 6 = F1 43 6 := gs_up_ne _ _ (by omega)
      have v16 : (gs_up F1 43 1 (F1 43 0)) 43 7 = F1 43 7 := gs_up_ne _ _ (by omega)
      have v17 : (gs_up F1 43 1 (F1 43 0)) 43 8 = F1 43 8 := gs_up_ne _ _ (by omega)
      have v18 : (gs_up F1 43 1 (F1 43 0)) 43 9 = F1 43 9 := gs_up_ne _ _ (by omega)
      have v19 : (gs_up F1 43 1 (F1 43 0)) 44 1 = F1 44 1 := gs_up_ne _ _ (by omega)
      have v20 : (gs_up F1 43 1 (F1 43 0)) 43 0 = F1 43 0 := gs_up_ne _ _ (by omega)
      generalize gs_up F1 43 1 (F1 43 0) = F10 at I11 f12 v13 v14 v15 v16 v17 v18 v19 v20 ⊢
      refine sA_aload_n dd_X6_understand_85 rfl (.tail _ (.head _)) ?_
      refine sA_geti (ci := 6) (j := 6) (q := (RX6, TX6, 10)) dd_X6_understand_86 rfl (by decide) fl_X6_36 (by decide) gs_s43 rfl ?_
      have b21 : (0 : Int) ≤ F10 43 6 ∧ F10 43 6 ≤ 4 := I11.1 43 6
      refine sA_if_gt (tgt := 108) dd_X6_understand_89 (by decide) (by omega) (fun q22 => ?_) (fun q22 => ?_)
      · skip
        refine sA_iconst (z := 1) dd_X6_understand_108 ?_
        refine sA_iret (z := 1) dd_X6_understand_109 rfl ?_
        refine ⟨_, rfl, I11, f12, ?_⟩
        refine ⟨by omega, ?_⟩
        have ep : p.toNat = (F 43 0).toNat := by omega
        rw [ep] at i3
        refine ⟨?_, fun w => by exfalso; omega⟩
        rw [i3]
        unfold rd_fin
        rw [if_neg (fun w => w rfl), if_pos (show 0 < F1 43 6 ∨ F1 43 7 = 1 ∨ F1 43 7 = 3 by omega), show F10 43 1 = F 43 0 by omega]
      · skip
        refine sA_aload_n dd_X6_understand_92 rfl (.tail _ (.head _)) ?_
        refine sA_geti (ci := 6) (j := 7) (q := (RX6, TX6, 10)) dd_X6_understand_93 rfl (by decide) fl_X6_39 (by decide) gs_s43 rfl ?_
        have b23 : (-2147483648 : Int) ≤ F10 43 7 ∧ F10 43 7 ≤ 2147483647 := I11.1 43 7
        refine sA_iconst (z := 1) dd_X6_understand_96 ?_
        refine sA_icmp_eq (tgt := 108) dd_X6_understand_97 (by decide) (by omega) (by omega) (fun q24 => ?_) (fun q24 => ?_)
        · skip
          refine sA_iconst (z := 1) dd_X6_understand_108 ?_
          refine sA_iret (z := 1) dd_X6_understand_109 rfl ?_
          refine ⟨_, rfl, I11, f12, ?_⟩
          refine ⟨by omega, ?_⟩
          have ep : p.toNat = (F 43 0).toNat := by omega
          rw [ep] at i3
          refine ⟨?_, fun w => by exfalso; omega⟩
          rw [i3]
          unfold rd_fin
          rw [if_neg (fun w => w rfl), if_pos (show 0 < F1 43 6 ∨ F1 43 7 = 1 ∨ F1 43 7 = 3 by omega), show F10 43 1 = F 43 0 by omega]
        · skip
          refine sA_aload_n dd_X6_understand_100 rfl (.tail _ (.head _)) ?_
          refine sA_geti (ci := 6) (j := 7) (q := (RX6, TX6, 10)) dd_X6_understand_101 rfl (by decide) fl_X6_39 (by decide) gs_s43 rfl ?_
          refine sA_iconst (z := 3) dd_X6_understand_104 ?_
          refine sA_icmp_ne (tgt := 110) dd_X6_understand_105 (by decide) (by omega) (by omega) (fun q25 => ?_) (fun q25 => ?_)
          · skip
            refine sA_aload_n dd_X6_understand_110 rfl (.tail _ (.head _)) ?_
            refine sA_iconst (z := (-1)) dd_X6_understand_111 ?_
            refine sA_put (ci := 6) (j := 1) (q := (RX6, TX6, 10)) (ty := .int) dd_X6_understand_112 rfl (by decide) fl_X6_9 rfl (tyX6_ok 1 (by decide)) rfl rfl (by decide) gs_s43 rfl ?_
            have I27 : gs_I (gs_up F10 43 1 (-1)) A1 := gs_I_put I11 (show (-2147483648 : Int) ≤ -1 ∧ -1 ≤ 2147483647 by omega)
            have f28 := gs_fr_put f12 (a := 43) (z := -1) (j := 1) (by first | omega | (dsimp only; omega) | (dsimp only) | fail)
            have v29 : gs_up F10 43 1 (-1) 43 1 = -1 := gs_up_self _ _ _ _
            have v30 : (gs_up F10 43 1 (-1)) 43 5 = F10 43 5 := gs_up_ne _ _ (by omega)
            have v31 : (gs_up F10 43 1 (-1)) 43 6 = F10 43 6 := gs_up_ne _ _ (by omega)
            have v32 : (gs_up F10 43 1 (-1)) 43 7 = F10 43 7 := gs_up_ne _ _ (by omega)
            have v33 : (gs_up F10 43 1 (-1)) 43 8 = F10 43 8 := gs_up_ne _ _ (by omega)
            have v34 : (gs_up F10 43 1 (-1)) 43 9 = F10 43 9 := gs_up_ne _ _ (by omega)
            have v35 : (gs_up F10 43 1 (-1)) 44 1 = F10 44 1 := gs_up_ne _ _ (by omega)
            have v36 : (gs_up F10 43 1 (-1)) 43 0 = F10 43 0 := gs_up_ne _ _ (by omega)
            generalize gs_up F10 43 1 (-1) = F26 at I27 f28 v29 v30 v31 v32 v33 v34 v35 v36 ⊢
            refine sA_iconst (z := 0) dd_X6_understand_115 ?_
            refine sA_iret (z := 0) dd_X6_understand_116 rfl ?_
            refine ⟨_, rfl, I27, f28, ?_⟩
            refine ⟨by omega, ?_⟩
            have ep : p.toNat = (F 43 0).toNat := by omega
            rw [ep] at i3
            refine ⟨?_, fun _ => ?_⟩
            · rw [i3]
              unfold rd_fin
              rw [if_neg (fun w => w rfl), if_neg (show ¬ (0 < F1 43 6 ∨ F1 43 7 = 1 ∨ F1 43 7 = 3) by omega), show F26 43 1 = -1 by omega]
            · rw [i3, show F26 43 7 = F1 43 7 by omega, show F26 43 8 = F1 43 8 by omega, show F26 43 9 = F1 43 9 by omega, show F26 43 6 = F1 43 6 by omega, show F26 44 1 = F1 44 1 by omega]
          · skip
            refine sA_iconst (z := 1) dd_X6_understand_108 ?_
            refine sA_iret (z := 1) dd_X6_understand_109 rfl ?_
            refine ⟨_, rfl, I11, f12, ?_⟩
            refine ⟨by omega, ?_⟩
            have ep : p.toNat = (F 43 0).toNat := by omega
            rw [ep] at i3
            refine ⟨?_, fun w => by exfalso; omega⟩
            rw [i3]
            unfold rd_fin
            rw [if_neg (fun w => w rfl), if_pos (show 0 < F1 43 6 ∨ F1 43 7 = 1 ∨ F1 43 7 = 3 by omega), show F10 43 1 = F 43 0 by omega]
    · skip
      refine sA_aload_n dd_X6_understand_33 rfl (.tail _ (.head _)) ?_
      refine sA_iload_n dd_X6_understand_34 rfl (.head _) ?_
      refine sA_put (ci := 6) (j := 1) (q := (RX6, TX6, 10)) (ty := .int) dd_X6_understand_35 rfl (by decide) fl_X6_9 rfl (tyX6_ok 1 (by decide)) rfl rfl (by decide) gs_s43 rfl ?_
      have I38 : gs_I (gs_up F1 43 1 p) A1 := gs_I_put hI1 (show (-2147483648 : Int) ≤ p ∧ p ≤ 2147483647 by omega)
      have f39 := gs_fr_put hf1 (a := 43) (z := p) (j := 1) (by first | omega | (dsimp only; omega) | (dsimp only) | fail)
      have v40 : gs_up F1 43 1 p 43 1 = p := gs_up_self _ _ _ _
      have v41 : (gs_up F1 43 1 p) 43 5 = F1 43 5 := gs_up_ne _ _ (by omega)
      have v42 : (gs_up F1 43 1 p) 43 6 = F1 43 6 := gs_up_ne _ _ (by omega)
      have v43 : (gs_up F1 43 1 p) 43 7 = F1 43 7 := gs_up_ne _ _ (by omega)
      have v44 : (gs_up F1 43 1 p) 43 8 = F1 43 8 := gs_up_ne _ _ (by omega)
      have v45 : (gs_up F1 43 1 p) 43 9 = F1 43 9 := gs_up_ne _ _ (by omega)
      have v46 : (gs_up F1 43 1 p) 44 1 = F1 44 1 := gs_up_ne _ _ (by omega)
      have v47 : (gs_up F1 43 1 p) 43 0 = F1 43 0 := gs_up_ne _ _ (by omega)
      generalize gs_up F1 43 1 p = F37 at I38 f39 v40 v41 v42 v43 v44 v45 v46 v47 ⊢
      refine sA_aload_n dd_X6_understand_38 rfl (.tail _ (.head _)) ?_
      refine sA_getr (ci := 6) (j := 3) (q := (RX6, TX6, 10)) dd_X6_understand_39 rfl (by decide) fl_X6_22 (by decide) gs_s43 rfl ?_
      refine sA_iload_n dd_X6_understand_42 rfl (.head _) ?_
      refine sA_iald (n := 120) dd_X6_understand_43 (by decide) gs_s46 (by omega) (by decide) ?_
      have b48 : (-2147483648 : Int) ≤ A1 46 p.toNat ∧ A1 46 p.toNat ≤ 2147483647 := I38.2 46 p.toNat
      have h46 : A1 46 = A 46 := f39.2 46 (by dsimp only; omega)
      refine sA_bipush (z := 32) dd_X6_understand_44 (by decide) ?_
      refine sA_icmp_ne (tgt := 53) dd_X6_understand_46 (by decide) (by omega) (by omega) (fun q49 => ?_) (fun q49 => ?_)
      · skip
        have h46 : A1 46 = A 46 := f39.2 46 (by dsimp only; omega)
        have hgd : rd_gd (F37 43 5) (F37 43 7) (F37 43 8) (F37 43 6) (F37 44 1) (A1 45) (A1 47) := by
          rw [show F37 43 5 = g by omega, show F37 43 7 = F1 43 7 by omega, show F37 43 8 = F1 43 8 by omega, show F37 43 6 = F1 43 6 by omega, show F37 44 1 = F1 44 1 by omega]
          exact rd_gd_of hg rd_0_good i3
        have hnx : rd_c F A g (p + 1).toNat = rd_tk (F37 43 5) (F37 43 7) (F37 43 8) (F37 43 9) (F37 43 6) (F37 44 1) (A1 45) (A1 47) (A1 46 p.toNat) p := by
          rw [show F37 43 5 = g by omega, show F37 43 7 = F1 43 7 by omega, show F37 43 8 = F1 43 8 by omega, show F37 43 9 = F1 43 9 by omega, show F37 43 6 = F1 43 6 by omega, show F37 44 1 = F1 44 1 by omega, h46]
          exact rd_next (by omega) i3 (by rw [← h46]; omega)
        refine sA_aload_n dd_X6_understand_53 rfl (.tail _ (.head _)) ?_
        refine sA_aload_n dd_X6_understand_54 rfl (.tail _ (.head _)) ?_
        refine sA_getr (ci := 6) (j := 3) (q := (RX6, TX6, 10)) dd_X6_understand_55 rfl (by decide) fl_X6_22 (by decide) gs_s43 rfl ?_
        refine sA_iload_n dd_X6_understand_58 rfl (.head _) ?_
        refine sA_iald (n := 120) dd_X6_understand_59 (by decide) gs_s46 (by omega) (by decide) ?_
        refine sA_iload_n dd_X6_understand_60 rfl (.head _) ?_
        refine sA_callV (y2 := m_X6_take) (n2 := 2) (d2 := 3) (a := 43) (ci := 6) (q := (RX6, TX6, 10)) (as := [gs_iv (A1 46 p.toNat), gs_iv p]) (rest := []) dd_X6_understand_61 ok_X6_take ml_X6_42 rfl rfl (by decide) gs_s43 rfl rfl (Nat.le_of_ble_eq_true rfl) (by decide) (c_X6_take_vf I38 (by omega) (by omega) (by omega) hgd) (fun r50 F51 A52 h53 => ?_)
        obtain ⟨z56, e55, I57, f58, x54⟩ := h53
        subst e55
        have v60 : F51 43 5 = F37 43 5 := f58.1 43 5 (by first | exact id | omega | (dsimp only; omega) | (dsimp only) | fail)
        have v66 : F51 43 0 = F37 43 0 := f58.1 43 0 (by first | exact id | omega | (dsimp only; omega) | (dsimp only) | fail)
        have f67 := gs_fr_tr f39 f58 (fun b j h => by first | exact False.elim h | omega | (dsimp only at h ⊢; omega) | fail) (fun b h => by first | exact False.elim h | omega | (dsimp only at h ⊢; omega) | fail)
        have y68 : (0 ≤ z56 ∧ z56 ≤ 4) ∧ rd_ok (rd_tk (F37 43 5) (F37 43 7) (F37 43 8) (F37 43 9) (F37 43 6) (F37 44 1) (A1 45) (A1 47) (A1 46 p.toNat) p) z56 F51 A52 := x54
        clear x54
        show sA _ _ _ 64 _ [gs_iv z56] _ _
        refine sA_istore_n (lv' := [(3, gs_iv z56), (2, gs_iv p), (0, .ref 43)]) dd_X6_understand_64 rfl (by decide) rfl ?_
        refine sA_iload_n dd_X6_understand_65 rfl (.head _) ?_
        refine sA_if_eq (tgt := 71) dd_X6_understand_66 (by decide) (by omega) (fun q69 => ?_) (fun q69 => ?_)
        · skip
          refine sA_iinc (lv' := [(2, gs_iv (p + 1)), (3, gs_iv z56), (0, .ref 43)]) dd_X6_understand_71 (.tail _ (.head _)) (by decide) rfl ?_
          refine sA_goto (tgt := 25) dd_X6_understand_74 (by decide) ?_
          have b70 : (-2147483648 : Int) ≤ F51 43 1 ∧ F51 43 1 ≤ 2147483647 := I57.1 43 1
          have b71 : (0 : Int) ≤ F51 43 5 ∧ F51 43 5 ≤ 3 := I57.1 43 5
          have b72 : (0 : Int) ≤ F51 43 6 ∧ F51 43 6 ≤ 4 := I57.1 43 6
          have b73 : (-2147483648 : Int) ≤ F51 43 7 ∧ F51 43 7 ≤ 2147483647 := I57.1 43 7
          have b74 : (-2147483648 : Int) ≤ F51 43 8 ∧ F51 43 8 ≤ 2147483647 := I57.1 43 8
          have b75 : (-2147483648 : Int) ≤ F51 43 9 ∧ F51 43 9 ≤ 2147483647 := I57.1 43 9
          have b76 := gs_plan_sz gs_plan_44 I57
          have b77 : (0 : Int) ≤ F51 43 0 ∧ F51 43 0 ≤ 120 := I57.1 43 0
          refine sA_sub (lv2 := [(2, gs_iv (p + 1)), (0, .ref 43)]) (List.forall_mem_cons.mpr ⟨(.head _), (List.forall_mem_cons.mpr ⟨(.tail _ (.tail _ (.head _))), (fun _ h => absurd h List.not_mem_nil)⟩)⟩) ?_
          exact ih (p + 1) F51 A52 I57 f67 (by omega) (by omega) (by omega) (by first | (rw [show F51 43 7 = 0 by omega, show F51 43 8 = F 43 8 by omega, show F51 43 9 = F 43 9 by omega, show F51 43 6 = 0 by omega, show F51 44 1 = 0 by omega]; rfl) | (rw [show F51 43 7 = F1 43 7 by omega, show F51 43 8 = F1 43 8 by omega, show F51 43 9 = F1 43 9 by omega, show F51 43 6 = F1 43 6 by omega, show F51 44 1 = F1 44 1 by omega]; exact (rd_nextb (by omega) (by rw [← h46]; omega)).trans i3) | (have y := y68.2; rcases y with y | y <;> first | (exfalso; omega) | exact hnx.trans y.2 | fail) | fail) (by omega)
        · skip
          refine sA_iload_n dd_X6_understand_69 rfl (.head _) ?_
          refine sA_iret (z := z56) dd_X6_understand_70 rfl ?_
          refine ⟨_, rfl, I57, f67, ?_⟩
          have hz61 := y68.1
          refine ⟨by omega, ?_⟩
          rcases y68.2 with y | y
          · exfalso
            omega
          · refine ⟨?_, fun w => by exfalso; omega⟩
            have e1 := hnx
            have y2 := y.2.1
            have y3 := y.2.2
            rw [← e1] at y2 y3
            rw [← y2, ← y3]
            exact rd_fin_flt (by omega) (by have y1 := y.1; rw [← y2] at y1; exact y1)
      · skip
        refine sA_iconst (z := 0) dd_X6_understand_49 ?_
        refine sA_goto (tgt := 64) dd_X6_understand_50 (by decide) ?_
        refine sA_istore_n (lv' := [(3, gs_iv 0), (2, gs_iv p), (0, .ref 43)]) dd_X6_understand_64 rfl (by decide) rfl ?_
        refine sA_iload_n dd_X6_understand_65 rfl (.head _) ?_
        refine sA_if_eq (tgt := 71) dd_X6_understand_66 (by decide) (by omega) (fun q78 => ?_) (fun q78 => absurd q78 (by omega))
        refine sA_iinc (lv' := [(2, gs_iv (p + 1)), (3, gs_iv 0), (0, .ref 43)]) dd_X6_understand_71 (.tail _ (.head _)) (by decide) rfl ?_
        refine sA_goto (tgt := 25) dd_X6_understand_74 (by decide) ?_
        have b79 : (-2147483648 : Int) ≤ F37 43 1 ∧ F37 43 1 ≤ 2147483647 := I38.1 43 1
        have b80 : (0 : Int) ≤ F37 43 5 ∧ F37 43 5 ≤ 3 := I38.1 43 5
        have b81 : (0 : Int) ≤ F37 43 6 ∧ F37 43 6 ≤ 4 := I38.1 43 6
        have b82 : (-2147483648 : Int) ≤ F37 43 7 ∧ F37 43 7 ≤ 2147483647 := I38.1 43 7
        have b83 : (-2147483648 : Int) ≤ F37 43 8 ∧ F37 43 8 ≤ 2147483647 := I38.1 43 8
        have b84 : (-2147483648 : Int) ≤ F37 43 9 ∧ F37 43 9 ≤ 2147483647 := I38.1 43 9
        have b85 := gs_plan_sz gs_plan_44 I38
        have b86 : (0 : Int) ≤ F37 43 0 ∧ F37 43 0 ≤ 120 := I38.1 43 0
        refine sA_sub (lv2 := [(2, gs_iv (p + 1)), (0, .ref 43)]) (List.forall_mem_cons.mpr ⟨(.head _), (List.forall_mem_cons.mpr ⟨(.tail _ (.tail _ (.head _))), (fun _ h => absurd h List.not_mem_nil)⟩)⟩) ?_
        exact ih (p + 1) F37 A1 I38 f39 (by omega) (by omega) (by omega) (by first | (rw [show F37 43 7 = 0 by omega, show F37 43 8 = F 43 8 by omega, show F37 43 9 = F 43 9 by omega, show F37 43 6 = 0 by omega, show F37 44 1 = 0 by omega]; rfl) | (rw [show F37 43 7 = F1 43 7 by omega, show F37 43 8 = F1 43 8 by omega, show F37 43 9 = F1 43 9 by omega, show F37 43 6 = F1 43 6 by omega, show F37 44 1 = F1 44 1 by omega]; exact (rd_nextb (by omega) (by rw [← h46]; omega)).trans i3) | (have y := hNONE.2; rcases y with y | y <;> first | (exfalso; omega) | exact hnx.trans y.2 | fail) | fail) (by omega)
theorem c_X6_understand_vf {g : Int} {F A : gs_F} (hI : gs_I F A) (hg : 1 ≤ g ∧ g ≤ 3) : sC m_X6_understand 4 [.ref 43, gs_iv g] F A (fun rv F' A' => ∃ z : Int, rv = some (gs_iv z) ∧ gs_I F' A' ∧ gs_fr (fun c j => (c = 43 ∧ (j = 1 ∨ (5 ≤ j ∧ j ≤ 9))) ∨ (c = 44 ∧ j = 1)) (fun c => c = 45 ∨ c = 47) F A F' A' ∧ ((0 ≤ z ∧ z ≤ 4) ∧ (rd_fin (rd_c F A g (F 43 0).toNat) (F 43 0) = (z, F' 43 1)) ∧ (z = 0 → rd_c F A g (F 43 0).toNat = (0, 0, F' 43 7, F' 43 8, F' 43 9, F' 43 6, F' 44 1, A' 45, A' 47)))) := by
  refine sC_of ok_X6_understand.1 (Nat.le_of_ble_eq_true rfl) ?_
  show sA _ _ _ 0 [(0, .ref 43), (1, gs_iv g)] [] F A
  have hf : gs_fr (fun c j => (c = 43 ∧ (j = 1 ∨ (5 ≤ j ∧ j ≤ 9))) ∨ (c = 44 ∧ j = 1)) (fun c => c = 45 ∨ c = 47) F A F A := gs_fr_refl _ _ _ _
  have b87 : (-2147483648 : Int) ≤ F 43 1 ∧ F 43 1 ≤ 2147483647 := hI.1 43 1
  have b88 : (0 : Int) ≤ F 43 5 ∧ F 43 5 ≤ 3 := hI.1 43 5
  have b89 : (0 : Int) ≤ F 43 6 ∧ F 43 6 ≤ 4 := hI.1 43 6
  have b90 : (-2147483648 : Int) ≤ F 43 7 ∧ F 43 7 ≤ 2147483647 := hI.1 43 7
  have b91 : (-2147483648 : Int) ≤ F 43 8 ∧ F 43 8 ≤ 2147483647 := hI.1 43 8
  have b92 : (-2147483648 : Int) ≤ F 43 9 ∧ F 43 9 ≤ 2147483647 := hI.1 43 9
  have b93 := gs_plan_sz gs_plan_44 hI
  have b94 : (0 : Int) ≤ F 43 0 ∧ F 43 0 ≤ 120 := hI.1 43 0
  refine sA_aload_n dd_X6_understand_0 rfl (.head _) ?_
  refine sA_getr (ci := 6) (j := 2) (q := (RX6, TX6, 10)) dd_X6_understand_1 rfl (by decide) fl_X6_18 (by decide) gs_s43 rfl ?_
  refine sA_iconst (z := 0) dd_X6_understand_4 ?_
  refine sA_put (ci := 2) (j := 1) (q := (RX2, TX2, 2)) (ty := .int) dd_X6_understand_5 rfl (by decide) fl_X6_32 rfl (tyX2_ok 1 (by decide)) rfl rfl (Nat.lt_of_succ_lt gs_plan_44.1) gs_plan_44.2.1 rfl ?_
  have I96 : gs_I (gs_up F 44 1 0) A := gs_plan_put gs_plan_44 hI (by omega)
  have f97 := gs_fr_put hf (a := 44) (z := 0) (j := 1) (by first | omega | (dsimp only; omega) | (dsimp only) | fail)
  have v98 : gs_up F 44 1 0 44 1 = 0 := gs_up_self _ _ _ _
  have v99 : (gs_up F 44 1 0) 43 1 = F 43 1 := gs_up_ne _ _ (by omega)
  have v100 : (gs_up F 44 1 0) 43 5 = F 43 5 := gs_up_ne _ _ (by omega)
  have v101 : (gs_up F 44 1 0) 43 6 = F 43 6 := gs_up_ne _ _ (by omega)
  have v102 : (gs_up F 44 1 0) 43 7 = F 43 7 := gs_up_ne _ _ (by omega)
  have v103 : (gs_up F 44 1 0) 43 8 = F 43 8 := gs_up_ne _ _ (by omega)
  have v104 : (gs_up F 44 1 0) 43 9 = F 43 9 := gs_up_ne _ _ (by omega)
  have v105 : (gs_up F 44 1 0) 43 0 = F 43 0 := gs_up_ne _ _ (by omega)
  generalize gs_up F 44 1 0 = F95 at I96 f97 v98 v99 v100 v101 v102 v103 v104 v105 ⊢
  refine sA_aload_n dd_X6_understand_8 rfl (.head _) ?_
  refine sA_iload_n dd_X6_understand_9 rfl (.tail _ (.head _)) ?_
  refine sA_put (ci := 6) (j := 5) (q := (RX6, TX6, 10)) (ty := .int) dd_X6_understand_10 rfl (by decide) fl_X6_33 rfl (tyX6_ok 5 (by decide)) rfl rfl (by decide) gs_s43 rfl ?_
  have I107 : gs_I (gs_up F95 43 5 g) A := gs_I_put I96 (show (0 : Int) ≤ g ∧ g ≤ 3 by omega)
  have f108 := gs_fr_put f97 (a := 43) (z := g) (j := 5) (by first | omega | (dsimp only; omega) | (dsimp only) | fail)
  have v109 : gs_up F95 43 5 g 43 5 = g := gs_up_self _ _ _ _
  have v110 : (gs_up F95 43 5 g) 43 1 = F95 43 1 := gs_up_ne _ _ (by omega)
  have v111 : (gs_up F95 43 5 g) 43 6 = F95 43 6 := gs_up_ne _ _ (by omega)
  have v112 : (gs_up F95 43 5 g) 43 7 = F95 43 7 := gs_up_ne _ _ (by omega)
  have v113 : (gs_up F95 43 5 g) 43 8 = F95 43 8 := gs_up_ne _ _ (by omega)
  have v114 : (gs_up F95 43 5 g) 43 9 = F95 43 9 := gs_up_ne _ _ (by omega)
  have v115 : (gs_up F95 43 5 g) 44 1 = F95 44 1 := gs_up_ne _ _ (by omega)
  have v116 : (gs_up F95 43 5 g) 43 0 = F95 43 0 := gs_up_ne _ _ (by omega)
  generalize gs_up F95 43 5 g = F106 at I107 f108 v109 v110 v111 v112 v113 v114 v115 v116 ⊢
  refine sA_aload_n dd_X6_understand_13 rfl (.head _) ?_
  refine sA_iconst (z := 0) dd_X6_understand_14 ?_
  refine sA_put (ci := 6) (j := 6) (q := (RX6, TX6, 10)) (ty := .int) dd_X6_understand_15 rfl (by decide) fl_X6_36 rfl (tyX6_ok 6 (by decide)) rfl rfl (by decide) gs_s43 rfl ?_
  have I118 : gs_I (gs_up F106 43 6 0) A := gs_I_put I107 (show (0 : Int) ≤ 0 ∧ 0 ≤ 4 by omega)
  have f119 := gs_fr_put f108 (a := 43) (z := 0) (j := 6) (by first | omega | (dsimp only; omega) | (dsimp only) | fail)
  have v120 : gs_up F106 43 6 0 43 6 = 0 := gs_up_self _ _ _ _
  have v121 : (gs_up F106 43 6 0) 43 1 = F106 43 1 := gs_up_ne _ _ (by omega)
  have v122 : (gs_up F106 43 6 0) 43 5 = F106 43 5 := gs_up_ne _ _ (by omega)
  have v123 : (gs_up F106 43 6 0) 43 7 = F106 43 7 := gs_up_ne _ _ (by omega)
  have v124 : (gs_up F106 43 6 0) 43 8 = F106 43 8 := gs_up_ne _ _ (by omega)
  have v125 : (gs_up F106 43 6 0) 43 9 = F106 43 9 := gs_up_ne _ _ (by omega)
  have v126 : (gs_up F106 43 6 0) 44 1 = F106 44 1 := gs_up_ne _ _ (by omega)
  have v127 : (gs_up F106 43 6 0) 43 0 = F106 43 0 := gs_up_ne _ _ (by omega)
  generalize gs_up F106 43 6 0 = F117 at I118 f119 v120 v121 v122 v123 v124 v125 v126 v127 ⊢
  refine sA_aload_n dd_X6_understand_18 rfl (.head _) ?_
  refine sA_iconst (z := 0) dd_X6_understand_19 ?_
  refine sA_put (ci := 6) (j := 7) (q := (RX6, TX6, 10)) (ty := .int) dd_X6_understand_20 rfl (by decide) fl_X6_39 rfl (tyX6_ok 7 (by decide)) rfl rfl (by decide) gs_s43 rfl ?_
  have I129 : gs_I (gs_up F117 43 7 0) A := gs_I_put I118 (show (-2147483648 : Int) ≤ 0 ∧ 0 ≤ 2147483647 by omega)
  have f130 := gs_fr_put f119 (a := 43) (z := 0) (j := 7) (by first | omega | (dsimp only; omega) | (dsimp only) | fail)
  have v131 : gs_up F117 43 7 0 43 7 = 0 := gs_up_self _ _ _ _
  have v132 : (gs_up F117 43 7 0) 43 1 = F117 43 1 := gs_up_ne _ _ (by omega)
  have v133 : (gs_up F117 43 7 0) 43 5 = F117 43 5 := gs_up_ne _ _ (by omega)
  have v134 : (gs_up F117 43 7 0) 43 6 = F117 43 6 := gs_up_ne _ _ (by omega)
  have v135 : (gs_up F117 43 7 0) 43 8 = F117 43 8 := gs_up_ne _ _ (by omega)
  have v136 : (gs_up F117 43 7 0) 43 9 = F117 43 9 := gs_up_ne _ _ (by omega)
  have v137 : (gs_up F117 43 7 0) 44 1 = F117 44 1 := gs_up_ne _ _ (by omega)
  have v138 : (gs_up F117 43 7 0) 43 0 = F117 43 0 := gs_up_ne _ _ (by omega)
  generalize gs_up F117 43 7 0 = F128 at I129 f130 v131 v132 v133 v134 v135 v136 v137 v138 ⊢
  refine sA_iconst (z := 0) dd_X6_understand_23 ?_
  refine sA_istore_n (lv' := [(2, gs_iv 0), (0, .ref 43), (1, gs_iv g)]) dd_X6_understand_24 rfl (by decide) rfl ?_
  have b139 : (-2147483648 : Int) ≤ F128 43 1 ∧ F128 43 1 ≤ 2147483647 := I129.1 43 1
  have b140 : (0 : Int) ≤ F128 43 5 ∧ F128 43 5 ≤ 3 := I129.1 43 5
  have b141 : (0 : Int) ≤ F128 43 6 ∧ F128 43 6 ≤ 4 := I129.1 43 6
  have b142 : (-2147483648 : Int) ≤ F128 43 7 ∧ F128 43 7 ≤ 2147483647 := I129.1 43 7
  have b143 : (-2147483648 : Int) ≤ F128 43 8 ∧ F128 43 8 ≤ 2147483647 := I129.1 43 8
  have b144 : (-2147483648 : Int) ≤ F128 43 9 ∧ F128 43 9 ≤ 2147483647 := I129.1 43 9
  have b145 := gs_plan_sz gs_plan_44 I129
  have b146 : (0 : Int) ≤ F128 43 0 ∧ F128 43 0 ≤ 120 := I129.1 43 0
  refine sA_sub (lv2 := [(2, gs_iv 0), (0, .ref 43)]) (List.forall_mem_cons.mpr ⟨(.head _), (List.forall_mem_cons.mpr ⟨(.tail _ (.head _)), (fun _ h => absurd h List.not_mem_nil)⟩)⟩) ?_
  exact (k_X6_understand_vf hI hg (F128 43 0 - 0 : Int).toNat.succ) 0 F128 A I129 f130 (by omega) (by omega) (by omega) (by first | (rw [show F128 43 7 = 0 by omega, show F128 43 8 = F 43 8 by omega, show F128 43 9 = F 43 9 by omega, show F128 43 6 = 0 by omega, show F128 44 1 = 0 by omega]; rfl) | (rw [show F128 43 7 = F1 43 7 by omega, show F128 43 8 = F1 43 8 by omega, show F128 43 9 = F1 43 9 by omega, show F128 43 6 = F1 43 6 by omega, show F128 44 1 = F1 44 1 by omega]; exact (rd_nextb (by omega) (by rw [← h46]; omega)).trans i3) | (have y := hNONE.2; rcases y with y | y <;> first | (exfalso; omega) | exact hnx.trans y.2 | fail) | fail) (by omega)
end
