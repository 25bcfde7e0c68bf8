noncomputable section
/-! ===== rings: loose ends, powers, ONE ===== -/
/-- k letters go from each end when the n letters f are closed -/
def gs_lo (f : Nat → Int) (n k : Int) : Prop := 0 ≤ k ∧ 2 * k ≤ n ∧ (∀ j : Int, 0 ≤ j → j < k → f j.toNat = -(f (n - 1 - j).toNat)) ∧ ¬(2 * k + 1 < n ∧ f k.toNat = -(f (n - 1 - k).toNat))
theorem gs_lo_le {f : Nat → Int} {n k k2 : Int} (h : gs_lo f n k) (h2 : gs_lo f n k2) : k2 ≤ k := by
  rcases (show k2 ≤ k ∨ k < k2 by omega) with q | q
  · exact q
  · exfalso
    obtain ⟨a1, a2, a3, a4⟩ := h
    obtain ⟨b1, b2, b3, b4⟩ := h2
    exact a4 ⟨by omega, b3 k a1 q⟩
theorem gs_lo_uni {f : Nat → Int} {n k k2 : Int} (h : gs_lo f n k) (h2 : gs_lo f n k2) : k2 = k := by
  have a := gs_lo_le h h2
  have b := gs_lo_le h2 h
  omega
theorem gs_lo_cg {f h : Nat → Int} {n k : Int} (hf : ∀ i : Nat, (i : Int) < n → f i = h i) (q : gs_lo f n k) : gs_lo h n k := by
  obtain ⟨a1, a2, a3, a4⟩ := q
  refine ⟨a1, a2, fun j h1 h2 => ?_, fun w => ?_⟩
  · rw [← hf _ (by omega), ← hf _ (by omega)]
    exact a3 j h1 h2
  · apply a4
    refine ⟨w.1, ?_⟩
    have w2 := w.2
    rw [← hf _ (by omega), ← hf _ (by omega)] at w2
    exact w2
theorem gs_bec {fa fb f1 f2 : Nat → Int} {n k : Int} (h0 : 0 ≤ n) (e1 : f1 = gs_cc fb fa 0 0 n.toNat) (hk : gs_lo f1 n k) (e2 : f2 = gs_cc f1 f1 k.toNat 0 (n - 2 * k).toNat) : gs_lo fb n k ∧ ∀ i : Nat, (i : Int) < n - 2 * k → f2 i = fb (k.toNat + i) := by
  have hf : ∀ i : Nat, (i : Int) < n → f1 i = fb i := fun i hi => by
    rw [e1]
    unfold gs_cc
    rw [if_pos (by omega)]
    congr 1
    omega
  refine ⟨gs_lo_cg hf hk, fun i hi => ?_⟩
  have h1 := hk.1
  rw [e2]
  unfold gs_cc
  rw [if_pos (by omega), hf _ (by omega)]
  congr 1
theorem gs_u_ext {f f2 : Nat → Int} {h : Int → Int} {k x : Int} (hk : 0 ≤ k) (e : f2 = gs_u f k.toNat x) (hx : x = h k) (old : ∀ j : Int, 0 ≤ j → j < k → f j.toNat = h j) : ∀ j : Int, 0 ≤ j → j < k + 1 → f2 j.toNat = h j := by
  intro j h1 h2
  rw [e]
  by_cases q : j = k
  · rw [q, gs_u_self, hx]
  · rw [gs_u_ne _ _ (by omega)]
    exact old j h1 (by omega)
def gs_rep (f : Nat → Int) (n p : Int) : Prop := ∀ k : Int, p ≤ k → k < n → f k.toNat = f (k - p).toNat
/-- the n letters f are a shorter row again and again -/
def gs_pow (f : Nat → Int) (n : Int) : Prop := ∃ p : Int, 1 ≤ p ∧ p < n ∧ n % p = 0 ∧ gs_rep f n p
theorem gs_divle {n p : Int} (h1 : 1 ≤ p) (h2 : p < n) (h3 : n % p = 0) : 2 * p ≤ n := by
  obtain ⟨c, hc⟩ := Int.dvd_of_emod_eq_zero h3
  rcases (show c ≤ 1 ∨ 2 ≤ c by omega) with q | q
  · have := Int.mul_le_mul_of_nonneg_left q (show 0 ≤ p by omega)
    omega
  · have := Int.mul_le_mul_of_nonneg_left q (show 0 ≤ p by omega)
    omega
theorem gs_pow_cg {f h : Nat → Int} {n : Int} (hf : ∀ i : Nat, (i : Int) < n → f i = h i) (q : gs_pow f n) : gs_pow h n := by
  obtain ⟨p, a1, a2, a3, a4⟩ := q
  refine ⟨p, a1, a2, a3, fun k h1 h2 => ?_⟩
  rw [← hf _ (by omega), ← hf _ (by omega)]
  exact a4 k h1 h2
/-- m letters of f from p on run along the m letters h, begun at q -/
def gs_al (f : Nat → Int) (p : Int) (h : Nat → Int) (m q : Int) : Prop := ∀ k t : Int, 0 ≤ k → k < m → 0 ≤ t → t < m → (t = q + k ∨ t = q + k - m) → f (p + k).toNat = h t.toNat
def gs_ag (f : Nat → Int) (p : Int) (h : Nat → Int) (m q : Int) : Prop := ∀ k t : Int, 0 ≤ k → k < m → 0 ≤ t → t < m → (t = q - k ∨ t = q - k + m) → f (p + k).toNat = -(h t.toNat)
/-- the n letters f, closed, and the m letters h are ONE -/
def gs_on (f : Nat → Int) (n : Int) (h : Nat → Int) (m : Int) : Prop := ∃ lo : Int, gs_lo f n lo ∧ n - 2 * lo = m ∧ ∃ q : Int, 0 ≤ q ∧ q < m ∧ (gs_al f lo h m q ∨ gs_ag f lo h m q)
def gs_rv (v : Nat → Int) (m : Int) : Nat → Int := fun k => -(v (m - 1 - k).toNat)
/-- the n letters u, begun somewhere, are the n letters v -/
def gs_tu (u v : Nat → Int) (n : Int) : Prop := ∃ s : Int, 0 ≤ s ∧ s < n ∧ ∀ k : Int, 0 ≤ k → k < n → u ((s + k) % n).toNat = v k.toNat
def gs_ao (u : Nat → Int) (n : Int) (v : Nat → Int) (m : Int) : Prop := n = m ∧ (gs_tu u v n ∨ gs_tu u (gs_rv v m) n)
theorem gs_tu_cg {u u2 v v2 : Nat → Int} {n : Int} (hu : ∀ i : Nat, (i : Int) < n → u i = u2 i) (hv : ∀ i : Nat, (i : Int) < n → v i = v2 i) (q : gs_tu u v n) : gs_tu u2 v2 n := by
  obtain ⟨s, a1, a2, a3⟩ := q
  refine ⟨s, a1, a2, fun k h1 h2 => ?_⟩
  have m1 := Int.emod_nonneg (s + k) (show n ≠ 0 by omega)
  have m2 := Int.emod_lt_of_pos (s + k) (show 0 < n by omega)
  rw [← hu _ (by omega), ← hv _ (by omega)]
  exact a3 k h1 h2
theorem gs_wrap {x n : Int} (h1 : 0 ≤ x) (h2 : x < 2 * n) : 0 ≤ x % n ∧ x % n < n ∧ (x % n = x ∨ x % n = x - n) := by
  have m1 := Int.emod_nonneg x (show n ≠ 0 by omega)
  have m2 := Int.emod_lt_of_pos x (show 0 < n by omega)
  refine ⟨m1, m2, ?_⟩
  rcases (show x < n ∨ n ≤ x by omega) with q | q
  · left
    exact Int.emod_eq_of_lt h1 q
  · right
    have e : (x - n) % n = x % n := Int.sub_emod_right x n
    rw [← e]
    exact Int.emod_eq_of_lt (by omega) (by omega)
/-- the class's way to see that rings are ONE is the reference's -/
theorem gs_on_ao {f h : Nat → Int} {n m : Int} (hc : gs_lo f n 0) : gs_on f n h m ↔ (gs_ao f n h m ∧ 1 ≤ n) := by
  constructor
  · rintro ⟨lo, a1, a2, q, q1, q2, a3⟩
    have e := gs_lo_uni hc a1
    subst e
    refine ⟨⟨by omega, ?_⟩, by omega⟩
    have en : n = m := by omega
    subst en
    rcases a3 with a3 | a3
    · left
      -- f k = h (q + k): begin f at n - q
      rcases (show q = 0 ∨ 0 < q by omega) with q0 | q0
      · refine ⟨0, by omega, by omega, fun k h1 h2 => ?_⟩
        obtain ⟨w1, w2, w3⟩ := gs_wrap (x := 0 + k) (n := n) (by omega) (by omega)
        have := a3 ((0 + k) % n) k (by omega) (by omega) h1 h2 (by omega)
        rw [Int.zero_add] at this
        rw [Int.zero_add] at this ⊢
        exact this
      · refine ⟨n - q, by omega, by omega, fun k h1 h2 => ?_⟩
        obtain ⟨w1, w2, w3⟩ := gs_wrap (x := n - q + k) (n := n) (by omega) (by omega)
        have := a3 ((n - q + k) % n) k (by omega) (by omega) h1 h2 (by omega)
        rw [Int.zero_add] at this
        exact this
    · right
      rcases (show q = n - 1 ∨ q < n - 1 by omega) with q0 | q0
      · refine ⟨0, by omega, by omega, fun k h1 h2 => ?_⟩
        obtain ⟨w1, w2, w3⟩ := gs_wrap (x := 0 + k) (n := n) (by omega) (by omega)
        have := a3 ((0 + k) % n) (n - 1 - k) (by omega) (by omega) (by omega) (by omega) (by omega)
        rw [Int.zero_add] at this
        rw [this]
        unfold gs_rv
        congr 2
        omega
      · refine ⟨q + 1, by omega, by omega, fun k h1 h2 => ?_⟩
        obtain ⟨w1, w2, w3⟩ := gs_wrap (x := q + 1 + k) (n := n) (by omega) (by omega)
        have := a3 ((q + 1 + k) % n) (n - 1 - k) (by omega) (by omega) (by omega) (by omega) (by omega)
        rw [Int.zero_add] at this
        rw [this]
        unfold gs_rv
        congr 2
        omega
  · rintro ⟨⟨en, a3⟩, hn⟩
    subst en
    refine ⟨0, hc, by omega, ?_⟩
    rcases a3 with ⟨s, s1, s2, a3⟩ | ⟨s, s1, s2, a3⟩
    · rcases (show s = 0 ∨ 0 < s by omega) with s0 | s0
      · refine ⟨0, by omega, by omega, .inl fun k t h1 h2 h3 h4 h5 => ?_⟩
        have := a3 t h3 h4
        obtain ⟨w1, w2, w3⟩ := gs_wrap (x := s + t) (n := n) (by omega) (by omega)
        rw [← this]
        congr 2
        omega
      · refine ⟨n - s, by omega, by omega, .inl fun k t h1 h2 h3 h4 h5 => ?_⟩
        have := a3 t h3 h4
        obtain ⟨w1, w2, w3⟩ := gs_wrap (x := s + t) (n := n) (by omega) (by omega)
        rw [← this]
        congr 2
        omega
    · rcases (show s = 0 ∨ 0 < s by omega) with s0 | s0
      · refine ⟨n - 1, by omega, by omega, .inr fun k t h1 h2 h3 h4 h5 => ?_⟩
        have := a3 (n - 1 - t) (by omega) (by omega)
        obtain ⟨w1, w2, w3⟩ := gs_wrap (x := s + (n - 1 - t)) (n := n) (by omega) (by omega)
        have e1 : (0 + k).toNat = ((s + (n - 1 - t)) % n).toNat := by omega
        rw [e1, this]
        unfold gs_rv
        congr 2
        omega
      · refine ⟨s - 1, by omega, by omega, .inr fun k t h1 h2 h3 h4 h5 => ?_⟩
        have := a3 (n - 1 - t) (by omega) (by omega)
        obtain ⟨w1, w2, w3⟩ := gs_wrap (x := s + (n - 1 - t)) (n := n) (by omega) (by omega)
        have e1 : (0 + k).toNat = ((s + (n - 1 - t)) % n).toNat := by omega
        rw [e1, this]
        unfold gs_rv
        congr 2
        omega
theorem gs_ring_ext {f f2 g : Nat → Int} {R k fm : Int} (hR : 0 ≤ R) (hf : 0 ≤ fm) (hk : fm ≤ k) (e : f2 = gs_u f (60 * R + k - fm).toNat (g k.toNat)) (old : ∀ i : Int, 0 ≤ i → i < k - fm → f (60 * R + i).toNat = g (fm + i).toNat) : ∀ i : Int, 0 ≤ i → i < k + 1 - fm → f2 (60 * R + i).toNat = g (fm + i).toNat := by
  intro i h1 h2
  rw [e]
  by_cases q : i = k - fm
  · have e1 : (60 * R + i).toNat = (60 * R + k - fm).toNat := by omega
    have e2 : (fm + i).toNat = k.toNat := by omega
    rw [e1, e2, gs_u_self]
  · rw [gs_u_ne _ _ (by omega)]
    exact old i h1 (by omega)
theorem gs_ring_low {f f2 h : Nat → Int} {R k fm x : Int} (hR : 0 ≤ R) (hf : 0 ≤ fm) (hk : fm ≤ k) (e : f2 = gs_u f (60 * R + k - fm).toNat x) (old : ∀ i : Int, 0 ≤ i → i < 60 * R → f i.toNat = h i.toNat) : ∀ i : Int, 0 ≤ i → i < 60 * R → f2 i.toNat = h i.toNat := by
  intro i h1 h2
  rw [e, gs_u_ne _ _ (by omega)]
  exact old i h1 h2
theorem gs_rv_ext {f f1 f2 : Nat → Int} {n n1 k : Int} (hk : 0 ≤ k) (hk2 : 2 * k ≤ n - 1) (e : f2 = gs_u (gs_u f1 k.toNat (0 - f1 (n1 - 1 - k).toNat)) (n1 - 1 - k).toNat (0 - f1 k.toNat)) (en : n1 = n)
    (old : ∀ j : Int, 0 ≤ j → j < n → ((j < k ∨ n - 1 - k < j) → f1 j.toNat = -(f (n - 1 - j).toNat)) ∧ ((k ≤ j ∧ j ≤ n - 1 - k) → f1 j.toNat = f j.toNat)) :
    ∀ j : Int, 0 ≤ j → j < n → ((j < k + 1 ∨ n - 1 - (k + 1) < j) → f2 j.toNat = -(f (n - 1 - j).toNat)) ∧ ((k + 1 ≤ j ∧ j ≤ n - 1 - (k + 1)) → f2 j.toNat = f j.toNat) := by
  subst en
  intro j h1 h2
  have o1 := (old k hk (by omega)).2 (by omega)
  have o2 := (old (n1 - 1 - k) (by omega) (by omega)).2 (by omega)
  rw [e]
  by_cases q1 : j = n1 - 1 - k
  · have e3 : n1 - 1 - j = k := by omega
    refine ⟨fun _ => ?_, fun w => by exfalso; omega⟩
    rw [e3, q1, gs_u_self]
    omega
  · rw [gs_u_ne _ _ (by omega)]
    by_cases q2 : j = k
    · refine ⟨fun _ => ?_, fun w => by exfalso; omega⟩
      rw [q2, gs_u_self]
      omega
    · rw [gs_u_ne _ _ (by omega)]
      exact ⟨fun w => (old j h1 h2).1 (by omega), fun w => (old j h1 h2).2 (by omega)⟩
theorem gs_ao_cg {u u2 v v2 : Nat → Int} {n m : Int} (hu : ∀ i : Nat, (i : Int) < n → u i = u2 i) (hv : ∀ i : Nat, (i : Int) < m → v i = v2 i) : gs_ao u n v m ↔ gs_ao u2 n v2 m := by
  have key : ∀ {u u2 v v2 : Nat → Int}, (∀ i : Nat, (i : Int) < n → u i = u2 i) → (∀ i : Nat, (i : Int) < m → v i = v2 i) → gs_ao u n v m → gs_ao u2 n v2 m := by
    intro u u2 v v2 hu hv q
    obtain ⟨q1, q2⟩ := q
    refine ⟨q1, ?_⟩
    rcases q2 with q2 | q2
    · exact .inl (gs_tu_cg hu (fun i hi => hv i (by omega)) q2)
    · refine .inr (gs_tu_cg hu (fun i hi => ?_) q2)
      unfold gs_rv
      rw [hv _ (by omega)]
  exact ⟨key hu hv, key (fun i hi => (hu i hi).symm) (fun i hi => (hv i hi).symm)⟩
theorem k_X4_looseEnds_vf {a L : Nat} {F A : gs_F} (hI : gs_I F A) (hr : gs_row a L) : ∀ nN : Nat, (∀ (k : Int),  0 ≤ k → 2 * k ≤ F a 1 → (∀ j : Int, 0 ≤ j → j < k → A (a + 1) j.toNat = -(A (a + 1) (F a 1 - 1 - j).toNat)) → F a 1 - k < (nN : Int) → sA m_X4_looseEnds 1 (fun rv F' A' => ∃ z : Int, rv = some (gs_iv z) ∧ F = F' ∧ A = A' ∧ (gs_lo (A (a + 1)) (F a 1) z)) 2 [(1, gs_iv k), (0, .ref a)] [] F A) := by
  intro nN
  induction nN with
  | zero =>
    exact fun a0 i0 i1 i2 hm => by exfalso; omega
  | succ nN ih =>
    intro k i0 i1 i2 hm
    have b1 := gs_row_sz hr hI
    refine sA_iload_n dd_X4_looseEnds_2 rfl (.head _) ?_
    refine sA_aload_n dd_X4_looseEnds_3 rfl (.tail _ (.head _)) ?_
    refine sA_geti (ci := 4) (j := 1) (q := (RX4, TX4, 2)) dd_X4_looseEnds_4 rfl (by decide) fl_X4_19 (Nat.lt_of_succ_lt hr.1) hr.2.1 rfl ?_
    refine sA_iconst (z := 2) dd_X4_looseEnds_7 ?_
    refine sA_idivN dd_X4_looseEnds_8 (by omega) (by omega) (by omega) ?_
    refine sA_icmp_ge (tgt := 41) dd_X4_looseEnds_9 (by decide) (by omega) (by omega) (fun q2 => ?_) (fun q2 => ?_)
    · skip
      refine sA_iload_n dd_X4_looseEnds_41 rfl (.head _) ?_
      refine sA_iret (z := k) dd_X4_looseEnds_42 rfl ?_
      refine ⟨_, rfl, rfl, rfl, ?_⟩
      exact ⟨by omega, by omega, i2, by omega⟩
    · skip
      refine sA_aload_n dd_X4_looseEnds_12 rfl (.tail _ (.head _)) ?_
      refine sA_getr (ci := 4) (j := 0) (q := (RX4, TX4, 2)) dd_X4_looseEnds_13 rfl (by decide) fl_X4_13 (Nat.lt_of_succ_lt hr.1) hr.2.1 rfl ?_
      refine sA_iload_n dd_X4_looseEnds_16 rfl (.head _) ?_
      refine sA_iald (n := L) dd_X4_looseEnds_17 hr.1 hr.2.2.1 (by omega) (Nat.le_trans hr.2.2.2.2.2.2 (by decide)) ?_
      have b3 := gs_row_el hr hI k.toNat
      refine sA_aload_n dd_X4_looseEnds_18 rfl (.tail _ (.head _)) ?_
      refine sA_getr (ci := 4) (j := 0) (q := (RX4, TX4, 2)) dd_X4_looseEnds_19 rfl (by decide) fl_X4_13 (Nat.lt_of_succ_lt hr.1) hr.2.1 rfl ?_
      refine sA_aload_n dd_X4_looseEnds_22 rfl (.tail _ (.head _)) ?_
      refine sA_geti (ci := 4) (j := 1) (q := (RX4, TX4, 2)) dd_X4_looseEnds_23 rfl (by decide) fl_X4_19 (Nat.lt_of_succ_lt hr.1) hr.2.1 rfl ?_
      refine sA_iconst (z := 1) dd_X4_looseEnds_26 ?_
      refine sA_isub dd_X4_looseEnds_27 ?_
      refine sA_iload_n dd_X4_looseEnds_28 rfl (.head _) ?_
      refine sA_isub dd_X4_looseEnds_29 ?_
      refine sA_iald (n := L) dd_X4_looseEnds_30 hr.1 hr.2.2.1 (by omega) (Nat.le_trans hr.2.2.2.2.2.2 (by decide)) ?_
      have b4 := gs_row_el hr hI (((F a 1) - 1) - k).toNat
      refine sA_ineg dd_X4_looseEnds_31 ?_
      refine sA_icmp_ne (tgt := 41) dd_X4_looseEnds_32 (by decide) (by omega) (by omega) (fun q5 => ?_) (fun q5 => ?_)
      · skip
        refine sA_iload_n dd_X4_looseEnds_41 rfl (.head _) ?_
        refine sA_iret (z := k) dd_X4_looseEnds_42 rfl ?_
        refine ⟨_, rfl, rfl, rfl, ?_⟩
        exact ⟨by omega, by omega, i2, by omega⟩
      · skip
        refine sA_iinc (lv' := [(1, gs_iv (k + 1)), (0, .ref a)]) dd_X4_looseEnds_35 (.head _) (by decide) rfl ?_
        refine sA_goto (tgt := 2) dd_X4_looseEnds_38 (by decide) ?_
        refine sA_sub (lv2 := [(1, gs_iv (k + 1)), (0, .ref a)]) (List.forall_mem_cons.mpr ⟨(.head _), (List.forall_mem_cons.mpr ⟨(.tail _ (.head _)), (fun _ h => absurd h List.not_mem_nil)⟩)⟩) ?_
        exact ih (k + 1)  (by omega) (by omega) (fun j h1 h2 => by first | (exfalso; omega) | (by_cases h : j < k <;> first | exact i2 j h1 h | (have e : j = k := (by omega); rw [e]; omega) | fail) | fail) (by omega)
theorem c_X4_looseEnds_vf {a L : Nat} {F A : gs_F} (hI : gs_I F A) (hr : gs_row a L) : sC m_X4_looseEnds 1 [.ref a] F A (fun rv F' A' => ∃ z : Int, rv = some (gs_iv z) ∧ F = F' ∧ A = A' ∧ (gs_lo (A (a + 1)) (F a 1) z)) := by
  refine sC_of ok_X4_looseEnds.1 (Nat.le_of_ble_eq_true rfl) ?_
  show sA _ _ _ 0 [(0, .ref a)] [] F A
  have b6 := gs_row_sz hr hI
  refine sA_iconst (z := 0) dd_X4_looseEnds_0 ?_
  refine sA_istore_n (lv' := [(1, gs_iv 0), (0, .ref a)]) dd_X4_looseEnds_1 rfl (by decide) rfl ?_
  refine sA_sub (lv2 := [(1, gs_iv 0), (0, .ref a)]) (List.forall_mem_cons.mpr ⟨(.head _), (List.forall_mem_cons.mpr ⟨(.tail _ (.head _)), (fun _ h => absurd h List.not_mem_nil)⟩)⟩) ?_
  exact (k_X4_looseEnds_vf hI hr (F a 1 - 0 : Int).toNat.succ) 0  (by omega) (by omega) (fun j h1 h2 => by first | (exfalso; omega) | (by_cases h : j < k <;> first | exact i2 j h1 h | (have e : j = k := (by omega); rw [e]; omega) | fail) | fail) (by omega)
theorem c_X4_copy_vf {a L b M : Nat} {F A : gs_F} (hI : gs_I F A) (hr : gs_row a L) (ho : gs_row b M) : sC m_X4_copy 1 [.ref a, .ref b] F A (fun rv F' A' => rv = none ∧ gs_I F' A' ∧ gs_fr (fun c j => c = a ∧ j = 1) (fun c => c = a + 1) F A F' A' ∧ (F b 1 ≤ (L : Int) → (F' a 1 = F b 1 ∧ A' (a + 1) = gs_cc (A (b + 1)) (A (a + 1)) 0 0 (F b 1).toNat))) := by
  refine sC_of ok_X4_copy.1 (Nat.le_of_ble_eq_true rfl) ?_
  show sA _ _ _ 0 [(0, .ref a), (1, .ref b)] [] F A
  have hf : gs_fr (fun c j => c = a ∧ j = 1) (fun c => c = a + 1) F A F A := gs_fr_refl _ _ _ _
  have b1 := gs_row_sz hr hI
  have b2 := gs_row_sz ho hI
  have u3 : A (a + 1) = A (a + 1) := rfl
  refine sA_aload_n dd_X4_copy_0 rfl (.head _) ?_
  refine sA_aload_n dd_X4_copy_1 rfl (.tail _ (.head _)) ?_
  refine sA_geti (ci := 4) (j := 1) (q := (RX4, TX4, 2)) dd_X4_copy_2 rfl (by decide) fl_X4_19 (Nat.lt_of_succ_lt ho.1) ho.2.1 rfl ?_
  refine sA_aload_n dd_X4_copy_5 rfl (.head _) ?_
  refine sA_getr (ci := 4) (j := 0) (q := (RX4, TX4, 2)) dd_X4_copy_6 rfl (by decide) fl_X4_13 (Nat.lt_of_succ_lt hr.1) hr.2.1 rfl ?_
  refine sA_alen (n := L) dd_X4_copy_9 hr.1 hr.2.2.1 ?_
  have b4 := hr.2.2.2.2.2
  refine sA_mmin dd_X4_copy_10 (ri_lw_in (pl := 338) (by decide +kernel)) (by decide) (by omega) (by omega) (Nat.le_of_ble_eq_true rfl) (fun w5 q6 => ?_)
  refine sA_put (ci := 4) (j := 1) (q := (RX4, TX4, 2)) (ty := .int) dd_X4_copy_13 rfl (by decide) fl_X4_19 rfl (tyX4_ok 1 (by decide)) rfl rfl (Nat.lt_of_succ_lt hr.1) hr.2.1 rfl ?_
  have I8 : gs_I (gs_up F a 1 w5) A := gs_row_put hr hI (by omega)
  have f9 := gs_fr_put hf (a := a) (z := w5) (j := 1) (by first | omega | (dsimp only; omega) | (dsimp only) | fail)
  have v10 : gs_up F a 1 w5 a 1 = w5 := gs_up_self _ _ _ _
  generalize gs_up F a 1 w5 = F7 at I8 f9 v10 ⊢
  refine sA_aload_n dd_X4_copy_16 rfl (.tail _ (.head _)) ?_
  refine sA_getr (ci := 4) (j := 0) (q := (RX4, TX4, 2)) dd_X4_copy_17 rfl (by decide) fl_X4_13 (Nat.lt_of_succ_lt ho.1) ho.2.1 rfl ?_
  refine sA_iconst (z := 0) dd_X4_copy_20 ?_
  refine sA_aload_n dd_X4_copy_21 rfl (.head _) ?_
  refine sA_getr (ci := 4) (j := 0) (q := (RX4, TX4, 2)) dd_X4_copy_22 rfl (by decide) fl_X4_13 (Nat.lt_of_succ_lt hr.1) hr.2.1 rfl ?_
  refine sA_iconst (z := 0) dd_X4_copy_25 ?_
  refine sA_aload_n dd_X4_copy_26 rfl (.head _) ?_
  refine sA_geti (ci := 4) (j := 1) (q := (RX4, TX4, 2)) dd_X4_copy_27 rfl (by decide) fl_X4_19 (Nat.lt_of_succ_lt hr.1) hr.2.1 rfl ?_
  have b11 := gs_row_sz hr I8
  refine sA_copy (n1 := M) (n2 := L) dd_X4_copy_30 (ri_lw_in (pl := 412) (by decide +kernel)) gs_copyok ho.1 ho.2.2.1 hr.1 hr.2.2.1 (by omega) (by omega) (by omega) (by omega) (by omega) (Nat.le_trans ho.2.2.2.2.2.2 (by decide)) (Nat.le_trans hr.2.2.2.2.2.2 (by decide)) (by decide) (Nat.le_of_ble_eq_true rfl) ?_
  have I13 : gs_I F7 (gs_cp A (b + 1) (a + 1) (0 : Int).toNat (0 : Int).toNat (F7 a 1).toNat) := gs_I_cp I8 (b := (a + 1)) (a := (b + 1)) (p := ((-9), 9)) (q := ((-9), 9)) hr.2.2.2.2.1 ho.2.2.2.2.1 (by decide)
  have f14 := gs_fr_cp f9 (a := (b + 1)) (b := (a + 1)) (sp := (0 : Int).toNat) (dp := (0 : Int).toNat) (n := (F7 a 1).toNat) (by first | omega | (dsimp only; omega) | (dsimp only) | fail)
  have u15 : (gs_cp A (b + 1) (a + 1) (0 : Int).toNat (0 : Int).toNat (F7 a 1).toNat) (a + 1) = gs_cc (A (b + 1)) (A (a + 1)) (0 : Int).toNat (0 : Int).toNat (F7 a 1).toNat := (gs_cp_u A (b + 1) (a + 1) _ _ _).trans (by rw [u3])
  generalize gs_cp A (b + 1) (a + 1) (0 : Int).toNat (0 : Int).toNat (F7 a 1).toNat = A12 at I13 f14 u15 ⊢
  refine sA_vret dd_X4_copy_33 rfl ?_
  refine ⟨rfl, I13, f14, ?_⟩
  refine fun hle => ⟨by omega, u15.trans ?_⟩
  have e : F7 a 1 = F b 1 := by omega
  rw [e]
  first | done | rfl | fail
theorem c_X4_close_vf {a L : Nat} {F A : gs_F} (hI : gs_I F A) (hr : gs_row a L) : sC m_X4_close 2 [.ref a] F A (fun rv F' A' => rv = none ∧ gs_I F' A' ∧ gs_fr (fun c j => c = a ∧ j = 1) (fun c => c = a + 1) F A F' A' ∧ (∃ k : Int, gs_lo (A (a + 1)) (F a 1) k ∧ F' a 1 = F a 1 - 2 * k ∧ A' (a + 1) = gs_cc (A (a + 1)) (A (a + 1)) k.toNat 0 (F a 1 - 2 * k).toNat)) := by
  refine sC_of ok_X4_close.1 (Nat.le_of_ble_eq_true rfl) ?_
  show sA _ _ _ 0 [(0, .ref a)] [] F A
  have hf : gs_fr (fun c j => c = a ∧ j = 1) (fun c => c = a + 1) F A F A := gs_fr_refl _ _ _ _
  have b1 := gs_row_sz hr hI
  have u2 : A (a + 1) = A (a + 1) := rfl
  refine sA_aload_n dd_X4_close_0 rfl (.head _) ?_
  refine sA_callV (y2 := m_X4_looseEnds) (n2 := 0) (d2 := 1) (a := a) (ci := 4) (q := (RX4, TX4, 2)) (as := []) (rest := []) dd_X4_close_1 ok_X4_looseEnds ml_X4_32 rfl rfl (Nat.lt_of_succ_lt hr.1) hr.2.1 rfl rfl (Nat.le_of_ble_eq_true rfl) (by decide) (c_X4_looseEnds_vf hI hr) (fun r3 F4 A5 h6 => ?_)
  obtain ⟨z9, e8, e10, e11, x7⟩ := h6
  subst e8 e10 e11
  have y12 : gs_lo (A (a + 1)) (F a 1) z9 := x7
  clear x7
  show sA _ _ _ 4 _ [gs_iv z9] _ _
  refine sA_istore_n (lv' := [(1, gs_iv z9), (0, .ref a)]) dd_X4_close_4 rfl (by decide) rfl ?_
  have hlo1 := y12.1
  have hlo2 := y12.2.1
  refine sA_aload_n dd_X4_close_5 rfl (.tail _ (.head _)) ?_
  refine sA_dup dd_X4_close_6 rfl ?_
  refine sA_geti (ci := 4) (j := 1) (q := (RX4, TX4, 2)) dd_X4_close_7 rfl (by decide) fl_X4_19 (Nat.lt_of_succ_lt hr.1) hr.2.1 rfl ?_
  refine sA_iconst (z := 2) dd_X4_close_10 ?_
  refine sA_iload_n dd_X4_close_11 rfl (.head _) ?_
  refine sA_imul dd_X4_close_12 ?_
  refine sA_isub dd_X4_close_13 ?_
  refine sA_put (ci := 4) (j := 1) (q := (RX4, TX4, 2)) (ty := .int) dd_X4_close_14 rfl (by decide) fl_X4_19 rfl (tyX4_ok 1 (by decide)) rfl rfl (Nat.lt_of_succ_lt hr.1) hr.2.1 rfl ?_
  have I14 : gs_I (gs_up F a 1 ((F a 1) - (2 * z9))) A := gs_row_put hr hI (by omega)
  have f15 := gs_fr_put hf (a := a) (z := (F a 1) - (2 * z9)) (j := 1) (by first | omega | (dsimp only; omega) | (dsimp only) | fail)
  have v16 : gs_up F a 1 ((F a 1) - (2 * z9)) a 1 = (F a 1) - (2 * z9) := gs_up_self _ _ _ _
  generalize gs_up F a 1 ((F a 1) - (2 * z9)) = F13 at I14 f15 v16 ⊢
  refine sA_aload_n dd_X4_close_17 rfl (.tail _ (.head _)) ?_
  refine sA_getr (ci := 4) (j := 0) (q := (RX4, TX4, 2)) dd_X4_close_18 rfl (by decide) fl_X4_13 (Nat.lt_of_succ_lt hr.1) hr.2.1 rfl ?_
  refine sA_iload_n dd_X4_close_21 rfl (.head _) ?_
  refine sA_aload_n dd_X4_close_22 rfl (.tail _ (.head _)) ?_
  refine sA_getr (ci := 4) (j := 0) (q := (RX4, TX4, 2)) dd_X4_close_23 rfl (by decide) fl_X4_13 (Nat.lt_of_succ_lt hr.1) hr.2.1 rfl ?_
  refine sA_iconst (z := 0) dd_X4_close_26 ?_
  refine sA_aload_n dd_X4_close_27 rfl (.tail _ (.head _)) ?_
  refine sA_geti (ci := 4) (j := 1) (q := (RX4, TX4, 2)) dd_X4_close_28 rfl (by decide) fl_X4_19 (Nat.lt_of_succ_lt hr.1) hr.2.1 rfl ?_
  have b17 := gs_row_sz hr I14
  refine sA_copy (n1 := L) (n2 := L) dd_X4_close_31 (ri_lw_in (pl := 412) (by decide +kernel)) gs_copyok hr.1 hr.2.2.1 hr.1 hr.2.2.1 (by omega) (by omega) (by omega) (by omega) (by omega) (Nat.le_trans hr.2.2.2.2.2.2 (by decide)) (Nat.le_trans hr.2.2.2.2.2.2 (by decide)) (by decide) (Nat.le_of_ble_eq_true rfl) ?_
  have I19 : gs_I F13 (gs_cp A (a + 1) (a + 1) z9.toNat (0 : Int).toNat (F13 a 1).toNat) := gs_I_cp I14 (b := (a + 1)) (a := (a + 1)) (p := ((-9), 9)) (q := ((-9), 9)) hr.2.2.2.2.1 hr.2.2.2.2.1 (by decide)
  have f20 := gs_fr_cp f15 (a := (a + 1)) (b := (a + 1)) (sp := z9.toNat) (dp := (0 : Int).toNat) (n := (F13 a 1).toNat) (by first | omega | (dsimp only; omega) | (dsimp only) | fail)
  have u21 : (gs_cp A (a + 1) (a + 1) z9.toNat (0 : Int).toNat (F13 a 1).toNat) (a + 1) = gs_cc (A (a + 1)) (A (a + 1)) z9.toNat (0 : Int).toNat (F13 a 1).toNat := (gs_cp_u A (a + 1) (a + 1) _ _ _).trans (by rw [u2])
  generalize gs_cp A (a + 1) (a + 1) z9.toNat (0 : Int).toNat (F13 a 1).toNat = A18 at I19 f20 u21 ⊢
  refine sA_vret dd_X4_close_34 rfl ?_
  refine ⟨rfl, I19, f20, ?_⟩
  refine ⟨z9, y12, by omega, u21.trans ?_⟩
  have e : F13 a 1 = F a 1 - 2 * z9 := by omega
  rw [e]
  first | done | rfl | fail
theorem k_X4_repeats_vf {a L : Nat} {p : Int} {F A : gs_F} (hI : gs_I F A) (hr : gs_row a L) (hp : 1 ≤ p ∧ p ≤ F a 1) : ∀ nN : Nat, (∀ (k : Int),  p ≤ k → k ≤ F a 1 → (∀ j : Int, p ≤ j → j < k → A (a + 1) j.toNat = A (a + 1) (j - p).toNat) → F a 1 - k < (nN : Int) → sA m_X4_repeats 1 (fun rv F' A' => ∃ z : Int, rv = some (gs_iv z) ∧ F = F' ∧ A = A' ∧ ((z = 1 ∧ gs_rep (A (a + 1)) (F a 1) p) ∨ (z = 0 ∧ ¬ gs_rep (A (a + 1)) (F a 1) p))) 2 [(2, gs_iv k), (0, .ref a), (1, gs_iv p)] [] F A) := by
  intro nN
  induction nN with
  | zero =>
    exact fun a0 i0 i1 i2 hm => by exfalso; omega
  | succ nN ih =>
    intro k i0 i1 i2 hm
    have b1 := gs_row_sz hr hI
    refine sA_iload_n dd_X4_repeats_2 rfl (.head _) ?_
    refine sA_aload_n dd_X4_repeats_3 rfl (.tail _ (.head _)) ?_
    refine sA_geti (ci := 4) (j := 1) (q := (RX4, TX4, 2)) dd_X4_repeats_4 rfl (by decide) fl_X4_19 (Nat.lt_of_succ_lt hr.1) hr.2.1 rfl ?_
    refine sA_icmp_ge (tgt := 35) dd_X4_repeats_7 (by decide) (by omega) (by omega) (fun q2 => ?_) (fun q2 => ?_)
    · skip
      refine sA_iconst (z := 1) dd_X4_repeats_35 ?_
      refine sA_bret (z := 1) dd_X4_repeats_36 rfl (by omega) ?_
      refine ⟨_, rfl, rfl, rfl, ?_⟩
      exact .inl ⟨rfl, fun j h1 h2 => i2 j h1 (by omega)⟩
    · skip
      refine sA_aload_n dd_X4_repeats_10 rfl (.tail _ (.head _)) ?_
      refine sA_getr (ci := 4) (j := 0) (q := (RX4, TX4, 2)) dd_X4_repeats_11 rfl (by decide) fl_X4_13 (Nat.lt_of_succ_lt hr.1) hr.2.1 rfl ?_
      refine sA_iload_n dd_X4_repeats_14 rfl (.head _) ?_
      refine sA_iald (n := L) dd_X4_repeats_15 hr.1 hr.2.2.1 (by omega) (Nat.le_trans hr.2.2.2.2.2.2 (by decide)) ?_
      have b3 := gs_row_el hr hI k.toNat
      refine sA_aload_n dd_X4_repeats_16 rfl (.tail _ (.head _)) ?_
      refine sA_getr (ci := 4) (j := 0) (q := (RX4, TX4, 2)) dd_X4_repeats_17 rfl (by decide) fl_X4_13 (Nat.lt_of_succ_lt hr.1) hr.2.1 rfl ?_
      refine sA_iload_n dd_X4_repeats_20 rfl (.head _) ?_
      refine sA_iload_n dd_X4_repeats_21 rfl (.tail _ (.tail _ (.head _))) ?_
      refine sA_isub dd_X4_repeats_22 ?_
      refine sA_iald (n := L) dd_X4_repeats_23 hr.1 hr.2.2.1 (by omega) (Nat.le_trans hr.2.2.2.2.2.2 (by decide)) ?_
      have b4 := gs_row_el hr hI (k - p).toNat
      refine sA_icmp_eq (tgt := 29) dd_X4_repeats_24 (by decide) (by omega) (by omega) (fun q5 => ?_) (fun q5 => ?_)
      · skip
        refine sA_iinc (lv' := [(2, gs_iv (k + 1)), (0, .ref a), (1, gs_iv p)]) dd_X4_repeats_29 (.head _) (by decide) rfl ?_
        refine sA_goto (tgt := 2) dd_X4_repeats_32 (by decide) ?_
        refine sA_sub (lv2 := [(2, gs_iv (k + 1)), (0, .ref a), (1, gs_iv p)]) (List.forall_mem_cons.mpr ⟨(.head _), (List.forall_mem_cons.mpr ⟨(.tail _ (.head _)), (List.forall_mem_cons.mpr ⟨(.tail _ (.tail _ (.head _))), (fun _ h => absurd h List.not_mem_nil)⟩)⟩)⟩) ?_
        exact ih (k + 1)  (by omega) (by omega) (fun j h1 h2 => by first | (exfalso; omega) | (by_cases h : j < k <;> first | exact i2 j h1 h | (have e : j = k := (by omega); rw [e]; omega) | fail) | fail) (by omega)
      · skip
        refine sA_iconst (z := 0) dd_X4_repeats_27 ?_
        refine sA_bret (z := 0) dd_X4_repeats_28 rfl (by omega) ?_
        refine ⟨_, rfl, rfl, rfl, ?_⟩
        exact .inr ⟨rfl, fun h => absurd (h k (by omega) (by omega)) (by omega)⟩
theorem c_X4_repeats_vf {a L : Nat} {p : Int} {F A : gs_F} (hI : gs_I F A) (hr : gs_row a L) (hp : 1 ≤ p ∧ p ≤ F a 1) : sC m_X4_repeats 1 [.ref a, gs_iv p] F A (fun rv F' A' => ∃ z : Int, rv = some (gs_iv z) ∧ F = F' ∧ A = A' ∧ ((z = 1 ∧ gs_rep (A (a + 1)) (F a 1) p) ∨ (z = 0 ∧ ¬ gs_rep (A (a + 1)) (F a 1) p))) := by
  refine sC_of ok_X4_repeats.1 (Nat.le_of_ble_eq_true rfl) ?_
  show sA _ _ _ 0 [(0, .ref a), (1, gs_iv p)] [] F A
  have b6 := gs_row_sz hr hI
  refine sA_iload_n dd_X4_repeats_0 rfl (.tail _ (.head _)) ?_
  refine sA_istore_n (lv' := [(2, gs_iv p), (0, .ref a), (1, gs_iv p)]) dd_X4_repeats_1 rfl (by decide) rfl ?_
  refine sA_sub (lv2 := [(2, gs_iv p), (0, .ref a), (1, gs_iv p)]) (List.forall_mem_cons.mpr ⟨(.head _), (List.forall_mem_cons.mpr ⟨(.tail _ (.head _)), (List.forall_mem_cons.mpr ⟨(.tail _ (.tail _ (.head _))), (fun _ h => absurd h List.not_mem_nil)⟩)⟩)⟩) ?_
  exact (k_X4_repeats_vf hI hr hp (F a 1 - p : Int).toNat.succ) p  (by omega) (by omega) (fun j h1 h2 => by first | (exfalso; omega) | (by_cases h : j < k <;> first | exact i2 j h1 h | (have e : j = k := (by omega); rw [e]; omega) | fail) | fail) (by omega)
theorem k_X4_isPower_vf {a L : Nat} {F A : gs_F} (hI : gs_I F A) (hr : gs_row a L) : ∀ nN : Nat, (∀ (k : Int),  1 ≤ k → k ≤ F a 1 + 1 → (∀ p : Int, 1 ≤ p → p < k → ¬(F a 1 % p = 0 ∧ gs_rep (A (a + 1)) (F a 1) p)) → F a 1 + 1 - k < (nN : Int) → sA m_X4_isPower 2 (fun rv F' A' => ∃ z : Int, rv = some (gs_iv z) ∧ F = F' ∧ A = A' ∧ ((z = 1 ∧ gs_pow (A (a + 1)) (F a 1)) ∨ (z = 0 ∧ ¬ gs_pow (A (a + 1)) (F a 1)))) 2 [(1, gs_iv k), (0, .ref a)] [] F A) := by
  intro nN
  induction nN with
  | zero =>
    exact fun a0 i0 i1 i2 hm => by exfalso; omega
  | succ nN ih =>
    intro k i0 i1 i2 hm
    have b1 := gs_row_sz hr hI
    refine sA_iload_n dd_X4_isPower_2 rfl (.head _) ?_
    refine sA_aload_n dd_X4_isPower_3 rfl (.tail _ (.head _)) ?_
    refine sA_geti (ci := 4) (j := 1) (q := (RX4, TX4, 2)) dd_X4_isPower_4 rfl (by decide) fl_X4_19 (Nat.lt_of_succ_lt hr.1) hr.2.1 rfl ?_
    refine sA_iconst (z := 2) dd_X4_isPower_7 ?_
    refine sA_idivN dd_X4_isPower_8 (by omega) (by omega) (by omega) ?_
    refine sA_icmp_gt (tgt := 37) dd_X4_isPower_9 (by decide) (by omega) (by omega) (fun q2 => ?_) (fun q2 => ?_)
    · skip
      refine sA_iconst (z := 0) dd_X4_isPower_37 ?_
      refine sA_bret (z := 0) dd_X4_isPower_38 rfl (by omega) ?_
      refine ⟨_, rfl, rfl, rfl, ?_⟩
      exact .inr ⟨rfl, fun ⟨p, h1, h2, h3, h4⟩ => i2 p h1 (by have := gs_divle h1 h2 h3; omega) ⟨h3, h4⟩⟩
    · skip
      refine sA_aload_n dd_X4_isPower_12 rfl (.tail _ (.head _)) ?_
      refine sA_geti (ci := 4) (j := 1) (q := (RX4, TX4, 2)) dd_X4_isPower_13 rfl (by decide) fl_X4_19 (Nat.lt_of_succ_lt hr.1) hr.2.1 rfl ?_
      refine sA_iload_n dd_X4_isPower_16 rfl (.head _) ?_
      refine sA_iremN dd_X4_isPower_17 (by omega) (by omega) (by omega) ?_
      have hm1 := Int.emod_nonneg (F a 1) (show k ≠ 0 by omega)
      have hm2 := Int.emod_lt_of_pos (F a 1) (show 0 < k by omega)
      refine sA_if_ne (tgt := 31) dd_X4_isPower_18 (by decide) (by omega) (fun q3 => ?_) (fun q3 => ?_)
      · skip
        refine sA_iinc (lv' := [(1, gs_iv (k + 1)), (0, .ref a)]) dd_X4_isPower_31 (.head _) (by decide) rfl ?_
        refine sA_goto (tgt := 2) dd_X4_isPower_34 (by decide) ?_
        refine sA_sub (lv2 := [(1, gs_iv (k + 1)), (0, .ref a)]) (List.forall_mem_cons.mpr ⟨(.head _), (List.forall_mem_cons.mpr ⟨(.tail _ (.head _)), (fun _ h => absurd h List.not_mem_nil)⟩)⟩) ?_
        exact ih (k + 1)  (by omega) (by omega) (fun j h1 h2 => by first | (exfalso; omega) | (by_cases h : j < k <;> first | exact i2 j h1 h | (have e : j = k := (by omega); rw [e]; intro hq; have hq1 := hq.1; first | omega | (rcases hNONE with h | h <;> first | (exfalso; omega) | exact h.2 hq.2 | fail) | fail) | fail) | fail) (by omega)
      · skip
        refine sA_aload_n dd_X4_isPower_21 rfl (.tail _ (.head _)) ?_
        refine sA_iload_n dd_X4_isPower_22 rfl (.head _) ?_
        refine sA_callV (y2 := m_X4_repeats) (n2 := 1) (d2 := 1) (a := a) (ci := 4) (q := (RX4, TX4, 2)) (as := [gs_iv k]) (rest := []) dd_X4_isPower_23 ok_X4_repeats ml_X4_43 rfl rfl (Nat.lt_of_succ_lt hr.1) hr.2.1 rfl rfl (Nat.le_of_ble_eq_true rfl) (by decide) (c_X4_repeats_vf hI hr (by omega)) (fun r4 F5 A6 h7 => ?_)
        obtain ⟨z10, e9, e11, e12, x8⟩ := h7
        subst e9 e11 e12
        have y13 : (z10 = 1 ∧ gs_rep (A (a + 1)) (F a 1) k) ∨ (z10 = 0 ∧ ¬ gs_rep (A (a + 1)) (F a 1) k) := x8
        clear x8
        show sA _ _ _ 26 _ [gs_iv z10] _ _
        have hz01 : z10 = 0 ∨ z10 = 1 := by omega
        refine sA_if_eq (tgt := 31) dd_X4_isPower_26 (by decide) (by omega) (fun q14 => ?_) (fun q14 => ?_)
        · skip
          refine sA_iinc (lv' := [(1, gs_iv (k + 1)), (0, .ref a)]) dd_X4_isPower_31 (.head _) (by decide) rfl ?_
          refine sA_goto (tgt := 2) dd_X4_isPower_34 (by decide) ?_
          refine sA_sub (lv2 := [(1, gs_iv (k + 1)), (0, .ref a)]) (List.forall_mem_cons.mpr ⟨(.head _), (List.forall_mem_cons.mpr ⟨(.tail _ (.head _)), (fun _ h => absurd h List.not_mem_nil)⟩)⟩) ?_
          exact ih (k + 1)  (by omega) (by omega) (fun j h1 h2 => by first | (exfalso; omega) | (by_cases h : j < k <;> first | exact i2 j h1 h | (have e : j = k := (by omega); rw [e]; intro hq; have hq1 := hq.1; first | omega | (rcases y13 with h | h <;> first | (exfalso; omega) | exact h.2 hq.2 | fail) | fail) | fail) | fail) (by omega)
        · skip
          refine sA_iconst (z := 1) dd_X4_isPower_29 ?_
          refine sA_bret (z := 1) dd_X4_isPower_30 rfl (by omega) ?_
          refine ⟨_, rfl, rfl, rfl, ?_⟩
          exact .inl ⟨rfl, k, by omega, by omega, by omega, by rcases y13 with h | h <;> first | exact h.2 | (exfalso; omega) | fail⟩
theorem c_X4_isPower_vf {a L : Nat} {F A : gs_F} (hI : gs_I F A) (hr : gs_row a L) : sC m_X4_isPower 2 [.ref a] F A (fun rv F' A' => ∃ z : Int, rv = some (gs_iv z) ∧ F = F' ∧ A = A' ∧ ((z = 1 ∧ gs_pow (A (a + 1)) (F a 1)) ∨ (z = 0 ∧ ¬ gs_pow (A (a + 1)) (F a 1)))) := by
  refine sC_of ok_X4_isPower.1 (Nat.le_of_ble_eq_true rfl) ?_
  show sA _ _ _ 0 [(0, .ref a)] [] F A
  have b15 := gs_row_sz hr hI
  refine sA_iconst (z := 1) dd_X4_isPower_0 ?_
  refine sA_istore_n (lv' := [(1, gs_iv 1), (0, .ref a)]) dd_X4_isPower_1 rfl (by decide) rfl ?_
  refine sA_sub (lv2 := [(1, gs_iv 1), (0, .ref a)]) (List.forall_mem_cons.mpr ⟨(.head _), (List.forall_mem_cons.mpr ⟨(.tail _ (.head _)), (fun _ h => absurd h List.not_mem_nil)⟩)⟩) ?_
  exact (k_X4_isPower_vf hI hr (F a 1 + 1 - 1 : Int).toNat.succ) 1  (by omega) (by omega) (fun j h1 h2 => by first | (exfalso; omega) | (by_cases h : j < k <;> first | exact i2 j h1 h | (have e : j = k := (by omega); rw [e]; intro hq; have hq1 := hq.1; first | omega | (rcases hNONE with h | h <;> first | (exfalso; omega) | exact h.2 hq.2 | fail) | fail) | fail) | fail) (by omega)
theorem k_X4_runsAlong_vf {a L b M : Nat} {p q : Int} {F A : gs_F} (hI : gs_I F A) (hr : gs_row a L) (hp : 0 ≤ p ∧ p + F b 1 ≤ F a 1) (ho : gs_row b M) (hq : 0 ≤ q ∧ q < F b 1) : ∀ nN : Nat, (∀ (k : Int) (t : Int),  0 ≤ k → k ≤ F b 1 → 0 ≤ t → t < F b 1 → (t = q + k ∨ t = q + k - F b 1) → (∀ j s : Int, 0 ≤ j → j < k → 0 ≤ s → s < F b 1 → (s = q + j ∨ s = q + j - F b 1) → A (a + 1) (p + j).toNat = A (b + 1) s.toNat) → F b 1 - k < (nN : Int) → sA m_X4_runsAlong 1 (fun rv F' A' => ∃ z : Int, rv = some (gs_iv z) ∧ F = F' ∧ A = A' ∧ ((z = 1 ∧ gs_al (A (a + 1)) p (A (b + 1)) (F b 1) q) ∨ (z = 0 ∧ ¬ gs_al (A (a + 1)) p (A (b + 1)) (F b 1) q))) 6 [(5, gs_iv k), (4, gs_iv t), (0, .ref a), (1, gs_iv p), (2, .ref b)] [] F A) := by
  intro nN
  induction nN with
  | zero =>
    exact fun a0 a1 i0 i1 i2 i3 i4 i5 hm => by exfalso; omega
  | succ nN ih =>
    intro k t i0 i1 i2 i3 i4 i5 hm
    have b1 := gs_row_sz hr hI
    have b2 := gs_row_sz ho hI
    refine sA_iload dd_X4_runsAlong_6 (.head _) ?_
    refine sA_aload_n dd_X4_runsAlong_8 rfl (.tail _ (.tail _ (.tail _ (.tail _ (.head _))))) ?_
    refine sA_geti (ci := 4) (j := 1) (q := (RX4, TX4, 2)) dd_X4_runsAlong_9 rfl (by decide) fl_X4_19 (Nat.lt_of_succ_lt ho.1) ho.2.1 rfl ?_
    refine sA_icmp_ge (tgt := 63) dd_X4_runsAlong_12 (by decide) (by omega) (by omega) (fun q3 => ?_) (fun q3 => ?_)
    · skip
      refine sA_iconst (z := 1) dd_X4_runsAlong_63 ?_
      refine sA_bret (z := 1) dd_X4_runsAlong_64 rfl (by omega) ?_
      refine ⟨_, rfl, rfl, rfl, ?_⟩
      exact .inl ⟨rfl, fun j s h1 h2 h3 h4 h5 => i5 j s h1 (by omega) h3 h4 h5⟩
    · skip
      refine sA_aload_n dd_X4_runsAlong_15 rfl (.tail _ (.tail _ (.head _))) ?_
      refine sA_getr (ci := 4) (j := 0) (q := (RX4, TX4, 2)) dd_X4_runsAlong_16 rfl (by decide) fl_X4_13 (Nat.lt_of_succ_lt hr.1) hr.2.1 rfl ?_
      refine sA_iload_n dd_X4_runsAlong_19 rfl (.tail _ (.tail _ (.tail _ (.head _)))) ?_
      refine sA_iload dd_X4_runsAlong_20 (.head _) ?_
      refine sA_iadd dd_X4_runsAlong_22 ?_
      refine sA_iald (n := L) dd_X4_runsAlong_23 hr.1 hr.2.2.1 (by omega) (Nat.le_trans hr.2.2.2.2.2.2 (by decide)) ?_
      have b4 := gs_row_el hr hI (p + k).toNat
      refine sA_aload_n dd_X4_runsAlong_24 rfl (.tail _ (.tail _ (.tail _ (.tail _ (.head _))))) ?_
      refine sA_getr (ci := 4) (j := 0) (q := (RX4, TX4, 2)) dd_X4_runsAlong_25 rfl (by decide) fl_X4_13 (Nat.lt_of_succ_lt ho.1) ho.2.1 rfl ?_
      refine sA_iload dd_X4_runsAlong_28 (.tail _ (.head _)) ?_
      refine sA_iald (n := M) dd_X4_runsAlong_30 ho.1 ho.2.2.1 (by omega) (Nat.le_trans ho.2.2.2.2.2.2 (by decide)) ?_
      have b5 := gs_row_el ho hI t.toNat
      refine sA_icmp_eq (tgt := 36) dd_X4_runsAlong_31 (by decide) (by omega) (by omega) (fun q6 => ?_) (fun q6 => ?_)
      · skip
        refine sA_iload dd_X4_runsAlong_36 (.tail _ (.head _)) ?_
        refine sA_iconst (z := 1) dd_X4_runsAlong_38 ?_
        refine sA_iadd dd_X4_runsAlong_39 ?_
        refine sA_aload_n dd_X4_runsAlong_40 rfl (.tail _ (.tail _ (.tail _ (.tail _ (.head _))))) ?_
        refine sA_geti (ci := 4) (j := 1) (q := (RX4, TX4, 2)) dd_X4_runsAlong_41 rfl (by decide) fl_X4_19 (Nat.lt_of_succ_lt ho.1) ho.2.1 rfl ?_
        refine sA_icmp_ne (tgt := 51) dd_X4_runsAlong_44 (by decide) (by omega) (by omega) (fun q7 => ?_) (fun q7 => ?_)
        · skip
          refine sA_iload dd_X4_runsAlong_51 (.tail _ (.head _)) ?_
          refine sA_iconst (z := 1) dd_X4_runsAlong_53 ?_
          refine sA_iadd dd_X4_runsAlong_54 ?_
          refine sA_istore (lv' := [(4, gs_iv (t + 1)), (5, gs_iv k), (0, .ref a), (1, gs_iv p), (2, .ref b)]) dd_X4_runsAlong_55 (by decide) rfl ?_
          refine sA_iinc (lv' := [(5, gs_iv (k + 1)), (4, gs_iv (t + 1)), (0, .ref a), (1, gs_iv p), (2, .ref b)]) dd_X4_runsAlong_57 (.tail _ (.head _)) (by decide) rfl ?_
          refine sA_goto (tgt := 6) dd_X4_runsAlong_60 (by decide) ?_
          refine sA_sub (lv2 := [(5, gs_iv (k + 1)), (4, gs_iv (t + 1)), (0, .ref a), (1, gs_iv p), (2, .ref b)]) (List.forall_mem_cons.mpr ⟨(.head _), (List.forall_mem_cons.mpr ⟨(.tail _ (.head _)), (List.forall_mem_cons.mpr ⟨(.tail _ (.tail _ (.head _))), (List.forall_mem_cons.mpr ⟨(.tail _ (.tail _ (.tail _ (.head _)))), (List.forall_mem_cons.mpr ⟨(.tail _ (.tail _ (.tail _ (.tail _ (.head _))))), (fun _ h => absurd h List.not_mem_nil)⟩)⟩)⟩)⟩)⟩) ?_
          exact ih (k + 1) (t + 1)  (by omega) (by omega) (by omega) (by omega) (by omega) (fun j s h1 h2 h3 h4 h5 => by first | (exfalso; omega) | (by_cases h : j < k <;> first | exact i5 j s h1 h h3 h4 h5 | (have e : j = k := (by omega); have e2 : s = t := (by omega); rw [e, e2]; omega) | fail) | fail) (by omega)
        · skip
          refine sA_iconst (z := 0) dd_X4_runsAlong_47 ?_
          refine sA_goto (tgt := 55) dd_X4_runsAlong_48 (by decide) ?_
          refine sA_istore (lv' := [(4, gs_iv 0), (5, gs_iv k), (0, .ref a), (1, gs_iv p), (2, .ref b)]) dd_X4_runsAlong_55 (by decide) rfl ?_
          refine sA_iinc (lv' := [(5, gs_iv (k + 1)), (4, gs_iv 0), (0, .ref a), (1, gs_iv p), (2, .ref b)]) dd_X4_runsAlong_57 (.tail _ (.head _)) (by decide) rfl ?_
          refine sA_goto (tgt := 6) dd_X4_runsAlong_60 (by decide) ?_
          refine sA_sub (lv2 := [(5, gs_iv (k + 1)), (4, gs_iv 0), (0, .ref a), (1, gs_iv p), (2, .ref b)]) (List.forall_mem_cons.mpr ⟨(.head _), (List.forall_mem_cons.mpr ⟨(.tail _ (.head _)), (List.forall_mem_cons.mpr ⟨(.tail _ (.tail _ (.head _))), (List.forall_mem_cons.mpr ⟨(.tail _ (.tail _ (.tail _ (.head _)))), (List.forall_mem_cons.mpr ⟨(.tail _ (.tail _ (.tail _ (.tail _ (.head _))))), (fun _ h => absurd h List.not_mem_nil)⟩)⟩)⟩)⟩)⟩) ?_
          exact ih (k + 1) 0  (by omega) (by omega) (by omega) (by omega) (by omega) (fun j s h1 h2 h3 h4 h5 => by first | (exfalso; omega) | (by_cases h : j < k <;> first | exact i5 j s h1 h h3 h4 h5 | (have e : j = k := (by omega); have e2 : s = t := (by omega); rw [e, e2]; omega) | fail) | fail) (by omega)
      · skip
        refine sA_iconst (z := 0) dd_X4_runsAlong_34 ?_
        refine sA_bret (z := 0) dd_X4_runsAlong_35 rfl (by omega) ?_
        refine ⟨_, rfl, rfl, rfl, ?_⟩
        exact .inr ⟨rfl, fun h => absurd (h k t (by omega) (by omega) (by omega) (by omega) (by omega)) (by omega)⟩
theorem c_X4_runsAlong_vf {a L b M : Nat} {p q : Int} {F A : gs_F} (hI : gs_I F A) (hr : gs_row a L) (hp : 0 ≤ p ∧ p + F b 1 ≤ F a 1) (ho : gs_row b M) (hq : 0 ≤ q ∧ q < F b 1) : sC m_X4_runsAlong 1 [.ref a, gs_iv p, .ref b, gs_iv q] F A (fun rv F' A' => ∃ z : Int, rv = some (gs_iv z) ∧ F = F' ∧ A = A' ∧ ((z = 1 ∧ gs_al (A (a + 1)) p (A (b + 1)) (F b 1) q) ∨ (z = 0 ∧ ¬ gs_al (A (a + 1)) p (A (b + 1)) (F b 1) q))) := by
  refine sC_of ok_X4_runsAlong.1 (Nat.le_of_ble_eq_true rfl) ?_
  show sA _ _ _ 0 [(0, .ref a), (1, gs_iv p), (2, .ref b), (3, gs_iv q)] [] F A
  have b8 := gs_row_sz hr hI
  have b9 := gs_row_sz ho hI
  refine sA_iload_n dd_X4_runsAlong_0 rfl (.tail _ (.tail _ (.tail _ (.head _)))) ?_
  refine sA_istore (lv' := [(4, gs_iv q), (0, .ref a), (1, gs_iv p), (2, .ref b), (3, gs_iv q)]) dd_X4_runsAlong_1 (by decide) rfl ?_
  refine sA_iconst (z := 0) dd_X4_runsAlong_3 ?_
  refine sA_istore (lv' := [(5, gs_iv 0), (4, gs_iv q), (0, .ref a), (1, gs_iv p), (2, .ref b), (3, gs_iv q)]) dd_X4_runsAlong_4 (by decide) rfl ?_
  refine sA_sub (lv2 := [(5, gs_iv 0), (4, gs_iv q), (0, .ref a), (1, gs_iv p), (2, .ref b)]) (List.forall_mem_cons.mpr ⟨(.head _), (List.forall_mem_cons.mpr ⟨(.tail _ (.head _)), (List.forall_mem_cons.mpr ⟨(.tail _ (.tail _ (.head _))), (List.forall_mem_cons.mpr ⟨(.tail _ (.tail _ (.tail _ (.head _)))), (List.forall_mem_cons.mpr ⟨(.tail _ (.tail _ (.tail _ (.tail _ (.head _))))), (fun _ h => absurd h List.not_mem_nil)⟩)⟩)⟩)⟩)⟩) ?_
  exact (k_X4_runsAlong_vf hI hr hp ho hq (F b 1 - 0 : Int).toNat.succ) 0 q  (by omega) (by omega) (by omega) (by omega) (by omega) (fun j s h1 h2 h3 h4 h5 => by first | (exfalso; omega) | (by_cases h : j < k <;> first | exact i5 j s h1 h h3 h4 h5 | (have e : j = k := (by omega); have e2 : s = t := (by omega); rw [e, e2]; omega) | fail) | fail) (by omega)
theorem k_X4_runsAgainst_vf {a L b M : Nat} {p q : Int} {F A : gs_F} (hI : gs_I F A) (hr : gs_row a L) (hp : 0 ≤ p ∧ p + F b 1 ≤ F a 1) (ho : gs_row b M) (hq : 0 ≤ q ∧ q < F b 1) : ∀ nN : Nat, (∀ (k : Int) (t : Int),  0 ≤ k → k ≤ F b 1 → 0 ≤ t → t < F b 1 → (t = q - k ∨ t = q - k + F b 1) → (∀ j s : Int, 0 ≤ j → j < k → 0 ≤ s → s < F b 1 → (s = q - j ∨ s = q - j + F b 1) → A (a + 1) (p + j).toNat = -(A (b + 1) s.toNat)) → F b 1 - k < (nN : Int) → sA m_X4_runsAgainst 1 (fun rv F' A' => ∃ z : Int, rv = some (gs_iv z) ∧ F = F' ∧ A = A' ∧ ((z = 1 ∧ gs_ag (A (a + 1)) p (A (b + 1)) (F b 1) q) ∨ (z = 0 ∧ ¬ gs_ag (A (a + 1)) p (A (b + 1)) (F b 1) q))) 6 [(5, gs_iv k), (4, gs_iv t), (0, .ref a), (1, gs_iv p), (2, .ref b)] [] F A) := by
  intro nN
  induction nN with
  | zero =>
    exact fun a0 a1 i0 i1 i2 i3 i4 i5 hm => by exfalso; omega
  | succ nN ih =>
    intro k t i0 i1 i2 i3 i4 i5 hm
    have b1 := gs_row_sz hr hI
    have b2 := gs_row_sz ho hI
    refine sA_iload dd_X4_runsAgainst_6 (.head _) ?_
    refine sA_aload_n dd_X4_runsAgainst_8 rfl (.tail _ (.tail _ (.tail _ (.tail _ (.head _))))) ?_
    refine sA_geti (ci := 4) (j := 1) (q := (RX4, TX4, 2)) dd_X4_runsAgainst_9 rfl (by decide) fl_X4_19 (Nat.lt_of_succ_lt ho.1) ho.2.1 rfl ?_
    refine sA_icmp_ge (tgt := 63) dd_X4_runsAgainst_12 (by decide) (by omega) (by omega) (fun q3 => ?_) (fun q3 => ?_)
    · skip
      refine sA_iconst (z := 1) dd_X4_runsAgainst_63 ?_
      refine sA_bret (z := 1) dd_X4_runsAgainst_64 rfl (by omega) ?_
      refine ⟨_, rfl, rfl, rfl, ?_⟩
      exact .inl ⟨rfl, fun j s h1 h2 h3 h4 h5 => i5 j s h1 (by omega) h3 h4 h5⟩
    · skip
      refine sA_aload_n dd_X4_runsAgainst_15 rfl (.tail _ (.tail _ (.head _))) ?_
      refine sA_getr (ci := 4) (j := 0) (q := (RX4, TX4, 2)) dd_X4_runsAgainst_16 rfl (by decide) fl_X4_13 (Nat.lt_of_succ_lt hr.1) hr.2.1 rfl ?_
      refine sA_iload_n dd_X4_runsAgainst_19 rfl (.tail _ (.tail _ (.tail _ (.head _)))) ?_
      refine sA_iload dd_X4_runsAgainst_20 (.head _) ?_
      refine sA_iadd dd_X4_runsAgainst_22 ?_
      refine sA_iald (n := L) dd_X4_runsAgainst_23 hr.1 hr.2.2.1 (by omega) (Nat.le_trans hr.2.2.2.2.2.2 (by decide)) ?_
      have b4 := gs_row_el hr hI (p + k).toNat
      refine sA_aload_n dd_X4_runsAgainst_24 rfl (.tail _ (.tail _ (.tail _ (.tail _ (.head _))))) ?_
      refine sA_getr (ci := 4) (j := 0) (q := (RX4, TX4, 2)) dd_X4_runsAgainst_25 rfl (by decide) fl_X4_13 (Nat.lt_of_succ_lt ho.1) ho.2.1 rfl ?_
      refine sA_iload dd_X4_runsAgainst_28 (.tail _ (.head _)) ?_
      refine sA_iald (n := M) dd_X4_runsAgainst_30 ho.1 ho.2.2.1 (by omega) (Nat.le_trans ho.2.2.2.2.2.2 (by decide)) ?_
      have b5 := gs_row_el ho hI t.toNat
      refine sA_ineg dd_X4_runsAgainst_31 ?_
      refine sA_icmp_eq (tgt := 37) dd_X4_runsAgainst_32 (by decide) (by omega) (by omega) (fun q6 => ?_) (fun q6 => ?_)
      · skip
        refine sA_iload dd_X4_runsAgainst_37 (.tail _ (.head _)) ?_
        refine sA_if_ne (tgt := 51) dd_X4_runsAgainst_39 (by decide) (by omega) (fun q7 => ?_) (fun q7 => ?_)
        · skip
          refine sA_iload dd_X4_runsAgainst_51 (.tail _ (.head _)) ?_
          refine sA_iconst (z := 1) dd_X4_runsAgainst_53 ?_
          refine sA_isub dd_X4_runsAgainst_54 ?_
          refine sA_istore (lv' := [(4, gs_iv (t - 1)), (5, gs_iv k), (0, .ref a), (1, gs_iv p), (2, .ref b)]) dd_X4_runsAgainst_55 (by decide) rfl ?_
          refine sA_iinc (lv' := [(5, gs_iv (k + 1)), (4, gs_iv (t - 1)), (0, .ref a), (1, gs_iv p), (2, .ref b)]) dd_X4_runsAgainst_57 (.tail _ (.head _)) (by decide) rfl ?_
          refine sA_goto (tgt := 6) dd_X4_runsAgainst_60 (by decide) ?_
          refine sA_sub (lv2 := [(5, gs_iv (k + 1)), (4, gs_iv (t - 1)), (0, .ref a), (1, gs_iv p), (2, .ref b)]) (List.forall_mem_cons.mpr ⟨(.head _), (List.forall_mem_cons.mpr ⟨(.tail _ (.head _)), (List.forall_mem_cons.mpr ⟨(.tail _ (.tail _ (.head _))), (List.forall_mem_cons.mpr ⟨(.tail _ (.tail _ (.tail _ (.head _)))), (List.forall_mem_cons.mpr ⟨(.tail _ (.tail _ (.tail _ (.tail _ (.head _))))), (fun _ h => absurd h List.not_mem_nil)⟩)⟩)⟩)⟩)⟩) ?_
          exact ih (k + 1) (t - 1)  (by omega) (by omega) (by omega) (by omega) (by omega) (fun j s h1 h2 h3 h4 h5 => by first | (exfalso; omega) | (by_cases h : j < k <;> first | exact i5 j s h1 h h3 h4 h5 | (have e : j = k := (by omega); have e2 : s = t := (by omega); rw [e, e2]; omega) | fail) | fail) (by omega)
        · skip
          refine sA_aload_n dd_X4_runsAgainst_42 rfl (.tail _ (.tail _ (.tail _ (.tail _ (.head _))))) ?_
          refine sA_geti (ci := 4) (j := 1) (q := (RX4, TX4, 2)) dd_X4_runsAgainst_43 rfl (by decide) fl_X4_19 (Nat.lt_of_succ_lt ho.1) ho.2.1 rfl ?_
          refine sA_iconst (z := 1) dd_X4_runsAgainst_46 ?_
          refine sA_isub dd_X4_runsAgainst_47 ?_
          refine sA_goto (tgt := 55) dd_X4_runsAgainst_48 (by decide) ?_
          refine sA_istore (lv' := [(4, gs_iv ((F b 1) - 1)), (5, gs_iv k), (0, .ref a), (1, gs_iv p), (2, .ref b)]) dd_X4_runsAgainst_55 (by decide) rfl ?_
          refine sA_iinc (lv' := [(5, gs_iv (k + 1)), (4, gs_iv ((F b 1) - 1)), (0, .ref a), (1, gs_iv p), (2, .ref b)]) dd_X4_runsAgainst_57 (.tail _ (.head _)) (by decide) rfl ?_
          refine sA_goto (tgt := 6) dd_X4_runsAgainst_60 (by decide) ?_
          refine sA_sub (lv2 := [(5, gs_iv (k + 1)), (4, gs_iv ((F b 1) - 1)), (0, .ref a), (1, gs_iv p), (2, .ref b)]) (List.forall_mem_cons.mpr ⟨(.head _), (List.forall_mem_cons.mpr ⟨(.tail _ (.head _)), (List.forall_mem_cons.mpr ⟨(.tail _ (.tail _ (.head _))), (List.forall_mem_cons.mpr ⟨(.tail _ (.tail _ (.tail _ (.head _)))), (List.forall_mem_cons.mpr ⟨(.tail _ (.tail _ (.tail _ (.tail _ (.head _))))), (fun _ h => absurd h List.not_mem_nil)⟩)⟩)⟩)⟩)⟩) ?_
          exact ih (k + 1) ((F b 1) - 1)  (by omega) (by omega) (by omega) (by omega) (by omega) (fun j s h1 h2 h3 h4 h5 => by first | (exfalso; omega) | (by_cases h : j < k <;> first | exact i5 j s h1 h h3 h4 h5 | (have e : j = k := (by omega); have e2 : s = t := (by omega); rw [e, e2]; omega) | fail) | fail) (by omega)
      · skip
        refine sA_iconst (z := 0) dd_X4_runsAgainst_35 ?_
        refine sA_bret (z := 0) dd_X4_runsAgainst_36 rfl (by omega) ?_
        refine ⟨_, rfl, rfl, rfl, ?_⟩
        exact .inr ⟨rfl, fun h => absurd (h k t (by omega) (by omega) (by omega) (by omega) (by omega)) (by omega)⟩
theorem c_X4_runsAgainst_vf {a L b M : Nat} {p q : Int} {F A : gs_F} (hI : gs_I F A) (hr : gs_row a L) (hp : 0 ≤ p ∧ p + F b 1 ≤ F a 1) (ho : gs_row b M) (hq : 0 ≤ q ∧ q < F b 1) : sC m_X4_runsAgainst 1 [.ref a, gs_iv p, .ref b, gs_iv q] F A (fun rv F' A' => ∃ z : Int, rv = some (gs_iv z) ∧ F = F' ∧ A = A' ∧ ((z = 1 ∧ gs_ag (A (a + 1)) p (A (b + 1)) (F b 1) q) ∨ (z = 0 ∧ ¬ gs_ag (A (a + 1)) p (A (b + 1)) (F b 1) q))) := by
  refine sC_of ok_X4_runsAgainst.1 (Nat.le_of_ble_eq_true rfl) ?_
  show sA _ _ _ 0 [(0, .ref a), (1, gs_iv p), (2, .ref b), (3, gs_iv q)] [] F A
  have b8 := gs_row_sz hr hI
  have b9 := gs_row_sz ho hI
  refine sA_iload_n dd_X4_runsAgainst_0 rfl (.tail _ (.tail _ (.tail _ (.head _)))) ?_
  refine sA_istore (lv' := [(4, gs_iv q), (0, .ref a), (1, gs_iv p), (2, .ref b), (3, gs_iv q)]) dd_X4_runsAgainst_1 (by decide) rfl ?_
  refine sA_iconst (z := 0) dd_X4_runsAgainst_3 ?_
  refine sA_istore (lv' := [(5, gs_iv 0), (4, gs_iv q), (0, .ref a), (1, gs_iv p), (2, .ref b), (3, gs_iv q)]) dd_X4_runsAgainst_4 (by decide) rfl ?_
  refine sA_sub (lv2 := [(5, gs_iv 0), (4, gs_iv q), (0, .ref a), (1, gs_iv p), (2, .ref b)]) (List.forall_mem_cons.mpr ⟨(.head _), (List.forall_mem_cons.mpr ⟨(.tail _ (.head _)), (List.forall_mem_cons.mpr ⟨(.tail _ (.tail _ (.head _))), (List.forall_mem_cons.mpr ⟨(.tail _ (.tail _ (.tail _ (.head _)))), (List.forall_mem_cons.mpr ⟨(.tail _ (.tail _ (.tail _ (.tail _ (.head _))))), (fun _ h => absurd h List.not_mem_nil)⟩)⟩)⟩)⟩)⟩) ?_
  exact (k_X4_runsAgainst_vf hI hr hp ho hq (F b 1 - 0 : Int).toNat.succ) 0 q  (by omega) (by omega) (by omega) (by omega) (by omega) (fun j s h1 h2 h3 h4 h5 => by first | (exfalso; omega) | (by_cases h : j < k <;> first | exact i5 j s h1 h h3 h4 h5 | (have e : j = k := (by omega); have e2 : s = t := (by omega); rw [e, e2]; omega) | fail) | fail) (by omega)
theorem k_X4_isOneWith_vf {a L b M : Nat} {F A : gs_F} (hI : gs_I F A) (hr : gs_row a L) (ho : gs_row b M) : ∀ nN : Nat, (∀ (p : Int) (k : Int),  0 ≤ p → F a 1 - 2 * p = F b 1 → 0 ≤ k → k ≤ F b 1 → gs_lo (A (a + 1)) (F a 1) p → (∀ j : Int, 0 ≤ j → j < k → ¬ (gs_al (A (a + 1)) p (A (b + 1)) (F b 1) j ∨ gs_ag (A (a + 1)) p (A (b + 1)) (F b 1) j)) → F b 1 - k < (nN : Int) → sA m_X4_isOneWith 2 (fun rv F' A' => ∃ z : Int, rv = some (gs_iv z) ∧ F = F' ∧ A = A' ∧ ((z = 1 ∧ gs_on (A (a + 1)) (F a 1) (A (b + 1)) (F b 1)) ∨ (z = 0 ∧ ¬ gs_on (A (a + 1)) (F a 1) (A (b + 1)) (F b 1)))) 24 [(3, gs_iv k), (2, gs_iv p), (0, .ref a), (1, .ref b)] [] F A) := by
  intro nN
  induction nN with
  | zero =>
    exact fun a0 a1 i0 i1 i2 i3 i4 i5 hm => by exfalso; omega
  | succ nN ih =>
    intro p k i0 i1 i2 i3 i4 i5 hm
    have b1 := gs_row_sz hr hI
    have b2 := gs_row_sz ho hI
    refine sA_iload_n dd_X4_isOneWith_24 rfl (.head _) ?_
    refine sA_aload_n dd_X4_isOneWith_25 rfl (.tail _ (.tail _ (.tail _ (.head _)))) ?_
    refine sA_geti (ci := 4) (j := 1) (q := (RX4, TX4, 2)) dd_X4_isOneWith_26 rfl (by decide) fl_X4_19 (Nat.lt_of_succ_lt ho.1) ho.2.1 rfl ?_
    refine sA_icmp_ge (tgt := 60) dd_X4_isOneWith_29 (by decide) (by omega) (by omega) (fun q3 => ?_) (fun q3 => ?_)
    · skip
      refine sA_iconst (z := 0) dd_X4_isOneWith_60 ?_
      refine sA_bret (z := 0) dd_X4_isOneWith_61 rfl (by omega) ?_
      refine ⟨_, rfl, rfl, rfl, ?_⟩
      exact .inr ⟨rfl, fun ⟨lo, h1, h2, j, h3, h4, h5⟩ => by have e := gs_lo_uni i4 h1; subst e; exact i5 j h3 (by omega) h5⟩
    · skip
      refine sA_aload_n dd_X4_isOneWith_32 rfl (.tail _ (.tail _ (.head _))) ?_
      refine sA_iload_n dd_X4_isOneWith_33 rfl (.tail _ (.head _)) ?_
      refine sA_aload_n dd_X4_isOneWith_34 rfl (.tail _ (.tail _ (.tail _ (.head _)))) ?_
      refine sA_iload_n dd_X4_isOneWith_35 rfl (.head _) ?_
      refine sA_callV (y2 := m_X4_runsAlong) (n2 := 3) (d2 := 1) (a := a) (ci := 4) (q := (RX4, TX4, 2)) (as := [gs_iv p, .ref b, gs_iv k]) (rest := []) dd_X4_isOneWith_36 ok_X4_runsAlong ml_X4_36 rfl rfl (Nat.lt_of_succ_lt hr.1) hr.2.1 rfl rfl (Nat.le_of_ble_eq_true rfl) (by decide) (c_X4_runsAlong_vf hI hr (by omega) ho (by omega)) (fun r4 F5 A6 h7 => ?_)
      obtain ⟨z10, e9, e11, e12, x8⟩ := h7
      subst e9 e11 e12
      have y13 : (z10 = 1 ∧ gs_al (A (a + 1)) p (A (b + 1)) (F b 1) k) ∨ (z10 = 0 ∧ ¬ gs_al (A (a + 1)) p (A (b + 1)) (F b 1) k) := x8
      clear x8
      show sA _ _ _ 39 _ [gs_iv z10] _ _
      have hz36 : z10 = 0 ∨ z10 = 1 := by omega
      refine sA_if_ne (tgt := 52) dd_X4_isOneWith_39 (by decide) (by omega) (fun q14 => ?_) (fun q14 => ?_)
      · skip
        refine sA_iconst (z := 1) dd_X4_isOneWith_52 ?_
        refine sA_bret (z := 1) dd_X4_isOneWith_53 rfl (by omega) ?_
        refine ⟨_, rfl, rfl, rfl, ?_⟩
        refine .inl ⟨rfl, p, i4, i1, k, by omega, by omega, ?_⟩
        first | (rcases hNONE with h | h <;> first | exact .inr h.2 | (exfalso; omega) | fail) | (rcases y13 with h | h <;> first | exact .inl h.2 | (exfalso; omega) | fail) | fail
      · skip
        refine sA_aload_n dd_X4_isOneWith_42 rfl (.tail _ (.tail _ (.head _))) ?_
        refine sA_iload_n dd_X4_isOneWith_43 rfl (.tail _ (.head _)) ?_
        refine sA_aload_n dd_X4_isOneWith_44 rfl (.tail _ (.tail _ (.tail _ (.head _)))) ?_
        refine sA_iload_n dd_X4_isOneWith_45 rfl (.head _) ?_
        refine sA_callV (y2 := m_X4_runsAgainst) (n2 := 3) (d2 := 1) (a := a) (ci := 4) (q := (RX4, TX4, 2)) (as := [gs_iv p, .ref b, gs_iv k]) (rest := []) dd_X4_isOneWith_46 ok_X4_runsAgainst ml_X4_40 rfl rfl (Nat.lt_of_succ_lt hr.1) hr.2.1 rfl rfl (Nat.le_of_ble_eq_true rfl) (by decide) (c_X4_runsAgainst_vf hI hr (by omega) ho (by omega)) (fun r15 F16 A17 h18 => ?_)
        obtain ⟨z21, e20, e22, e23, x19⟩ := h18
        subst e20 e22 e23
        have y24 : (z21 = 1 ∧ gs_ag (A (a + 1)) p (A (b + 1)) (F b 1) k) ∨ (z21 = 0 ∧ ¬ gs_ag (A (a + 1)) p (A (b + 1)) (F b 1) k) := x19
        clear x19
        show sA _ _ _ 49 _ [gs_iv z21] _ _
        have hz46 : z21 = 0 ∨ z21 = 1 := by omega
        refine sA_if_eq (tgt := 54) dd_X4_isOneWith_49 (by decide) (by omega) (fun q25 => ?_) (fun q25 => ?_)
        · skip
          refine sA_iinc (lv' := [(3, gs_iv (k + 1)), (2, gs_iv p), (0, .ref a), (1, .ref b)]) dd_X4_isOneWith_54 (.head _) (by decide) rfl ?_
          refine sA_goto (tgt := 24) dd_X4_isOneWith_57 (by decide) ?_
          refine sA_sub (lv2 := [(3, gs_iv (k + 1)), (2, gs_iv p), (0, .ref a), (1, .ref b)]) (List.forall_mem_cons.mpr ⟨(.head _), (List.forall_mem_cons.mpr ⟨(.tail _ (.head _)), (List.forall_mem_cons.mpr ⟨(.tail _ (.tail _ (.head _))), (List.forall_mem_cons.mpr ⟨(.tail _ (.tail _ (.tail _ (.head _)))), (fun _ h => absurd h List.not_mem_nil)⟩)⟩)⟩)⟩) ?_
          exact ih p (k + 1)  (by omega) (by omega) (by omega) (by omega) (by first | exact hNONE | exact i4 | fail) (fun j h1 h2 => by first | (exfalso; omega) | (by_cases h : j < k <;> first | exact i5 j h1 h | (have e : j = k := (by omega); rw [e]; intro hq; rcases y13 with h | h <;> rcases y24 with h2 | h2 <;> first | (exfalso; omega) | (rcases hq with hq | hq; exact h.2 hq; exact h2.2 hq) | fail) | fail) | fail) (by omega)
        · skip
          refine sA_iconst (z := 1) dd_X4_isOneWith_52 ?_
          refine sA_bret (z := 1) dd_X4_isOneWith_53 rfl (by omega) ?_
          refine ⟨_, rfl, rfl, rfl, ?_⟩
          refine .inl ⟨rfl, p, i4, i1, k, by omega, by omega, ?_⟩
          first | (rcases y24 with h | h <;> first | exact .inr h.2 | (exfalso; omega) | fail) | (rcases y13 with h | h <;> first | exact .inl h.2 | (exfalso; omega) | fail) | fail
theorem c_X4_isOneWith_vf {a L b M : Nat} {F A : gs_F} (hI : gs_I F A) (hr : gs_row a L) (ho : gs_row b M) : sC m_X4_isOneWith 2 [.ref a, .ref b] F A (fun rv F' A' => ∃ z : Int, rv = some (gs_iv z) ∧ F = F' ∧ A = A' ∧ ((z = 1 ∧ gs_on (A (a + 1)) (F a 1) (A (b + 1)) (F b 1)) ∨ (z = 0 ∧ ¬ gs_on (A (a + 1)) (F a 1) (A (b + 1)) (F b 1)))) := by
  refine sC_of ok_X4_isOneWith.1 (Nat.le_of_ble_eq_true rfl) ?_
  show sA _ _ _ 0 [(0, .ref a), (1, .ref b)] [] F A
  have b26 := gs_row_sz hr hI
  have b27 := gs_row_sz ho hI
  refine sA_aload_n dd_X4_isOneWith_0 rfl (.head _) ?_
  refine sA_callV (y2 := m_X4_looseEnds) (n2 := 0) (d2 := 1) (a := a) (ci := 4) (q := (RX4, TX4, 2)) (as := []) (rest := []) dd_X4_isOneWith_1 ok_X4_looseEnds ml_X4_32 rfl rfl (Nat.lt_of_succ_lt hr.1) hr.2.1 rfl rfl (Nat.le_of_ble_eq_true rfl) (by decide) (c_X4_looseEnds_vf hI hr) (fun r28 F29 A30 h31 => ?_)
  obtain ⟨z34, e33, e35, e36, x32⟩ := h31
  subst e33 e35 e36
  have y37 : gs_lo (A (a + 1)) (F a 1) z34 := x32
  clear x32
  show sA _ _ _ 4 _ [gs_iv z34] _ _
  refine sA_istore_n (lv' := [(2, gs_iv z34), (0, .ref a), (1, .ref b)]) dd_X4_isOneWith_4 rfl (by decide) rfl ?_
  have hlo1 := y37.1
  have hlo2 := y37.2.1
  refine sA_aload_n dd_X4_isOneWith_5 rfl (.tail _ (.head _)) ?_
  refine sA_geti (ci := 4) (j := 1) (q := (RX4, TX4, 2)) dd_X4_isOneWith_6 rfl (by decide) fl_X4_19 (Nat.lt_of_succ_lt hr.1) hr.2.1 rfl ?_
  refine sA_iconst (z := 2) dd_X4_isOneWith_9 ?_
  refine sA_iload_n dd_X4_isOneWith_10 rfl (.head _) ?_
  refine sA_imul dd_X4_isOneWith_11 ?_
  refine sA_isub dd_X4_isOneWith_12 ?_
  refine sA_aload_n dd_X4_isOneWith_13 rfl (.tail _ (.tail _ (.head _))) ?_
  refine sA_geti (ci := 4) (j := 1) (q := (RX4, TX4, 2)) dd_X4_isOneWith_14 rfl (by decide) fl_X4_19 (Nat.lt_of_succ_lt ho.1) ho.2.1 rfl ?_
  refine sA_icmp_eq (tgt := 22) dd_X4_isOneWith_17 (by decide) (by omega) (by omega) (fun q38 => ?_) (fun q38 => ?_)
  · skip
    refine sA_iconst (z := 0) dd_X4_isOneWith_22 ?_
    refine sA_istore_n (lv' := [(3, gs_iv 0), (2, gs_iv z34), (0, .ref a), (1, .ref b)]) dd_X4_isOneWith_23 rfl (by decide) rfl ?_
    refine sA_sub (lv2 := [(3, gs_iv 0), (2, gs_iv z34), (0, .ref a), (1, .ref b)]) (List.forall_mem_cons.mpr ⟨(.head _), (List.forall_mem_cons.mpr ⟨(.tail _ (.head _)), (List.forall_mem_cons.mpr ⟨(.tail _ (.tail _ (.head _))), (List.forall_mem_cons.mpr ⟨(.tail _ (.tail _ (.tail _ (.head _)))), (fun _ h => absurd h List.not_mem_nil)⟩)⟩)⟩)⟩) ?_
    exact (k_X4_isOneWith_vf hI hr ho (F b 1 - 0 : Int).toNat.succ) z34 0  (by omega) (by omega) (by omega) (by omega) (by first | exact y37 | exact i4 | fail) (fun j h1 h2 => by first | (exfalso; omega) | (by_cases h : j < k <;> first | exact i5 j h1 h | (have e : j = k := (by omega); rw [e]; intro hq; rcases hNONE with h | h <;> rcases hNONE with h2 | h2 <;> first | (exfalso; omega) | (rcases hq with hq | hq; exact h.2 hq; exact h2.2 hq) | fail) | fail) | fail) (by omega)
  · skip
    refine sA_iconst (z := 0) dd_X4_isOneWith_20 ?_
    refine sA_bret (z := 0) dd_X4_isOneWith_21 rfl (by omega) ?_
    refine ⟨_, rfl, rfl, rfl, ?_⟩
    exact .inr ⟨rfl, fun ⟨lo, h1, h2, h3⟩ => by have e := gs_lo_uni y37 h1; omega⟩
theorem c_X3_become_vf {a b M : Nat} {F A : gs_F} (hI : gs_I F A) (hg : gs_ring a) (ho : gs_row b M) (hM : (M : Int) ≤ 60) (ha54 : 54 ≤ a) : sC m_X3_become 6 [.ref a, .ref b, .ref 12] F A (fun rv F' A' => rv = none ∧ gs_I F' A' ∧ gs_fr (fun c j => (c = a + 1 ∧ j = 1) ∨ (c = a ∧ (j = 1 ∨ j = 2)) ∨ (c = 13 ∧ j = 1)) (fun c => c = a + 1 + 1 ∨ c = 14) F A F' A' ∧ (∃ k : Int, gs_lo (A (b + 1)) (F b 1) k ∧ F' (a + 1) 1 = F b 1 - 2 * k ∧ (∀ i : Nat, (i : Int) < F b 1 - 2 * k → A' (a + 1 + 1) i = A (b + 1) (k.toNat + i)) ∧ ((F' a 1 = 1 ∧ gs_pow (A' (a + 1 + 1)) (F' (a + 1) 1)) ∨ (F' a 1 = 0 ∧ ¬ gs_pow (A' (a + 1 + 1)) (F' (a + 1) 1))))) := by
  refine sC_of ok_X3_become.1 (Nat.le_of_ble_eq_true rfl) ?_
  show sA _ _ _ 0 [(0, .ref a), (1, .ref b), (2, .ref 12)] [] F A
  have hf : gs_fr (fun c j => (c = a + 1 ∧ j = 1) ∨ (c = a ∧ (j = 1 ∨ j = 2)) ∨ (c = 13 ∧ j = 1)) (fun c => c = a + 1 + 1 ∨ c = 14) F A F A := gs_fr_refl _ _ _ _
  have b1 := gs_row_sz hg.2.2.1 hI
  have b2 := gs_row_sz ho hI
  have u3 : A (a + 1 + 1) = A (a + 1 + 1) := rfl
  refine sA_aload_n dd_X3_become_0 rfl (.head _) ?_
  refine sA_getr (ci := 3) (j := 0) (q := (RX3, TX3, 3)) dd_X3_become_1 rfl (by decide) fl_X3_14 (Nat.lt_of_succ_lt hg.1) hg.2.1 rfl ?_
  refine sA_aload_n dd_X3_become_4 rfl (.tail _ (.head _)) ?_
  refine sA_callV (y2 := m_X4_copy) (n2 := 1) (d2 := 1) (a := (a + 1)) (ci := 4) (q := (RX4, TX4, 2)) (as := [.ref b]) (rest := []) dd_X3_become_5 ok_X4_copy ml_X3_20 rfl rfl (Nat.lt_of_succ_lt hg.2.2.1.1) hg.2.2.1.2.1 rfl rfl (Nat.le_of_ble_eq_true rfl) (by decide) (c_X4_copy_vf hI hg.2.2.1 ho) (fun r4 F5 A6 h7 => ?_)
  obtain ⟨e9, I10, f11, x8⟩ := h7
  subst e9
  have f14 := gs_fr_tr hf f11 (fun b j h => by first | exact False.elim h | omega | (dsimp only at h ⊢; omega) | fail) (fun b h => by first | exact False.elim h | omega | (dsimp only at h ⊢; omega) | fail)
  have u15 : A6 (a + 1 + 1) = A6 (a + 1 + 1) := rfl
  have y16 : F b 1 ≤ (60 : Int) → (F5 (a + 1) 1 = F b 1 ∧ A6 ((a + 1) + 1) = gs_cc (A (b + 1)) (A ((a + 1) + 1)) 0 0 (F b 1).toNat) := x8
  clear x8
  show sA _ _ _ 8 _ [] _ _
  refine sA_aload_n dd_X3_become_8 rfl (.head _) ?_
  refine sA_getr (ci := 3) (j := 0) (q := (RX3, TX3, 3)) dd_X3_become_9 rfl (by decide) fl_X3_14 (Nat.lt_of_succ_lt hg.1) hg.2.1 rfl ?_
  refine sA_callV (y2 := m_X4_close) (n2 := 0) (d2 := 2) (a := (a + 1)) (ci := 4) (q := (RX4, TX4, 2)) (as := []) (rest := []) dd_X3_become_12 ok_X4_close ml_X3_24 rfl rfl (Nat.lt_of_succ_lt hg.2.2.1.1) hg.2.2.1.2.1 rfl rfl (Nat.le_of_ble_eq_true rfl) (by decide) (c_X4_close_vf I10 hg.2.2.1) (fun r17 F18 A19 h20 => ?_)
  obtain ⟨e22, I23, f24, x21⟩ := h20
  subst e22
  have f27 := gs_fr_tr f14 f24 (fun b j h => by first | exact False.elim h | omega | (dsimp only at h ⊢; omega) | fail) (fun b h => by first | exact False.elim h | omega | (dsimp only at h ⊢; omega) | fail)
  have u28 : A19 (a + 1 + 1) = A19 (a + 1 + 1) := rfl
  have y29 : ∃ k : Int, gs_lo (A6 ((a + 1) + 1)) (F5 (a + 1) 1) k ∧ F18 (a + 1) 1 = F5 (a + 1) 1 - 2 * k ∧ A19 ((a + 1) + 1) = gs_cc (A6 ((a + 1) + 1)) (A6 ((a + 1) + 1)) k.toNat 0 (F5 (a + 1) 1 - 2 * k).toNat := x21
  clear x21
  show sA _ _ _ 15 _ [] _ _
  refine sA_aload_n dd_X3_become_15 rfl (.head _) ?_
  refine sA_aload_n dd_X3_become_16 rfl (.head _) ?_
  refine sA_getr (ci := 3) (j := 0) (q := (RX3, TX3, 3)) dd_X3_become_17 rfl (by decide) fl_X3_14 (Nat.lt_of_succ_lt hg.1) hg.2.1 rfl ?_
  refine sA_callV (y2 := m_X4_isPower) (n2 := 0) (d2 := 2) (a := (a + 1)) (ci := 4) (q := (RX4, TX4, 2)) (as := []) (rest := [.ref a]) dd_X3_become_20 ok_X4_isPower ml_X3_27 rfl rfl (Nat.lt_of_succ_lt hg.2.2.1.1) hg.2.2.1.2.1 rfl rfl (Nat.le_of_ble_eq_true rfl) (by decide) (c_X4_isPower_vf I23 hg.2.2.1) (fun r30 F31 A32 h33 => ?_)
  obtain ⟨z36, e35, e37, e38, x34⟩ := h33
  subst e35 e37 e38
  have y39 : (z36 = 1 ∧ gs_pow (A19 ((a + 1) + 1)) (F18 (a + 1) 1)) ∨ (z36 = 0 ∧ ¬ gs_pow (A19 ((a + 1) + 1)) (F18 (a + 1) 1)) := x34
  clear x34
  show sA _ _ _ 23 _ [gs_iv z36, .ref a] _ _
  have hz20 : z36 = 0 ∨ z36 = 1 := by omega
  refine sA_put (ci := 3) (j := 1) (q := (RX3, TX3, 3)) (ty := .boolean) dd_X3_become_23 rfl (by decide) fl_X3_31 rfl (tyX3_ok 1 (by decide)) (gs_bool (by omega)) (gs_boolf (by omega)) (Nat.lt_of_succ_lt hg.1) hg.2.1 rfl ?_
  have I41 : gs_I (gs_up F18 a 1 z36) A19 := gs_ring_put1 hg I23 (by omega)
  have f42 := gs_fr_put f27 (a := a) (z := z36) (j := 1) (by first | omega | (dsimp only; omega) | (dsimp only) | fail)
  have v43 : gs_up F18 a 1 z36 a 1 = z36 := gs_up_self _ _ _ _
  have v44 : (gs_up F18 a 1 z36) (a + 1) 1 = F18 (a + 1) 1 := gs_up_ne _ _ (by omega)
  generalize gs_up F18 a 1 z36 = F40 at I41 f42 v43 v44 ⊢
  refine sA_aload_n dd_X3_become_26 rfl (.head _) ?_
  refine sA_aload_n dd_X3_become_27 rfl (.head _) ?_
  refine sA_geti (ci := 3) (j := 1) (q := (RX3, TX3, 3)) dd_X3_become_28 rfl (by decide) fl_X3_31 (Nat.lt_of_succ_lt hg.1) hg.2.1 rfl ?_
  have b45 := gs_ring_f1 hg I41
  refine sA_if_eq (tgt := 38) dd_X3_become_31 (by decide) (by omega) (fun q46 => ?_) (fun q46 => ?_)
  · skip
    refine sA_aload_n dd_X3_become_38 rfl (.tail _ (.tail _ (.head _))) ?_
    refine sA_aload_n dd_X3_become_39 rfl (.head _) ?_
    refine sA_getr (ci := 3) (j := 0) (q := (RX3, TX3, 3)) dd_X3_become_40 rfl (by decide) fl_X3_14 (Nat.lt_of_succ_lt hg.1) hg.2.1 rfl ?_
    refine sA_aload_n dd_X3_become_43 rfl (.head _) ?_
    refine sA_getr (ci := 3) (j := 0) (q := (RX3, TX3, 3)) dd_X3_become_44 rfl (by decide) fl_X3_14 (Nat.lt_of_succ_lt hg.1) hg.2.1 rfl ?_
    refine sA_callV (y2 := m_X1_between) (n2 := 2) (d2 := 5) (a := 12) (ci := 1) (q := (RX1, TX1, 1)) (as := [.ref (a + 1), .ref (a + 1)]) (rest := [.ref a]) dd_X3_become_47 ok_X1_between ml_X3_35 rfl rfl (by decide) gs_s12 rfl rfl (Nat.le_of_ble_eq_true rfl) (by decide) (c_X1_between I41 hg.2.2.1 hg.2.2.1) (fun r47 F48 A49 h50 => ?_)
    obtain ⟨z53, e52, I54, f55, x51⟩ := h50
    subst e52
    have v56 : F48 (a + 1) 1 = F40 (a + 1) 1 := f55.1 (a + 1) 1 (by first | exact id | omega | (dsimp only; omega) | (dsimp only) | fail)
    have v57 : F48 a 1 = F40 a 1 := f55.1 a 1 (by first | exact id | omega | (dsimp only; omega) | (dsimp only) | fail)
    have f58 := gs_fr_tr f42 f55 (fun b j h => by first | exact False.elim h | omega | (dsimp only at h ⊢; omega) | fail) (fun b h => by first | exact False.elim h | omega | (dsimp only at h ⊢; omega) | fail)
    have u59 : A49 (a + 1 + 1) = A19 (a + 1 + 1) := (f55.2 (a + 1 + 1) (by first | exact id | omega | (dsimp only; omega) | (dsimp only) | fail)).trans u28
    show sA _ _ _ 50 _ [gs_iv z53, .ref a] _ _
    refine sA_iconst (z := 2) dd_X3_become_50 ?_
    refine sA_idivN dd_X3_become_51 (by omega) (by omega) (by omega) ?_
    refine sA_put (ci := 3) (j := 2) (q := (RX3, TX3, 3)) (ty := .int) dd_X3_become_52 rfl (by decide) fl_X3_41 rfl (tyX3_ok 2 (by decide)) rfl rfl (Nat.lt_of_succ_lt hg.1) hg.2.1 rfl ?_
    have I61 : gs_I (gs_up F48 a 2 (z53 / 2)) A49 := gs_ring_put2 hg I54 (by omega)
    have f62 := gs_fr_put f58 (a := a) (z := z53 / 2) (j := 2) (by first | omega | (dsimp only; omega) | (dsimp only) | fail)
    have v63 : gs_up F48 a 2 (z53 / 2) a 2 = z53 / 2 := gs_up_self _ _ _ _
    have v64 : (gs_up F48 a 2 (z53 / 2)) (a + 1) 1 = F48 (a + 1) 1 := gs_up_ne _ _ (by omega)
    have v65 : (gs_up F48 a 2 (z53 / 2)) a 1 = F48 a 1 := gs_up_ne _ _ (by omega)
    generalize gs_up F48 a 2 (z53 / 2) = F60 at I61 f62 v63 v64 v65 ⊢
    refine sA_vret dd_X3_become_55 rfl ?_
    refine ⟨rfl, I61, f62, ?_⟩
    obtain ⟨e1, e2⟩ := y16 (by omega)
    obtain ⟨k, k1, k2, k3⟩ := y29
    rw [e1] at k1 k2 k3
    obtain ⟨m1, m2⟩ := gs_bec (by omega) e2 k1 k3
    refine ⟨k, m1, by omega, fun i hi => ?_, ?_⟩
    · rw [u59]; exact m2 i hi
    · have e3 : F60 (a + 1) 1 = F18 (a + 1) 1 := by omega
      rw [e3, u59]
      rcases y39 with h | h <;> first | exact .inl ⟨by omega, h.2⟩ | exact .inr ⟨by omega, h.2⟩ | (exfalso; omega) | fail
  · skip
    refine sA_iconst (z := (-1)) dd_X3_become_34 ?_
    refine sA_goto (tgt := 52) dd_X3_become_35 (by decide) ?_
    refine sA_put (ci := 3) (j := 2) (q := (RX3, TX3, 3)) (ty := .int) dd_X3_become_52 rfl (by decide) fl_X3_41 rfl (tyX3_ok 2 (by decide)) rfl rfl (Nat.lt_of_succ_lt hg.1) hg.2.1 rfl ?_
    have I67 : gs_I (gs_up F40 a 2 (-1)) A19 := gs_ring_put2 hg I41 (by omega)
    have f68 := gs_fr_put f42 (a := a) (z := -1) (j := 2) (by first | omega | (dsimp only; omega) | (dsimp only) | fail)
    have v69 : gs_up F40 a 2 (-1) a 2 = -1 := gs_up_self _ _ _ _
    have v70 : (gs_up F40 a 2 (-1)) (a + 1) 1 = F40 (a + 1) 1 := gs_up_ne _ _ (by omega)
    have v71 : (gs_up F40 a 2 (-1)) a 1 = F40 a 1 := gs_up_ne _ _ (by omega)
    generalize gs_up F40 a 2 (-1) = F66 at I67 f68 v69 v70 v71 ⊢
    refine sA_vret dd_X3_become_55 rfl ?_
    refine ⟨rfl, I67, f68, ?_⟩
    obtain ⟨e1, e2⟩ := y16 (by omega)
    obtain ⟨k, k1, k2, k3⟩ := y29
    rw [e1] at k1 k2 k3
    obtain ⟨m1, m2⟩ := gs_bec (by omega) e2 k1 k3
    refine ⟨k, m1, by omega, fun i hi => ?_, ?_⟩
    · rw [u28]; exact m2 i hi
    · have e3 : F66 (a + 1) 1 = F18 (a + 1) 1 := by omega
      rw [e3, u28]
      rcases y39 with h | h <;> first | exact .inl ⟨by omega, h.2⟩ | exact .inr ⟨by omega, h.2⟩ | (exfalso; omega) | fail
theorem c_X8_ring_vf  {F A : gs_F} (hI : gs_I F A)  : sC m_X8_ring 7 [.ref 0] F A (fun rv F' A' => ∃ z : Int, rv = some (gs_iv z) ∧ gs_I F' A' ∧ gs_fr (fun c j => (c = 0 ∧ j = 12) ∨ (c = 3 ∧ j = 1) ∨ (F 0 12 < 12 ∧ 54 + 3 * (F 0 12).toNat ≤ c ∧ c ≤ 54 + 3 * (F 0 12).toNat + 1) ∨ (c = 13 ∧ j = 1)) (fun c => (F 0 12 < 12 ∧ c = 54 + 3 * (F 0 12).toNat + 1 + 1) ∨ c = 14) F A F' A' ∧ ((F 3 1 = 0 ∧ z = -1003 ∧ F' 0 12 = F 0 12 ∧ F' 3 1 = F 3 1) ∨ (F 3 1 ≠ 0 ∧ F 0 12 = 12 ∧ z = -1004 ∧ F' 0 12 = F 0 12 ∧ F' 3 1 = F 3 1) ∨ (F 3 1 ≠ 0 ∧ F 0 12 < 12 ∧ z = F 0 12 ∧ F' 0 12 = F 0 12 + 1 ∧ F' 3 1 = 0 ∧ ∃ k : Int, gs_lo (A 4) (F 3 1) k ∧ F' (54 + 3 * (F 0 12).toNat + 1) 1 = F 3 1 - 2 * k ∧ (∀ i : Nat, (i : Int) < F 3 1 - 2 * k → A' (54 + 3 * (F 0 12).toNat + 1 + 1) i = A 4 (k.toNat + i)) ∧ ((F' (54 + 3 * (F 0 12).toNat) 1 = 1 ∧ gs_pow (A' (54 + 3 * (F 0 12).toNat + 1 + 1)) (F' (54 + 3 * (F 0 12).toNat + 1) 1)) ∨ (F' (54 + 3 * (F 0 12).toNat) 1 = 0 ∧ ¬ gs_pow (A' (54 + 3 * (F 0 12).toNat + 1 + 1)) (F' (54 + 3 * (F 0 12).toNat + 1) 1)))))) := by
  refine sC_of ok_X8_ring.1 (Nat.le_of_ble_eq_true rfl) ?_
  show sA _ _ _ 0 [(0, .ref 0)] [] F A
  have hf : gs_fr (fun c j => (c = 0 ∧ j = 12) ∨ (c = 3 ∧ j = 1) ∨ (F 0 12 < 12 ∧ 54 + 3 * (F 0 12).toNat ≤ c ∧ c ≤ 54 + 3 * (F 0 12).toNat + 1) ∨ (c = 13 ∧ j = 1)) (fun c => (F 0 12 < 12 ∧ c = 54 + 3 * (F 0 12).toNat + 1 + 1) ∨ c = 14) F A F A := gs_fr_refl _ _ _ _
  have b1 : (0 : Int) ≤ F 0 12 ∧ F 0 12 ≤ 12 := hI.1 0 12
  have b2 := gs_row_sz gs_row_3 hI
  refine sA_aload_n dd_X8_ring_0 rfl (.head _) ?_
  refine sA_getr (ci := 8) (j := 2) (q := (RX8, TX8, 13)) dd_X8_ring_1 rfl (by decide) fl_X8_26 (by decide) gs_s0 rfl ?_
  refine sA_geti (ci := 4) (j := 1) (q := (RX4, TX4, 2)) dd_X8_ring_4 rfl (by decide) fl_X8_88 (Nat.lt_of_succ_lt gs_row_3.1) gs_row_3.2.1 rfl ?_
  refine sA_if_ne (tgt := 14) dd_X8_ring_7 (by decide) (by omega) (fun q3 => ?_) (fun q3 => ?_)
  · skip
    refine sA_aload_n dd_X8_ring_14 rfl (.head _) ?_
    refine sA_geti (ci := 8) (j := 12) (q := (RX8, TX8, 13)) dd_X8_ring_15 rfl (by decide) fl_X8_94 (by decide) gs_s0 rfl ?_
    refine sA_bipush (z := 12) dd_X8_ring_18 (by decide) ?_
    refine sA_icmp_lt (tgt := 27) dd_X8_ring_20 (by decide) (by omega) (by omega) (fun q4 => ?_) (fun q4 => ?_)
    · skip
      refine sA_aload_n dd_X8_ring_27 rfl (.head _) ?_
      refine sA_getr (ci := 8) (j := 0) (q := (RX8, TX8, 13)) dd_X8_ring_28 rfl (by decide) fl_X8_11 (by decide) gs_s0 rfl ?_
      refine sA_aload_n dd_X8_ring_31 rfl (.head _) ?_
      refine sA_geti (ci := 8) (j := 12) (q := (RX8, TX8, 13)) dd_X8_ring_32 rfl (by decide) fl_X8_94 (by decide) gs_s0 rfl ?_
      refine sA_aald (n := 12) dd_X8_ring_35 (by decide) (by decide) (by decide) gs_s1 (by omega) (by decide) ?_
      have g5 := gs_ring_at (k := (F 0 12).toNat) (by omega)
      refine sA_aload_n dd_X8_ring_36 rfl (.head _) ?_
      refine sA_getr (ci := 8) (j := 2) (q := (RX8, TX8, 13)) dd_X8_ring_37 rfl (by decide) fl_X8_26 (by decide) gs_s0 rfl ?_
      refine sA_aload_n dd_X8_ring_40 rfl (.head _) ?_
      refine sA_getr (ci := 8) (j := 4) (q := (RX8, TX8, 13)) dd_X8_ring_41 rfl (by decide) fl_X8_40 (by decide) gs_s0 rfl ?_
      refine sA_callV (y2 := m_X3_become) (n2 := 2) (d2 := 6) (a := (54 + 3 * (F 0 12).toNat)) (ci := 3) (q := (RX3, TX3, 3)) (as := [.ref 3, .ref 12]) (rest := []) dd_X8_ring_44 ok_X3_become ml_X8_97 rfl rfl (Nat.lt_of_succ_lt g5.1) g5.2.1 rfl rfl (Nat.le_of_ble_eq_true rfl) (by decide) (c_X3_become_vf hI g5 gs_row_3 (by omega) (by omega)) (fun r6 F7 A8 h9 => ?_)
      obtain ⟨e11, I12, f13, x10⟩ := h9
      subst e11
      have v14 : F7 0 12 = F 0 12 := f13.1 0 12 (by first | exact id | omega | (dsimp only; omega) | (dsimp only) | fail)
      have v15 : F7 3 1 = F 3 1 := f13.1 3 1 (by first | exact id | omega | (dsimp only; omega) | (dsimp only) | fail)
      have f18 := gs_fr_tr hf f13 (fun b j h => by first | exact False.elim h | omega | (dsimp only at h ⊢; omega) | fail) (fun b h => by first | exact False.elim h | omega | (dsimp only at h ⊢; omega) | fail)
      have y19 : ∃ k : Int, gs_lo (A 4) (F 3 1) k ∧ F7 ((54 + 3 * (F 0 12).toNat) + 1) 1 = F 3 1 - 2 * k ∧ (∀ i : Nat, (i : Int) < F 3 1 - 2 * k → A8 ((54 + 3 * (F 0 12).toNat) + 1 + 1) i = A 4 (k.toNat + i)) ∧ ((F7 (54 + 3 * (F 0 12).toNat) 1 = 1 ∧ gs_pow (A8 ((54 + 3 * (F 0 12).toNat) + 1 + 1)) (F7 ((54 + 3 * (F 0 12).toNat) + 1) 1)) ∨ (F7 (54 + 3 * (F 0 12).toNat) 1 = 0 ∧ ¬ gs_pow (A8 ((54 + 3 * (F 0 12).toNat) + 1 + 1)) (F7 ((54 + 3 * (F 0 12).toNat) + 1) 1))) := x10
      clear x10
      show sA _ _ _ 47 _ [] _ _
      refine sA_aload_n dd_X8_ring_47 rfl (.head _) ?_
      refine sA_getr (ci := 8) (j := 2) (q := (RX8, TX8, 13)) dd_X8_ring_48 rfl (by decide) fl_X8_26 (by decide) gs_s0 rfl ?_
      refine sA_iconst (z := 0) dd_X8_ring_51 ?_
      refine sA_put (ci := 4) (j := 1) (q := (RX4, TX4, 2)) (ty := .int) dd_X8_ring_52 rfl (by decide) fl_X8_88 rfl (tyX4_ok 1 (by decide)) rfl rfl (Nat.lt_of_succ_lt gs_row_3.1) gs_row_3.2.1 rfl ?_
      have I21 : gs_I (gs_up F7 3 1 0) A8 := gs_row_put gs_row_3 I12 (by omega)
      have f22 := gs_fr_put f18 (a := 3) (z := 0) (j := 1) (by first | omega | (dsimp only; omega) | (dsimp only) | fail)
      have v23 : gs_up F7 3 1 0 3 1 = 0 := gs_up_self _ _ _ _
      have v24 : (gs_up F7 3 1 0) 0 12 = F7 0 12 := gs_up_ne _ _ (by omega)
      have v25 : (gs_up F7 3 1 0) (54 + 3 * (F 0 12).toNat + 1) 1 = F7 (54 + 3 * (F 0 12).toNat + 1) 1 := gs_up_ne _ _ (by omega)
      have v26 : (gs_up F7 3 1 0) (54 + 3 * (F 0 12).toNat) 1 = F7 (54 + 3 * (F 0 12).toNat) 1 := gs_up_ne _ _ (by omega)
      generalize gs_up F7 3 1 0 = F20 at I21 f22 v23 v24 v25 v26 ⊢
      refine sA_aload_n dd_X8_ring_55 rfl (.head _) ?_
      refine sA_dup dd_X8_ring_56 rfl ?_
      refine sA_geti (ci := 8) (j := 12) (q := (RX8, TX8, 13)) dd_X8_ring_57 rfl (by decide) fl_X8_94 (by decide) gs_s0 rfl ?_
      have b27 : (0 : Int) ≤ F20 0 12 ∧ F20 0 12 ≤ 12 := I21.1 0 12
      refine sA_iconst (z := 1) dd_X8_ring_60 ?_
      refine sA_iadd dd_X8_ring_61 ?_
      refine sA_put (ci := 8) (j := 12) (q := (RX8, TX8, 13)) (ty := .int) dd_X8_ring_62 rfl (by decide) fl_X8_94 rfl (tyX8_ok 12 (by decide)) rfl rfl (by decide) gs_s0 rfl ?_
      have I29 : gs_I (gs_up F20 0 12 ((F20 0 12) + 1)) A8 := gs_I_put I21 (show (0 : Int) ≤ (F20 0 12) + 1 ∧ (F20 0 12) + 1 ≤ 12 by omega)
      have f30 := gs_fr_put f22 (a := 0) (z := (F20 0 12) + 1) (j := 12) (by first | omega | (dsimp only; omega) | (dsimp only) | fail)
      have v31 : gs_up F20 0 12 ((F20 0 12) + 1) 0 12 = (F20 0 12) + 1 := gs_up_self _ _ _ _
      have v32 : (gs_up F20 0 12 ((F20 0 12) + 1)) 3 1 = F20 3 1 := gs_up_ne _ _ (by omega)
      have v33 : (gs_up F20 0 12 ((F20 0 12) + 1)) (54 + 3 * (F 0 12).toNat + 1) 1 = F20 (54 + 3 * (F 0 12).toNat + 1) 1 := gs_up_ne _ _ (by omega)
      have v34 : (gs_up F20 0 12 ((F20 0 12) + 1)) (54 + 3 * (F 0 12).toNat) 1 = F20 (54 + 3 * (F 0 12).toNat) 1 := gs_up_ne _ _ (by omega)
      generalize gs_up F20 0 12 ((F20 0 12) + 1) = F28 at I29 f30 v31 v32 v33 v34 ⊢
      refine sA_aload_n dd_X8_ring_65 rfl (.head _) ?_
      refine sA_geti (ci := 8) (j := 12) (q := (RX8, TX8, 13)) dd_X8_ring_66 rfl (by decide) fl_X8_94 (by decide) gs_s0 rfl ?_
      have b35 : (0 : Int) ≤ F28 0 12 ∧ F28 0 12 ≤ 12 := I29.1 0 12
      refine sA_iconst (z := 1) dd_X8_ring_69 ?_
      refine sA_isub dd_X8_ring_70 ?_
      refine sA_iret (z := (F28 0 12) - 1) dd_X8_ring_71 rfl ?_
      refine ⟨_, rfl, I29, f30, ?_⟩
      obtain ⟨k, k1, k2, k3, k4⟩ := y19
      refine .inr (.inr ⟨by omega, by omega, by omega, by omega, by omega, k, k1, by omega, k3, ?_⟩)
      have e3 : F28 (54 + 3 * (F 0 12).toNat + 1) 1 = F7 (54 + 3 * (F 0 12).toNat + 1) 1 := by omega
      have e4 : F28 (54 + 3 * (F 0 12).toNat) 1 = F7 (54 + 3 * (F 0 12).toNat) 1 := by omega
      rw [e3, e4]
      exact k4
    · skip
      refine sA_sipush (z := (-1004)) dd_X8_ring_23 (by decide) ?_
      refine sA_iret (z := -1004) dd_X8_ring_26 rfl ?_
      refine ⟨_, rfl, hI, hf, ?_⟩
      exact .inr (.inl ⟨by omega, by omega, by omega, by omega, by omega⟩)
  · skip
    refine sA_sipush (z := (-1003)) dd_X8_ring_10 (by decide) ?_
    refine sA_iret (z := -1003) dd_X8_ring_13 rfl ?_
    refine ⟨_, rfl, hI, hf, ?_⟩
    exact .inl ⟨by omega, by omega, by omega, by omega⟩
theorem c_X8_at_vf {r i : Int} {F A : gs_F} (hI : gs_I F A) (hr : -2147483648 ≤ r ∧ r ≤ 2147483647) (hi : -2147483648 ≤ i ∧ i ≤ 2147483647) : sC m_X8_at 2 [.ref 0, gs_iv r, gs_iv i] F A (fun rv F' A' => ∃ z : Int, rv = some (gs_iv z) ∧ F = F' ∧ A = A' ∧ (((r < 0 ∨ F 0 12 ≤ r) ∧ z = -1001) ∨ (0 ≤ r ∧ r < F 0 12 ∧ ((0 ≤ i ∧ i < F (54 + 3 * r.toNat + 1) 1 ∧ z = A (54 + 3 * r.toNat + 1 + 1) i.toNat) ∨ ((i < 0 ∨ F (54 + 3 * r.toNat + 1) 1 ≤ i) ∧ z = -1))))) := by
  refine sC_of ok_X8_at.1 (Nat.le_of_ble_eq_true rfl) ?_
  show sA _ _ _ 0 [(0, .ref 0), (1, gs_iv r), (2, gs_iv i)] [] F A
  refine sA_aload_n dd_X8_at_0 rfl (.head _) ?_
  refine sA_iload_n dd_X8_at_1 rfl (.tail _ (.head _)) ?_
  refine sA_callV (y2 := m_X8_isRing) (n2 := 1) (d2 := 1) (a := 0) (ci := 8) (q := (RX8, TX8, 13)) (as := [gs_iv r]) (rest := []) dd_X8_at_2 ok_X8_isRing ml_X8_101 rfl rfl (by decide) gs_s0 rfl rfl (Nat.le_of_ble_eq_true rfl) (by decide) (c_X8_isRing hI (by omega)) (fun r1 F2 A3 h4 => ?_)
  obtain ⟨z7, e6, e8, e9, x5⟩ := h4
  subst e6 e8 e9
  show sA _ _ _ 5 _ [gs_iv z7] _ _
  refine sA_if_ne (tgt := 12) dd_X8_at_5 (by decide) (by omega) (fun q10 => ?_) (fun q10 => ?_)
  · skip
    refine sA_aload_n dd_X8_at_12 rfl (.head _) ?_
    refine sA_getr (ci := 8) (j := 0) (q := (RX8, TX8, 13)) dd_X8_at_13 rfl (by decide) fl_X8_11 (by decide) gs_s0 rfl ?_
    refine sA_iload_n dd_X8_at_16 rfl (.tail _ (.head _)) ?_
    refine sA_aald (n := 12) dd_X8_at_17 (by decide) (by decide) (by decide) gs_s1 (by omega) (by decide) ?_
    have g11 := gs_ring_at (k := r.toNat) (by omega)
    refine sA_getr (ci := 3) (j := 0) (q := (RX3, TX3, 3)) dd_X8_at_18 rfl (by decide) fl_X8_105 (Nat.lt_of_succ_lt g11.1) g11.2.1 rfl ?_
    refine sA_astore_n (lv' := [(3, .ref (54 + 3 * r.toNat + 1)), (0, .ref 0), (1, gs_iv r), (2, gs_iv i)]) dd_X8_at_21 rfl (by decide) rfl ?_
    refine sA_iload_n dd_X8_at_22 rfl (.tail _ (.tail _ (.tail _ (.head _)))) ?_
    refine sA_if_lt (tgt := 43) dd_X8_at_23 (by decide) (by omega) (fun q12 => ?_) (fun q12 => ?_)
    · skip
      refine sA_iconst (z := (-1)) dd_X8_at_43 ?_
      refine sA_iret (z := -1) dd_X8_at_44 rfl ?_
      exact ⟨_, rfl, rfl, rfl, by omega⟩
    · skip
      refine sA_iload_n dd_X8_at_26 rfl (.tail _ (.tail _ (.tail _ (.head _)))) ?_
      refine sA_aload_n dd_X8_at_27 rfl (.head _) ?_
      refine sA_geti (ci := 4) (j := 1) (q := (RX4, TX4, 2)) dd_X8_at_28 rfl (by decide) fl_X8_88 (Nat.lt_of_succ_lt g11.2.2.1.1) g11.2.2.1.2.1 rfl ?_
      have b13 := gs_row_sz g11.2.2.1 hI
      refine sA_icmp_ge (tgt := 43) dd_X8_at_31 (by decide) (by omega) (by omega) (fun q14 => ?_) (fun q14 => ?_)
      · skip
        refine sA_iconst (z := (-1)) dd_X8_at_43 ?_
        refine sA_iret (z := -1) dd_X8_at_44 rfl ?_
        exact ⟨_, rfl, rfl, rfl, by omega⟩
      · skip
        refine sA_aload_n dd_X8_at_34 rfl (.head _) ?_
        refine sA_getr (ci := 4) (j := 0) (q := (RX4, TX4, 2)) dd_X8_at_35 rfl (by decide) fl_X8_123 (Nat.lt_of_succ_lt g11.2.2.1.1) g11.2.2.1.2.1 rfl ?_
        refine sA_iload_n dd_X8_at_38 rfl (.tail _ (.tail _ (.tail _ (.head _)))) ?_
        refine sA_iald (n := 60) dd_X8_at_39 g11.2.2.1.1 g11.2.2.1.2.2.1 (by omega) (Nat.le_trans g11.2.2.1.2.2.2.2.2.2 (by decide)) ?_
        have b15 := gs_row_el g11.2.2.1 hI i.toNat
        refine sA_goto (tgt := 44) dd_X8_at_40 (by decide) ?_
        refine sA_iret (z := A (54 + 3 * r.toNat + 1 + 1) i.toNat) dd_X8_at_44 rfl ?_
        exact ⟨_, rfl, rfl, rfl, by omega⟩
  · skip
    refine sA_sipush (z := (-1001)) dd_X8_at_8 (by decide) ?_
    refine sA_iret (z := -1001) dd_X8_at_11 rfl ?_
    exact ⟨_, rfl, rfl, rfl, by omega⟩
theorem c_X8_one_vf {r s : Int} {F A : gs_F} (hI : gs_I F A) (hr : -2147483648 ≤ r ∧ r ≤ 2147483647) (hs : -2147483648 ≤ s ∧ s ≤ 2147483647) : sC m_X8_one 3 [.ref 0, gs_iv r, gs_iv s] F A (fun rv F' A' => ∃ z : Int, rv = some (gs_iv z) ∧ F = F' ∧ A = A' ∧ (((r < 0 ∨ F 0 12 ≤ r ∨ s < 0 ∨ F 0 12 ≤ s) ∧ z = -1001) ∨ (0 ≤ r ∧ r < F 0 12 ∧ 0 ≤ s ∧ s < F 0 12 ∧ ((z = 1 ∧ gs_on (A (54 + 3 * r.toNat + 1 + 1)) (F (54 + 3 * r.toNat + 1) 1) (A (54 + 3 * s.toNat + 1 + 1)) (F (54 + 3 * s.toNat + 1) 1)) ∨ (z = 0 ∧ ¬ gs_on (A (54 + 3 * r.toNat + 1 + 1)) (F (54 + 3 * r.toNat + 1) 1) (A (54 + 3 * s.toNat + 1 + 1)) (F (54 + 3 * s.toNat + 1) 1)))))) := by
  refine sC_of ok_X8_one.1 (Nat.le_of_ble_eq_true rfl) ?_
  show sA _ _ _ 0 [(0, .ref 0), (1, gs_iv r), (2, gs_iv s)] [] F A
  refine sA_aload_n dd_X8_one_0 rfl (.head _) ?_
  refine sA_iload_n dd_X8_one_1 rfl (.tail _ (.head _)) ?_
  refine sA_callV (y2 := m_X8_isRing) (n2 := 1) (d2 := 1) (a := 0) (ci := 8) (q := (RX8, TX8, 13)) (as := [gs_iv r]) (rest := []) dd_X8_one_2 ok_X8_isRing ml_X8_101 rfl rfl (by decide) gs_s0 rfl rfl (Nat.le_of_ble_eq_true rfl) (by decide) (c_X8_isRing hI (by omega)) (fun r1 F2 A3 h4 => ?_)
  obtain ⟨z7, e6, e8, e9, x5⟩ := h4
  subst e6 e8 e9
  show sA _ _ _ 5 _ [gs_iv z7] _ _
  refine sA_if_eq (tgt := 16) dd_X8_one_5 (by decide) (by omega) (fun q10 => ?_) (fun q10 => ?_)
  · skip
    refine sA_sipush (z := (-1001)) dd_X8_one_16 (by decide) ?_
    refine sA_iret (z := -1001) dd_X8_one_19 rfl ?_
    refine ⟨_, rfl, rfl, rfl, ?_⟩
    exact .inl ⟨by omega, rfl⟩
  · skip
    refine sA_aload_n dd_X8_one_8 rfl (.head _) ?_
    refine sA_iload_n dd_X8_one_9 rfl (.tail _ (.tail _ (.head _))) ?_
    refine sA_callV (y2 := m_X8_isRing) (n2 := 1) (d2 := 1) (a := 0) (ci := 8) (q := (RX8, TX8, 13)) (as := [gs_iv s]) (rest := []) dd_X8_one_10 ok_X8_isRing ml_X8_101 rfl rfl (by decide) gs_s0 rfl rfl (Nat.le_of_ble_eq_true rfl) (by decide) (c_X8_isRing hI (by omega)) (fun r11 F12 A13 h14 => ?_)
    obtain ⟨z17, e16, e18, e19, x15⟩ := h14
    subst e16 e18 e19
    show sA _ _ _ 13 _ [gs_iv z17] _ _
    refine sA_if_ne (tgt := 20) dd_X8_one_13 (by decide) (by omega) (fun q20 => ?_) (fun q20 => ?_)
    · skip
      refine sA_aload_n dd_X8_one_20 rfl (.head _) ?_
      refine sA_getr (ci := 8) (j := 0) (q := (RX8, TX8, 13)) dd_X8_one_21 rfl (by decide) fl_X8_11 (by decide) gs_s0 rfl ?_
      refine sA_iload_n dd_X8_one_24 rfl (.tail _ (.head _)) ?_
      refine sA_aald (n := 12) dd_X8_one_25 (by decide) (by decide) (by decide) gs_s1 (by omega) (by decide) ?_
      have g21 := gs_ring_at (k := r.toNat) (by omega)
      refine sA_getr (ci := 3) (j := 0) (q := (RX3, TX3, 3)) dd_X8_one_26 rfl (by decide) fl_X8_105 (Nat.lt_of_succ_lt g21.1) g21.2.1 rfl ?_
      refine sA_aload_n dd_X8_one_29 rfl (.head _) ?_
      refine sA_getr (ci := 8) (j := 0) (q := (RX8, TX8, 13)) dd_X8_one_30 rfl (by decide) fl_X8_11 (by decide) gs_s0 rfl ?_
      refine sA_iload_n dd_X8_one_33 rfl (.tail _ (.tail _ (.head _))) ?_
      refine sA_aald (n := 12) dd_X8_one_34 (by decide) (by decide) (by decide) gs_s1 (by omega) (by decide) ?_
      have g22 := gs_ring_at (k := s.toNat) (by omega)
      refine sA_getr (ci := 3) (j := 0) (q := (RX3, TX3, 3)) dd_X8_one_35 rfl (by decide) fl_X8_105 (Nat.lt_of_succ_lt g22.1) g22.2.1 rfl ?_
      refine sA_callV (y2 := m_X4_isOneWith) (n2 := 1) (d2 := 2) (a := (54 + 3 * r.toNat + 1)) (ci := 4) (q := (RX4, TX4, 2)) (as := [.ref (54 + 3 * s.toNat + 1)]) (rest := []) dd_X8_one_38 ok_X4_isOneWith ml_X8_131 rfl rfl (Nat.lt_of_succ_lt g21.2.2.1.1) g21.2.2.1.2.1 rfl rfl (Nat.le_of_ble_eq_true rfl) (by decide) (c_X4_isOneWith_vf hI g21.2.2.1 g22.2.2.1) (fun r23 F24 A25 h26 => ?_)
      obtain ⟨z29, e28, e30, e31, x27⟩ := h26
      subst e28 e30 e31
      have y32 : (z29 = 1 ∧ gs_on (A ((54 + 3 * r.toNat + 1) + 1)) (F (54 + 3 * r.toNat + 1) 1) (A ((54 + 3 * s.toNat + 1) + 1)) (F (54 + 3 * s.toNat + 1) 1)) ∨ (z29 = 0 ∧ ¬ gs_on (A ((54 + 3 * r.toNat + 1) + 1)) (F (54 + 3 * r.toNat + 1) 1) (A ((54 + 3 * s.toNat + 1) + 1)) (F (54 + 3 * s.toNat + 1) 1)) := x27
      clear x27
      show sA _ _ _ 41 _ [gs_iv z29] _ _
      have hz38 : z29 = 0 ∨ z29 = 1 := by omega
      refine sA_callS (y2 := m_X8_oneIf) (n2 := 1) (d2 := 1) (as := [gs_iv z29]) (rest := []) dd_X8_one_41 ok_X8_oneIf ml_X8_112 rfl rfl (Nat.le_of_ble_eq_true rfl) (by decide) (c_X8_oneIf (by omega)) (fun r33 F34 A35 h36 => ?_)
      obtain ⟨z39, e38, e40, e41, x37⟩ := h36
      subst e38 e40 e41
      show sA _ _ _ 44 _ [gs_iv z39] _ _
      refine sA_iret (z := z39) dd_X8_one_44 rfl ?_
      refine ⟨_, rfl, rfl, rfl, ?_⟩
      refine .inr ⟨by omega, by omega, by omega, by omega, ?_⟩
      rcases y32 with h | h <;> first | exact .inl ⟨by omega, h.2⟩ | exact .inr ⟨by omega, h.2⟩ | fail
    · skip
      refine sA_sipush (z := (-1001)) dd_X8_one_16 (by decide) ?_
      refine sA_iret (z := -1001) dd_X8_one_19 rfl ?_
      refine ⟨_, rfl, rfl, rfl, ?_⟩
      exact .inl ⟨by omega, rfl⟩
theorem k_X9_ring_vg  {F A : gs_F} (hI : gs_I F A) (hX : ∀ r : Nat, (r : Int) < F 106 3 → 1 ≤ A 108 r) (hD : gs_D1 (F 106 1).toNat (A 107)) : ∀ nN : Nat, (∀ (fm : Int) (t : Int)  (F1 A1 : gs_F), gs_I F1 A1 → gs_fr (fun c j => c = 106 ∧ (j = 1 ∨ j = 3)) (fun c => c = 108 ∨ c = 109) F A F1 A1 → 0 ≤ fm ∧ fm ≤ t → t ≤ 60 → F1 106 3 = F 106 3 ∧ F1 106 1 = F 106 1 → (∀ r : Nat, (r : Int) < F1 106 3 → 1 ≤ A1 108 r) → fm + t = F 106 1 → F 106 1 = 0 ∨ fm < t → (∀ j : Int, 0 ≤ j → j < fm → A 107 j.toNat = -(A 107 (F 106 1 - 1 - j).toNat)) → A1 108 = A 108 → A1 109 = A 109 → t - fm + 1000 < (nN : Int) → sA m_X9_ring 1 (fun rv F' A' => ∃ z : Int, rv = some (gs_iv z) ∧ gs_I F' A' ∧ gs_fr (fun c j => c = 106 ∧ (j = 1 ∨ j = 3)) (fun c => c = 108 ∨ c = 109) F A F' A' ∧ (((F 106 1 = 0 ∧ z = -1003 ∧ F' 106 3 = F 106 3 ∧ F' 106 1 = F 106 1 ∧ A' 108 = A 108 ∧ A' 109 = A 109) ∨ (F 106 1 ≠ 0 ∧ F 106 3 = 12 ∧ z = -1004 ∧ F' 106 3 = F 106 3 ∧ F' 106 1 = F 106 1 ∧ A' 108 = A 108 ∧ A' 109 = A 109) ∨ (F 106 1 ≠ 0 ∧ F 106 3 < 12 ∧ z = F 106 3 ∧ F' 106 3 = F 106 3 + 1 ∧ F' 106 1 = 0 ∧ ∃ k : Int, gs_lo (A 107) (F 106 1) k ∧ 2 * k < F 106 1 ∧ A' 108 = gs_u (A 108) (F 106 3).toNat (F 106 1 - 2 * k) ∧ (∀ i : Int, 0 ≤ i → i < F 106 1 - 2 * k → A' 109 (60 * F 106 3 + i).toNat = A 107 (k + i).toNat) ∧ (∀ i : Int, 0 ≤ i → i < 60 * F 106 3 → A' 109 i.toNat = A 109 i.toNat))) ∧ (∀ r : Nat, (r : Int) < F' 106 3 → 1 ≤ A' 108 r))) 7 [(1, gs_iv fm), (2, gs_iv t), (0, .ref 106)] [] F1 A1) ∧ (∀ (fm : Int) (t : Int) (k : Int)  (F1 A1 : gs_F), gs_I F1 A1 → gs_fr (fun c j => c = 106 ∧ (j = 1 ∨ j = 3)) (fun c => c = 108 ∨ c = 109) F A F1 A1 → 0 ≤ fm ∧ fm ≤ k → k ≤ t ∧ t ≤ 60 → F1 106 3 = F 106 3 ∧ F 106 3 < 12 → (∀ r : Nat, (r : Int) ≤ F1 106 3 → 1 ≤ A1 108 r) → F 106 1 ≠ 0 → fm + t = F 106 1 ∧ fm < t → gs_lo (A 107) (F 106 1) fm → A1 108 = gs_u (A 108) (F 106 3).toNat (F 106 1 - 2 * fm) → (∀ i : Int, 0 ≤ i → i < k - fm → A1 109 (60 * F 106 3 + i).toNat = A 107 (fm + i).toNat) → (∀ i : Int, 0 ≤ i → i < 60 * F 106 3 → A1 109 i.toNat = A 109 i.toNat) → t - k < (nN : Int) → sA m_X9_ring 1 (fun rv F' A' => ∃ z : Int, rv = some (gs_iv z) ∧ gs_I F' A' ∧ gs_fr (fun c j => c = 106 ∧ (j = 1 ∨ j = 3)) (fun c => c = 108 ∨ c = 109) F A F' A' ∧ (((F 106 1 = 0 ∧ z = -1003 ∧ F' 106 3 = F 106 3 ∧ F' 106 1 = F 106 1 ∧ A' 108 = A 108 ∧ A' 109 = A 109) ∨ (F 106 1 ≠ 0 ∧ F 106 3 = 12 ∧ z = -1004 ∧ F' 106 3 = F 106 3 ∧ F' 106 1 = F 106 1 ∧ A' 108 = A 108 ∧ A' 109 = A 109) ∨ (F 106 1 ≠ 0 ∧ F 106 3 < 12 ∧ z = F 106 3 ∧ F' 106 3 = F 106 3 + 1 ∧ F' 106 1 = 0 ∧ ∃ k : Int, gs_lo (A 107) (F 106 1) k ∧ 2 * k < F 106 1 ∧ A' 108 = gs_u (A 108) (F 106 3).toNat (F 106 1 - 2 * k) ∧ (∀ i : Int, 0 ≤ i → i < F 106 1 - 2 * k → A' 109 (60 * F 106 3 + i).toNat = A 107 (k + i).toNat) ∧ (∀ i : Int, 0 ≤ i → i < 60 * F 106 3 → A' 109 i.toNat = A 109 i.toNat))) ∧ (∀ r : Nat, (r : Int) < F' 106 3 → 1 ≤ A' 108 r))) 80 [(3, gs_iv k), (1, gs_iv fm), (2, gs_iv t), (0, .ref 106)] [] F1 A1) := by
  intro nN
  induction nN with
  | zero =>
    exact ⟨fun a0 a1 a2 a3 a4 a5 i0 i1 i2 i3 i4 i5 i6 i7 i8 hm => by exfalso; omega, fun a0 a1 a2 a3 a4 a5 a6 i0 i1 i2 i3 i4 i5 i6 i7 i8 i9 hm => by exfalso; omega⟩
  | succ nN ih =>
    refine ⟨?_, ?_⟩
    · skip
      intro fm t F1 A1 hI1 hf1 i0 i1 i2 i3 i4 i5 i6 i7 i8 hm
      have b1 : (0 : Int) ≤ F1 106 1 ∧ F1 106 1 ≤ 60 := hI1.1 106 1
      have b2 : (0 : Int) ≤ F1 106 3 ∧ F1 106 3 ≤ 12 := hI1.1 106 3
      have u3 : A1 108 = A1 108 := rfl
      have u4 : A1 109 = A1 109 := rfl
      refine sA_iload_n dd_X9_ring_7 rfl (.tail _ (.head _)) ?_
      refine sA_iload_n dd_X9_ring_8 rfl (.head _) ?_
      refine sA_isub dd_X9_ring_9 ?_
      refine sA_iconst (z := 1) dd_X9_ring_10 ?_
      refine sA_icmp_le (tgt := 42) dd_X9_ring_11 (by decide) (by omega) (by omega) (fun q5 => ?_) (fun q5 => ?_)
      · skip
        refine sA_iload_n dd_X9_ring_42 rfl (.tail _ (.head _)) ?_
        refine sA_iload_n dd_X9_ring_43 rfl (.head _) ?_
        refine sA_isub dd_X9_ring_44 ?_
        refine sA_iconst (z := 1) dd_X9_ring_45 ?_
        refine sA_icmp_ge (tgt := 53) dd_X9_ring_46 (by decide) (by omega) (by omega) (fun q6 => ?_) (fun q6 => ?_)
        · skip
          refine sA_aload_n dd_X9_ring_53 rfl (.tail _ (.tail _ (.head _))) ?_
          refine sA_geti (ci := 9) (j := 3) (q := (RX9, TX9, 28)) dd_X9_ring_54 rfl (by decide) fl_X9_70 (by decide) gs_s106 rfl ?_
          refine sA_bipush (z := 12) dd_X9_ring_57 (by decide) ?_
          refine sA_icmp_ne (tgt := 66) dd_X9_ring_59 (by decide) (by omega) (by omega) (fun q7 => ?_) (fun q7 => ?_)
          · skip
            have h107 : A1 107 = A 107 := hf1.2 107 (by dsimp only; omega)
            have hlo : gs_lo (A 107) (F 106 1) fm := ⟨by omega, by omega, i6, fun w => by
              have w2 := w.2
              rw [← h107, show F 106 1 - 1 - fm = t - 1 by omega] at w2
              omega⟩
            refine sA_aload_n dd_X9_ring_66 rfl (.tail _ (.tail _ (.head _))) ?_
            refine sA_getr (ci := 9) (j := 4) (q := (RX9, TX9, 28)) dd_X9_ring_67 rfl (by decide) fl_X9_13 (by decide) gs_s106 rfl ?_
            refine sA_aload_n dd_X9_ring_70 rfl (.tail _ (.tail _ (.head _))) ?_
            refine sA_geti (ci := 9) (j := 3) (q := (RX9, TX9, 28)) dd_X9_ring_71 rfl (by decide) fl_X9_70 (by decide) gs_s106 rfl ?_
            refine sA_iload_n dd_X9_ring_74 rfl (.tail _ (.head _)) ?_
            refine sA_iload_n dd_X9_ring_75 rfl (.head _) ?_
            refine sA_isub dd_X9_ring_76 ?_
            refine sA_iast (n := 12) dd_X9_ring_77 (by decide) gs_s108 (by omega) (by decide) ?_
            have I9 : gs_I F1 (gs_up A1 108 ((F1 106 3).toNat) (t - fm)) := gs_I_ast hI1 (show (0 : Int) ≤ t - fm ∧ t - fm ≤ 60 by omega)
            have f10 := gs_fr_ast hf1 (a := 108) (z := t - fm) (i := (F1 106 3).toNat) (by first | omega | (dsimp only; omega) | (dsimp only) | fail)
            have v11 := gs_up_cs A1 108 ((F1 106 3).toNat) (t - fm)
            have u12 : (gs_up A1 108 ((F1 106 3).toNat) (t - fm)) 108 = gs_u (A1 108) ((F1 106 3).toNat) (t - fm) := (gs_up_u A1 108 ((F1 106 3).toNat) (t - fm)).trans (congrArg (fun f => gs_u f ((F1 106 3).toNat) (t - fm)) u3)
            have u13 : (gs_up A1 108 ((F1 106 3).toNat) (t - fm)) 109 = A1 109 := (gs_up_row _ _ (by omega)).trans u4
            generalize gs_up A1 108 ((F1 106 3).toNat) (t - fm) = A8 at I9 f10 v11 u12 u13 ⊢
            refine sA_iload_n dd_X9_ring_78 rfl (.head _) ?_
            refine sA_istore_n (lv' := [(3, gs_iv fm), (1, gs_iv fm), (2, gs_iv t), (0, .ref 106)]) dd_X9_ring_79 rfl (by decide) rfl ?_
            refine sA_sub (lv2 := [(3, gs_iv fm), (1, gs_iv fm), (2, gs_iv t), (0, .ref 106)]) (List.forall_mem_cons.mpr ⟨(.head _), (List.forall_mem_cons.mpr ⟨(.tail _ (.head _)), (List.forall_mem_cons.mpr ⟨(.tail _ (.tail _ (.head _))), (List.forall_mem_cons.mpr ⟨(.tail _ (.tail _ (.tail _ (.head _)))), (fun _ h => absurd h List.not_mem_nil)⟩)⟩)⟩)⟩) ?_
            exact ih.2 fm t fm F1 A8 I9 f10 (by omega) (by omega) (by omega) (by intro r h; first | (rw [v11]; exact i3 r h) | (have q := v11 r; have q2 := i3 r; omega) | fail) (by omega) (by omega) (by first | exact hlo | exact i6 | fail) (by first | exact u12.trans i7 | exact u12.trans (by rw [i7, show F1 106 3 = F 106 3 by omega, show t - fm = F 106 1 - 2 * fm by omega]) | fail) (by first | (intro i h1 h2; exfalso; omega) | exact gs_ring_ext (by omega) (by omega) (by omega) (u13.trans (by rw [hf1.2 107 (by dsimp only; omega), show F1 106 3 = F 106 3 by omega])) i8 | fail) (by first | (intro i h1 h2; rw [u13, gs_u_ne _ _ (by omega)]; exact i9 i h1 h2) | (intro i h1 h2; rw [u13, i8]) | fail) (by omega)
          · skip
            refine sA_sipush (z := (-1004)) dd_X9_ring_62 (by decide) ?_
            refine sA_iret (z := -1004) dd_X9_ring_65 rfl ?_
            refine ⟨_, rfl, hI1, hf1, ?_⟩
            exact ⟨.inr (.inl ⟨by omega, by omega, by omega, by omega, by omega, u3.trans i7, u4.trans i8⟩), i3⟩
        · skip
          refine sA_sipush (z := (-1003)) dd_X9_ring_49 (by decide) ?_
          refine sA_iret (z := -1003) dd_X9_ring_52 rfl ?_
          refine ⟨_, rfl, hI1, hf1, ?_⟩
          exact ⟨.inl ⟨by omega, by omega, by omega, by omega, u3.trans i7, u4.trans i8⟩, i3⟩
      · skip
        refine sA_aload_n dd_X9_ring_14 rfl (.tail _ (.tail _ (.head _))) ?_
        refine sA_getr (ci := 9) (j := 2) (q := (RX9, TX9, 28)) dd_X9_ring_15 rfl (by decide) fl_X9_7 (by decide) gs_s106 rfl ?_
        refine sA_iload_n dd_X9_ring_18 rfl (.head _) ?_
        refine sA_iald (n := 60) dd_X9_ring_19 (by decide) gs_s107 (by omega) (by decide) ?_
        have b14 : (-9 : Int) ≤ A1 107 fm.toNat ∧ A1 107 fm.toNat ≤ 9 := hI1.2 107 fm.toNat
        refine sA_iconst (z := 0) dd_X9_ring_20 ?_
        refine sA_aload_n dd_X9_ring_21 rfl (.tail _ (.tail _ (.head _))) ?_
        refine sA_getr (ci := 9) (j := 2) (q := (RX9, TX9, 28)) dd_X9_ring_22 rfl (by decide) fl_X9_7 (by decide) gs_s106 rfl ?_
        refine sA_iload_n dd_X9_ring_25 rfl (.tail _ (.head _)) ?_
        refine sA_iconst (z := 1) dd_X9_ring_26 ?_
        refine sA_isub dd_X9_ring_27 ?_
        refine sA_iald (n := 60) dd_X9_ring_28 (by decide) gs_s107 (by omega) (by decide) ?_
        have b15 : (-9 : Int) ≤ A1 107 (t - 1).toNat ∧ A1 107 (t - 1).toNat ≤ 9 := hI1.2 107 (t - 1).toNat
        refine sA_isub dd_X9_ring_29 ?_
        refine sA_icmp_ne (tgt := 42) dd_X9_ring_30 (by decide) (by omega) (by omega) (fun q16 => ?_) (fun q16 => ?_)
        · skip
          refine sA_iload_n dd_X9_ring_42 rfl (.tail _ (.head _)) ?_
          refine sA_iload_n dd_X9_ring_43 rfl (.head _) ?_
          refine sA_isub dd_X9_ring_44 ?_
          refine sA_iconst (z := 1) dd_X9_ring_45 ?_
          refine sA_icmp_ge (tgt := 53) dd_X9_ring_46 (by decide) (by omega) (by omega) (fun q17 => ?_) (fun q17 => ?_)
          · skip
            refine sA_aload_n dd_X9_ring_53 rfl (.tail _ (.tail _ (.head _))) ?_
            refine sA_geti (ci := 9) (j := 3) (q := (RX9, TX9, 28)) dd_X9_ring_54 rfl (by decide) fl_X9_70 (by decide) gs_s106 rfl ?_
            refine sA_bipush (z := 12) dd_X9_ring_57 (by decide) ?_
            refine sA_icmp_ne (tgt := 66) dd_X9_ring_59 (by decide) (by omega) (by omega) (fun q18 => ?_) (fun q18 => ?_)
            · skip
              have h107 : A1 107 = A 107 := hf1.2 107 (by dsimp only; omega)
              have hlo : gs_lo (A 107) (F 106 1) fm := ⟨by omega, by omega, i6, fun w => by
                have w2 := w.2
                rw [← h107, show F 106 1 - 1 - fm = t - 1 by omega] at w2
                omega⟩
              refine sA_aload_n dd_X9_ring_66 rfl (.tail _ (.tail _ (.head _))) ?_
              refine sA_getr (ci := 9) (j := 4) (q := (RX9, TX9, 28)) dd_X9_ring_67 rfl (by decide) fl_X9_13 (by decide) gs_s106 rfl ?_
              refine sA_aload_n dd_X9_ring_70 rfl (.tail _ (.tail _ (.head _))) ?_
              refine sA_geti (ci := 9) (j := 3) (q := (RX9, TX9, 28)) dd_X9_ring_71 rfl (by decide) fl_X9_70 (by decide) gs_s106 rfl ?_
              refine sA_iload_n dd_X9_ring_74 rfl (.tail _ (.head _)) ?_
              refine sA_iload_n dd_X9_ring_75 rfl (.head _) ?_
              refine sA_isub dd_X9_ring_76 ?_
              refine sA_iast (n := 12) dd_X9_ring_77 (by decide) gs_s108 (by omega) (by decide) ?_
              have I20 : gs_I F1 (gs_up A1 108 ((F1 106 3).toNat) (t - fm)) := gs_I_ast hI1 (show (0 : Int) ≤ t - fm ∧ t - fm ≤ 60 by omega)
              have f21 := gs_fr_ast hf1 (a := 108) (z := t - fm) (i := (F1 106 3).toNat) (by first | omega | (dsimp only; omega) | (dsimp only) | fail)
              have v22 := gs_up_cs A1 108 ((F1 106 3).toNat) (t - fm)
              have u23 : (gs_up A1 108 ((F1 106 3).toNat) (t - fm)) 108 = gs_u (A1 108) ((F1 106 3).toNat) (t - fm) := (gs_up_u A1 108 ((F1 106 3).toNat) (t - fm)).trans (congrArg (fun f => gs_u f ((F1 106 3).toNat) (t - fm)) u3)
              have u24 : (gs_up A1 108 ((F1 106 3).toNat) (t - fm)) 109 = A1 109 := (gs_up_row _ _ (by omega)).trans u4
              generalize gs_up A1 108 ((F1 106 3).toNat) (t - fm) = A19 at I20 f21 v22 u23 u24 ⊢
              refine sA_iload_n dd_X9_ring_78 rfl (.head _) ?_
              refine sA_istore_n (lv' := [(3, gs_iv fm), (1, gs_iv fm), (2, gs_iv t), (0, .ref 106)]) dd_X9_ring_79 rfl (by decide) rfl ?_
              refine sA_sub (lv2 := [(3, gs_iv fm), (1, gs_iv fm), (2, gs_iv t), (0, .ref 106)]) (List.forall_mem_cons.mpr ⟨(.head _), (List.forall_mem_cons.mpr ⟨(.tail _ (.head _)), (List.forall_mem_cons.mpr ⟨(.tail _ (.tail _ (.head _))), (List.forall_mem_cons.mpr ⟨(.tail _ (.tail _ (.tail _ (.head _)))), (fun _ h => absurd h List.not_mem_nil)⟩)⟩)⟩)⟩) ?_
              exact ih.2 fm t fm F1 A19 I20 f21 (by omega) (by omega) (by omega) (by intro r h; first | (rw [v22]; exact i3 r h) | (have q := v22 r; have q2 := i3 r; omega) | fail) (by omega) (by omega) (by first | exact hlo | exact i6 | fail) (by first | exact u23.trans i7 | exact u23.trans (by rw [i7, show F1 106 3 = F 106 3 by omega, show t - fm = F 106 1 - 2 * fm by omega]) | fail) (by first | (intro i h1 h2; exfalso; omega) | exact gs_ring_ext (by omega) (by omega) (by omega) (u24.trans (by rw [hf1.2 107 (by dsimp only; omega), show F1 106 3 = F 106 3 by omega])) i8 | fail) (by first | (intro i h1 h2; rw [u24, gs_u_ne _ _ (by omega)]; exact i9 i h1 h2) | (intro i h1 h2; rw [u24, i8]) | fail) (by omega)
            · skip
              refine sA_sipush (z := (-1004)) dd_X9_ring_62 (by decide) ?_
              refine sA_iret (z := -1004) dd_X9_ring_65 rfl ?_
              refine ⟨_, rfl, hI1, hf1, ?_⟩
              exact ⟨.inr (.inl ⟨by omega, by omega, by omega, by omega, by omega, u3.trans i7, u4.trans i8⟩), i3⟩
          · skip
            refine sA_sipush (z := (-1003)) dd_X9_ring_49 (by decide) ?_
            refine sA_iret (z := -1003) dd_X9_ring_52 rfl ?_
            refine ⟨_, rfl, hI1, hf1, ?_⟩
            exact ⟨.inl ⟨by omega, by omega, by omega, by omega, u3.trans i7, u4.trans i8⟩, i3⟩
        · skip
          have h107 : A1 107 = A 107 := hf1.2 107 (by dsimp only; omega)
          have hcl : t - fm = 2 → A1 107 fm.toNat ≠ 0 - A1 107 (t - 1).toNat := fun h => by
            have e : (t - 1).toNat = fm.toNat + 1 := by omega
            rw [h107, e]
            have := hD.2 fm.toNat (by omega)
            omega
          have hq33 : A 107 fm.toNat = -(A 107 (F 106 1 - 1 - fm).toNat) := by
            rw [← h107, show F 106 1 - 1 - fm = t - 1 by omega]
            omega
          refine sA_iinc (lv' := [(1, gs_iv (fm + 1)), (2, gs_iv t), (0, .ref 106)]) dd_X9_ring_33 (.head _) (by decide) rfl ?_
          refine sA_iinc (lv' := [(2, gs_iv (t + (-1))), (1, gs_iv (fm + 1)), (0, .ref 106)]) dd_X9_ring_36 (.tail _ (.head _)) (by decide) rfl ?_
          refine sA_goto (tgt := 7) dd_X9_ring_39 (by decide) ?_
          refine sA_sub (lv2 := [(1, gs_iv (fm + 1)), (2, gs_iv (t + (-1))), (0, .ref 106)]) (List.forall_mem_cons.mpr ⟨(.tail _ (.head _)), (List.forall_mem_cons.mpr ⟨(.head _), (List.forall_mem_cons.mpr ⟨(.tail _ (.tail _ (.head _))), (fun _ h => absurd h List.not_mem_nil)⟩)⟩)⟩) ?_
          exact ih.1 (fm + 1) (t + (-1)) F1 A1 hI1 hf1 (by omega) (by omega) (by omega) (by first | exact hX | exact i3 | fail) (by omega) (by omega) (fun j h1 h2 => by first | (exfalso; omega) | (by_cases h : j < fm <;> first | exact i6 j h1 h | (have e : j = fm := (by omega); rw [e]; exact hq33) | fail) | fail) (by first | rfl | exact i7 | fail) (by first | rfl | exact i8 | fail) (by omega)
    · skip
      intro fm t k F1 A1 hI1 hf1 i0 i1 i2 i3 i4 i5 i6 i7 i8 i9 hm
      have b25 : (0 : Int) ≤ F1 106 1 ∧ F1 106 1 ≤ 60 := hI1.1 106 1
      have b26 : (0 : Int) ≤ F1 106 3 ∧ F1 106 3 ≤ 12 := hI1.1 106 3
      have u27 : A1 108 = A1 108 := rfl
      have u28 : A1 109 = A1 109 := rfl
      refine sA_iload_n dd_X9_ring_80 rfl (.head _) ?_
      refine sA_iload_n dd_X9_ring_81 rfl (.tail _ (.tail _ (.head _))) ?_
      refine sA_icmp_ge (tgt := 113) dd_X9_ring_82 (by decide) (by omega) (by omega) (fun q29 => ?_) (fun q29 => ?_)
      · skip
        refine sA_aload_n dd_X9_ring_113 rfl (.tail _ (.tail _ (.tail _ (.head _)))) ?_
        refine sA_iconst (z := 0) dd_X9_ring_114 ?_
        refine sA_put (ci := 9) (j := 1) (q := (RX9, TX9, 28)) (ty := .int) dd_X9_ring_115 rfl (by decide) fl_X9_67 rfl (tyX9_ok 1 (by decide)) rfl rfl (by decide) gs_s106 rfl ?_
        have I31 : gs_I (gs_up F1 106 1 0) A1 := gs_I_put hI1 (show (0 : Int) ≤ 0 ∧ 0 ≤ 60 by omega)
        have f32 := gs_fr_put hf1 (a := 106) (z := 0) (j := 1) (by first | omega | (dsimp only; omega) | (dsimp only) | fail)
        have v33 : gs_up F1 106 1 0 106 1 = 0 := gs_up_self _ _ _ _
        have v34 : (gs_up F1 106 1 0) 106 3 = F1 106 3 := gs_up_ne _ _ (by omega)
        generalize gs_up F1 106 1 0 = F30 at I31 f32 v33 v34 ⊢
        refine sA_aload_n dd_X9_ring_118 rfl (.tail _ (.tail _ (.tail _ (.head _)))) ?_
        refine sA_dup dd_X9_ring_119 rfl ?_
        refine sA_geti (ci := 9) (j := 3) (q := (RX9, TX9, 28)) dd_X9_ring_120 rfl (by decide) fl_X9_70 (by decide) gs_s106 rfl ?_
        have b35 : (0 : Int) ≤ F30 106 3 ∧ F30 106 3 ≤ 12 := I31.1 106 3
        refine sA_iconst (z := 1) dd_X9_ring_123 ?_
        refine sA_iadd dd_X9_ring_124 ?_
        refine sA_put (ci := 9) (j := 3) (q := (RX9, TX9, 28)) (ty := .int) dd_X9_ring_125 rfl (by decide) fl_X9_70 rfl (tyX9_ok 3 (by decide)) rfl rfl (by decide) gs_s106 rfl ?_
        have I37 : gs_I (gs_up F30 106 3 ((F30 106 3) + 1)) A1 := gs_I_put I31 (show (0 : Int) ≤ (F30 106 3) + 1 ∧ (F30 106 3) + 1 ≤ 12 by omega)
        have f38 := gs_fr_put f32 (a := 106) (z := (F30 106 3) + 1) (j := 3) (by first | omega | (dsimp only; omega) | (dsimp only) | fail)
        have v39 : gs_up F30 106 3 ((F30 106 3) + 1) 106 3 = (F30 106 3) + 1 := gs_up_self _ _ _ _
        have v40 : (gs_up F30 106 3 ((F30 106 3) + 1)) 106 1 = F30 106 1 := gs_up_ne _ _ (by omega)
        generalize gs_up F30 106 3 ((F30 106 3) + 1) = F36 at I37 f38 v39 v40 ⊢
        refine sA_aload_n dd_X9_ring_128 rfl (.tail _ (.tail _ (.tail _ (.head _)))) ?_
        refine sA_geti (ci := 9) (j := 3) (q := (RX9, TX9, 28)) dd_X9_ring_129 rfl (by decide) fl_X9_70 (by decide) gs_s106 rfl ?_
        have b41 : (0 : Int) ≤ F36 106 3 ∧ F36 106 3 ≤ 12 := I37.1 106 3
        refine sA_iconst (z := 1) dd_X9_ring_132 ?_
        refine sA_isub dd_X9_ring_133 ?_
        refine sA_iret (z := (F36 106 3) - 1) dd_X9_ring_134 rfl ?_
        refine ⟨_, rfl, I37, f38, ?_⟩
        exact ⟨.inr (.inr ⟨by omega, by omega, by omega, by omega, by omega, fm, i6, by omega, u27.trans i7, fun i h1 h2 => by rw [u28]; exact i8 i h1 (by omega), fun i h1 h2 => by rw [u28]; exact i9 i h1 h2⟩), fun r h => i3 r (by omega)⟩
      · skip
        refine sA_aload_n dd_X9_ring_85 rfl (.tail _ (.tail _ (.tail _ (.head _)))) ?_
        refine sA_getr (ci := 9) (j := 5) (q := (RX9, TX9, 28)) dd_X9_ring_86 rfl (by decide) fl_X9_16 (by decide) gs_s106 rfl ?_
        refine sA_bipush (z := 60) dd_X9_ring_89 (by decide) ?_
        refine sA_aload_n dd_X9_ring_91 rfl (.tail _ (.tail _ (.tail _ (.head _)))) ?_
        refine sA_geti (ci := 9) (j := 3) (q := (RX9, TX9, 28)) dd_X9_ring_92 rfl (by decide) fl_X9_70 (by decide) gs_s106 rfl ?_
        refine sA_imul dd_X9_ring_95 ?_
        refine sA_iload_n dd_X9_ring_96 rfl (.head _) ?_
        refine sA_iadd dd_X9_ring_97 ?_
        refine sA_iload_n dd_X9_ring_98 rfl (.tail _ (.head _)) ?_
        refine sA_isub dd_X9_ring_99 ?_
        refine sA_aload_n dd_X9_ring_100 rfl (.tail _ (.tail _ (.tail _ (.head _)))) ?_
        refine sA_getr (ci := 9) (j := 2) (q := (RX9, TX9, 28)) dd_X9_ring_101 rfl (by decide) fl_X9_7 (by decide) gs_s106 rfl ?_
        refine sA_iload_n dd_X9_ring_104 rfl (.head _) ?_
        refine sA_iald (n := 60) dd_X9_ring_105 (by decide) gs_s107 (by omega) (by decide) ?_
        have b42 : (-9 : Int) ≤ A1 107 k.toNat ∧ A1 107 k.toNat ≤ 9 := hI1.2 107 k.toNat
        refine sA_iast (n := 720) dd_X9_ring_106 (by decide) gs_s109 (by omega) (by decide) ?_
        have I44 : gs_I F1 (gs_up A1 109 ((((60 * (F1 106 3)) + k) - fm).toNat) (A1 107 k.toNat)) := gs_I_ast hI1 (show (-9 : Int) ≤ A1 107 k.toNat ∧ A1 107 k.toNat ≤ 9 by omega)
        have f45 := gs_fr_ast hf1 (a := 109) (z := A1 107 k.toNat) (i := (((60 * (F1 106 3)) + k) - fm).toNat) (by first | omega | (dsimp only; omega) | (dsimp only) | fail)
        have v46 : (gs_up A1 109 ((((60 * (F1 106 3)) + k) - fm).toNat) (A1 107 k.toNat)) 108 = A1 108 := gs_up_row _ _ (by decide)
        have u47 : (gs_up A1 109 ((((60 * (F1 106 3)) + k) - fm).toNat) (A1 107 k.toNat)) 108 = A1 108 := (gs_up_row _ _ (by omega)).trans u27
        have u48 : (gs_up A1 109 ((((60 * (F1 106 3)) + k) - fm).toNat) (A1 107 k.toNat)) 109 = gs_u (A1 109) ((((60 * (F1 106 3)) + k) - fm).toNat) (A1 107 k.toNat) := (gs_up_u A1 109 ((((60 * (F1 106 3)) + k) - fm).toNat) (A1 107 k.toNat)).trans (congrArg (fun f => gs_u f ((((60 * (F1 106 3)) + k) - fm).toNat) (A1 107 k.toNat)) u28)
        generalize gs_up A1 109 ((((60 * (F1 106 3)) + k) - fm).toNat) (A1 107 k.toNat) = A43 at I44 f45 v46 u47 u48 ⊢
        refine sA_iinc (lv' := [(3, gs_iv (k + 1)), (1, gs_iv fm), (2, gs_iv t), (0, .ref 106)]) dd_X9_ring_107 (.head _) (by decide) rfl ?_
        refine sA_goto (tgt := 80) dd_X9_ring_110 (by decide) ?_
        refine sA_sub (lv2 := [(3, gs_iv (k + 1)), (1, gs_iv fm), (2, gs_iv t), (0, .ref 106)]) (List.forall_mem_cons.mpr ⟨(.head _), (List.forall_mem_cons.mpr ⟨(.tail _ (.head _)), (List.forall_mem_cons.mpr ⟨(.tail _ (.tail _ (.head _))), (List.forall_mem_cons.mpr ⟨(.tail _ (.tail _ (.tail _ (.head _)))), (fun _ h => absurd h List.not_mem_nil)⟩)⟩)⟩)⟩) ?_
        exact ih.2 fm t (k + 1) F1 A43 I44 f45 (by omega) (by omega) (by omega) (by intro r h; first | (rw [v46]; exact i3 r h) | (have q := v46 r; have q2 := i3 r; omega) | fail) (by omega) (by omega) (by first | exact hlo | exact i6 | fail) (by first | exact u47.trans i7 | exact u47.trans (by rw [i7, show F1 106 3 = F 106 3 by omega, show t - fm = F 106 1 - 2 * fm by omega]) | fail) (by first | (intro i h1 h2; exfalso; omega) | exact gs_ring_ext (by omega) (by omega) (by omega) (u48.trans (by rw [hf1.2 107 (by dsimp only; omega), show F1 106 3 = F 106 3 by omega])) i8 | fail) (by first | (intro i h1 h2; rw [u48, gs_u_ne _ _ (by omega)]; exact i9 i h1 h2) | (intro i h1 h2; rw [u48, i8]) | fail) (by omega)
theorem c_X9_ring_vg  {F A : gs_F} (hI : gs_I F A) (hX : ∀ r : Nat, (r : Int) < F 106 3 → 1 ≤ A 108 r) (hD : gs_D1 (F 106 1).toNat (A 107)) : sC m_X9_ring 1 [.ref 106] F A (fun rv F' A' => ∃ z : Int, rv = some (gs_iv z) ∧ gs_I F' A' ∧ gs_fr (fun c j => c = 106 ∧ (j = 1 ∨ j = 3)) (fun c => c = 108 ∨ c = 109) F A F' A' ∧ (((F 106 1 = 0 ∧ z = -1003 ∧ F' 106 3 = F 106 3 ∧ F' 106 1 = F 106 1 ∧ A' 108 = A 108 ∧ A' 109 = A 109) ∨ (F 106 1 ≠ 0 ∧ F 106 3 = 12 ∧ z = -1004 ∧ F' 106 3 = F 106 3 ∧ F' 106 1 = F 106 1 ∧ A' 108 = A 108 ∧ A' 109 = A 109) ∨ (F 106 1 ≠ 0 ∧ F 106 3 < 12 ∧ z = F 106 3 ∧ F' 106 3 = F 106 3 + 1 ∧ F' 106 1 = 0 ∧ ∃ k : Int, gs_lo (A 107) (F 106 1) k ∧ 2 * k < F 106 1 ∧ A' 108 = gs_u (A 108) (F 106 3).toNat (F 106 1 - 2 * k) ∧ (∀ i : Int, 0 ≤ i → i < F 106 1 - 2 * k → A' 109 (60 * F 106 3 + i).toNat = A 107 (k + i).toNat) ∧ (∀ i : Int, 0 ≤ i → i < 60 * F 106 3 → A' 109 i.toNat = A 109 i.toNat))) ∧ (∀ r : Nat, (r : Int) < F' 106 3 → 1 ≤ A' 108 r))) := by
  refine sC_of ok_X9_ring.1 (Nat.le_of_ble_eq_true rfl) ?_
  show sA _ _ _ 0 [(0, .ref 106)] [] F A
  have hf : gs_fr (fun c j => c = 106 ∧ (j = 1 ∨ j = 3)) (fun c => c = 108 ∨ c = 109) F A F A := gs_fr_refl _ _ _ _
  have b49 : (0 : Int) ≤ F 106 1 ∧ F 106 1 ≤ 60 := hI.1 106 1
  have b50 : (0 : Int) ≤ F 106 3 ∧ F 106 3 ≤ 12 := hI.1 106 3
  have u51 : A 108 = A 108 := rfl
  have u52 : A 109 = A 109 := rfl
  refine sA_iconst (z := 0) dd_X9_ring_0 ?_
  refine sA_istore_n (lv' := [(1, gs_iv 0), (0, .ref 106)]) dd_X9_ring_1 rfl (by decide) rfl ?_
  refine sA_aload_n dd_X9_ring_2 rfl (.tail _ (.head _)) ?_
  refine sA_geti (ci := 9) (j := 1) (q := (RX9, TX9, 28)) dd_X9_ring_3 rfl (by decide) fl_X9_67 (by decide) gs_s106 rfl ?_
  refine sA_istore_n (lv' := [(2, gs_iv (F 106 1)), (1, gs_iv 0), (0, .ref 106)]) dd_X9_ring_6 rfl (by decide) rfl ?_
  refine sA_sub (lv2 := [(1, gs_iv 0), (2, gs_iv (F 106 1)), (0, .ref 106)]) (List.forall_mem_cons.mpr ⟨(.tail _ (.head _)), (List.forall_mem_cons.mpr ⟨(.head _), (List.forall_mem_cons.mpr ⟨(.tail _ (.tail _ (.head _))), (fun _ h => absurd h List.not_mem_nil)⟩)⟩)⟩) ?_
  exact (k_X9_ring_vg hI hX hD ((F 106 1) - 0 + 1000 : Int).toNat.succ).1 0 (F 106 1) F A hI hf (by omega) (by omega) (by omega) (by first | exact hX | exact i3 | fail) (by omega) (by omega) (fun j h1 h2 => by first | (exfalso; omega) | (by_cases h : j < fm <;> first | exact i6 j h1 h | (have e : j = fm := (by omega); rw [e]; exact hq33) | fail) | fail) (by first | rfl | exact i7 | fail) (by first | rfl | exact i8 | fail) (by omega)
theorem c_X9_at_vf {r i : Int} {F A : gs_F} (hI : gs_I F A) (hr : -2147483648 ≤ r ∧ r ≤ 2147483647) (hi : -2147483648 ≤ i ∧ i ≤ 2147483647) : sC m_X9_at 3 [.ref 106, gs_iv r, gs_iv i] F A (fun rv F' A' => ∃ z : Int, rv = some (gs_iv z) ∧ F = F' ∧ A = A' ∧ (((r < 0 ∨ F 106 3 ≤ r) ∧ z = -1001) ∨ (0 ≤ r ∧ r < F 106 3 ∧ ((0 ≤ i ∧ i < A 108 r.toNat ∧ z = A 109 (60 * r + i).toNat) ∨ ((i < 0 ∨ A 108 r.toNat ≤ i) ∧ z = -1))))) := by
  refine sC_of ok_X9_at.1 (Nat.le_of_ble_eq_true rfl) ?_
  show sA _ _ _ 0 [(0, .ref 106), (1, gs_iv r), (2, gs_iv i)] [] F A
  refine sA_aload_n dd_X9_at_0 rfl (.head _) ?_
  refine sA_iload_n dd_X9_at_1 rfl (.tail _ (.head _)) ?_
  refine sA_callV (y2 := m_X9_noRing) (n2 := 1) (d2 := 2) (a := 106) (ci := 9) (q := (RX9, TX9, 28)) (as := [gs_iv r]) (rest := []) dd_X9_at_2 ok_X9_noRing ml_X9_100 rfl rfl (by decide) gs_s106 rfl rfl (Nat.le_of_ble_eq_true rfl) (by decide) (c_X9_noRing hI (by omega)) (fun r1 F2 A3 h4 => ?_)
  obtain ⟨z7, e6, e8, e9, x5⟩ := h4
  subst e6 e8 e9
  show sA _ _ _ 5 _ [gs_iv z7] _ _
  refine sA_if_eq (tgt := 12) dd_X9_at_5 (by decide) (by omega) (fun q10 => ?_) (fun q10 => ?_)
  · skip
    refine sA_iload_n dd_X9_at_12 rfl (.tail _ (.tail _ (.head _))) ?_
    refine sA_i2l dd_X9_at_13 (by omega) ?_
    refine sA_lconst (z := 0) dd_X9_at_14 (by decide) ?_
    refine sA_aload_n dd_X9_at_15 rfl (.head _) ?_
    refine sA_getr (ci := 9) (j := 4) (q := (RX9, TX9, 28)) dd_X9_at_16 rfl (by decide) fl_X9_13 (by decide) gs_s106 rfl ?_
    refine sA_iload_n dd_X9_at_19 rfl (.tail _ (.head _)) ?_
    refine sA_iald (n := 12) dd_X9_at_20 (by decide) gs_s108 (by omega) (by decide) ?_
    have b11 : (0 : Int) ≤ A 108 r.toNat ∧ A 108 r.toNat ≤ 60 := hI.2 108 r.toNat
    refine sA_iconst (z := 1) dd_X9_at_21 ?_
    refine sA_isub dd_X9_at_22 ?_
    refine sA_i2l dd_X9_at_23 (by omega) ?_
    refine sA_callS (y2 := m_X9_in) (n2 := 3) (d2 := 1) (as := [gs_lv i, gs_lv 0, gs_lv ((A 108 r.toNat) - 1)]) (rest := []) dd_X9_at_24 ok_X9_in ml_X9_75 rfl rfl (Nat.le_of_ble_eq_true rfl) (by decide) (c_X9_in (by omega) (by omega) (by omega)) (fun r12 F13 A14 h15 => ?_)
    obtain ⟨z18, e17, e19, e20, x16⟩ := h15
    subst e17 e19 e20
    show sA _ _ _ 27 _ [gs_iv z18] _ _
    refine sA_if_eq (tgt := 44) dd_X9_at_27 (by decide) (by omega) (fun q21 => ?_) (fun q21 => ?_)
    · skip
      refine sA_iconst (z := (-1)) dd_X9_at_44 ?_
      refine sA_iret (z := -1) dd_X9_at_45 rfl ?_
      exact ⟨_, rfl, rfl, rfl, by omega⟩
    · skip
      refine sA_aload_n dd_X9_at_30 rfl (.head _) ?_
      refine sA_getr (ci := 9) (j := 5) (q := (RX9, TX9, 28)) dd_X9_at_31 rfl (by decide) fl_X9_16 (by decide) gs_s106 rfl ?_
      refine sA_bipush (z := 60) dd_X9_at_34 (by decide) ?_
      refine sA_iload_n dd_X9_at_36 rfl (.tail _ (.head _)) ?_
      refine sA_imul dd_X9_at_37 ?_
      refine sA_iload_n dd_X9_at_38 rfl (.tail _ (.tail _ (.head _))) ?_
      refine sA_iadd dd_X9_at_39 ?_
      refine sA_iald (n := 720) dd_X9_at_40 (by decide) gs_s109 (by omega) (by decide) ?_
      have b22 : (-9 : Int) ≤ A 109 ((60 * r) + i).toNat ∧ A 109 ((60 * r) + i).toNat ≤ 9 := hI.2 109 ((60 * r) + i).toNat
      refine sA_goto (tgt := 45) dd_X9_at_41 (by decide) ?_
      refine sA_iret (z := A 109 ((60 * r) + i).toNat) dd_X9_at_45 rfl ?_
      exact ⟨_, rfl, rfl, rfl, by omega⟩
  · skip
    refine sA_sipush (z := (-1001)) dd_X9_at_8 (by decide) ?_
    refine sA_iret (z := -1001) dd_X9_at_11 rfl ?_
    exact ⟨_, rfl, rfl, rfl, by omega⟩
theorem k_X9_takeU_vf {r : Int} {F A : gs_F} (hI : gs_I F A) (hr : 0 ≤ r ∧ r < 12) : ∀ nN : Nat, (∀ (k : Int)  (F1 A1 : gs_F), gs_I F1 A1 → gs_fr (fun c j => c = 106 ∧ j = 9) (fun c => c = 112) F A F1 A1 → 0 ≤ k ∧ k ≤ F1 106 9 → F1 106 9 ≤ 60 → F1 106 9 = A 108 r.toNat → (∀ j : Int, 0 ≤ j → j < k → A1 112 j.toNat = A 109 (60 * r + j).toNat) → F1 106 9 - k < (nN : Int) → sA m_X9_takeU 1 (fun rv F' A' => rv = none ∧ gs_I F' A' ∧ gs_fr (fun c j => c = 106 ∧ j = 9) (fun c => c = 112) F A F' A' ∧ (F' 106 9 = A 108 r.toNat ∧ ∀ k : Int, 0 ≤ k → k < A 108 r.toNat → A' 112 k.toNat = A 109 (60 * r + k).toNat)) 12 [(2, gs_iv k), (0, .ref 106), (1, gs_iv r)] [] F1 A1) := by
  intro nN
  induction nN with
  | zero =>
    exact fun a0 a1 a2 a3 a4 i0 i1 i2 i3 hm => by exfalso; omega
  | succ nN ih =>
    intro k F1 A1 hI1 hf1 i0 i1 i2 i3 hm
    have b1 : (0 : Int) ≤ F1 106 9 ∧ F1 106 9 ≤ 400 := hI1.1 106 9
    have u2 : A1 112 = A1 112 := rfl
    refine sA_iload_n dd_X9_takeU_12 rfl (.head _) ?_
    refine sA_aload_n dd_X9_takeU_13 rfl (.tail _ (.head _)) ?_
    refine sA_geti (ci := 9) (j := 9) (q := (RX9, TX9, 28)) dd_X9_takeU_14 rfl (by decide) fl_X9_83 (by decide) gs_s106 rfl ?_
    refine sA_icmp_ge (tgt := 43) dd_X9_takeU_17 (by decide) (by omega) (by omega) (fun q3 => ?_) (fun q3 => ?_)
    · skip
      refine sA_vret dd_X9_takeU_43 rfl ?_
      refine ⟨rfl, hI1, hf1, ?_⟩
      exact ⟨by omega, fun j h1 h2 => i3 j h1 (by omega)⟩
    · skip
      refine sA_aload_n dd_X9_takeU_20 rfl (.tail _ (.head _)) ?_
      refine sA_getr (ci := 9) (j := 8) (q := (RX9, TX9, 28)) dd_X9_takeU_21 rfl (by decide) fl_X9_25 (by decide) gs_s106 rfl ?_
      refine sA_iload_n dd_X9_takeU_24 rfl (.head _) ?_
      refine sA_aload_n dd_X9_takeU_25 rfl (.tail _ (.head _)) ?_
      refine sA_getr (ci := 9) (j := 5) (q := (RX9, TX9, 28)) dd_X9_takeU_26 rfl (by decide) fl_X9_16 (by decide) gs_s106 rfl ?_
      refine sA_bipush (z := 60) dd_X9_takeU_29 (by decide) ?_
      refine sA_iload_n dd_X9_takeU_31 rfl (.tail _ (.tail _ (.head _))) ?_
      refine sA_imul dd_X9_takeU_32 ?_
      refine sA_iload_n dd_X9_takeU_33 rfl (.head _) ?_
      refine sA_iadd dd_X9_takeU_34 ?_
      refine sA_iald (n := 720) dd_X9_takeU_35 (by decide) gs_s109 (by omega) (by decide) ?_
      have b4 : (-9 : Int) ≤ A1 109 ((60 * r) + k).toNat ∧ A1 109 ((60 * r) + k).toNat ≤ 9 := hI1.2 109 ((60 * r) + k).toNat
      refine sA_iast (n := 400) dd_X9_takeU_36 (by decide) gs_s112 (by omega) (by decide) ?_
      have I6 : gs_I F1 (gs_up A1 112 k.toNat (A1 109 ((60 * r) + k).toNat)) := gs_I_ast hI1 (show (-9 : Int) ≤ A1 109 ((60 * r) + k).toNat ∧ A1 109 ((60 * r) + k).toNat ≤ 9 by omega)
      have f7 := gs_fr_ast hf1 (a := 112) (z := A1 109 ((60 * r) + k).toNat) (i := k.toNat) (by first | omega | (dsimp only; omega) | (dsimp only) | fail)
      have u8 : (gs_up A1 112 k.toNat (A1 109 ((60 * r) + k).toNat)) 112 = gs_u (A1 112) k.toNat (A1 109 ((60 * r) + k).toNat) := (gs_up_u A1 112 k.toNat (A1 109 ((60 * r) + k).toNat)).trans (congrArg (fun f => gs_u f k.toNat (A1 109 ((60 * r) + k).toNat)) u2)
      generalize gs_up A1 112 k.toNat (A1 109 ((60 * r) + k).toNat) = A5 at I6 f7 u8 ⊢
      refine sA_iinc (lv' := [(2, gs_iv (k + 1)), (0, .ref 106), (1, gs_iv r)]) dd_X9_takeU_37 (.head _) (by decide) rfl ?_
      refine sA_goto (tgt := 12) dd_X9_takeU_40 (by decide) ?_
      refine sA_sub (lv2 := [(2, gs_iv (k + 1)), (0, .ref 106), (1, gs_iv r)]) (List.forall_mem_cons.mpr ⟨(.head _), (List.forall_mem_cons.mpr ⟨(.tail _ (.head _)), (List.forall_mem_cons.mpr ⟨(.tail _ (.tail _ (.head _))), (fun _ h => absurd h List.not_mem_nil)⟩)⟩)⟩) ?_
      exact ih (k + 1) F1 A5 I6 f7 (by omega) (by omega) (by omega) (by first | (intro j h1 h2; exfalso; omega) | exact gs_u_ext (h := fun j => A 109 (60 * r + j).toNat) (by omega) u8 (by rw [hf1.2 109 (by dsimp only; omega)]) i3 | fail) (by omega)
theorem c_X9_takeU_vf {r : Int} {F A : gs_F} (hI : gs_I F A) (hr : 0 ≤ r ∧ r < 12) : sC m_X9_takeU 1 [.ref 106, gs_iv r] F A (fun rv F' A' => rv = none ∧ gs_I F' A' ∧ gs_fr (fun c j => c = 106 ∧ j = 9) (fun c => c = 112) F A F' A' ∧ (F' 106 9 = A 108 r.toNat ∧ ∀ k : Int, 0 ≤ k → k < A 108 r.toNat → A' 112 k.toNat = A 109 (60 * r + k).toNat)) := by
  refine sC_of ok_X9_takeU.1 (Nat.le_of_ble_eq_true rfl) ?_
  show sA _ _ _ 0 [(0, .ref 106), (1, gs_iv r)] [] F A
  have hf : gs_fr (fun c j => c = 106 ∧ j = 9) (fun c => c = 112) F A F A := gs_fr_refl _ _ _ _
  have b9 : (0 : Int) ≤ F 106 9 ∧ F 106 9 ≤ 400 := hI.1 106 9
  have u10 : A 112 = A 112 := rfl
  refine sA_aload_n dd_X9_takeU_0 rfl (.head _) ?_
  refine sA_aload_n dd_X9_takeU_1 rfl (.head _) ?_
  refine sA_getr (ci := 9) (j := 4) (q := (RX9, TX9, 28)) dd_X9_takeU_2 rfl (by decide) fl_X9_13 (by decide) gs_s106 rfl ?_
  refine sA_iload_n dd_X9_takeU_5 rfl (.tail _ (.head _)) ?_
  refine sA_iald (n := 12) dd_X9_takeU_6 (by decide) gs_s108 (by omega) (by decide) ?_
  have b11 : (0 : Int) ≤ A 108 r.toNat ∧ A 108 r.toNat ≤ 60 := hI.2 108 r.toNat
  refine sA_put (ci := 9) (j := 9) (q := (RX9, TX9, 28)) (ty := .int) dd_X9_takeU_7 rfl (by decide) fl_X9_83 rfl (tyX9_ok 9 (by decide)) rfl rfl (by decide) gs_s106 rfl ?_
  have I13 : gs_I (gs_up F 106 9 (A 108 r.toNat)) A := gs_I_put hI (show (0 : Int) ≤ A 108 r.toNat ∧ A 108 r.toNat ≤ 400 by omega)
  have f14 := gs_fr_put hf (a := 106) (z := A 108 r.toNat) (j := 9) (by first | omega | (dsimp only; omega) | (dsimp only) | fail)
  have v15 : gs_up F 106 9 (A 108 r.toNat) 106 9 = A 108 r.toNat := gs_up_self _ _ _ _
  generalize gs_up F 106 9 (A 108 r.toNat) = F12 at I13 f14 v15 ⊢
  refine sA_iconst (z := 0) dd_X9_takeU_10 ?_
  refine sA_istore_n (lv' := [(2, gs_iv 0), (0, .ref 106), (1, gs_iv r)]) dd_X9_takeU_11 rfl (by decide) rfl ?_
  have b16 : (0 : Int) ≤ F12 106 9 ∧ F12 106 9 ≤ 400 := I13.1 106 9
  refine sA_sub (lv2 := [(2, gs_iv 0), (0, .ref 106), (1, gs_iv r)]) (List.forall_mem_cons.mpr ⟨(.head _), (List.forall_mem_cons.mpr ⟨(.tail _ (.head _)), (List.forall_mem_cons.mpr ⟨(.tail _ (.tail _ (.head _))), (fun _ h => absurd h List.not_mem_nil)⟩)⟩)⟩) ?_
  exact (k_X9_takeU_vf hI hr (F12 106 9 - 0 : Int).toNat.succ) 0 F12 A I13 f14 (by omega) (by omega) (by omega) (by first | (intro j h1 h2; exfalso; omega) | exact gs_u_ext (h := fun j => A 109 (60 * r + j).toNat) (by omega) u10 (by rw [hf1.2 109 (by dsimp only; omega)]) i3 | fail) (by omega)
theorem k_X9_takeV_vf {r : Int} {F A : gs_F} (hI : gs_I F A) (hr : 0 ≤ r ∧ r < 12) : ∀ nN : Nat, (∀ (k : Int)  (F1 A1 : gs_F), gs_I F1 A1 → gs_fr (fun c j => c = 106 ∧ j = 11) (fun c => c = 113) F A F1 A1 → 0 ≤ k ∧ k ≤ F1 106 11 → F1 106 11 ≤ 60 → F1 106 11 = A 108 r.toNat → (∀ j : Int, 0 ≤ j → j < k → A1 113 j.toNat = A 109 (60 * r + j).toNat) → F1 106 11 - k < (nN : Int) → sA m_X9_takeV 1 (fun rv F' A' => rv = none ∧ gs_I F' A' ∧ gs_fr (fun c j => c = 106 ∧ j = 11) (fun c => c = 113) F A F' A' ∧ (F' 106 11 = A 108 r.toNat ∧ ∀ k : Int, 0 ≤ k → k < A 108 r.toNat → A' 113 k.toNat = A 109 (60 * r + k).toNat)) 12 [(2, gs_iv k), (0, .ref 106), (1, gs_iv r)] [] F1 A1) := by
  intro nN
  induction nN with
  | zero =>
    exact fun a0 a1 a2 a3 a4 i0 i1 i2 i3 hm => by exfalso; omega
  | succ nN ih =>
    intro k F1 A1 hI1 hf1 i0 i1 i2 i3 hm
    have b1 : (0 : Int) ≤ F1 106 11 ∧ F1 106 11 ≤ 60 := hI1.1 106 11
    have u2 : A1 113 = A1 113 := rfl
    refine sA_iload_n dd_X9_takeV_12 rfl (.head _) ?_
    refine sA_aload_n dd_X9_takeV_13 rfl (.tail _ (.head _)) ?_
    refine sA_geti (ci := 9) (j := 11) (q := (RX9, TX9, 28)) dd_X9_takeV_14 rfl (by decide) fl_X9_86 (by decide) gs_s106 rfl ?_
    refine sA_icmp_ge (tgt := 43) dd_X9_takeV_17 (by decide) (by omega) (by omega) (fun q3 => ?_) (fun q3 => ?_)
    · skip
      refine sA_vret dd_X9_takeV_43 rfl ?_
      refine ⟨rfl, hI1, hf1, ?_⟩
      exact ⟨by omega, fun j h1 h2 => i3 j h1 (by omega)⟩
    · skip
      refine sA_aload_n dd_X9_takeV_20 rfl (.tail _ (.head _)) ?_
      refine sA_getr (ci := 9) (j := 10) (q := (RX9, TX9, 28)) dd_X9_takeV_21 rfl (by decide) fl_X9_28 (by decide) gs_s106 rfl ?_
      refine sA_iload_n dd_X9_takeV_24 rfl (.head _) ?_
      refine sA_aload_n dd_X9_takeV_25 rfl (.tail _ (.head _)) ?_
      refine sA_getr (ci := 9) (j := 5) (q := (RX9, TX9, 28)) dd_X9_takeV_26 rfl (by decide) fl_X9_16 (by decide) gs_s106 rfl ?_
      refine sA_bipush (z := 60) dd_X9_takeV_29 (by decide) ?_
      refine sA_iload_n dd_X9_takeV_31 rfl (.tail _ (.tail _ (.head _))) ?_
      refine sA_imul dd_X9_takeV_32 ?_
      refine sA_iload_n dd_X9_takeV_33 rfl (.head _) ?_
      refine sA_iadd dd_X9_takeV_34 ?_
      refine sA_iald (n := 720) dd_X9_takeV_35 (by decide) gs_s109 (by omega) (by decide) ?_
      have b4 : (-9 : Int) ≤ A1 109 ((60 * r) + k).toNat ∧ A1 109 ((60 * r) + k).toNat ≤ 9 := hI1.2 109 ((60 * r) + k).toNat
      refine sA_iast (n := 400) dd_X9_takeV_36 (by decide) gs_s113 (by omega) (by decide) ?_
      have I6 : gs_I F1 (gs_up A1 113 k.toNat (A1 109 ((60 * r) + k).toNat)) := gs_I_ast hI1 (show (-9 : Int) ≤ A1 109 ((60 * r) + k).toNat ∧ A1 109 ((60 * r) + k).toNat ≤ 9 by omega)
      have f7 := gs_fr_ast hf1 (a := 113) (z := A1 109 ((60 * r) + k).toNat) (i := k.toNat) (by first | omega | (dsimp only; omega) | (dsimp only) | fail)
      have u8 : (gs_up A1 113 k.toNat (A1 109 ((60 * r) + k).toNat)) 113 = gs_u (A1 113) k.toNat (A1 109 ((60 * r) + k).toNat) := (gs_up_u A1 113 k.toNat (A1 109 ((60 * r) + k).toNat)).trans (congrArg (fun f => gs_u f k.toNat (A1 109 ((60 * r) + k).toNat)) u2)
      generalize gs_up A1 113 k.toNat (A1 109 ((60 * r) + k).toNat) = A5 at I6 f7 u8 ⊢
      refine sA_iinc (lv' := [(2, gs_iv (k + 1)), (0, .ref 106), (1, gs_iv r)]) dd_X9_takeV_37 (.head _) (by decide) rfl ?_
      refine sA_goto (tgt := 12) dd_X9_takeV_40 (by decide) ?_
      refine sA_sub (lv2 := [(2, gs_iv (k + 1)), (0, .ref 106), (1, gs_iv r)]) (List.forall_mem_cons.mpr ⟨(.head _), (List.forall_mem_cons.mpr ⟨(.tail _ (.head _)), (List.forall_mem_cons.mpr ⟨(.tail _ (.tail _ (.head _))), (fun _ h => absurd h List.not_mem_nil)⟩)⟩)⟩) ?_
      exact ih (k + 1) F1 A5 I6 f7 (by omega) (by omega) (by omega) (by first | (intro j h1 h2; exfalso; omega) | exact gs_u_ext (h := fun j => A 109 (60 * r + j).toNat) (by omega) u8 (by rw [hf1.2 109 (by dsimp only; omega)]) i3 | fail) (by omega)
theorem c_X9_takeV_vf {r : Int} {F A : gs_F} (hI : gs_I F A) (hr : 0 ≤ r ∧ r < 12) : sC m_X9_takeV 1 [.ref 106, gs_iv r] F A (fun rv F' A' => rv = none ∧ gs_I F' A' ∧ gs_fr (fun c j => c = 106 ∧ j = 11) (fun c => c = 113) F A F' A' ∧ (F' 106 11 = A 108 r.toNat ∧ ∀ k : Int, 0 ≤ k → k < A 108 r.toNat → A' 113 k.toNat = A 109 (60 * r + k).toNat)) := by
  refine sC_of ok_X9_takeV.1 (Nat.le_of_ble_eq_true rfl) ?_
  show sA _ _ _ 0 [(0, .ref 106), (1, gs_iv r)] [] F A
  have hf : gs_fr (fun c j => c = 106 ∧ j = 11) (fun c => c = 113) F A F A := gs_fr_refl _ _ _ _
  have b9 : (0 : Int) ≤ F 106 11 ∧ F 106 11 ≤ 60 := hI.1 106 11
  have u10 : A 113 = A 113 := rfl
  refine sA_aload_n dd_X9_takeV_0 rfl (.head _) ?_
  refine sA_aload_n dd_X9_takeV_1 rfl (.head _) ?_
  refine sA_getr (ci := 9) (j := 4) (q := (RX9, TX9, 28)) dd_X9_takeV_2 rfl (by decide) fl_X9_13 (by decide) gs_s106 rfl ?_
  refine sA_iload_n dd_X9_takeV_5 rfl (.tail _ (.head _)) ?_
  refine sA_iald (n := 12) dd_X9_takeV_6 (by decide) gs_s108 (by omega) (by decide) ?_
  have b11 : (0 : Int) ≤ A 108 r.toNat ∧ A 108 r.toNat ≤ 60 := hI.2 108 r.toNat
  refine sA_put (ci := 9) (j := 11) (q := (RX9, TX9, 28)) (ty := .int) dd_X9_takeV_7 rfl (by decide) fl_X9_86 rfl (tyX9_ok 11 (by decide)) rfl rfl (by decide) gs_s106 rfl ?_
  have I13 : gs_I (gs_up F 106 11 (A 108 r.toNat)) A := gs_I_put hI (show (0 : Int) ≤ A 108 r.toNat ∧ A 108 r.toNat ≤ 60 by omega)
  have f14 := gs_fr_put hf (a := 106) (z := A 108 r.toNat) (j := 11) (by first | omega | (dsimp only; omega) | (dsimp only) | fail)
  have v15 : gs_up F 106 11 (A 108 r.toNat) 106 11 = A 108 r.toNat := gs_up_self _ _ _ _
  generalize gs_up F 106 11 (A 108 r.toNat) = F12 at I13 f14 v15 ⊢
  refine sA_iconst (z := 0) dd_X9_takeV_10 ?_
  refine sA_istore_n (lv' := [(2, gs_iv 0), (0, .ref 106), (1, gs_iv r)]) dd_X9_takeV_11 rfl (by decide) rfl ?_
  have b16 : (0 : Int) ≤ F12 106 11 ∧ F12 106 11 ≤ 60 := I13.1 106 11
  refine sA_sub (lv2 := [(2, gs_iv 0), (0, .ref 106), (1, gs_iv r)]) (List.forall_mem_cons.mpr ⟨(.head _), (List.forall_mem_cons.mpr ⟨(.tail _ (.head _)), (List.forall_mem_cons.mpr ⟨(.tail _ (.tail _ (.head _))), (fun _ h => absurd h List.not_mem_nil)⟩)⟩)⟩) ?_
  exact (k_X9_takeV_vf hI hr (F12 106 11 - 0 : Int).toNat.succ) 0 F12 A I13 f14 (by omega) (by omega) (by omega) (by first | (intro j h1 h2; exfalso; omega) | exact gs_u_ext (h := fun j => A 109 (60 * r + j).toNat) (by omega) u10 (by rw [hf1.2 109 (by dsimp only; omega)]) i3 | fail) (by omega)
theorem c_X9_ofU_vf {i : Int} {F A : gs_F} (hI : gs_I F A) (hi : 0 ≤ i ∧ i ≤ 100000) (hs : 1 ≤ F 106 9) : sC m_X9_ofU 1 [.ref 106, gs_iv i] F A (fun rv F' A' => ∃ z : Int, rv = some (gs_iv z) ∧ F = F' ∧ A = A' ∧ (z = A 112 (i % F 106 9).toNat ∧ -9 ≤ z ∧ z ≤ 9)) := by
  refine sC_of ok_X9_ofU.1 (Nat.le_of_ble_eq_true rfl) ?_
  show sA _ _ _ 0 [(0, .ref 106), (1, gs_iv i)] [] F A
  refine sA_aload_n dd_X9_ofU_0 rfl (.head _) ?_
  refine sA_getr (ci := 9) (j := 8) (q := (RX9, TX9, 28)) dd_X9_ofU_1 rfl (by decide) fl_X9_25 (by decide) gs_s106 rfl ?_
  refine sA_iload_n dd_X9_ofU_4 rfl (.tail _ (.head _)) ?_
  refine sA_aload_n dd_X9_ofU_5 rfl (.head _) ?_
  refine sA_geti (ci := 9) (j := 9) (q := (RX9, TX9, 28)) dd_X9_ofU_6 rfl (by decide) fl_X9_83 (by decide) gs_s106 rfl ?_
  have b1 : (0 : Int) ≤ F 106 9 ∧ F 106 9 ≤ 400 := hI.1 106 9
  refine sA_iremN dd_X9_ofU_9 (by omega) (by omega) (by omega) ?_
  have hm1 := Int.emod_nonneg i (show F 106 9 ≠ 0 by omega)
  have hm2 := Int.emod_lt_of_pos i (show 0 < F 106 9 by omega)
  refine sA_iald (n := 400) dd_X9_ofU_10 (by decide) gs_s112 (by omega) (by decide) ?_
  have b2 : (-9 : Int) ≤ A 112 (i % (F 106 9)).toNat ∧ A 112 (i % (F 106 9)).toNat ≤ 9 := hI.2 112 (i % (F 106 9)).toNat
  refine sA_iret (z := A 112 (i % (F 106 9)).toNat) dd_X9_ofU_11 rfl ?_
  exact ⟨_, rfl, rfl, rfl, by omega⟩
theorem k_X9_isTurned_vf  {F A : gs_F} (hI : gs_I F A)  : ∀ nN : Nat, (∀ (s : Int),  0 ≤ s ∧ s ≤ F 106 9 → (∀ s0 : Int, 0 ≤ s0 → s0 < s → ¬ (∀ k : Int, 0 ≤ k → k < F 106 9 → A 112 ((s0 + k) % F 106 9).toNat = A 113 k.toNat)) → (F 106 9 - s) * 402 + 1 < (nN : Int) → sA m_X9_isTurned 2 (fun rv F' A' => ∃ z : Int, rv = some (gs_iv z) ∧ F = F' ∧ A = A' ∧ ((z = 1 ∧ gs_tu (A 112) (A 113) (F 106 9)) ∨ (z = 0 ∧ ¬ gs_tu (A 112) (A 113) (F 106 9)))) 2 [(1, gs_iv s), (0, .ref 106)] [] F A) ∧ (∀ (s : Int) (b : Int) (k : Int),  0 ≤ s ∧ s < F 106 9 → b = 0 ∨ b = 1 → 0 ≤ k ∧ k ≤ F 106 9 → F 106 9 ≤ 400 → (∀ s0 : Int, 0 ≤ s0 → s0 < s → ¬ (∀ k : Int, 0 ≤ k → k < F 106 9 → A 112 ((s0 + k) % F 106 9).toNat = A 113 k.toNat)) → (b = 1 → ∀ j : Int, 0 ≤ j → j < k → A 112 ((s + j) % F 106 9).toNat = A 113 j.toNat) → (b = 0 → ¬ (∀ k : Int, 0 ≤ k → k < F 106 9 → A 112 ((s + k) % F 106 9).toNat = A 113 k.toNat)) → (F 106 9 - s) * 402 - k < (nN : Int) → sA m_X9_isTurned 2 (fun rv F' A' => ∃ z : Int, rv = some (gs_iv z) ∧ F = F' ∧ A = A' ∧ ((z = 1 ∧ gs_tu (A 112) (A 113) (F 106 9)) ∨ (z = 0 ∧ ¬ gs_tu (A 112) (A 113) (F 106 9)))) 14 [(3, gs_iv k), (2, gs_iv b), (1, gs_iv s), (0, .ref 106)] [] F A) := by
  intro nN
  induction nN with
  | zero =>
    exact ⟨fun a0 i0 i1 hm => by exfalso; omega, fun a0 a1 a2 i0 i1 i2 i3 i4 i5 i6 hm => by exfalso; omega⟩
  | succ nN ih =>
    refine ⟨?_, ?_⟩
    · skip
      intro s i0 i1 hm
      have hb9 : (0 : Int) ≤ F 106 9 ∧ F 106 9 ≤ 400 := hI.1 106 9
      refine sA_iload_n dd_X9_isTurned_2 rfl (.head _) ?_
      refine sA_aload_n dd_X9_isTurned_3 rfl (.tail _ (.head _)) ?_
      refine sA_geti (ci := 9) (j := 9) (q := (RX9, TX9, 28)) dd_X9_isTurned_4 rfl (by decide) fl_X9_83 (by decide) gs_s106 rfl ?_
      have b1 : (0 : Int) ≤ F 106 9 ∧ F 106 9 ≤ 400 := hI.1 106 9
      refine sA_icmp_ge (tgt := 66) dd_X9_isTurned_7 (by decide) (by omega) (by omega) (fun q2 => ?_) (fun q2 => ?_)
      · skip
        refine sA_iconst (z := 0) dd_X9_isTurned_66 ?_
        refine sA_bret (z := 0) dd_X9_isTurned_67 rfl (by omega) ?_
        refine ⟨_, rfl, rfl, rfl, ?_⟩
        exact .inr ⟨rfl, fun ⟨s0, h1, h2, h3⟩ => i1 s0 h1 (by omega) h3⟩
      · skip
        refine sA_iconst (z := 1) dd_X9_isTurned_10 ?_
        refine sA_istore_n (lv' := [(2, gs_iv 1), (1, gs_iv s), (0, .ref 106)]) dd_X9_isTurned_11 rfl (by decide) rfl ?_
        refine sA_iconst (z := 0) dd_X9_isTurned_12 ?_
        refine sA_istore_n (lv' := [(3, gs_iv 0), (2, gs_iv 1), (1, gs_iv s), (0, .ref 106)]) dd_X9_isTurned_13 rfl (by decide) rfl ?_
        refine sA_sub (lv2 := [(3, gs_iv 0), (2, gs_iv 1), (1, gs_iv s), (0, .ref 106)]) (List.forall_mem_cons.mpr ⟨(.head _), (List.forall_mem_cons.mpr ⟨(.tail _ (.head _)), (List.forall_mem_cons.mpr ⟨(.tail _ (.tail _ (.head _))), (List.forall_mem_cons.mpr ⟨(.tail _ (.tail _ (.tail _ (.head _)))), (fun _ h => absurd h List.not_mem_nil)⟩)⟩)⟩)⟩) ?_
        exact ih.2 s 1 0  (by omega) (by omega) (by omega) (by omega) (by first | exact i1 | exact i4 | fail) (by first | (intro h0 j h1 h2; exfalso; omega) | (intro h0 j h1 h2; by_cases h : j < k <;> first | exact i5 (by omega) j h1 h | (have e : j = k := (by omega); rw [e]; omega) | fail) | fail) (by first | (intro h0; exfalso; omega) | (intro h0 w; have w2 := w k (by omega) (by omega); omega) | fail) (by omega)
    · skip
      intro s b k i0 i1 i2 i3 i4 i5 i6 hm
      have hb9 : (0 : Int) ≤ F 106 9 ∧ F 106 9 ≤ 400 := hI.1 106 9
      refine sA_iload_n dd_X9_isTurned_14 rfl (.head _) ?_
      refine sA_aload_n dd_X9_isTurned_15 rfl (.tail _ (.tail _ (.tail _ (.head _)))) ?_
      refine sA_geti (ci := 9) (j := 9) (q := (RX9, TX9, 28)) dd_X9_isTurned_16 rfl (by decide) fl_X9_83 (by decide) gs_s106 rfl ?_
      have b3 : (0 : Int) ≤ F 106 9 ∧ F 106 9 ≤ 400 := hI.1 106 9
      refine sA_icmp_ge (tgt := 54) dd_X9_isTurned_19 (by decide) (by omega) (by omega) (fun q4 => ?_) (fun q4 => ?_)
      · skip
        refine sA_iload_n dd_X9_isTurned_54 rfl (.tail _ (.head _)) ?_
        refine sA_if_eq (tgt := 60) dd_X9_isTurned_55 (by decide) (by omega) (fun q5 => ?_) (fun q5 => ?_)
        · skip
          refine sA_iinc (lv' := [(1, gs_iv (s + 1)), (3, gs_iv k), (2, gs_iv b), (0, .ref 106)]) dd_X9_isTurned_60 (.tail _ (.tail _ (.head _))) (by decide) rfl ?_
          refine sA_goto (tgt := 2) dd_X9_isTurned_63 (by decide) ?_
          refine sA_sub (lv2 := [(1, gs_iv (s + 1)), (0, .ref 106)]) (List.forall_mem_cons.mpr ⟨(.head _), (List.forall_mem_cons.mpr ⟨(.tail _ (.tail _ (.tail _ (.head _)))), (fun _ h => absurd h List.not_mem_nil)⟩)⟩) ?_
          exact ih.1 (s + 1)  (by omega) (fun j h1 h2 => by first | (exfalso; omega) | (by_cases h : j < s <;> first | exact i4 j h1 h | (have e : j = s := (by omega); rw [e]; exact fun w => i6 (by omega) w) | fail) | fail) (by omega)
        · skip
          refine sA_iconst (z := 1) dd_X9_isTurned_58 ?_
          refine sA_bret (z := 1) dd_X9_isTurned_59 rfl (by omega) ?_
          refine ⟨_, rfl, rfl, rfl, ?_⟩
          exact .inl ⟨rfl, s, by omega, by omega, fun k h1 h2 => i5 (by omega) k h1 (by omega)⟩
      · skip
        refine sA_iload_n dd_X9_isTurned_22 rfl (.tail _ (.head _)) ?_
        refine sA_if_eq (tgt := 54) dd_X9_isTurned_23 (by decide) (by omega) (fun q6 => ?_) (fun q6 => ?_)
        · skip
          refine sA_iload_n dd_X9_isTurned_54 rfl (.tail _ (.head _)) ?_
          refine sA_if_eq (tgt := 60) dd_X9_isTurned_55 (by decide) (by omega) (fun q7 => ?_) (fun q7 => absurd q7 (by omega))
          refine sA_iinc (lv' := [(1, gs_iv (s + 1)), (3, gs_iv k), (2, gs_iv b), (0, .ref 106)]) dd_X9_isTurned_60 (.tail _ (.tail _ (.head _))) (by decide) rfl ?_
          refine sA_goto (tgt := 2) dd_X9_isTurned_63 (by decide) ?_
          refine sA_sub (lv2 := [(1, gs_iv (s + 1)), (0, .ref 106)]) (List.forall_mem_cons.mpr ⟨(.head _), (List.forall_mem_cons.mpr ⟨(.tail _ (.tail _ (.tail _ (.head _)))), (fun _ h => absurd h List.not_mem_nil)⟩)⟩) ?_
          exact ih.1 (s + 1)  (by omega) (fun j h1 h2 => by first | (exfalso; omega) | (by_cases h : j < s <;> first | exact i4 j h1 h | (have e : j = s := (by omega); rw [e]; exact fun w => i6 (by omega) w) | fail) | fail) (by omega)
        · skip
          refine sA_aload_n dd_X9_isTurned_26 rfl (.tail _ (.tail _ (.tail _ (.head _)))) ?_
          refine sA_iload_n dd_X9_isTurned_27 rfl (.tail _ (.tail _ (.head _))) ?_
          refine sA_iload_n dd_X9_isTurned_28 rfl (.head _) ?_
          refine sA_iadd dd_X9_isTurned_29 ?_
          refine sA_callV (y2 := m_X9_ofU) (n2 := 1) (d2 := 1) (a := 106) (ci := 9) (q := (RX9, TX9, 28)) (as := [gs_iv (s + k)]) (rest := []) dd_X9_isTurned_30 ok_X9_ofU ml_X9_89 rfl rfl (by decide) gs_s106 rfl rfl (Nat.le_of_ble_eq_true rfl) (by decide) (c_X9_ofU_vf hI (by omega) (by omega)) (fun r8 F9 A10 h11 => ?_)
          obtain ⟨z14, e13, e15, e16, x12⟩ := h11
          subst e13 e15 e16
          have y17 : z14 = A 112 ((s + k) % F 106 9).toNat ∧ -9 ≤ z14 ∧ z14 ≤ 9 := x12
          clear x12
          show sA _ _ _ 33 _ [gs_iv z14] _ _
          refine sA_aload_n dd_X9_isTurned_33 rfl (.tail _ (.tail _ (.tail _ (.head _)))) ?_
          refine sA_getr (ci := 9) (j := 10) (q := (RX9, TX9, 28)) dd_X9_isTurned_34 rfl (by decide) fl_X9_28 (by decide) gs_s106 rfl ?_
          refine sA_iload_n dd_X9_isTurned_37 rfl (.head _) ?_
          refine sA_iald (n := 400) dd_X9_isTurned_38 (by decide) gs_s113 (by omega) (by decide) ?_
          have b18 : (-9 : Int) ≤ A 113 k.toNat ∧ A 113 k.toNat ≤ 9 := hI.2 113 k.toNat
          refine sA_icmp_ne (tgt := 46) dd_X9_isTurned_39 (by decide) (by omega) (by omega) (fun q19 => ?_) (fun q19 => ?_)
          · skip
            refine sA_iconst (z := 0) dd_X9_isTurned_46 ?_
            refine sA_istore_n (lv' := [(2, gs_iv 0), (3, gs_iv k), (1, gs_iv s), (0, .ref 106)]) dd_X9_isTurned_47 rfl (by decide) rfl ?_
            refine sA_iinc (lv' := [(3, gs_iv (k + 1)), (2, gs_iv 0), (1, gs_iv s), (0, .ref 106)]) dd_X9_isTurned_48 (.tail _ (.head _)) (by decide) rfl ?_
            refine sA_goto (tgt := 14) dd_X9_isTurned_51 (by decide) ?_
            refine sA_sub (lv2 := [(3, gs_iv (k + 1)), (2, gs_iv 0), (1, gs_iv s), (0, .ref 106)]) (List.forall_mem_cons.mpr ⟨(.head _), (List.forall_mem_cons.mpr ⟨(.tail _ (.head _)), (List.forall_mem_cons.mpr ⟨(.tail _ (.tail _ (.head _))), (List.forall_mem_cons.mpr ⟨(.tail _ (.tail _ (.tail _ (.head _)))), (fun _ h => absurd h List.not_mem_nil)⟩)⟩)⟩)⟩) ?_
            exact ih.2 s 0 (k + 1)  (by omega) (by omega) (by omega) (by omega) (by first | exact i1 | exact i4 | fail) (by first | (intro h0 j h1 h2; exfalso; omega) | (intro h0 j h1 h2; by_cases h : j < k <;> first | exact i5 (by omega) j h1 h | (have e : j = k := (by omega); rw [e]; omega) | fail) | fail) (by first | (intro h0; exfalso; omega) | (intro h0 w; have w2 := w k (by omega) (by omega); omega) | fail) (by omega)
          · skip
            refine sA_iconst (z := 1) dd_X9_isTurned_42 ?_
            refine sA_goto (tgt := 47) dd_X9_isTurned_43 (by decide) ?_
            refine sA_istore_n (lv' := [(2, gs_iv 1), (3, gs_iv k), (1, gs_iv s), (0, .ref 106)]) dd_X9_isTurned_47 rfl (by decide) rfl ?_
            refine sA_iinc (lv' := [(3, gs_iv (k + 1)), (2, gs_iv 1), (1, gs_iv s), (0, .ref 106)]) dd_X9_isTurned_48 (.tail _ (.head _)) (by decide) rfl ?_
            refine sA_goto (tgt := 14) dd_X9_isTurned_51 (by decide) ?_
            refine sA_sub (lv2 := [(3, gs_iv (k + 1)), (2, gs_iv 1), (1, gs_iv s), (0, .ref 106)]) (List.forall_mem_cons.mpr ⟨(.head _), (List.forall_mem_cons.mpr ⟨(.tail _ (.head _)), (List.forall_mem_cons.mpr ⟨(.tail _ (.tail _ (.head _))), (List.forall_mem_cons.mpr ⟨(.tail _ (.tail _ (.tail _ (.head _)))), (fun _ h => absurd h List.not_mem_nil)⟩)⟩)⟩)⟩) ?_
            exact ih.2 s 1 (k + 1)  (by omega) (by omega) (by omega) (by omega) (by first | exact i1 | exact i4 | fail) (by first | (intro h0 j h1 h2; exfalso; omega) | (intro h0 j h1 h2; by_cases h : j < k <;> first | exact i5 (by omega) j h1 h | (have e : j = k := (by omega); rw [e]; omega) | fail) | fail) (by first | (intro h0; exfalso; omega) | (intro h0 w; have w2 := w k (by omega) (by omega); omega) | fail) (by omega)
theorem c_X9_isTurned_vf  {F A : gs_F} (hI : gs_I F A)  : sC m_X9_isTurned 2 [.ref 106] F A (fun rv F' A' => ∃ z : Int, rv = some (gs_iv z) ∧ F = F' ∧ A = A' ∧ ((z = 1 ∧ gs_tu (A 112) (A 113) (F 106 9)) ∨ (z = 0 ∧ ¬ gs_tu (A 112) (A 113) (F 106 9)))) := by
  refine sC_of ok_X9_isTurned.1 (Nat.le_of_ble_eq_true rfl) ?_
  show sA _ _ _ 0 [(0, .ref 106)] [] F A
  have hb9 : (0 : Int) ≤ F 106 9 ∧ F 106 9 ≤ 400 := hI.1 106 9
  refine sA_iconst (z := 0) dd_X9_isTurned_0 ?_
  refine sA_istore_n (lv' := [(1, gs_iv 0), (0, .ref 106)]) dd_X9_isTurned_1 rfl (by decide) rfl ?_
  refine sA_sub (lv2 := [(1, gs_iv 0), (0, .ref 106)]) (List.forall_mem_cons.mpr ⟨(.head _), (List.forall_mem_cons.mpr ⟨(.tail _ (.head _)), (fun _ h => absurd h List.not_mem_nil)⟩)⟩) ?_
  exact (k_X9_isTurned_vf hI ((F 106 9 - 0) * 402 + 1 : Int).toNat.succ).1 0  (by omega) (fun j h1 h2 => by first | (exfalso; omega) | (by_cases h : j < s <;> first | exact i4 j h1 h | (have e : j = s := (by omega); rw [e]; exact fun w => i6 (by omega) w) | fail) | fail) (by omega)
theorem k_X9_turnV_vf  {F A : gs_F} (hI : gs_I F A) (hv : 1 ≤ F 106 11) : ∀ nN : Nat, (∀ (k : Int)  (F1 A1 : gs_F), gs_I F1 A1 → gs_fr (fun _ _ => False) (fun c => c = 113) F A F1 A1 → 0 ≤ k ∧ 2 * k ≤ F1 106 11 + 1 → 1 ≤ F1 106 11 ∧ F1 106 11 ≤ 60 → (∀ j : Int, 0 ≤ j → j < F 106 11 → ((j < k ∨ F 106 11 - 1 - k < j) → A1 113 j.toNat = -(A 113 (F 106 11 - 1 - j).toNat)) ∧ ((k ≤ j ∧ j ≤ F 106 11 - 1 - k) → A1 113 j.toNat = A 113 j.toNat)) → F1 106 11 = F 106 11 → 100 - k < (nN : Int) → sA m_X9_turnV 1 (fun rv F' A' => rv = none ∧ gs_I F' A' ∧ gs_fr (fun _ _ => False) (fun c => c = 113) F A F' A' ∧ (∀ k : Int, 0 ≤ k → k < F 106 11 → A' 113 k.toNat = -(A 113 (F 106 11 - 1 - k).toNat))) 2 [(1, gs_iv k), (0, .ref 106)] [] F1 A1) := by
  intro nN
  induction nN with
  | zero =>
    exact fun a0 a1 a2 a3 a4 i0 i1 i2 i3 hm => by exfalso; omega
  | succ nN ih =>
    intro k F1 A1 hI1 hf1 i0 i1 i2 i3 hm
    have b1 : (0 : Int) ≤ F1 106 11 ∧ F1 106 11 ≤ 60 := hI1.1 106 11
    have u2 : A1 113 = A1 113 := rfl
    refine sA_iload_n dd_X9_turnV_2 rfl (.head _) ?_
    refine sA_aload_n dd_X9_turnV_3 rfl (.tail _ (.head _)) ?_
    refine sA_geti (ci := 9) (j := 11) (q := (RX9, TX9, 28)) dd_X9_turnV_4 rfl (by decide) fl_X9_86 (by decide) gs_s106 rfl ?_
    refine sA_iconst (z := 1) dd_X9_turnV_7 ?_
    refine sA_isub dd_X9_turnV_8 ?_
    refine sA_iconst (z := 2) dd_X9_turnV_9 ?_
    refine sA_idivN dd_X9_turnV_10 (by omega) (by omega) (by omega) ?_
    refine sA_icmp_gt (tgt := 66) dd_X9_turnV_11 (by decide) (by omega) (by omega) (fun q3 => ?_) (fun q3 => ?_)
    · skip
      refine sA_vret dd_X9_turnV_66 rfl ?_
      refine ⟨rfl, hI1, hf1, ?_⟩
      exact fun j h1 h2 => (i2 j h1 h2).1 (by omega)
    · skip
      refine sA_aload_n dd_X9_turnV_14 rfl (.tail _ (.head _)) ?_
      refine sA_getr (ci := 9) (j := 10) (q := (RX9, TX9, 28)) dd_X9_turnV_15 rfl (by decide) fl_X9_28 (by decide) gs_s106 rfl ?_
      refine sA_iload_n dd_X9_turnV_18 rfl (.head _) ?_
      refine sA_iald (n := 400) dd_X9_turnV_19 (by decide) gs_s113 (by omega) (by decide) ?_
      have b4 : (-9 : Int) ≤ A1 113 k.toNat ∧ A1 113 k.toNat ≤ 9 := hI1.2 113 k.toNat
      refine sA_istore_n (lv' := [(2, gs_iv (A1 113 k.toNat)), (1, gs_iv k), (0, .ref 106)]) dd_X9_turnV_20 rfl (by decide) rfl ?_
      refine sA_aload_n dd_X9_turnV_21 rfl (.tail _ (.tail _ (.head _))) ?_
      refine sA_getr (ci := 9) (j := 10) (q := (RX9, TX9, 28)) dd_X9_turnV_22 rfl (by decide) fl_X9_28 (by decide) gs_s106 rfl ?_
      refine sA_aload_n dd_X9_turnV_25 rfl (.tail _ (.tail _ (.head _))) ?_
      refine sA_geti (ci := 9) (j := 11) (q := (RX9, TX9, 28)) dd_X9_turnV_26 rfl (by decide) fl_X9_86 (by decide) gs_s106 rfl ?_
      refine sA_iconst (z := 1) dd_X9_turnV_29 ?_
      refine sA_isub dd_X9_turnV_30 ?_
      refine sA_iload_n dd_X9_turnV_31 rfl (.tail _ (.head _)) ?_
      refine sA_isub dd_X9_turnV_32 ?_
      refine sA_iald (n := 400) dd_X9_turnV_33 (by decide) gs_s113 (by omega) (by decide) ?_
      have b5 : (-9 : Int) ≤ A1 113 (((F1 106 11) - 1) - k).toNat ∧ A1 113 (((F1 106 11) - 1) - k).toNat ≤ 9 := hI1.2 113 (((F1 106 11) - 1) - k).toNat
      refine sA_istore_n (lv' := [(3, gs_iv (A1 113 (((F1 106 11) - 1) - k).toNat)), (2, gs_iv (A1 113 k.toNat)), (1, gs_iv k), (0, .ref 106)]) dd_X9_turnV_34 rfl (by decide) rfl ?_
      refine sA_aload_n dd_X9_turnV_35 rfl (.tail _ (.tail _ (.tail _ (.head _)))) ?_
      refine sA_getr (ci := 9) (j := 10) (q := (RX9, TX9, 28)) dd_X9_turnV_36 rfl (by decide) fl_X9_28 (by decide) gs_s106 rfl ?_
      refine sA_iload_n dd_X9_turnV_39 rfl (.tail _ (.tail _ (.head _))) ?_
      refine sA_iconst (z := 0) dd_X9_turnV_40 ?_
      refine sA_iload_n dd_X9_turnV_41 rfl (.head _) ?_
      refine sA_isub dd_X9_turnV_42 ?_
      refine sA_iast (n := 400) dd_X9_turnV_43 (by decide) gs_s113 (by omega) (by decide) ?_
      have I7 : gs_I F1 (gs_up A1 113 k.toNat (0 - (A1 113 (((F1 106 11) - 1) - k).toNat))) := gs_I_ast hI1 (show (-9 : Int) ≤ 0 - (A1 113 (((F1 106 11) - 1) - k).toNat) ∧ 0 - (A1 113 (((F1 106 11) - 1) - k).toNat) ≤ 9 by omega)
      have f8 := gs_fr_ast hf1 (a := 113) (z := 0 - (A1 113 (((F1 106 11) - 1) - k).toNat)) (i := k.toNat) (by first | omega | (dsimp only; omega) | (dsimp only) | fail)
      have u9 : (gs_up A1 113 k.toNat (0 - (A1 113 (((F1 106 11) - 1) - k).toNat))) 113 = gs_u (A1 113) k.toNat (0 - (A1 113 (((F1 106 11) - 1) - k).toNat)) := (gs_up_u A1 113 k.toNat (0 - (A1 113 (((F1 106 11) - 1) - k).toNat))).trans (congrArg (fun f => gs_u f k.toNat (0 - (A1 113 (((F1 106 11) - 1) - k).toNat))) u2)
      generalize gs_up A1 113 k.toNat (0 - (A1 113 (((F1 106 11) - 1) - k).toNat)) = A6 at I7 f8 u9 ⊢
      refine sA_aload_n dd_X9_turnV_44 rfl (.tail _ (.tail _ (.tail _ (.head _)))) ?_
      refine sA_getr (ci := 9) (j := 10) (q := (RX9, TX9, 28)) dd_X9_turnV_45 rfl (by decide) fl_X9_28 (by decide) gs_s106 rfl ?_
      refine sA_aload_n dd_X9_turnV_48 rfl (.tail _ (.tail _ (.tail _ (.head _)))) ?_
      refine sA_geti (ci := 9) (j := 11) (q := (RX9, TX9, 28)) dd_X9_turnV_49 rfl (by decide) fl_X9_86 (by decide) gs_s106 rfl ?_
      refine sA_iconst (z := 1) dd_X9_turnV_52 ?_
      refine sA_isub dd_X9_turnV_53 ?_
      refine sA_iload_n dd_X9_turnV_54 rfl (.tail _ (.tail _ (.head _))) ?_
      refine sA_isub dd_X9_turnV_55 ?_
      refine sA_iconst (z := 0) dd_X9_turnV_56 ?_
      refine sA_iload_n dd_X9_turnV_57 rfl (.tail _ (.head _)) ?_
      refine sA_isub dd_X9_turnV_58 ?_
      refine sA_iast (n := 400) dd_X9_turnV_59 (by decide) gs_s113 (by omega) (by decide) ?_
      have I11 : gs_I F1 (gs_up A6 113 ((((F1 106 11) - 1) - k).toNat) (0 - (A1 113 k.toNat))) := gs_I_ast I7 (show (-9 : Int) ≤ 0 - (A1 113 k.toNat) ∧ 0 - (A1 113 k.toNat) ≤ 9 by omega)
      have f12 := gs_fr_ast f8 (a := 113) (z := 0 - (A1 113 k.toNat)) (i := (((F1 106 11) - 1) - k).toNat) (by first | omega | (dsimp only; omega) | (dsimp only) | fail)
      have u13 : (gs_up A6 113 ((((F1 106 11) - 1) - k).toNat) (0 - (A1 113 k.toNat))) 113 = gs_u (gs_u (A1 113) k.toNat (0 - (A1 113 (((F1 106 11) - 1) - k).toNat))) ((((F1 106 11) - 1) - k).toNat) (0 - (A1 113 k.toNat)) := (gs_up_u A6 113 ((((F1 106 11) - 1) - k).toNat) (0 - (A1 113 k.toNat))).trans (congrArg (fun f => gs_u f ((((F1 106 11) - 1) - k).toNat) (0 - (A1 113 k.toNat))) u9)
      generalize gs_up A6 113 ((((F1 106 11) - 1) - k).toNat) (0 - (A1 113 k.toNat)) = A10 at I11 f12 u13 ⊢
      refine sA_iinc (lv' := [(1, gs_iv (k + 1)), (3, gs_iv (A1 113 (((F1 106 11) - 1) - k).toNat)), (2, gs_iv (A1 113 k.toNat)), (0, .ref 106)]) dd_X9_turnV_60 (.tail _ (.tail _ (.head _))) (by decide) rfl ?_
      refine sA_goto (tgt := 2) dd_X9_turnV_63 (by decide) ?_
      refine sA_sub (lv2 := [(1, gs_iv (k + 1)), (0, .ref 106)]) (List.forall_mem_cons.mpr ⟨(.head _), (List.forall_mem_cons.mpr ⟨(.tail _ (.tail _ (.tail _ (.head _)))), (fun _ h => absurd h List.not_mem_nil)⟩)⟩) ?_
      exact ih (k + 1) F1 A10 I11 f12 (by omega) (by omega) (by first | exact gs_rv_ext (by omega) (by omega) u13 (show F1 106 11 = F 106 11 by omega) i2 | exact fun j h1 h2 => ⟨fun h => by exfalso; omega, fun h => rfl⟩ | fail) (by omega) (by omega)
theorem c_X9_turnV_vf  {F A : gs_F} (hI : gs_I F A) (hv : 1 ≤ F 106 11) : sC m_X9_turnV 1 [.ref 106] F A (fun rv F' A' => rv = none ∧ gs_I F' A' ∧ gs_fr (fun _ _ => False) (fun c => c = 113) F A F' A' ∧ (∀ k : Int, 0 ≤ k → k < F 106 11 → A' 113 k.toNat = -(A 113 (F 106 11 - 1 - k).toNat))) := by
  refine sC_of ok_X9_turnV.1 (Nat.le_of_ble_eq_true rfl) ?_
  show sA _ _ _ 0 [(0, .ref 106)] [] F A
  have hf : gs_fr (fun _ _ => False) (fun c => c = 113) F A F A := gs_fr_refl _ _ _ _
  have b14 : (0 : Int) ≤ F 106 11 ∧ F 106 11 ≤ 60 := hI.1 106 11
  have u15 : A 113 = A 113 := rfl
  refine sA_iconst (z := 0) dd_X9_turnV_0 ?_
  refine sA_istore_n (lv' := [(1, gs_iv 0), (0, .ref 106)]) dd_X9_turnV_1 rfl (by decide) rfl ?_
  refine sA_sub (lv2 := [(1, gs_iv 0), (0, .ref 106)]) (List.forall_mem_cons.mpr ⟨(.head _), (List.forall_mem_cons.mpr ⟨(.tail _ (.head _)), (fun _ h => absurd h List.not_mem_nil)⟩)⟩) ?_
  exact (k_X9_turnV_vf hI hv (100 - 0 : Int).toNat.succ) 0 F A hI hf (by omega) (by omega) (by first | exact gs_rv_ext (by omega) (by omega) u15 (show F1 106 11 = F 106 11 by omega) i2 | exact fun j h1 h2 => ⟨fun h => by exfalso; omega, fun h => rfl⟩ | fail) (by omega) (by omega)
theorem c_X9_areOne_vf  {F A : gs_F} (hI : gs_I F A) (hv : 1 ≤ F 106 11) : sC m_X9_areOne 3 [.ref 106] F A (fun rv F' A' => ∃ z : Int, rv = some (gs_iv z) ∧ gs_I F' A' ∧ gs_fr (fun _ _ => False) (fun c => c = 113) F A F' A' ∧ ((z = 1 ∧ gs_ao (A 112) (F 106 9) (A 113) (F 106 11)) ∨ (z = 0 ∧ ¬ gs_ao (A 112) (F 106 9) (A 113) (F 106 11)))) := by
  refine sC_of ok_X9_areOne.1 (Nat.le_of_ble_eq_true rfl) ?_
  show sA _ _ _ 0 [(0, .ref 106)] [] F A
  have hf : gs_fr (fun _ _ => False) (fun c => c = 113) F A F A := gs_fr_refl _ _ _ _
  have b1 : (0 : Int) ≤ F 106 9 ∧ F 106 9 ≤ 400 := hI.1 106 9
  have b2 : (0 : Int) ≤ F 106 11 ∧ F 106 11 ≤ 60 := hI.1 106 11
  have u3 : A 112 = A 112 := rfl
  refine sA_aload_n dd_X9_areOne_0 rfl (.head _) ?_
  refine sA_geti (ci := 9) (j := 9) (q := (RX9, TX9, 28)) dd_X9_areOne_1 rfl (by decide) fl_X9_83 (by decide) gs_s106 rfl ?_
  refine sA_aload_n dd_X9_areOne_4 rfl (.head _) ?_
  refine sA_geti (ci := 9) (j := 11) (q := (RX9, TX9, 28)) dd_X9_areOne_5 rfl (by decide) fl_X9_86 (by decide) gs_s106 rfl ?_
  refine sA_icmp_eq (tgt := 13) dd_X9_areOne_8 (by decide) (by omega) (by omega) (fun q4 => ?_) (fun q4 => ?_)
  · skip
    refine sA_aload_n dd_X9_areOne_13 rfl (.head _) ?_
    refine sA_callV (y2 := m_X9_isTurned) (n2 := 0) (d2 := 2) (a := 106) (ci := 9) (q := (RX9, TX9, 28)) (as := []) (rest := []) dd_X9_areOne_14 ok_X9_isTurned ml_X9_93 rfl rfl (by decide) gs_s106 rfl rfl (Nat.le_of_ble_eq_true rfl) (by decide) (c_X9_isTurned_vf hI ) (fun r5 F6 A7 h8 => ?_)
    obtain ⟨z11, e10, e12, e13, x9⟩ := h8
    subst e10 e12 e13
    have y14 : (z11 = 1 ∧ gs_tu (A 112) (A 113) (F 106 9)) ∨ (z11 = 0 ∧ ¬ gs_tu (A 112) (A 113) (F 106 9)) := x9
    clear x9
    show sA _ _ _ 17 _ [gs_iv z11] _ _
    have hz14 : z11 = 0 ∨ z11 = 1 := by omega
    refine sA_if_eq (tgt := 22) dd_X9_areOne_17 (by decide) (by omega) (fun q15 => ?_) (fun q15 => ?_)
    · skip
      refine sA_aload_n dd_X9_areOne_22 rfl (.head _) ?_
      refine sA_callV (y2 := m_X9_turnV) (n2 := 0) (d2 := 1) (a := 106) (ci := 9) (q := (RX9, TX9, 28)) (as := []) (rest := []) dd_X9_areOne_23 ok_X9_turnV ml_X9_97 rfl rfl (by decide) gs_s106 rfl rfl (Nat.le_of_ble_eq_true rfl) (by decide) (c_X9_turnV_vf hI (by omega)) (fun r16 F17 A18 h19 => ?_)
      obtain ⟨e21, I22, f23, x20⟩ := h19
      subst e21
      have v24 : F17 106 9 = F 106 9 := f23.1 106 9 (by first | exact id | omega | (dsimp only; omega) | (dsimp only) | fail)
      have v25 : F17 106 11 = F 106 11 := f23.1 106 11 (by first | exact id | omega | (dsimp only; omega) | (dsimp only) | fail)
      have f26 := gs_fr_tr hf f23 (fun b j h => by first | exact False.elim h | omega | (dsimp only at h ⊢; omega) | fail) (fun b h => by first | exact False.elim h | omega | (dsimp only at h ⊢; omega) | fail)
      have u27 : A18 112 = A 112 := (f23.2 112 (by first | exact id | omega | (dsimp only; omega) | (dsimp only) | fail)).trans u3
      have y28 : ∀ k : Int, 0 ≤ k → k < F 106 11 → A18 113 k.toNat = -(A 113 (F 106 11 - 1 - k).toNat) := x20
      clear x20
      show sA _ _ _ 26 _ [] _ _
      refine sA_aload_n dd_X9_areOne_26 rfl (.head _) ?_
      refine sA_callV (y2 := m_X9_isTurned) (n2 := 0) (d2 := 2) (a := 106) (ci := 9) (q := (RX9, TX9, 28)) (as := []) (rest := []) dd_X9_areOne_27 ok_X9_isTurned ml_X9_93 rfl rfl (by decide) gs_s106 rfl rfl (Nat.le_of_ble_eq_true rfl) (by decide) (c_X9_isTurned_vf I22 ) (fun r29 F30 A31 h32 => ?_)
      obtain ⟨z35, e34, e36, e37, x33⟩ := h32
      subst e34 e36 e37
      have y38 : (z35 = 1 ∧ gs_tu (A18 112) (A18 113) (F17 106 9)) ∨ (z35 = 0 ∧ ¬ gs_tu (A18 112) (A18 113) (F17 106 9)) := x33
      clear x33
      show sA _ _ _ 30 _ [gs_iv z35] _ _
      have hz27 : z35 = 0 ∨ z35 = 1 := by omega
      refine sA_bret (z := z35) dd_X9_areOne_30 rfl (by omega) ?_
      refine ⟨_, rfl, I22, f26, ?_⟩
      have e9 : F17 106 9 = F 106 9 := by omega
      have hcg : ∀ i : Nat, (i : Int) < F 106 9 → A18 113 i = gs_rv (A 113) (F 106 11) i := fun i hi => y28 i (by omega) (by omega)
      rcases y38 with h | h
      · left
        have h2 := h.2
        rw [e9, u27] at h2
        exact ⟨h.1, by omega, .inr (gs_tu_cg (fun _ _ => rfl) hcg h2)⟩
      · right
        refine ⟨h.1, fun w => ?_⟩
        rcases w.2 with w | w
        · rcases y14 with q | q
          · omega
          · exact q.2 w
        · apply h.2
          rw [e9, u27]
          exact gs_tu_cg (fun _ _ => rfl) (fun i hi => (hcg i hi).symm) w
    · skip
      refine sA_iconst (z := 1) dd_X9_areOne_20 ?_
      refine sA_bret (z := 1) dd_X9_areOne_21 rfl (by omega) ?_
      refine ⟨_, rfl, hI, hf, ?_⟩
      exact .inl ⟨rfl, by omega, .inl (by rcases y14 with h | h <;> first | exact h.2 | (exfalso; omega) | fail)⟩
  · skip
    refine sA_iconst (z := 0) dd_X9_areOne_11 ?_
    refine sA_bret (z := 0) dd_X9_areOne_12 rfl (by omega) ?_
    refine ⟨_, rfl, hI, hf, ?_⟩
    exact .inr ⟨rfl, fun h => absurd h.1 (by omega)⟩
theorem c_X9_one_vf {r s : Int} {F A : gs_F} (hI : gs_I F A) (hr : -2147483648 ≤ r ∧ r ≤ 2147483647) (hs : -2147483648 ≤ s ∧ s ≤ 2147483647) (hX : ∀ r : Nat, (r : Int) < F 106 3 → 1 ≤ A 108 r) : sC m_X9_one 4 [.ref 106, gs_iv r, gs_iv s] F A (fun rv F' A' => ∃ z : Int, rv = some (gs_iv z) ∧ gs_I F' A' ∧ gs_fr (fun c j => c = 106 ∧ (j = 9 ∨ j = 11)) (fun c => c = 112 ∨ c = 113) F A F' A' ∧ (((r < 0 ∨ F 106 3 ≤ r ∨ s < 0 ∨ F 106 3 ≤ s) ∧ z = -1001) ∨ (0 ≤ r ∧ r < F 106 3 ∧ 0 ≤ s ∧ s < F 106 3 ∧ ((z = 1 ∧ gs_ao (fun i => A 109 (60 * r.toNat + i)) (A 108 r.toNat) (fun i => A 109 (60 * s.toNat + i)) (A 108 s.toNat)) ∨ (z = 0 ∧ ¬ gs_ao (fun i => A 109 (60 * r.toNat + i)) (A 108 r.toNat) (fun i => A 109 (60 * s.toNat + i)) (A 108 s.toNat)))))) := by
  refine sC_of ok_X9_one.1 (Nat.le_of_ble_eq_true rfl) ?_
  show sA _ _ _ 0 [(0, .ref 106), (1, gs_iv r), (2, gs_iv s)] [] F A
  have hf : gs_fr (fun c j => c = 106 ∧ (j = 9 ∨ j = 11)) (fun c => c = 112 ∨ c = 113) F A F A := gs_fr_refl _ _ _ _
  have b1 : (0 : Int) ≤ F 106 9 ∧ F 106 9 ≤ 400 := hI.1 106 9
  have b2 : (0 : Int) ≤ F 106 11 ∧ F 106 11 ≤ 60 := hI.1 106 11
  have b3 : (0 : Int) ≤ F 106 3 ∧ F 106 3 ≤ 12 := hI.1 106 3
  have u4 : A 112 = A 112 := rfl
  have u5 : A 109 = A 109 := rfl
  refine sA_aload_n dd_X9_one_0 rfl (.head _) ?_
  refine sA_iload_n dd_X9_one_1 rfl (.tail _ (.head _)) ?_
  refine sA_callV (y2 := m_X9_noRing) (n2 := 1) (d2 := 2) (a := 106) (ci := 9) (q := (RX9, TX9, 28)) (as := [gs_iv r]) (rest := []) dd_X9_one_2 ok_X9_noRing ml_X9_100 rfl rfl (by decide) gs_s106 rfl rfl (Nat.le_of_ble_eq_true rfl) (by decide) (c_X9_noRing hI (by omega)) (fun r6 F7 A8 h9 => ?_)
  obtain ⟨z12, e11, e13, e14, x10⟩ := h9
  subst e11 e13 e14
  show sA _ _ _ 5 _ [gs_iv z12] _ _
  refine sA_if_ne (tgt := 16) dd_X9_one_5 (by decide) (by omega) (fun q15 => ?_) (fun q15 => ?_)
  · skip
    refine sA_sipush (z := (-1001)) dd_X9_one_16 (by decide) ?_
    refine sA_iret (z := -1001) dd_X9_one_19 rfl ?_
    refine ⟨_, rfl, hI, hf, ?_⟩
    exact .inl ⟨by omega, rfl⟩
  · skip
    refine sA_aload_n dd_X9_one_8 rfl (.head _) ?_
    refine sA_iload_n dd_X9_one_9 rfl (.tail _ (.tail _ (.head _))) ?_
    refine sA_callV (y2 := m_X9_noRing) (n2 := 1) (d2 := 2) (a := 106) (ci := 9) (q := (RX9, TX9, 28)) (as := [gs_iv s]) (rest := []) dd_X9_one_10 ok_X9_noRing ml_X9_100 rfl rfl (by decide) gs_s106 rfl rfl (Nat.le_of_ble_eq_true rfl) (by decide) (c_X9_noRing hI (by omega)) (fun r16 F17 A18 h19 => ?_)
    obtain ⟨z22, e21, e23, e24, x20⟩ := h19
    subst e21 e23 e24
    show sA _ _ _ 13 _ [gs_iv z22] _ _
    refine sA_if_eq (tgt := 20) dd_X9_one_13 (by decide) (by omega) (fun q25 => ?_) (fun q25 => ?_)
    · skip
      have hx_s := hX s.toNat (by omega)
      refine sA_aload_n dd_X9_one_20 rfl (.head _) ?_
      refine sA_iload_n dd_X9_one_21 rfl (.tail _ (.head _)) ?_
      refine sA_callV (y2 := m_X9_takeU) (n2 := 1) (d2 := 1) (a := 106) (ci := 9) (q := (RX9, TX9, 28)) (as := [gs_iv r]) (rest := []) dd_X9_one_22 ok_X9_takeU ml_X9_103 rfl rfl (by decide) gs_s106 rfl rfl (Nat.le_of_ble_eq_true rfl) (by decide) (c_X9_takeU_vf hI (by omega)) (fun r26 F27 A28 h29 => ?_)
      obtain ⟨e31, I32, f33, x30⟩ := h29
      subst e31
      have v35 : F27 106 11 = F 106 11 := f33.1 106 11 (by first | exact id | omega | (dsimp only; omega) | (dsimp only) | fail)
      have v36 : F27 106 3 = F 106 3 := f33.1 106 3 (by first | exact id | omega | (dsimp only; omega) | (dsimp only) | fail)
      have v37 : A28 108 s.toNat = A 108 s.toNat := congrFun (f33.2 108 (by first | exact id | omega | (dsimp only; omega) | (dsimp only) | fail)) _
      have v38 : A28 108 r.toNat = A 108 r.toNat := congrFun (f33.2 108 (by first | exact id | omega | (dsimp only; omega) | (dsimp only) | fail)) _
      have f39 := gs_fr_tr hf f33 (fun b j h => by first | exact False.elim h | omega | (dsimp only at h ⊢; omega) | fail) (fun b h => by first | exact False.elim h | omega | (dsimp only at h ⊢; omega) | fail)
      have u40 : A28 112 = A28 112 := rfl
      have u41 : A28 109 = A 109 := (f33.2 109 (by first | exact id | omega | (dsimp only; omega) | (dsimp only) | fail)).trans u5
      have y42 : F27 106 9 = A 108 r.toNat ∧ ∀ k : Int, 0 ≤ k → k < A 108 r.toNat → A28 112 k.toNat = A 109 (60 * r + k).toNat := x30
      clear x30
      show sA _ _ _ 25 _ [] _ _
      refine sA_aload_n dd_X9_one_25 rfl (.head _) ?_
      refine sA_iload_n dd_X9_one_26 rfl (.tail _ (.tail _ (.head _))) ?_
      refine sA_callV (y2 := m_X9_takeV) (n2 := 1) (d2 := 1) (a := 106) (ci := 9) (q := (RX9, TX9, 28)) (as := [gs_iv s]) (rest := []) dd_X9_one_27 ok_X9_takeV ml_X9_106 rfl rfl (by decide) gs_s106 rfl rfl (Nat.le_of_ble_eq_true rfl) (by decide) (c_X9_takeV_vf I32 (by omega)) (fun r43 F44 A45 h46 => ?_)
      obtain ⟨e48, I49, f50, x47⟩ := h46
      subst e48
      have v51 : F44 106 9 = F27 106 9 := f50.1 106 9 (by first | exact id | omega | (dsimp only; omega) | (dsimp only) | fail)
      have v53 : F44 106 3 = F27 106 3 := f50.1 106 3 (by first | exact id | omega | (dsimp only; omega) | (dsimp only) | fail)
      have v54 : A45 108 s.toNat = A28 108 s.toNat := congrFun (f50.2 108 (by first | exact id | omega | (dsimp only; omega) | (dsimp only) | fail)) _
      have v55 : A45 108 r.toNat = A28 108 r.toNat := congrFun (f50.2 108 (by first | exact id | omega | (dsimp only; omega) | (dsimp only) | fail)) _
      have f56 := gs_fr_tr f39 f50 (fun b j h => by first | exact False.elim h | omega | (dsimp only at h ⊢; omega) | fail) (fun b h => by first | exact False.elim h | omega | (dsimp only at h ⊢; omega) | fail)
      have u57 : A45 112 = A28 112 := (f50.2 112 (by first | exact id | omega | (dsimp only; omega) | (dsimp only) | fail)).trans u40
      have u58 : A45 109 = A 109 := (f50.2 109 (by first | exact id | omega | (dsimp only; omega) | (dsimp only) | fail)).trans u41
      have y59 : F44 106 11 = A28 108 s.toNat ∧ ∀ k : Int, 0 ≤ k → k < A28 108 s.toNat → A45 113 k.toNat = A28 109 (60 * s + k).toNat := x47
      clear x47
      show sA _ _ _ 30 _ [] _ _
      refine sA_aload_n dd_X9_one_30 rfl (.head _) ?_
      refine sA_callV (y2 := m_X9_areOne) (n2 := 0) (d2 := 3) (a := 106) (ci := 9) (q := (RX9, TX9, 28)) (as := []) (rest := []) dd_X9_one_31 ok_X9_areOne ml_X9_109 rfl rfl (by decide) gs_s106 rfl rfl (Nat.le_of_ble_eq_true rfl) (by decide) (c_X9_areOne_vf I49 (by omega)) (fun r60 F61 A62 h63 => ?_)
      obtain ⟨z66, e65, I67, f68, x64⟩ := h63
      subst e65
      have v69 : F61 106 9 = F44 106 9 := f68.1 106 9 (by first | exact id | omega | (dsimp only; omega) | (dsimp only) | fail)
      have v70 : F61 106 11 = F44 106 11 := f68.1 106 11 (by first | exact id | omega | (dsimp only; omega) | (dsimp only) | fail)
      have v71 : F61 106 3 = F44 106 3 := f68.1 106 3 (by first | exact id | omega | (dsimp only; omega) | (dsimp only) | fail)
      have v72 : A62 108 s.toNat = A45 108 s.toNat := congrFun (f68.2 108 (by first | exact id | omega | (dsimp only; omega) | (dsimp only) | fail)) _
      have v73 : A62 108 r.toNat = A45 108 r.toNat := congrFun (f68.2 108 (by first | exact id | omega | (dsimp only; omega) | (dsimp only) | fail)) _
      have f74 := gs_fr_tr f56 f68 (fun b j h => by first | exact False.elim h | omega | (dsimp only at h ⊢; omega) | fail) (fun b h => by first | exact False.elim h | omega | (dsimp only at h ⊢; omega) | fail)
      have u75 : A62 112 = A28 112 := (f68.2 112 (by first | exact id | omega | (dsimp only; omega) | (dsimp only) | fail)).trans u57
      have u76 : A62 109 = A 109 := (f68.2 109 (by first | exact id | omega | (dsimp only; omega) | (dsimp only) | fail)).trans u58
      have y77 : (z66 = 1 ∧ gs_ao (A45 112) (F44 106 9) (A45 113) (F44 106 11)) ∨ (z66 = 0 ∧ ¬ gs_ao (A45 112) (F44 106 9) (A45 113) (F44 106 11)) := x64
      clear x64
      show sA _ _ _ 34 _ [gs_iv z66] _ _
      have hz31 : z66 = 0 ∨ z66 = 1 := by omega
      refine sA_callS (y2 := m_X9_bit) (n2 := 1) (d2 := 1) (as := [gs_iv z66]) (rest := []) dd_X9_one_34 ok_X9_bit ml_X9_112 rfl rfl (Nat.le_of_ble_eq_true rfl) (by decide) (c_X9_bit (by omega)) (fun r78 F79 A80 h81 => ?_)
      obtain ⟨z84, e83, e85, e86, x82⟩ := h81
      subst e83 e85 e86
      show sA _ _ _ 37 _ [gs_iv z84] _ _
      refine sA_iret (z := z84) dd_X9_one_37 rfl ?_
      refine ⟨_, rfl, I67, f74, ?_⟩
      refine .inr ⟨by omega, by omega, by omega, by omega, ?_⟩
      obtain ⟨t1, t2⟩ := y42
      obtain ⟨t3, t4⟩ := y59
      have e9 : F44 106 9 = A 108 r.toNat := by omega
      have e11 : F44 106 11 = A 108 s.toNat := by omega
      have hu : ∀ i : Nat, (i : Int) < A 108 r.toNat → A45 112 i = A 109 (60 * r.toNat + i) := fun i hi => by
        have q := t2 i (by omega) (by omega)
        have e : A45 112 = A28 112 := f50.2 112 (by dsimp only; omega)
        rw [e]
        rw [Int.toNat_natCast] at q
        rw [q]
        congr 1
        omega
      have hv : ∀ i : Nat, (i : Int) < A 108 s.toNat → A45 113 i = A 109 (60 * s.toNat + i) := fun i hi => by
        have q := t4 i (by omega) (by omega)
        have e : A28 109 = A 109 := f33.2 109 (by dsimp only; omega)
        rw [e, Int.toNat_natCast] at q
        rw [q]
        congr 1
        omega
      have hy := y77
      rw [e9, e11] at hy
      rw [← gs_ao_cg hu hv]
      rcases hy with h | h <;> first | exact .inl ⟨by omega, h.2⟩ | exact .inr ⟨by omega, h.2⟩ | fail
    · skip
      refine sA_sipush (z := (-1001)) dd_X9_one_16 (by decide) ?_
      refine sA_iret (z := -1001) dd_X9_one_19 rfl ?_
      refine ⟨_, rfl, hI, hf, ?_⟩
      exact .inl ⟨by omega, rfl⟩
end
