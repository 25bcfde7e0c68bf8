noncomputable section
/-! ===== a ring's meetings with itself are never one ===== -/
theorem mt_s1_nn (P : Int → Prop) : ∀ n : Nat, 0 ≤ mt_s1 P n
  | 0 => Int.le_refl 0
  | n + 1 => by
    show 0 ≤ mt_s1 P n + mt_b (P n)
    have a := mt_s1_nn P n
    have b := mt_b_rng (P n)
    omega
theorem mt_s2_nn (P : Int → Int → Prop) (m : Nat) : ∀ n : Nat, 0 ≤ mt_s2 P m n
  | 0 => Int.le_refl 0
  | n + 1 => by
    show 0 ≤ mt_s2 P m n + mt_s1 (P n) m
    have a := mt_s2_nn P m n
    have b := mt_s1_nn (P n) m
    omega
theorem mt_s1_ex {P : Int → Prop} : ∀ n : Nat, mt_s1 P n ≠ 0 → ∃ k : Nat, k < n ∧ P k
  | 0, h => absurd rfl h
  | n + 1, h => by
    by_cases q : P n
    · exact ⟨n, by omega, q⟩
    · have h : mt_s1 P n + mt_b (P n) ≠ 0 := h
      rw [mt_b0 q, Int.add_zero] at h
      obtain ⟨k, k1, k2⟩ := mt_s1_ex n h
      exact ⟨k, by omega, k2⟩
theorem mt_s2_ex {P : Int → Int → Prop} {m : Nat} : ∀ n : Nat, mt_s2 P m n ≠ 0 → ∃ k l : Nat, k < n ∧ l < m ∧ P k l
  | 0, h => absurd rfl h
  | n + 1, h => by
    by_cases q : mt_s1 (P n) m = 0
    · have h : mt_s2 P m n + mt_s1 (P n) m ≠ 0 := h
      rw [q, Int.add_zero] at h
      obtain ⟨k, l, k1, k2, k3⟩ := mt_s2_ex n h
      exact ⟨k, l, by omega, k2, k3⟩
    · obtain ⟨l, l1, l2⟩ := mt_s1_ex m q
      exact ⟨n, l, by omega, l1, l2⟩
theorem mt_s1_g1 {P : Int → Prop} {k : Nat} (h : P k) : ∀ n : Nat, k < n → 1 ≤ mt_s1 P n
  | 0, w => by omega
  | n + 1, w => by
    show 1 ≤ mt_s1 P n + mt_b (P n)
    have b := mt_b_rng (P n)
    by_cases q : k = n
    · have a := mt_s1_nn P n
      rw [← q, mt_b1 h]
      rw [← q] at a
      omega
    · have a := mt_s1_g1 h n (by omega)
      omega
theorem mt_s1_g2 {P : Int → Prop} {k l : Nat} (h1 : P k) (h2 : P l) (hkl : k < l) : ∀ n : Nat, l < n → 2 ≤ mt_s1 P n
  | 0, w => by omega
  | n + 1, w => by
    show 2 ≤ mt_s1 P n + mt_b (P n)
    have b := mt_b_rng (P n)
    by_cases q : l = n
    · have a := mt_s1_g1 h1 n (by omega)
      rw [← q, mt_b1 h2]
      rw [← q] at a
      omega
    · have a := mt_s1_g2 h1 h2 hkl n (by omega)
      omega
theorem mt_s2_g1 {P : Int → Int → Prop} {m k : Nat} : ∀ n : Nat, k < n → mt_s1 (P k) m ≤ mt_s2 P m n
  | 0, w => by omega
  | n + 1, w => by
    show mt_s1 (P k) m ≤ mt_s2 P m n + mt_s1 (P n) m
    have b := mt_s1_nn (P n) m
    have c := mt_s2_nn P m n
    by_cases q : k = n
    · rw [q]
      omega
    · have a := mt_s2_g1 (P := P) (m := m) n (show k < n by omega)
      omega
theorem mt_s2_g2 {P : Int → Int → Prop} {m k l : Nat} (hkl : k < l) : ∀ n : Nat, l < n → mt_s1 (P k) m + mt_s1 (P l) m ≤ mt_s2 P m n
  | 0, w => by omega
  | n + 1, w => by
    show mt_s1 (P k) m + mt_s1 (P l) m ≤ mt_s2 P m n + mt_s1 (P n) m
    have b := mt_s1_nn (P n) m
    by_cases q : l = n
    · have a := mt_s2_g1 (P := P) (m := m) n (show k < n by omega)
      rw [q]
      omega
    · have a := mt_s2_g2 (P := P) (m := m) hkl n (by omega)
      omega
theorem mt_two {P : Int → Int → Prop} {m n k l k2 l2 : Nat} (hk : k < n) (hl : l < m) (hk2 : k2 < n) (hl2 : l2 < m) (h : P k l) (h2 : P k2 l2) (hne : ¬ (k2 = k ∧ l2 = l)) : 2 ≤ mt_s2 P m n := by
  rcases (show k < k2 ∨ k2 < k ∨ k = k2 by omega) with q | q | q
  · have a := mt_s2_g2 (P := P) (m := m) q n hk2
    have b := mt_s1_g1 (P := P k) h m hl
    have c := mt_s1_g1 (P := P k2) h2 m hl2
    omega
  · have a := mt_s2_g2 (P := P) (m := m) q n hk
    have b := mt_s1_g1 (P := P k) h m hl
    have c := mt_s1_g1 (P := P k2) h2 m hl2
    omega
  · subst q
    have a := mt_s2_g1 (P := P) (m := m) n hk
    rcases (show l < l2 ∨ l2 < l by omega) with w | w
    · have b := mt_s1_g2 (P := P k) h h2 w m hl2
      omega
    · have b := mt_s1_g2 (P := P k) h2 h w m hl
      omega
theorem mt_n1 {P : Int → Int → Prop} {n : Int} (hP : ∀ i j : Int, 0 ≤ i → i < n → 0 ≤ j → j < n → P i j → ∃ i2 j2 : Int, 0 ≤ i2 ∧ i2 < n ∧ 0 ≤ j2 ∧ j2 < n ∧ ¬ (i2 = i ∧ j2 = j) ∧ P i2 j2) : mt_s2 P n.toNat n.toNat = 0 ∨ 2 ≤ mt_s2 P n.toNat n.toNat := by
  by_cases q : mt_s2 P n.toNat n.toNat = 0
  · exact .inl q
  · right
    obtain ⟨k, l, k1, k2, k3⟩ := mt_s2_ex n.toNat q
    obtain ⟨i2, j2, a1, a2, a3, a4, a5, a6⟩ := hP k l (by omega) (by omega) (by omega) (by omega) k3
    refine mt_two (k := k) (l := l) (k2 := i2.toNat) (l2 := j2.toNat) k1 k2 (by omega) (by omega) k3 ?_ (by omega)
    rw [Int.toNat_of_nonneg a1, Int.toNat_of_nonneg a3]
    exact a6
theorem mt_c9_sym {g x a y b : Int} (lx : mt_lt g x) (la : mt_lt g a) (ly : mt_lt g y) (lb : mt_lt g b) (h : mt_c9 (4 * g) x a y b) : mt_c9 (4 * g) y b x a := by
  obtain ⟨⟨h1, h2, h3, h4, h5, h6⟩, h7⟩ := h
  refine ⟨⟨fun w => h1 w.symm, fun w => h3 w.symm, fun w => h2 w.symm, fun w => h4 w.symm, h6, h5⟩, fun w => h7 ?_⟩
  have px := mt_pc_rng lx
  have pa := mt_pc_rng la
  have py := mt_pc_rng ly
  have pb := mt_pc_rng lb
  have n1 : mt_pc x ≠ mt_pc y := fun w => h1 (mt_pc_inj lx.1 ly.1 w)
  have n2 : mt_pc x ≠ mt_pc b := fun w => h2 (mt_pc_inj lx.1 lb.1 w)
  have n3 : mt_pc a ≠ mt_pc y := fun w => h3 (mt_pc_inj la.1 ly.1 w)
  have n4 : mt_pc a ≠ mt_pc b := fun w => h4 (mt_pc_inj la.1 lb.1 w)
  have n5 : mt_pc y ≠ mt_pc b := fun w => h5 (mt_pc_inj ly.1 lb.1 w)
  have n6 : mt_pc x ≠ mt_pc a := fun w => h6 (mt_pc_inj lx.1 la.1 w)
  rw [mt_gr_iff py px pb, mt_gr_iff py pa pb] at w
  rw [mt_gr_iff px py pa, mt_gr_iff px pb pa]
  clear px pa py pb
  generalize mt_pc x = X at w n1 n2 n3 n4 n5 n6 ⊢
  generalize mt_pc a = A at w n1 n2 n3 n4 n5 n6 ⊢
  generalize mt_pc y = Y at w n1 n2 n3 n4 n5 n6 ⊢
  generalize mt_pc b = B at w n1 n2 n3 n4 n5 n6 ⊢
  clear h1 h2 h3 h4 h5 h6 h7 lx la ly lb
  rcases (show X < Y ∨ Y < X by omega) with q1 | q1 <;> rcases (show X < B ∨ B < X by omega) with q2 | q2 <;> rcases (show A < Y ∨ Y < A by omega) with q3 | q3 <;> rcases (show A < B ∨ B < A by omega) with q4 | q4 <;> rcases (show Y < B ∨ B < Y by omega) with q5 | q5 <;> rcases (show X < A ∨ A < X by omega) with q6 | q6 <;> first | (exfalso; omega) | omega
theorem mt_cs_sym {g n m i j : Int} {f h : Nat → Int} (hn : 1 ≤ n) (hm : 1 ≤ m) (hf : gs_vl g n f) (hh : gs_vl g m h) (hxy : -(mt_at f n i (-1)) ≠ -(mt_at h m j (-1))) (c : mt_cs (4 * g) f n h m i j) : mt_cs (4 * g) h m f n j i := by
  have v1 := mt_vl_at hf hn i
  have v2 := mt_vl_at hh hm j
  obtain ⟨t, a1, a2, a3, a4⟩ := c
  refine ⟨t, a1, fun s h1 h2 => (a2 s h1 h2).symm, fun w => a3 w.symm, ?_⟩
  rw [← a2 0 (by omega) (by omega), ← a2 (t - 1) (by omega) (by omega), mt_gr_asym (v1 0) (mt_lt_neg (v1 _)) (mt_lt_neg (v2 _)) hxy, mt_gr_asym (mt_lt_neg (v1 _)) (v1 _) (v2 _) a3, a4]
theorem mt_p9_sym {g n i j : Int} {f : Nat → Int} (hf : gs_vl g n f) (hi : 0 ≤ i ∧ i < n) (hj : 0 ≤ j ∧ j < n) (p : mt_p9 (4 * g) 1 f n f n i j) : j ≠ i ∧ mt_p9 (4 * g) 1 f n f n j i := by
  have hn : 1 ≤ n := by omega
  have v1 := mt_vl_at hf hn i
  have v2 := mt_vl_at hf hn j
  have la : mt_lt g (f i.toNat) := hf i.toNat (by omega)
  have lb : mt_lt g (f j.toNat) := hf j.toNat (by omega)
  refine ⟨fun e => ?_, ?_⟩
  · subst e
    rcases p with p | p
    · exact p.1 rfl
    · exact p.2.1 rfl
  · rcases p with ⟨p1, p2, p3⟩ | ⟨p1, p2, p3⟩
    · exact .inl ⟨fun w => p1 w.symm, rfl, mt_c9_sym (mt_lt_neg (v1 _)) la (mt_lt_neg (v2 _)) lb p3⟩
    · exact .inr ⟨p1.symm, fun w => p2 w.symm, mt_cs_sym hn hn hf hf p2 p3⟩
/-! the other strand -/
def mt_w (f : Nat → Int) (n k : Int) : Int := f (k % n).toNat
theorem mt_at_w (f : Nat → Int) (n i t : Int) : mt_at f n i t = mt_w f n (i + t) := rfl
theorem mt_w_mod (f : Nat → Int) (n k c : Int) : mt_w f n (k % n + c) = mt_w f n (k + c) := by
  unfold mt_w
  rw [Int.emod_add_emod]
theorem mt_rv_w {f : Nat → Int} {n : Int} (hn : 1 ≤ n) (j s : Int) : mt_at (gs_rv f n) n j s = -(mt_w f n (-1 - j - s)) := by
  unfold mt_at gs_rv mt_w
  have m1 := Int.emod_nonneg (j + s) (show n ≠ 0 by omega)
  have m2 := Int.emod_lt_of_pos (j + s) (show 0 < n by omega)
  have e : (-1 - j - s) % n = n - 1 - (j + s) % n := by
    have e1 := Int.mul_ediv_add_emod (j + s) n
    have e2 : -1 - j - s = (n - 1 - (j + s) % n) + n * (-((j + s) / n) - 1) := by
      rw [Int.mul_sub, Int.mul_neg, Int.mul_one]
      omega
    rw [e2, Int.add_mul_emod_self_left, Int.emod_eq_of_lt (by omega) (by omega)]
  rw [e]
  congr 2
  omega
theorem mt_w_ne {f : Nat → Int} {n : Int} (hn : 1 ≤ n) (hc : mt_cc f n) (k : Int) : mt_w f n k ≠ -(mt_w f n (k - 1)) := by
  have m1 := Int.emod_nonneg k (show n ≠ 0 by omega)
  have m2 := Int.emod_lt_of_pos k (show 0 < n by omega)
  have w := hc (k % n) m1 m2
  rw [mt_at_w, mt_w_mod, show k + -1 = k - 1 by omega] at w
  exact w
theorem mt_w_0 {f : Nat → Int} {n i : Int} (h : 0 ≤ i ∧ i < n) : f i.toNat = mt_w f n i := by
  unfold mt_w
  rw [Int.emod_eq_of_lt h.1 h.2]
theorem mt_w_vl {f : Nat → Int} {g n : Int} (hf : gs_vl g n f) (hn : 1 ≤ n) (k : Int) : mt_lt g (mt_w f n k) := mt_vl_of hf hn
theorem mt_inv {g n i j : Int} {f : Nat → Int} (hf : gs_vl g n f) (cf : mt_cc f n) (hi : 0 ≤ i ∧ i < n) (hj : 0 ≤ j ∧ j < n) (p : mt_p9 (4 * g) 0 f n (gs_rv f n) n i j) :
    ∃ i2 j2 : Int, 0 ≤ i2 ∧ i2 < n ∧ 0 ≤ j2 ∧ j2 < n ∧ ¬ (i2 = i ∧ j2 = j) ∧ mt_p9 (4 * g) 0 f n (gs_rv f n) n i2 j2 := by
  have hn : 1 ≤ n := by omega
  have vw := mt_w_vl hf hn
  have cw := mt_w_ne hn cf
  rcases p with p | ⟨p1, p2, t, a1, a2, a3, a4⟩
  · exact absurd p.2.1 (by omega)
  have R := mt_rv_w (f := f) hn
  -- all in letters of the one row
  have b2 : ∀ s : Int, 0 ≤ s → s < t → mt_w f n (i + s) = -(mt_w f n (-1 - j - s)) := fun s h1 h2 => by
    have w := a2 s h1 h2
    rw [R, mt_at_w] at w
    exact w
  have b3 : mt_w f n (i + t) ≠ -(mt_w f n (-1 - j - t)) := by
    rw [R, mt_at_w] at a3
    exact a3
  have b1 : -(mt_w f n (i + -1)) ≠ mt_w f n (-1 - j - -1) := by
    rw [R, mt_at_w, Int.neg_neg] at p2
    exact p2
  have b4 : mt_gr (4 * g) (mt_w f n (i + 0)) (-(mt_w f n (i + -1))) (mt_w f n (-1 - j - -1)) ↔ mt_gr (4 * g) (-(mt_w f n (i + (t - 1)))) (mt_w f n (i + t)) (-(mt_w f n (-1 - j - t))) := by
    rw [R, R, mt_at_w, mt_at_w, mt_at_w, mt_at_w, Int.neg_neg] at a4
    exact a4
  have i1 := Int.emod_nonneg (-j - t) (show n ≠ 0 by omega)
  have i2 := Int.emod_lt_of_pos (-j - t) (show 0 < n by omega)
  have j1 := Int.emod_nonneg (-i - t) (show n ≠ 0 by omega)
  have j2 := Int.emod_lt_of_pos (-i - t) (show 0 < n by omega)
  have U : ∀ s : Int, mt_at f n ((-j - t) % n) s = mt_w f n (-j - t + s) := fun s => by rw [mt_at_w, mt_w_mod]
  have V : ∀ s : Int, mt_at (gs_rv f n) n ((-i - t) % n) s = -(mt_w f n (i + t - 1 - s)) := fun s => by
    rw [R]
    unfold mt_w
    rw [show -1 - (-i - t) % n - s = -1 - s - (-i - t) % n by omega, Int.sub_emod_emod, show -1 - s - (-i - t) = i + t - 1 - s by omega]
  have al : ∀ s : Int, 0 ≤ s → s < t → mt_w f n (-j - t + s) = -(mt_w f n (i + t - 1 - s)) := fun s h1 h2 => by
    have w := b2 (t - 1 - s) (by omega) (by omega)
    rw [show i + (t - 1 - s) = i + t - 1 - s by omega, show -1 - j - (t - 1 - s) = -j - t + s by omega] at w
    omega
  refine ⟨(-j - t) % n, (-i - t) % n, i1, i2, j1, j2, ?_, .inr ⟨?_, ?_, t, a1, ?_, ?_, ?_⟩⟩
  · rintro ⟨e1, e2⟩
    have E : ∀ s : Int, mt_w f n (i + s) = mt_w f n (-j - t + s) := fun s => by rw [← U s, e1, mt_at_w]
    have F : ∀ s : Int, 0 ≤ s → s < t → mt_w f n (i + s) = -(mt_w f n (i + t - 1 - s)) := fun s h1 h2 => by rw [E]; exact al s h1 h2
    rcases (show t % 2 = 1 ∨ t % 2 = 0 by omega) with q | q
    · have w := F (t / 2) (by omega) (by omega)
      rw [show i + t - 1 - t / 2 = i + t / 2 by omega] at w
      have v := (vw (i + t / 2)).1
      omega
    · have w := F (t / 2) (by omega) (by omega)
      rw [show i + t - 1 - t / 2 = i + t / 2 - 1 by omega] at w
      exact cw _ w
  · have w := al 0 (by omega) (by omega)
    rw [← U, ← V, mt_at0 ⟨i1, i2⟩, mt_at0 ⟨j1, j2⟩] at w
    exact w
  · rw [U, V, Int.neg_neg, show -j - t + -1 = -1 - j - t by omega, show i + t - 1 - -1 = i + t by omega]
    exact fun w => b3 w.symm
  · intro s h1 h2
    rw [U, V]
    exact al s h1 h2
  · rw [U, V, show -j - t + t = -1 - j - -1 by omega, show i + t - 1 - t = i + -1 by omega]
    exact fun w => b1 w.symm
  · have z1 := al 0 (by omega) (by omega)
    have z2 := al (t - 1) (by omega) (by omega)
    rw [U, U, U, U, V, V, z1, z2, Int.neg_neg, Int.neg_neg, show i + t - 1 - 0 = i + (t - 1) by omega, show i + t - 1 - (t - 1) = i + 0 by omega, show -j - t + -1 = -1 - j - t by omega, show i + t - 1 - -1 = i + t by omega, show -j - t + t = -1 - j - -1 by omega, show i + t - 1 - t = i + -1 by omega]
    rw [mt_gr_asym (mt_lt_neg (vw _)) (vw _) (mt_lt_neg (vw _)) b3, mt_gr_asym (vw _) (mt_lt_neg (vw _)) (vw _) b1, b4]
theorem mt_not1 {g n : Int} {f : Nat → Int} (hf : gs_vl g n f) (cf : mt_cc f n) : mt_m9 (4 * g) f n f n = 0 ∨ 2 ≤ mt_m9 (4 * g) f n f n := by
  have A : mt_k9 (4 * g) 1 f n f n = 0 ∨ 2 ≤ mt_k9 (4 * g) 1 f n f n := mt_n1 (P := mt_p9 (4 * g) 1 f n f n) (n := n) (fun i j h1 h2 h3 h4 p => by
    obtain ⟨q1, q2⟩ := mt_p9_sym hf ⟨h1, h2⟩ ⟨h3, h4⟩ p
    exact ⟨j, i, h3, h4, h1, h2, fun w => q1 w.1, q2⟩)
  have B : mt_k9 (4 * g) 0 f n (gs_rv f n) n = 0 ∨ 2 ≤ mt_k9 (4 * g) 0 f n (gs_rv f n) n := mt_n1 (P := mt_p9 (4 * g) 0 f n (gs_rv f n) n) (n := n) (fun i j h1 h2 h3 h4 p => mt_inv hf cf ⟨h1, h2⟩ ⟨h3, h4⟩ p)
  have C := mt_s2_nn (mt_p9 (4 * g) 1 f n f n) n.toNat n.toNat
  have D := mt_s2_nn (mt_p9 (4 * g) 0 f n (gs_rv f n) n) n.toNat n.toNat
  have C : 0 ≤ mt_k9 (4 * g) 1 f n f n := C
  have D : 0 ≤ mt_k9 (4 * g) 0 f n (gs_rv f n) n := D
  unfold mt_m9
  omega
theorem mt_m9_nn (N : Int) (f : Nat → Int) (n : Int) (h : Nat → Int) (m : Int) : 0 ≤ mt_m9 N f n h m := by
  have C := mt_s2_nn (mt_p9 N 1 f n h m) m.toNat n.toNat
  have D := mt_s2_nn (mt_p9 N 0 f n (gs_rv h m) m) m.toNat n.toNat
  have C : 0 ≤ mt_k9 N 1 f n h m := C
  have D : 0 ≤ mt_k9 N 0 f n (gs_rv h m) m := D
  unfold mt_m9
  omega
/-! ===== heaps ===== -/
def hp_bit (e k : Int) : Int := gs_t (Int32.ofInt (gs_t (Int32.ofInt e >>> (Int32.ofInt k &&& 31))) &&& Int32.ofInt 1)
def hp_sh (e k : Int) : Int := gs_t (Int32.ofInt e >>> (Int32.ofInt k &&& 31))
theorem hp_b01 (x : Int) : 0 ≤ gs_t (Int32.ofInt x &&& Int32.ofInt 1) ∧ gs_t (Int32.ofInt x &&& Int32.ofInt 1) ≤ 1 := by
  rw [Int32.and_comm]
  exact gs_and_le (by omega)
theorem hp_bit01 (e k : Int) : 0 ≤ hp_bit e k ∧ hp_bit e k ≤ 1 := hp_b01 _
def hp_ok (n : Int) (S Bt : Int → Prop) (M : Int → Int → Prop) (c : Int) : Prop := S c ∧ ∀ d : Int, c < d → d < n → ¬ (Bt d ∧ S d ∧ M c d)
def hp_fst (n : Int) (S Bt : Int → Prop) (M : Int → Int → Prop) (a b : Int) : Prop := a < b ∧ b < n ∧ (Bt b ∧ S b ∧ M a b) ∧ ∀ d : Int, a < d → d < b → ¬ (Bt d ∧ S d ∧ M a d)
def hp_ans (n : Int) (S Bt : Int → Prop) (M : Int → Int → Prop) (z : Int) : Prop := (z = -1 ∧ ∀ c : Int, 0 ≤ c → c < n → Bt c → hp_ok n S Bt M c) ∨ ∃ a : Int, 0 ≤ a ∧ a < n ∧ Bt a ∧ (∀ c : Int, 0 ≤ c → c < a → Bt c → hp_ok n S Bt M c) ∧ ((¬ S a ∧ z = 14 * a) ∨ (S a ∧ ∃ b : Int, hp_fst n S Bt M a b ∧ z = 13 * a + b))
theorem hp_fst_ok {n a b : Int} {S Bt : Int → Prop} {M : Int → Int → Prop} (h : hp_fst n S Bt M a b) (k : hp_ok n S Bt M a) : False := k.2 b h.1 h.2.1 h.2.2.1
theorem hp_fst_uni {n a b b2 : Int} {S Bt : Int → Prop} {M : Int → Int → Prop} (h : hp_fst n S Bt M a b) (h2 : hp_fst n S Bt M a b2) : b2 = b := by
  rcases (show b2 < b ∨ b2 = b ∨ b < b2 by omega) with q | q | q
  · exact absurd h2.2.2.1 (h.2.2.2 b2 h2.1 q)
  · exact q
  · exact absurd h.2.2.1 (h2.2.2.2 b h.1 q)
theorem hp_uni {n z z2 : Int} {S Bt : Int → Prop} {M : Int → Int → Prop} (h : hp_ans n S Bt M z) (h2 : hp_ans n S Bt M z2) : z2 = z := by
  rcases h with ⟨a1, a2⟩ | ⟨a, a1, a2, a3, a4, a5⟩ <;> rcases h2 with ⟨b1, b2⟩ | ⟨b, b1, b2, b3, b4, b5⟩
  · omega
  · exfalso
    have k := a2 b b1 b2 b3
    rcases b5 with b5 | ⟨b5, d, d1, d2⟩
    · exact b5.1 k.1
    · exact hp_fst_ok d1 k
  · exfalso
    have k := b2 a a1 a2 a3
    rcases a5 with a5 | ⟨a5, d, d1, d2⟩
    · exact a5.1 k.1
    · exact hp_fst_ok d1 k
  · rcases (show a < b ∨ a = b ∨ b < a by omega) with q | q | q
    · exfalso
      have k := b4 a a1 q a3
      rcases a5 with a5 | ⟨a5, d, d1, d2⟩
      · exact a5.1 k.1
      · exact hp_fst_ok d1 k
    · subst q
      rcases a5 with ⟨a5, a6⟩ | ⟨a5, d, d1, d2⟩ <;> rcases b5 with ⟨b5, b6⟩ | ⟨b5, c, c1, c2⟩
      · omega
      · exact absurd b5 a5
      · exact absurd a5 b5
      · have e := hp_fst_uni d1 c1
        omega
    · exfalso
      have k := a4 b b1 q b3
      rcases b5 with b5 | ⟨b5, d, d1, d2⟩
      · exact b5.1 k.1
      · exact hp_fst_ok d1 k
theorem hp_ans_cg {n z : Int} {S S2 Bt Bt2 : Int → Prop} {M M2 : Int → Int → Prop} (hS : ∀ a : Int, 0 ≤ a → a < n → (S a ↔ S2 a)) (hB : ∀ a : Int, 0 ≤ a → a < n → (Bt a ↔ Bt2 a)) (hM : ∀ a b : Int, 0 ≤ a → a < n → 0 ≤ b → b < n → (M a b ↔ M2 a b)) (h : hp_ans n S Bt M z) : hp_ans n S2 Bt2 M2 z := by
  have ok : ∀ c : Int, 0 ≤ c → c < n → hp_ok n S Bt M c → hp_ok n S2 Bt2 M2 c := fun c h1 h2 k => ⟨(hS c h1 h2).mp k.1, fun d d1 d2 w => k.2 d d1 d2 ⟨(hB d (by omega) d2).mpr w.1, (hS d (by omega) d2).mpr w.2.1, (hM c d h1 h2 (by omega) d2).mpr w.2.2⟩⟩
  rcases h with ⟨a1, a2⟩ | ⟨a, a1, a2, a3, a4, a5⟩
  · exact .inl ⟨a1, fun c h1 h2 w => ok c h1 h2 (a2 c h1 h2 ((hB c h1 h2).mpr w))⟩
  · refine .inr ⟨a, a1, a2, (hB a a1 a2).mp a3, fun c h1 h2 w => ok c h1 (by omega) (a4 c h1 h2 ((hB c h1 (by omega)).mpr w)), ?_⟩
    rcases a5 with ⟨a5, a6⟩ | ⟨a5, b, ⟨b1, b2, b3, b4⟩, b5⟩
    · exact .inl ⟨fun w => a5 ((hS a a1 a2).mpr w), a6⟩
    · exact .inr ⟨(hS a a1 a2).mp a5, b, ⟨b1, b2, ⟨(hB b (by omega) b2).mp b3.1, (hS b (by omega) b2).mp b3.2.1, (hM a b a1 a2 (by omega) b2).mp b3.2.2⟩, fun d d1 d2 w => b4 d d1 d2 ⟨(hB d (by omega) (by omega)).mpr w.1, (hS d (by omega) (by omega)).mpr w.2.1, (hM a d a1 a2 (by omega) (by omega)).mpr w.2.2⟩⟩, b5⟩
def hp_S8 (F : gs_F) (a : Int) : Prop := F (54 + 3 * a.toNat) 2 = 0
def hp_B8 (e a : Int) : Prop := hp_bit e a ≠ 0
def hp_B9 (e a : Int) : Prop := hp_bit e a = 1
def hp_M8 (F A : gs_F) (a b : Int) : Prop := gs_on (A (54 + 3 * a.toNat + 1 + 1)) (F (54 + 3 * a.toNat + 1) 1) (A (54 + 3 * b.toNat + 1 + 1)) (F (54 + 3 * b.toNat + 1) 1) ∨ mt_sm 12 (A (54 + 3 * a.toNat + 1 + 1)) (F (54 + 3 * a.toNat + 1) 1) (A (54 + 3 * b.toNat + 1 + 1)) (F (54 + 3 * b.toNat + 1) 1) ≠ 0
def hp_S9 (F A : gs_F) (a : Int) : Prop := ¬ gs_pow (fun i => A 109 (60 * a.toNat + i)) (A 108 a.toNat) ∧ mt_m9 (4 * F 106 0) (fun i => A 109 (60 * a.toNat + i)) (A 108 a.toNat) (fun i => A 109 (60 * a.toNat + i)) (A 108 a.toNat) = 0
def hp_M9 (F A : gs_F) (a b : Int) : Prop := gs_ao (fun i => A 109 (60 * a.toNat + i)) (A 108 a.toNat) (fun i => A 109 (60 * b.toNat + i)) (A 108 b.toNat) ∨ 0 < mt_m9 (4 * F 106 0) (fun i => A 109 (60 * a.toNat + i)) (A 108 a.toNat) (fun i => A 109 (60 * b.toNat + i)) (A 108 b.toNat)
theorem hp_S8_fr {F F1 : gs_F} (h : ∀ c j, 54 ≤ c → F1 c j = F c j) : hp_S8 F1 = hp_S8 F := by
  funext a
  unfold hp_S8
  rw [h _ _ (by omega)]
theorem hp_M8_fr {F A F1 A1 : gs_F} (h : ∀ c j, 54 ≤ c → F1 c j = F c j) (k : ∀ c, 54 ≤ c → A1 c = A c) : hp_M8 F1 A1 = hp_M8 F A := by
  funext a b
  unfold hp_M8
  rw [h (54 + 3 * a.toNat + 1) 1 (by omega), h (54 + 3 * b.toNat + 1) 1 (by omega), k (54 + 3 * a.toNat + 1 + 1) (by omega), k (54 + 3 * b.toNat + 1 + 1) (by omega)]
theorem hp_S9_fr {F A F1 A1 : gs_F} (h0 : F1 106 0 = F 106 0) (h8 : A1 108 = A 108) (h9 : A1 109 = A 109) : hp_S9 F1 A1 = hp_S9 F A := by
  funext a
  unfold hp_S9
  rw [h0, h8, h9]
theorem hp_M9_fr {F A F1 A1 : gs_F} (h0 : F1 106 0 = F 106 0) (h8 : A1 108 = A 108) (h9 : A1 109 = A 109) : hp_M9 F1 A1 = hp_M9 F A := by
  funext a b
  unfold hp_M9
  rw [h0, h8, h9]
theorem hp_next {a b : Int} {S Bt : Int → Prop} {M : Int → Int → Prop} (old : ∀ d : Int, a < d → d < b → ¬ (Bt d ∧ S d ∧ M a d)) (h : ¬ (Bt b ∧ S b ∧ M a b)) : ∀ d : Int, a < d → d < b + 1 → ¬ (Bt d ∧ S d ∧ M a d) := by
  intro d h1 h2
  by_cases q : d < b
  · exact old d h1 q
  · rw [show d = b by omega]
    exact h
end
