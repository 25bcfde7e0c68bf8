noncomputable section
/-! ===== meetings: the round, rows without an end, counting ===== -/
def mt_pc (x : Int) : Int := if 0 < x then (if x % 2 = 1 then 2 * x - 2 else 2 * x - 1) else (if x % 2 = 1 then -2 * x else -2 * x - 3)
theorem mt_pl {x : Int} (h0 : x ≠ 0) (h1 : -6 ≤ x) (h2 : x ≤ 6) : gs_t (am_PL (x + 6).toNat) = mt_pc x := by
  rcases (show x = -6 ∨ x = -5 ∨ x = -4 ∨ x = -3 ∨ x = -2 ∨ x = -1 ∨ x = 1 ∨ x = 2 ∨ x = 3 ∨ x = 4 ∨ x = 5 ∨ x = 6 by omega) with e | e | e | e | e | e | e | e | e | e | e | e <;> subst e <;> decide +kernel
def mt_far (N x y : Int) : Int := if mt_pc y - mt_pc x < 0 then mt_pc y - mt_pc x + N else mt_pc y - mt_pc x
/-- from x on y comes ahead of z in a round of N places -/
def mt_gr (N x y z : Int) : Prop := mt_far N x y < mt_far N x z
def mt_lt (g x : Int) : Prop := x ≠ 0 ∧ -(2 * g) ≤ x ∧ x ≤ 2 * g
theorem mt_lt_neg {g x : Int} (h : mt_lt g x) : mt_lt g (-x) := by
  unfold mt_lt at h ⊢
  omega
theorem mt_pc_rng {x g : Int} (h : mt_lt g x) : 0 ≤ mt_pc x ∧ mt_pc x < 4 * g := by
  obtain ⟨h0, h1, h2⟩ := h
  unfold mt_pc
  split <;> split <;> omega
theorem mt_pc_inj {x y : Int} (hx : x ≠ 0) (hy : y ≠ 0) (h : mt_pc x = mt_pc y) : x = y := by
  unfold mt_pc at h
  split at h <;> split at h <;> split at h <;> split at h <;> omega
theorem mt_gr_iff {N x y z : Int} (hx : 0 ≤ mt_pc x ∧ mt_pc x < N) (hy : 0 ≤ mt_pc y ∧ mt_pc y < N) (hz : 0 ≤ mt_pc z ∧ mt_pc z < N) :
    mt_gr N x y z ↔ ((mt_pc x ≤ mt_pc y ∧ mt_pc z < mt_pc x) ∨ (mt_pc x ≤ mt_pc y ∧ mt_pc x ≤ mt_pc z ∧ mt_pc y < mt_pc z) ∨ (mt_pc y < mt_pc x ∧ mt_pc z < mt_pc x ∧ mt_pc y < mt_pc z)) := by
  unfold mt_gr mt_far
  by_cases h1 : mt_pc y - mt_pc x < 0
  · by_cases h2 : mt_pc z - mt_pc x < 0
    · rw [if_pos h1, if_pos h2]
      omega
    · rw [if_pos h1, if_neg h2]
      omega
  · by_cases h2 : mt_pc z - mt_pc x < 0
    · rw [if_neg h1, if_pos h2]
      omega
    · rw [if_neg h1, if_neg h2]
      omega
theorem mt_gr_12 {g x y z : Int} (hg : 1 ≤ g ∧ g ≤ 3) (hx : mt_lt g x) (hy : mt_lt g y) (hz : mt_lt g z) : mt_gr 12 x y z ↔ mt_gr (4 * g) x y z := by
  have a := mt_pc_rng hx
  have b := mt_pc_rng hy
  have c := mt_pc_rng hz
  rw [mt_gr_iff (by omega) (by omega) (by omega), mt_gr_iff a b c]
theorem mt_gr_asym {g x y z : Int} (hx : mt_lt g x) (hy : mt_lt g y) (hz : mt_lt g z) (hyz : y ≠ z) : mt_gr (4 * g) x z y ↔ ¬ mt_gr (4 * g) x y z := by
  have a := mt_pc_rng hx
  have b := mt_pc_rng hy
  have c := mt_pc_rng hz
  have d : mt_pc y ≠ mt_pc z := fun w => hyz (mt_pc_inj hy.1 hz.1 w)
  rw [mt_gr_iff a b c, mt_gr_iff a c b]
  omega
/-- letter t of the row without an end that is the n letters f again and again, from place i on -/
def mt_at (f : Nat → Int) (n i t : Int) : Int := f ((i + t) % n).toNat
theorem mt_at_0 (f : Nat → Int) (n i : Int) : mt_at f n i 0 = f (i % n).toNat := by
  unfold mt_at
  rw [Int.add_zero]
theorem mt_at0 {f : Nat → Int} {n i : Int} (h : 0 ≤ i ∧ i < n) : mt_at f n i 0 = f i.toNat := by
  rw [mt_at_0, Int.emod_eq_of_lt h.1 h.2]
theorem mt_atm (f : Nat → Int) (n i : Int) : mt_at f n i (-1) = f ((i + n - 1) % n).toNat := by
  unfold mt_at
  rw [show i + n - 1 = i + -1 + n by omega, Int.add_emod_right]
theorem mt_atm0 {f : Nat → Int} {n i : Int} (e : i = 0) (hn : 1 ≤ n) : mt_at f n i (-1) = f (n - 1).toNat := by
  rw [mt_atm, show i + n - 1 = n - 1 by omega, Int.emod_eq_of_lt (by omega) (by omega)]
theorem mt_atm1 {f : Nat → Int} {n i : Int} (h1 : 0 < i) (h2 : i < n) : mt_at f n i (-1) = f (i - 1).toNat := by
  unfold mt_at
  rw [show i + -1 = i - 1 by omega, Int.emod_eq_of_lt (by omega) (by omega)]
theorem mt_per (f : Nat → Int) (n i t : Int) : mt_at f n i (t + n) = mt_at f n i t := by
  unfold mt_at
  rw [show i + (t + n) = i + t + n by omega, Int.add_emod_right]
theorem mt_vl_at {f : Nat → Int} {g n : Int} (hV : gs_vl g n f) (hn : 1 ≤ n) (i t : Int) : mt_lt g (mt_at f n i t) := by
  have m1 := Int.emod_nonneg (i + t) (show n ≠ 0 by omega)
  have m2 := Int.emod_lt_of_pos (i + t) (show 0 < n by omega)
  exact hV _ (by omega)
theorem mt_vl_of {f : Nat → Int} {g n i : Int} (hV : gs_vl g n f) (hn : 1 ≤ n) : mt_lt g (f (i % n).toNat) := by
  have m1 := Int.emod_nonneg i (show n ≠ 0 by omega)
  have m2 := Int.emod_lt_of_pos i (show 0 < n by omega)
  exact hV _ (by omega)
theorem mt_at_cg {f f2 : Nat → Int} {n : Int} (hf : ∀ k : Nat, (k : Int) < n → f k = f2 k) (hn : 1 ≤ n) (i t : Int) : mt_at f n i t = mt_at f2 n i t := by
  have m1 := Int.emod_nonneg (i + t) (show n ≠ 0 by omega)
  have m2 := Int.emod_lt_of_pos (i + t) (show 0 < n by omega)
  exact hf _ (by omega)
theorem mt_step {n i k p : Int} (hp : 0 ≤ p ∧ p < n) (e : p = (i + k) % n) : (p + 1 = n → 0 = (i + (k + 1)) % n) ∧ (p + 1 ≠ n → p + 1 = (i + (k + 1)) % n) := by
  have q : (i + (k + 1)) % n = (p + 1) % n := by
    rw [e, Int.emod_add_emod, show i + (k + 1) = i + k + 1 by omega]
  rw [q]
  refine ⟨fun w => ?_, fun w => ?_⟩
  · rw [w, Int.emod_self]
  · rw [Int.emod_eq_of_lt (by omega) (by omega)]
/-- rows that come together at i and j (alike there) part on other sides than they came -/
def mt_cs (N : Int) (f : Nat → Int) (n : Int) (h : Nat → Int) (m i j : Int) : Prop := ∃ t : Int, 1 ≤ t ∧ (∀ s : Int, 0 ≤ s → s < t → mt_at f n i s = mt_at h m j s) ∧ mt_at f n i t ≠ mt_at h m j t ∧ (mt_gr N (mt_at f n i 0) (-(mt_at f n i (-1))) (-(mt_at h m j (-1))) ↔ mt_gr N (-(mt_at f n i (t - 1))) (mt_at f n i t) (mt_at h m j t))
theorem mt_cs_at {N n m i j t : Int} {f h : Nat → Int} (ht : 1 ≤ t) (ha : ∀ s : Int, 0 ≤ s → s < t → mt_at f n i s = mt_at h m j s) (hne : mt_at f n i t ≠ mt_at h m j t) :
    mt_cs N f n h m i j ↔ (mt_gr N (mt_at f n i 0) (-(mt_at f n i (-1))) (-(mt_at h m j (-1))) ↔ mt_gr N (-(mt_at f n i (t - 1))) (mt_at f n i t) (mt_at h m j t)) := by
  constructor
  · rintro ⟨t2, a1, a2, a3, a4⟩
    rcases (show t2 < t ∨ t2 = t ∨ t < t2 by omega) with q | q | q
    · exact absurd (ha t2 (by omega) q) a3
    · subst q
      exact a4
    · exact absurd (a2 t (by omega) q) hne
  · intro w
    exact ⟨t, ht, ha, hne, w⟩
theorem mt_ever {n m i j : Int} {f h : Nat → Int} (hn : 1 ≤ n) (hm : 1 ≤ m) (ha : ∀ s : Int, 0 ≤ s → s < n + m → mt_at f n i s = mt_at h m j s) : ∀ (k : Nat) (t : Int), 0 ≤ t → t < k → mt_at f n i t = mt_at h m j t := by
  intro k
  induction k with
  | zero =>
    intro t h1 h2
    exfalso
    omega
  | succ k ih =>
    intro t h1 h2
    by_cases q : t < n + m
    · exact ha t h1 q
    · have e1 := mt_per f n i (t - n)
      have e2 := mt_per h m j (t - n - m)
      have e3 := mt_per f n i (t - n - m)
      have e4 := mt_per h m j (t - m)
      rw [show t - n + n = t by omega] at e1
      rw [show t - n - m + m = t - n by omega] at e2
      rw [show t - n - m + n = t - m by omega] at e3
      rw [show t - m + m = t by omega] at e4
      rw [e1, ih (t - n) (by omega) (by omega), e2, ← ih (t - n - m) (by omega) (by omega), ← e3, ih (t - m) (by omega) (by omega), e4]
theorem mt_cs_no {N n m i j : Int} {f h : Nat → Int} (hn : 1 ≤ n) (hm : 1 ≤ m) (ha : ∀ s : Int, 0 ≤ s → s < n + m → mt_at f n i s = mt_at h m j s) : ¬ mt_cs N f n h m i j := by
  rintro ⟨t, a1, a2, a3, a4⟩
  exact a3 (mt_ever hn hm ha (t.toNat + 1) t (by omega) (by omega))
def mt_cr (N x a y b : Int) : Prop := x ≠ y ∧ x ≠ b ∧ a ≠ y ∧ ¬ (mt_gr N x y a ↔ mt_gr N x b a)
def mt_c9 (N x a y b : Int) : Prop := (x ≠ y ∧ x ≠ b ∧ a ≠ y ∧ a ≠ b ∧ y ≠ b ∧ x ≠ a) ∧ ¬ (mt_gr N x y a ↔ mt_gr N x b a)
def mt_pr (N c : Int) (f : Nat → Int) (n : Int) (h : Nat → Int) (m i j : Int) : Prop := (f i.toNat ≠ h j.toNat ∧ c = 1 ∧ mt_cr N (-(mt_at f n i (-1))) (f i.toNat) (-(mt_at h m j (-1))) (h j.toNat)) ∨ (f i.toNat = h j.toNat ∧ -(mt_at f n i (-1)) ≠ -(mt_at h m j (-1)) ∧ mt_cs N f n h m i j)
def mt_p9 (N c : Int) (f : Nat → Int) (n : Int) (h : Nat → Int) (m i j : Int) : Prop := (f i.toNat ≠ h j.toNat ∧ c = 1 ∧ mt_c9 N (-(mt_at f n i (-1))) (f i.toNat) (-(mt_at h m j (-1))) (h j.toNat)) ∨ (f i.toNat = h j.toNat ∧ -(mt_at f n i (-1)) ≠ -(mt_at h m j (-1)) ∧ mt_cs N f n h m i j)
/-! counting -/
def mt_b (p : Prop) : Int := @ite Int p (Classical.propDecidable p) 1 0
theorem mt_b1 {p : Prop} (h : p) : mt_b p = 1 := if_pos h
theorem mt_b0 {p : Prop} (h : ¬ p) : mt_b p = 0 := if_neg h
theorem mt_b_cg {p q : Prop} (h : p ↔ q) : mt_b p = mt_b q := by rw [propext h]
theorem mt_b_rng (p : Prop) : 0 ≤ mt_b p ∧ mt_b p ≤ 1 := by
  by_cases h : p
  · rw [mt_b1 h]
    omega
  · rw [mt_b0 h]
    omega
def mt_s1 (P : Int → Prop) : Nat → Int
  | 0 => 0
  | k + 1 => mt_s1 P k + mt_b (P (k : Int))
def mt_s2 (P : Int → Int → Prop) (m : Nat) : Nat → Int
  | 0 => 0
  | k + 1 => mt_s2 P m k + mt_s1 (P (k : Int)) m
theorem mt_s1_cg {P Q : Int → Prop} : ∀ n : Nat, (∀ k : Nat, k < n → (P k ↔ Q k)) → mt_s1 P n = mt_s1 Q n
  | 0, _ => rfl
  | n + 1, e => by
    show mt_s1 P n + mt_b (P n) = mt_s1 Q n + mt_b (Q n)
    rw [mt_s1_cg n (fun k hk => e k (by omega)), mt_b_cg (e n (by omega))]
theorem mt_s2_cg {P Q : Int → Int → Prop} {m : Nat} : ∀ n : Nat, (∀ k l : Nat, k < n → l < m → (P k l ↔ Q k l)) → mt_s2 P m n = mt_s2 Q m n
  | 0, _ => rfl
  | n + 1, e => by
    show mt_s2 P m n + mt_s1 (P n) m = mt_s2 Q m n + mt_s1 (Q n) m
    rw [mt_s2_cg n (fun k l hk hl => e k l (by omega) hl), mt_s1_cg m (fun l hl => e n l (by omega) hl)]
theorem mt_st1 {P : Int → Prop} {S s j : Int} (hj : 0 ≤ j) (h : s = S + mt_s1 P j.toNat) (hp : P j) : s + 1 = S + mt_s1 P (j + 1).toNat := by
  rw [show (j + 1).toNat = j.toNat + 1 by omega]
  show s + 1 = S + (mt_s1 P j.toNat + mt_b (P (j.toNat : Int)))
  rw [Int.toNat_of_nonneg hj, mt_b1 hp]
  omega
theorem mt_st0 {P : Int → Prop} {S s j : Int} (hj : 0 ≤ j) (h : s = S + mt_s1 P j.toNat) (hp : ¬ P j) : s = S + mt_s1 P (j + 1).toNat := by
  rw [show (j + 1).toNat = j.toNat + 1 by omega]
  show s = S + (mt_s1 P j.toNat + mt_b (P (j.toNat : Int)))
  rw [Int.toNat_of_nonneg hj, mt_b0 hp]
  omega
theorem mt_stb {P : Int → Prop} {S s j z : Int} (hj : 0 ≤ j) (h : s = S + mt_s1 P j.toNat) (hp : (z = 1 ∧ P j) ∨ (z = 0 ∧ ¬ P j)) : s + z = S + mt_s1 P (j + 1).toNat := by
  rcases hp with ⟨e, hp⟩ | ⟨e, hp⟩
  · rw [e]
    exact mt_st1 hj h hp
  · rw [e, Int.add_zero]
    exact mt_st0 hj h hp
theorem mt_row {P : Int → Int → Prop} {s i : Int} {m : Nat} (hi : 0 ≤ i) (h : s = mt_s2 P m i.toNat + mt_s1 (P i) m) : s = mt_s2 P m (i + 1).toNat := by
  rw [show (i + 1).toNat = i.toNat + 1 by omega]
  show s = mt_s2 P m i.toNat + mt_s1 (P (i.toNat : Int)) m
  rw [Int.toNat_of_nonneg hi]
  exact h
def mt_ct (N c : Int) (f : Nat → Int) (n : Int) (h : Nat → Int) (m : Int) : Int := mt_s2 (mt_pr N c f n h m) m.toNat n.toNat
def mt_k9 (N c : Int) (f : Nat → Int) (n : Int) (h : Nat → Int) (m : Int) : Int := mt_s2 (mt_p9 N c f n h m) m.toNat n.toNat
/-- MEETINGS, as the class counts them, and as the reference -/
def mt_sm (N : Int) (f : Nat → Int) (n : Int) (h : Nat → Int) (m : Int) : Int := mt_ct N 1 f n h m + mt_ct N 0 f n (gs_rv h m) m
def mt_m9 (N : Int) (f : Nat → Int) (n : Int) (h : Nat → Int) (m : Int) : Int := mt_k9 N 1 f n h m + mt_k9 N 0 f n (gs_rv h m) m
theorem mt_cs_cg {N n m i j : Int} {f f2 h h2 : Nat → Int} (hn : 1 ≤ n) (hm : 1 ≤ m) (hf : ∀ k : Nat, (k : Int) < n → f k = f2 k) (hh : ∀ k : Nat, (k : Int) < m → h k = h2 k) : mt_cs N f n h m i j ↔ mt_cs N f2 n h2 m i j := by
  unfold mt_cs
  have e1 : ∀ t, mt_at f n i t = mt_at f2 n i t := mt_at_cg hf hn i
  have e2 : ∀ t, mt_at h m j t = mt_at h2 m j t := mt_at_cg hh hm j
  constructor
  · rintro ⟨t, a1, a2, a3, a4⟩
    refine ⟨t, a1, fun s h1 h2 => by rw [← e1, ← e2]; exact a2 s h1 h2, by rw [← e1, ← e2]; exact a3, ?_⟩
    rw [← e1, ← e1, ← e2, ← e1, ← e1, ← e2]
    exact a4
  · rintro ⟨t, a1, a2, a3, a4⟩
    refine ⟨t, a1, fun s h1 h2 => by rw [e1, e2]; exact a2 s h1 h2, by rw [e1, e2]; exact a3, ?_⟩
    rw [e1, e1, e2, e1, e1, e2]
    exact a4
theorem mt_pr_cg {N c n m i j : Int} {f f2 h h2 : Nat → Int} (hi : 0 ≤ i ∧ i < n) (hj : 0 ≤ j ∧ j < m) (hf : ∀ k : Nat, (k : Int) < n → f k = f2 k) (hh : ∀ k : Nat, (k : Int) < m → h k = h2 k) : mt_pr N c f n h m i j ↔ mt_pr N c f2 n h2 m i j := by
  unfold mt_pr
  rw [mt_cs_cg (by omega) (by omega) hf hh, mt_at_cg hf (by omega), mt_at_cg hh (by omega), hf i.toNat (by omega), hh j.toNat (by omega)]
theorem mt_p9_cg {N c n m i j : Int} {f f2 h h2 : Nat → Int} (hi : 0 ≤ i ∧ i < n) (hj : 0 ≤ j ∧ j < m) (hf : ∀ k : Nat, (k : Int) < n → f k = f2 k) (hh : ∀ k : Nat, (k : Int) < m → h k = h2 k) : mt_p9 N c f n h m i j ↔ mt_p9 N c f2 n h2 m i j := by
  unfold mt_p9
  rw [mt_cs_cg (by omega) (by omega) hf hh, mt_at_cg hf (by omega), mt_at_cg hh (by omega), hf i.toNat (by omega), hh j.toNat (by omega)]
theorem mt_ct_cg {N c n m : Int} {f f2 h h2 : Nat → Int} (hf : ∀ k : Nat, (k : Int) < n → f k = f2 k) (hh : ∀ k : Nat, (k : Int) < m → h k = h2 k) : mt_ct N c f n h m = mt_ct N c f2 n h2 m := mt_s2_cg _ (fun k l hk hl => mt_pr_cg (by omega) (by omega) hf hh)
theorem mt_k9_cg {N c n m : Int} {f f2 h h2 : Nat → Int} (hf : ∀ k : Nat, (k : Int) < n → f k = f2 k) (hh : ∀ k : Nat, (k : Int) < m → h k = h2 k) : mt_k9 N c f n h m = mt_k9 N c f2 n h2 m := mt_s2_cg _ (fun k l hk hl => mt_p9_cg (by omega) (by omega) hf hh)
theorem mt_rv_cg {h h2 : Nat → Int} {m : Int} (hh : ∀ k : Nat, (k : Int) < m → h k = h2 k) : ∀ k : Nat, (k : Int) < m → gs_rv h m k = gs_rv h2 m k := fun k hk => by
  unfold gs_rv
  rw [hh _ (by omega)]
theorem mt_sm_cg {N n m : Int} {f f2 h h2 : Nat → Int} (hf : ∀ k : Nat, (k : Int) < n → f k = f2 k) (hh : ∀ k : Nat, (k : Int) < m → h k = h2 k) : mt_sm N f n h m = mt_sm N f2 n h2 m := by
  unfold mt_sm
  rw [mt_ct_cg hf hh, mt_ct_cg hf (mt_rv_cg hh)]
theorem mt_m9_cg {N n m : Int} {f f2 h h2 : Nat → Int} (hf : ∀ k : Nat, (k : Int) < n → f k = f2 k) (hh : ∀ k : Nat, (k : Int) < m → h k = h2 k) : mt_m9 N f n h m = mt_m9 N f2 n h2 m := by
  unfold mt_m9
  rw [mt_k9_cg hf hh, mt_k9_cg hf (mt_rv_cg hh)]
/-! the class counts as the reference does -/
/-- no letter beside its opposite, all round -/
def mt_cc (f : Nat → Int) (n : Int) : Prop := ∀ i : Int, 0 ≤ i → i < n → f i.toNat ≠ -(mt_at f n i (-1))
theorem mt_cc_of {f : Nat → Int} {g n : Int} (hV : gs_vl g n f) (hc : gs_cl n f) (hl : gs_lo f n 0) : mt_cc f n := by
  intro i h1 h2 w
  rcases (show i = 0 ∨ 0 < i by omega) with q | q
  · rw [mt_atm0 q (by omega), q] at w
    by_cases e : n = 1
    · rw [e] at w
      have v := (hV 0 (by omega)).1
      have w2 : f 0 = -(f 0) := w
      omega
    · exact hl.2.2.2 ⟨by omega, by rw [w, show n - 1 - 0 = n - 1 by omega]⟩
  · rw [mt_atm1 q h2] at w
    have v := hc (i - 1).toNat (by omega)
    rw [show (i - 1).toNat + 1 = i.toNat by omega] at v
    omega
theorem mt_rv_vl {h : Nat → Int} {g m : Int} (hV : gs_vl g m h) : gs_vl g m (gs_rv h m) := fun k hk => by
  have w := hV (m - 1 - k).toNat (by omega)
  unfold gs_rv
  omega
theorem mt_rv_cc {h : Nat → Int} {m : Int} (hc : mt_cc h m) : mt_cc (gs_rv h m) m := by
  intro i h1 h2 w
  rcases (show i = 0 ∨ 0 < i by omega) with q | q
  · rw [mt_atm0 q (by omega), q] at w
    have v := hc 0 (by omega) (by omega)
    rw [mt_atm0 rfl (by omega)] at v
    unfold gs_rv at w
    have e1 : (m - 1 - ((0 : Int).toNat : Int)).toNat = (m - 1).toNat := by
      show (m - 1 - ((0 : Nat) : Int)).toNat = _
      omega
    have e2 : (m - 1 - (((m - 1).toNat : Nat) : Int)).toNat = (0 : Int).toNat := by
      show _ = 0
      omega
    rw [e1, e2] at w
    omega
  · rw [mt_atm1 q h2] at w
    have v := hc (m - i) (by omega) (by omega)
    rw [mt_atm1 (by omega) (by omega)] at v
    unfold gs_rv at w
    have e1 : (m - 1 - (i.toNat : Int)).toNat = (m - i - 1).toNat := by omega
    have e2 : (m - 1 - ((i - 1).toNat : Int)).toNat = (m - i).toNat := by omega
    rw [e1, e2] at w
    omega
theorem mt_cs_eq {g n m i j : Int} {f h : Nat → Int} (hg : 1 ≤ g ∧ g ≤ 3) (hn : 1 ≤ n) (hm : 1 ≤ m) (hf : gs_vl g n f) (hh : gs_vl g m h) : mt_cs 12 f n h m i j ↔ mt_cs (4 * g) f n h m i j := by
  have v1 := mt_vl_at hf hn i
  have v2 := mt_vl_at hh hm j
  constructor
  · rintro ⟨t, a1, a2, a3, a4⟩
    refine ⟨t, a1, a2, a3, ?_⟩
    rw [← mt_gr_12 hg (v1 _) (mt_lt_neg (v1 _)) (mt_lt_neg (v2 _)), ← mt_gr_12 hg (mt_lt_neg (v1 _)) (v1 _) (v2 _)]
    exact a4
  · rintro ⟨t, a1, a2, a3, a4⟩
    refine ⟨t, a1, a2, a3, ?_⟩
    rw [mt_gr_12 hg (v1 _) (mt_lt_neg (v1 _)) (mt_lt_neg (v2 _)), mt_gr_12 hg (mt_lt_neg (v1 _)) (v1 _) (v2 _)]
    exact a4
theorem mt_pr_eq {g c n m i j : Int} {f h : Nat → Int} (hg : 1 ≤ g ∧ g ≤ 3) (hf : gs_vl g n f) (hh : gs_vl g m h) (cf : mt_cc f n) (ch : mt_cc h m) (hi : 0 ≤ i ∧ i < n) (hj : 0 ≤ j ∧ j < m) : mt_pr 12 c f n h m i j ↔ mt_p9 (4 * g) c f n h m i j := by
  unfold mt_pr mt_p9
  rw [mt_cs_eq hg (by omega) (by omega) hf hh]
  have lx := mt_lt_neg (mt_vl_at hf (show 1 ≤ n by omega) i (-1))
  have ly := mt_lt_neg (mt_vl_at hh (show 1 ≤ m by omega) j (-1))
  have la : mt_lt g (f i.toNat) := hf i.toNat (by omega)
  have lb : mt_lt g (h j.toNat) := hh j.toNat (by omega)
  have c1 := cf i hi.1 hi.2
  have c2 := ch j hj.1 hj.2
  have key : f i.toNat ≠ h j.toNat → (mt_cr 12 (-(mt_at f n i (-1))) (f i.toNat) (-(mt_at h m j (-1))) (h j.toNat) ↔ mt_c9 (4 * g) (-(mt_at f n i (-1))) (f i.toNat) (-(mt_at h m j (-1))) (h j.toNat)) := by
    intro hab
    unfold mt_cr mt_c9
    rw [mt_gr_12 hg lx ly la, mt_gr_12 hg lx lb la]
    constructor
    · rintro ⟨b1, b2, b3, b4⟩
      exact ⟨⟨b1, b2, b3, hab, fun w => c2 w.symm, fun w => c1 w.symm⟩, b4⟩
    · rintro ⟨⟨b1, b2, b3, b5, b6, b7⟩, b4⟩
      exact ⟨b1, b2, b3, b4⟩
  constructor
  · rintro (⟨a1, a2, a3⟩ | a)
    · exact .inl ⟨a1, a2, (key a1).mp a3⟩
    · exact .inr a
  · rintro (⟨a1, a2, a3⟩ | a)
    · exact .inl ⟨a1, a2, (key a1).mpr a3⟩
    · exact .inr a
theorem mt_ct_eq {g c n m : Int} {f h : Nat → Int} (hg : 1 ≤ g ∧ g ≤ 3) (hf : gs_vl g n f) (hh : gs_vl g m h) (cf : mt_cc f n) (ch : mt_cc h m) : mt_ct 12 c f n h m = mt_k9 (4 * g) c f n h m := mt_s2_cg _ (fun k l hk hl => mt_pr_eq hg hf hh cf ch (by omega) (by omega))
theorem mt_sm_eq {g n m : Int} {f h : Nat → Int} (hg : 1 ≤ g ∧ g ≤ 3) (hf : gs_vl g n f) (hh : gs_vl g m h) (cf : mt_cc f n) (ch : mt_cc h m) : mt_sm 12 f n h m = mt_m9 (4 * g) f n h m := by
  unfold mt_sm mt_m9
  rw [mt_ct_eq hg hf hh cf ch, mt_ct_eq hg hf (mt_rv_vl hh) cf (mt_rv_cc ch)]
theorem mt_vl3 {g n : Int} {f : Nat → Int} (hg : g ≤ 3) (h : gs_vl g n f) : gs_vl 3 n f := fun k hk => by
  have w := h k hk
  omega
theorem mt_vl_cg {g n : Int} {f f2 : Nat → Int} (hf : ∀ k : Nat, (k : Int) < n → f k = f2 k) (h : gs_vl g n f) : gs_vl g n f2 := fun k hk => by
  have w := h k hk
  rw [← hf k hk]
  exact w
/-- what a ring keeps: whether it is a power, SELF -/
def gs_r6 (f : Nat → Int) (n pw sf : Int) : Prop := (pw = 1 ∧ gs_pow f n ∧ sf = -1) ∨ (pw = 0 ∧ ¬ gs_pow f n ∧ sf = mt_sm 12 f n f n / 2)
theorem mt_rep_1 {f : Nat → Int} {p k : Int} (old : ∀ j : Int, p ≤ j → j < k + p → f j.toNat = f (j - p).toNat) (e : f (k + p).toNat = f k.toNat) : ∀ j : Int, p ≤ j → j < k + 1 + p → f j.toNat = f (j - p).toNat := by
  intro j h1 h2
  by_cases q : j < k + p
  · exact old j h1 q
  · rw [show j = k + p by omega, show k + p - p = k by omega]
    exact e
theorem mt_rep_2 {f : Nat → Int} {n p k : Int} (q : gs_rep f n p) (hk : 0 ≤ k) (h : k + p < n) : f (k + p).toNat = f k.toNat := by
  have w := q (k + p) (by omega) h
  rw [show k + p - p = k by omega] at w
  exact w
theorem mt_ri {f : Nat → Int} {r k p : Int} (hr : 0 ≤ r) (hk : 0 ≤ k) (hp : 0 ≤ p) (e : f (60 * r + k).toNat = f (60 * r + k + p).toNat) : (fun i => f (60 * r.toNat + i)) (k + p).toNat = (fun i => f (60 * r.toNat + i)) k.toNat := by
  show f (60 * r.toNat + (k + p).toNat) = f (60 * r.toNat + k.toNat)
  rw [show 60 * r.toNat + (k + p).toNat = (60 * r + k + p).toNat by omega, show 60 * r.toNat + k.toNat = (60 * r + k).toNat by omega]
  exact e.symm
theorem mt_rj {f : Nat → Int} {r k p : Int} (hr : 0 ≤ r) (hk : 0 ≤ k) (hp : 0 ≤ p) (e : f (60 * r + k).toNat ≠ f (60 * r + k + p).toNat) : ¬ ((fun i => f (60 * r.toNat + i)) (k + p).toNat = (fun i => f (60 * r.toNat + i)) k.toNat) := by
  intro w
  have w : f (60 * r.toNat + (k + p).toNat) = f (60 * r.toNat + k.toNat) := w
  rw [show 60 * r.toNat + (k + p).toNat = (60 * r + k + p).toNat by omega, show 60 * r.toNat + k.toNat = (60 * r + k).toNat by omega] at w
  exact e w.symm
theorem mt_row_of {f u : Nat → Int} {r n : Int} (hr : 0 ≤ r) (h : ∀ k : Int, 0 ≤ k → k < n → u k.toNat = f (60 * r + k).toNat) : ∀ k : Nat, (k : Int) < n → u k = (fun i => f (60 * r.toNat + i)) k := fun k hk => by
  have w := h k (by omega) hk
  rw [Int.toNat_natCast] at w
  rw [w]
  show f _ = f _
  congr 1
  omega
end
