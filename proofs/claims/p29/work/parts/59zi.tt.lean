noncomputable section
/-! ===== carry: plans by their numbers, the first twist weighing most ===== -/
def cy_hit (g B : Int) (row : List Int) (h : Nat → Int) (m : Int) (k : Nat) (x : Int) : Prop := ∃ s : List Int, sp_np g B k x row = some s ∧ st_on s h m
def cy_c9 (o : Option (List Int)) (h : Nat → Int) (m : Int) : Prop := ∃ s : List Int, o = some s ∧ st_ao s h m
def cy_hit9 (g B : Int) (row : List Int) (h : Nat → Int) (m : Int) (k : Nat) (x : Int) : Prop := ∃ s : List Int, sp_np g B k x row = some s ∧ st_ao s h m
def tt_S (g B : Int) (row : List Int) (h : Nat → Int) (m : Int) (k : Nat) (r wt u : Int) : Int → Prop := fun x => ∃ y : Int, 0 ≤ y ∧ y < sp_pw B k ∧ y % B < u ∧ x = r + wt * y ∧ cy_hit g B row h m k y
/-- b1 is the least of b0 (-1: none) and S -/
def tt_best (S : Int → Prop) (b0 b1 : Int) : Prop := (b1 = b0 ∨ S b1) ∧ (b0 ≠ -1 → b1 ≠ -1 ∧ b1 ≤ b0) ∧ (∀ x : Int, S x → b1 ≠ -1 ∧ b1 ≤ x)
theorem cy_flip_all : ∀ u : Fin 16, gs_t (Int32.ofInt (u.val : Int) ^^^ Int32.ofInt 1) = sp_fl (u.val : Int) := by decide +kernel
theorem cy_flip {u : Int} (hu : 0 ≤ u ∧ u < 16) : gs_t (Int32.ofInt u ^^^ Int32.ofInt 1) = sp_fl u := by
  have h := cy_flip_all ⟨u.toNat, by omega⟩
  have h : gs_t (Int32.ofInt ((u.toNat : Nat) : Int) ^^^ Int32.ofInt 1) = sp_fl ((u.toNat : Nat) : Int) := h
  rw [Int.toNat_of_nonneg hu.1] at h
  exact h
theorem cy_np {g B y : Int} {k : Nat} {row : List Int} : sp_np g B (k + 1) y row = if 400 < (sp_tw (sp_w g (y % B)) row).length then none else sp_np g B k (y / B) (sp_tw (sp_w g (y % B)) row) := by
  rw [sp_tw_wm]
  unfold sp_np
  have e0 : sp_nm B (k + 1) y k = y % B := if_pos rfl
  show (if 400 < (sp_tw (sp_m g (sp_nm B (k + 1) y k)) row).length then none else sp_pl (fun u => sp_tw (sp_m g u)) (sp_nm B (k + 1) y) k (sp_tw (sp_m g (sp_nm B (k + 1) y k)) row)) = _
  have e1 : ∀ w : List Int, sp_pl (fun u => sp_tw (sp_m g u)) (sp_nm B (k + 1) y) k w = sp_pl (fun u => sp_tw (sp_m g u)) (sp_nm B k (y / B)) k w := fun w => sp_pl_cg k w (fun i hi => by
    show (if i = k then y % B else sp_nm B k (y / B) i) = sp_nm B k (y / B) i
    exact if_neg (by omega)) (fun _ _ _ => rfl)
  rw [e0, e1]
theorem tt_0 {g B m r wt b : Int} {row : List Int} {h : Nat → Int} {k : Nat} (hB : 0 < B) : tt_best (tt_S g B row h m k r wt 0) b b := by
  refine ⟨.inl rfl, fun w => ⟨w, Int.le_refl b⟩, fun x hx => ?_⟩
  obtain ⟨y, y1, y2, y3, y4⟩ := hx
  have w := Int.emod_nonneg y (show B ≠ 0 by omega)
  omega
theorem tt_ge {g B m r wt u b0 b1 : Int} {row : List Int} {h : Nat → Int} {k : Nat} (hr : 0 ≤ r) (hwt : 0 ≤ wt) (h0 : -1 ≤ b0) (o : tt_best (tt_S g B row h m k r wt u) b0 b1) : -1 ≤ b1 := by
  rcases o.1 with e | ⟨y, y1, y2, y3, y4, y5⟩
  · omega
  · have n := Int.mul_nonneg hwt y1
    omega
theorem tt_skip {g B m r wt u b0 b1 : Int} {row : List Int} {h : Nat → Int} {k : Nat} (o : tt_best (tt_S g B row h m k r wt u) b0 b1) (hn : ∀ y : Int, 0 ≤ y → y < sp_pw B k → y % B = u → ¬ cy_hit g B row h m k y) : tt_best (tt_S g B row h m k r wt (u + 1)) b0 b1 := by
  obtain ⟨o1, o2, o3⟩ := o
  refine ⟨?_, o2, fun x hx => ?_⟩
  · rcases o1 with o1 | ⟨y, y1, y2, y3, y4, y5⟩
    · exact .inl o1
    · exact .inr ⟨y, y1, y2, by omega, y4, y5⟩
  · obtain ⟨y, y1, y2, y3, y4, y5⟩ := hx
    by_cases q : y % B = u
    · exact absurd y5 (hn y y1 y2 q)
    · exact o3 x ⟨y, y1, y2, by omega, y4, y5⟩
/-- a twist that makes the row too large carries it nowhere -/
theorem tt_large {g B m u : Int} {row : List Int} {h : Nat → Int} {k : Nat} (hl : 400 < (sp_tw (sp_w g u) row).length) : ∀ y : Int, 0 ≤ y → y < sp_pw B (k + 1) → y % B = u → ¬ cy_hit g B row h m (k + 1) y := by
  rintro y y1 y2 y3 ⟨s, s1, s2⟩
  rw [cy_np, y3, if_pos hl] at s1
  cases s1
theorem tt_last {g B m u : Int} {row : List Int} {h : Nat → Int} (hn : ¬ st_on (sp_tw (sp_w g u) row) h m) : ∀ y : Int, 0 ≤ y → y < sp_pw B 1 → y % B = u → ¬ cy_hit g B row h m 1 y := by
  rintro y y1 y2 y3 ⟨s, s1, s2⟩
  rw [cy_np, y3] at s1
  split at s1
  · cases s1
  · have s1 : some (sp_tw (sp_w g u) row) = some s := s1
    injection s1 with s1
    rw [← s1] at s2
    exact hn s2
theorem tt_prune {g B m u z z2 : Int} {row : List Int} {h : Nat → Int} (hg : 1 ≤ g ∧ g ≤ 3) (hu : 0 ≤ u ∧ u < 6 * g - 2) (hr : sp_red row) (hv : sp_val g row) (ha : cy_rep (sp_tw (sp_w g (sp_fl u)) (gs_stk h m.toNat)) z) (hs : cy_rep row z2) (hne : z ≠ z2) : ∀ y : Int, 0 ≤ y → y < sp_pw B 1 → y % B = u → ¬ cy_hit g B row h m 1 y :=
  tt_last (fun w => hne (cy_rep_uni hs (cy_prune hg hu hr hv w ha)))
theorem tt_pw1 (B : Int) : sp_pw B 1 = B := by
  show 1 * B = B
  rw [Int.one_mul]
theorem tt_one {g B m r wt u b0 b1 : Int} {row : List Int} {h : Nat → Int} (hr : 0 ≤ r) (hwt : 0 ≤ wt) (hu : 0 ≤ u ∧ u < B) (o : tt_best (tt_S g B row h m 1 r wt u) b0 b1) (hl : ¬ 400 < (sp_tw (sp_w g u) row).length) (hs : st_on (sp_tw (sp_w g u) row) h m) (hb : b1 = -1 ∨ r + u * wt < b1) : tt_best (tt_S g B row h m 1 r wt (u + 1)) b0 (r + u * wt) := by
  obtain ⟨o1, o2, o3⟩ := o
  have hnn := Int.mul_nonneg hu.1 hwt
  have hit : cy_hit g B row h m 1 u := by
    refine ⟨sp_tw (sp_w g u) row, ?_, hs⟩
    rw [cy_np, Int.emod_eq_of_lt hu.1 hu.2, if_neg hl]
    rfl
  refine ⟨.inr ⟨u, hu.1, by rw [tt_pw1]; exact hu.2, by rw [Int.emod_eq_of_lt hu.1 hu.2]; omega, by rw [Int.mul_comm u wt], hit⟩, fun w => ?_, fun x hx => ?_⟩
  · have k := o2 w
    omega
  · obtain ⟨y, y1, y2, y3, y4, y5⟩ := hx
    rw [tt_pw1] at y2
    rw [Int.emod_eq_of_lt y1 y2] at y3
    by_cases q : y = u
    · subst q
      rw [y4, Int.mul_comm y wt]
      rw [Int.mul_comm y wt] at hnn
      omega
    · have k := o3 x ⟨y, y1, by rw [tt_pw1]; exact y2, by rw [Int.emod_eq_of_lt y1 y2]; omega, y4, y5⟩
      omega
theorem tt_stop {g B m r wt u b0 b1 : Int} {row : List Int} {h : Nat → Int} (hwt : 0 ≤ wt) (hb : b1 ≠ -1) (hge : b1 ≤ r + u * wt) (o : tt_best (tt_S g B row h m 1 r wt u) b0 b1) : tt_best (tt_S g B row h m 1 r wt B) b0 b1 := by
  obtain ⟨o1, o2, o3⟩ := o
  refine ⟨?_, o2, fun x hx => ?_⟩
  · rcases o1 with o1 | ⟨y, y1, y2, y3, y4, y5⟩
    · exact .inl o1
    · rw [tt_pw1] at y2
      exact .inr ⟨y, y1, by rw [tt_pw1]; exact y2, by rw [Int.emod_eq_of_lt y1 y2]; exact y2, y4, y5⟩
  · obtain ⟨y, y1, y2, y3, y4, y5⟩ := hx
    by_cases q : y % B < u
    · exact o3 x ⟨y, y1, y2, q, y4, y5⟩
    · have y2' := y2
      rw [tt_pw1] at y2'
      rw [Int.emod_eq_of_lt y1 y2'] at q
      have k := Int.mul_le_mul_of_nonneg_right (show u ≤ y by omega) hwt
      rw [Int.mul_comm y wt] at k
      exact ⟨hb, by omega⟩
theorem tt_lt {r wt u B : Int} (hr : 0 ≤ r ∧ r < wt) (hu : 0 ≤ u ∧ u < B) : 0 ≤ r + u * wt ∧ r + u * wt < wt * B := by
  have k := Int.mul_le_mul_of_nonneg_right (show u + 1 ≤ B by omega) (show 0 ≤ wt by omega)
  have n := Int.mul_nonneg hu.1 (show 0 ≤ wt by omega)
  rw [Int.add_mul, Int.one_mul, Int.mul_comm B wt] at k
  omega
theorem tt_rec {g B m r wt u b0 b1 b2 : Int} {row : List Int} {h : Nat → Int} {k : Nat} (hB : 0 < B) (hu : 0 ≤ u ∧ u < B) (hl : ¬ 400 < (sp_tw (sp_w g u) row).length) (hpos : 0 ≤ r ∧ 0 ≤ wt) (o : tt_best (tt_S g B row h m (k + 1) r wt u) b0 b1) (o2 : tt_best (tt_S g B (sp_tw (sp_w g u) row) h m k (r + u * wt) (wt * B) B) b1 b2) : tt_best (tt_S g B row h m (k + 1) r wt (u + 1)) b0 b2 := by
  obtain ⟨a1, a2, a3⟩ := o
  obtain ⟨c1, c2, c3⟩ := o2
  have ix : ∀ y : Int, r + u * wt + wt * B * y = r + wt * (u + B * y) := fun y => by
    rw [Int.mul_add, Int.mul_assoc, Int.mul_comm u wt]
    omega
  have up : ∀ x : Int, tt_S g B (sp_tw (sp_w g u) row) h m k (r + u * wt) (wt * B) B x → tt_S g B row h m (k + 1) r wt (u + 1) x := by
    rintro x ⟨y, y1, y2, y3, y4, s, s1, s2⟩
    have e1 : (u + B * y) % B = u := by
      rw [Int.add_mul_emod_self_left, Int.emod_eq_of_lt hu.1 hu.2]
    have e2 : (u + B * y) / B = y := by
      rw [Int.add_mul_ediv_left _ _ (by omega), Int.ediv_eq_zero_of_lt hu.1 hu.2, Int.zero_add]
    have n := Int.mul_nonneg (show 0 ≤ B by omega) y1
    have l := Int.mul_le_mul_of_nonneg_left (show y + 1 ≤ sp_pw B k by omega) (show 0 ≤ B by omega)
    rw [Int.mul_add, Int.mul_one] at l
    refine ⟨u + B * y, by omega, ?_, by omega, by rw [y4, ix], s, ?_, s2⟩
    · show u + B * y < sp_pw B k * B
      rw [Int.mul_comm (sp_pw B k) B]
      omega
    · rw [cy_np, e1, e2, if_neg hl]
      exact s1
  refine ⟨?_, fun w => ?_, fun x hx => ?_⟩
  · rcases c1 with c1 | c1
    · rcases a1 with a1 | ⟨y, y1, y2, y3, y4, y5⟩
      · exact .inl (c1.trans a1)
      · rw [c1]
        exact .inr ⟨y, y1, y2, by omega, y4, y5⟩
    · exact .inr (up _ c1)
  · have k1 := a2 w
    have k2 := c2 k1.1
    omega
  · obtain ⟨y, y1, y2, y3, y4, y5⟩ := hx
    by_cases q : y % B = u
    · obtain ⟨s, s1, s2⟩ := y5
      rw [cy_np, q, if_neg hl] at s1
      have m1 := Int.mul_ediv_add_emod y B
      have d0 : 0 ≤ y / B := Int.ediv_nonneg y1 (by omega)
      have y2 : y < sp_pw B k * B := y2
      have d1 : y / B < sp_pw B k := Int.ediv_lt_of_lt_mul hB y2
      refine c3 x ⟨y / B, d0, d1, Int.emod_lt_of_pos _ hB, ?_, s, s1, s2⟩
      rw [ix, y4, show u + B * (y / B) = y by omega]
    · have k1 := a3 x ⟨y, y1, y2, by omega, y4, y5⟩
      have k2 := c2 k1.1
      omega
theorem tt_all {g B m r wt b0 b1 : Int} {row : List Int} {h : Nat → Int} {k : Nat} {u : Int} (hu : u = B) (o : tt_best (tt_S g B row h m k r wt u) b0 b1) : tt_best (tt_S g B row h m k r wt B) b0 b1 := by
  rw [← hu] at *
  exact o
theorem tt_cg {S S2 : Int → Prop} {a b c d : Int} (hS : S = S2) (h1 : a = c) (h2 : b = d) (o : tt_best S a b) : tt_best S2 c d := by
  rw [← hS, ← h1, ← h2]
  exact o
theorem cy_hit_cg {g B m : Int} {row : List Int} {h h2 : Nat → Int} {k : Nat} {x : Int} (hh : ∀ i : Nat, (i : Int) < m → h i = h2 i) (w : cy_hit g B row h m k x) : cy_hit g B row h2 m k x := by
  obtain ⟨s, s1, f, n, s2, s3, s4⟩ := w
  exact ⟨s, s1, f, n, s2, s3, gs_on_cg (fun _ _ => rfl) hh s4⟩
/-- the search's end at k twists -/
theorem tt_found {g B m b1 n k : Int} {row : List Int} {h : Nat → Int} (hB : 0 < B) (hk : 0 ≤ k ∧ k ≤ n) (hb : b1 ≠ -1) (o : tt_best (tt_S g B row h m k.toNat 0 1 B) (-1) b1) (bf : gs_bef (cy_hit g B row h m) B k 0) : gs_srch (cy_hit g B row h m) B n k b1 := by
  obtain ⟨o1, o2, o3⟩ := o
  rcases o1 with o1 | ⟨y, y1, y2, y3, y4, y5⟩
  · exact absurd o1 hb
  · have e : b1 = y := by
      rw [y4, Int.one_mul, Int.zero_add]
    subst e
    refine ⟨hk.1, hk.2, y1, y2, y5, fun k2 r2 h1 h2 h3 h4 w => ?_⟩
    by_cases q : k2 = k
    · subst q
      have k1 := o3 r2 ⟨r2, h2, h3, Int.emod_lt_of_pos _ hB, by rw [Int.one_mul, Int.zero_add], w⟩
      omega
    · exact bf k2 r2 h1 h2 h3 (.inl (by omega)) w
theorem tt_none {g B m k : Int} {row : List Int} {h : Nat → Int} (hB : 0 < B) (o : tt_best (tt_S g B row h m k.toNat 0 1 B) (-1) (-1)) (bf : gs_bef (cy_hit g B row h m) B k 0) : gs_bef (cy_hit g B row h m) B (k + 1) 0 := by
  intro k2 r2 h1 h2 h3 h4 w
  by_cases q : k2 = k
  · subst q
    have k1 := o.2.2 r2 ⟨r2, h2, h3, Int.emod_lt_of_pos _ hB, by rw [Int.one_mul, Int.zero_add], w⟩
    exact k1.1 rfl
  · exact bf k2 r2 h1 h2 h3 (.inl (by omega)) w
theorem cy_bef1 {g B m : Int} {row : List Int} {h : Nat → Int} (hn : ¬ st_on row h m) : gs_bef (cy_hit g B row h m) B 1 0 := by
  rintro k2 r2 h1 h2 h3 h4 ⟨s, s1, s2⟩
  have e : k2 = 0 := by omega
  subst e
  have s1 : some row = some s := s1
  injection s1 with s1
  rw [← s1] at s2
  exact hn s2
theorem cy_at0 {g B n m : Int} {row : List Int} {h : Nat → Int} (hn : 0 ≤ n) (w : st_on row h m) : gs_srch (cy_hit g B row h m) B n 0 0 := by
  refine ⟨Int.le_refl 0, hn, Int.le_refl 0, ?_, ⟨row, rfl, w⟩, gs_bef_0⟩
  show (0 : Int) < 1
  decide
end
