noncomputable section
/-! ===== the two objects side by side: their rings ===== -/
def gs_R3 (F A : gs_F) : Prop := ∀ r : Nat, (r : Int) < F 106 3 → F (54 + 3 * r + 1) 1 = A 108 r ∧ 1 ≤ A 108 r ∧ A 108 r ≤ 60 ∧ (∀ i : Nat, (i : Int) < A 108 r → A (54 + 3 * r + 1 + 1) i = A 109 (60 * r + i)) ∧ gs_lo (fun i => A 109 (60 * r + i)) (A 108 r) 0
theorem gs_R3_fr {F A F2 A2 : gs_F} (h : gs_R3 F A) (hI : gs_I F A) (e3 : F2 106 3 ≤ F 106 3) (hF : ∀ c j, 54 ≤ c → c < 90 → F2 c j = F c j) (hA : ∀ c, 54 ≤ c → c < 90 → A2 c = A c) (e8 : A2 108 = A 108) (e9 : A2 109 = A 109) : gs_R3 F2 A2 := by
  intro r hr
  have hb : (0 : Int) ≤ F 106 3 ∧ F 106 3 ≤ 12 := hI.1 106 3
  rw [hF _ _ (by omega) (by omega), hA (54 + 3 * r + 1 + 1) (by omega) (by omega), e8, e9]
  exact h r (by omega)
theorem gs_R3_new {F A F2 A2 : gs_F} {rc : Nat} {n k k2 : Int} {f h : Nat → Int} (h3 : gs_R3 F A) (hrc : F 106 3 = rc) (hrc2 : F2 106 3 = rc + 1) (hf : ∀ i : Nat, i < n.toNat → f i = h i) (hk : gs_lo f n k) (hk2 : gs_lo h n k2) (hlt : 2 * k2 < n) (hn : n ≤ 60)
    (hF : ∀ c j, 54 ≤ c → c < 54 + 3 * rc → F2 c j = F c j) (hA : ∀ c, 54 ≤ c → c < 54 + 3 * rc → A2 c = A c)
    (m1 : F2 (54 + 3 * rc + 1) 1 = n - 2 * k) (m2 : ∀ i : Nat, (i : Int) < n - 2 * k → A2 (54 + 3 * rc + 1 + 1) i = f (k.toNat + i))
    (g1 : A2 108 = gs_u (A 108) rc (n - 2 * k2)) (g2 : ∀ i : Int, 0 ≤ i → i < n - 2 * k2 → A2 109 (60 * (rc : Int) + i).toNat = h (k2 + i).toNat) (g3 : ∀ i : Int, 0 ≤ i → i < 60 * (rc : Int) → A2 109 i.toNat = A 109 i.toNat) : gs_R3 F2 A2 := by
  have ek : k = k2 := gs_lo_uni hk2 (gs_lo_cg (fun i hi => hf i (by omega)) hk)
  subst ek
  have k0 := hk.1
  intro r hr
  by_cases q : r = rc
  · subst q
    have g4 : ∀ i : Nat, (i : Int) < n - 2 * k → A2 109 (60 * r + i) = h (k.toNat + i) := fun i hi => by
      have := g2 i (by omega) hi
      have e1 : (60 * (r : Int) + (i : Int)).toNat = 60 * r + i := by omega
      have e2 : (k + (i : Int)).toNat = k.toNat + i := by omega
      rw [e1, e2] at this
      exact this
    rw [g1, gs_u_self]
    refine ⟨m1, by omega, by omega, fun i hi => ?_, by omega, by omega, fun j h1 h2 => by exfalso; omega, fun w => ?_⟩
    · rw [m2 i hi, g4 i hi]
      exact hf _ (by omega)
    · have w1 := w.1
      have w2 : A2 109 (60 * r + (0 : Int).toNat) = -(A2 109 (60 * r + (n - 2 * k - 1 - 0).toNat)) := w.2
      rw [g4 _ (by omega), g4 _ (by omega)] at w2
      apply hk2.2.2.2
      refine ⟨by omega, ?_⟩
      have e1 : k.toNat + (0 : Int).toNat = k.toNat := by omega
      have e2 : k.toNat + (n - 2 * k - 1 - 0).toNat = (n - 1 - k).toNat := by omega
      rw [e1, e2] at w2
      exact w2
  · have hr2 : r < rc := by omega
    obtain ⟨a1, a2, a3, a4, a5⟩ := h3 r (by omega)
    have g4 : ∀ i : Nat, (i : Int) < A 108 r → A2 109 (60 * r + i) = A 109 (60 * r + i) := fun i hi => by
      have := g3 ((60 * r + i : Nat) : Int) (by omega) (by omega)
      rw [Int.toNat_natCast] at this
      exact this
    rw [hF _ _ (by omega) (by omega), hA (54 + 3 * r + 1 + 1) (by omega) (by omega), g1, gs_u_ne _ _ q]
    refine ⟨a1, a2, a3, fun i hi => ?_, ?_⟩
    · rw [g4 i hi]
      exact a4 i hi
    · exact gs_lo_cg (fun i hi => (g4 i hi).symm) a5
theorem gs_R3_new0 {F A F2 A2 : gs_F} (h : gs_R3 F A) (e0 : F 0 12 = F 106 3) (e3 : F2 106 3 ≤ F 106 3) (hF : ∀ c j, 54 ≤ c → c < 54 + 3 * (F 0 12).toNat → F2 c j = F c j) (hA : ∀ c, 54 ≤ c → c < 54 + 3 * (F 0 12).toNat → A2 c = A c) (e8 : A2 108 = A 108) (e9 : A2 109 = A 109) : gs_R3 F2 A2 := by
  intro r hr
  rw [hF _ _ (by omega) (by omega), hA (54 + 3 * r + 1 + 1) (by omega) (by omega), e8, e9]
  exact h r (by omega)
def gs_at8 (F A : gs_F) (r i z : Int) : Prop := ((r < 0 ∨ F 0 12 ≤ r) ∧ z = -1001) ∨ (0 ≤ r ∧ r < F 0 12 ∧ ((0 ≤ i ∧ i < F (54 + 3 * r.toNat + 1) 1 ∧ z = A (54 + 3 * r.toNat + 1 + 1) i.toNat) ∨ ((i < 0 ∨ F (54 + 3 * r.toNat + 1) 1 ≤ i) ∧ z = -1)))
def gs_at9 (F A : gs_F) (r i z : Int) : Prop := ((r < 0 ∨ F 106 3 ≤ r) ∧ z = -1001) ∨ (0 ≤ r ∧ r < F 106 3 ∧ ((0 ≤ i ∧ i < A 108 r.toNat ∧ z = A 109 (60 * r + i).toNat) ∨ ((i < 0 ∨ A 108 r.toNat ≤ i) ∧ z = -1)))
theorem gs_at_ev {F A : gs_F} {r i v1 v2 : Int} (hc : F 0 12 = F 106 3) (h3 : gs_R3 F A) (x1 : gs_at8 F A r i v1) (x2 : gs_at9 F A r i v2) : v2 = v1 := by
  unfold gs_at8 at x1
  unfold gs_at9 at x2
  by_cases hr : 0 ≤ r ∧ r < F 106 3
  · obtain ⟨a1, a2, a3, a4, a5⟩ := h3 r.toNat (by omega)
    by_cases hi : 0 ≤ i ∧ i < A 108 r.toNat
    · have q := a4 i.toNat (by omega)
      have e : (60 * r + i).toNat = 60 * r.toNat + i.toNat := by omega
      rw [e] at x2
      omega
    · omega
  · omega
theorem gs_on_cg {f f2 h h2 : Nat → Int} {n m : Int} (hf : ∀ i : Nat, (i : Int) < n → f i = f2 i) (hh : ∀ i : Nat, (i : Int) < m → h i = h2 i) (q : gs_on f n h m) : gs_on f2 n h2 m := by
  obtain ⟨lo, a1, a2, s, s1, s2, a3⟩ := q
  have b1 := a1.1
  refine ⟨lo, gs_lo_cg hf a1, a2, s, s1, s2, ?_⟩
  rcases a3 with a3 | a3
  · refine .inl fun k t h1 h2 h3 h4 h5 => ?_
    rw [← hf _ (by omega), ← hh _ (by omega)]
    exact a3 k t h1 h2 h3 h4 h5
  · refine .inr fun k t h1 h2 h3 h4 h5 => ?_
    rw [← hf _ (by omega), ← hh _ (by omega)]
    exact a3 k t h1 h2 h3 h4 h5
/-- two rings are ONE for the class just when they are for the reference -/
theorem gs_R3_on {F A : gs_F} {r s : Int} (h3 : gs_R3 F A) (hr : 0 ≤ r ∧ r < F 106 3) (hs : 0 ≤ s ∧ s < F 106 3) : gs_on (A (54 + 3 * r.toNat + 1 + 1)) (F (54 + 3 * r.toNat + 1) 1) (A (54 + 3 * s.toNat + 1 + 1)) (F (54 + 3 * s.toNat + 1) 1) ↔ gs_ao (fun i => A 109 (60 * r.toNat + i)) (A 108 r.toNat) (fun i => A 109 (60 * s.toNat + i)) (A 108 s.toNat) := by
  obtain ⟨a1, a2, a3, a4, a5⟩ := h3 r.toNat (by omega)
  obtain ⟨b1, b2, b3, b4, b5⟩ := h3 s.toNat (by omega)
  rw [a1, b1]
  constructor
  · intro q
    exact ((gs_on_ao a5).mp (gs_on_cg a4 b4 q)).1
  · intro q
    exact gs_on_cg (fun i hi => (a4 i hi).symm) (fun i hi => (b4 i hi).symm) ((gs_on_ao a5).mpr ⟨q, a2⟩)
theorem gs_one_ev {F A : gs_F} {r s v1 v2 : Int} (hc : F 0 12 = F 106 3) (h3 : gs_R3 F A) (x1 : ((r < 0 ∨ F 0 12 ≤ r ∨ s < 0 ∨ F 0 12 ≤ s) ∧ v1 = -1001) ∨ (0 ≤ r ∧ r < F 0 12 ∧ 0 ≤ s ∧ s < F 0 12 ∧ ((v1 = 1 ∧ gs_on (A (54 + 3 * r.toNat + 1 + 1)) (F (54 + 3 * r.toNat + 1) 1) (A (54 + 3 * s.toNat + 1 + 1)) (F (54 + 3 * s.toNat + 1) 1)) ∨ (v1 = 0 ∧ ¬ gs_on (A (54 + 3 * r.toNat + 1 + 1)) (F (54 + 3 * r.toNat + 1) 1) (A (54 + 3 * s.toNat + 1 + 1)) (F (54 + 3 * s.toNat + 1) 1))))) (x2 : ((r < 0 ∨ F 106 3 ≤ r ∨ s < 0 ∨ F 106 3 ≤ s) ∧ v2 = -1001) ∨ (0 ≤ r ∧ r < F 106 3 ∧ 0 ≤ s ∧ s < F 106 3 ∧ ((v2 = 1 ∧ gs_ao (fun i => A 109 (60 * r.toNat + i)) (A 108 r.toNat) (fun i => A 109 (60 * s.toNat + i)) (A 108 s.toNat)) ∨ (v2 = 0 ∧ ¬ gs_ao (fun i => A 109 (60 * r.toNat + i)) (A 108 r.toNat) (fun i => A 109 (60 * s.toNat + i)) (A 108 s.toNat))))) : v2 = v1 := by
  rcases x1 with x1 | ⟨p1, p2, p3, p4, x1⟩
  · rcases x2 with x2 | x2
    · omega
    · omega
  · rcases x2 with x2 | ⟨q1, q2, q3, q4, x2⟩
    · omega
    · have hk := gs_R3_on h3 ⟨q1, q2⟩ ⟨q3, q4⟩
      rcases x1 with ⟨x1, y1⟩ | ⟨x1, y1⟩ <;> rcases x2 with ⟨x2, y2⟩ | ⟨x2, y2⟩
      · omega
      · exact absurd (hk.mp y1) y2
      · exact absurd (hk.mpr y2) y1
      · omega
theorem gs_R3_0 : gs_R3 gs_F0 gs_A0 := by
  intro r h
  have e : gs_F0 106 3 = 0 := by decide +kernel
  rw [e] at h
  omega
def gs_R13 (F A : gs_F) : Prop := gs_R1 F A ∧ gs_R3 F A
end
