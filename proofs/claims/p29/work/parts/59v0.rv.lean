noncomputable section
/-! ===== letters of rings and draft: of the skin; rings clean ===== -/
def gs_vl (g n : Int) (f : Nat → Int) : Prop := ∀ i : Nat, (i : Int) < n → f i ≠ 0 ∧ -(2 * g) ≤ f i ∧ f i ≤ 2 * g
def gs_cl (n : Int) (f : Nat → Int) : Prop := ∀ i : Nat, (i : Int) + 1 < n → f i ≠ -(f (i + 1))
/-- letters of draft and rings are letters of the skin; rings are clean -/
def gs_Rv (F A : gs_F) : Prop := gs_vl (F 106 0) (F 106 1) (A 107) ∧ ∀ r : Nat, (r : Int) < F 106 3 → gs_vl (F 106 0) (A 108 r) (fun i => A 109 (60 * r + i)) ∧ gs_cl (A 108 r) (fun i => A 109 (60 * r + i))
theorem gs_Rv_fr {F A F2 A2 : gs_F} (h : gs_Rv F A) (e0 : F2 106 0 = F 106 0) (e1 : F2 106 1 = F 106 1 ∨ F2 106 1 = 0) (e3 : F2 106 3 ≤ F 106 3) (e7 : A2 107 = A 107) (e8 : A2 108 = A 108) (e9 : A2 109 = A 109) : gs_Rv F2 A2 := by
  unfold gs_Rv
  rw [e0, e7, e8, e9]
  refine ⟨fun i hi => ?_, fun r hr => h.2 r (by omega)⟩
  exact h.1 i (by omega)
theorem gs_Rv_zero {F A : gs_F} (e1 : F 106 1 = 0) (e3 : F 106 3 = 0) : gs_Rv F A := ⟨fun i hi => by omega, fun r hr => by omega⟩
theorem gs_Rv_0 : gs_Rv gs_F0 gs_A0 := gs_Rv_zero (by decide +kernel) (by decide +kernel)
theorem gs_psh_vl {g n x L n1 : Int} {f f1 : Nat → Int} (hn : 0 ≤ n) (hx : x ≠ 0 ∧ -(2 * g) ≤ x ∧ x ≤ 2 * g) (hv : gs_vl g n f) (p1 : gs_psh n f x L n1 f1) : gs_vl g n1 f1 := by
  intro i hi
  rcases p1 with ⟨a1, a2, a3, a4⟩ | ⟨a1, a2, a3, a4⟩ | ⟨a1, a2, a3, a4⟩
  · rw [a4]
    exact hv i (by omega)
  · rw [a4]
    by_cases q : i = n.toNat
    · rw [q, gs_u_self]
      exact hx
    · rw [gs_u_ne _ _ q]
      exact hv i (by omega)
  · rw [a4]
    exact hv i (by omega)
theorem gs_Rv_let {F A F1 A1 F2 A2 : gs_F} {x v : Int} (h : gs_Rv F A) (h0 : 0 ≤ F 106 1) (p : gs_let (F1 106 0) (F1 106 1) (A1 107) x v (F2 106 1) (A2 107)) (c0 : F1 106 0 = F 106 0) (c1 : F1 106 1 = F 106 1) (c7 : A1 107 = A 107) (e0 : F2 106 0 = F 106 0) (e3 : F2 106 3 = F 106 3) (e8 : A2 108 = A 108) (e9 : A2 109 = A 109) : gs_Rv F2 A2 := by
  rw [c0, c1, c7] at p
  unfold gs_Rv
  rw [e0, e3, e8, e9]
  refine ⟨?_, h.2⟩
  rcases p with ⟨a1, a2, a3, a4⟩ | ⟨a1, a2, a3, a4⟩
  · rw [a3, a4]
    exact h.1
  · rcases a4 with ⟨b1, b2, b3, b4⟩ | ⟨b1, b2, b3⟩
    · rw [b3, b4]
      exact h.1
    · exact gs_psh_vl h0 ⟨a1, by omega, by omega⟩ h.1 b3
theorem gs_Rv_ring {F A F2 A2 : gs_F} {v : Int} (h : gs_Rv F A) (hD : gs_D1 (F 106 1).toNat (A 107)) (hb : 0 ≤ F 106 1) (hb3 : 0 ≤ F 106 3) (h12 : ∀ r : Nat, (r : Int) < F 106 3 → A 108 r ≤ 60) (e0 : F2 106 0 = F 106 0) (e7 : A2 107 = A 107)
    (x3 : (F 106 1 = 0 ∧ v = -1003 ∧ F2 106 3 = F 106 3 ∧ F2 106 1 = F 106 1 ∧ A2 108 = A 108 ∧ A2 109 = A 109) ∨ (F 106 1 ≠ 0 ∧ F 106 3 = 12 ∧ v = -1004 ∧ F2 106 3 = F 106 3 ∧ F2 106 1 = F 106 1 ∧ A2 108 = A 108 ∧ A2 109 = A 109) ∨ (F 106 1 ≠ 0 ∧ F 106 3 < 12 ∧ v = F 106 3 ∧ F2 106 3 = F 106 3 + 1 ∧ F2 106 1 = 0 ∧ ∃ k : Int, gs_lo (A 107) (F 106 1) k ∧ 2 * k < F 106 1 ∧ A2 108 = gs_u (A 108) (F 106 3).toNat (F 106 1 - 2 * k) ∧ (∀ i : Int, 0 ≤ i → i < F 106 1 - 2 * k → A2 109 (60 * F 106 3 + i).toNat = A 107 (k + i).toNat) ∧ (∀ i : Int, 0 ≤ i → i < 60 * F 106 3 → A2 109 i.toNat = A 109 i.toNat))) : gs_Rv F2 A2 := by
  rcases x3 with w | w | ⟨w1, w2, w3, w4, w5, k, k1, k2, k3, k4, k5⟩
  · exact gs_Rv_fr h e0 (.inl w.2.2.2.1) (by omega) e7 w.2.2.2.2.1 w.2.2.2.2.2
  · exact gs_Rv_fr h e0 (.inl w.2.2.2.2.1) (by omega) e7 w.2.2.2.2.2.1 w.2.2.2.2.2.2
  · have hk0 := k1.1
    unfold gs_Rv
    rw [e0]
    refine ⟨fun i hi => by omega, fun r hr => ?_⟩
    by_cases q : r = (F 106 3).toNat
    · subst q
      rw [k3, gs_u_self]
      have g4 : ∀ i : Nat, (i : Int) < F 106 1 - 2 * k → A2 109 (60 * (F 106 3).toNat + i) = A 107 (k.toNat + i) := fun i hi => by
        have w := k4 i (by omega) hi
        rw [show (60 * F 106 3 + (i : Int)).toNat = 60 * (F 106 3).toNat + i by omega, show (k + (i : Int)).toNat = k.toNat + i by omega] at w
        exact w
      refine ⟨fun i hi => ?_, fun i hi => ?_⟩
      · show A2 109 (60 * (F 106 3).toNat + i) ≠ 0 ∧ -(2 * F 106 0) ≤ A2 109 (60 * (F 106 3).toNat + i) ∧ A2 109 (60 * (F 106 3).toNat + i) ≤ 2 * F 106 0
        rw [g4 i hi]
        exact h.1 _ (by omega)
      · show A2 109 (60 * (F 106 3).toNat + i) ≠ -(A2 109 (60 * (F 106 3).toNat + (i + 1)))
        rw [g4 i (by omega), g4 (i + 1) (by omega)]
        exact hD.2 (k.toNat + i) (by omega)
    · have hr2 : (r : Int) < F 106 3 := by omega
      have h6 := h12 r hr2
      have g4 : ∀ i : Nat, (i : Int) < A 108 r → A2 109 (60 * r + i) = A 109 (60 * r + i) := fun i hi => by
        have w := k5 ((60 * r + i : Nat) : Int) (by omega) (by omega)
        rw [Int.toNat_natCast] at w
        exact w
      obtain ⟨m1, m2⟩ := h.2 r hr2
      rw [k3, gs_u_ne _ _ q]
      refine ⟨fun i hi => ?_, fun i hi => ?_⟩
      · show A2 109 (60 * r + i) ≠ 0 ∧ -(2 * F 106 0) ≤ A2 109 (60 * r + i) ∧ A2 109 (60 * r + i) ≤ 2 * F 106 0
        rw [g4 i hi]
        exact m1 i hi
      · show A2 109 (60 * r + i) ≠ -(A2 109 (60 * r + (i + 1)))
        rw [g4 i (by omega), g4 (i + 1) (by omega)]
        exact m2 i hi
end
