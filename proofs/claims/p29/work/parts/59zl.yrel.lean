noncomputable section
/-! ===== the two objects side by side: carry ===== -/
theorem gs_R5_rs {F A : gs_F} (h3 : gs_R3 F A) (hv : gs_Rv F A) (hc : F 0 12 = F 106 3) : ∀ r : Nat, (r : Int) < F 0 12 → sp_red (gs_stk (A (54 + 3 * r + 1 + 1)) (F (54 + 3 * r + 1) 1).toNat) := fun r hr => by
  have w := gs_R3_stk (r := (r : Int)) h3 ⟨by omega, by omega⟩
  rw [Int.toNat_natCast] at w
  rw [w]
  have k := (hv.2 r (by omega)).2
  exact gs_stk_red _ (fun i hi => k i (by omega))
theorem gs_carry_ev {F A : gs_F} {r s n i v1 v2 : Int} (hgg : F 0 11 = F 106 0) (hc : F 0 12 = F 106 3) (h3 : gs_R3 F A) (x1 : ((r < 0 ∨ F 0 12 ≤ r ∨ s < 0 ∨ F 0 12 ≤ s) ∧ v1 = -1001) ∨ (0 ≤ r ∧ r < F 0 12 ∧ 0 ≤ s ∧ s < F 0 12 ∧ (n < 0 ∨ 3 < n ∨ i < -1 ∨ 2 < i) ∧ v1 = -1002) ∨ (0 ≤ r ∧ r < F 0 12 ∧ 0 ≤ s ∧ s < F 0 12 ∧ 0 ≤ n ∧ n ≤ 3 ∧ -1 ≤ i ∧ i ≤ 2 ∧ gs_sv (cy_hit (F 0 11) (2 * (3 * F 0 11 - 1)) (gs_stk (A (54 + 3 * r.toNat + 1 + 1)) (F (54 + 3 * r.toNat + 1) 1).toNat) (A (54 + 3 * s.toNat + 1 + 1)) (F (54 + 3 * s.toNat + 1) 1)) (2 * (3 * F 0 11 - 1)) n i v1)) (x2 : ((r < 0 ∨ F 106 3 ≤ r ∨ s < 0 ∨ F 106 3 ≤ s) ∧ v2 = -1001) ∨ (0 ≤ r ∧ r < F 106 3 ∧ 0 ≤ s ∧ s < F 106 3 ∧ (n < 0 ∨ 3 < n ∨ i < -1 ∨ 2 < i) ∧ v2 = -1002) ∨ (0 ≤ r ∧ r < F 106 3 ∧ 0 ≤ s ∧ s < F 106 3 ∧ 0 ≤ n ∧ n ≤ 3 ∧ -1 ≤ i ∧ i ≤ 2 ∧ gs_sv (cy_hit9 (F 106 0) (2 * (3 * F 106 0 - 1)) (gs_stk (fun i => A 109 (60 * r.toNat + i)) (A 108 r.toNat).toNat) (fun i => A 109 (60 * s.toNat + i)) (A 108 s.toNat)) (2 * (3 * F 106 0 - 1)) n i v2)) : v2 = v1 := by
  rw [hgg, hc] at x1
  rcases x1 with x1 | x1 | ⟨a1, a2, a3, a4, a5, a6, a7, a8, x1⟩ <;> rcases x2 with x2 | x2 | ⟨b1, b2, b3, b4, b5, b6, b7, b8, x2⟩
  · omega
  · omega
  · exfalso
    omega
  · omega
  · omega
  · exfalso
    omega
  · exfalso
    omega
  · exfalso
    omega
  · refine gs_sv_uni x1 (gs_sv_cg (fun k x => ?_) x2)
    obtain ⟨p1, p2, p3, p4, p5⟩ := h3 s.toNat (by omega)
    rw [gs_R3_stk h3 ⟨a1, a2⟩, p1]
    constructor
    · rintro ⟨st, q1, q2⟩
      exact ⟨st, q1, (st_on_ao p2 p4).mpr q2⟩
    · rintro ⟨st, q1, q2⟩
      exact ⟨st, q1, (st_on_ao p2 p4).mp q2⟩
end
