noncomputable section
/-! ===== the two objects side by side: law ===== -/
theorem gs_law_ev {F : gs_F} {t u v1 v2 : Int} (hg : F 0 11 = F 106 0) (x1 : ((t < 0 ∨ 3 * F 0 11 - 1 ≤ t ∨ u < 0 ∨ 3 * F 0 11 - 1 ≤ u) ∧ v1 = -1001) ∨ (0 ≤ t ∧ t < 3 * F 0 11 - 1 ∧ 0 ≤ u ∧ u < 3 * F 0 11 - 1 ∧ gs_lw (F 0 11) t u v1)) (x2 : ((t < 0 ∨ 3 * F 106 0 - 1 ≤ t ∨ u < 0 ∨ 3 * F 106 0 - 1 ≤ u) ∧ v2 = -1001) ∨ (0 ≤ t ∧ t < 3 * F 106 0 - 1 ∧ 0 ≤ u ∧ u < 3 * F 106 0 - 1 ∧ gs_lw (F 106 0) t u v2)) : v2 = v1 := by
  rcases x1 with x1 | ⟨a1, a2, a3, a4, x1⟩ <;> rcases x2 with x2 | ⟨b1, b2, b3, b4, x2⟩
  · omega
  · omega
  · omega
  · rw [hg] at x1
    exact gs_lw_uni x1 x2
end
