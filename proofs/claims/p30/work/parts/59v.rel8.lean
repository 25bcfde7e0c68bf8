noncomputable section
/-! ===== the two objects side by side: fewest ===== -/
theorem gs_fewest_ev {F A : gs_F} {p n i v1 v2 : Int} (hp : gs_Rp F A) (hg : F 0 11 = F 106 0) (x1 : ((p < 0 ∨ 7 < p) ∧ v1 = -1001) ∨ (0 ≤ p ∧ p ≤ 7 ∧ (n < 0 ∨ 3 < n ∨ i < -1 ∨ 2 < i) ∧ v1 = -1002) ∨ (0 ≤ p ∧ p ≤ 7 ∧ 0 ≤ n ∧ n ≤ 3 ∧ -1 ≤ i ∧ i ≤ 2 ∧ gs_fw (gs_plc F A (F 0 11) (90 + 2 * p.toNat)) (F 0 11) (2 * (3 * F 0 11 - 1)) n i v1)) (x2 : ((p < 0 ∨ 7 < p) ∧ v2 = -1001) ∨ (0 ≤ p ∧ p ≤ 7 ∧ (n < 0 ∨ 3 < n ∨ i < -1 ∨ 2 < i) ∧ v2 = -1002) ∨ (0 ≤ p ∧ p ≤ 7 ∧ 0 ≤ n ∧ n ≤ 3 ∧ -1 ≤ i ∧ i ≤ 2 ∧ gs_fw (gs_plm F A p) (F 106 0) (2 * (3 * F 106 0 - 1)) n i v2)) : v2 = v1 := by
  rcases x1 with x1 | x1 | ⟨a1, a2, a3, a4, a5, a6, x1⟩ <;> rcases x2 with x2 | x2 | ⟨b1, b2, b3, b4, b5, b6, x2⟩
  · omega
  · omega
  · omega
  · omega
  · omega
  · omega
  · omega
  · omega
  · rw [gs_plc_eq hp hg ⟨a1, a2⟩, hg] at x1
    exact gs_fw_uni x1 x2
end
