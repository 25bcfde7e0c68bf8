noncomputable section
/-! ===== the two objects side by side: turns, order ===== -/
theorem gs_turns_ev {F A : gs_F} {p v1 v2 : Int} (hp : gs_Rp F A) (hg : F 0 11 = F 106 0) (x1 : ((p < 0 ∨ 7 < p) ∧ v1 = -1001) ∨ (0 ≤ p ∧ p ≤ 7 ∧ gs_tv (gs_plc F A (F 0 11) (90 + 2 * p.toNat)) (F 0 11) v1)) (x2 : ((p < 0 ∨ 7 < p) ∧ v2 = -1001) ∨ (0 ≤ p ∧ p ≤ 7 ∧ gs_tv (gs_plm F A p) (F 106 0) v2)) : v2 = v1 := by
  rcases x1 with x1 | ⟨a1, a2, x1⟩ <;> rcases x2 with x2 | ⟨b1, b2, x2⟩
  · omega
  · omega
  · omega
  · rw [gs_plc_eq hp hg ⟨a1, a2⟩, hg] at x1
    exact gs_tv_uni x1 x2
theorem gs_order_ev {F A : gs_F} {p n v1 v2 : Int} (hp : gs_Rp F A) (hg : F 0 11 = F 106 0) (x1 : ((p < 0 ∨ 7 < p) ∧ v1 = -1001) ∨ (0 ≤ p ∧ p ≤ 7 ∧ (n < 1 ∨ 24 < n) ∧ v1 = -1002) ∨ (0 ≤ p ∧ p ≤ 7 ∧ 1 ≤ n ∧ n ≤ 24 ∧ gs_or (gs_plc F A (F 0 11) (90 + 2 * p.toNat)) (F 0 11) n v1)) (x2 : ((p < 0 ∨ 7 < p) ∧ v2 = -1001) ∨ (0 ≤ p ∧ p ≤ 7 ∧ (n < 1 ∨ 24 < n) ∧ v2 = -1002) ∨ (0 ≤ p ∧ p ≤ 7 ∧ 1 ≤ n ∧ n ≤ 24 ∧ gs_or (gs_plm F A p) (F 106 0) n v2)) : v2 = v1 := by
  rcases x1 with x1 | x1 | ⟨a1, a2, a3, a4, x1⟩ <;> rcases x2 with x2 | x2 | ⟨b1, b2, b3, b4, x2⟩
  · omega
  · omega
  · omega
  · omega
  · omega
  · omega
  · omega
  · omega
  · rw [gs_plc_eq hp hg ⟨a1, a2⟩, hg] at x1
    exact gs_or_uni x1 x2
end
