noncomputable section
/-! ===== the two objects side by side: same, length ===== -/
theorem gs_plm_fr {F A F1 A1 : gs_F} (e0 : F1 106 0 = F 106 0) (e1 : A1 110 = A 110) (e2 : A1 111 = A 111) : gs_plm F1 A1 = gs_plm F A := by
  funext p r
  unfold gs_plm
  rw [e0, e1, e2]
theorem gs_plc_eq {F A : gs_F} {p : Int} (hp : gs_Rp F A) (hg : F 0 11 = F 106 0) (h : 0 ≤ p ∧ p ≤ 7) : gs_plc F A (F 0 11) (90 + 2 * p.toNat) = gs_plm F A p := by
  funext r
  exact gs_pl_eq hp hg h
theorem gs_same_ev {F A : gs_F} {p q v1 v2 : Int} (hp : gs_Rp F A) (hg : F 0 11 = F 106 0) (x1 : ((p < 0 ∨ 7 < p ∨ q < 0 ∨ 7 < q) ∧ v1 = -1001) ∨ (0 ≤ p ∧ p ≤ 7 ∧ 0 ≤ q ∧ q ≤ 7 ∧ gs_sm (fun y => gs_plc F A (F 0 11) (90 + 2 * p.toNat) [y]) (fun y => gs_plc F A (F 0 11) (90 + 2 * q.toNat) [y]) (2 * F 0 11) v1)) (x2 : ((p < 0 ∨ 7 < p ∨ q < 0 ∨ 7 < q) ∧ v2 = -1001) ∨ (0 ≤ p ∧ p ≤ 7 ∧ 0 ≤ q ∧ q ≤ 7 ∧ gs_sm (fun y => gs_plm F A p [y]) (fun y => gs_plm F A q [y]) (2 * F 106 0) v2)) : v2 = v1 := by
  rcases x1 with x1 | ⟨a1, a2, a3, a4, x1⟩ <;> rcases x2 with x2 | ⟨b1, b2, b3, b4, x2⟩
  · omega
  · omega
  · omega
  · rw [gs_plc_eq hp hg ⟨a1, a2⟩, gs_plc_eq hp hg ⟨a3, a4⟩, hg] at x1
    exact gs_sm_uni x1 x2
theorem gs_length_ev {F A : gs_F} {p k v1 v2 : Int} (hp : gs_Rp F A) (hg : F 0 11 = F 106 0) (x1 : ((p < 0 ∨ 7 < p) ∧ v1 = -1001) ∨ (0 ≤ p ∧ p ≤ 7 ∧ (k < 0 ∨ 24 < k) ∧ v1 = -1002) ∨ (0 ≤ p ∧ p ≤ 7 ∧ 0 ≤ k ∧ k ≤ 24 ∧ gs_ln (gs_plc F A (F 0 11) (90 + 2 * p.toNat)) (2 * F 0 11) k.toNat v1)) (x2 : ((p < 0 ∨ 7 < p) ∧ v2 = -1001) ∨ (0 ≤ p ∧ p ≤ 7 ∧ (k < 0 ∨ 24 < k) ∧ v2 = -1002) ∨ (0 ≤ p ∧ p ≤ 7 ∧ 0 ≤ k ∧ k ≤ 24 ∧ gs_ln (gs_plm F A p) (2 * F 106 0) k.toNat v2)) : v2 = v1 := by
  rcases x1 with x1 | x1 | ⟨a1, a2, a3, a4, x1⟩ <;> rcases x2 with x2 | x2 | ⟨b1, b2, b3, b4, x2⟩
  · omega
  · omega
  · omega
  · omega
  · omega
  · omega
  · omega
  · omega
  · rw [gs_plc_eq hp hg ⟨a1, a2⟩, hg] at x1
    exact gs_ln_uni x1 x2
end
