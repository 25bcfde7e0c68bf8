noncomputable section
/-! ===== the two objects side by side: character ===== -/
theorem dt_ch_cg {im im2 : Nat → List Int} {L m : Nat} {k : Int} (hL : L < 7) (h : m < 2 ^ L) (e : ∀ x : Nat, x < L → im x = im2 x) : dt_ch (fun x y => dt_bal ((y : Int) + 1) (im x)) k m = dt_ch9 (fun x y => dt_bal ((y : Int) + 1) (im2 x)) k m := by
  have h6 := dt_p6 hL
  rw [← dt_ch_eq (by omega)]
  unfold dt_ch
  by_cases q : (dt_c m 6 : Int) = k
  · rw [if_pos q, if_pos q]
    refine dt_1_N hL h (fun x y hx hy => ?_)
    show dt_bal ((y : Int) + 1) (im x) = dt_bal ((y : Int) + 1) (im2 x)
    rw [e x hx]
  · rw [if_neg q, if_neg q]
theorem gs_char_ev {F A : gs_F} {p k : Int} {v1 v2 : Int64} (hp : gs_Rp F A) (hg : F 0 11 = F 106 0) (hg3 : 1 ≤ F 106 0 ∧ F 106 0 ≤ 3) (x1 : ((p < 0 ∨ 7 < p) ∧ v1 = Int64.ofInt (-1001)) ∨ (0 ≤ p ∧ p ≤ 7 ∧ (k < 0 ∨ 2 * F 0 11 < k) ∧ v1 = Int64.ofInt (-1002)) ∨ (0 ≤ p ∧ p ≤ 7 ∧ 0 ≤ k ∧ k ≤ 2 * F 0 11 ∧ (((∃ ii : Nat, (ii : Int) < 2 * F 0 11 ∧ (gs_plc F A (F 0 11) (90 + 2 * p.toNat)) [(ii : Int) + 1] = none) ∧ v1 = Int64.ofInt (-1005)) ∨ (∃ im : Nat → List Int, (∀ ii : Nat, (ii : Int) < 2 * F 0 11 → (gs_plc F A (F 0 11) (90 + 2 * p.toNat)) [(ii : Int) + 1] = some (im ii)) ∧ v1 = Int64.ofInt (gs_sum (dt_ch (fun x y => dt_bal ((y : Int) + 1) (im x)) k) (2 ^ (2 * F 0 11).toNat)))))) (x2 : ((p < 0 ∨ 7 < p) ∧ v2 = Int64.ofInt (-1001)) ∨ (0 ≤ p ∧ p ≤ 7 ∧ (k < 0 ∨ 2 * F 106 0 < k) ∧ v2 = Int64.ofInt (-1002)) ∨ (0 ≤ p ∧ p ≤ 7 ∧ 0 ≤ k ∧ k ≤ 2 * F 106 0 ∧ (((∃ ii : Nat, (ii : Int) < 2 * F 106 0 ∧ (gs_plm F A p) [(ii : Int) + 1] = none) ∧ v2 = Int64.ofInt (-1005)) ∨ (∃ im : Nat → List Int, (∀ ii : Nat, (ii : Int) < 2 * F 106 0 → (gs_plm F A p) [(ii : Int) + 1] = some (im ii)) ∧ v2 = Int64.ofInt (gs_sum (dt_ch9 (fun x y => dt_bal ((y : Int) + 1) (im x)) k) (2 ^ (2 * F 106 0).toNat)))))) : v2 = v1 := by
  rw [hg] at x1
  rcases x1 with ⟨c1, c2⟩ | ⟨c1, c2, c3, c4⟩ | ⟨a1, a2, a3, a4, x1⟩ <;> rcases x2 with ⟨d1, d2⟩ | ⟨d1, d2, d3, d4⟩ | ⟨b1, b2, b3, b4, x2⟩
  · rw [c2, d2]
  · exfalso
    omega
  · exfalso
    clear x2
    omega
  · exfalso
    omega
  · rw [c4, d4]
  · exfalso
    clear x2
    omega
  · exfalso
    clear x1
    omega
  · exfalso
    clear x1
    omega
  · have epl := gs_plc_eq hp hg ⟨a1, a2⟩
    rw [hg] at epl
    rw [epl] at x1
    rcases x1 with ⟨⟨i, c1, c2⟩, c3⟩ | ⟨im, c1, c2⟩ <;> rcases x2 with ⟨⟨j, d1, d2⟩, d3⟩ | ⟨im2, d1, d2⟩
    · rw [c3, d3]
    · rw [d1 i c1] at c2
      cases c2
    · rw [c1 j d1] at d2
      cases d2
    · rw [c2, d2]
      congr 1
      refine gs_sum_cg _ (fun m hm => ?_)
      refine (dt_ch_cg (L := (2 * F 106 0).toNat) (by omega) hm (fun x hx => ?_)).symm
      have w := c1 x (by omega)
      rw [d1 x (by omega)] at w
      injection w with w
      exact w.symm
end
