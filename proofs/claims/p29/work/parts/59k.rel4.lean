noncomputable section
/-! ===== the two objects side by side: the class's table of words; image ===== -/
def gs_R1234 (F A : gs_F) : Prop := gs_R123 F A ∧ gs_W (A 6) (F 0 11)
theorem gs_W_0f : ∀ u : Fin 10, ∀ x : Fin 9, x.val ≠ 4 → gs_A0 6 (((u.val : Int) * 13 + ((x.val : Int) - 4) + 6) * 10).toNat = ((sp_w 2 (u.val : Int) ((x.val : Int) - 4)).length : Int) ∧ gs_sl (gs_A0 6) ((((u.val : Int) * 13 + ((x.val : Int) - 4) + 6) * 10).toNat + 1) (sp_w 2 (u.val : Int) ((x.val : Int) - 4)).length = sp_w 2 (u.val : Int) ((x.val : Int) - 4) := by decide +kernel
theorem gs_W_0 : gs_W (gs_A0 6) (gs_F0 0 11) := by
  have e : gs_F0 0 11 = 2 := by decide +kernel
  rw [e]
  intro u x h1 h2 h3 h4 h5
  have h := gs_W_0f ⟨u.toNat, by omega⟩ ⟨(x + 4).toNat, by omega⟩ (by show (x + 4).toNat ≠ 4; omega)
  have eu : ((u.toNat : Nat) : Int) = u := by omega
  have ex : (((x + 4).toNat : Nat) : Int) - 4 = x := by omega
  simp only [eu, ex] at h
  exact h
theorem gs_codeC {F A : gs_F} {p : Int} (hp : gs_Rp F A) (hg : F 0 11 = F 106 0) : 0 ≤ p → p ≤ 7 → ∀ i : Int, 0 ≤ i → i < F (90 + 2 * p.toNat) 1 → 0 ≤ A (90 + 2 * p.toNat + 1) i.toNat ∧ A (90 + 2 * p.toNat + 1) i.toNat < 6 * F 0 11 - 2 := by
  intro h1 h2 i h3 h4
  obtain ⟨a1, a2⟩ := hp p.toNat (by omega)
  have := a2 i h3 (by omega)
  omega
theorem gs_pl_eq {F A : gs_F} {p : Int} {r : List Int} (hp : gs_Rp F A) (hg : F 0 11 = F 106 0) (h : 0 ≤ p ∧ p ≤ 7) : sp_pl (fun u => sp_tw (sp_w (F 0 11) u)) (A (90 + 2 * p.toNat + 1)) (F (90 + 2 * p.toNat) 1).toNat r = sp_pl (fun u => sp_tw (sp_m (F 106 0) u)) (fun i => A 111 (60 * p.toNat + i)) (A 110 p.toNat).toNat r := by
  obtain ⟨a1, a2⟩ := hp p.toNat (by omega)
  rw [a1, hg]
  refine sp_pl_cg _ _ (fun i hi => ?_) (fun i _ r => sp_tw_wm _ _ r)
  have := (a2 (i : Int) (by omega) (by omega)).1
  rw [Int.toNat_natCast] at this
  rw [this]
  congr 1
theorem gs_image_ev {F A F1 A1 F2 A2 : gs_F} {p x i v1 v2 : Int} (hI1 : gs_I F1 A1) (hI2 : gs_I F2 A2) (hp : gs_Rp F A) (hg : F 0 11 = F 106 0) (x1 : ((p < 0 ∨ 7 < p) ∧ v1 = -1001) ∨ (0 ≤ p ∧ p ≤ 7 ∧ (x < 1 ∨ 2 * F 0 11 < x) ∧ v1 = -1002) ∨ (0 ≤ p ∧ p ≤ 7 ∧ 1 ≤ x ∧ x ≤ 2 * F 0 11 ∧ ((sp_pl (fun u => sp_tw (sp_w (F 0 11) u)) (A (90 + 2 * p.toNat + 1)) (F (90 + 2 * p.toNat) 1).toNat [x] = none ∧ v1 = -1005) ∨ (sp_pl (fun u => sp_tw (sp_w (F 0 11) u)) (A (90 + 2 * p.toNat + 1)) (F (90 + 2 * p.toNat) 1).toNat [x] = some (gs_stk (A1 49) (F1 48 1).toNat) ∧ ((i = -1 ∧ v1 = F1 48 1) ∨ (i ≠ -1 ∧ 0 ≤ i ∧ i < F1 48 1 ∧ v1 = A1 49 i.toNat) ∨ (i ≠ -1 ∧ (i < 0 ∨ F1 48 1 ≤ i) ∧ v1 = 0)))))) (x2 : ((p < 0 ∨ 7 < p) ∧ v2 = -1001) ∨ (0 ≤ p ∧ p ≤ 7 ∧ (x < 1 ∨ 2 * F 106 0 < x) ∧ v2 = -1002) ∨ (0 ≤ p ∧ p ≤ 7 ∧ 1 ≤ x ∧ x ≤ 2 * F 106 0 ∧ ((sp_pl (fun u => sp_tw (sp_m (F 106 0) u)) (fun i => A 111 (60 * p.toNat + i)) (A 110 p.toNat).toNat [x] = none ∧ v2 = -1005) ∨ (sp_pl (fun u => sp_tw (sp_m (F 106 0) u)) (fun i => A 111 (60 * p.toNat + i)) (A 110 p.toNat).toNat [x] = some (gs_stk (A2 114) (F2 106 13).toNat) ∧ ((i = -1 ∧ v2 = F2 106 13) ∨ (i ≠ -1 ∧ 0 ≤ i ∧ i < F2 106 13 ∧ v2 = A2 114 i.toNat) ∨ (i ≠ -1 ∧ (i < 0 ∨ F2 106 13 ≤ i) ∧ v2 = 0)))))) : v2 = v1 := by
  rcases x1 with x1 | x1 | ⟨a1, a2, a3, a4, x1⟩
  · rcases x2 with x2 | x2 | x2 <;> omega
  · rcases x2 with x2 | x2 | x2 <;> omega
  · rcases x2 with x2 | x2 | ⟨b1, b2, b3, b4, x2⟩
    · omega
    · omega
    · rw [gs_pl_eq hp hg ⟨a1, a2⟩] at x1
      rcases x1 with ⟨c1, c2⟩ | ⟨c1, c2⟩ <;> rcases x2 with ⟨e1, e2⟩ | ⟨e1, e2⟩
      · omega
      · rw [c1] at e1
        cases e1
      · rw [c1] at e1
        cases e1
      · rw [c1] at e1
        injection e1 with e1
        obtain ⟨k1, k2⟩ := gs_stk_inj _ _ e1
        have hb1 : (0 : Int) ≤ F1 48 1 ∧ F1 48 1 ≤ 400 := hI1.1 48 1
        have hb2 : (0 : Int) ≤ F2 106 13 ∧ F2 106 13 ≤ 400 := hI2.1 106 13
        by_cases q : 0 ≤ i ∧ i < F1 48 1
        · have k3 := k2 i.toNat (by omega)
          omega
        · omega
end
