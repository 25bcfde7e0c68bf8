noncomputable section
/-! ===== the two objects side by side: heap ===== -/
theorem gs_heap_ev {F A : gs_F} {e v1 v2 : Int} (hg : 1 ≤ F 106 0 ∧ F 106 0 ≤ 3) (hc : F 0 12 = F 106 3) (h3 : gs_R3 F A) (hv : gs_Rv F A) (h6 : gs_R6 F A) (x1 : ((e < 0 ∨ hp_sh e (F 0 12) ≠ 0) ∧ v1 = -1001) ∨ (0 ≤ e ∧ hp_sh e (F 0 12) = 0 ∧ hp_ans (F 0 12) (hp_S8 F) (hp_B8 e) (hp_M8 F A) v1)) (x2 : ((e < 0 ∨ hp_sh e (F 106 3) ≠ 0) ∧ v2 = -1001) ∨ (0 ≤ e ∧ hp_sh e (F 106 3) = 0 ∧ hp_ans (F 106 3) (hp_S9 F A) (hp_B9 e) (hp_M9 F A) v2)) : v2 = v1 := by
  rw [hc] at x1
  rcases x1 with x1 | ⟨a1, a2, x1⟩ <;> rcases x2 with x2 | ⟨b1, b2, x2⟩
  · omega
  · exfalso
    omega
  · exfalso
    omega
  · have sm : ∀ r s : Int, 0 ≤ r → r < F 106 3 → 0 ≤ s → s < F 106 3 → mt_sm 12 (A (54 + 3 * r.toNat + 1 + 1)) (F (54 + 3 * r.toNat + 1) 1) (A (54 + 3 * s.toNat + 1 + 1)) (F (54 + 3 * s.toNat + 1) 1) = mt_m9 (4 * F 106 0) (fun i => A 109 (60 * r.toNat + i)) (A 108 r.toNat) (fun i => A 109 (60 * s.toNat + i)) (A 108 s.toNat) := fun r s h1 h2 h3' h4 => gs_R6_sm hg h3 hv ⟨h1, h2⟩ ⟨h3', h4⟩
    refine hp_uni (hp_ans_cg (S2 := hp_S9 F A) (Bt2 := hp_B9 e) (M2 := hp_M9 F A) (fun a h1 h2 => ?_) (fun a h1 h2 => ?_) (fun a b h1 h2 h4 h5 => ?_) x1) x2
    · obtain ⟨p1, p2, p3, p4, p5⟩ := h3 a.toNat (by omega)
      obtain ⟨q1, q2⟩ := hv.2 a.toNat (by omega)
      have k := h6 a.toNat (by omega)
      unfold gs_r6 at k
      rw [gs_R6_pow h3 ⟨h1, h2⟩, sm a a h1 h2 h1 h2] at k
      have n1 := mt_not1 q1 (mt_cc_of q1 q2 p5)
      unfold hp_S8 hp_S9
      rcases k with ⟨k1, k2, k3⟩ | ⟨k1, k2, k3⟩
      · constructor
        · intro w
          exfalso
          omega
        · intro w
          exact absurd k2 w.1
      · constructor
        · intro w
          exact ⟨k2, by omega⟩
        · intro w
          have w2 := w.2
          omega
    · have w := hp_bit01 e a
      unfold hp_B8 hp_B9
      omega
    · unfold hp_M8 hp_M9
      have k := gs_R3_on h3 (r := a) (s := b) ⟨h1, h2⟩ ⟨h4, h5⟩
      have m := sm a b h1 h2 h4 h5
      have n := mt_m9_nn (4 * F 106 0) (fun i => A 109 (60 * a.toNat + i)) (A 108 a.toNat) (fun i => A 109 (60 * b.toNat + i)) (A 108 b.toNat)
      rw [m]
      constructor
      · rintro (w | w)
        · exact .inl (k.mp w)
        · exact .inr (by omega)
      · rintro (w | w)
        · exact .inl (k.mpr w)
        · exact .inr (by omega)
end
