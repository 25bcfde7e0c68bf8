noncomputable section
/-! ===== the two objects side by side: what rings keep; told, meets ===== -/
def gs_R6 (F A : gs_F) : Prop := ∀ r : Nat, (r : Int) < F 0 12 → gs_r6 (A (54 + 3 * r + 1 + 1)) (F (54 + 3 * r + 1) 1) (F (54 + 3 * r) 1) (F (54 + 3 * r) 2)
theorem gs_R6_fr {F A F2 A2 : gs_F} (h : gs_R6 F A) (hb : F 0 12 ≤ 12) (e3 : F2 0 12 ≤ F 0 12) (hF : ∀ c j, 54 ≤ c → c < 90 → F2 c j = F c j) (hA : ∀ c, 54 ≤ c → c < 90 → A2 c = A c) : gs_R6 F2 A2 := by
  intro r hr
  rw [hF (54 + 3 * r + 1) 1 (by omega) (by omega), hF (54 + 3 * r) 1 (by omega) (by omega), hF (54 + 3 * r) 2 (by omega) (by omega), hA (54 + 3 * r + 1 + 1) (by omega) (by omega)]
  exact h r (by omega)
theorem gs_R6_0 : gs_R6 gs_F0 gs_A0 := by
  intro r h
  have e : gs_F0 0 12 = 0 := by decide +kernel
  rw [e] at h
  omega
theorem gs_R6_ring {F A F1 A1 F2 A2 : gs_F} {v1 : Int} (h : gs_R6 F A) (hb : 0 ≤ F 0 12 ∧ F 0 12 ≤ 12) (x : (F 3 1 = 0 ∧ v1 = -1003 ∧ F1 0 12 = F 0 12 ∧ F1 3 1 = F 3 1) ∨ (F 3 1 ≠ 0 ∧ F 0 12 = 12 ∧ v1 = -1004 ∧ F1 0 12 = F 0 12 ∧ F1 3 1 = F 3 1) ∨ (F 3 1 ≠ 0 ∧ F 0 12 < 12 ∧ v1 = F 0 12 ∧ F1 0 12 = F 0 12 + 1 ∧ F1 3 1 = 0 ∧ ∃ k : Int, gs_lo (A 4) (F 3 1) k ∧ F1 (54 + 3 * (F 0 12).toNat + 1) 1 = F 3 1 - 2 * k ∧ (∀ i : Nat, (i : Int) < F 3 1 - 2 * k → A1 (54 + 3 * (F 0 12).toNat + 1 + 1) i = A 4 (k.toNat + i)) ∧ gs_r6 (A1 (54 + 3 * (F 0 12).toNat + 1 + 1)) (F1 (54 + 3 * (F 0 12).toNat + 1) 1) (F1 (54 + 3 * (F 0 12).toNat) 1) (F1 (54 + 3 * (F 0 12).toNat) 2))) (e12 : F2 0 12 = F1 0 12) (hF : ∀ c j, 54 ≤ c → c < 90 → F2 c j = F1 c j) (hA : ∀ c, 54 ≤ c → c < 90 → A2 c = A1 c)
    (hFo : ∀ c j, 54 ≤ c → c < 54 + 3 * (F 0 12).toNat → F1 c j = F c j) (hAo : ∀ c, 54 ≤ c → c < 54 + 3 * (F 0 12).toNat → A1 c = A c) : gs_R6 F2 A2 := by
  intro r hr
  have hle : F1 0 12 ≤ F 0 12 + 1 ∧ F1 0 12 ≤ 12 := by
    rcases x with ⟨_, _, e, _⟩ | ⟨_, _, _, e, _⟩ | ⟨_, e2, _, e, _⟩ <;> omega
  rw [hF (54 + 3 * r + 1) 1 (by omega) (by omega), hF (54 + 3 * r) 1 (by omega) (by omega), hF (54 + 3 * r) 2 (by omega) (by omega), hA (54 + 3 * r + 1 + 1) (by omega) (by omega)]
  by_cases q : r = (F 0 12).toNat
  · rcases x with ⟨_, _, e, _⟩ | ⟨_, _, _, e, _⟩ | ⟨_, _, _, _, _, k, k1, k2, k3, k4⟩
    · exfalso
      omega
    · exfalso
      omega
    · rw [q]
      exact k4
  · rw [hFo (54 + 3 * r + 1) 1 (by omega) (by omega), hFo (54 + 3 * r) 1 (by omega) (by omega), hFo (54 + 3 * r) 2 (by omega) (by omega), hAo (54 + 3 * r + 1 + 1) (by omega) (by omega)]
    exact h r (by omega)
def gs_R13m (F A : gs_F) : Prop := gs_R13 F A ∧ gs_Rv F A ∧ gs_R6 F A
theorem gs_R6_vc {F A : gs_F} (hg : 1 ≤ F 106 0 ∧ F 106 0 ≤ 3) (hc : F 0 12 = F 106 3) (h3 : gs_R3 F A) (hv : gs_Rv F A) : ∀ r : Nat, (r : Int) < F 0 12 → gs_vl 3 (F (54 + 3 * r + 1) 1) (A (54 + 3 * r + 1 + 1)) := by
  intro r hr
  obtain ⟨p1, p2, p3, p4, p5⟩ := h3 r (by omega)
  rw [p1]
  exact mt_vl_cg (fun k hk => (p4 k hk).symm) (mt_vl3 hg.2 (hv.2 r (by omega)).1)
theorem gs_R6_va {F A F1 A1 : gs_F} (hv : gs_Rv F A) (hg : 1 ≤ F 106 0 ∧ F 106 0 ≤ 3) (e3 : F1 106 3 = F 106 3) (e8 : A1 108 = A 108) (e9 : A1 109 = A 109) : ∀ r : Nat, (r : Int) < F1 106 3 → gs_vl 3 (A1 108 r) (fun i => A1 109 (60 * r + i)) := by
  intro r hr
  rw [e8, e9]
  exact mt_vl3 hg.2 (hv.2 r (by omega)).1
theorem gs_R6_vd {F A : gs_F} (h : gs_R1 F A) (hv : gs_Rv F A) (hg : 1 ≤ F 106 0 ∧ F 106 0 ≤ 3) : gs_vl 3 (F 3 1) (A 4) := by
  obtain ⟨h1, h2, h3, h4, h5, h6, h7⟩ := h
  rw [h4]
  exact mt_vl_cg (fun k hk => (h6 k (by omega)).symm) (mt_vl3 hg.2 hv.1)
/-- a ring's power and two rings' meetings, for the class as for the reference -/
theorem gs_R6_pow {F A : gs_F} {r : Int} (h3 : gs_R3 F A) (hr : 0 ≤ r ∧ r < F 106 3) : gs_pow (A (54 + 3 * r.toNat + 1 + 1)) (F (54 + 3 * r.toNat + 1) 1) ↔ gs_pow (fun i => A 109 (60 * r.toNat + i)) (A 108 r.toNat) := by
  obtain ⟨p1, p2, p3, p4, p5⟩ := h3 r.toNat (by omega)
  rw [p1]
  exact ⟨gs_pow_cg p4, gs_pow_cg (fun i hi => (p4 i hi).symm)⟩
theorem gs_R6_sm {F A : gs_F} {r s : Int} (hg : 1 ≤ F 106 0 ∧ F 106 0 ≤ 3) (h3 : gs_R3 F A) (hv : gs_Rv F A) (hr : 0 ≤ r ∧ r < F 106 3) (hs : 0 ≤ s ∧ s < F 106 3) : mt_sm 12 (A (54 + 3 * r.toNat + 1 + 1)) (F (54 + 3 * r.toNat + 1) 1) (A (54 + 3 * s.toNat + 1 + 1)) (F (54 + 3 * s.toNat + 1) 1) = mt_m9 (4 * F 106 0) (fun i => A 109 (60 * r.toNat + i)) (A 108 r.toNat) (fun i => A 109 (60 * s.toNat + i)) (A 108 s.toNat) := by
  obtain ⟨p1, p2, p3, p4, p5⟩ := h3 r.toNat (by omega)
  obtain ⟨q1, q2, q3, q4, q5⟩ := h3 s.toNat (by omega)
  obtain ⟨a1, a2⟩ := hv.2 r.toNat (by omega)
  obtain ⟨b1, b2⟩ := hv.2 s.toNat (by omega)
  rw [p1, q1]
  refine (mt_sm_cg p4 q4).trans ?_
  exact mt_sm_eq hg a1 b1 (mt_cc_of a1 a2 p5) (mt_cc_of b1 b2 q5)
theorem gs_told_ev {F A : gs_F} {r w v1 v2 : Int} (hg : 1 ≤ F 106 0 ∧ F 106 0 ≤ 3) (hc : F 0 12 = F 106 3) (h3 : gs_R3 F A) (hv : gs_Rv F A) (h6 : gs_R6 F A) (x1 : ((r < 0 ∨ F 0 12 ≤ r) ∧ v1 = -1001) ∨ (0 ≤ r ∧ r < F 0 12 ∧ ((w = 0 ∧ v1 = F (54 + 3 * r.toNat + 1) 1) ∨ (w = 1 ∧ v1 = F (54 + 3 * r.toNat) 1) ∨ (w = 2 ∧ v1 = F (54 + 3 * r.toNat) 2) ∨ (w = 3 ∧ ((F (54 + 3 * r.toNat) 2 = 0 ∧ v1 = 1) ∨ (F (54 + 3 * r.toNat) 2 ≠ 0 ∧ v1 = 0))) ∨ ((w < 0 ∨ 3 < w) ∧ v1 = -1002)))) (x2 : ((r < 0 ∨ F 106 3 ≤ r) ∧ v2 = -1001) ∨ (0 ≤ r ∧ r < F 106 3 ∧ ((w = 0 ∧ v2 = A 108 r.toNat) ∨ (w = 1 ∧ ((v2 = 1 ∧ (gs_pow (fun i => A 109 (60 * r.toNat + i)) (A 108 r.toNat))) ∨ (v2 = 0 ∧ ¬ (gs_pow (fun i => A 109 (60 * r.toNat + i)) (A 108 r.toNat))))) ∨ (w = 2 ∧ ((gs_pow (fun i => A 109 (60 * r.toNat + i)) (A 108 r.toNat) ∧ v2 = -1) ∨ (¬ gs_pow (fun i => A 109 (60 * r.toNat + i)) (A 108 r.toNat) ∧ v2 = mt_m9 (4 * F 106 0) (fun i => A 109 (60 * r.toNat + i)) (A 108 r.toNat) (fun i => A 109 (60 * r.toNat + i)) (A 108 r.toNat) / 2))) ∨ (w = 3 ∧ ((v2 = 1 ∧ (¬ gs_pow (fun i => A 109 (60 * r.toNat + i)) (A 108 r.toNat) ∧ mt_m9 (4 * F 106 0) (fun i => A 109 (60 * r.toNat + i)) (A 108 r.toNat) (fun i => A 109 (60 * r.toNat + i)) (A 108 r.toNat) / 2 = 0)) ∨ (v2 = 0 ∧ ¬ (¬ gs_pow (fun i => A 109 (60 * r.toNat + i)) (A 108 r.toNat) ∧ mt_m9 (4 * F 106 0) (fun i => A 109 (60 * r.toNat + i)) (A 108 r.toNat) (fun i => A 109 (60 * r.toNat + i)) (A 108 r.toNat) / 2 = 0)))) ∨ ((w < 0 ∨ 3 < w) ∧ v2 = -1002)))) : v2 = v1 := by
  rcases x1 with x1 | ⟨a1, a2, x1⟩ <;> rcases x2 with x2 | ⟨b1, b2, x2⟩
  · omega
  · omega
  · omega
  · have p1 := (h3 r.toNat (by omega)).1
    have eP := gs_R6_pow h3 ⟨b1, b2⟩
    have eS := gs_R6_sm hg h3 hv ⟨b1, b2⟩ ⟨b1, b2⟩
    have h6r := h6 r.toNat (by omega)
    unfold gs_r6 at h6r
    rw [eP, eS] at h6r
    rcases x1 with x1 | x1 | x1 | x1 | x1 <;> rcases x2 with x2 | x2 | x2 | x2 | x2 <;> have w1 := x1.1 <;> have w2 := x2.1 <;> first | (exfalso; omega) | skip
    · have y1 := x1.2
      have y2 := x2.2
      omega
    · have y1 := x1.2
      rcases h6r with ⟨c1, c2, c3⟩ | ⟨c1, c2, c3⟩ <;> rcases x2.2 with d | d
      · have d1 := d.1
        omega
      · exact absurd c2 d.2
      · exact absurd d.2 c2
      · have d1 := d.1
        omega
    · have y1 := x1.2
      rcases h6r with ⟨c1, c2, c3⟩ | ⟨c1, c2, c3⟩ <;> rcases x2.2 with d | d
      · have d1 := d.2
        omega
      · exact absurd c2 d.1
      · exact absurd d.1 c2
      · have d1 := d.2
        omega
    · rcases h6r with ⟨c1, c2, c3⟩ | ⟨c1, c2, c3⟩ <;> rcases x2.2 with d | d <;> rcases x1.2 with y | y
      · exact absurd c2 d.2.1
      · exact absurd c2 d.2.1
      · omega
      · have d1 := d.1
        omega
      · have d1 := d.1
        omega
      · have d1 := d.2.2
        omega
      · exact absurd ⟨c2, by omega⟩ d.2
      · have d1 := d.1
        omega
    · have y1 := x1.2
      have y2 := x2.2
      omega
theorem gs_meets_ev {F A : gs_F} {r s v1 v2 : Int} (hg : 1 ≤ F 106 0 ∧ F 106 0 ≤ 3) (hc : F 0 12 = F 106 3) (h3 : gs_R3 F A) (hv : gs_Rv F A) (h6 : gs_R6 F A) (x1 : ((r < 0 ∨ F 0 12 ≤ r ∨ s < 0 ∨ F 0 12 ≤ s) ∧ v1 = -1001) ∨ (0 ≤ r ∧ r < F 0 12 ∧ 0 ≤ s ∧ s < F 0 12 ∧ (((F (54 + 3 * r.toNat) 1 ≠ 0 ∨ F (54 + 3 * s.toNat) 1 ≠ 0) ∧ v1 = -1003) ∨ (F (54 + 3 * r.toNat) 1 = 0 ∧ F (54 + 3 * s.toNat) 1 = 0 ∧ v1 = mt_sm 12 (A (54 + 3 * r.toNat + 1 + 1)) (F (54 + 3 * r.toNat + 1) 1) (A (54 + 3 * s.toNat + 1 + 1)) (F (54 + 3 * s.toNat + 1) 1))))) (x2 : ((r < 0 ∨ F 106 3 ≤ r ∨ s < 0 ∨ F 106 3 ≤ s) ∧ v2 = -1001) ∨ (0 ≤ r ∧ r < F 106 3 ∧ 0 ≤ s ∧ s < F 106 3 ∧ (((gs_pow (fun i => A 109 (60 * r.toNat + i)) (A 108 r.toNat) ∨ gs_pow (fun i => A 109 (60 * s.toNat + i)) (A 108 s.toNat)) ∧ v2 = -1003) ∨ (¬ gs_pow (fun i => A 109 (60 * r.toNat + i)) (A 108 r.toNat) ∧ ¬ gs_pow (fun i => A 109 (60 * s.toNat + i)) (A 108 s.toNat) ∧ v2 = mt_m9 (4 * F 106 0) (fun i => A 109 (60 * r.toNat + i)) (A 108 r.toNat) (fun i => A 109 (60 * s.toNat + i)) (A 108 s.toNat))))) : v2 = v1 := by
  rcases x1 with x1 | ⟨a1, a2, a3, a4, x1⟩ <;> rcases x2 with x2 | ⟨b1, b2, b3, b4, x2⟩
  · omega
  · omega
  · omega
  · have eP := gs_R6_pow h3 ⟨b1, b2⟩
    have eQ := gs_R6_pow h3 ⟨b3, b4⟩
    have eS := gs_R6_sm hg h3 hv ⟨b1, b2⟩ ⟨b3, b4⟩
    have h6r := h6 r.toNat (by omega)
    have h6s := h6 s.toNat (by omega)
    unfold gs_r6 at h6r h6s
    rw [eP] at h6r
    rw [eQ] at h6s
    rw [eS] at x1
    rcases x1 with ⟨y1, y2⟩ | ⟨y1, y2, y3⟩ <;> rcases x2 with ⟨d1, d2⟩ | ⟨d1, d2, d3⟩
    · omega
    · exfalso
      rcases h6r with ⟨c1, c2, c3⟩ | ⟨c1, c2, c3⟩
      · exact d1 c2
      · rcases h6s with ⟨k1, k2, k3⟩ | ⟨k1, k2, k3⟩
        · exact d2 k2
        · omega
    · exfalso
      rcases h6r with ⟨c1, c2, c3⟩ | ⟨c1, c2, c3⟩
      · omega
      · rcases h6s with ⟨k1, k2, k3⟩ | ⟨k1, k2, k3⟩
        · omega
        · rcases d1 with d1 | d1
          · exact c2 d1
          · exact k2 d1
    · omega
end
