noncomputable section
/-! ===== the two objects side by side: meetsThen ===== -/
def gs_R5m (F A : gs_F) : Prop := gs_R5 F A ∧ gs_R6 F A
theorem gs_R5_vg {F A F1 A1 : gs_F} (hv : gs_Rv F A) (e0 : F1 106 0 = F 106 0) (e3 : F1 106 3 = F 106 3) (e8 : A1 108 = A 108) (e9 : A1 109 = A 109) : ∀ r : Nat, (r : Int) < F1 106 3 → gs_vl (F1 106 0) (A1 108 r) (fun i => A1 109 (60 * r + i)) := by
  intro r hr
  rw [e0, e8, e9]
  exact (hv.2 r (by omega)).1
theorem gs_mt_ev {F A : gs_F} {p r s v1 v2 : Int} (hp : gs_Rp F A) (hgg : F 0 11 = F 106 0) (hg : 1 ≤ F 106 0 ∧ F 106 0 ≤ 3) (hc : F 0 12 = F 106 3) (h3 : gs_R3 F A) (hv : gs_Rv F A) (h6 : gs_R6 F A) (x1 : ((p < 0 ∨ 7 < p ∨ r < 0 ∨ F 0 12 ≤ r ∨ s < 0 ∨ F 0 12 ≤ s) ∧ v1 = -1001) ∨ (0 ≤ p ∧ p ≤ 7 ∧ 0 ≤ r ∧ r < F 0 12 ∧ 0 ≤ s ∧ s < F 0 12 ∧ (((F (54 + 3 * r.toNat) 1 ≠ 0 ∨ F (54 + 3 * s.toNat) 1 ≠ 0) ∧ v1 = -1003) ∨ (F (54 + 3 * r.toNat) 1 = 0 ∧ F (54 + 3 * s.toNat) 1 = 0 ∧ ((gs_plc F A (F 0 11) (90 + 2 * p.toNat) (gs_stk (A (54 + 3 * r.toNat + 1 + 1)) (F (54 + 3 * r.toNat + 1) 1).toNat) = none ∧ v1 = -1005) ∨ ∃ (st : List Int) (fu : Nat → Int) (nu : Int), gs_plc F A (F 0 11) (90 + 2 * p.toNat) (gs_stk (A (54 + 3 * r.toNat + 1 + 1)) (F (54 + 3 * r.toNat + 1) 1).toNat) = some st ∧ gs_cls st fu nu ∧ v1 = mt_sm 12 fu nu (A (54 + 3 * s.toNat + 1 + 1)) (F (54 + 3 * s.toNat + 1) 1)))))) (x2 : ((p < 0 ∨ 7 < p ∨ r < 0 ∨ F 106 3 ≤ r ∨ s < 0 ∨ F 106 3 ≤ s) ∧ v2 = -1001) ∨ (0 ≤ p ∧ p ≤ 7 ∧ 0 ≤ r ∧ r < F 106 3 ∧ 0 ≤ s ∧ s < F 106 3 ∧ (((gs_pow (fun i => A 109 (60 * r.toNat + i)) (A 108 r.toNat) ∨ gs_pow (fun i => A 109 (60 * s.toNat + i)) (A 108 s.toNat)) ∧ v2 = -1003) ∨ (¬ gs_pow (fun i => A 109 (60 * r.toNat + i)) (A 108 r.toNat) ∧ ¬ gs_pow (fun i => A 109 (60 * s.toNat + i)) (A 108 s.toNat) ∧ ((gs_plm F A p (gs_stk (fun i => A 109 (60 * r.toNat + i)) (A 108 r.toNat).toNat) = none ∧ v2 = -1005) ∨ ∃ (st : List Int) (fu : Nat → Int) (nu : Int), gs_plm F A p (gs_stk (fun i => A 109 (60 * r.toNat + i)) (A 108 r.toNat).toNat) = some st ∧ gs_cls st fu nu ∧ v2 = mt_m9 (4 * F 106 0) fu nu (fun i => A 109 (60 * s.toNat + i)) (A 108 s.toNat)))))) : v2 = v1 := by
  rcases x1 with x1 | ⟨a1, a2, a3, a4, a5, a6, x1⟩ <;> rcases x2 with x2 | ⟨b1, b2, b3, b4, b5, b6, x2⟩
  · omega
  · exfalso
    clear x2
    omega
  · exfalso
    clear x1
    omega
  · have eP := gs_R6_pow h3 ⟨b3, b4⟩
    have eQ := gs_R6_pow h3 ⟨b5, b6⟩
    have h6r := h6 r.toNat (by omega)
    have h6s := h6 s.toNat (by omega)
    unfold gs_r6 at h6r h6s
    rw [eP] at h6r
    rw [eQ] at h6s
    rcases x1 with ⟨y1, y2⟩ | ⟨y1, y2, y3⟩ <;> rcases x2 with ⟨d1, d2⟩ | ⟨d1, d2, d3⟩
    · omega
    · exfalso
      rcases h6r with ⟨c1, c2, c3⟩ | ⟨c1, c2, c3⟩
      · exact d1 c2
      · rcases h6s with ⟨k1, k2, k3⟩ | ⟨k1, k2, k3⟩
        · exact d2 k2
        · omega
    · exfalso
      rcases h6r with ⟨c1, c2, c3⟩ | ⟨c1, c2, c3⟩
      · omega
      · rcases h6s with ⟨k1, k2, k3⟩ | ⟨k1, k2, k3⟩
        · omega
        · rcases d1 with d1 | d1
          · exact c2 d1
          · exact k2 d1
    · rw [gs_R3_stk h3 ⟨b3, b4⟩, gs_plc_eq hp hgg ⟨a1, a2⟩] at y3
      rcases y3 with ⟨c1, c2⟩ | ⟨s1, f1, n1, c1, c2, c3⟩ <;> rcases d3 with ⟨e1, e2⟩ | ⟨s2, f2, n2, e1, e2, e3⟩
      · omega
      · rw [c1] at e1
        cases e1
      · rw [c1] at e1
        cases e1
      · rw [c1] at e1
        injection e1 with e1
        subst e1
        obtain ⟨m1, m2⟩ := gs_cls_uni c2 e2
        subst m1
        obtain ⟨p1, p2, p3, p4, p5⟩ := h3 r.toNat (by omega)
        obtain ⟨q1, q2, q3, q4, q5⟩ := h3 s.toNat (by omega)
        obtain ⟨k1, k2⟩ := hv.2 r.toNat (by omega)
        obtain ⟨l1, l2⟩ := hv.2 s.toNat (by omega)
        have hcdm := gs_codeM (p := p) hp (rfl : A 110 = A 110) (rfl : A 111 = A 111) (rfl : F 106 0 = F 106 0) b1 b2
        have vs := gs_plm_val hg b1 hcdm (gs_stk_val _ (fun i hi => k1 i (by omega))) c1
        have rs := gs_plm_red (gs_stk_red _ (fun i hi => k2 i (by omega))) c1
        have vf := gs_cls_vl c2 vs
        have cf := mt_cc_of vf (gs_cls_cl c2 rs) (gs_cls_lo c2)
        rw [q1] at c3
        rw [c3, e3, mt_sm_cg (fun _ _ => rfl) q4, mt_sm_eq hg vf l1 cf (mt_cc_of l1 l2 q5)]
        exact mt_m9_cg (fun k hk => (m2 k hk).symm) (fun _ _ => rfl)
end
