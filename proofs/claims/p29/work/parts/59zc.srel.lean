noncomputable section
/-! ===== the two objects side by side: sort ===== -/
theorem gs_R5_vs {F A : gs_F} (h3 : gs_R3 F A) (hv : gs_Rv F A) (hg : F 0 11 = F 106 0) (hc : F 0 12 = F 106 3) : ∀ r : Nat, (r : Int) < F 0 12 → sp_val (F 0 11) (gs_stk (A (54 + 3 * r + 1 + 1)) (F (54 + 3 * r + 1) 1).toNat) := fun r hr => by
  have w := gs_R5_val (r := (r : Int)) h3 hv hg hc (by omega) hr
  rw [Int.toNat_natCast] at w
  exact w
theorem st_k9_ex {F A F1 A1 : gs_F} (h0 : F1 106 0 = F 106 0) (h8 : A1 108 = A 108) (h9 : A1 109 = A 109) (h10 : A1 110 = A 110) (h11 : A1 111 = A 111) : st_k9 F1 A1 = st_k9 F A := by
  funext p n r
  exact propext (st_k9_fr h0 h8 h9 h10 h11)
theorem st_K9_ex {F A F1 A1 : gs_F} (h3 : F1 106 3 = F 106 3) (h0 : F1 106 0 = F 106 0) (h8 : A1 108 = A 108) (h9 : A1 109 = A 109) (h10 : A1 110 = A 110) (h11 : A1 111 = A 111) : st_K9 F1 A1 = st_K9 F A := by
  unfold st_K9
  rw [h3, st_k9_ex h0 h8 h9 h10 h11]
theorem gs_sort_ev {F A : gs_F} {p n v1 v2 : Int} (hp : gs_Rp F A) (hgg : F 0 11 = F 106 0) (hg : 1 ≤ F 106 0 ∧ F 106 0 ≤ 3) (hc : F 0 12 = F 106 3) (h3 : gs_R3 F A) (hv : gs_Rv F A) (h6 : gs_R6 F A) (x1 : ((p < 0 ∨ 7 < p) ∧ v1 = -1001) ∨ (0 ≤ p ∧ p ≤ 7 ∧ (n < 1 ∨ 12 < n) ∧ v1 = -1002) ∨ (0 ≤ p ∧ p ≤ 7 ∧ 1 ≤ n ∧ n ≤ 12 ∧ st_ans (gs_plc F A (F 0 11) (90 + 2 * p.toNat)) (F 0 11) n (st_K8 F A (90 + 2 * p.toNat) n) v1)) (x2 : ((p < 0 ∨ 7 < p) ∧ v2 = -1001) ∨ (0 ≤ p ∧ p ≤ 7 ∧ (n < 1 ∨ 12 < n) ∧ v2 = -1002) ∨ (0 ≤ p ∧ p ≤ 7 ∧ 1 ≤ n ∧ n ≤ 12 ∧ st_ans (gs_plm F A p) (F 106 0) n (st_K9 F A p n) v2)) : v2 = v1 := by
  rcases x1 with x1 | x1 | ⟨a1, a2, a3, a4, x1⟩ <;> rcases x2 with x2 | x2 | ⟨b1, b2, b3, b4, x2⟩
  · omega
  · omega
  · omega
  · omega
  · omega
  · omega
  · omega
  · omega
  · rw [gs_plc_eq hp hgg ⟨a1, a2⟩, hgg] at x1
    refine st_ans_uni ?_ x1 x2
    unfold st_K8 st_K9
    rw [hc]
    have key : ∀ r : Nat, (r : Int) < F 106 3 → (st_k8 F A (90 + 2 * p.toNat) n r ↔ st_k9 F A p n r) := by
      intro r hr
      obtain ⟨p1, p2, p3, p4, p5⟩ := h3 r hr
      obtain ⟨q1, q2⟩ := hv.2 r hr
      have k := h6 r (by omega)
      have eP := gs_R6_pow h3 (r := (r : Int)) ⟨by omega, hr⟩
      have eS := gs_R6_sm hg h3 hv (r := (r : Int)) (s := (r : Int)) ⟨by omega, hr⟩ ⟨by omega, hr⟩
      rw [Int.toNat_natCast] at eP eS
      unfold gs_r6 at k
      rw [eP, eS] at k
      have n1 := mt_not1 q1 (mt_cc_of q1 q2 p5)
      have es : F (54 + 3 * r) 2 = 0 ↔ hp_S9 F A r := by
        unfold hp_S9
        rw [Int.toNat_natCast]
        rcases k with ⟨k1, k2, k3⟩ | ⟨k1, k2, k3⟩
        · constructor
          · intro w
            exfalso
            omega
          · intro w
            exact absurd k2 w.1
        · constructor
          · intro w
            exact ⟨k2, by omega⟩
          · intro w
            have w2 := w.2
            omega
      have er : gs_stk (A (54 + 3 * r + 1 + 1)) (F (54 + 3 * r + 1) 1).toNat = gs_stk (fun i => A 109 (60 * r + i)) (A 108 r).toNat := by
        rw [p1]
        exact gs_stk_cg _ (fun i hi => p4 i (by omega))
      unfold st_k8 st_k9
      rw [es, er, gs_plc_eq hp hgg ⟨a1, a2⟩, p1]
      have ek : ∀ P row, st_kp P row n (fun s => st_on s (A (54 + 3 * r + 1 + 1)) (A 108 r)) ↔ st_kp P row n (fun s => st_ao s (fun i => A 109 (60 * r + i)) (A 108 r)) := fun P row => st_kp_cg (fun s => st_on_ao p2 p4)
      rw [ek]
    exact ⟨fun ⟨r, r1, r2⟩ => ⟨r, r1, (key r r1).mp r2⟩, fun ⟨r, r1, r2⟩ => ⟨r, r1, (key r r1).mpr r2⟩⟩
end
