noncomputable section
/-! ===== the two objects side by side: text, fault, plans ===== -/
def gs_Rt (F A : gs_F) : Prop := F 43 1 = F 106 20 ∧ ∀ i : Int, 0 ≤ i → i < F 106 17 → A 46 i.toNat = A 116 i.toNat ∧ 0 ≤ A 116 i.toNat
def gs_Rp (F A : gs_F) : Prop := ∀ p : Nat, p < 8 → F (90 + 2 * p) 1 = A 110 p ∧ ∀ i : Int, 0 ≤ i → i < A 110 p → A (90 + 2 * p + 1) i.toNat = A 111 (60 * (p : Int) + i).toNat ∧ 0 ≤ A 111 (60 * (p : Int) + i).toNat ∧ A 111 (60 * (p : Int) + i).toNat < 6 * F 106 0 - 2
def gs_R123 (F A : gs_F) : Prop := gs_R13 F A ∧ gs_Rt F A ∧ gs_Rp F A
theorem gs_Rt_fr {F A F2 A2 : gs_F} (h : gs_Rt F A) (e1 : F2 43 1 = F 43 1) (e2 : F2 106 20 = F 106 20) (e3 : F2 106 17 = F 106 17) (e4 : A2 46 = A 46) (e5 : A2 116 = A 116) : gs_Rt F2 A2 := by
  refine ⟨by have := h.1; omega, fun i h1 h2 => ?_⟩
  rw [e4, e5]
  exact h.2 i h1 (by omega)
theorem gs_Rp_fr {F A F2 A2 : gs_F} (h : gs_Rp F A) (hI : gs_I F A) (eg : F2 106 0 = F 106 0) (hF : ∀ c j, 90 ≤ c → c < 106 → F2 c j = F c j) (hA : ∀ c, 90 ≤ c → c < 106 → A2 c = A c) (hk : gs_k8 A A2) : gs_Rp F2 A2 := by
  intro p hp
  obtain ⟨a1, a2⟩ := h p hp
  have hb : (0 : Int) ≤ A 110 p ∧ A 110 p ≤ 60 := hI.2 110 p
  rw [hF _ _ (by omega) (by omega), hk.1 p hp]
  refine ⟨a1, fun i h1 h2 => ?_⟩
  rw [hA (90 + 2 * p + 1) (by omega) (by omega), hk.2 _ (by omega), eg]
  exact a2 i h1 h2
theorem gs_Rp_skin {F2 A2 : gs_F} (h1 : ∀ i : Nat, i < 8 → F2 (90 + 2 * i) 1 = 0) (h2 : ∀ j : Int, 0 ≤ j → j < 9 → A2 110 j.toNat = 0) : gs_Rp F2 A2 := by
  intro p hp
  have e : A2 110 p = 0 := by
    have := h2 (p : Int) (by omega) (by omega)
    rw [Int.toNat_natCast] at this
    exact this
  rw [h1 p hp, e]
  exact ⟨rfl, fun i a b => by omega⟩
theorem gs_Rp_new {F A F2 A2 : gs_F} {r : Int} {n : Int} (h : gs_Rp F A) (hI : gs_I F A) (hr : 0 ≤ r ∧ r ≤ 7) (eg : F2 106 0 = F 106 0) (e1 : F2 (90 + 2 * r.toNat) 1 = n) (e2 : A2 110 = gs_u (A 110) r.toNat n)
    (e3 : ∀ j : Int, 0 ≤ j → j < n → A2 (90 + 2 * r.toNat + 1) j.toNat = A2 111 (60 * r + j).toNat ∧ 0 ≤ A2 111 (60 * r + j).toNat ∧ A2 111 (60 * r + j).toNat < 6 * F 106 0 - 2) (e4 : ∀ i : Int, 0 ≤ i → (i < 60 * r ∨ 60 * r + 60 ≤ i) → A2 111 i.toNat = A 111 i.toNat)
    (hF : ∀ c j, 90 ≤ c → c < 106 → c ≠ 90 + 2 * r.toNat → F2 c j = F c j) (hA : ∀ c, 90 ≤ c → c < 106 → c ≠ 90 + 2 * r.toNat + 1 → A2 c = A c) : gs_Rp F2 A2 := by
  intro p hp
  by_cases q : p = r.toNat
  · subst q
    rw [e2, gs_u_self]
    refine ⟨e1, fun i h1 h2 => ?_⟩
    rw [eg, show ((r.toNat : Nat) : Int) = r by omega]
    exact e3 i h1 h2
  · obtain ⟨a1, a2⟩ := h p hp
    have hb : (0 : Int) ≤ A 110 p ∧ A 110 p ≤ 60 := hI.2 110 p
    rw [hF _ _ (by omega) (by omega) (by omega), e2, gs_u_ne _ _ q]
    refine ⟨a1, fun i h1 h2 => ?_⟩
    rw [hA (90 + 2 * p + 1) (by omega) (by omega) (by omega), e4 _ (by omega) (by omega), eg]
    exact a2 i h1 h2
theorem gs_fd_det {N n z1 z2 N1 N2 : Int} {v : Int64} {t t2 u u2 : Nat → Int} (hN : 0 ≤ N) (h : ∀ i : Int, 0 ≤ i → i < N → t i.toNat = u i.toNat ∧ 0 ≤ u i.toNat) (x1 : gs_fd N n z1 N1 v t t2) (x2 : gs_fd N n z2 N2 v u u2) : z2 = z1 ∧ N1 = N2 ∧ ∀ i : Int, 0 ≤ i → i < N2 → t2 i.toNat = u2 i.toNat ∧ 0 ≤ u2 i.toNat := by
  rcases x1 with ⟨a1, a2, a3, a4⟩ | ⟨a1, a2, a3, a4, a5, a6⟩ | ⟨a1, a2, a3, a4, a5, a6, a7⟩ <;> rcases x2 with ⟨b1, b2, b3, b4⟩ | ⟨b1, b2, b3, b4, b5, b6⟩ | ⟨b1, b2, b3, b4, b5, b6, b7⟩ <;> first | (exfalso; omega) | skip
  · rw [a4, b4]
    exact ⟨by omega, by omega, fun i h1 h2 => h i h1 (by omega)⟩
  · rw [a6, b6]
    exact ⟨by omega, by omega, fun i h1 h2 => h i h1 (by omega)⟩
  · refine ⟨by omega, by omega, fun i h1 h2 => ?_⟩
    by_cases q : i < N
    · rw [a7 i h1 q, b7 i h1 q]
      exact h i h1 q
    · have e1 := a6 (i - N) (by omega) (by omega)
      have e2 := b6 (i - N) (by omega) (by omega)
      rw [show N + (i - N) = i by omega] at e1 e2
      rw [e1, e2]
      exact ⟨rfl, (gs_by_rng _ _).1⟩
/-- both readers come to the same -/
theorem gs_read_agr {F A : gs_F} (hI : gs_I F A) (hg : F 0 11 = F 106 0) (hN : F 43 0 = F 106 17) (ht : gs_Rt F A) : rd_agr (rd_c F A (F 0 11) (F 43 0).toNat) (rd (F 106 0) (A 116) (0, 0, 0, 0, 0, 0, 0, A 118, A 117) (F 106 17).toNat) := by
  have hgb : (1 : Int) ≤ F 106 0 ∧ F 106 0 ≤ 3 := hI.1 106 0
  have hb : (0 : Int) ≤ F 106 17 ∧ F 106 17 ≤ 120 := hI.1 106 17
  unfold rd_c
  rw [hg, hN]
  have a0 : rd_agr (0, 0, 0, F 43 8, F 43 9, 0, 0, A 45, A 47) (0, 0, 0, 0, 0, 0, 0, A 118, A 117) := by
    refine .inr ⟨rfl, rfl, rfl, rfl, rfl, fun w => ?_, fun j j1 j2 => ?_, fun j j1 j2 => ?_⟩
    · have w : (0 : Int) = 1 := w
      omega
    · have j2 : j < 0 := j2
      omega
    · have j2 : j < 0 ∨ ((0 : Int) = 3 ∧ j = 0) := j2
      omega
  refine rd_agr_all hgb rd_0_good a0 _ (fun j hj => ?_)
  have := (ht.2 (j : Int) (by omega) (by omega)).1
  rw [Int.toNat_natCast] at this
  exact this
theorem gs_read_gd {F A : gs_F} (hI : gs_I F A) (h0 : (rd (F 106 0) (A 116) (0, 0, 0, 0, 0, 0, 0, A 118, A 117) (F 106 17).toNat).1 = 0) : ∀ j : Int, 0 ≤ j → j < (rd (F 106 0) (A 116) (0, 0, 0, 0, 0, 0, 0, A 118, A 117) (F 106 17).toNat).2.2.2.2.2.2.1 → 0 ≤ (rd (F 106 0) (A 116) (0, 0, 0, 0, 0, 0, 0, A 118, A 117) (F 106 17).toNat).2.2.2.2.2.2.2.1 j.toNat ∧ (rd (F 106 0) (A 116) (0, 0, 0, 0, 0, 0, 0, A 118, A 117) (F 106 17).toNat).2.2.2.2.2.2.2.1 j.toNat < 6 * F 106 0 - 2 := by
  have hgb : (1 : Int) ≤ F 106 0 ∧ F 106 0 ≤ 3 := hI.1 106 0
  exact (rd_all_good hgb rd_0_good _ h0).2.2
theorem gs_read_ev {F A F1 A1 F2 A2 : gs_F} {p v1 v2 : Int} (hI : gs_I F A) (hg : F 0 11 = F 106 0) (hN : F 43 0 = F 106 17) (ht : gs_Rt F A) (hp : gs_Rp F A) (x1 : ((p < 0 ∨ 7 < p) ∧ v1 = -1001 ∧ F1 = F ∧ A1 = A) ∨ (0 ≤ p ∧ p ≤ 7 ∧ F1 43 0 = 0 ∧ ((v1 ≤ -11 ∧ rd_fin (rd_c F A (F 0 11) (F 43 0).toNat) (F 43 0) = (-10 - v1, F1 43 1) ∧ F1 (90 + 2 * p.toNat) 1 = F (90 + 2 * p.toNat) 1 ∧ A1 (90 + 2 * p.toNat + 1) = A (90 + 2 * p.toNat + 1)) ∨ (0 ≤ v1 ∧ F1 43 1 = -1 ∧ rd_fin (rd_c F A (F 0 11) (F 43 0).toNat) (F 43 0) = (0, -1) ∧ v1 = (rd_c F A (F 0 11) (F 43 0).toNat).2.2.2.2.2.2.1 ∧ F1 (90 + 2 * p.toNat) 1 = v1 ∧ (∀ i : Int, 0 ≤ i → i < v1 → A1 (90 + 2 * p.toNat + 1) i.toNat = (rd_c F A (F 0 11) (F 43 0).toNat).2.2.2.2.2.2.2.1 i.toNat))))) (x2 : ((p < 0 ∨ 7 < p) ∧ v2 = -1001 ∧ F2 106 17 = F 106 17 ∧ F2 106 20 = F 106 20 ∧ A2 110 = A 110 ∧ A2 111 = A 111) ∨ (0 ≤ p ∧ p ≤ 7 ∧ F2 106 17 = 0 ∧ ((v2 ≤ -11 ∧ rd_fin (rd (F 106 0) (A 116) (0, 0, 0, 0, 0, 0, 0, A 118, A 117) (F 106 17).toNat) (F 106 17) = (-10 - v2, F2 106 20) ∧ A2 110 = A 110 ∧ A2 111 = A 111) ∨ (0 ≤ v2 ∧ F2 106 20 = -1 ∧ v2 = F2 106 24 ∧ (∃ st kd kb : Int, rd (F 106 0) (A 116) (0, 0, 0, 0, 0, 0, 0, A 118, A 117) (F 106 17).toNat = (0, 0, st, kd, kb, F2 106 22, F2 106 24, A2 118, A2 117) ∧ rd_fin (rd (F 106 0) (A 116) (0, 0, 0, 0, 0, 0, 0, A 118, A 117) (F 106 17).toNat) (F 106 17) = (0, -1)) ∧ A2 110 = gs_u (A 110) p.toNat v2 ∧ (∀ i : Int, 0 ≤ i → i < v2 → A2 111 (60 * p + i).toNat = A2 118 i.toNat) ∧ (∀ i : Int, 0 ≤ i → (i < 60 * p ∨ 60 * p + 60 ≤ i) → A2 111 i.toNat = A 111 i.toNat)))))
    (c2 : F2 43 1 = F1 43 1) (c3 : F2 43 0 = F1 43 0) (c6 : ∀ c j, c < 106 → F2 c j = F1 c j) (c7 : ∀ c, c < 106 → A2 c = A1 c) (c8 : F2 106 0 = F 106 0) (c9 : A2 116 = A 116)
    (hF : 0 ≤ p ∧ p ≤ 7 → ∀ c j, 90 ≤ c → c < 106 → ¬ (c = 90 + 2 * p.toNat ∧ j = 1) → F1 c j = F c j) (hA : 0 ≤ p ∧ p ≤ 7 → ∀ c, 90 ≤ c → c < 106 → c ≠ 90 + 2 * p.toNat + 1 → A1 c = A c) : v2 = v1 ∧ F2 43 0 = F2 106 17 ∧ gs_Rt F2 A2 ∧ gs_Rp F2 A2 := by
  have hb : (0 : Int) ≤ F 106 17 ∧ F 106 17 ≤ 120 := hI.1 106 17
  have ht1 := ht.1
  rcases x1 with ⟨a1, a2, a3, a4⟩ | ⟨a1, a2, a3, a4⟩
  · rcases x2 with ⟨b1, b2, b3, b4, b5, b6⟩ | ⟨b1, b2, b3, b4⟩
    · subst a3 a4
      refine ⟨by omega, by omega, ⟨by omega, fun i h1 h2 => ?_⟩, ?_⟩
      · rw [c7 46 (by omega), c9]
        exact ht.2 i h1 (by omega)
      · refine gs_Rp_fr hp hI c8 (fun c j h1 h2 => c6 c j (by omega)) (fun c h1 h2 => c7 c (by omega)) (gs_k8_fr b5 b6)
    · exfalso
      omega
  · rcases x2 with ⟨b1, b2, b3, b4, b5, b6⟩ | ⟨b1, b2, b3, b4⟩
    · exfalso
      omega
    · have hag := gs_read_agr hI hg hN ht
      have hfe := rd_fin_agr (n := F 106 17) hag
      rw [hN] at a4
      have hF := hF ⟨a1, a2⟩
      have hA := hA ⟨a1, a2⟩
      rcases a4 with ⟨a4, a5, a6, a7⟩ | ⟨a4, a5, a6, a7, a8, a9⟩
      · rcases b4 with ⟨b4, b5, b6, b7⟩ | ⟨b4, b5, b6, ⟨st, kd, kb, b7, b7b⟩, b8, b9, b10⟩
        · rw [hN] at hfe
          rw [a5, b5] at hfe
          have h1 : -10 - v1 = -10 - v2 := congrArg Prod.fst hfe
          have h2 : F1 43 1 = F2 106 20 := congrArg Prod.snd hfe
          refine ⟨by omega, by omega, ⟨by omega, fun i h1 h2 => by exfalso; omega⟩, gs_Rp_fr hp hI c8 (fun c j h1 h2 => ?_) (fun c h1 h2 => ?_) (gs_k8_fr b6 b7)⟩
          · rw [c6 c j (by omega)]
            by_cases q : c = 90 + 2 * p.toNat ∧ j = 1
            · obtain ⟨q1, q2⟩ := q
              subst q1 q2
              exact a6
            · exact hF c j h1 h2 q
          · rw [c7 c (by omega)]
            by_cases q : c = 90 + 2 * p.toNat + 1
            · subst q
              exact a7
            · exact hA c h1 h2 q
        · rw [hN] at hfe
          rw [a5, b7b] at hfe
          have h1 : -10 - v1 = 0 := congrArg Prod.fst hfe
          exfalso
          omega
      · rcases b4 with ⟨b4, b5, b6, b7⟩ | ⟨b4, b5, b6, ⟨st, kd, kb, b7, b7b⟩, b8, b9, b10⟩
        · rw [hN] at hfe
          rw [a6, b5] at hfe
          have h1 : (0 : Int) = -10 - v2 := congrArg Prod.fst hfe
          exfalso
          omega
        · rw [hN] at hag
          have hs0 : (rd_c F A (F 0 11) (F 106 17).toNat).1 = 0 := (rd_fin_0 a6).2
          rcases hag with ⟨g1, _⟩ | ⟨g1, g2, g3, g4, g5, g6, g7, g8⟩
          · exact absurd hs0 g1
          · have hgd := gs_read_gd hI g2
            rw [b7] at hgd g5 g7
            have g5 : (rd_c F A (F 0 11) (F 106 17).toNat).2.2.2.2.2.2.1 = F2 106 24 := g5
            have hv : v2 = v1 := by omega
            refine ⟨hv, by omega, ⟨by omega, fun i h1 h2 => by exfalso; omega⟩, ?_⟩
            refine gs_Rp_new hp hI ⟨a1, a2⟩ c8 (n := v2) (by rw [c6 _ _ (by omega)]; omega) b8 (fun j h1 h2 => ?_) b10 (fun c j h1 h2 h3 => by rw [c6 c j (by omega)]; exact hF c j h1 h2 (by omega)) (fun c h1 h2 h3 => by rw [c7 c (by omega)]; exact hA c h1 h2 h3)
            have e1 := a9 j h1 (by omega)
            have e2 := b9 j h1 h2
            have e3 : (rd_c F A (F 0 11) (F 106 17).toNat).2.2.2.2.2.2.2.1 j.toNat = A2 118 j.toNat := g7 j h1 (by omega)
            have e4 : 0 ≤ A2 118 j.toNat ∧ A2 118 j.toNat < 6 * F 106 0 - 2 := hgd j h1 (by show j < F2 106 24; omega)
            rw [c7 _ (by omega), e1, e3, e2]
            exact ⟨rfl, e4.1, e4.2⟩
theorem gs_chain_ev {F A F1 A1 F2 A2 : gs_F} {r p q v1 v2 : Int} (hI : gs_I F A) (hp : gs_Rp F A) (x1 : ((r < 0 ∨ 7 < r ∨ p < 0 ∨ 7 < p ∨ q < 0 ∨ 7 < q) ∧ v1 = -1001 ∧ F1 = F ∧ A1 = A) ∨ (0 ≤ r ∧ r ≤ 7 ∧ 0 ≤ p ∧ p ≤ 7 ∧ 0 ≤ q ∧ q ≤ 7 ∧ ((60 < F (90 + 2 * p.toNat) 1 + F (90 + 2 * q.toNat) 1 ∧ v1 = -1004 ∧ F1 = F ∧ A1 = A) ∨ (F (90 + 2 * p.toNat) 1 + F (90 + 2 * q.toNat) 1 ≤ 60 ∧ v1 = F (90 + 2 * p.toNat) 1 + F (90 + 2 * q.toNat) 1 ∧ F1 (90 + 2 * r.toNat) 1 = v1 ∧ (∀ j : Int, 0 ≤ j → j < F (90 + 2 * p.toNat) 1 → A1 (90 + 2 * r.toNat + 1) j.toNat = A (90 + 2 * p.toNat + 1) j.toNat) ∧ (∀ j : Int, 0 ≤ j → j < F (90 + 2 * q.toNat) 1 → A1 (90 + 2 * r.toNat + 1) (F (90 + 2 * p.toNat) 1 + j).toNat = A (90 + 2 * q.toNat + 1) j.toNat))))) (x2 : ((r < 0 ∨ 7 < r ∨ p < 0 ∨ 7 < p ∨ q < 0 ∨ 7 < q) ∧ v2 = -1001 ∧ A2 110 = A 110 ∧ A2 111 = A 111) ∨ (0 ≤ r ∧ r ≤ 7 ∧ 0 ≤ p ∧ p ≤ 7 ∧ 0 ≤ q ∧ q ≤ 7 ∧ ((60 < A 110 p.toNat + A 110 q.toNat ∧ v2 = -1004 ∧ A2 110 = A 110 ∧ A2 111 = A 111) ∨ (A 110 p.toNat + A 110 q.toNat ≤ 60 ∧ v2 = A 110 p.toNat + A 110 q.toNat ∧ A2 110 = gs_u (A 110) r.toNat v2 ∧ (∀ j : Int, 0 ≤ j → j < v2 → A2 111 (60 * r + j).toNat = (if j < A 110 p.toNat then A 111 (60 * p + j).toNat else A 111 (60 * q + j - A 110 p.toNat).toNat)) ∧ (∀ i : Int, 0 ≤ i → (i < 60 * r ∨ 60 * r + 60 ≤ i) → A2 111 i.toNat = A 111 i.toNat)))))
    (c6 : ∀ c j, c < 106 → F2 c j = F1 c j) (c7 : ∀ c, c < 106 → A2 c = A1 c) (c8 : F2 106 0 = F 106 0)
    (hF : 0 ≤ r ∧ r ≤ 7 → ∀ c j, 90 ≤ c → c < 106 → ¬ (c = 90 + 2 * r.toNat ∧ j = 1) → F1 c j = F c j) (hA : 0 ≤ r ∧ r ≤ 7 → ∀ c, 90 ≤ c → c < 106 → c ≠ 90 + 2 * r.toNat + 1 → A1 c = A c) : v2 = v1 ∧ gs_Rp F2 A2 := by
  have same : F1 = F → A1 = A → (∀ i : Nat, i < 8 → A2 110 i = A 110 i) → (∀ i : Nat, i < 480 → A2 111 i = A 111 i) → gs_Rp F2 A2 := fun e1 e2 e3 e4 => gs_Rp_fr hp hI c8 (fun c j h1 h2 => by rw [c6 c j (by omega), e1]) (fun c h1 h2 => by rw [c7 c (by omega), e2]) ⟨e3, e4⟩
  rcases x1 with ⟨a1, a2, a3, a4⟩ | ⟨a1, a2, a3, a4, a5, a6, a7⟩
  · rcases x2 with ⟨b1, b2, b3, b4⟩ | ⟨b1, b2, b3, b4, b5, b6, b7⟩
    · exact ⟨by omega, same a3 a4 (fun i _ => by rw [b3]) (fun i _ => by rw [b4])⟩
    · exfalso
      omega
  · rcases x2 with ⟨b1, b2, b3, b4⟩ | ⟨b1, b2, b3, b4, b5, b6, b7⟩
    · exfalso
      omega
    · obtain ⟨P1, P2⟩ := hp p.toNat (by omega)
      obtain ⟨Q1, Q2⟩ := hp q.toNat (by omega)
      rw [show ((p.toNat : Nat) : Int) = p by omega] at P2
      rw [show ((q.toNat : Nat) : Int) = q by omega] at Q2
      have hbp : (0 : Int) ≤ A 110 p.toNat ∧ A 110 p.toNat ≤ 60 := hI.2 110 _
      rcases a7 with ⟨a7, a8, a9, a10⟩ | ⟨a7, a8, a9, a10, a11⟩
      · rcases b7 with ⟨b7, b8, b9, b10⟩ | ⟨b7, b8, b9, b10, b11⟩
        · exact ⟨by omega, same a9 a10 (fun i _ => by rw [b9]) (fun i _ => by rw [b10])⟩
        · exfalso
          omega
      · rcases b7 with ⟨b7, b8, b9, b10⟩ | ⟨b7, b8, b9, b10, b11⟩
        · exfalso
          omega
        · refine ⟨by omega, ?_⟩
          refine gs_Rp_new hp hI ⟨a1, a2⟩ c8 (n := v2) (by rw [c6 _ _ (by omega)]; omega) b9 (fun j h1 h2 => ?_) b11 (fun c j h1 h2 h3 => by rw [c6 c j (by omega)]; exact hF ⟨a1, a2⟩ c j h1 h2 (by omega)) (fun c h1 h2 h3 => by rw [c7 c (by omega)]; exact hA ⟨a1, a2⟩ c h1 h2 h3)
          rw [c7 _ (by omega), b10 j h1 h2]
          by_cases w : j < A 110 p.toNat
          · rw [if_pos w, a10 j h1 (by omega)]
            have := P2 j h1 w
            exact ⟨this.1, this.2.1, this.2.2⟩
          · have e := a11 (j - A 110 p.toNat) (by omega) (by omega)
            rw [show F (90 + 2 * p.toNat) 1 + (j - A 110 p.toNat) = j by omega] at e
            have := Q2 (j - A 110 p.toNat) (by omega) (by omega)
            rw [show 60 * q + (j - A 110 p.toNat) = 60 * q + j - A 110 p.toNat by omega] at this
            rw [if_neg w, e]
            exact ⟨this.1, this.2.1, this.2.2⟩
theorem gs_turn_ev {F A F1 A1 F2 A2 : gs_F} {r p v1 v2 : Int} (hI : gs_I F A) (hp : gs_Rp F A) (x1 : ((r < 0 ∨ 7 < r ∨ p < 0 ∨ 7 < p) ∧ v1 = -1001 ∧ F1 = F ∧ A1 = A) ∨ (0 ≤ r ∧ r ≤ 7 ∧ 0 ≤ p ∧ p ≤ 7 ∧ v1 = F (90 + 2 * p.toNat) 1 ∧ F1 (90 + 2 * r.toNat) 1 = v1 ∧ (∀ j : Int, 0 ≤ j → j < F (90 + 2 * p.toNat) 1 → A1 (90 + 2 * r.toNat + 1) j.toNat = rd_flip (A (90 + 2 * p.toNat + 1) (F (90 + 2 * p.toNat) 1 - 1 - j).toNat)))) (x2 : ((r < 0 ∨ 7 < r ∨ p < 0 ∨ 7 < p) ∧ v2 = -1001 ∧ A2 110 = A 110 ∧ A2 111 = A 111) ∨ (0 ≤ r ∧ r ≤ 7 ∧ 0 ≤ p ∧ p ≤ 7 ∧ v2 = A 110 p.toNat ∧ A2 110 = gs_u (A 110) r.toNat v2 ∧ (∀ j : Int, 0 ≤ j → j < v2 → A2 111 (60 * r + j).toNat = rd_flip (A 111 (60 * p + v2 - 1 - j).toNat)) ∧ (∀ i : Int, 0 ≤ i → (i < 60 * r ∨ 60 * r + 60 ≤ i) → A2 111 i.toNat = A 111 i.toNat)))
    (c6 : ∀ c j, c < 106 → F2 c j = F1 c j) (c7 : ∀ c, c < 106 → A2 c = A1 c) (c8 : F2 106 0 = F 106 0)
    (hF : 0 ≤ r ∧ r ≤ 7 → ∀ c j, 90 ≤ c → c < 106 → ¬ (c = 90 + 2 * r.toNat ∧ j = 1) → F1 c j = F c j) (hA : 0 ≤ r ∧ r ≤ 7 → ∀ c, 90 ≤ c → c < 106 → c ≠ 90 + 2 * r.toNat + 1 → A1 c = A c) : v2 = v1 ∧ gs_Rp F2 A2 := by
  have hg : (1 : Int) ≤ F 106 0 ∧ F 106 0 ≤ 3 := hI.1 106 0
  rcases x1 with ⟨a1, a2, a3, a4⟩ | ⟨a1, a2, a3, a4, a5, a6, a7⟩
  · rcases x2 with ⟨b1, b2, b3, b4⟩ | ⟨b1, b2, b3, b4, b5, b6, b7⟩
    · exact ⟨by omega, gs_Rp_fr hp hI c8 (fun c j h1 h2 => by rw [c6 c j (by omega), a3]) (fun c h1 h2 => by rw [c7 c (by omega), a4]) ⟨fun i _ => by rw [b3], fun i _ => by rw [b4]⟩⟩
    · exfalso
      omega
  · rcases x2 with ⟨b1, b2, b3, b4⟩ | ⟨b1, b2, b3, b4, b5, b6, b7, b8⟩
    · exfalso
      omega
    · obtain ⟨P1, P2⟩ := hp p.toNat (by omega)
      rw [show ((p.toNat : Nat) : Int) = p by omega] at P2
      have hbp : (0 : Int) ≤ A 110 p.toNat ∧ A 110 p.toNat ≤ 60 := hI.2 110 _
      refine ⟨by omega, ?_⟩
      refine gs_Rp_new hp hI ⟨a1, a2⟩ c8 (n := v2) (by rw [c6 _ _ (by omega)]; omega) b6 (fun j h1 h2 => ?_) b8 (fun c j h1 h2 h3 => by rw [c6 c j (by omega)]; exact hF ⟨a1, a2⟩ c j h1 h2 (by omega)) (fun c h1 h2 h3 => by rw [c7 c (by omega)]; exact hA ⟨a1, a2⟩ c h1 h2 h3)
      have e := P2 (F (90 + 2 * p.toNat) 1 - 1 - j) (by omega) (by omega)
      have hx := rd_flip_e (x := A 111 (60 * p + (F (90 + 2 * p.toNat) 1 - 1 - j)).toNat) (by omega)
      rw [c7 _ (by omega), b7 j h1 h2, a7 j h1 (by omega), e.1, show 60 * p + v2 - 1 - j = 60 * p + (F (90 + 2 * p.toNat) 1 - 1 - j) by omega]
      exact ⟨rfl, by omega, by omega⟩
theorem gs_code15 {F A A1 : gs_F} {p : Int} (hI : gs_I F A) (hp : gs_Rp F A) (e1 : A1 110 = A 110) (e2 : A1 111 = A 111) : 0 ≤ p → p ≤ 7 → ∀ i : Int, 0 ≤ i → i < A1 110 p.toNat → 0 ≤ A1 111 (60 * p + i).toNat ∧ A1 111 (60 * p + i).toNat ≤ 15 := by
  intro h1 h2 i h3 h4
  have hg : (1 : Int) ≤ F 106 0 ∧ F 106 0 ≤ 3 := hI.1 106 0
  rw [e1] at h4
  rw [e2]
  have := (hp p.toNat (by omega)).2 i h3 h4
  rw [show ((p.toNat : Nat) : Int) = p by omega] at this
  omega
theorem gs_twist_ev {F A : gs_F} {p i v1 v2 : Int} (hp : gs_Rp F A) (x1 : ((p < 0 ∨ 7 < p) ∧ v1 = -1001) ∨ (0 ≤ p ∧ p ≤ 7 ∧ ((i = -1 ∧ v1 = F (90 + 2 * p.toNat) 1) ∨ (i ≠ -1 ∧ 0 ≤ i ∧ i < F (90 + 2 * p.toNat) 1 ∧ v1 = A (90 + 2 * p.toNat + 1) i.toNat) ∨ (i ≠ -1 ∧ (i < 0 ∨ F (90 + 2 * p.toNat) 1 ≤ i) ∧ v1 = -1)))) (x2 : ((p < 0 ∨ 7 < p) ∧ v2 = -1001) ∨ (0 ≤ p ∧ p ≤ 7 ∧ ((i = -1 ∧ v2 = A 110 p.toNat) ∨ (i ≠ -1 ∧ 0 ≤ i ∧ i < A 110 p.toNat ∧ v2 = A 111 (60 * p + i).toNat) ∨ (i ≠ -1 ∧ (i < 0 ∨ A 110 p.toNat ≤ i) ∧ v2 = -1)))) : v2 = v1 := by
  by_cases hq : 0 ≤ p ∧ p ≤ 7
  · obtain ⟨P1, P2⟩ := hp p.toNat (by omega)
    rw [show ((p.toNat : Nat) : Int) = p by omega] at P2
    by_cases hi : 0 ≤ i ∧ i < A 110 p.toNat
    · have := (P2 i hi.1 hi.2).1
      omega
    · omega
  · omega
theorem gs_Rt_0 : gs_Rt gs_F0 gs_A0 := by
  have e : gs_F0 106 17 = 0 := by decide +kernel
  exact ⟨by decide +kernel, fun i h1 h2 => by rw [e] at h2; omega⟩
theorem gs_Rp_0 : gs_Rp gs_F0 gs_A0 := by
  refine gs_Rp_skin (fun i hi => ?_) (fun j h1 h2 => ?_)
  · match i, hi with
    | 0, _ => decide +kernel
    | 1, _ => decide +kernel
    | 2, _ => decide +kernel
    | 3, _ => decide +kernel
    | 4, _ => decide +kernel
    | 5, _ => decide +kernel
    | 6, _ => decide +kernel
    | 7, _ => decide +kernel
    | i + 8, hi => omega
  · have hj : j.toNat < 9 := by omega
    generalize j.toNat = k at hj
    match k, hj with
    | 0, _ => decide +kernel
    | 1, _ => decide +kernel
    | 2, _ => decide +kernel
    | 3, _ => decide +kernel
    | 4, _ => decide +kernel
    | 5, _ => decide +kernel
    | 6, _ => decide +kernel
    | 7, _ => decide +kernel
    | 8, _ => decide +kernel
    | k + 9, hj => omega
end
