noncomputable section
/-! ===== the two objects side by side: carried ===== -/
def gs_R5 (F A : gs_F) : Prop := gs_R1234 F A ∧ gs_Rv F A
theorem gs_R3_stk {F A : gs_F} {r : Int} (h3 : gs_R3 F A) (hr : 0 ≤ r ∧ r < F 106 3) : (gs_stk (A (54 + 3 * r.toNat + 1 + 1)) (F (54 + 3 * r.toNat + 1) 1).toNat) = (gs_stk (fun i => A 109 (60 * r.toNat + i)) (A 108 r.toNat).toNat) := by
  obtain ⟨a1, a2, a3, a4, a5⟩ := h3 r.toNat (by omega)
  rw [a1]
  exact gs_stk_cg _ (fun i hi => a4 i (by omega))
theorem gs_R5_val {F A : gs_F} {r : Int} (h3 : gs_R3 F A) (hv : gs_Rv F A) (hg : F 0 11 = F 106 0) (hc : F 0 12 = F 106 3) : 0 ≤ r → r < F 0 12 → sp_val (F 0 11) (gs_stk (A (54 + 3 * r.toNat + 1 + 1)) (F (54 + 3 * r.toNat + 1) 1).toNat) := by
  intro h1 h2
  rw [gs_R3_stk h3 ⟨h1, by omega⟩, hg]
  have w := (hv.2 r.toNat (by omega)).1
  exact gs_stk_val _ (fun i hi => w i (by omega))
theorem gs_on_ring {F A : gs_F} {w nu : Int} {fu : Nat → Int} (h3 : gs_R3 F A) (hw : 0 ≤ w ∧ w < F 106 3) (hlo : gs_lo fu nu 0) : gs_on fu nu (A (54 + 3 * w.toNat + 1 + 1)) (F (54 + 3 * w.toNat + 1) 1) ↔ gs_ao fu nu (fun i => A 109 (60 * w.toNat + i)) (A 108 w.toNat) := by
  obtain ⟨b1, b2, b3, b4, b5⟩ := h3 w.toNat (by omega)
  rw [b1]
  constructor
  · intro q
    exact ((gs_on_ao hlo).mp (gs_on_cg (fun _ _ => rfl) b4 q)).1
  · intro q
    exact gs_on_cg (fun _ _ => rfl) (fun i hi => (b4 i hi).symm) ((gs_on_ao hlo).mpr ⟨q, by rw [q.1]; exact b2⟩)
theorem gs_carried_ev {F A : gs_F} {p r w v1 v2 : Int} (hp : gs_Rp F A) (hg : F 0 11 = F 106 0) (hc : F 0 12 = F 106 3) (h3 : gs_R3 F A) (x1 : ((p < 0 ∨ 7 < p ∨ r < 0 ∨ F 0 12 ≤ r ∨ (w ≠ -1 ∧ (w < 0 ∨ F 0 12 ≤ w))) ∧ v1 = -1001) ∨ (0 ≤ p ∧ p ≤ 7 ∧ 0 ≤ r ∧ r < F 0 12 ∧ (w = -1 ∨ (0 ≤ w ∧ w < F 0 12)) ∧ ((gs_plc F A (F 0 11) (90 + 2 * p.toNat) (gs_stk (A (54 + 3 * r.toNat + 1 + 1)) (F (54 + 3 * r.toNat + 1) 1).toNat) = none ∧ v1 = -1005) ∨ (∃ (st : List Int) (fu : Nat → Int) (nu : Int), gs_plc F A (F 0 11) (90 + 2 * p.toNat) (gs_stk (A (54 + 3 * r.toNat + 1 + 1)) (F (54 + 3 * r.toNat + 1) 1).toNat) = some st ∧ gs_cls st fu nu ∧ ((w = -1 ∧ v1 = nu) ∨ (w ≠ -1 ∧ ((v1 = 1 ∧ gs_on fu nu (A (54 + 3 * w.toNat + 1 + 1)) (F (54 + 3 * w.toNat + 1) 1)) ∨ (v1 = 0 ∧ ¬ gs_on fu nu (A (54 + 3 * w.toNat + 1 + 1)) (F (54 + 3 * w.toNat + 1) 1))))))))) (x2 : ((p < 0 ∨ 7 < p ∨ r < 0 ∨ F 106 3 ≤ r ∨ (w ≠ -1 ∧ (w < 0 ∨ F 106 3 ≤ w))) ∧ v2 = -1001) ∨ (0 ≤ p ∧ p ≤ 7 ∧ 0 ≤ r ∧ r < F 106 3 ∧ (w = -1 ∨ (0 ≤ w ∧ w < F 106 3)) ∧ ((gs_plm F A p (gs_stk (fun i => A 109 (60 * r.toNat + i)) (A 108 r.toNat).toNat) = none ∧ v2 = -1005) ∨ (∃ (st : List Int) (fu : Nat → Int) (nu : Int), gs_plm F A p (gs_stk (fun i => A 109 (60 * r.toNat + i)) (A 108 r.toNat).toNat) = some st ∧ gs_cls st fu nu ∧ ((w = -1 ∧ v2 = nu) ∨ (w ≠ -1 ∧ ((v2 = 1 ∧ gs_ao fu nu (fun i => A 109 (60 * w.toNat + i)) (A 108 w.toNat)) ∨ (v2 = 0 ∧ ¬ gs_ao fu nu (fun i => A 109 (60 * w.toNat + i)) (A 108 w.toNat))))))))) : v2 = v1 := by
  rcases x1 with x1 | ⟨a1, a2, a3, a4, a5, x1⟩ <;> rcases x2 with x2 | ⟨b1, b2, b3, b4, b5, x2⟩
  · omega
  · exfalso
    clear x2
    omega
  · exfalso
    clear x1
    omega
  · rw [gs_R3_stk h3 ⟨b3, b4⟩] at x1
    have epl : ∀ s : List Int, sp_pl (fun u => sp_tw (sp_w (F 0 11) u)) (A (90 + 2 * p.toNat + 1)) (F (90 + 2 * p.toNat) 1).toNat s = gs_plm F A p s := fun s => gs_pl_eq hp hg ⟨a1, a2⟩
    have epl2 : gs_plc F A (F 0 11) (90 + 2 * p.toNat) = gs_plm F A p := funext epl
    rw [epl2] at x1
    rcases x1 with ⟨c1, c2⟩ | ⟨s1, f1, n1, c1, c2, c3⟩ <;> rcases x2 with ⟨e1, e2⟩ | ⟨s2, f2, n2, e1, e2, e3⟩
    · omega
    · rw [c1] at e1
      cases e1
    · rw [c1] at e1
      cases e1
    · rw [c1] at e1
      injection e1 with e1
      subst e1
      obtain ⟨m1, m2⟩ := gs_cls_uni c2 e2
      subst m1
      rcases c3 with ⟨c3, c4⟩ | ⟨c3, c4⟩ <;> rcases e3 with ⟨e3, e4⟩ | ⟨e3, e4⟩
      · omega
      · exact absurd c3 e3
      · exact absurd e3 c3
      · have hw : 0 ≤ w ∧ w < F 106 3 := by omega
        have k1 := gs_on_ring h3 hw (gs_cls_lo c2)
        have k2 := gs_ao_cg (m := A 108 w.toNat) (v := fun i => A 109 (60 * w.toNat + i)) m2 (fun _ _ => rfl)
        rcases c4 with ⟨y1, z1⟩ | ⟨y1, z1⟩ <;> rcases e4 with ⟨y2, z2⟩ | ⟨y2, z2⟩
        · omega
        · exact absurd (k2.mp (k1.mp z1)) z2
        · exact absurd (k1.mpr (k2.mpr z2)) z1
        · omega
end
