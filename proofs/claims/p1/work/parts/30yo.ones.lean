noncomputable section
theorem on_d0 : decode cX9_onesOf 0 = .ok (.iconst 0, 1) := by decide +kernel
theorem on_d1 : decode cX9_onesOf 1 = .ok (.istore_n 1, 1) := by decide +kernel
theorem on_d2 : decode cX9_onesOf 2 = .ok (.iconst 0, 1) := by decide +kernel
theorem on_d3 : decode cX9_onesOf 3 = .ok (.istore_n 2, 1) := by decide +kernel
theorem on_d4 : decode cX9_onesOf 4 = .ok (.iload_n 2, 1) := by decide +kernel
theorem on_d5 : decode cX9_onesOf 5 = .ok (.bipush 12, 2) := by decide +kernel
theorem on_d7 : decode cX9_onesOf 7 = .ok (.if_icmp .ge 17, 3) := by decide +kernel
theorem on_d10 : decode cX9_onesOf 10 = .ok (.iload_n 1, 1) := by decide +kernel
theorem on_d11 : decode cX9_onesOf 11 = .ok (.iload_n 0, 1) := by decide +kernel
theorem on_d12 : decode cX9_onesOf 12 = .ok (.iload_n 2, 1) := by decide +kernel
theorem on_d13 : decode cX9_onesOf 13 = .ok (.ishr, 1) := by decide +kernel
theorem on_d14 : decode cX9_onesOf 14 = .ok (.iconst 1, 1) := by decide +kernel
theorem on_d15 : decode cX9_onesOf 15 = .ok (.iand, 1) := by decide +kernel
theorem on_d16 : decode cX9_onesOf 16 = .ok (.iadd, 1) := by decide +kernel
theorem on_d17 : decode cX9_onesOf 17 = .ok (.istore_n 1, 1) := by decide +kernel
theorem on_d18 : decode cX9_onesOf 18 = .ok (.iinc 2 1, 3) := by decide +kernel
theorem on_d21 : decode cX9_onesOf 21 = .ok (.goto (-17), 3) := by decide +kernel
theorem on_d24 : decode cX9_onesOf 24 = .ok (.iload_n 1, 1) := by decide +kernel
theorem on_d25 : decode cX9_onesOf 25 = .ok (.ireturn, 1) := by decide +kernel
def on_pc (c : Nat) : Nat → Nat
  | 0 => 0
  | k + 1 => on_pc c k + c / 2 ^ k % 2
def on_12 (c : Nat) : Nat := c % 2 + (c / 2 % 2 + (c / 4 % 2 + (c / 8 % 2 + (c / 16 % 2 + c / 32 % 2))))
theorem on_eq : ∀ c, c < 64 → on_pc c 12 = on_12 c := by decide +kernel
theorem on_step : ∀ c, c < 64 → ∀ k, k < 12 → nI (on_pc c k) + ((nI c >>> (nI k &&& 31)) &&& 1) = nI (on_pc c (k + 1)) := by decide +kernel
theorem on_lt : ∀ k, k < 12 → ¬ (12 : Int32) ≤ nI k := by decide +kernel
section
variable {G : am_G} {d N : Nat} {h : am_H} {post : am_T}
theorem on_loop {c : Nat} (hc : c < 64) : ∀ j k, k + j = 12 → post (some (.int (nI (on_pc c 12)))) N h → am_A G d m_X9_onesOf 0 0 post 0 0 4 [(2, .int (nI k)), (1, .int (nI (on_pc c k))), (0, .int (nI c))] [] N h := by
  intro j
  induction j with
  | zero =>
    intro k hk hp
    have e : k = 12 := by omega
    subst e
    refine am_iload_n on_d4 rfl (.head _) ?_
    refine am_bipush (v := 12) on_d5 (by decide) ?_
    refine am_icmp_ge (tgt := 24) on_d7 (by decide) (fun _ => ?_) (fun q => absurd (by decide) q)
    refine am_iload_n on_d24 rfl (.tail _ (.head _)) ?_
    exact am_iret (ty := .int) on_d25 rfl rfl (Nat.le_refl _) (Nat.le_refl _) hp
  | succ j ih =>
    intro k hk hp
    refine am_iload_n on_d4 rfl (.head _) ?_
    refine am_bipush (v := 12) on_d5 (by decide) ?_
    refine am_icmp_ge (tgt := 24) on_d7 (by decide) (fun q => absurd q (on_lt k (by omega))) (fun _ => ?_)
    refine am_iload_n on_d10 rfl (.tail _ (.head _)) ?_
    refine am_iload_n on_d11 rfl (.tail _ (.tail _ (.head _))) ?_
    refine am_iload_n on_d12 rfl (.head _) ?_
    refine am_ishr on_d13 ?_
    refine am_iconst (v := 1) on_d14 (by decide) ?_
    refine am_iand on_d15 ?_
    refine am_iadd on_d16 ?_
    rw [on_step c hc k (by omega)]
    refine am_istore_n (lv' := [(1, .int (nI (on_pc c (k + 1)))), (2, .int (nI k)), (0, .int (nI c))]) on_d17 rfl (by decide) rfl ?_
    refine am_iinc (v := nI (k + 1)) (lv' := [(2, .int (nI (k + 1))), (1, .int (nI (on_pc c (k + 1)))), (0, .int (nI c))]) on_d18 (.tail _ (.head _)) (nI_succ k).symm (by decide) rfl ?_
    refine am_goto (tgt := 4) on_d21 (by decide) ?_
    exact ih (k + 1) (by omega) hp
theorem am_C.monoR {y : am_M} {mc ms : Nat} {as : List Value} {post2 : am_T} (hC : am_C G d y mc ms as N h post) (hp : ∀ r N' h', post r N' h' → ∃ r2 : Option Value, r.map (am_cv G) = r2.map (am_cv G) ∧ post2 r2 N' h') : am_C G d y mc ms as N h post2 := by
  intro p e ha hc hk s m args below hf happ hP hK0
  obtain ⟨t, o, a1, b1, b2, ⟨⟨r, N', h', q1, q2, q3⟩, b4⟩⟩ := hC p e ha hc hk s m args below hf happ hP hK0
  obtain ⟨r2, w1, w2⟩ := hp _ _ _ q2
  exact ⟨t, o, a1, b1, b2, ⟨⟨r2, N', h', by rw [q1, w1], w2, q3⟩, b4⟩⟩
theorem on_C {c : Nat} (hc : c < 64) : am_C G d m_X9_onesOf 0 0 [.retAddr c] N h (fun r N' h' => r = some (.retAddr (on_12 c)) ∧ N' = N ∧ h' = h) := by
  have hA : am_A G d m_X9_onesOf 0 0 (fun r N' h' => r = some (.int (nI (on_12 c))) ∧ N' = N ∧ h' = h) 0 0 0 [(0, .int (nI c))] [] N h := by
    refine am_iconst (v := 0) on_d0 (by decide) ?_
    refine am_istore_n (lv' := [(1, .int 0), (0, .int (nI c))]) on_d1 rfl (by decide) rfl ?_
    refine am_iconst (v := 0) on_d2 (by decide) ?_
    refine am_istore_n (lv' := [(2, .int 0), (1, .int 0), (0, .int (nI c))]) on_d3 rfl (by decide) rfl ?_
    exact on_loop hc 12 0 rfl ⟨by rw [on_eq c hc], rfl, rfl⟩
  have hC : am_C G d m_X9_onesOf 0 0 [.retAddr c] N h (fun r N' h' => r = some (.int (nI (on_12 c))) ∧ N' = N ∧ h' = h) := am_ofA (n2 := 1) ((ri_all 180).1) (Nat.le_of_ble_eq_true rfl) hA
  exact hC.monoR (fun r N' h' q => ⟨some (.retAddr (on_12 c)), by rw [q.1]; rfl, rfl, q.2⟩)
end
def ri_on (as : List Value) (L : ri_L) : ri_V := match as with
  | [.retAddr c] => if Nat.blt c 64 then some (some (.retAddr (on_12 c)), L) else none
  | _ => none
/-- the same machine, but what onesOf answers is looked up -/
def ri_D2 (E : ri_Env) (M : Nat → ri_mi) (F : Nat) (d : Nat) : ri_Cl := Nat.rec (motive := fun _ => ri_Cl) (fun _ _ _ => none) (fun _ ih j as L => if Nat.beq j 180 then ri_on as L else if Nat.ble (ri_ls as).length (M j).1.2.2.1 then ri_go E ih (M j).2.2.2 F (M j).2.2.2 (ri_ls as ++ List.replicate ((M j).1.2.2.1 - (ri_ls as).length) .null) [] L else none) d
theorem ri_D2_ok {E : ri_Env} (F : Nat) : ∀ d, ri_Cok E ri_M d (ri_D2 E ri_M F d) := by
  intro d
  induction d with
  | zero => intro j as L r L' h; cases h
  | succ d ih =>
    intro j as L r L' hh
    have h : (if Nat.beq j 180 then ri_on as L else if Nat.ble (ri_ls as).length (ri_M j).1.2.2.1 then ri_go E (ri_D2 E ri_M F d) (ri_M j).2.2.2 F (ri_M j).2.2.2 (ri_ls as ++ List.replicate ((ri_M j).1.2.2.1 - (ri_ls as).length) .null) [] L else none) = some (r, L') := hh
    clear hh
    split at h
    · rename_i hj
      have hj : j = 180 := Nat.eq_of_beq_eq_true hj
      subst hj
      unfold ri_on at h
      split at h
      · rename_i c
        split at h
        · rename_i hc
          have hc : c < 64 := by simpa using hc
          cases h
          refine ⟨Nat.le_refl _, Nat.le_refl _, fun G _ => ?_⟩
          rw [Nat.sub_self, Nat.sub_self]
          exact (on_C hc).mono (fun r N' h' q => ⟨q.1, q.2.1, q.2.2⟩)
        · cases h
      · cases h
    · split at h
      · rename_i hl
        rw [Nat.ble_eq] at hl
        have h0 : ri_go E (ri_D2 E ri_M F d) (ri_M j).2.2.2 F ((ri_M j).2.2.2.drop 0) (ri_ls as ++ List.replicate ((ri_M j).1.2.2.1 - (ri_ls as).length) .null) [] L = some (r, L') := h
        obtain ⟨row, hrow⟩ := ri_go_row h0
        obtain ⟨b1, b2, b3⟩ := ri_go_ok ri_all ih j F 0 _ _ _ _ _ h0
        refine ⟨b1, b2, fun G hE => am_ofA (ri_all j).1 (by rw [← ri_ls_len]; exact hl) (am_lvs (ri_ls_sub as ((ri_M j).1.2.2.1 - (ri_ls as).length)) ?_)⟩
        have h5 := b3 G hE (L'.1 - L.1) (L'.2.1 - L.2.1) (ri_post r L') 0 0 row hrow (by omega) (by omega) ⟨rfl, rfl, rfl⟩
        have h6 := (ri_all j).2.2.2.2.2
        unfold ri_pcs at h6
        rw [List.getElem?_map, hrow] at h6
        have h7 : ri_pc row = 0 := by simpa using h6
        rw [h7] at h5
        exact h5
      · cases h
def p1_chkM (jx jm : Nat) (qs : List (Int × Int)) : Bool := match ri_D2 qs ri_M 100000 20 jx (.ref 0 :: p1_vals 0 qs) p1_lit with
  | some (some v, L3) => (match ri_D2 qs ri_M 100000 20 jm (.ref 106 :: p1_vals 0 qs) L3 with
    | some (some w, L4) => p1_eqL v w && ((match ri_get L3.2.2 106 with
      | some (.inr (c, _)) => Nat.beq c 9
      | _ => false) && (Nat.beq L3.1 122 && (Nat.beq L4.1 122 && (Nat.ble L3.2.1 1000000 && Nat.ble L4.2.1 1000000))))
    | _ => false)
  | _ => false
theorem p1_pairM {jx jm : Nat} {qs : List (Int × Int)} (h : p1_chkM jx jm qs = true) {G : am_G} (hE : am_Env G qs) : ∃ (v w : Value) (L3 L4 : ri_L), p1_eqL v w = true ∧ (∃ fs, ri_get L3.2.2 106 = some (.inr (9, fs))) ∧ L3.1 = 122 ∧ L4.1 = 122 ∧ L3.2.1 ≤ 1000000 ∧ L4.2.1 ≤ 1000000 ∧
    am_C G 20 (ri_M jx).1 0 (L3.2.1 - p1_lit.2.1) (.ref 0 :: p1_vals 0 qs) 122 (ri_h p1_lit) (ri_post (some v) L3) ∧ am_C G 20 (ri_M jm).1 0 (L4.2.1 - L3.2.1) (.ref 106 :: p1_vals 0 qs) 122 (ri_h L3) (ri_post (some w) L4) := by
  unfold p1_chkM at h
  split at h
  · rename_i v L3 h1
    split at h
    · rename_i w L4 h2
      simp only [Bool.and_eq_true, Nat.beq_eq, Nat.ble_eq] at h
      obtain ⟨e0, e9, e1, e2, e3, e4⟩ := h
      have e10 : ∃ fs, ri_get L3.2.2 106 = some (.inr (9, fs)) := by
        split at e9
        · rename_i c fs hc
          rw [Nat.beq_eq] at e9
          subst e9
          exact ⟨fs, hc⟩
        · cases e9
      obtain ⟨-, -, c1⟩ := ri_D2_ok (E := qs) 100000 20 _ _ _ _ _ h1
      obtain ⟨-, -, c2⟩ := ri_D2_ok (E := qs) 100000 20 _ _ _ _ _ h2
      have d1 := c1 G hE
      have d2 := c2 G hE
      have e5 : p1_lit.1 = 122 := rfl
      rw [e1, e5] at d1
      rw [e2, e1] at d2
      exact ⟨v, w, L3, L4, e0, e10, e1, e2, e3, e4, d1, d2⟩
    · cases h
  · cases h
end
