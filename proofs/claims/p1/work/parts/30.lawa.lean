noncomputable section
/-! THE CLAIM OUT OF ONE WALK OF THE LAW'S BODY. Your part is whole_start (and what it stands on); all else here is the same for every law, but numbers. -/
def R_law : String := "SkinTwistsLaw"
def lw_P (b : Addr) (xs : List Int32) (args : Array Value) (s : State) : Prop := args = #[.ref b] ∧ s.IntsAt b xs ∧ xs.length ≤ 5 ∧ (Jvm.Cond.and given_1 narrow_1).before args s = true
def lw_Q (_ : Array Value) (s : State) (o : Outcome) (t : State) : Prop := o = .returned (some (.int 1)) ∧ Framed s o t [] 600000 7302250
def lw_Z (below : List Frame) (a : Array Value) (s : State) : State → Prop := fun t => ∃ o, t.status = .running ∧ Ended t below o ∧ lw_Q a s o t
/-- the law's own end, with 1 on the stack, nothing written that was there before, its room as the claim has it -/
theorem lw_ret {p : Program} {l : Launch} {e : Env} {s : State} {m : MethodId} {below : List Frame} {meth : Method} {c : Code} {b : Nat} (hx : p.tables.exec = Jvm.exec) (hb : c.code = code) (hr : meth.sig.returnType = ret) (hlocks : meth.locks = false) {pc : Nat} {H : Heap} {ls : Array Slot} (hdg : decode code pc = .ok (.ireturn, 1)) : W p l e room_1 s m #[Value.ref b] below meth c H [] 600000 7302250 (lw_Z below #[Value.ref b] s) (F0 m pc ls [.int 1]) := by
  intro T hT X
  obtain ⟨fs, hret, hrun, hended, hW, hframe⟩ := X.leave (v := some (.int 1)) (hlocks := hlocks) (fun h => by rw [hr] at h; cases h)
  have hmeth' : T.vm.method? m = some meth := X.method'
  refine ⟨T.setFrames fs, ?_, .returned (some (.int 1)), hrun, hended, rfl, ⟨_, rfl⟩, hW, hframe⟩
  jvm_step X.here [X.here.top, hx, hb, hdg, hmeth', hr, ret, narrow_b1]
  (try refine ⟨rfl, ?_⟩); (try refine ⟨rfl, ?_⟩)
  first | (intro acts; rw [hret _ acts rfl rfl rfl]) | rw [hret _ _ rfl rfl rfl]
  exact Steps.refl _
/-- what holds at the law's entry: the machine, the code, the tables' words (any of lw_tbl by 'hts w (by decide +kernel)'), the script of L ints xs at the cell b, what the Statement gives of the start (any of its parts by flat_of_before) -/
def lw_At (p : Program) (s : State) (m : MethodId) (meth : Method) (c : Code) (b L : Nat) (xs : Nat → Int32) : Prop :=
  p.tables.exec = Jvm.exec ∧ c.code = code ∧ meth.sig.returnType = ret ∧ c.maxLocals = 4 ∧ s.vm.findClass R_law = some m.cls ∧ (∀ w ∈ lw_tbl, w.before #[Value.ref b] s = true) ∧ va_X b L xs s s.heap ∧ b < s.heap.size ∧ meth.locks = false ∧ (Jvm.Cond.and given_1 narrow_1).before #[Value.ref b] s = true
/-- what the tables say at the law's entry -/
theorem lw_K {p : Program} {s : State} {m : MethodId} {meth : Method} {c : Code} {b L : Nat} {xs : Nat → Int32} (C0 : lw_At p s m meth c b L xs) : ∃ (dC : Nat → ClassId) (dI : Nat → Nat → Nat) (aC : Nat → ClassId) (pl : Nat), ∀ (l : Launch) (ρ : Nat → Int32), am_K (l, s.heap.size, s.heap, dC, dI, aC, pl, ρ) s := by
  obtain ⟨hx, hb, hr, hml, hown, hts, hX, hbl, hlocks, hgv⟩ := C0
  have hts2 := am_hts hts
  obtain ⟨c0, iS0, hK0⟩ := u_known (C := RX0) (T := TX0) (N := 4) (n := 4) hts2 inX0 (hts2 _ (am_inst (ci := 0) rfl).1)
  obtain ⟨c1, iS1, hK1⟩ := u_known (C := RX1) (T := TX1) (N := 1) (n := 1) hts2 inX1 (hts2 _ (am_inst (ci := 1) rfl).1)
  obtain ⟨c2, iS2, hK2⟩ := u_known (C := RX2) (T := TX2) (N := 2) (n := 2) hts2 inX2 (hts2 _ (am_inst (ci := 2) rfl).1)
  obtain ⟨c3, iS3, hK3⟩ := u_known (C := RX3) (T := TX3) (N := 3) (n := 3) hts2 inX3 (hts2 _ (am_inst (ci := 3) rfl).1)
  obtain ⟨c4, iS4, hK4⟩ := u_known (C := RX4) (T := TX4) (N := 2) (n := 2) hts2 inX4 (hts2 _ (am_inst (ci := 4) rfl).1)
  obtain ⟨c5, iS5, hK5⟩ := u_known (C := RX5) (T := TX5) (N := 6) (n := 6) hts2 inX5 (hts2 _ (am_inst (ci := 5) rfl).1)
  obtain ⟨c6, iS6, hK6⟩ := u_known (C := RX6) (T := TX6) (N := 10) (n := 10) hts2 inX6 (hts2 _ (am_inst (ci := 6) rfl).1)
  obtain ⟨c7, iS7, hK7⟩ := u_known (C := RX7) (T := TX7) (N := 5) (n := 5) hts2 inX7 (hts2 _ (am_inst (ci := 7) rfl).1)
  obtain ⟨c8, iS8, hK8⟩ := u_known (C := RX8) (T := TX8) (N := 13) (n := 13) hts2 inX8 (hts2 _ (am_inst (ci := 8) rfl).1)
  obtain ⟨c9, iS9, hK9⟩ := u_known (C := RX9) (T := TX9) (N := 28) (n := 28) hts2 inX9 (hts2 _ (am_inst (ci := 9) rfl).1)
  obtain ⟨aI, kI, cI, f1, f2, f3⟩ := Cond.arrayClass_spec (hts2 _ am_arrI)
  obtain ⟨aL, kL, cL, f4, f5, f6⟩ := Cond.arrayClass_spec (hts2 _ am_arrL)
  have hOR : (Cond.arrayOver (.object RX4)).before #[Value.ref b] s = true := hts _ (by decide +kernel)
  obtain ⟨oR, aR, kR, gR1, gR2, gR3, gR4, gR5⟩ := Cond.arrayOver_spec hOR
  have hOQ : (Cond.arrayOver (.object RX3)).before #[Value.ref b] s = true := hts _ (by decide +kernel)
  obtain ⟨oQ, aQ, kQ, gQ1, gQ2, gQ3, gQ4, gQ5⟩ := Cond.arrayOver_spec hOQ
  have hOP : (Cond.arrayOver (.object RX2)).before #[Value.ref b] s = true := hts _ (by decide +kernel)
  obtain ⟨oP, aP, kP, gP1, gP2, gP3, gP4, gP5⟩ := Cond.arrayOver_spec hOP
  have hs := flat_of_before _ hgv
  have hA : ∀ a : Nat, a < s.heap.size → ¬ (fun q : Nat => s.heap.size ≤ q) a := fun a h => Nat.not_le.mpr h
  obtain ⟨pl, hpl, hT⟩ := va_Tof (tm := .static RX1 "PLACES" "[I") (ty := .int) (N := 13) (f := fun j => .int (am_PL j)) (A := fun q => s.heap.size ≤ q) (by decide) (hs _ (by decide +kernel)) (va_eqt (hs (Cond.eq (.length (.static RX1 "PLACES" "[I")) (.int 13)) (by decide +kernel))) (fun j hj => by
    match j, hj with
    | 0, _ => exact va_eqt (hs (Cond.eq (.elem (.static RX1 "PLACES" "[I") (.int 0)) (.int 9)) (by decide +kernel))
    | 1, _ => exact va_eqt (hs (Cond.eq (.elem (.static RX1 "PLACES" "[I") (.int 1)) (.int 10)) (by decide +kernel))
    | 2, _ => exact va_eqt (hs (Cond.eq (.elem (.static RX1 "PLACES" "[I") (.int 2)) (.int 5)) (by decide +kernel))
    | 3, _ => exact va_eqt (hs (Cond.eq (.elem (.static RX1 "PLACES" "[I") (.int 3)) (.int 6)) (by decide +kernel))
    | 4, _ => exact va_eqt (hs (Cond.eq (.elem (.static RX1 "PLACES" "[I") (.int 4)) (.int 1)) (by decide +kernel))
    | 5, _ => exact va_eqt (hs (Cond.eq (.elem (.static RX1 "PLACES" "[I") (.int 5)) (.int 2)) (by decide +kernel))
    | 6, _ => exact va_eqt (hs (Cond.eq (.elem (.static RX1 "PLACES" "[I") (.int 6)) (.int 0)) (by decide +kernel))
    | 7, _ => exact va_eqt (hs (Cond.eq (.elem (.static RX1 "PLACES" "[I") (.int 7)) (.int 0)) (by decide +kernel))
    | 8, _ => exact va_eqt (hs (Cond.eq (.elem (.static RX1 "PLACES" "[I") (.int 8)) (.int 3)) (by decide +kernel))
    | 9, _ => exact va_eqt (hs (Cond.eq (.elem (.static RX1 "PLACES" "[I") (.int 9)) (.int 4)) (by decide +kernel))
    | 10, _ => exact va_eqt (hs (Cond.eq (.elem (.static RX1 "PLACES" "[I") (.int 10)) (.int 7)) (by decide +kernel))
    | 11, _ => exact va_eqt (hs (Cond.eq (.elem (.static RX1 "PLACES" "[I") (.int 11)) (.int 8)) (by decide +kernel))
    | 12, _ => exact va_eqt (hs (Cond.eq (.elem (.static RX1 "PLACES" "[I") (.int 12)) (.int 11)) (by decide +kernel))
    ) hA
  have hZ := va_Zof (C := RX1) (n := "PLACES") (d := "[I") (A := fun q => s.heap.size ≤ q) (hts _ (by decide +kernel)) (hts _ (by decide +kernel)) hpl hA
  refine ⟨fun k => [c0, c1, c2, c3, c4, c5, c6, c7, c8, c9].getD k c0, fun k => [iS0, iS1, iS2, iS3, iS4, iS5, iS6, iS7, iS8, iS9].getD k iS0, fun k => [aI, aL, aR, aQ, aP].getD k aI, pl, fun l ρ => ⟨⟨fun k q hq => ?_, fun k q hq => ?_⟩, ⟨hZ, hT, ?_, rfl⟩, hOR, hOQ, hOP⟩⟩
  · match k, hq with
    | 0, hq => cases hq; exact hK0
    | 1, hq => cases hq; exact hK1
    | 2, hq => cases hq; exact hK2
    | 3, hq => cases hq; exact hK3
    | 4, hq => cases hq; exact hK4
    | 5, hq => cases hq; exact hK5
    | 6, hq => cases hq; exact hK6
    | 7, hq => cases hq; exact hK7
    | 8, hq => cases hq; exact hK8
    | 9, hq => cases hq; exact hK9
    | k + 10, hq => simp at hq
  · match k, hq with
    | 0, hq => cases hq; exact ⟨fun n z => ⟨fun k h => (by cases h), kI, f2, cI, f3⟩, f1⟩
    | 1, hq => cases hq; exact ⟨fun n z => ⟨fun k h => (by cases h), kL, f5, cL, f6⟩, f4⟩
    | 2, hq => cases hq; exact ⟨fun n z => ⟨fun k h => (by cases h), kR, gR3, oR, gR4⟩, ⟨kR, oR, gR3, gR4, gR1, gR5⟩⟩
    | 3, hq => cases hq; exact ⟨fun n z => ⟨fun k h => (by cases h), kQ, gQ3, oQ, gQ4⟩, ⟨kQ, oQ, gQ3, gQ4, gQ1, gQ5⟩⟩
    | 4, hq => cases hq; exact ⟨fun n z => ⟨fun k h => (by cases h), kP, gP3, oP, gP4⟩, ⟨kP, oP, gP3, gP4, gP1, gP5⟩⟩
    | k + 5, hq => simp [am_tys] at hq
  · obtain ⟨cell, h1, -⟩ := hT
    exact (Array.getElem?_eq_some_iff.mp h1).1
-- boxes cover all ints
theorem fb_rng (x : Int32) : -2147483648 ≤ x.toInt ∧ x.toInt < 2147483648 := by
  have h1 := Int32.le_toInt x
  have h2 := Int32.toInt_lt x
  omega
def p1_cov (x : Int) : List (Int × Int) → Bool
  | [] => decide (x = 2147483648)
  | q :: t => decide (q.1 = x) && p1_cov (q.2 + 1) t
theorem p1_cov_ok : ∀ (t : List (Int × Int)) (x z : Int), p1_cov x t = true → x ≤ z → z < 2147483648 → ∃ q ∈ t, q.1 ≤ z ∧ z ≤ q.2
  | [], x, z, h, h1, h2 => by
    have h : decide (x = 2147483648) = true := h
    rw [decide_eq_true_eq] at h
    omega
  | q :: t, x, z, h, h1, h2 => by
    have h : (decide (q.1 = x) && p1_cov (q.2 + 1) t) = true := h
    rw [Bool.and_eq_true, decide_eq_true_eq] at h
    by_cases hz : z ≤ q.2
    · exact ⟨q, List.mem_cons_self, by omega, hz⟩
    · obtain ⟨r, hr, h3⟩ := p1_cov_ok t (q.2 + 1) z h.2 (by omega) h2
      exact ⟨r, List.mem_cons_of_mem _ hr, h3⟩
def p1_fit (q : Int × Int) (z : Int32) : Prop := q.1 ≤ z.toInt ∧ z.toInt ≤ q.2
theorem p1_cov1 {t : List (Int × Int)} (h : p1_cov (-2147483648) t = true) (z : Int32) : ∃ q ∈ t, p1_fit q z := p1_cov_ok t _ z.toInt h (fb_rng z).1 (fb_rng z).2
def p1_c2 (t : p1_T2) : Bool := p1_cov (-2147483648) (t.map (fun q => q.1)) && t.all (fun q => p1_cov (-2147483648) q.2)
def p1_c3 (t : p1_T3) : Bool := p1_cov (-2147483648) (t.map (fun q => q.1)) && t.all (fun q => p1_c2 q.2)
def p1_c4 (t : p1_T4) : Bool := p1_cov (-2147483648) (t.map (fun q => q.1)) && t.all (fun q => p1_c3 q.2)
theorem p1_u1 {f : List (Int × Int) → Bool} {t : p1_T1} (ha : p1_a1 f t = true) (hc : p1_cov (-2147483648) t = true) (z1 : Int32) : ∃ q1, p1_fit q1 z1 ∧ f [q1] = true := by
  obtain ⟨q, hq, hf⟩ := p1_cov1 hc z1
  exact ⟨q, hf, List.all_eq_true.mp ha q hq⟩
theorem p1_u2 {f : List (Int × Int) → Bool} {t : p1_T2} (ha : p1_a2 f t = true) (hc : p1_c2 t = true) (z1 z2 : Int32) : ∃ q1 q2, p1_fit q1 z1 ∧ p1_fit q2 z2 ∧ f [q1, q2] = true := by
  unfold p1_c2 at hc
  rw [Bool.and_eq_true] at hc
  obtain ⟨q, hq, hf⟩ := p1_cov1 hc.1 z1
  obtain ⟨r, hr, rfl⟩ := List.mem_map.mp hq
  obtain ⟨q2, hf2, hh⟩ := p1_u1 (List.all_eq_true.mp ha r hr) (List.all_eq_true.mp hc.2 r hr) z2
  exact ⟨r.1, q2, hf, hf2, hh⟩
theorem p1_u3 {f : List (Int × Int) → Bool} {t : p1_T3} (ha : p1_a3 f t = true) (hc : p1_c3 t = true) (z1 z2 z3 : Int32) : ∃ q1 q2 q3, p1_fit q1 z1 ∧ p1_fit q2 z2 ∧ p1_fit q3 z3 ∧ f [q1, q2, q3] = true := by
  unfold p1_c3 at hc
  rw [Bool.and_eq_true] at hc
  obtain ⟨q, hq, hf⟩ := p1_cov1 hc.1 z1
  obtain ⟨r, hr, rfl⟩ := List.mem_map.mp hq
  obtain ⟨q2, q3, hf2, hf3, hh⟩ := p1_u2 (List.all_eq_true.mp ha r hr) (List.all_eq_true.mp hc.2 r hr) z2 z3
  exact ⟨r.1, q2, q3, hf, hf2, hf3, hh⟩
theorem p1_u4 {f : List (Int × Int) → Bool} {t : p1_T4} (ha : p1_a4 f t = true) (hc : p1_c4 t = true) (z1 z2 z3 z4 : Int32) : ∃ q1 q2 q3 q4, p1_fit q1 z1 ∧ p1_fit q2 z2 ∧ p1_fit q3 z3 ∧ p1_fit q4 z4 ∧ f [q1, q2, q3, q4] = true := by
  unfold p1_c4 at hc
  rw [Bool.and_eq_true] at hc
  obtain ⟨q, hq, hf⟩ := p1_cov1 hc.1 z1
  obtain ⟨r, hr, rfl⟩ := List.mem_map.mp hq
  obtain ⟨q2, q3, q4, hf2, hf3, hf4, hh⟩ := p1_u3 (List.all_eq_true.mp ha r hr) (List.all_eq_true.mp hc.2 r hr) z2 z3 z4
  exact ⟨r.1, q2, q3, q4, hf, hf2, hf3, hf4, hh⟩
theorem p1_join {f : List (Int × Int) → Bool} {t : p1_T2} (h : ∀ i, i < t.length → p1_a2 f ((t.drop i).take 1) = true) : p1_a2 f t = true := by
  refine List.all_eq_true.mpr fun q hq => ?_
  obtain ⟨i, hi⟩ := List.getElem?_of_mem hq
  have hl := (List.getElem?_eq_some_iff.mp hi).1
  refine List.all_eq_true.mp (h i hl) q ?_
  rw [List.drop_eq_getElem_cons hl]
  have e := (List.getElem?_eq_some_iff.mp hi).2
  simp [e]
theorem p1_val_cv {G : am_G} {i : Nat} {q : Int × Int} (hi : i ≤ 900) (h : p1_fit q (am_rho G i)) : am_cv G (p1_val i q) = .int (am_rho G i) := by
  unfold p1_val
  split
  · rename_i e
    have h2 : (am_rho G i).toInt = q.1 := by
      have := h.1
      have := h.2
      omega
    show Value.int (nI _) = _
    have hr := fb_rng (am_rho G i)
    congr 1
    rw [← Int32.toInt_inj, nI_toIntb, h2]
    unfold ri_sg
    split <;> omega
  · have e : (UInt32.ofNat i).toNat = i := by
      rw [UInt32.toNat_ofNat']
      omega
    rw [am_cvf G (by rw [e, Nat.ble_eq]; omega), e]
theorem p1_env {G : am_G} {qs : List (Int × Int)} (h : ∀ j q, qs[j]? = some q → p1_fit q (am_rho G j)) : am_Env G qs := fun b lo hi hb => h b (lo, hi) hb
/-- the two calls of a case of the law -/
theorem p1_pair {eq : Value → Value → Bool} {jx jm : Nat} {qs : List (Int × Int)} (h : p1_chkE eq jx jm qs = true) {G : am_G} (hE : am_Env G qs) : ∃ (v w : Value) (L3 L4 : ri_L), eq v w = true ∧ (∃ fs, ri_get L3.2.2 106 = some (.inr (9, fs))) ∧ L3.1 = 122 ∧ L4.1 = 122 ∧ L3.2.1 ≤ 1000000 ∧ L4.2.1 ≤ 1000000 ∧
    am_C G 20 (ri_M jx).1 0 (L3.2.1 - p1_lit.2.1) (.ref 0 :: p1_vals 0 qs) 122 (ri_h p1_lit) (ri_post (some v) L3) ∧ am_C G 20 (ri_M jm).1 0 (L4.2.1 - L3.2.1) (.ref 106 :: p1_vals 0 qs) 122 (ri_h L3) (ri_post (some w) L4) := by
  unfold p1_chkE at h
  split at h
  · rename_i v L3 h1
    split at h
    · rename_i w L4 h2
      simp only [Bool.and_eq_true, Nat.beq_eq, Nat.ble_eq] at h
      obtain ⟨e0, e9, e1, e2, e3, e4⟩ := h
      have e10 : ∃ fs, ri_get L3.2.2 106 = some (.inr (9, fs)) := by
        split at e9
        · rename_i c fs hc
          rw [Nat.beq_eq] at e9
          subst e9
          exact ⟨fs, hc⟩
        · cases e9
      obtain ⟨-, -, c1⟩ := ri_D_ok (E := qs) ri_all 100000 20 _ _ _ _ _ h1
      obtain ⟨-, -, c2⟩ := ri_D_ok (E := qs) ri_all 100000 20 _ _ _ _ _ h2
      have d1 := c1 G hE
      have d2 := c2 G hE
      have e5 : p1_lit.1 = 122 := rfl
      rw [e1, e5] at d1
      rw [e2, e1] at d2
      exact ⟨v, w, L3, L4, e0, e10, e1, e2, e3, e4, d1, d2⟩
    · cases h
  · cases h
end
