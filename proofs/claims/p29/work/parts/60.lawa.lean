noncomputable section
/-! THE CLAIM OUT OF ONE WALK OF THE LAW'S BODY. Your part is whole_start (and what it stands on); all else here is the same for every law, but numbers. -/
def R_law : String := "SkinTwistsLaw"
def lw_P (b : Addr) (xs : List Int32) (args : Array Value) (s : State) : Prop := args = #[.ref b] ∧ s.IntsAt b xs ∧ xs.length ≤ 2560 ∧ (Jvm.Cond.and given_1 narrow_1).before args s = true
def lw_Q (_ : Array Value) (s : State) (o : Outcome) (t : State) : Prop := o = .returned (some (.int 1)) ∧ Framed s o t [] 600000 7302249
def lw_Z (below : List Frame) (a : Array Value) (s : State) : State → Prop := fun t => ∃ o, t.status = .running ∧ Ended t below o ∧ lw_Q a s o t
/-- the law's own end, with 1 on the stack, nothing written that was there before, its room as the claim has it -/
theorem lw_ret {p : Program} {l : Launch} {e : Env} {s : State} {m : MethodId} {below : List Frame} {meth : Method} {c : Code} {b : Nat} (hx : p.tables.exec = Jvm.exec) (hb : c.code = code) (hr : meth.sig.returnType = ret) (hlocks : meth.locks = false) {pc : Nat} {H : Heap} {ls : Array Slot} (hdg : decode code pc = .ok (.ireturn, 1)) : W p l e room_1 s m #[Value.ref b] below meth c H [] 600000 7302249 (lw_Z below #[Value.ref b] s) (F0 m pc ls [.int 1]) := by
  intro T hT X
  obtain ⟨fs, hret, hrun, hended, hW, hframe⟩ := X.leave (v := some (.int 1)) (hlocks := hlocks) (fun h => by rw [hr] at h; cases h)
  have hmeth' : T.vm.method? m = some meth := X.method'
  refine ⟨T.setFrames fs, ?_, .returned (some (.int 1)), hrun, hended, rfl, ⟨_, rfl⟩, hW, hframe⟩
  jvm_step X.here [X.here.top, hx, hb, hdg, hmeth', hr, ret, narrow_b1]
  (try refine ⟨rfl, ?_⟩); (try refine ⟨rfl, ?_⟩)
  first | (intro acts; rw [hret _ acts rfl rfl rfl]) | rw [hret _ _ rfl rfl rfl]
  exact Steps.refl _
/-- what holds at the law's entry: the machine, the code, the tables' words (any of lw_tbl by 'hts w (by decide +kernel)'), the script of L ints xs at the cell b, what the Statement gives of the start (any of its parts by flat_of_before) -/
def lw_At (p : Program) (s : State) (m : MethodId) (meth : Method) (c : Code) (b L : Nat) (xs : Nat → Int32) : Prop :=
  p.tables.exec = Jvm.exec ∧ c.code = code ∧ meth.sig.returnType = ret ∧ c.maxLocals = 4 ∧ s.vm.findClass R_law = some m.cls ∧ (∀ w ∈ lw_tbl, w.before #[Value.ref b] s = true) ∧ va_X b L xs s s.heap ∧ b < s.heap.size ∧ meth.locks = false ∧ (Jvm.Cond.and given_1 narrow_1).before #[Value.ref b] s = true
/-- what the tables say at the law's entry -/
theorem lw_K {p : Program} {s : State} {m : MethodId} {meth : Method} {c : Code} {b L : Nat} {xs : Nat → Int32} (C0 : lw_At p s m meth c b L xs) : ∃ (dC : Nat → ClassId) (dI : Nat → Nat → Nat) (aC : Nat → ClassId) (pl : Nat), ∀ (l : Launch) (ρ : Nat → Int32), am_K (l, s.heap.size, s.heap, dC, dI, aC, pl, ρ) s := by
  obtain ⟨hx, hb, hr, hml, hown, hts, hX, hbl, hlocks, hgv⟩ := C0
  have hts2 := am_hts hts
  obtain ⟨c0, iS0, hK0⟩ := u_known (C := RX0) (T := TX0) (N := 4) (n := 4) hts2 inX0 (hts2 _ (am_inst (ci := 0) rfl).1)
  obtain ⟨c1, iS1, hK1⟩ := u_known (C := RX1) (T := TX1) (N := 1) (n := 1) hts2 inX1 (hts2 _ (am_inst (ci := 1) rfl).1)
  obtain ⟨c2, iS2, hK2⟩ := u_known (C := RX2) (T := TX2) (N := 2) (n := 2) hts2 inX2 (hts2 _ (am_inst (ci := 2) rfl).1)
  obtain ⟨c3, iS3, hK3⟩ := u_known (C := RX3) (T := TX3) (N := 3) (n := 3) hts2 inX3 (hts2 _ (am_inst (ci := 3) rfl).1)
  obtain ⟨c4, iS4, hK4⟩ := u_known (C := RX4) (T := TX4) (N := 2) (n := 2) hts2 inX4 (hts2 _ (am_inst (ci := 4) rfl).1)
  obtain ⟨c5, iS5, hK5⟩ := u_known (C := RX5) (T := TX5) (N := 6) (n := 6) hts2 inX5 (hts2 _ (am_inst (ci := 5) rfl).1)
  obtain ⟨c6, iS6, hK6⟩ := u_known (C := RX6) (T := TX6) (N := 10) (n := 10) hts2 inX6 (hts2 _ (am_inst (ci := 6) rfl).1)
  obtain ⟨c7, iS7, hK7⟩ := u_known (C := RX7) (T := TX7) (N := 5) (n := 5) hts2 inX7 (hts2 _ (am_inst (ci := 7) rfl).1)
  obtain ⟨c8, iS8, hK8⟩ := u_known (C := RX8) (T := TX8) (N := 13) (n := 13) hts2 inX8 (hts2 _ (am_inst (ci := 8) rfl).1)
  obtain ⟨c9, iS9, hK9⟩ := u_known (C := RX9) (T := TX9) (N := 28) (n := 28) hts2 inX9 (hts2 _ (am_inst (ci := 9) rfl).1)
  obtain ⟨aI, kI, cI, f1, f2, f3⟩ := Cond.arrayClass_spec (hts2 _ am_arrI)
  obtain ⟨aL, kL, cL, f4, f5, f6⟩ := Cond.arrayClass_spec (hts2 _ am_arrL)
  have hOR : (Cond.arrayOver (.object RX4)).before #[Value.ref b] s = true := hts _ (by decide +kernel)
  obtain ⟨oR, aR, kR, gR1, gR2, gR3, gR4, gR5⟩ := Cond.arrayOver_spec hOR
  have hOQ : (Cond.arrayOver (.object RX3)).before #[Value.ref b] s = true := hts _ (by decide +kernel)
  obtain ⟨oQ, aQ, kQ, gQ1, gQ2, gQ3, gQ4, gQ5⟩ := Cond.arrayOver_spec hOQ
  have hOP : (Cond.arrayOver (.object RX2)).before #[Value.ref b] s = true := hts _ (by decide +kernel)
  obtain ⟨oP, aP, kP, gP1, gP2, gP3, gP4, gP5⟩ := Cond.arrayOver_spec hOP
  have hs := flat_of_before _ hgv
  have hA : ∀ a : Nat, a < s.heap.size → ¬ (fun q : Nat => s.heap.size ≤ q) a := fun a h => Nat.not_le.mpr h
  obtain ⟨pl, hpl, hT⟩ := va_Tof (tm := .static RX1 "PLACES" "[I") (ty := .int) (N := 13) (f := fun j => .int (am_PL j)) (A := fun q => s.heap.size ≤ q) (by decide) (hs _ (by decide +kernel)) (va_eqt (hs (Cond.eq (.length (.static RX1 "PLACES" "[I")) (.int 13)) (by decide +kernel))) (fun j hj => by
    match j, hj with
    | 0, _ => exact va_eqt (hs (Cond.eq (.elem (.static RX1 "PLACES" "[I") (.int 0)) (.int 9)) (by decide +kernel))
    | 1, _ => exact va_eqt (hs (Cond.eq (.elem (.static RX1 "PLACES" "[I") (.int 1)) (.int 10)) (by decide +kernel))
    | 2, _ => exact va_eqt (hs (Cond.eq (.elem (.static RX1 "PLACES" "[I") (.int 2)) (.int 5)) (by decide +kernel))
    | 3, _ => exact va_eqt (hs (Cond.eq (.elem (.static RX1 "PLACES" "[I") (.int 3)) (.int 6)) (by decide +kernel))
    | 4, _ => exact va_eqt (hs (Cond.eq (.elem (.static RX1 "PLACES" "[I") (.int 4)) (.int 1)) (by decide +kernel))
    | 5, _ => exact va_eqt (hs (Cond.eq (.elem (.static RX1 "PLACES" "[I") (.int 5)) (.int 2)) (by decide +kernel))
    | 6, _ => exact va_eqt (hs (Cond.eq (.elem (.static RX1 "PLACES" "[I") (.int 6)) (.int 0)) (by decide +kernel))
    | 7, _ => exact va_eqt (hs (Cond.eq (.elem (.static RX1 "PLACES" "[I") (.int 7)) (.int 0)) (by decide +kernel))
    | 8, _ => exact va_eqt (hs (Cond.eq (.elem (.static RX1 "PLACES" "[I") (.int 8)) (.int 3)) (by decide +kernel))
    | 9, _ => exact va_eqt (hs (Cond.eq (.elem (.static RX1 "PLACES" "[I") (.int 9)) (.int 4)) (by decide +kernel))
    | 10, _ => exact va_eqt (hs (Cond.eq (.elem (.static RX1 "PLACES" "[I") (.int 10)) (.int 7)) (by decide +kernel))
    | 11, _ => exact va_eqt (hs (Cond.eq (.elem (.static RX1 "PLACES" "[I") (.int 11)) (.int 8)) (by decide +kernel))
    | 12, _ => exact va_eqt (hs (Cond.eq (.elem (.static RX1 "PLACES" "[I") (.int 12)) (.int 11)) (by decide +kernel))
    ) hA
  have hZ := va_Zof (C := RX1) (n := "PLACES") (d := "[I") (A := fun q => s.heap.size ≤ q) (hts _ (by decide +kernel)) (hts _ (by decide +kernel)) hpl hA
  refine ⟨fun k => [c0, c1, c2, c3, c4, c5, c6, c7, c8, c9].getD k c0, fun k => [iS0, iS1, iS2, iS3, iS4, iS5, iS6, iS7, iS8, iS9].getD k iS0, fun k => [aI, aL, aR, aQ, aP].getD k aI, pl, fun l ρ => ⟨⟨fun k q hq => ?_, fun k q hq => ?_⟩, ⟨hZ, hT, ?_, rfl⟩, hOR, hOQ, hOP⟩⟩
  · match k, hq with
    | 0, hq => cases hq; exact hK0
    | 1, hq => cases hq; exact hK1
    | 2, hq => cases hq; exact hK2
    | 3, hq => cases hq; exact hK3
    | 4, hq => cases hq; exact hK4
    | 5, hq => cases hq; exact hK5
    | 6, hq => cases hq; exact hK6
    | 7, hq => cases hq; exact hK7
    | 8, hq => cases hq; exact hK8
    | 9, hq => cases hq; exact hK9
    | k + 10, hq => simp at hq
  · match k, hq with
    | 0, hq => cases hq; exact ⟨fun n z => ⟨fun k h => (by cases h), kI, f2, cI, f3⟩, f1⟩
    | 1, hq => cases hq; exact ⟨fun n z => ⟨fun k h => (by cases h), kL, f5, cL, f6⟩, f4⟩
    | 2, hq => cases hq; exact ⟨fun n z => ⟨fun k h => (by cases h), kR, gR3, oR, gR4⟩, ⟨kR, oR, gR3, gR4, gR1, gR5⟩⟩
    | 3, hq => cases hq; exact ⟨fun n z => ⟨fun k h => (by cases h), kQ, gQ3, oQ, gQ4⟩, ⟨kQ, oQ, gQ3, gQ4, gQ1, gQ5⟩⟩
    | 4, hq => cases hq; exact ⟨fun n z => ⟨fun k h => (by cases h), kP, gP3, oP, gP4⟩, ⟨kP, oP, gP3, gP4, gP1, gP5⟩⟩
    | k + 5, hq => simp [am_tys] at hq
  · obtain ⟨cell, h1, -⟩ := hT
    exact (Array.getElem?_eq_some_iff.mp h1).1
-- boxes cover all ints
end
