/-! ===== plain facts of the runnable machine ===== -/
theorem ri_frc_eq {α : Type} : ∀ (L : ri_L) (k : ri_L → α), ri_frc L k = k L
  | [], _ => rfl
  | x :: t, k => by unfold ri_frc; rw [ri_frc_eq t]
theorem ri_set_eq {α : Type} : ∀ (L : ri_L) (i : Nat) (e : ri_E) (k : ri_L → α), ri_set L i e k = k (L.set i e)
  | [], _, _, _ => rfl
  | x :: t, 0, e, k => by unfold ri_set; rw [ri_frc_eq t]; rfl
  | x :: t, i + 1, e, k => by unfold ri_set; rw [ri_set_eq t i e]; rfl
theorem ri_h_at {L : ri_L} {a : Nat} {e : ri_E} (h : L[a]? = some e) : ri_h L a = ri_e e := by simp [ri_h, h]
theorem ri_lt {L : ri_L} {a : Nat} {e : ri_E} (h : L[a]? = some e) : a < L.length := (List.getElem?_eq_some_iff.mp h).1
theorem ri_h_set {L : ri_L} {a : Nat} (e : ri_E) (h : a < L.length) : ri_h (L.set a e) = va_up (ri_h L) a (ri_e e) := by
  funext j
  by_cases hj : j = a
  · subst hj
    simp [ri_h, va_up, h]
  · simp [ri_h, va_up, hj, List.getElem?_set_ne (Ne.symm hj)]
theorem ri_h_app (L : ri_L) (e : ri_E) : ri_h (L ++ [e]) = va_up (ri_h L) L.length (ri_e e) := by
  funext j
  by_cases hj : j = L.length
  · subst hj
    simp [ri_h, va_up]
  · simp only [ri_h, va_up, hj, if_false]
    by_cases h2 : j < L.length
    · rw [List.getElem?_append_left h2]
    · rw [List.getElem?_eq_none (by simp; omega), List.getElem?_eq_none (by omega)]
theorem ri_sz_set {L : ri_L} {a : Nat} {e0 e : ri_E} (h : L[a]? = some e0) (hs : ri_sz1 e = ri_sz1 e0) : ri_sz (L.set a e) = ri_sz L := by
  unfold ri_sz
  congr 1
  rw [List.map_set]
  apply List.ext_getElem?
  intro j
  by_cases hj : j = a
  · subst hj
    have hl := ri_lt h
    rw [List.getElem?_set_self (by simpa using hl), List.getElem?_map, h, hs]
    rfl
  · rw [List.getElem?_set_ne (Ne.symm hj)]
theorem ri_sz_app (L : ri_L) (e : ri_E) : ri_sz (L ++ [e]) = ri_sz L + ri_sz1 e := by simp [ri_sz]
theorem ri_upd_i (l : List Int32) {i : Nat} (x : Int32) (h : i < l.length) : (fun j => (l.set i x).getD j 0) = upd (fun j => l.getD j 0) i x := by
  funext j
  by_cases hj : j = i
  · subst hj
    simp [upd, List.getD, h]
  · simp [upd, List.getD, hj, List.getElem?_set_ne (Ne.symm hj)]
theorem ri_upd_l (l : List Int64) {i : Nat} (x : Int64) (h : i < l.length) : (fun j => (l.set i x).getD j 0) = vp_updL (fun j => l.getD j 0) i x := by
  funext j
  by_cases hj : j = i
  · subst hj
    simp [vp_updL, List.getD, h]
  · simp [vp_updL, List.getD, hj, List.getElem?_set_ne (Ne.symm hj)]
theorem ri_upd_q (l : List (Option Nat)) {i : Nat} (x : Option Nat) (h : i < l.length) : (fun j => (l.set i x).getD j none) = va_up (fun j => l.getD j none) i x := by
  funext j
  by_cases hj : j = i
  · subst hj
    simp [va_up, List.getD, h]
  · simp [va_up, List.getD, hj, List.getElem?_set_ne (Ne.symm hj)]
def ri_cpy (l1 l2 : List Int32) (sp dp n : Nat) : List Int32 := l2.take dp ++ ((l1.drop sp).take n ++ l2.drop (dp + n))
theorem ri_cpy_len {l1 l2 : List Int32} {sp dp n : Nat} (h1 : sp + n ≤ l1.length) (h2 : dp + n ≤ l2.length) : (ri_cpy l1 l2 sp dp n).length = l2.length := by
  simp [ri_cpy]; omega
theorem ri_cpy_eq {l1 l2 : List Int32} {sp dp n : Nat} (h1 : sp + n ≤ l1.length) (h2 : dp + n ≤ l2.length) : (fun j => (ri_cpy l1 l2 sp dp n).getD j 0) = va_cpy (fun j => l1.getD j 0) (fun j => l2.getD j 0) sp dp n := by
  funext j
  simp only [va_cpy, ri_cpy, List.getD]
  have e1 : (l2.take dp).length = dp := by simp; omega
  have e2 : ((l1.drop sp).take n).length = n := by simp; omega
  by_cases c1 : j < dp
  · rw [List.getElem?_append_left (by omega), if_neg (by omega), List.getElem?_take_of_lt c1]
  · rw [List.getElem?_append_right (by omega), e1]
    by_cases c2 : j < dp + n
    · rw [List.getElem?_append_left (by omega), if_pos ⟨by omega, c2⟩, List.getElem?_take_of_lt (by omega), List.getElem?_drop]
    · rw [List.getElem?_append_right (by omega), e2, if_neg (by omega), List.getElem?_drop]
      congr 2
      omega
theorem ri_in {i : Int32} {n : Nat} (h0 : ¬ i < 0) (h : i.toNatClampNeg < n) : vp_in i n := fun q => q.elim h0 (fun q => absurd h (Nat.not_lt.mpr q))
def ri_lw (pl : Nat) (w : Cond) : Bool := decide (lw_tbl[pl]? = some w) && goodWord w
theorem ri_lw_in {pl : Nat} {w : Cond} (h : ri_lw pl w = true) : w ∈ am_tbl := by
  unfold ri_lw at h
  rw [Bool.and_eq_true, decide_eq_true_eq] at h
  exact am_mem pl h.1 h.2
/-- what the tables must say of a row of a method's list -/
def ri_rok1 (y : am_M) (pcs : List Nat) (r : ri_row) : Bool := match r.2.1 with
  | .istore_n i => decide ((i : Nat) < y.2.2.1)
  | .istore i => decide (i < y.2.2.1)
  | .lstore_n i => decide ((i : Nat) + 1 < y.2.2.1)
  | .lstore i => decide (i + 1 < y.2.2.1)
  | .astore_n i => decide ((i : Nat) < y.2.2.1)
  | .astore i => decide (i < y.2.2.1)
  | .iinc i _ => decide (i < y.2.2.1)
  | .if_icmp _ off => decide ((pcs[r.2.2.2.1]?).map Int.ofNat = some ((r.1 : Int) + off))
  | .ifCond _ off => decide ((pcs[r.2.2.2.1]?).map Int.ofNat = some ((r.1 : Int) + off))
  | .goto off => decide ((pcs[r.2.2.2.1]?).map Int.ofNat = some ((r.1 : Int) + off))
  | .getfield idx => match am_cl[r.2.2.2.1]? with
    | some q => decide (r.2.2.2.2.1 < q.2.2) && ri_lw r.2.2.2.2.2.1 (.fieldLink y.1.cls idx (q.2.1 r.2.2.2.2.1).1 (q.2.1 r.2.2.2.2.1).2.1 (q.2.1 r.2.2.2.2.1).2.2.1)
    | none => false
  | .putfield idx => match am_cl[r.2.2.2.1]? with
    | some q => decide (r.2.2.2.2.1 < q.2.2) && ri_lw r.2.2.2.2.2.1 (.fieldLink y.1.cls idx (q.2.1 r.2.2.2.2.1).1 (q.2.1 r.2.2.2.2.1).2.1 (q.2.1 r.2.2.2.2.1).2.2.1) && (!(q.2.1 r.2.2.2.2.1).2.2.2 || (decide (y.1.name = "<init>") && decide ((q.2.1 r.2.2.2.2.1).1 = y.1.cls))) &&
      (match parseFieldDescriptor (q.2.1 r.2.2.2.2.1).2.2.1 with
        | some .int => r.2.2.2.2.2.2.1 == 0
        | some .boolean => r.2.2.2.2.2.2.1 == 1
        | some (.array _) => r.2.2.2.2.2.2.1 == 2
        | some (.object _) => r.2.2.2.2.2.2.1 == 2
        | _ => false)
    | none => false
  | .new idx => match am_cl[r.2.2.2.1]? with
    | some q => ri_lw r.2.2.2.2.2.1 (.classLink y.1.cls idx q.1)
    | none => false
  | .anewarray idx => match r.2.2.2.1 with
    | 2 => ri_lw r.2.2.2.2.2.1 (.classLink y.1.cls idx RX4)
    | 3 => ri_lw r.2.2.2.2.2.1 (.classLink y.1.cls idx RX3)
    | 4 => ri_lw r.2.2.2.2.2.1 (.classLink y.1.cls idx RX2)
    | _ => false
  | .getstatic idx => ri_lw r.2.2.2.2.2.1 (.fieldLink y.1.cls idx RX1 "PLACES" "[I")
  | .ldc_w idx => ri_lw r.2.2.2.2.2.1 (.constant y.1.cls idx (Int32.ofInt r.2.2.2.2.2.2.1))
  | .ldc2_w idx => ri_lw r.2.2.2.2.2.1 (.constantLong y.1.cls idx (Int64.ofInt r.2.2.2.2.2.2.1))
  | .tableswitch dflt _ _ offs => decide ((pcs[r.2.2.2.1]?).map Int.ofNat = some ((r.1 : Int) + dflt)) && decide (r.2.2.2.2.2.2.2.map (fun t => (pcs[t]?).map Int.ofNat) = offs.toList.map (fun off => some ((r.1 : Int) + off)))
  | .ireturn => match y.2.2.2 with
    | some .int => r.2.2.2.2.1 == 0
    | some .boolean => r.2.2.2.2.1 == 1
    | _ => false
  | .lreturn => decide (y.2.2.2 = some .long)
  | .return_ => decide (y.2.2.2 = none)
  | _ => true
def ri_end (i : Instr) : Bool := match i with
  | .ireturn => true
  | .lreturn => true
  | .return_ => true
  | .goto _ => true
  | .tableswitch .. => true
  | .lookupswitch .. => true
  | _ => false
def ri_sw (i : Instr) : Bool := match i with
  | .tableswitch .. => true
  | .lookupswitch .. => true
  | _ => false
def ri_ln (i : Instr) : Nat := match i with
  | .bipush _ => 2
  | .sipush _ => 3
  | .ldc_w _ => 3
  | .ldc2_w _ => 3
  | .iload _ => 2
  | .lload _ => 2
  | .aload _ => 2
  | .istore _ => 2
  | .lstore _ => 2
  | .astore _ => 2
  | .iinc .. => 3
  | .if_icmp .. => 3
  | .ifCond .. => 3
  | .goto _ => 3
  | .getfield _ => 3
  | .putfield _ => 3
  | .getstatic _ => 3
  | .new _ => 3
  | .newarray _ => 2
  | .anewarray _ => 3
  | .invokevirtual _ => 3
  | .invokestatic _ => 3
  | .invokespecial _ => 3
  | _ => 1
def ri_rok (y : am_M) (pcs : List Nat) (i : Nat) (r : ri_row) : Bool :=
  decide (decode y.2.1 r.1 = .ok (r.2.1, r.2.2.1)) && (decide (pcs[i]? = some r.1) && ((ri_end r.2.1 || decide (pcs[i + 1]? = some (r.1 + r.2.2.1))) && ((ri_sw r.2.1 || r.2.2.1 == ri_ln r.2.1) && ri_rok1 y pcs r)))
