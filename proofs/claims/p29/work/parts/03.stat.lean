noncomputable section
/-! ===== the tables' words, what a method's list must be ===== -/
/-- the words of the tables that hold on for ever -/
def am_tbl : List Cond := lw_tbl.filter goodWord
abbrev am_M : Type := MethodName × ByteArray × Nat × Option FieldType
abbrev am_cl : List vw_C := [(RX0, TX0, 4), (RX1, TX1, 1), (RX2, TX2, 2), (RX3, TX3, 3), (RX4, TX4, 2), (RX5, TX5, 6), (RX6, TX6, 10), (RX7, TX7, 5), (RX8, TX8, 13), (RX9, TX9, 28)]
theorem am_good : GoodIn am_tbl am_tbl := fun w hw => ⟨hw, good_of_word (List.mem_filter.mp hw).2⟩
theorem am_mem {w : Cond} (i : Nat) (h : lw_tbl[i]? = some w) (g : goodWord w = true) : w ∈ am_tbl := List.mem_filter.mpr ⟨List.mem_of_getElem? h, g⟩
def am_okM (y : am_M) (n : Nat) : Prop := plainName y.1.cls = true ∧ Cond.code y.1 y.2.1 y.2.2.1 y.2.2.2 ∈ am_tbl ∧ Cond.initialized y.1.cls ∈ am_tbl ∧ (y.1.cls ≠ "java/lang/invoke/MethodHandle" ∧ y.1.cls ≠ "java/lang/invoke/VarHandle" ∧ (parseMethodDescriptor y.1.desc).map (fun d => d.parameters.length) = some n) ∧ y.2.2.1 ≤ 60
/-- operation, three numbers, row numbers of targets; pc, instruction, length, a place in the tables -/
abbrev ri_row : Type := Nat × Nat × Nat × Nat × List Nat × Nat × Instr × Nat × Nat
abbrev ri_pc (r : ri_row) : Nat := r.2.2.2.2.2.1
abbrev ri_ins (r : ri_row) : Instr := r.2.2.2.2.2.2.1
abbrev ri_len (r : ri_row) : Nat := r.2.2.2.2.2.2.2.1
abbrev ri_pl (r : ri_row) : Nat := r.2.2.2.2.2.2.2.2
def ri_lw (pl : Nat) (w : Cond) : Bool := decide (lw_tbl[pl]? = some w) && goodWord w
theorem ri_lw_in {pl : Nat} {w : Cond} (h : ri_lw pl w = true) : w ∈ am_tbl := by
  unfold ri_lw at h
  rw [Bool.and_eq_true, decide_eq_true_eq] at h
  exact am_mem pl h.1 h.2
/-- what the tables must say of a row of a method's list -/
def ri_rok1 (y : am_M) (pcs : List Nat) (a b n : Nat) (ts : List Nat) (pc : Nat) (ins : Instr) (pl : Nat) : Bool := match ins with
  | .iconst z => decide (Int32.ofInt z = nI n)
  | .bipush z => decide ((Int8.ofInt z).toInt32 = nI n)
  | .sipush z => decide ((Int16.ofInt z).toInt32 = nI n)
  | .ldc_w idx => ri_lw pl (.constant y.1.cls idx (nI n))
  | .lconst z => decide (Int64.ofNat (z : Nat) = Int64.ofNat n)
  | .ldc2_w idx => ri_lw pl (.constantLong y.1.cls idx (Int64.ofNat n))
  | .iload_n i => decide ((i : Nat) = a)
  | .iload i => decide (i = a)
  | .lload_n i => decide ((i : Nat) = a)
  | .lload i => decide (i = a)
  | .aload_n i => decide ((i : Nat) = a)
  | .aload i => decide (i = a)
  | .istore_n i => decide ((i : Nat) = a ∧ a < y.2.2.1)
  | .istore i => decide (i = a ∧ a < y.2.2.1)
  | .lstore_n i => decide ((i : Nat) = a ∧ a + 1 < y.2.2.1)
  | .lstore i => decide (i = a ∧ a + 1 < y.2.2.1)
  | .astore_n i => decide ((i : Nat) = a ∧ a < y.2.2.1)
  | .astore i => decide (i = a ∧ a < y.2.2.1)
  | .iinc i z => decide (i = a ∧ a < y.2.2.1 ∧ Int32.ofInt z = nI n)
  | .if_icmp _ off => decide ((pcs[a]?).map Int.ofNat = some ((pc : Int) + off))
  | .ifCond _ off => decide ((pcs[a]?).map Int.ofNat = some ((pc : Int) + off))
  | .goto off => decide ((pcs[a]?).map Int.ofNat = some ((pc : Int) + off))
  | .getfield idx => match am_cl[a]? with
    | some q => decide (b < q.2.2) && ri_lw pl (.fieldLink y.1.cls idx (q.2.1 b).1 (q.2.1 b).2.1 (q.2.1 b).2.2.1)
    | none => false
  | .putfield idx => match am_cl[a]? with
    | some q => decide (b < q.2.2) && ri_lw pl (.fieldLink y.1.cls idx (q.2.1 b).1 (q.2.1 b).2.1 (q.2.1 b).2.2.1) && (!(q.2.1 b).2.2.2 || (decide (y.1.name = "<init>") && decide ((q.2.1 b).1 = y.1.cls))) &&
      (match parseFieldDescriptor (q.2.1 b).2.2.1 with
        | some .int => n == 0
        | some .boolean => n == 1
        | some (.array _) => n == 2
        | some (.object _) => n == 2
        | _ => false)
    | none => false
  | .new idx => match am_cl[a]? with
    | some q => ri_lw pl (.classLink y.1.cls idx q.1)
    | none => false
  | .anewarray idx => match a with
    | 2 => ri_lw pl (.classLink y.1.cls idx RX4)
    | 3 => ri_lw pl (.classLink y.1.cls idx RX3)
    | 4 => ri_lw pl (.classLink y.1.cls idx RX2)
    | _ => false
  | .getstatic idx => ri_lw pl (.fieldLink y.1.cls idx RX1 "PLACES" "[I")
  | .tableswitch dflt lo hi offs => decide (lo = 0 ∧ hi + 1 = (ts.length : Int)) && (decide ((pcs[a]?).map Int.ofNat = some ((pc : Int) + dflt)) && decide (ts.map (fun t => (pcs[t]?).map Int.ofNat) = offs.toList.map (fun off => some ((pc : Int) + off))))
  | .ireturn => match y.2.2.2 with
    | some .int => b == 0
    | some .boolean => b == 1
    | _ => false
  | .lreturn => decide (y.2.2.2 = some .long)
  | .return_ => decide (y.2.2.2 = none)
  | _ => true
def ri_end (i : Instr) : Bool := match i with
  | .ireturn => true
  | .lreturn => true
  | .return_ => true
  | .goto _ => true
  | .tableswitch .. => true
  | .lookupswitch .. => true
  | _ => false
def ri_sw (i : Instr) : Bool := match i with
  | .tableswitch .. => true
  | .lookupswitch .. => true
  | _ => false
def ri_ln (i : Instr) : Nat := match i with
  | .bipush _ => 2
  | .sipush _ => 3
  | .ldc_w _ => 3
  | .ldc2_w _ => 3
  | .iload _ => 2
  | .lload _ => 2
  | .aload _ => 2
  | .istore _ => 2
  | .lstore _ => 2
  | .astore _ => 2
  | .iinc .. => 3
  | .if_icmp .. => 3
  | .ifCond .. => 3
  | .goto _ => 3
  | .getfield _ => 3
  | .putfield _ => 3
  | .getstatic _ => 3
  | .new _ => 3
  | .newarray _ => 2
  | .anewarray _ => 3
  | .invokevirtual _ => 3
  | .invokestatic _ => 3
  | .invokespecial _ => 3
  | _ => 1
def ri_opc (s : ClassFile.Cond) (e n l g t m : Nat) : Nat := match s with
  | .eq => e
  | .ne => n
  | .lt => l
  | .ge => g
  | .gt => t
  | .le => m
def ri_opn (i : Instr) : Nat := match i with
  | .iconst _ => 2
  | .bipush _ => 2
  | .sipush _ => 2
  | .ldc_w _ => 2
  | .lconst _ => 38
  | .ldc2_w _ => 38
  | .iload_n _ => 1
  | .iload _ => 1
  | .istore_n _ => 9
  | .istore _ => 9
  | .lload_n _ => 39
  | .lload _ => 39
  | .lstore_n _ => 40
  | .lstore _ => 40
  | .aload_n _ => 0
  | .aload _ => 0
  | .astore_n _ => 41
  | .astore _ => 41
  | .iinc .. => 16
  | .goto _ => 6
  | .getfield _ => 3
  | .putfield _ => 14
  | .getstatic _ => 48
  | .new _ => 49
  | .newarray .int => 50
  | .newarray .long => 51
  | .anewarray _ => 52
  | .tableswitch .. => 57
  | .ireturn => 5
  | .lreturn => 58
  | .return_ => 21
  | .invokevirtual _ => 4
  | .invokestatic _ => 17
  | .invokespecial _ => 59
  | .iadd => 7
  | .iaload => 8
  | .isub => 10
  | .imul => 15
  | .aaload => 20
  | .iastore => 22
  | .dup => 23
  | .i2l => 24
  | .ineg => 32
  | .iand => 33
  | .irem => 34
  | .ishr => 35
  | .idiv => 36
  | .arraylength => 37
  | .lcmp => 42
  | .ladd => 43
  | .lmul => 44
  | .ixor => 45
  | .ishl => 46
  | .iushr => 47
  | .aastore => 53
  | .laload => 54
  | .lastore => 55
  | .dup2 => 56
  | .if_icmp c _ => ri_opc c 19 18 26 13 25 27
  | .ifCond c _ => ri_opc c 11 12 28 30 31 29
  | _ => 99
def ri_rok (y : am_M) (pcs : List Nat) (i : Nat) (r : ri_row) : Bool :=
  decide (decode y.2.1 (ri_pc r) = .ok (ri_ins r, ri_len r)) && (decide (pcs[i]? = some (ri_pc r)) && ((ri_end (ri_ins r) || decide (pcs[i + 1]? = some (ri_pc r + ri_len r))) && ((ri_sw (ri_ins r) || ri_len r == ri_ln (ri_ins r)) && (Nat.beq r.1 (ri_opn (ri_ins r)) && ri_rok1 y pcs r.2.1 r.2.2.1 r.2.2.2.1 r.2.2.2.2.1 (ri_pc r) (ri_ins r) (ri_pl r)))))
abbrev ri_mi : Type := am_M × Nat × Nat × List ri_row
def ri_nthD {α : Type} (d : α) (l : List α) : Nat → α := List.rec (motive := fun _ => Nat → α) (fun _ => d) (fun x _ ih n => Nat.rec (motive := fun _ => α) x (fun m _ => ih m) n) l
def ri_rokI (M : Nat → ri_mi) (y : am_M) (r : ri_row) : Bool := match ri_ins r with
  | .invokevirtual idx => (M r.2.1).2.2.1 == 1 && ((M r.2.1).2.1 == r.2.2.2.1 && (ri_lw (ri_pl r) (.methodLink y.1.cls idx (M r.2.1).1.1) && decide ((am_cl[r.2.2.1]?).map (fun q => q.1) = some (M r.2.1).1.1.cls)))
  | .invokestatic idx => if Nat.beq r.2.2.1 2 then ri_lw (ri_pl r) (.methodLink y.1.cls idx arraycopyName) else if Nat.ble 3 r.2.2.1 then (if Nat.beq r.2.2.1 5 then ri_lw (ri_pl r) (.methodLink y.1.cls idx Lib.Math.abs.name) else if Nat.beq r.2.2.1 3 then ri_lw (ri_pl r) (.methodLink y.1.cls idx Lib.Math.max.name) else if Nat.beq r.2.2.1 4 then ri_lw (ri_pl r) (.methodLink y.1.cls idx Lib.Math.min.name) else false) else (M r.2.1).2.2.1 == 0 && ((M r.2.1).2.1 == r.2.2.2.1 && ri_lw (ri_pl r) (.methodLink y.1.cls idx (M r.2.1).1.1))
  | .invokespecial idx => if Nat.beq r.2.2.1 1 then ri_lw (ri_pl r) (.methodLink y.1.cls idx objectInit) else (M r.2.1).2.2.1 == 2 && ((M r.2.1).2.1 == r.2.2.2.1 && ri_lw (ri_pl r) (.methodLink y.1.cls idx (M r.2.1).1.1))
  | _ => true
def ri_pcs (tb : List ri_row) : List Nat := tb.map (fun r => ri_pc r)
def ri_okj (M : Nat → ri_mi) (j : Nat) : Prop := am_okM (M j).1 (M j).2.1 ∧ ((M j).2.2.1 = 0 → Cond.static (M j).1.1 ∈ am_tbl) ∧ ((M j).2.2.1 = 1 → Cond.instanceMethod (M j).1.1 ∈ am_tbl ∧ Cond.selects (M j).1.1.cls (M j).1.1 (M j).1.1 ∈ am_tbl) ∧ ((M j).2.2.1 = 2 → Cond.instanceMethod (M j).1.1 ∈ am_tbl ∧ (M j).1.1.name = "<init>" ∧ (M j).1.2.2.2 = none) ∧
  (∀ i r, (M j).2.2.2[i]? = some r → ri_rok (M j).1 (ri_pcs (M j).2.2.2) i r = true ∧ ri_rokI M (M j).1 r = true) ∧ (ri_pcs (M j).2.2.2)[0]? = some 0
end
