/-! ===== a machine that the kernel can run: heaps are lists, arrays are lists ===== -/
abbrev ri_A : Type := List Int32 ⊕ (List Int64 ⊕ List (Option Nat))
abbrev ri_E : Type := (Nat × ri_A) ⊕ (Nat × List Value)
abbrev ri_L : Type := List ri_E
def ri_va (x : ri_A) : vp_A := match x with
  | .inl l => (l.length, .inl (fun j => l.getD j 0))
  | .inr (.inl l) => (l.length, .inr (.inl (fun j => l.getD j 0)))
  | .inr (.inr l) => (l.length, .inr (.inr (.inr (.inr (fun j => l.getD j none)))))
def ri_e (e : ri_E) : am_E := match e with
  | .inl (t, x) => .inl (t, ri_va x)
  | .inr (c, fs) => .inr (c, fs)
def ri_h (L : ri_L) : am_H := fun k => match L[k]? with
  | some e => ri_e e
  | none => .inr (0, [])
def ri_sz1 (e : ri_E) : Nat := match e with
  | .inl (_, .inl l) => l.length
  | .inl (_, .inr (.inl l)) => l.length
  | .inl (_, .inr (.inr l)) => l.length
  | .inr (_, fs) => fs.length
def ri_sz (L : ri_L) : Nat := (L.map ri_sz1).sum
/-- pc, instruction, length, three numbers, a whole number, row numbers of targets -/
abbrev ri_row : Type := Nat × Instr × Nat × Nat × Nat × Nat × Int × List Nat
def ri_lk (i : Nat) : List (Nat × Value) → Option Value
  | [] => none
  | q :: t => if q.1 == i then some q.2 else ri_lk i t
theorem ri_lk_mem {i : Nat} {v : Value} : ∀ {lv : List (Nat × Value)}, ri_lk i lv = some v → (i, v) ∈ lv
  | [], h => by simp [ri_lk] at h
  | q :: t, h => by
    unfold ri_lk at h
    split at h
    · rename_i hq
      have e1 : q.1 = i := by simpa using hq
      have e2 : q.2 = v := by simpa using h
      rw [← e1, ← e2]
      exact List.mem_cons_self
    · exact List.mem_cons_of_mem _ (ri_lk_mem h)
/-- a number, made plain ahead of what follows -/
def ri_fi {α : Type} (x : Int32) (k : Int32 → α) : α := Nat.rec (motive := fun _ => α) (k (Int32.ofNat 0)) (fun m _ => k (Int32.ofNat (m + 1))) x.toBitVec.toNat
theorem ri_fi_eq {α : Type} (x : Int32) (k : Int32 → α) : ri_fi x k = k x := by
  have e : Int32.ofNat x.toBitVec.toNat = x := by
    apply Int32.toBitVec_inj.mp
    show BitVec.ofNat 32 _ = _
    simp
  have h2 : ∀ m : Nat, (Nat.rec (motive := fun _ => α) (k (Int32.ofNat 0)) (fun m _ => k (Int32.ofNat (m + 1))) m : α) = k (Int32.ofNat m) := by
    intro m
    cases m <;> rfl
  unfold ri_fi
  rw [h2, e]
def ri_fl {α : Type} (x : Int64) (k : Int64 → α) : α := Nat.rec (motive := fun _ => α) (k (Int64.ofNat 0)) (fun m _ => k (Int64.ofNat (m + 1))) x.toBitVec.toNat
theorem ri_fl_eq {α : Type} (x : Int64) (k : Int64 → α) : ri_fl x k = k x := by
  have e : Int64.ofNat x.toBitVec.toNat = x := by
    apply Int64.toBitVec_inj.mp
    show BitVec.ofNat 64 _ = _
    simp
  have h2 : ∀ m : Nat, (Nat.rec (motive := fun _ => α) (k (Int64.ofNat 0)) (fun m _ => k (Int64.ofNat (m + 1))) m : α) = k (Int64.ofNat m) := by
    intro m
    cases m <;> rfl
  unfold ri_fl
  rw [h2, e]
/-- the heap's list with one cell anew, its spine made plain -/
def ri_frc {α : Type} : ri_L → (ri_L → α) → α
  | [], k => k []
  | x :: t, k => ri_frc t (fun t2 => k (x :: t2))
def ri_set {α : Type} : ri_L → Nat → ri_E → (ri_L → α) → α
  | [], _, _, k => k []
  | _ :: t, 0, e, k => ri_frc t (fun t2 => k (e :: t2))
  | x :: t, i + 1, e, k => ri_set t i e (fun t2 => k (x :: t2))
abbrev ri_N : Type := Option (Option Nat × List (Nat × Value) × List Value × ri_L)
def ri_le (m : Nat) {α : Type} (l : List α) : Bool := match m with
  | 0 => true
  | m + 1 => (l[m]?).isSome
theorem ri_le_iff {m : Nat} {α : Type} {l : List α} : ri_le m l = true ↔ m ≤ l.length := by
  cases m with
  | zero => simp [ri_le]
  | succ m => simp [ri_le]; omega
/-- one instruction that is neither a call nor an end -/
def ri_stp (r : ri_row) (lv : List (Nat × Value)) (st : List Value) (L : ri_L) : ri_N := match r.2.1 with
  | .iconst z => ri_fi (Int32.ofInt z) (fun x => some (none, lv, .int x :: st, L))
  | .bipush z => ri_fi (Int8.ofInt z).toInt32 (fun x => some (none, lv, .int x :: st, L))
  | .sipush z => ri_fi (Int16.ofInt z).toInt32 (fun x => some (none, lv, .int x :: st, L))
  | .lconst z => ri_fl (Int64.ofNat (z : Nat)) (fun x => some (none, lv, .long x :: st, L))
  | .ldc_w _ => ri_fi (Int32.ofInt r.2.2.2.2.2.2.1) (fun x => some (none, lv, .int x :: st, L))
  | .ldc2_w _ => ri_fl (Int64.ofInt r.2.2.2.2.2.2.1) (fun x => some (none, lv, .long x :: st, L))
  | .iload_n i => match ri_lk i lv with
    | some (.int x) => some (none, lv, .int x :: st, L)
    | _ => none
  | .iload i => match ri_lk i lv with
    | some (.int x) => some (none, lv, .int x :: st, L)
    | _ => none
  | .lload_n i => match ri_lk i lv with
    | some (.long x) => some (none, lv, .long x :: st, L)
    | _ => none
  | .lload i => match ri_lk i lv with
    | some (.long x) => some (none, lv, .long x :: st, L)
    | _ => none
  | .aload_n i => match ri_lk i lv with
    | some (.ref x) => some (none, lv, .ref x :: st, L)
    | _ => none
  | .aload i => match ri_lk i lv with
    | some (.ref x) => some (none, lv, .ref x :: st, L)
    | _ => none
  | .istore_n i => match st with
    | .int x :: st => some (none, ((i : Nat), .int x) :: lv.filter (am_f1 i), st, L)
    | _ => none
  | .istore i => match st with
    | .int x :: st => some (none, (i, .int x) :: lv.filter (am_f1 i), st, L)
    | _ => none
  | .lstore_n i => match st with
    | .long x :: st => some (none, ((i : Nat), .long x) :: lv.filter (am_f2 i), st, L)
    | _ => none
  | .lstore i => match st with
    | .long x :: st => some (none, (i, .long x) :: lv.filter (am_f2 i), st, L)
    | _ => none
  | .astore_n i => match st with
    | .ref x :: st => some (none, ((i : Nat), .ref x) :: lv.filter (am_f1 i), st, L)
    | _ => none
  | .astore i => match st with
    | .ref x :: st => some (none, (i, .ref x) :: lv.filter (am_f1 i), st, L)
    | _ => none
  | .iinc i z => match ri_lk i lv with
    | some (.int x) => ri_fi (x + Int32.ofInt z) (fun x => some (none, (i, .int x) :: lv.filter (am_f1 i), st, L))
    | _ => none
  | .iadd => match st with
    | .int z :: .int x :: st => ri_fi (x + z) (fun x => some (none, lv, .int x :: st, L))
    | _ => none
  | .isub => match st with
    | .int z :: .int x :: st => ri_fi (x - z) (fun x => some (none, lv, .int x :: st, L))
    | _ => none
  | .imul => match st with
    | .int z :: .int x :: st => ri_fi (x * z) (fun x => some (none, lv, .int x :: st, L))
    | _ => none
  | .iand => match st with
    | .int z :: .int x :: st => ri_fi (x &&& z) (fun x => some (none, lv, .int x :: st, L))
    | _ => none
  | .ixor => match st with
    | .int z :: .int x :: st => ri_fi (x ^^^ z) (fun x => some (none, lv, .int x :: st, L))
    | _ => none
  | .ishl => match st with
    | .int z :: .int x :: st => ri_fi (x <<< (z &&& 31)) (fun x => some (none, lv, .int x :: st, L))
    | _ => none
  | .ishr => match st with
    | .int z :: .int x :: st => ri_fi (x >>> (z &&& 31)) (fun x => some (none, lv, .int x :: st, L))
    | _ => none
  | .iushr => match st with
    | .int z :: .int x :: st => ri_fi ((x.toUInt32 >>> (z.toUInt32 &&& Int32.toUInt32 31)).toInt32) (fun x => some (none, lv, .int x :: st, L))
    | _ => none
  | .idiv => match st with
    | .int z :: .int x :: st => if z = 0 then none else ri_fi (x / z) (fun x => some (none, lv, .int x :: st, L))
    | _ => none
  | .irem => match st with
    | .int z :: .int x :: st => if z = 0 then none else ri_fi (x - x / z * z) (fun x => some (none, lv, .int x :: st, L))
    | _ => none
  | .ineg => match st with
    | .int x :: st => ri_fi (-x) (fun x => some (none, lv, .int x :: st, L))
    | _ => none
  | .ladd => match st with
    | .long z :: .long x :: st => ri_fl (x + z) (fun x => some (none, lv, .long x :: st, L))
    | _ => none
  | .lmul => match st with
    | .long z :: .long x :: st => ri_fl (x * z) (fun x => some (none, lv, .long x :: st, L))
    | _ => none
  | .i2l => match st with
    | .int x :: st => ri_fl x.toInt64 (fun x => some (none, lv, .long x :: st, L))
    | _ => none
  | .lcmp => match st with
    | .long z :: .long x :: st => ri_fi (lg_cmp x z) (fun x => some (none, lv, .int x :: st, L))
    | _ => none
  | .dup => match st with
    | .int x :: st => some (none, lv, .int x :: .int x :: st, L)
    | .ref x :: st => some (none, lv, .ref x :: .ref x :: st, L)
    | _ => none
  | .dup2 => match st with
    | .int x :: .ref z :: st => some (none, lv, .int x :: .ref z :: .int x :: .ref z :: st, L)
    | _ => none
  | .if_icmp c _ => match st with
    | .int z :: .int x :: st => if am_cmpb c x z then some (some r.2.2.2.1, lv, st, L) else some (none, lv, st, L)
    | _ => none
  | .ifCond c _ => match st with
    | .int x :: st => if am_cmpb c x 0 then some (some r.2.2.2.1, lv, st, L) else some (none, lv, st, L)
    | _ => none
  | .goto _ => some (some r.2.2.2.1, lv, st, L)
  | .getfield _ => match st with
    | .ref a :: st => match L[a]? with
      | some (.inr (ci, fs)) => if ci == r.2.2.2.1 then match fs[r.2.2.2.2.1]? with
          | some v => some (none, lv, v :: st, L)
          | none => none
        else none
      | _ => none
    | _ => none
  | .putfield _ => match st with
    | .int x :: .ref a :: st => match L[a]? with
      | some (.inr (ci, fs)) => if ci == r.2.2.2.1 && (r.2.2.2.2.2.2.1 == 0 || (r.2.2.2.2.2.2.1 == 1 && (x == 0 || x == 1))) && (fs[r.2.2.2.2.1]?).isSome then ri_set L a (.inr (ci, fs.set r.2.2.2.2.1 (.int x))) (fun L => some (none, lv, st, L)) else none
      | _ => none
    | .ref x :: .ref a :: st => match L[a]? with
      | some (.inr (ci, fs)) => if ci == r.2.2.2.1 && r.2.2.2.2.2.2.1 == 2 && (fs[r.2.2.2.2.1]?).isSome then ri_set L a (.inr (ci, fs.set r.2.2.2.2.1 (.ref x))) (fun L => some (none, lv, st, L)) else none
      | _ => none
    | _ => none
  | .iaload => match st with
    | .int i :: .ref a :: st => match L[a]? with
      | some (.inl (0, .inl l)) => if i < 0 then none else match l[i.toNatClampNeg]? with
          | some x => ri_fi x (fun x => some (none, lv, .int x :: st, L))
          | none => none
      | _ => none
    | .int i :: .retAddr _ :: st => if i < 0 then none else if i.toNatClampNeg < 13 then ri_fi (am_PL i.toNatClampNeg) (fun x => some (none, lv, .int x :: st, L)) else none
    | _ => none
  | .iastore => match st with
    | .int x :: .int i :: .ref a :: st => match L[a]? with
      | some (.inl (0, .inl l)) => if i < 0 then none else if ri_le (i.toNatClampNeg + 1) l then ri_set L a (.inl (0, .inl (l.set i.toNatClampNeg x))) (fun L => some (none, lv, st, L)) else none
      | _ => none
    | _ => none
  | .laload => match st with
    | .int i :: .ref a :: st => match L[a]? with
      | some (.inl (1, .inr (.inl l))) => if i < 0 then none else match l[i.toNatClampNeg]? with
          | some x => ri_fl x (fun x => some (none, lv, .long x :: st, L))
          | none => none
      | _ => none
    | _ => none
  | .lastore => match st with
    | .long x :: .int i :: .ref a :: st => match L[a]? with
      | some (.inl (1, .inr (.inl l))) => if i < 0 then none else if ri_le (i.toNatClampNeg + 1) l then ri_set L a (.inl (1, .inr (.inl (l.set i.toNatClampNeg x)))) (fun L => some (none, lv, st, L)) else none
      | _ => none
    | _ => none
  | .aaload => match st with
    | .int i :: .ref a :: st => match L[a]? with
      | some (.inl (t, .inr (.inr l))) => if 2 ≤ t && t < 5 then if i < 0 then none else match l[i.toNatClampNeg]? with
          | some (some b) => some (none, lv, .ref b :: st, L)
          | _ => none
        else none
      | _ => none
    | _ => none
  | .aastore => match st with
    | .ref b :: .int i :: .ref a :: st => match L[a]?, L[b]? with
      | some (.inl (t, .inr (.inr l))), some (.inr (ci, _)) => if (t == 2 && ci == 4) || (t == 3 && ci == 3) || (t == 4 && ci == 2) then if i < 0 then none else if ri_le (i.toNatClampNeg + 1) l then ri_set L a (.inl (t, .inr (.inr (l.set i.toNatClampNeg (some b))))) (fun L => some (none, lv, st, L)) else none else none
      | _, _ => none
    | _ => none
  | .arraylength => match st with
    | .ref a :: st => match L[a]? with
      | some (.inl (0, .inl l)) => ri_fi (Int32.ofNat l.length) (fun x => some (none, lv, .int x :: st, L))
      | _ => none
    | .retAddr _ :: st => some (none, lv, .int 13 :: st, L)
    | _ => none
  | .getstatic _ => some (none, lv, .retAddr 0 :: st, L)
  | .new _ => some (none, lv, .ref L.length :: st, L ++ [.inr (r.2.2.2.1, am_df r.2.2.2.1)])
  | .newarray ty => match ty, st with
    | .int, .int x :: st => if x < 0 then none else if x.toNatClampNeg ≤ 10000 then some (none, lv, .ref L.length :: st, L ++ [.inl (0, .inl (List.replicate x.toNatClampNeg 0))]) else none
    | .long, .int x :: st => if x < 0 then none else if x.toNatClampNeg ≤ 10000 then some (none, lv, .ref L.length :: st, L ++ [.inl (1, .inr (.inl (List.replicate x.toNatClampNeg 0)))]) else none
    | _, _ => none
  | .anewarray _ => match st with
    | .int x :: st => if x < 0 then none else if x.toNatClampNeg ≤ 10000 then some (none, lv, .ref L.length :: st, L ++ [.inl (r.2.2.2.1, .inr (.inr (List.replicate x.toNatClampNeg none)))]) else none
    | _ => none
  | .tableswitch _ lo hi _ => match st with
    | .int x :: st => if x.toInt < lo ∨ hi < x.toInt then some (some r.2.2.2.1, lv, st, L) else match r.2.2.2.2.2.2.2[(x.toInt - lo).toNat]? with
      | some t => some (some t, lv, st, L)
      | none => none
    | _ => none
  | _ => none
