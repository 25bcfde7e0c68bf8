noncomputable section
/-! ===== a machine that the kernel can run: heaps are lists of lists, arrays are lists; ints may be unknown, within bounds ===== -/
abbrev ri_A : Type := List Int32 ⊕ (List Int64 ⊕ List (Option Nat))
abbrev ri_E : Type := (Nat × ri_A) ⊕ (Nat × List Value)
/-- how many cells, how many slots, the cells in rows of eight -/
abbrev ri_L : Type := Nat × Nat × List (List ri_E)
def ri_nth {α : Type} (l : List α) : Nat → Option α := List.rec (motive := fun _ => Nat → Option α) (fun _ => none) (fun x _ ih n => Nat.rec (motive := fun _ => Option α) (some x) (fun m _ => ih m) n) l
theorem ri_nth_eq {α : Type} : ∀ (l : List α) (n : Nat), ri_nth l n = l[n]?
  | [], n => by simp [ri_nth]
  | x :: t, 0 => rfl
  | x :: t, n + 1 => by
    have := ri_nth_eq t n
    simp only [List.getElem?_cons_succ]
    exact this
def ri_upd {α : Type} (l : List α) : Nat → α → List α := List.rec (motive := fun _ => Nat → α → List α) (fun _ _ => []) (fun x t ih n v => Nat.rec (motive := fun _ => List α) (v :: t) (fun m _ => x :: ih m v) n) l
theorem ri_upd_eq {α : Type} : ∀ (l : List α) (n : Nat) (v : α), ri_upd l n v = l.set n v
  | [], n, v => by simp [ri_upd]
  | x :: t, 0, v => rfl
  | x :: t, n + 1, v => by
    have := ri_upd_eq t n v
    simp only [List.set_cons_succ]
    show x :: ri_upd t n v = _
    rw [this]
def ri_get (C : List (List ri_E)) (k : Nat) : Option ri_E := match ri_nth C (k / 8) with
  | some c => ri_nth c (k % 8)
  | none => none
def ri_put (C : List (List ri_E)) (k : Nat) (e : ri_E) : List (List ri_E) := match ri_nth C (k / 8) with
  | some c => ri_upd C (k / 8) (ri_upd c (k % 8) e)
  | none => C
def ri_va (x : ri_A) : vp_A := match x with
  | .inl l => (l.length, .inl (fun j => l.getD j 0))
  | .inr (.inl l) => (l.length, .inr (.inl (fun j => l.getD j 0)))
  | .inr (.inr l) => (l.length, .inr (.inr (.inr (.inr (fun j => l.getD j none)))))
def ri_e (e : ri_E) : am_E := match e with
  | .inl (t, x) => .inl (t, ri_va x)
  | .inr (c, fs) => .inr (c, fs)
def ri_h (L : ri_L) : am_H := fun k => match ri_get L.2.2 k with
  | some e => ri_e e
  | none => .inr (0, [])
/-- pc, instruction, length, three numbers, a whole number, row numbers of targets -/
abbrev ri_row : Type := Nat × Instr × Nat × Nat × Nat × Nat × Int × List Nat
/-- a number, made plain ahead of what follows -/
def ri_fi {α : Type} (x : Int32) (k : Int32 → α) : α := Nat.rec (motive := fun _ => α) (k (Int32.ofNat 0)) (fun m _ => k (Int32.ofNat (m + 1))) x.toBitVec.toNat
theorem ri_fi_eq {α : Type} (x : Int32) (k : Int32 → α) : ri_fi x k = k x := by
  have e : Int32.ofNat x.toBitVec.toNat = x := by
    apply Int32.toBitVec_inj.mp
    show BitVec.ofNat 32 _ = _
    simp
  have h2 : ∀ m : Nat, (Nat.rec (motive := fun _ => α) (k (Int32.ofNat 0)) (fun m _ => k (Int32.ofNat (m + 1))) m : α) = k (Int32.ofNat m) := by
    intro m
    cases m <;> rfl
  unfold ri_fi
  rw [h2, e]
def ri_fl {α : Type} (x : Int64) (k : Int64 → α) : α := Nat.rec (motive := fun _ => α) (k (Int64.ofNat 0)) (fun m _ => k (Int64.ofNat (m + 1))) x.toBitVec.toNat
theorem ri_fl_eq {α : Type} (x : Int64) (k : Int64 → α) : ri_fl x k = k x := by
  have e : Int64.ofNat x.toBitVec.toNat = x := by
    apply Int64.toBitVec_inj.mp
    show BitVec.ofNat 64 _ = _
    simp
  have h2 : ∀ m : Nat, (Nat.rec (motive := fun _ => α) (k (Int64.ofNat 0)) (fun m _ => k (Int64.ofNat (m + 1))) m : α) = k (Int64.ofNat m) := by
    intro m
    cases m <;> rfl
  unfold ri_fl
  rw [h2, e]
/-- a number as a plain literal -/
def ri_fn {α : Type} (x : Nat) (k : Nat → α) : α := Nat.rec (motive := fun _ => α) (k 0) (fun m _ => k (m + 1)) x
theorem ri_fn_eq {α : Type} (x : Nat) (k : Nat → α) : ri_fn x k = k x := by cases x <;> rfl
def ri_le (m : Nat) {α : Type} (l : List α) : Bool := match m with
  | 0 => true
  | m + 1 => (ri_nth l m).isSome
theorem ri_le_iff {m : Nat} {α : Type} {l : List α} : ri_le m l = true ↔ m ≤ l.length := by
  cases m with
  | zero => simp [ri_le]
  | succ m => simp [ri_le, ri_nth_eq]; omega
/-- locals: a list of values, .null where there is none -/
def ri_lv (ls : List Value) : List (Nat × Value) := (ls.zipIdx.filter (fun q => decide (q.1 ≠ .null))).map (fun q => (q.2, q.1))
theorem ri_lv_mem {ls : List Value} {i : Nat} {v : Value} : (i, v) ∈ ri_lv ls ↔ ls[i]? = some v ∧ v ≠ .null := by
  unfold ri_lv
  simp only [List.mem_map, List.mem_filter, decide_eq_true_eq]
  constructor
  · rintro ⟨⟨w, j⟩, ⟨h1, h2⟩, h3⟩
    cases h3
    rw [List.mem_zipIdx_iff_getElem?] at h1
    exact ⟨h1, h2⟩
  · rintro ⟨h1, h2⟩
    exact ⟨(v, i), ⟨by rw [List.mem_zipIdx_iff_getElem?]; exact h1, h2⟩, rfl⟩
def ri_c2 (v : Value) : Bool := match v with
  | .long _ => true
  | .double _ => true
  | _ => false
/-- a value of one word into place i: a value of two words at i - 1 goes -/
def ri_s1 (ls : List Value) (i : Nat) (v : Value) : List Value := match i with
  | 0 => ri_upd ls 0 v
  | i + 1 => match ri_nth ls i with
    | some w => if ri_c2 w then ri_upd (ri_upd ls i .null) (i + 1) v else ri_upd ls (i + 1) v
    | none => []
def ri_s2 (ls : List Value) (i : Nat) (v : Value) : List Value := ri_upd (ri_s1 ls i v) (i + 1) .null
abbrev ri_N : Type := Option (Option Nat × List Value × List Value × ri_L)
/-- an int on the stack: known or not -/
def ri_isI (v : Value) : Bool := match v with
  | .int _ => true
  | .float _ => true
  | _ => false
def ri_isL (v : Value) : Bool := match v with
  | .long _ => true
  | .double _ => true
  | _ => false
abbrev ri_Env : Type := List (Int × Int)
def ri_iv (E : ri_Env) (v : Value) : Option (Int × Int) := match v with
  | .int x => some (x.toInt, x.toInt)
  | .float b => ri_nth E b.toNat
  | .long x => some (x.toInt, x.toInt)
  | .double b => ri_nth E b.toNat
  | _ => none
/-- what is known of a comparison -/
def ri_dec (c : ClassFile.Cond) (a b : Int × Int) : Option Bool := match c with
  | .eq => if a.2 < b.1 ∨ b.2 < a.1 then some false else if a.1 = b.1 ∧ a.2 = b.2 ∧ a.1 = a.2 then some true else none
  | .ne => if a.2 < b.1 ∨ b.2 < a.1 then some true else if a.1 = b.1 ∧ a.2 = b.2 ∧ a.1 = a.2 then some false else none
  | .lt => if a.2 < b.1 then some true else if b.2 ≤ a.1 then some false else none
  | .ge => if b.2 ≤ a.1 then some true else if a.2 < b.1 then some false else none
  | .gt => if b.2 < a.1 then some true else if a.2 ≤ b.1 then some false else none
  | .le => if a.2 ≤ b.1 then some true else if b.2 < a.1 then some false else none
def ri_cmp (E : ri_Env) (c : ClassFile.Cond) (v w : Value) : Option Bool := match v, w with
  | .int x, .int z => some (am_cmpb c x z)
  | v, w => if ri_isI v && ri_isI w then match ri_iv E v, ri_iv E w with
    | some a, some b => ri_dec c a b
    | _, _ => none
    else none
/-- one instruction that is neither a call nor an end: a function each, so that the kernel makes the body of one alone -/
def st_iconst (z : Int) (E : ri_Env) (r : ri_row) (lv st : List Value) (L : ri_L) : ri_N := ri_fi (Int32.ofInt z) (fun x => some (none, lv, .int x :: st, L))
def st_bipush (z : Int) (E : ri_Env) (r : ri_row) (lv st : List Value) (L : ri_L) : ri_N := ri_fi (Int8.ofInt z).toInt32 (fun x => some (none, lv, .int x :: st, L))
def st_sipush (z : Int) (E : ri_Env) (r : ri_row) (lv st : List Value) (L : ri_L) : ri_N := ri_fi (Int16.ofInt z).toInt32 (fun x => some (none, lv, .int x :: st, L))
def st_lconst (z : Fin 2) (E : ri_Env) (r : ri_row) (lv st : List Value) (L : ri_L) : ri_N := ri_fl (Int64.ofNat (z : Nat)) (fun x => some (none, lv, .long x :: st, L))
def st_ldc_w (E : ri_Env) (r : ri_row) (lv st : List Value) (L : ri_L) : ri_N := ri_fi (Int32.ofInt r.2.2.2.2.2.2.1) (fun x => some (none, lv, .int x :: st, L))
def st_ldc2_w (E : ri_Env) (r : ri_row) (lv st : List Value) (L : ri_L) : ri_N := ri_fl (Int64.ofInt r.2.2.2.2.2.2.1) (fun x => some (none, lv, .long x :: st, L))
def st_iload_n (i : Fin 4) (E : ri_Env) (r : ri_row) (lv st : List Value) (L : ri_L) : ri_N := match ri_nth lv i with
  | some v => if ri_isI v then some (none, lv, v :: st, L) else none
  | _ => none
def st_iload (i : Nat) (E : ri_Env) (r : ri_row) (lv st : List Value) (L : ri_L) : ri_N := match ri_nth lv i with
  | some v => if ri_isI v then some (none, lv, v :: st, L) else none
  | _ => none
def st_lload_n (i : Fin 4) (E : ri_Env) (r : ri_row) (lv st : List Value) (L : ri_L) : ri_N := match ri_nth lv i with
  | some v => if ri_isL v then some (none, lv, v :: st, L) else none
  | _ => none
def st_lload (i : Nat) (E : ri_Env) (r : ri_row) (lv st : List Value) (L : ri_L) : ri_N := match ri_nth lv i with
  | some v => if ri_isL v then some (none, lv, v :: st, L) else none
  | _ => none
def st_aload_n (i : Fin 4) (E : ri_Env) (r : ri_row) (lv st : List Value) (L : ri_L) : ri_N := match ri_nth lv i with
  | some (.ref x) => some (none, lv, .ref x :: st, L)
  | _ => none
def st_aload (i : Nat) (E : ri_Env) (r : ri_row) (lv st : List Value) (L : ri_L) : ri_N := match ri_nth lv i with
  | some (.ref x) => some (none, lv, .ref x :: st, L)
  | _ => none
def st_istore_n (i : Fin 4) (E : ri_Env) (r : ri_row) (lv st : List Value) (L : ri_L) : ri_N := match st with
  | v :: st => if ri_isI v then some (none, ri_s1 lv i v, st, L) else none
  | _ => none
def st_istore (i : Nat) (E : ri_Env) (r : ri_row) (lv st : List Value) (L : ri_L) : ri_N := match st with
  | v :: st => if ri_isI v then some (none, ri_s1 lv i v, st, L) else none
  | _ => none
def st_lstore_n (i : Fin 4) (E : ri_Env) (r : ri_row) (lv st : List Value) (L : ri_L) : ri_N := match st with
  | v :: st => if ri_isL v then some (none, ri_s2 lv i v, st, L) else none
  | _ => none
def st_lstore (i : Nat) (E : ri_Env) (r : ri_row) (lv st : List Value) (L : ri_L) : ri_N := match st with
  | v :: st => if ri_isL v then some (none, ri_s2 lv i v, st, L) else none
  | _ => none
def st_astore_n (i : Fin 4) (E : ri_Env) (r : ri_row) (lv st : List Value) (L : ri_L) : ri_N := match st with
  | .ref x :: st => some (none, ri_s1 lv i (.ref x), st, L)
  | _ => none
def st_astore (i : Nat) (E : ri_Env) (r : ri_row) (lv st : List Value) (L : ri_L) : ri_N := match st with
  | .ref x :: st => some (none, ri_s1 lv i (.ref x), st, L)
  | _ => none
def st_iinc (i : Nat) (z : Int) (E : ri_Env) (r : ri_row) (lv st : List Value) (L : ri_L) : ri_N := match ri_nth lv i with
  | some (.int x) => ri_fi (x + Int32.ofInt z) (fun x => some (none, ri_s1 lv i (.int x), st, L))
  | _ => none
def st_iadd (E : ri_Env) (r : ri_row) (lv st : List Value) (L : ri_L) : ri_N := match st with
  | .int z :: .int x :: st => ri_fi (x + z) (fun x => some (none, lv, .int x :: st, L))
  | _ => none
def st_isub (E : ri_Env) (r : ri_row) (lv st : List Value) (L : ri_L) : ri_N := match st with
  | .int z :: .int x :: st => ri_fi (x - z) (fun x => some (none, lv, .int x :: st, L))
  | _ => none
def st_imul (E : ri_Env) (r : ri_row) (lv st : List Value) (L : ri_L) : ri_N := match st with
  | .int z :: .int x :: st => ri_fi (x * z) (fun x => some (none, lv, .int x :: st, L))
  | _ => none
def st_iand (E : ri_Env) (r : ri_row) (lv st : List Value) (L : ri_L) : ri_N := match st with
  | .int z :: .int x :: st => ri_fi (x &&& z) (fun x => some (none, lv, .int x :: st, L))
  | _ => none
def st_ixor (E : ri_Env) (r : ri_row) (lv st : List Value) (L : ri_L) : ri_N := match st with
  | .int z :: .int x :: st => ri_fi (x ^^^ z) (fun x => some (none, lv, .int x :: st, L))
  | _ => none
def st_ishl (E : ri_Env) (r : ri_row) (lv st : List Value) (L : ri_L) : ri_N := match st with
  | .int z :: .int x :: st => ri_fi (x <<< (z &&& 31)) (fun x => some (none, lv, .int x :: st, L))
  | _ => none
def st_ishr (E : ri_Env) (r : ri_row) (lv st : List Value) (L : ri_L) : ri_N := match st with
  | .int z :: .int x :: st => ri_fi (x >>> (z &&& 31)) (fun x => some (none, lv, .int x :: st, L))
  | .int z :: .float b :: st => if z = 0 then some (none, lv, .float b :: st, L) else none
  | _ => none
def st_iushr (E : ri_Env) (r : ri_row) (lv st : List Value) (L : ri_L) : ri_N := match st with
  | .int z :: .int x :: st => ri_fi ((x.toUInt32 >>> (z.toUInt32 &&& Int32.toUInt32 31)).toInt32) (fun x => some (none, lv, .int x :: st, L))
  | _ => none
def st_idiv (E : ri_Env) (r : ri_row) (lv st : List Value) (L : ri_L) : ri_N := match st with
  | .int z :: .int x :: st => if z = 0 then none else ri_fi (x / z) (fun x => some (none, lv, .int x :: st, L))
  | _ => none
def st_irem (E : ri_Env) (r : ri_row) (lv st : List Value) (L : ri_L) : ri_N := match st with
  | .int z :: .int x :: st => if z = 0 then none else ri_fi (x - x / z * z) (fun x => some (none, lv, .int x :: st, L))
  | _ => none
def st_ineg (E : ri_Env) (r : ri_row) (lv st : List Value) (L : ri_L) : ri_N := match st with
  | .int x :: st => ri_fi (-x) (fun x => some (none, lv, .int x :: st, L))
  | _ => none
def st_ladd (E : ri_Env) (r : ri_row) (lv st : List Value) (L : ri_L) : ri_N := match st with
  | .long z :: .long x :: st => ri_fl (x + z) (fun x => some (none, lv, .long x :: st, L))
  | _ => none
def st_lmul (E : ri_Env) (r : ri_row) (lv st : List Value) (L : ri_L) : ri_N := match st with
  | .long z :: .long x :: st => ri_fl (x * z) (fun x => some (none, lv, .long x :: st, L))
  | _ => none
def st_i2l (E : ri_Env) (r : ri_row) (lv st : List Value) (L : ri_L) : ri_N := match st with
  | .int x :: st => ri_fl x.toInt64 (fun x => some (none, lv, .long x :: st, L))
  | .float b :: st => some (none, lv, .double b.toUInt64 :: st, L)
  | _ => none
def st_lcmp (E : ri_Env) (r : ri_row) (lv st : List Value) (L : ri_L) : ri_N := match st with
  | .long z :: .long x :: st => ri_fi (lg_cmp x z) (fun x => some (none, lv, .int x :: st, L))
  | .long z :: .double b :: st => match ri_nth E b.toNat with
    | some (lo, hi) => if hi < z.toInt then some (none, lv, .int (-1) :: st, L) else if z.toInt < lo then some (none, lv, .int 1 :: st, L) else if lo = z.toInt ∧ hi = z.toInt then some (none, lv, .int 0 :: st, L) else none
    | none => none
  | _ => none
def st_dup (E : ri_Env) (r : ri_row) (lv st : List Value) (L : ri_L) : ri_N := match st with
  | .int x :: st => some (none, lv, .int x :: .int x :: st, L)
  | .ref x :: st => some (none, lv, .ref x :: .ref x :: st, L)
  | _ => none
def st_dup2 (E : ri_Env) (r : ri_row) (lv st : List Value) (L : ri_L) : ri_N := match st with
  | .int x :: .ref z :: st => some (none, lv, .int x :: .ref z :: .int x :: .ref z :: st, L)
  | _ => none
def st_if_icmp (c : ClassFile.Cond) (E : ri_Env) (r : ri_row) (lv st : List Value) (L : ri_L) : ri_N := match st with
  | z :: x :: st => match ri_cmp E c x z with
    | some true => some (some r.2.2.2.1, lv, st, L)
    | some false => some (none, lv, st, L)
    | none => none
  | _ => none
def st_ifCond (c : ClassFile.Cond) (E : ri_Env) (r : ri_row) (lv st : List Value) (L : ri_L) : ri_N := match st with
  | x :: st => match ri_cmp E c x (.int 0) with
    | some true => some (some r.2.2.2.1, lv, st, L)
    | some false => some (none, lv, st, L)
    | none => none
  | _ => none
def st_goto (E : ri_Env) (r : ri_row) (lv st : List Value) (L : ri_L) : ri_N := some (some r.2.2.2.1, lv, st, L)
def st_getfield (E : ri_Env) (r : ri_row) (lv st : List Value) (L : ri_L) : ri_N := match st with
  | .ref a :: st => match ri_get L.2.2 a with
    | some (.inr (ci, fs)) => if Nat.ble L.1 a then none else if Nat.beq ci r.2.2.2.1 then match ri_nth fs r.2.2.2.2.1 with
        | some v => some (none, lv, v :: st, L)
        | none => none
      else none
    | _ => none
  | _ => none
def st_putfield (E : ri_Env) (r : ri_row) (lv st : List Value) (L : ri_L) : ri_N := match st with
  | .int x :: .ref a :: st => match ri_get L.2.2 a with
    | some (.inr (ci, fs)) => if Nat.ble L.1 a then none else if Nat.beq ci r.2.2.2.1 && ((r.2.2.2.2.2.2.1 == 0 || (r.2.2.2.2.2.2.1 == 1 && (x == 0 || x == 1))) && (ri_nth fs r.2.2.2.2.1).isSome) then some (none, lv, st, (L.1, L.2.1, ri_put L.2.2 a (.inr (ci, ri_upd fs r.2.2.2.2.1 (.int x))))) else none
    | _ => none
  | .ref x :: .ref a :: st => match ri_get L.2.2 a with
    | some (.inr (ci, fs)) => if Nat.ble L.1 a then none else if Nat.beq ci r.2.2.2.1 && (r.2.2.2.2.2.2.1 == 2 && (ri_nth fs r.2.2.2.2.1).isSome) then some (none, lv, st, (L.1, L.2.1, ri_put L.2.2 a (.inr (ci, ri_upd fs r.2.2.2.2.1 (.ref x))))) else none
    | _ => none
  | _ => none
def st_iaload (E : ri_Env) (r : ri_row) (lv st : List Value) (L : ri_L) : ri_N := match st with
  | .int i :: .ref a :: st => match ri_get L.2.2 a with
    | some (.inl (0, .inl l)) => if Nat.ble L.1 a then none else if i < 0 then none else match ri_nth l i.toNatClampNeg with
        | some x => ri_fi x (fun x => some (none, lv, .int x :: st, L))
        | none => none
    | _ => none
  | .int i :: .retAddr _ :: st => if i < 0 then none else if i.toNatClampNeg < 13 then ri_fi (am_PL i.toNatClampNeg) (fun x => some (none, lv, .int x :: st, L)) else none
  | _ => none
def st_iastore (E : ri_Env) (r : ri_row) (lv st : List Value) (L : ri_L) : ri_N := match st with
  | .int x :: .int i :: .ref a :: st => match ri_get L.2.2 a with
    | some (.inl (0, .inl l)) => if Nat.ble L.1 a then none else if i < 0 then none else if ri_le (i.toNatClampNeg + 1) l then some (none, lv, st, (L.1, L.2.1, ri_put L.2.2 a (.inl (0, .inl (ri_upd l i.toNatClampNeg x))))) else none
    | _ => none
  | _ => none
def st_laload (E : ri_Env) (r : ri_row) (lv st : List Value) (L : ri_L) : ri_N := match st with
  | .int i :: .ref a :: st => match ri_get L.2.2 a with
    | some (.inl (1, .inr (.inl l))) => if Nat.ble L.1 a then none else if i < 0 then none else match ri_nth l i.toNatClampNeg with
        | some x => ri_fl x (fun x => some (none, lv, .long x :: st, L))
        | none => none
    | _ => none
  | _ => none
def st_lastore (E : ri_Env) (r : ri_row) (lv st : List Value) (L : ri_L) : ri_N := match st with
  | .long x :: .int i :: .ref a :: st => match ri_get L.2.2 a with
    | some (.inl (1, .inr (.inl l))) => if Nat.ble L.1 a then none else if i < 0 then none else if ri_le (i.toNatClampNeg + 1) l then some (none, lv, st, (L.1, L.2.1, ri_put L.2.2 a (.inl (1, .inr (.inl (ri_upd l i.toNatClampNeg x)))))) else none
    | _ => none
  | _ => none
def st_aaload (E : ri_Env) (r : ri_row) (lv st : List Value) (L : ri_L) : ri_N := match st with
  | .int i :: .ref a :: st => match ri_get L.2.2 a with
    | some (.inl (t, .inr (.inr l))) => if Nat.ble L.1 a then none else if Nat.ble 2 t && Nat.ble t 4 then if i < 0 then none else match ri_nth l i.toNatClampNeg with
        | some (some b) => some (none, lv, .ref b :: st, L)
        | _ => none
      else none
    | _ => none
  | _ => none
def st_aastore (E : ri_Env) (r : ri_row) (lv st : List Value) (L : ri_L) : ri_N := match st with
  | .ref b :: .int i :: .ref a :: st => match ri_get L.2.2 a, ri_get L.2.2 b with
    | some (.inl (t, .inr (.inr l))), some (.inr (ci, _)) => if Nat.ble L.1 a || Nat.ble L.1 b then none else if (Nat.beq t 2 && Nat.beq ci 4) || ((Nat.beq t 3 && Nat.beq ci 3) || (Nat.beq t 4 && Nat.beq ci 2)) then if i < 0 then none else if ri_le (i.toNatClampNeg + 1) l then some (none, lv, st, (L.1, L.2.1, ri_put L.2.2 a (.inl (t, .inr (.inr (ri_upd l i.toNatClampNeg (some b))))))) else none else none
    | _, _ => none
  | _ => none
def st_arraylength (E : ri_Env) (r : ri_row) (lv st : List Value) (L : ri_L) : ri_N := match st with
  | .ref a :: st => match ri_get L.2.2 a with
    | some (.inl (0, .inl l)) => if Nat.ble L.1 a then none else ri_fi (Int32.ofNat l.length) (fun x => some (none, lv, .int x :: st, L))
    | _ => none
  | .retAddr _ :: st => some (none, lv, .int 13 :: st, L)
  | _ => none
def st_getstatic (E : ri_Env) (r : ri_row) (lv st : List Value) (L : ri_L) : ri_N := some (none, lv, .retAddr 0 :: st, L)
def st_new (E : ri_Env) (r : ri_row) (lv st : List Value) (L : ri_L) : ri_N := if (ri_get L.2.2 L.1).isSome then ri_fn (L.1 + 1) (fun n => ri_fn (L.2.1 + (am_df r.2.2.2.1).length) (fun s => some (none, lv, .ref L.1 :: st, (n, s, ri_put L.2.2 L.1 (.inr (r.2.2.2.1, am_df r.2.2.2.1)))))) else none
def st_newarray (ty : ArrayType) (E : ri_Env) (r : ri_row) (lv st : List Value) (L : ri_L) : ri_N := match ty, st with
  | .int, .int x :: st => if x < 0 then none else if Nat.ble x.toNatClampNeg 10000 && (ri_get L.2.2 L.1).isSome then ri_fn (L.1 + 1) (fun n => ri_fn (L.2.1 + x.toNatClampNeg) (fun s => some (none, lv, .ref L.1 :: st, (n, s, ri_put L.2.2 L.1 (.inl (0, .inl (List.replicate x.toNatClampNeg 0))))))) else none
  | .long, .int x :: st => if x < 0 then none else if Nat.ble x.toNatClampNeg 10000 && (ri_get L.2.2 L.1).isSome then ri_fn (L.1 + 1) (fun n => ri_fn (L.2.1 + x.toNatClampNeg) (fun s => some (none, lv, .ref L.1 :: st, (n, s, ri_put L.2.2 L.1 (.inl (1, .inr (.inl (List.replicate x.toNatClampNeg 0)))))))) else none
  | _, _ => none
def st_anewarray (E : ri_Env) (r : ri_row) (lv st : List Value) (L : ri_L) : ri_N := match st with
  | .int x :: st => if x < 0 then none else if Nat.ble x.toNatClampNeg 10000 && (ri_get L.2.2 L.1).isSome then ri_fn (L.1 + 1) (fun n => ri_fn (L.2.1 + x.toNatClampNeg) (fun s => some (none, lv, .ref L.1 :: st, (n, s, ri_put L.2.2 L.1 (.inl (r.2.2.2.1, .inr (.inr (List.replicate x.toNatClampNeg none)))))))) else none
  | _ => none
def st_tableswitch (lo : Int) (hi : Int) (E : ri_Env) (r : ri_row) (lv st : List Value) (L : ri_L) : ri_N := match st with
  | .int x :: st => if x.toInt < lo ∨ hi < x.toInt then some (some r.2.2.2.1, lv, st, L) else match ri_nth r.2.2.2.2.2.2.2 (x.toInt - lo).toNat with
    | some t => some (some t, lv, st, L)
    | none => none
  | .float b :: st => match ri_nth E b.toNat with
    | some (l0, h0) => if h0 < lo ∨ hi < l0 then some (some r.2.2.2.1, lv, st, L) else none
    | none => none
  | _ => none
def st_none (_ : ri_Env) (_ : ri_row) (_ _ : List Value) (_ : ri_L) : ri_N := none
def ri_sel (ins : Instr) : ri_Env → ri_row → List Value → List Value → ri_L → ri_N := match ins with
  | .iconst z => st_iconst z
  | .bipush z => st_bipush z
  | .sipush z => st_sipush z
  | .lconst z => st_lconst z
  | .ldc_w _ => st_ldc_w
  | .ldc2_w _ => st_ldc2_w
  | .iload_n i => st_iload_n i
  | .iload i => st_iload i
  | .lload_n i => st_lload_n i
  | .lload i => st_lload i
  | .aload_n i => st_aload_n i
  | .aload i => st_aload i
  | .istore_n i => st_istore_n i
  | .istore i => st_istore i
  | .lstore_n i => st_lstore_n i
  | .lstore i => st_lstore i
  | .astore_n i => st_astore_n i
  | .astore i => st_astore i
  | .iinc i z => st_iinc i z
  | .iadd => st_iadd
  | .isub => st_isub
  | .imul => st_imul
  | .iand => st_iand
  | .ixor => st_ixor
  | .ishl => st_ishl
  | .ishr => st_ishr
  | .iushr => st_iushr
  | .idiv => st_idiv
  | .irem => st_irem
  | .ineg => st_ineg
  | .ladd => st_ladd
  | .lmul => st_lmul
  | .i2l => st_i2l
  | .lcmp => st_lcmp
  | .dup => st_dup
  | .dup2 => st_dup2
  | .if_icmp c _ => st_if_icmp c
  | .ifCond c _ => st_ifCond c
  | .goto _ => st_goto
  | .getfield _ => st_getfield
  | .putfield _ => st_putfield
  | .iaload => st_iaload
  | .iastore => st_iastore
  | .laload => st_laload
  | .lastore => st_lastore
  | .aaload => st_aaload
  | .aastore => st_aastore
  | .arraylength => st_arraylength
  | .getstatic _ => st_getstatic
  | .new _ => st_new
  | .newarray ty => st_newarray ty
  | .anewarray _ => st_anewarray
  | .tableswitch _ lo hi _ => st_tableswitch lo hi
  | _ => st_none
def ri_stp (E : ri_Env) (r : ri_row) (lv : List Value) (st : List Value) (L : ri_L) : ri_N := ri_sel r.2.1 E r lv st L
end
