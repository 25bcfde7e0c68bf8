noncomputable section
abbrev am_E : Type := (Nat × vp_A) ⊕ (Nat × List Value)
abbrev am_H : Type := Nat → am_E
def am_df (ci : Nat) : List Value := match ci with
  | 0 => [.null, .int 0, .null, .null]
  | 1 => [.null]
  | 2 => [.null, .int 0]
  | 3 => [.null, .int 0, .int 0]
  | 4 => [.null, .int 0]
  | 5 => [.null, .null, .null, .null, .null, .int 0]
  | 6 => [.int 0, .int 0, .null, .null, .null, .int 0, .int 0, .int 0, .int 0, .int 0]
  | 7 => [.int 0, .null, .null, .null, .null]
  | 8 => [.null, .null, .null, .null, .null, .null, .null, .null, .null, .null, .null, .int 0, .int 0]
  | 9 => [.int 0, .int 0, .null, .int 0, .null, .null, .null, .null, .null, .int 0, .null, .int 0, .null, .int 0, .null, .int 0, .null, .int 0, .int 0, .int 0, .int 0, .null, .int 0, .null, .int 0, .null, .null, .null]
  | _ => []
/-! ===== a machine that the kernel can run: heaps are lists of lists, arrays are lists, known ints are naturals; ints may be unknown, within bounds ===== -/
abbrev ri_A : Type := List Nat ⊕ (List Int64 ⊕ List (Option Nat))
abbrev ri_E : Type := (Nat × ri_A) ⊕ (Nat × List Value)
/-- how many cells, how many slots, the cells in rows of eight -/
abbrev ri_L : Type := Nat × Nat × List (List ri_E)
def ri_nth {α : Type} (l : List α) : Nat → Option α := List.rec (motive := fun _ => Nat → Option α) (fun _ => none) (fun x _ ih n => Nat.rec (motive := fun _ => Option α) (some x) (fun m _ => ih m) n) l
theorem ri_nth_eq {α : Type} : ∀ (l : List α) (n : Nat), ri_nth l n = l[n]?
  | [], n => by simp [ri_nth]
  | x :: t, 0 => rfl
  | x :: t, n + 1 => by
    have := ri_nth_eq t n
    simp only [List.getElem?_cons_succ]
    exact this
def ri_upd {α : Type} (l : List α) : Nat → α → List α := List.rec (motive := fun _ => Nat → α → List α) (fun _ _ => []) (fun x t ih n v => Nat.rec (motive := fun _ => List α) (v :: t) (fun m _ => x :: ih m v) n) l
theorem ri_upd_eq {α : Type} : ∀ (l : List α) (n : Nat) (v : α), ri_upd l n v = l.set n v
  | [], n, v => by simp [ri_upd]
  | x :: t, 0, v => rfl
  | x :: t, n + 1, v => by
    have := ri_upd_eq t n v
    simp only [List.set_cons_succ]
    show x :: ri_upd t n v = _
    rw [this]
def ri_get (C : List (List ri_E)) (k : Nat) : Option ri_E := match ri_nth C (k / 8) with
  | some c => ri_nth c (k % 8)
  | none => none
def ri_put (C : List (List ri_E)) (k : Nat) (e : ri_E) : List (List ri_E) := match ri_nth C (k / 8) with
  | some c => ri_upd C (k / 8) (ri_upd c (k % 8) e)
  | none => C
def ri_va (x : ri_A) : vp_A := match x with
  | .inl l => (l.length, .inl (fun j => nI (l.getD j 0)))
  | .inr (.inl l) => (l.length, .inr (.inl (fun j => l.getD j 0)))
  | .inr (.inr l) => (l.length, .inr (.inr (.inr (.inr (fun j => l.getD j none)))))
def ri_e (e : ri_E) : am_E := match e with
  | .inl (t, x) => .inl (t, ri_va x)
  | .inr (c, fs) => .inr (c, fs)
def ri_h (L : ri_L) : am_H := fun k => match ri_get L.2.2 k with
  | some e => ri_e e
  | none => .inr (0, [])
def ri_fl {α : Type} (x : Int64) (k : Int64 → α) : α := Nat.rec (motive := fun _ => α) (k (Int64.ofNat 0)) (fun m _ => k (Int64.ofNat (m + 1))) x.toBitVec.toNat
theorem ri_fl_eq {α : Type} (x : Int64) (k : Int64 → α) : ri_fl x k = k x := by
  have e : Int64.ofNat x.toBitVec.toNat = x := by
    apply Int64.toBitVec_inj.mp
    show BitVec.ofNat 64 _ = _
    simp
  have h2 : ∀ m : Nat, (Nat.rec (motive := fun _ => α) (k (Int64.ofNat 0)) (fun m _ => k (Int64.ofNat (m + 1))) m : α) = k (Int64.ofNat m) := by
    intro m
    cases m <;> rfl
  unfold ri_fl
  rw [h2, e]
/-- a number as a plain literal -/
def ri_fn {α : Type} (x : Nat) (k : Nat → α) : α := Nat.rec (motive := fun _ => α) (k 0) (fun m _ => k (m + 1)) x
theorem ri_fn_eq {α : Type} (x : Nat) (k : Nat → α) : ri_fn x k = k x := by cases x <;> rfl
def ri_le (m : Nat) {α : Type} (l : List α) : Bool := match m with
  | 0 => true
  | m + 1 => (ri_nth l m).isSome
theorem ri_le_iff {m : Nat} {α : Type} {l : List α} : ri_le m l = true ↔ m ≤ l.length := by
  cases m with
  | zero => simp [ri_le]
  | succ m => simp [ri_le, ri_nth_eq]; omega
/-- locals: a list of values, .null where there is none -/
def ri_lv (ls : List Value) : List (Nat × Value) := (ls.zipIdx.filter (fun q => decide (q.1 ≠ .null))).map (fun q => (q.2, q.1))
theorem ri_lv_mem {ls : List Value} {i : Nat} {v : Value} : (i, v) ∈ ri_lv ls ↔ ls[i]? = some v ∧ v ≠ .null := by
  unfold ri_lv
  simp only [List.mem_map, List.mem_filter, decide_eq_true_eq]
  constructor
  · rintro ⟨⟨w, j⟩, ⟨h1, h2⟩, h3⟩
    cases h3
    rw [List.mem_zipIdx_iff_getElem?] at h1
    exact ⟨h1, h2⟩
  · rintro ⟨h1, h2⟩
    exact ⟨(v, i), ⟨by rw [List.mem_zipIdx_iff_getElem?]; exact h1, h2⟩, rfl⟩
def ri_c2 (v : Value) : Bool := match v with
  | .long _ => true
  | .double _ => true
  | _ => false
/-- a value of one word into place i: a value of two words at i - 1 goes -/
def ri_s1 (ls : List Value) (i : Nat) (v : Value) : List Value := match i with
  | 0 => ri_upd ls 0 v
  | i + 1 => match ri_nth ls i with
    | some w => if ri_c2 w then ri_upd (ri_upd ls i .null) (i + 1) v else ri_upd ls (i + 1) v
    | none => []
def ri_s2 (ls : List Value) (i : Nat) (v : Value) : List Value := ri_upd (ri_s1 ls i v) (i + 1) .null
abbrev ri_N : Type := Option (Option Nat × List Value × List Value × ri_L)
/-- an int on the stack: known or not -/
def ri_isI (v : Value) : Bool := match v with
  | .retAddr _ => true
  | .float b => Nat.ble b.toNat 1000
  | _ => false
def ri_isL (v : Value) : Bool := match v with
  | .long _ => true
  | .double _ => true
  | _ => false
abbrev ri_Env : Type := List (Int × Int)
def ri_sg (n : Nat) : Int := if n % 4294967296 < 2147483648 then ((n % 4294967296 : Nat) : Int) else ((n % 4294967296 : Nat) : Int) - 4294967296
def ri_iv (E : ri_Env) (v : Value) : Option (Int × Int) := match v with
  | .retAddr n => some (ri_sg n, ri_sg n)
  | .float b => ri_nth E b.toNat
  | _ => none
/-- what is known of a comparison -/
def ri_dec (c : ClassFile.Cond) (a b : Int × Int) : Option Bool := match c with
  | .eq => if a.2 < b.1 ∨ b.2 < a.1 then some false else if a.1 = b.1 ∧ a.2 = b.2 ∧ a.1 = a.2 then some true else none
  | .ne => if a.2 < b.1 ∨ b.2 < a.1 then some true else if a.1 = b.1 ∧ a.2 = b.2 ∧ a.1 = a.2 then some false else none
  | .lt => if a.2 < b.1 then some true else if b.2 ≤ a.1 then some false else none
  | .ge => if b.2 ≤ a.1 then some true else if a.2 < b.1 then some false else none
  | .gt => if b.2 < a.1 then some true else if a.2 ≤ b.1 then some false else none
  | .le => if a.2 ≤ b.1 then some true else if b.2 < a.1 then some false else none
def ri_b2 (n : Nat) : Nat := (n + 2147483648) % 4294967296
def ri_cmpn (c : ClassFile.Cond) (x z : Nat) : Bool := match c with
  | .eq => Nat.beq (x % 4294967296) (z % 4294967296)
  | .ne => !Nat.beq (x % 4294967296) (z % 4294967296)
  | .lt => Nat.blt (ri_b2 x) (ri_b2 z)
  | .ge => Nat.ble (ri_b2 z) (ri_b2 x)
  | .gt => Nat.blt (ri_b2 z) (ri_b2 x)
  | .le => Nat.ble (ri_b2 x) (ri_b2 z)
def ri_cmpv (E : ri_Env) (c : ClassFile.Cond) (v w : Value) : Option Bool := if ri_isI v && ri_isI w then match ri_iv E v, ri_iv E w with
    | some a, some b => ri_dec c a b
    | _, _ => none
    else none
def ri_cmp (E : ri_Env) (c : ClassFile.Cond) (v w : Value) : Option Bool := match v with
  | .retAddr x => match w with
    | .retAddr z => some (ri_cmpn c x z)
    | _ => ri_cmpv E c v w
  | _ => ri_cmpv E c v w
/-- an unknown number of a plan -/
def ri_p8 (E : ri_Env) (i : Nat) : Bool := Nat.ble i 900 && (match ri_nth E i with
  | some (lo, hi) => decide (0 ≤ lo ∧ hi ≤ 7)
  | none => false)
def ri_isP (E : ri_Env) (b : UInt32) : Bool := Nat.ble 2000 b.toNat && (Nat.ble b.toNat 2900 && ri_p8 E (b.toNat - 2000))
def ri_isC (E : ri_Env) (b : UInt32) : Bool := Nat.ble 3000 b.toNat && (Nat.ble b.toNat 3900 && ri_p8 E (b.toNat - 3000))
def ri_isPl (e : Option ri_E) (j x : Nat) : Bool := match e with
  | some (.inr (ci, fs)) => Nat.beq ci 2 && decide (fs = [.ref (91 + 2 * j), .retAddr x])
  | _ => false
/-- all plans are there and have x twists -/
def ri_pall (L : ri_L) (x : Nat) : Bool := Nat.ble 106 L.1 && (List.range 8).all (fun j => ri_isPl (ri_get L.2.2 (90 + 2 * j)) j x)
def ri_pcell (L : ri_L) : Option Nat := match ri_get L.2.2 90 with
  | some (.inr (_, [_, .retAddr x])) => if ri_pall L x then some x else none
  | _ => none
/-- an array of ints, known or of an unknown plan -/
def ri_isIA (E : ri_Env) (L : ri_L) (v : Value) : Bool := match v with
  | .ref a => Nat.blt a L.1 && (match ri_get L.2.2 a with
    | some (.inl (0, .inl _)) => true
    | _ => false)
  | .float b => ri_isC E b && (Nat.ble 106 L.1 && (List.range 8).all (fun j => match ri_get L.2.2 (91 + 2 * j) with
    | some (.inl (0, .inl _)) => true
    | _ => false))
  | _ => false
def ri_df (ci : Nat) : List Value := (am_df ci).map (fun v => match v with
  | .int _ => .retAddr 0
  | v => v)
def st_iconst (E : ri_Env) (r : ri_row) (lv st : List Value) (L : ri_L) : ri_N := some (none, lv, .retAddr r.2.2.2.1 :: st, L)
def st_lconst (E : ri_Env) (r : ri_row) (lv st : List Value) (L : ri_L) : ri_N := ri_fl (Int64.ofNat r.2.2.2.1) (fun x => some (none, lv, .long x :: st, L))
def st_iload (E : ri_Env) (r : ri_row) (lv st : List Value) (L : ri_L) : ri_N := match ri_nth lv r.2.1 with
  | some v => if ri_isI v then some (none, lv, v :: st, L) else none
  | none => none
def st_lload (E : ri_Env) (r : ri_row) (lv st : List Value) (L : ri_L) : ri_N := match ri_nth lv r.2.1 with
  | some v => if ri_isL v then some (none, lv, v :: st, L) else none
  | none => none
def st_aload (E : ri_Env) (r : ri_row) (lv st : List Value) (L : ri_L) : ri_N := match ri_nth lv r.2.1 with
  | some (.ref x) => some (none, lv, .ref x :: st, L)
  | some (.float b) => if Nat.ble 2000 b.toNat && Nat.ble b.toNat 3900 then some (none, lv, .float b :: st, L) else none
  | _ => none
def st_istore (E : ri_Env) (r : ri_row) (lv st : List Value) (L : ri_L) : ri_N := match st with
  | v :: st => if ri_isI v then some (none, ri_s1 lv r.2.1 v, st, L) else none
  | _ => none
def st_lstore (E : ri_Env) (r : ri_row) (lv st : List Value) (L : ri_L) : ri_N := match st with
  | v :: st => if ri_isL v then some (none, ri_s2 lv r.2.1 v, st, L) else none
  | _ => none
def st_astore (E : ri_Env) (r : ri_row) (lv st : List Value) (L : ri_L) : ri_N := match st with
  | .ref x :: st => some (none, ri_s1 lv r.2.1 (.ref x), st, L)
  | .float b :: st => if Nat.ble 2000 b.toNat && Nat.ble b.toNat 3900 then some (none, ri_s1 lv r.2.1 (.float b), st, L) else none
  | _ => none
def st_iinc (E : ri_Env) (r : ri_row) (lv st : List Value) (L : ri_L) : ri_N := match ri_nth lv r.2.1 with
  | some (.retAddr x) => ri_fn ((x + r.2.2.2.1) % 4294967296) (fun x => some (none, ri_s1 lv r.2.1 (.retAddr x), st, L))
  | _ => none
def st_iadd (E : ri_Env) (r : ri_row) (lv st : List Value) (L : ri_L) : ri_N := match st with
  | .retAddr z :: .retAddr x :: st => ri_fn ((x + z) % 4294967296) (fun x => some (none, lv, .retAddr x :: st, L))
  | _ => none
def st_isub (E : ri_Env) (r : ri_row) (lv st : List Value) (L : ri_L) : ri_N := match st with
  | .retAddr z :: .retAddr x :: st => ri_fn ((x + (4294967296 - z % 4294967296)) % 4294967296) (fun x => some (none, lv, .retAddr x :: st, L))
  | _ => none
def st_imul (E : ri_Env) (r : ri_row) (lv st : List Value) (L : ri_L) : ri_N := match st with
  | .retAddr z :: .retAddr x :: st => ri_fn ((x * z) % 4294967296) (fun x => some (none, lv, .retAddr x :: st, L))
  | _ => none
def st_iand (E : ri_Env) (r : ri_row) (lv st : List Value) (L : ri_L) : ri_N := match st with
  | .retAddr z :: .retAddr x :: st => ri_fn (Nat.land x z) (fun x => some (none, lv, .retAddr x :: st, L))
  | _ => none
def st_ixor (E : ri_Env) (r : ri_row) (lv st : List Value) (L : ri_L) : ri_N := match st with
  | .retAddr z :: .retAddr x :: st => ri_fn (Nat.xor x z) (fun x => some (none, lv, .retAddr x :: st, L))
  | _ => none
def st_ishl (E : ri_Env) (r : ri_row) (lv st : List Value) (L : ri_L) : ri_N := match st with
  | .retAddr z :: .retAddr x :: st => if Nat.blt z 32 && Nat.blt (x * 2 ^ z) 4294967296 then ri_fn (x * 2 ^ z) (fun x => some (none, lv, .retAddr x :: st, L)) else none
  | _ => none
def st_iushr (E : ri_Env) (r : ri_row) (lv st : List Value) (L : ri_L) : ri_N := match st with
  | .retAddr z :: .retAddr x :: st => if Nat.blt z 32 && Nat.blt x 4294967296 then ri_fn (x / 2 ^ z) (fun x => some (none, lv, .retAddr x :: st, L)) else none
  | _ => none
def st_idiv (E : ri_Env) (r : ri_row) (lv st : List Value) (L : ri_L) : ri_N := match st with
  | .retAddr z :: .retAddr x :: st => if Nat.blt x 2147483648 && (Nat.blt 0 z && Nat.blt z 2147483648) then ri_fn (x / z) (fun x => some (none, lv, .retAddr x :: st, L)) else none
  | _ => none
def st_irem (E : ri_Env) (r : ri_row) (lv st : List Value) (L : ri_L) : ri_N := match st with
  | .retAddr z :: .retAddr x :: st => if Nat.blt x 2147483648 && (Nat.blt 0 z && Nat.blt z 2147483648) then ri_fn (x % z) (fun x => some (none, lv, .retAddr x :: st, L)) else none
  | _ => none
def st_ishr (E : ri_Env) (r : ri_row) (lv st : List Value) (L : ri_L) : ri_N := match st with
  | .retAddr z :: .retAddr x :: st => if Nat.blt z 32 && Nat.blt x 2147483648 then ri_fn (x / 2 ^ z) (fun x => some (none, lv, .retAddr x :: st, L)) else none
  | .retAddr z :: .float b :: st => if Nat.beq z 0 && Nat.ble b.toNat 1000 then some (none, lv, .float b :: st, L) else none
  | _ => none
def st_ineg (E : ri_Env) (r : ri_row) (lv st : List Value) (L : ri_L) : ri_N := match st with
  | .retAddr x :: st => ri_fn ((4294967296 - x % 4294967296) % 4294967296) (fun x => some (none, lv, .retAddr x :: st, L))
  | _ => none
def st_ladd (E : ri_Env) (r : ri_row) (lv st : List Value) (L : ri_L) : ri_N := match st with
  | .long z :: .long x :: st => ri_fl (x + z) (fun x => some (none, lv, .long x :: st, L))
  | _ => none
def st_lmul (E : ri_Env) (r : ri_row) (lv st : List Value) (L : ri_L) : ri_N := match st with
  | .long z :: .long x :: st => ri_fl (x * z) (fun x => some (none, lv, .long x :: st, L))
  | _ => none
def st_i2l (E : ri_Env) (r : ri_row) (lv st : List Value) (L : ri_L) : ri_N := match st with
  | .retAddr x :: st => ri_fl (nI x).toInt64 (fun x => some (none, lv, .long x :: st, L))
  | .float b :: st => if Nat.ble b.toNat 1000 then some (none, lv, .double b.toUInt64 :: st, L) else none
  | _ => none
def st_lcmp (E : ri_Env) (r : ri_row) (lv st : List Value) (L : ri_L) : ri_N := match st with
  | .long z :: .long x :: st => if z < x then some (none, lv, .retAddr 1 :: st, L) else if x = z then some (none, lv, .retAddr 0 :: st, L) else some (none, lv, .retAddr 4294967295 :: st, L)
  | .long z :: .double b :: st => match ri_nth E b.toNat with
    | some (lo, hi) => if hi < z.toInt then some (none, lv, .retAddr 4294967295 :: st, L) else if z.toInt < lo then some (none, lv, .retAddr 1 :: st, L) else if lo = z.toInt ∧ hi = z.toInt then some (none, lv, .retAddr 0 :: st, L) else none
    | none => none
  | _ => none
def st_dup (E : ri_Env) (r : ri_row) (lv st : List Value) (L : ri_L) : ri_N := match st with
  | .retAddr x :: st => some (none, lv, .retAddr x :: .retAddr x :: st, L)
  | .ref x :: st => some (none, lv, .ref x :: .ref x :: st, L)
  | _ => none
def st_dup2 (E : ri_Env) (r : ri_row) (lv st : List Value) (L : ri_L) : ri_N := match st with
  | .retAddr x :: .ref z :: st => some (none, lv, .retAddr x :: .ref z :: .retAddr x :: .ref z :: st, L)
  | _ => none
def st_icmp_eq (E : ri_Env) (r : ri_row) (lv st : List Value) (L : ri_L) : ri_N := match st with
  | z :: x :: st => match ri_cmp E .eq x z with
    | some true => some (some r.2.1, lv, st, L)
    | some false => some (none, lv, st, L)
    | none => none
  | _ => none
def st_if_eq (E : ri_Env) (r : ri_row) (lv st : List Value) (L : ri_L) : ri_N := match st with
  | x :: st => match ri_cmp E .eq x (.retAddr 0) with
    | some true => some (some r.2.1, lv, st, L)
    | some false => some (none, lv, st, L)
    | none => none
  | _ => none
def st_icmp_ne (E : ri_Env) (r : ri_row) (lv st : List Value) (L : ri_L) : ri_N := match st with
  | z :: x :: st => match ri_cmp E .ne x z with
    | some true => some (some r.2.1, lv, st, L)
    | some false => some (none, lv, st, L)
    | none => none
  | _ => none
def st_if_ne (E : ri_Env) (r : ri_row) (lv st : List Value) (L : ri_L) : ri_N := match st with
  | x :: st => match ri_cmp E .ne x (.retAddr 0) with
    | some true => some (some r.2.1, lv, st, L)
    | some false => some (none, lv, st, L)
    | none => none
  | _ => none
def st_icmp_lt (E : ri_Env) (r : ri_row) (lv st : List Value) (L : ri_L) : ri_N := match st with
  | z :: x :: st => match ri_cmp E .lt x z with
    | some true => some (some r.2.1, lv, st, L)
    | some false => some (none, lv, st, L)
    | none => none
  | _ => none
def st_if_lt (E : ri_Env) (r : ri_row) (lv st : List Value) (L : ri_L) : ri_N := match st with
  | x :: st => match ri_cmp E .lt x (.retAddr 0) with
    | some true => some (some r.2.1, lv, st, L)
    | some false => some (none, lv, st, L)
    | none => none
  | _ => none
def st_icmp_ge (E : ri_Env) (r : ri_row) (lv st : List Value) (L : ri_L) : ri_N := match st with
  | z :: x :: st => match ri_cmp E .ge x z with
    | some true => some (some r.2.1, lv, st, L)
    | some false => some (none, lv, st, L)
    | none => none
  | _ => none
def st_if_ge (E : ri_Env) (r : ri_row) (lv st : List Value) (L : ri_L) : ri_N := match st with
  | x :: st => match ri_cmp E .ge x (.retAddr 0) with
    | some true => some (some r.2.1, lv, st, L)
    | some false => some (none, lv, st, L)
    | none => none
  | _ => none
def st_icmp_gt (E : ri_Env) (r : ri_row) (lv st : List Value) (L : ri_L) : ri_N := match st with
  | z :: x :: st => match ri_cmp E .gt x z with
    | some true => some (some r.2.1, lv, st, L)
    | some false => some (none, lv, st, L)
    | none => none
  | _ => none
def st_if_gt (E : ri_Env) (r : ri_row) (lv st : List Value) (L : ri_L) : ri_N := match st with
  | x :: st => match ri_cmp E .gt x (.retAddr 0) with
    | some true => some (some r.2.1, lv, st, L)
    | some false => some (none, lv, st, L)
    | none => none
  | _ => none
def st_icmp_le (E : ri_Env) (r : ri_row) (lv st : List Value) (L : ri_L) : ri_N := match st with
  | z :: x :: st => match ri_cmp E .le x z with
    | some true => some (some r.2.1, lv, st, L)
    | some false => some (none, lv, st, L)
    | none => none
  | _ => none
def st_if_le (E : ri_Env) (r : ri_row) (lv st : List Value) (L : ri_L) : ri_N := match st with
  | x :: st => match ri_cmp E .le x (.retAddr 0) with
    | some true => some (some r.2.1, lv, st, L)
    | some false => some (none, lv, st, L)
    | none => none
  | _ => none
def st_goto (E : ri_Env) (r : ri_row) (lv st : List Value) (L : ri_L) : ri_N := some (some r.2.1, lv, st, L)
def st_getfield (E : ri_Env) (r : ri_row) (lv st : List Value) (L : ri_L) : ri_N := match st with
  | .ref a :: st => match ri_get L.2.2 a with
    | some (.inr (ci, fs)) => if Nat.ble L.1 a then none else if Nat.beq ci r.2.1 then match ri_nth fs r.2.2.1 with
        | some v => some (none, lv, v :: st, L)
        | none => none
      else none
    | _ => none
  | .float b :: st => if ri_isP E b && Nat.beq r.2.1 2 then match ri_pcell L with
    | some x => if Nat.beq r.2.2.1 1 then some (none, lv, .retAddr x :: st, L) else if Nat.beq r.2.2.1 0 then some (none, lv, .float (UInt32.ofNat (b.toNat + 1000)) :: st, L) else none
    | none => none
    else none
  | _ => none
def st_putfield (E : ri_Env) (r : ri_row) (lv st : List Value) (L : ri_L) : ri_N := match st with
  | .retAddr x :: .ref a :: st => match ri_get L.2.2 a with
    | some (.inr (ci, fs)) => if Nat.ble L.1 a then none else if Nat.beq ci r.2.1 && ((Nat.beq r.2.2.2.1 0 || (Nat.beq r.2.2.2.1 1 && Nat.ble x 1)) && (ri_nth fs r.2.2.1).isSome) then some (none, lv, st, (L.1, L.2.1, ri_put L.2.2 a (.inr (ci, ri_upd fs r.2.2.1 (.retAddr x))))) else none
    | _ => none
  | .ref x :: .ref a :: st => match ri_get L.2.2 a with
    | some (.inr (ci, fs)) => if Nat.ble L.1 a then none else if Nat.beq ci r.2.1 && (Nat.beq r.2.2.2.1 2 && (ri_nth fs r.2.2.1).isSome) then some (none, lv, st, (L.1, L.2.1, ri_put L.2.2 a (.inr (ci, ri_upd fs r.2.2.1 (.ref x))))) else none
    | _ => none
  | .retAddr x :: .float b :: st => if ri_isP E b && (Nat.beq r.2.1 2 && (Nat.beq r.2.2.1 1 && (Nat.beq r.2.2.2.1 0 && ri_pall L x))) then some (none, lv, st, L) else none
  | _ => none
def st_iaload (E : ri_Env) (r : ri_row) (lv st : List Value) (L : ri_L) : ri_N := match st with
  | .retAddr i :: .ref a :: st => match ri_get L.2.2 a with
    | some (.inl (0, .inl l)) => if Nat.ble L.1 a then none else if Nat.ble 2147483648 i then none else match ri_nth l i with
        | some x => some (none, lv, .retAddr x :: st, L)
        | none => none
    | _ => none
  | .retAddr i :: .float b :: st => if b = 4294967295 then match ri_nth [9, 10, 5, 6, 1, 2, 0, 0, 3, 4, 7, 8, 11] i with
      | some x => some (none, lv, .retAddr x :: st, L)
      | none => none
    else none
  | .float b :: .ref a :: st => match ri_get L.2.2 a with
    | some (.inl (0, .inl l)) => if Nat.ble L.1 a then none else match ri_nth l 0 with
      | some x => if ri_p8 E b.toNat && (List.range 8).all (fun j => decide (ri_nth l j = some x)) then some (none, lv, .retAddr x :: st, L) else none
      | none => none
    | _ => none
  | _ => none
def st_iastore (E : ri_Env) (r : ri_row) (lv st : List Value) (L : ri_L) : ri_N := match st with
  | .retAddr x :: .retAddr i :: .ref a :: st => match ri_get L.2.2 a with
    | some (.inl (0, .inl l)) => if Nat.ble L.1 a then none else if Nat.ble 2147483648 i then none else if (ri_nth l i).isSome then some (none, lv, st, (L.1, L.2.1, ri_put L.2.2 a (.inl (0, .inl (ri_upd l i x))))) else none
    | _ => none
  | .retAddr x :: .float b :: .ref a :: st => match ri_get L.2.2 a with
    | some (.inl (0, .inl l)) => if Nat.ble L.1 a then none else if ri_p8 E b.toNat && (List.range 8).all (fun j => decide (ri_nth l j = some x)) then some (none, lv, st, L) else none
    | _ => none
  | _ => none
def st_laload (E : ri_Env) (r : ri_row) (lv st : List Value) (L : ri_L) : ri_N := match st with
  | .retAddr i :: .ref a :: st => match ri_get L.2.2 a with
    | some (.inl (1, .inr (.inl l))) => if Nat.ble L.1 a then none else if Nat.ble 2147483648 i then none else match ri_nth l i with
        | some x => some (none, lv, .long x :: st, L)
        | none => none
    | _ => none
  | _ => none
def st_lastore (E : ri_Env) (r : ri_row) (lv st : List Value) (L : ri_L) : ri_N := match st with
  | .long x :: .retAddr i :: .ref a :: st => match ri_get L.2.2 a with
    | some (.inl (1, .inr (.inl l))) => if Nat.ble L.1 a then none else if Nat.ble 2147483648 i then none else if (ri_nth l i).isSome then some (none, lv, st, (L.1, L.2.1, ri_put L.2.2 a (.inl (1, .inr (.inl (ri_upd l i x)))))) else none
    | _ => none
  | _ => none
def st_aaload (E : ri_Env) (r : ri_row) (lv st : List Value) (L : ri_L) : ri_N := match st with
  | .retAddr i :: .ref a :: st => match ri_get L.2.2 a with
    | some (.inl (t, .inr (.inr l))) => if Nat.ble L.1 a then none else if Nat.ble 2 t && Nat.ble t 4 then if Nat.ble 2147483648 i then none else match ri_nth l i with
        | some (some b) => some (none, lv, .ref b :: st, L)
        | _ => none
      else none
    | _ => none
  | .float b :: .ref a :: st => match ri_get L.2.2 a with
    | some (.inl (4, .inr (.inr l))) => if Nat.ble L.1 a then none else if ri_p8 E b.toNat && (List.range 8).all (fun j => decide (ri_nth l j = some (some (90 + 2 * j)))) then some (none, lv, .float (UInt32.ofNat (b.toNat + 2000)) :: st, L) else none
    | _ => none
  | _ => none
def st_aastore (E : ri_Env) (r : ri_row) (lv st : List Value) (L : ri_L) : ri_N := match st with
  | .ref b :: .retAddr i :: .ref a :: st => match ri_get L.2.2 a, ri_get L.2.2 b with
    | some (.inl (t, .inr (.inr l))), some (.inr (ci, _)) => if Nat.ble L.1 a || Nat.ble L.1 b then none else if (Nat.beq t 2 && Nat.beq ci 4) || ((Nat.beq t 3 && Nat.beq ci 3) || (Nat.beq t 4 && Nat.beq ci 2)) then if Nat.ble 2147483648 i then none else if (ri_nth l i).isSome then some (none, lv, st, (L.1, L.2.1, ri_put L.2.2 a (.inl (t, .inr (.inr (ri_upd l i (some b))))))) else none else none
    | _, _ => none
  | _ => none
def st_arraylength (E : ri_Env) (r : ri_row) (lv st : List Value) (L : ri_L) : ri_N := match st with
  | .ref a :: st => match ri_get L.2.2 a with
    | some (.inl (0, .inl l)) => if Nat.ble L.1 a then none else ri_fn l.length (fun x => some (none, lv, .retAddr x :: st, L))
    | _ => none
  | .float b :: st => if b = 4294967295 then some (none, lv, .retAddr 13 :: st, L) else none
  | _ => none
def st_getstatic (E : ri_Env) (r : ri_row) (lv st : List Value) (L : ri_L) : ri_N := some (none, lv, .float 4294967295 :: st, L)
def st_new (E : ri_Env) (r : ri_row) (lv st : List Value) (L : ri_L) : ri_N := if (ri_get L.2.2 L.1).isSome then ri_fn (L.1 + 1) (fun n => ri_fn (L.2.1 + (ri_df r.2.1).length) (fun s => some (none, lv, .ref L.1 :: st, (n, s, ri_put L.2.2 L.1 (.inr (r.2.1, ri_df r.2.1)))))) else none
def st_newi (E : ri_Env) (r : ri_row) (lv st : List Value) (L : ri_L) : ri_N := match st with
  | .retAddr x :: st => if Nat.ble x 10000 && (ri_get L.2.2 L.1).isSome then ri_fn (L.1 + 1) (fun n => ri_fn (L.2.1 + x) (fun s => some (none, lv, .ref L.1 :: st, (n, s, ri_put L.2.2 L.1 (.inl (0, .inl (List.replicate x 0))))))) else none
  | _ => none
def st_newl (E : ri_Env) (r : ri_row) (lv st : List Value) (L : ri_L) : ri_N := match st with
  | .retAddr x :: st => if Nat.ble x 10000 && (ri_get L.2.2 L.1).isSome then ri_fn (L.1 + 1) (fun n => ri_fn (L.2.1 + x) (fun s => some (none, lv, .ref L.1 :: st, (n, s, ri_put L.2.2 L.1 (.inl (1, .inr (.inl (List.replicate x 0)))))))) else none
  | _ => none
def st_newq (E : ri_Env) (r : ri_row) (lv st : List Value) (L : ri_L) : ri_N := match st with
  | .retAddr x :: st => if Nat.ble x 10000 && (ri_get L.2.2 L.1).isSome then ri_fn (L.1 + 1) (fun n => ri_fn (L.2.1 + x) (fun s => some (none, lv, .ref L.1 :: st, (n, s, ri_put L.2.2 L.1 (.inl (r.2.1, .inr (.inr (List.replicate x none)))))))) else none
  | _ => none
def st_table (E : ri_Env) (r : ri_row) (lv st : List Value) (L : ri_L) : ri_N := match st with
  | .retAddr x :: st => if Nat.ble 2147483648 x then none else match ri_nth r.2.2.2.2.1 x with
    | some t => some (some t, lv, st, L)
    | none => some (some r.2.1, lv, st, L)
  | .float b :: st => if Nat.ble b.toNat 1000 then match ri_nth E b.toNat with
    | some (l0, h0) => if h0 < 0 ∨ (r.2.2.2.2.1.length : Int) ≤ l0 then some (some r.2.1, lv, st, L) else none
    | none => none
    else none
  | _ => none
abbrev ri_V : Type := Option (Option Value × ri_L)
abbrev ri_K : Type := List ri_row → List Value → List Value → ri_L → ri_V
abbrev ri_Cl : Type := Nat → List Value → ri_L → ri_V
abbrev ri_G : Type := ri_Env → ri_Cl → List ri_row → ri_K → ri_row → List ri_row → List Value → List Value → ri_L → ri_V
def ri_drp {α : Type} (n : Nat) : List α → List α := Nat.rec (motive := fun _ => List α → List α) (fun l => l) (fun _ ih l => List.rec (motive := fun _ => List α) [] (fun _ t _ => ih t) l) n
theorem ri_drp_eq {α : Type} : ∀ (n : Nat) (l : List α), ri_drp n l = l.drop n
  | 0, l => rfl
  | n + 1, [] => rfl
  | n + 1, x :: t => by
    show ri_drp n t = _
    rw [ri_drp_eq n t]
    rfl
def ri_cnt (l : List Value) : Nat := List.rec (motive := fun _ => Nat) 0 (fun _ _ ih => ih + 1) l
theorem ri_cnt_eq : ∀ l : List Value, ri_cnt l = l.length
  | [] => rfl
  | x :: t => by
    show ri_cnt t + 1 = _
    rw [ri_cnt_eq t]
    rfl
theorem ri_cnt_cat : ∀ l : List Value, (l.map fun v => v.category).sum ≤ 2 * ri_cnt l
  | [] => Nat.le_refl _
  | x :: t => by
    have h := ri_cnt_cat t
    have h2 : x.category ≤ 2 := by cases x <;> simp [Value.category]
    show (List.map (fun v : Value => v.category) (x :: t)).sum ≤ 2 * (ri_cnt t + 1)
    simp only [List.map_cons, List.sum_cons]
    omega
/-- n values off the stack, in their order, and the rest -/
def ri_spl (n : Nat) : List Value → List Value → Option (List Value × List Value) := Nat.rec (motive := fun _ => List Value → List Value → Option (List Value × List Value)) (fun acc st => some (acc, st)) (fun _ ih acc st => List.rec (motive := fun _ => Option (List Value × List Value)) none (fun v t _ => ih (v :: acc) t) st) n
theorem ri_spl_ok : ∀ (n : Nat) (acc st as rest : List Value), ri_spl n acc st = some (as, rest) → ∃ bs : List Value, as = bs ++ acc ∧ st = bs.reverse ++ rest ∧ bs.length = n
  | 0, acc, st, as, rest, h => by
    have h : some (acc, st) = some (as, rest) := h
    cases h
    exact ⟨[], rfl, rfl, rfl⟩
  | n + 1, acc, [], as, rest, h => by cases h
  | n + 1, acc, v :: t, as, rest, h => by
    obtain ⟨bs, h1, h2, h3⟩ := ri_spl_ok n (v :: acc) t as rest h
    exact ⟨bs ++ [v], by rw [h1]; simp, by rw [h2]; simp, by simp [h3]⟩
def gs_s (f : ri_Env → ri_row → List Value → List Value → ri_L → ri_N) (E : ri_Env) (_ : ri_Cl) (tb : List ri_row) (ih : ri_K) (r : ri_row) (nx : List ri_row) (lv st : List Value) (L : ri_L) : ri_V := match f E r lv st L with
  | some (none, lv, st, L) => ih nx lv st L
  | some (some t, lv, st, L) => ih (ri_drp t tb) lv st L
  | none => none
def gs_ireturn (_ : ri_Env) (_ : ri_Cl) (_ : List ri_row) (_ : ri_K) (r : ri_row) (_ : List ri_row) (_ st : List Value) (L : ri_L) : ri_V := match st with
  | [.retAddr v] => if Nat.beq r.2.2.1 0 || Nat.ble v 1 then some (some (.retAddr v), L) else none
  | _ => none
def gs_lreturn (_ : ri_Env) (_ : ri_Cl) (_ : List ri_row) (_ : ri_K) (_ : ri_row) (_ : List ri_row) (_ st : List Value) (L : ri_L) : ri_V := match st with
  | [.long v] => some (some (.long v), L)
  | _ => none
def gs_return (_ : ri_Env) (_ : ri_Cl) (_ : List ri_row) (_ : ri_K) (_ : ri_row) (_ : List ri_row) (_ st : List Value) (L : ri_L) : ri_V := match st with
  | [] => some (none, L)
  | _ => none
def ri_app (v : Option Value) (rest : List Value) : List Value := match v with
  | some v => v :: rest
  | none => rest
def gs_virtual (E : ri_Env) (callee : ri_Cl) (_ : List ri_row) (ih : ri_K) (r : ri_row) (nx : List ri_row) (lv st : List Value) (L : ri_L) : ri_V := match ri_spl r.2.2.2.1 [] st with
  | some (as, .ref a :: rest) => match ri_get L.2.2 a with
    | some (.inr (ci, _)) => if Nat.ble L.1 a then none else if Nat.beq ci r.2.2.1 && Nat.ble (ri_cnt rest) 4 then match callee r.2.1 (.ref a :: as) L with
        | some (v, L2) => ih nx lv (ri_app v rest) L2
        | none => none
      else none
    | _ => none
  | some (as, .float b :: rest) => if ri_isP E b && (Nat.beq r.2.2.1 2 && ((ri_pcell L).isSome && Nat.ble (ri_cnt rest) 4)) then match callee r.2.1 (.float b :: as) L with
      | some (v, L2) => ih nx lv (ri_app v rest) L2
      | none => none
    else none
  | _ => none
def ri_cpn (n : Nat) : List Nat → List Nat → List Nat := Nat.rec (motive := fun _ => List Nat → List Nat → List Nat) (fun _ l2 => l2) (fun _ ih src l2 => List.rec (motive := fun _ => List Nat) [] (fun y s _ => List.rec (motive := fun _ => List Nat) [] (fun _ t _ => y :: ih s t) l2) src) n
def ri_cpf (dp : Nat) (n : Nat) (src : List Nat) : List Nat → List Nat := Nat.rec (motive := fun _ => List Nat → List Nat) (fun l2 => ri_cpn n src l2) (fun _ ih l2 => List.rec (motive := fun _ => List Nat) [] (fun x t _ => x :: ih t) l2) dp
theorem ri_cpn_eq : ∀ (n : Nat) (s l : List Nat), n ≤ s.length → n ≤ l.length → ri_cpn n s l = s.take n ++ l.drop n
  | 0, s, l, _, _ => by
    show l = _
    simp
  | n + 1, [], l, h, _ => by simp at h
  | n + 1, y :: s, [], _, h => by simp at h
  | n + 1, y :: s, x :: t, h1, h2 => by
    show y :: ri_cpn n s t = _
    rw [ri_cpn_eq n s t (by simpa using h1) (by simpa using h2)]
    simp
theorem ri_cpf_eq : ∀ (dp n : Nat) (s l : List Nat), n ≤ s.length → dp + n ≤ l.length → ri_cpf dp n s l = l.take dp ++ (s.take n ++ l.drop (dp + n))
  | 0, n, s, l, h1, h2 => by
    show ri_cpn n s l = _
    rw [ri_cpn_eq n s l h1 (by omega)]
    simp
  | dp + 1, n, s, [], _, h2 => by simp at h2
  | dp + 1, n, s, x :: t, h1, h2 => by
    show x :: ri_cpf dp n s t = _
    rw [ri_cpf_eq dp n s t h1 (by simp at h2; omega)]
    rw [show dp + 1 + n = (dp + n) + 1 by omega]
    simp
def ri_copy (st : List Value) (L : ri_L) : Option (List Value × ri_L) := match st with
  | .retAddr x :: .retAddr dp :: .ref b :: .retAddr sp :: .ref a :: st => match ri_get L.2.2 a, ri_get L.2.2 b with
    | some (.inl (0, .inl l1)), some (.inl (0, .inl l2)) => if Nat.ble L.1 a || Nat.ble L.1 b then none else if Nat.ble 100000 sp || (Nat.ble 100000 dp || Nat.ble 100000 x) then none else if ri_le (sp + x) l1 && (ri_le (dp + x) l2 && Nat.ble (ri_cnt st) 4) then some (st, (L.1, L.2.1, ri_put L.2.2 b (.inl (0, .inl (ri_cpf dp x (ri_drp sp l1) l2))))) else none
    | _, _ => none
  | _ => none
/-- nothing is copied -/
def ri_copy0 (E : ri_Env) (st : List Value) (L : ri_L) : Option (List Value × ri_L) := match st with
  | .retAddr x :: .retAddr dp :: v2 :: .retAddr sp :: v1 :: st => if Nat.beq x 0 && (Nat.beq dp 0 && (Nat.beq sp 0 && (ri_isIA E L v1 && (ri_isIA E L v2 && Nat.ble (ri_cnt st) 4)))) then some (st, L) else none
  | _ => none
def ri_mth (b : Nat) (st : List Value) : Option (Nat × List Value) := match st with
  | .retAddr z :: st => if Nat.beq b 5 then some (if Nat.blt (z % 4294967296) 2147483648 then z else (4294967296 - z % 4294967296) % 4294967296, st) else match st with
    | .retAddr x :: st => if Nat.beq b 3 then some (if ri_cmpn .lt x z then z else x, st) else if Nat.beq b 4 then some (if ri_cmpn .lt z x then z else x, st) else none
    | _ => none
  | _ => none
def gs_static (E : ri_Env) (callee : ri_Cl) (_ : List ri_row) (ih : ri_K) (r : ri_row) (nx : List ri_row) (lv st : List Value) (L : ri_L) : ri_V := if Nat.beq r.2.2.1 2 then match ri_copy st L with
    | some (st, L) => ih nx lv st L
    | none => match ri_copy0 E st L with
      | some (st, L) => ih nx lv st L
      | none => none
  else if Nat.ble 3 r.2.2.1 then match ri_mth r.2.2.1 st with
    | some (x, st) => if Nat.ble (ri_cnt st) 4 then ri_fn x (fun x => ih nx lv (.retAddr x :: st) L) else none
    | none => none
  else match ri_spl r.2.2.2.1 [] st with
    | some (as, rest) => if Nat.ble (ri_cnt rest) 4 then match callee r.2.1 as L with
        | some (v, L2) => ih nx lv (ri_app v rest) L2
        | none => none
      else none
    | none => none
def gs_special (_ : ri_Env) (callee : ri_Cl) (_ : List ri_row) (ih : ri_K) (r : ri_row) (nx : List ri_row) (lv st : List Value) (L : ri_L) : ri_V := if Nat.beq r.2.2.1 1 then match st with
    | .ref a :: st => if Nat.ble (ri_cnt st) 4 then ih nx lv st L else none
    | _ => none
  else match ri_spl r.2.2.2.1 [] st with
  | some (as, .ref a :: rest) => if Nat.ble (ri_cnt rest) 4 then match callee r.2.1 (.ref a :: as) L with
      | some (v, L2) => ih nx lv (ri_app v rest) L2
      | none => none
    else none
  | _ => none
def gs_none (_ : ri_Env) (_ : ri_Cl) (_ : List ri_row) (_ : ri_K) (_ : ri_row) (_ : List ri_row) (_ _ : List Value) (_ : ri_L) : ri_V := none
def ri_fns : List ri_G := [gs_s st_aload, gs_s st_iload, gs_s st_iconst, gs_s st_getfield, gs_virtual, gs_ireturn, gs_s st_goto, gs_s st_iadd, gs_s st_iaload, gs_s st_istore, gs_s st_isub, gs_s st_if_eq, gs_s st_if_ne, gs_s st_icmp_ge, gs_s st_putfield, gs_s st_imul, gs_s st_iinc, gs_static, gs_s st_icmp_ne, gs_s st_icmp_eq, gs_s st_aaload, gs_return, gs_s st_iastore, gs_s st_dup, gs_s st_i2l, gs_s st_icmp_gt, gs_s st_icmp_lt, gs_s st_icmp_le, gs_s st_if_lt, gs_s st_if_le, gs_s st_if_ge, gs_s st_if_gt, gs_s st_ineg, gs_s st_iand, gs_s st_irem, gs_s st_ishr, gs_s st_idiv, gs_s st_arraylength, gs_s st_lconst, gs_s st_lload, gs_s st_lstore, gs_s st_astore, gs_s st_lcmp, gs_s st_ladd, gs_s st_lmul, gs_s st_ixor, gs_s st_ishl, gs_s st_iushr, gs_s st_getstatic, gs_s st_new, gs_s st_newi, gs_s st_newl, gs_s st_newq, gs_s st_aastore, gs_s st_laload, gs_s st_lastore, gs_s st_dup2, gs_s st_table, gs_lreturn, gs_special]
def ri_go1 (E : ri_Env) (callee : ri_Cl) (tb : List ri_row) (ih : ri_K) (cur : List ri_row) : List Value → List Value → ri_L → ri_V := List.rec (motive := fun _ => List Value → List Value → ri_L → ri_V) (fun _ _ _ => none) (fun r nx _ lv st L => ri_nthD gs_none ri_fns r.1 E callee tb ih r nx lv st L) cur
def ri_go (E : ri_Env) (callee : ri_Cl) (tb : List ri_row) (f : Nat) : ri_K := Nat.rec (motive := fun _ => ri_K) (fun _ _ _ _ => none) (fun _ ih => ri_go1 E callee tb ih) f
/-- the locals at a method's entry -/
def ri_ls (as : List Value) : List Value := List.rec (motive := fun _ => List Value) [] (fun v _ ih => if ri_c2 v then v :: .null :: ih else v :: ih) as
def ri_D (E : ri_Env) (M : Nat → ri_mi) (F : Nat) (d : Nat) : ri_Cl := Nat.rec (motive := fun _ => ri_Cl) (fun _ _ _ => none) (fun _ ih j as L => if Nat.ble (ri_ls as).length (M j).1.2.2.1 then ri_go E ih (M j).2.2.2 F (M j).2.2.2 (ri_ls as ++ List.replicate ((M j).1.2.2.1 - (ri_ls as).length) .null) [] L else none) d
end
