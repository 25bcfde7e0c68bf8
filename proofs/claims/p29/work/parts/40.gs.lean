noncomputable section
/-! ===== the heap as two tables of whole numbers ===== -/
abbrev gs_F : Type := Nat → Nat → Int
def gs_up (F : gs_F) (a j : Nat) (z : Int) : gs_F := fun b k => if b = a ∧ k = j then z else F b k
def gs_cp (A : gs_F) (a b sp dp n : Nat) : gs_F := fun c k => if c = b ∧ dp ≤ k ∧ k < dp + n then A a (sp + (k - dp)) else A c k
abbrev gs_iv (z : Int) : Value := .int (Int32.ofInt z)
abbrev gs_lv (z : Int) : Value := .long (Int64.ofInt z)
/-- a cell's shape: an object (class, fields: none is an int, some r the cell r); an array of ints (0) or longs (1) and its length; an array of references: kind, length, first, step -/
abbrev gs_S : Type := (Nat × List (Option Nat)) ⊕ (Nat × Nat) ⊕ (Nat × Nat × Nat × Nat)
def gs_shl : List gs_S := [.inl (8, [some 1, some 2, some 3, some 5, some 12, some 15, some 30, some 43, some 48, some 50, some 52, none, none]),
  .inr (.inr (3, 12, 54, 3)),
  .inr (.inr (4, 8, 90, 2)),
  .inl (4, [some 4, none]),
  .inr (.inl (0, 60)),
  .inl (7, [none, some 6, some 7, some 8, some 10]),
  .inr (.inl (0, 2080)),
  .inr (.inl (0, 3600)),
  .inl (4, [some 9, none]),
  .inr (.inl (0, 9)),
  .inl (4, [some 11, none]),
  .inr (.inl (0, 9)),
  .inl (1, [some 13]),
  .inl (4, [some 14, none]),
  .inr (.inl (0, 60)),
  .inl (0, [some 16, none, some 17, some 5]),
  .inr (.inr (2, 6, 18, 2)),
  .inr (.inl (0, 36)),
  .inl (4, [some 19, none]),
  .inr (.inl (0, 400)),
  .inl (4, [some 21, none]),
  .inr (.inl (0, 400)),
  .inl (4, [some 23, none]),
  .inr (.inl (0, 400)),
  .inl (4, [some 25, none]),
  .inr (.inl (0, 400)),
  .inl (4, [some 27, none]),
  .inr (.inl (0, 400)),
  .inl (4, [some 29, none]),
  .inr (.inl (0, 400)),
  .inl (5, [some 5, some 15, some 31, some 32, some 33, none]),
  .inr (.inr (2, 4, 35, 2)),
  .inr (.inl (0, 16)),
  .inl (4, [some 34, none]),
  .inr (.inl (0, 60)),
  .inl (4, [some 36, none]),
  .inr (.inl (0, 400)),
  .inl (4, [some 38, none]),
  .inr (.inl (0, 400)),
  .inl (4, [some 40, none]),
  .inr (.inl (0, 400)),
  .inl (4, [some 42, none]),
  .inr (.inl (0, 400)),
  .inl (6, [none, none, some 44, some 46, some 47, none, none, none, none, none]),
  .inl (2, [some 45, none]),
  .inr (.inl (0, 60)),
  .inr (.inl (0, 120)),
  .inr (.inl (0, 4)),
  .inl (4, [some 49, none]),
  .inr (.inl (0, 400)),
  .inl (2, [some 51, none]),
  .inr (.inl (0, 60)),
  .inl (2, [some 53, none]),
  .inr (.inl (0, 60)),
  .inl (3, [some 55, none, none]),
  .inl (4, [some 56, none]),
  .inr (.inl (0, 60)),
  .inl (3, [some 58, none, none]),
  .inl (4, [some 59, none]),
  .inr (.inl (0, 60)),
  .inl (3, [some 61, none, none]),
  .inl (4, [some 62, none]),
  .inr (.inl (0, 60)),
  .inl (3, [some 64, none, none]),
  .inl (4, [some 65, none]),
  .inr (.inl (0, 60)),
  .inl (3, [some 67, none, none]),
  .inl (4, [some 68, none]),
  .inr (.inl (0, 60)),
  .inl (3, [some 70, none, none]),
  .inl (4, [some 71, none]),
  .inr (.inl (0, 60)),
  .inl (3, [some 73, none, none]),
  .inl (4, [some 74, none]),
  .inr (.inl (0, 60)),
  .inl (3, [some 76, none, none]),
  .inl (4, [some 77, none]),
  .inr (.inl (0, 60)),
  .inl (3, [some 79, none, none]),
  .inl (4, [some 80, none]),
  .inr (.inl (0, 60)),
  .inl (3, [some 82, none, none]),
  .inl (4, [some 83, none]),
  .inr (.inl (0, 60)),
  .inl (3, [some 85, none, none]),
  .inl (4, [some 86, none]),
  .inr (.inl (0, 60)),
  .inl (3, [some 88, none, none]),
  .inl (4, [some 89, none]),
  .inr (.inl (0, 60)),
  .inl (2, [some 91, none]),
  .inr (.inl (0, 60)),
  .inl (2, [some 93, none]),
  .inr (.inl (0, 60)),
  .inl (2, [some 95, none]),
  .inr (.inl (0, 60)),
  .inl (2, [some 97, none]),
  .inr (.inl (0, 60)),
  .inl (2, [some 99, none]),
  .inr (.inl (0, 60)),
  .inl (2, [some 101, none]),
  .inr (.inl (0, 60)),
  .inl (2, [some 103, none]),
  .inr (.inl (0, 60)),
  .inl (2, [some 105, none]),
  .inr (.inl (0, 60)),
  .inl (9, [none, none, some 107, none, some 108, some 109, some 110, some 111, some 112, none, some 113, none, some 114, none, some 115, none, some 116, none, none, none, none, some 117, none, some 118, none, some 119, some 120, some 121]),
  .inr (.inl (0, 60)),
  .inr (.inl (0, 12)),
  .inr (.inl (0, 720)),
  .inr (.inl (0, 9)),
  .inr (.inl (0, 540)),
  .inr (.inl (0, 400)),
  .inr (.inl (0, 400)),
  .inr (.inl (0, 401)),
  .inr (.inl (0, 3700)),
  .inr (.inl (0, 120)),
  .inr (.inl (0, 4)),
  .inr (.inl (0, 600)),
  .inr (.inl (0, 2400)),
  .inr (.inl (0, 6)),
  .inr (.inl (1, 64))]
def gs_sh (k : Nat) : gs_S := gs_shl.getD k (.inl (0, []))
def gs_bfl : List (List (Int × Int)) := [[(-2147483648, 2147483647), (-2147483648, 2147483647), (-2147483648, 2147483647), (-2147483648, 2147483647), (-2147483648, 2147483647), (-2147483648, 2147483647), (-2147483648, 2147483647), (-2147483648, 2147483647), (-2147483648, 2147483647), (-2147483648, 2147483647), (-2147483648, 2147483647), (1, 3), (0, 12)],
  [],
  [],
  [(-2147483648, 2147483647), (0, 60)],
  [],
  [(1, 8), (-2147483648, 2147483647), (-2147483648, 2147483647), (-2147483648, 2147483647), (-2147483648, 2147483647)],
  [],
  [],
  [(-2147483648, 2147483647), (0, 9)],
  [],
  [(-2147483648, 2147483647), (0, 9)],
  [],
  [(-2147483648, 2147483647)],
  [(-2147483648, 2147483647), (0, 60)],
  [],
  [(-2147483648, 2147483647), (0, 6), (-2147483648, 2147483647), (-2147483648, 2147483647)],
  [],
  [],
  [(-2147483648, 2147483647), (0, 400)],
  [],
  [(-2147483648, 2147483647), (0, 400)],
  [],
  [(-2147483648, 2147483647), (0, 400)],
  [],
  [(-2147483648, 2147483647), (0, 400)],
  [],
  [(-2147483648, 2147483647), (0, 400)],
  [],
  [(-2147483648, 2147483647), (0, 400)],
  [],
  [(-2147483648, 2147483647), (-2147483648, 2147483647), (-2147483648, 2147483647), (-2147483648, 2147483647), (-2147483648, 2147483647), (-2147483648, 2147483647)],
  [],
  [],
  [(-2147483648, 2147483647), (0, 60)],
  [],
  [(-2147483648, 2147483647), (0, 400)],
  [],
  [(-2147483648, 2147483647), (0, 400)],
  [],
  [(-2147483648, 2147483647), (0, 400)],
  [],
  [(-2147483648, 2147483647), (0, 400)],
  [],
  [(0, 120), (-2147483648, 2147483647), (-2147483648, 2147483647), (-2147483648, 2147483647), (-2147483648, 2147483647), (0, 3), (0, 4), (-2147483648, 2147483647), (-2147483648, 2147483647), (-2147483648, 2147483647)],
  [(-2147483648, 2147483647), (0, 60)],
  [],
  [],
  [],
  [(-2147483648, 2147483647), (0, 400)],
  [],
  [(-2147483648, 2147483647), (0, 60)],
  [],
  [(-2147483648, 2147483647), (0, 60)],
  [],
  [(-2147483648, 2147483647), (0, 1), (-2147483648, 2147483647)],
  [(-2147483648, 2147483647), (0, 60)],
  [],
  [(-2147483648, 2147483647), (0, 1), (-2147483648, 2147483647)],
  [(-2147483648, 2147483647), (0, 60)],
  [],
  [(-2147483648, 2147483647), (0, 1), (-2147483648, 2147483647)],
  [(-2147483648, 2147483647), (0, 60)],
  [],
  [(-2147483648, 2147483647), (0, 1), (-2147483648, 2147483647)],
  [(-2147483648, 2147483647), (0, 60)],
  [],
  [(-2147483648, 2147483647), (0, 1), (-2147483648, 2147483647)],
  [(-2147483648, 2147483647), (0, 60)],
  [],
  [(-2147483648, 2147483647), (0, 1), (-2147483648, 2147483647)],
  [(-2147483648, 2147483647), (0, 60)],
  [],
  [(-2147483648, 2147483647), (0, 1), (-2147483648, 2147483647)],
  [(-2147483648, 2147483647), (0, 60)],
  [],
  [(-2147483648, 2147483647), (0, 1), (-2147483648, 2147483647)],
  [(-2147483648, 2147483647), (0, 60)],
  [],
  [(-2147483648, 2147483647), (0, 1), (-2147483648, 2147483647)],
  [(-2147483648, 2147483647), (0, 60)],
  [],
  [(-2147483648, 2147483647), (0, 1), (-2147483648, 2147483647)],
  [(-2147483648, 2147483647), (0, 60)],
  [],
  [(-2147483648, 2147483647), (0, 1), (-2147483648, 2147483647)],
  [(-2147483648, 2147483647), (0, 60)],
  [],
  [(-2147483648, 2147483647), (0, 1), (-2147483648, 2147483647)],
  [(-2147483648, 2147483647), (0, 60)],
  [],
  [(-2147483648, 2147483647), (0, 60)],
  [],
  [(-2147483648, 2147483647), (0, 60)],
  [],
  [(-2147483648, 2147483647), (0, 60)],
  [],
  [(-2147483648, 2147483647), (0, 60)],
  [],
  [(-2147483648, 2147483647), (0, 60)],
  [],
  [(-2147483648, 2147483647), (0, 60)],
  [],
  [(-2147483648, 2147483647), (0, 60)],
  [],
  [(-2147483648, 2147483647), (0, 60)],
  [],
  [(1, 3), (0, 60), (-2147483648, 2147483647), (0, 12), (-2147483648, 2147483647), (-2147483648, 2147483647), (-2147483648, 2147483647), (-2147483648, 2147483647), (-2147483648, 2147483647), (0, 400), (-2147483648, 2147483647), (0, 60), (-2147483648, 2147483647), (0, 400), (-2147483648, 2147483647), (0, 3700), (-2147483648, 2147483647), (0, 120), (0, 120), (0, 4), (-2147483648, 2147483647), (-2147483648, 2147483647), (0, 4), (-2147483648, 2147483647), (0, 60), (-2147483648, 2147483647), (-2147483648, 2147483647), (-2147483648, 2147483647)],
  [],
  [],
  [],
  [],
  [],
  [],
  [],
  [],
  [],
  [],
  [],
  [],
  [],
  [],
  []]
def gs_bF (k j : Nat) : Int × Int := (gs_bfl.getD k []).getD j (-2147483648, 2147483647)
def gs_bal : List (Int × Int) := [(0, 0), (0, 0), (0, 0), (0, 0), (-9, 9), (0, 0), (-9, 9), (-9, 9), (0, 0), (-9, 9), (0, 0), (-9, 9), (0, 0), (0, 0), (-9, 9), (0, 0), (0, 0), (-2147483648, 2147483647), (0, 0), (-9, 9), (0, 0), (-9, 9), (0, 0), (-9, 9), (0, 0), (-9, 9), (0, 0), (-9, 9), (0, 0), (-9, 9), (0, 0), (0, 0), (-2147483648, 2147483647), (0, 0), (-9, 9), (0, 0), (-9, 9), (0, 0), (-9, 9), (0, 0), (-9, 9), (0, 0), (-9, 9), (0, 0), (0, 0), (-2147483648, 2147483647), (-2147483648, 2147483647), (0, 60), (0, 0), (-9, 9), (0, 0), (-2147483648, 2147483647), (0, 0), (-2147483648, 2147483647), (0, 0), (0, 0), (-9, 9), (0, 0), (0, 0), (-9, 9), (0, 0), (0, 0), (-9, 9), (0, 0), (0, 0), (-9, 9), (0, 0), (0, 0), (-9, 9), (0, 0), (0, 0), (-9, 9), (0, 0), (0, 0), (-9, 9), (0, 0), (0, 0), (-9, 9), (0, 0), (0, 0), (-9, 9), (0, 0), (0, 0), (-9, 9), (0, 0), (0, 0), (-9, 9), (0, 0), (0, 0), (-9, 9), (0, 0), (-2147483648, 2147483647), (0, 0), (-2147483648, 2147483647), (0, 0), (-2147483648, 2147483647), (0, 0), (-2147483648, 2147483647), (0, 0), (-2147483648, 2147483647), (0, 0), (-2147483648, 2147483647), (0, 0), (-2147483648, 2147483647), (0, 0), (-2147483648, 2147483647), (0, 0), (-9, 9), (0, 60), (-9, 9), (0, 60), (-2147483648, 2147483647), (-9, 9), (-9, 9), (-9, 9), (-9, 9), (-2147483648, 2147483647), (0, 60), (-2147483648, 2147483647), (-9, 9), (0, 400), (-9223372036854775808, 9223372036854775807)]
def gs_bA (k : Nat) : Int × Int := gs_bal.getD k (0, 0)
def gs_fl (F : gs_F) (a : Nat) : Nat → List (Option Nat) → List Value
  | _, [] => []
  | j, none :: t => gs_iv (F a j) :: gs_fl F a (j + 1) t
  | j, some r :: t => .ref r :: gs_fl F a (j + 1) t
def gs_ar (A : gs_F) (k t n : Nat) : am_E := if t = 0 then .inl (0, n, .inl (fun i => Int32.ofInt (A k i))) else .inl (1, n, .inr (.inl (fun i => Int64.ofInt (A k i))))
def gs_ce (F A : gs_F) (k : Nat) (s : gs_S) : am_E := match s with
  | .inl (ci, fs) => .inr (ci, gs_fl F k 0 fs)
  | .inr (.inl (t, n)) => gs_ar A k t n
  | .inr (.inr (t, n, b, st)) => .inl (t, n, .inr (.inr (.inr (.inr (fun i => if i < n then some (b + st * i) else none)))))
def gs_en (F A : gs_F) : am_H := fun k => gs_ce F A k (gs_sh k)
theorem gs_up_self (F : gs_F) (a j : Nat) (z : Int) : gs_up F a j z a j = z := by simp [gs_up]
theorem gs_up_ne (F : gs_F) {a j b k : Nat} (z : Int) (h : b ≠ a ∨ k ≠ j) : gs_up F a j z b k = F b k := by
  unfold gs_up
  rw [if_neg (by intro q; rcases h with h | h; exact h q.1; exact h q.2)]
theorem gs_up_row (F : gs_F) {a j b : Nat} (z : Int) (h : b ≠ a) : gs_up F a j z b = F b := by
  funext k
  exact gs_up_ne F z (.inl h)
theorem gs_cp_row (A : gs_F) {a b sp dp n c : Nat} (h : c ≠ b) : gs_cp A a b sp dp n c = A c := by
  funext k
  unfold gs_cp
  rw [if_neg (fun q => h q.1)]
theorem gs_fl_len (F : gs_F) (a : Nat) : ∀ (fs : List (Option Nat)) (i : Nat), (gs_fl F a i fs).length = fs.length
  | [], _ => rfl
  | none :: t, i => by simp [gs_fl, gs_fl_len F a t (i + 1)]
  | some r :: t, i => by simp [gs_fl, gs_fl_len F a t (i + 1)]
theorem gs_fl_int (F : gs_F) (a : Nat) : ∀ (fs : List (Option Nat)) (i j : Nat), fs[j]? = some none → (gs_fl F a i fs)[j]? = some (gs_iv (F a (i + j)))
  | [], _, j, h => by simp at h
  | none :: t, i, 0, _ => rfl
  | some r :: t, i, 0, h => by simp at h
  | none :: t, i, j + 1, h => by
    have := gs_fl_int F a t (i + 1) j (by simpa using h)
    simp only [gs_fl, List.getElem?_cons_succ]
    have e : i + 1 + j = i + (j + 1) := by omega
    rw [this, e]
  | some r :: t, i, j + 1, h => by
    have := gs_fl_int F a t (i + 1) j (by simpa using h)
    simp only [gs_fl, List.getElem?_cons_succ]
    have e : i + 1 + j = i + (j + 1) := by omega
    rw [this, e]
theorem gs_fl_ref (F : gs_F) (a : Nat) {r : Nat} : ∀ (fs : List (Option Nat)) (i j : Nat), fs[j]? = some (some r) → (gs_fl F a i fs)[j]? = some (.ref r)
  | [], _, j, h => by simp at h
  | none :: t, i, 0, h => by simp at h
  | some r :: t, i, 0, h => by simp at h; subst h; rfl
  | none :: t, i, j + 1, h => by
    simp only [gs_fl, List.getElem?_cons_succ]
    exact gs_fl_ref F a t (i + 1) j (by simpa using h)
  | some r :: t, i, j + 1, h => by
    simp only [gs_fl, List.getElem?_cons_succ]
    exact gs_fl_ref F a t (i + 1) j (by simpa using h)
theorem gs_fl_eq (F F2 : gs_F) (a : Nat) : ∀ (fs : List (Option Nat)) (i : Nat), (∀ j, i ≤ j → F2 a j = F a j) → gs_fl F2 a i fs = gs_fl F a i fs
  | [], _, _ => rfl
  | none :: t, i, h => by
    simp only [gs_fl]
    rw [gs_fl_eq F F2 a t (i + 1) (fun j hj => h j (by omega)), h i (Nat.le_refl i)]
  | some r :: t, i, h => by
    simp only [gs_fl]
    rw [gs_fl_eq F F2 a t (i + 1) (fun j hj => h j (by omega))]
theorem gs_fl_set (F : gs_F) (a : Nat) (z : Int) : ∀ (fs : List (Option Nat)) (i j : Nat), fs[j]? = some none → (gs_fl F a i fs).set j (gs_iv z) = gs_fl (gs_up F a (i + j) z) a i fs
  | [], _, j, h => by simp at h
  | none :: t, i, 0, _ => by
    simp only [gs_fl, List.set_cons_zero, Nat.add_zero]
    rw [gs_up_self, gs_fl_eq F (gs_up F a i z) a t (i + 1) (fun j hj => gs_up_ne F z (.inr (by omega)))]
  | some r :: t, i, 0, h => by simp at h
  | none :: t, i, j + 1, h => by
    have := gs_fl_set F a z t (i + 1) j (by simpa using h)
    simp only [gs_fl, List.set_cons_succ]
    have e : i + 1 + j = i + (j + 1) := by omega
    rw [this, e, gs_up_ne F z (.inr (by omega))]
  | some r :: t, i, j + 1, h => by
    have := gs_fl_set F a z t (i + 1) j (by simpa using h)
    simp only [gs_fl, List.set_cons_succ]
    have e : i + 1 + j = i + (j + 1) := by omega
    rw [this, e]
theorem gs_ce_F {F F2 A A2 : gs_F} {k : Nat} (h1 : F2 k = F k) (h2 : A2 k = A k) (s : gs_S) : gs_ce F2 A2 k s = gs_ce F A k s := by
  unfold gs_ce gs_ar
  rw [h2]
  split
  · rw [gs_fl_eq F F2 k _ 0 (fun j _ => by rw [h1])]
  · rfl
  · rfl
theorem gs_en_obj {a ci : Nat} {fs : List (Option Nat)} (F A : gs_F) (hs : gs_sh a = .inl (ci, fs)) : gs_en F A a = .inr (ci, gs_fl F a 0 fs) := by unfold gs_en; rw [hs]; rfl
theorem gs_en_ia {a n : Nat} (F A : gs_F) (hs : gs_sh a = .inr (.inl (0, n))) : gs_en F A a = .inl (0, n, .inl (fun i => Int32.ofInt (A a i))) := by unfold gs_en; rw [hs]; rfl
theorem gs_en_la {a n : Nat} (F A : gs_F) (hs : gs_sh a = .inr (.inl (1, n))) : gs_en F A a = .inl (1, n, .inr (.inl (fun i => Int64.ofInt (A a i)))) := by unfold gs_en; rw [hs]; rfl
theorem gs_en_qa {a t n b st : Nat} (F A : gs_F) (hs : gs_sh a = .inr (.inr (t, n, b, st))) : gs_en F A a = .inl (t, n, .inr (.inr (.inr (.inr (fun i => if i < n then some (b + st * i) else none))))) := by unfold gs_en; rw [hs]; rfl
theorem gs_en_put {a ci j : Nat} {fs : List (Option Nat)} (F A : gs_F) (z : Int) (hs : gs_sh a = .inl (ci, fs)) (hj : fs[j]? = some none) : va_up (gs_en F A) a (.inr (ci, (gs_fl F a 0 fs).set j (gs_iv z))) = gs_en (gs_up F a j z) A := by
  funext k
  by_cases hk : k = a
  · subst hk
    rw [va_up_self, gs_en_obj _ _ hs, gs_fl_set F k z fs 0 j hj, Nat.zero_add]
  · rw [va_up_ne _ _ hk]
    exact (gs_ce_F (gs_up_row F z hk) rfl _).symm
theorem gs_en_ast {a n i : Nat} (F A : gs_F) (z : Int) (hs : gs_sh a = .inr (.inl (0, n))) : va_up (gs_en F A) a (.inl (0, n, .inl (upd (fun i => Int32.ofInt (A a i)) i (Int32.ofInt z)))) = gs_en F (gs_up A a i z) := by
  funext k
  by_cases hk : k = a
  · subst hk
    rw [va_up_self, gs_en_ia _ _ hs]
    congr 4
    funext i'
    unfold upd
    by_cases hi : i' = i
    · rw [if_pos hi, hi, gs_up_self]
    · rw [if_neg hi, gs_up_ne A z (.inr hi)]
  · rw [va_up_ne _ _ hk]
    exact (gs_ce_F rfl (gs_up_row A z hk) _).symm
theorem gs_en_last {a n i : Nat} (F A : gs_F) (z : Int) (hs : gs_sh a = .inr (.inl (1, n))) : va_up (gs_en F A) a (.inl (1, n, .inr (.inl (vp_updL (fun i => Int64.ofInt (A a i)) i (Int64.ofInt z))))) = gs_en F (gs_up A a i z) := by
  funext k
  by_cases hk : k = a
  · subst hk
    rw [va_up_self, gs_en_la _ _ hs]
    congr 5
    funext i'
    unfold vp_updL
    by_cases hi : i' = i
    · rw [if_pos hi, hi, gs_up_self]
    · rw [if_neg hi, gs_up_ne A z (.inr hi)]
  · rw [va_up_ne _ _ hk]
    exact (gs_ce_F rfl (gs_up_row A z hk) _).symm
theorem gs_en_cp {a b n2 sp dp x : Nat} (F A : gs_F) (hs : gs_sh b = .inr (.inl (0, n2))) : va_up (gs_en F A) b (.inl (0, n2, .inl (va_cpy (fun i => Int32.ofInt (A a i)) (fun i => Int32.ofInt (A b i)) sp dp x))) = gs_en F (gs_cp A a b sp dp x) := by
  funext k
  by_cases hk : k = b
  · subst hk
    rw [va_up_self, gs_en_ia _ _ hs]
    congr 4
    funext i'
    unfold va_cpy gs_cp
    by_cases hi : dp ≤ i' ∧ i' < dp + x
    · rw [if_pos hi, if_pos ⟨rfl, hi⟩]
    · rw [if_neg hi, if_neg (fun q => hi q.2)]
  · rw [va_up_ne _ _ hk]
    exact (gs_ce_F rfl (gs_cp_row A hk) _).symm
end
