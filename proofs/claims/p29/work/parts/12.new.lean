noncomputable section
/-! ===== the first call on new objects, run by the kernel ===== -/
def ri_blank : List (List ri_E) := List.replicate 16 (List.replicate 8 (.inr (0, [])))
def p1_L0 : ri_L := (1, 13, ri_put ri_blank 0 (.inr (8, ri_df 8)))
def p1_r1 : ri_V := ri_D [] ri_M 100000 20 67 [.ref 0] p1_L0
def p1_L1 : ri_L := match p1_r1 with
  | some (_, L) => L
  | none => p1_L0
def p1_L1b : ri_L := (107, p1_L1.2.1 + 28, ri_put p1_L1.2.2 106 (.inr (9, ri_df 9)))
def p1_r2 : ri_V := ri_D [] ri_M 100000 20 109 [.ref 106] p1_L1b
/-- the cells of a new SkinTwists and a new SkinTwistsModel -/
def p1_lit : ri_L := (122, 21481, [[.inr (8, [.ref 1, .ref 2, .ref 3, .ref 5, .ref 12, .ref 15, .ref 30, .ref 43, .ref 48, .ref 50, .ref 52, .retAddr 2, .retAddr 0]), .inl (3, .inr (.inr [some 54, some 57, some 60, some 63, some 66, some 69, some 72, some 75, some 78, some 81, some 84, some 87])), .inl (4, .inr (.inr [some 90, some 92, some 94, some 96, some 98, some 100, some 102, some 104])), .inr (4, [.ref 4, .retAddr 0]), .inl (0, .inl (List.replicate 60 0)), .inr (7, [.retAddr 5, .ref 6, .ref 7, .ref 8, .ref 10]), .inl (0, .inl ([0, 0, 0, 0, 0, 0, 0, 0, 0, 0, 0, 0, 0, 0, 0, 0, 0, 0, 0, 0, 1, 4294967292, 0, 0, 0, 0, 0, 0, 0, 0, 1, 4294967293, 0, 0, 0, 0, 0, 0, 0, 0, 2, 4294967295, 4294967294, 0, 0, 0, 0, 0, 0, 0, 1, 4294967295, 0, 0, 0, 0, 0, 0, 0, 0, 0, 0, 0, 0, 0, 0, 0, 0, 0, 0, 1, 1, 0, 0, 0, 0, 0, 0, 0, 0, 2, 2, 1, 0, 0, 0, 0, 0, 0, 0, 1, 3, 0, 0, 0, 0, 0, 0, 0, 0, 1, 4, 0, 0, 0, 0, 0, 0, 0, 0, 0, 0, 0, 0, 0, 0, 0, 0, 0, 0, 0, 0, 0, 0, 0, 0, 0, 0, 0, 0, 0, 0, 0, 0, 0, 0, 0, 0, 0, 0, 0, 0, 0, 0, 0, 0, 0, 0, 0, 0, 1, 4294967292, 0, 0, 0, 0, 0, 0, 0, 0, 1, 4294967293, 0, 0, 0, 0, 0, 0, 0, 0, 2, 1, 4294967294, 0, 0, 0, 0, 0, 0, 0, 1, 4294967295, 0, 0, 0, 0, 0, 0, 0, 0, 0, 0, 0, 0, 0, 0, 0, 0, 0, 0, 1, 1, 0, 0, 0, 0, 0, 0, 0, 0, 2, 2, 4294967295, 0, 0, 0, 0, 0, 0, 0, 1, 3, 0, 0, 0, 0, 0, 0, 0, 0, 1, 4, 0, 0, 0, 0, 0, 0, 0, 0, 0, 0, 0, 0, 0, 0, 0, 0, 0, 0, 0, 0, 0, 0, 0, 0, 0, 0, 0, 0, 0, 0, 0, 0, 0, 0, 0, 0, 0, 0, 0, 0, 0, 0, 0, 0, 0, 0, 0, 0, 2, 4294967293, 4294967292, 0, 0, 0, 0, 0, 0, 0, 1, 4294967293, 0, 0, 0, 0, 0, 0, 0, 0, 1, 4294967294, 0, 0, 0, 0, 0, 0, 0, 0, 1, 4294967295, 0, 0, 0, 0, 0, 0, 0, 0, 0, 0, 0, 0, 0, 0, 0, 0, 0, 0, 1, 1, 0, 0, 0, 0, 0, 0, 0, 0, 1, 2, 0, 0, 0, 0, 0, 0, 0, 0, 1, 3, 0, 0, 0, 0, 0, 0, 0, 0, 2, 4, 3, 0, 0, 0, 0, 0, 0, 0, 0, 0, 0, 0, 0, 0, 0, 0, 0, 0, 0, 0, 0, 0, 0, 0, 0, 0, 0, 0, 0, 0, 0, 0, 0, 0, 0, 0, 0, 0, 0, 0, 0, 0, 0, 0, 0, 0, 0, 0, 2, 3, 4294967292, 0, 0, 0, 0, 0, 0, 0, 1, 4294967293, 0, 0, 0, 0, 0, 0, 0, 0, 1, 4294967294, 0, 0, 0, 0, 0, 0, 0, 0, 1, 4294967295, 0, 0, 0, 0, 0, 0, 0, 0, 0, 0, 0, 0, 0, 0, 0, 0, 0, 0, 1, 1, 0, 0, 0, 0, 0, 0, 0, 0, 1, 2, 0, 0, 0, 0, 0, 0, 0, 0, 1, 3, 0, 0, 0, 0, 0, 0, 0, 0, 2, 4, 4294967293, 0, 0, 0, 0, 0, 0, 0, 0, 0, 0, 0, 0, 0, 0, 0, 0, 0, 0, 0, 0, 0, 0, 0, 0, 0, 0, 0, 0, 0, 0, 0, 0, 0, 0, 0, 0, 0, 0, 0, 0, 0, 0, 0, 0, 0, 0, 0, 1, 4294967292, 0, 0, 0, 0, 0, 0, 0, 0, 1, 4294967293, 0, 0, 0, 0, 0, 0, 0, 0, 1, 4294967294, 0, 0, 0, 0, 0, 0, 0, 0, 2, 2, 4294967295, 0, 0, 0, 0, 0, 0, 0, 0, 0, 0, 0, 0, 0, 0, 0, 0, 0, 2, 1, 4294967294, 0, 0, 0, 0, 0, 0, 0, 1, 2, 0, 0, 0, 0, 0, 0, 0, 0, 1, 3, 0, 0, 0, 0, 0, 0, 0, 0, 1, 4, 0, 0, 0, 0, 0, 0, 0, 0, 0, 0, 0, 0, 0, 0, 0, 0, 0, 0, 0, 0, 0, 0, 0, 0, 0, 0, 0, 0, 0, 0, 0, 0, 0, 0, 0, 0, 0, 0, 0, 0, 0, 0, 0, 0, 0, 0, 0, 0, 1, 4294967292, 0, 0, 0, 0, 0, 0, 0, 0, 1, 4294967293, 0, 0, 0, 0, 0, 0, 0, 0, 1, 4294967294, 0, 0, 0, 0, 0, 0, 0, 0, 2, 4294967294, 4294967295, 0, 0, 0, 0, 0, 0, 0, 0, 0, 0, 0, 0, 0, 0, 0, 0, 0, 2, 1, 2, 0, 0, 0, 0, 0, 0, 0, 1, 2, 0, 0, 0, 0, 0, 0, 0, 0, 1, 3, 0, 0, 0, 0, 0, 0, 0, 0, 1, 4, 0, 0, 0, 0, 0, 0, 0, 0, 0, 0, 0, 0, 0, 0, 0, 0, 0, 0, 0, 0, 0, 0, 0, 0, 0, 0, 0, 0, 0, 0, 0, 0, 0, 0, 0, 0, 0, 0, 0, 0, 0, 0, 0, 0, 0, 0, 0, 0, 1, 4294967292, 0, 0, 0, 0, 0, 0, 0, 0, 2, 4, 4294967293, 0, 0, 0, 0, 0, 0, 0, 1, 4294967294, 0, 0, 0, 0, 0, 0, 0, 0, 1, 4294967295, 0, 0, 0, 0, 0, 0, 0, 0, 0, 0, 0, 0, 0, 0, 0, 0, 0, 0, 1, 1, 0, 0, 0, 0, 0, 0, 0, 0, 1, 2, 0, 0, 0, 0, 0, 0, 0, 0, 2, 3, 4294967292, 0, 0, 0, 0, 0, 0, 0, 1, 4, 0, 0, 0, 0, 0, 0, 0, 0, 0, 0, 0, 0, 0, 0, 0, 0, 0, 0, 0, 0, 0, 0, 0, 0, 0, 0, 0, 0, 0, 0, 0, 0, 0, 0, 0, 0, 0, 0, 0, 0, 0, 0, 0, 0, 0, 0, 0, 0, 1, 4294967292, 0, 0, 0, 0, 0, 0, 0, 0, 2, 4294967292, 4294967293, 0, 0, 0, 0, 0, 0, 0, 1, 4294967294, 0, 0, 0, 0, 0, 0, 0, 0, 1, 4294967295, 0, 0, 0, 0, 0, 0, 0, 0, 0, 0, 0, 0, 0, 0, 0, 0, 0, 0, 1, 1, 0, 0, 0, 0, 0, 0, 0, 0, 1, 2, 0, 0, 0, 0, 0, 0, 0, 0, 2, 3, 4, 0, 0, 0, 0, 0, 0, 0, 1, 4, 0, 0, 0, 0, 0, 0, 0, 0, 0, 0, 0, 0, 0, 0, 0, 0, 0, 0, 0, 0, 0, 0, 0, 0, 0, 0, 0, 0, 0, 0, 0, 0, 0, 0, 0, 0, 0, 0, 0, 0, 0, 0, 0, 0, 0, 0, 0, 0, 5, 4294967293, 2, 1, 4294967294, 4294967292, 0, 0, 0, 0, 9, 4294967293, 2, 1, 4294967294, 4294967293, 2, 4294967295, 4294967294, 3, 3, 4294967295, 4294967294, 3, 0, 0, 0, 0, 0, 0, 1, 4294967295, 0, 0, 0, 0, 0, 0, 0, 0, 0, 0, 0, 0, 0, 0, 0, 0, 0, 0, 1, 1, 0, 0, 0, 0, 0, 0, 0, 0, 3, 4294967293, 2, 1, 0, 0, 0, 0, 0, 0, 9, 4294967293, 2, 1, 4294967294, 3, 2, 4294967295, 4294967294, 3, 5, 4, 2, 4294967295, 4294967294, 3, 0, 0, 0, 0, 0, 0, 0, 0, 0, 0, 0, 0, 0, 0, 0, 0, 0, 0, 0, 0, 0, 0, 0, 0, 0, 0, 0, 0, 0, 0, 0, 0, 0, 0, 0, 0, 0, 0, 0, 0, 0, 0, 0, 0, 5, 2, 4294967295, 4294967294, 3, 4294967292, 0, 0, 0, 0, 7, 2, 4294967295, 4294967294, 4294967293, 2, 1, 4294967294, 0, 0, 5, 4294967294, 4294967293, 2, 1, 4294967294, 0, 0, 0, 0, 1, 4294967295, 0, 0, 0, 0, 0, 0, 0, 0, 0, 0, 0, 0, 0, 0, 0, 0, 0, 0, 1, 1, 0, 0, 0, 0, 0, 0, 0, 0, 5, 2, 4294967295, 4294967294, 3, 2, 0, 0, 0, 0, 7, 2, 4294967295, 4294967294, 3, 2, 1, 4294967294, 0, 0, 5, 4, 4294967293, 2, 1, 4294967294] ++ List.replicate 804 0)), .inl (0, .inl (List.replicate 3600 0))],
  [.inr (4, [.ref 9, .retAddr 5]), .inl (0, .inl ([4, 4294967293, 2, 1, 4294967294, 1, 4294967294, 4294967294, 3])), .inr (4, [.ref 11, .retAddr 5]), .inl (0, .inl ([2, 4294967295, 4294967294, 3, 4294967292, 1, 4294967294, 4294967294, 3])), .inr (1, [.ref 13]), .inr (4, [.ref 14, .retAddr 0]), .inl (0, .inl (List.replicate 60 0)), .inr (0, [.ref 16, .retAddr 0, .ref 17, .ref 5])],
  [.inl (2, .inr (.inr [some 18, some 20, some 22, some 24, some 26, some 28])), .inl (0, .inl (List.replicate 36 0)), .inr (4, [.ref 19, .retAddr 0]), .inl (0, .inl (List.replicate 400 0)), .inr (4, [.ref 21, .retAddr 0]), .inl (0, .inl (List.replicate 400 0)), .inr (4, [.ref 23, .retAddr 0]), .inl (0, .inl (List.replicate 400 0))],
  [.inr (4, [.ref 25, .retAddr 0]), .inl (0, .inl (List.replicate 400 0)), .inr (4, [.ref 27, .retAddr 0]), .inl (0, .inl (List.replicate 400 0)), .inr (4, [.ref 29, .retAddr 0]), .inl (0, .inl (List.replicate 400 0)), .inr (5, [.ref 5, .ref 15, .ref 31, .ref 32, .ref 33, .retAddr 0]), .inl (2, .inr (.inr [some 35, some 37, some 39, some 41]))],
  [.inl (0, .inl (List.replicate 16 0)), .inr (4, [.ref 34, .retAddr 0]), .inl (0, .inl (List.replicate 60 0)), .inr (4, [.ref 36, .retAddr 0]), .inl (0, .inl (List.replicate 400 0)), .inr (4, [.ref 38, .retAddr 0]), .inl (0, .inl (List.replicate 400 0)), .inr (4, [.ref 40, .retAddr 0])],
  [.inl (0, .inl (List.replicate 400 0)), .inr (4, [.ref 42, .retAddr 0]), .inl (0, .inl (List.replicate 400 0)), .inr (6, [.retAddr 0, .retAddr 4294967295, .ref 44, .ref 46, .ref 47, .retAddr 0, .retAddr 0, .retAddr 0, .retAddr 0, .retAddr 0]), .inr (2, [.ref 45, .retAddr 0]), .inl (0, .inl (List.replicate 60 0)), .inl (0, .inl (List.replicate 120 0)), .inl (0, .inl (List.replicate 4 0))],
  [.inr (4, [.ref 49, .retAddr 0]), .inl (0, .inl (List.replicate 400 0)), .inr (2, [.ref 51, .retAddr 0]), .inl (0, .inl (List.replicate 60 0)), .inr (2, [.ref 53, .retAddr 0]), .inl (0, .inl (List.replicate 60 0)), .inr (3, [.ref 55, .retAddr 0, .retAddr 0]), .inr (4, [.ref 56, .retAddr 0])],
  [.inl (0, .inl (List.replicate 60 0)), .inr (3, [.ref 58, .retAddr 0, .retAddr 0]), .inr (4, [.ref 59, .retAddr 0]), .inl (0, .inl (List.replicate 60 0)), .inr (3, [.ref 61, .retAddr 0, .retAddr 0]), .inr (4, [.ref 62, .retAddr 0]), .inl (0, .inl (List.replicate 60 0)), .inr (3, [.ref 64, .retAddr 0, .retAddr 0])],
  [.inr (4, [.ref 65, .retAddr 0]), .inl (0, .inl (List.replicate 60 0)), .inr (3, [.ref 67, .retAddr 0, .retAddr 0]), .inr (4, [.ref 68, .retAddr 0]), .inl (0, .inl (List.replicate 60 0)), .inr (3, [.ref 70, .retAddr 0, .retAddr 0]), .inr (4, [.ref 71, .retAddr 0]), .inl (0, .inl (List.replicate 60 0))],
  [.inr (3, [.ref 73, .retAddr 0, .retAddr 0]), .inr (4, [.ref 74, .retAddr 0]), .inl (0, .inl (List.replicate 60 0)), .inr (3, [.ref 76, .retAddr 0, .retAddr 0]), .inr (4, [.ref 77, .retAddr 0]), .inl (0, .inl (List.replicate 60 0)), .inr (3, [.ref 79, .retAddr 0, .retAddr 0]), .inr (4, [.ref 80, .retAddr 0])],
  [.inl (0, .inl (List.replicate 60 0)), .inr (3, [.ref 82, .retAddr 0, .retAddr 0]), .inr (4, [.ref 83, .retAddr 0]), .inl (0, .inl (List.replicate 60 0)), .inr (3, [.ref 85, .retAddr 0, .retAddr 0]), .inr (4, [.ref 86, .retAddr 0]), .inl (0, .inl (List.replicate 60 0)), .inr (3, [.ref 88, .retAddr 0, .retAddr 0])],
  [.inr (4, [.ref 89, .retAddr 0]), .inl (0, .inl (List.replicate 60 0)), .inr (2, [.ref 91, .retAddr 0]), .inl (0, .inl (List.replicate 60 0)), .inr (2, [.ref 93, .retAddr 0]), .inl (0, .inl (List.replicate 60 0)), .inr (2, [.ref 95, .retAddr 0]), .inl (0, .inl (List.replicate 60 0))],
  [.inr (2, [.ref 97, .retAddr 0]), .inl (0, .inl (List.replicate 60 0)), .inr (2, [.ref 99, .retAddr 0]), .inl (0, .inl (List.replicate 60 0)), .inr (2, [.ref 101, .retAddr 0]), .inl (0, .inl (List.replicate 60 0)), .inr (2, [.ref 103, .retAddr 0]), .inl (0, .inl (List.replicate 60 0))],
  [.inr (2, [.ref 105, .retAddr 0]), .inl (0, .inl (List.replicate 60 0)), .inr (9, [.retAddr 2, .retAddr 0, .ref 107, .retAddr 0, .ref 108, .ref 109, .ref 110, .ref 111, .ref 112, .retAddr 0, .ref 113, .retAddr 0, .ref 114, .retAddr 0, .ref 115, .retAddr 0, .ref 116, .retAddr 0, .retAddr 0, .retAddr 0, .retAddr 4294967295, .ref 117, .retAddr 0, .ref 118, .retAddr 0, .ref 119, .ref 120, .ref 121]), .inl (0, .inl (List.replicate 60 0)), .inl (0, .inl (List.replicate 12 0)), .inl (0, .inl (List.replicate 720 0)), .inl (0, .inl (List.replicate 9 0)), .inl (0, .inl (List.replicate 540 0))],
  [.inl (0, .inl (List.replicate 400 0)), .inl (0, .inl (List.replicate 400 0)), .inl (0, .inl (List.replicate 401 0)), .inl (0, .inl (List.replicate 3700 0)), .inl (0, .inl (List.replicate 120 0)), .inl (0, .inl (List.replicate 4 0)), .inl (0, .inl (List.replicate 600 0)), .inl (0, .inl (List.replicate 2400 0))],
  [.inl (0, .inl (List.replicate 6 0)), .inl (1, .inr (.inl (List.replicate 64 0))), .inr (0, []), .inr (0, []), .inr (0, []), .inr (0, []), .inr (0, []), .inr (0, [])]])
def ri_beE (a b : ri_E) : Bool := match a with
  | .inl (t, .inl l) => (match b with
    | .inl (t2, .inl l2) => Nat.beq t t2 && decide (l = l2)
    | _ => false)
  | .inl (t, .inr (.inl l)) => (match b with
    | .inl (t2, .inr (.inl l2)) => Nat.beq t t2 && decide (l = l2)
    | _ => false)
  | .inl (t, .inr (.inr l)) => (match b with
    | .inl (t2, .inr (.inr l2)) => Nat.beq t t2 && decide (l = l2)
    | _ => false)
  | .inr (c, fs) => (match b with
    | .inr (c2, fs2) => Nat.beq c c2 && decide (fs = fs2)
    | _ => false)
theorem ri_beE_ok {a b : ri_E} (h : ri_beE a b = true) : a = b := by
  unfold ri_beE at h
  split at h <;> split at h <;> first | (cases h; done) | (rw [Bool.and_eq_true, Nat.beq_eq, decide_eq_true_eq] at h; rw [h.1, h.2])
def ri_beL {α : Type} (f : α → α → Bool) : List α → List α → Bool
  | [], [] => true
  | x :: t, y :: u => f x y && ri_beL f t u
  | _, _ => false
theorem ri_beL_ok {α : Type} {f : α → α → Bool} (hf : ∀ x y, f x y = true → x = y) : ∀ (l l2 : List α), ri_beL f l l2 = true → l = l2
  | [], [], _ => rfl
  | x :: t, y :: u, h => by
    have h : (f x y && ri_beL f t u) = true := h
    rw [Bool.and_eq_true] at h
    rw [hf x y h.1, ri_beL_ok hf t u h.2]
  | [], y :: u, h => by cases h
  | x :: t, [], h => by cases h
/-- both constructors run, and what they leave -/
def p1_new : Bool := match p1_r1 with
  | some (none, L) => Nat.beq L.1 106 && (Nat.ble L.2.1 100000 && ((ri_get L.2.2 106).isSome && (match p1_r2 with
    | some (none, L) => Nat.beq L.1 p1_lit.1 && (Nat.beq L.2.1 p1_lit.2.1 && ri_beL (ri_beL ri_beE) L.2.2 p1_lit.2.2)
    | _ => false)))
  | _ => false
set_option maxRecDepth 1000000 in
theorem p1_new_ok : p1_new = true := by decide +kernel
theorem p1_new_use : p1_r1 = some (none, p1_L1) ∧ p1_L1.1 = 106 ∧ p1_L1.2.1 ≤ 100000 ∧ (ri_get p1_L1.2.2 106).isSome = true ∧ p1_r2 = some (none, p1_lit) := by
  have h := p1_new_ok
  unfold p1_new at h
  split at h
  · rename_i L hr
    have e1 : p1_L1 = L := by unfold p1_L1; rw [hr]
    simp only [Bool.and_eq_true, Nat.beq_eq, Nat.ble_eq] at h
    obtain ⟨h1, h2, h3, h4⟩ := h
    split at h4
    · rename_i L2 hr2
      simp only [Bool.and_eq_true, Nat.beq_eq] at h4
      have e2 : L2 = p1_lit := by
        obtain ⟨a, b, c⟩ := L2
        have := ri_beL_ok (fun x y => ri_beL_ok (fun _ _ => ri_beE_ok) x y) _ _ h4.2.2
        have e3 : (a, b, c) = (p1_lit.1, p1_lit.2.1, p1_lit.2.2) := by
          rw [← this, ← h4.1, ← h4.2.1]
        exact e3
      rw [e1, hr, hr2, e2]
      exact ⟨rfl, h1, h2, h3, rfl⟩
    · cases h4
  · cases h
end
