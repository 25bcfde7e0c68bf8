/-! ===== the abstract machine: cells by number, all addresses are base + number; one context for all methods ===== -/
abbrev am_G : Type := Launch × Nat × Heap × (Nat → ClassId) × (Nat → Nat → Nat) × (Nat → ClassId) × Nat × (Nat → Int32)
abbrev am_B (G : am_G) : Nat := G.2.1
abbrev am_H0 (G : am_G) : Heap := G.2.2.1
abbrev am_D (G : am_G) : va_G := (G.2.2.2.1, G.2.2.2.2.1)
abbrev am_aC (G : am_G) : Nat → ClassId := G.2.2.2.2.2.1
abbrev am_pl (G : am_G) : Nat := G.2.2.2.2.2.2.1
abbrev am_rho (G : am_G) : Nat → Int32 := G.2.2.2.2.2.2.2
/-- a value: .ref k is the cell of number k; .retAddr n is the int nI n; .float b is the unknown int of number b, .double b that as a long; .float 4294967295 is the static array PLACES; .float (2000 + b) is the plan of that unknown number (of the cells 90, 92 .. 104), .float (3000 + b) its row of codes -/
def am_cv (G : am_G) (v : Value) : Value := match v with
  | .ref a => .ref (am_B G + a)
  | .retAddr n => .int (nI n)
  | .int x => .int x
  | .long x => .long x
  | .float b => if b = 4294967295 then .ref (am_pl G) else if 3000 ≤ b.toNat ∧ b.toNat < 4000 then .ref (am_B G + (91 + 2 * (am_rho G (b.toNat - 3000)).toNatClampNeg)) else if 2000 ≤ b.toNat ∧ b.toNat < 3000 then .ref (am_B G + (90 + 2 * (am_rho G (b.toNat - 2000)).toNatClampNeg)) else .int (am_rho G b.toNat)
  | .double b => .long (am_rho G b.toNat).toInt64
  | .null => .null
def am_ca (G : am_G) (x : vp_A) : vp_A := match x with
  | (n, .inl f) => (n, .inl f)
  | (n, .inr (.inl f)) => (n, .inr (.inl f))
  | (n, .inr (.inr (.inl f))) => (n, .inr (.inr (.inl f)))
  | (n, .inr (.inr (.inr (.inl f)))) => (n, .inr (.inr (.inr (.inl f))))
  | (n, .inr (.inr (.inr (.inr f)))) => (n, .inr (.inr (.inr (.inr (fun j => (f j).map (fun a => am_B G + a))))))
def am_ce (G : am_G) (e : am_E) : va_E := match e with
  | .inl (t, x) => .inl (am_aC G t, am_ca G x)
  | .inr (c, fs) => .inr (c, fs.map (am_cv G))
def am_ws (G : am_G) (N : Nat) (h : am_H) : va_W := (List.range N).map (fun k => (am_B G + k, am_ce G (h k)))
def am_tys (aC : Nat → ClassId) : List (ClassId × FieldType) := [(aC 0, .int), (aC 1, .long), (aC 2, .object RX4), (aC 3, .object RX3), (aC 4, .object RX2)]
def am_W (G : am_G) (N : Nat) (h : am_H) (H : Heap) : Prop := H.size = am_B G + N ∧ (∀ q : Nat, q < am_B G → H[q]? = (am_H0 G)[q]?) ∧ va_P (am_D G) am_cl (am_ws G N h) H
def am_PL : Nat → Int32 := fun j => ([9, 10, 5, 6, 1, 2, 0, 0, 3, 4, 7, 8, 11] : List Int32).getD j 0
def am_Z (G : am_G) (s : State) : Prop := va_Z RX1 "PLACES" "[I" (.ref (am_pl G)) (fun q => am_B G ≤ q) s (am_H0 G) ∧ va_T .int (am_pl G) 13 (fun j => .int (am_PL j)) (fun q => am_B G ≤ q) s (am_H0 G) ∧ am_pl G < am_B G ∧ (am_H0 G).size = am_B G
def am_K (G : am_G) (s : State) : Prop := va_K (am_D G) am_cl (am_tys (am_aC G)) s ∧ am_Z G s ∧ va_AO RX4 s ∧ va_AO RX3 s ∧ va_AO RX2 s
def am_X (G : am_G) (y : am_M) (p : Program) (s : State) (m : MethodId) (args : Array Value) (meth : Method) (c : Code) : Prop :=
  p.tables.exec = Jvm.exec ∧ c.code = y.2.1 ∧ meth.sig.returnType = y.2.2.2 ∧ c.maxLocals = y.2.2.1 ∧ s.vm.findClass y.1.cls = some m.cls ∧ (∀ w ∈ am_tbl, w.before args s = true) ∧ meth.locks = false ∧ meth.name = y.1.name ∧ am_K G s
def am_R (d mc ms : Nat) : Room := { frames := d, cells := mc, slots := ms, locals := 100 * d }
abbrev am_T : Type := Option Value → Nat → am_H → Prop
def am_P (G : am_G) (N : Nat) (h : am_H) (as : List Value) : Array Value → State → Prop := va_Pc (as.map (am_cv G)) (fun U => am_W G N h U.heap ∧ am_K G U)
def am_Q (G : am_G) (post : am_T) : Array Value → State → Outcome → State → Prop := fun _ _ oc t => ∃ (r : Option Value) (N' : Nat) (h' : am_H), oc = .returned (r.map (am_cv G)) ∧ post r N' h' ∧ am_W G N' h' t.heap
def am_wy (y : am_M) : List Cond := .code y.1 y.2.1 y.2.2.1 y.2.2.2 :: am_tbl
/-- a method's contract -/
def am_C (G : am_G) (d : Nat) (y : am_M) (mc ms : Nat) (as : List Value) (N : Nat) (h : am_H) (post : am_T) : Prop :=
  Met G.1 y.1 (am_wy y) (am_R d mc ms) (am_P G N h as) (am_Q G post) mc ms (fun q => am_B G ≤ q)
def am_lv (G : am_G) (lv : List (Nat × Value)) : List (Nat × Value) := lv.map (fun q => (q.1, am_cv G q.2))
/-- the machine in a method's body -/
def am_A (G : am_G) (d : Nat) (y : am_M) (mc ms : Nat) (post : am_T) (k n : Nat) (pc : Nat) (lv : List (Nat × Value)) (st : List Value) (N : Nat) (h : am_H) : Prop :=
  ∀ (p : Program) (e : Env) (s : State) (m : MethodId) (args : Array Value) (below : List Frame) (meth : Method) (c : Code) (H : Heap) (locs : List Loc) (ls : Array Slot),
    am_X G y p s m args meth c → am_W G N h H → (∀ q ∈ locs, am_B G ≤ q.base) → lv_has ls y.2.2.1 (am_lv G lv) →
    W p G.1 e (am_R d mc ms) s m args below meth c H locs k n (MQ below (am_Q G post) args s mc ms (fun q => am_B G ≤ q)) (F0 m pc ls (st.map (am_cv G)))
-- ----- plain facts
theorem am_cat (G : am_G) (v : Value) : (am_cv G v).category = v.category := by
  cases v
  case float b =>
    show (if b = 4294967295 then Value.ref (am_pl G) else if 3000 ≤ b.toNat ∧ b.toNat < 4000 then Value.ref (am_B G + (91 + 2 * (am_rho G (b.toNat - 3000)).toNatClampNeg)) else if 2000 ≤ b.toNat ∧ b.toNat < 3000 then Value.ref (am_B G + (90 + 2 * (am_rho G (b.toNat - 2000)).toNatClampNeg)) else Value.int (am_rho G b.toNat)).category = 1
    split
    · rfl
    · split
      · rfl
      · split <;> rfl
  all_goals rfl
theorem am_ws_get (G : am_G) {N k : Nat} (h : am_H) (hk : k < N) : (am_ws G N h)[k]? = some (am_B G + k, am_ce G (h k)) := by
  simp [am_ws, hk]
theorem am_ws_of (G : am_G) {N k : Nat} {h : am_H} {q : Nat × va_E} (hq : (am_ws G N h)[k]? = some q) : k < N ∧ q = (am_B G + k, am_ce G (h k)) := by
  simp only [am_ws, List.getElem?_map] at hq
  by_cases hk : k < N
  · rw [List.getElem?_range hk] at hq
    simp at hq
    exact ⟨hk, hq.symm⟩
  · rw [List.getElem?_eq_none (by simpa using hk)] at hq
    simp at hq
theorem am_ws_D (G : am_G) (N : Nat) (h : am_H) : va_D (fun q => am_B G ≤ q) (am_ws G N h) := by
  refine ⟨fun i j p q hp hq he => ?_, fun k q hq => ?_⟩
  · obtain ⟨-, rfl⟩ := am_ws_of G hp
    obtain ⟨-, rfl⟩ := am_ws_of G hq
    simp at he
    exact he
  · obtain ⟨-, rfl⟩ := am_ws_of G hq
    exact Nat.le_add_right _ _
theorem am_P_of {G : am_G} {N : Nat} {h : am_H} {H : Heap} (hk : ∀ k, k < N → va_at (am_D G) am_cl (am_B G + k, am_ce G (h k)) H) : va_P (am_D G) am_cl (am_ws G N h) H := by
  intro k q hq
  obtain ⟨h1, rfl⟩ := am_ws_of G hq
  exact hk k h1
theorem am_at {G : am_G} {N : Nat} {h : am_H} {H : Heap} (hW : am_W G N h H) {k : Nat} (hk : k < N) : va_at (am_D G) am_cl (am_B G + k, am_ce G (h k)) H := hW.2.2 k _ (am_ws_get G h hk)
/-- one cell changes -/
theorem am_W_set {G : am_G} {N : Nat} {h : am_H} {H H1 : Heap} (hW : am_W G N h H) {k : Nat} {e : am_E} (he : va_at (am_D G) am_cl (am_B G + k, am_ce G e) H1) (hs : H1.size = H.size) (oq : ∀ q : Nat, q ≠ am_B G + k → H1[q]? = H[q]?) : am_W G N (va_up h k e) H1 := by
  refine ⟨by rw [hs]; exact hW.1, fun q hq => ?_, am_P_of fun j hj => ?_⟩
  · rw [oq q (by omega)]
    exact hW.2.1 q hq
  · by_cases hjk : j = k
    · subst hjk
      simp only [va_up, if_true]
      exact he
    · simp only [va_up, if_neg hjk]
      exact (am_at hW hj).kept (oq _ (by show am_B G + j ≠ _; omega))
/-- one cell more -/
theorem am_W_push {G : am_G} {N : Nat} {h : am_H} {H H1 : Heap} (hW : am_W G N h H) {e : am_E} (he : va_at (am_D G) am_cl (am_B G + N, am_ce G e) H1) (hs : H1.size = H.size + 1) (oq : ∀ q : Nat, q < H.size → H1[q]? = H[q]?) : am_W G (N + 1) (va_up h N e) H1 := by
  have h1 := hW.1
  refine ⟨by rw [hs, h1]; omega, fun q hq => ?_, am_P_of fun j hj => ?_⟩
  · rw [oq q (by omega)]
    exact hW.2.1 q hq
  · by_cases hjk : j = N
    · subst hjk
      simp only [va_up, if_true]
      exact he
    · simp only [va_up, if_neg hjk]
      exact (am_at hW (by omega)).kept (oq _ (by show am_B G + j < _; omega))
theorem am_K.moved {G : am_G} {u U : State} (hvm : u.vm.Alike U.vm) (h : am_K G u) : am_K G U :=
  ⟨va_K.moved hvm h.1, ⟨va_Z.moved hvm h.2.1.1, va_T.moved hvm h.2.1.2.1, h.2.1.2.2⟩, va_AO.moved hvm h.2.2.1, va_AO.moved hvm h.2.2.2.1, va_AO.moved hvm h.2.2.2.2⟩
theorem am_hts {args : Array Value} {s : State} (h : ∀ w ∈ lw_tbl, w.before args s = true) : ∀ w ∈ am_tbl, w.before args s = true := fun w hw => h w (List.mem_filter.mp hw).1
