section
variable {G : am_G} {d : Nat} {y : am_M} {mc ms : Nat} {post : am_T} {k n pc N : Nat} {lv lv' : List (Nat × Value)} {st : List Value} {h : am_H}
theorem inX0 : ∀ w ∈ u_ws RX0 TX0 4, w ∈ am_tbl := by decide +kernel
theorem inX1 : ∀ w ∈ u_ws RX1 TX1 1, w ∈ am_tbl := by decide +kernel
theorem inX2 : ∀ w ∈ u_ws RX2 TX2 2, w ∈ am_tbl := by decide +kernel
theorem inX3 : ∀ w ∈ u_ws RX3 TX3 3, w ∈ am_tbl := by decide +kernel
theorem inX4 : ∀ w ∈ u_ws RX4 TX4 2, w ∈ am_tbl := by decide +kernel
theorem inX5 : ∀ w ∈ u_ws RX5 TX5 6, w ∈ am_tbl := by decide +kernel
theorem inX6 : ∀ w ∈ u_ws RX6 TX6 10, w ∈ am_tbl := by decide +kernel
theorem inX7 : ∀ w ∈ u_ws RX7 TX7 5, w ∈ am_tbl := by decide +kernel
theorem inX8 : ∀ w ∈ u_ws RX8 TX8 13, w ∈ am_tbl := by decide +kernel
theorem inX9 : ∀ w ∈ u_ws RX9 TX9 28, w ∈ am_tbl := by decide +kernel
theorem am_cls {ci : Nat} {q : vw_C} (hc : am_cl[ci]? = some q) : (∀ w ∈ u_ws q.1 q.2.1 q.2.2, w ∈ am_tbl) ∧ (∃ ty : Nat → FieldType, ∀ k, k < q.2.2 → parseFieldDescriptor (q.2.1 k).2.2.1 = some (ty k)) ∧ (∀ a, a < q.2.2 → ∀ b, b < q.2.2 → a ≠ b → (q.2.1 a).2.1 ≠ (q.2.1 b).2.1) := by
  match ci, hc with
  | 0, hc => cases hc; exact ⟨inX0, ⟨tyX0, tyX0_ok⟩, nmX0⟩
  | 1, hc => cases hc; exact ⟨inX1, ⟨tyX1, tyX1_ok⟩, nmX1⟩
  | 2, hc => cases hc; exact ⟨inX2, ⟨tyX2, tyX2_ok⟩, nmX2⟩
  | 3, hc => cases hc; exact ⟨inX3, ⟨tyX3, tyX3_ok⟩, nmX3⟩
  | 4, hc => cases hc; exact ⟨inX4, ⟨tyX4, tyX4_ok⟩, nmX4⟩
  | 5, hc => cases hc; exact ⟨inX5, ⟨tyX5, tyX5_ok⟩, nmX5⟩
  | 6, hc => cases hc; exact ⟨inX6, ⟨tyX6, tyX6_ok⟩, nmX6⟩
  | 7, hc => cases hc; exact ⟨inX7, ⟨tyX7, tyX7_ok⟩, nmX7⟩
  | 8, hc => cases hc; exact ⟨inX8, ⟨tyX8, tyX8_ok⟩, nmX8⟩
  | 9, hc => cases hc; exact ⟨inX9, ⟨tyX9, tyX9_ok⟩, nmX9⟩
  | ci + 10, hc => simp at hc
theorem am_wsr {G : am_G} {N a : Nat} {h : am_H} {ci : Nat} {fs : List Value} (ha : a < N) (hr : h a = .inr (ci, fs)) : (am_ws G N h)[a]? = some (am_B G + a, .inr (ci, fs.map (am_cv G))) := by rw [am_ws_get G h ha, hr]; rfl
theorem am_wsl {G : am_G} {N a : Nat} {h : am_H} {t : Nat} {x : vp_A} (ha : a < N) (hr : h a = .inl (t, x)) : (am_ws G N h)[a]? = some (am_B G + a, .inl (am_aC G t, am_ca G x)) := by rw [am_ws_get G h ha, hr]; rfl
theorem am_S {G : am_G} {s : State} {N : Nat} {h : am_H} {H : Heap} {locs : List Loc} (hZ : am_Z G s) (hW : am_W G N h H) (hlo : ∀ q ∈ locs, am_B G ≤ q.base) : va_S (fun q => am_B G ≤ q) (am_H0 G) H locs :=
  ⟨by rw [hZ.2.2.2, hW.1]; exact Nat.le_add_right _ _, fun q h1 _ => hW.2.1 q (by rw [hZ.2.2.2] at h1; exact h1), hlo⟩
theorem am_loc {G : am_G} {locs : List Loc} {a k : Nat} (hlo : ∀ q ∈ locs, am_B G ≤ q.base) (ha : am_B G ≤ a) : ∀ q ∈ locs ++ [⟨a, k⟩], am_B G ≤ q.base := by
  intro q hq
  rcases List.mem_append.mp hq with h | h
  · exact hlo q h
  · rw [List.mem_singleton.mp h]; exact ha
theorem am_get {a ci j idx : Nat} {q : vw_C} {fs : List Value} {v : Value} (hd : decode y.2.1 pc = .ok (.getfield idx, 3)) (hc : am_cl[ci]? = some q) (hj : j < q.2.2) (hlk : Cond.fieldLink y.1.cls idx (q.2.1 j).1 (q.2.1 j).2.1 (q.2.1 j).2.2.1 ∈ am_tbl) (ha : a < N) (hr : h a = .inr (ci, fs)) (hv : fs[j]? = some v) (kk : am_A G d y mc ms post (k) (n) (pc + 3) lv (v :: st) (N) (h)) : am_A G d y mc ms post (k) (n) (pc) lv (.ref a :: st) (N) (h) := by
  intro p e s m args below meth c H locs ls X hW hlo hl
  have hx := X.1
  have hb := X.2.1
  have hown := X.2.2.2.2.1
  have hts := X.2.2.2.2.2.1
  have hK := X.2.2.2.2.2.2.2.2
  exact va_get hx hb hts (am_cls hc).1 hown hK.1 hW.2.2 a (am_wsr ha hr) hc j hj (hts _ hlk) (fun _ h9 => h9) (by rw [List.getElem?_map, hv]; rfl) hd (kk p e s m args below meth c H locs ls X hW hlo hl)
theorem am_put {a ci j idx : Nat} {q : vw_C} {fs : List Value} {v : Value} {ty : FieldType} (hd : decode y.2.1 pc = .ok (.putfield idx, 3)) (hc : am_cl[ci]? = some q) (hj : j < q.2.2) (hlk : Cond.fieldLink y.1.cls idx (q.2.1 j).1 (q.2.1 j).2.1 (q.2.1 j).2.2.1 ∈ am_tbl) (hfin : (q.2.1 j).2.2.2 = false) (hty : parseFieldDescriptor (q.2.1 j).2.2.1 = some ty) (hnv : narrow ty (am_cv G v) = am_cv G v) (hfv : fits ty (am_cv G v) = true) (ha : a < N) (hr : h a = .inr (ci, fs)) (hf : j < fs.length) (kk : am_A G d y mc ms post (k) (n) (pc + 3) lv (st) (N) (va_up h a (.inr (ci, fs.set j v)))) : am_A G d y mc ms post (k) (n) (pc) lv (v :: .ref a :: st) (N) (h) := by
  intro p e s m args below meth c H locs ls X hW hlo hl
  have hx := X.1
  have hb := X.2.1
  have hown := X.2.2.2.2.1
  have hts := X.2.2.2.2.2.1
  have hK := X.2.2.2.2.2.2.2.2
  obtain ⟨C, T, M⟩ := q
  obtain ⟨hin, ⟨ty0, hty0⟩, hnm⟩ := am_cls hc
  have hap := va_apart (own := y.1.cls) hts hin ty0 hty0 hnm hK.1 hc
  have he := am_wsr (G := G) ha hr
  obtain ⟨r, h1, cell, q1, q2, q3, q4⟩ := hW.2.2 a _ he
  have hre : r = (C, T, M) := Option.some.inj (h1.symm.trans hc)
  subst hre
  obtain ⟨hS, hfc, kC, hkC, hkind⟩ := hK.1.1 ci _ hc
  obtain ⟨cf, kf, fi, f, hi, hsl⟩ := hS j hj
  have hlay := hts _ (hin _ (u_in_lay hj))
  unfold u_lay at hlay
  rw [if_neg (by rw [hfin]; decide)] at hlay
  have hst := (u_facts hfc hkC (u_lays hts hin hj) hi).1
  have h6 := u_store hfc hkC hkind hlay hi hty hnv hfv
  refine W.putK hx hb (f := f) ⟨hown, hts _ hlk, ⟨_, _, _, hi⟩, hst⟩ (by rw [q2]; exact h6) q1 q3 (by rw [hsl]; exact k2_hasslot (q4 j hj)) rfl rfl hd fun H' e1 e2 e3 => ?_
  rw [hsl] at e1 ⊢
  refine kk p e s m args below meth c H' _ ls X (am_W_set hW ?_ e2 e3) (am_loc hlo (Nat.le_add_right _ _)) hl
  exact ⟨_, hc, t_OB.to (V := updV (vp_V (fs.map (am_cv G))) j (am_cv G v)) ⟨_, e1, q2, q3, t_set q4 hap hj _⟩ (fun z _ => by
    rw [vp_updV_set (by simpa using hf) (am_cv G v) z, List.map_set])⟩
theorem am_putF {a ci j idx : Nat} {q : vw_C} {fs : List Value} {v : Value} {ty : FieldType} (hd : decode y.2.1 pc = .ok (.putfield idx, 3)) (hc : am_cl[ci]? = some q) (hj : j < q.2.2) (hlk : Cond.fieldLink y.1.cls idx (q.2.1 j).1 (q.2.1 j).2.1 (q.2.1 j).2.2.1 ∈ am_tbl) (hfin : (q.2.1 j).2.2.2 = true) (hin2 : y.1.name = "<init>") (hdecl : (q.2.1 j).1 = y.1.cls) (hty : parseFieldDescriptor (q.2.1 j).2.2.1 = some ty) (hnv : narrow ty (am_cv G v) = am_cv G v) (hfv : fits ty (am_cv G v) = true) (ha : a < N) (hr : h a = .inr (ci, fs)) (hf : j < fs.length) (kk : am_A G d y mc ms post (k) (n) (pc + 3) lv (st) (N) (va_up h a (.inr (ci, fs.set j v)))) : am_A G d y mc ms post (k) (n) (pc) lv (v :: .ref a :: st) (N) (h) := by
  intro p e s m args below meth c H locs ls X hW hlo hl
  have hx := X.1
  have hb := X.2.1
  have hown := X.2.2.2.2.1
  have hts := X.2.2.2.2.2.1
  have hK := X.2.2.2.2.2.2.2.2
  obtain ⟨C, T, M⟩ := q
  obtain ⟨hin, ⟨ty0, hty0⟩, hnm⟩ := am_cls hc
  have hap := va_apart (own := y.1.cls) hts hin ty0 hty0 hnm hK.1 hc
  have he := am_wsr (G := G) ha hr
  obtain ⟨r, h1, cell, q1, q2, q3, q4⟩ := hW.2.2 a _ he
  have hre : r = (C, T, M) := Option.some.inj (h1.symm.trans hc)
  subst hre
  obtain ⟨hS, hfc, kC, hkC, hkind⟩ := hK.1.1 ci _ hc
  obtain ⟨cf, kf, fi, f, hi, hsl⟩ := hS j hj
  have hlay := hts _ (hin _ (u_in_lay hj))
  unfold u_lay at hlay
  rw [if_pos hfin] at hlay
  have hst := (u_facts hfc hkC (u_lays hts hin hj) hi).1
  have hcf : m.cls = cf := by
    obtain ⟨_, _, c', _, _, _, -, -, hf', -, -, -, hown2, -⟩ := Cond.laysFinal_spec hlay
    have e1 : c' = cf := by have := hi.symm.trans hf'; simp at this; exact this.1.symm
    rw [hdecl] at hown2
    rw [← e1]; exact Option.some.inj (hown.symm.trans hown2)
  have h6 := u_fits hfc hkC hkind (Or.inr hlay) hi hty hnv hfv
  have hin3 : meth.name = "<init>" := X.2.2.2.2.2.2.2.1.trans hin2
  refine W.putFinK hx hb hown (hts _ hlk) hi hst hcf hin3 (by rw [q2]; exact h6) q1 q3 (by rw [hsl]; exact k2_hasslot (q4 j hj)) rfl rfl hd fun H' e1 e2 e3 => ?_
  rw [hsl] at e1 ⊢
  refine kk p e s m args below meth c H' _ ls X (am_W_set hW ?_ e2 e3) (am_loc hlo (Nat.le_add_right _ _)) hl
  exact ⟨_, hc, t_OB.to (V := updV (vp_V (fs.map (am_cv G))) j (am_cv G v)) ⟨_, e1, q2, q3, t_set q4 hap hj _⟩ (fun z _ => by
    rw [vp_updV_set (by simpa using hf) (am_cv G v) z, List.map_set])⟩
theorem am_iald {a z : Nat} {f : Nat → Int32} {i : Int32} (hd : decode y.2.1 pc = .ok (.iaload, 1)) (ha : a < N) (hr : h a = .inl (0, z, .inl f)) (hi : vp_in i z) (kk : am_A G d y mc ms post (k) (n) (pc + 1) lv (.int (f i.toNatClampNeg) :: st) (N) (h)) : am_A G d y mc ms post (k) (n) (pc) lv (.int i :: .ref a :: st) (N) (h) := by
  intro p e s m args below meth c H locs ls X hW hlo hl
  have hx := X.1
  have hb := X.2.1
  have hown := X.2.2.2.2.1
  have hts := X.2.2.2.2.2.1
  have hK := X.2.2.2.2.2.2.2.2
  exact va_iald hx hb hK.1 hW.2.2 a 0 (am_wsl ha hr) rfl hi hd (kk p e s m args below meth c H locs ls X hW hlo hl)
theorem am_lald {a z : Nat} {f : Nat → Int64} {i : Int32} (hd : decode y.2.1 pc = .ok (.laload, 1)) (ha : a < N) (hr : h a = .inl (1, z, .inr (.inl f))) (hi : vp_in i z) (kk : am_A G d y mc ms post (k) (n) (pc + 1) lv (.long (f i.toNatClampNeg) :: st) (N) (h)) : am_A G d y mc ms post (k) (n) (pc) lv (.int i :: .ref a :: st) (N) (h) := by
  intro p e s m args below meth c H locs ls X hW hlo hl
  have hx := X.1
  have hb := X.2.1
  have hown := X.2.2.2.2.1
  have hts := X.2.2.2.2.2.1
  have hK := X.2.2.2.2.2.2.2.2
  exact va_lald hx hb hK.1 hW.2.2 a 1 (am_wsl ha hr) rfl hi hd (kk p e s m args below meth c H locs ls X hW hlo hl)
theorem am_tyq {G : am_G} {t : Nat} (h1 : 2 ≤ t) (h2 : t < 5) : ∃ C, (am_tys (am_aC G))[t]? = some (am_aC G t, .object C) := by
  match t, h1, h2 with
  | 2, _, _ => exact ⟨_, rfl⟩
  | 3, _, _ => exact ⟨_, rfl⟩
  | 4, _, _ => exact ⟨_, rfl⟩
theorem am_aald {a z t b : Nat} {f : Nat → Option Nat} {i : Int32} (hd : decode y.2.1 pc = .ok (.aaload, 1)) (h1 : 2 ≤ t) (h2 : t < 5) (ha : a < N) (hr : h a = .inl (t, z, .inr (.inr (.inr (.inr f))))) (hi : vp_in i z) (hv : f i.toNatClampNeg = some b) (kk : am_A G d y mc ms post (k) (n) (pc + 1) lv (.ref b :: st) (N) (h)) : am_A G d y mc ms post (k) (n) (pc) lv (.int i :: .ref a :: st) (N) (h) := by
  intro p e s m args below meth c H locs ls X hW hlo hl
  have hx := X.1
  have hb := X.2.1
  have hown := X.2.2.2.2.1
  have hts := X.2.2.2.2.2.1
  have hK := X.2.2.2.2.2.2.2.2
  obtain ⟨C, hC⟩ := am_tyq (G := G) h1 h2
  refine va_aldq hx hb hK.1 hW.2.2 a t (am_wsl ha hr) hC hi hd ?_
  show W p G.1 e _ s m args below meth c H locs k n _ (F0 m (pc + 1) ls (va_rf ((f i.toNatClampNeg).map _) :: _))
  rw [hv]
  exact (kk p e s m args below meth c H locs ls X hW hlo hl)
theorem am_alen {a t : Nat} {x : vp_A} (hd : decode y.2.1 pc = .ok (.arraylength, 1)) (ht : t < 5) (ha : a < N) (hr : h a = .inl (t, x)) (kk : am_A G d y mc ms post (k) (n) (pc + 1) lv (.int (Int32.ofNat x.1) :: st) (N) (h)) : am_A G d y mc ms post (k) (n) (pc) lv (.ref a :: st) (N) (h) := by
  intro p e s m args below meth c H locs ls X hW hlo hl
  have hx := X.1
  have hb := X.2.1
  have hown := X.2.2.2.2.1
  have hts := X.2.2.2.2.2.1
  have hK := X.2.2.2.2.2.2.2.2
  have ht2 : ∃ ty, (am_tys (am_aC G))[t]? = some (am_aC G t, ty) := by
    match t, ht with
    | 0, _ => exact ⟨_, rfl⟩
    | 1, _ => exact ⟨_, rfl⟩
    | 2, _ => exact ⟨_, rfl⟩
    | 3, _ => exact ⟨_, rfl⟩
    | 4, _ => exact ⟨_, rfl⟩
  obtain ⟨ty, hty⟩ := ht2
  exact va_alen hx hb hK.1 hW.2.2 a t (am_wsl ha hr) hty (by obtain ⟨z, f | f | f | f | f⟩ := x <;> rfl) hd (kk p e s m args below meth c H locs ls X hW hlo hl)
theorem am_iast {a z : Nat} {f : Nat → Int32} {i : Int32} {x : Int32} (hd : decode y.2.1 pc = .ok (.iastore, 1)) (ha : a < N) (hr : h a = .inl (0, z, .inl f)) (hi : vp_in i z) (kk : am_A G d y mc ms post (k) (n) (pc + 1) lv (st) (N) (va_up h a (.inl (0, z, .inl (upd f i.toNatClampNeg x))))) : am_A G d y mc ms post (k) (n) (pc) lv (.int x :: .int i :: .ref a :: st) (N) (h) := by
  intro p e s m args below meth c H locs ls X hW hlo hl
  have hx := X.1
  have hb := X.2.1
  have hown := X.2.2.2.2.1
  have hts := X.2.2.2.2.2.1
  have hK := X.2.2.2.2.2.2.2.2
  refine W.iast hx hb (hW.2.2 a _ (am_wsl ha hr)) ((hK.1.2 0 _ rfl).1 z (fun j => .int (f j))) (fun q => by cases q) (by show ¬ (i < 0 ∨ (arrV _ _ _).slots.size ≤ _); rw [arrV_size]; exact hi) rfl rfl hd fun H1 e1 e2 oq => ?_
  refine kk p e s m args below meth c H1 _ ls X (am_W_set hW ?_ e2 oq) (am_loc hlo (Nat.le_add_right _ _)) hl
  show H1[am_B G + a]? = some (vp_cell _ _)
  rw [e1]
  show some ((vp_cell _ _).setSlot _ _) = _
  rw [show am_ca G (z, .inl f) = (z, .inl f) from rfl, show am_ca G (z, .inl (upd f i.toNatClampNeg x)) = (z, .inl (upd f i.toNatClampNeg x)) from rfl, vp_cell_i, vp_cell_i, arrV_store]
  congr 2
  funext q
  by_cases hq : q = i.toNatClampNeg
  · subst hq
    simp [updV, upd]
  · simp [updV, upd, hq]
theorem am_last {a z : Nat} {f : Nat → Int64} {i : Int32} {x : Int64} (hd : decode y.2.1 pc = .ok (.lastore, 1)) (ha : a < N) (hr : h a = .inl (1, z, .inr (.inl f))) (hi : vp_in i z) (kk : am_A G d y mc ms post (k) (n) (pc + 1) lv (st) (N) (va_up h a (.inl (1, z, .inr (.inl (vp_updL f i.toNatClampNeg x)))))) : am_A G d y mc ms post (k) (n) (pc) lv (.long x :: .int i :: .ref a :: st) (N) (h) := by
  intro p e s m args below meth c H locs ls X hW hlo hl
  have hx := X.1
  have hb := X.2.1
  have hown := X.2.2.2.2.1
  have hts := X.2.2.2.2.2.1
  have hK := X.2.2.2.2.2.2.2.2
  refine W.last hx hb (hW.2.2 a _ (am_wsl ha hr)) ((hK.1.2 1 _ rfl).1 z (fun j => .long (f j))) (fun q => by cases q) (by show ¬ (i < 0 ∨ (arrV _ _ _).slots.size ≤ _); rw [arrV_size]; exact hi) rfl rfl hd fun H1 e1 e2 oq => ?_
  refine kk p e s m args below meth c H1 _ ls X (am_W_set hW ?_ e2 oq) (am_loc hlo (Nat.le_add_right _ _)) hl
  show H1[am_B G + a]? = some (vp_cell _ _)
  rw [e1]
  show some ((vp_cell _ _).setSlot _ _) = _
  rw [show am_ca G (z, .inr (.inl f)) = (z, .inr (.inl f)) from rfl, show am_ca G (z, .inr (.inl (vp_updL f i.toNatClampNeg x))) = (z, .inr (.inl (vp_updL f i.toNatClampNeg x))) from rfl, vp_cell_l, vp_cell_l, arrV_store]
  congr 2
  funext q
  by_cases hq : q = i.toNatClampNeg
  · subst hq
    simp [updV, vp_updL]
  · simp [updV, vp_updL, hq]
theorem am_aast {a z t b ci : Nat} {q : vw_C} {f : Nat → Option Nat} {i : Int32} {vs : List Value} (hd : decode y.2.1 pc = .ok (.aastore, 1)) (ht : (am_tys (am_aC G))[t]? = some (am_aC G t, .object q.1)) (hc : am_cl[ci]? = some q) (ha : a < N) (hr : h a = .inl (t, z, .inr (.inr (.inr (.inr f))))) (hb2 : b < N) (hrb : h b = .inr (ci, vs)) (hi : vp_in i z) (kk : am_A G d y mc ms post (k) (n) (pc + 1) lv (st) (N) (va_up h a (.inl (t, z, .inr (.inr (.inr (.inr (va_up f i.toNatClampNeg (some b))))))))) : am_A G d y mc ms post (k) (n) (pc) lv (.ref b :: .int i :: .ref a :: st) (N) (h) := by
  intro p e s m args below meth c H locs ls X hW hlo hl
  have hx := X.1
  have hb := X.2.1
  have hown := X.2.2.2.2.1
  have hts := X.2.2.2.2.2.1
  have hK := X.2.2.2.2.2.2.2.2
  have hlt : i.toNatClampNeg < z := Nat.not_le.mp fun q => hi (Or.inr q)
  have h0 : ¬ i < 0 := fun q => hi (Or.inl q)
  obtain ⟨r', hr', cellV, g1, g2, g3, -⟩ := hW.2.2 b _ (am_wsr hb2 hrb)
  have hcls := (hK.1.1 ci q hc).2
  obtain ⟨kA, comp, k1, k2, k3, -⟩ := (hK.1.2 t _ ht).2
  have hcomp : comp = (am_D G).1 ci := Option.some.inj (k3.symm.trans hcls.1)
  subst hcomp
  obtain ⟨kC, hkC, -⟩ := hcls.2
  refine W.aast hx hb (hW.2.2 a _ (am_wsl ha hr)) (fun q h => by cases h) (fun h => by cases h) k1 k2 rfl hkC ⟨h0, by show _ < (arrV _ _ _).slots.size; rw [arrV_size]; exact hlt⟩ g1 (fun q h => by rw [g3] at h; cases h) (by rw [g2]; exact hkC) (by rw [g2]; exact va_assign hcls) rfl rfl hd fun H1 e1 e2 oq => ?_
  refine kk p e s m args below meth c H1 _ ls X (am_W_set hW ?_ e2 oq) (am_loc hlo (Nat.le_add_right _ _)) hl
  show H1[am_B G + a]? = some (vp_cell _ _)
  rw [e1]
  show some ((arrV _ _ (fun j => va_rf ((f j).map _))).setSlot _ _) = some (arrV _ _ (fun j => va_rf ((va_up f i.toNatClampNeg (some b) j).map _)))
  rw [arrV_store]
  congr 2
  funext q
  by_cases hq : q = i.toNatClampNeg
  · subst hq
    simp [updV, va_up, va_rf]
  · simp [updV, va_up, hq]
end
