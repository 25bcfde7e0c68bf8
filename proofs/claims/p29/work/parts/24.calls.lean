section
variable {G : am_G} {d : Nat} {y : am_M} {mc ms : Nat} {post : am_T} {k n pc N : Nat} {lv lv' : List (Nat × Value)} {st : List Value} {h : am_H}
theorem am_goody {y : am_M} (hc : Cond.code y.1 y.2.1 y.2.2.1 y.2.2.2 ∈ am_tbl) : GoodIn am_tbl (am_wy y) := fun w hw => by
  rcases List.mem_cons.mp hw with rfl | h
  · exact am_good _ hc
  · exact am_good _ h
theorem am_callB {y2 : am_M} {n2 d2 mc2 ms2 idx : Nat} {own : String} {s : State} {args : Array Value} (hts : ∀ w ∈ am_tbl, w.before args s = true) (ok : am_okM y2 n2) (hlk : Cond.methodLink own idx y2.1 ∈ am_tbl) (hd2 : d2 + 1 ≤ d) : CallB (am_R d mc ms) s args own idx y2.1 y2.2.1 y2.2.2.1 y2.2.2.2 (am_wy y2) (am_R d2 mc2 ms2) mc2 ms2 n2 :=
  callB_of n2 hts (am_goody ok.2.1) rfl rfl rfl (hts _ ok.2.2.1) (hts _ hlk) ok.2.2.2.1 ⟨hd2, by have := ok.2.2.2.2; show 8 + (y2.2.2.1 + 11) + 100 * d2 ≤ 100 * d; omega⟩
theorem am_blind (G : am_G) (N : Nat) (h : am_H) (as : List Value) : FrameBlind (am_P G N h as) := fun _ U _ _ q => ⟨q.1, q.2.1, am_K.moved (Vm.Alike.refl U.vm) q.2.2⟩
theorem am_catS (G : am_G) (st : List Value) : ((st.map (am_cv G)).map fun v => v.category).sum = (st.map fun v => v.category).sum := by
  rw [List.map_map, show ((fun v => v.category) ∘ am_cv G) = (fun v : Value => v.category) from funext (am_cat G)]
/-- behind a call -/
theorem am_after {p : Program} {e : Env} {s : State} {m : MethodId} {args a0 : Array Value} {below : List Frame} {meth : Method} {c : Code} {H : Heap} {locs : List Loc} {ls : Array Slot} {st0 : List Value} {rest : List Value} {mc2 ms2 : Nat} {post2 : am_T}
    (hr : va_Run p G.1 e (am_R d mc ms) s m args below meth c H locs k n mc2 ms2 (F0 m pc ls st0) (rest.map (am_cv G)) (am_Q G post2 a0) (fun q => am_B G ≤ q)) (X : am_X G y p s m args meth c) (hlo : ∀ q ∈ locs, am_B G ≤ q.base) (hl : lv_has ls y.2.2.1 (am_lv G lv))
    (kk : ∀ (r : Option Value) (N' : Nat) (h' : am_H), post2 r N' h' → am_A G d y mc ms post (k + mc2) (n + ms2) (pc + 3) lv (r.toList ++ rest) N' h') :
    W p G.1 e (am_R d mc ms) s m args below meth c H locs k n (MQ below (am_Q G post) args s mc ms (fun q => am_B G ≤ q)) (F0 m pc ls st0) := by
  intro T hT Xs
  obtain ⟨v, st₀, t, T', L, h0, X', hL, e1, e2, ⟨r, N', h', hv, hp, hw⟩, stp⟩ := hr T hT Xs
  have hv2 : v = r.map (am_cv G) := by cases hv; rfl
  subst hv2
  obtain ⟨t2, a1, b1⟩ := kk r N' h' hp p e s m args below meth c T'.heap (locs ++ L) ls X (by rw [e1]; exact hw) (fun q hq => by
    rcases List.mem_append.mp hq with h | h
    · exact hlo q h
    · exact hL q h) hl T' rfl X'
  refine ⟨t2, stp t2 ?_, b1⟩
  have e3 : (r.map (am_cv G)).toList ++ rest.map (am_cv G) = (r.toList ++ rest).map (am_cv G) := by cases r <;> rfl
  show Steps p.tables e below (T'.setTop (F0 m (pc + 3) ls ((r.map (am_cv G)).toList ++ rest.map (am_cv G)))) t2
  rw [e3]
  exact a1
theorem am_callV {y2 : am_M} {n2 d2 mc2 ms2 idx a ci : Nat} {q : vw_C} {fs as rest : List Value} {post2 : am_T} (hd : decode y.2.1 pc = .ok (.invokevirtual idx, 3)) (ok : am_okM y2 n2) (hlk : Cond.methodLink y.1.cls idx y2.1 ∈ am_tbl) (hin : Cond.instanceMethod y2.1 ∈ am_tbl) (hsel : Cond.selects y2.1.cls y2.1 y2.1 ∈ am_tbl) (hc : am_cl[ci]? = some q) (hcq : q.1 = y2.1.cls) (ha : a < N) (hr : h a = .inr (ci, fs)) (hst : st = as.reverse ++ .ref a :: rest) (hn2 : as.length = n2) (hrest : (rest.map fun v => v.category).sum ≤ 8) (hd2 : d2 + 1 ≤ d) (hk : k + mc2 ≤ mc) (hn : n + ms2 ≤ ms)
    (hC : am_C G d2 y2 mc2 ms2 (.ref a :: as) N h post2) (kk : ∀ (r : Option Value) (N' : Nat) (h' : am_H), post2 r N' h' → am_A G d y mc ms post (k + mc2) (n + ms2) (pc + 3) lv (r.toList ++ rest) N' h') : am_A G d y mc ms post (k) (n) (pc) lv (st) (N) (h) := by
  intro p e s m args below meth c H locs ls X hW hlo hl
  have hx := X.1
  have hb := X.2.1
  have hown := X.2.2.2.2.1
  have hts := X.2.2.2.2.2.1
  have hK := X.2.2.2.2.2.2.2.2
  subst hst
  refine am_after (va_runV (C := y2.1.cls) (b := am_B G + a) (As := as.map (am_cv G)) ⟨hx, hb, X.2.2.2.1, hown, hts⟩ hC ⟨am_callB hts ok hlk hd2, hts _ hin, hts _ hsel⟩ ⟨am_blind G N h _, ?_, fun U hU hWm => ⟨rfl, by rw [hU]; exact hW, am_K.moved hWm.alike hK⟩⟩ rfl (by simpa using hn2) hl.1 (by simp [am_cv]) (lv_room (by rw [am_catS]; exact hrest)) hd ⟨hk, hn⟩) X hlo hl kk
  have := va_recv hK.1 hW.2.2 hc (am_wsr ha hr)
  rw [hcq] at this
  exact this
theorem am_callS {y2 : am_M} {n2 d2 mc2 ms2 idx : Nat} {as rest : List Value} {post2 : am_T} (hd : decode y.2.1 pc = .ok (.invokestatic idx, 3)) (ok : am_okM y2 n2) (hlk : Cond.methodLink y.1.cls idx y2.1 ∈ am_tbl) (hin : Cond.static y2.1 ∈ am_tbl) (hst : st = as.reverse ++ rest) (hn2 : as.length = n2) (hrest : (rest.map fun v => v.category).sum ≤ 8) (hd2 : d2 + 1 ≤ d) (hk : k + mc2 ≤ mc) (hn : n + ms2 ≤ ms)
    (hC : am_C G d2 y2 mc2 ms2 as N h post2) (kk : ∀ (r : Option Value) (N' : Nat) (h' : am_H), post2 r N' h' → am_A G d y mc ms post (k + mc2) (n + ms2) (pc + 3) lv (r.toList ++ rest) N' h') : am_A G d y mc ms post (k) (n) (pc) lv (st) (N) (h) := by
  intro p e s m args below meth c H locs ls X hW hlo hl
  have hx := X.1
  have hb := X.2.1
  have hown := X.2.2.2.2.1
  have hts := X.2.2.2.2.2.1
  have hK := X.2.2.2.2.2.2.2.2
  subst hst
  exact am_after (va_runS (As := as.map (am_cv G)) ⟨hx, hb, X.2.2.2.1, hown, hts⟩ hC ⟨am_callB hts ok hlk hd2, hts _ hin⟩ ⟨am_blind G N h _, fun U hU hWm => ⟨rfl, by rw [hU]; exact hW, am_K.moved hWm.alike hK⟩⟩ rfl (by simpa using hn2) hl.1 (by simp) (lv_room (by rw [am_catS]; exact hrest)) hd ⟨hk, hn⟩) X hlo hl kk
theorem am_callI {y2 : am_M} {n2 d2 mc2 ms2 idx a : Nat} {as rest : List Value} {post2 : am_T} (hd : decode y.2.1 pc = .ok (.invokespecial idx, 3)) (ok : am_okM y2 n2) (hlk : Cond.methodLink y.1.cls idx y2.1 ∈ am_tbl) (hin : Cond.instanceMethod y2.1 ∈ am_tbl) (hy1 : y2.1.name = "<init>") (hret : y2.2.2.2 = none) (hst : st = as.reverse ++ .ref a :: rest) (hn2 : as.length = n2) (hrest : (rest.map fun v => v.category).sum ≤ 8) (hd2 : d2 + 1 ≤ d) (hk : k + mc2 ≤ mc) (hn : n + ms2 ≤ ms)
    (hC : am_C G d2 y2 mc2 ms2 (.ref a :: as) N h post2) (kk : ∀ (r : Option Value) (N' : Nat) (h' : am_H), post2 r N' h' → am_A G d y mc ms post (k + mc2) (n + ms2) (pc + 3) lv (r.toList ++ rest) N' h') : am_A G d y mc ms post (k) (n) (pc) lv (st) (N) (h) := by
  intro p e s m args below meth c H locs ls X hW hlo hl
  have hx := X.1
  have hb := X.2.1
  have hown := X.2.2.2.2.1
  have hts := X.2.2.2.2.2.1
  have hK := X.2.2.2.2.2.2.2.2
  subst hst
  obtain ⟨y2n, y2c, y2m, y2r⟩ := y2
  have hret : y2r = none := hret
  subst hret
  exact am_after (va_runI (b := am_B G + a) (As := as.map (am_cv G)) ⟨hx, hb, X.2.2.2.1, hown, hts⟩ hC ⟨am_callB hts ok hlk hd2, hy1, hts _ hin⟩ ⟨am_blind G N h _, fun U hU hWm => ⟨rfl, by rw [hU]; exact hW, am_K.moved hWm.alike hK⟩⟩ rfl (by simpa using hn2) hl.1 (by simp [am_cv]) (lv_room (by rw [am_catS]; exact hrest)) hd ⟨hk, hn⟩) X hlo hl kk
theorem am_obj {idx a : Nat} (hd : decode y.2.1 pc = .ok (.invokespecial idx, 3)) (hlk : Cond.methodLink y.1.cls idx objectInit ∈ am_tbl) (hin : Cond.instanceMethod objectInit ∈ am_tbl) (hcd : Cond.code objectInit ⟨#[0xb1]⟩ 1 none ∈ am_tbl) (hrest : (st.map fun v => v.category).sum ≤ 20) (hdd : 1 ≤ d) (kk : am_A G d y mc ms post (k) (n) (pc + 3) lv (st) (N) (h)) : am_A G d y mc ms post (k) (n) (pc) lv (.ref a :: st) (N) (h) := by
  intro p e s m args below meth c H locs ls X hW hlo hl
  have hx := X.1
  have hb := X.2.1
  have hown := X.2.2.2.2.1
  have hts := X.2.2.2.2.2.1
  have hK := X.2.2.2.2.2.2.2.2
  exact W.objInit hx hb hown (hts _ hlk) (hts _ hin) (hts _ hcd) rfl (by rw [X.2.2.2.1]; exact hl.1) rfl hd hdd (by
    show 2 * 0 + ((st.map (am_cv G)).map fun v => v.category).sum + 12 ≤ 100 * d
    rw [am_catS]; omega) (kk p e s m args below meth c H locs ls X hW hlo hl)
theorem am_iret {v : Int32} {ty : FieldType} (hd : decode y.2.1 pc = .ok (.ireturn, 1)) (hrt : y.2.2.2 = some ty) (hnr : narrow ty (.int v) = .int v) (hk : k ≤ mc) (hn : n ≤ ms) (hp : post (some (.int v)) N h) : am_A G d y mc ms post (k) (n) (pc) lv ([.int v]) (N) (h) := by
  intro p e s m args below meth c H locs ls X hW hlo hl
  have hx := X.1
  have hb := X.2.1
  have hown := X.2.2.2.2.1
  have hts := X.2.2.2.2.2.1
  have hK := X.2.2.2.2.2.2.2.2
  refine W.widen hk hn ?_
  exact W.zret hx hb (X.2.2.1.trans hrt) hnr (fun t ht _ => ⟨some (.int v), N, h, rfl, hp, by rw [ht]; exact hW⟩) hlo hd X.2.2.2.2.2.2.1
theorem am_lret {v : Int64} (hd : decode y.2.1 pc = .ok (.lreturn, 1)) (hrt : y.2.2.2 = some .long) (hk : k ≤ mc) (hn : n ≤ ms) (hp : post (some (.long v)) N h) : am_A G d y mc ms post (k) (n) (pc) lv ([.long v]) (N) (h) := by
  intro p e s m args below meth c H locs ls X hW hlo hl
  have hx := X.1
  have hb := X.2.1
  have hown := X.2.2.2.2.1
  have hts := X.2.2.2.2.2.1
  have hK := X.2.2.2.2.2.2.2.2
  refine W.widen hk hn ?_
  exact W.lret hx hb (X.2.2.1.trans hrt) (fun t ht _ => ⟨some (.long v), N, h, rfl, hp, by rw [ht]; exact hW⟩) hlo hd X.2.2.2.2.2.2.1
theorem am_vret (hd : decode y.2.1 pc = .ok (.return_, 1)) (hrt : y.2.2.2 = none) (hk : k ≤ mc) (hn : n ≤ ms) (hp : post none N h) : am_A G d y mc ms post (k) (n) (pc) lv ([]) (N) (h) := by
  intro p e s m args below meth c H locs ls X hW hlo hl
  have hx := X.1
  have hb := X.2.1
  have hown := X.2.2.2.2.1
  have hts := X.2.2.2.2.2.1
  have hK := X.2.2.2.2.2.2.2.2
  refine W.widen hk hn ?_
  exact W.vret hx hb (X.2.2.1.trans hrt) (fun t ht _ => ⟨none, N, h, rfl, hp, by rw [ht]; exact hW⟩) hlo hd X.2.2.2.2.2.2.1
theorem am_args (G : am_G) (as : List Value) : ∀ i, lv_args i (as.map (am_cv G)) = am_lv G (lv_args i as) := by
  induction as with
  | nil => intro i; rfl
  | cons v vs ih =>
    intro i
    simp only [List.map_cons, lv_args, am_cat]
    rw [ih]
    rfl
/-- a contract out of a walk from the entry -/
theorem am_ofA {n2 : Nat} {as : List Value} (ok : am_okM y n2) (hlen : (lg_sl as).length ≤ y.2.2.1) (kk : am_A G d y mc ms post 0 0 0 (lv_args 0 as) [] N h) : am_C G d y mc ms as N h post := by
  refine Met.ofW (cc := y.2.1) (maxL := y.2.2.1) (ret := y.2.2.2) ok.1 rfl ?_
  intro p e s m args below meth c s₁ B hml hv
  obtain ⟨rfl, hW, hK⟩ := hv
  have hls : (lg_sl (as.map (am_cv G))).length ≤ y.2.2.1 := by
    have e : ∀ l : List Value, (lg_sl (l.map (am_cv G))).length = (lg_sl l).length := by
      intro l
      induction l with
      | nil => rfl
      | cons v vs ih =>
        have ih2 := ih
        simp only [lg_sl] at ih2 ⊢
        simp only [List.map_cons, List.flatMap_cons, List.length_append, ih2, am_cat]
        split <;> rfl
    rw [e]; exact hlen
  have hl := lv_entry (as.map (am_cv G)) (n := y.2.2.1) hls
  rw [lg_entry_eq]
  rw [am_args] at hl
  exact kk p e s m _ below meth c s.heap [] _ ⟨B.exec, B.bytes, B.returns, hml, findClass_of_methodNamed B.named, fun w hw => atoms_spec (ws := am_wy y) B.pre w (List.mem_cons_of_mem _ hw), B.notSynchronized, (name_of_methodNamed B.named B.method).1, hK⟩ hW (fun _ h => by cases h) hl
theorem am_C.mono {as : List Value} {post2 : am_T} (hC : am_C G d y mc ms as N h post) (hp : ∀ r N' h', post r N' h' → post2 r N' h') : am_C G d y mc ms as N h post2 := by
  intro p e ha hc hk s m args below hf happ hP hK0
  obtain ⟨t, o, a1, b1, b2, ⟨⟨r, N', h', q1, q2, q3⟩, b4⟩⟩ := hC p e ha hc hk s m args below hf happ hP hK0
  exact ⟨t, o, a1, b1, b2, ⟨⟨r, N', h', q1, hp _ _ _ q2, q3⟩, b4⟩⟩
end
