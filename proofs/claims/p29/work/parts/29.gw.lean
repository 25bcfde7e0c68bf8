noncomputable section
/-! ===== the law: calls over W, with the abstract machine's contracts ===== -/
section
variable {G : am_G} {p : Program} {e : Env} {R : Room} {s : State} {m : MethodId} {args : Array Value} {below : List Frame} {meth : Method} {c : Code} {H : Heap} {locs : List Loc} {ls : Array Slot} {k n pc nL N : Nat} {h : am_H} {Q : State → Prop} {cc : ByteArray} {own : String}
/-- behind a call -/
theorem gw_after {a0 : Array Value} {st0 rest : List Value} {mc2 ms2 : Nat} {post2 : am_T}
    (hr : va_Run p G.1 e R s m args below meth c H locs k n mc2 ms2 (F0 m pc ls st0) rest (am_Q G post2 a0) (fun q => am_B G ≤ q)) (hlo : ∀ q ∈ locs, am_B G ≤ q.base)
    (kk : ∀ (r : Option Value) (N' : Nat) (h' : am_H) (H' : Heap) (locs' : List Loc), post2 r N' h' → am_W G N' h' H' → (∀ q ∈ locs', am_B G ≤ q.base) → W p G.1 e R s m args below meth c H' locs' (k + mc2) (n + ms2) Q (F0 m (pc + 3) ls ((r.map (am_cv G)).toList ++ rest))) :
    W p G.1 e R s m args below meth c H locs k n Q (F0 m pc ls st0) := by
  intro T hT Xs
  obtain ⟨v, st₀, t, T', L, h0, X', hL, e1, e2, ⟨r, N', h', hv, hp, hw⟩, stp⟩ := hr T hT Xs
  have hv2 : v = r.map (am_cv G) := by cases hv; rfl
  subst hv2
  obtain ⟨t2, a1, b1⟩ := kk r N' h' T'.heap (locs ++ L) hp (by rw [e1]; exact hw) (fun q hq => by
    rcases List.mem_append.mp hq with h | h
    · exact hlo q h
    · exact hL q h) T' rfl X'
  exact ⟨t2, stp t2 a1, b1⟩
theorem gw_callB {y2 : am_M} {n2 d2 mc2 ms2 idx : Nat} (hts : ∀ w ∈ am_tbl, w.before args s = true) (ok : am_okM y2 n2) (hlk : Cond.methodLink own idx y2.1 ∈ am_tbl) (hd2 : d2 + 1 ≤ R.frames) (hd3 : 100 * d2 + 80 ≤ R.locals) : CallB R s args own idx y2.1 y2.2.1 y2.2.2.1 y2.2.2.2 (am_wy y2) (am_R d2 mc2 ms2) mc2 ms2 n2 :=
  callB_of n2 hts (am_goody ok.2.1) rfl rfl rfl (hts _ ok.2.2.1) (hts _ hlk) ok.2.2.2.1 ⟨hd2, by have := ok.2.2.2.2; show 8 + (y2.2.2.1 + 11) + 100 * d2 ≤ R.locals; omega⟩
theorem gw_callV {y2 : am_M} {n2 d2 mc2 ms2 idx a ci : Nat} {q : vw_C} {fs as rest : List Value} {post2 : am_T} (hx : p.tables.exec = Jvm.exec) (hb : c.code = cc) (hml : c.maxLocals = nL) (hown : s.vm.findClass own = some m.cls) (hts : ∀ w ∈ am_tbl, w.before args s = true) (hK : am_K G s) (hW : am_W G N h H) (hlo : ∀ q ∈ locs, am_B G ≤ q.base) (hls : ls.size = nL)
    (hd : decode cc pc = .ok (.invokevirtual idx, 3)) (ok : am_okM y2 n2) (hlk : Cond.methodLink own idx y2.1 ∈ am_tbl) (hin : Cond.instanceMethod y2.1 ∈ am_tbl) (hsel : Cond.selects y2.1.cls y2.1 y2.1 ∈ am_tbl) (hc : am_cl[ci]? = some q) (hcq : q.1 = y2.1.cls) (ha : a < N) (hr : h a = .inr (ci, fs)) (hn2 : as.length = n2) (hrest : (rest.map fun v => v.category).sum ≤ 8) (hd2 : d2 + 1 ≤ R.frames) (hd3 : 100 * d2 + 80 ≤ R.locals) (hk : k + mc2 ≤ R.cells) (hn : n + ms2 ≤ R.slots)
    (hC : am_C G d2 y2 mc2 ms2 (.ref a :: as) N h post2) {st0 : List Value} (hst : st0 = (as.map (am_cv G)).reverse ++ .ref (am_B G + a) :: rest)
    (kk : ∀ (r : Option Value) (N' : Nat) (h' : am_H) (H' : Heap) (locs' : List Loc), post2 r N' h' → am_W G N' h' H' → (∀ q ∈ locs', am_B G ≤ q.base) → W p G.1 e R s m args below meth c H' locs' (k + mc2) (n + ms2) Q (F0 m (pc + 3) ls ((r.map (am_cv G)).toList ++ rest))) :
    W p G.1 e R s m args below meth c H locs k n Q (F0 m pc ls st0) := by
  subst hst
  refine gw_after (va_runV (C := y2.1.cls) (b := am_B G + a) (As := as.map (am_cv G)) ⟨hx, hb, hml, hown, hts⟩ hC ⟨gw_callB hts ok hlk hd2 hd3, hts _ hin, hts _ hsel⟩ ⟨am_blind G N h _, ?_, fun U hU hWm => ⟨rfl, by rw [hU]; exact hW, am_K.moved hWm.alike hK⟩⟩ rfl (by simpa using hn2) hls rfl (lv_room hrest) hd ⟨hk, hn⟩) hlo kk
  have := va_recv hK.1 hW.2.2 hc (am_wsr ha hr)
  rw [hcq] at this
  exact this
theorem gw_callI {y2 : am_M} {n2 d2 mc2 ms2 idx a : Nat} {as rest : List Value} {post2 : am_T} (hx : p.tables.exec = Jvm.exec) (hb : c.code = cc) (hml : c.maxLocals = nL) (hown : s.vm.findClass own = some m.cls) (hts : ∀ w ∈ am_tbl, w.before args s = true) (hK : am_K G s) (hW : am_W G N h H) (hlo : ∀ q ∈ locs, am_B G ≤ q.base) (hls : ls.size = nL)
    (hd : decode cc pc = .ok (.invokespecial idx, 3)) (ok : am_okM y2 n2) (hlk : Cond.methodLink own idx y2.1 ∈ am_tbl) (hin : Cond.instanceMethod y2.1 ∈ am_tbl) (hy1 : y2.1.name = "<init>") (hret : y2.2.2.2 = none) (hn2 : as.length = n2) (hrest : (rest.map fun v => v.category).sum ≤ 8) (hd2 : d2 + 1 ≤ R.frames) (hd3 : 100 * d2 + 80 ≤ R.locals) (hk : k + mc2 ≤ R.cells) (hn : n + ms2 ≤ R.slots)
    (hC : am_C G d2 y2 mc2 ms2 (.ref a :: as) N h post2) {st0 : List Value} (hst : st0 = (as.map (am_cv G)).reverse ++ .ref (am_B G + a) :: rest)
    (kk : ∀ (r : Option Value) (N' : Nat) (h' : am_H) (H' : Heap) (locs' : List Loc), post2 r N' h' → am_W G N' h' H' → (∀ q ∈ locs', am_B G ≤ q.base) → W p G.1 e R s m args below meth c H' locs' (k + mc2) (n + ms2) Q (F0 m (pc + 3) ls ((r.map (am_cv G)).toList ++ rest))) :
    W p G.1 e R s m args below meth c H locs k n Q (F0 m pc ls st0) := by
  subst hst
  obtain ⟨y2n, y2c, y2m, y2r⟩ := y2
  have hret : y2r = none := hret
  subst hret
  exact gw_after (va_runI (b := am_B G + a) (As := as.map (am_cv G)) ⟨hx, hb, hml, hown, hts⟩ hC ⟨gw_callB hts ok hlk hd2 hd3, hy1, hts _ hin⟩ ⟨am_blind G N h _, fun U hU hWm => ⟨rfl, by rw [hU]; exact hW, am_K.moved hWm.alike hK⟩⟩ rfl (by simpa using hn2) hls rfl (lv_room hrest) hd ⟨hk, hn⟩) hlo kk
theorem gw_new {ci idx : Nat} {q : vw_C} {st : List Value} (hx : p.tables.exec = Jvm.exec) (hb : c.code = cc) (hown : s.vm.findClass own = some m.cls) (hts : ∀ w ∈ am_tbl, w.before args s = true) (hK : am_K G s) (hW : am_W G N h H)
    (hd : decode cc pc = .ok (.new idx, 3)) (hc : am_cl[ci]? = some q) (hlk : Cond.classLink own idx q.1 ∈ am_tbl) (hk : k + 1 ≤ R.cells) (hn : n + q.2.2 ≤ R.slots) (kk : ∀ H', am_W G (N + 1) (va_up h N (.inr (ci, am_df ci))) H' → W p G.1 e R s m args below meth c H' locs (k + 1) (n + q.2.2) Q (F0 m (pc + 3) ls (.ref (am_B G + N) :: st))) : W p G.1 e R s m args below meth c H locs k n Q (F0 m pc ls st) := by
  obtain ⟨C, T, M⟩ := q
  obtain ⟨hin0, ⟨ty, hty⟩, -⟩ := am_cls hc
  have hi := am_inst hc
  have hKn := hK.1.1 ci _ hc
  refine W.newcK hx hb hown (hts _ hlk) (hts _ hi.1) (hts _ hi.2.1) rfl hd hk hn hKn.2.1 hW.1 fun H1 kC hkC e1 z1 o1 => ?_
  refine kk H1 (am_W_push hW ?_ (by rw [z1, hW.1]) (fun q hq => o1 q (by rw [← hW.1]; exact hq)))
  refine ⟨_, hc, (u_born ty hts hin0 hKn hkC e1 hty).to (fun j hj => ?_)⟩
  show _ = vp_V ((am_df ci).map (am_cv G)) j
  rw [am_df_cv]
  have h2 := am_df_ok hc j hj
  rw [hty j hj] at h2
  exact Option.some.inj h2
end
end
