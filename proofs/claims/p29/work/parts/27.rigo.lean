noncomputable section
theorem am_iniM : Cond.initialized "java/lang/Math" ∈ am_tbl := by decide +kernel
section
variable {G : am_G} {d : Nat} {y : am_M} {mc ms : Nat} {post : am_T} {k n pc N : Nat} {lv lv' : List (Nat × Value)} {st : List Value} {h : am_H}
theorem am_st_max : Cond.static Lib.Math.max.name ∈ am_tbl := by decide +kernel
theorem am_cd_max : Cond.code Lib.Math.max.name Lib.Math.max.code 2 (some .int) ∈ am_tbl := by decide +kernel
theorem am_mmax {x z : Int32} {idx : Nat} (hd : decode y.2.1 pc = .ok (.invokestatic idx, 3)) (hlk : Cond.methodLink y.1.cls idx Lib.Math.max.name ∈ am_tbl) (hdd : 1 ≤ d) (hk : k ≤ mc) (hn : n ≤ ms) (hrest : (st.map fun v => v.category).sum ≤ 20) (kk : am_A G d y mc ms post k n (pc + 3) lv (.int (if x < z then z else x) :: st) N h) : am_A G d y mc ms post k n pc lv (.int z :: .int x :: st) N h := by
  intro p e s m args below meth c H locs ls X hW hlo hl
  have hx := X.1
  have hb := X.2.1
  have hown := X.2.2.2.2.1
  have hts := X.2.2.2.2.2.1
  have hK := X.2.2.2.2.2.2.2.2
  exact va_mmax hx hb (X.2.2.2.1.trans hl.1.symm) hown (hts _ hlk) (hts _ am_st_max) (hts _ am_iniM) (hts _ am_cd_max) hdd (by
    show ((st.map (am_cv G)).map fun v => v.category).sum + 13 ≤ 100 * d
    rw [am_catS]; omega) hk hn hd (kk p e s m args below meth c H locs ls X hW hlo hl)
theorem am_st_min : Cond.static Lib.Math.min.name ∈ am_tbl := by decide +kernel
theorem am_cd_min : Cond.code Lib.Math.min.name Lib.Math.min.code 2 (some .int) ∈ am_tbl := by decide +kernel
theorem am_mmin {x z : Int32} {idx : Nat} (hd : decode y.2.1 pc = .ok (.invokestatic idx, 3)) (hlk : Cond.methodLink y.1.cls idx Lib.Math.min.name ∈ am_tbl) (hdd : 1 ≤ d) (hk : k ≤ mc) (hn : n ≤ ms) (hrest : (st.map fun v => v.category).sum ≤ 20) (kk : am_A G d y mc ms post k n (pc + 3) lv (.int (if z < x then z else x) :: st) N h) : am_A G d y mc ms post k n pc lv (.int z :: .int x :: st) N h := by
  intro p e s m args below meth c H locs ls X hW hlo hl
  have hx := X.1
  have hb := X.2.1
  have hown := X.2.2.2.2.1
  have hts := X.2.2.2.2.2.1
  have hK := X.2.2.2.2.2.2.2.2
  exact va_mmin hx hb (X.2.2.2.1.trans hl.1.symm) hown (hts _ hlk) (hts _ am_st_min) (hts _ am_iniM) (hts _ am_cd_min) hdd (by
    show ((st.map (am_cv G)).map fun v => v.category).sum + 13 ≤ 100 * d
    rw [am_catS]; omega) hk hn hd (kk p e s m args below meth c H locs ls X hW hlo hl)
theorem am_st_abs : Cond.static Lib.Math.abs.name ∈ am_tbl := by decide +kernel
theorem am_cd_abs : Cond.code Lib.Math.abs.name Lib.Math.abs.code 1 (some .int) ∈ am_tbl := by decide +kernel
theorem am_mabs {x : Int32} {idx : Nat} (hd : decode y.2.1 pc = .ok (.invokestatic idx, 3)) (hlk : Cond.methodLink y.1.cls idx Lib.Math.abs.name ∈ am_tbl) (hdd : 1 ≤ d) (hk : k ≤ mc) (hn : n ≤ ms) (hrest : (st.map fun v => v.category).sum ≤ 20) (kk : am_A G d y mc ms post k n (pc + 3) lv (.int (if 0 ≤ x then x else 0 - x) :: st) N h) : am_A G d y mc ms post k n pc lv (.int x :: st) N h := by
  intro p e s m args below meth c H locs ls X hW hlo hl
  have hx := X.1
  have hb := X.2.1
  have hown := X.2.2.2.2.1
  have hts := X.2.2.2.2.2.1
  have hK := X.2.2.2.2.2.2.2.2
  exact va_mabs hx hb (X.2.2.2.1.trans hl.1.symm) hown (hts _ hlk) (hts _ am_st_abs) (hts _ am_iniM) (hts _ am_cd_abs) hdd (by
    show ((st.map (am_cv G)).map fun v => v.category).sum + 13 ≤ 100 * d
    rw [am_catS]; omega) hk hn hd (kk p e s m args below meth c H locs ls X hW hlo hl)
end
theorem am_natC : Cond.native arraycopyName ∈ am_tbl := by decide +kernel
theorem am_staC : Cond.static arraycopyName ∈ am_tbl := by decide +kernel
theorem am_iniC : Cond.initialized "java/lang/System" ∈ am_tbl := by decide +kernel
theorem am_objI : Cond.instanceMethod objectInit ∈ am_tbl := by decide +kernel
theorem am_objC : Cond.code objectInit ⟨#[0xb1]⟩ 1 none ∈ am_tbl := by decide +kernel
def ri_post (r : Option Value) (L : ri_L) : am_T := fun r' N' h' => r' = r ∧ N' = L.1 ∧ h' = ri_h L
def ri_Cok (E : ri_Env) (M : Nat → ri_mi) (d : Nat) (callee : ri_Cl) : Prop := ∀ j as L r L', callee j as L = some (r, L') → L.1 ≤ L'.1 ∧ L.2.1 ≤ L'.2.1 ∧ ∀ G : am_G, am_Env G E → am_C G d (M j).1 (L'.1 - L.1) (L'.2.1 - L.2.1) as L.1 (ri_h L) (ri_post r L')
theorem ri_drop {α : Type} {l : List α} {i : Nat} {x : α} {t : List α} (h : l.drop i = x :: t) : l[i]? = some x ∧ t = l.drop (i + 1) := by
  refine ⟨?_, ?_⟩
  · have := congrArg (fun l => l[0]?) h
    simpa using this
  · have := congrArg List.tail h
    simpa using this.symm
/-- what a run of a rest of a method says -/
def ri_Gok (E : ri_Env) (y : am_M) (tb : List ri_row) (d i : Nat) (lv : List Value) (st : List Value) (L : ri_L) (r : Option Value) (L' : ri_L) : Prop :=
  L.1 ≤ L'.1 ∧ L.2.1 ≤ L'.2.1 ∧ ∀ (G : am_G), am_Env G E → ∀ (mc ms : Nat) (post : am_T) (k n : Nat) (row : ri_row), tb[i]? = some row → k + (L'.1 - L.1) ≤ mc → n + (L'.2.1 - L.2.1) ≤ ms → post r L'.1 (ri_h L') → am_A G (d + 1) y mc ms post k n (ri_pc row) (ri_lv lv) st L.1 (ri_h L)
end
