noncomputable section
/-! ===== the runnable machine with calls ===== -/
abbrev ri_mi : Type := am_M × Nat × Nat × List ri_row
abbrev ri_V : Type := Option (Option Value × ri_L)
def ri_cat (st : List Value) : Nat := (st.map fun v => v.category).sum
def ri_mth (b : Nat) (st : List Value) : Option (Int32 × List Value) := match st with
  | .int z :: .int x :: st => if b == 3 then some (if x < z then z else x, st) else if b == 4 then some (if z < x then z else x, st) else if b == 5 then some (if 0 ≤ z then z else 0 - z, .int x :: st) else none
  | .int z :: st => if b == 5 then some (if 0 ≤ z then z else 0 - z, st) else none
  | _ => none
abbrev ri_K : Type := List ri_row → List Value → List Value → ri_L → ri_V
abbrev ri_Cl : Type := Nat → List Value → ri_L → ri_V
def gs_ireturn (E : ri_Env) (M : Nat → ri_mi) (callee : ri_Cl) (tb : List ri_row) (ih : ri_K) (r : ri_row) (nx : List ri_row) (lv st : List Value) (L : ri_L) : ri_V := match st with
  | [.int v] => if r.2.2.2.2.1 == 0 || (v == 0 || v == 1) then some (some (.int v), L) else none
  | _ => none
def gs_lreturn (E : ri_Env) (M : Nat → ri_mi) (callee : ri_Cl) (tb : List ri_row) (ih : ri_K) (r : ri_row) (nx : List ri_row) (lv st : List Value) (L : ri_L) : ri_V := match st with
  | [.long v] => some (some (.long v), L)
  | _ => none
def gs_return (E : ri_Env) (M : Nat → ri_mi) (callee : ri_Cl) (tb : List ri_row) (ih : ri_K) (r : ri_row) (nx : List ri_row) (lv st : List Value) (L : ri_L) : ri_V := match st with
  | [] => some (none, L)
  | _ => none
def gs_virtual (E : ri_Env) (M : Nat → ri_mi) (callee : ri_Cl) (tb : List ri_row) (ih : ri_K) (r : ri_row) (nx : List ri_row) (lv st : List Value) (L : ri_L) : ri_V := match st.drop (M r.2.2.2.1).2.1 with
  | .ref a :: rest => match ri_get L.2.2 a with
    | some (.inr (ci, _)) => if Nat.ble L.1 a then none else if Nat.beq ci r.2.2.2.2.1 && Nat.ble (ri_cat rest) 8 then match callee r.2.2.2.1 (.ref a :: (st.take (M r.2.2.2.1).2.1).reverse) L with
        | some (v, L2) => ih nx lv (v.toList ++ rest) L2
        | none => none
      else none
    | _ => none
  | _ => none
def gs_copy (ih : ri_K) (nx : List ri_row) (lv st : List Value) (L : ri_L) : ri_V := match st with
  | .int x :: .int dp :: .ref b :: .int sp :: .ref a :: st => match ri_get L.2.2 a, ri_get L.2.2 b with
    | some (.inl (0, .inl l1)), some (.inl (0, .inl l2)) => if Nat.ble L.1 a || Nat.ble L.1 b then none else if sp < 0 || dp < 0 || x < 0 then none else if ri_le (sp.toNatClampNeg + x.toNatClampNeg) l1 && ri_le (dp.toNatClampNeg + x.toNatClampNeg) l2 && Nat.ble (ri_cat st) 20 then ih nx lv st (L.1, L.2.1, ri_put L.2.2 b (.inl (0, .inl (ri_cpy l1 l2 sp.toNatClampNeg dp.toNatClampNeg x.toNatClampNeg)))) else none
    | _, _ => none
  | _ => none
def gs_static (E : ri_Env) (M : Nat → ri_mi) (callee : ri_Cl) (tb : List ri_row) (ih : ri_K) (r : ri_row) (nx : List ri_row) (lv st : List Value) (L : ri_L) : ri_V := if r.2.2.2.2.1 == 2 then gs_copy ih nx lv st L
  else if Nat.ble 3 r.2.2.2.2.1 then match ri_mth r.2.2.2.2.1 st with
    | some (x, st) => if Nat.ble (ri_cat st) 20 then ri_fi x (fun x => ih nx lv (.int x :: st) L) else none
    | none => none
  else if ri_le (M r.2.2.2.1).2.1 st && Nat.ble (ri_cat (st.drop (M r.2.2.2.1).2.1)) 8 then match callee r.2.2.2.1 ((st.take (M r.2.2.2.1).2.1).reverse) L with
    | some (v, L2) => ih nx lv (v.toList ++ st.drop (M r.2.2.2.1).2.1) L2
    | none => none
  else none
def gs_special (E : ri_Env) (M : Nat → ri_mi) (callee : ri_Cl) (tb : List ri_row) (ih : ri_K) (r : ri_row) (nx : List ri_row) (lv st : List Value) (L : ri_L) : ri_V := if r.2.2.2.2.1 == 1 then match st with
    | .ref a :: st => if Nat.ble (ri_cat st) 20 then ih nx lv st L else none
    | _ => none
  else match st.drop (M r.2.2.2.1).2.1 with
  | .ref a :: rest => if Nat.ble (ri_cat rest) 8 then match callee r.2.2.2.1 (.ref a :: (st.take (M r.2.2.2.1).2.1).reverse) L with
      | some (v, L2) => ih nx lv (v.toList ++ rest) L2
      | none => none
    else none
  | _ => none
def gs_other (E : ri_Env) (M : Nat → ri_mi) (callee : ri_Cl) (tb : List ri_row) (ih : ri_K) (r : ri_row) (nx : List ri_row) (lv st : List Value) (L : ri_L) : ri_V := match ri_sel r.2.1 E r lv st L with
  | some (none, lv, st, L) => ih nx lv st L
  | some (some t, lv, st, L) => ih (tb.drop t) lv st L
  | none => none
def ri_gsel (ins : Instr) : ri_Env → (Nat → ri_mi) → ri_Cl → List ri_row → ri_K → ri_row → List ri_row → List Value → List Value → ri_L → ri_V := match ins with
  | .ireturn => gs_ireturn
  | .lreturn => gs_lreturn
  | .return_ => gs_return
  | .invokevirtual _ => gs_virtual
  | .invokestatic _ => gs_static
  | .invokespecial _ => gs_special
  | _ => gs_other
def ri_go1 (E : ri_Env) (M : Nat → ri_mi) (callee : ri_Cl) (tb : List ri_row) (ih : ri_K) : ri_K := fun cur lv st L => match cur with
  | [] => none
  | r :: nx => ri_gsel r.2.1 E M callee tb ih r nx lv st L
def ri_go (E : ri_Env) (M : Nat → ri_mi) (callee : Nat → List Value → ri_L → ri_V) (tb : List ri_row) (f : Nat) : List ri_row → List Value → List Value → ri_L → ri_V :=
  Nat.rec (motive := fun _ => ri_K) (fun _ _ _ _ => none) (fun _ ih => ri_go1 E M callee tb ih) f
/-- the locals at a method's entry -/
def ri_ls (as : List Value) : List Value := List.rec (motive := fun _ => List Value) [] (fun v _ ih => if ri_c2 v then v :: .null :: ih else v :: ih) as
def ri_D (E : ri_Env) (M : Nat → ri_mi) (F : Nat) (d : Nat) : Nat → List Value → ri_L → ri_V :=
  Nat.rec (motive := fun _ => Nat → List Value → ri_L → ri_V) (fun _ _ _ => none) (fun _ ih j as L => if Nat.ble (ri_ls as).length (M j).1.2.2.1 then ri_go E M ih (M j).2.2.2 F (M j).2.2.2 (ri_ls as ++ List.replicate ((M j).1.2.2.1 - (ri_ls as).length) .null) [] L else none) d
def ri_rokI (M : Nat → ri_mi) (y : am_M) (r : ri_row) : Bool := match r.2.1 with
  | .invokevirtual idx => (M r.2.2.2.1).2.2.1 == 1 && (ri_lw r.2.2.2.2.2.1 (.methodLink y.1.cls idx (M r.2.2.2.1).1.1) && decide ((am_cl[r.2.2.2.2.1]?).map (fun q => q.1) = some (M r.2.2.2.1).1.1.cls))
  | .invokestatic idx => if r.2.2.2.2.1 == 2 then ri_lw r.2.2.2.2.2.1 (.methodLink y.1.cls idx arraycopyName) else if Nat.ble 3 r.2.2.2.2.1 then (if r.2.2.2.2.1 == 3 then ri_lw r.2.2.2.2.2.1 (.methodLink y.1.cls idx Lib.Math.max.name) else if r.2.2.2.2.1 == 4 then ri_lw r.2.2.2.2.2.1 (.methodLink y.1.cls idx Lib.Math.min.name) else r.2.2.2.2.1 == 5 && ri_lw r.2.2.2.2.2.1 (.methodLink y.1.cls idx Lib.Math.abs.name)) else (M r.2.2.2.1).2.2.1 == 0 && ri_lw r.2.2.2.2.2.1 (.methodLink y.1.cls idx (M r.2.2.2.1).1.1)
  | .invokespecial idx => if r.2.2.2.2.1 == 1 then ri_lw r.2.2.2.2.2.1 (.methodLink y.1.cls idx objectInit) else (M r.2.2.2.1).2.2.1 == 2 && ri_lw r.2.2.2.2.2.1 (.methodLink y.1.cls idx (M r.2.2.2.1).1.1)
  | _ => true
def ri_okj (M : Nat → ri_mi) (j : Nat) : Prop := am_okM (M j).1 (M j).2.1 ∧ ((M j).2.2.1 = 0 → Cond.static (M j).1.1 ∈ am_tbl) ∧ ((M j).2.2.1 = 1 → Cond.instanceMethod (M j).1.1 ∈ am_tbl ∧ Cond.selects (M j).1.1.cls (M j).1.1 (M j).1.1 ∈ am_tbl) ∧ ((M j).2.2.1 = 2 → Cond.instanceMethod (M j).1.1 ∈ am_tbl ∧ (M j).1.1.name = "<init>" ∧ (M j).1.2.2.2 = none) ∧
  (∀ i r, (M j).2.2.2[i]? = some r → ri_rok (M j).1 ((M j).2.2.2.map (fun r => r.1)) i r = true ∧ ri_rokI M (M j).1 r = true) ∧ ((M j).2.2.2.map (fun r => r.1))[0]? = some 0
theorem am_iniM : Cond.initialized "java/lang/Math" ∈ am_tbl := by decide +kernel
section
variable {G : am_G} {d : Nat} {y : am_M} {mc ms : Nat} {post : am_T} {k n pc N : Nat} {lv lv' : List (Nat × Value)} {st : List Value} {h : am_H}
theorem am_st_max : Cond.static Lib.Math.max.name ∈ am_tbl := by decide +kernel
theorem am_cd_max : Cond.code Lib.Math.max.name Lib.Math.max.code 2 (some .int) ∈ am_tbl := by decide +kernel
theorem am_mmax {x z : Int32} {idx : Nat} (hd : decode y.2.1 pc = .ok (.invokestatic idx, 3)) (hlk : Cond.methodLink y.1.cls idx Lib.Math.max.name ∈ am_tbl) (hdd : 1 ≤ d) (hk : k ≤ mc) (hn : n ≤ ms) (hrest : (st.map fun v => v.category).sum ≤ 20) (kk : am_A G d y mc ms post k n (pc + 3) lv (.int (if x < z then z else x) :: st) N h) : am_A G d y mc ms post k n pc lv (.int z :: .int x :: st) N h := by
  intro p e s m args below meth c H locs ls X hW hlo hl
  have hx := X.1
  have hb := X.2.1
  have hown := X.2.2.2.2.1
  have hts := X.2.2.2.2.2.1
  have hK := X.2.2.2.2.2.2.2.2
  exact va_mmax hx hb (X.2.2.2.1.trans hl.1.symm) hown (hts _ hlk) (hts _ am_st_max) (hts _ am_iniM) (hts _ am_cd_max) hdd (by
    show ((st.map (am_cv G)).map fun v => v.category).sum + 13 ≤ 100 * d
    rw [am_catS]; omega) hk hn hd (kk p e s m args below meth c H locs ls X hW hlo hl)
theorem am_st_min : Cond.static Lib.Math.min.name ∈ am_tbl := by decide +kernel
theorem am_cd_min : Cond.code Lib.Math.min.name Lib.Math.min.code 2 (some .int) ∈ am_tbl := by decide +kernel
theorem am_mmin {x z : Int32} {idx : Nat} (hd : decode y.2.1 pc = .ok (.invokestatic idx, 3)) (hlk : Cond.methodLink y.1.cls idx Lib.Math.min.name ∈ am_tbl) (hdd : 1 ≤ d) (hk : k ≤ mc) (hn : n ≤ ms) (hrest : (st.map fun v => v.category).sum ≤ 20) (kk : am_A G d y mc ms post k n (pc + 3) lv (.int (if z < x then z else x) :: st) N h) : am_A G d y mc ms post k n pc lv (.int z :: .int x :: st) N h := by
  intro p e s m args below meth c H locs ls X hW hlo hl
  have hx := X.1
  have hb := X.2.1
  have hown := X.2.2.2.2.1
  have hts := X.2.2.2.2.2.1
  have hK := X.2.2.2.2.2.2.2.2
  exact va_mmin hx hb (X.2.2.2.1.trans hl.1.symm) hown (hts _ hlk) (hts _ am_st_min) (hts _ am_iniM) (hts _ am_cd_min) hdd (by
    show ((st.map (am_cv G)).map fun v => v.category).sum + 13 ≤ 100 * d
    rw [am_catS]; omega) hk hn hd (kk p e s m args below meth c H locs ls X hW hlo hl)
theorem am_st_abs : Cond.static Lib.Math.abs.name ∈ am_tbl := by decide +kernel
theorem am_cd_abs : Cond.code Lib.Math.abs.name Lib.Math.abs.code 1 (some .int) ∈ am_tbl := by decide +kernel
theorem am_mabs {x : Int32} {idx : Nat} (hd : decode y.2.1 pc = .ok (.invokestatic idx, 3)) (hlk : Cond.methodLink y.1.cls idx Lib.Math.abs.name ∈ am_tbl) (hdd : 1 ≤ d) (hk : k ≤ mc) (hn : n ≤ ms) (hrest : (st.map fun v => v.category).sum ≤ 20) (kk : am_A G d y mc ms post k n (pc + 3) lv (.int (if 0 ≤ x then x else 0 - x) :: st) N h) : am_A G d y mc ms post k n pc lv (.int x :: st) N h := by
  intro p e s m args below meth c H locs ls X hW hlo hl
  have hx := X.1
  have hb := X.2.1
  have hown := X.2.2.2.2.1
  have hts := X.2.2.2.2.2.1
  have hK := X.2.2.2.2.2.2.2.2
  exact va_mabs hx hb (X.2.2.2.1.trans hl.1.symm) hown (hts _ hlk) (hts _ am_st_abs) (hts _ am_iniM) (hts _ am_cd_abs) hdd (by
    show ((st.map (am_cv G)).map fun v => v.category).sum + 13 ≤ 100 * d
    rw [am_catS]; omega) hk hn hd (kk p e s m args below meth c H locs ls X hW hlo hl)
end
theorem am_natC : Cond.native arraycopyName ∈ am_tbl := by decide +kernel
theorem am_staC : Cond.static arraycopyName ∈ am_tbl := by decide +kernel
theorem am_iniC : Cond.initialized "java/lang/System" ∈ am_tbl := by decide +kernel
theorem am_objI : Cond.instanceMethod objectInit ∈ am_tbl := by decide +kernel
theorem am_objC : Cond.code objectInit ⟨#[0xb1]⟩ 1 none ∈ am_tbl := by decide +kernel
def ri_post (r : Option Value) (L : ri_L) : am_T := fun r' N' h' => r' = r ∧ N' = L.1 ∧ h' = ri_h L
def ri_Cok (E : ri_Env) (M : Nat → ri_mi) (d : Nat) (callee : Nat → List Value → ri_L → ri_V) : Prop := ∀ j as L r L', callee j as L = some (r, L') → L.1 ≤ L'.1 ∧ L.2.1 ≤ L'.2.1 ∧ ∀ G : am_G, am_Env G E → am_C G d (M j).1 (L'.1 - L.1) (L'.2.1 - L.2.1) as L.1 (ri_h L) (ri_post r L')
theorem ri_drop {α : Type} {l : List α} {i : Nat} {x : α} {t : List α} (h : l.drop i = x :: t) : l[i]? = some x ∧ t = l.drop (i + 1) := by
  refine ⟨?_, ?_⟩
  · have := congrArg (fun l => l[0]?) h
    simpa using this
  · have := congrArg List.tail h
    simpa using this.symm
theorem ri_row_at {tb : List ri_row} {i pc : Nat} (h : (tb.map (fun r => r.1))[i]? = some pc) : ∃ r, tb[i]? = some r ∧ r.1 = pc := by
  rw [List.getElem?_map] at h
  cases hr : tb[i]? with
  | none => rw [hr] at h; cases h
  | some r => rw [hr] at h; exact ⟨r, rfl, by simpa using h⟩
/-- what a run of a rest of a method says -/
def ri_Gok (E : ri_Env) (y : am_M) (tb : List ri_row) (d i : Nat) (lv : List Value) (st : List Value) (L : ri_L) (r : Option Value) (L' : ri_L) : Prop :=
  L.1 ≤ L'.1 ∧ L.2.1 ≤ L'.2.1 ∧ ∀ (G : am_G), am_Env G E → ∀ (mc ms : Nat) (post : am_T) (k n : Nat) (row : ri_row), tb[i]? = some row → k + (L'.1 - L.1) ≤ mc → n + (L'.2.1 - L.2.1) ≤ ms → post r L'.1 (ri_h L') → am_A G (d + 1) y mc ms post k n row.1 (ri_lv lv) st L.1 (ri_h L)
end
