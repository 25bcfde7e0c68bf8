/-! ===== the runnable machine with calls ===== -/
abbrev ri_mi : Type := am_M × Nat × Nat × List ri_row
abbrev ri_V : Type := Option (Option Value × ri_L)
def ri_cat (st : List Value) : Nat := (st.map fun v => v.category).sum
def ri_mth (b : Nat) (st : List Value) : Option (Int32 × List Value) := match st with
  | .int z :: .int x :: st => if b == 3 then some (if x < z then z else x, st) else if b == 4 then some (if z < x then z else x, st) else if b == 5 then some (if 0 ≤ z then z else 0 - z, .int x :: st) else none
  | .int z :: st => if b == 5 then some (if 0 ≤ z then z else 0 - z, st) else none
  | _ => none
def ri_go (M : Nat → ri_mi) (callee : Nat → List Value → ri_L → ri_V) (tb : List ri_row) (f : Nat) : List ri_row → List (Nat × Value) → List Value → ri_L → ri_V :=
  Nat.rec (motive := fun _ => List ri_row → List (Nat × Value) → List Value → ri_L → ri_V) (fun _ _ _ _ => none) (fun _ ih cur lv st L => match cur with
    | [] => none
    | r :: nx => match r.2.1 with
      | .ireturn => match st with
        | [.int v] => if r.2.2.2.2.1 == 0 || (v == 0 || v == 1) then some (some (.int v), L) else none
        | _ => none
      | .lreturn => match st with
        | [.long v] => some (some (.long v), L)
        | _ => none
      | .return_ => match st with
        | [] => some (none, L)
        | _ => none
      | .invokevirtual _ => match st.drop (M r.2.2.2.1).2.1 with
        | .ref a :: rest => match L[a]? with
          | some (.inr (ci, _)) => if ci == r.2.2.2.2.1 && Nat.ble (ri_cat rest) 8 then match callee r.2.2.2.1 (.ref a :: (st.take (M r.2.2.2.1).2.1).reverse) L with
              | some (v, L2) => ih nx lv (v.toList ++ rest) L2
              | none => none
            else none
          | _ => none
        | _ => none
      | .invokestatic _ => if r.2.2.2.2.1 == 2 then match st with
          | .int x :: .int dp :: .ref b :: .int sp :: .ref a :: st => match L[a]?, L[b]? with
            | some (.inl (0, .inl l1)), some (.inl (0, .inl l2)) => if sp < 0 || dp < 0 || x < 0 then none else if ri_le (sp.toNatClampNeg + x.toNatClampNeg) l1 && ri_le (dp.toNatClampNeg + x.toNatClampNeg) l2 && Nat.ble (ri_cat st) 20 then ri_set L b (.inl (0, .inl (ri_cpy l1 l2 sp.toNatClampNeg dp.toNatClampNeg x.toNatClampNeg))) (fun L => ih nx lv st L) else none
            | _, _ => none
          | _ => none
        else if Nat.ble 3 r.2.2.2.2.1 then match ri_mth r.2.2.2.2.1 st with
          | some (x, st) => if Nat.ble (ri_cat st) 20 then ri_fi x (fun x => ih nx lv (.int x :: st) L) else none
          | none => none
        else if ri_le (M r.2.2.2.1).2.1 st && Nat.ble (ri_cat (st.drop (M r.2.2.2.1).2.1)) 8 then match callee r.2.2.2.1 ((st.take (M r.2.2.2.1).2.1).reverse) L with
          | some (v, L2) => ih nx lv (v.toList ++ st.drop (M r.2.2.2.1).2.1) L2
          | none => none
        else none
      | .invokespecial _ => if r.2.2.2.2.1 == 1 then match st with
          | .ref a :: st => if Nat.ble (ri_cat st) 20 then ih nx lv st L else none
          | _ => none
        else match st.drop (M r.2.2.2.1).2.1 with
        | .ref a :: rest => if Nat.ble (ri_cat rest) 8 then match callee r.2.2.2.1 (.ref a :: (st.take (M r.2.2.2.1).2.1).reverse) L with
            | some (v, L2) => ih nx lv (v.toList ++ rest) L2
            | none => none
          else none
        | _ => none
      | _ => match ri_stp r lv st L with
        | some (none, lv, st, L) => ih nx lv st L
        | some (some t, lv, st, L) => ih (tb.drop t) lv st L
        | none => none) f
def ri_D (M : Nat → ri_mi) (F : Nat) (d : Nat) : Nat → List Value → ri_L → ri_V :=
  Nat.rec (motive := fun _ => Nat → List Value → ri_L → ri_V) (fun _ _ _ => none) (fun _ ih j as L => if Nat.ble (lg_sl as).length (M j).1.2.2.1 then ri_go M ih (M j).2.2.2 F (M j).2.2.2 (lv_args 0 as) [] L else none) d
def ri_rokI (M : Nat → ri_mi) (y : am_M) (r : ri_row) : Bool := match r.2.1 with
  | .invokevirtual idx => (M r.2.2.2.1).2.2.1 == 1 && (ri_lw r.2.2.2.2.2.1 (.methodLink y.1.cls idx (M r.2.2.2.1).1.1) && decide ((am_cl[r.2.2.2.2.1]?).map (fun q => q.1) = some (M r.2.2.2.1).1.1.cls))
  | .invokestatic idx => if r.2.2.2.2.1 == 2 then ri_lw r.2.2.2.2.2.1 (.methodLink y.1.cls idx arraycopyName) else if Nat.ble 3 r.2.2.2.2.1 then (if r.2.2.2.2.1 == 3 then ri_lw r.2.2.2.2.2.1 (.methodLink y.1.cls idx Lib.Math.max.name) else if r.2.2.2.2.1 == 4 then ri_lw r.2.2.2.2.2.1 (.methodLink y.1.cls idx Lib.Math.min.name) else r.2.2.2.2.1 == 5 && ri_lw r.2.2.2.2.2.1 (.methodLink y.1.cls idx Lib.Math.abs.name)) else (M r.2.2.2.1).2.2.1 == 0 && ri_lw r.2.2.2.2.2.1 (.methodLink y.1.cls idx (M r.2.2.2.1).1.1)
  | .invokespecial idx => if r.2.2.2.2.1 == 1 then ri_lw r.2.2.2.2.2.1 (.methodLink y.1.cls idx objectInit) else (M r.2.2.2.1).2.2.1 == 2 && ri_lw r.2.2.2.2.2.1 (.methodLink y.1.cls idx (M r.2.2.2.1).1.1)
  | _ => true
def ri_okj (M : Nat → ri_mi) (j : Nat) : Prop := am_okM (M j).1 (M j).2.1 ∧ ((M j).2.2.1 = 0 → Cond.static (M j).1.1 ∈ am_tbl) ∧ ((M j).2.2.1 = 1 → Cond.instanceMethod (M j).1.1 ∈ am_tbl ∧ Cond.selects (M j).1.1.cls (M j).1.1 (M j).1.1 ∈ am_tbl) ∧ ((M j).2.2.1 = 2 → Cond.instanceMethod (M j).1.1 ∈ am_tbl ∧ (M j).1.1.name = "<init>" ∧ (M j).1.2.2.2 = none) ∧
  (∀ i r, (M j).2.2.2[i]? = some r → ri_rok (M j).1 ((M j).2.2.2.map (fun r => r.1)) i r = true ∧ ri_rokI M (M j).1 r = true) ∧ ((M j).2.2.2.map (fun r => r.1))[0]? = some 0
theorem am_iniM : Cond.initialized "java/lang/Math" ∈ am_tbl := by decide +kernel
section
variable {G : am_G} {d : Nat} {y : am_M} {mc ms : Nat} {post : am_T} {k n pc N : Nat} {lv lv' : List (Nat × Value)} {st : List Value} {h : am_H}
theorem am_st_max : Cond.static Lib.Math.max.name ∈ am_tbl := by decide +kernel
theorem am_cd_max : Cond.code Lib.Math.max.name Lib.Math.max.code 2 (some .int) ∈ am_tbl := by decide +kernel
theorem am_mmax {x z : Int32} {idx : Nat} (hd : decode y.2.1 pc = .ok (.invokestatic idx, 3)) (hlk : Cond.methodLink y.1.cls idx Lib.Math.max.name ∈ am_tbl) (hdd : 1 ≤ d) (hk : k ≤ mc) (hn : n ≤ ms) (hrest : (st.map fun v => v.category).sum ≤ 20) (kk : am_A G d y mc ms post k n (pc + 3) lv (.int (if x < z then z else x) :: st) N h) : am_A G d y mc ms post k n pc lv (.int z :: .int x :: st) N h := by
  intro p e s m args below meth c H locs ls X hW hlo hl
  have hx := X.1
  have hb := X.2.1
  have hown := X.2.2.2.2.1
  have hts := X.2.2.2.2.2.1
  have hK := X.2.2.2.2.2.2.2.2
  exact va_mmax hx hb (X.2.2.2.1.trans hl.1.symm) hown (hts _ hlk) (hts _ am_st_max) (hts _ am_iniM) (hts _ am_cd_max) hdd (by
    show ((st.map (am_cv G)).map fun v => v.category).sum + 13 ≤ 100 * d
    rw [am_catS]; omega) hk hn hd (kk p e s m args below meth c H locs ls X hW hlo hl)
theorem am_st_min : Cond.static Lib.Math.min.name ∈ am_tbl := by decide +kernel
theorem am_cd_min : Cond.code Lib.Math.min.name Lib.Math.min.code 2 (some .int) ∈ am_tbl := by decide +kernel
theorem am_mmin {x z : Int32} {idx : Nat} (hd : decode y.2.1 pc = .ok (.invokestatic idx, 3)) (hlk : Cond.methodLink y.1.cls idx Lib.Math.min.name ∈ am_tbl) (hdd : 1 ≤ d) (hk : k ≤ mc) (hn : n ≤ ms) (hrest : (st.map fun v => v.category).sum ≤ 20) (kk : am_A G d y mc ms post k n (pc + 3) lv (.int (if z < x then z else x) :: st) N h) : am_A G d y mc ms post k n pc lv (.int z :: .int x :: st) N h := by
  intro p e s m args below meth c H locs ls X hW hlo hl
  have hx := X.1
  have hb := X.2.1
  have hown := X.2.2.2.2.1
  have hts := X.2.2.2.2.2.1
  have hK := X.2.2.2.2.2.2.2.2
  exact va_mmin hx hb (X.2.2.2.1.trans hl.1.symm) hown (hts _ hlk) (hts _ am_st_min) (hts _ am_iniM) (hts _ am_cd_min) hdd (by
    show ((st.map (am_cv G)).map fun v => v.category).sum + 13 ≤ 100 * d
    rw [am_catS]; omega) hk hn hd (kk p e s m args below meth c H locs ls X hW hlo hl)
theorem am_st_abs : Cond.static Lib.Math.abs.name ∈ am_tbl := by decide +kernel
theorem am_cd_abs : Cond.code Lib.Math.abs.name Lib.Math.abs.code 1 (some .int) ∈ am_tbl := by decide +kernel
theorem am_mabs {x : Int32} {idx : Nat} (hd : decode y.2.1 pc = .ok (.invokestatic idx, 3)) (hlk : Cond.methodLink y.1.cls idx Lib.Math.abs.name ∈ am_tbl) (hdd : 1 ≤ d) (hk : k ≤ mc) (hn : n ≤ ms) (hrest : (st.map fun v => v.category).sum ≤ 20) (kk : am_A G d y mc ms post k n (pc + 3) lv (.int (if 0 ≤ x then x else 0 - x) :: st) N h) : am_A G d y mc ms post k n pc lv (.int x :: st) N h := by
  intro p e s m args below meth c H locs ls X hW hlo hl
  have hx := X.1
  have hb := X.2.1
  have hown := X.2.2.2.2.1
  have hts := X.2.2.2.2.2.1
  have hK := X.2.2.2.2.2.2.2.2
  exact va_mabs hx hb (X.2.2.2.1.trans hl.1.symm) hown (hts _ hlk) (hts _ am_st_abs) (hts _ am_iniM) (hts _ am_cd_abs) hdd (by
    show ((st.map (am_cv G)).map fun v => v.category).sum + 13 ≤ 100 * d
    rw [am_catS]; omega) hk hn hd (kk p e s m args below meth c H locs ls X hW hlo hl)
end
theorem ri_simple2 {y : am_M} {pcs : List Nat} {i pc pc2 : Nat} {lv lv' : List (Nat × Value)} {st st' : List Value} {L : ri_L} (hnx : ri_nx pcs i none pc2) (kk : ∀ (G : am_G) (d mc ms : Nat) (post : am_T) (k n : Nat), 1 ≤ d → k ≤ mc → n ≤ ms → am_A G d y mc ms post k n pc2 lv' st' L.length (ri_h L) → am_A G d y mc ms post k n pc lv st L.length (ri_h L)) : ri_Ok y pcs i pc lv st L none lv' st' L := by
  refine ⟨Nat.le_refl _, Nat.le_refl _, fun G d mc ms post k n pc' h1 h2 h3 h4 h5 => ?_⟩
  have e : pc' = pc2 := Option.some.inj (h1.symm.trans hnx)
  subst e
  simp only [Nat.sub_self, Nat.add_zero] at h5
  exact kk G d mc ms post k n h2 (by omega) (by omega) h5
theorem am_natC : Cond.native arraycopyName ∈ am_tbl := by decide +kernel
theorem am_staC : Cond.static arraycopyName ∈ am_tbl := by decide +kernel
theorem am_iniC : Cond.initialized "java/lang/System" ∈ am_tbl := by decide +kernel
theorem am_objI : Cond.instanceMethod objectInit ∈ am_tbl := by decide +kernel
theorem am_objC : Cond.code objectInit ⟨#[0xb1]⟩ 1 none ∈ am_tbl := by decide +kernel
def ri_post (r : Option Value) (L : ri_L) : am_T := fun r' N' h' => r' = r ∧ N' = L.length ∧ h' = ri_h L
def ri_Cok (M : Nat → ri_mi) (d : Nat) (callee : Nat → List Value → ri_L → ri_V) : Prop := ∀ j as L r L', callee j as L = some (r, L') → L.length ≤ L'.length ∧ ri_sz L ≤ ri_sz L' ∧ ∀ G : am_G, am_C G d (M j).1 (L'.length - L.length) (ri_sz L' - ri_sz L) as L.length (ri_h L) (ri_post r L')
theorem ri_drop {α : Type} {l : List α} {i : Nat} {x : α} {t : List α} (h : l.drop i = x :: t) : l[i]? = some x ∧ t = l.drop (i + 1) := by
  refine ⟨?_, ?_⟩
  · have := congrArg (fun l => l[0]?) h
    simpa using this
  · have := congrArg List.tail h
    simpa using this.symm
theorem ri_row_at {tb : List ri_row} {i pc : Nat} (h : (tb.map (fun r => r.1))[i]? = some pc) : ∃ r, tb[i]? = some r ∧ r.1 = pc := by
  rw [List.getElem?_map] at h
  cases hr : tb[i]? with
  | none => rw [hr] at h; cases h
  | some r => rw [hr] at h; exact ⟨r, rfl, by simpa using h⟩
/-- what a run of a rest of a method says -/
def ri_Gok (y : am_M) (tb : List ri_row) (d i : Nat) (lv : List (Nat × Value)) (st : List Value) (L : ri_L) (r : Option Value) (L' : ri_L) : Prop :=
  L.length ≤ L'.length ∧ ri_sz L ≤ ri_sz L' ∧ ∀ (G : am_G) (mc ms : Nat) (post : am_T) (k n : Nat) (row : ri_row), tb[i]? = some row → k + (L'.length - L.length) ≤ mc → n + (ri_sz L' - ri_sz L) ≤ ms → post r L'.length (ri_h L') → am_A G (d + 1) y mc ms post k n row.1 lv st L.length (ri_h L)
