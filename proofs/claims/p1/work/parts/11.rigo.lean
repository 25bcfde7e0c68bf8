/-! ===== the runnable machine with calls ===== -/
abbrev ri_mi : Type := am_M × Nat × Nat × List ri_row
abbrev ri_V : Type := Option (Option Value × ri_L)
def ri_cat (st : List Value) : Nat := (st.map fun v => v.category).sum
def ri_go (M : Nat → ri_mi) (callee : Nat → List Value → ri_L → ri_V) (tb : List ri_row) (f : Nat) : List ri_row → List (Nat × Value) → List Value → ri_L → ri_V :=
  Nat.rec (motive := fun _ => List ri_row → List (Nat × Value) → List Value → ri_L → ri_V) (fun _ _ _ _ => none) (fun _ ih cur lv st L => match cur with
    | [] => none
    | r :: nx => match r.2.1 with
      | .ireturn => match st with
        | [.int v] => if r.2.2.2.2.1 == 0 || (v == 0 || v == 1) then some (some (.int v), L) else none
        | _ => none
      | .lreturn => match st with
        | [.long v] => some (some (.long v), L)
        | _ => none
      | .return_ => match st with
        | [] => some (none, L)
        | _ => none
      | .invokevirtual _ => match st.drop (M r.2.2.2.1).2.1 with
        | .ref a :: rest => match L[a]? with
          | some (.inr (ci, _)) => if ci == r.2.2.2.2.1 && Nat.ble (ri_cat rest) 8 then match callee r.2.2.2.1 (.ref a :: (st.take (M r.2.2.2.1).2.1).reverse) L with
              | some (v, L2) => ih nx lv (v.toList ++ rest) L2
              | none => none
            else none
          | _ => none
        | _ => none
      | .invokestatic _ => if r.2.2.2.2.1 == 2 then match st with
          | .int x :: .int dp :: .ref b :: .int sp :: .ref a :: st => match L[a]?, L[b]? with
            | some (.inl (0, .inl l1)), some (.inl (0, .inl l2)) => if sp < 0 || dp < 0 || x < 0 then none else if ri_le (sp.toNatClampNeg + x.toNatClampNeg) l1 && ri_le (dp.toNatClampNeg + x.toNatClampNeg) l2 && Nat.ble (ri_cat st) 20 then ri_set L b (.inl (0, .inl (ri_cpy l1 l2 sp.toNatClampNeg dp.toNatClampNeg x.toNatClampNeg))) (fun L => ih nx lv st L) else none
            | _, _ => none
          | _ => none
        else if ri_le (M r.2.2.2.1).2.1 st && Nat.ble (ri_cat (st.drop (M r.2.2.2.1).2.1)) 8 then match callee r.2.2.2.1 ((st.take (M r.2.2.2.1).2.1).reverse) L with
          | some (v, L2) => ih nx lv (v.toList ++ st.drop (M r.2.2.2.1).2.1) L2
          | none => none
        else none
      | .invokespecial _ => if r.2.2.2.2.1 == 1 then match st with
          | .ref a :: st => if Nat.ble (ri_cat st) 20 then ih nx lv st L else none
          | _ => none
        else match st.drop (M r.2.2.2.1).2.1 with
        | .ref a :: rest => if Nat.ble (ri_cat rest) 8 then match callee r.2.2.2.1 (.ref a :: (st.take (M r.2.2.2.1).2.1).reverse) L with
            | some (v, L2) => ih nx lv (v.toList ++ rest) L2
            | none => none
          else none
        | _ => none
      | _ => match ri_stp r lv st L with
        | some (none, lv, st, L) => ih nx lv st L
        | some (some t, lv, st, L) => ih (tb.drop t) lv st L
        | none => none) f
def ri_D (M : Nat → ri_mi) (F : Nat) (d : Nat) : Nat → List Value → ri_L → ri_V :=
  Nat.rec (motive := fun _ => Nat → List Value → ri_L → ri_V) (fun _ _ _ => none) (fun _ ih j as L => if Nat.ble (lg_sl as).length (M j).1.2.2.1 then ri_go M ih (M j).2.2.2 F (M j).2.2.2 (lv_args 0 as) [] L else none) d
def ri_rokI (M : Nat → ri_mi) (y : am_M) (r : ri_row) : Bool := match r.2.1 with
  | .invokevirtual idx => (M r.2.2.2.1).2.2.1 == 1 && (ri_lw r.2.2.2.2.2.1 (.methodLink y.1.cls idx (M r.2.2.2.1).1.1) && decide ((am_cl[r.2.2.2.2.1]?).map (fun q => q.1) = some (M r.2.2.2.1).1.1.cls))
  | .invokestatic idx => if r.2.2.2.2.1 == 2 then ri_lw r.2.2.2.2.2.1 (.methodLink y.1.cls idx arraycopyName) else (M r.2.2.2.1).2.2.1 == 0 && ri_lw r.2.2.2.2.2.1 (.methodLink y.1.cls idx (M r.2.2.2.1).1.1)
  | .invokespecial idx => if r.2.2.2.2.1 == 1 then ri_lw r.2.2.2.2.2.1 (.methodLink y.1.cls idx objectInit) else (M r.2.2.2.1).2.2.1 == 2 && ri_lw r.2.2.2.2.2.1 (.methodLink y.1.cls idx (M r.2.2.2.1).1.1)
  | _ => true
def ri_okj (M : Nat → ri_mi) (j : Nat) : Prop := am_okM (M j).1 (M j).2.1 ∧ ((M j).2.2.1 = 0 → Cond.static (M j).1.1 ∈ am_tbl) ∧ ((M j).2.2.1 = 1 → Cond.instanceMethod (M j).1.1 ∈ am_tbl ∧ Cond.selects (M j).1.1.cls (M j).1.1 (M j).1.1 ∈ am_tbl) ∧ ((M j).2.2.1 = 2 → Cond.instanceMethod (M j).1.1 ∈ am_tbl ∧ (M j).1.1.name = "<init>" ∧ (M j).1.2.2.2 = none) ∧
  (∀ i r, (M j).2.2.2[i]? = some r → ri_rok (M j).1 ((M j).2.2.2.map (fun r => r.1)) i r = true ∧ ri_rokI M (M j).1 r = true) ∧ ((M j).2.2.2.map (fun r => r.1))[0]? = some 0
theorem am_natC : Cond.native arraycopyName ∈ am_tbl := by decide +kernel
theorem am_staC : Cond.static arraycopyName ∈ am_tbl := by decide +kernel
theorem am_iniC : Cond.initialized "java/lang/System" ∈ am_tbl := by decide +kernel
theorem am_objI : Cond.instanceMethod objectInit ∈ am_tbl := by decide +kernel
theorem am_objC : Cond.code objectInit ⟨#[0xb1]⟩ 1 none ∈ am_tbl := by decide +kernel
def ri_post (r : Option Value) (L : ri_L) : am_T := fun r' N' h' => r' = r ∧ N' = L.length ∧ h' = ri_h L
def ri_Cok (M : Nat → ri_mi) (d : Nat) (callee : Nat → List Value → ri_L → ri_V) : Prop := ∀ j as L r L', callee j as L = some (r, L') → L.length ≤ L'.length ∧ ri_sz L ≤ ri_sz L' ∧ ∀ G : am_G, am_C G d (M j).1 (L'.length - L.length) (ri_sz L' - ri_sz L) as L.length (ri_h L) (ri_post r L')
theorem ri_drop {α : Type} {l : List α} {i : Nat} {x : α} {t : List α} (h : l.drop i = x :: t) : l[i]? = some x ∧ t = l.drop (i + 1) := by
  refine ⟨?_, ?_⟩
  · have := congrArg (fun l => l[0]?) h
    simpa using this
  · have := congrArg List.tail h
    simpa using this.symm
theorem ri_row_at {tb : List ri_row} {i pc : Nat} (h : (tb.map (fun r => r.1))[i]? = some pc) : ∃ r, tb[i]? = some r ∧ r.1 = pc := by
  rw [List.getElem?_map] at h
  cases hr : tb[i]? with
  | none => rw [hr] at h; cases h
  | some r => rw [hr] at h; exact ⟨r, rfl, by simpa using h⟩
/-- what a run of a rest of a method says -/
def ri_Gok (y : am_M) (tb : List ri_row) (d i : Nat) (lv : List (Nat × Value)) (st : List Value) (L : ri_L) (r : Option Value) (L' : ri_L) : Prop :=
  L.length ≤ L'.length ∧ ri_sz L ≤ ri_sz L' ∧ ∀ (G : am_G) (mc ms : Nat) (post : am_T) (k n : Nat) (row : ri_row), tb[i]? = some row → k + (L'.length - L.length) ≤ mc → n + (ri_sz L' - ri_sz L) ≤ ms → post r L'.length (ri_h L') → am_A G (d + 1) y mc ms post k n row.1 lv st L.length (ri_h L)
