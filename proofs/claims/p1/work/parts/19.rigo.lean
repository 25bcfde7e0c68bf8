noncomputable section
abbrev ri_V : Type := Option (Option Value × ri_L)
abbrev ri_K : Type := List ri_row → List Value → List Value → ri_L → ri_V
abbrev ri_Cl : Type := Nat → List Value → ri_L → ri_V
abbrev ri_G : Type := ri_Env → ri_Cl → List ri_row → ri_K → ri_row → List ri_row → List Value → List Value → ri_L → ri_V
def ri_drp {α : Type} (n : Nat) : List α → List α := Nat.rec (motive := fun _ => List α → List α) (fun l => l) (fun _ ih l => List.rec (motive := fun _ => List α) [] (fun _ t _ => ih t) l) n
theorem ri_drp_eq {α : Type} : ∀ (n : Nat) (l : List α), ri_drp n l = l.drop n
  | 0, l => rfl
  | n + 1, [] => rfl
  | n + 1, x :: t => by
    show ri_drp n t = _
    rw [ri_drp_eq n t]
    rfl
def ri_cnt (l : List Value) : Nat := List.rec (motive := fun _ => Nat) 0 (fun _ _ ih => ih + 1) l
theorem ri_cnt_eq : ∀ l : List Value, ri_cnt l = l.length
  | [] => rfl
  | x :: t => by
    show ri_cnt t + 1 = _
    rw [ri_cnt_eq t]
    rfl
theorem ri_cnt_cat : ∀ l : List Value, (l.map fun v => v.category).sum ≤ 2 * ri_cnt l
  | [] => Nat.le_refl _
  | x :: t => by
    have h := ri_cnt_cat t
    have h2 : x.category ≤ 2 := by cases x <;> simp [Value.category]
    show (List.map (fun v : Value => v.category) (x :: t)).sum ≤ 2 * (ri_cnt t + 1)
    simp only [List.map_cons, List.sum_cons]
    omega
/-- n values off the stack, in their order, and the rest -/
def ri_spl (n : Nat) : List Value → List Value → Option (List Value × List Value) := Nat.rec (motive := fun _ => List Value → List Value → Option (List Value × List Value)) (fun acc st => some (acc, st)) (fun _ ih acc st => List.rec (motive := fun _ => Option (List Value × List Value)) none (fun v t _ => ih (v :: acc) t) st) n
theorem ri_spl_ok : ∀ (n : Nat) (acc st as rest : List Value), ri_spl n acc st = some (as, rest) → ∃ bs : List Value, as = bs ++ acc ∧ st = bs.reverse ++ rest ∧ bs.length = n
  | 0, acc, st, as, rest, h => by
    have h : some (acc, st) = some (as, rest) := h
    cases h
    exact ⟨[], rfl, rfl, rfl⟩
  | n + 1, acc, [], as, rest, h => by cases h
  | n + 1, acc, v :: t, as, rest, h => by
    obtain ⟨bs, h1, h2, h3⟩ := ri_spl_ok n (v :: acc) t as rest h
    exact ⟨bs ++ [v], by rw [h1]; simp, by rw [h2]; simp, by simp [h3]⟩
def gs_s (f : ri_Env → ri_row → List Value → List Value → ri_L → ri_N) (E : ri_Env) (_ : ri_Cl) (tb : List ri_row) (ih : ri_K) (r : ri_row) (nx : List ri_row) (lv st : List Value) (L : ri_L) : ri_V := match f E r lv st L with
  | some (none, lv, st, L) => ih nx lv st L
  | some (some t, lv, st, L) => ih (ri_drp t tb) lv st L
  | none => none
def gs_ireturn (_ : ri_Env) (_ : ri_Cl) (_ : List ri_row) (_ : ri_K) (r : ri_row) (_ : List ri_row) (_ st : List Value) (L : ri_L) : ri_V := match st with
  | [.retAddr v] => if Nat.beq r.2.2.1 0 || Nat.ble v 1 then some (some (.retAddr v), L) else none
  | _ => none
def gs_lreturn (_ : ri_Env) (_ : ri_Cl) (_ : List ri_row) (_ : ri_K) (_ : ri_row) (_ : List ri_row) (_ st : List Value) (L : ri_L) : ri_V := match st with
  | [.long v] => some (some (.long v), L)
  | _ => none
def gs_return (_ : ri_Env) (_ : ri_Cl) (_ : List ri_row) (_ : ri_K) (_ : ri_row) (_ : List ri_row) (_ st : List Value) (L : ri_L) : ri_V := match st with
  | [] => some (none, L)
  | _ => none
def ri_app (v : Option Value) (rest : List Value) : List Value := match v with
  | some v => v :: rest
  | none => rest
def gs_virtual (E : ri_Env) (callee : ri_Cl) (_ : List ri_row) (ih : ri_K) (r : ri_row) (nx : List ri_row) (lv st : List Value) (L : ri_L) : ri_V := match ri_spl r.2.2.2.1 [] st with
  | some (as, .ref a :: rest) => match ri_get L.2.2 a with
    | some (.inr (ci, _)) => if Nat.ble L.1 a then none else if Nat.beq ci r.2.2.1 && Nat.ble (ri_cnt rest) 4 then match callee r.2.1 (.ref a :: as) L with
        | some (v, L2) => ih nx lv (ri_app v rest) L2
        | none => none
      else none
    | _ => none
  | some (as, .float b :: rest) => if ri_isP E b && (Nat.beq r.2.2.1 2 && ((ri_pcell L).isSome && Nat.ble (ri_cnt rest) 4)) then match callee r.2.1 (.float b :: as) L with
      | some (v, L2) => ih nx lv (ri_app v rest) L2
      | none => none
    else none
  | _ => none
def ri_cpn (n : Nat) : List Nat → List Nat → List Nat := Nat.rec (motive := fun _ => List Nat → List Nat → List Nat) (fun _ l2 => l2) (fun _ ih src l2 => List.rec (motive := fun _ => List Nat) [] (fun y s _ => List.rec (motive := fun _ => List Nat) [] (fun _ t _ => y :: ih s t) l2) src) n
def ri_cpf (dp : Nat) (n : Nat) (src : List Nat) : List Nat → List Nat := Nat.rec (motive := fun _ => List Nat → List Nat) (fun l2 => ri_cpn n src l2) (fun _ ih l2 => List.rec (motive := fun _ => List Nat) [] (fun x t _ => x :: ih t) l2) dp
theorem ri_cpn_eq : ∀ (n : Nat) (s l : List Nat), n ≤ s.length → n ≤ l.length → ri_cpn n s l = s.take n ++ l.drop n
  | 0, s, l, _, _ => by
    show l = _
    simp
  | n + 1, [], l, h, _ => by simp at h
  | n + 1, y :: s, [], _, h => by simp at h
  | n + 1, y :: s, x :: t, h1, h2 => by
    show y :: ri_cpn n s t = _
    rw [ri_cpn_eq n s t (by simpa using h1) (by simpa using h2)]
    simp
theorem ri_cpf_eq : ∀ (dp n : Nat) (s l : List Nat), n ≤ s.length → dp + n ≤ l.length → ri_cpf dp n s l = l.take dp ++ (s.take n ++ l.drop (dp + n))
  | 0, n, s, l, h1, h2 => by
    show ri_cpn n s l = _
    rw [ri_cpn_eq n s l h1 (by omega)]
    simp
  | dp + 1, n, s, [], _, h2 => by simp at h2
  | dp + 1, n, s, x :: t, h1, h2 => by
    show x :: ri_cpf dp n s t = _
    rw [ri_cpf_eq dp n s t h1 (by simp at h2; omega)]
    rw [show dp + 1 + n = (dp + n) + 1 by omega]
    simp
def ri_copy (st : List Value) (L : ri_L) : Option (List Value × ri_L) := match st with
  | .retAddr x :: .retAddr dp :: .ref b :: .retAddr sp :: .ref a :: st => match ri_get L.2.2 a, ri_get L.2.2 b with
    | some (.inl (0, .inl l1)), some (.inl (0, .inl l2)) => if Nat.ble L.1 a || Nat.ble L.1 b then none else if Nat.ble 100000 sp || (Nat.ble 100000 dp || Nat.ble 100000 x) then none else if ri_le (sp + x) l1 && (ri_le (dp + x) l2 && Nat.ble (ri_cnt st) 4) then some (st, (L.1, L.2.1, ri_put L.2.2 b (.inl (0, .inl (ri_cpf dp x (ri_drp sp l1) l2))))) else none
    | _, _ => none
  | _ => none
/-- nothing is copied -/
def ri_copy0 (E : ri_Env) (st : List Value) (L : ri_L) : Option (List Value × ri_L) := match st with
  | .retAddr x :: .retAddr dp :: v2 :: .retAddr sp :: v1 :: st => if Nat.beq x 0 && (Nat.beq dp 0 && (Nat.beq sp 0 && (ri_isIA E L v1 && (ri_isIA E L v2 && Nat.ble (ri_cnt st) 4)))) then some (st, L) else none
  | _ => none
def ri_mth (b : Nat) (st : List Value) : Option (Nat × List Value) := match st with
  | .retAddr z :: st => if Nat.beq b 5 then some (if Nat.blt (z % 4294967296) 2147483648 then z else (4294967296 - z % 4294967296) % 4294967296, st) else match st with
    | .retAddr x :: st => if Nat.beq b 3 then some (if ri_cmpn .lt x z then z else x, st) else if Nat.beq b 4 then some (if ri_cmpn .lt z x then z else x, st) else none
    | _ => none
  | _ => none
def gs_static (E : ri_Env) (callee : ri_Cl) (_ : List ri_row) (ih : ri_K) (r : ri_row) (nx : List ri_row) (lv st : List Value) (L : ri_L) : ri_V := if Nat.beq r.2.2.1 2 then match ri_copy st L with
    | some (st, L) => ih nx lv st L
    | none => match ri_copy0 E st L with
      | some (st, L) => ih nx lv st L
      | none => none
  else if Nat.ble 3 r.2.2.1 then match ri_mth r.2.2.1 st with
    | some (x, st) => if Nat.ble (ri_cnt st) 4 then ri_fn x (fun x => ih nx lv (.retAddr x :: st) L) else none
    | none => none
  else match ri_spl r.2.2.2.1 [] st with
    | some (as, rest) => if Nat.ble (ri_cnt rest) 4 then match callee r.2.1 as L with
        | some (v, L2) => ih nx lv (ri_app v rest) L2
        | none => none
      else none
    | none => none
def gs_special (_ : ri_Env) (callee : ri_Cl) (_ : List ri_row) (ih : ri_K) (r : ri_row) (nx : List ri_row) (lv st : List Value) (L : ri_L) : ri_V := if Nat.beq r.2.2.1 1 then match st with
    | .ref a :: st => if Nat.ble (ri_cnt st) 4 then ih nx lv st L else none
    | _ => none
  else match ri_spl r.2.2.2.1 [] st with
  | some (as, .ref a :: rest) => if Nat.ble (ri_cnt rest) 4 then match callee r.2.1 (.ref a :: as) L with
      | some (v, L2) => ih nx lv (ri_app v rest) L2
      | none => none
    else none
  | _ => none
def gs_none (_ : ri_Env) (_ : ri_Cl) (_ : List ri_row) (_ : ri_K) (_ : ri_row) (_ : List ri_row) (_ _ : List Value) (_ : ri_L) : ri_V := none
def ri_fns : List ri_G := [gs_s st_aload, gs_s st_iload, gs_s st_iconst, gs_s st_getfield, gs_virtual, gs_ireturn, gs_s st_goto, gs_s st_iadd, gs_s st_iaload, gs_s st_istore, gs_s st_isub, gs_s st_if_eq, gs_s st_if_ne, gs_s st_icmp_ge, gs_s st_putfield, gs_s st_imul, gs_s st_iinc, gs_static, gs_s st_icmp_ne, gs_s st_icmp_eq, gs_s st_aaload, gs_return, gs_s st_iastore, gs_s st_dup, gs_s st_i2l, gs_s st_icmp_gt, gs_s st_icmp_lt, gs_s st_icmp_le, gs_s st_if_lt, gs_s st_if_le, gs_s st_if_ge, gs_s st_if_gt, gs_s st_ineg, gs_s st_iand, gs_s st_irem, gs_s st_ishr, gs_s st_idiv, gs_s st_arraylength, gs_s st_lconst, gs_s st_lload, gs_s st_lstore, gs_s st_astore, gs_s st_lcmp, gs_s st_ladd, gs_s st_lmul, gs_s st_ixor, gs_s st_ishl, gs_s st_iushr, gs_s st_getstatic, gs_s st_new, gs_s st_newi, gs_s st_newl, gs_s st_newq, gs_s st_aastore, gs_s st_laload, gs_s st_lastore, gs_s st_dup2, gs_s st_table, gs_lreturn, gs_special]
def ri_go1 (E : ri_Env) (callee : ri_Cl) (tb : List ri_row) (ih : ri_K) (cur : List ri_row) : List Value → List Value → ri_L → ri_V := List.rec (motive := fun _ => List Value → List Value → ri_L → ri_V) (fun _ _ _ => none) (fun r nx _ lv st L => ri_nthD gs_none ri_fns r.1 E callee tb ih r nx lv st L) cur
def ri_go (E : ri_Env) (callee : ri_Cl) (tb : List ri_row) (f : Nat) : ri_K := Nat.rec (motive := fun _ => ri_K) (fun _ _ _ _ => none) (fun _ ih => ri_go1 E callee tb ih) f
/-- the locals at a method's entry -/
def ri_ls (as : List Value) : List Value := List.rec (motive := fun _ => List Value) [] (fun v _ ih => if ri_c2 v then v :: .null :: ih else v :: ih) as
def ri_D (E : ri_Env) (M : Nat → ri_mi) (F : Nat) (d : Nat) : ri_Cl := Nat.rec (motive := fun _ => ri_Cl) (fun _ _ _ => none) (fun _ ih j as L => if Nat.ble (ri_ls as).length (M j).1.2.2.1 then ri_go E ih (M j).2.2.2 F (M j).2.2.2 (ri_ls as ++ List.replicate ((M j).1.2.2.1 - (ri_ls as).length) .null) [] L else none) d
theorem am_iniM : Cond.initialized "java/lang/Math" ∈ am_tbl := by decide +kernel
section
variable {G : am_G} {d : Nat} {y : am_M} {mc ms : Nat} {post : am_T} {k n pc N : Nat} {lv lv' : List (Nat × Value)} {st : List Value} {h : am_H}
theorem am_st_max : Cond.static Lib.Math.max.name ∈ am_tbl := by decide +kernel
theorem am_cd_max : Cond.code Lib.Math.max.name Lib.Math.max.code 2 (some .int) ∈ am_tbl := by decide +kernel
theorem am_mmax {x z : Int32} {idx : Nat} (hd : decode y.2.1 pc = .ok (.invokestatic idx, 3)) (hlk : Cond.methodLink y.1.cls idx Lib.Math.max.name ∈ am_tbl) (hdd : 1 ≤ d) (hk : k ≤ mc) (hn : n ≤ ms) (hrest : (st.map fun v => v.category).sum ≤ 20) (kk : am_A G d y mc ms post k n (pc + 3) lv (.int (if x < z then z else x) :: st) N h) : am_A G d y mc ms post k n pc lv (.int z :: .int x :: st) N h := by
  intro p e s m args below meth c H locs ls X hW hlo hl
  have hx := X.1
  have hb := X.2.1
  have hown := X.2.2.2.2.1
  have hts := X.2.2.2.2.2.1
  have hK := X.2.2.2.2.2.2.2.2
  exact va_mmax hx hb (X.2.2.2.1.trans hl.1.symm) hown (hts _ hlk) (hts _ am_st_max) (hts _ am_iniM) (hts _ am_cd_max) hdd (by
    show ((st.map (am_cv G)).map fun v => v.category).sum + 13 ≤ 100 * d
    rw [am_catS]; omega) hk hn hd (kk p e s m args below meth c H locs ls X hW hlo hl)
theorem am_st_min : Cond.static Lib.Math.min.name ∈ am_tbl := by decide +kernel
theorem am_cd_min : Cond.code Lib.Math.min.name Lib.Math.min.code 2 (some .int) ∈ am_tbl := by decide +kernel
theorem am_mmin {x z : Int32} {idx : Nat} (hd : decode y.2.1 pc = .ok (.invokestatic idx, 3)) (hlk : Cond.methodLink y.1.cls idx Lib.Math.min.name ∈ am_tbl) (hdd : 1 ≤ d) (hk : k ≤ mc) (hn : n ≤ ms) (hrest : (st.map fun v => v.category).sum ≤ 20) (kk : am_A G d y mc ms post k n (pc + 3) lv (.int (if z < x then z else x) :: st) N h) : am_A G d y mc ms post k n pc lv (.int z :: .int x :: st) N h := by
  intro p e s m args below meth c H locs ls X hW hlo hl
  have hx := X.1
  have hb := X.2.1
  have hown := X.2.2.2.2.1
  have hts := X.2.2.2.2.2.1
  have hK := X.2.2.2.2.2.2.2.2
  exact va_mmin hx hb (X.2.2.2.1.trans hl.1.symm) hown (hts _ hlk) (hts _ am_st_min) (hts _ am_iniM) (hts _ am_cd_min) hdd (by
    show ((st.map (am_cv G)).map fun v => v.category).sum + 13 ≤ 100 * d
    rw [am_catS]; omega) hk hn hd (kk p e s m args below meth c H locs ls X hW hlo hl)
theorem am_st_abs : Cond.static Lib.Math.abs.name ∈ am_tbl := by decide +kernel
theorem am_cd_abs : Cond.code Lib.Math.abs.name Lib.Math.abs.code 1 (some .int) ∈ am_tbl := by decide +kernel
theorem am_mabs {x : Int32} {idx : Nat} (hd : decode y.2.1 pc = .ok (.invokestatic idx, 3)) (hlk : Cond.methodLink y.1.cls idx Lib.Math.abs.name ∈ am_tbl) (hdd : 1 ≤ d) (hk : k ≤ mc) (hn : n ≤ ms) (hrest : (st.map fun v => v.category).sum ≤ 20) (kk : am_A G d y mc ms post k n (pc + 3) lv (.int (if 0 ≤ x then x else 0 - x) :: st) N h) : am_A G d y mc ms post k n pc lv (.int x :: st) N h := by
  intro p e s m args below meth c H locs ls X hW hlo hl
  have hx := X.1
  have hb := X.2.1
  have hown := X.2.2.2.2.1
  have hts := X.2.2.2.2.2.1
  have hK := X.2.2.2.2.2.2.2.2
  exact va_mabs hx hb (X.2.2.2.1.trans hl.1.symm) hown (hts _ hlk) (hts _ am_st_abs) (hts _ am_iniM) (hts _ am_cd_abs) hdd (by
    show ((st.map (am_cv G)).map fun v => v.category).sum + 13 ≤ 100 * d
    rw [am_catS]; omega) hk hn hd (kk p e s m args below meth c H locs ls X hW hlo hl)
end
theorem am_natC : Cond.native arraycopyName ∈ am_tbl := by decide +kernel
theorem am_staC : Cond.static arraycopyName ∈ am_tbl := by decide +kernel
theorem am_iniC : Cond.initialized "java/lang/System" ∈ am_tbl := by decide +kernel
theorem am_objI : Cond.instanceMethod objectInit ∈ am_tbl := by decide +kernel
theorem am_objC : Cond.code objectInit ⟨#[0xb1]⟩ 1 none ∈ am_tbl := by decide +kernel
def ri_post (r : Option Value) (L : ri_L) : am_T := fun r' N' h' => r' = r ∧ N' = L.1 ∧ h' = ri_h L
def ri_Cok (E : ri_Env) (M : Nat → ri_mi) (d : Nat) (callee : ri_Cl) : Prop := ∀ j as L r L', callee j as L = some (r, L') → L.1 ≤ L'.1 ∧ L.2.1 ≤ L'.2.1 ∧ ∀ G : am_G, am_Env G E → am_C G d (M j).1 (L'.1 - L.1) (L'.2.1 - L.2.1) as L.1 (ri_h L) (ri_post r L')
theorem ri_drop {α : Type} {l : List α} {i : Nat} {x : α} {t : List α} (h : l.drop i = x :: t) : l[i]? = some x ∧ t = l.drop (i + 1) := by
  refine ⟨?_, ?_⟩
  · have := congrArg (fun l => l[0]?) h
    simpa using this
  · have := congrArg List.tail h
    simpa using this.symm
/-- what a run of a rest of a method says -/
def ri_Gok (E : ri_Env) (y : am_M) (tb : List ri_row) (d i : Nat) (lv : List Value) (st : List Value) (L : ri_L) (r : Option Value) (L' : ri_L) : Prop :=
  L.1 ≤ L'.1 ∧ L.2.1 ≤ L'.2.1 ∧ ∀ (G : am_G), am_Env G E → ∀ (mc ms : Nat) (post : am_T) (k n : Nat) (row : ri_row), tb[i]? = some row → k + (L'.1 - L.1) ≤ mc → n + (L'.2.1 - L.2.1) ≤ ms → post r L'.1 (ri_h L') → am_A G (d + 1) y mc ms post k n (ri_pc row) (ri_lv lv) st L.1 (ri_h L)
end
