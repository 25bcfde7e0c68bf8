noncomputable section
/-! ===== rows as stacks (the last letter first); letters put behind a row ===== -/
def gs_stk (f : Nat → Int) : Nat → List Int
  | 0 => []
  | n + 1 => f n :: gs_stk f n
theorem gs_stk_cg {f h : Nat → Int} : ∀ n : Nat, (∀ i : Nat, i < n → f i = h i) → gs_stk f n = gs_stk h n
  | 0, _ => rfl
  | n + 1, e => by
    show f n :: gs_stk f n = h n :: gs_stk h n
    rw [e n (by omega), gs_stk_cg n (fun i hi => e i (by omega))]
theorem gs_stk_len (f : Nat → Int) : ∀ n : Nat, (gs_stk f n).length = n
  | 0 => rfl
  | n + 1 => by
    show (gs_stk f n).length + 1 = n + 1
    rw [gs_stk_len f n]
theorem gs_stk_inj {f h : Nat → Int} : ∀ n m : Nat, gs_stk f n = gs_stk h m → n = m ∧ ∀ i : Nat, i < n → f i = h i
  | 0, 0, _ => ⟨rfl, fun i hi => by omega⟩
  | 0, m + 1, e => by cases e
  | n + 1, 0, e => by cases e
  | n + 1, m + 1, e => by
    have e : f n :: gs_stk f n = h m :: gs_stk h m := e
    injection e with e1 e2
    obtain ⟨a, b⟩ := gs_stk_inj n m e2
    subst a
    refine ⟨rfl, fun i hi => ?_⟩
    by_cases q : i = n
    · rw [q]
      exact e1
    · exact b i (by omega)
def sp_push (r : List Int) (x : Int) : List Int := match r with
  | [] => [x]
  | y :: t => if y = -x then t else x :: y :: t
def sp_all (r w : List Int) : List Int := w.foldl sp_push r
/-- no letter beside its opposite -/
def sp_red : List Int → Prop
  | [] => True
  | [_] => True
  | x :: y :: t => x ≠ -y ∧ sp_red (y :: t)
theorem sp_red_tl {x : Int} : ∀ {r : List Int}, sp_red (x :: r) → sp_red r
  | [], _ => trivial
  | _ :: _, h => h.2
theorem sp_push_red {r : List Int} {x : Int} (h : sp_red r) : sp_red (sp_push r x) := by
  match r, h with
  | [], _ => trivial
  | y :: t, h =>
    show sp_red (if y = -x then t else x :: y :: t)
    split
    · exact sp_red_tl h
    · rename_i q
      exact ⟨fun w => q (by omega), h⟩
theorem sp_push_inv {r : List Int} {x : Int} (h : sp_red r) : sp_push (sp_push r x) (-x) = r := by
  match r, h with
  | [], _ =>
    show (if x = - -x then [] else _) = []
    rw [if_pos (by omega)]
  | y :: t, h =>
    show sp_push (if y = -x then t else x :: y :: t) (-x) = y :: t
    by_cases q : y = -x
    · rw [if_pos q]
      match t, h with
      | [], _ =>
        show [-x] = [y]
        rw [q]
      | z :: u, h =>
        show (if z = - -x then u else -x :: z :: u) = y :: z :: u
        have h1 := h.1
        rw [if_neg (by omega), q]
    · rw [if_neg q]
      show (if x = - -x then y :: t else _) = y :: t
      rw [if_pos (by omega)]
theorem sp_all_red : ∀ (w : List Int) {r : List Int}, sp_red r → sp_red (sp_all r w)
  | [], _, h => h
  | _ :: w, _, h => sp_all_red w (sp_push_red h)
theorem sp_all_app (r u v : List Int) : sp_all r (u ++ v) = sp_all (sp_all r u) v := List.foldl_append
/-- a row's clean form does as the row does -/
theorem sp_all_nf : ∀ (w : List Int) {v r : List Int}, sp_red v → sp_red r → sp_all r (sp_all v w).reverse = sp_all (sp_all r v.reverse) w
  | [], _, _, _, _ => rfl
  | x :: w, v, r, hv, hr => by
    show sp_all r (sp_all (sp_push v x) w).reverse = sp_all (sp_push (sp_all r v.reverse) x) w
    rw [sp_all_nf w (sp_push_red hv) hr]
    have key : sp_all r (sp_push v x).reverse = sp_push (sp_all r v.reverse) x := by
      match v, hv with
      | [], _ => rfl
      | y :: t, hv =>
        show sp_all r (if y = -x then t else x :: y :: t).reverse = sp_push (sp_all r (y :: t).reverse) x
        by_cases q : y = -x
        · rw [if_pos q, List.reverse_cons, sp_all_app]
          show _ = sp_push (sp_push (sp_all r t.reverse) y) x
          have e : x = -y := by omega
          rw [e, sp_push_inv (sp_all_red _ hr)]
        · rw [if_neg q, List.reverse_cons (a := x), sp_all_app]
          rfl
    rw [key]
theorem gs_psh_stk {n x L n2 : Int} {f f2 : Nat → Int} (hn : 0 ≤ n) (hL : n < L) (p : gs_psh n f x L n2 f2) : gs_stk f2 n2.toNat = sp_push (gs_stk f n.toNat) x := by
  rcases (show n = 0 ∨ 0 < n by omega) with q | q
  · rcases p with p | ⟨p1, p2, p3, p4⟩ | p
    · omega
    · rw [p3, p4, q]
      show [gs_u f (0 : Int).toNat x 0] = [x]
      rw [show (0 : Int).toNat = 0 from rfl, gs_u_self]
    · omega
  · obtain ⟨m, hm⟩ : ∃ m : Nat, n.toNat = m + 1 := ⟨n.toNat - 1, by omega⟩
    have hm1 : (n - 1).toNat = m := by omega
    rw [hm]
    show _ = (if f m = -x then gs_stk f m else x :: f m :: gs_stk f m)
    rcases p with ⟨p1, p2, p3, p4⟩ | ⟨p1, p2, p3, p4⟩ | ⟨p1, p2, p3, p4⟩
    · rw [hm1] at p2
      rw [if_pos p2, p3, p4, hm1]
    · rw [hm1] at p1
      rw [if_neg (by omega), p3, p4, show (n + 1).toNat = m + 1 + 1 by omega, hm]
      show gs_u f (m + 1) x (m + 1) :: gs_u f (m + 1) x m :: gs_stk (gs_u f (m + 1) x) m = _
      rw [gs_u_self, gs_u_ne _ _ (by omega), gs_stk_cg m (fun i hi => gs_u_ne f x (by omega))]
    · omega
/-- n letters from a on -/
def gs_sl (f : Nat → Int) (a : Nat) : Nat → List Int
  | 0 => []
  | n + 1 => gs_sl f a n ++ [f (a + n)]
theorem sp_all_sl (r : List Int) (f : Nat → Int) (a n : Nat) : sp_all r (gs_sl f a (n + 1)) = sp_push (sp_all r (gs_sl f a n)) (f (a + n)) := by
  show sp_all r (gs_sl f a n ++ [f (a + n)]) = _
  rw [sp_all_app]
  rfl
/-- what a letter becomes, as the reference puts it (o, b: 1 or 0) -/
def sp_C (h b : Int) : List Int := if b = 1 then [-(2 * h + 3), 2 * h + 2, 2 * h + 1, -(2 * h + 2)] else [2 * h + 2, -(2 * h + 1), -(2 * h + 2), 2 * h + 3]
def sp_mi (g t o x b : Int) : List Int :=
  if t < g then
    (if x = 2 * t + 2 then (if b = 1 then (if o = 1 then [2 * t + 1, -(2 * t + 2)] else [-(2 * t + 1), -(2 * t + 2)]) else (if o = 1 then [2 * t + 2, -(2 * t + 1)] else [2 * t + 2, 2 * t + 1])) else (if b = 1 then [-x] else [x]))
  else if t < 2 * g then
    (if x = 2 * (t - g) + 1 then (if b = 1 then (if o = 1 then [-(2 * (t - g) + 2), -(2 * (t - g) + 1)] else [2 * (t - g) + 2, -(2 * (t - g) + 1)]) else (if o = 1 then [2 * (t - g) + 1, 2 * (t - g) + 2] else [2 * (t - g) + 1, -(2 * (t - g) + 2)])) else (if b = 1 then [-x] else [x]))
  else
    (if x = 2 * (t - 2 * g) + 2 then (if b = 1 then [-x] ++ sp_C (t - 2 * g) o else sp_C (t - 2 * g) (1 - o) ++ [x])
     else if x = 2 * (t - 2 * g) + 3 then (if b = 1 then sp_C (t - 2 * g) (1 - o) ++ ([-x] ++ sp_C (t - 2 * g) o) else sp_C (t - 2 * g) (1 - o) ++ ([x] ++ sp_C (t - 2 * g) o))
     else if x = 2 * (t - 2 * g) + 4 then (if b = 1 then sp_C (t - 2 * g) (1 - o) ++ [-x] else [x] ++ sp_C (t - 2 * g) o)
     else (if b = 1 then [-x] else [x]))
/-- what the reference puts for the letter x at the twist u -/
def sp_m (g u x : Int) : List Int := sp_mi g (u / 2) (if u % 2 = 1 then 1 else 0) (if x < 0 then -x else x) (if x < 0 then 1 else 0)
/-- the same, clean: a word of the class's table -/
def sp_w (g u x : Int) : List Int := (sp_all [] (sp_m g u x)).reverse
theorem sp_push_cg {r s : List Int} {x y : Int} (h : x = y) (e : r = s) : sp_push r x = sp_push s y := by rw [h, e]
theorem sp_C_cg {h h2 b b2 : Int} (e : h = h2) (e2 : b = b2) : sp_C h b = sp_C h2 b2 := by rw [e, e2]
theorem sp_w_all {r : List Int} (hr : sp_red r) (g u x : Int) : sp_all r (sp_w g u x) = sp_all r (sp_m g u x) := by
  have := sp_all_nf (sp_m g u x) (v := []) (r := r) trivial hr
  exact this
def sp_val (g : Int) (r : List Int) : Prop := ∀ y ∈ r, y ≠ 0 ∧ -(2 * g) ≤ y ∧ y ≤ 2 * g
def sp_chk (g u x : Int) : Bool := (sp_w g u x).all (fun y => decide (y ≠ 0 ∧ -(2 * g) ≤ y ∧ y ≤ 2 * g)) && decide ((sp_w g u x).length ≤ 9) && decide (sp_w g u (-x) = (sp_w g u x).reverse.map (fun y => -y))
/-- letters and lengths of all words, and that a word of an opposite is the word back -/
theorem sp_chk_all : ∀ g : Fin 4, 1 ≤ g.val → ∀ u : Fin 16, u.val < 6 * g.val - 2 → ∀ x : Fin 7, 1 ≤ x.val → x.val ≤ 2 * g.val → sp_chk (g.val : Int) (u.val : Int) (x.val : Int) = true := by decide +kernel
theorem sp_chk_at {g u x : Int} (hg : 1 ≤ g ∧ g ≤ 3) (hu : 0 ≤ u ∧ u < 6 * g - 2) (hx : 1 ≤ x ∧ x ≤ 2 * g) : sp_chk g u x = true := by
  have h := sp_chk_all ⟨g.toNat, by omega⟩ (by show 1 ≤ g.toNat; omega) ⟨u.toNat, by omega⟩ (by show u.toNat < 6 * g.toNat - 2; omega) ⟨x.toNat, by omega⟩ (by show 1 ≤ x.toNat; omega) (by show x.toNat ≤ 2 * g.toNat; omega)
  have h : sp_chk ((g.toNat : Nat) : Int) ((u.toNat : Nat) : Int) ((x.toNat : Nat) : Int) = true := h
  rw [show ((g.toNat : Nat) : Int) = g by omega, show ((u.toNat : Nat) : Int) = u by omega, show ((x.toNat : Nat) : Int) = x by omega] at h
  exact h
theorem sp_w_ok {g u x : Int} (hg : 1 ≤ g ∧ g ≤ 3) (hu : 0 ≤ u ∧ u < 6 * g - 2) (hx : x ≠ 0 ∧ -(2 * g) ≤ x ∧ x ≤ 2 * g) : sp_val g (sp_w g u x) ∧ (sp_w g u x).length ≤ 9 := by
  have key : ∀ z : Int, 1 ≤ z → z ≤ 2 * g → sp_val g (sp_w g u z) ∧ (sp_w g u z).length ≤ 9 ∧ sp_w g u (-z) = (sp_w g u z).reverse.map (fun y => -y) := by
    intro z h1 h2
    have h := sp_chk_at hg hu ⟨h1, h2⟩
    unfold sp_chk at h
    simp only [Bool.and_eq_true, decide_eq_true_eq, List.all_eq_true] at h
    exact ⟨fun y hy => h.1.1 y hy, h.1.2, h.2⟩
  rcases (show 1 ≤ x ∨ x ≤ -1 by omega) with q | q
  · have := key x q hx.2.2
    exact ⟨this.1, this.2.1⟩
  · obtain ⟨k1, k2, k3⟩ := key (-x) (by omega) (by omega)
    rw [Int.neg_neg] at k3
    rw [k3]
    refine ⟨fun y hy => ?_, by rw [List.length_map, List.length_reverse]; exact k2⟩
    rw [List.mem_map] at hy
    obtain ⟨z, hz, e⟩ := hy
    have := k1 z (List.mem_reverse.mp hz)
    omega
theorem sp_push_val {g x : Int} {r : List Int} (hr : sp_val g r) (hx : x ≠ 0 ∧ -(2 * g) ≤ x ∧ x ≤ 2 * g) : sp_val g (sp_push r x) := by
  match r, hr with
  | [], _ =>
    intro y hy
    have hy : y ∈ [x] := hy
    rw [List.mem_singleton] at hy
    rw [hy]
    exact hx
  | z :: t, hr =>
    intro y hy
    have hy : y ∈ (if z = -x then t else x :: z :: t) := hy
    split at hy
    · exact hr y (List.mem_cons_of_mem _ hy)
    · rcases List.mem_cons.mp hy with e | e
      · rw [e]
        exact hx
      · exact hr y e
theorem sp_all_val {g : Int} : ∀ (w : List Int) {r : List Int}, sp_val g r → sp_val g w → sp_val g (sp_all r w)
  | [], _, hr, _ => hr
  | x :: w, _, hr, hw => sp_all_val w (sp_push_val hr (hw x List.mem_cons_self)) (fun y hy => hw y (List.mem_cons_of_mem _ hy))
def sp_tw (wd : Int → List Int) : List Int → List Int
  | [] => []
  | x :: r => sp_all (sp_tw wd r) (wd x)
theorem sp_tw_red (wd : Int → List Int) : ∀ r : List Int, sp_red (sp_tw wd r)
  | [] => trivial
  | _ :: r => sp_all_red _ (sp_tw_red wd r)
theorem sp_tw_wm (g u : Int) : ∀ r : List Int, sp_tw (sp_w g u) r = sp_tw (sp_m g u) r
  | [] => rfl
  | x :: r => by
    show sp_all (sp_tw (sp_w g u) r) (sp_w g u x) = sp_all (sp_tw (sp_m g u) r) (sp_m g u x)
    rw [sp_tw_wm g u r]
    exact sp_w_all (sp_tw_red _ r) g u x
theorem sp_tw_val {g u : Int} (hg : 1 ≤ g ∧ g ≤ 3) (hu : 0 ≤ u ∧ u < 6 * g - 2) : ∀ r : List Int, sp_val g r → sp_val g (sp_tw (sp_w g u) r)
  | [], h => h
  | x :: r, h => sp_all_val _ (sp_tw_val hg hu r (fun y hy => h y (List.mem_cons_of_mem _ hy))) (sp_w_ok hg hu (h x List.mem_cons_self)).1
theorem gs_stk_val {g : Int} {f : Nat → Int} : ∀ n : Nat, (∀ i : Nat, i < n → f i ≠ 0 ∧ -(2 * g) ≤ f i ∧ f i ≤ 2 * g) → sp_val g (gs_stk f n)
  | 0, _ => fun y hy => absurd hy List.not_mem_nil
  | n + 1, h => by
    intro y hy
    rcases List.mem_cons.mp hy with e | e
    · rw [e]
      exact h n (by omega)
    · exact gs_stk_val n (fun i hi => h i (by omega)) y e
theorem gs_stk_mem {f : Nat → Int} : ∀ (n i : Nat), i < n → f i ∈ gs_stk f n
  | 0, i, h => by omega
  | n + 1, i, h => by
    by_cases q : i = n
    · rw [q]
      exact List.mem_cons_self
    · exact List.mem_cons_of_mem _ (gs_stk_mem n i (by omega))
/-- the image of a row by a plan: from its last twist on; none: some row has more than 400 letters -/
def sp_pl (tw : Int → List Int → List Int) (c : Nat → Int) : Nat → List Int → Option (List Int)
  | 0, r => some r
  | n + 1, r => if 400 < (tw (c n) r).length then none else sp_pl tw c n (tw (c n) r)
theorem sp_pl_cg {tw tw2 : Int → List Int → List Int} {c c2 : Nat → Int} : ∀ (n : Nat) (r : List Int), (∀ i : Nat, i < n → c i = c2 i) → (∀ i : Nat, i < n → ∀ r : List Int, tw (c i) r = tw2 (c i) r) → sp_pl tw c n r = sp_pl tw2 c2 n r
  | 0, _, _, _ => rfl
  | n + 1, r, hc, ht => by
    show (if 400 < (tw (c n) r).length then none else sp_pl tw c n (tw (c n) r)) = (if 400 < (tw2 (c2 n) r).length then none else sp_pl tw2 c2 n (tw2 (c2 n) r))
    rw [← hc n (by omega), ← ht n (by omega) r, sp_pl_cg n _ (fun i hi => hc i (by omega)) (fun i hi => ht i (by omega))]
/-- n letters in their order are the stack from its other end -/
theorem gs_sl_stk {f h : Nat → Int} {a : Nat} : ∀ n : Nat, (∀ i : Nat, i < n → f (a + i) = h i) → gs_sl f a n = (gs_stk h n).reverse
  | 0, _ => rfl
  | n + 1, e => by
    show gs_sl f a n ++ [f (a + n)] = (h n :: gs_stk h n).reverse
    rw [List.reverse_cons, gs_sl_stk n (fun i hi => e i (by omega)), e n (by omega)]
theorem gs_sl_len (f : Nat → Int) (a : Nat) : ∀ n : Nat, (gs_sl f a n).length = n
  | 0 => rfl
  | n + 1 => by
    show (gs_sl f a n ++ [f (a + n)]).length = n + 1
    rw [List.length_append, gs_sl_len f a n]
    rfl
/-- the class's table of words is right for g handles -/
def gs_W (T : Nat → Int) (g : Int) : Prop := ∀ u x : Int, 0 ≤ u → u < 6 * g - 2 → x ≠ 0 → -(2 * g) ≤ x → x ≤ 2 * g → T ((u * 13 + x + 6) * 10).toNat = ((sp_w g u x).length : Int) ∧ gs_sl T (((u * 13 + x + 6) * 10).toNat + 1) (sp_w g u x).length = sp_w g u x
end
