noncomputable section
/-! ===== rows closed: as long for conjugate rows ===== -/
/-- a row made clean, its letters in the same order -/
def cy_R (l : List Int) : List Int := sp_all [] l.reverse
theorem cy_R_cons (x : Int) (l : List Int) : cy_R (x :: l) = sp_push (cy_R l) x := by
  unfold cy_R
  rw [List.reverse_cons, sp_all_app]
  rfl
theorem cy_R_red (l : List Int) : sp_red (cy_R l) := sp_all_red _ trivial
theorem cy_R_id : ∀ l : List Int, sp_red l → cy_R l = l
  | [], _ => rfl
  | x :: l, h => by
    rw [cy_R_cons, cy_R_id l (sp_red_tl h)]
    match l, h with
    | [], _ => rfl
    | y :: t, h =>
      show (if y = -x then t else x :: y :: t) = x :: y :: t
      have h1 := h.1
      rw [if_neg (by omega)]
theorem cy_R_app (l m : List Int) : cy_R (l ++ m) = sp_all (cy_R m) l.reverse := by
  unfold cy_R
  rw [List.reverse_append, sp_all_app]
theorem cy_R_mid {s : List Int} (l : List Int) (hs : sp_red s) : sp_all s (cy_R l).reverse = sp_all s l.reverse := by
  have h := sp_all_nf l.reverse (v := []) (r := s) trivial hs
  exact h
theorem cy_R_3 (l m k : List Int) : cy_R (l ++ (cy_R m ++ k)) = cy_R (l ++ (m ++ k)) := by
  rw [cy_R_app l, cy_R_app l, cy_R_app (cy_R m), cy_R_app m, cy_R_mid m (cy_R_red k)]
theorem cy_R_2 (m k : List Int) : cy_R (cy_R m ++ k) = cy_R (m ++ k) := cy_R_3 [] m k
theorem cy_R_r (m k : List Int) : cy_R (m ++ cy_R k) = cy_R (m ++ k) := by
  rw [cy_R_app, cy_R_app, cy_R_id _ (cy_R_red k)]
theorem cy_inv_rev (l : List Int) : (sp_inv l).reverse = sp_inv l.reverse := by
  unfold sp_inv
  rw [← List.map_reverse]
theorem cy_inv_app (l m : List Int) : sp_inv (l ++ m) = sp_inv m ++ sp_inv l := by
  unfold sp_inv
  rw [List.reverse_append, List.map_append]
theorem cy_inv_len (l : List Int) : (sp_inv l).length = l.length := by
  unfold sp_inv
  rw [List.length_map, List.length_reverse]
/-- a row behind its inverse goes -/
theorem cy_cancel (l m : List Int) : cy_R (sp_inv l ++ (l ++ m)) = cy_R m := by
  rw [cy_R_app, cy_R_app, cy_inv_rev]
  exact sp_all_inv _ (cy_R_red m)
theorem cy_cancel2 (l m : List Int) : cy_R (l ++ (sp_inv l ++ m)) = cy_R m := by
  have h := cy_cancel (sp_inv l) m
  rw [sp_inv_inv] at h
  exact h
/-! redness of pieces -/
theorem cy_red_app : ∀ (l : List Int) {a b : Int} {m : List Int}, sp_red (l ++ [a]) → sp_red (b :: m) → a ≠ -b → sp_red (l ++ (a :: b :: m))
  | [], a, b, m, _, h2, h3 => ⟨h3, h2⟩
  | [x], a, b, m, h1, h2, h3 => ⟨h1.1, h3, h2⟩
  | x :: y :: l, a, b, m, h1, h2, h3 => ⟨h1.1, cy_red_app (y :: l) (h1.2) h2 h3⟩
theorem cy_red_l : ∀ (l : List Int) {m : List Int}, sp_red (l ++ m) → sp_red l
  | [], _, _ => trivial
  | [x], _, _ => trivial
  | x :: y :: l, _, h => ⟨h.1, cy_red_l (y :: l) h.2⟩
theorem cy_red_r : ∀ (l : List Int) {m : List Int}, sp_red (l ++ m) → sp_red m
  | [], _, h => h
  | x :: l, _, h => cy_red_r l (sp_red_tl h)
theorem cy_red_ad : ∀ (l : List Int) {a b : Int} {m : List Int}, sp_red (l ++ (a :: b :: m)) → a ≠ -b
  | [], _, _, _, h => h.1
  | x :: l, _, _, _, h => cy_red_ad l (sp_red_tl h)
theorem cy_snoc : ∀ l : List Int, l = [] ∨ ∃ (m : List Int) (a : Int), l = m ++ [a]
  | [] => .inl rfl
  | x :: l => by
    rcases cy_snoc l with h | ⟨m, a, h⟩
    · exact .inr ⟨[], x, by rw [h]; rfl⟩
    · exact .inr ⟨x :: m, a, by rw [h]; rfl⟩
theorem cy_inv_red : ∀ l : List Int, sp_red l → sp_red (sp_inv l)
  | [], _ => trivial
  | x :: l, h => by
    rw [sp_inv_cons]
    match l, h with
    | [], _ => trivial
    | y :: t, h =>
      have k := cy_inv_red (y :: t) (sp_red_tl h)
      rw [sp_inv_cons] at k ⊢
      rw [List.append_assoc]
      exact cy_red_app (sp_inv t) k (show sp_red [-x] from trivial) (by have h1 := h.1; omega)
/-! how long a row is when closed -/
def cy_cl (c : List Int) : Prop := ∀ (y : Int) (m : List Int), c ≠ y :: (m ++ [-y])
def cy_rep (s : List Int) (z : Int) : Prop := ∃ p c : List Int, s = p ++ (c ++ sp_inv p) ∧ cy_cl c ∧ z = c.length
theorem cy_rep_uni_aux : ∀ (p p2 c c2 : List Int), p ++ (c ++ sp_inv p) = p2 ++ (c2 ++ sp_inv p2) → cy_cl c → cy_cl c2 → c.length = c2.length
  | [], [], c, c2, e, _, _ => by
    have e : c ++ sp_inv [] = c2 ++ sp_inv [] := e
    have n : sp_inv [] = [] := rfl
    rw [n, List.append_nil, List.append_nil] at e
    rw [e]
  | [], q :: p2, c, c2, e, h, _ => by
    exfalso
    have e : c ++ sp_inv [] = q :: (p2 ++ (c2 ++ sp_inv (q :: p2))) := e
    have n : sp_inv [] = [] := rfl
    rw [n, List.append_nil, sp_inv_cons, ← List.append_assoc c2, ← List.append_assoc p2] at e
    exact h q _ e
  | q :: p, [], c, c2, e, _, h => by
    exfalso
    have e : q :: (p ++ (c ++ sp_inv (q :: p))) = c2 ++ sp_inv [] := e
    have n : sp_inv [] = [] := rfl
    rw [n, List.append_nil, sp_inv_cons, ← List.append_assoc c, ← List.append_assoc p] at e
    exact h q _ e.symm
  | q :: p, q2 :: p2, c, c2, e, h, h2 => by
    have e : q :: (p ++ (c ++ sp_inv (q :: p))) = q2 :: (p2 ++ (c2 ++ sp_inv (q2 :: p2))) := e
    injection e with e1 e2
    subst e1
    rw [sp_inv_cons, sp_inv_cons, ← List.append_assoc c, ← List.append_assoc c2, ← List.append_assoc p, ← List.append_assoc p2] at e2
    exact cy_rep_uni_aux p p2 c c2 (List.append_cancel_right e2) h h2
theorem cy_rep_uni {s : List Int} {z z2 : Int} (h : cy_rep s z) (h2 : cy_rep s z2) : z2 = z := by
  obtain ⟨p, c, a1, a2, a3⟩ := h
  obtain ⟨p2, c2, b1, b2, b3⟩ := h2
  have e := cy_rep_uni_aux p p2 c c2 (a1.symm.trans b1) a2 b2
  omega
theorem cy_conj1 {s : List Int} {z y : Int} (hy : y ≠ 0) (hs : sp_red s) (h : cy_rep s z) : cy_rep (cy_R (y :: (s ++ [-y]))) z := by
  obtain ⟨p, c, a1, a2, a3⟩ := h
  match p, a1 with
  | q :: p, a1 =>
    have a1 : s = q :: (p ++ (c ++ sp_inv (q :: p))) := a1
    rw [sp_inv_cons, ← List.append_assoc c, ← List.append_assoc p] at a1
    by_cases e : q = -y
    · have m : sp_red (p ++ (c ++ sp_inv p)) := by
        rw [a1] at hs
        exact cy_red_l _ (sp_red_tl hs)
      have k : cy_R (y :: (s ++ [-y])) = p ++ (c ++ sp_inv p) := by
        have w := cy_cancel2 [y] (p ++ (c ++ sp_inv p) ++ ([y] ++ ([-y] ++ [])))
        rw [cy_R_app (p ++ (c ++ sp_inv p))] at w
        have w2 : cy_R ([y] ++ ([-y] ++ [])) = cy_R [] := cy_cancel2 [y] []
        rw [w2] at w
        have w3 : sp_all (cy_R []) (p ++ (c ++ sp_inv p)).reverse = cy_R (p ++ (c ++ sp_inv p)) := rfl
        rw [w3, cy_R_id _ m] at w
        rw [← w, a1, e, Int.neg_neg]
        simp [sp_inv]
      rw [k]
      exact ⟨p, c, rfl, a2, a3⟩
    · have k : sp_red (y :: (s ++ [-y])) := by
        rw [a1] at hs ⊢
        have r1 : sp_red (q :: (p ++ (c ++ sp_inv p)) ++ [-q]) := hs
        have r2 : sp_red ((q :: (p ++ (c ++ sp_inv p))) ++ (-q :: -y :: [])) := cy_red_app _ r1 (show sp_red [-y] from trivial) (by omega)
        have r3 : q :: (p ++ (c ++ sp_inv p) ++ [-q]) ++ [-y] = (q :: (p ++ (c ++ sp_inv p))) ++ (-q :: -y :: []) := by simp
        rw [r3]
        exact ⟨by omega, r2⟩
      rw [cy_R_id _ k]
      refine ⟨y :: q :: p, c, ?_, a2, a3⟩
      rw [a1, sp_inv_cons, sp_inv_cons]
      simp
  | [], a1 =>
    have n : sp_inv [] = [] := rfl
    rw [n, List.append_nil] at a1
    have a1 : s = c := a1
    subst a1
    match s, hs, a2, a3 with
    | [], _, a2, a3 =>
      refine ⟨[], [], ?_, a2, a3⟩
      exact cy_cancel2 [y] []
    | a :: t, hs, a2, a3 =>
      by_cases ea : a = -y
      · -- the first goes
        have k : cy_R (y :: (a :: t ++ [-y])) = cy_R (t ++ [-y]) := by
          have w := cy_cancel2 [y] (t ++ [-y])
          rw [ea]
          exact w
        rw [k]
        have hr : sp_red (t ++ [-y]) := by
          rcases cy_snoc t with e | ⟨m, b, e⟩
          · rw [e]
            trivial
          · rw [e] at hs a2 ⊢
            have hb : b ≠ y := fun w => a2 a m (by rw [w, ea, Int.neg_neg])
            rw [List.append_assoc]
            exact cy_red_app m (sp_red_tl hs) (show sp_red [-y] from trivial) (by omega)
        rw [cy_R_id _ hr]
        refine ⟨[], t ++ [-y], by rw [n, List.append_nil]; rfl, ?_, ?_⟩
        · intro q m w
          rcases (show t = [] ∨ ∃ x u, t = x :: u by cases t with | nil => exact .inl rfl | cons x u => exact .inr ⟨x, u, rfl⟩) with e | ⟨x, u, e⟩
          · rw [e] at w
            have w : [-y] = q :: (m ++ [-q]) := w
            injection w with w1 w2
            have := congrArg List.length w2
            rw [List.length_append] at this
            have this : 0 = m.length + 1 := this
            omega
          · rw [e] at w hs
            have w : x :: (u ++ [-y]) = q :: (m ++ [-q]) := w
            injection w with w1 w2
            have w3 := (List.append_inj' w2 rfl).2
            injection w3 with w3 _
            have h1 := hs.1
            omega
        · rw [List.length_append]
          rw [a3]
          rfl
      · by_cases eb : ∃ m : List Int, a :: t = m ++ [y]
        · obtain ⟨m, e⟩ := eb
          have k : cy_R (y :: (a :: t ++ [-y])) = cy_R (y :: m) := by
            rw [e, List.append_assoc]
            have w : cy_R ((y :: m) ++ ([y] ++ ([-y] ++ []))) = cy_R ((y :: m) ++ []) := by
              rw [cy_R_app (y :: m), cy_R_app (y :: m)]
              have w2 : cy_R ([y] ++ ([-y] ++ [])) = cy_R [] := cy_cancel2 [y] []
              rw [w2]
            rw [List.append_nil, List.append_nil] at w
            exact w
          rw [k]
          have hm : sp_red m := by
            rw [e] at hs
            exact cy_red_l m hs
          have hr : sp_red (y :: m) := by
            cases m with
            | nil => trivial
            | cons x u =>
              have e2 : a :: t = x :: (u ++ [y]) := e
              injection e2 with e2 _
              exact ⟨by omega, hm⟩
          rw [cy_R_id _ hr]
          refine ⟨[], y :: m, by rw [n, List.append_nil]; rfl, ?_, ?_⟩
          · intro q u w
            injection w with w1 w2
            rw [w2, ← w1, List.append_assoc] at e
            rw [e] at hs
            have h1 := cy_red_ad u hs
            omega
          · rw [a3, e, List.length_append]
            rfl
        · have hr : sp_red (y :: (a :: t ++ [-y])) := by
            rcases cy_snoc t with e | ⟨m, b, e⟩
            · rw [e]
              have ny : a ≠ y := fun w => eb ⟨[], by rw [e, w]; rfl⟩
              exact ⟨by omega, by omega, trivial⟩
            · have nb : b ≠ y := fun w => eb ⟨a :: m, by rw [e, w]; rfl⟩
              rw [e] at hs ⊢
              have r := cy_red_app (a :: m) (b := -y) (m := []) hs trivial (by omega)
              have r3 : a :: (m ++ [b]) ++ [-y] = (a :: m) ++ (b :: -y :: []) := by simp
              rw [r3]
              exact ⟨by omega, r⟩
          rw [cy_R_id _ hr]
          exact ⟨[y], a :: t, rfl, a2, a3⟩
theorem cy_conj {w : List Int} {z : Int} : ∀ A : List Int, (∀ y ∈ A, y ≠ 0) → cy_rep (cy_R w) z → cy_rep (cy_R (A ++ (w ++ sp_inv A))) z
  | [], _, h => by
    have n : sp_inv [] = [] := rfl
    rw [n, List.append_nil]
    exact h
  | y :: A, hA, h => by
    have k := cy_conj A (fun q hq => hA q (List.mem_cons_of_mem _ hq)) h
    have r := cy_conj1 (hA y List.mem_cons_self) (cy_R_red _) k
    have e : cy_R (y :: (cy_R (A ++ (w ++ sp_inv A)) ++ [-y])) = cy_R (y :: A ++ (w ++ sp_inv (y :: A))) := by
      have e2 := cy_R_3 [y] (A ++ (w ++ sp_inv A)) [-y]
      rw [sp_inv_cons]
      have e3 : y :: A ++ (w ++ (sp_inv A ++ [-y])) = [y] ++ (A ++ (w ++ sp_inv A) ++ [-y]) := by simp
      rw [e3]
      exact e2
    rw [e] at r
    exact r
theorem cy_R_inv : ∀ w : List Int, cy_R (sp_inv w) = sp_inv (cy_R w)
  | [] => rfl
  | x :: t => by
    have ih := cy_R_inv t
    have a : cy_R (sp_inv (x :: t)) = cy_R (sp_inv (x :: cy_R t)) := by
      rw [sp_inv_cons, sp_inv_cons, ← cy_R_2 (sp_inv t), ih]
    have hr := cy_inv_red _ (cy_R_red (x :: t))
    rw [a, ← cy_R_id _ hr, cy_R_cons]
    match q : cy_R t with
    | [] => rfl
    | y :: u =>
      show cy_R (sp_inv (x :: y :: u)) = cy_R (sp_inv (if y = -x then u else x :: y :: u))
      by_cases e : y = -x
      · rw [if_pos e, sp_inv_cons, sp_inv_cons, e, Int.neg_neg, List.append_assoc]
        have w : cy_R ([x] ++ ([-x] ++ [])) = cy_R [] := cy_cancel2 [x] []
        have w2 : cy_R (sp_inv u ++ ([x] ++ ([-x] ++ []))) = cy_R (sp_inv u ++ []) := by
          rw [cy_R_app (sp_inv u), cy_R_app (sp_inv u), w]
        rw [List.append_nil, List.append_nil] at w2
        exact w2
      · rw [if_neg e]
theorem cy_rep_inv {s : List Int} {z : Int} (h : cy_rep s z) : cy_rep (sp_inv s) z := by
  obtain ⟨p, c, a1, a2, a3⟩ := h
  refine ⟨p, sp_inv c, ?_, ?_, ?_⟩
  · rw [a1, cy_inv_app, cy_inv_app, sp_inv_inv, List.append_assoc]
  · intro y m e
    have e2 := congrArg sp_inv e
    rw [sp_inv_inv, sp_inv_cons, cy_inv_app] at e2
    have e3 : sp_inv [-y] = [y] := by
      show [-(-y)] = [y]
      rw [Int.neg_neg]
    rw [e3] at e2
    exact a2 y (sp_inv m) e2
  · rw [cy_inv_len]
    exact a3
/-! a twist as words, letter by letter -/
theorem cy_tw (wd : Int → List Int) : ∀ s : List Int, sp_tw wd s = cy_R (s.flatMap (fun x => (wd x).reverse))
  | [] => rfl
  | x :: s => by
    rw [List.flatMap_cons, cy_R_app, List.reverse_reverse, ← cy_tw wd s]
    rfl
theorem cy_fm_inv {vd : Int → List Int} : ∀ s : List Int, (∀ x ∈ s, vd (-x) = sp_inv (vd x)) → (sp_inv s).flatMap vd = sp_inv (s.flatMap vd)
  | [], _ => rfl
  | x :: s, h => by
    have e1 : (x :: s).flatMap vd = vd x ++ s.flatMap vd := List.flatMap_cons
    have e2 : [-x].flatMap vd = vd (-x) := by
      rw [List.flatMap_cons]
      exact List.append_nil _
    rw [sp_inv_cons, List.flatMap_append, cy_fm_inv s (fun y hy => h y (List.mem_cons_of_mem _ hy)), e1, e2, cy_inv_app, h x List.mem_cons_self]
theorem cy_rot {a b : List Int} {z : Int} (ha : ∀ y ∈ a, y ≠ 0) (h : cy_rep (cy_R (a ++ b)) z) : cy_rep (cy_R (b ++ a)) z := by
  have k := cy_conj (sp_inv a) (fun y hy => ?_) h
  · rw [sp_inv_inv, List.append_assoc, cy_cancel] at k
    exact k
  · unfold sp_inv at hy
    rw [List.mem_map] at hy
    obtain ⟨x, hx, e⟩ := hy
    have := ha x (List.mem_reverse.mp hx)
    omega
/-! rows as functions -/
theorem cy_stk_app (f : Nat → Int) (a : Nat) : ∀ k : Nat, gs_stk f (a + k) = gs_stk (fun i => f (a + i)) k ++ gs_stk f a
  | 0 => rfl
  | k + 1 => by
    show f (a + k) :: gs_stk f (a + k) = f (a + k) :: (gs_stk (fun i => f (a + i)) k ++ gs_stk f a)
    rw [cy_stk_app f a k]
theorem cy_stk_inv (f : Nat → Int) : ∀ k : Nat, sp_inv (gs_stk f k) = gs_stk (fun i => -(f (k - 1 - i))) k
  | 0 => rfl
  | k + 1 => by
    have e : gs_stk (fun i => -(f (k + 1 - 1 - i))) (k + 1) = gs_stk (fun i => -(f (k + 1 - 1 - (1 + i)))) k ++ gs_stk (fun i => -(f (k + 1 - 1 - i))) 1 := by
      have h := cy_stk_app (fun i => -(f (k + 1 - 1 - i))) 1 k
      rw [Nat.add_comm 1 k] at h
      exact h
    rw [e]
    show sp_inv (f k :: gs_stk f k) = _
    rw [sp_inv_cons, cy_stk_inv f k]
    congr 1
    exact gs_stk_cg k (fun i hi => by
      show -(f (k - 1 - i)) = -(f (k + 1 - 1 - (1 + i)))
      congr 2
      omega)
theorem cy_lo_rep {f : Nat → Int} {n lo : Int} (hn : 0 ≤ n) (h : gs_lo f n lo) : ∃ p : List Int, gs_stk f n.toNat = p ++ (gs_stk (fun i => f (lo.toNat + i)) (n - 2 * lo).toNat ++ sp_inv p) ∧ cy_cl (gs_stk (fun i => f (lo.toNat + i)) (n - 2 * lo).toNat) := by
  obtain ⟨l1, l2, l3, l4⟩ := h
  refine ⟨gs_stk (fun i => f ((n - lo).toNat + i)) lo.toNat, ?_, ?_⟩
  · have e1 := cy_stk_app f (n - lo).toNat lo.toNat
    have e2 := cy_stk_app f lo.toNat (n - 2 * lo).toNat
    rw [show (n - lo).toNat + lo.toNat = n.toNat by omega] at e1
    rw [show lo.toNat + (n - 2 * lo).toNat = (n - lo).toNat by omega] at e2
    rw [e1, e2, cy_stk_inv]
    congr 2
    refine gs_stk_cg _ (fun i hi => ?_)
    have w := l3 i (by omega) (by omega)
    rw [Int.toNat_natCast] at w
    rw [w]
    show -(f (n - 1 - (i : Int)).toNat) = -(f ((n - lo).toNat + (lo.toNat - 1 - i)))
    congr 2
    omega
  · intro y m e
    by_cases q : 2 * lo + 1 < n
    · -- first and last of the closed row
      obtain ⟨k, hk⟩ : ∃ k : Nat, (n - 2 * lo).toNat = k + 2 := ⟨(n - 2 * lo).toNat - 2, by omega⟩
      rw [hk] at e
      have e0 : gs_stk (fun i => f (lo.toNat + i)) (k + 2) = f (lo.toNat + (k + 1)) :: (gs_stk (fun i => f (lo.toNat + (1 + i))) k ++ [f (lo.toNat + 0)]) := by
        show f (lo.toNat + (k + 1)) :: gs_stk (fun i => f (lo.toNat + i)) (k + 1) = _
        congr 1
        have h := cy_stk_app (fun i => f (lo.toNat + i)) 1 k
        rw [Nat.add_comm 1 k] at h
        exact h
      rw [e0] at e
      injection e with e1 e2
      have e3 := (List.append_inj' e2 rfl).2
      injection e3 with e3 _
      apply l4
      refine ⟨q, ?_⟩
      rw [show lo.toNat = lo.toNat + 0 by omega, e3, ← e1]
      congr 2
      omega
    · have hl := congrArg List.length e
      rw [gs_stk_len] at hl
      have hl : (n - 2 * lo).toNat = (m ++ [-y]).length + 1 := hl
      rw [List.length_append] at hl
      have hl : (n - 2 * lo).toNat = m.length + 1 + 1 := hl
      omega
theorem cy_size {f : Nat → Int} {n lo : Int} (hn : 0 ≤ n) (h : gs_lo f n lo) : cy_rep (gs_stk f n.toNat) (n - 2 * lo) := by
  obtain ⟨p, a, b⟩ := cy_lo_rep hn h
  refine ⟨p, _, a, b, ?_⟩
  rw [gs_stk_len]
  have := h.2.1
  omega
/-- the row s, closed, and the ring h are ONE: its closed form is the ring's row, or that back, begun somewhere -/
theorem cy_on {s : List Int} {h : Nat → Int} {m : Int} (w : st_on s h m) : ∃ p a b : List Int, (s = p ++ ((b ++ a) ++ sp_inv p)) ∧ (gs_stk h m.toNat = a ++ b ∨ sp_inv (gs_stk h m.toNat) = a ++ b) := by
  obtain ⟨f, n, w1, w2, lo, w3, w4, q, q1, q2, w5⟩ := w
  obtain ⟨p, k1, k2⟩ := cy_lo_rep w1 w3
  have l0 := w3.1
  rw [w4] at k1
  rcases w5 with w5 | w5
  · refine ⟨p, gs_stk (fun i => h (q.toNat + i)) (m - q).toNat, gs_stk h q.toNat, ?_, .inl ?_⟩
    · rw [w2, k1]
      congr 2
      have e := cy_stk_app (fun i => f (lo.toNat + i)) (m - q).toNat q.toNat
      rw [show (m - q).toNat + q.toNat = m.toNat by omega] at e
      rw [e]
      congr 1
      · refine gs_stk_cg _ (fun i hi => ?_)
        have v := w5 (m - q + i) i (by omega) (by omega) (by omega) (by omega) (by omega)
        rw [Int.toNat_natCast] at v
        rw [← v]
        show f (lo.toNat + ((m - q).toNat + i)) = f (lo + (m - q + (i : Int))).toNat
        congr 1
        omega
      · refine gs_stk_cg _ (fun i hi => ?_)
        have v := w5 i (q + i) (by omega) (by omega) (by omega) (by omega) (by omega)
        show f (lo.toNat + i) = h (q.toNat + i)
        rw [show q.toNat + i = (q + (i : Int)).toNat by omega, ← v]
        congr 1
        omega
    · have e := cy_stk_app h q.toNat (m - q).toNat
      rw [show q.toNat + (m - q).toNat = m.toNat by omega] at e
      exact e
  · refine ⟨p, sp_inv (gs_stk h (q + 1).toNat), sp_inv (gs_stk (fun i => h ((q + 1).toNat + i)) (m - q - 1).toNat), ?_, .inr ?_⟩
    · rw [w2, k1]
      congr 2
      have e := cy_stk_app (fun i => f (lo.toNat + i)) (q + 1).toNat (m - q - 1).toNat
      rw [show (q + 1).toNat + (m - q - 1).toNat = m.toNat by omega] at e
      rw [e, cy_stk_inv, cy_stk_inv]
      congr 1
      · refine gs_stk_cg _ (fun i hi => ?_)
        have v := w5 (q + 1 + i) (m - 1 - i) (by omega) (by omega) (by omega) (by omega) (by omega)
        show f (lo.toNat + ((q + 1).toNat + i)) = -(h ((q + 1).toNat + ((m - q - 1).toNat - 1 - i)))
        rw [show lo.toNat + ((q + 1).toNat + i) = (lo + (q + 1 + (i : Int))).toNat by omega, v]
        congr 2
        omega
      · refine gs_stk_cg _ (fun i hi => ?_)
        have v := w5 i (q - i) (by omega) (by omega) (by omega) (by omega) (by omega)
        show f (lo.toNat + i) = -(h ((q + 1).toNat - 1 - i))
        rw [show lo.toNat + i = (lo + (i : Int)).toNat by omega, v]
        congr 2
        omega
    · have e := cy_stk_app h (q + 1).toNat (m - q - 1).toNat
      rw [show (q + 1).toNat + (m - q - 1).toNat = m.toNat by omega] at e
      rw [e, cy_inv_app]
/-- what a twist carries to the ring is, closed, as long as the ring carried the other way round -/
theorem cy_prune {g u z m : Int} {r : List Int} {h : Nat → Int} (hg : 1 ≤ g ∧ g ≤ 3) (hu : 0 ≤ u ∧ u < 6 * g - 2) (hr : sp_red r) (hv : sp_val g r) (hw : st_on (sp_tw (sp_w g u) r) h m) (hz : cy_rep (sp_tw (sp_w g (sp_fl u)) (gs_stk h m.toNat)) z) : cy_rep r z := by
  have hf := sp_fl_ok hu
  have vt := sp_tw_val hg hu r hv
  obtain ⟨p, a, b, e1, e2⟩ := cy_on hw
  have und := sp_und hg hu r hr hv
  rw [cy_tw, e1] at und
  -- the words of the other way round
  have vd : ∀ x : Int, mt_lt g x → (sp_w g (sp_fl u) (-x)).reverse = sp_inv (sp_w g (sp_fl u) x).reverse := fun x hx => by
    rw [sp_w_inv hg hf hx, cy_inv_rev]
  have nz : ∀ x : Int, mt_lt g x → ∀ y ∈ (sp_w g (sp_fl u) x).reverse, y ≠ 0 := fun x hx y hy => ((sp_w_ok hg hf hx).1 y (List.mem_reverse.mp hy)).1
  have ml : ∀ x : Int, x ∈ p ∨ x ∈ b ∨ x ∈ a → mt_lt g x := fun x hx => by
    have k := vt x (by
      rw [e1, List.mem_append, List.mem_append, List.mem_append]
      rcases hx with hx | hx | hx
      · exact .inl hx
      · exact .inr (.inl (.inl hx))
      · exact .inr (.inl (.inr hx)))
    exact k
  rw [List.flatMap_append, List.flatMap_append, List.flatMap_append, cy_fm_inv (vd := fun x => (sp_w g (sp_fl u) x).reverse) p (fun x hx => vd x (ml x (.inl hx)))] at und
  rw [← und]
  refine cy_conj _ (fun y hy => ?_) ?_
  · obtain ⟨x, hx, hy⟩ := List.mem_flatMap.mp hy
    exact nz x (ml x (.inl hx)) y hy
  · refine cy_rot (fun y hy => ?_) ?_
    · obtain ⟨x, hx, hy⟩ := List.mem_flatMap.mp hy
      exact nz x (ml x (.inr (.inr hx))) y hy
    · rw [← List.flatMap_append]
      rw [cy_tw] at hz
      rcases e2 with e2 | e2
      · rw [← e2]
        exact hz
      · rw [← e2, cy_fm_inv (vd := fun x => (sp_w g (sp_fl u) x).reverse) _ (fun x hx => ?_), cy_R_inv]
        · exact cy_rep_inv hz
        · have hx2 : -x ∈ a ++ b := by
            rw [← e2]
            unfold sp_inv
            exact List.mem_map.mpr ⟨x, List.mem_reverse.mpr hx, rfl⟩
          rcases List.mem_append.mp hx2 with q | q
          · have k := mt_lt_neg (ml _ (.inr (.inr q)))
            rw [Int.neg_neg] at k
            exact vd x k
          · have k := mt_lt_neg (ml _ (.inr (.inl q)))
            rw [Int.neg_neg] at k
            exact vd x k
end
