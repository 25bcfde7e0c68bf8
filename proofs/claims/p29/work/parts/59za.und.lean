noncomputable section
/-! ===== a twist and its other way undo each other: no image is empty ===== -/
def sp_inv (w : List Int) : List Int := w.reverse.map (fun y => -y)
theorem sp_nn : ∀ w : List Int, w.map (fun y => -(-y)) = w
  | [] => rfl
  | x :: w => by
    show -(-x) :: w.map (fun y => -(-y)) = x :: w
    rw [Int.neg_neg, sp_nn w]
theorem sp_inv_inv (w : List Int) : sp_inv (sp_inv w) = w := by
  unfold sp_inv
  rw [← List.map_reverse, List.reverse_reverse, List.map_map]
  exact sp_nn w
theorem sp_inv_cons (x : Int) (w : List Int) : sp_inv (x :: w) = sp_inv w ++ [-x] := by
  unfold sp_inv
  rw [List.reverse_cons, List.map_append]
  rfl
theorem sp_all_inv : ∀ (w : List Int) {r : List Int}, sp_red r → sp_all (sp_all r w) (sp_inv w) = r
  | [], _, _ => rfl
  | x :: w, r, h => by
    rw [sp_inv_cons, sp_all_app]
    show sp_push (sp_all (sp_all (sp_push r x) w) (sp_inv w)) (-x) = r
    rw [sp_all_inv w (sp_push_red h)]
    exact sp_push_inv h
theorem sp_w_inv {g u x : Int} (hg : 1 ≤ g ∧ g ≤ 3) (hu : 0 ≤ u ∧ u < 6 * g - 2) (hx : x ≠ 0 ∧ -(2 * g) ≤ x ∧ x ≤ 2 * g) : sp_w g u (-x) = sp_inv (sp_w g u x) := by
  have key : ∀ z : Int, 1 ≤ z → z ≤ 2 * g → sp_w g u (-z) = sp_inv (sp_w g u z) := by
    intro z h1 h2
    have h := sp_chk_at hg hu ⟨h1, h2⟩
    unfold sp_chk at h
    simp only [Bool.and_eq_true, decide_eq_true_eq, List.all_eq_true] at h
    exact h.2
  rcases (show 1 ≤ x ∨ x ≤ -1 by omega) with q | q
  · exact key x q hx.2.2
  · have k := key (-x) (by omega) (by omega)
    rw [Int.neg_neg] at k
    rw [k, sp_inv_inv]
theorem sp_tw_push {wd : Int → List Int} {r : List Int} {x : Int} (hr : sp_red r) (hx : wd (-x) = sp_inv (wd x)) : sp_tw wd (sp_push r x) = sp_all (sp_tw wd r) (wd x) := by
  match r, hr with
  | [], _ => rfl
  | y :: t, hr =>
    show sp_tw wd (if y = -x then t else x :: y :: t) = sp_all (sp_all (sp_tw wd t) (wd y)) (wd x)
    by_cases q : y = -x
    · rw [if_pos q, q, hx]
      have k := sp_all_inv (sp_inv (wd x)) (sp_tw_red wd t)
      rw [sp_inv_inv] at k
      exact k.symm
    · rw [if_neg q]
      rfl
theorem sp_tw_all {wd : Int → List Int} : ∀ (w : List Int) {r : List Int}, sp_red r → (∀ x ∈ w, wd (-x) = sp_inv (wd x)) → sp_tw wd (sp_all r w) = sp_all (sp_tw wd r) (w.flatMap wd)
  | [], _, _, _ => rfl
  | x :: w, r, hr, hw => by
    show sp_tw wd (sp_all (sp_push r x) w) = _
    rw [sp_tw_all w (sp_push_red hr) (fun y hy => hw y (List.mem_cons_of_mem _ hy)), sp_tw_push hr (hw x List.mem_cons_self), List.flatMap_cons, sp_all_app]
def sp_fl (u : Int) : Int := if u % 2 = 0 then u + 1 else u - 1
theorem sp_fl_ok {g u : Int} (hu : 0 ≤ u ∧ u < 6 * g - 2) : 0 ≤ sp_fl u ∧ sp_fl u < 6 * g - 2 := by
  unfold sp_fl
  split <;> omega
def sp_uchk (g u x : Int) : Bool := decide (sp_all [] ((sp_w g u x).flatMap (sp_w g (sp_fl u))) = [x])
theorem sp_uchk_all : ∀ g : Fin 4, 1 ≤ g.val → ∀ u : Fin 16, u.val < 6 * g.val - 2 → ∀ x : Fin 7, 1 ≤ x.val → x.val ≤ 2 * g.val → (sp_uchk (g.val : Int) (u.val : Int) (x.val : Int) && sp_uchk (g.val : Int) (u.val : Int) (-(x.val : Int))) = true := by decide +kernel
theorem sp_uchk_at {g u x : Int} (hg : 1 ≤ g ∧ g ≤ 3) (hu : 0 ≤ u ∧ u < 6 * g - 2) (hx : x ≠ 0 ∧ -(2 * g) ≤ x ∧ x ≤ 2 * g) : sp_all [] ((sp_w g u x).flatMap (sp_w g (sp_fl u))) = [x] := by
  have key : ∀ z : Int, 1 ≤ z → z ≤ 2 * g → sp_uchk g u z = true ∧ sp_uchk g u (-z) = true := by
    intro z h1 h2
    have h := sp_uchk_all ⟨g.toNat, by omega⟩ (by show 1 ≤ g.toNat; omega) ⟨u.toNat, by omega⟩ (by show u.toNat < 6 * g.toNat - 2; omega) ⟨z.toNat, by omega⟩ (by show 1 ≤ z.toNat; omega) (by show z.toNat ≤ 2 * g.toNat; omega)
    have h : (sp_uchk ((g.toNat : Nat) : Int) ((u.toNat : Nat) : Int) ((z.toNat : Nat) : Int) && sp_uchk ((g.toNat : Nat) : Int) ((u.toNat : Nat) : Int) (-((z.toNat : Nat) : Int))) = true := h
    rw [show ((g.toNat : Nat) : Int) = g by omega, show ((u.toNat : Nat) : Int) = u by omega, show ((z.toNat : Nat) : Int) = z by omega, Bool.and_eq_true] at h
    exact h
  rcases (show 1 ≤ x ∨ x ≤ -1 by omega) with q | q
  · exact of_decide_eq_true (key x q hx.2.2).1
  · have k := (key (-x) (by omega) (by omega)).2
    rw [Int.neg_neg] at k
    exact of_decide_eq_true k
theorem sp_und {g u : Int} (hg : 1 ≤ g ∧ g ≤ 3) (hu : 0 ≤ u ∧ u < 6 * g - 2) : ∀ r : List Int, sp_red r → sp_val g r → sp_tw (sp_w g (sp_fl u)) (sp_tw (sp_w g u) r) = r
  | [], _, _ => rfl
  | x :: r, h, v => by
    have hx := v x List.mem_cons_self
    have hr := sp_red_tl h
    have vr : sp_val g r := fun y hy => v y (List.mem_cons_of_mem _ hy)
    show sp_tw _ (sp_all (sp_tw (sp_w g u) r) (sp_w g u x)) = x :: r
    rw [sp_tw_all (sp_w g u x) (sp_tw_red _ r) (fun y hy => sp_w_inv hg (sp_fl_ok hu) ((sp_w_ok hg hu hx).1 y hy)), sp_und hg hu r hr vr]
    have n := sp_all_nf ((sp_w g u x).flatMap (sp_w g (sp_fl u))) (v := []) (r := r) trivial hr
    rw [sp_uchk_at hg hu hx] at n
    have n : sp_push r x = sp_all r ((sp_w g u x).flatMap (sp_w g (sp_fl u))) := n
    rw [← n]
    match r, h with
    | [], _ => rfl
    | y :: t, h =>
      show (if y = -x then t else x :: y :: t) = x :: y :: t
      have h1 := h.1
      rw [if_neg (by omega)]
theorem sp_tw_ne {g u : Int} {r : List Int} (hg : 1 ≤ g ∧ g ≤ 3) (hu : 0 ≤ u ∧ u < 6 * g - 2) (h : sp_red r) (v : sp_val g r) (hr : r ≠ []) : sp_tw (sp_w g u) r ≠ [] := fun e => hr (by
  have w := sp_und hg hu r h v
  rw [e] at w
  exact w.symm)
theorem sp_pl_ne {g : Int} (hg : 1 ≤ g ∧ g ≤ 3) {c : Nat → Int} : ∀ (n : Nat) (r s : List Int), (∀ i : Nat, i < n → 0 ≤ c i ∧ c i < 6 * g - 2) → sp_red r → sp_val g r → r ≠ [] → sp_pl (fun u => sp_tw (sp_w g u)) c n r = some s → s ≠ [] ∧ sp_red s ∧ sp_val g s
  | 0, r, s, _, h, v, hr, e => by
    have e : some r = some s := e
    injection e with e
    rw [← e]
    exact ⟨hr, h, v⟩
  | n + 1, r, s, hc, h, v, hr, e => by
    have e : (if 400 < (sp_tw (sp_w g (c n)) r).length then none else sp_pl (fun u => sp_tw (sp_w g u)) c n (sp_tw (sp_w g (c n)) r)) = some s := e
    split at e
    · cases e
    · exact sp_pl_ne hg n _ s (fun i hi => hc i (by omega)) (sp_tw_red _ r) (sp_tw_val hg (hc n (by omega)) r v) (sp_tw_ne hg (hc n (by omega)) h v hr) e
/-- a plan that keeps letters, cleanness and that there are letters -/
def st_good (g : Int) (P : List Int → Option (List Int)) : Prop := ∀ r s : List Int, sp_red r → sp_val g r → r ≠ [] → P r = some s → s ≠ [] ∧ sp_red s ∧ sp_val g s
theorem gs_plc_good {F A : gs_F} {g : Int} {b : Nat} (hg : 1 ≤ g ∧ g ≤ 3) (hcd : ∀ i : Int, 0 ≤ i → i < F b 1 → 0 ≤ A (b + 1) i.toNat ∧ A (b + 1) i.toNat < 6 * g - 2) : st_good g (gs_plc F A g b) := fun r s h v hr e =>
  sp_pl_ne hg _ _ _ (fun i hi => by
    have w := hcd i (by omega) (by omega)
    rw [Int.toNat_natCast] at w
    exact w) h v hr e
theorem st_it_good {g : Int} {P : List Int → Option (List Int)} (hP : st_good g P) : ∀ (k : Nat) (r s : List Int), sp_red r → sp_val g r → r ≠ [] → gs_it P k r = some s → s ≠ [] ∧ sp_red s ∧ sp_val g s
  | 0, r, s, h, v, hr, e => by
    have e : some r = some s := e
    injection e with e
    rw [← e]
    exact ⟨hr, h, v⟩
  | k + 1, r, s, h, v, hr, e => by
    have e : (gs_it P k r).bind P = some s := e
    match q : gs_it P k r with
    | none =>
      rw [q] at e
      cases e
    | some t =>
      rw [q] at e
      obtain ⟨a1, a2, a3⟩ := st_it_good hP k r t h v hr q
      exact hP t s a2 a3 a1 e
/-! ===== sort ===== -/
def st_len (P : List Int → Option (List Int)) (g : Int) (k : Nat) (l : Int) : Prop := ∃ im : Nat → List Int, (∀ ii : Nat, (ii : Int) < 2 * g → gs_it P k [(ii : Int) + 1] = some (im ii)) ∧ l = gs_sum (fun i => ((im i).length : Int)) (2 * g).toNat
theorem st_len_uni {P : List Int → Option (List Int)} {g a b : Int} {k : Nat} (h1 : st_len P g k a) (h2 : st_len P g k b) : b = a := by
  obtain ⟨im, a1, a2⟩ := h1
  obtain ⟨im2, b1, b2⟩ := h2
  rw [a2, b2]
  refine gs_sum_cg _ (fun i hi => ?_)
  have w := a1 i (by omega)
  rw [b1 i (by omega)] at w
  injection w with w
  rw [w]
def st_rise (P : List Int → Option (List Int)) (g n : Int) : Prop := ∀ j : Int, 2 ≤ j → j ≤ n → ∀ a b : Int, st_len P g (j - 1).toNat a → st_len P g j.toNat b → a < b
theorem st_rise_1 {P : List Int → Option (List Int)} {g k : Int} (h : k ≤ 1) : st_rise P g k := fun j h1 h2 => by
  exfalso
  omega
theorem st_rise_step {P : List Int → Option (List Int)} {g k a b : Int} (hk : 2 ≤ k) (ha : st_len P g (k - 1).toNat a) (hb : st_len P g k.toNat b) : st_rise P g k ↔ (st_rise P g (k - 1) ∧ a < b) := by
  constructor
  · intro h
    exact ⟨fun j h1 h2 => h j h1 (by omega), h k hk (by omega) a b ha hb⟩
  · rintro ⟨h, h2⟩ j j1 j2 c d hc hd
    by_cases q : j = k
    · subst q
      have e1 := st_len_uni ha hc
      have e2 := st_len_uni hb hd
      omega
    · exact h j j1 (by omega) c d hc hd
theorem gs_sum_pos {f : Nat → Int} (h0 : 0 < f 0) (hf : ∀ i : Nat, 0 ≤ f i) : ∀ n : Nat, 0 < gs_sum f (n + 1)
  | 0 => by
    show 0 < (0 : Int) + f 0
    omega
  | n + 1 => by
    show 0 < gs_sum f (n + 1) + f (n + 1)
    have a := gs_sum_pos h0 hf n
    have b := hf (n + 1)
    omega
theorem st_len_pos {P : List Int → Option (List Int)} {g l : Int} {k : Nat} (hg : 1 ≤ g) (hP : st_good g P) (h : st_len P g k l) : 0 < l := by
  obtain ⟨im, a1, a2⟩ := h
  have w := a1 0 (by omega)
  have v : sp_val g [((0 : Nat) : Int) + 1] := fun y hy => by
    rw [List.mem_singleton] at hy
    omega
  obtain ⟨n1, n2, n3⟩ := st_it_good hP k _ _ (show sp_red [((0 : Nat) : Int) + 1] from trivial) v (by intro e; cases e) w
  rw [a2, show (2 * g).toNat = ((2 * g).toNat - 1) + 1 by omega]
  refine gs_sum_pos ?_ (fun i => by omega) _
  have : (im 0).length ≠ 0 := fun e => n1 (List.eq_nil_of_length_eq_zero e)
  omega
theorem st_flag {P : List Int → Option (List Int)} {g k ri bf now ri2 : Int} (hk : 1 ≤ k) (h9 : (ri = 1 ∧ st_rise P g (k - 1)) ∨ (ri = 0 ∧ ¬ st_rise P g (k - 1))) (h10 : (k = 1 ∧ bf < now) ∨ (2 ≤ k ∧ st_len P g (k - 1).toNat bf)) (hn : st_len P g k.toNat now)
    (h : (ri2 = 1 ∧ ri = 1 ∧ bf < now) ∨ (ri2 = 0 ∧ (ri = 0 ∨ now ≤ bf))) : (ri2 = 1 ∧ st_rise P g (k + 1 - 1)) ∨ (ri2 = 0 ∧ ¬ st_rise P g (k + 1 - 1)) := by
  rw [show k + 1 - 1 = k by omega]
  rcases h10 with ⟨e, e2⟩ | ⟨e, e2⟩
  · have r1 : st_rise P g k := st_rise_1 (by omega)
    have r0 : st_rise P g (k - 1) := st_rise_1 (by omega)
    rcases h9 with ⟨c1, c2⟩ | ⟨c1, c2⟩
    · refine .inl ⟨?_, r1⟩
      omega
    · exact absurd r0 c2
  · have s := st_rise_step e e2 hn
    rcases h with ⟨a1, a2, a3⟩ | ⟨a1, a2⟩
    · refine .inl ⟨a1, s.mpr ⟨?_, a3⟩⟩
      rcases h9 with ⟨c1, c2⟩ | ⟨c1, c2⟩
      · exact c2
      · omega
    · refine .inr ⟨a1, fun w => ?_⟩
      have w2 := s.mp w
      rcases h9 with ⟨c1, c2⟩ | ⟨c1, c2⟩
      · have w3 := w2.2
        omega
      · exact c2 w2.1
def st_kp (P : List Int → Option (List Int)) (r : List Int) (n : Int) (On : List Int → Prop) : Prop := ∃ k : Int, 1 ≤ k ∧ k ≤ n ∧ ∃ s : List Int, gs_it P k.toNat r = some s ∧ On s
theorem st_kp_no {P : List Int → Option (List Int)} {r : List Int} {n k : Int} {On : List Int → Prop} (old : ∀ j : Int, 1 ≤ j → j < k → ∀ s : List Int, gs_it P j.toNat r = some s → ¬ On s) (h : n < k ∨ gs_it P k.toNat r = none) (hk : 1 ≤ k) : ¬ st_kp P r n On := by
  rintro ⟨j, j1, j2, s, s1, s2⟩
  by_cases q : j < k
  · exact old j j1 q s s1 s2
  · rcases h with h | h
    · omega
    · have w := gs_it_none h (j - k).toNat
      rw [show k.toNat + (j - k).toNat = j.toNat by omega, s1] at w
      cases w
theorem st_kp_ext {P : List Int → Option (List Int)} {r s0 : List Int} {k : Int} {On : List Int → Prop} (old : ∀ j : Int, 1 ≤ j → j < k → ∀ s : List Int, gs_it P j.toNat r = some s → ¬ On s) (h : gs_it P k.toNat r = some s0) (hn : ¬ On s0) : ∀ j : Int, 1 ≤ j → j < k + 1 → ∀ s : List Int, gs_it P j.toNat r = some s → ¬ On s := by
  intro j j1 j2 s e
  by_cases q : j < k
  · exact old j j1 q s e
  · rw [show j = k by omega, h] at e
    injection e with e
    rw [← e]
    exact hn
theorem st_it_next {P : List Int → Option (List Int)} {r s : List Int} {t : Option (List Int)} {k : Int} (hk : 1 ≤ k) (h : gs_it P (k - 1).toNat r = some s) (e : P s = t) : gs_it P k.toNat r = t := by
  rw [show k.toNat = (k - 1).toNat + 1 by omega]
  show (gs_it P (k - 1).toNat r).bind P = t
  rw [h]
  exact e
/-- the row s, closed, and the m letters h are ONE: as the class sees it, and the reference -/
def st_on (s : List Int) (h : Nat → Int) (m : Int) : Prop := ∃ (f : Nat → Int) (n : Int), 0 ≤ n ∧ s = gs_stk f n.toNat ∧ gs_on f n h m
def st_ao (s : List Int) (h : Nat → Int) (m : Int) : Prop := ∃ (f : Nat → Int) (n : Int), gs_cls s f n ∧ gs_ao f n h m
theorem st_on_mk {f h : Nat → Int} {n m : Int} (hn : 0 ≤ n) : st_on (gs_stk f n.toNat) h m ↔ gs_on f n h m := by
  constructor
  · rintro ⟨f2, n2, a1, a2, a3⟩
    obtain ⟨e1, e2⟩ := gs_stk_inj _ _ a2
    have en : n2 = n := by omega
    subst en
    exact gs_on_cg (fun i hi => (e2 i (by omega)).symm) (fun _ _ => rfl) a3
  · intro w
    exact ⟨f, n, hn, rfl, w⟩
theorem st_ao_mk {s : List Int} {f h : Nat → Int} {n m : Int} (c : gs_cls s f n) : st_ao s h m ↔ gs_ao f n h m := by
  constructor
  · rintro ⟨f2, n2, a1, a2⟩
    obtain ⟨e1, e2⟩ := gs_cls_uni c a1
    subst e1
    exact (gs_ao_cg (fun i hi => (e2 i hi).symm) (fun _ _ => rfl)).mp a2
  · intro w
    exact ⟨f, n, c, w⟩
theorem st_on_ao {s : List Int} {h h2 : Nat → Int} {m : Int} (hm : 1 ≤ m) (hh : ∀ i : Nat, (i : Int) < m → h i = h2 i) : st_on s h m ↔ st_ao s h2 m := by
  constructor
  · rintro ⟨f, n, a1, a2, lo, b1, b2, q, q1, q2, b3⟩
    have l0 := b1.1
    have c : gs_cls s (fun i => f (lo.toNat + i)) (n - 2 * lo) := ⟨f, n, lo, a1, a2, b1, rfl, fun i h1 h2 => by
      show f (lo.toNat + i.toNat) = f (lo + i).toNat
      congr 1
      omega⟩
    have w : gs_on (fun i => f (lo.toNat + i)) (n - 2 * lo) h m := by
      refine ⟨0, gs_cls_lo c, by omega, q, q1, q2, ?_⟩
      rcases b3 with b3 | b3
      · refine .inl (fun k t h1 h2 h3 h4 h5 => ?_)
        rw [← b3 k t h1 h2 h3 h4 h5]
        show f (lo.toNat + (0 + k).toNat) = f (lo + k).toNat
        congr 1
        omega
      · refine .inr (fun k t h1 h2 h3 h4 h5 => ?_)
        rw [← b3 k t h1 h2 h3 h4 h5]
        show f (lo.toNat + (0 + k).toNat) = f (lo + k).toNat
        congr 1
        omega
    have w2 := ((gs_on_ao (gs_cls_lo c)).mp w).1
    exact ⟨_, _, c, (gs_ao_cg (fun _ _ => rfl) hh).mp w2⟩
  · rintro ⟨f, n, c, w⟩
    have w := (gs_ao_cg (u := f) (u2 := f) (n := n) (fun _ _ => rfl) hh).mpr w
    have hn : 1 ≤ n := by
      have e := w.1
      omega
    obtain ⟨lo, b1, b2, q, q1, q2, b3⟩ := (gs_on_ao (gs_cls_lo c)).mpr ⟨w, hn⟩
    have e0 := gs_lo_uni (gs_cls_lo c) b1
    subst e0
    obtain ⟨f0, n0, k0, a1, a2, a3, a4, a5⟩ := c
    have l0 := a3.1
    refine ⟨f0, n0, a1, a2, k0, a3, by omega, q, q1, q2, ?_⟩
    rcases b3 with b3 | b3
    · refine .inl (fun k t h1 h2 h3 h4 h5 => ?_)
      rw [← b3 k t h1 h2 h3 h4 h5, show (0 : Int) + k = k by omega]
      exact (a5 k h1 (by omega)).symm
    · refine .inr (fun k t h1 h2 h3 h4 h5 => ?_)
      rw [← b3 k t h1 h2 h3 h4 h5, show (0 : Int) + k = k by omega]
      exact (a5 k h1 (by omega)).symm
theorem st_kp_cg {P : List Int → Option (List Int)} {r : List Int} {n : Int} {On On2 : List Int → Prop} (h : ∀ s : List Int, On s ↔ On2 s) : st_kp P r n On ↔ st_kp P r n On2 := by
  constructor
  · rintro ⟨k, a1, a2, s, a3, a4⟩
    exact ⟨k, a1, a2, s, a3, (h s).mp a4⟩
  · rintro ⟨k, a1, a2, s, a3, a4⟩
    exact ⟨k, a1, a2, s, a3, (h s).mpr a4⟩
def st_k8 (F A : gs_F) (a : Nat) (n : Int) (r : Nat) : Prop := F (54 + 3 * r) 2 = 0 ∧ st_kp (gs_plc F A (F 0 11) a) (gs_stk (A (54 + 3 * r + 1 + 1)) (F (54 + 3 * r + 1) 1).toNat) n (fun s => st_on s (A (54 + 3 * r + 1 + 1)) (F (54 + 3 * r + 1) 1))
def st_k9 (F A : gs_F) (p n : Int) (r : Nat) : Prop := hp_S9 F A r ∧ st_kp (gs_plm F A p) (gs_stk (fun i => A 109 (60 * r + i)) (A 108 r).toNat) n (fun s => st_ao s (fun i => A 109 (60 * r + i)) (A 108 r))
def st_K8 (F A : gs_F) (a : Nat) (n : Int) : Prop := ∃ r : Nat, (r : Int) < F 0 12 ∧ st_k8 F A a n r
def st_K9 (F A : gs_F) (p n : Int) : Prop := ∃ r : Nat, (r : Int) < F 106 3 ∧ st_k9 F A p n r
theorem st_k8_fr {F A F1 A1 : gs_F} {a r : Nat} {n : Int} (h0 : F1 0 11 = F 0 11) (h : ∀ c j, 54 ≤ c → F1 c j = F c j) (k : ∀ c, 54 ≤ c → A1 c = A c) (ha : 54 ≤ a) : st_k8 F1 A1 a n r ↔ st_k8 F A a n r := by
  have e : gs_plc F1 A1 (F1 0 11) a = gs_plc F A (F 0 11) a := by
    funext w
    unfold gs_plc
    rw [h0, h a 1 ha, k (a + 1) (by omega)]
  unfold st_k8
  rw [e, h (54 + 3 * r) 2 (by omega), h (54 + 3 * r + 1) 1 (by omega), k (54 + 3 * r + 1 + 1) (by omega)]
theorem st_k9_fr {F A F1 A1 : gs_F} {p n : Int} {r : Nat} (h0 : F1 106 0 = F 106 0) (h8 : A1 108 = A 108) (h9 : A1 109 = A 109) (h10 : A1 110 = A 110) (h11 : A1 111 = A 111) : st_k9 F1 A1 p n r ↔ st_k9 F A p n r := by
  unfold st_k9
  rw [gs_plm_fr h0 h10 h11, hp_S9_fr h0 h8 h9, h8, h9]
def st_ans (P : List Int → Option (List Int)) (g n : Int) (K : Prop) (z : Int) : Prop := (gs_or P g n (-1005) ∧ z = -1005) ∨ (∃ k : Int, 1 ≤ k ∧ gs_or P g n k ∧ z = 0) ∨ (gs_or P g n (-1) ∧ ((K ∧ z = 1) ∨ (¬ K ∧ ((st_rise P g n ∧ z = 2) ∨ (¬ st_rise P g n ∧ z = 3)))))
theorem st_ans_uni {P : List Int → Option (List Int)} {g n v1 v2 : Int} {K K2 : Prop} (hK : K ↔ K2) (h1 : st_ans P g n K v1) (h2 : st_ans P g n K2 v2) : v2 = v1 := by
  rcases h1 with ⟨a1, a2⟩ | ⟨k, k1, a1, a2⟩ | ⟨a1, a2⟩ <;> rcases h2 with ⟨b1, b2⟩ | ⟨l, l1, b1, b2⟩ | ⟨b1, b2⟩ <;> have e := gs_or_uni a1 b1
  · omega
  · omega
  · omega
  · omega
  · omega
  · omega
  · omega
  · omega
  · rcases a2 with ⟨a2, a3⟩ | ⟨a2, a3⟩ <;> rcases b2 with ⟨b2, b3⟩ | ⟨b2, b3⟩
    · omega
    · exact absurd (hK.mp a2) b2
    · exact absurd (hK.mpr b2) a2
    · rcases a3 with ⟨a3, a4⟩ | ⟨a3, a4⟩ <;> rcases b3 with ⟨b3, b4⟩ | ⟨b3, b4⟩
      · omega
      · exact absurd a3 b3
      · exact absurd b3 a3
      · omega
theorem gs_or_all {P : List Int → Option (List Int)} {g n : Int} (h : gs_or P g n (-1)) : ∀ j : Int, 1 ≤ j → j ≤ n → gs_tk P g j.toNat 99 := by
  rcases h with ⟨k, k1, k2, k3, k4⟩ | ⟨h, _⟩
  · exfalso
    rcases k4 with ⟨_, e⟩ | ⟨w, _, _, e⟩ <;> omega
  · exact h
end
