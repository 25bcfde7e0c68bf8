noncomputable section
/-! ===== reading a text, byte by byte: fault, its byte, state, kind, its byte, open brackets, twists, codes, where brackets opened ===== -/
abbrev rd_S : Type := Int × Int × Int × Int × Int × Int × Int × (Nat → Int) × (Nat → Int)
def rd_flt (k b : Int) : rd_S := (k, b, 0, 0, 0, 0, 0, fun _ => 0, fun _ => 0)
def rd_flip (x : Int) : Int := gs_t (Int32.ofInt x ^^^ Int32.ofInt 1)
def gs_rpt (c : Nat → Int) (s e t : Int) : Nat → Int := fun i => if s + e ≤ (i : Int) ∧ (i : Int) < s + e * t then c (s + ((i : Int) - s) % e).toNat else c i
def rd_han (g kd kb op n : Int) (c o : Nat → Int) (v q : Int) : rd_S :=
  if v < 48 ∨ 57 < v then rd_flt 1 q else
  if v - 48 < 1 ∨ (kd = 2 ∧ g - 1 < v - 48) ∨ (kd ≠ 2 ∧ g < v - 48) then rd_flt 2 q else
  if 60 ≤ n then rd_flt 3 kb else
  (0, 0, 2, kd, kb, op, n + 1, gs_u c n.toNat (2 * (kd * g + (v - 48) - 1)), o)
def rd_tim (kd kb op n : Int) (c o : Nat → Int) (v q : Int) : rd_S :=
  if v < 48 ∨ 57 < v then rd_flt 1 q else
  if v - 48 < 1 then rd_flt 2 q else
  if 60 < o op.toNat + (n - o op.toNat) * (v - 48) then rd_flt 3 q else
  (0, 0, 0, kd, kb, op, o op.toNat + (n - o op.toNat) * (v - 48), gs_rpt c (o op.toNat) (n - o op.toNat) (v - 48), o)
def rd_itm (st kd kb op n : Int) (c o : Nat → Int) (v q : Int) : rd_S :=
  if v = 45 ∧ st = 2 ∧ 0 < n then (0, 0, 0, kd, kb, op, n, gs_u c (n - 1).toNat (rd_flip (c (n - 1).toNat)), o) else
  if 97 ≤ v ∧ v ≤ 99 then (0, 0, 1, v - 97, q, op, n, c, o) else
  if v = 40 then (if 4 ≤ op then rd_flt 4 q else (0, 0, 0, kd, kb, op + 1, n, c, gs_u o op.toNat n)) else
  if v = 41 ∧ 0 < op then (0, 0, 3, kd, kb, op - 1, n, c, o) else rd_flt 1 q
def rd_tk (g st kd kb op n : Int) (c o : Nat → Int) (v q : Int) : rd_S :=
  if st = 1 then rd_han g kd kb op n c o v q else if st = 3 then rd_tim kd kb op n c o v q else rd_itm st kd kb op n c o v q
def rd_step (g : Int) (s : rd_S) (v q : Int) : rd_S := if s.1 ≠ 0 then s else if v = 32 then s else rd_tk g s.2.2.1 s.2.2.2.1 s.2.2.2.2.1 s.2.2.2.2.2.1 s.2.2.2.2.2.2.1 s.2.2.2.2.2.2.2.1 s.2.2.2.2.2.2.2.2 v q
def rd (g : Int) (t : Nat → Int) (s0 : rd_S) : Nat → rd_S
  | 0 => s0
  | i + 1 => rd_step g (rd g t s0 i) (t i) i
/-- what holds of a state of reading without a fault -/
def rd_gd (g st kd op n : Int) (c o : Nat → Int) : Prop := (0 ≤ op ∧ op ≤ 4 ∧ 0 ≤ n ∧ n ≤ 60 ∧ (st = 0 ∨ st = 1 ∨ st = 2 ∨ st = 3) ∧ (st = 1 → 0 ≤ kd ∧ kd ≤ 2) ∧ (st = 2 → 0 < n ∧ c (n - 1).toNat % 2 = 0) ∧ (st = 3 → op ≤ 3)) ∧ (∀ j : Int, 0 ≤ j → (j < op ∨ (st = 3 ∧ j = op)) → 0 ≤ o j.toNat ∧ o j.toNat ≤ n) ∧ (∀ j : Int, 0 ≤ j → j < n → 0 ≤ c j.toNat ∧ c j.toNat < 6 * g - 2)
def rd_good (g : Int) (s : rd_S) : Prop := s.1 = 0 → rd_gd g s.2.2.1 s.2.2.2.1 s.2.2.2.2.2.1 s.2.2.2.2.2.2.1 s.2.2.2.2.2.2.2.1 s.2.2.2.2.2.2.2.2
theorem rd_good_flt {g k b : Int} (hk : k ≠ 0) : rd_good g (rd_flt k b) := fun w => absurd w hk
theorem rd_flip_e {x : Int} (h : 0 ≤ x ∧ x ≤ 15) : (x % 2 = 0 ∧ rd_flip x = x + 1) ∨ (x % 2 = 1 ∧ rd_flip x = x - 1) := by
  have e : x = 0 ∨ x = 1 ∨ x = 2 ∨ x = 3 ∨ x = 4 ∨ x = 5 ∨ x = 6 ∨ x = 7 ∨ x = 8 ∨ x = 9 ∨ x = 10 ∨ x = 11 ∨ x = 12 ∨ x = 13 ∨ x = 14 ∨ x = 15 := by omega
  rcases e with rfl | rfl | rfl | rfl | rfl | rfl | rfl | rfl | rfl | rfl | rfl | rfl | rfl | rfl | rfl | rfl <;> decide
theorem gs_mod_in {s e i t : Int} (he : 0 < e) (h : s ≤ i) : s ≤ s + (i - s) % e ∧ s + (i - s) % e < s + e := by
  have h1 := Int.emod_nonneg (i - s) (show e ≠ 0 by omega)
  have h2 := Int.emod_lt_of_pos (i - s) he
  omega
theorem gs_mul_1 {e t : Int} (he : 0 ≤ e) (ht : 1 ≤ t) : e ≤ e * t := gs_mul_ge he ht
theorem rd_tk_good {g st kd kb op n v q : Int} {c o : Nat → Int} (hg : 1 ≤ g ∧ g ≤ 3) (h : rd_gd g st kd op n c o) : rd_good g (rd_tk g st kd kb op n c o v q) := by
  obtain ⟨h1, h2, h3⟩ := h
  unfold rd_tk
  split
  · rename_i e1
    unfold rd_han
    split
    · exact rd_good_flt (by decide)
    · split
      · exact rd_good_flt (by decide)
      · split
        · exact rd_good_flt (by decide)
        · rename_i a1 a2 a3
          intro _
          show rd_gd g 2 kd op (n + 1) (gs_u c n.toNat (2 * (kd * g + (v - 48) - 1))) o
          have hk : 0 ≤ 2 * (kd * g + (v - 48) - 1) ∧ 2 * (kd * g + (v - 48) - 1) < 6 * g - 2 := by
            rcases (show kd = 0 ∨ kd = 1 ∨ kd = 2 by omega) with e | e | e <;> subst e <;> omega
          refine ⟨⟨by omega, by omega, by show (0 : Int) ≤ n + 1; omega, by show n + 1 ≤ (60 : Int); omega, by show (2 : Int) = 0 ∨ (2 : Int) = 1 ∨ (2 : Int) = 2 ∨ (2 : Int) = 3; omega, fun w => ?_, fun w => ⟨by show (0 : Int) < n + 1; omega, ?_⟩, fun w => ?_⟩, fun j j1 j2 => ?_, fun j j1 j2 => ?_⟩
          · have w : (2 : Int) = 1 := w
            omega
          · show gs_u c n.toNat (2 * (kd * g + (v - 48) - 1)) (n + 1 - 1).toNat % 2 = 0
            rw [show n + 1 - 1 = n by omega, gs_u_self]
            omega
          · have w : (2 : Int) = 3 := w
            omega
          · have j2 : j < op ∨ ((2 : Int) = 3 ∧ j = op) := j2
            have := h2 j j1 (by omega)
            show 0 ≤ o j.toNat ∧ o j.toNat ≤ n + 1
            omega
          · have j2 : j < n + 1 := j2
            show 0 ≤ gs_u c n.toNat (2 * (kd * g + (v - 48) - 1)) j.toNat ∧ gs_u c n.toNat (2 * (kd * g + (v - 48) - 1)) j.toNat < 6 * g - 2
            by_cases e : j = n
            · rw [e, gs_u_self]
              exact hk
            · rw [gs_u_ne _ _ (by omega)]
              exact h3 j j1 (by omega)
  · split
    · rename_i e1 e2
      have hs := h2 op (by omega) (by omega)
      unfold rd_tim
      split
      · exact rd_good_flt (by decide)
      · split
        · exact rd_good_flt (by decide)
        · split
          · exact rd_good_flt (by decide)
          · rename_i a1 a2 a3
            intro _
            show rd_gd g 0 kd op (o op.toNat + (n - o op.toNat) * (v - 48)) (gs_rpt c (o op.toNat) (n - o op.toNat) (v - 48)) o
            have hm := gs_mul_1 (e := n - o op.toNat) (t := v - 48) (by omega) (by omega)
            refine ⟨⟨by omega, by omega, by show (0 : Int) ≤ o op.toNat + (n - o op.toNat) * (v - 48); omega, by show o op.toNat + (n - o op.toNat) * (v - 48) ≤ (60 : Int); omega, by show (0 : Int) = 0 ∨ (0 : Int) = 1 ∨ (0 : Int) = 2 ∨ (0 : Int) = 3; omega, fun w => ?_, fun w => ?_, fun w => ?_⟩, fun j j1 j2 => ?_, fun j j1 j2 => ?_⟩
            · have w : (0 : Int) = 1 := w
              omega
            · have w : (0 : Int) = 2 := w
              omega
            · have w : (0 : Int) = 3 := w
              omega
            · have j2 : j < op ∨ ((0 : Int) = 3 ∧ j = op) := j2
              have := h2 j j1 (by omega)
              show 0 ≤ o j.toNat ∧ o j.toNat ≤ o op.toNat + (n - o op.toNat) * (v - 48)
              omega
            · have j2 : j < o op.toNat + (n - o op.toNat) * (v - 48) := j2
              show 0 ≤ gs_rpt c (o op.toNat) (n - o op.toNat) (v - 48) j.toNat ∧ gs_rpt c (o op.toNat) (n - o op.toNat) (v - 48) j.toNat < 6 * g - 2
              unfold gs_rpt
              split
              · rename_i w
                have he : 0 < n - o op.toNat := by
                  rcases (show n - o op.toNat = 0 ∨ 0 < n - o op.toNat by omega) with z | z
                  · rw [z, Int.zero_mul] at w
                    omega
                  · exact z
                have hi := gs_mod_in (s := o op.toNat) (i := (j.toNat : Int)) (t := 0) he (by omega)
                exact h3 _ (by omega) (by omega)
              · rename_i w
                exact h3 j j1 (by omega)
    · rename_i e1 e2
      unfold rd_itm
      split
      · rename_i a1
        intro _
        show rd_gd g 0 kd op n (gs_u c (n - 1).toNat (rd_flip (c (n - 1).toNat))) o
        have hl := h3 (n - 1) (by omega) (by omega)
        have hf := rd_flip_e (x := c (n - 1).toNat) (by omega)
        have hev := h1.2.2.2.2.2.2.1 a1.2.1
        refine ⟨⟨by omega, by omega, by omega, by omega, by show (0 : Int) = 0 ∨ (0 : Int) = 1 ∨ (0 : Int) = 2 ∨ (0 : Int) = 3; omega, fun w => ?_, fun w => ?_, fun w => ?_⟩, fun j j1 j2 => ?_, fun j j1 j2 => ?_⟩
        · have w : (0 : Int) = 1 := w
          omega
        · have w : (0 : Int) = 2 := w
          omega
        · have w : (0 : Int) = 3 := w
          omega
        · have j2 : j < op ∨ ((0 : Int) = 3 ∧ j = op) := j2
          exact h2 j j1 (by omega)
        · have j2 : j < n := j2
          show 0 ≤ gs_u c (n - 1).toNat (rd_flip (c (n - 1).toNat)) j.toNat ∧ gs_u c (n - 1).toNat (rd_flip (c (n - 1).toNat)) j.toNat < 6 * g - 2
          by_cases e : j = n - 1
          · rw [e, gs_u_self]
            omega
          · rw [gs_u_ne _ _ (by omega)]
            exact h3 j j1 (by omega)
      · split
        · intro _
          show rd_gd g 1 (v - 97) op n c o
          refine ⟨⟨by omega, by omega, by omega, by omega, by show (1 : Int) = 0 ∨ (1 : Int) = 1 ∨ (1 : Int) = 2 ∨ (1 : Int) = 3; omega, fun w => by show (0 : Int) ≤ v - 97 ∧ v - 97 ≤ 2; omega, fun w => ?_, fun w => ?_⟩, fun j j1 j2 => ?_, h3⟩
          · have w : (1 : Int) = 2 := w
            omega
          · have w : (1 : Int) = 3 := w
            omega
          · have j2 : j < op ∨ ((1 : Int) = 3 ∧ j = op) := j2
            exact h2 j j1 (by omega)
        · split
          · split
            · exact rd_good_flt (by decide)
            · intro _
              show rd_gd g 0 kd (op + 1) n c (gs_u o op.toNat n)
              refine ⟨⟨by show (0 : Int) ≤ op + 1; omega, by show op + 1 ≤ (4 : Int); omega, by omega, by omega, by show (0 : Int) = 0 ∨ (0 : Int) = 1 ∨ (0 : Int) = 2 ∨ (0 : Int) = 3; omega, fun w => ?_, fun w => ?_, fun w => ?_⟩, fun j j1 j2 => ?_, h3⟩
              · have w : (0 : Int) = 1 := w
                omega
              · have w : (0 : Int) = 2 := w
                omega
              · have w : (0 : Int) = 3 := w
                omega
              · have j2 : j < op + 1 ∨ ((0 : Int) = 3 ∧ j = op + 1) := j2
                show 0 ≤ gs_u o op.toNat n j.toNat ∧ gs_u o op.toNat n j.toNat ≤ n
                by_cases e : j = op
                · rw [e, gs_u_self]
                  omega
                · rw [gs_u_ne _ _ (by omega)]
                  exact h2 j j1 (by omega)
          · split
            · rename_i a4
              intro _
              show rd_gd g 3 kd (op - 1) n c o
              refine ⟨⟨by show (0 : Int) ≤ op - 1; omega, by show op - 1 ≤ (4 : Int); omega, by omega, by omega, by show (3 : Int) = 0 ∨ (3 : Int) = 1 ∨ (3 : Int) = 2 ∨ (3 : Int) = 3; omega, fun w => ?_, fun w => ?_, fun w => by show op - 1 ≤ (3 : Int); omega⟩, fun j j1 j2 => ?_, h3⟩
              · have w : (3 : Int) = 1 := w
                omega
              · have w : (3 : Int) = 2 := w
                omega
              · have j2 : j < op - 1 ∨ ((3 : Int) = 3 ∧ j = op - 1) := j2
                exact h2 j j1 (by omega)
            · exact rd_good_flt (by decide)
theorem rd_all_good {g : Int} {t : Nat → Int} {s0 : rd_S} (hg : 1 ≤ g ∧ g ≤ 3) (h0 : rd_good g s0) : ∀ i : Nat, rd_good g (rd g t s0 i)
  | 0 => h0
  | i + 1 => by
    have ih := rd_all_good hg h0 (t := t) i
    show rd_good g (rd_step g (rd g t s0 i) (t i) i)
    unfold rd_step
    split
    · exact ih
    · rename_i h
      split
      · exact ih
      · exact rd_tk_good hg (ih (Classical.not_not.mp h))
/-- a fault stays -/
theorem rd_stay {g : Int} {t : Nat → Int} {s0 : rd_S} {i : Nat} (h : (rd g t s0 i).1 ≠ 0) : ∀ k : Nat, rd g t s0 (i + k) = rd g t s0 i
  | 0 => rfl
  | k + 1 => by
    have ih := rd_stay h k
    show rd_step g (rd g t s0 (i + k)) (t (i + k)) (i + k : Nat) = _
    rw [ih]
    unfold rd_step
    rw [if_pos h]
theorem rd_blank {g : Int} {t : Nat → Int} {s0 : rd_S} {i : Nat} : ∀ k : Nat, (∀ j : Nat, j < k → t (i + j) = 32) → rd g t s0 (i + k) = rd g t s0 i
  | 0, _ => rfl
  | k + 1, h => by
    have ih := rd_blank (g := g) (s0 := s0) k (fun j hj => h j (by omega))
    show rd_step g (rd g t s0 (i + k)) (t (i + k)) (i + k : Nat) = _
    rw [ih, h k (by omega)]
    unfold rd_step
    split
    · rfl
    · rfl
/-- what reading comes to: the fault's number (0) and its byte (-1) -/
def rd_fin (s : rd_S) (n : Int) : Int × Int := if s.1 ≠ 0 then (s.1, s.2.1) else if 0 < s.2.2.2.2.2.1 ∨ s.2.2.1 = 1 ∨ s.2.2.1 = 3 then (1, n) else (0, -1)
/-- alike but for what lies beyond the sizes -/
def rd_agr (s w : rd_S) : Prop := (s.1 ≠ 0 ∧ s.1 = w.1 ∧ s.2.1 = w.2.1) ∨ (s.1 = 0 ∧ w.1 = 0 ∧ s.2.2.1 = w.2.2.1 ∧ s.2.2.2.2.2.1 = w.2.2.2.2.2.1 ∧ s.2.2.2.2.2.2.1 = w.2.2.2.2.2.2.1 ∧ (s.2.2.1 = 1 → s.2.2.2.1 = w.2.2.2.1 ∧ s.2.2.2.2.1 = w.2.2.2.2.1) ∧
  (∀ j : Int, 0 ≤ j → j < s.2.2.2.2.2.2.1 → s.2.2.2.2.2.2.2.1 j.toNat = w.2.2.2.2.2.2.2.1 j.toNat) ∧ (∀ j : Int, 0 ≤ j → (j < s.2.2.2.2.2.1 ∨ (s.2.2.1 = 3 ∧ j = s.2.2.2.2.2.1)) → s.2.2.2.2.2.2.2.2 j.toNat = w.2.2.2.2.2.2.2.2 j.toNat))
theorem rd_agr_flt (k b : Int) (hk : k ≠ 0) : rd_agr (rd_flt k b) (rd_flt k b) := .inl ⟨hk, rfl, rfl⟩
theorem rd_han_agr {g kd kb op n v q : Int} {c o c2 o2 : Nat → Int} (hc : ∀ j : Int, 0 ≤ j → j < n → c j.toNat = c2 j.toNat) (ho : ∀ j : Int, 0 ≤ j → j < op → o j.toNat = o2 j.toNat) : rd_agr (rd_han g kd kb op n c o v q) (rd_han g kd kb op n c2 o2 v q) := by
  unfold rd_han
  by_cases a1 : v < 48 ∨ 57 < v
  · rw [if_pos a1, if_pos a1]
    exact rd_agr_flt _ _ (by decide)
  · rw [if_neg a1, if_neg a1]
    by_cases a2 : v - 48 < 1 ∨ (kd = 2 ∧ g - 1 < v - 48) ∨ (kd ≠ 2 ∧ g < v - 48)
    · rw [if_pos a2, if_pos a2]
      exact rd_agr_flt _ _ (by decide)
    · rw [if_neg a2, if_neg a2]
      by_cases a3 : 60 ≤ n
      · rw [if_pos a3, if_pos a3]
        exact rd_agr_flt _ _ (by decide)
      · rw [if_neg a3, if_neg a3]
        refine .inr ⟨rfl, rfl, rfl, rfl, rfl, fun _ => ⟨rfl, rfl⟩, fun j j1 j2 => ?_, fun j j1 j2 => ?_⟩
        · have j2 : j < n + 1 := j2
          show gs_u c n.toNat _ j.toNat = gs_u c2 n.toNat _ j.toNat
          by_cases e : j = n
          · rw [e, gs_u_self, gs_u_self]
          · rw [gs_u_ne _ _ (by omega), gs_u_ne _ _ (by omega)]
            exact hc j j1 (by omega)
        · have j2 : j < op ∨ ((2 : Int) = 3 ∧ j = op) := j2
          exact ho j j1 (by omega)
theorem rd_tim_agr {st kd kb kd2 kb2 op n v q : Int} {c o c2 o2 : Nat → Int} (h1 : 0 ≤ op) (e2 : st = 3) (h2 : ∀ j : Int, 0 ≤ j → (j < op ∨ (st = 3 ∧ j = op)) → 0 ≤ o j.toNat ∧ o j.toNat ≤ n) (hc : ∀ j : Int, 0 ≤ j → j < n → c j.toNat = c2 j.toNat) (ho : ∀ j : Int, 0 ≤ j → (j < op ∨ (st = 3 ∧ j = op)) → o j.toNat = o2 j.toNat) : rd_agr (rd_tim kd kb op n c o v q) (rd_tim kd2 kb2 op n c2 o2 v q) := by
  have eo := ho op (by omega) (by omega)
  have hs := h2 op (by omega) (by omega)
  unfold rd_tim
  rw [← eo]
  by_cases a1 : v < 48 ∨ 57 < v
  · rw [if_pos a1, if_pos a1]
    exact rd_agr_flt _ _ (by decide)
  · rw [if_neg a1, if_neg a1]
    by_cases a2 : v - 48 < 1
    · rw [if_pos a2, if_pos a2]
      exact rd_agr_flt _ _ (by decide)
    · rw [if_neg a2, if_neg a2]
      by_cases a3 : 60 < o op.toNat + (n - o op.toNat) * (v - 48)
      · rw [if_pos a3, if_pos a3]
        exact rd_agr_flt _ _ (by decide)
      · rw [if_neg a3, if_neg a3]
        refine .inr ⟨rfl, rfl, rfl, rfl, rfl, fun w => ?_, fun j j1 j2 => ?_, fun j j1 j2 => ?_⟩
        · have w : (0 : Int) = 1 := w
          omega
        · have j2 : j < o op.toNat + (n - o op.toNat) * (v - 48) := j2
          show gs_rpt c (o op.toNat) (n - o op.toNat) (v - 48) j.toNat = gs_rpt c2 (o op.toNat) (n - o op.toNat) (v - 48) j.toNat
          unfold gs_rpt
          split
          · rename_i w
            have he : 0 < n - o op.toNat := by
              rcases (show n - o op.toNat = 0 ∨ 0 < n - o op.toNat by omega) with z | z
              · rw [z, Int.zero_mul] at w
                omega
              · exact z
            have hi := gs_mod_in (s := o op.toNat) (i := (j.toNat : Int)) (t := 0) he (by omega)
            exact hc _ (by omega) (by omega)
          · rename_i w
            exact hc j j1 (by omega)
        · have j2 : j < op ∨ ((0 : Int) = 3 ∧ j = op) := j2
          exact ho j j1 (by omega)
theorem rd_itm_agr {st kd kb kd2 kb2 op n v q : Int} {c o c2 o2 : Nat → Int} (h1 : 0 ≤ op) (hc : ∀ j : Int, 0 ≤ j → j < n → c j.toNat = c2 j.toNat) (ho : ∀ j : Int, 0 ≤ j → j < op → o j.toNat = o2 j.toNat) : rd_agr (rd_itm st kd kb op n c o v q) (rd_itm st kd2 kb2 op n c2 o2 v q) := by
  unfold rd_itm
  by_cases a1 : v = 45 ∧ st = 2 ∧ 0 < n
  · have hfl : rd_flip (c (n - 1).toNat) = rd_flip (c2 (n - 1).toNat) := by rw [hc (n - 1) (by omega) (by omega)]
    rw [if_pos a1, if_pos a1, hfl]
    generalize rd_flip (c2 (n - 1).toNat) = y
    refine .inr ⟨rfl, rfl, rfl, rfl, rfl, fun w => ?_, fun j j1 j2 => ?_, fun j j1 j2 => ?_⟩
    · have w : (0 : Int) = 1 := w
      omega
    · have j2 : j < n := j2
      show gs_u c (n - 1).toNat y j.toNat = gs_u c2 (n - 1).toNat y j.toNat
      by_cases e : j = n - 1
      · rw [e, gs_u_self, gs_u_self]
      · rw [gs_u_ne _ _ (by omega), gs_u_ne _ _ (by omega)]
        exact hc j j1 (by omega)
    · have j2 : j < op ∨ ((0 : Int) = 3 ∧ j = op) := j2
      exact ho j j1 (by omega)
  · rw [if_neg a1, if_neg a1]
    by_cases a2 : 97 ≤ v ∧ v ≤ 99
    · rw [if_pos a2, if_pos a2]
      refine .inr ⟨rfl, rfl, rfl, rfl, rfl, fun _ => ⟨rfl, rfl⟩, hc, fun j j1 j2 => ?_⟩
      have j2 : j < op ∨ ((1 : Int) = 3 ∧ j = op) := j2
      exact ho j j1 (by omega)
    · rw [if_neg a2, if_neg a2]
      by_cases a3 : v = 40
      · rw [if_pos a3, if_pos a3]
        by_cases a4 : 4 ≤ op
        · rw [if_pos a4, if_pos a4]
          exact rd_agr_flt _ _ (by decide)
        · rw [if_neg a4, if_neg a4]
          refine .inr ⟨rfl, rfl, rfl, rfl, rfl, fun w => ?_, hc, fun j j1 j2 => ?_⟩
          · have w : (0 : Int) = 1 := w
            omega
          · have j2 : j < op + 1 ∨ ((0 : Int) = 3 ∧ j = op + 1) := j2
            show gs_u o op.toNat n j.toNat = gs_u o2 op.toNat n j.toNat
            by_cases e : j = op
            · rw [e, gs_u_self, gs_u_self]
            · rw [gs_u_ne _ _ (by omega), gs_u_ne _ _ (by omega)]
              exact ho j j1 (by omega)
      · rw [if_neg a3, if_neg a3]
        by_cases a4 : v = 41 ∧ 0 < op
        · rw [if_pos a4, if_pos a4]
          refine .inr ⟨rfl, rfl, rfl, rfl, rfl, fun w => ?_, hc, fun j j1 j2 => ?_⟩
          · have w : (3 : Int) = 1 := w
            omega
          · have j2 : j < op - 1 ∨ ((3 : Int) = 3 ∧ j = op - 1) := j2
            exact ho j j1 (by omega)
        · rw [if_neg a4, if_neg a4]
          exact rd_agr_flt _ _ (by decide)
theorem rd_tk_agr {g st kd kb kd2 kb2 op n v q : Int} {c o c2 o2 : Nat → Int} (h : rd_gd g st kd op n c o) (hk : st = 1 → kd = kd2 ∧ kb = kb2) (hc : ∀ j : Int, 0 ≤ j → j < n → c j.toNat = c2 j.toNat) (ho : ∀ j : Int, 0 ≤ j → (j < op ∨ (st = 3 ∧ j = op)) → o j.toNat = o2 j.toNat) :
    rd_agr (rd_tk g st kd kb op n c o v q) (rd_tk g st kd2 kb2 op n c2 o2 v q) := by
  obtain ⟨h1, h2, h3⟩ := h
  unfold rd_tk
  by_cases e1 : st = 1
  · rw [if_pos e1, if_pos e1]
    obtain ⟨k1, k2⟩ := hk e1
    subst k1 k2
    exact rd_han_agr hc (fun j j1 j2 => ho j j1 (.inl j2))
  · rw [if_neg e1, if_neg e1]
    by_cases e2 : st = 3
    · rw [if_pos e2, if_pos e2]
      exact rd_tim_agr h1.1 e2 h2 hc ho
    · rw [if_neg e2, if_neg e2]
      exact rd_itm_agr h1.1 hc (fun j j1 j2 => ho j j1 (.inl j2))
theorem rd_agr_all {g : Int} {t t2 : Nat → Int} {s0 w0 : rd_S} (hg : 1 ≤ g ∧ g ≤ 3) (h0 : rd_good g s0) (a0 : rd_agr s0 w0) : ∀ i : Nat, (∀ j : Nat, j < i → t j = t2 j) → rd_agr (rd g t s0 i) (rd g t2 w0 i)
  | 0, _ => a0
  | i + 1, ht => by
    have ih := rd_agr_all hg h0 a0 i (fun j hj => ht j (by omega))
    have hgd := rd_all_good hg h0 (t := t) i
    show rd_agr (rd_step g (rd g t s0 i) (t i) i) (rd_step g (rd g t2 w0 i) (t2 i) i)
    rw [← ht i (by omega)]
    unfold rd_step
    rcases ih with ⟨b1, b2, b3⟩ | ⟨b1, b2, b3, b4, b5, b6, b7, b8⟩
    · rw [if_pos b1, if_pos (by rw [← b2]; exact b1)]
      exact .inl ⟨b1, b2, b3⟩
    · rw [if_neg (show ¬ (rd g t s0 i).1 ≠ 0 from fun w => w b1), if_neg (show ¬ (rd g t2 w0 i).1 ≠ 0 from fun w => w b2)]
      by_cases e : t i = 32
      · rw [if_pos e, if_pos e]
        exact .inr ⟨b1, b2, b3, b4, b5, b6, b7, b8⟩
      · rw [if_neg e, if_neg e, ← b3, ← b4, ← b5]
        exact rd_tk_agr (hgd b1) b6 b7 b8
theorem rd_fin_agr {s w : rd_S} {n : Int} (h : rd_agr s w) : rd_fin s n = rd_fin w n := by
  unfold rd_fin
  rcases h with ⟨b1, b2, b3⟩ | ⟨b1, b2, b3, b4, b5, b6, b7, b8⟩
  · rw [if_pos b1, if_pos (by rw [← b2]; exact b1), b2, b3]
  · rw [if_neg (show ¬ s.1 ≠ 0 from fun w => w b1), if_neg (show ¬ w.1 ≠ 0 from fun w => w b2), b3, b4]
end
