noncomputable section
/-! ===== the reference's reader ===== -/
theorem gs_u_u (c : Nat → Int) (n : Nat) (x y : Int) : gs_u (gs_u c n x) n y = gs_u c n y := by
  funext i
  by_cases h : i = n
  · rw [h, gs_u_self, gs_u_self]
  · rw [gs_u_ne _ _ h, gs_u_ne _ _ h, gs_u_ne _ _ h]
section
variable {g : Int} {t : Nat → Int} {s0 : rd_S}
theorem rd_mv {i j : Int} (hi : 0 ≤ i) (hij : i ≤ j) (hb : ∀ x : Int, i ≤ x → x < j → t x.toNat = 32) : rd g t s0 j.toNat = rd g t s0 i.toNat := by
  have e : j.toNat = i.toNat + (j - i).toNat := by omega
  rw [e]
  exact rd_blank _ (fun k hk => by
    have := hb (i + k) (by omega) (by omega)
    rw [show (i + (k : Int)).toNat = i.toNat + k by omega] at this
    exact this)
theorem rd_t1 {i st kd kb op n k : Int} {c o : Nat → Int} (hi : 0 ≤ i) (e : rd g t s0 i.toNat = (0, 0, st, kd, kb, op, n, c, o)) (hst : st = 0 ∨ st = 2) (hv : t i.toNat = 97 + k) (hk : 0 ≤ k ∧ k ≤ 2) : rd g t s0 (i + 1).toNat = (0, 0, 1, k, i, op, n, c, o) := by
  rw [rd_next hi e (by omega)]
  unfold rd_tk
  rw [if_neg (by omega), if_neg (by omega)]
  unfold rd_itm
  rw [if_neg (by omega), if_pos (by omega), hv, show 97 + k - 97 = k by omega]
theorem rd_end {j N st kd kb op n : Int} {c o : Nat → Int} (e : rd g t s0 j.toNat = (0, 0, st, kd, kb, op, n, c, o)) (hst : 0 < op ∨ st = 1 ∨ st = 3) (hj : j = N) : rd_fin (rd g t s0 N.toNat) N = (1, N) := by
  subst hj
  rw [e]
  unfold rd_fin
  rw [if_neg (fun w => w rfl), if_pos (show 0 < op ∨ st = 1 ∨ st = 3 from hst)]
theorem rd_end0 {j N st kd kb op n : Int} {c o : Nat → Int} (e : rd g t s0 j.toNat = (0, 0, st, kd, kb, op, n, c, o)) (hst : ¬ (0 < op ∨ st = 1 ∨ st = 3)) (hj : j = N) : rd_fin (rd g t s0 N.toNat) N = (0, -1) := by
  subst hj
  rw [e]
  unfold rd_fin
  rw [if_neg (fun w => w rfl), if_neg (show ¬ (0 < op ∨ st = 1 ∨ st = 3) from hst)]
theorem rd_ff {j N st kd kb op n k b : Int} {c o : Nat → Int} (hj : 0 ≤ j) (hN : j < N) (e : rd g t s0 j.toNat = (0, 0, st, kd, kb, op, n, c, o)) (hv : t j.toNat ≠ 32) (hf : rd_tk g st kd kb op n c o (t j.toNat) j = rd_flt k b) (hk : k ≠ 0) : rd_fin (rd g t s0 N.toNat) N = (k, b) := by
  have e2 := rd_next hj e hv
  rw [hf] at e2
  have e3 := rd_fin_flt (n := N) (show (j + 1).toNat ≤ N.toNat by omega) (show (rd g t s0 (j + 1).toNat).1 ≠ 0 by rw [e2]; exact hk)
  rw [e3, e2]
  rfl
/-- a figure is taken: from byte h of N on, between lo and hi; the fault, its byte and the place behind it -/
def gs_tf (N h : Int) (t : Nat → Int) (lo hi z x19 x20 x18 y20 : Int) : Prop := ∃ j : Int, h ≤ j ∧ j ≤ N ∧ (∀ i : Int, h ≤ i → i < j → t i.toNat = 32) ∧ ((j < N ∧ 48 ≤ t j.toNat ∧ t j.toNat ≤ 57 ∧ lo ≤ t j.toNat - 48 ∧ t j.toNat - 48 ≤ hi ∧ z = t j.toNat - 48 ∧ x19 = 0 ∧ x18 = j + 1 ∧ x20 = y20) ∨ (x20 = j ∧ x19 = 1 ∧ (j = N ∨ (j < N ∧ t j.toNat ≠ 32 ∧ (t j.toNat < 48 ∨ 57 < t j.toNat)))) ∨ (x20 = j ∧ x19 = 2 ∧ j < N ∧ 48 ≤ t j.toNat ∧ t j.toNat ≤ 57 ∧ (t j.toNat - 48 < lo ∨ hi < t j.toNat - 48)))
theorem rd_tw_bad {N h kd kb op n hi z x19 x20 x18 y20 : Int} {c o : Nat → Int} (h0 : 0 ≤ h) (e : rd g t s0 h.toNat = (0, 0, 1, kd, kb, op, n, c, o)) (tf : gs_tf N h t 1 hi z x19 x20 x18 y20) (hx : x19 ≠ 0) (hhi : (kd = 2 ∧ hi = g - 1) ∨ (kd ≠ 2 ∧ hi = g)) : rd_fin (rd g t s0 N.toNat) N = (x19, x20) := by
  obtain ⟨j, j1, j2, j3, j4⟩ := tf
  have e2 := (rd_mv (g := g) (s0 := s0) h0 j1 j3).trans e
  rcases j4 with q | ⟨q1, q2, q3⟩ | ⟨q1, q2, q3, q4, q5, q6⟩
  · omega
  · subst q1 q2
    rcases q3 with q3 | q3
    · subst q3
      exact rd_end e2 (.inr (.inl rfl)) rfl
    · refine rd_ff (by omega) q3.1 e2 q3.2.1 ?_ (by decide)
      unfold rd_tk
      rw [if_pos rfl]
      unfold rd_han
      rw [if_pos (by omega)]
  · subst q1 q2
    refine rd_ff (by omega) q3 e2 (by omega) ?_ (by decide)
    unfold rd_tk
    rw [if_pos rfl]
    unfold rd_han
    rw [if_neg (by omega), if_pos (by omega)]
theorem rd_tw_good {N i st kd kb op n k hi z x20 x18 y20 : Int} {c o : Nat → Int} (h0 : 0 ≤ i) (e : rd g t s0 i.toNat = (0, 0, st, kd, kb, op, n, c, o)) (hst : st = 0 ∨ st = 2) (hv : t i.toNat = 97 + k) (hk : 0 ≤ k ∧ k ≤ 2) (tf : gs_tf N (i + 1) t 1 hi z 0 x20 x18 y20) (hhi : (k = 2 ∧ hi = g - 1) ∨ (k ≠ 2 ∧ hi = g)) :
    (60 ≤ n → rd_fin (rd g t s0 N.toNat) N = (3, i)) ∧ (n < 60 → rd g t s0 x18.toNat = (0, 0, 2, k, i, op, n + 1, gs_u c n.toNat (2 * (k * g + z - 1)), o)) ∧ i + 1 < x18 ∧ x18 ≤ N ∧ 1 ≤ z ∧ z ≤ hi ∧ x20 = y20 := by
  obtain ⟨j, j1, j2, j3, j4⟩ := tf
  have e2 := (rd_mv (g := g) (s0 := s0) (by omega) j1 j3).trans (rd_t1 h0 e hst hv hk)
  rcases j4 with ⟨q1, q2, q3, q4, q5, q6, q7, q8, q9⟩ | ⟨q1, q2, q3⟩ | ⟨q1, q2, q3, q4, q5, q6⟩
  · refine ⟨fun hn => ?_, fun hn => ?_, by omega, by omega, by omega, by omega, q9⟩
    · refine rd_ff (by omega) q1 e2 (by omega) ?_ (by decide)
      unfold rd_tk
      rw [if_pos rfl]
      unfold rd_han
      rw [if_neg (by omega), if_neg (by omega), if_pos hn]
    · rw [q8, rd_next (by omega) e2 (by omega)]
      unfold rd_tk
      rw [if_pos rfl]
      unfold rd_han
      rw [if_neg (by omega), if_neg (by omega), if_neg (by omega), ← q6]
  · omega
  · omega
theorem rd_dash {x kd kb op n : Int} {c o : Nat → Int} (h0 : 0 ≤ x) (e : rd g t s0 x.toNat = (0, 0, 2, kd, kb, op, n, c, o)) (hv : t x.toNat = 45) (hn : 0 < n) : rd g t s0 (x + 1).toNat = (0, 0, 0, kd, kb, op, n, gs_u c (n - 1).toNat (rd_flip (c (n - 1).toNat)), o) := by
  rw [rd_next h0 e (by omega)]
  unfold rd_tk
  rw [if_neg (by decide), if_neg (by decide)]
  unfold rd_itm
  rw [if_pos ⟨hv, rfl, hn⟩]
theorem rd_open {x st kd kb op n : Int} {c o : Nat → Int} (h0 : 0 ≤ x) (e : rd g t s0 x.toNat = (0, 0, st, kd, kb, op, n, c, o)) (hst : st = 0 ∨ st = 2) (hv : t x.toNat = 40) (ho : op < 4) : rd g t s0 (x + 1).toNat = (0, 0, 0, kd, kb, op + 1, n, c, gs_u o op.toNat n) := by
  rw [rd_next h0 e (by omega)]
  unfold rd_tk
  rw [if_neg (by omega), if_neg (by omega)]
  unfold rd_itm
  rw [if_neg (by omega), if_neg (by omega), if_pos hv, if_neg (by omega)]
theorem rd_open_bad {x N st kd kb op n : Int} {c o : Nat → Int} (h0 : 0 ≤ x) (hN : x < N) (e : rd g t s0 x.toNat = (0, 0, st, kd, kb, op, n, c, o)) (hst : st = 0 ∨ st = 2) (hv : t x.toNat = 40) (ho : 4 ≤ op) : rd_fin (rd g t s0 N.toNat) N = (4, x) := by
  refine rd_ff h0 hN e (by omega) ?_ (by decide)
  unfold rd_tk
  rw [if_neg (by omega), if_neg (by omega)]
  unfold rd_itm
  rw [if_neg (by omega), if_neg (by omega), if_pos hv, if_pos ho]
theorem rd_else_bad {x N st kd kb op n : Int} {c o : Nat → Int} (h0 : 0 ≤ x) (hN : x < N) (e : rd g t s0 x.toNat = (0, 0, st, kd, kb, op, n, c, o)) (hst : st = 0 ∨ (st = 2 ∧ t x.toNat ≠ 45)) (h32 : t x.toNat ≠ 32) (h1 : t x.toNat < 97 ∨ 99 < t x.toNat) (h2 : t x.toNat ≠ 40) (h3 : t x.toNat ≠ 41 ∨ op ≤ 0) : rd_fin (rd g t s0 N.toNat) N = (1, x) := by
  refine rd_ff h0 hN e h32 ?_ (by decide)
  unfold rd_tk
  rw [if_neg (by omega), if_neg (by omega)]
  unfold rd_itm
  rw [if_neg (by omega), if_neg (by omega), if_neg h2, if_neg (by omega)]
theorem rd_close {x st kd kb op n : Int} {c o : Nat → Int} (h0 : 0 ≤ x) (e : rd g t s0 x.toNat = (0, 0, st, kd, kb, op, n, c, o)) (hst : st = 0 ∨ st = 2) (hv : t x.toNat = 41) (ho : 1 ≤ op) : rd g t s0 (x + 1).toNat = (0, 0, 3, kd, kb, op - 1, n, c, o) := by
  rw [rd_next h0 e (by omega)]
  unfold rd_tk
  rw [if_neg (by omega), if_neg (by omega)]
  unfold rd_itm
  rw [if_neg (by omega), if_neg (by omega), if_neg (by omega), if_pos (by omega)]
theorem rd_tm_bad {N h kd kb op n z x19 x20 x18 y20 : Int} {c o : Nat → Int} (h0 : 0 ≤ h) (e : rd g t s0 h.toNat = (0, 0, 3, kd, kb, op, n, c, o)) (tf : gs_tf N h t 1 9 z x19 x20 x18 y20) (hx : x19 ≠ 0) : rd_fin (rd g t s0 N.toNat) N = (x19, x20) := by
  obtain ⟨j, j1, j2, j3, j4⟩ := tf
  have e2 := (rd_mv (g := g) (s0 := s0) h0 j1 j3).trans e
  rcases j4 with q | ⟨q1, q2, q3⟩ | ⟨q1, q2, q3, q4, q5, q6⟩
  · omega
  · subst q1 q2
    rcases q3 with q3 | q3
    · subst q3
      exact rd_end e2 (.inr (.inr rfl)) rfl
    · refine rd_ff (by omega) q3.1 e2 q3.2.1 ?_ (by decide)
      unfold rd_tk
      rw [if_neg (by decide), if_pos rfl]
      unfold rd_tim
      rw [if_pos (by omega)]
  · subst q1 q2
    refine rd_ff (by omega) q3 e2 (by omega) ?_ (by decide)
    unfold rd_tk
    rw [if_neg (by decide), if_pos rfl]
    unfold rd_tim
    rw [if_neg (by omega), if_pos (by omega)]
/-- the figure of a bracket, and what it does; wh: the place where it was looked for -/
theorem rd_tm_good {N h wh kd kb op n z x20 x18 y20 : Int} {c o : Nat → Int} (h0 : 0 ≤ h) (e : rd g t s0 h.toNat = (0, 0, 3, kd, kb, op, n, c, o)) (hw : h ≤ wh) (hb : ∀ i : Int, h ≤ i → i < wh → t i.toNat = 32) (hwh : (wh < N ∧ t wh.toNat ≠ 32) ∨ N ≤ wh) (tf : gs_tf N wh t 1 9 z 0 x20 x18 y20) :
    (60 < o op.toNat + (n - o op.toNat) * z → rd_fin (rd g t s0 N.toNat) N = (3, wh)) ∧ (o op.toNat + (n - o op.toNat) * z ≤ 60 → rd g t s0 x18.toNat = (0, 0, 0, kd, kb, op, o op.toNat + (n - o op.toNat) * z, gs_rpt c (o op.toNat) (n - o op.toNat) z, o)) ∧ h < x18 ∧ x18 ≤ N ∧ 1 ≤ z ∧ z ≤ 9 ∧ x20 = y20 := by
  obtain ⟨j, j1, j2, j3, j4⟩ := tf
  have ej : j = wh := by
    rcases hwh with w | w
    · rcases (show j = wh ∨ wh < j by omega) with q | q
      · exact q
      · exact absurd (j3 wh (by omega) q) w.2
    · omega
  subst ej
  have e2 := (rd_mv (g := g) (s0 := s0) h0 hw hb).trans e
  rcases j4 with ⟨q1, q2, q3, q4, q5, q6, q7, q8, q9⟩ | ⟨q1, q2, q3⟩ | ⟨q1, q2, q3, q4, q5, q6⟩
  · refine ⟨fun hn => ?_, fun hn => ?_, by omega, by omega, by omega, by omega, q9⟩
    · refine rd_ff (by omega) q1 e2 (by omega) ?_ (by decide)
      unfold rd_tk
      rw [if_neg (by decide), if_pos rfl]
      unfold rd_tim
      rw [← q6, if_neg (by omega), if_neg (by omega), if_pos hn]
    · rw [q8, rd_next (by omega) e2 (by omega)]
      unfold rd_tk
      rw [if_neg (by decide), if_pos rfl]
      unfold rd_tim
      rw [← q6, if_neg (by omega), if_neg (by omega), if_neg (by omega)]
  · omega
  · omega
end
/-- where the reference's reading stands -/
def rd_md (g : Int) (t : Nat → Int) (s0 : rd_S) (F A : gs_F) : Prop :=
  (F 106 19 = 0 ∧ F 106 20 = -1 ∧ F 106 18 ≤ F 106 17 ∧ ∃ st kd kb : Int, rd g t s0 (F 106 18).toNat = (0, 0, st, kd, kb, F 106 22, F 106 24, A 118, A 117) ∧ (st = 0 ∨ (st = 2 ∧ (F 106 17 ≤ F 106 18 ∨ (t (F 106 18).toNat ≠ 45 ∧ t (F 106 18).toNat ≠ 32))))) ∨ (F 106 19 ≠ 0 ∧ rd_fin (rd g t s0 (F 106 17).toNat) (F 106 17) = (F 106 19, F 106 20))
theorem rd_md_ok {g : Int} {t : Nat → Int} {s0 : rd_S} {F A : gs_F} (h : rd_md g t s0 F A) (h19 : F 106 19 = 0) : F 106 20 = -1 ∧ F 106 18 ≤ F 106 17 ∧ ∃ st kd kb : Int, rd g t s0 (F 106 18).toNat = (0, 0, st, kd, kb, F 106 22, F 106 24, A 118, A 117) ∧ (st = 0 ∨ (st = 2 ∧ (F 106 17 ≤ F 106 18 ∨ (t (F 106 18).toNat ≠ 45 ∧ t (F 106 18).toNat ≠ 32)))) := by
  rcases h with h | h
  · exact h.2
  · exact absurd h19 h.1
theorem rd_md_bad {g : Int} {t : Nat → Int} {s0 : rd_S} {F A : gs_F} (h : rd_md g t s0 F A) (h19 : F 106 19 ≠ 0) : rd_fin (rd g t s0 (F 106 17).toNat) (F 106 17) = (F 106 19, F 106 20) := by
  rcases h with h | h
  · exact absurd h.1 h19
  · exact h.2
theorem rd_md_look {g : Int} {t : Nat → Int} {s0 : rd_S} {F A F2 A2 : gs_F} (h : rd_md g t s0 F A) (h18 : 0 ≤ F 106 18) (e17 : F2 106 17 = F 106 17) (e19 : F2 106 19 = F 106 19) (e20 : F2 106 20 = F 106 20) (e22 : F2 106 22 = F 106 22) (e24 : F2 106 24 = F 106 24) (eA8 : A2 118 = A 118) (eA7 : A2 117 = A 117)
    (l1 : F 106 18 ≤ F2 106 18) (l2 : ∀ i : Int, F 106 18 ≤ i → i < F2 106 18 → t i.toNat = 32) (l3 : F 106 18 ≤ F 106 17 → F2 106 18 ≤ F 106 17) : rd_md g t s0 F2 A2 := by
  rcases h with ⟨a1, a2, a3, st, kd, kb, a4, a5⟩ | ⟨a1, a2⟩
  · have a6 := l3 a3
    refine .inl ⟨by omega, by omega, by omega, st, kd, kb, ?_, ?_⟩
    · rw [rd_mv h18 l1 l2, a4, e22, e24, eA8, eA7]
    · rcases a5 with a5 | ⟨a5, a7⟩
      · exact .inl a5
      · right
        refine ⟨a5, ?_⟩
        rcases a7 with a7 | a7
        · left
          omega
        · right
          have e : F2 106 18 = F 106 18 := by
            rcases (show F2 106 18 = F 106 18 ∨ F 106 18 < F2 106 18 by omega) with q | q
            · exact q
            · exact absurd (l2 _ (Int.le_refl _) q) a7.2
          rw [e]
          exact a7
  · refine .inr ⟨by omega, ?_⟩
    rw [e17, a2, e19, e20]
theorem gs_plan_ext {f f2 h : Nat → Int} {P k : Int} (hP : 0 ≤ P) (hk : 0 ≤ k) (e : f2 = gs_u f (60 * P + k).toNat (h k.toNat)) (old : ∀ i : Int, 0 ≤ i → i < k → f (60 * P + i).toNat = h i.toNat) : ∀ i : Int, 0 ≤ i → i < k + 1 → f2 (60 * P + i).toNat = h i.toNat := by
  intro i h1 h2
  rw [e]
  by_cases q : i = k
  · rw [q, gs_u_self]
  · rw [gs_u_ne _ _ (by omega)]
    exact old i h1 (by omega)
theorem k_X9_look_vf  {F A : gs_F} (hI : gs_I F A)  : ∀ nN : Nat, (∀   (F1 A1 : gs_F), gs_I F1 A1 → gs_fr (fun c j => c = 106 ∧ j = 18) (fun _ => False) F A F1 A1 → F 106 18 ≤ F1 106 18 → F1 106 17 = F 106 17 → F1 106 18 ≤ 120 → (∀ i : Int, F 106 18 ≤ i → i < F1 106 18 → A 116 i.toNat = 32) → (F 106 18 ≤ F 106 17 → F1 106 18 ≤ F 106 17) → 200 - F1 106 18 < (nN : Int) → sA m_X9_look 1 (fun rv F' A' => ∃ z : Int, rv = some (gs_iv z) ∧ gs_I F' A' ∧ gs_fr (fun c j => c = 106 ∧ j = 18) (fun _ => False) F A F' A' ∧ (F 106 18 ≤ F' 106 18 ∧ F' 106 17 = F 106 17 ∧ (∀ i : Int, F 106 18 ≤ i → i < F' 106 18 → A 116 i.toNat = 32) ∧ ((F' 106 18 < F 106 17 ∧ A 116 (F' 106 18).toNat ≠ 32 ∧ z = A 116 (F' 106 18).toNat) ∨ (F 106 17 ≤ F' 106 18 ∧ z = -1)) ∧ (F 106 18 ≤ F 106 17 → F' 106 18 ≤ F 106 17) ∧ -2147483648 ≤ z ∧ z ≤ 2147483647)) 0 [(0, .ref 106)] [] F1 A1) := by
  intro nN
  induction nN with
  | zero =>
    exact fun a0 a1 a2 a3 i0 i1 i2 i3 i4 hm => by exfalso; omega
  | succ nN ih =>
    intro F1 A1 hI1 hf1 i0 i1 i2 i3 i4 hm
    have b1 : (0 : Int) ≤ F1 106 18 ∧ F1 106 18 ≤ 120 := hI1.1 106 18
    have b2 : (0 : Int) ≤ F1 106 17 ∧ F1 106 17 ≤ 120 := hI1.1 106 17
    have hb18 : (0 : Int) ≤ F1 106 18 ∧ F1 106 18 ≤ 120 := hI1.1 106 18
    have h116 : A1 116 = A 116 := hf1.2 116 (by first | exact id | (dsimp only; omega) | fail)
    refine sA_aload_n dd_X9_look_0 rfl (.head _) ?_
    refine sA_geti (ci := 9) (j := 18) (q := (RX9, TX9, 28)) dd_X9_look_1 rfl (by decide) fl_X9_186 (by decide) gs_s106 rfl ?_
    refine sA_aload_n dd_X9_look_4 rfl (.head _) ?_
    refine sA_geti (ci := 9) (j := 17) (q := (RX9, TX9, 28)) dd_X9_look_5 rfl (by decide) fl_X9_181 (by decide) gs_s106 rfl ?_
    refine sA_icmp_ge (tgt := 38) dd_X9_look_8 (by decide) (by omega) (by omega) (fun q3 => ?_) (fun q3 => ?_)
    · skip
      refine sA_aload_n dd_X9_look_38 rfl (.head _) ?_
      refine sA_geti (ci := 9) (j := 18) (q := (RX9, TX9, 28)) dd_X9_look_39 rfl (by decide) fl_X9_186 (by decide) gs_s106 rfl ?_
      refine sA_aload_n dd_X9_look_42 rfl (.head _) ?_
      refine sA_geti (ci := 9) (j := 17) (q := (RX9, TX9, 28)) dd_X9_look_43 rfl (by decide) fl_X9_181 (by decide) gs_s106 rfl ?_
      refine sA_icmp_ge (tgt := 61) dd_X9_look_46 (by decide) (by omega) (by omega) (fun q4 => ?_) (fun q4 => absurd q4 (by omega))
      refine sA_iconst (z := (-1)) dd_X9_look_61 ?_
      refine sA_iret (z := -1) dd_X9_look_62 rfl ?_
      refine ⟨_, rfl, hI1, hf1, ?_⟩
      refine ⟨by omega, by omega, (by first | exact i3 | (intro i h1 h2; exfalso; omega) | fail), ?_, by omega, by omega, by omega⟩
      rw [← h116]
      first | exact .inl ⟨by omega, by omega, by omega⟩ | exact .inr ⟨by omega, by omega⟩ | fail
    · skip
      refine sA_aload_n dd_X9_look_11 rfl (.head _) ?_
      refine sA_getr (ci := 9) (j := 16) (q := (RX9, TX9, 28)) dd_X9_look_12 rfl (by decide) fl_X9_37 (by decide) gs_s106 rfl ?_
      refine sA_aload_n dd_X9_look_15 rfl (.head _) ?_
      refine sA_geti (ci := 9) (j := 18) (q := (RX9, TX9, 28)) dd_X9_look_16 rfl (by decide) fl_X9_186 (by decide) gs_s106 rfl ?_
      refine sA_iald (n := 120) dd_X9_look_19 (by decide) gs_s116 (by omega) (by decide) ?_
      have b5 : (-2147483648 : Int) ≤ A1 116 (F1 106 18).toNat ∧ A1 116 (F1 106 18).toNat ≤ 2147483647 := hI1.2 116 (F1 106 18).toNat
      refine sA_bipush (z := 32) dd_X9_look_20 (by decide) ?_
      refine sA_icmp_ne (tgt := 38) dd_X9_look_22 (by decide) (by omega) (by omega) (fun q6 => ?_) (fun q6 => ?_)
      · skip
        refine sA_aload_n dd_X9_look_38 rfl (.head _) ?_
        refine sA_geti (ci := 9) (j := 18) (q := (RX9, TX9, 28)) dd_X9_look_39 rfl (by decide) fl_X9_186 (by decide) gs_s106 rfl ?_
        refine sA_aload_n dd_X9_look_42 rfl (.head _) ?_
        refine sA_geti (ci := 9) (j := 17) (q := (RX9, TX9, 28)) dd_X9_look_43 rfl (by decide) fl_X9_181 (by decide) gs_s106 rfl ?_
        refine sA_icmp_ge (tgt := 61) dd_X9_look_46 (by decide) (by omega) (by omega) (fun q7 => absurd q7 (by omega)) (fun q7 => ?_)
        refine sA_aload_n dd_X9_look_49 rfl (.head _) ?_
        refine sA_getr (ci := 9) (j := 16) (q := (RX9, TX9, 28)) dd_X9_look_50 rfl (by decide) fl_X9_37 (by decide) gs_s106 rfl ?_
        refine sA_aload_n dd_X9_look_53 rfl (.head _) ?_
        refine sA_geti (ci := 9) (j := 18) (q := (RX9, TX9, 28)) dd_X9_look_54 rfl (by decide) fl_X9_186 (by decide) gs_s106 rfl ?_
        refine sA_iald (n := 120) dd_X9_look_57 (by decide) gs_s116 (by omega) (by decide) ?_
        refine sA_goto (tgt := 62) dd_X9_look_58 (by decide) ?_
        refine sA_iret (z := A1 116 (F1 106 18).toNat) dd_X9_look_62 rfl ?_
        refine ⟨_, rfl, hI1, hf1, ?_⟩
        refine ⟨by omega, by omega, (by first | exact i3 | (intro i h1 h2; exfalso; omega) | fail), ?_, by omega, by omega, by omega⟩
        rw [← h116]
        first | exact .inl ⟨by omega, by omega, by omega⟩ | exact .inr ⟨by omega, by omega⟩ | fail
      · skip
        refine sA_aload_n dd_X9_look_25 rfl (.head _) ?_
        refine sA_dup dd_X9_look_26 rfl ?_
        refine sA_geti (ci := 9) (j := 18) (q := (RX9, TX9, 28)) dd_X9_look_27 rfl (by decide) fl_X9_186 (by decide) gs_s106 rfl ?_
        refine sA_iconst (z := 1) dd_X9_look_30 ?_
        refine sA_iadd dd_X9_look_31 ?_
        refine sA_put (ci := 9) (j := 18) (q := (RX9, TX9, 28)) (ty := .int) dd_X9_look_32 rfl (by decide) fl_X9_186 rfl (tyX9_ok 18 (by decide)) rfl rfl (by decide) gs_s106 rfl ?_
        have I9 : gs_I (gs_up F1 106 18 ((F1 106 18) + 1)) A1 := gs_I_put hI1 (show (0 : Int) ≤ (F1 106 18) + 1 ∧ (F1 106 18) + 1 ≤ 120 by omega)
        have f10 := gs_fr_put hf1 (a := 106) (z := (F1 106 18) + 1) (j := 18) (by first | omega | (dsimp only; omega) | (dsimp only) | fail)
        have v11 : gs_up F1 106 18 ((F1 106 18) + 1) 106 18 = (F1 106 18) + 1 := gs_up_self _ _ _ _
        have v12 : (gs_up F1 106 18 ((F1 106 18) + 1)) 106 17 = F1 106 17 := gs_up_ne _ _ (by omega)
        generalize gs_up F1 106 18 ((F1 106 18) + 1) = F8 at I9 f10 v11 v12 ⊢
        refine sA_goto (tgt := 0) dd_X9_look_35 (by decide) ?_
        have b13 : (0 : Int) ≤ F8 106 18 ∧ F8 106 18 ≤ 120 := I9.1 106 18
        have b14 : (0 : Int) ≤ F8 106 17 ∧ F8 106 17 ≤ 120 := I9.1 106 17
        refine sA_sub (lv2 := [(0, .ref 106)]) (List.forall_mem_cons.mpr ⟨(.head _), (fun _ h => absurd h List.not_mem_nil)⟩) ?_
        exact ih  F8 A1 I9 f10 (by omega) (by omega) (by omega) (fun i h1 h2 => by first | (exfalso; omega) | (by_cases h : i < F1 106 18 <;> first | exact i3 i h1 h | (have e : i = F1 106 18 := (by omega); rw [e, ← h116]; omega) | fail) | (have e : i = F 106 18 := (by omega); rw [e]; omega) | fail) (by omega) (by omega)
theorem c_X9_look_vf  {F A : gs_F} (hI : gs_I F A)  : sC m_X9_look 1 [.ref 106] F A (fun rv F' A' => ∃ z : Int, rv = some (gs_iv z) ∧ gs_I F' A' ∧ gs_fr (fun c j => c = 106 ∧ j = 18) (fun _ => False) F A F' A' ∧ (F 106 18 ≤ F' 106 18 ∧ F' 106 17 = F 106 17 ∧ (∀ i : Int, F 106 18 ≤ i → i < F' 106 18 → A 116 i.toNat = 32) ∧ ((F' 106 18 < F 106 17 ∧ A 116 (F' 106 18).toNat ≠ 32 ∧ z = A 116 (F' 106 18).toNat) ∨ (F 106 17 ≤ F' 106 18 ∧ z = -1)) ∧ (F 106 18 ≤ F 106 17 → F' 106 18 ≤ F 106 17) ∧ -2147483648 ≤ z ∧ z ≤ 2147483647)) := by
  refine sC_of ok_X9_look.1 (Nat.le_of_ble_eq_true rfl) ?_
  show sA _ _ _ 0 [(0, .ref 106)] [] F A
  have hf : gs_fr (fun c j => c = 106 ∧ j = 18) (fun _ => False) F A F A := gs_fr_refl _ _ _ _
  have b15 : (0 : Int) ≤ F 106 18 ∧ F 106 18 ≤ 120 := hI.1 106 18
  have b16 : (0 : Int) ≤ F 106 17 ∧ F 106 17 ≤ 120 := hI.1 106 17
  have hb18 : (0 : Int) ≤ F 106 18 ∧ F 106 18 ≤ 120 := hI.1 106 18
  have h116 : A 116 = A 116 := hf.2 116 (by first | exact id | (dsimp only; omega) | fail)
  refine sA_aload_n dd_X9_look_0 rfl (.head _) ?_
  refine sA_geti (ci := 9) (j := 18) (q := (RX9, TX9, 28)) dd_X9_look_1 rfl (by decide) fl_X9_186 (by decide) gs_s106 rfl ?_
  refine sA_aload_n dd_X9_look_4 rfl (.head _) ?_
  refine sA_geti (ci := 9) (j := 17) (q := (RX9, TX9, 28)) dd_X9_look_5 rfl (by decide) fl_X9_181 (by decide) gs_s106 rfl ?_
  refine sA_icmp_ge (tgt := 38) dd_X9_look_8 (by decide) (by omega) (by omega) (fun q17 => ?_) (fun q17 => ?_)
  · skip
    refine sA_aload_n dd_X9_look_38 rfl (.head _) ?_
    refine sA_geti (ci := 9) (j := 18) (q := (RX9, TX9, 28)) dd_X9_look_39 rfl (by decide) fl_X9_186 (by decide) gs_s106 rfl ?_
    refine sA_aload_n dd_X9_look_42 rfl (.head _) ?_
    refine sA_geti (ci := 9) (j := 17) (q := (RX9, TX9, 28)) dd_X9_look_43 rfl (by decide) fl_X9_181 (by decide) gs_s106 rfl ?_
    refine sA_icmp_ge (tgt := 61) dd_X9_look_46 (by decide) (by omega) (by omega) (fun q18 => ?_) (fun q18 => absurd q18 (by omega))
    refine sA_iconst (z := (-1)) dd_X9_look_61 ?_
    refine sA_iret (z := -1) dd_X9_look_62 rfl ?_
    refine ⟨_, rfl, hI, hf, ?_⟩
    refine ⟨by omega, by omega, (by first | exact i3 | (intro i h1 h2; exfalso; omega) | fail), ?_, by omega, by omega, by omega⟩
    rw [← h116]
    first | exact .inl ⟨by omega, by omega, by omega⟩ | exact .inr ⟨by omega, by omega⟩ | fail
  · skip
    refine sA_aload_n dd_X9_look_11 rfl (.head _) ?_
    refine sA_getr (ci := 9) (j := 16) (q := (RX9, TX9, 28)) dd_X9_look_12 rfl (by decide) fl_X9_37 (by decide) gs_s106 rfl ?_
    refine sA_aload_n dd_X9_look_15 rfl (.head _) ?_
    refine sA_geti (ci := 9) (j := 18) (q := (RX9, TX9, 28)) dd_X9_look_16 rfl (by decide) fl_X9_186 (by decide) gs_s106 rfl ?_
    refine sA_iald (n := 120) dd_X9_look_19 (by decide) gs_s116 (by omega) (by decide) ?_
    have b19 : (-2147483648 : Int) ≤ A 116 (F 106 18).toNat ∧ A 116 (F 106 18).toNat ≤ 2147483647 := hI.2 116 (F 106 18).toNat
    refine sA_bipush (z := 32) dd_X9_look_20 (by decide) ?_
    refine sA_icmp_ne (tgt := 38) dd_X9_look_22 (by decide) (by omega) (by omega) (fun q20 => ?_) (fun q20 => ?_)
    · skip
      refine sA_aload_n dd_X9_look_38 rfl (.head _) ?_
      refine sA_geti (ci := 9) (j := 18) (q := (RX9, TX9, 28)) dd_X9_look_39 rfl (by decide) fl_X9_186 (by decide) gs_s106 rfl ?_
      refine sA_aload_n dd_X9_look_42 rfl (.head _) ?_
      refine sA_geti (ci := 9) (j := 17) (q := (RX9, TX9, 28)) dd_X9_look_43 rfl (by decide) fl_X9_181 (by decide) gs_s106 rfl ?_
      refine sA_icmp_ge (tgt := 61) dd_X9_look_46 (by decide) (by omega) (by omega) (fun q21 => absurd q21 (by omega)) (fun q21 => ?_)
      refine sA_aload_n dd_X9_look_49 rfl (.head _) ?_
      refine sA_getr (ci := 9) (j := 16) (q := (RX9, TX9, 28)) dd_X9_look_50 rfl (by decide) fl_X9_37 (by decide) gs_s106 rfl ?_
      refine sA_aload_n dd_X9_look_53 rfl (.head _) ?_
      refine sA_geti (ci := 9) (j := 18) (q := (RX9, TX9, 28)) dd_X9_look_54 rfl (by decide) fl_X9_186 (by decide) gs_s106 rfl ?_
      refine sA_iald (n := 120) dd_X9_look_57 (by decide) gs_s116 (by omega) (by decide) ?_
      refine sA_goto (tgt := 62) dd_X9_look_58 (by decide) ?_
      refine sA_iret (z := A 116 (F 106 18).toNat) dd_X9_look_62 rfl ?_
      refine ⟨_, rfl, hI, hf, ?_⟩
      refine ⟨by omega, by omega, (by first | exact i3 | (intro i h1 h2; exfalso; omega) | fail), ?_, by omega, by omega, by omega⟩
      rw [← h116]
      first | exact .inl ⟨by omega, by omega, by omega⟩ | exact .inr ⟨by omega, by omega⟩ | fail
    · skip
      refine sA_aload_n dd_X9_look_25 rfl (.head _) ?_
      refine sA_dup dd_X9_look_26 rfl ?_
      refine sA_geti (ci := 9) (j := 18) (q := (RX9, TX9, 28)) dd_X9_look_27 rfl (by decide) fl_X9_186 (by decide) gs_s106 rfl ?_
      refine sA_iconst (z := 1) dd_X9_look_30 ?_
      refine sA_iadd dd_X9_look_31 ?_
      refine sA_put (ci := 9) (j := 18) (q := (RX9, TX9, 28)) (ty := .int) dd_X9_look_32 rfl (by decide) fl_X9_186 rfl (tyX9_ok 18 (by decide)) rfl rfl (by decide) gs_s106 rfl ?_
      have I23 : gs_I (gs_up F 106 18 ((F 106 18) + 1)) A := gs_I_put hI (show (0 : Int) ≤ (F 106 18) + 1 ∧ (F 106 18) + 1 ≤ 120 by omega)
      have f24 := gs_fr_put hf (a := 106) (z := (F 106 18) + 1) (j := 18) (by first | omega | (dsimp only; omega) | (dsimp only) | fail)
      have v25 : gs_up F 106 18 ((F 106 18) + 1) 106 18 = (F 106 18) + 1 := gs_up_self _ _ _ _
      have v26 : (gs_up F 106 18 ((F 106 18) + 1)) 106 17 = F 106 17 := gs_up_ne _ _ (by omega)
      generalize gs_up F 106 18 ((F 106 18) + 1) = F22 at I23 f24 v25 v26 ⊢
      refine sA_goto (tgt := 0) dd_X9_look_35 (by decide) ?_
      have b27 : (0 : Int) ≤ F22 106 18 ∧ F22 106 18 ≤ 120 := I23.1 106 18
      have b28 : (0 : Int) ≤ F22 106 17 ∧ F22 106 17 ≤ 120 := I23.1 106 17
      refine sA_sub (lv2 := [(0, .ref 106)]) (List.forall_mem_cons.mpr ⟨(.head _), (fun _ h => absurd h List.not_mem_nil)⟩) ?_
      exact (k_X9_look_vf hI (200 - F22 106 18 : Int).toNat.succ)  F22 A I23 f24 (by omega) (by omega) (by omega) (fun i h1 h2 => by first | (exfalso; omega) | (by_cases h : i < F1 106 18 <;> first | exact i3 i h1 h | (have e : i = F1 106 18 := (by omega); rw [e, ← h116]; omega) | fail) | (have e : i = F 106 18 := (by omega); rw [e]; omega) | fail) (by omega) (by omega)
theorem c_X9_want_vf {gd f w : Int} {F A : gs_F} (hI : gs_I F A) (hg : gd = 0 ∨ gd = 1) (hf0 : 1 ≤ f ∧ f ≤ 4) (hw : -2147483648 ≤ w ∧ w ≤ 2147483647) : sC m_X9_want 1 [.ref 106, gs_iv gd, gs_iv f, gs_iv w] F A (fun rv F' A' => ∃ z : Int, rv = some (gs_iv z) ∧ gs_I F' A' ∧ gs_fr (fun c j => c = 106 ∧ (j = 19 ∨ j = 20)) (fun _ => False) F A F' A' ∧ ((F 106 19 = 0 ∧ gd = 0 ∧ z = 0 ∧ F' 106 19 = f ∧ F' 106 20 = w) ∨ (F 106 19 = 0 ∧ gd = 1 ∧ z = 1 ∧ F' 106 19 = 0 ∧ F' 106 20 = F 106 20) ∨ (F 106 19 ≠ 0 ∧ z = 0 ∧ F' 106 19 = F 106 19 ∧ F' 106 20 = F 106 20))) := by
  refine sC_of ok_X9_want.1 (Nat.le_of_ble_eq_true rfl) ?_
  show sA _ _ _ 0 [(0, .ref 106), (1, gs_iv gd), (2, gs_iv f), (3, gs_iv w)] [] F A
  have hf : gs_fr (fun c j => c = 106 ∧ (j = 19 ∨ j = 20)) (fun _ => False) F A F A := gs_fr_refl _ _ _ _
  have b1 : (0 : Int) ≤ F 106 19 ∧ F 106 19 ≤ 4 := hI.1 106 19
  have b2 : (-2147483648 : Int) ≤ F 106 20 ∧ F 106 20 ≤ 2147483647 := hI.1 106 20
  refine sA_iload_n dd_X9_want_0 rfl (.tail _ (.head _)) ?_
  refine sA_if_ne (tgt := 21) dd_X9_want_1 (by decide) (by omega) (fun q3 => ?_) (fun q3 => ?_)
  · skip
    refine sA_aload_n dd_X9_want_21 rfl (.head _) ?_
    refine sA_geti (ci := 9) (j := 19) (q := (RX9, TX9, 28)) dd_X9_want_22 rfl (by decide) fl_X9_189 (by decide) gs_s106 rfl ?_
    refine sA_if_ne (tgt := 32) dd_X9_want_25 (by decide) (by omega) (fun q4 => ?_) (fun q4 => ?_)
    · skip
      refine sA_iconst (z := 0) dd_X9_want_32 ?_
      refine sA_bret (z := 0) dd_X9_want_33 rfl (by omega) ?_
      exact ⟨_, rfl, hI, hf, by omega⟩
    · skip
      refine sA_iconst (z := 1) dd_X9_want_28 ?_
      refine sA_goto (tgt := 33) dd_X9_want_29 (by decide) ?_
      refine sA_bret (z := 1) dd_X9_want_33 rfl (by omega) ?_
      exact ⟨_, rfl, hI, hf, by omega⟩
  · skip
    refine sA_aload_n dd_X9_want_4 rfl (.head _) ?_
    refine sA_geti (ci := 9) (j := 19) (q := (RX9, TX9, 28)) dd_X9_want_5 rfl (by decide) fl_X9_189 (by decide) gs_s106 rfl ?_
    refine sA_if_ne (tgt := 21) dd_X9_want_8 (by decide) (by omega) (fun q5 => ?_) (fun q5 => ?_)
    · skip
      refine sA_aload_n dd_X9_want_21 rfl (.head _) ?_
      refine sA_geti (ci := 9) (j := 19) (q := (RX9, TX9, 28)) dd_X9_want_22 rfl (by decide) fl_X9_189 (by decide) gs_s106 rfl ?_
      refine sA_if_ne (tgt := 32) dd_X9_want_25 (by decide) (by omega) (fun q6 => ?_) (fun q6 => absurd q6 (by omega))
      refine sA_iconst (z := 0) dd_X9_want_32 ?_
      refine sA_bret (z := 0) dd_X9_want_33 rfl (by omega) ?_
      exact ⟨_, rfl, hI, hf, by omega⟩
    · skip
      refine sA_aload_n dd_X9_want_11 rfl (.head _) ?_
      refine sA_iload_n dd_X9_want_12 rfl (.tail _ (.tail _ (.head _))) ?_
      refine sA_put (ci := 9) (j := 19) (q := (RX9, TX9, 28)) (ty := .int) dd_X9_want_13 rfl (by decide) fl_X9_189 rfl (tyX9_ok 19 (by decide)) rfl rfl (by decide) gs_s106 rfl ?_
      have I8 : gs_I (gs_up F 106 19 f) A := gs_I_put hI (show (0 : Int) ≤ f ∧ f ≤ 4 by omega)
      have f9 := gs_fr_put hf (a := 106) (z := f) (j := 19) (by first | omega | (dsimp only; omega) | (dsimp only) | fail)
      have v10 : gs_up F 106 19 f 106 19 = f := gs_up_self _ _ _ _
      have v11 : (gs_up F 106 19 f) 106 20 = F 106 20 := gs_up_ne _ _ (by omega)
      generalize gs_up F 106 19 f = F7 at I8 f9 v10 v11 ⊢
      refine sA_aload_n dd_X9_want_16 rfl (.head _) ?_
      refine sA_iload_n dd_X9_want_17 rfl (.tail _ (.tail _ (.tail _ (.head _)))) ?_
      refine sA_put (ci := 9) (j := 20) (q := (RX9, TX9, 28)) (ty := .int) dd_X9_want_18 rfl (by decide) fl_X9_40 rfl (tyX9_ok 20 (by decide)) rfl rfl (by decide) gs_s106 rfl ?_
      have I13 : gs_I (gs_up F7 106 20 w) A := gs_I_put I8 (show (-2147483648 : Int) ≤ w ∧ w ≤ 2147483647 by omega)
      have f14 := gs_fr_put f9 (a := 106) (z := w) (j := 20) (by first | omega | (dsimp only; omega) | (dsimp only) | fail)
      have v15 : gs_up F7 106 20 w 106 20 = w := gs_up_self _ _ _ _
      have v16 : (gs_up F7 106 20 w) 106 19 = F7 106 19 := gs_up_ne _ _ (by omega)
      generalize gs_up F7 106 20 w = F12 at I13 f14 v15 v16 ⊢
      refine sA_aload_n dd_X9_want_21 rfl (.head _) ?_
      refine sA_geti (ci := 9) (j := 19) (q := (RX9, TX9, 28)) dd_X9_want_22 rfl (by decide) fl_X9_189 (by decide) gs_s106 rfl ?_
      have b17 : (0 : Int) ≤ F12 106 19 ∧ F12 106 19 ≤ 4 := I13.1 106 19
      refine sA_if_ne (tgt := 32) dd_X9_want_25 (by decide) (by omega) (fun q18 => ?_) (fun q18 => ?_)
      · skip
        refine sA_iconst (z := 0) dd_X9_want_32 ?_
        refine sA_bret (z := 0) dd_X9_want_33 rfl (by omega) ?_
        exact ⟨_, rfl, I13, f14, by omega⟩
      · skip
        refine sA_iconst (z := 1) dd_X9_want_28 ?_
        refine sA_goto (tgt := 33) dd_X9_want_29 (by decide) ?_
        refine sA_bret (z := 1) dd_X9_want_33 rfl (by omega) ?_
        exact ⟨_, rfl, I13, f14, by omega⟩
theorem c_X9_takeFigure_vf {lo hi : Int} {F A : gs_F} (hI : gs_I F A) (hlo : -2147483648 ≤ lo ∧ lo ≤ 2147483647) (hhi : -2147483648 ≤ hi ∧ hi ≤ 2147483647) (h19 : F 106 19 = 0) (hle : F 106 18 ≤ F 106 17) : sC m_X9_takeFigure 2 [.ref 106, gs_iv lo, gs_iv hi] F A (fun rv F' A' => ∃ z : Int, rv = some (gs_iv z) ∧ gs_I F' A' ∧ gs_fr (fun c j => c = 106 ∧ (j = 18 ∨ j = 19 ∨ j = 20)) (fun _ => False) F A F' A' ∧ ((F 106 18 ≤ F' 106 18 ∧ F' 106 17 = F 106 17 ∧ ((F' 106 19 = 0 ∧ F 106 19 = 0 ∧ lo ≤ z ∧ z ≤ hi ∧ F 106 18 + 1 ≤ F' 106 18) ∨ 1 ≤ F' 106 19)) ∧ gs_tf (F 106 17) (F 106 18) (A 116) lo hi z (F' 106 19) (F' 106 20) (F' 106 18) (F 106 20))) := by
  refine sC_of ok_X9_takeFigure.1 (Nat.le_of_ble_eq_true rfl) ?_
  show sA _ _ _ 0 [(0, .ref 106), (1, gs_iv lo), (2, gs_iv hi)] [] F A
  have hf : gs_fr (fun c j => c = 106 ∧ (j = 18 ∨ j = 19 ∨ j = 20)) (fun _ => False) F A F A := gs_fr_refl _ _ _ _
  have b1 : (0 : Int) ≤ F 106 18 ∧ F 106 18 ≤ 120 := hI.1 106 18
  have b2 : (0 : Int) ≤ F 106 17 ∧ F 106 17 ≤ 120 := hI.1 106 17
  have b3 : (0 : Int) ≤ F 106 19 ∧ F 106 19 ≤ 4 := hI.1 106 19
  have b4 : (-2147483648 : Int) ≤ F 106 20 ∧ F 106 20 ≤ 2147483647 := hI.1 106 20
  refine sA_aload_n dd_X9_takeFigure_0 rfl (.head _) ?_
  refine sA_callV (y2 := m_X9_look) (n2 := 0) (d2 := 1) (a := 106) (ci := 9) (q := (RX9, TX9, 28)) (as := []) (rest := []) dd_X9_takeFigure_1 ok_X9_look ml_X9_192 rfl rfl (by decide) gs_s106 rfl rfl (Nat.le_of_ble_eq_true rfl) (by decide) (c_X9_look_vf hI ) (fun r5 F6 A7 h8 => ?_)
  obtain ⟨z11, e10, I12, f13, x9⟩ := h8
  subst e10
  have v15 : F6 106 17 = F 106 17 := f13.1 106 17 (by first | exact id | omega | (dsimp only; omega) | (dsimp only) | fail)
  have v16 : F6 106 19 = F 106 19 := f13.1 106 19 (by first | exact id | omega | (dsimp only; omega) | (dsimp only) | fail)
  have v17 : F6 106 20 = F 106 20 := f13.1 106 20 (by first | exact id | omega | (dsimp only; omega) | (dsimp only) | fail)
  have f18 := gs_fr_tr hf f13 (fun b j h => by first | exact False.elim h | omega | (dsimp only at h ⊢; omega) | fail) (fun b h => by first | exact False.elim h | omega | (dsimp only at h ⊢; omega) | fail)
  have y19 : F 106 18 ≤ F6 106 18 ∧ F6 106 17 = F 106 17 ∧ (∀ i : Int, F 106 18 ≤ i → i < F6 106 18 → A 116 i.toNat = 32) ∧ ((F6 106 18 < F 106 17 ∧ A 116 (F6 106 18).toNat ≠ 32 ∧ z11 = A 116 (F6 106 18).toNat) ∨ (F 106 17 ≤ F6 106 18 ∧ z11 = -1)) ∧ (F 106 18 ≤ F 106 17 → F6 106 18 ≤ F 106 17) ∧ -2147483648 ≤ z11 ∧ z11 ≤ 2147483647 := x9
  clear x9
  show sA _ _ _ 4 _ [gs_iv z11] _ _
  have hl4 := y19.2.2.2.1
  have hl5 := y19.2.2.2.2
  refine sA_istore_n (lv' := [(3, gs_iv z11), (0, .ref 106), (1, gs_iv lo), (2, gs_iv hi)]) dd_X9_takeFigure_4 rfl (by decide) rfl ?_
  refine sA_aload_n dd_X9_takeFigure_5 rfl (.tail _ (.head _)) ?_
  refine sA_iload_n dd_X9_takeFigure_6 rfl (.head _) ?_
  refine sA_i2l dd_X9_takeFigure_7 (by omega) ?_
  refine sA_ldc2 (z := 48) dd_X9_takeFigure_8 (ri_lw_in (pl := 1018) (by decide +kernel)) ?_
  refine sA_ldc2 (z := 57) dd_X9_takeFigure_11 (ri_lw_in (pl := 1019) (by decide +kernel)) ?_
  refine sA_callS (y2 := m_X9_in) (n2 := 3) (d2 := 1) (as := [gs_lv z11, gs_lv 48, gs_lv 57]) (rest := [.ref 106]) dd_X9_takeFigure_14 ok_X9_in ml_X9_75 rfl rfl (Nat.le_of_ble_eq_true rfl) (by decide) (c_X9_in (by omega) (by omega) (by omega)) (fun r20 F21 A22 h23 => ?_)
  obtain ⟨z26, e25, e27, e28, x24⟩ := h23
  subst e25 e27 e28
  show sA _ _ _ 17 _ [gs_iv z26, .ref 106] _ _
  refine sA_iconst (z := 1) dd_X9_takeFigure_17 ?_
  refine sA_aload_n dd_X9_takeFigure_18 rfl (.tail _ (.head _)) ?_
  refine sA_geti (ci := 9) (j := 18) (q := (RX9, TX9, 28)) dd_X9_takeFigure_19 rfl (by decide) fl_X9_186 (by decide) gs_s106 rfl ?_
  have b29 : (0 : Int) ≤ F6 106 18 ∧ F6 106 18 ≤ 120 := I12.1 106 18
  refine sA_callV (y2 := m_X9_want) (n2 := 3) (d2 := 1) (a := 106) (ci := 9) (q := (RX9, TX9, 28)) (as := [gs_iv z26, gs_iv 1, gs_iv (F6 106 18)]) (rest := []) dd_X9_takeFigure_22 ok_X9_want ml_X9_199 rfl rfl (by decide) gs_s106 rfl rfl (Nat.le_of_ble_eq_true rfl) (by decide) (c_X9_want_vf I12 (by omega) (by omega) (by omega)) (fun r30 F31 A32 h33 => ?_)
  obtain ⟨z36, e35, I37, f38, x34⟩ := h33
  subst e35
  have v39 : F31 106 18 = F6 106 18 := f38.1 106 18 (by first | exact id | omega | (dsimp only; omega) | (dsimp only) | fail)
  have v40 : F31 106 17 = F6 106 17 := f38.1 106 17 (by first | exact id | omega | (dsimp only; omega) | (dsimp only) | fail)
  have f43 := gs_fr_tr f18 f38 (fun b j h => by first | exact False.elim h | omega | (dsimp only at h ⊢; omega) | fail) (fun b h => by first | exact False.elim h | omega | (dsimp only at h ⊢; omega) | fail)
  have y44 : (F6 106 19 = 0 ∧ z26 = 0 ∧ z36 = 0 ∧ F31 106 19 = (1 : Int) ∧ F31 106 20 = (F6 106 18)) ∨ (F6 106 19 = 0 ∧ z26 = 1 ∧ z36 = 1 ∧ F31 106 19 = 0 ∧ F31 106 20 = F6 106 20) ∨ (F6 106 19 ≠ 0 ∧ z36 = 0 ∧ F31 106 19 = F6 106 19 ∧ F31 106 20 = F6 106 20) := x34
  clear x34
  show sA _ _ _ 25 _ [gs_iv z36] _ _
  refine sA_if_eq (tgt := 52) dd_X9_takeFigure_25 (by decide) (by omega) (fun q45 => ?_) (fun q45 => ?_)
  · skip
    refine sA_iconst (z := 0) dd_X9_takeFigure_52 ?_
    refine sA_iret (z := 0) dd_X9_takeFigure_53 rfl ?_
    refine ⟨_, rfl, I37, f43, ?_⟩
    have hl3 := y19.2.2.1
    refine ⟨by omega, F6 106 18, by omega, by omega, hl3, ?_⟩
    omega
  · skip
    refine sA_aload_n dd_X9_takeFigure_28 rfl (.tail _ (.head _)) ?_
    refine sA_iload_n dd_X9_takeFigure_29 rfl (.head _) ?_
    refine sA_bipush (z := 48) dd_X9_takeFigure_30 (by decide) ?_
    refine sA_isub dd_X9_takeFigure_32 ?_
    refine sA_i2l dd_X9_takeFigure_33 (by omega) ?_
    refine sA_iload_n dd_X9_takeFigure_34 rfl (.tail _ (.tail _ (.head _))) ?_
    refine sA_i2l dd_X9_takeFigure_35 (by omega) ?_
    refine sA_iload_n dd_X9_takeFigure_36 rfl (.tail _ (.tail _ (.tail _ (.head _)))) ?_
    refine sA_i2l dd_X9_takeFigure_37 (by omega) ?_
    refine sA_callS (y2 := m_X9_in) (n2 := 3) (d2 := 1) (as := [gs_lv (z11 - 48), gs_lv lo, gs_lv hi]) (rest := [.ref 106]) dd_X9_takeFigure_38 ok_X9_in ml_X9_75 rfl rfl (Nat.le_of_ble_eq_true rfl) (by decide) (c_X9_in (by omega) (by omega) (by omega)) (fun r46 F47 A48 h49 => ?_)
    obtain ⟨z52, e51, e53, e54, x50⟩ := h49
    subst e51 e53 e54
    show sA _ _ _ 41 _ [gs_iv z52, .ref 106] _ _
    refine sA_iconst (z := 2) dd_X9_takeFigure_41 ?_
    refine sA_aload_n dd_X9_takeFigure_42 rfl (.tail _ (.head _)) ?_
    refine sA_geti (ci := 9) (j := 18) (q := (RX9, TX9, 28)) dd_X9_takeFigure_43 rfl (by decide) fl_X9_186 (by decide) gs_s106 rfl ?_
    have b55 : (0 : Int) ≤ F31 106 18 ∧ F31 106 18 ≤ 120 := I37.1 106 18
    refine sA_callV (y2 := m_X9_want) (n2 := 3) (d2 := 1) (a := 106) (ci := 9) (q := (RX9, TX9, 28)) (as := [gs_iv z52, gs_iv 2, gs_iv (F31 106 18)]) (rest := []) dd_X9_takeFigure_46 ok_X9_want ml_X9_199 rfl rfl (by decide) gs_s106 rfl rfl (Nat.le_of_ble_eq_true rfl) (by decide) (c_X9_want_vf I37 (by omega) (by omega) (by omega)) (fun r56 F57 A58 h59 => ?_)
    obtain ⟨z62, e61, I63, f64, x60⟩ := h59
    subst e61
    have v65 : F57 106 18 = F31 106 18 := f64.1 106 18 (by first | exact id | omega | (dsimp only; omega) | (dsimp only) | fail)
    have v66 : F57 106 17 = F31 106 17 := f64.1 106 17 (by first | exact id | omega | (dsimp only; omega) | (dsimp only) | fail)
    have f69 := gs_fr_tr f43 f64 (fun b j h => by first | exact False.elim h | omega | (dsimp only at h ⊢; omega) | fail) (fun b h => by first | exact False.elim h | omega | (dsimp only at h ⊢; omega) | fail)
    have y70 : (F31 106 19 = 0 ∧ z52 = 0 ∧ z62 = 0 ∧ F57 106 19 = (2 : Int) ∧ F57 106 20 = (F31 106 18)) ∨ (F31 106 19 = 0 ∧ z52 = 1 ∧ z62 = 1 ∧ F57 106 19 = 0 ∧ F57 106 20 = F31 106 20) ∨ (F31 106 19 ≠ 0 ∧ z62 = 0 ∧ F57 106 19 = F31 106 19 ∧ F57 106 20 = F31 106 20) := x60
    clear x60
    show sA _ _ _ 49 _ [gs_iv z62] _ _
    refine sA_if_ne (tgt := 54) dd_X9_takeFigure_49 (by decide) (by omega) (fun q71 => ?_) (fun q71 => ?_)
    · skip
      refine sA_aload_n dd_X9_takeFigure_54 rfl (.tail _ (.head _)) ?_
      refine sA_dup dd_X9_takeFigure_55 rfl ?_
      refine sA_geti (ci := 9) (j := 18) (q := (RX9, TX9, 28)) dd_X9_takeFigure_56 rfl (by decide) fl_X9_186 (by decide) gs_s106 rfl ?_
      have b72 : (0 : Int) ≤ F57 106 18 ∧ F57 106 18 ≤ 120 := I63.1 106 18
      refine sA_iconst (z := 1) dd_X9_takeFigure_59 ?_
      refine sA_iadd dd_X9_takeFigure_60 ?_
      refine sA_put (ci := 9) (j := 18) (q := (RX9, TX9, 28)) (ty := .int) dd_X9_takeFigure_61 rfl (by decide) fl_X9_186 rfl (tyX9_ok 18 (by decide)) rfl rfl (by decide) gs_s106 rfl ?_
      have I74 : gs_I (gs_up F57 106 18 ((F57 106 18) + 1)) A58 := gs_I_put I63 (show (0 : Int) ≤ (F57 106 18) + 1 ∧ (F57 106 18) + 1 ≤ 120 by omega)
      have f75 := gs_fr_put f69 (a := 106) (z := (F57 106 18) + 1) (j := 18) (by first | omega | (dsimp only; omega) | (dsimp only) | fail)
      have v76 : gs_up F57 106 18 ((F57 106 18) + 1) 106 18 = (F57 106 18) + 1 := gs_up_self _ _ _ _
      have v77 : (gs_up F57 106 18 ((F57 106 18) + 1)) 106 17 = F57 106 17 := gs_up_ne _ _ (by omega)
      have v78 : (gs_up F57 106 18 ((F57 106 18) + 1)) 106 19 = F57 106 19 := gs_up_ne _ _ (by omega)
      have v79 : (gs_up F57 106 18 ((F57 106 18) + 1)) 106 20 = F57 106 20 := gs_up_ne _ _ (by omega)
      generalize gs_up F57 106 18 ((F57 106 18) + 1) = F73 at I74 f75 v76 v77 v78 v79 ⊢
      refine sA_iload_n dd_X9_takeFigure_64 rfl (.head _) ?_
      refine sA_bipush (z := 48) dd_X9_takeFigure_65 (by decide) ?_
      refine sA_isub dd_X9_takeFigure_67 ?_
      refine sA_iret (z := z11 - 48) dd_X9_takeFigure_68 rfl ?_
      refine ⟨_, rfl, I74, f75, ?_⟩
      have hl3 := y19.2.2.1
      refine ⟨by omega, F6 106 18, by omega, by omega, hl3, ?_⟩
      omega
    · skip
      refine sA_iconst (z := 0) dd_X9_takeFigure_52 ?_
      refine sA_iret (z := 0) dd_X9_takeFigure_53 rfl ?_
      refine ⟨_, rfl, I63, f69, ?_⟩
      have hl3 := y19.2.2.1
      refine ⟨by omega, F6 106 18, by omega, by omega, hl3, ?_⟩
      omega
end
