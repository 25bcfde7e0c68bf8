noncomputable section
/-! ===== determinants: along the first row, along the last ===== -/
theorem dt_sum0 {f : Nat → Int} : ∀ n : Nat, (∀ i : Nat, i < n → f i = 0) → gs_sum f n = 0
  | 0, _ => rfl
  | n + 1, h => by
    show gs_sum f n + f n = 0
    rw [dt_sum0 n (fun i hi => h i (by omega)), h n (by omega)]
    rfl
theorem dt_sum_mul (c : Int) (f : Nat → Int) : ∀ n : Nat, c * gs_sum f n = gs_sum (fun i => c * f i) n
  | 0 => Int.mul_zero c
  | n + 1 => by
    show c * (gs_sum f n + f n) = gs_sum (fun i => c * f i) n + c * f n
    rw [Int.mul_add, dt_sum_mul c f n]
theorem dt_sum_add (f h : Nat → Int) : ∀ n : Nat, gs_sum (fun i => f i + h i) n = gs_sum f n + gs_sum h n
  | 0 => rfl
  | n + 1 => by
    show gs_sum (fun i => f i + h i) n + (f n + h n) = gs_sum f n + f n + (gs_sum h n + h n)
    rw [dt_sum_add f h n]
    omega
theorem dt_swap (f : Nat → Nat → Int) (m : Nat) : ∀ n : Nat, gs_sum (fun y => gs_sum (fun w => f y w) m) n = gs_sum (fun w => gs_sum (fun y => f y w) n) m
  | 0 => (dt_sum0 m (fun _ _ => rfl)).symm
  | n + 1 => by
    show gs_sum (fun y => gs_sum (fun w => f y w) m) n + gs_sum (fun w => f n w) m = gs_sum (fun w => gs_sum (fun y => f y w) n + f n w) m
    rw [dt_sum_add, dt_swap f m n]
/-- members of the set e below k; signs by how many stand below y, above y -/
def dt_c (e : Nat) : Nat → Nat
  | 0 => 0
  | k + 1 => dt_c e k + (if e.testBit k then 1 else 0)
def dt_s (e y : Nat) : Int := if dt_c e y % 2 = 0 then 1 else -1
def dt_t (e y : Nat) : Int := if (dt_c e 6 - dt_c e (y + 1)) % 2 = 0 then 1 else -1
theorem dt_f1 : ∀ e : Fin 64, ∀ y : Fin 6, e.val.testBit y.val = true → (e.val - 2 ^ y.val < 64 ∧ dt_c (e.val - 2 ^ y.val) 6 + 1 = dt_c e.val 6 ∧ (e.val - 2 ^ y.val).testBit y.val = false) := by decide +kernel
theorem dt_f2 : ∀ e : Fin 64, ∀ y w : Fin 6, y ≠ w → e.val.testBit y.val = true → ((e.val - 2 ^ y.val).testBit w.val = e.val.testBit w.val ∧ (e.val.testBit w.val = true → (e.val - 2 ^ y.val - 2 ^ w.val = e.val - 2 ^ w.val - 2 ^ y.val ∧ dt_s e.val y.val * dt_t (e.val - 2 ^ y.val) w.val = dt_t e.val w.val * dt_s (e.val - 2 ^ w.val) y.val))) := by decide +kernel
theorem dt_f3 : ∀ e : Fin 64, ∀ y : Fin 6, dt_c e.val 6 = 1 → e.val.testBit y.val = true → (dt_s e.val y.val = 1 ∧ dt_t e.val y.val = 1) := by decide +kernel
def dt_1 (T : Nat → Nat → Int) : List Nat → Nat → Int
  | [], _ => 1
  | x :: R, e => gs_sum (fun y => if e.testBit y then dt_s e y * T x y * dt_1 T R (e - 2 ^ y) else 0) 6
def dt_2 (T : Nat → Nat → Int) : List Nat → Nat → Int
  | [], _ => 1
  | x :: R, e => gs_sum (fun y => if e.testBit y then dt_t e y * T x y * dt_2 T R (e - 2 ^ y) else 0) 6
theorem dt_last {T : Nat → Nat → Int} {r : Nat} : ∀ (R : List Nat) (e : Nat), e < 64 → dt_c e 6 = R.length + 1 → dt_1 T (R ++ [r]) e = gs_sum (fun y => if e.testBit y then dt_t e y * T r y * dt_1 T R (e - 2 ^ y) else 0) 6
  | [], e, he, hc => gs_sum_cg 6 (fun y hy => by
      show (if e.testBit y then dt_s e y * T r y * dt_1 T [] (e - 2 ^ y) else 0) = (if e.testBit y then dt_t e y * T r y * dt_1 T [] (e - 2 ^ y) else 0)
      by_cases q : e.testBit y = true
      · obtain ⟨a, b⟩ := dt_f3 ⟨e, he⟩ ⟨y, hy⟩ hc q
        have a : dt_s e y = 1 := a
        have b : dt_t e y = 1 := b
        rw [a, b]
      · rw [if_neg q, if_neg q])
  | q :: R, e, he, hc => by
    have hc : dt_c e 6 = R.length + 1 + 1 := hc
    show gs_sum (fun y => if e.testBit y then dt_s e y * T q y * dt_1 T (R ++ [r]) (e - 2 ^ y) else 0) 6 = gs_sum (fun w => if e.testBit w then dt_t e w * T r w * gs_sum (fun y => if (e - 2 ^ w).testBit y then dt_s (e - 2 ^ w) y * T q y * dt_1 T R (e - 2 ^ w - 2 ^ y) else 0) 6 else 0) 6
    have L : gs_sum (fun y => if e.testBit y then dt_s e y * T q y * dt_1 T (R ++ [r]) (e - 2 ^ y) else 0) 6 = gs_sum (fun y => gs_sum (fun w => if e.testBit y = true ∧ e.testBit w = true ∧ y ≠ w then dt_s e y * dt_t (e - 2 ^ y) w * (T q y * T r w * dt_1 T R (e - 2 ^ y - 2 ^ w)) else 0) 6) 6 := by
      refine gs_sum_cg 6 (fun y hy => ?_)
      by_cases k : e.testBit y = true
      · obtain ⟨a1, a2, a3⟩ := dt_f1 ⟨e, he⟩ ⟨y, hy⟩ k
        have a1 : e - 2 ^ y < 64 := a1
        have a2 : dt_c (e - 2 ^ y) 6 + 1 = dt_c e 6 := a2
        have a3 : (e - 2 ^ y).testBit y = false := a3
        rw [if_pos k, dt_last R (e - 2 ^ y) a1 (by omega), dt_sum_mul]
        refine gs_sum_cg 6 (fun w hw => ?_)
        by_cases kw : y = w
        · subst kw
          rw [if_neg (by rw [a3]; decide), if_neg (fun z => z.2.2 rfl), Int.mul_zero]
        · obtain ⟨b1, b2⟩ := dt_f2 ⟨e, he⟩ ⟨y, hy⟩ ⟨w, hw⟩ (fun z => kw (by injection z)) k
          have b1 : (e - 2 ^ y).testBit w = e.testBit w := b1
          rw [b1]
          by_cases kt : e.testBit w = true
          · rw [if_pos kt, if_pos ⟨k, kt, kw⟩]
            simp only [Int.mul_assoc, Int.mul_comm, Int.mul_left_comm]
          · rw [if_neg kt, if_neg (fun z => kt z.2.1), Int.mul_zero]
      · rw [if_neg k]
        exact (dt_sum0 6 (fun w _ => if_neg (fun z => k z.1))).symm
    have Rr : gs_sum (fun w => if e.testBit w then dt_t e w * T r w * gs_sum (fun y => if (e - 2 ^ w).testBit y then dt_s (e - 2 ^ w) y * T q y * dt_1 T R (e - 2 ^ w - 2 ^ y) else 0) 6 else 0) 6 = gs_sum (fun w => gs_sum (fun y => if e.testBit y = true ∧ e.testBit w = true ∧ y ≠ w then dt_s e y * dt_t (e - 2 ^ y) w * (T q y * T r w * dt_1 T R (e - 2 ^ y - 2 ^ w)) else 0) 6) 6 := by
      refine gs_sum_cg 6 (fun w hw => ?_)
      by_cases k : e.testBit w = true
      · obtain ⟨a1, a2, a3⟩ := dt_f1 ⟨e, he⟩ ⟨w, hw⟩ k
        have a3 : (e - 2 ^ w).testBit w = false := a3
        rw [if_pos k, dt_sum_mul]
        refine gs_sum_cg 6 (fun y hy => ?_)
        by_cases kw : y = w
        · subst kw
          rw [if_neg (by rw [a3]; decide), if_neg (fun z => z.2.2 rfl), Int.mul_zero]
        · obtain ⟨b1, _⟩ := dt_f2 ⟨e, he⟩ ⟨w, hw⟩ ⟨y, hy⟩ (fun z => kw (by injection z with z; exact z.symm)) k
          have b1 : (e - 2 ^ w).testBit y = e.testBit y := b1
          rw [b1]
          by_cases kt : e.testBit y = true
          · obtain ⟨_, c1⟩ := dt_f2 ⟨e, he⟩ ⟨y, hy⟩ ⟨w, hw⟩ (fun z => kw (by injection z)) kt
            obtain ⟨c1, c2⟩ := c1 k
            have c1 : e - 2 ^ y - 2 ^ w = e - 2 ^ w - 2 ^ y := c1
            have c2 : dt_s e y * dt_t (e - 2 ^ y) w = dt_t e w * dt_s (e - 2 ^ w) y := c2
            rw [if_pos kt, if_pos ⟨kt, k, kw⟩, c1, c2]
            simp only [Int.mul_assoc, Int.mul_comm, Int.mul_left_comm]
          · rw [if_neg kt, if_neg (fun z => kt z.1), Int.mul_zero]
      · rw [if_neg k]
        exact (dt_sum0 6 (fun y _ => if_neg (fun z => k z.2.1))).symm
    rw [L, Rr, dt_swap]
theorem dt_12 {T : Nat → Nat → Int} : ∀ (R : List Nat) (e : Nat), e < 64 → dt_c e 6 = R.length → dt_1 T R.reverse e = dt_2 T R e
  | [], _, _, _ => rfl
  | x :: R, e, he, hc => by
    have hc : dt_c e 6 = R.length + 1 := hc
    rw [List.reverse_cons, dt_last R.reverse e he (by rw [List.length_reverse]; exact hc)]
    refine gs_sum_cg 6 (fun y hy => ?_)
    by_cases k : e.testBit y = true
    · obtain ⟨a1, a2, a3⟩ := dt_f1 ⟨e, he⟩ ⟨y, hy⟩ k
      have a1 : e - 2 ^ y < 64 := a1
      have a2 : dt_c (e - 2 ^ y) 6 + 1 = dt_c e 6 := a2
      rw [if_pos k, if_pos k, dt_12 R (e - 2 ^ y) a1 (by omega)]
    · rw [if_neg k, if_neg k]
/-- rows of the set e below k, the last first; from 6 - j on -/
def dt_rows (e : Nat) : Nat → List Nat
  | 0 => []
  | k + 1 => if e.testBit k then k :: dt_rows e k else dt_rows e k
def dt_up (e : Nat) : Nat → List Nat
  | 0 => []
  | j + 1 => if e.testBit (5 - j) then (5 - j) :: dt_up e j else dt_up e j
theorem dt_upr : ∀ e : Fin 64, dt_up e.val 6 = (dt_rows e.val 6).reverse ∧ (dt_rows e.val 6).length = dt_c e.val 6 := by decide +kernel
theorem dt_1_cg {T T2 : Nat → Nat → Int} {N : Nat} : ∀ (R : List Nat) (e : Nat), e < 64 → (∀ x : Nat, x ∈ R → x < N) → (∀ y : Nat, y < 6 → e.testBit y = true → y < N) → (∀ x y : Nat, x < N → y < N → T x y = T2 x y) → dt_1 T R e = dt_1 T2 R e
  | [], _, _, _, _, _ => rfl
  | x :: R, e, he, hR, hE, hT => gs_sum_cg 6 (fun y hy => by
      show (if e.testBit y then dt_s e y * T x y * dt_1 T R (e - 2 ^ y) else 0) = (if e.testBit y then dt_s e y * T2 x y * dt_1 T2 R (e - 2 ^ y) else 0)
      by_cases k : e.testBit y = true
      · obtain ⟨a1, a2, a3⟩ := dt_f1 ⟨e, he⟩ ⟨y, hy⟩ k
        have a1 : e - 2 ^ y < 64 := a1
        have a3 : (e - 2 ^ y).testBit y = false := a3
        rw [if_pos k, if_pos k, hT x y (hR x List.mem_cons_self) (hE y hy k), dt_1_cg R (e - 2 ^ y) a1 (fun z hz => hR z (List.mem_cons_of_mem _ hz)) (fun z hz kz => ?_) hT]
        by_cases kw : z = y
        · rw [kw, a3] at kz
          cases kz
        · have b1 := (dt_f2 ⟨e, he⟩ ⟨y, hy⟩ ⟨z, hz⟩ (fun w => kw (by injection w with w; exact w.symm)) k).1
          have b1 : (e - 2 ^ y).testBit z = e.testBit z := b1
          exact hE z hz (by rw [← b1]; exact kz)
      · rw [if_neg k, if_neg k])
theorem dt_up_mem {e x : Nat} : ∀ j : Nat, x ∈ dt_up e j → x < 6 ∧ e.testBit x = true
  | 0, h => absurd h List.not_mem_nil
  | j + 1, h => by
    have h : x ∈ (if e.testBit (5 - j) then (5 - j) :: dt_up e j else dt_up e j) := h
    split at h
    · rename_i q
      rcases List.mem_cons.mp h with w | w
      · rw [w]
        exact ⟨by omega, q⟩
      · exact dt_up_mem j w
    · exact dt_up_mem j h
/-! what the bits are -/
def dt_hb (e k : Int) : Int := gs_t (Int32.ofInt (gs_t (Int32.ofInt e >>> (Int32.ofInt k &&& 31))) &&& Int32.ofInt 1)
def dt_hr (e y : Int) : Int := gs_t (Int32.ofInt e &&& Int32.ofInt (gs_t (Int32.ofInt (gs_t (Int32.ofInt 1 <<< (Int32.ofInt y &&& 31))) ^^^ Int32.ofInt (-1))))
def dt_h1 (k : Int) : Int := gs_t (Int32.ofInt 1 <<< (Int32.ofInt k &&& 31))
theorem dt_hb_all : ∀ e : Fin 64, ∀ k : Fin 12, dt_hb (e.val : Int) (k.val : Int) = if e.val.testBit k.val then 1 else 0 := by decide +kernel
theorem dt_hr_all : ∀ e : Fin 64, ∀ y : Fin 6, e.val.testBit y.val = true → dt_hr (e.val : Int) (y.val : Int) = ((e.val - 2 ^ y.val : Nat) : Int) := by decide +kernel
theorem dt_h1_all : ∀ k : Fin 7, dt_h1 (k.val : Int) = ((2 ^ k.val : Nat) : Int) := by decide +kernel
theorem dt_hb_at {e k : Int} (he : 0 ≤ e ∧ e < 64) (hk : 0 ≤ k ∧ k < 12) : dt_hb e k = if e.toNat.testBit k.toNat then 1 else 0 := by
  have h := dt_hb_all ⟨e.toNat, by omega⟩ ⟨k.toNat, by omega⟩
  have h : dt_hb ((e.toNat : Nat) : Int) ((k.toNat : Nat) : Int) = if e.toNat.testBit k.toNat then 1 else 0 := h
  rw [Int.toNat_of_nonneg he.1, Int.toNat_of_nonneg hk.1] at h
  exact h
theorem dt_hb_1 {e k : Int} (he : 0 ≤ e ∧ e < 64) (hk : 0 ≤ k ∧ k < 12) : dt_hb e k ≠ 0 ↔ e.toNat.testBit k.toNat = true := by
  rw [dt_hb_at he hk]
  by_cases q : e.toNat.testBit k.toNat = true
  · rw [if_pos q]
    exact ⟨fun _ => q, fun _ => by decide⟩
  · rw [if_neg q]
    exact ⟨fun w => absurd rfl w, fun w => absurd w q⟩
theorem dt_hr_at {e y : Int} (he : 0 ≤ e ∧ e < 64) (hy : 0 ≤ y ∧ y < 6) (q : e.toNat.testBit y.toNat = true) : dt_hr e y = ((e.toNat - 2 ^ y.toNat : Nat) : Int) := by
  have h := dt_hr_all ⟨e.toNat, by omega⟩ ⟨y.toNat, by omega⟩ q
  have h : dt_hr ((e.toNat : Nat) : Int) ((y.toNat : Nat) : Int) = ((e.toNat - 2 ^ y.toNat : Nat) : Int) := h
  rw [Int.toNat_of_nonneg he.1, Int.toNat_of_nonneg hy.1] at h
  exact h
theorem dt_h1_at {k : Int} (hk : 0 ≤ k ∧ k < 7) : dt_h1 k = ((2 ^ k.toNat : Nat) : Int) := by
  have h := dt_h1_all ⟨k.toNat, by omega⟩
  have h : dt_h1 ((k.toNat : Nat) : Int) = ((2 ^ k.toNat : Nat) : Int) := h
  rw [Int.toNat_of_nonneg hk.1] at h
  exact h
theorem dt_s_1 {e y : Nat} (h : e.testBit y = true) : dt_s e (y + 1) = -(dt_s e y) := by
  unfold dt_s
  show (if (dt_c e y + (if e.testBit y then 1 else 0)) % 2 = 0 then (1 : Int) else -1) = _
  rw [if_pos h]
  split <;> split <;> omega
theorem dt_s_0 {e y : Nat} (h : ¬ e.testBit y = true) : dt_s e (y + 1) = dt_s e y := by
  unfold dt_s
  show (if (dt_c e y + (if e.testBit y then 1 else 0)) % 2 = 0 then (1 : Int) else -1) = _
  rw [if_neg h, Nat.add_zero]
/-- how often y stands in a row, less its opposite -/
def dt_bal (y : Int) : List Int → Int
  | [] => 0
  | x :: r => dt_bal y r + (if x = y then 1 else if x = -y then -1 else 0)
def dt_T17 (A : gs_F) : Nat → Nat → Int := fun x y => A 17 (6 * x + y)
theorem dt_step {f : Nat → Int} {s t : Int64} {y : Nat} {d : Int} (hs : s = Int64.ofInt (gs_sum f y)) (ht : t = Int64.ofInt d) (hd : f y = d) : s + t = Int64.ofInt (gs_sum f (y + 1)) := by
  show s + t = Int64.ofInt (gs_sum f y + f y)
  rw [hs, ht, hd, Int64.ofInt_add]
theorem dt_keep {f : Nat → Int} {s : Int64} {y : Nat} (hs : s = Int64.ofInt (gs_sum f y)) (hd : f y = 0) : s = Int64.ofInt (gs_sum f (y + 1)) := by
  show s = Int64.ofInt (gs_sum f y + f y)
  rw [hd, Int.add_zero]
  exact hs
/-- a corner's determinant from row 6 - j on; its sum's term -/
def dt_tm (T : Nat → Nat → Int) (x : Nat) (R : List Nat) (e : Nat) : Nat → Int := fun y => if e.testBit y then dt_s e y * T x y * dt_1 T R (e - 2 ^ y) else 0
theorem dt_up_1 {e j : Nat} (h : e.testBit (5 - j) = true) : dt_up e (j + 1) = (5 - j) :: dt_up e j := if_pos h
theorem dt_up_0 {e j : Nat} (h : ¬ e.testBit (5 - j) = true) : dt_up e (j + 1) = dt_up e j := if_neg h
def dt_T8 (F A : gs_F) : Nat → Nat → Int := fun x y => dt_bal ((y : Int) + 1) (gs_ic F A x)
def dt_T9 (A : gs_F) : Nat → Nat → Int := fun x y => dt_bal ((y : Int) + 1) (gs_im A x)
def dt_ch (T : Nat → Nat → Int) (k : Int) : Nat → Int := fun m => if (dt_c m 6 : Int) = k then dt_1 T (dt_up m 6) m else 0
def dt_ch9 (T : Nat → Nat → Int) (k : Int) : Nat → Int := fun m => if (dt_c m 6 : Int) = k then dt_2 T (dt_rows m 6) m else 0
theorem dt_ch_eq {T : Nat → Nat → Int} {k : Int} {m : Nat} (hm : m < 64) : dt_ch T k m = dt_ch9 T k m := by
  unfold dt_ch dt_ch9
  obtain ⟨a, b⟩ := dt_upr ⟨m, hm⟩
  have a : dt_up m 6 = (dt_rows m 6).reverse := a
  have b : (dt_rows m 6).length = dt_c m 6 := b
  rw [a, dt_12 _ m hm b.symm]
theorem dt_ltb : ∀ L : Fin 7, ∀ m : Fin 64, ∀ x : Fin 6, m.val < 2 ^ L.val → m.val.testBit x.val = true → x.val < L.val := by decide +kernel
theorem dt_lt {L m x : Nat} (hL : L < 7) (hm : m < 64) (hx : x < 6) (h : m < 2 ^ L) (q : m.testBit x = true) : x < L := dt_ltb ⟨L, hL⟩ ⟨m, hm⟩ ⟨x, hx⟩ h q
theorem dt_p6 {L : Nat} (hL : L < 7) : 2 ^ L ≤ 64 := Nat.pow_le_pow_right (by decide) (show L ≤ 6 by omega)
theorem dt_1_N {T T2 : Nat → Nat → Int} {L m : Nat} (hL : L < 7) (h : m < 2 ^ L) (hT : ∀ x y : Nat, x < L → y < L → T x y = T2 x y) : dt_1 T (dt_up m 6) m = dt_1 T2 (dt_up m 6) m := by
  have h6 := dt_p6 hL
  refine dt_1_cg (N := L) _ m (by omega) (fun x hx => ?_) (fun y hy q => dt_lt hL (by omega) hy h q) hT
  obtain ⟨a, b⟩ := dt_up_mem 6 hx
  exact dt_lt hL (by omega) a h b
theorem dt_b01 (x : Int) : 0 ≤ gs_t (Int32.ofInt x &&& Int32.ofInt 1) ∧ gs_t (Int32.ofInt x &&& Int32.ofInt 1) ≤ 1 := by
  rw [Int32.and_comm]
  exact gs_and_le (by omega)
theorem dt_sgn {e y : Nat} {z : Int} (h : z = ((dt_c e 6 - dt_c e (y + 1) : Nat) : Int)) : dt_t e y = if z % 2 = 0 then 1 else -1 := by
  unfold dt_t
  by_cases q : (dt_c e 6 - dt_c e (y + 1)) % 2 = 0
  · rw [if_pos q, if_pos (by omega)]
  · rw [if_neg q, if_neg (by omega)]
/-! bits counted, as java.lang.Integer does -/
def dt_us (x k : Int) : Int := gs_t (((Int32.ofInt x).toUInt32 >>> ((Int32.ofInt k).toUInt32 &&& Int32.toUInt32 31)).toInt32)
def dt_an (x z : Int) : Int := gs_t (Int32.ofInt x &&& Int32.ofInt z)
def dt_b1 (x : Int) : Int := x - dt_an (dt_us x 1) 1431655765
def dt_b2 (x : Int) : Int := dt_an x 858993459 + dt_an (dt_us x 2) 858993459
def dt_b3 (x : Int) : Int := dt_an (x + dt_us x 4) 252645135
def dt_b4 (x : Int) : Int := x + dt_us x 8
def dt_b5 (x : Int) : Int := dt_an (x + dt_us x 16) 63
theorem dt_bc_all : ∀ x : Fin 64, dt_b5 (dt_b4 (dt_b3 (dt_b2 (dt_b1 (x.val : Int))))) = (dt_c x.val 6 : Int) := by decide +kernel
theorem dt_bc {x : Int} (hx : 0 ≤ x ∧ x < 64) : dt_b5 (dt_b4 (dt_b3 (dt_b2 (dt_b1 x)))) = (dt_c x.toNat 6 : Int) := by
  have h := dt_bc_all ⟨x.toNat, by omega⟩
  have h : dt_b5 (dt_b4 (dt_b3 (dt_b2 (dt_b1 ((x.toNat : Nat) : Int))))) = (dt_c x.toNat 6 : Int) := h
  rw [Int.toNat_of_nonneg hx.1] at h
  exact h
theorem dt_c_le : ∀ e : Fin 64, dt_c e.val 6 ≤ 6 ∧ dt_c e.val 12 = dt_c e.val 6 ∧ (dt_c e.val 6 = 0 → e.val = 0) := by decide +kernel
/-! the reference's way -/
def dt_sub (m e : Nat) : Bool := (m.testBit 0 == false || e.testBit 0) && (m.testBit 1 == false || e.testBit 1) && (m.testBit 2 == false || e.testBit 2) && (m.testBit 3 == false || e.testBit 3) && (m.testBit 4 == false || e.testBit 4) && (m.testBit 5 == false || e.testBit 5)
def dt_hs (m e : Int) : Int := gs_t (Int32.ofInt m &&& Int32.ofInt (gs_t (Int32.ofInt e ^^^ Int32.ofInt (-1))))
def dt_sh (m u : Int) : Int := gs_t (Int32.ofInt m >>> (Int32.ofInt u &&& 31))
theorem dt_hs_all : ∀ m e : Fin 64, dt_hs (m.val : Int) (e.val : Int) = 0 ↔ dt_sub m.val e.val = true := by decide +kernel
theorem dt_sh_all : ∀ m : Fin 64, ∀ u : Fin 7, 0 ≤ dt_sh (m.val : Int) (u.val : Int) ∧ dt_sh (m.val : Int) (u.val : Int) < 64 ∧ dt_c (dt_sh (m.val : Int) (u.val : Int)).toNat 6 = dt_c m.val 6 - dt_c m.val u.val := by decide +kernel
theorem dt_sub_all : ∀ m e : Fin 64, ∀ y : Fin 6, dt_sub m.val e.val = true → m.val.testBit y.val = true → (e.val.testBit y.val = true ∧ dt_sub (m.val - 2 ^ y.val) e.val = true) := by decide +kernel
theorem dt_sub_self : ∀ e : Fin 64, dt_sub e.val e.val = true := by decide +kernel
theorem dt_hs_at {m e : Int} (hm : 0 ≤ m ∧ m < 64) (he : 0 ≤ e ∧ e < 64) : dt_hs m e = 0 ↔ dt_sub m.toNat e.toNat = true := by
  have h := dt_hs_all ⟨m.toNat, by omega⟩ ⟨e.toNat, by omega⟩
  have h : dt_hs ((m.toNat : Nat) : Int) ((e.toNat : Nat) : Int) = 0 ↔ dt_sub m.toNat e.toNat = true := h
  rw [Int.toNat_of_nonneg hm.1, Int.toNat_of_nonneg he.1] at h
  exact h
theorem dt_sh_at {m u : Int} (hm : 0 ≤ m ∧ m < 64) (hu : 0 ≤ u ∧ u < 7) : 0 ≤ dt_sh m u ∧ dt_sh m u < 64 ∧ dt_c (dt_sh m u).toNat 6 = dt_c m.toNat 6 - dt_c m.toNat u.toNat := by
  have h := dt_sh_all ⟨m.toNat, by omega⟩ ⟨u.toNat, by omega⟩
  have h : 0 ≤ dt_sh ((m.toNat : Nat) : Int) ((u.toNat : Nat) : Int) ∧ dt_sh ((m.toNat : Nat) : Int) ((u.toNat : Nat) : Int) < 64 ∧ dt_c (dt_sh ((m.toNat : Nat) : Int) ((u.toNat : Nat) : Int)).toNat 6 = dt_c m.toNat 6 - dt_c m.toNat u.toNat := h
  rw [Int.toNat_of_nonneg hm.1, Int.toNat_of_nonneg hu.1] at h
  exact h
def dt_tm2 (T : Nat → Nat → Int) (x : Nat) (R : List Nat) (e : Nat) : Nat → Int := fun y => if e.testBit y then dt_t e y * T x y * dt_2 T R (e - 2 ^ y) else 0
theorem dt_sum_end {f : Nat → Int} {n : Nat} : ∀ m : Nat, (∀ i : Nat, n ≤ i → i < n + m → f i = 0) → gs_sum f (n + m) = gs_sum f n
  | 0, _ => rfl
  | m + 1, h => by
    show gs_sum f (n + m) + f (n + m) = gs_sum f n
    rw [dt_sum_end m (fun i h1 h2 => h i h1 (by omega)), h (n + m) (by omega) (by omega), Int.add_zero]
theorem dt_subb : ∀ L : Fin 7, ∀ m e : Fin 64, dt_sub m.val e.val = true → e.val < 2 ^ L.val → m.val < 2 ^ L.val := by decide +kernel
theorem dt_rows_1 {e k : Nat} (h : e.testBit k = true) : dt_rows e (k + 1) = k :: dt_rows e k := if_pos h
theorem dt_rows_0 {e k : Nat} (h : ¬ e.testBit k = true) : dt_rows e (k + 1) = dt_rows e k := if_neg h
theorem dt_c_1 {e k : Nat} (h : e.testBit k = true) : dt_c e (k + 1) = dt_c e k + 1 := by
  show dt_c e k + (if e.testBit k then 1 else 0) = _
  rw [if_pos h]
theorem dt_c_0 {e k : Nat} (h : ¬ e.testBit k = true) : dt_c e (k + 1) = dt_c e k := by
  show dt_c e k + (if e.testBit k then 1 else 0) = _
  rw [if_neg h, Nat.add_zero]
theorem dt_rowsb : ∀ L : Fin 7, ∀ e : Fin 64, e.val < 2 ^ L.val → dt_rows e.val L.val = dt_rows e.val 6 ∧ dt_c e.val L.val = dt_c e.val 6 := by decide +kernel
/-- the minors of r rows that stand in M, of the rows R -/
def dt_mi (T : Nat → Nat → Int) (M : Nat → Int) (e : Nat) (r : Int) (R : List Nat) : Prop := ∀ m : Nat, m < 64 → dt_sub m e = true → (dt_c m 6 : Int) = r → Int64.ofInt (M m) = Int64.ofInt (dt_2 T R m)
theorem dt_mi_store {T : Nat → Nat → Int} {M M2 : Nat → Int} {e : Nat} {r c : Int} {R : List Nat} {x : Int} (h : dt_mi T M e r R) (e2 : M2 = gs_u M c.toNat x) (hc : (dt_c c.toNat 6 : Int) ≠ r) : dt_mi T M2 e r R := by
  intro m hm hs hr
  rw [e2, gs_u_ne _ _ (fun w => hc (by rw [← w]; exact hr))]
  exact h m hm hs hr
end
