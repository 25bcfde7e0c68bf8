noncomputable section
/-! ===== the new objects as two tables ===== -/
def gs_eF (e : ri_E) (j : Nat) : Int := match e with
  | .inr (_, fs) => (match fs[j]? with
    | some (.retAddr n) => (nI n).toInt
    | _ => 0)
  | _ => 0
def gs_eA (e : ri_E) (i : Nat) : Int := match e with
  | .inl (_, .inl l) => (nI (l.getD i 0)).toInt
  | _ => 0
def gs_F0 (k j : Nat) : Int := if k < 122 then (match ri_get p1_lit.2.2 k with
  | some e => gs_eF e j
  | none => 0) else 0
def gs_A0 (k i : Nat) : Int := if k < 122 then (match ri_get p1_lit.2.2 k with
  | some e => gs_eA e i
  | none => 0) else 0
def gs_okf : List (Option Nat) → List Value → Bool
  | [], [] => true
  | none :: t, .retAddr _ :: u => gs_okf t u
  | some r :: t, .ref r2 :: u => Nat.beq r r2 && gs_okf t u
  | _, _ => false
def gs_okc (s : gs_S) (e : ri_E) : Bool := match e with
  | .inr (c, fs) => (match s with
    | .inl (ci, sh) => Nat.beq ci c && gs_okf sh fs
    | _ => false)
  | .inl (t, .inl l) => (match s with
    | .inr (.inl (t2, n)) => Nat.beq t 0 && (Nat.beq t2 0 && Nat.beq l.length n)
    | _ => false)
  | .inl (t, .inr (.inl l)) => (match s with
    | .inr (.inl (t2, n)) => Nat.beq t 1 && (Nat.beq t2 1 && decide (l = List.replicate n 0))
    | _ => false)
  | .inl (t, .inr (.inr l)) => (match s with
    | .inr (.inr (t2, n, b, st)) => Nat.beq t t2 && decide (l = (List.range n).map (fun i => some (b + st * i)))
    | _ => false)
theorem gs_okf_eq (G : am_G) (F : gs_F) (a : Nat) : ∀ (sh : List (Option Nat)) (fs : List Value) (i : Nat), gs_okf sh fs = true → (∀ j n, fs[j]? = some (.retAddr n) → F a (i + j) = (nI n).toInt) → fs.map (am_cv G) = (gs_fl F a i sh).map (am_cv G)
  | [], [], _, _, _ => rfl
  | none :: t, .retAddr n :: u, i, h, hF => by
    have h0 := hF 0 n rfl
    rw [Nat.add_zero] at h0
    have ih := gs_okf_eq G F a t u (i + 1) h (fun j m hj => by
      have := hF (j + 1) m (by simpa using hj)
      have e : i + 1 + j = i + (j + 1) := by omega
      rw [e]
      exact this)
    simp only [gs_fl, List.map_cons, ih]
    congr 1
    show Value.int (nI n) = Value.int (Int32.ofInt (F a i))
    rw [h0, Int32.ofInt_toInt]
  | some r :: t, .ref r2 :: u, i, h, hF => by
    have h : (Nat.beq r r2 && gs_okf t u) = true := h
    rw [Bool.and_eq_true, Nat.beq_eq] at h
    have ih := gs_okf_eq G F a t u (i + 1) h.2 (fun j m hj => by
      have := hF (j + 1) m (by simpa using hj)
      have e : i + 1 + j = i + (j + 1) := by omega
      rw [e]
      exact this)
    simp only [gs_fl, List.map_cons, ih]
    rw [h.1]
def gs_ok0 (k : Nat) : Bool := match ri_get p1_lit.2.2 k with
  | some e => gs_okc (gs_sh k) e
  | none => false
set_option maxRecDepth 1000000 in
theorem gs_ok0_all : ∀ k, k < 122 → gs_ok0 k = true := by decide +kernel
theorem gs_start (G : am_G) (k : Nat) (hk : k < 122) : am_ce G (ri_h p1_lit k) = am_ce G (gs_en gs_F0 gs_A0 k) := by
  have h := gs_ok0_all k hk
  unfold gs_ok0 at h
  split at h
  · rename_i e he
    rw [ri_h_at he]
    have hF : ∀ j, gs_F0 k j = gs_eF e j := fun j => by unfold gs_F0; rw [if_pos hk, he]
    have hA : ∀ j, gs_A0 k j = gs_eA e j := fun j => by unfold gs_A0; rw [if_pos hk, he]
    unfold gs_en
    generalize gs_sh k = s at h
    unfold gs_okc at h
    split at h
    · rename_i c fs
      split at h
      · rename_i ci sh
        rw [Bool.and_eq_true, Nat.beq_eq] at h
        rw [h.1]
        show Sum.inr (c, fs.map (am_cv G)) = Sum.inr (c, (gs_fl gs_F0 k 0 sh).map (am_cv G))
        rw [gs_okf_eq G gs_F0 k sh fs 0 h.2 (fun j n hj => by rw [Nat.zero_add, hF j]; show (match fs[j]? with | some (.retAddr n) => (nI n).toInt | _ => 0) = _; rw [hj])]
      · cases h
    · rename_i t l
      split at h
      · rename_i t2 n
        simp only [Bool.and_eq_true, Nat.beq_eq] at h
        obtain ⟨h1, h2, h3⟩ := h
        rw [h1, h2, ← h3]
        show Sum.inl (am_aC G 0, l.length, Sum.inl (fun j => nI (l.getD j 0))) = Sum.inl (am_aC G 0, l.length, Sum.inl (fun i => Int32.ofInt (gs_A0 k i)))
        congr 4
        funext j
        rw [hA j]
        show _ = Int32.ofInt (nI (l.getD j 0)).toInt
        rw [Int32.ofInt_toInt]
      · cases h
    · rename_i t l
      split at h
      · rename_i t2 n
        simp only [Bool.and_eq_true, Nat.beq_eq, decide_eq_true_eq] at h
        obtain ⟨h1, h2, h3⟩ := h
        rw [h1, h2, h3]
        show Sum.inl (am_aC G 1, (List.replicate n (0 : Int64)).length, Sum.inr (Sum.inl (fun j => (List.replicate n (0 : Int64)).getD j 0))) = Sum.inl (am_aC G 1, n, Sum.inr (Sum.inl (fun i => Int64.ofInt (gs_A0 k i))))
        rw [List.length_replicate]
        congr 5
        funext j
        rw [hA j]
        show _ = Int64.ofInt 0
        have e1 : (List.replicate n (0 : Int64)).getD j 0 = 0 := by
          rw [List.getD_eq_getElem?_getD, List.getElem?_replicate]
          split <;> rfl
        rw [e1]
        rfl
      · cases h
    · rename_i t l
      split at h
      · rename_i t2 n b st
        simp only [Bool.and_eq_true, Nat.beq_eq, decide_eq_true_eq] at h
        obtain ⟨h1, h3⟩ := h
        rw [h1, h3]
        show Sum.inl (am_aC G t2, ((List.range n).map (fun i => some (b + st * i))).length, Sum.inr (Sum.inr (Sum.inr (Sum.inr (fun j => (((List.range n).map (fun i => some (b + st * i))).getD j none).map (fun a => am_B G + a)))))) = Sum.inl (am_aC G t2, n, Sum.inr (Sum.inr (Sum.inr (Sum.inr (fun j => (if j < n then some (b + st * j) else none).map (fun a => am_B G + a))))))
        rw [List.length_map, List.length_range]
        congr 7
        funext j
        congr 1
        rw [List.getD_eq_getElem?_getD, List.getElem?_map]
        by_cases hj : j < n
        · rw [List.getElem?_range hj, if_pos hj]
          rfl
        · rw [List.getElem?_eq_none (by simpa using hj), if_neg hj]
          rfl
      · cases h
  · cases h
def gs_in (b : Int × Int) (x : Int) : Bool := decide (b.1 ≤ x ∧ x ≤ b.2)
def gs_bke (k : Nat) (e : ri_E) : Bool := (List.range 28).all (fun j => gs_in (gs_bF k j) (gs_eF e j)) && (match e with
  | .inl (_, .inl l) => l.all (fun n => gs_in (gs_bA k) (nI n).toInt)
  | _ => true)
def gs_bk (k : Nat) : Bool := Nat.ble (gs_bfl.getD k []).length 28 && (gs_in (gs_bA k) 0 && (match ri_get p1_lit.2.2 k with
  | some e => gs_bke k e
  | none => false))
set_option maxRecDepth 1000000 in
theorem gs_bk_all : ∀ k, k < 122 → gs_bk k = true := by decide +kernel
theorem gs_bfl_len : gs_bfl.length = 122 := by decide +kernel
theorem gs_bal_len : gs_bal.length = 122 := by decide +kernel
theorem gs_bF_out {a j : Nat} (h : 122 ≤ a ∨ (gs_bfl.getD a []).length ≤ j) : gs_bF a j = (-2147483648, 2147483647) := by
  unfold gs_bF
  rcases h with h | h
  · have e : gs_bfl.getD a [] = [] := by rw [List.getD_eq_getElem?_getD, List.getElem?_eq_none (by rw [gs_bfl_len]; exact h)]; rfl
    rw [e]
    rfl
  · rw [List.getD_eq_getElem?_getD (l := gs_bfl.getD a []), List.getElem?_eq_none h]
    rfl
theorem gs_bA_out {a : Nat} (h : 122 ≤ a) : gs_bA a = (0, 0) := by
  unfold gs_bA
  rw [List.getD_eq_getElem?_getD, List.getElem?_eq_none (by rw [gs_bal_len]; exact h)]
  rfl
theorem gs_in_ok {b : Int × Int} {x : Int} (h : gs_in b x = true) : b.1 ≤ x ∧ x ≤ b.2 := of_decide_eq_true h
theorem gs_eF_rng (e : ri_E) (j : Nat) : -2147483648 ≤ gs_eF e j ∧ gs_eF e j ≤ 2147483647 := by
  unfold gs_eF
  split
  · split
    · rename_i n _
      have w1 := Int32.le_toInt (nI n)
      have w2 := Int32.toInt_lt (nI n)
      omega
    · decide
  · decide
theorem gs_I0 : gs_I gs_F0 gs_A0 := by
  refine ⟨fun a j => ?_, fun a i => ?_⟩
  · by_cases ha : a < 122
    · have h := gs_bk_all a ha
      unfold gs_bk at h
      rw [Bool.and_eq_true, Bool.and_eq_true, Nat.ble_eq] at h
      obtain ⟨h1, h2, h3⟩ := h
      unfold gs_F0
      rw [if_pos ha]
      cases hr : ri_get p1_lit.2.2 a with
      | none => rw [hr] at h3; cases h3
      | some e =>
        rw [hr] at h3
        have h3 : gs_bke a e = true := h3
        show (gs_bF a j).1 ≤ gs_eF e j ∧ gs_eF e j ≤ (gs_bF a j).2
        by_cases hj : j < 28
        · unfold gs_bke at h3
          rw [Bool.and_eq_true] at h3
          exact gs_in_ok (List.all_eq_true.mp h3.1 j (List.mem_range.mpr hj))
        · rw [gs_bF_out (.inr (by omega))]
          exact gs_eF_rng e j
    · unfold gs_F0
      rw [if_neg ha, gs_bF_out (.inl (by omega))]
      decide
  · by_cases ha : a < 122
    · have h := gs_bk_all a ha
      unfold gs_bk at h
      rw [Bool.and_eq_true, Bool.and_eq_true, Nat.ble_eq] at h
      obtain ⟨h1, h2, h3⟩ := h
      have h2 := gs_in_ok h2
      unfold gs_A0
      rw [if_pos ha]
      cases hr : ri_get p1_lit.2.2 a with
      | none => rw [hr] at h3; cases h3
      | some e =>
        rw [hr] at h3
        have h3 : gs_bke a e = true := h3
        unfold gs_bke at h3
        rw [Bool.and_eq_true] at h3
        have h4 := h3.2
        rcases e with ⟨t, l | l⟩ | ⟨c, fs⟩
        · have h4 : l.all (fun n => gs_in (gs_bA a) (nI n).toInt) = true := h4
          show (gs_bA a).1 ≤ (nI (l.getD i 0)).toInt ∧ (nI (l.getD i 0)).toInt ≤ (gs_bA a).2
          rw [List.getD_eq_getElem?_getD]
          cases hl : l[i]? with
          | none => exact h2
          | some n => exact gs_in_ok (List.all_eq_true.mp h4 n (List.mem_of_getElem? hl))
        · exact h2
        · exact h2
    · unfold gs_A0
      rw [if_neg ha, gs_bA_out (by omega)]
      decide
end
