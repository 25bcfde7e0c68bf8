noncomputable section
/-! ===== plain facts of the runnable machine ===== -/
theorem ri_get_put {C : List (List ri_E)} {k : Nat} {e0 : ri_E} (e : ri_E) (h : ri_get C k = some e0) (j : Nat) : ri_get (ri_put C k e) j = if j = k then some e else ri_get C j := by
  unfold ri_get at h
  split at h
  · rename_i c hc
    have hl1 : k / 8 < C.length := by rw [ri_nth_eq] at hc; exact (List.getElem?_eq_some_iff.mp hc).1
    have hl2 : k % 8 < c.length := by rw [ri_nth_eq] at h; exact (List.getElem?_eq_some_iff.mp h).1
    unfold ri_put ri_get
    simp only [hc, ri_upd_eq]
    simp only [ri_nth_eq] at hc ⊢
    by_cases h1 : j / 8 = k / 8
    · rw [h1, List.getElem?_set_self hl1]
      simp only [hc]
      by_cases h2 : j % 8 = k % 8
      · rw [h2, List.getElem?_set_self hl2, if_pos (by omega)]
      · rw [List.getElem?_set_ne (Ne.symm h2), if_neg (fun e => h2 (by rw [e]))]
    · rw [List.getElem?_set_ne (Ne.symm h1), if_neg (fun e => h1 (by rw [e]))]
  · cases h
theorem ri_h_at {L : ri_L} {a : Nat} {e : ri_E} (h : ri_get L.2.2 a = some e) : ri_h L a = ri_e e := by simp [ri_h, h]
theorem ri_h_put {C : List (List ri_E)} {k : Nat} {e0 : ri_E} (e : ri_E) (h : ri_get C k = some e0) (n s n2 s2 : Nat) : ri_h (n, s, ri_put C k e) = va_up (ri_h (n2, s2, C)) k (ri_e e) := by
  funext j
  simp only [ri_h, ri_get_put e h j, va_up]
  by_cases hj : j = k
  · simp [hj]
  · simp [hj]
theorem ri_lt {L : ri_L} {a : Nat} (h : ¬ Nat.ble L.1 a = true) : a < L.1 := by
  rw [Nat.ble_eq] at h
  omega
theorem ri_fu_i (l : List Nat) {i : Nat} (x : Nat) (h : i < l.length) : (fun j => nI ((l.set i x).getD j 0)) = upd (fun j => nI (l.getD j 0)) i (nI x) := by
  funext j
  by_cases hj : j = i
  · subst hj
    simp [upd, List.getD, h]
  · simp [upd, List.getD, hj, List.getElem?_set_ne (Ne.symm hj)]
theorem ri_fu_l (l : List Int64) {i : Nat} (x : Int64) (h : i < l.length) : (fun j => (l.set i x).getD j 0) = vp_updL (fun j => l.getD j 0) i x := by
  funext j
  by_cases hj : j = i
  · subst hj
    simp [vp_updL, List.getD, h]
  · simp [vp_updL, List.getD, hj, List.getElem?_set_ne (Ne.symm hj)]
theorem ri_fu_q (l : List (Option Nat)) {i : Nat} (x : Option Nat) (h : i < l.length) : (fun j => (l.set i x).getD j none) = va_up (fun j => l.getD j none) i x := by
  funext j
  by_cases hj : j = i
  · subst hj
    simp [va_up, List.getD, h]
  · simp [va_up, List.getD, hj, List.getElem?_set_ne (Ne.symm hj)]
theorem ri_cpy_len {l1 l2 : List Nat} {sp dp n : Nat} (h1 : sp + n ≤ l1.length) (h2 : dp + n ≤ l2.length) : (l2.take dp ++ ((l1.drop sp).take n ++ l2.drop (dp + n))).length = l2.length := by
  simp; omega
theorem ri_cpy_eq {l1 l2 : List Nat} {sp dp n : Nat} (h1 : sp + n ≤ l1.length) (h2 : dp + n ≤ l2.length) : (fun j => nI ((l2.take dp ++ ((l1.drop sp).take n ++ l2.drop (dp + n))).getD j 0)) = va_cpy (fun j => nI (l1.getD j 0)) (fun j => nI (l2.getD j 0)) sp dp n := by
  funext j
  simp only [va_cpy, List.getD]
  have e1 : (l2.take dp).length = dp := by simp; omega
  have e2 : ((l1.drop sp).take n).length = n := by simp; omega
  by_cases c1 : j < dp
  · rw [List.getElem?_append_left (by omega), if_neg (by omega), List.getElem?_take_of_lt c1]
  · rw [List.getElem?_append_right (by omega), e1]
    by_cases c2 : j < dp + n
    · rw [List.getElem?_append_left (by omega), if_pos ⟨by omega, c2⟩, List.getElem?_take_of_lt (by omega), List.getElem?_drop]
    · rw [List.getElem?_append_right (by omega), e2, if_neg (by omega), List.getElem?_drop]
      congr 3
      omega
def am_Env (G : am_G) (E : ri_Env) : Prop := ∀ (b : Nat) (lo hi : Int), E[b]? = some (lo, hi) → lo ≤ (am_rho G b).toInt ∧ (am_rho G b).toInt ≤ hi
def am_xi (G : am_G) (v : Value) : Int32 := match v with
  | .retAddr n => nI n
  | .float b => am_rho G b.toNat
  | _ => 0
theorem am_cvf (G : am_G) {b : UInt32} (h : Nat.ble b.toNat 1000 = true) : am_cv G (.float b) = .int (am_rho G b.toNat) := by
  rw [Nat.ble_eq] at h
  show (if b = 4294967295 then Value.ref (am_pl G) else if 3000 ≤ b.toNat ∧ b.toNat < 4000 then Value.ref (am_B G + (91 + 2 * (am_rho G (b.toNat - 3000)).toNatClampNeg)) else if 2000 ≤ b.toNat ∧ b.toNat < 3000 then Value.ref (am_B G + (90 + 2 * (am_rho G (b.toNat - 2000)).toNatClampNeg)) else Value.int (am_rho G b.toNat)) = _
  rw [if_neg (fun e => by subst e; simp at h), if_neg (by omega), if_neg (by omega)]
/-- the number of an unknown plan -/
def am_px (G : am_G) (i : Nat) : Nat := (am_rho G i).toNatClampNeg
theorem am_cvP (G : am_G) {b : UInt32} (h1 : 2000 ≤ b.toNat) (h2 : b.toNat ≤ 2900) : am_cv G (.float b) = .ref (am_B G + (90 + 2 * am_px G (b.toNat - 2000))) := by
  show (if b = 4294967295 then Value.ref (am_pl G) else if 3000 ≤ b.toNat ∧ b.toNat < 4000 then Value.ref (am_B G + (91 + 2 * (am_rho G (b.toNat - 3000)).toNatClampNeg)) else if 2000 ≤ b.toNat ∧ b.toNat < 3000 then Value.ref (am_B G + (90 + 2 * (am_rho G (b.toNat - 2000)).toNatClampNeg)) else Value.int (am_rho G b.toNat)) = _
  rw [if_neg (fun e => by subst e; simp at h2), if_neg (by omega), if_pos (by omega)]
  rfl
theorem am_cvC (G : am_G) {b : UInt32} (h1 : 3000 ≤ b.toNat) (h2 : b.toNat ≤ 3900) : am_cv G (.float b) = .ref (am_B G + (91 + 2 * am_px G (b.toNat - 3000))) := by
  show (if b = 4294967295 then Value.ref (am_pl G) else if 3000 ≤ b.toNat ∧ b.toNat < 4000 then Value.ref (am_B G + (91 + 2 * (am_rho G (b.toNat - 3000)).toNatClampNeg)) else if 2000 ≤ b.toNat ∧ b.toNat < 3000 then Value.ref (am_B G + (90 + 2 * (am_rho G (b.toNat - 2000)).toNatClampNeg)) else Value.int (am_rho G b.toNat)) = _
  rw [if_neg (fun e => by subst e; simp at h2), if_pos (by omega)]
  rfl
theorem am_cvR (G : am_G) {b : UInt32} (h1 : 2000 ≤ b.toNat) (h2 : b.toNat ≤ 3900) : ∃ x, am_cv G (.float b) = .ref x := by
  show ∃ x, (if b = 4294967295 then Value.ref (am_pl G) else if 3000 ≤ b.toNat ∧ b.toNat < 4000 then Value.ref (am_B G + (91 + 2 * (am_rho G (b.toNat - 3000)).toNatClampNeg)) else if 2000 ≤ b.toNat ∧ b.toNat < 3000 then Value.ref (am_B G + (90 + 2 * (am_rho G (b.toNat - 2000)).toNatClampNeg)) else Value.int (am_rho G b.toNat)) = .ref x
  by_cases e : b = 4294967295
  · exact ⟨_, if_pos e⟩
  · rw [if_neg e]
    by_cases h3 : 3000 ≤ b.toNat
    · exact ⟨_, if_pos ⟨h3, by omega⟩⟩
    · rw [if_neg (by omega)]
      exact ⟨_, if_pos ⟨h1, by omega⟩⟩
theorem am_xi_cv (G : am_G) {v : Value} (h : ri_isI v = true) : am_cv G v = .int (am_xi G v) := by
  cases v <;> simp only [ri_isI] at h <;> (try (cases h; done))
  · exact am_cvf G h
  · rfl
def am_xl (G : am_G) (v : Value) : Int64 := match v with
  | .long x => x
  | .double b => (am_rho G b.toNat).toInt64
  | _ => 0
theorem am_xl_cv (G : am_G) {v : Value} (h : ri_isL v = true) : am_cv G v = .long (am_xl G v) := by cases v <;> first | rfl | (simp [ri_isL] at h)
theorem am_stc {G : am_G} {d : Nat} {y : am_M} {mc ms : Nat} {post : am_T} {k n pc N : Nat} {lv : List (Nat × Value)} {st st2 : List Value} {h : am_H} (he : st.map (am_cv G) = st2.map (am_cv G)) (kk : am_A G d y mc ms post k n pc lv st2 N h) : am_A G d y mc ms post k n pc lv st N h := by
  intro p e s m args below meth c H locs ls X hW hlo hl
  rw [he]
  exact kk p e s m args below meth c H locs ls X hW hlo hl
theorem am_lvs {G : am_G} {d : Nat} {y : am_M} {mc ms : Nat} {post : am_T} {k n pc N : Nat} {lv lv2 : List (Nat × Value)} {st : List Value} {h : am_H} (hs : ∀ q ∈ lv2, q ∈ lv) (kk : am_A G d y mc ms post k n pc lv2 st N h) : am_A G d y mc ms post k n pc lv st N h := by
  intro p e s m args below meth c H locs ls X hW hlo hl
  refine kk p e s m args below meth c H locs ls X hW hlo ⟨hl.1, hl.2.1, fun q hq => ?_⟩
  obtain ⟨q2, h2, rfl⟩ := List.mem_map.mp hq
  exact hl.2.2 _ (List.mem_map.mpr ⟨q2, hs q2 h2, rfl⟩)
theorem am_hc {G : am_G} {d : Nat} {y : am_M} {mc ms : Nat} {post : am_T} {k n pc N : Nat} {lv : List (Nat × Value)} {st : List Value} {h h2 : am_H} (he : ∀ j, am_ce G (h j) = am_ce G (h2 j)) (kk : am_A G d y mc ms post k n pc lv st N h2) : am_A G d y mc ms post k n pc lv st N h := by
  intro p e s m args below meth c H locs ls X hW hlo hl
  refine kk p e s m args below meth c H locs ls X ⟨hW.1, hW.2.1, am_P_of fun j hj => ?_⟩ hlo hl
  rw [← he j]
  exact am_at hW hj
theorem nI_toIntb (n : Nat) : (nI n).toInt = ri_sg n := by
  have e : (nI n).toInt = (n : Int).bmod (2 ^ 32) := by
    show (Int32.ofNat n).toInt = _
    rw [Int32.toInt_ofNat']
  rw [e, Int.bmod]
  unfold ri_sg
  split <;> split <;> omega
theorem nI_mod (n : Nat) : nI (n % 4294967296) = nI n := by
  rw [← Int32.toInt_inj, nI_toIntb, nI_toIntb]
  unfold ri_sg
  rw [Nat.mod_mod]
theorem nI_eqb (x z : Nat) : nI x = nI z ↔ x % 4294967296 = z % 4294967296 := by
  rw [← Int32.toInt_inj, nI_toIntb, nI_toIntb]
  unfold ri_sg
  have h1 : x % 4294967296 < 4294967296 := Nat.mod_lt _ (by decide)
  have h2 : z % 4294967296 < 4294967296 := Nat.mod_lt _ (by decide)
  split <;> split <;> omega
theorem ri_b2_lt (x z : Nat) : ri_b2 x < ri_b2 z ↔ nI x < nI z := by
  rw [Int32.lt_iff_toInt_lt, nI_toIntb, nI_toIntb]
  unfold ri_sg ri_b2
  split <;> split <;> omega
theorem ri_cmpn_ok (c : ClassFile.Cond) (x z : Nat) : ri_cmpn c x z = true ↔ am_cmp c (nI x) (nI z) := by
  have h1 := ri_b2_lt x z
  have h2 := ri_b2_lt z x
  have l1 : nI x ≤ nI z ↔ ¬ nI z < nI x := Int32.not_lt.symm
  have l2 : nI z ≤ nI x ↔ ¬ nI x < nI z := Int32.not_lt.symm
  cases c <;> simp only [ri_cmpn, am_cmp, Nat.beq_eq, Bool.not_eq_true', nI_eqb, Nat.ble_eq, l1, l2, ← h1, ← h2]
  · rw [← Bool.not_eq_true, Nat.beq_eq]
  · simp [Nat.blt]; omega
  · omega
  · simp [Nat.blt]; omega
  · omega
theorem nI_sub (x z : Nat) : nI x - nI z = nI ((x + (4294967296 - z % 4294967296)) % 4294967296) := by
  rw [nI_mod, ← nI_mod z]
  have h2 : z % 4294967296 < 4294967296 := Nat.mod_lt _ (by decide)
  have h3 : nI (x + (4294967296 - z % 4294967296)) + nI (z % 4294967296) = nI x := by
    rw [nI_add, nI_eqb]
    omega
  rw [← h3]
  generalize nI (x + (4294967296 - z % 4294967296)) = A
  generalize nI (z % 4294967296) = B
  rw [← Int32.toBitVec_inj]
  simp [BitVec.add_sub_cancel]
theorem nI_neg (x : Nat) : -nI x = nI ((4294967296 - x % 4294967296) % 4294967296) := by
  have h := nI_sub 0 x
  rw [Nat.zero_add] at h
  rw [← h, nI_0]
  simp
theorem nI_and (a b : Nat) : nI a &&& nI b = nI (Nat.land a b) := by
  rw [← Int32.toBitVec_inj]
  show BitVec.ofNat 32 a &&& BitVec.ofNat 32 b = BitVec.ofNat 32 (a &&& b)
  apply BitVec.eq_of_toNat_eq
  simp [Nat.and_mod_two_pow]
theorem nI_xor (a b : Nat) : nI a ^^^ nI b = nI (Nat.xor a b) := by
  rw [← Int32.toBitVec_inj]
  show BitVec.ofNat 32 a ^^^ BitVec.ofNat 32 b = BitVec.ofNat 32 (a ^^^ b)
  apply BitVec.eq_of_toNat_eq
  simp [Nat.xor_mod_two_pow]
theorem ri_sl : ∀ n, n < 32 → ((nI n &&& 31).toBitVec.smod 32).toNat = n := by decide +kernel
theorem ri_su : ∀ n, n < 32 → (((nI n).toUInt32 &&& Int32.toUInt32 31).toBitVec % 32).toNat = n := by decide +kernel
theorem ri_iv_ok {G : am_G} {E : ri_Env} (hE : am_Env G E) {v : Value} {a : Int × Int} (hI : ri_isI v = true) (h : ri_iv E v = some a) : a.1 ≤ (am_xi G v).toInt ∧ (am_xi G v).toInt ≤ a.2 := by
  cases v <;> simp only [ri_isI] at hI <;> (try (cases hI; done))
  · rename_i b
    simp only [ri_iv, ri_nth_eq] at h
    exact hE _ _ _ h
  · rename_i x
    simp only [ri_iv, Option.some.injEq] at h
    subst h
    show ri_sg x ≤ (nI x).toInt ∧ (nI x).toInt ≤ ri_sg x
    rw [nI_toIntb]
    exact ⟨Int.le_refl _, Int.le_refl _⟩
theorem ri_dec_ok {c : ClassFile.Cond} {a b : Int × Int} {x z : Int32} {r : Bool} (hx : a.1 ≤ x.toInt ∧ x.toInt ≤ a.2) (hz : b.1 ≤ z.toInt ∧ z.toInt ≤ b.2) (h : ri_dec c a b = some r) : r = true ↔ am_cmp c x z := by
  have e1 : x = z ↔ x.toInt = z.toInt := Int32.toInt_inj.symm
  cases c <;> simp only [ri_dec] at h <;> simp only [am_cmp, Int32.lt_iff_toInt_lt, Int32.le_iff_toInt_le, e1] <;> (split at h <;> (try (split at h)) <;> (try (cases h; done)) <;> (cases h; simp; omega))
theorem ri_cmp_ok {G : am_G} {E : ri_Env} (hE : am_Env G E) {c : ClassFile.Cond} {v w : Value} {r : Bool} (h : ri_cmp E c v w = some r) : ri_isI v = true ∧ ri_isI w = true ∧ (r = true ↔ am_cmp c (am_xi G v) (am_xi G w)) := by
  have key : ri_cmpv E c v w = some r → ri_isI v = true ∧ ri_isI w = true ∧ (r = true ↔ am_cmp c (am_xi G v) (am_xi G w)) := by
    intro h
    unfold ri_cmpv at h
    split at h
    · rename_i hI
      rw [Bool.and_eq_true] at hI
      split at h
      · rename_i a b ha hb
        exact ⟨hI.1, hI.2, ri_dec_ok (ri_iv_ok hE hI.1 ha) (ri_iv_ok hE hI.2 hb) h⟩
      · cases h
    · cases h
  unfold ri_cmp at h
  split at h
  · split at h
    · refine ⟨rfl, rfl, ?_⟩
      rw [Option.some.injEq] at h
      subst h
      exact ri_cmpn_ok _ _ _
    · exact key h
  · exact key h
theorem ri_c2_cat (v : Value) : ri_c2 v = true ↔ v.category = 2 := by cases v <;> simp [ri_c2, Value.category]
theorem ri_s1_sub {ls : List Value} {i : Nat} {v : Value} : ∀ q ∈ ri_lv (ri_s1 ls i v), q ∈ (i, v) :: (ri_lv ls).filter (am_f1 i) := by
  rintro ⟨j, w⟩ hq
  rw [ri_lv_mem] at hq
  obtain ⟨h1, h2⟩ := hq
  rw [List.mem_cons, List.mem_filter, ri_lv_mem]
  unfold ri_s1 at h1
  split at h1
  · rw [ri_upd_eq] at h1
    by_cases hj : j = 0
    · subst hj
      rw [List.getElem?_set] at h1
      split at h1
      · split at h1
        · cases h1; exact Or.inl rfl
        · cases h1
      · omega
    · rw [List.getElem?_set_ne (Ne.symm hj)] at h1
      exact Or.inr ⟨⟨h1, h2⟩, by simp [am_f1, hj]⟩
  · rename_i i'
    split at h1
    · rename_i w0 hw0
      rw [ri_nth_eq] at hw0
      split at h1
      · simp only [ri_upd_eq] at h1
        by_cases hj : j = i' + 1
        · subst hj
          rw [List.getElem?_set] at h1
          split at h1
          · split at h1
            · cases h1; exact Or.inl rfl
            · cases h1
          · omega
        · rw [List.getElem?_set_ne (Ne.symm hj)] at h1
          by_cases hj2 : j = i'
          · subst hj2
            rw [List.getElem?_set] at h1
            split at h1
            · split at h1
              · cases h1; exact absurd rfl h2
              · cases h1
            · omega
          · rw [List.getElem?_set_ne (Ne.symm hj2)] at h1
            exact Or.inr ⟨⟨h1, h2⟩, by simp [am_f1, hj, hj2]⟩
      · rename_i hc
        rw [ri_upd_eq] at h1
        by_cases hj : j = i' + 1
        · subst hj
          rw [List.getElem?_set] at h1
          split at h1
          · split at h1
            · cases h1; exact Or.inl rfl
            · cases h1
          · omega
        · rw [List.getElem?_set_ne (Ne.symm hj)] at h1
          refine Or.inr ⟨⟨h1, h2⟩, ?_⟩
          by_cases hj2 : j = i'
          · subst hj2
            cases hw0.symm.trans h1
            rw [ri_c2_cat] at hc
            simp [am_f1, hc]
          · simp [am_f1, hj, hj2]
    · simp at h1
theorem ri_s2_sub {ls : List Value} {i : Nat} {v : Value} : ∀ q ∈ ri_lv (ri_s2 ls i v), q ∈ (i, v) :: (ri_lv ls).filter (am_f2 i) := by
  rintro ⟨j, w⟩ hq
  rw [ri_lv_mem] at hq
  obtain ⟨h1, h2⟩ := hq
  unfold ri_s2 at h1
  rw [ri_upd_eq] at h1
  by_cases hj : j = i + 1
  · subst hj
    rw [List.getElem?_set] at h1
    split at h1
    · split at h1
      · cases h1; exact absurd rfl h2
      · cases h1
    · omega
  · rw [List.getElem?_set_ne (Ne.symm hj)] at h1
    have h3 := ri_s1_sub (j, w) (ri_lv_mem.mpr ⟨h1, h2⟩)
    rw [List.mem_cons, List.mem_filter] at h3 ⊢
    rcases h3 with h3 | ⟨h3, h4⟩
    · exact Or.inl h3
    · refine Or.inr ⟨h3, ?_⟩
      simp [am_f1] at h4
      simp [am_f2, hj, h4]
theorem ri_p8_ok {G : am_G} {E : ri_Env} (hE : am_Env G E) {i : Nat} (h : ri_p8 E i = true) : i ≤ 900 ∧ am_px G i < 8 ∧ am_rho G i = nI (am_px G i) := by
  unfold ri_p8 at h
  rw [Bool.and_eq_true, Nat.ble_eq] at h
  obtain ⟨h1, h2⟩ := h
  split at h2
  · rename_i lo hi hiv
    rw [ri_nth_eq] at hiv
    rw [decide_eq_true_eq] at h2
    have h3 := hE _ _ _ hiv
    have h4 : am_px G i = (am_rho G i).toInt.toNat := rfl
    have h5 : am_px G i < 8 := by omega
    refine ⟨h1, h5, ?_⟩
    rw [← Int32.toInt_inj, nI_toInt (by omega)]
    omega
  · cases h2
theorem ri_isP_ok {G : am_G} {E : ri_Env} (hE : am_Env G E) {b : UInt32} (h : ri_isP E b = true) : am_cv G (.float b) = .ref (am_B G + (90 + 2 * am_px G (b.toNat - 2000))) ∧ am_px G (b.toNat - 2000) < 8 ∧ 2000 ≤ b.toNat ∧ b.toNat ≤ 2900 := by
  unfold ri_isP at h
  simp only [Bool.and_eq_true, Nat.ble_eq] at h
  exact ⟨am_cvP G h.1 h.2.1, (ri_p8_ok hE h.2.2).2.1, h.1, h.2.1⟩
theorem ri_isC_ok {G : am_G} {E : ri_Env} (hE : am_Env G E) {b : UInt32} (h : ri_isC E b = true) : am_cv G (.float b) = .ref (am_B G + (91 + 2 * am_px G (b.toNat - 3000))) ∧ am_px G (b.toNat - 3000) < 8 := by
  unfold ri_isC at h
  simp only [Bool.and_eq_true, Nat.ble_eq] at h
  exact ⟨am_cvC G h.1 h.2.1, (ri_p8_ok hE h.2.2).2.1⟩
theorem ri_pall_ok {L : ri_L} {x : Nat} (h : ri_pall L x = true) : 106 ≤ L.1 ∧ ∀ j, j < 8 → ri_get L.2.2 (90 + 2 * j) = some (.inr (2, [.ref (91 + 2 * j), .retAddr x])) := by
  unfold ri_pall at h
  rw [Bool.and_eq_true, Nat.ble_eq, List.all_eq_true] at h
  refine ⟨h.1, fun j hj => ?_⟩
  have h3 := h.2 j (List.mem_range.mpr hj)
  unfold ri_isPl at h3
  split at h3
  · rename_i ci fs he
    rw [Bool.and_eq_true, Nat.beq_eq, decide_eq_true_eq] at h3
    rw [he, h3.1, h3.2]
  · cases h3
theorem ri_pcell_ok {L : ri_L} {x : Nat} (h : ri_pcell L = some x) : ri_pall L x = true := by
  unfold ri_pcell at h
  split at h
  · split at h
    · rename_i hp
      cases h
      exact hp
    · cases h
  · cases h
theorem va_up_same {h : am_H} {k : Nat} {e : am_E} (he : h k = e) : va_up h k e = h := by
  funext j
  by_cases hj : j = k
  · subst hj; simp [va_up, he]
  · simp [va_up, hj]
section
variable {G : am_G} {d : Nat} {y : am_M} {mc ms : Nat} {post : am_T} {k n pc N : Nat} {lv lv' : List (Nat × Value)} {st : List Value} {h : am_H}
theorem am_aload_nG {v : Value} {x : Nat} {j : Fin 4} {i : Nat} (hc : am_cv G v = .ref x) (hd : decode y.2.1 pc = .ok (.aload_n j, 1)) (hi : (j : Nat) = i) (hv : (i, v) ∈ lv) (kk : am_A G d y mc ms post k n (pc + 1) lv (v :: st) N h) : am_A G d y mc ms post k n pc lv st N h := by
  intro p e s m args below meth c H locs ls X hW hlo hl
  have h1 := am_ld G hl hv
  have h2 := kk p e s m args below meth c H locs ls X hW hlo hl
  rw [List.map_cons, hc] at h2
  rw [hc] at h1
  exact lv_aload_n X.1 X.2.1 hd hi h1 h2
theorem am_astore_nG {v : Value} {x : Nat} {j : Fin 4} {i : Nat} (hc : am_cv G v = .ref x) (hd : decode y.2.1 pc = .ok (.astore_n j, 1)) (hi : (j : Nat) = i) (hn : i < y.2.2.1) (kk : am_A G d y mc ms post k n (pc + 1) ((i, v) :: lv.filter (am_f1 i)) st N h) : am_A G d y mc ms post k n pc lv (v :: st) N h := by
  intro p e s m args below meth c H locs ls X hW hlo hl
  have hf := am_flt1 G i v lv
  rw [hc] at hf
  rw [List.map_cons, hc]
  exact lv_astore_n X.1 X.2.1 hd hi hl hn hf (fun ls' hl' => kk p e s m args below meth c H locs ls' X hW hlo hl')
theorem am_aloadG {v : Value} {x : Nat} {i : Nat} (hc : am_cv G v = .ref x) (hd : decode y.2.1 pc = .ok (.aload i, 2)) (hv : (i, v) ∈ lv) (kk : am_A G d y mc ms post k n (pc + 2) lv (v :: st) N h) : am_A G d y mc ms post k n pc lv st N h := by
  intro p e s m args below meth c H locs ls X hW hlo hl
  have h1 := am_ld G hl hv
  have h2 := kk p e s m args below meth c H locs ls X hW hlo hl
  rw [List.map_cons, hc] at h2
  rw [hc] at h1
  exact lv_aload X.1 X.2.1 hd h1 h2
theorem am_astoreG {v : Value} {x : Nat} {i : Nat} (hc : am_cv G v = .ref x) (hd : decode y.2.1 pc = .ok (.astore i, 2)) (hn : i < y.2.2.1) (kk : am_A G d y mc ms post k n (pc + 2) ((i, v) :: lv.filter (am_f1 i)) st N h) : am_A G d y mc ms post k n pc lv (v :: st) N h := by
  intro p e s m args below meth c H locs ls X hW hlo hl
  have hf := am_flt1 G i v lv
  rw [hc] at hf
  rw [List.map_cons, hc]
  exact lv_astore X.1 X.2.1 hd hl hn hf (fun ls' hl' => kk p e s m args below meth c H locs ls' X hW hlo hl')
theorem am_iload_nG {v : Value} {j : Fin 4} {i : Nat} (hI : ri_isI v = true) (hd : decode y.2.1 pc = .ok (.iload_n j, 1)) (hi : (j : Nat) = i) (hv : (i, v) ∈ lv) (kk : am_A G d y mc ms post k n (pc + 1) lv (v :: st) N h) : am_A G d y mc ms post k n (pc) lv (st) N h := by
  intro p e s m args below meth c H locs ls X hW hlo hl
  have h1 := am_ld G hl hv
  have h2 := kk p e s m args below meth c H locs ls X hW hlo hl
  rw [List.map_cons, am_xi_cv G hI] at h2
  rw [am_xi_cv G hI] at h1
  exact lv_iload_n X.1 X.2.1 hd hi h1 h2
theorem am_istore_nG {v : Value} {j : Fin 4} {i : Nat} (hI : ri_isI v = true) (hd : decode y.2.1 pc = .ok (.istore_n j, 1)) (hi : (j : Nat) = i) (hn : i < y.2.2.1) (kk : am_A G d y mc ms post k n (pc + 1) ((i, v) :: lv.filter (am_f1 i)) (st) N h) : am_A G d y mc ms post k n (pc) lv (v :: st) N h := by
  intro p e s m args below meth c H locs ls X hW hlo hl
  have hf := am_flt1 G i v lv
  rw [am_xi_cv G hI] at hf
  rw [List.map_cons, am_xi_cv G hI]
  exact lv_istore_n X.1 X.2.1 hd hi hl hn hf (fun ls' hl' => kk p e s m args below meth c H locs ls' X hW hlo hl')
theorem am_iloadG {v : Value} {i : Nat} (hI : ri_isI v = true) (hd : decode y.2.1 pc = .ok (.iload i, 2)) (hv : (i, v) ∈ lv) (kk : am_A G d y mc ms post k n (pc + 2) lv (v :: st) N h) : am_A G d y mc ms post k n (pc) lv (st) N h := by
  intro p e s m args below meth c H locs ls X hW hlo hl
  have h1 := am_ld G hl hv
  have h2 := kk p e s m args below meth c H locs ls X hW hlo hl
  rw [List.map_cons, am_xi_cv G hI] at h2
  rw [am_xi_cv G hI] at h1
  exact lv_iload X.1 X.2.1 hd h1 h2
theorem am_istoreG {v : Value} {i : Nat} (hI : ri_isI v = true) (hd : decode y.2.1 pc = .ok (.istore i, 2)) (hn : i < y.2.2.1) (kk : am_A G d y mc ms post k n (pc + 2) ((i, v) :: lv.filter (am_f1 i)) (st) N h) : am_A G d y mc ms post k n (pc) lv (v :: st) N h := by
  intro p e s m args below meth c H locs ls X hW hlo hl
  have hf := am_flt1 G i v lv
  rw [am_xi_cv G hI] at hf
  rw [List.map_cons, am_xi_cv G hI]
  exact lv_istore X.1 X.2.1 hd hl hn hf (fun ls' hl' => kk p e s m args below meth c H locs ls' X hW hlo hl')
theorem am_lload_nG {v : Value} {j : Fin 4} {i : Nat} (hI : ri_isL v = true) (hd : decode y.2.1 pc = .ok (.lload_n j, 1)) (hi : (j : Nat) = i) (hv : (i, v) ∈ lv) (kk : am_A G d y mc ms post k n (pc + 1) lv (v :: st) N h) : am_A G d y mc ms post k n (pc) lv (st) N h := by
  intro p e s m args below meth c H locs ls X hW hlo hl
  have h1 := am_ld G hl hv
  have h2 := kk p e s m args below meth c H locs ls X hW hlo hl
  rw [List.map_cons, am_xl_cv G hI] at h2
  rw [am_xl_cv G hI] at h1
  exact lv_lload_n X.1 X.2.1 hd hi h1 h2
theorem am_lstore_nG {v : Value} {j : Fin 4} {i : Nat} (hI : ri_isL v = true) (hd : decode y.2.1 pc = .ok (.lstore_n j, 1)) (hi : (j : Nat) = i) (hn : i + 1 < y.2.2.1) (kk : am_A G d y mc ms post k n (pc + 1) ((i, v) :: lv.filter (am_f2 i)) (st) N h) : am_A G d y mc ms post k n (pc) lv (v :: st) N h := by
  intro p e s m args below meth c H locs ls X hW hlo hl
  have hf := am_flt2 G i v lv
  rw [am_xl_cv G hI] at hf
  rw [List.map_cons, am_xl_cv G hI]
  exact lv_lstore_n X.1 X.2.1 hd hi hl hn hf (fun ls' hl' => kk p e s m args below meth c H locs ls' X hW hlo hl')
theorem am_lloadG {v : Value} {i : Nat} (hI : ri_isL v = true) (hd : decode y.2.1 pc = .ok (.lload i, 2)) (hv : (i, v) ∈ lv) (kk : am_A G d y mc ms post k n (pc + 2) lv (v :: st) N h) : am_A G d y mc ms post k n (pc) lv (st) N h := by
  intro p e s m args below meth c H locs ls X hW hlo hl
  have h1 := am_ld G hl hv
  have h2 := kk p e s m args below meth c H locs ls X hW hlo hl
  rw [List.map_cons, am_xl_cv G hI] at h2
  rw [am_xl_cv G hI] at h1
  exact lv_lload X.1 X.2.1 hd h1 h2
theorem am_lstoreG {v : Value} {i : Nat} (hI : ri_isL v = true) (hd : decode y.2.1 pc = .ok (.lstore i, 2)) (hn : i + 1 < y.2.2.1) (kk : am_A G d y mc ms post k n (pc + 2) ((i, v) :: lv.filter (am_f2 i)) (st) N h) : am_A G d y mc ms post k n (pc) lv (v :: st) N h := by
  intro p e s m args below meth c H locs ls X hW hlo hl
  have hf := am_flt2 G i v lv
  rw [am_xl_cv G hI] at hf
  rw [List.map_cons, am_xl_cv G hI]
  exact lv_lstore X.1 X.2.1 hd hl hn hf (fun ls' hl' => kk p e s m args below meth c H locs ls' X hW hlo hl')
theorem am_iretV {v : Value} {x : Int32} {ty : FieldType} (hv : am_cv G v = .int x) (hd : decode y.2.1 pc = .ok (.ireturn, 1)) (hrt : y.2.2.2 = some ty) (hnr : narrow ty (.int x) = .int x) (hk : k ≤ mc) (hn : n ≤ ms) (hp : post (some v) N h) : am_A G d y mc ms post k n pc lv [v] N h := by
  intro p e s m args below meth c H locs ls X hW hlo hl
  have hx := X.1
  have hb := X.2.1
  refine W.widen hk hn ?_
  rw [List.map_cons, hv]
  exact W.zret hx hb (X.2.2.1.trans hrt) hnr (fun t ht _ => ⟨some v, N, h, by rw [Option.map_some, hv], hp, by rw [ht]; exact hW⟩) hlo hd X.2.2.2.2.2.2.1
end
end
