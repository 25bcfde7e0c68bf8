noncomputable section
theorem ri_go_nil {E : ri_Env} {M : Nat → ri_mi} {callee : Nat → List Value → ri_L → ri_V} {tb : List ri_row} {f : Nat} {lv : List Value} {st : List Value} {L : ri_L} : ri_go E M callee tb f [] lv st L = none := by cases f <;> rfl
theorem ri_go_row {E : ri_Env} {M : Nat → ri_mi} {callee : Nat → List Value → ri_L → ri_V} {tb : List ri_row} {f i : Nat} {lv : List Value} {st : List Value} {L : ri_L} {v : Option Value × ri_L} (h : ri_go E M callee tb f (tb.drop i) lv st L = some v) : ∃ r, tb[i]? = some r := by
  cases hc : tb.drop i with
  | nil => rw [hc, ri_go_nil] at h; cases h
  | cons x t => exact ⟨x, (ri_drop hc).1⟩
theorem ri_seq {E : ri_Env} {y : am_M} {tb : List ri_row} {d i i2 : Nat} {lv lv1 : List Value} {st st1 : List Value} {L L1 L' : ri_L} {jt : Option Nat} {r : Option Value} {row row2 : ri_row} (hrow : tb[i]? = some row) (h1 : ri_Ok E y (tb.map (fun r => r.1)) i row.1 lv st L jt lv1 st1 L1) (hi2 : i2 = jt.getD (i + 1)) (hrow2 : tb[i2]? = some row2) (h2 : ri_Gok E y tb d i2 lv1 st1 L1 r L') : ri_Gok E y tb d i lv st L r L' := by
  obtain ⟨a1, a2, a3⟩ := h1
  obtain ⟨b1, b2, b3⟩ := h2
  refine ⟨Nat.le_trans a1 b1, Nat.le_trans a2 b2, fun G hE mc ms post k n row' hr' hk hn hp => ?_⟩
  cases hrow.symm.trans hr'
  refine a3 G hE (d + 1) mc ms post k n row2.1 ?_ (Nat.le_add_left 1 d) (by omega) (by omega) (b3 G hE mc ms post _ _ row2 hrow2 (by omega) (by omega) hp)
  subst hi2
  cases jt with
  | none =>
    have h9 : tb[i + 1]? = some row2 := hrow2
    show (tb.map (fun r => r.1))[i + 1]? = some row2.1
    rw [List.getElem?_map, h9]
    rfl
  | some t =>
    have h9 : tb[t]? = some row2 := hrow2
    show (tb.map (fun r => r.1))[t]? = some row2.1
    rw [List.getElem?_map, h9]
    rfl
section
variable {E : ri_Env} {M : Nat → ri_mi} {callee : Nat → List Value → ri_L → ri_V} {y : am_M} {tb : List ri_row} {f d i : Nat} {lv : List Value} {st : List Value} {L L' : ri_L} {r : Option Value} {row : ri_row}
theorem ri_go_dflt (hrow : tb[i]? = some row) (hok : ri_rok y (tb.map (fun r => r.1)) i row = true) (ih : ∀ (i : Nat) (lv : List Value) (st : List Value) (L : ri_L) (r : Option Value) (L' : ri_L), ri_go E M callee tb f (tb.drop i) lv st L = some (r, L') → ri_Gok E y tb d i lv st L r L')
    (h : (match ri_stp E row lv st L with
        | some (none, lv, st, L) => ri_go E M callee tb f (tb.drop (i + 1)) lv st L
        | some (some t, lv, st, L) => ri_go E M callee tb f (tb.drop t) lv st L
        | none => none) = some (r, L')) : ri_Gok E y tb d i lv st L r L' := by
  split at h
  · rename_i lv1 st1 L1 hs
    obtain ⟨row2, hr2⟩ := ri_go_row h
    exact ri_seq hrow (ri_stp_ok hok hs) rfl hr2 (ih _ _ _ _ _ _ h)
  · rename_i t lv1 st1 L1 hs
    obtain ⟨row2, hr2⟩ := ri_go_row h
    exact ri_seq hrow (ri_stp_ok hok hs) rfl hr2 (ih _ _ _ _ _ _ h)
  · cases h
/-- a call, then the rest -/
theorem ri_go_call {L2 : ri_L} {v : Option Value} {rest : List Value} {row2 : ri_row} (hrow : tb[i]? = some row) (hr2 : tb[i + 1]? = some row2) (a1 : L.1 ≤ L2.1) (a2 : L.2.1 ≤ L2.2.1) (h2 : ri_Gok E y tb d (i + 1) lv (v.toList ++ rest) L2 r L')
    (kk : ∀ (G : am_G), am_Env G E → ∀ (mc ms : Nat) (post : am_T) (k n : Nat), k + (L2.1 - L.1) ≤ mc → n + (L2.2.1 - L.2.1) ≤ ms → (∀ (r' : Option Value) (N' : Nat) (h' : am_H), ri_post v L2 r' N' h' → am_A G (d + 1) y mc ms post (k + (L2.1 - L.1)) (n + (L2.2.1 - L.2.1)) row2.1 (ri_lv lv) (r'.toList ++ rest) N' h') → am_A G (d + 1) y mc ms post k n row.1 (ri_lv lv) st L.1 (ri_h L)) : ri_Gok E y tb d i lv st L r L' := by
  obtain ⟨b1, b2, b3⟩ := h2
  refine ⟨Nat.le_trans a1 b1, Nat.le_trans a2 b2, fun G hE mc ms post k n row' hr' hk hn hp => ?_⟩
  cases hrow.symm.trans hr'
  refine kk G hE mc ms post k n (by omega) (by omega) (fun r' N' h' hq => ?_)
  obtain ⟨rfl, rfl, rfl⟩ := hq
  exact b3 G hE mc ms post _ _ row2 hr2 (by omega) (by omega) hp
end
theorem ri_take {st rest : List Value} {n : Nat} {x : Value} (h : st.drop n = x :: rest) : st = ((st.take n).reverse).reverse ++ x :: rest ∧ ((st.take n).reverse).length = n := by
  have hl : n < st.length := by
    rcases Nat.lt_or_ge n st.length with q | q
    · exact q
    · rw [List.drop_eq_nil_of_le q] at h; cases h
  refine ⟨?_, ?_⟩
  · rw [List.reverse_reverse, ← h, List.take_append_drop]
  · simp; omega
set_option maxHeartbeats 8000000 in
theorem ri_go_ok {E : ri_Env} {M : Nat → ri_mi} (hM : ∀ j, ri_okj M j) {d : Nat} {callee : Nat → List Value → ri_L → ri_V} (hc : ri_Cok E M d callee) (j : Nat) : ∀ (f i : Nat) (lv : List Value) (st : List Value) (L : ri_L) (r : Option Value) (L' : ri_L), ri_go E M callee (M j).2.2.2 f ((M j).2.2.2.drop i) lv st L = some (r, L') → ri_Gok E (M j).1 (M j).2.2.2 d i lv st L r L' := by
  intro f
  induction f with
  | zero => intro i lv st L r L' h; cases h
  | succ f ih =>
    intro i lv st L r L' h
    obtain ⟨row, hrow⟩ := ri_go_row h
    have hcur : (M j).2.2.2.drop i = row :: (M j).2.2.2.drop (i + 1) := by
      have hl : i < (M j).2.2.2.length := (List.getElem?_eq_some_iff.mp hrow).1
      rw [List.drop_eq_getElem_cons hl]
      congr 1
      exact (List.getElem?_eq_some_iff.mp hrow).2
    rw [hcur] at h
    obtain ⟨hok, hokI⟩ := (hM j).2.2.2.2.1 i row hrow
    have hok0 := hok
    unfold ri_rok at hok0
    simp only [Bool.and_eq_true, decide_eq_true_eq, Bool.or_eq_true, beq_iff_eq] at hok0
    obtain ⟨hd, -, hnx, hln, hr1⟩ := hok0
    obtain ⟨pc, ins, len, a, b, pl, v, ts⟩ := row
    dsimp only at hd hnx hln
    cases ins
    case ireturn =>
      replace hln := hln.resolve_left (by simp [ri_sw])
      simp only [ri_ln] at hln
      subst hln
      change (match (generalizing := false) st with
        | [.int v] => if b == 0 || (v == 0 || v == 1) then some (some (Value.int v), L) else none
        | _ => none) = some (r, L') at h
      split at h
      · rename_i x
        split at h
        · rename_i hb
          simp only [Option.some.injEq, Prod.mk.injEq] at h
          obtain ⟨rfl, rfl⟩ := h
          refine ⟨Nat.le_refl _, Nat.le_refl _, fun G hE mc ms post k n row' hr' hk hn hp => ?_⟩
          cases hrow.symm.trans hr'
          have hty : ∃ ty, (M j).1.2.2.2 = some ty ∧ narrow ty (.int x) = .int x := by
            simp only [ri_rok1] at hr1
            split at hr1
            · rename_i he
              exact ⟨_, he, rfl⟩
            · rename_i he
              have hb1 : b = 1 := by simpa using hr1
              subst hb1
              have hx : x = 0 ∨ x = 1 := by simpa using hb
              refine ⟨_, he, ?_⟩
              rcases hx with rfl | rfl
              · rfl
              · rfl
            · cases hr1
          obtain ⟨ty, ht1, ht2⟩ := hty
          exact am_iret hd ht1 ht2 (by omega) (by omega) hp
        · cases h
      · cases h
    case lreturn =>
      replace hln := hln.resolve_left (by simp [ri_sw])
      simp only [ri_ln] at hln
      subst hln
      change (match (generalizing := false) st with
        | [.long v] => some (some (Value.long v), L)
        | _ => none) = some (r, L') at h
      split at h
      · simp only [Option.some.injEq, Prod.mk.injEq] at h
        obtain ⟨rfl, rfl⟩ := h
        refine ⟨Nat.le_refl _, Nat.le_refl _, fun G hE mc ms post k n row' hr' hk hn hp => ?_⟩
        cases hrow.symm.trans hr'
        simp only [ri_rok1, decide_eq_true_eq] at hr1
        exact am_lret hd hr1 (by omega) (by omega) hp
      · cases h
    case return_ =>
      replace hln := hln.resolve_left (by simp [ri_sw])
      simp only [ri_ln] at hln
      subst hln
      change (match (generalizing := false) st with
        | [] => some (none, L)
        | _ => none) = some (r, L') at h
      split at h
      · simp only [Option.some.injEq, Prod.mk.injEq] at h
        obtain ⟨rfl, rfl⟩ := h
        refine ⟨Nat.le_refl _, Nat.le_refl _, fun G hE mc ms post k n row' hr' hk hn hp => ?_⟩
        cases hrow.symm.trans hr'
        simp only [ri_rok1, decide_eq_true_eq] at hr1
        exact am_vret hd hr1 (by omega) (by omega) hp
      · cases h
    case invokevirtual idx =>
      replace hln := hln.resolve_left (by simp [ri_sw])
      simp only [ri_ln] at hln
      subst hln
      replace hnx := hnx.resolve_left (by simp [ri_end])
      have hpc : ∀ row2 : ri_row, (M j).2.2.2[i + 1]? = some row2 → row2.1 = pc + 3 := fun row2 h2 => by
        rw [List.getElem?_map, h2] at hnx
        simpa using hnx
      change (match st.drop (M a).2.1 with
        | .ref a0 :: rest => match ri_get L.2.2 a0 with
          | some (.inr (ci, _)) => if Nat.ble L.1 a0 then none else if Nat.beq ci b && Nat.ble (ri_cat rest) 8 then match callee a (.ref a0 :: (st.take (M a).2.1).reverse) L with
              | some (v, L2) => ri_go E M callee (M j).2.2.2 f ((M j).2.2.2.drop (i + 1)) lv (v.toList ++ rest) L2
              | none => none
            else none
          | _ => none
        | _ => none) = some (r, L') at h
      split at h
      · rename_i a0 rest hdr
        split at h
        · rename_i ci fs hL
          split at h
          · cases h
          rename_i hbl
          split at h
          · rename_i hcc
            simp only [Bool.and_eq_true, Nat.beq_eq, Nat.ble_eq] at hcc
            split at h
            · rename_i v2 L2 hcal
              obtain ⟨row2, hr2⟩ := ri_go_row h
              obtain ⟨c1, c2, c3⟩ := hc _ _ _ _ _ hcal
              obtain ⟨hs1, hs2⟩ := ri_take hdr
              simp only [ri_rokI, Bool.and_eq_true, beq_iff_eq, decide_eq_true_eq, Option.map_eq_some_iff] at hokI
              obtain ⟨hk1, hk2, q, hq1, hq2⟩ := hokI
              obtain ⟨w1, w2⟩ := (hM a).2.2.1 hk1
              refine ri_go_call hrow hr2 c1 c2 (ih _ _ _ _ _ _ h) (fun G hE mc ms post k n g1 g2 g3 => ?_)
              rw [hpc row2 hr2] at g3
              exact am_callV hd (hM a).1 (ri_lw_in hk2) w1 w2 (by rw [hcc.1]; exact hq1) hq2 (ri_lt hbl) (ri_h_at hL) hs1 hs2 hcc.2 (Nat.le_refl _) g1 g2 (c3 G hE) g3
            · cases h
          · cases h
        · cases h
      · cases h
    case invokestatic idx =>
      replace hln := hln.resolve_left (by simp [ri_sw])
      simp only [ri_ln] at hln
      subst hln
      replace hnx := hnx.resolve_left (by simp [ri_end])
      have hpc : ∀ row2 : ri_row, (M j).2.2.2[i + 1]? = some row2 → row2.1 = pc + 3 := fun row2 h2 => by
        rw [List.getElem?_map, h2] at hnx
        simpa using hnx
      change (if b == 2 then match (generalizing := false) st with
          | .int x :: .int dp :: .ref b0 :: .int sp :: .ref a0 :: st => match ri_get L.2.2 a0, ri_get L.2.2 b0 with
            | some (.inl (0, .inl l1)), some (.inl (0, .inl l2)) => if Nat.ble L.1 a0 || Nat.ble L.1 b0 then none else if sp < 0 || dp < 0 || x < 0 then none else if ri_le (sp.toNatClampNeg + x.toNatClampNeg) l1 && ri_le (dp.toNatClampNeg + x.toNatClampNeg) l2 && Nat.ble (ri_cat st) 20 then ri_go E M callee (M j).2.2.2 f ((M j).2.2.2.drop (i + 1)) lv st (L.1, L.2.1, ri_put L.2.2 b0 (.inl (0, .inl (ri_cpy l1 l2 sp.toNatClampNeg dp.toNatClampNeg x.toNatClampNeg)))) else none
            | _, _ => none
          | _ => none
        else if Nat.ble 3 b then match ri_mth b st with
          | some (x, st) => if Nat.ble (ri_cat st) 20 then ri_fi x (fun x => ri_go E M callee (M j).2.2.2 f ((M j).2.2.2.drop (i + 1)) lv (.int x :: st) L) else none
          | none => none
        else if ri_le (M a).2.1 st && Nat.ble (ri_cat (st.drop (M a).2.1)) 8 then match callee a ((st.take (M a).2.1).reverse) L with
          | some (v, L2) => ri_go E M callee (M j).2.2.2 f ((M j).2.2.2.drop (i + 1)) lv (v.toList ++ st.drop (M a).2.1) L2
          | none => none
        else none) = some (r, L') at h
      split at h
      · rename_i hb2
        simp only [ri_rokI, hb2, if_true] at hokI
        split at h
        · rename_i x dp b0 sp a0 st0
          split at h
          · rename_i l1 l2 hL1 hL2
            split at h
            · cases h
            rename_i hbl
            rw [Bool.or_eq_true, not_or] at hbl
            split at h
            · cases h
            · rename_i hneg
              split at h
              · rename_i hcc
                simp only [Bool.and_eq_true, Nat.ble_eq, ri_le_iff] at hcc
                simp only [Bool.or_eq_true, decide_eq_true_eq, not_or] at hneg
                obtain ⟨row2, hr2⟩ := ri_go_row h
                refine ri_seq (jt := none) hrow (ri_wr hL2 hnx (fun G d' mc ms post k n hd1 kk => am_copy hd (ri_lw_in hokI) am_natC am_staC am_iniC (ri_lt hbl.1) (ri_h_at hL1) (ri_lt hbl.2) (ri_h_at hL2) hneg.1.1 hneg.1.2 hneg.2 hcc.1.1 hcc.1.2 hd1 hcc.2 ?_)) rfl hr2 (ih _ _ _ _ _ _ h)
                simp only [ri_e, ri_va, ri_cpy_len hcc.1.1 hcc.1.2, ri_cpy_eq hcc.1.1 hcc.1.2] at kk
                exact kk
              · cases h
          · cases h
        · cases h
      · rename_i hb2
        split at h
        · rename_i hb3
          simp only [ri_rokI] at hokI
          rw [if_neg hb2, if_pos hb3] at hokI
          split at h
          · rename_i x st1 hm
            split at h
            · rename_i hcc
              rw [Nat.ble_eq] at hcc
              rw [ri_fi_eq] at h
              obtain ⟨row2, hr2⟩ := ri_go_row h
              refine ri_seq (jt := none) hrow (ri_simple hnx (fun G hE d' mc ms post k n hd1 hk hn kk => ?_)) rfl hr2 (ih _ _ _ _ _ _ h)
              unfold ri_mth at hm
              split at hm
              · split at hm
                · rename_i hb
                  rw [if_pos hb] at hokI
                  obtain ⟨rfl, rfl⟩ : _ ∧ _ := by simpa using hm
                  exact am_mmax hd (ri_lw_in hokI) hd1 hk hn hcc kk
                · rename_i hb
                  rw [if_neg hb] at hokI
                  split at hm
                  · rename_i hb4
                    rw [if_pos hb4] at hokI
                    obtain ⟨rfl, rfl⟩ : _ ∧ _ := by simpa using hm
                    exact am_mmin hd (ri_lw_in hokI) hd1 hk hn hcc kk
                  · rename_i hb4
                    rw [if_neg hb4, Bool.and_eq_true] at hokI
                    split at hm
                    · obtain ⟨rfl, rfl⟩ : _ ∧ _ := by simpa using hm
                      exact am_mabs hd (ri_lw_in hokI.2) hd1 hk hn hcc kk
                    · cases hm
              · split at hm
                · rename_i hb5
                  have hb5 : b = 5 := by simpa using hb5
                  subst hb5
                  rw [if_neg (by decide), if_neg (by decide), Bool.and_eq_true] at hokI
                  obtain ⟨rfl, rfl⟩ : _ ∧ _ := by simpa using hm
                  exact am_mabs hd (ri_lw_in hokI.2) hd1 hk hn hcc kk
                · cases hm
              · cases hm
            · cases h
          · cases h
        split at h
        · rename_i hb3 hcc
          simp only [Bool.and_eq_true, Nat.ble_eq, ri_le_iff] at hcc
          split at h
          · rename_i v2 L2 hcal
            obtain ⟨row2, hr2⟩ := ri_go_row h
            obtain ⟨c1, c2, c3⟩ := hc _ _ _ _ _ hcal
            simp only [ri_rokI] at hokI
            rw [if_neg hb2, if_neg hb3] at hokI
            have hokI : (M a).2.2.1 = 0 ∧ ri_lw pl (.methodLink (M j).1.1.cls idx (M a).1.1) = true := by simpa using hokI
            refine ri_go_call hrow hr2 c1 c2 (ih _ _ _ _ _ _ h) (fun G hE mc ms post k n g1 g2 g3 => ?_)
            rw [hpc row2 hr2] at g3
            exact am_callS hd (hM a).1 (ri_lw_in hokI.2) ((hM a).2.1 hokI.1) (by rw [List.reverse_reverse, List.take_append_drop]) (by simp; omega) hcc.2 (Nat.le_refl _) g1 g2 (c3 G hE) g3
          · cases h
        · cases h
    case invokespecial idx =>
      replace hln := hln.resolve_left (by simp [ri_sw])
      simp only [ri_ln] at hln
      subst hln
      replace hnx := hnx.resolve_left (by simp [ri_end])
      have hpc : ∀ row2 : ri_row, (M j).2.2.2[i + 1]? = some row2 → row2.1 = pc + 3 := fun row2 h2 => by
        rw [List.getElem?_map, h2] at hnx
        simpa using hnx
      change (if b == 1 then match (generalizing := false) st with
          | .ref a0 :: st => if Nat.ble (ri_cat st) 20 then ri_go E M callee (M j).2.2.2 f ((M j).2.2.2.drop (i + 1)) lv st L else none
          | _ => none
        else match st.drop (M a).2.1 with
        | .ref a0 :: rest => if Nat.ble (ri_cat rest) 8 then match callee a (.ref a0 :: (st.take (M a).2.1).reverse) L with
            | some (v, L2) => ri_go E M callee (M j).2.2.2 f ((M j).2.2.2.drop (i + 1)) lv (v.toList ++ rest) L2
            | none => none
          else none
        | _ => none) = some (r, L') at h
      split at h
      · rename_i hb2
        simp only [ri_rokI, hb2, if_true] at hokI
        split at h
        · split at h
          · rename_i hcc
            simp only [Nat.ble_eq] at hcc
            obtain ⟨row2, hr2⟩ := ri_go_row h
            exact ri_seq (jt := none) hrow (ri_simple hnx (fun G hE d' mc ms post k n hd1 hk9 hn9 kk => am_obj hd (ri_lw_in hokI) am_objI am_objC hcc hd1 kk)) rfl hr2 (ih _ _ _ _ _ _ h)
          · cases h
        · cases h
      · rename_i hb2
        split at h
        · rename_i a0 rest hdr
          split at h
          · rename_i hcc
            simp only [Nat.ble_eq] at hcc
            split at h
            · rename_i v2 L2 hcal
              obtain ⟨row2, hr2⟩ := ri_go_row h
              obtain ⟨c1, c2, c3⟩ := hc _ _ _ _ _ hcal
              obtain ⟨hs1, hs2⟩ := ri_take hdr
              simp only [ri_rokI] at hokI
              have hokI : (M a).2.2.1 = 2 ∧ ri_lw pl (.methodLink (M j).1.1.cls idx (M a).1.1) = true := by simpa [hb2] using hokI
              obtain ⟨w1, w2, w3⟩ := (hM a).2.2.2.1 hokI.1
              refine ri_go_call hrow hr2 c1 c2 (ih _ _ _ _ _ _ h) (fun G hE mc ms post k n g1 g2 g3 => ?_)
              rw [hpc row2 hr2] at g3
              exact am_callI hd (hM a).1 (ri_lw_in hokI.2) w1 w2 w3 hs1 hs2 hcc (Nat.le_refl _) g1 g2 (c3 G hE) g3
            · cases h
          · cases h
        · cases h
    all_goals exact ri_go_dflt hrow hok ih h
theorem ri_ls_mem : ∀ (as : List Value) (i off : Nat) (v : Value), (ri_ls as)[i]? = some v → v ≠ .null → (i + off, v) ∈ lv_args off as
  | [], i, off, v, h, _ => by simp [ri_ls] at h
  | w :: t, i, off, v, h, hn => by
    have h : (if ri_c2 w then w :: Value.null :: ri_ls t else w :: ri_ls t)[i]? = some v := h
    unfold lv_args
    rw [List.mem_cons]
    by_cases hc : ri_c2 w = true
    · rw [if_pos hc] at h
      rw [if_pos ((ri_c2_cat w).mp hc)]
      match i, h with
      | 0, h =>
        left
        simp at h
        rw [h, Nat.zero_add]
      | 1, h =>
        simp at h
        exact absurd h.symm hn
      | i + 2, h =>
        right
        simp at h
        have := ri_ls_mem t i (off + 2) v h hn
        rwa [show i + 2 + off = i + (off + 2) by omega]
    · rw [if_neg hc] at h
      rw [if_neg (fun e => hc ((ri_c2_cat w).mpr e))]
      match i, h with
      | 0, h =>
        left
        simp at h
        rw [h, Nat.zero_add]
      | i + 1, h =>
        right
        simp at h
        have := ri_ls_mem t i (off + 1) v h hn
        rwa [show i + 1 + off = i + (off + 1) by omega]
theorem ri_ls_len : ∀ (as : List Value), (ri_ls as).length = (lg_sl as).length
  | [] => rfl
  | w :: t => by
    have ih := ri_ls_len t
    have e : ri_ls (w :: t) = if ri_c2 w then w :: Value.null :: ri_ls t else w :: ri_ls t := rfl
    rw [e]
    simp only [lg_sl] at ih ⊢
    rw [List.flatMap_cons, List.length_append, ← ih]
    by_cases hc : ri_c2 w = true
    · rw [if_pos hc, if_pos ((ri_c2_cat w).mp hc)]
      simp
      omega
    · rw [if_neg hc, if_neg (fun e => hc ((ri_c2_cat w).mpr e))]
      simp
      omega
theorem ri_ls_sub (as : List Value) (n : Nat) : ∀ q ∈ ri_lv (ri_ls as ++ List.replicate n .null), q ∈ lv_args 0 as := by
  rintro ⟨i, v⟩ hq
  rw [ri_lv_mem] at hq
  obtain ⟨h1, h2⟩ := hq
  by_cases hi : i < (ri_ls as).length
  · rw [List.getElem?_append_left hi] at h1
    have := ri_ls_mem as i 0 v h1 h2
    rwa [Nat.add_zero] at this
  · rw [List.getElem?_append_right (by omega), List.getElem?_replicate] at h1
    split at h1
    · cases h1; exact absurd rfl h2
    · cases h1
theorem ri_D_ok {E : ri_Env} {M : Nat → ri_mi} (hM : ∀ j, ri_okj M j) (F : Nat) : ∀ d, ri_Cok E M d (ri_D E M F d) := by
  intro d
  induction d with
  | zero => intro j as L r L' h; cases h
  | succ d ih =>
    intro j as L r L' h
    have h : (if Nat.ble (ri_ls as).length (M j).1.2.2.1 then ri_go E M (ri_D E M F d) (M j).2.2.2 F (M j).2.2.2 (ri_ls as ++ List.replicate ((M j).1.2.2.1 - (ri_ls as).length) .null) [] L else none) = some (r, L') := h
    split at h
    · rename_i hl
      rw [Nat.ble_eq] at hl
      have h0 : ri_go E M (ri_D E M F d) (M j).2.2.2 F ((M j).2.2.2.drop 0) (ri_ls as ++ List.replicate ((M j).1.2.2.1 - (ri_ls as).length) .null) [] L = some (r, L') := h
      obtain ⟨row, hrow⟩ := ri_go_row h0
      obtain ⟨b1, b2, b3⟩ := ri_go_ok hM ih j F 0 _ _ _ _ _ h0
      refine ⟨b1, b2, fun G hE => am_ofA (hM j).1 (by rw [← ri_ls_len]; exact hl) (am_lvs (ri_ls_sub as ((M j).1.2.2.1 - (ri_ls as).length)) ?_)⟩
      have h5 := b3 G hE (L'.1 - L.1) (L'.2.1 - L.2.1) (ri_post r L') 0 0 row hrow (by omega) (by omega) ⟨rfl, rfl, rfl⟩
      have h6 := (hM j).2.2.2.2.2
      rw [List.getElem?_map, hrow] at h6
      have h7 : row.1 = 0 := by simpa using h6
      rw [h7] at h5
      exact h5
    · cases h
end
