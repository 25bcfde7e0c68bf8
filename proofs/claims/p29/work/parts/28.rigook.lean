noncomputable section
theorem ri_go_nil {E : ri_Env} {callee : ri_Cl} {tb : List ri_row} {f : Nat} {lv : List Value} {st : List Value} {L : ri_L} : ri_go E callee tb f [] lv st L = none := by cases f <;> rfl
theorem ri_go_row {E : ri_Env} {callee : ri_Cl} {tb : List ri_row} {f i : Nat} {lv : List Value} {st : List Value} {L : ri_L} {v : Option Value × ri_L} (h : ri_go E callee tb f (tb.drop i) lv st L = some v) : ∃ r, tb[i]? = some r := by
  cases hc : tb.drop i with
  | nil => rw [hc, ri_go_nil] at h; cases h
  | cons x t => exact ⟨x, (ri_drop hc).1⟩
theorem ri_seq {E : ri_Env} {y : am_M} {tb : List ri_row} {d i i2 : Nat} {lv lv1 : List Value} {st st1 : List Value} {L L1 L' : ri_L} {jt : Option Nat} {r : Option Value} {row row2 : ri_row} (hrow : tb[i]? = some row) (h1 : ri_Ok E y (ri_pcs tb) i (ri_pc row) lv st L jt lv1 st1 L1) (hi2 : i2 = jt.getD (i + 1)) (hrow2 : tb[i2]? = some row2) (h2 : ri_Gok E y tb d i2 lv1 st1 L1 r L') : ri_Gok E y tb d i lv st L r L' := by
  obtain ⟨a1, a2, a3⟩ := h1
  obtain ⟨b1, b2, b3⟩ := h2
  refine ⟨Nat.le_trans a1 b1, Nat.le_trans a2 b2, fun G hE mc ms post k n row' hr' hk hn hp => ?_⟩
  cases hrow.symm.trans hr'
  refine a3 G hE (d + 1) mc ms post k n (ri_pc row2) ?_ (Nat.le_add_left 1 d) (by omega) (by omega) (b3 G hE mc ms post _ _ row2 hrow2 (by omega) (by omega) hp)
  subst hi2
  cases jt with
  | none =>
    have h9 : tb[i + 1]? = some row2 := hrow2
    show (tb.map (fun r => ri_pc r))[i + 1]? = some (ri_pc row2)
    rw [List.getElem?_map, h9]
    rfl
  | some t =>
    have h9 : tb[t]? = some row2 := hrow2
    show (tb.map (fun r => ri_pc r))[t]? = some (ri_pc row2)
    rw [List.getElem?_map, h9]
    rfl
theorem ri_isIA_ok {G : am_G} {E : ri_Env} (hE : am_Env G E) {L : ri_L} {v : Value} (h : ri_isIA E L v = true) : ∃ (a : Nat) (l : List Nat), am_cv G v = .ref (am_B G + a) ∧ a < L.1 ∧ ri_get L.2.2 a = some (.inl (0, .inl l)) := by
  unfold ri_isIA at h
  split at h
  · rename_i a
    rw [Bool.and_eq_true] at h
    obtain ⟨h1, h2⟩ := h
    split at h2
    · rename_i l hl
      exact ⟨a, l, rfl, by simp [Nat.blt] at h1; omega, hl⟩
    · cases h2
  · rename_i b
    simp only [Bool.and_eq_true, Nat.ble_eq, List.all_eq_true] at h
    obtain ⟨h1, h2, h3⟩ := h
    obtain ⟨p1, p2⟩ := ri_isC_ok hE h1
    have h4 := h3 _ (List.mem_range.mpr p2)
    split at h4
    · rename_i l hl
      exact ⟨_, l, p1, by omega, hl⟩
    · cases h4
  · cases h
section
variable {E : ri_Env} {callee : ri_Cl} {y : am_M} {tb : List ri_row} {f d i : Nat} {lv : List Value} {st : List Value} {L L' : ri_L} {r : Option Value} {row : ri_row}
theorem ri_go_dflt (hrow : tb[i]? = some row) (hok : ri_rok y (ri_pcs tb) i row = true) (ih : ∀ (i : Nat) (lv : List Value) (st : List Value) (L : ri_L) (r : Option Value) (L' : ri_L), ri_go E callee tb f (tb.drop i) lv st L = some (r, L') → ri_Gok E y tb d i lv st L r L')
    (h : gs_s (ri_stf (ri_ins row)) E callee tb (ri_go E callee tb f) row (tb.drop (i + 1)) lv st L = some (r, L')) : ri_Gok E y tb d i lv st L r L' := by
  unfold gs_s at h
  split at h
  · rename_i lv1 st1 L1 hs
    obtain ⟨row2, hr2⟩ := ri_go_row h
    exact ri_seq hrow (ri_stp_ok hok hs) rfl hr2 (ih _ _ _ _ _ _ h)
  · rename_i t lv1 st1 L1 hs
    rw [ri_drp_eq] at h
    obtain ⟨row2, hr2⟩ := ri_go_row h
    exact ri_seq hrow (ri_stp_ok hok hs) rfl hr2 (ih _ _ _ _ _ _ h)
  · cases h
/-- a call, then the rest -/
theorem ri_go_call {L2 : ri_L} {v : Option Value} {rest : List Value} {row2 : ri_row} (hrow : tb[i]? = some row) (hr2 : tb[i + 1]? = some row2) (a1 : L.1 ≤ L2.1) (a2 : L.2.1 ≤ L2.2.1) (h2 : ri_Gok E y tb d (i + 1) lv (ri_app v rest) L2 r L')
    (kk : ∀ (G : am_G), am_Env G E → ∀ (mc ms : Nat) (post : am_T) (k n : Nat), k + (L2.1 - L.1) ≤ mc → n + (L2.2.1 - L.2.1) ≤ ms → (∀ (r' : Option Value) (N' : Nat) (h' : am_H), ri_post v L2 r' N' h' → am_A G (d + 1) y mc ms post (k + (L2.1 - L.1)) (n + (L2.2.1 - L.2.1)) (ri_pc row2) (ri_lv lv) (r'.toList ++ rest) N' h') → am_A G (d + 1) y mc ms post k n (ri_pc row) (ri_lv lv) st L.1 (ri_h L)) : ri_Gok E y tb d i lv st L r L' := by
  obtain ⟨b1, b2, b3⟩ := h2
  refine ⟨Nat.le_trans a1 b1, Nat.le_trans a2 b2, fun G hE mc ms post k n row' hr' hk hn hp => ?_⟩
  cases hrow.symm.trans hr'
  refine kk G hE mc ms post k n (by omega) (by omega) (fun r' N' h' hq => ?_)
  obtain ⟨rfl, rfl, rfl⟩ := hq
  have e : r'.toList ++ rest = ri_app r' rest := by cases r' <;> rfl
  rw [e]
  exact b3 G hE mc ms post _ _ row2 hr2 (by omega) (by omega) hp
end
set_option maxHeartbeats 8000000 in
theorem ri_go_ok {E : ri_Env} {M : Nat → ri_mi} (hM : ∀ j, ri_okj M j) {d : Nat} {callee : ri_Cl} (hc : ri_Cok E M d callee) (j : Nat) : ∀ (f i : Nat) (lv : List Value) (st : List Value) (L : ri_L) (r : Option Value) (L' : ri_L), ri_go E callee (M j).2.2.2 f ((M j).2.2.2.drop i) lv st L = some (r, L') → ri_Gok E (M j).1 (M j).2.2.2 d i lv st L r L' := by
  intro f
  induction f with
  | zero => intro i lv st L r L' h; cases h
  | succ f ih =>
    intro i lv st L r L' h
    obtain ⟨row, hrow⟩ := ri_go_row h
    have hcur : (M j).2.2.2.drop i = row :: (M j).2.2.2.drop (i + 1) := by
      have hl : i < (M j).2.2.2.length := (List.getElem?_eq_some_iff.mp hrow).1
      rw [List.drop_eq_getElem_cons hl]
      congr 1
      exact (List.getElem?_eq_some_iff.mp hrow).2
    rw [hcur] at h
    obtain ⟨hok, hokI⟩ := (hM j).2.2.2.2.1 i row hrow
    have hok0 := hok
    unfold ri_rok at hok0
    simp only [Bool.and_eq_true, decide_eq_true_eq, Bool.or_eq_true, beq_iff_eq] at hok0
    obtain ⟨hd, -, hnx, hln, hop, hr1⟩ := hok0
    obtain ⟨op, a, b, nn, ts, pc, ins, len, pl⟩ := row
    dsimp only [ri_pc, ri_ins, ri_len, ri_pl] at hd hnx hln hop hr1
    have hop : op = ri_opn ins := by simpa using hop
    subst hop
    replace h : ri_nthD gs_none ri_fns (ri_opn ins) E callee (M j).2.2.2 (ri_go E callee (M j).2.2.2 f) (ri_opn ins, a, b, nn, ts, pc, ins, len, pl) ((M j).2.2.2.drop (i + 1)) lv st L = some (r, L') := h
    cases ins
    case ireturn =>
      replace hln := hln.resolve_left (by simp [ri_sw])
      simp only [ri_ln] at hln
      subst hln
      replace h : gs_ireturn E callee (M j).2.2.2 (ri_go E callee (M j).2.2.2 f) (ri_opn .ireturn, a, b, nn, ts, pc, .ireturn, 1, pl) ((M j).2.2.2.drop (i + 1)) lv st L = some (r, L') := h
      unfold gs_ireturn at h
      split at h
      · rename_i x
        split at h
        · rename_i hb
          simp only [Bool.or_eq_true, Nat.beq_eq, Nat.ble_eq] at hb
          simp only [Option.some.injEq, Prod.mk.injEq] at h
          obtain ⟨rfl, rfl⟩ := h
          refine ⟨Nat.le_refl _, Nat.le_refl _, fun G hE mc ms post k n row' hr' hk hn hp => ?_⟩
          cases hrow.symm.trans hr'
          have hty : ∃ ty, (M j).1.2.2.2 = some ty ∧ narrow ty (.int (nI x)) = .int (nI x) := by
            simp only [ri_rok1] at hr1
            split at hr1
            · rename_i he
              exact ⟨_, he, rfl⟩
            · rename_i he
              have hb1 : b = 1 := by simpa using hr1
              subst hb1
              have hx : x = 0 ∨ x = 1 := by
                rcases hb with hb | hb
                · cases hb
                · omega
              refine ⟨_, he, ?_⟩
              rcases hx with rfl | rfl
              · rfl
              · rfl
            · cases hr1
          obtain ⟨ty, ht1, ht2⟩ := hty
          exact am_iretV rfl hd ht1 ht2 (by omega) (by omega) hp
        · cases h
      · cases h
    case lreturn =>
      replace hln := hln.resolve_left (by simp [ri_sw])
      simp only [ri_ln] at hln
      subst hln
      replace h : gs_lreturn E callee (M j).2.2.2 (ri_go E callee (M j).2.2.2 f) (ri_opn .lreturn, a, b, nn, ts, pc, .lreturn, 1, pl) ((M j).2.2.2.drop (i + 1)) lv st L = some (r, L') := h
      unfold gs_lreturn at h
      split at h
      · simp only [Option.some.injEq, Prod.mk.injEq] at h
        obtain ⟨rfl, rfl⟩ := h
        refine ⟨Nat.le_refl _, Nat.le_refl _, fun G hE mc ms post k n row' hr' hk hn hp => ?_⟩
        cases hrow.symm.trans hr'
        simp only [ri_rok1, decide_eq_true_eq] at hr1
        exact am_lret hd hr1 (by omega) (by omega) hp
      · cases h
    case return_ =>
      replace hln := hln.resolve_left (by simp [ri_sw])
      simp only [ri_ln] at hln
      subst hln
      replace h : gs_return E callee (M j).2.2.2 (ri_go E callee (M j).2.2.2 f) (ri_opn .return_, a, b, nn, ts, pc, .return_, 1, pl) ((M j).2.2.2.drop (i + 1)) lv st L = some (r, L') := h
      unfold gs_return at h
      split at h
      · simp only [Option.some.injEq, Prod.mk.injEq] at h
        obtain ⟨rfl, rfl⟩ := h
        refine ⟨Nat.le_refl _, Nat.le_refl _, fun G hE mc ms post k n row' hr' hk hn hp => ?_⟩
        cases hrow.symm.trans hr'
        simp only [ri_rok1, decide_eq_true_eq] at hr1
        exact am_vret hd hr1 (by omega) (by omega) hp
      · cases h
    case invokevirtual idx =>
      replace hln := hln.resolve_left (by simp [ri_sw])
      simp only [ri_ln] at hln
      subst hln
      replace hnx := hnx.resolve_left (by simp [ri_end])
      have hpc : ∀ row2 : ri_row, (M j).2.2.2[i + 1]? = some row2 → ri_pc row2 = pc + 3 := fun row2 h2 => by
        unfold ri_pcs at hnx
        rw [List.getElem?_map, h2] at hnx
        simpa using hnx
      replace h : gs_virtual E callee (M j).2.2.2 (ri_go E callee (M j).2.2.2 f) (ri_opn (.invokevirtual idx), a, b, nn, ts, pc, (.invokevirtual idx), 3, pl) ((M j).2.2.2.drop (i + 1)) lv st L = some (r, L') := h
      unfold gs_virtual at h
      split at h
      · rename_i as a0 rest hsp
        split at h
        · rename_i ci fs hL
          split at h
          · cases h
          rename_i hbl
          split at h
          · rename_i hcc
            simp only [Bool.and_eq_true, Nat.beq_eq, Nat.ble_eq] at hcc
            split at h
            · rename_i v2 L2 hcal
              obtain ⟨row2, hr2⟩ := ri_go_row h
              obtain ⟨c1, c2, c3⟩ := hc _ _ _ _ _ hcal
              obtain ⟨bs, hb1, hb2, hb3⟩ := ri_spl_ok _ _ _ _ _ hsp
              rw [List.append_nil] at hb1
              subst hb1
              simp only [ri_rokI, ri_ins, ri_pl, Bool.and_eq_true, beq_iff_eq, decide_eq_true_eq, Option.map_eq_some_iff] at hokI
              obtain ⟨hk1, hk0, hk2, q, hq1, hq2⟩ := hokI
              obtain ⟨w1, w2⟩ := (hM a).2.2.1 hk1
              refine ri_go_call hrow hr2 c1 c2 (ih _ _ _ _ _ _ h) (fun G hE mc ms post k n g1 g2 g3 => ?_)
              rw [hpc row2 hr2] at g3
              exact am_callV hd (hM a).1 (ri_lw_in hk2) w1 w2 (by rw [hcc.1]; exact hq1) hq2 (ri_lt hbl) (ri_h_at hL) hb2 (by rw [hk0]; exact hb3) (Nat.le_trans (ri_cnt_cat rest) (by omega)) (Nat.le_refl _) g1 g2 (c3 G hE) g3
            · cases h
          · cases h
        · cases h
      · rename_i as b0 rest hsp
        split at h
        · rename_i hcc
          simp only [Bool.and_eq_true, Nat.beq_eq, Nat.ble_eq, Option.isSome_iff_exists] at hcc
          obtain ⟨hb1, hb2, ⟨x, hpx⟩, hrest⟩ := hcc
          subst hb2
          split at h
          · rename_i v2 L2 hcal
            obtain ⟨row2, hr2⟩ := ri_go_row h
            obtain ⟨c1, c2, c3⟩ := hc _ _ _ _ _ hcal
            obtain ⟨bs, hs1, hs2, hs3⟩ := ri_spl_ok _ _ _ _ _ hsp
            rw [List.append_nil] at hs1
            subst hs1
            obtain ⟨hN, hcell⟩ := ri_pall_ok (ri_pcell_ok hpx)
            simp only [ri_rokI, ri_ins, ri_pl, Bool.and_eq_true, beq_iff_eq, decide_eq_true_eq, Option.map_eq_some_iff] at hokI
            obtain ⟨hk1, hk0, hk2, q, hq1, hq2⟩ := hokI
            obtain ⟨w1, w2⟩ := (hM a).2.2.1 hk1
            refine ri_go_call hrow hr2 c1 c2 (ih _ _ _ _ _ _ h) (fun G hE mc ms post k n g1 g2 g3 => ?_)
            rw [hpc row2 hr2] at g3
            obtain ⟨p1, p2, p3, p4⟩ := ri_isP_ok hE hb1
            have hmap : (Value.float b0 :: as).map (am_cv G) = (Value.ref (90 + 2 * am_px G (b0.toNat - 2000)) :: as).map (am_cv G) := by
              simp only [List.map_cons, p1]
              rfl
            refine am_stc (st2 := as.reverse ++ .ref (90 + 2 * am_px G (b0.toNat - 2000)) :: rest) (by
              rw [hs2, List.map_append, List.map_append, List.map_cons, List.map_cons, p1]
              rfl) (am_callV hd (hM a).1 (ri_lw_in hk2) w1 w2 hq1 hq2 (by omega) (ri_h_at (hcell _ p2)) rfl (by rw [hk0]; exact hs3) (Nat.le_trans (ri_cnt_cat rest) (by omega)) (Nat.le_refl _) g1 g2 ?_ g3)
            have h8 := c3 G hE
            unfold am_C am_P at h8 ⊢
            rw [← hmap]
            exact h8
          · cases h
        · cases h
      · cases h
    case invokestatic idx =>
      replace hln := hln.resolve_left (by simp [ri_sw])
      simp only [ri_ln] at hln
      subst hln
      replace hnx := hnx.resolve_left (by simp [ri_end])
      have hpc : ∀ row2 : ri_row, (M j).2.2.2[i + 1]? = some row2 → ri_pc row2 = pc + 3 := fun row2 h2 => by
        unfold ri_pcs at hnx
        rw [List.getElem?_map, h2] at hnx
        simpa using hnx
      replace h : gs_static E callee (M j).2.2.2 (ri_go E callee (M j).2.2.2 f) (ri_opn (.invokestatic idx), a, b, nn, ts, pc, (.invokestatic idx), 3, pl) ((M j).2.2.2.drop (i + 1)) lv st L = some (r, L') := h
      unfold gs_static at h
      simp only [ri_rokI, ri_ins, ri_pl] at hokI
      split at h
      · rename_i hb2
        rw [if_pos hb2] at hokI
        split at h
        · rename_i st1 L1 hcp
          obtain ⟨row2, hr2⟩ := ri_go_row h
          unfold ri_copy at hcp
          split at hcp
          · rename_i x dp b0 sp a0 st0
            split at hcp
            · rename_i l1 l2 hL1 hL2
              split at hcp
              · cases hcp
              rename_i hbl
              rw [Bool.or_eq_true, not_or] at hbl
              split at hcp
              · cases hcp
              · rename_i hneg
                simp only [Bool.or_eq_true, Nat.ble_eq, not_or] at hneg
                split at hcp
                · rename_i hcc
                  simp only [Bool.and_eq_true, Nat.ble_eq, ri_le_iff] at hcc
                  simp only [Option.some.injEq, Prod.mk.injEq] at hcp
                  obtain ⟨rfl, rfl⟩ := hcp
                  rw [ri_drp_eq, ri_cpf_eq dp x _ l2 (by simp; omega) hcc.2.1] at h
                  refine ri_seq (jt := none) hrow (ri_wr hL2 hnx (fun G d' mc ms post k n hd1 kk => am_stc (st2 := .int (nI x) :: .int (nI dp) :: .ref b0 :: .int (nI sp) :: .ref a0 :: st0) rfl (am_copy hd (ri_lw_in hokI) am_natC am_staC am_iniC (ri_lt hbl.1) (ri_h_at hL1) (ri_lt hbl.2) (ri_h_at hL2) (nI_pos (by omega)) (nI_pos (by omega)) (nI_pos (by omega)) (by rw [nI_clamp (by omega), nI_clamp (by omega)]; exact hcc.1) (by rw [nI_clamp (by omega), nI_clamp (by omega)]; exact hcc.2.1) hd1 (Nat.le_trans (ri_cnt_cat st0) (by omega)) ?_))) rfl hr2 (ih _ _ _ _ _ _ h)
                  simp only [ri_e, ri_va, ri_cpy_len hcc.1 hcc.2.1, ri_cpy_eq hcc.1 hcc.2.1] at kk
                  rw [nI_clamp (by omega), nI_clamp (by omega), nI_clamp (by omega)]
                  exact kk
                · cases hcp
            · cases hcp
          · cases hcp
        · split at h
          · rename_i st1 L1 hcp
            obtain ⟨row2, hr2⟩ := ri_go_row h
            unfold ri_copy0 at hcp
            split at hcp
            · rename_i x dp v2 sp v1 st0 hnone
              split at hcp
              · rename_i hcc
                simp only [Bool.and_eq_true, Nat.beq_eq, Nat.ble_eq] at hcc
                obtain ⟨e1, e2, e3, i1, i2, hcn⟩ := hcc
                subst e1
                subst e2
                subst e3
                simp only [Option.some.injEq, Prod.mk.injEq] at hcp
                obtain ⟨rfl, rfl⟩ := hcp
                refine ri_seq (jt := none) hrow (ri_simple hnx (fun G hE d' mc ms post k n hd1 hk hn kk => ?_)) rfl hr2 (ih _ _ _ _ _ _ h)
                obtain ⟨a1, l1, f1, f2, f3⟩ := ri_isIA_ok hE i1
                obtain ⟨a2, l2, f4, f5, f6⟩ := ri_isIA_ok hE i2
                refine am_stc (st2 := .int 0 :: .int 0 :: .ref a2 :: .int 0 :: .ref a1 :: st0) (by simp only [List.map_cons, f1, f4]; rfl) (am_copy hd (ri_lw_in hokI) am_natC am_staC am_iniC f2 (ri_h_at f3) f5 (ri_h_at f6) (by decide) (by decide) (by decide) (Nat.zero_le _) (Nat.zero_le _) hd1 (Nat.le_trans (ri_cnt_cat st0) (by omega)) ?_)
                have e9 : va_cpy (fun j => nI (l1.getD j 0)) (fun j => nI (l2.getD j 0)) 0 0 0 = (fun j => nI (l2.getD j 0)) := by
                  funext j
                  simp [va_cpy]
                have e10 : va_up (ri_h L) a2 (.inl (0, l2.length, .inl (va_cpy (fun j => nI (l1.getD j 0)) (fun j => nI (l2.getD j 0)) 0 0 0))) = ri_h L := by
                  rw [e9]
                  exact va_up_same (ri_h_at f6)
                show am_A G d' _ mc ms post k n _ _ _ _ (va_up (ri_h L) a2 (.inl (0, l2.length, .inl (va_cpy (fun j => nI (l1.getD j 0)) (fun j => nI (l2.getD j 0)) 0 0 0))))
                rw [e10]
                exact kk
              · cases hcp
            · cases hcp
          · cases h
      · rename_i hb2
        rw [if_neg hb2] at hokI
        split at h
        · rename_i hb3
          rw [if_pos hb3] at hokI
          split at h
          · rename_i x st1 hm
            split at h
            · rename_i hcc
              rw [Nat.ble_eq] at hcc
              have hcc : (st1.map fun v => v.category).sum ≤ 20 := Nat.le_trans (ri_cnt_cat st1) (by omega)
              rw [ri_fn_eq] at h
              obtain ⟨row2, hr2⟩ := ri_go_row h
              refine ri_seq (jt := none) hrow (ri_simple hnx (fun G hE d' mc ms post k n hd1 hk hn kk => ?_)) rfl hr2 (ih _ _ _ _ _ _ h)
              unfold ri_mth at hm
              split at hm
              · rename_i z st2
                split at hm
                · rename_i hb
                  rw [if_pos hb] at hokI
                  simp only [Option.some.injEq, Prod.mk.injEq] at hm
                  obtain ⟨hm1, rfl⟩ := hm
                  refine am_stc (st2 := .int (nI z) :: st2) rfl (am_mabs hd (ri_lw_in hokI) hd1 hk hn hcc (am_stc (st2 := .retAddr x :: st2) ?_ kk))
                  rw [List.map_cons, List.map_cons, ← hm1]
                  refine congrArg (fun v => v :: _) (congrArg Value.int ?_)
                  have hsg := nI_toIntb z
                  unfold ri_sg at hsg
                  by_cases hz : z % 4294967296 < 2147483648
                  · rw [if_pos hz] at hsg
                    rw [if_pos (by rw [Int32.le_iff_toInt_le, hsg]; show (0 : Int) ≤ _; omega), if_pos (by simp [Nat.blt]; omega)]
                  · rw [if_neg hz] at hsg
                    have hm4 : z % 4294967296 < 4294967296 := Nat.mod_lt _ (by decide)
                    rw [if_neg (by rw [Int32.le_iff_toInt_le, hsg]; show ¬ (0 : Int) ≤ _; omega), if_neg (by simp [Nat.blt]; omega), ← nI_neg]
                    simp
                · rename_i hb
                  rw [if_neg hb] at hokI
                  split at hm
                  · rename_i x0 st3
                    split at hm
                    · rename_i hb
                      rw [if_pos hb] at hokI
                      simp only [Option.some.injEq, Prod.mk.injEq] at hm
                      obtain ⟨hm1, rfl⟩ := hm
                      refine am_stc (st2 := .int (nI z) :: .int (nI x0) :: st3) rfl (am_mmax hd (ri_lw_in hokI) hd1 hk hn hcc (am_stc (st2 := .retAddr x :: st3) ?_ kk))
                      rw [List.map_cons, List.map_cons, ← hm1]
                      refine congrArg (fun v => v :: _) (congrArg Value.int ?_)
                      by_cases hlt : nI x0 < nI z
                      · rw [if_pos hlt, if_pos ((ri_cmpn_ok .lt x0 z).mpr hlt)]
                      · rw [if_neg hlt, if_neg (fun q => hlt ((ri_cmpn_ok .lt x0 z).mp q))]
                    · rename_i hb
                      rw [if_neg hb] at hokI
                      split at hm
                      · rename_i hb
                        rw [if_pos hb] at hokI
                        simp only [Option.some.injEq, Prod.mk.injEq] at hm
                        obtain ⟨hm1, rfl⟩ := hm
                        refine am_stc (st2 := .int (nI z) :: .int (nI x0) :: st3) rfl (am_mmin hd (ri_lw_in hokI) hd1 hk hn hcc (am_stc (st2 := .retAddr x :: st3) ?_ kk))
                        rw [List.map_cons, List.map_cons, ← hm1]
                        refine congrArg (fun v => v :: _) (congrArg Value.int ?_)
                        by_cases hlt : nI z < nI x0
                        · rw [if_pos hlt, if_pos ((ri_cmpn_ok .lt z x0).mpr hlt)]
                        · rw [if_neg hlt, if_neg (fun q => hlt ((ri_cmpn_ok .lt z x0).mp q))]
                      · cases hm
                  · cases hm
              · cases hm
            · cases h
          · cases h
        · rename_i hb3
          rw [if_neg hb3] at hokI
          split at h
          · rename_i as rest hsp
            split at h
            · rename_i hcc
              rw [Nat.ble_eq] at hcc
              split at h
              · rename_i v2 L2 hcal
                obtain ⟨row2, hr2⟩ := ri_go_row h
                obtain ⟨c1, c2, c3⟩ := hc _ _ _ _ _ hcal
                obtain ⟨bs, hb1, hb2, hb4⟩ := ri_spl_ok _ _ _ _ _ hsp
                rw [List.append_nil] at hb1
                subst hb1
                simp only [Bool.and_eq_true, beq_iff_eq] at hokI
                refine ri_go_call hrow hr2 c1 c2 (ih _ _ _ _ _ _ h) (fun G hE mc ms post k n g1 g2 g3 => ?_)
                rw [hpc row2 hr2] at g3
                exact am_callS hd (hM a).1 (ri_lw_in hokI.2.2) ((hM a).2.1 hokI.1) hb2 (by rw [hokI.2.1]; exact hb4) (Nat.le_trans (ri_cnt_cat rest) (by omega)) (Nat.le_refl _) g1 g2 (c3 G hE) g3
              · cases h
            · cases h
          · cases h
    case invokespecial idx =>
      replace hln := hln.resolve_left (by simp [ri_sw])
      simp only [ri_ln] at hln
      subst hln
      replace hnx := hnx.resolve_left (by simp [ri_end])
      have hpc : ∀ row2 : ri_row, (M j).2.2.2[i + 1]? = some row2 → ri_pc row2 = pc + 3 := fun row2 h2 => by
        unfold ri_pcs at hnx
        rw [List.getElem?_map, h2] at hnx
        simpa using hnx
      replace h : gs_special E callee (M j).2.2.2 (ri_go E callee (M j).2.2.2 f) (ri_opn (.invokespecial idx), a, b, nn, ts, pc, (.invokespecial idx), 3, pl) ((M j).2.2.2.drop (i + 1)) lv st L = some (r, L') := h
      unfold gs_special at h
      simp only [ri_rokI, ri_ins, ri_pl] at hokI
      split at h
      · rename_i hb2
        rw [if_pos hb2] at hokI
        split at h
        · rename_i a0 st0
          split at h
          · rename_i hcc
            rw [Nat.ble_eq] at hcc
            obtain ⟨row2, hr2⟩ := ri_go_row h
            exact ri_seq (jt := none) hrow (ri_simple hnx (fun G hE d' mc ms post k n hd1 hk9 hn9 kk => am_obj hd (ri_lw_in hokI) am_objI am_objC (Nat.le_trans (ri_cnt_cat st0) (by omega)) hd1 kk)) rfl hr2 (ih _ _ _ _ _ _ h)
          · cases h
        · cases h
      · rename_i hb2
        rw [if_neg hb2] at hokI
        split at h
        · rename_i as a0 rest hsp
          split at h
          · rename_i hcc
            rw [Nat.ble_eq] at hcc
            split at h
            · rename_i v2 L2 hcal
              obtain ⟨row2, hr2⟩ := ri_go_row h
              obtain ⟨c1, c2, c3⟩ := hc _ _ _ _ _ hcal
              obtain ⟨bs, hb1, hb2, hb4⟩ := ri_spl_ok _ _ _ _ _ hsp
              rw [List.append_nil] at hb1
              subst hb1
              simp only [Bool.and_eq_true, beq_iff_eq] at hokI
              obtain ⟨w1, w2, w3⟩ := (hM a).2.2.2.1 hokI.1
              refine ri_go_call hrow hr2 c1 c2 (ih _ _ _ _ _ _ h) (fun G hE mc ms post k n g1 g2 g3 => ?_)
              rw [hpc row2 hr2] at g3
              exact am_callI hd (hM a).1 (ri_lw_in hokI.2.2) w1 w2 w3 hb2 (by rw [hokI.2.1]; exact hb4) (Nat.le_trans (ri_cnt_cat rest) (by omega)) (Nat.le_refl _) g1 g2 (c3 G hE) g3
            · cases h
          · cases h
        · cases h
    case if_icmp c off => cases c <;> exact ri_go_dflt hrow hok ih h
    case ifCond c off => cases c <;> exact ri_go_dflt hrow hok ih h
    case newarray aty => cases aty <;> first | exact ri_go_dflt hrow hok ih h | (cases h; done)
    all_goals first | exact ri_go_dflt hrow hok ih h | (cases h; done)
theorem ri_ls_mem : ∀ (as : List Value) (i off : Nat) (v : Value), (ri_ls as)[i]? = some v → v ≠ .null → (i + off, v) ∈ lv_args off as
  | [], i, off, v, h, _ => by simp [ri_ls] at h
  | w :: t, i, off, v, h, hn => by
    have h : (if ri_c2 w then w :: Value.null :: ri_ls t else w :: ri_ls t)[i]? = some v := h
    unfold lv_args
    rw [List.mem_cons]
    by_cases hc : ri_c2 w = true
    · rw [if_pos hc] at h
      rw [if_pos ((ri_c2_cat w).mp hc)]
      match i, h with
      | 0, h =>
        left
        simp at h
        rw [h, Nat.zero_add]
      | 1, h =>
        simp at h
        exact absurd h.symm hn
      | i + 2, h =>
        right
        simp at h
        have := ri_ls_mem t i (off + 2) v h hn
        rwa [show i + 2 + off = i + (off + 2) by omega]
    · rw [if_neg hc] at h
      rw [if_neg (fun e => hc ((ri_c2_cat w).mpr e))]
      match i, h with
      | 0, h =>
        left
        simp at h
        rw [h, Nat.zero_add]
      | i + 1, h =>
        right
        simp at h
        have := ri_ls_mem t i (off + 1) v h hn
        rwa [show i + 1 + off = i + (off + 1) by omega]
theorem ri_ls_len : ∀ (as : List Value), (ri_ls as).length = (lg_sl as).length
  | [] => rfl
  | w :: t => by
    have ih := ri_ls_len t
    have e : ri_ls (w :: t) = if ri_c2 w then w :: Value.null :: ri_ls t else w :: ri_ls t := rfl
    rw [e]
    simp only [lg_sl] at ih ⊢
    rw [List.flatMap_cons, List.length_append, ← ih]
    by_cases hc : ri_c2 w = true
    · rw [if_pos hc, if_pos ((ri_c2_cat w).mp hc)]
      simp
      omega
    · rw [if_neg hc, if_neg (fun e => hc ((ri_c2_cat w).mpr e))]
      simp
      omega
theorem ri_ls_sub (as : List Value) (n : Nat) : ∀ q ∈ ri_lv (ri_ls as ++ List.replicate n .null), q ∈ lv_args 0 as := by
  rintro ⟨i, v⟩ hq
  rw [ri_lv_mem] at hq
  obtain ⟨h1, h2⟩ := hq
  by_cases hi : i < (ri_ls as).length
  · rw [List.getElem?_append_left hi] at h1
    have := ri_ls_mem as i 0 v h1 h2
    rwa [Nat.add_zero] at this
  · rw [List.getElem?_append_right (by omega), List.getElem?_replicate] at h1
    split at h1
    · cases h1; exact absurd rfl h2
    · cases h1
theorem ri_D_ok {E : ri_Env} {M : Nat → ri_mi} (hM : ∀ j, ri_okj M j) (F : Nat) : ∀ d, ri_Cok E M d (ri_D E M F d) := by
  intro d
  induction d with
  | zero => intro j as L r L' h; cases h
  | succ d ih =>
    intro j as L r L' h
    have h : (if Nat.ble (ri_ls as).length (M j).1.2.2.1 then ri_go E (ri_D E M F d) (M j).2.2.2 F (M j).2.2.2 (ri_ls as ++ List.replicate ((M j).1.2.2.1 - (ri_ls as).length) .null) [] L else none) = some (r, L') := h
    split at h
    · rename_i hl
      rw [Nat.ble_eq] at hl
      have h0 : ri_go E (ri_D E M F d) (M j).2.2.2 F ((M j).2.2.2.drop 0) (ri_ls as ++ List.replicate ((M j).1.2.2.1 - (ri_ls as).length) .null) [] L = some (r, L') := h
      obtain ⟨row, hrow⟩ := ri_go_row h0
      obtain ⟨b1, b2, b3⟩ := ri_go_ok hM ih j F 0 _ _ _ _ _ h0
      refine ⟨b1, b2, fun G hE => am_ofA (hM j).1 (by rw [← ri_ls_len]; exact hl) (am_lvs (ri_ls_sub as ((M j).1.2.2.1 - (ri_ls as).length)) ?_)⟩
      have h5 := b3 G hE (L'.1 - L.1) (L'.2.1 - L.2.1) (ri_post r L') 0 0 row hrow (by omega) (by omega) ⟨rfl, rfl, rfl⟩
      have h6 := (hM j).2.2.2.2.2
      unfold ri_pcs at h6
      rw [List.getElem?_map, hrow] at h6
      have h7 : ri_pc row = 0 := by simpa using h6
      rw [h7] at h5
      exact h5
    · cases h
end
