noncomputable section
theorem am_inst {ci : Nat} {q : vw_C} (hc : am_cl[ci]? = some q) : Cond.instantiable q.1 q.2.2 ∈ am_tbl ∧ Cond.initialized q.1 ∈ am_tbl ∧ (am_df ci).length = q.2.2 := by
  match ci, hc with
  | 0, hc => cases hc; exact ⟨by decide +kernel, by decide +kernel, rfl⟩
  | 1, hc => cases hc; exact ⟨by decide +kernel, by decide +kernel, rfl⟩
  | 2, hc => cases hc; exact ⟨by decide +kernel, by decide +kernel, rfl⟩
  | 3, hc => cases hc; exact ⟨by decide +kernel, by decide +kernel, rfl⟩
  | 4, hc => cases hc; exact ⟨by decide +kernel, by decide +kernel, rfl⟩
  | 5, hc => cases hc; exact ⟨by decide +kernel, by decide +kernel, rfl⟩
  | 6, hc => cases hc; exact ⟨by decide +kernel, by decide +kernel, rfl⟩
  | 7, hc => cases hc; exact ⟨by decide +kernel, by decide +kernel, rfl⟩
  | 8, hc => cases hc; exact ⟨by decide +kernel, by decide +kernel, rfl⟩
  | 9, hc => cases hc; exact ⟨by decide +kernel, by decide +kernel, rfl⟩
  | ci + 10, hc => simp at hc
theorem am_arrI : Cond.arrayClass .int ∈ am_tbl := by decide +kernel
theorem am_arrL : Cond.arrayClass .long ∈ am_tbl := by decide +kernel
theorem ri_rep_i (n : Nat) : (fun j => nI ((List.replicate n 0).getD j 0)) = fun _ => 0 := by
  funext j
  by_cases h : j < n <;> simp [List.getD, List.getElem?_replicate, h] <;> rfl
theorem ri_rep_l (n : Nat) : (fun j => (List.replicate n (0 : Int64)).getD j 0) = fun _ => 0 := by
  funext j
  by_cases h : j < n <;> simp [List.getD, List.getElem?_replicate, h]
theorem ri_rep_q (n : Nat) : (fun j => (List.replicate n (none : Option Nat)).getD j none) = fun _ => none := by
  funext j
  by_cases h : j < n <;> simp [List.getD, List.getElem?_replicate, h]
def ri_nx (pcs : List Nat) (i : Nat) (jt : Option Nat) (pc' : Nat) : Prop := match jt with
  | none => pcs[i + 1]? = some pc'
  | some t => pcs[t]? = some pc'
def ri_Ok (E : ri_Env) (y : am_M) (pcs : List Nat) (i pc : Nat) (lv : List Value) (st : List Value) (L : ri_L) (jt : Option Nat) (lv' : List Value) (st' : List Value) (L' : ri_L) : Prop :=
  L.1 ≤ L'.1 ∧ L.2.1 ≤ L'.2.1 ∧ ∀ (G : am_G), am_Env G E → ∀ (d mc ms : Nat) (post : am_T) (k n pc' : Nat), ri_nx pcs i jt pc' → 1 ≤ d → k + (L'.1 - L.1) ≤ mc → n + (L'.2.1 - L.2.1) ≤ ms →
    am_A G d y mc ms post (k + (L'.1 - L.1)) (n + (L'.2.1 - L.2.1)) pc' (ri_lv lv') st' L'.1 (ri_h L') → am_A G d y mc ms post k n pc (ri_lv lv) st L.1 (ri_h L)
theorem ri_simple {E : ri_Env} {y : am_M} {pcs : List Nat} {i pc pc2 : Nat} {lv lv' : List Value} {st st' : List Value} {L : ri_L} {jt : Option Nat} (hnx : ri_nx pcs i jt pc2) (kk : ∀ (G : am_G), am_Env G E → ∀ (d mc ms : Nat) (post : am_T) (k n : Nat), 1 ≤ d → k ≤ mc → n ≤ ms → am_A G d y mc ms post k n pc2 (ri_lv lv') st' L.1 (ri_h L) → am_A G d y mc ms post k n pc (ri_lv lv) st L.1 (ri_h L)) : ri_Ok E y pcs i pc lv st L jt lv' st' L := by
  refine ⟨Nat.le_refl _, Nat.le_refl _, fun G hE d mc ms post k n pc' h1 h2 h3 h4 h5 => ?_⟩
  have e : pc' = pc2 := by
    cases jt with
    | none => exact Option.some.inj (h1.symm.trans hnx)
    | some t => exact Option.some.inj (h1.symm.trans hnx)
  subst e
  simp only [Nat.sub_self, Nat.add_zero] at h5
  exact kk G hE d mc ms post k n h2 (by omega) (by omega) h5
theorem ri_wr {E : ri_Env} {y : am_M} {pcs : List Nat} {i pc pc2 a : Nat} {lv lv' : List Value} {st st' : List Value} {L : ri_L} {e0 e : ri_E} (h0 : ri_get L.2.2 a = some e0) (hnx : ri_nx pcs i none pc2) (kk : ∀ (G : am_G) (d mc ms : Nat) (post : am_T) (k n : Nat), 1 ≤ d → am_A G d y mc ms post k n pc2 (ri_lv lv') st' L.1 (va_up (ri_h L) a (ri_e e)) → am_A G d y mc ms post k n pc (ri_lv lv) st L.1 (ri_h L)) : ri_Ok E y pcs i pc lv st L none lv' st' (L.1, L.2.1, ri_put L.2.2 a e) := by
  refine ⟨Nat.le_refl _, Nat.le_refl _, fun G hE d mc ms post k n pc' h1 h2 _ _ h5 => ?_⟩
  have e3 : pc' = pc2 := Option.some.inj (h1.symm.trans hnx)
  subst e3
  rw [ri_h_put e h0 L.1 L.2.1 L.1 L.2.1] at h5
  simp only [Nat.sub_self, Nat.add_zero] at h5
  exact kk G d mc ms post k n h2 h5
theorem ri_psh {E : ri_Env} {y : am_M} {pcs : List Nat} {i pc pc2 z : Nat} {lv lv' : List Value} {st st' : List Value} {L : ri_L} {e : ri_E} (h0 : (ri_get L.2.2 L.1).isSome = true) (hnx : ri_nx pcs i none pc2) (kk : ∀ (G : am_G) (d mc ms : Nat) (post : am_T) (k n : Nat), 1 ≤ d → k + 1 ≤ mc → n + z ≤ ms → am_A G d y mc ms post (k + 1) (n + z) pc2 (ri_lv lv') st' (L.1 + 1) (va_up (ri_h L) L.1 (ri_e e)) → am_A G d y mc ms post k n pc (ri_lv lv) st L.1 (ri_h L)) : ri_Ok E y pcs i pc lv st L none lv' st' (L.1 + 1, L.2.1 + z, ri_put L.2.2 L.1 e) := by
  rw [Option.isSome_iff_exists] at h0
  obtain ⟨e0, h0⟩ := h0
  refine ⟨Nat.le_succ _, Nat.le_add_right _ _, fun G hE d mc ms post k n pc' h1 h2 h3 h4 h5 => ?_⟩
  have e3 : pc' = pc2 := Option.some.inj (h1.symm.trans hnx)
  subst e3
  rw [ri_h_put e h0 (L.1 + 1) (L.2.1 + z) L.1 L.2.1] at h5
  dsimp only at h3 h4 h5
  rw [Nat.add_sub_cancel_left, Nat.add_sub_cancel_left] at h5
  rw [Nat.add_sub_cancel_left] at h3 h4
  exact kk G d mc ms post k n h2 h3 h4 h5
theorem ri_df_ce (G : am_G) (ci : Nat) : (ri_df ci).map (am_cv G) = (am_df ci).map (am_cv G) := by
  unfold ri_df
  rw [List.map_map]
  apply List.map_congr_left
  intro v hv
  have h : v = .int 0 ∨ v = .null := by
    unfold am_df at hv
    split at hv <;> simp at hv <;> (try (rcases hv with hv | hv | hv | hv | hv | hv | hv | hv | hv | hv | hv | hv | hv | hv | hv | hv | hv | hv | hv | hv | hv | hv | hv | hv | hv | hv | hv | hv)) <;> (try (first | exact Or.inl hv | exact Or.inr hv)) <;> (try (rcases hv with rfl | rfl <;> simp)) <;> (try omega) <;> (try (simp_all))
  rcases h with rfl | rfl
  · rfl
  · rfl
theorem ri_df_len (ci : Nat) : (ri_df ci).length = (am_df ci).length := by simp [ri_df]
theorem ri_in2 {i n : Nat} (h : i < n) (hi : i < 2 ^ 31) : vp_in (nI i) n := fun q => q.elim (nI_pos hi) (fun q => by rw [nI_clamp hi] at q; omega)
def ri_stf (ins : Instr) : ri_Env → ri_row → List Value → List Value → ri_L → ri_N := match ins with
  | .iconst _ => st_iconst
  | .bipush _ => st_iconst
  | .sipush _ => st_iconst
  | .ldc_w _ => st_iconst
  | .lconst _ => st_lconst
  | .ldc2_w _ => st_lconst
  | .iload_n _ => st_iload
  | .iload _ => st_iload
  | .istore_n _ => st_istore
  | .istore _ => st_istore
  | .lload_n _ => st_lload
  | .lload _ => st_lload
  | .lstore_n _ => st_lstore
  | .lstore _ => st_lstore
  | .aload_n _ => st_aload
  | .aload _ => st_aload
  | .astore_n _ => st_astore
  | .astore _ => st_astore
  | .iinc .. => st_iinc
  | .goto _ => st_goto
  | .getfield _ => st_getfield
  | .putfield _ => st_putfield
  | .getstatic _ => st_getstatic
  | .new _ => st_new
  | .newarray .int => st_newi
  | .newarray .long => st_newl
  | .anewarray _ => st_newq
  | .tableswitch .. => st_table
  | .iadd => st_iadd
  | .iaload => st_iaload
  | .isub => st_isub
  | .imul => st_imul
  | .aaload => st_aaload
  | .iastore => st_iastore
  | .dup => st_dup
  | .i2l => st_i2l
  | .ineg => st_ineg
  | .iand => st_iand
  | .irem => st_irem
  | .ishr => st_ishr
  | .idiv => st_idiv
  | .arraylength => st_arraylength
  | .lcmp => st_lcmp
  | .ladd => st_ladd
  | .lmul => st_lmul
  | .ixor => st_ixor
  | .ishl => st_ishl
  | .iushr => st_iushr
  | .aastore => st_aastore
  | .laload => st_laload
  | .lastore => st_lastore
  | .dup2 => st_dup2
  | .if_icmp .eq _ => st_icmp_eq
  | .if_icmp .ne _ => st_icmp_ne
  | .if_icmp .lt _ => st_icmp_lt
  | .if_icmp .ge _ => st_icmp_ge
  | .if_icmp .gt _ => st_icmp_gt
  | .if_icmp .le _ => st_icmp_le
  | .ifCond .eq _ => st_if_eq
  | .ifCond .ne _ => st_if_ne
  | .ifCond .lt _ => st_if_lt
  | .ifCond .ge _ => st_if_ge
  | .ifCond .gt _ => st_if_gt
  | .ifCond .le _ => st_if_le
  | _ => fun _ _ _ _ _ => none
set_option maxHeartbeats 8000000 in
theorem ri_stp_ok {E : ri_Env} {y : am_M} {pcs : List Nat} {i : Nat} {r : ri_row} {lv lv' : List Value} {st st' : List Value} {L L' : ri_L} {jt : Option Nat} (hr : ri_rok y pcs i r = true) (h : ri_stf (ri_ins r) E r lv st L = some (jt, lv', st', L')) : ri_Ok E y pcs i (ri_pc r) lv st L jt lv' st' L' := by
  obtain ⟨op, a, b, nn, ts, pc, ins, len, pl⟩ := r
  unfold ri_rok at hr
  simp only [Bool.and_eq_true, decide_eq_true_eq, Bool.or_eq_true, beq_iff_eq] at hr
  obtain ⟨hd, -, hnx, hln, -, hr1⟩ := hr
  dsimp only [ri_pc, ri_ins, ri_len, ri_pl] at *
  cases ins <;> (try (cases h; done))
  case iconst z =>
    replace hnx := hnx.resolve_left (by simp [ri_end])
    replace hln := hln.resolve_left (by simp [ri_sw])
    simp only [ri_ln] at hln
    subst hln
    simp only [ri_rok1, decide_eq_true_eq] at hr1
    simp only [ri_stf, st_iconst] at h
    simp only [Option.some.injEq, Prod.mk.injEq] at h
    obtain ⟨rfl, rfl, rfl, rfl⟩ := h
    exact ri_simple hnx (fun G hE d mc ms post k n hd1 hk9 hn9 kk => am_iconst hd hr1 (am_stc rfl kk))
  case bipush z =>
    replace hnx := hnx.resolve_left (by simp [ri_end])
    replace hln := hln.resolve_left (by simp [ri_sw])
    simp only [ri_ln] at hln
    subst hln
    simp only [ri_rok1, decide_eq_true_eq] at hr1
    simp only [ri_stf, st_iconst] at h
    simp only [Option.some.injEq, Prod.mk.injEq] at h
    obtain ⟨rfl, rfl, rfl, rfl⟩ := h
    exact ri_simple hnx (fun G hE d mc ms post k n hd1 hk9 hn9 kk => am_bipush hd hr1 (am_stc rfl kk))
  case sipush z =>
    replace hnx := hnx.resolve_left (by simp [ri_end])
    replace hln := hln.resolve_left (by simp [ri_sw])
    simp only [ri_ln] at hln
    subst hln
    simp only [ri_rok1, decide_eq_true_eq] at hr1
    simp only [ri_stf, st_iconst] at h
    simp only [Option.some.injEq, Prod.mk.injEq] at h
    obtain ⟨rfl, rfl, rfl, rfl⟩ := h
    exact ri_simple hnx (fun G hE d mc ms post k n hd1 hk9 hn9 kk => am_sipush hd hr1 (am_stc rfl kk))
  case ldc_w z =>
    replace hnx := hnx.resolve_left (by simp [ri_end])
    replace hln := hln.resolve_left (by simp [ri_sw])
    simp only [ri_ln] at hln
    subst hln
    simp only [ri_stf, st_iconst] at h
    simp only [Option.some.injEq, Prod.mk.injEq] at h
    obtain ⟨rfl, rfl, rfl, rfl⟩ := h
    exact ri_simple hnx (fun G hE d mc ms post k n hd1 hk9 hn9 kk => am_ldcw hd (ri_lw_in hr1) (am_stc rfl kk))
  case lconst z =>
    replace hnx := hnx.resolve_left (by simp [ri_end])
    replace hln := hln.resolve_left (by simp [ri_sw])
    simp only [ri_ln] at hln
    subst hln
    simp only [ri_rok1, decide_eq_true_eq] at hr1
    simp only [ri_stf, st_lconst] at h
    rw [ri_fl_eq] at h
    simp only [Option.some.injEq, Prod.mk.injEq] at h
    obtain ⟨rfl, rfl, rfl, rfl⟩ := h
    exact ri_simple hnx (fun G hE d mc ms post k n hd1 hk9 hn9 kk => am_lconst hd hr1 kk)
  case ldc2_w z =>
    replace hnx := hnx.resolve_left (by simp [ri_end])
    replace hln := hln.resolve_left (by simp [ri_sw])
    simp only [ri_ln] at hln
    subst hln
    simp only [ri_stf, st_lconst] at h
    rw [ri_fl_eq] at h
    simp only [Option.some.injEq, Prod.mk.injEq] at h
    obtain ⟨rfl, rfl, rfl, rfl⟩ := h
    exact ri_simple hnx (fun G hE d mc ms post k n hd1 hk9 hn9 kk => am_ldc2 hd (ri_lw_in hr1) kk)
  case iload_n z =>
    replace hnx := hnx.resolve_left (by simp [ri_end])
    replace hln := hln.resolve_left (by simp [ri_sw])
    simp only [ri_ln] at hln
    subst hln
    simp only [ri_rok1, decide_eq_true_eq] at hr1
    subst hr1
    simp only [ri_stf, st_iload] at h
    split at h
    · rename_i w hx
      split at h
      · rename_i hI
        simp only [Option.some.injEq, Prod.mk.injEq] at h
        obtain ⟨rfl, rfl, rfl, rfl⟩ := h
        rw [ri_nth_eq] at hx
        exact ri_simple hnx (fun G hE d mc ms post k n hd1 hk9 hn9 kk => am_iload_nG hI hd rfl (ri_lv_mem.mpr ⟨hx, fun e => by subst e; cases hI⟩) kk)
      · cases h
    · cases h
  case istore_n z =>
    replace hnx := hnx.resolve_left (by simp [ri_end])
    replace hln := hln.resolve_left (by simp [ri_sw])
    simp only [ri_ln] at hln
    subst hln
    simp only [ri_rok1, decide_eq_true_eq] at hr1
    obtain ⟨hz, hr1⟩ := hr1
    subst hz
    simp only [ri_stf, st_istore] at h
    split at h
    · split at h
      · rename_i hI
        simp only [Option.some.injEq, Prod.mk.injEq] at h
        obtain ⟨rfl, rfl, rfl, rfl⟩ := h
        exact ri_simple hnx (fun G hE d mc ms post k n hd1 hk9 hn9 kk => am_istore_nG hI hd rfl hr1 (am_lvs ri_s1_sub kk))
      · cases h
    · cases h
  case iload z =>
    replace hnx := hnx.resolve_left (by simp [ri_end])
    replace hln := hln.resolve_left (by simp [ri_sw])
    simp only [ri_ln] at hln
    subst hln
    simp only [ri_rok1, decide_eq_true_eq] at hr1
    subst hr1
    simp only [ri_stf, st_iload] at h
    split at h
    · rename_i w hx
      split at h
      · rename_i hI
        simp only [Option.some.injEq, Prod.mk.injEq] at h
        obtain ⟨rfl, rfl, rfl, rfl⟩ := h
        rw [ri_nth_eq] at hx
        exact ri_simple hnx (fun G hE d mc ms post k n hd1 hk9 hn9 kk => am_iloadG hI hd (ri_lv_mem.mpr ⟨hx, fun e => by subst e; cases hI⟩) kk)
      · cases h
    · cases h
  case istore z =>
    replace hnx := hnx.resolve_left (by simp [ri_end])
    replace hln := hln.resolve_left (by simp [ri_sw])
    simp only [ri_ln] at hln
    subst hln
    simp only [ri_rok1, decide_eq_true_eq] at hr1
    obtain ⟨hz, hr1⟩ := hr1
    subst hz
    simp only [ri_stf, st_istore] at h
    split at h
    · split at h
      · rename_i hI
        simp only [Option.some.injEq, Prod.mk.injEq] at h
        obtain ⟨rfl, rfl, rfl, rfl⟩ := h
        exact ri_simple hnx (fun G hE d mc ms post k n hd1 hk9 hn9 kk => am_istoreG hI hd hr1 (am_lvs ri_s1_sub kk))
      · cases h
    · cases h
  case lload_n z =>
    replace hnx := hnx.resolve_left (by simp [ri_end])
    replace hln := hln.resolve_left (by simp [ri_sw])
    simp only [ri_ln] at hln
    subst hln
    simp only [ri_rok1, decide_eq_true_eq] at hr1
    subst hr1
    simp only [ri_stf, st_lload] at h
    split at h
    · rename_i w hx
      split at h
      · rename_i hI
        simp only [Option.some.injEq, Prod.mk.injEq] at h
        obtain ⟨rfl, rfl, rfl, rfl⟩ := h
        rw [ri_nth_eq] at hx
        exact ri_simple hnx (fun G hE d mc ms post k n hd1 hk9 hn9 kk => am_lload_nG hI hd rfl (ri_lv_mem.mpr ⟨hx, fun e => by subst e; cases hI⟩) kk)
      · cases h
    · cases h
  case lstore_n z =>
    replace hnx := hnx.resolve_left (by simp [ri_end])
    replace hln := hln.resolve_left (by simp [ri_sw])
    simp only [ri_ln] at hln
    subst hln
    simp only [ri_rok1, decide_eq_true_eq] at hr1
    obtain ⟨hz, hr1⟩ := hr1
    subst hz
    simp only [ri_stf, st_lstore] at h
    split at h
    · split at h
      · rename_i hI
        simp only [Option.some.injEq, Prod.mk.injEq] at h
        obtain ⟨rfl, rfl, rfl, rfl⟩ := h
        exact ri_simple hnx (fun G hE d mc ms post k n hd1 hk9 hn9 kk => am_lstore_nG hI hd rfl hr1 (am_lvs ri_s2_sub kk))
      · cases h
    · cases h
  case lload z =>
    replace hnx := hnx.resolve_left (by simp [ri_end])
    replace hln := hln.resolve_left (by simp [ri_sw])
    simp only [ri_ln] at hln
    subst hln
    simp only [ri_rok1, decide_eq_true_eq] at hr1
    subst hr1
    simp only [ri_stf, st_lload] at h
    split at h
    · rename_i w hx
      split at h
      · rename_i hI
        simp only [Option.some.injEq, Prod.mk.injEq] at h
        obtain ⟨rfl, rfl, rfl, rfl⟩ := h
        rw [ri_nth_eq] at hx
        exact ri_simple hnx (fun G hE d mc ms post k n hd1 hk9 hn9 kk => am_lloadG hI hd (ri_lv_mem.mpr ⟨hx, fun e => by subst e; cases hI⟩) kk)
      · cases h
    · cases h
  case lstore z =>
    replace hnx := hnx.resolve_left (by simp [ri_end])
    replace hln := hln.resolve_left (by simp [ri_sw])
    simp only [ri_ln] at hln
    subst hln
    simp only [ri_rok1, decide_eq_true_eq] at hr1
    obtain ⟨hz, hr1⟩ := hr1
    subst hz
    simp only [ri_stf, st_lstore] at h
    split at h
    · split at h
      · rename_i hI
        simp only [Option.some.injEq, Prod.mk.injEq] at h
        obtain ⟨rfl, rfl, rfl, rfl⟩ := h
        exact ri_simple hnx (fun G hE d mc ms post k n hd1 hk9 hn9 kk => am_lstoreG hI hd hr1 (am_lvs ri_s2_sub kk))
      · cases h
    · cases h
  case aload_n z =>
    replace hnx := hnx.resolve_left (by simp [ri_end])
    replace hln := hln.resolve_left (by simp [ri_sw])
    simp only [ri_ln] at hln
    subst hln
    simp only [ri_rok1, decide_eq_true_eq] at hr1
    subst hr1
    simp only [ri_stf, st_aload] at h
    split at h
    · rename_i x hx
      simp only [Option.some.injEq, Prod.mk.injEq] at h
      obtain ⟨rfl, rfl, rfl, rfl⟩ := h
      rw [ri_nth_eq] at hx
      exact ri_simple hnx (fun G hE d mc ms post k n hd1 hk9 hn9 kk => am_aload_n hd rfl (ri_lv_mem.mpr ⟨hx, by simp⟩) kk)
    · rename_i b hx
      split at h
      · rename_i hb
        rw [Bool.and_eq_true, Nat.ble_eq, Nat.ble_eq] at hb
        simp only [Option.some.injEq, Prod.mk.injEq] at h
        obtain ⟨rfl, rfl, rfl, rfl⟩ := h
        rw [ri_nth_eq] at hx
        refine ri_simple hnx (fun G hE d mc ms post k n hd1 hk9 hn9 kk => ?_)
        obtain ⟨x, hx2⟩ := am_cvR G hb.1 hb.2
        exact am_aload_nG hx2 hd rfl (ri_lv_mem.mpr ⟨hx, by simp⟩) kk
      · cases h
    · cases h
  case astore_n z =>
    replace hnx := hnx.resolve_left (by simp [ri_end])
    replace hln := hln.resolve_left (by simp [ri_sw])
    simp only [ri_ln] at hln
    subst hln
    simp only [ri_rok1, decide_eq_true_eq] at hr1
    obtain ⟨hz, hr1⟩ := hr1
    subst hz
    simp only [ri_stf, st_astore] at h
    split at h
    · simp only [Option.some.injEq, Prod.mk.injEq] at h
      obtain ⟨rfl, rfl, rfl, rfl⟩ := h
      exact ri_simple hnx (fun G hE d mc ms post k n hd1 hk9 hn9 kk => am_astore_n hd rfl hr1 rfl (am_lvs ri_s1_sub kk))
    · split at h
      · rename_i hb
        rw [Bool.and_eq_true, Nat.ble_eq, Nat.ble_eq] at hb
        simp only [Option.some.injEq, Prod.mk.injEq] at h
        obtain ⟨rfl, rfl, rfl, rfl⟩ := h
        refine ri_simple hnx (fun G hE d mc ms post k n hd1 hk9 hn9 kk => ?_)
        obtain ⟨x, hx2⟩ := am_cvR G hb.1 hb.2
        exact am_astore_nG hx2 hd rfl hr1 (am_lvs ri_s1_sub kk)
      · cases h
    · cases h
  case aload z =>
    replace hnx := hnx.resolve_left (by simp [ri_end])
    replace hln := hln.resolve_left (by simp [ri_sw])
    simp only [ri_ln] at hln
    subst hln
    simp only [ri_rok1, decide_eq_true_eq] at hr1
    subst hr1
    simp only [ri_stf, st_aload] at h
    split at h
    · rename_i x hx
      simp only [Option.some.injEq, Prod.mk.injEq] at h
      obtain ⟨rfl, rfl, rfl, rfl⟩ := h
      rw [ri_nth_eq] at hx
      exact ri_simple hnx (fun G hE d mc ms post k n hd1 hk9 hn9 kk => am_aload hd (ri_lv_mem.mpr ⟨hx, by simp⟩) kk)
    · rename_i b hx
      split at h
      · rename_i hb
        rw [Bool.and_eq_true, Nat.ble_eq, Nat.ble_eq] at hb
        simp only [Option.some.injEq, Prod.mk.injEq] at h
        obtain ⟨rfl, rfl, rfl, rfl⟩ := h
        rw [ri_nth_eq] at hx
        refine ri_simple hnx (fun G hE d mc ms post k n hd1 hk9 hn9 kk => ?_)
        obtain ⟨x, hx2⟩ := am_cvR G hb.1 hb.2
        exact am_aloadG hx2 hd (ri_lv_mem.mpr ⟨hx, by simp⟩) kk
      · cases h
    · cases h
  case astore z =>
    replace hnx := hnx.resolve_left (by simp [ri_end])
    replace hln := hln.resolve_left (by simp [ri_sw])
    simp only [ri_ln] at hln
    subst hln
    simp only [ri_rok1, decide_eq_true_eq] at hr1
    obtain ⟨hz, hr1⟩ := hr1
    subst hz
    simp only [ri_stf, st_astore] at h
    split at h
    · simp only [Option.some.injEq, Prod.mk.injEq] at h
      obtain ⟨rfl, rfl, rfl, rfl⟩ := h
      exact ri_simple hnx (fun G hE d mc ms post k n hd1 hk9 hn9 kk => am_astore hd hr1 rfl (am_lvs ri_s1_sub kk))
    · split at h
      · rename_i hb
        rw [Bool.and_eq_true, Nat.ble_eq, Nat.ble_eq] at hb
        simp only [Option.some.injEq, Prod.mk.injEq] at h
        obtain ⟨rfl, rfl, rfl, rfl⟩ := h
        refine ri_simple hnx (fun G hE d mc ms post k n hd1 hk9 hn9 kk => ?_)
        obtain ⟨x, hx2⟩ := am_cvR G hb.1 hb.2
        exact am_astoreG hx2 hd hr1 (am_lvs ri_s1_sub kk)
      · cases h
    · cases h
  case iinc z w =>
    replace hnx := hnx.resolve_left (by simp [ri_end])
    replace hln := hln.resolve_left (by simp [ri_sw])
    simp only [ri_ln] at hln
    subst hln
    simp only [ri_rok1, decide_eq_true_eq] at hr1
    obtain ⟨hz, hr1, hw⟩ := hr1
    subst hz
    simp only [ri_stf, st_iinc] at h
    split at h
    · rename_i x hx
      rw [ri_fn_eq] at h
      simp only [Option.some.injEq, Prod.mk.injEq] at h
      obtain ⟨rfl, rfl, rfl, rfl⟩ := h
      rw [ri_nth_eq] at hx
      refine ri_simple hnx (fun G hE d mc ms post k n hd1 hk9 hn9 kk => ?_)
      intro p e s m args below meth c H locs ls X hW hlo hl
      obtain ⟨j, hj⟩ := List.getElem?_of_mem (ri_lv_mem.mpr ⟨hx, by simp⟩ : (z, Value.retAddr x) ∈ ri_lv lv)
      have hf := am_flt1 G z (.retAddr ((x + nn) % 4294967296)) (ri_lv lv)
      exact lv_iinc (k := j) (x := nI x) (v := nI ((x + nn) % 4294967296)) X.1 X.2.1 hd hl (by simp [am_lv, hj, am_cv]) (by rw [hw, nI_mod, nI_add]) hr1 hf (fun ls' hl' => am_lvs ri_s1_sub kk p e s m args below meth c H locs ls' X hW hlo hl')
    · cases h
  case iadd  =>
    replace hnx := hnx.resolve_left (by simp [ri_end])
    replace hln := hln.resolve_left (by simp [ri_sw])
    simp only [ri_ln] at hln
    subst hln
    simp only [ri_stf, st_iadd] at h
    split at h
    · rename_i z x st0
      rw [ri_fn_eq] at h
      simp only [Option.some.injEq, Prod.mk.injEq] at h
      obtain ⟨rfl, rfl, rfl, rfl⟩ := h
      exact ri_simple hnx (fun G hE d mc ms post k n hd1 hk9 hn9 kk => am_stc (st2 := .int (nI z) :: .int (nI x) :: st0) rfl (am_iadd hd (am_stc (by rw [List.map_cons, List.map_cons]; exact congrArg (fun v => v :: _) (congrArg Value.int (by rw [nI_mod, nI_add]))) kk)))
    · cases h
  case isub  =>
    replace hnx := hnx.resolve_left (by simp [ri_end])
    replace hln := hln.resolve_left (by simp [ri_sw])
    simp only [ri_ln] at hln
    subst hln
    simp only [ri_stf, st_isub] at h
    split at h
    · rename_i z x st0
      rw [ri_fn_eq] at h
      simp only [Option.some.injEq, Prod.mk.injEq] at h
      obtain ⟨rfl, rfl, rfl, rfl⟩ := h
      exact ri_simple hnx (fun G hE d mc ms post k n hd1 hk9 hn9 kk => am_stc (st2 := .int (nI z) :: .int (nI x) :: st0) rfl (am_isub hd (am_stc (by rw [List.map_cons, List.map_cons]; exact congrArg (fun v => v :: _) (congrArg Value.int (nI_sub x z))) kk)))
    · cases h
  case imul  =>
    replace hnx := hnx.resolve_left (by simp [ri_end])
    replace hln := hln.resolve_left (by simp [ri_sw])
    simp only [ri_ln] at hln
    subst hln
    simp only [ri_stf, st_imul] at h
    split at h
    · rename_i z x st0
      rw [ri_fn_eq] at h
      simp only [Option.some.injEq, Prod.mk.injEq] at h
      obtain ⟨rfl, rfl, rfl, rfl⟩ := h
      exact ri_simple hnx (fun G hE d mc ms post k n hd1 hk9 hn9 kk => am_stc (st2 := .int (nI z) :: .int (nI x) :: st0) rfl (am_imul hd (am_stc (by rw [List.map_cons, List.map_cons]; exact congrArg (fun v => v :: _) (congrArg Value.int (by rw [nI_mod, pk_mul]))) kk)))
    · cases h
  case iand  =>
    replace hnx := hnx.resolve_left (by simp [ri_end])
    replace hln := hln.resolve_left (by simp [ri_sw])
    simp only [ri_ln] at hln
    subst hln
    simp only [ri_stf, st_iand] at h
    split at h
    · rename_i z x st0
      rw [ri_fn_eq] at h
      simp only [Option.some.injEq, Prod.mk.injEq] at h
      obtain ⟨rfl, rfl, rfl, rfl⟩ := h
      exact ri_simple hnx (fun G hE d mc ms post k n hd1 hk9 hn9 kk => am_stc (st2 := .int (nI z) :: .int (nI x) :: st0) rfl (am_iand hd (am_stc (by rw [List.map_cons, List.map_cons]; exact congrArg (fun v => v :: _) (congrArg Value.int (nI_and x z))) kk)))
    · cases h
  case ixor  =>
    replace hnx := hnx.resolve_left (by simp [ri_end])
    replace hln := hln.resolve_left (by simp [ri_sw])
    simp only [ri_ln] at hln
    subst hln
    simp only [ri_stf, st_ixor] at h
    split at h
    · rename_i z x st0
      rw [ri_fn_eq] at h
      simp only [Option.some.injEq, Prod.mk.injEq] at h
      obtain ⟨rfl, rfl, rfl, rfl⟩ := h
      exact ri_simple hnx (fun G hE d mc ms post k n hd1 hk9 hn9 kk => am_stc (st2 := .int (nI z) :: .int (nI x) :: st0) rfl (am_ixor hd (am_stc (by rw [List.map_cons, List.map_cons]; exact congrArg (fun v => v :: _) (congrArg Value.int (nI_xor x z))) kk)))
    · cases h
  case ishl  =>
    replace hnx := hnx.resolve_left (by simp [ri_end])
    replace hln := hln.resolve_left (by simp [ri_sw])
    simp only [ri_ln] at hln
    subst hln
    simp only [ri_stf, st_ishl] at h
    split at h
    · rename_i z x st0
      split at h
      · rename_i hc
        simp only [Bool.and_eq_true, Nat.blt, Nat.ble_eq] at hc
        rw [ri_fn_eq] at h
        simp only [Option.some.injEq, Prod.mk.injEq] at h
        obtain ⟨rfl, rfl, rfl, rfl⟩ := h
        exact ri_simple hnx (fun G hE d mc ms post k n hd1 hk9 hn9 kk => am_stc (st2 := .int (nI z) :: .int (nI x) :: st0) rfl (am_ishl hd (am_stc (by rw [List.map_cons, List.map_cons]; exact congrArg (fun v => v :: _) (congrArg Value.int (pk_shlN _ z (ri_sl z hc.1) hc.2))) kk)))
      · cases h
    · cases h
  case iushr  =>
    replace hnx := hnx.resolve_left (by simp [ri_end])
    replace hln := hln.resolve_left (by simp [ri_sw])
    simp only [ri_ln] at hln
    subst hln
    simp only [ri_stf, st_iushr] at h
    split at h
    · rename_i z x st0
      split at h
      · rename_i hc
        simp only [Bool.and_eq_true, Nat.blt, Nat.ble_eq] at hc
        rw [ri_fn_eq] at h
        simp only [Option.some.injEq, Prod.mk.injEq] at h
        obtain ⟨rfl, rfl, rfl, rfl⟩ := h
        exact ri_simple hnx (fun G hE d mc ms post k n hd1 hk9 hn9 kk => am_stc (st2 := .int (nI z) :: .int (nI x) :: st0) rfl (am_iushr hd (am_stc (by rw [List.map_cons, List.map_cons]; exact congrArg (fun v => v :: _) (congrArg Value.int (pk_ushrN hc.2 (nI z) z (ri_su z hc.1)))) kk)))
      · cases h
    · cases h
  case idiv  =>
    replace hnx := hnx.resolve_left (by simp [ri_end])
    replace hln := hln.resolve_left (by simp [ri_sw])
    simp only [ri_ln] at hln
    subst hln
    simp only [ri_stf, st_idiv] at h
    split at h
    · rename_i z x st0
      split at h
      · rename_i hc
        simp only [Bool.and_eq_true, Nat.blt, Nat.ble_eq] at hc
        rw [ri_fn_eq] at h
        simp only [Option.some.injEq, Prod.mk.injEq] at h
        obtain ⟨rfl, rfl, rfl, rfl⟩ := h
        exact ri_simple hnx (fun G hE d mc ms post k n hd1 hk9 hn9 kk => am_stc (st2 := .int (nI z) :: .int (nI x) :: st0) rfl (am_idiv hd (nI_ne0 hc.2.1 hc.2.2) (am_stc (by rw [List.map_cons, List.map_cons]; exact congrArg (fun v => v :: _) (congrArg Value.int (pk_div hc.1 hc.2.1 hc.2.2))) kk)))
      · cases h
    · cases h
  case irem  =>
    replace hnx := hnx.resolve_left (by simp [ri_end])
    replace hln := hln.resolve_left (by simp [ri_sw])
    simp only [ri_ln] at hln
    subst hln
    simp only [ri_stf, st_irem] at h
    split at h
    · rename_i z x st0
      split at h
      · rename_i hc
        simp only [Bool.and_eq_true, Nat.blt, Nat.ble_eq] at hc
        rw [ri_fn_eq] at h
        simp only [Option.some.injEq, Prod.mk.injEq] at h
        obtain ⟨rfl, rfl, rfl, rfl⟩ := h
        exact ri_simple hnx (fun G hE d mc ms post k n hd1 hk9 hn9 kk => am_stc (st2 := .int (nI z) :: .int (nI x) :: st0) rfl (am_irem hd (nI_ne0 hc.2.1 hc.2.2) (am_stc (by rw [List.map_cons, List.map_cons]; exact congrArg (fun v => v :: _) (congrArg Value.int (pk_rem hc.1 hc.2.1 hc.2.2))) kk)))
      · cases h
    · cases h
  case ishr  =>
    replace hnx := hnx.resolve_left (by simp [ri_end])
    replace hln := hln.resolve_left (by simp [ri_sw])
    simp only [ri_ln] at hln
    subst hln
    simp only [ri_stf, st_ishr] at h
    split at h
    · rename_i z x st0
      split at h
      · rename_i hc
        simp only [Bool.and_eq_true, Nat.blt, Nat.ble_eq] at hc
        rw [ri_fn_eq] at h
        simp only [Option.some.injEq, Prod.mk.injEq] at h
        obtain ⟨rfl, rfl, rfl, rfl⟩ := h
        exact ri_simple hnx (fun G hE d mc ms post k n hd1 hk9 hn9 kk => am_stc (st2 := .int (nI z) :: .int (nI x) :: st0) rfl (am_ishr hd (am_stc (by rw [List.map_cons, List.map_cons]; exact congrArg (fun v => v :: _) (congrArg Value.int (pk_shrN hc.2 _ z (ri_sl z hc.1)))) kk)))
      · cases h
    · rename_i z b st0
      split at h
      · rename_i hz
        simp only [Bool.and_eq_true, Nat.beq_eq] at hz
        simp only [Option.some.injEq, Prod.mk.injEq] at h
        obtain ⟨rfl, rfl, rfl, rfl⟩ := h
        obtain ⟨hz0, hb⟩ := hz
        subst hz0
        refine ri_simple hnx (fun G hE d mc ms post k n hd1 hk9 hn9 kk => am_stc (st2 := .int 0 :: .int (am_rho G b.toNat) :: st0) ?_ (am_ishr hd (am_stc (st2 := .float b :: st0) ?_ kk)))
        · simp only [List.map_cons, am_cvf G hb]; rfl
        · simp only [List.map_cons, am_cvf G hb, sb_shr0]; rfl
      · cases h
    · cases h
  case ineg  =>
    replace hnx := hnx.resolve_left (by simp [ri_end])
    replace hln := hln.resolve_left (by simp [ri_sw])
    simp only [ri_ln] at hln
    subst hln
    simp only [ri_stf, st_ineg] at h
    split at h
    · rename_i x st0
      rw [ri_fn_eq] at h
      simp only [Option.some.injEq, Prod.mk.injEq] at h
      obtain ⟨rfl, rfl, rfl, rfl⟩ := h
      exact ri_simple hnx (fun G hE d mc ms post k n hd1 hk9 hn9 kk => am_stc (st2 := .int (nI x) :: st0) rfl (am_ineg hd (am_stc (by rw [List.map_cons, List.map_cons]; exact congrArg (fun v => v :: _) (congrArg Value.int (nI_neg x))) kk)))
    · cases h
  case ladd  =>
    replace hnx := hnx.resolve_left (by simp [ri_end])
    replace hln := hln.resolve_left (by simp [ri_sw])
    simp only [ri_ln] at hln
    subst hln
    simp only [ri_stf, st_ladd] at h
    split at h
    · rw [ri_fl_eq] at h
      simp only [Option.some.injEq, Prod.mk.injEq] at h
      obtain ⟨rfl, rfl, rfl, rfl⟩ := h
      exact ri_simple hnx (fun G hE d mc ms post k n hd1 hk9 hn9 kk => am_ladd hd kk)
    · cases h
  case lmul  =>
    replace hnx := hnx.resolve_left (by simp [ri_end])
    replace hln := hln.resolve_left (by simp [ri_sw])
    simp only [ri_ln] at hln
    subst hln
    simp only [ri_stf, st_lmul] at h
    split at h
    · rw [ri_fl_eq] at h
      simp only [Option.some.injEq, Prod.mk.injEq] at h
      obtain ⟨rfl, rfl, rfl, rfl⟩ := h
      exact ri_simple hnx (fun G hE d mc ms post k n hd1 hk9 hn9 kk => am_lmul hd kk)
    · cases h
  case i2l  =>
    replace hnx := hnx.resolve_left (by simp [ri_end])
    replace hln := hln.resolve_left (by simp [ri_sw])
    simp only [ri_ln] at hln
    subst hln
    simp only [ri_stf, st_i2l] at h
    split at h
    · rename_i x st0
      rw [ri_fl_eq] at h
      simp only [Option.some.injEq, Prod.mk.injEq] at h
      obtain ⟨rfl, rfl, rfl, rfl⟩ := h
      exact ri_simple hnx (fun G hE d mc ms post k n hd1 hk9 hn9 kk => am_stc (st2 := .int (nI x) :: st0) rfl (am_i2l hd kk))
    · rename_i b st0
      split at h
      · rename_i hb
        simp only [Option.some.injEq, Prod.mk.injEq] at h
        obtain ⟨rfl, rfl, rfl, rfl⟩ := h
        refine ri_simple hnx (fun G hE d mc ms post k n hd1 hk9 hn9 kk => am_stc (st2 := .int (am_rho G b.toNat) :: st0) ?_ (am_i2l hd (am_stc (st2 := .double b.toUInt64 :: st0) ?_ kk)))
        · simp only [List.map_cons, am_cvf G hb]; rfl
        · simp only [List.map_cons, am_cv, UInt32.toNat_toUInt64]
      · cases h
    · cases h
  case lcmp  =>
    replace hnx := hnx.resolve_left (by simp [ri_end])
    replace hln := hln.resolve_left (by simp [ri_sw])
    simp only [ri_ln] at hln
    subst hln
    simp only [ri_stf, st_lcmp] at h
    split at h
    · rename_i z x st0
      split at h
      · rename_i hc
        simp only [Option.some.injEq, Prod.mk.injEq] at h
        obtain ⟨rfl, rfl, rfl, rfl⟩ := h
        refine ri_simple hnx (fun G hE d mc ms post k n hd1 hk9 hn9 kk => am_stc (st2 := .long z :: .long x :: st0) rfl (am_lcmp hd (am_stc (st2 := .retAddr 1 :: st0) ?_ kk)))
        have e : lg_cmp x z = nI 1 := by
          unfold lg_cmp
          rw [if_pos hc]
          rfl
        rw [List.map_cons, List.map_cons, e]
        rfl
      · rename_i hc
        split at h
        · rename_i hc2
          simp only [Option.some.injEq, Prod.mk.injEq] at h
          obtain ⟨rfl, rfl, rfl, rfl⟩ := h
          refine ri_simple hnx (fun G hE d mc ms post k n hd1 hk9 hn9 kk => am_stc (st2 := .long z :: .long x :: st0) rfl (am_lcmp hd (am_stc (st2 := .retAddr 0 :: st0) ?_ kk)))
          have e : lg_cmp x z = nI 0 := by
            unfold lg_cmp
            rw [if_neg hc, if_pos hc2]
            rfl
          rw [List.map_cons, List.map_cons, e]
          rfl
        · rename_i hc2
          simp only [Option.some.injEq, Prod.mk.injEq] at h
          obtain ⟨rfl, rfl, rfl, rfl⟩ := h
          refine ri_simple hnx (fun G hE d mc ms post k n hd1 hk9 hn9 kk => am_stc (st2 := .long z :: .long x :: st0) rfl (am_lcmp hd (am_stc (st2 := .retAddr 4294967295 :: st0) ?_ kk)))
          have e : lg_cmp x z = nI 4294967295 := by
            unfold lg_cmp
            rw [if_neg hc, if_neg hc2]
            rfl
          rw [List.map_cons, List.map_cons, e]
          rfl
    · rename_i z b st0
      split at h
      · rename_i lo hi hiv
        rw [ri_nth_eq] at hiv
        have key : ∀ (G : am_G), am_Env G E → lo ≤ (am_rho G b.toNat).toInt64.toInt ∧ (am_rho G b.toNat).toInt64.toInt ≤ hi := fun G hE => by
          rw [Int32.toInt_toInt64]
          exact hE _ _ _ hiv
        split at h
        · rename_i hc
          simp only [Option.some.injEq, Prod.mk.injEq] at h
          obtain ⟨rfl, rfl, rfl, rfl⟩ := h
          refine ri_simple hnx (fun G hE d mc ms post k n hd1 hk9 hn9 kk => am_stc (st2 := .long z :: .long (am_rho G b.toNat).toInt64 :: st0) rfl (am_lcmp hd (am_stc (st2 := .retAddr 4294967295 :: st0) ?_ kk)))
          have e : lg_cmp (am_rho G b.toNat).toInt64 z = nI 4294967295 := by
            have := key G hE
            unfold lg_cmp
            rw [if_neg (by rw [gt_iff_lt, Int64.lt_iff_toInt_lt]; omega), if_neg (by rw [← Int64.toInt_inj]; omega)]
            rfl
          rw [List.map_cons, List.map_cons, e]
          rfl
        · split at h
          · rename_i hc
            simp only [Option.some.injEq, Prod.mk.injEq] at h
            obtain ⟨rfl, rfl, rfl, rfl⟩ := h
            refine ri_simple hnx (fun G hE d mc ms post k n hd1 hk9 hn9 kk => am_stc (st2 := .long z :: .long (am_rho G b.toNat).toInt64 :: st0) rfl (am_lcmp hd (am_stc (st2 := .retAddr 1 :: st0) ?_ kk)))
            have e : lg_cmp (am_rho G b.toNat).toInt64 z = nI 1 := by
              have := key G hE
              unfold lg_cmp
              rw [if_pos (by rw [gt_iff_lt, Int64.lt_iff_toInt_lt]; omega)]
              rfl
            rw [List.map_cons, List.map_cons, e]
            rfl
          · split at h
            · rename_i hc
              simp only [Option.some.injEq, Prod.mk.injEq] at h
              obtain ⟨rfl, rfl, rfl, rfl⟩ := h
              refine ri_simple hnx (fun G hE d mc ms post k n hd1 hk9 hn9 kk => am_stc (st2 := .long z :: .long (am_rho G b.toNat).toInt64 :: st0) rfl (am_lcmp hd (am_stc (st2 := .retAddr 0 :: st0) ?_ kk)))
              have e : lg_cmp (am_rho G b.toNat).toInt64 z = nI 0 := by
                have := key G hE
                unfold lg_cmp
                rw [if_neg (by rw [gt_iff_lt, Int64.lt_iff_toInt_lt]; omega), if_pos (by rw [← Int64.toInt_inj]; omega)]
                rfl
              rw [List.map_cons, List.map_cons, e]
              rfl
            · cases h
      · cases h
    · cases h
  case dup  =>
    replace hnx := hnx.resolve_left (by simp [ri_end])
    replace hln := hln.resolve_left (by simp [ri_sw])
    simp only [ri_ln] at hln
    subst hln
    simp only [ri_stf, st_dup] at h
    split at h
    · simp only [Option.some.injEq, Prod.mk.injEq] at h
      obtain ⟨rfl, rfl, rfl, rfl⟩ := h
      exact ri_simple hnx (fun G hE d mc ms post k n hd1 hk9 hn9 kk => am_dup hd rfl kk)
    · simp only [Option.some.injEq, Prod.mk.injEq] at h
      obtain ⟨rfl, rfl, rfl, rfl⟩ := h
      exact ri_simple hnx (fun G hE d mc ms post k n hd1 hk9 hn9 kk => am_dup hd rfl kk)
    · cases h
  case dup2  =>
    replace hnx := hnx.resolve_left (by simp [ri_end])
    replace hln := hln.resolve_left (by simp [ri_sw])
    simp only [ri_ln] at hln
    subst hln
    simp only [ri_stf, st_dup2] at h
    split at h
    · simp only [Option.some.injEq, Prod.mk.injEq] at h
      obtain ⟨rfl, rfl, rfl, rfl⟩ := h
      exact ri_simple hnx (fun G hE d mc ms post k n hd1 hk9 hn9 kk => am_dup2 hd rfl rfl kk)
    · cases h
  case if_icmp c off =>
    replace hnx := hnx.resolve_left (by simp [ri_end])
    replace hln := hln.resolve_left (by simp [ri_sw])
    simp only [ri_ln] at hln
    subst hln
    simp only [ri_rok1, decide_eq_true_eq, Option.map_eq_some_iff] at hr1
    obtain ⟨tp, ht1, ht2⟩ := hr1
    cases c
    · simp only [ri_stf, st_icmp_eq] at h
      split at h
      · rename_i z x st0
        split at h
        · rename_i hc
          simp only [Option.some.injEq, Prod.mk.injEq] at h
          obtain ⟨rfl, rfl, rfl, rfl⟩ := h
          refine ri_simple (pc2 := tp) ht1 (fun G hE d mc ms post k n hd1 hk9 hn9 kk => ?_)
          obtain ⟨i1, i2, i3⟩ := ri_cmp_ok hE hc
          exact am_stc (st2 := .int (am_xi G z) :: .int (am_xi G x) :: st0) (by simp only [List.map_cons, am_xi_cv G i1, am_xi_cv G i2]; rfl) (am_icmp hd ht2.symm (fun _ => kk) (fun q => absurd (i3.mp rfl) q))
        · rename_i hc
          simp only [Option.some.injEq, Prod.mk.injEq] at h
          obtain ⟨rfl, rfl, rfl, rfl⟩ := h
          refine ri_simple hnx (fun G hE d mc ms post k n hd1 hk9 hn9 kk => ?_)
          obtain ⟨i1, i2, i3⟩ := ri_cmp_ok hE hc
          exact am_stc (st2 := .int (am_xi G z) :: .int (am_xi G x) :: st0) (by simp only [List.map_cons, am_xi_cv G i1, am_xi_cv G i2]; rfl) (am_icmp hd ht2.symm (fun q => absurd (i3.mpr q) (by decide)) (fun _ => kk))
        · cases h
      · cases h
    · simp only [ri_stf, st_icmp_ne] at h
      split at h
      · rename_i z x st0
        split at h
        · rename_i hc
          simp only [Option.some.injEq, Prod.mk.injEq] at h
          obtain ⟨rfl, rfl, rfl, rfl⟩ := h
          refine ri_simple (pc2 := tp) ht1 (fun G hE d mc ms post k n hd1 hk9 hn9 kk => ?_)
          obtain ⟨i1, i2, i3⟩ := ri_cmp_ok hE hc
          exact am_stc (st2 := .int (am_xi G z) :: .int (am_xi G x) :: st0) (by simp only [List.map_cons, am_xi_cv G i1, am_xi_cv G i2]; rfl) (am_icmp hd ht2.symm (fun _ => kk) (fun q => absurd (i3.mp rfl) q))
        · rename_i hc
          simp only [Option.some.injEq, Prod.mk.injEq] at h
          obtain ⟨rfl, rfl, rfl, rfl⟩ := h
          refine ri_simple hnx (fun G hE d mc ms post k n hd1 hk9 hn9 kk => ?_)
          obtain ⟨i1, i2, i3⟩ := ri_cmp_ok hE hc
          exact am_stc (st2 := .int (am_xi G z) :: .int (am_xi G x) :: st0) (by simp only [List.map_cons, am_xi_cv G i1, am_xi_cv G i2]; rfl) (am_icmp hd ht2.symm (fun q => absurd (i3.mpr q) (by decide)) (fun _ => kk))
        · cases h
      · cases h
    · simp only [ri_stf, st_icmp_lt] at h
      split at h
      · rename_i z x st0
        split at h
        · rename_i hc
          simp only [Option.some.injEq, Prod.mk.injEq] at h
          obtain ⟨rfl, rfl, rfl, rfl⟩ := h
          refine ri_simple (pc2 := tp) ht1 (fun G hE d mc ms post k n hd1 hk9 hn9 kk => ?_)
          obtain ⟨i1, i2, i3⟩ := ri_cmp_ok hE hc
          exact am_stc (st2 := .int (am_xi G z) :: .int (am_xi G x) :: st0) (by simp only [List.map_cons, am_xi_cv G i1, am_xi_cv G i2]; rfl) (am_icmp hd ht2.symm (fun _ => kk) (fun q => absurd (i3.mp rfl) q))
        · rename_i hc
          simp only [Option.some.injEq, Prod.mk.injEq] at h
          obtain ⟨rfl, rfl, rfl, rfl⟩ := h
          refine ri_simple hnx (fun G hE d mc ms post k n hd1 hk9 hn9 kk => ?_)
          obtain ⟨i1, i2, i3⟩ := ri_cmp_ok hE hc
          exact am_stc (st2 := .int (am_xi G z) :: .int (am_xi G x) :: st0) (by simp only [List.map_cons, am_xi_cv G i1, am_xi_cv G i2]; rfl) (am_icmp hd ht2.symm (fun q => absurd (i3.mpr q) (by decide)) (fun _ => kk))
        · cases h
      · cases h
    · simp only [ri_stf, st_icmp_ge] at h
      split at h
      · rename_i z x st0
        split at h
        · rename_i hc
          simp only [Option.some.injEq, Prod.mk.injEq] at h
          obtain ⟨rfl, rfl, rfl, rfl⟩ := h
          refine ri_simple (pc2 := tp) ht1 (fun G hE d mc ms post k n hd1 hk9 hn9 kk => ?_)
          obtain ⟨i1, i2, i3⟩ := ri_cmp_ok hE hc
          exact am_stc (st2 := .int (am_xi G z) :: .int (am_xi G x) :: st0) (by simp only [List.map_cons, am_xi_cv G i1, am_xi_cv G i2]; rfl) (am_icmp hd ht2.symm (fun _ => kk) (fun q => absurd (i3.mp rfl) q))
        · rename_i hc
          simp only [Option.some.injEq, Prod.mk.injEq] at h
          obtain ⟨rfl, rfl, rfl, rfl⟩ := h
          refine ri_simple hnx (fun G hE d mc ms post k n hd1 hk9 hn9 kk => ?_)
          obtain ⟨i1, i2, i3⟩ := ri_cmp_ok hE hc
          exact am_stc (st2 := .int (am_xi G z) :: .int (am_xi G x) :: st0) (by simp only [List.map_cons, am_xi_cv G i1, am_xi_cv G i2]; rfl) (am_icmp hd ht2.symm (fun q => absurd (i3.mpr q) (by decide)) (fun _ => kk))
        · cases h
      · cases h
    · simp only [ri_stf, st_icmp_gt] at h
      split at h
      · rename_i z x st0
        split at h
        · rename_i hc
          simp only [Option.some.injEq, Prod.mk.injEq] at h
          obtain ⟨rfl, rfl, rfl, rfl⟩ := h
          refine ri_simple (pc2 := tp) ht1 (fun G hE d mc ms post k n hd1 hk9 hn9 kk => ?_)
          obtain ⟨i1, i2, i3⟩ := ri_cmp_ok hE hc
          exact am_stc (st2 := .int (am_xi G z) :: .int (am_xi G x) :: st0) (by simp only [List.map_cons, am_xi_cv G i1, am_xi_cv G i2]; rfl) (am_icmp hd ht2.symm (fun _ => kk) (fun q => absurd (i3.mp rfl) q))
        · rename_i hc
          simp only [Option.some.injEq, Prod.mk.injEq] at h
          obtain ⟨rfl, rfl, rfl, rfl⟩ := h
          refine ri_simple hnx (fun G hE d mc ms post k n hd1 hk9 hn9 kk => ?_)
          obtain ⟨i1, i2, i3⟩ := ri_cmp_ok hE hc
          exact am_stc (st2 := .int (am_xi G z) :: .int (am_xi G x) :: st0) (by simp only [List.map_cons, am_xi_cv G i1, am_xi_cv G i2]; rfl) (am_icmp hd ht2.symm (fun q => absurd (i3.mpr q) (by decide)) (fun _ => kk))
        · cases h
      · cases h
    · simp only [ri_stf, st_icmp_le] at h
      split at h
      · rename_i z x st0
        split at h
        · rename_i hc
          simp only [Option.some.injEq, Prod.mk.injEq] at h
          obtain ⟨rfl, rfl, rfl, rfl⟩ := h
          refine ri_simple (pc2 := tp) ht1 (fun G hE d mc ms post k n hd1 hk9 hn9 kk => ?_)
          obtain ⟨i1, i2, i3⟩ := ri_cmp_ok hE hc
          exact am_stc (st2 := .int (am_xi G z) :: .int (am_xi G x) :: st0) (by simp only [List.map_cons, am_xi_cv G i1, am_xi_cv G i2]; rfl) (am_icmp hd ht2.symm (fun _ => kk) (fun q => absurd (i3.mp rfl) q))
        · rename_i hc
          simp only [Option.some.injEq, Prod.mk.injEq] at h
          obtain ⟨rfl, rfl, rfl, rfl⟩ := h
          refine ri_simple hnx (fun G hE d mc ms post k n hd1 hk9 hn9 kk => ?_)
          obtain ⟨i1, i2, i3⟩ := ri_cmp_ok hE hc
          exact am_stc (st2 := .int (am_xi G z) :: .int (am_xi G x) :: st0) (by simp only [List.map_cons, am_xi_cv G i1, am_xi_cv G i2]; rfl) (am_icmp hd ht2.symm (fun q => absurd (i3.mpr q) (by decide)) (fun _ => kk))
        · cases h
      · cases h
  case ifCond c off =>
    replace hnx := hnx.resolve_left (by simp [ri_end])
    replace hln := hln.resolve_left (by simp [ri_sw])
    simp only [ri_ln] at hln
    subst hln
    simp only [ri_rok1, decide_eq_true_eq, Option.map_eq_some_iff] at hr1
    obtain ⟨tp, ht1, ht2⟩ := hr1
    cases c
    · simp only [ri_stf, st_if_eq] at h
      split at h
      · rename_i x st0
        split at h
        · rename_i hc
          simp only [Option.some.injEq, Prod.mk.injEq] at h
          obtain ⟨rfl, rfl, rfl, rfl⟩ := h
          refine ri_simple (pc2 := tp) ht1 (fun G hE d mc ms post k n hd1 hk9 hn9 kk => ?_)
          obtain ⟨i1, i2, i3⟩ := ri_cmp_ok hE hc
          exact am_stc (st2 := .int (am_xi G x) :: st0) (by simp only [List.map_cons, am_xi_cv G i1]; rfl) (am_ifc hd ht2.symm (fun _ => kk) (fun q => absurd (i3.mp rfl) q))
        · rename_i hc
          simp only [Option.some.injEq, Prod.mk.injEq] at h
          obtain ⟨rfl, rfl, rfl, rfl⟩ := h
          refine ri_simple hnx (fun G hE d mc ms post k n hd1 hk9 hn9 kk => ?_)
          obtain ⟨i1, i2, i3⟩ := ri_cmp_ok hE hc
          exact am_stc (st2 := .int (am_xi G x) :: st0) (by simp only [List.map_cons, am_xi_cv G i1]; rfl) (am_ifc hd ht2.symm (fun q => absurd (i3.mpr q) (by decide)) (fun _ => kk))
        · cases h
      · cases h
    · simp only [ri_stf, st_if_ne] at h
      split at h
      · rename_i x st0
        split at h
        · rename_i hc
          simp only [Option.some.injEq, Prod.mk.injEq] at h
          obtain ⟨rfl, rfl, rfl, rfl⟩ := h
          refine ri_simple (pc2 := tp) ht1 (fun G hE d mc ms post k n hd1 hk9 hn9 kk => ?_)
          obtain ⟨i1, i2, i3⟩ := ri_cmp_ok hE hc
          exact am_stc (st2 := .int (am_xi G x) :: st0) (by simp only [List.map_cons, am_xi_cv G i1]; rfl) (am_ifc hd ht2.symm (fun _ => kk) (fun q => absurd (i3.mp rfl) q))
        · rename_i hc
          simp only [Option.some.injEq, Prod.mk.injEq] at h
          obtain ⟨rfl, rfl, rfl, rfl⟩ := h
          refine ri_simple hnx (fun G hE d mc ms post k n hd1 hk9 hn9 kk => ?_)
          obtain ⟨i1, i2, i3⟩ := ri_cmp_ok hE hc
          exact am_stc (st2 := .int (am_xi G x) :: st0) (by simp only [List.map_cons, am_xi_cv G i1]; rfl) (am_ifc hd ht2.symm (fun q => absurd (i3.mpr q) (by decide)) (fun _ => kk))
        · cases h
      · cases h
    · simp only [ri_stf, st_if_lt] at h
      split at h
      · rename_i x st0
        split at h
        · rename_i hc
          simp only [Option.some.injEq, Prod.mk.injEq] at h
          obtain ⟨rfl, rfl, rfl, rfl⟩ := h
          refine ri_simple (pc2 := tp) ht1 (fun G hE d mc ms post k n hd1 hk9 hn9 kk => ?_)
          obtain ⟨i1, i2, i3⟩ := ri_cmp_ok hE hc
          exact am_stc (st2 := .int (am_xi G x) :: st0) (by simp only [List.map_cons, am_xi_cv G i1]; rfl) (am_ifc hd ht2.symm (fun _ => kk) (fun q => absurd (i3.mp rfl) q))
        · rename_i hc
          simp only [Option.some.injEq, Prod.mk.injEq] at h
          obtain ⟨rfl, rfl, rfl, rfl⟩ := h
          refine ri_simple hnx (fun G hE d mc ms post k n hd1 hk9 hn9 kk => ?_)
          obtain ⟨i1, i2, i3⟩ := ri_cmp_ok hE hc
          exact am_stc (st2 := .int (am_xi G x) :: st0) (by simp only [List.map_cons, am_xi_cv G i1]; rfl) (am_ifc hd ht2.symm (fun q => absurd (i3.mpr q) (by decide)) (fun _ => kk))
        · cases h
      · cases h
    · simp only [ri_stf, st_if_ge] at h
      split at h
      · rename_i x st0
        split at h
        · rename_i hc
          simp only [Option.some.injEq, Prod.mk.injEq] at h
          obtain ⟨rfl, rfl, rfl, rfl⟩ := h
          refine ri_simple (pc2 := tp) ht1 (fun G hE d mc ms post k n hd1 hk9 hn9 kk => ?_)
          obtain ⟨i1, i2, i3⟩ := ri_cmp_ok hE hc
          exact am_stc (st2 := .int (am_xi G x) :: st0) (by simp only [List.map_cons, am_xi_cv G i1]; rfl) (am_ifc hd ht2.symm (fun _ => kk) (fun q => absurd (i3.mp rfl) q))
        · rename_i hc
          simp only [Option.some.injEq, Prod.mk.injEq] at h
          obtain ⟨rfl, rfl, rfl, rfl⟩ := h
          refine ri_simple hnx (fun G hE d mc ms post k n hd1 hk9 hn9 kk => ?_)
          obtain ⟨i1, i2, i3⟩ := ri_cmp_ok hE hc
          exact am_stc (st2 := .int (am_xi G x) :: st0) (by simp only [List.map_cons, am_xi_cv G i1]; rfl) (am_ifc hd ht2.symm (fun q => absurd (i3.mpr q) (by decide)) (fun _ => kk))
        · cases h
      · cases h
    · simp only [ri_stf, st_if_gt] at h
      split at h
      · rename_i x st0
        split at h
        · rename_i hc
          simp only [Option.some.injEq, Prod.mk.injEq] at h
          obtain ⟨rfl, rfl, rfl, rfl⟩ := h
          refine ri_simple (pc2 := tp) ht1 (fun G hE d mc ms post k n hd1 hk9 hn9 kk => ?_)
          obtain ⟨i1, i2, i3⟩ := ri_cmp_ok hE hc
          exact am_stc (st2 := .int (am_xi G x) :: st0) (by simp only [List.map_cons, am_xi_cv G i1]; rfl) (am_ifc hd ht2.symm (fun _ => kk) (fun q => absurd (i3.mp rfl) q))
        · rename_i hc
          simp only [Option.some.injEq, Prod.mk.injEq] at h
          obtain ⟨rfl, rfl, rfl, rfl⟩ := h
          refine ri_simple hnx (fun G hE d mc ms post k n hd1 hk9 hn9 kk => ?_)
          obtain ⟨i1, i2, i3⟩ := ri_cmp_ok hE hc
          exact am_stc (st2 := .int (am_xi G x) :: st0) (by simp only [List.map_cons, am_xi_cv G i1]; rfl) (am_ifc hd ht2.symm (fun q => absurd (i3.mpr q) (by decide)) (fun _ => kk))
        · cases h
      · cases h
    · simp only [ri_stf, st_if_le] at h
      split at h
      · rename_i x st0
        split at h
        · rename_i hc
          simp only [Option.some.injEq, Prod.mk.injEq] at h
          obtain ⟨rfl, rfl, rfl, rfl⟩ := h
          refine ri_simple (pc2 := tp) ht1 (fun G hE d mc ms post k n hd1 hk9 hn9 kk => ?_)
          obtain ⟨i1, i2, i3⟩ := ri_cmp_ok hE hc
          exact am_stc (st2 := .int (am_xi G x) :: st0) (by simp only [List.map_cons, am_xi_cv G i1]; rfl) (am_ifc hd ht2.symm (fun _ => kk) (fun q => absurd (i3.mp rfl) q))
        · rename_i hc
          simp only [Option.some.injEq, Prod.mk.injEq] at h
          obtain ⟨rfl, rfl, rfl, rfl⟩ := h
          refine ri_simple hnx (fun G hE d mc ms post k n hd1 hk9 hn9 kk => ?_)
          obtain ⟨i1, i2, i3⟩ := ri_cmp_ok hE hc
          exact am_stc (st2 := .int (am_xi G x) :: st0) (by simp only [List.map_cons, am_xi_cv G i1]; rfl) (am_ifc hd ht2.symm (fun q => absurd (i3.mpr q) (by decide)) (fun _ => kk))
        · cases h
      · cases h
  case goto off =>
    replace hln := hln.resolve_left (by simp [ri_sw])
    simp only [ri_ln] at hln
    subst hln
    simp only [ri_rok1, decide_eq_true_eq, Option.map_eq_some_iff] at hr1
    obtain ⟨tp, ht1, ht2⟩ := hr1
    simp only [ri_stf, st_goto] at h
    simp only [Option.some.injEq, Prod.mk.injEq] at h
    obtain ⟨rfl, rfl, rfl, rfl⟩ := h
    exact ri_simple (pc2 := tp) ht1 (fun G hE d mc ms post k n hd1 hk9 hn9 kk => am_goto hd ht2.symm kk)
  case tableswitch df lo hi offs =>
    simp only [ri_rok1, decide_eq_true_eq, Option.map_eq_some_iff, Bool.and_eq_true] at hr1
    obtain ⟨⟨hlo0, hhi⟩, ⟨tp, ht1, ht2⟩, ht3⟩ := hr1
    subst hlo0
    simp only [ri_stf, st_table] at h
    split at h
    · rename_i x st0
      split at h
      · cases h
      · rename_i hx
        rw [Nat.ble_eq] at hx
        have hxi : (nI x).toInt = (x : Int) := nI_toInt (by omega)
        split at h
        · rename_i t htt
          rw [ri_nth_eq] at htt
          simp only [Option.some.injEq, Prod.mk.injEq] at h
          obtain ⟨rfl, rfl, rfl, rfl⟩ := h
          have hlt := (List.getElem?_eq_some_iff.mp htt).1
          have h9 := congrArg (fun l => l[x]?) ht3
          simp only [List.getElem?_map, htt, Option.map_some] at h9
          have h10 : ∃ off, offs[x]? = some off := by
            cases ho : offs[x]? with
            | none =>
              rw [Array.getElem?_toList (xs := offs), ho] at h9
              simp at h9
            | some off => exact ⟨off, rfl⟩
          obtain ⟨off, ho⟩ := h10
          rw [Array.getElem?_toList (xs := offs), ho] at h9
          simp only [Option.map_some, Option.some.injEq, Option.map_eq_some_iff] at h9
          obtain ⟨tp2, g1, g2⟩ := h9
          exact ri_simple (pc2 := tp2) g1 (fun G hE d mc ms post k n hd1 hk9 hn9 kk => am_stc (st2 := .int (nI x) :: st0) rfl (am_tblIn hd (by rw [hxi]; omega) (by rw [hxi]; omega) (by rw [hxi]; simpa using ho) g2.symm kk))
        · rename_i htt
          rw [ri_nth_eq, List.getElem?_eq_none_iff] at htt
          simp only [Option.some.injEq, Prod.mk.injEq] at h
          obtain ⟨rfl, rfl, rfl, rfl⟩ := h
          exact ri_simple (pc2 := tp) ht1 (fun G hE d mc ms post k n hd1 hk9 hn9 kk => am_stc (st2 := .int (nI x) :: st0) rfl (am_tblOut hd (by rw [hxi]; omega) ht2.symm kk))
    · rename_i b st0
      split at h
      · rename_i hb
        split at h
        · rename_i l0 h0 hiv
          rw [ri_nth_eq] at hiv
          split at h
          · rename_i hc
            simp only [Option.some.injEq, Prod.mk.injEq] at h
            obtain ⟨rfl, rfl, rfl, rfl⟩ := h
            refine ri_simple (pc2 := tp) ht1 (fun G hE d mc ms post k n hd1 hk9 hn9 kk => am_stc (st2 := .int (am_rho G b.toNat) :: st0) (by simp only [List.map_cons, am_cvf G hb]; rfl) (am_tblOut hd ?_ ht2.symm kk))
            have := hE _ _ _ hiv
            omega
          · cases h
        · cases h
      · cases h
    · cases h
  case getfield idx =>
    replace hnx := hnx.resolve_left (by simp [ri_end])
    replace hln := hln.resolve_left (by simp [ri_sw])
    simp only [ri_ln] at hln
    subst hln
    simp only [ri_rok1] at hr1
    simp only [ri_stf, st_getfield] at h
    split at h
    · split at h
      · rename_i ci fs hL
        split at h
        · cases h
        · rename_i hb
          split at h
          · rename_i hci
            have hci : ci = a := by simpa using hci
            subst hci
            split at h
            · rename_i w hw
              rw [ri_nth_eq] at hw
              simp only [Option.some.injEq, Prod.mk.injEq] at h
              obtain ⟨rfl, rfl, rfl, rfl⟩ := h
              split at hr1
              · rename_i q hq
                simp only [Bool.and_eq_true, decide_eq_true_eq] at hr1
                exact ri_simple hnx (fun G hE d mc ms post k n hd1 hk9 hn9 kk => am_get hd hq hr1.1 (ri_lw_in hr1.2) (ri_lt hb) (ri_h_at hL) hw kk)
              · cases hr1
            · cases h
          · cases h
      · cases h
    · rename_i b0 st0
      split at h
      · rename_i hb0
        simp only [Bool.and_eq_true, Nat.beq_eq] at hb0
        obtain ⟨hb1, hb2⟩ := hb0
        subst hb2
        split at h
        · rename_i x hpc
          obtain ⟨hN, hcell⟩ := ri_pall_ok (ri_pcell_ok hpc)
          split at hr1
          · rename_i q hq
            simp only [Bool.and_eq_true, decide_eq_true_eq] at hr1
            split at h
            · rename_i hk1
              rw [Nat.beq_eq] at hk1
              subst hk1
              simp only [Option.some.injEq, Prod.mk.injEq] at h
              obtain ⟨rfl, rfl, rfl, rfl⟩ := h
              refine ri_simple hnx (fun G hE d mc ms post k n hd1 hk9 hn9 kk => ?_)
              obtain ⟨p1, p2, p3, p4⟩ := ri_isP_ok hE hb1
              refine am_stc (st2 := .ref (90 + 2 * am_px G (b0.toNat - 2000)) :: st0) (by simp only [List.map_cons, p1]; rfl) (am_get hd hq hr1.1 (ri_lw_in hr1.2) (by omega) (ri_h_at (hcell _ p2)) rfl kk)
            · split at h
              · rename_i hk1
                rw [Nat.beq_eq] at hk1
                subst hk1
                simp only [Option.some.injEq, Prod.mk.injEq] at h
                obtain ⟨rfl, rfl, rfl, rfl⟩ := h
                refine ri_simple hnx (fun G hE d mc ms post k n hd1 hk9 hn9 kk => ?_)
                obtain ⟨p1, p2, p3, p4⟩ := ri_isP_ok hE hb1
                refine am_stc (st2 := .ref (90 + 2 * am_px G (b0.toNat - 2000)) :: st0) (by simp only [List.map_cons, p1]; rfl) (am_get hd hq hr1.1 (ri_lw_in hr1.2) (by omega) (ri_h_at (hcell _ p2)) rfl (am_stc ?_ kk))
                have e1 : (UInt32.ofNat (b0.toNat + 1000)).toNat = b0.toNat + 1000 := by
                  rw [UInt32.toNat_ofNat']
                  omega
                have e2 := am_cvC G (b := UInt32.ofNat (b0.toNat + 1000)) (by omega) (by omega)
                rw [e1, show b0.toNat + 1000 - 3000 = b0.toNat - 2000 by omega] at e2
                simp only [List.map_cons, e2]
                rfl
              · cases h
          · cases hr1
        · cases h
      · cases h
    · cases h
  case putfield idx =>
    replace hnx := hnx.resolve_left (by simp [ri_end])
    replace hln := hln.resolve_left (by simp [ri_sw])
    simp only [ri_ln] at hln
    subst hln
    simp only [ri_rok1] at hr1
    simp only [ri_stf, st_putfield] at h
    split at h
    · split at h
      · rename_i x a2 st0 xx ci fs hL
        split at h
        · cases h
        · rename_i hbl
          split at h
          · rename_i hci
            simp only [Bool.and_eq_true, Bool.or_eq_true, Nat.beq_eq, Nat.ble_eq] at hci
            simp only [Option.some.injEq, Prod.mk.injEq] at h
            obtain ⟨rfl, rfl, rfl, rfl⟩ := h
            obtain ⟨hci0, hv0, hfs⟩ := hci
            subst hci0
            split at hr1
            · rename_i q hq
              simp only [Bool.and_eq_true, decide_eq_true_eq, Bool.or_eq_true, Bool.not_eq_true'] at hr1
              obtain ⟨⟨⟨hj, hlk⟩, hfin⟩, hty⟩ := hr1
              have hfl : b < fs.length := by
                rw [Option.isSome_iff_exists, ri_nth_eq] at hfs
                obtain ⟨z, hz⟩ := hfs
                exact (List.getElem?_eq_some_iff.mp hz).1
              have hnf : ∃ ty, parseFieldDescriptor (q.2.1 b).2.2.1 = some ty ∧ ∀ G : am_G, narrow ty (am_cv G (.retAddr x)) = am_cv G (.retAddr x) ∧ fits ty (am_cv G (.retAddr x)) = true := by
                split at hty
                · rename_i he
                  exact ⟨_, he, fun G => ⟨rfl, rfl⟩⟩
                · rename_i he
                  have hty : nn = 1 := by simpa using hty
                  subst hty
                  have hv1 : x = 0 ∨ x = 1 := by
                    rcases hv0 with hv0 | hv0
                    · cases hv0
                    · have := hv0.2
                      omega
                  refine ⟨_, he, fun G => ?_⟩
                  rcases hv1 with rfl | rfl
                  · exact ⟨rfl, rfl⟩
                  · exact ⟨rfl, rfl⟩
                · rename_i he
                  have hty : nn = 2 := by simpa using hty
                  subst hty
                  simp at hv0
                · rename_i he
                  have hty : nn = 2 := by simpa using hty
                  subst hty
                  simp at hv0
                · cases hty
              obtain ⟨ty, hty1, hty2⟩ := hnf
              refine ri_wr hL hnx (fun G d mc ms post k n hd1 kk => ?_)
              rw [ri_upd_eq] at kk
              rcases hfin with hf | hf
              · exact am_put hd hq hj (ri_lw_in hlk) hf hty1 (hty2 G).1 (hty2 G).2 (ri_lt hbl) (ri_h_at hL) hfl kk
              · cases hfb : (q.2.1 b).2.2.2 with
                | false => exact am_put hd hq hj (ri_lw_in hlk) hfb hty1 (hty2 G).1 (hty2 G).2 (ri_lt hbl) (ri_h_at hL) hfl kk
                | true => exact am_putF hd hq hj (ri_lw_in hlk) hfb hf.1 hf.2 hty1 (hty2 G).1 (hty2 G).2 (ri_lt hbl) (ri_h_at hL) hfl kk
            · cases hr1
          · cases h
      · cases h
    · split at h
      · rename_i x a2 st0 xx ci fs hL
        split at h
        · cases h
        · rename_i hbl
          split at h
          · rename_i hci
            simp only [Bool.and_eq_true, Bool.or_eq_true, Nat.beq_eq, Nat.ble_eq] at hci
            simp only [Option.some.injEq, Prod.mk.injEq] at h
            obtain ⟨rfl, rfl, rfl, rfl⟩ := h
            obtain ⟨hci0, hv0, hfs⟩ := hci
            subst hci0
            split at hr1
            · rename_i q hq
              simp only [Bool.and_eq_true, decide_eq_true_eq, Bool.or_eq_true, Bool.not_eq_true'] at hr1
              obtain ⟨⟨⟨hj, hlk⟩, hfin⟩, hty⟩ := hr1
              have hfl : b < fs.length := by
                rw [Option.isSome_iff_exists, ri_nth_eq] at hfs
                obtain ⟨z, hz⟩ := hfs
                exact (List.getElem?_eq_some_iff.mp hz).1
              have hnf : ∃ ty, parseFieldDescriptor (q.2.1 b).2.2.1 = some ty ∧ ∀ G : am_G, narrow ty (am_cv G (.ref x)) = am_cv G (.ref x) ∧ fits ty (am_cv G (.ref x)) = true := by
                split at hty
                · rename_i he
                  have hty : nn = 0 := by simpa using hty
                  subst hty
                  simp at hv0
                · rename_i he
                  have hty : nn = 1 := by simpa using hty
                  subst hty
                  simp at hv0
                · rename_i he
                  exact ⟨_, he, fun G => ⟨rfl, rfl⟩⟩
                · rename_i he
                  exact ⟨_, he, fun G => ⟨rfl, rfl⟩⟩
                · cases hty
              obtain ⟨ty, hty1, hty2⟩ := hnf
              refine ri_wr hL hnx (fun G d mc ms post k n hd1 kk => ?_)
              rw [ri_upd_eq] at kk
              rcases hfin with hf | hf
              · exact am_put hd hq hj (ri_lw_in hlk) hf hty1 (hty2 G).1 (hty2 G).2 (ri_lt hbl) (ri_h_at hL) hfl kk
              · cases hfb : (q.2.1 b).2.2.2 with
                | false => exact am_put hd hq hj (ri_lw_in hlk) hfb hty1 (hty2 G).1 (hty2 G).2 (ri_lt hbl) (ri_h_at hL) hfl kk
                | true => exact am_putF hd hq hj (ri_lw_in hlk) hfb hf.1 hf.2 hty1 (hty2 G).1 (hty2 G).2 (ri_lt hbl) (ri_h_at hL) hfl kk
            · cases hr1
          · cases h
      · cases h
    · rename_i x b0 st0
      split at h
      · rename_i hb0
        simp only [Bool.and_eq_true, Nat.beq_eq] at hb0
        obtain ⟨hb1, hb2, hb3, hb4, hb5⟩ := hb0
        subst hb2
        subst hb3
        subst hb4
        obtain ⟨hN, hcell⟩ := ri_pall_ok hb5
        simp only [Option.some.injEq, Prod.mk.injEq] at h
        obtain ⟨rfl, rfl, rfl, rfl⟩ := h
        split at hr1
        · rename_i q hq
          cases hq
          simp only [Bool.and_eq_true, decide_eq_true_eq, Bool.or_eq_true, Bool.not_eq_true'] at hr1
          obtain ⟨⟨⟨hj, hlk⟩, hfin⟩, hty⟩ := hr1
          refine ri_simple hnx (fun G hE d mc ms post k n hd1 hk9 hn9 kk => ?_)
          obtain ⟨p1, p2, p3, p4⟩ := ri_isP_ok hE hb1
          refine am_stc (st2 := .retAddr x :: .ref (90 + 2 * am_px G (b0.toNat - 2000)) :: st0) (by simp only [List.map_cons, p1]; rfl) (am_put (ci := 2) (j := 1) (ty := .int) hd rfl hj (ri_lw_in hlk) rfl (by decide +kernel) rfl rfl (by omega) (ri_h_at (hcell _ p2)) (Nat.lt_succ_self 1) ?_)
          have e9 : va_up (ri_h L) (90 + 2 * am_px G (b0.toNat - 2000)) (.inr (2, [.ref (91 + 2 * am_px G (b0.toNat - 2000)), .retAddr x])) = ri_h L := va_up_same (ri_h_at (hcell _ p2))
          show am_A G d y mc ms post k n _ _ _ _ (va_up (ri_h L) (90 + 2 * am_px G (b0.toNat - 2000)) (.inr (2, [.ref (91 + 2 * am_px G (b0.toNat - 2000)), .retAddr x])))
          rw [e9]
          exact kk
        · cases hr1
      · cases h
    · cases h
  case iaload  =>
    replace hnx := hnx.resolve_left (by simp [ri_end])
    replace hln := hln.resolve_left (by simp [ri_sw])
    simp only [ri_ln] at hln
    subst hln
    simp only [ri_stf, st_iaload] at h
    split at h
    · rename_i i0 a0 st0
      split at h
      · rename_i l hL
        split at h
        · cases h
        · rename_i hbl
          split at h
          · cases h
          · rename_i h0
            rw [Nat.ble_eq] at h0
            split at h
            · rename_i x hx
              rw [ri_nth_eq] at hx
              simp only [Option.some.injEq, Prod.mk.injEq] at h
              obtain ⟨rfl, rfl, rfl, rfl⟩ := h
              have hlt := (List.getElem?_eq_some_iff.mp hx).1
              refine ri_simple hnx (fun G hE d mc ms post k n hd1 hk9 hn9 kk => am_stc (st2 := .int (nI i0) :: .ref a0 :: st0) rfl (am_iald hd (ri_lt hbl) (ri_h_at hL) (ri_in2 hlt (by omega)) (am_stc (st2 := .retAddr x :: st0) ?_ kk)))
              rw [nI_clamp (by omega)]
              show Value.int (nI (l.getD i0 0)) :: _ = _
              rw [List.getD_eq_getElem?_getD, hx]
              rfl
            · cases h
      · cases h
    · rename_i i0 b st0
      split at h
      · rename_i hb
        subst hb
        split at h
        · rename_i x hx
          rw [ri_nth_eq] at hx
          simp only [Option.some.injEq, Prod.mk.injEq] at h
          obtain ⟨rfl, rfl, rfl, rfl⟩ := h
          have hlt : i0 < 13 := (List.getElem?_eq_some_iff.mp hx).1
          refine ri_simple hnx (fun G hE d mc ms post k n hd1 hk9 hn9 kk => am_stc (st2 := .int (nI i0) :: .float 4294967295 :: st0) rfl (am_plald hd (ri_in2 hlt (by omega)) (am_stc (st2 := .retAddr x :: st0) ?_ kk)))
          rw [nI_clamp (by omega)]
          match i0, hlt, hx with
          | 0, _, hx => cases hx; rfl
          | 1, _, hx => cases hx; rfl
          | 2, _, hx => cases hx; rfl
          | 3, _, hx => cases hx; rfl
          | 4, _, hx => cases hx; rfl
          | 5, _, hx => cases hx; rfl
          | 6, _, hx => cases hx; rfl
          | 7, _, hx => cases hx; rfl
          | 8, _, hx => cases hx; rfl
          | 9, _, hx => cases hx; rfl
          | 10, _, hx => cases hx; rfl
          | 11, _, hx => cases hx; rfl
          | 12, _, hx => cases hx; rfl
        · cases h
      · cases h
    · rename_i b0 a0 st0
      split at h
      · rename_i l hL
        split at h
        · cases h
        · rename_i hbl
          split at h
          · rename_i x hx0
            split at h
            · rename_i hc
              rw [Bool.and_eq_true, List.all_eq_true] at hc
              simp only [Option.some.injEq, Prod.mk.injEq] at h
              obtain ⟨rfl, rfl, rfl, rfl⟩ := h
              refine ri_simple hnx (fun G hE d mc ms post k n hd1 hk9 hn9 kk => ?_)
              obtain ⟨q1, q2, q3⟩ := ri_p8_ok hE hc.1
              have hx := hc.2 _ (List.mem_range.mpr q2)
              rw [decide_eq_true_eq, ri_nth_eq] at hx
              have hlt := (List.getElem?_eq_some_iff.mp hx).1
              refine am_stc (st2 := .int (nI (am_px G b0.toNat)) :: .ref a0 :: st0) (by simp only [List.map_cons, am_cvf G (show Nat.ble b0.toNat 1000 = true by rw [Nat.ble_eq]; omega), q3]; rfl) (am_iald hd (ri_lt hbl) (ri_h_at hL) (ri_in2 hlt (by omega)) (am_stc (st2 := .retAddr x :: st0) ?_ kk))
              rw [nI_clamp (by omega)]
              show Value.int (nI (l.getD _ 0)) :: _ = _
              rw [List.getD_eq_getElem?_getD, hx]
              rfl
            · cases h
          · cases h
      · cases h
    · cases h
  case laload  =>
    replace hnx := hnx.resolve_left (by simp [ri_end])
    replace hln := hln.resolve_left (by simp [ri_sw])
    simp only [ri_ln] at hln
    subst hln
    simp only [ri_stf, st_laload] at h
    split at h
    · rename_i i0 a0 st0
      split at h
      · rename_i l hL
        split at h
        · cases h
        · rename_i hbl
          split at h
          · cases h
          · rename_i h0
            rw [Nat.ble_eq] at h0
            split at h
            · rename_i x hx
              rw [ri_nth_eq] at hx
              simp only [Option.some.injEq, Prod.mk.injEq] at h
              obtain ⟨rfl, rfl, rfl, rfl⟩ := h
              have hlt := (List.getElem?_eq_some_iff.mp hx).1
              refine ri_simple hnx (fun G hE d mc ms post k n hd1 hk9 hn9 kk => am_stc (st2 := .int (nI i0) :: .ref a0 :: st0) rfl (am_lald hd (ri_lt hbl) (ri_h_at hL) (ri_in2 hlt (by omega)) ?_))
              rw [nI_clamp (by omega)]
              show am_A G d y mc ms post k n _ _ (.long (l.getD i0 0) :: _) _ _
              rw [List.getD_eq_getElem?_getD, hx]
              exact kk
            · cases h
      · cases h
    · cases h
  case aaload  =>
    replace hnx := hnx.resolve_left (by simp [ri_end])
    replace hln := hln.resolve_left (by simp [ri_sw])
    simp only [ri_ln] at hln
    subst hln
    simp only [ri_stf, st_aaload] at h
    split at h
    · rename_i i0 a0 st0
      split at h
      · rename_i t l hL
        split at h
        · cases h
        · rename_i hbl
          split at h
          · rename_i ht
            simp only [Bool.and_eq_true, Nat.ble_eq] at ht
            split at h
            · cases h
            · rename_i h0
              rw [Nat.ble_eq] at h0
              split at h
              · rename_i x hx
                rw [ri_nth_eq] at hx
                simp only [Option.some.injEq, Prod.mk.injEq] at h
                obtain ⟨rfl, rfl, rfl, rfl⟩ := h
                have hlt := (List.getElem?_eq_some_iff.mp hx).1
                refine ri_simple hnx (fun G hE d mc ms post k n hd1 hk9 hn9 kk => am_stc (st2 := .int (nI i0) :: .ref a0 :: st0) rfl (am_aald hd ht.1 (by omega) (ri_lt hbl) (ri_h_at hL) (ri_in2 hlt (by omega)) ?_ kk))
                rw [nI_clamp (by omega)]
                show l.getD _ none = _
                rw [List.getD_eq_getElem?_getD, hx]
                rfl
              · cases h
          · cases h
      · cases h
    · rename_i b0 a0 st0
      split at h
      · rename_i l hL
        split at h
        · cases h
        · rename_i hbl
          split at h
          · rename_i hc
            rw [Bool.and_eq_true, List.all_eq_true] at hc
            simp only [Option.some.injEq, Prod.mk.injEq] at h
            obtain ⟨rfl, rfl, rfl, rfl⟩ := h
            refine ri_simple hnx (fun G hE d mc ms post k n hd1 hk9 hn9 kk => ?_)
            obtain ⟨q1, q2, q3⟩ := ri_p8_ok hE hc.1
            have hx := hc.2 _ (List.mem_range.mpr q2)
            rw [decide_eq_true_eq, ri_nth_eq] at hx
            have hlt := (List.getElem?_eq_some_iff.mp hx).1
            refine am_stc (st2 := .int (nI (am_px G b0.toNat)) :: .ref a0 :: st0) (by simp only [List.map_cons, am_cvf G (show Nat.ble b0.toNat 1000 = true by rw [Nat.ble_eq]; omega), q3]; rfl) (am_aald (t := 4) hd (by decide) (by decide) (ri_lt hbl) (ri_h_at hL) (ri_in2 hlt (by omega)) (b := 90 + 2 * am_px G b0.toNat) ?_ (am_stc ?_ kk))
            · rw [nI_clamp (by omega)]
              show l.getD _ none = _
              rw [List.getD_eq_getElem?_getD, hx]
              rfl
            · have e1 : (UInt32.ofNat (b0.toNat + 2000)).toNat = b0.toNat + 2000 := by
                rw [UInt32.toNat_ofNat']
                omega
              have e2 := am_cvP G (b := UInt32.ofNat (b0.toNat + 2000)) (by omega) (by omega)
              rw [e1, Nat.add_sub_cancel] at e2
              simp only [List.map_cons, e2]
              rfl
          · cases h
      · cases h
    · cases h
  case iastore  =>
    replace hnx := hnx.resolve_left (by simp [ri_end])
    replace hln := hln.resolve_left (by simp [ri_sw])
    simp only [ri_ln] at hln
    subst hln
    simp only [ri_stf, st_iastore] at h
    split at h
    · rename_i x i0 a0 st0
      split at h
      · rename_i l hL
        split at h
        · cases h
        · rename_i hbl
          split at h
          · cases h
          · rename_i h0
            rw [Nat.ble_eq] at h0
            split at h
            · rename_i hle
              rw [ri_nth_eq, Option.isSome_iff_exists] at hle
              obtain ⟨z, hz⟩ := hle
              simp only [Option.some.injEq, Prod.mk.injEq] at h
              obtain ⟨rfl, rfl, rfl, rfl⟩ := h
              have hlt := (List.getElem?_eq_some_iff.mp hz).1
              refine ri_wr hL hnx (fun G d mc ms post k n hd1 kk => am_stc (st2 := .int (nI x) :: .int (nI i0) :: .ref a0 :: st0) rfl (am_iast hd (ri_lt hbl) (ri_h_at hL) (ri_in2 hlt (by omega)) ?_))
              simp only [ri_e, ri_va, ri_upd_eq, List.length_set, ri_fu_i l _ hlt] at kk
              rw [nI_clamp (by omega)]
              exact kk
            · cases h
      · cases h
    · rename_i x b0 a0 st0
      split at h
      · rename_i l hL
        split at h
        · cases h
        · rename_i hbl
          split at h
          · rename_i hc
            rw [Bool.and_eq_true, List.all_eq_true] at hc
            simp only [Option.some.injEq, Prod.mk.injEq] at h
            obtain ⟨rfl, rfl, rfl, rfl⟩ := h
            refine ri_simple hnx (fun G hE d mc ms post k n hd1 hk9 hn9 kk => ?_)
            obtain ⟨q1, q2, q3⟩ := ri_p8_ok hE hc.1
            have hx := hc.2 _ (List.mem_range.mpr q2)
            rw [decide_eq_true_eq, ri_nth_eq] at hx
            have hlt := (List.getElem?_eq_some_iff.mp hx).1
            refine am_stc (st2 := .int (nI x) :: .int (nI (am_px G b0.toNat)) :: .ref a0 :: st0) (by simp only [List.map_cons, am_cvf G (show Nat.ble b0.toNat 1000 = true by rw [Nat.ble_eq]; omega), q3]; rfl) (am_iast hd (ri_lt hbl) (ri_h_at hL) (ri_in2 hlt (by omega)) ?_)
            rw [nI_clamp (by omega)]
            have e1 : upd (fun j => nI (l.getD j 0)) (am_px G b0.toNat) (nI x) = (fun j => nI (l.getD j 0)) := by
              funext j
              by_cases hj : j = am_px G b0.toNat
              · subst hj
                simp [upd, List.getD, hx]
              · simp [upd, hj]
            rw [e1]
            show am_A G d y mc ms post k n _ _ _ _ (va_up (ri_h L) _ (ri_e (.inl (0, .inl l))))
            rw [va_up_same (ri_h_at hL)]
            exact kk
          · cases h
      · cases h
    · cases h
  case lastore  =>
    replace hnx := hnx.resolve_left (by simp [ri_end])
    replace hln := hln.resolve_left (by simp [ri_sw])
    simp only [ri_ln] at hln
    subst hln
    simp only [ri_stf, st_lastore] at h
    split at h
    · rename_i x i0 a0 st0
      split at h
      · rename_i l hL
        split at h
        · cases h
        · rename_i hbl
          split at h
          · cases h
          · rename_i h0
            rw [Nat.ble_eq] at h0
            split at h
            · rename_i hle
              rw [ri_nth_eq, Option.isSome_iff_exists] at hle
              obtain ⟨z, hz⟩ := hle
              simp only [Option.some.injEq, Prod.mk.injEq] at h
              obtain ⟨rfl, rfl, rfl, rfl⟩ := h
              have hlt := (List.getElem?_eq_some_iff.mp hz).1
              refine ri_wr hL hnx (fun G d mc ms post k n hd1 kk => am_stc (st2 := .long x :: .int (nI i0) :: .ref a0 :: st0) rfl (am_last hd (ri_lt hbl) (ri_h_at hL) (ri_in2 hlt (by omega)) ?_))
              simp only [ri_e, ri_va, ri_upd_eq, List.length_set, ri_fu_l l _ hlt] at kk
              rw [nI_clamp (by omega)]
              exact kk
            · cases h
      · cases h
    · cases h
  case aastore  =>
    replace hnx := hnx.resolve_left (by simp [ri_end])
    replace hln := hln.resolve_left (by simp [ri_sw])
    simp only [ri_ln] at hln
    subst hln
    simp only [ri_stf, st_aastore] at h
    split at h
    · rename_i b0 i0 a0 st0
      split at h
      · rename_i t l ci vs hL hLb
        split at h
        · cases h
        · rename_i hbl
          rw [Bool.or_eq_true, not_or] at hbl
          split at h
          · rename_i ht
            split at h
            · cases h
            · rename_i h0
              rw [Nat.ble_eq] at h0
              split at h
              · rename_i hle
                rw [ri_nth_eq, Option.isSome_iff_exists] at hle
                obtain ⟨z, hz⟩ := hle
                simp only [Option.some.injEq, Prod.mk.injEq] at h
                obtain ⟨rfl, rfl, rfl, rfl⟩ := h
                have hlt := (List.getElem?_eq_some_iff.mp hz).1
                have hq : ∀ G : am_G, ∃ q : vw_C, am_cl[ci]? = some q ∧ (am_tys (am_aC G))[t]? = some (am_aC G t, .object q.1) := by
                  intro G
                  simp only [Bool.or_eq_true, Bool.and_eq_true, Nat.beq_eq] at ht
                  rcases ht with ⟨rfl, rfl⟩ | ⟨rfl, rfl⟩ | ⟨rfl, rfl⟩
                  · exact ⟨_, rfl, rfl⟩
                  · exact ⟨_, rfl, rfl⟩
                  · exact ⟨_, rfl, rfl⟩
                refine ri_wr hL hnx (fun G d mc ms post k n hd1 kk => ?_)
                obtain ⟨q, hq1, hq2⟩ := hq G
                refine am_stc (st2 := .ref b0 :: .int (nI i0) :: .ref a0 :: st0) rfl (am_aast hd hq2 hq1 (ri_lt hbl.1) (ri_h_at hL) (ri_lt hbl.2) (ri_h_at hLb) (ri_in2 hlt (by omega)) ?_)
                simp only [ri_e, ri_va, ri_upd_eq, List.length_set, ri_fu_q l _ hlt] at kk
                rw [nI_clamp (by omega)]
                exact kk
              · cases h
          · cases h
      · cases h
    · cases h
  case arraylength  =>
    replace hnx := hnx.resolve_left (by simp [ri_end])
    replace hln := hln.resolve_left (by simp [ri_sw])
    simp only [ri_ln] at hln
    subst hln
    simp only [ri_stf, st_arraylength] at h
    split at h
    · split at h
      · rename_i l hL
        split at h
        · cases h
        · rename_i hbl
          rw [ri_fn_eq] at h
          simp only [Option.some.injEq, Prod.mk.injEq] at h
          obtain ⟨rfl, rfl, rfl, rfl⟩ := h
          exact ri_simple hnx (fun G hE d mc ms post k n hd1 hk9 hn9 kk => am_alen (t := 0) hd (by decide) (ri_lt hbl) (ri_h_at hL) (am_stc rfl kk))
      · cases h
    · split at h
      · rename_i hb
        subst hb
        simp only [Option.some.injEq, Prod.mk.injEq] at h
        obtain ⟨rfl, rfl, rfl, rfl⟩ := h
        exact ri_simple hnx (fun G hE d mc ms post k n hd1 hk9 hn9 kk => am_plen hd (am_stc rfl kk))
      · cases h
    · cases h
  case getstatic idx =>
    replace hnx := hnx.resolve_left (by simp [ri_end])
    replace hln := hln.resolve_left (by simp [ri_sw])
    simp only [ri_ln] at hln
    subst hln
    simp only [ri_stf, st_getstatic] at h
    simp only [Option.some.injEq, Prod.mk.injEq] at h
    obtain ⟨rfl, rfl, rfl, rfl⟩ := h
    exact ri_simple hnx (fun G hE d mc ms post k n hd1 hk9 hn9 kk => am_gets hd (ri_lw_in hr1) kk)
  case new idx =>
    replace hnx := hnx.resolve_left (by simp [ri_end])
    replace hln := hln.resolve_left (by simp [ri_sw])
    simp only [ri_ln] at hln
    subst hln
    simp only [ri_rok1] at hr1
    simp only [ri_stf, st_new] at h
    split at h
    · rename_i hg
      simp only [ri_fn_eq] at h
      simp only [Option.some.injEq, Prod.mk.injEq] at h
      obtain ⟨rfl, rfl, rfl, rfl⟩ := h
      split at hr1
      · rename_i q hq
        have hi := am_inst hq
        rw [ri_df_len, hi.2.2]
        refine ri_psh hg hnx (fun G d mc ms post k n hd1 h3 h4 kk => am_new hd hq (ri_lw_in hr1) hi.1 hi.2.1 h3 h4 (am_hc (fun j => ?_) kk))
        simp only [va_up]
        split
        · show Sum.inr (a, (am_df a).map (am_cv G)) = Sum.inr (a, (ri_df a).map (am_cv G))
          rw [ri_df_ce]
        · rfl
      · cases hr1
    · cases h
  case newarray aty =>
    cases aty <;> (try (cases h; done))
    · replace hnx := hnx.resolve_left (by simp [ri_end])
      replace hln := hln.resolve_left (by simp [ri_sw])
      simp only [ri_ln] at hln
      subst hln
      simp only [ri_stf, st_newi] at h
      split at h
      · rename_i x st0
        split at h
        · rename_i h1
          rw [Bool.and_eq_true, Nat.ble_eq] at h1
          simp only [ri_fn_eq] at h
          simp only [Option.some.injEq, Prod.mk.injEq] at h
          obtain ⟨rfl, rfl, rfl, rfl⟩ := h
          refine ri_psh h1.2 hnx (fun G d mc ms post k n hd1 h3 h4 kk => am_stc (st2 := .int (nI x) :: st0) rfl (am_newi hd am_arrI (nI_pos (by omega)) (nI_clamp (by omega)) (by omega) h3 h4 ?_))
          simp only [ri_e, ri_va, List.length_replicate, ri_rep_i] at kk
          exact kk
        · cases h
      · cases h
    · replace hnx := hnx.resolve_left (by simp [ri_end])
      replace hln := hln.resolve_left (by simp [ri_sw])
      simp only [ri_ln] at hln
      subst hln
      simp only [ri_stf, st_newl] at h
      split at h
      · rename_i x st0
        split at h
        · rename_i h1
          rw [Bool.and_eq_true, Nat.ble_eq] at h1
          simp only [ri_fn_eq] at h
          simp only [Option.some.injEq, Prod.mk.injEq] at h
          obtain ⟨rfl, rfl, rfl, rfl⟩ := h
          refine ri_psh h1.2 hnx (fun G d mc ms post k n hd1 h3 h4 kk => am_stc (st2 := .int (nI x) :: st0) rfl (am_newl hd am_arrL (nI_pos (by omega)) (nI_clamp (by omega)) (by omega) h3 h4 ?_))
          simp only [ri_e, ri_va, List.length_replicate, ri_rep_l] at kk
          exact kk
        · cases h
      · cases h
  case anewarray idx =>
    replace hnx := hnx.resolve_left (by simp [ri_end])
    replace hln := hln.resolve_left (by simp [ri_sw])
    simp only [ri_ln] at hln
    subst hln
    simp only [ri_rok1] at hr1
    simp only [ri_stf, st_newq] at h
    split at h
    · rename_i x st0
      split at h
      · rename_i h1
        rw [Bool.and_eq_true, Nat.ble_eq] at h1
        simp only [ri_fn_eq] at h
        simp only [Option.some.injEq, Prod.mk.injEq] at h
        obtain ⟨rfl, rfl, rfl, rfl⟩ := h
        have hq : ∀ G : am_G, ∃ C : String, Cond.classLink y.1.cls idx C ∈ am_tbl ∧ (am_tys (am_aC G))[a]? = some (am_aC G a, .object C) := by
          intro G
          split at hr1
          · exact ⟨_, ri_lw_in hr1, rfl⟩
          · exact ⟨_, ri_lw_in hr1, rfl⟩
          · exact ⟨_, ri_lw_in hr1, rfl⟩
          · cases hr1
        refine ri_psh h1.2 hnx (fun G d mc ms post k n hd1 h3 h4 kk => ?_)
        obtain ⟨C, hc1, hc2⟩ := hq G
        refine am_stc (st2 := .int (nI x) :: st0) rfl (am_newq hd hc2 hc1 (nI_pos (by omega)) (nI_clamp (by omega)) (by omega) h3 h4 ?_)
        simp only [ri_e, ri_va, List.length_replicate, ri_rep_q] at kk
        exact kk
      · cases h
    · cases h
end
