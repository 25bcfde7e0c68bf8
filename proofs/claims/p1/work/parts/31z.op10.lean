noncomputable section
theorem d_law_414 : decode code 414 = .ok (.aload_n 1, 1) := by decide +kernel
theorem d_law_415 : decode code 415 = .ok (.aload_n 0, 1) := by decide +kernel
theorem d_law_416 : decode code 416 = .ok (.iload_n 3, 1) := by decide +kernel
theorem d_law_417 : decode code 417 = .ok (.iconst 1, 1) := by decide +kernel
theorem d_law_418 : decode code 418 = .ok (.iadd, 1) := by decide +kernel
theorem d_law_419 : decode code 419 = .ok (.iaload, 1) := by decide +kernel
theorem d_law_420 : decode code 420 = .ok (.aload_n 0, 1) := by decide +kernel
theorem d_law_421 : decode code 421 = .ok (.iload_n 3, 1) := by decide +kernel
theorem d_law_422 : decode code 422 = .ok (.iconst 2, 1) := by decide +kernel
theorem d_law_423 : decode code 423 = .ok (.iadd, 1) := by decide +kernel
theorem d_law_424 : decode code 424 = .ok (.iaload, 1) := by decide +kernel
theorem d_law_425 : decode code 425 = .ok (.i2l, 1) := by decide +kernel
theorem d_law_426 : decode code 426 = .ok (.bipush 32, 2) := by decide +kernel
theorem d_law_428 : decode code 428 = .ok (.lshl, 1) := by decide +kernel
theorem d_law_429 : decode code 429 = .ok (.aload_n 0, 1) := by decide +kernel
theorem d_law_430 : decode code 430 = .ok (.iload_n 3, 1) := by decide +kernel
theorem d_law_431 : decode code 431 = .ok (.iconst 3, 1) := by decide +kernel
theorem d_law_432 : decode code 432 = .ok (.iadd, 1) := by decide +kernel
theorem d_law_433 : decode code 433 = .ok (.iaload, 1) := by decide +kernel
theorem d_law_434 : decode code 434 = .ok (.i2l, 1) := by decide +kernel
theorem d_law_435 : decode code 435 = .ok (.ldc2_w 56, 3) := by decide +kernel
theorem d_law_438 : decode code 438 = .ok (.land, 1) := by decide +kernel
theorem d_law_439 : decode code 439 = .ok (.lor, 1) := by decide +kernel
theorem d_law_440 : decode code 440 = .ok (.invokevirtual 58, 3) := by decide +kernel
theorem d_law_443 : decode code 443 = .ok (.aload_n 2, 1) := by decide +kernel
theorem d_law_444 : decode code 444 = .ok (.aload_n 0, 1) := by decide +kernel
theorem d_law_445 : decode code 445 = .ok (.iload_n 3, 1) := by decide +kernel
theorem d_law_446 : decode code 446 = .ok (.iconst 1, 1) := by decide +kernel
theorem d_law_447 : decode code 447 = .ok (.iadd, 1) := by decide +kernel
theorem d_law_448 : decode code 448 = .ok (.iaload, 1) := by decide +kernel
theorem d_law_449 : decode code 449 = .ok (.aload_n 0, 1) := by decide +kernel
theorem d_law_450 : decode code 450 = .ok (.iload_n 3, 1) := by decide +kernel
theorem d_law_451 : decode code 451 = .ok (.iconst 2, 1) := by decide +kernel
theorem d_law_452 : decode code 452 = .ok (.iadd, 1) := by decide +kernel
theorem d_law_453 : decode code 453 = .ok (.iaload, 1) := by decide +kernel
theorem d_law_454 : decode code 454 = .ok (.i2l, 1) := by decide +kernel
theorem d_law_455 : decode code 455 = .ok (.bipush 32, 2) := by decide +kernel
theorem d_law_457 : decode code 457 = .ok (.lshl, 1) := by decide +kernel
theorem d_law_458 : decode code 458 = .ok (.aload_n 0, 1) := by decide +kernel
theorem d_law_459 : decode code 459 = .ok (.iload_n 3, 1) := by decide +kernel
theorem d_law_460 : decode code 460 = .ok (.iconst 3, 1) := by decide +kernel
theorem d_law_461 : decode code 461 = .ok (.iadd, 1) := by decide +kernel
theorem d_law_462 : decode code 462 = .ok (.iaload, 1) := by decide +kernel
theorem d_law_463 : decode code 463 = .ok (.i2l, 1) := by decide +kernel
theorem d_law_464 : decode code 464 = .ok (.ldc2_w 56, 3) := by decide +kernel
theorem d_law_467 : decode code 467 = .ok (.land, 1) := by decide +kernel
theorem d_law_468 : decode code 468 = .ok (.lor, 1) := by decide +kernel
theorem d_law_469 : decode code 469 = .ok (.invokevirtual 62, 3) := by decide +kernel
theorem d_law_472 : decode code 472 = .ok (.if_icmp .eq 640, 3) := by decide +kernel
theorem am_W_c {G : am_G} {N : Nat} {h h2 : am_H} {H : Heap} (hW : am_W G N h H) (he : ∀ j, j < N → am_ce G (h j) = am_ce G (h2 j)) : am_W G N h2 H := ⟨hW.1, hW.2.1, am_P_of fun j hj => by rw [← he j hj]; exact am_at hW hj⟩
abbrev fd_F6 : List Value := [.int 0, .retAddr 4294967295, .ref 44, .ref 46, .ref 47, .retAddr 0, .retAddr 0, .retAddr 0, .retAddr 0, .retAddr 0]
abbrev fd_F9 : List Value := [.retAddr 2, .retAddr 0, .ref 107, .retAddr 0, .ref 108, .ref 109, .ref 110, .ref 111, .ref 112, .retAddr 0, .ref 113, .retAddr 0, .ref 114, .retAddr 0, .ref 115, .retAddr 0, .ref 116, .int 0, .retAddr 0, .retAddr 0, .retAddr 4294967295, .ref 117, .retAddr 0, .ref 118, .retAddr 0, .ref 119, .ref 120, .ref 121]
def fd_h : am_H := va_up (va_up (ri_h p1_lit) 43 (.inr (6, fd_F6))) 106 (.inr (9, fd_F9))
theorem fd_l0 : ∃ f8, ri_h p1_lit 0 = .inr (8, f8) ∧ f8[7]? = some (.ref 43) := ⟨_, ri_h_at (L := p1_lit) (a := 0) (e := .inr (8, _)) rfl, rfl⟩
theorem fd_l43 : ri_h p1_lit 43 = .inr (6, [.retAddr 0, .retAddr 4294967295, .ref 44, .ref 46, .ref 47, .retAddr 0, .retAddr 0, .retAddr 0, .retAddr 0, .retAddr 0]) := ri_h_at (L := p1_lit) (a := 43) (e := .inr (6, _)) rfl
theorem fd_l106 : ri_h p1_lit 106 = .inr (9, [.retAddr 2, .retAddr 0, .ref 107, .retAddr 0, .ref 108, .ref 109, .ref 110, .ref 111, .ref 112, .retAddr 0, .ref 113, .retAddr 0, .ref 114, .retAddr 0, .ref 115, .retAddr 0, .ref 116, .retAddr 0, .retAddr 0, .retAddr 0, .retAddr 4294967295, .ref 117, .retAddr 0, .ref 118, .retAddr 0, .ref 119, .ref 120, .ref 121]) := ri_h_at (L := p1_lit) (a := 106) (e := .inr (9, _)) rfl
theorem fd_l46 : ∃ f, ri_h p1_lit 46 = .inl (0, 120, .inl f) := ⟨_, ri_h_at (L := p1_lit) (a := 46) (e := .inl (0, .inl _)) rfl⟩
theorem fd_l116 : ∃ f, ri_h p1_lit 116 = .inl (0, 120, .inl f) := ⟨_, ri_h_at (L := p1_lit) (a := 116) (e := .inl (0, .inl _)) rfl⟩
theorem fd_ce (G : am_G) (j : Nat) : am_ce G (ri_h p1_lit j) = am_ce G (fd_h j) := by
  unfold fd_h
  by_cases e1 : j = 106
  · subst e1
    rw [va_up_self, fd_l106]
    rfl
  · rw [va_up_ne _ _ e1]
    by_cases e2 : j = 43
    · subst e2
      rw [va_up_self, fd_l43]
      rfl
    · rw [va_up_ne _ _ e2]
theorem fd_h0 : ∃ f8, fd_h 0 = .inr (8, f8) ∧ f8[7]? = some (.ref 43) := by
  obtain ⟨f8, e1, e2⟩ := fd_l0
  refine ⟨f8, ?_, e2⟩
  unfold fd_h
  rw [va_up_ne _ _ (by decide), va_up_ne _ _ (by decide), e1]
theorem fd_h43 : fd_h 43 = .inr (6, fd_F6) := by
  unfold fd_h
  rw [va_up_ne _ _ (by decide), va_up_self]
theorem fd_h46 : ∃ f, fd_h 46 = .inl (0, 120, .inl f) := by
  obtain ⟨f, e⟩ := fd_l46
  refine ⟨f, ?_⟩
  unfold fd_h
  rw [va_up_ne _ _ (by decide), va_up_ne _ _ (by decide), e]
theorem fd_h106 : fd_h 106 = .inr (9, fd_F9) := by
  unfold fd_h
  rw [va_up_self]
theorem fd_h116 : ∃ f, fd_h 116 = .inl (0, 120, .inl f) := by
  obtain ⟨f, e⟩ := fd_l116
  refine ⟨f, ?_⟩
  unfold fd_h
  rw [va_up_ne _ _ (by decide), va_up_ne _ _ (by decide), e]
theorem p1_op10 {p : Program} {e : Env} {s : State} {m : MethodId} {below : List Frame} {meth : Method} {c : Code} {b : Nat} {xs : Nat → Int32} {l : Launch} {dC : Nat → ClassId} {dI : Nat → Nat → Nat} {aC : Nat → ClassId} {pl : Nat} (C0 : lw_At p s m meth c b 5 xs) (hK : am_K (p1_G l s dC dI aC pl xs) s) {H : Heap} {locs : List Loc} {ls : Array Slot} {n : Nat} (hW : am_W (p1_G l s dC dI aC pl xs) 122 (ri_h p1_lit) H) (hlo : ∀ q ∈ locs, s.heap.size ≤ q.base) (hn : n ≤ 1000000) (hl : lv_has ls 4 [(3, .int 0), (2, .ref (s.heap.size + 106)), (1, .ref (s.heap.size + 0)), (0, .ref b)]) : W p l e room_1 s m #[Value.ref b] below meth c H locs 122 n (lw_Z below #[Value.ref b] s) (F0 m 414 ls []) := by
  have C1 := C0
  obtain ⟨hx, hb, hr, hml, hown, hts, hX, hbl, hlocks, hgv⟩ := C0
  have hts2 := am_hts hts
  have hW : am_W (p1_G l s dC dI aC pl xs) 122 fd_h H := am_W_c hW (fun j _ => fd_ce _ j)
  have hS := am_S hK.2.1 hW hlo
  have hbA : ¬ (fun q : Nat => s.heap.size ≤ q) b := Nat.not_le.mpr hbl
  obtain ⟨f8, h0, hf8⟩ := fd_h0
  obtain ⟨f46, h46⟩ := fd_h46
  obtain ⟨f116, h116⟩ := fd_h116
  refine lv_aload_n hx hb d_law_414 rfl (lv_at hl 2 rfl) ?_
  refine lv_aload_n hx hb d_law_415 rfl (lv_at hl 3 rfl) ?_
  refine lv_iload_n hx hb d_law_416 rfl (lv_at hl 0 rfl) ?_
  refine lv_iconst (v := 1) hx hb d_law_417 (by decide) ?_
  refine lv_iadd hx hb d_law_418 ?_
  refine va_sld hx hb hX hbl hbA hS (i := 0 + 1) p1_in1 d_law_419 ?_
  refine lv_aload_n hx hb d_law_420 rfl (lv_at hl 3 rfl) ?_
  refine lv_iload_n hx hb d_law_421 rfl (lv_at hl 0 rfl) ?_
  refine lv_iconst (v := 2) hx hb d_law_422 (by decide) ?_
  refine lv_iadd hx hb d_law_423 ?_
  refine va_sld hx hb hX hbl hbA hS (i := 0 + 2) p1_in2 d_law_424 ?_
  refine lv_i2l hx hb d_law_425 rfl ?_
  refine lv_bipush (v := 32) hx hb d_law_426 (by decide) ?_
  refine lv_lshl hx hb d_law_428 rfl ?_
  refine lv_aload_n hx hb d_law_429 rfl (lv_at hl 3 rfl) ?_
  refine lv_iload_n hx hb d_law_430 rfl (lv_at hl 0 rfl) ?_
  refine lv_iconst (v := 3) hx hb d_law_431 (by decide) ?_
  refine lv_iadd hx hb d_law_432 ?_
  refine va_sld hx hb hX hbl hbA hS (i := 0 + 3) p1_in3 d_law_433 ?_
  refine lv_i2l hx hb d_law_434 rfl ?_
  refine lv_ldc2 (v := 4294967295) hx hb hown (hts2 _ (show Cond.constantLong R_law 56 4294967295 ∈ am_tbl from by decide +kernel)) d_law_435 ?_
  refine lv_land hx hb d_law_438 ?_
  refine lv_lor hx hb d_law_439 ?_
  have c1 := fd_X (G := (p1_G l s dC dI aC pl xs)) (d := 19) (N := 122) (h := fd_h) (v := ((xs 2).toInt64 <<< ((32 : Int32).toInt64 &&& 63) ||| ((xs 3).toInt64 &&& 4294967295))) (n := xs 1) hf8 (by decide) h0 fd_h43 rfl rfl rfl h46
  refine gw_callV (G := (p1_G l s dC dI aC pl xs)) (cc := code) (own := R_law) (nL := 4) (y2 := m_X8_feed) (n2 := 2) (d2 := 20) (mc2 := 0) (ms2 := 0) (a := 0) (ci := 8) (q := (RX8, TX8, 13)) (as := [.int (xs 1), .long ((xs 2).toInt64 <<< ((32 : Int32).toInt64 &&& 63) ||| ((xs 3).toInt64 &&& 4294967295))]) (rest := []) hx hb hml hown hts2 hK hW hlo hl.1 d_law_440 fd_ok78 (by decide +kernel) ((ri_all 78).2.2.1 (by decide +kernel)).1 ((ri_all 78).2.2.1 (by decide +kernel)).2 rfl rfl (by decide) h0 rfl (by decide) (by decide) (by decide) (by show _ ≤ 600000; omega) (by show _ ≤ 7302250; omega) c1 rfl (fun r N2 h2 H locs hp hW hlo => ?_)
  obtain ⟨e1, e2, e3⟩ := hp
  subst e1 e2
  have hS := am_S hK.2.1 hW hlo
  refine W.eq (g2 := F0 m 443 ls [.int (fd_r (xs 1))]) rfl ?_
  refine lv_aload_n hx hb d_law_443 rfl (lv_at hl 1 rfl) ?_
  refine lv_aload_n hx hb d_law_444 rfl (lv_at hl 3 rfl) ?_
  refine lv_iload_n hx hb d_law_445 rfl (lv_at hl 0 rfl) ?_
  refine lv_iconst (v := 1) hx hb d_law_446 (by decide) ?_
  refine lv_iadd hx hb d_law_447 ?_
  refine va_sld hx hb hX hbl hbA hS (i := 0 + 1) p1_in1 d_law_448 ?_
  refine lv_aload_n hx hb d_law_449 rfl (lv_at hl 3 rfl) ?_
  refine lv_iload_n hx hb d_law_450 rfl (lv_at hl 0 rfl) ?_
  refine lv_iconst (v := 2) hx hb d_law_451 (by decide) ?_
  refine lv_iadd hx hb d_law_452 ?_
  refine va_sld hx hb hX hbl hbA hS (i := 0 + 2) p1_in2 d_law_453 ?_
  refine lv_i2l hx hb d_law_454 rfl ?_
  refine lv_bipush (v := 32) hx hb d_law_455 (by decide) ?_
  refine lv_lshl hx hb d_law_457 rfl ?_
  refine lv_aload_n hx hb d_law_458 rfl (lv_at hl 3 rfl) ?_
  refine lv_iload_n hx hb d_law_459 rfl (lv_at hl 0 rfl) ?_
  refine lv_iconst (v := 3) hx hb d_law_460 (by decide) ?_
  refine lv_iadd hx hb d_law_461 ?_
  refine va_sld hx hb hX hbl hbA hS (i := 0 + 3) p1_in3 d_law_462 ?_
  refine lv_i2l hx hb d_law_463 rfl ?_
  refine lv_ldc2 (v := 4294967295) hx hb hown (hts2 _ (show Cond.constantLong R_law 56 4294967295 ∈ am_tbl from by decide +kernel)) d_law_464 ?_
  refine lv_land hx hb d_law_467 ?_
  refine lv_lor hx hb d_law_468 ?_
  have g106 : h2 106 = .inr (9, fd_F9) := (e3 106 (by decide) (by decide)).trans fd_h106
  have g116 := (e3 116 (by decide) (by decide)).trans h116
  have c2 := fd_M (G := (p1_G l s dC dI aC pl xs)) (d := 19) (N := 122) (h := h2) (v := ((xs 2).toInt64 <<< ((32 : Int32).toInt64 &&& 63) ||| ((xs 3).toInt64 &&& 4294967295))) (n := xs 1) (by decide) g106 rfl rfl rfl g116
  refine gw_callV (G := (p1_G l s dC dI aC pl xs)) (cc := code) (own := R_law) (nL := 4) (y2 := m_X9_feed) (n2 := 2) (d2 := 20) (mc2 := 0) (ms2 := 0) (a := 106) (ci := 9) (q := (RX9, TX9, 28)) (as := [.int (xs 1), .long ((xs 2).toInt64 <<< ((32 : Int32).toInt64 &&& 63) ||| ((xs 3).toInt64 &&& 4294967295))]) (rest := [.int (fd_r (xs 1))]) hx hb hml hown hts2 hK hW hlo hl.1 d_law_469 fd_ok151 (by decide +kernel) ((ri_all 151).2.2.1 (by decide +kernel)).1 ((ri_all 151).2.2.1 (by decide +kernel)).2 rfl rfl (by decide) g106 rfl (Nat.le_of_ble_eq_true rfl) (by decide) (by decide) (by show _ ≤ 600000; omega) (by show _ ≤ 7302250; omega) c2 rfl (fun r N2 h2 H locs hp hW hlo => ?_)
  obtain ⟨e1, e2⟩ := hp
  subst e1 e2
  refine W.eq (g2 := F0 m 472 ls [.int (fd_r (xs 1)), .int (fd_r (xs 1))]) rfl ?_
  refine lv_icmp_eq (tgt := 1112) hx hb d_law_472 (by decide) (fun _ => ?_) (fun q => absurd rfl q)
  exact p1_fin C1 hK hW hlo (by omega) (by omega) hl
end
