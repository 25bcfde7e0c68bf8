noncomputable section
theorem d_law_0 : decode code 0 = .ok (.new 7, 3) := by decide +kernel
theorem d_law_3 : decode code 3 = .ok (.dup, 1) := by decide +kernel
theorem d_law_4 : decode code 4 = .ok (.invokespecial 9, 3) := by decide +kernel
theorem d_law_7 : decode code 7 = .ok (.astore_n 1, 1) := by decide +kernel
theorem d_law_8 : decode code 8 = .ok (.new 10, 3) := by decide +kernel
theorem d_law_11 : decode code 11 = .ok (.dup, 1) := by decide +kernel
theorem d_law_12 : decode code 12 = .ok (.invokespecial 12, 3) := by decide +kernel
theorem d_law_15 : decode code 15 = .ok (.astore_n 2, 1) := by decide +kernel
theorem d_law_16 : decode code 16 = .ok (.iconst 0, 1) := by decide +kernel
theorem d_law_17 : decode code 17 = .ok (.istore_n 3, 1) := by decide +kernel
theorem d_law_18 : decode code 18 = .ok (.iload_n 3, 1) := by decide +kernel
theorem d_law_19 : decode code 19 = .ok (.aload_n 0, 1) := by decide +kernel
theorem d_law_20 : decode code 20 = .ok (.arraylength, 1) := by decide +kernel
theorem d_law_21 : decode code 21 = .ok (.iconst 5, 1) := by decide +kernel
theorem d_law_22 : decode code 22 = .ok (.isub, 1) := by decide +kernel
theorem d_law_23 : decode code 23 = .ok (.if_icmp .gt 1094, 3) := by decide +kernel
theorem d_law_26 : decode code 26 = .ok (.aload_n 0, 1) := by decide +kernel
theorem d_law_27 : decode code 27 = .ok (.iload_n 3, 1) := by decide +kernel
theorem d_law_28 : decode code 28 = .ok (.iaload, 1) := by decide +kernel
theorem d_law_29 : decode code 29 = .ok (.bipush 31, 2) := by decide +kernel
theorem d_law_31 : decode code 31 = .ok (.iand, 1) := by decide +kernel
theorem d_law_32 : decode code 32 = .ok (.tableswitch 1079 0 28 #[132, 155, 178, 191, 224, 257, 290, 323, 346, 359, 382, 445, 468, 481, 514, 557, 590, 633, 676, 719, 752, 775, 808, 851, 884, 917, 950, 983, 1036], 132) := by decide +kernel
theorem d_law_1111 : decode code 1111 = .ok (.iinc 3 5, 3) := by decide +kernel
theorem d_law_1114 : decode code 1114 = .ok (.goto (-1096), 3) := by decide +kernel
theorem d_law_1117 : decode code 1117 = .ok (.iconst 1, 1) := by decide +kernel
theorem d_law_1118 : decode code 1118 = .ok (.ireturn, 1) := by decide +kernel
theorem q_cmp {L : Nat} {i : Int} (hL : L ≤ 100000) (hi : 0 ≤ i ∧ i ≤ 100000) : (Int32.ofNat L - 5 < Int32.ofInt i) ↔ (L : Int) - 5 < i := by
  have e : Int32.ofNat L - 5 = Int32.ofInt ((L : Int) - 5) := by rw [Int32.ofInt_sub, Int32.ofInt_eq_ofNat]; rfl
  rw [e]
  exact gs_lt (by omega) (by omega)
theorem q_18 {p : Program} {e : Env} {s : State} {m : MethodId} {below : List Frame} {meth : Method} {c : Code} {b L : Nat} {xs : Nat → Int32} {l : Launch} {dC : Nat → ClassId} {dI : Nat → Nat → Nat} {aC : Nat → ClassId} {pl : Nat} (hL : L ≤ 2560) (C0 : lw_At p s m meth c b L xs) (hK : am_K (q_G l s dC dI aC pl) s) {n : Nat} (hn : n ≤ 1000000) {i : Int} (hi : 0 ≤ i ∧ i ≤ 50000) (kk : i + 5 ≤ L → (∀ (F A : gs_F) (H : Heap) (locs : List Loc) (ls : Array Slot), gs_I F A → ((∀ r : Nat, (r : Int) < F 106 3 → 1 ≤ A 108 r) ∧ gs_R5m F A) → am_W (q_G l s dC dI aC pl) 122 (gs_en F A) H → (∀ q ∈ locs, s.heap.size ≤ q.base) → lv_has ls 4 [(3, .int (Int32.ofInt i)), (2, .ref (s.heap.size + 106)), (1, .ref (s.heap.size + 0)), (0, .ref b)] → W p l e room_1 s m #[Value.ref b] below meth c H locs 122 n (lw_Z below #[Value.ref b] s) (F0 m 1111 ls []))) {F A : gs_F} {H : Heap} {locs : List Loc} {ls : Array Slot} (hI : gs_I F A) (hX : (∀ r : Nat, (r : Int) < F 106 3 → 1 ≤ A 108 r) ∧ gs_R5m F A) (hW : am_W (q_G l s dC dI aC pl) 122 (gs_en F A) H) (hlo : ∀ q ∈ locs, s.heap.size ≤ q.base) (hl : lv_has ls 4 [(3, .int (Int32.ofInt i)), (2, .ref (s.heap.size + 106)), (1, .ref (s.heap.size + 0)), (0, .ref b)]) : W p l e room_1 s m #[Value.ref b] below meth c H locs 122 n (lw_Z below #[Value.ref b] s) (F0 m 18 ls []) := by
  have C1 := C0
  obtain ⟨hx, hb, hr, hml, hown, hts, hXx, hbl, hlocks, hgv⟩ := C0
  have hbA : ¬ (fun q : Nat => s.heap.size ≤ q) b := Nat.not_le.mpr hbl
  have hS := am_S hK.2.1 hW hlo
  refine lv_iload_n hx hb d_law_18 rfl (lv_at hl 0 rfl) ?_
  refine lv_aload_n hx hb d_law_19 rfl (lv_at hl 3 rfl) ?_
  refine va_slen hx hb hXx hbl hbA hS d_law_20 ?_
  refine lv_iconst (v := 5) hx hb d_law_21 (by decide) ?_
  refine lv_isub hx hb d_law_22 ?_
  refine lv_icmp_gt (tgt := 1117) hx hb d_law_23 (by decide) (fun _ => ?_) (fun q => ?_)
  · refine lv_iconst (v := 1) hx hb d_law_1117 (by decide) ?_
    refine va_forget hlo ?_
    refine W.widen (k := 600000) (n := 7302249) (by decide) (by omega) ?_
    exact lw_ret hx hb hr hlocks d_law_1118
  · have q : ¬ (L : Int) - 5 < i := fun w => q ((q_cmp (by omega) (by omega)).mpr w)
    have hi5 : 0 ≤ i ∧ i + 5 ≤ L := by omega
    have kk := kk hi5.2
    refine lv_aload_n hx hb d_law_26 rfl (lv_at hl 3 rfl) ?_
    refine lv_iload_n hx hb d_law_27 rfl (lv_at hl 0 rfl) ?_
    refine va_sld hx hb hXx hbl hbA hS (i := Int32.ofInt i) (gs_vp (by omega) (by omega)) d_law_28 ?_
    refine lv_bipush (v := 31) hx hb d_law_29 (by decide) ?_
    refine lv_iand hx hb d_law_31 ?_
    obtain ⟨j, hj, ej⟩ := pk_andE (xs (Int32.ofInt i).toNatClampNeg) (m := 31) 5 (by decide)
    rw [ej]
    match j, hj with
    | 0, _ =>
      refine lv_tableIn (off := 132) (tgt := 164) hx hb d_law_32 (by decide) (by decide) (by decide) (by decide) ?_
      exact q_op0 hL C1 hK hn hi5 kk hI hX hW hlo hl
    | 1, _ =>
      refine lv_tableIn (off := 155) (tgt := 187) hx hb d_law_32 (by decide) (by decide) (by decide) (by decide) ?_
      exact q_op1 hL C1 hK hn hi5 kk hI hX hW hlo hl
    | 2, _ =>
      refine lv_tableIn (off := 178) (tgt := 210) hx hb d_law_32 (by decide) (by decide) (by decide) (by decide) ?_
      exact q_op2 hL C1 hK hn hi5 kk hI hX hW hlo hl
    | 3, _ =>
      refine lv_tableIn (off := 191) (tgt := 223) hx hb d_law_32 (by decide) (by decide) (by decide) (by decide) ?_
      exact q_op3 hL C1 hK hn hi5 kk hI hX hW hlo hl
    | 4, _ =>
      refine lv_tableIn (off := 224) (tgt := 256) hx hb d_law_32 (by decide) (by decide) (by decide) (by decide) ?_
      exact q_op4 hL C1 hK hn hi5 kk hI hX hW hlo hl
    | 5, _ =>
      refine lv_tableIn (off := 257) (tgt := 289) hx hb d_law_32 (by decide) (by decide) (by decide) (by decide) ?_
      exact q_op5 hL C1 hK hn hi5 kk hI hX hW hlo hl
    | 6, _ =>
      refine lv_tableIn (off := 290) (tgt := 322) hx hb d_law_32 (by decide) (by decide) (by decide) (by decide) ?_
      exact q_op6 hL C1 hK hn hi5 kk hI hX hW hlo hl
    | 7, _ =>
      refine lv_tableIn (off := 323) (tgt := 355) hx hb d_law_32 (by decide) (by decide) (by decide) (by decide) ?_
      exact q_op7 hL C1 hK hn hi5 kk hI hX hW hlo hl
    | 8, _ =>
      refine lv_tableIn (off := 346) (tgt := 378) hx hb d_law_32 (by decide) (by decide) (by decide) (by decide) ?_
      exact q_op8 hL C1 hK hn hi5 kk hI hX hW hlo hl
    | 9, _ =>
      refine lv_tableIn (off := 359) (tgt := 391) hx hb d_law_32 (by decide) (by decide) (by decide) (by decide) ?_
      exact q_op9 hL C1 hK hn hi5 kk hI hX hW hlo hl
    | 10, _ =>
      refine lv_tableIn (off := 382) (tgt := 414) hx hb d_law_32 (by decide) (by decide) (by decide) (by decide) ?_
      exact q_op10 hL C1 hK hn hi5 kk hI hX hW hlo hl
    | 11, _ =>
      refine lv_tableIn (off := 445) (tgt := 477) hx hb d_law_32 (by decide) (by decide) (by decide) (by decide) ?_
      exact q_op11 hL C1 hK hn hi5 kk hI hX hW hlo hl
    | 12, _ =>
      refine lv_tableIn (off := 468) (tgt := 500) hx hb d_law_32 (by decide) (by decide) (by decide) (by decide) ?_
      exact q_op12 hL C1 hK hn hi5 kk hI hX hW hlo hl
    | 13, _ =>
      refine lv_tableIn (off := 481) (tgt := 513) hx hb d_law_32 (by decide) (by decide) (by decide) (by decide) ?_
      exact q_op13 hL C1 hK hn hi5 kk hI hX hW hlo hl
    | 14, _ =>
      refine lv_tableIn (off := 514) (tgt := 546) hx hb d_law_32 (by decide) (by decide) (by decide) (by decide) ?_
      exact q_op14 hL C1 hK hn hi5 kk hI hX hW hlo hl
    | 15, _ =>
      refine lv_tableIn (off := 557) (tgt := 589) hx hb d_law_32 (by decide) (by decide) (by decide) (by decide) ?_
      exact q_op15 hL C1 hK hn hi5 kk hI hX hW hlo hl
    | 16, _ =>
      refine lv_tableIn (off := 590) (tgt := 622) hx hb d_law_32 (by decide) (by decide) (by decide) (by decide) ?_
      exact q_op16 hL C1 hK hn hi5 kk hI hX hW hlo hl
    | 17, _ =>
      refine lv_tableIn (off := 633) (tgt := 665) hx hb d_law_32 (by decide) (by decide) (by decide) (by decide) ?_
      exact q_op17 hL C1 hK hn hi5 kk hI hX hW hlo hl
    | 18, _ =>
      refine lv_tableIn (off := 676) (tgt := 708) hx hb d_law_32 (by decide) (by decide) (by decide) (by decide) ?_
      exact q_op18 hL C1 hK hn hi5 kk hI hX hW hlo hl
    | 19, _ =>
      refine lv_tableIn (off := 719) (tgt := 751) hx hb d_law_32 (by decide) (by decide) (by decide) (by decide) ?_
      exact q_op19 hL C1 hK hn hi5 kk hI hX hW hlo hl
    | 20, _ =>
      refine lv_tableIn (off := 752) (tgt := 784) hx hb d_law_32 (by decide) (by decide) (by decide) (by decide) ?_
      exact q_op20 hL C1 hK hn hi5 kk hI hX hW hlo hl
    | 21, _ =>
      refine lv_tableIn (off := 775) (tgt := 807) hx hb d_law_32 (by decide) (by decide) (by decide) (by decide) ?_
      exact q_op21 hL C1 hK hn hi5 kk hI hX hW hlo hl
    | 22, _ =>
      refine lv_tableIn (off := 808) (tgt := 840) hx hb d_law_32 (by decide) (by decide) (by decide) (by decide) ?_
      exact q_op22 hL C1 hK hn hi5 kk hI hX hW hlo hl
    | 23, _ =>
      refine lv_tableIn (off := 851) (tgt := 883) hx hb d_law_32 (by decide) (by decide) (by decide) (by decide) ?_
      exact q_op23 hL C1 hK hn hi5 kk hI hX hW hlo hl
    | 24, _ =>
      refine lv_tableIn (off := 884) (tgt := 916) hx hb d_law_32 (by decide) (by decide) (by decide) (by decide) ?_
      exact q_op24 hL C1 hK hn hi5 kk hI hX hW hlo hl
    | 25, _ =>
      refine lv_tableIn (off := 917) (tgt := 949) hx hb d_law_32 (by decide) (by decide) (by decide) (by decide) ?_
      exact q_op25 hL C1 hK hn hi5 kk hI hX hW hlo hl
    | 26, _ =>
      refine lv_tableIn (off := 950) (tgt := 982) hx hb d_law_32 (by decide) (by decide) (by decide) (by decide) ?_
      exact q_op26 hL C1 hK hn hi5 kk hI hX hW hlo hl
    | 27, _ =>
      refine lv_tableIn (off := 983) (tgt := 1015) hx hb d_law_32 (by decide) (by decide) (by decide) (by decide) ?_
      exact q_op27 hL C1 hK hn hi5 kk hI hX hW hlo hl
    | 28, _ =>
      refine lv_tableIn (off := 1036) (tgt := 1068) hx hb d_law_32 (by decide) (by decide) (by decide) (by decide) ?_
      exact q_op28 hL C1 hK hn hi5 kk hI hX hW hlo hl
    | 29, _ =>
      refine lv_tableOut (tgt := 1111) hx hb d_law_32 (by decide) (by decide) ?_
      exact kk _ _ _ _ _ hI hX hW hlo hl
    | 30, _ =>
      refine lv_tableOut (tgt := 1111) hx hb d_law_32 (by decide) (by decide) ?_
      exact kk _ _ _ _ _ hI hX hW hlo hl
    | 31, _ =>
      refine lv_tableOut (tgt := 1111) hx hb d_law_32 (by decide) (by decide) ?_
      exact kk _ _ _ _ _ hI hX hW hlo hl
    | j + 32, hj => omega
theorem q_loop {p : Program} {e : Env} {s : State} {m : MethodId} {below : List Frame} {meth : Method} {c : Code} {b L : Nat} {xs : Nat → Int32} {l : Launch} {dC : Nat → ClassId} {dI : Nat → Nat → Nat} {aC : Nat → ClassId} {pl : Nat} (hL : L ≤ 2560) (C0 : lw_At p s m meth c b L xs) (hK : am_K (q_G l s dC dI aC pl) s) {n : Nat} (hn : n ≤ 1000000) : ∀ (t : Nat) (i : Int), 0 ≤ i → i ≤ 40000 → (L : Int) - i < (t : Int) → ∀ (F A : gs_F) (H : Heap) (locs : List Loc) (ls : Array Slot), gs_I F A → ((∀ r : Nat, (r : Int) < F 106 3 → 1 ≤ A 108 r) ∧ gs_R5m F A) → am_W (q_G l s dC dI aC pl) 122 (gs_en F A) H → (∀ q ∈ locs, s.heap.size ≤ q.base) → lv_has ls 4 [(3, .int (Int32.ofInt i)), (2, .ref (s.heap.size + 106)), (1, .ref (s.heap.size + 0)), (0, .ref b)] → W p l e room_1 s m #[Value.ref b] below meth c H locs 122 n (lw_Z below #[Value.ref b] s) (F0 m 18 ls []) := by
  intro t
  induction t with
  | zero =>
    intro i h0 h1 ht F A H locs ls hI hX hW hlo hl
    exact q_18 hL C0 hK hn (by omega) (fun h => by exfalso; omega) hI hX hW hlo hl
  | succ t ih =>
    intro i h0 h1 ht F A H locs ls hI hX hW hlo hl
    refine q_18 hL C0 hK hn (by omega) (fun h F A H locs ls hI hX hW hlo hl => ?_) hI hX hW hlo hl
    obtain ⟨hx, hb, hr, hml, hown, hts, hXx, hbl, hlocks, hgv⟩ := C0
    refine lv_iinc (v := Int32.ofInt (i + 5)) (lv' := [(3, .int (Int32.ofInt (i + 5))), (2, .ref (s.heap.size + 106)), (1, .ref (s.heap.size + 0)), (0, .ref b)]) hx hb d_law_1111 hl (k := 0) rfl (by rw [Int32.ofInt_add]) (by decide) rfl (fun ls hl => ?_)
    refine lv_goto (tgt := 18) hx hb d_law_1114 (by decide) ?_
    exact ih (i + 5) (by omega) (by omega) (by omega) F A H locs ls hI hX hW hlo hl
theorem am_W_c {G : am_G} {N : Nat} {h h2 : am_H} {H : Heap} (hW : am_W G N h H) (he : ∀ j, j < N → am_ce G (h j) = am_ce G (h2 j)) : am_W G N h2 H := ⟨hW.1, hW.2.1, am_P_of fun j hj => by rw [← he j hj]; exact am_at hW hj⟩
theorem p1_news_gen {G : am_G} (L0 L1 Lt : ri_L) (n1 : ri_D [] ri_M 100000 20 67 [.ref 0] L0 = some (none, L1)) (n2 : L1.1 = 106) (n3 : L1.2.1 ≤ 100000) (n4 : (ri_get L1.2.2 106).isSome = true) (n5 : ri_D [] ri_M 100000 20 109 [.ref 106] (107, L1.2.1 + 28, ri_put L1.2.2 106 (.inr (9, ri_df 9))) = some (none, Lt)) (h0 : L0.1 = 1) (ht : Lt.1 = 122) (ht2 : Lt.2.1 ≤ 100000) :
    ∃ (A1 B1 A2 B2 : Nat) (h1 : am_H), A1 ≤ 105 ∧ B1 ≤ 100000 ∧ A2 ≤ 15 ∧ B2 ≤ 100000 ∧ am_C G 20 (ri_M 67).1 A1 B1 [.ref 0] 1 (ri_h L0) (fun r N h => none = r ∧ 106 = N ∧ h1 = h) ∧ am_C G 20 (ri_M 109).1 A2 B2 [.ref 106] 107 (va_up h1 106 (.inr (9, ri_df 9))) (fun r N h => none = r ∧ 122 = N ∧ h = ri_h Lt) := by
  obtain ⟨m1, m2, c1⟩ := ri_D_ok (E := []) ri_all 100000 20 67 [.ref 0] L0 none L1 n1
  obtain ⟨m3, m4, c2⟩ := ri_D_ok (E := []) ri_all 100000 20 109 [.ref 106] _ none Lt n5
  have c1 := c1 G (fun b lo hi h => by simp at h)
  have c2 := c2 G (fun b lo hi h => by simp at h)
  rw [Option.isSome_iff_exists] at n4
  obtain ⟨e0, he0⟩ := n4
  obtain ⟨a1, b1, x1⟩ := L1
  have e3 : ri_h (107, b1 + 28, ri_put x1 106 (.inr (9, ri_df 9))) = va_up (ri_h (a1, b1, x1)) 106 (.inr (9, ri_df 9)) := ri_h_put _ he0 _ _ _ _
  have n2 : a1 = 106 := n2
  have n3 : b1 ≤ 100000 := n3
  refine ⟨a1 - L0.1, b1 - L0.2.1, Lt.1 - 107, Lt.2.1 - (b1 + 28), ri_h (a1, b1, x1), by omega, by omega, by omega, by omega, ?_, ?_⟩
  · have c3 := c1.mono (post2 := fun r N h => none = r ∧ 106 = N ∧ ri_h (a1, b1, x1) = h) (fun r N h q => ⟨q.1.symm, by rw [q.2.1]; exact n2.symm, q.2.2.symm⟩)
    rw [h0] at c3
    rw [h0]
    exact c3
  · rw [← e3]
    exact c2.mono (fun r N h q => ⟨q.1.symm, by rw [q.2.1]; exact ht.symm, q.2.2⟩)
theorem whole_start {p : Program} {e : Env} {s : State} {m : MethodId} {below : List Frame} {meth : Method} {c : Code} (l : Launch) {b L : Nat} {xs : Nat → Int32} (hL : L ≤ 2560) (C0 : lw_At p s m meth c b L xs) : W p l e room_1 s m #[Value.ref b] below meth c s.heap [] 0 0 (lw_Z below #[Value.ref b] s) (entryFrame m ([Value.ref b] : List Value).toArray 4) := by
  obtain ⟨dC, dI, aC, pl, hKa⟩ := lw_K C0
  have C1 := C0
  obtain ⟨hx, hb, hr, hml, hown, hts, hX, hbl, hlocks, hgv⟩ := C0
  have hts2 := am_hts hts
  have hK : am_K (q_G l s dC dI aC pl) s := hKa l (fun _ => 0)
  have hbA : ¬ (fun q : Nat => s.heap.size ≤ q) b := Nat.not_le.mpr hbl
  have hW : am_W (q_G l s dC dI aC pl) 0 (fun _ => .inr (0, [])) s.heap := ⟨rfl, fun _ _ => rfl, am_P_of (fun k hk => absurd hk (Nat.not_lt_zero _))⟩
  have hl := lv_entry ([.ref b]) (n := 4) (Nat.le_of_ble_eq_true rfl)
  rw [lg_entry_eq]
  generalize (lg_sl ([.ref b]) ++ List.replicate (4 - (lg_sl ([.ref b])).length) Slot.unset).toArray = ls at hl ⊢
  have hl : lv_has ls 4 [(0, .ref b)] := hl
  obtain ⟨n1, n2, n3, n4, n5⟩ := p1_new_use
  obtain ⟨A1, B1, A2, B2, h1, k1, k2, k3, k4, c1, c2⟩ := p1_news_gen (G := (q_G l s dC dI aC pl)) p1_L0 p1_L1 p1_lit n1 n2 n3 n4 n5 rfl rfl (by decide)
  have hlo : ∀ q ∈ ([] : List Loc), s.heap.size ≤ q.base := fun _ h => by cases h
  refine gw_new (G := (q_G l s dC dI aC pl)) (own := R_law) (ci := 8) (q := (RX8, TX8, 13)) hx hb hown hts2 hK hW d_law_0 rfl (by decide +kernel) (by decide) (by decide) (fun H hW => ?_)
  refine lv_dup hx hb d_law_3 rfl ?_
  have hW : am_W (q_G l s dC dI aC pl) 1 (ri_h p1_L0) H := am_W_c hW (fun j hj => by
    have e : j = 0 := by omega
    subst e
    show Sum.inr (8, (am_df 8).map (am_cv (q_G l s dC dI aC pl))) = am_ce (q_G l s dC dI aC pl) (ri_h p1_L0 0)
    have e2 : ri_h p1_L0 0 = .inr (8, ri_df 8) := rfl
    rw [e2]
    show _ = Sum.inr (8, (ri_df 8).map (am_cv (q_G l s dC dI aC pl)))
    rw [ri_df_ce])
  refine gw_callI (G := (q_G l s dC dI aC pl)) (cc := code) (own := R_law) (nL := 4) (y2 := (ri_M 67).1) (n2 := (ri_M 67).2.1) (d2 := 20) (mc2 := A1) (ms2 := B1) (a := 0) (as := []) (rest := [.ref (s.heap.size + 0)]) hx hb hml hown hts2 hK hW hlo hl.1 d_law_4 (ri_all 67).1 (by decide +kernel) ((ri_all 67).2.2.2.1 (by decide +kernel)).1 ((ri_all 67).2.2.2.1 (by decide +kernel)).2.1 ((ri_all 67).2.2.2.1 (by decide +kernel)).2.2 (by decide +kernel) (Nat.le_of_ble_eq_true rfl) (by decide) (by decide) (by show 0 + 1 + (A1) ≤ 600000; omega) (by show 0 + 13 + (B1) ≤ 7302249; omega) c1 rfl (fun r N2 h2 H locs hp hW hlo => ?_)
  obtain ⟨e1, e2, e3⟩ := hp
  subst e1 e2 e3
  refine W.eq (g2 := F0 m 7 ls [.ref (s.heap.size + 0)]) rfl ?_
  refine lv_astore_n (lv' := [(1, .ref (s.heap.size + 0)), (0, .ref b)]) hx hb d_law_7 rfl hl (by decide) rfl (fun ls hl => ?_)
  refine gw_new (G := (q_G l s dC dI aC pl)) (own := R_law) (ci := 9) (q := (RX9, TX9, 28)) hx hb hown hts2 hK hW d_law_8 rfl (by decide +kernel) (by show 0 + 1 + (A1) + 1 ≤ 600000; omega) (by show 0 + 13 + (B1) + 28 ≤ 7302249; omega) (fun H hW => ?_)
  refine lv_dup hx hb d_law_11 rfl ?_
  have hW : am_W (q_G l s dC dI aC pl) 107 (va_up h1 106 (.inr (9, ri_df 9))) H := am_W_c hW (fun j hj => by
    simp only [va_up]
    split
    · show Sum.inr (9, (am_df 9).map (am_cv (q_G l s dC dI aC pl))) = Sum.inr (9, (ri_df 9).map (am_cv (q_G l s dC dI aC pl)))
      rw [ri_df_ce]
    · rfl)
  refine gw_callI (G := (q_G l s dC dI aC pl)) (cc := code) (own := R_law) (nL := 4) (y2 := (ri_M 109).1) (n2 := (ri_M 109).2.1) (d2 := 20) (mc2 := A2) (ms2 := B2) (a := 106) (as := []) (rest := [.ref (s.heap.size + 106)]) hx hb hml hown hts2 hK hW hlo hl.1 d_law_12 (ri_all 109).1 (by decide +kernel) ((ri_all 109).2.2.2.1 (by decide +kernel)).1 ((ri_all 109).2.2.2.1 (by decide +kernel)).2.1 ((ri_all 109).2.2.2.1 (by decide +kernel)).2.2 (by decide +kernel) (Nat.le_of_ble_eq_true rfl) (by decide) (by decide) (by show 0 + 1 + (A1) + 1 + (A2) ≤ 600000; omega) (by show 0 + 13 + (B1) + 28 + (B2) ≤ 7302249; omega) c2 rfl (fun r N2 h2 H locs hp hW hlo => ?_)
  obtain ⟨e1, e2, e3⟩ := hp
  subst e1 e2
  rw [e3] at hW
  refine W.eq (g2 := F0 m 15 ls [.ref (s.heap.size + 106)]) rfl ?_
  refine lv_astore_n (lv' := [(2, .ref (s.heap.size + 106)), (1, .ref (s.heap.size + 0)), (0, .ref b)]) hx hb d_law_15 rfl hl (by decide) rfl (fun ls hl => ?_)
  refine lv_iconst (v := 0) hx hb d_law_16 (by decide) ?_
  refine lv_istore_n (lv' := [(3, .int 0), (2, .ref (s.heap.size + 106)), (1, .ref (s.heap.size + 0)), (0, .ref b)]) hx hb d_law_17 rfl hl (by decide) rfl (fun ls hl => ?_)
  have hk0 : (0 + 1 + (A1) + 1 + (A2)) ≤ 122 := by omega
  have hn0 : (0 + 13 + (B1) + 28 + (B2)) ≤ 1000000 := by omega
  refine W.widen (k := 122) (n := 1000000) hk0 hn0 ?_
  have hW : am_W (q_G l s dC dI aC pl) 122 (gs_en gs_F0 gs_A0) H := am_W_c hW (fun j hj => gs_start _ j hj)
  exact q_loop hL C1 hK (Nat.le_refl _) (L + 1) 0 (by omega) (by omega) (by omega) _ _ _ _ _ gs_I0 ⟨(fun r h => by
    have e : gs_F0 106 3 = 0 := by decide +kernel
    rw [e] at h
    omega), ⟨⟨⟨⟨⟨gs_R1_0, gs_R3_0⟩, gs_Rt_0, gs_Rp_0⟩, gs_W_0⟩, gs_Rv_0⟩, gs_R6_0⟩⟩ hW hlo hl
-- ===== YOUR PART ENDS =====
set_option maxHeartbeats 4000000 in
theorem lw_walk (l : Launch) (b : Addr) (xs : List Int32) : MetFree l x (headSpec (Jvm.Cond.code x code maxLocals ret :: tables_1) room_1) (lw_P b xs) (fun _ _ _ _ _ => True) lw_Q := by
  refine MetFree.of_bodyS (code := code) (maxLocals := maxLocals) (ret := ret) (by decide) ?_ ?_
  · intro args s m h hn
    obtain ⟨meth, c, h1, h2, h3, h4, h5, h6, -, -⟩ := Cond.code_spec hn (atoms_spec (ws := Jvm.Cond.code x code maxLocals ret :: tables_1) h _ List.mem_cons_self)
    exact ⟨meth, c, h1, h2, h3, h4, h5, h6⟩
  · intro p e s m args below meth c s₁ B hml0 hP _
    obtain ⟨rfl, hx, hbd, hgv⟩ := hP
    obtain ⟨scr, harrAt, hlist, hof, hsmall⟩ := hx
    obtain ⟨hcb, hkn, -, -⟩ := State.arrayAt?_spec harrAt
    have hown : s.vm.findClass R_law = some m.cls := findClass_of_methodNamed B.named
    have hts0 : ∀ c ∈ (Jvm.Cond.code x code maxLocals ret :: tables_1), c.before #[Value.ref b] s = true := atoms_spec (ws := Jvm.Cond.code x code maxLocals ret :: tables_1) B.pre
    have hts : ∀ w ∈ lw_tbl, w.before #[Value.ref b] s = true := k2_hts_sels lw_privs (fun w hw => hts0 w (List.mem_cons_of_mem _ hw)) lw_privs_ok
    have hml : c.maxLocals = 4 := B.maxLocals_eq (hts0 _ List.mem_cons_self)
    have X₀ : Stand p l e room_1 s m #[Value.ref b] below meth c s₁ [] 0 0 := Stand.of_body B
    have hh0 : s₁.heap = s.heap := by rw [B.state]; rfl
    have hsz : scr.slots.size = xs.length := by rw [← Array.length_toList, hlist, List.length_map]
    have hval : ∀ j : Nat, j < xs.length → scr.slots[j]? = some (.int (xs.getD j 0)) := fun j hj => by
      rw [← Array.getElem?_toList, hlist]
      simp [hj]
    have hbl : b < s.heap.size := (Array.getElem?_eq_some_iff.mp hcb).1
    have hX : va_X b xs.length (fun j => xs.getD j 0) s s.heap := ⟨scr, hcb, hof, hkn, hsz, hval⟩
    have K : W p l e room_1 s m #[Value.ref b] below meth c s₁.heap [] 0 0 (lw_Z below #[Value.ref b] s) (entryFrame m ([Value.ref b] : List Value).toArray 4) := by
      rw [hh0]
      exact whole_start l hbd ⟨B.exec, B.bytes, B.returns, hml, hown, hts, hX, hbl, B.notSynchronized, hgv⟩
    obtain ⟨t, a1, o, b1, b2, b3⟩ := K s₁ rfl X₀
    exact ⟨t, o, a1, b1, b2, b3⟩
theorem lw_pre_spec {args : Array Value} {s : State} (h : (Jvm.Cond.and given_1 narrow_1).before args s = true) (hr : rest_1_c.before args s = true) : ∃ (b : Addr) (xs : List Int32), lw_P b xs args s := by
  have hs := flat_of_before _ h
  have hq := flat_of_before _ hr
  have hc : (Cond.count 1).before args s = true := hs _ (by decide +kernel)
  have harr : (Cond.arrayOf (.arg 0) .int).before args s = true := hs _ (by decide +kernel)
  have hle : (Cond.le (.length (.arg 0)) (.int 2560)).before args s = true := hs _ (by decide +kernel)
  have hlen : (Cond.isInt (.length (.arg 0))).before args s = true := hq _ (by decide +kernel)
  have hall : (Cond.all (.arg 0) (.isInt (.elem (.arg 0) (.index 0)))).before args s = true := hq _ (by decide +kernel)
  obtain ⟨b, xs, hb, hx⟩ := State.ints_of_pre rfl harr hlen hall
  have hsm : xs.length < 2 ^ 31 := hx.choose_spec.2.2.2
  have hev : (Term.length (.arg 0)).eval args s none [] s = some (.int xs.length.toInt32) := hx.length_eval hb
  have hv := Cond.le_ints hev (show (Term.int 2560).eval args s none [] s = some (.int 2560) from rfl)
  have hd : xs.length.toInt32 ≤ 2560 := by
    simpa [Cond.before, Cond.holds, hv] using hle
  have hN : xs.length ≤ 2560 := (Int32.ofNat_le_ofNat hsm (by decide)).mp (show Int32.ofNat xs.length ≤ Int32.ofNat 2560 from hd)
  exact ⟨b, xs, Cond.one_arg hc (show args[0]? = some (.ref b) from hb), hx, hN, h⟩
theorem lw_comes (l : Launch) : Comes l x (Jvm.Cond.code x code maxLocals ret :: tables_1) room_1 (fun tb e args s => Calls_1 tb e args s ∧ rest_1 tb e args s ∧ Pre_1 tb e args s)
    (fun _ _ args s o t => lw_Q args s o t) := by
  intro p e ha hc hk s m args below hf hfit hheap happ hpre
  obtain ⟨b, xs, hP⟩ := lw_pre_spec hpre.2.2 hpre.2.1
  obtain ⟨k, o, h1, h2, h3, hQ⟩ := lw_walk l b xs p e ha hc hk s m args below hf ((Spec.applies_iff_loose hf).mp happ).1 hP trivial
  exact ⟨k, o, h1, h2, h3, hQ⟩
theorem lw_frame {s t : State} {o : Outcome} {args : Array Value} (h : Framed s o t [] 600000 7302249) :
    Framed s o t (fieldLocs frame_1_writes args s ++ arrayLocs frame_1_arrays args s ++ staticLocs frame_1_statics s) 600000 7302249 := h
theorem lw_limb (L : Cond) (hL : ∀ (args : Array Value) (s t : State), L.after args s (.returned (some (.int 1))) t = true) :
    ArmFor flags0 classFile x code maxLocals ret World_1 tables_1 room_1 Calls_1 rest_1 Pre_1
      (fun tb e a s o t => postC L tb e a s o t ∧ Framed s o t (fieldLocs frame_1_writes a s ++ arrayLocs frame_1_arrays a s ++ staticLocs frame_1_statics s) 600000 7302249) := by
  intro l _ _ _ p e ha hc hk s m args below hf hfit hheap happ hpre
  obtain ⟨k, o, h1, h2, h3, rfl, hF⟩ := lw_comes l p e ha hc hk s m args below hf hfit hheap happ hpre
  exact ⟨k, _, h1, h2, h3, hL args s _, lw_frame hF⟩
theorem i_vc : Claimed_1_1 ∧ Claimed_1_2 := ⟨lw_limb limb_1_1 (fun args s t => by simp [limb_1_1, Cond.after, Cond.holds, Cond.value]), lw_limb limb_1_2 (fun args s t => Cond.after_iff.mpr (by
  first | (rw [show limb_1_2 = Cond.eq .result (.int 1) from rfl, Cond.eq_ints (x := 1) (y := 1) rfl rfl]; simp; done) | (simp [limb_1_2, Cond.value, Term.eval]; done)))⟩
end
