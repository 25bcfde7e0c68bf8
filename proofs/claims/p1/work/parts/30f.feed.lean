noncomputable section
theorem fd_X6_add_0 : decode cX6_add 0 = .ok (.aload_n 0, 1) := by decide +kernel
theorem fd_X6_add_1 : decode cX6_add 1 = .ok (.getfield 29, 3) := by decide +kernel
theorem fd_X6_add_4 : decode cX6_add 4 = .ok (.aload_n 0, 1) := by decide +kernel
theorem fd_X6_add_5 : decode cX6_add 5 = .ok (.getfield 22, 3) := by decide +kernel
theorem fd_X6_add_8 : decode cX6_add 8 = .ok (.arraylength, 1) := by decide +kernel
theorem fd_X6_add_9 : decode cX6_add 9 = .ok (.if_icmp .ge 23, 3) := by decide +kernel
theorem fd_X6_add_12 : decode cX6_add 12 = .ok (.aload_n 0, 1) := by decide +kernel
theorem fd_X6_add_13 : decode cX6_add 13 = .ok (.getfield 22, 3) := by decide +kernel
theorem fd_X6_add_16 : decode cX6_add 16 = .ok (.aload_n 0, 1) := by decide +kernel
theorem fd_X6_add_17 : decode cX6_add 17 = .ok (.getfield 29, 3) := by decide +kernel
theorem fd_X6_add_20 : decode cX6_add 20 = .ok (.iload_n 1, 1) := by decide +kernel
theorem fd_X6_add_21 : decode cX6_add 21 = .ok (.iastore, 1) := by decide +kernel
theorem fd_X6_add_22 : decode cX6_add 22 = .ok (.aload_n 0, 1) := by decide +kernel
theorem fd_X6_add_23 : decode cX6_add 23 = .ok (.dup, 1) := by decide +kernel
theorem fd_X6_add_24 : decode cX6_add 24 = .ok (.getfield 29, 3) := by decide +kernel
theorem fd_X6_add_27 : decode cX6_add 27 = .ok (.iconst 1, 1) := by decide +kernel
theorem fd_X6_add_28 : decode cX6_add 28 = .ok (.iadd, 1) := by decide +kernel
theorem fd_X6_add_29 : decode cX6_add 29 = .ok (.putfield 29, 3) := by decide +kernel
theorem fd_X6_add_32 : decode cX6_add 32 = .ok (.return_, 1) := by decide +kernel
theorem fd_X8_feed_0 : decode cX8_feed 0 = .ok (.iload_n 1, 1) := by decide +kernel
theorem fd_X8_feed_1 : decode cX8_feed 1 = .ok (.iconst 1, 1) := by decide +kernel
theorem fd_X8_feed_2 : decode cX8_feed 2 = .ok (.if_icmp .lt 9, 3) := by decide +kernel
theorem fd_X8_feed_5 : decode cX8_feed 5 = .ok (.iload_n 1, 1) := by decide +kernel
theorem fd_X8_feed_6 : decode cX8_feed 6 = .ok (.bipush 8, 2) := by decide +kernel
theorem fd_X8_feed_8 : decode cX8_feed 8 = .ok (.if_icmp .le 7, 3) := by decide +kernel
theorem fd_X8_feed_11 : decode cX8_feed 11 = .ok (.sipush (-1002), 3) := by decide +kernel
theorem fd_X8_feed_14 : decode cX8_feed 14 = .ok (.ireturn, 1) := by decide +kernel
theorem fd_X8_feed_15 : decode cX8_feed 15 = .ok (.aload_n 0, 1) := by decide +kernel
theorem fd_X8_feed_16 : decode cX8_feed 16 = .ok (.getfield 65, 3) := by decide +kernel
theorem fd_X8_feed_19 : decode cX8_feed 19 = .ok (.getfield 142, 3) := by decide +kernel
theorem fd_X8_feed_22 : decode cX8_feed 22 = .ok (.iload_n 1, 1) := by decide +kernel
theorem fd_X8_feed_23 : decode cX8_feed 23 = .ok (.iadd, 1) := by decide +kernel
theorem fd_X8_feed_24 : decode cX8_feed 24 = .ok (.bipush 120, 2) := by decide +kernel
theorem fd_X8_feed_26 : decode cX8_feed 26 = .ok (.if_icmp .le 7, 3) := by decide +kernel
theorem fd_X8_feed_29 : decode cX8_feed 29 = .ok (.sipush (-1004), 3) := by decide +kernel
theorem fd_X8_feed_32 : decode cX8_feed 32 = .ok (.ireturn, 1) := by decide +kernel
theorem fd_X8_feed_33 : decode cX8_feed 33 = .ok (.iload_n 1, 1) := by decide +kernel
theorem fd_X8_feed_34 : decode cX8_feed 34 = .ok (.iconst 1, 1) := by decide +kernel
theorem fd_X8_feed_35 : decode cX8_feed 35 = .ok (.isub, 1) := by decide +kernel
theorem fd_X8_feed_36 : decode cX8_feed 36 = .ok (.istore 4, 2) := by decide +kernel
theorem fd_X8_feed_38 : decode cX8_feed 38 = .ok (.iload 4, 2) := by decide +kernel
theorem fd_X8_feed_40 : decode cX8_feed 40 = .ok (.ifCond .lt 28, 3) := by decide +kernel
theorem fd_X8_feed_43 : decode cX8_feed 43 = .ok (.aload_n 0, 1) := by decide +kernel
theorem fd_X8_feed_44 : decode cX8_feed 44 = .ok (.getfield 65, 3) := by decide +kernel
theorem fd_X8_feed_47 : decode cX8_feed 47 = .ok (.lload_n 2, 1) := by decide +kernel
theorem fd_X8_feed_48 : decode cX8_feed 48 = .ok (.bipush 8, 2) := by decide +kernel
theorem fd_X8_feed_50 : decode cX8_feed 50 = .ok (.iload 4, 2) := by decide +kernel
theorem fd_X8_feed_52 : decode cX8_feed 52 = .ok (.imul, 1) := by decide +kernel
theorem fd_X8_feed_53 : decode cX8_feed 53 = .ok (.lshr, 1) := by decide +kernel
theorem fd_X8_feed_54 : decode cX8_feed 54 = .ok (.ldc2_w 143, 3) := by decide +kernel
theorem fd_X8_feed_57 : decode cX8_feed 57 = .ok (.land, 1) := by decide +kernel
theorem fd_X8_feed_58 : decode cX8_feed 58 = .ok (.l2i, 1) := by decide +kernel
theorem fd_X8_feed_59 : decode cX8_feed 59 = .ok (.invokevirtual 145, 3) := by decide +kernel
theorem fd_X8_feed_62 : decode cX8_feed 62 = .ok (.iinc 4 (-1), 3) := by decide +kernel
theorem fd_X8_feed_65 : decode cX8_feed 65 = .ok (.goto (-27), 3) := by decide +kernel
theorem fd_X8_feed_68 : decode cX8_feed 68 = .ok (.aload_n 0, 1) := by decide +kernel
theorem fd_X8_feed_69 : decode cX8_feed 69 = .ok (.getfield 65, 3) := by decide +kernel
theorem fd_X8_feed_72 : decode cX8_feed 72 = .ok (.getfield 142, 3) := by decide +kernel
theorem fd_X8_feed_75 : decode cX8_feed 75 = .ok (.ireturn, 1) := by decide +kernel
theorem fd_X9_feed_0 : decode cX9_feed 0 = .ok (.iload_n 1, 1) := by decide +kernel
theorem fd_X9_feed_1 : decode cX9_feed 1 = .ok (.i2l, 1) := by decide +kernel
theorem fd_X9_feed_2 : decode cX9_feed 2 = .ok (.lconst 1, 1) := by decide +kernel
theorem fd_X9_feed_3 : decode cX9_feed 3 = .ok (.ldc2_w 179, 3) := by decide +kernel
theorem fd_X9_feed_6 : decode cX9_feed 6 = .ok (.invokestatic 75, 3) := by decide +kernel
theorem fd_X9_feed_9 : decode cX9_feed 9 = .ok (.ifCond .ne 7, 3) := by decide +kernel
theorem fd_X9_feed_12 : decode cX9_feed 12 = .ok (.sipush (-1002), 3) := by decide +kernel
theorem fd_X9_feed_15 : decode cX9_feed 15 = .ok (.ireturn, 1) := by decide +kernel
theorem fd_X9_feed_16 : decode cX9_feed 16 = .ok (.aload_n 0, 1) := by decide +kernel
theorem fd_X9_feed_17 : decode cX9_feed 17 = .ok (.getfield 181, 3) := by decide +kernel
theorem fd_X9_feed_20 : decode cX9_feed 20 = .ok (.iload_n 1, 1) := by decide +kernel
theorem fd_X9_feed_21 : decode cX9_feed 21 = .ok (.iadd, 1) := by decide +kernel
theorem fd_X9_feed_22 : decode cX9_feed 22 = .ok (.bipush 120, 2) := by decide +kernel
theorem fd_X9_feed_24 : decode cX9_feed 24 = .ok (.if_icmp .le 7, 3) := by decide +kernel
theorem fd_X9_feed_27 : decode cX9_feed 27 = .ok (.sipush (-1004), 3) := by decide +kernel
theorem fd_X9_feed_30 : decode cX9_feed 30 = .ok (.ireturn, 1) := by decide +kernel
theorem fd_X9_feed_31 : decode cX9_feed 31 = .ok (.iload_n 1, 1) := by decide +kernel
theorem fd_X9_feed_32 : decode cX9_feed 32 = .ok (.iconst 1, 1) := by decide +kernel
theorem fd_X9_feed_33 : decode cX9_feed 33 = .ok (.isub, 1) := by decide +kernel
theorem fd_X9_feed_34 : decode cX9_feed 34 = .ok (.istore 4, 2) := by decide +kernel
theorem fd_X9_feed_36 : decode cX9_feed 36 = .ok (.iload 4, 2) := by decide +kernel
theorem fd_X9_feed_38 : decode cX9_feed 38 = .ok (.ifCond .lt 40, 3) := by decide +kernel
theorem fd_X9_feed_41 : decode cX9_feed 41 = .ok (.aload_n 0, 1) := by decide +kernel
theorem fd_X9_feed_42 : decode cX9_feed 42 = .ok (.getfield 37, 3) := by decide +kernel
theorem fd_X9_feed_45 : decode cX9_feed 45 = .ok (.aload_n 0, 1) := by decide +kernel
theorem fd_X9_feed_46 : decode cX9_feed 46 = .ok (.getfield 181, 3) := by decide +kernel
theorem fd_X9_feed_49 : decode cX9_feed 49 = .ok (.lload_n 2, 1) := by decide +kernel
theorem fd_X9_feed_50 : decode cX9_feed 50 = .ok (.bipush 8, 2) := by decide +kernel
theorem fd_X9_feed_52 : decode cX9_feed 52 = .ok (.iload 4, 2) := by decide +kernel
theorem fd_X9_feed_54 : decode cX9_feed 54 = .ok (.imul, 1) := by decide +kernel
theorem fd_X9_feed_55 : decode cX9_feed 55 = .ok (.lshr, 1) := by decide +kernel
theorem fd_X9_feed_56 : decode cX9_feed 56 = .ok (.ldc2_w 184, 3) := by decide +kernel
theorem fd_X9_feed_59 : decode cX9_feed 59 = .ok (.land, 1) := by decide +kernel
theorem fd_X9_feed_60 : decode cX9_feed 60 = .ok (.l2i, 1) := by decide +kernel
theorem fd_X9_feed_61 : decode cX9_feed 61 = .ok (.iastore, 1) := by decide +kernel
theorem fd_X9_feed_62 : decode cX9_feed 62 = .ok (.aload_n 0, 1) := by decide +kernel
theorem fd_X9_feed_63 : decode cX9_feed 63 = .ok (.dup, 1) := by decide +kernel
theorem fd_X9_feed_64 : decode cX9_feed 64 = .ok (.getfield 181, 3) := by decide +kernel
theorem fd_X9_feed_67 : decode cX9_feed 67 = .ok (.iconst 1, 1) := by decide +kernel
theorem fd_X9_feed_68 : decode cX9_feed 68 = .ok (.iadd, 1) := by decide +kernel
theorem fd_X9_feed_69 : decode cX9_feed 69 = .ok (.putfield 181, 3) := by decide +kernel
theorem fd_X9_feed_72 : decode cX9_feed 72 = .ok (.iinc 4 (-1), 3) := by decide +kernel
theorem fd_X9_feed_75 : decode cX9_feed 75 = .ok (.goto (-39), 3) := by decide +kernel
theorem fd_X9_feed_78 : decode cX9_feed 78 = .ok (.aload_n 0, 1) := by decide +kernel
theorem fd_X9_feed_79 : decode cX9_feed 79 = .ok (.getfield 181, 3) := by decide +kernel
theorem fd_X9_feed_82 : decode cX9_feed 82 = .ok (.ireturn, 1) := by decide +kernel
theorem fd_X9_in_0 : decode cX9_in 0 = .ok (.lload_n 0, 1) := by decide +kernel
theorem fd_X9_in_1 : decode cX9_in 1 = .ok (.lload_n 2, 1) := by decide +kernel
theorem fd_X9_in_2 : decode cX9_in 2 = .ok (.lcmp, 1) := by decide +kernel
theorem fd_X9_in_3 : decode cX9_in 3 = .ok (.ifCond .lt 14, 3) := by decide +kernel
theorem fd_X9_in_6 : decode cX9_in 6 = .ok (.lload_n 0, 1) := by decide +kernel
theorem fd_X9_in_7 : decode cX9_in 7 = .ok (.lload 4, 2) := by decide +kernel
theorem fd_X9_in_9 : decode cX9_in 9 = .ok (.lcmp, 1) := by decide +kernel
theorem fd_X9_in_10 : decode cX9_in 10 = .ok (.ifCond .gt 7, 3) := by decide +kernel
theorem fd_X9_in_13 : decode cX9_in 13 = .ok (.iconst 1, 1) := by decide +kernel
theorem fd_X9_in_14 : decode cX9_in 14 = .ok (.goto 4, 3) := by decide +kernel
theorem fd_X9_in_17 : decode cX9_in 17 = .ok (.iconst 0, 1) := by decide +kernel
theorem fd_X9_in_18 : decode cX9_in 18 = .ok (.ireturn, 1) := by decide +kernel
theorem fd_ok49 : am_okM m_X6_add 1 := (ri_all 49).1
theorem fd_ok78 : am_okM m_X8_feed 2 := (ri_all 78).1
theorem fd_ok110 : am_okM m_X9_in 3 := (ri_all 110).1
theorem fd_ok151 : am_okM m_X9_feed 2 := (ri_all 151).1
theorem fd_nn (k : Nat) (hk : k ≤ 7) : ¬ (nI (k + 1) - 1 < 0) := by
  match k, hk with
  | 0, _ => decide
  | 1, _ => decide
  | 2, _ => decide
  | 3, _ => decide
  | 4, _ => decide
  | 5, _ => decide
  | 6, _ => decide
  | 7, _ => decide
  | k + 8, hk => omega
theorem fd_dec (k : Nat) (hk : k ≤ 7) : nI (k + 1) - 1 + Int32.ofInt (-1) = nI k - 1 := by
  match k, hk with
  | 0, _ => decide
  | 1, _ => decide
  | 2, _ => decide
  | 3, _ => decide
  | 4, _ => decide
  | 5, _ => decide
  | 6, _ => decide
  | 7, _ => decide
  | k + 8, hk => omega
theorem fd_lt (i : Nat) (hk : i ≤ 7) : ¬ (Int32.ofNat 120 ≤ nI i) := by
  match i, hk with
  | 0, _ => decide
  | 1, _ => decide
  | 2, _ => decide
  | 3, _ => decide
  | 4, _ => decide
  | 5, _ => decide
  | 6, _ => decide
  | 7, _ => decide
  | k + 8, hk => omega
theorem fd_vp (i : Nat) (hk : i ≤ 7) : vp_in (nI i) 120 := by
  unfold vp_in
  match i, hk with
  | 0, _ => decide
  | 1, _ => decide
  | 2, _ => decide
  | 3, _ => decide
  | 4, _ => decide
  | 5, _ => decide
  | 6, _ => decide
  | 7, _ => decide
  | k + 8, hk => omega
theorem fd_sum (i : Nat) (hk : i ≤ 8) : (0 : Int32) + nI i ≤ 120 := by
  match i, hk with
  | 0, _ => decide
  | 1, _ => decide
  | 2, _ => decide
  | 3, _ => decide
  | 4, _ => decide
  | 5, _ => decide
  | 6, _ => decide
  | 7, _ => decide
  | 8, _ => decide
  | k + 9, hk => omega
def fd_r (n : Int32) : Int32 := if n < 1 ∨ 8 < n then -1002 else n
theorem fd_r_in (i : Nat) (hk : i ≤ 8) (hk1 : 1 ≤ i) : fd_r (nI i) = nI i := by
  match i, hk, hk1 with
  | 1, _, _ => decide
  | 2, _, _ => decide
  | 3, _, _ => decide
  | 4, _, _ => decide
  | 5, _, _ => decide
  | 6, _, _ => decide
  | 7, _, _ => decide
  | 8, _, _ => decide
  | k + 9, hk, _ => omega
theorem fd_k {n : Int32} (h1 : ¬ n < 1) (h8 : n ≤ 8) : ∃ k, k ≤ 8 ∧ 1 ≤ k ∧ n = nI k := by
  have e1 : ¬ n.toInt < (1 : Int32).toInt := fun q => h1 (Int32.lt_iff_toInt_lt.mpr q)
  have e8 : n.toInt ≤ (8 : Int32).toInt := Int32.le_iff_toInt_le.mp h8
  have c1 : (1 : Int32).toInt = 1 := by decide
  have c8 : (8 : Int32).toInt = 8 := by decide
  rw [c1] at e1
  rw [c8] at e8
  refine ⟨n.toInt.toNat, by omega, by omega, Int32.toInt_inj.mp ?_⟩
  rw [nI_toInt (by omega)]
  omega
section
variable {G : am_G} {d N : Nat} {h : am_H}
theorem fd_add {f : Nat → Int32} {fs : List Value} {i x : Int32} (h43 : h 43 = .inr (6, fs)) (hl : fs.length = 10) (hs : fs[0]? = some (.int i)) (ht : fs[3]? = some (.ref 46)) (h46 : h 46 = .inl (0, 120, .inl f)) (hN : 122 ≤ N) (hi : ¬ (Int32.ofNat 120 ≤ i)) (hi0 : vp_in i 120) : am_C G d m_X6_add 0 0 [.ref 43, .int x] N h (fun r N' h' => none = r ∧ N = N' ∧ h' = va_up (va_up h 46 (.inl (0, 120, .inl (upd f i.toNatClampNeg x)))) 43 (.inr (6, fs.set 0 (.int (i + 1))))) := by
  refine am_ofA fd_ok49 (Nat.le_of_ble_eq_true rfl) ?_
  show am_A G d m_X6_add 0 0 _ 0 0 0 [(0, .ref 43), (1, .int x)] [] N h
  refine am_aload_n fd_X6_add_0 rfl (.head _) ?_
  refine am_get (ci := 6) (j := 0) (q := (RX6, TX6, 10)) fd_X6_add_1 rfl (by decide) (ri_lw_in (pl := 247) (by decide +kernel)) (by omega) h43 hs ?_
  refine am_aload_n fd_X6_add_4 rfl (.head _) ?_
  refine am_get (ci := 6) (j := 3) (q := (RX6, TX6, 10)) fd_X6_add_5 rfl (by decide) (ri_lw_in (pl := 253) (by decide +kernel)) (by omega) h43 ht ?_
  refine am_alen (t := 0) fd_X6_add_8 (by decide) (by omega) h46 ?_
  refine am_icmp_ge (tgt := 32) fd_X6_add_9 (by decide) (fun q => absurd q hi) (fun _ => ?_)
  refine am_aload_n fd_X6_add_12 rfl (.head _) ?_
  refine am_get (ci := 6) (j := 3) (q := (RX6, TX6, 10)) fd_X6_add_13 rfl (by decide) (ri_lw_in (pl := 253) (by decide +kernel)) (by omega) h43 ht ?_
  refine am_aload_n fd_X6_add_16 rfl (.head _) ?_
  refine am_get (ci := 6) (j := 0) (q := (RX6, TX6, 10)) fd_X6_add_17 rfl (by decide) (ri_lw_in (pl := 247) (by decide +kernel)) (by omega) h43 hs ?_
  refine am_iload_n fd_X6_add_20 rfl (.tail _ (.head _)) ?_
  refine am_iast fd_X6_add_21 (by omega) h46 hi0 ?_
  have g43 := (va_up_ne h (.inl (0, 120, .inl (upd f i.toNatClampNeg x))) (k := 46) (j := 43) (by decide)).trans h43
  refine am_aload_n fd_X6_add_22 rfl (.head _) ?_
  refine am_dup fd_X6_add_23 rfl ?_
  refine am_get (ci := 6) (j := 0) (q := (RX6, TX6, 10)) fd_X6_add_24 rfl (by decide) (ri_lw_in (pl := 247) (by decide +kernel)) (by omega) g43 hs ?_
  refine am_iconst (v := 1) fd_X6_add_27 (by decide) ?_
  refine am_iadd fd_X6_add_28 ?_
  refine am_put (ci := 6) (j := 0) (q := (RX6, TX6, 10)) (ty := .int) fd_X6_add_29 rfl (by decide) (ri_lw_in (pl := 247) (by decide +kernel)) rfl (tyX6_ok 0 (by decide)) rfl rfl (by omega) g43 (by omega) ?_
  exact am_vret fd_X6_add_32 rfl (Nat.le_refl _) (Nat.le_refl _) ⟨rfl, rfl, rfl⟩
theorem fd_lX {v : Int64} {n : Int32} {f8 : List Value} {post : am_T} (hf8 : f8[7]? = some (.ref 43)) (hN : 122 ≤ N) : ∀ (k i : Nat) (h : am_H) (fs : List Value) (f : Nat → Int32), k + i ≤ 8 → h 0 = .inr (8, f8) → h 43 = .inr (6, fs) → fs.length = 10 → fs[0]? = some (.int (nI i)) → fs[3]? = some (.ref 46) → h 46 = .inl (0, 120, .inl f) → (∀ h' : am_H, (∀ a, a ≠ 43 → a ≠ 46 → h' a = h a) → post (some (.int (nI (k + i)))) N h') → am_A G (d + 1) m_X8_feed 0 0 post 0 0 38 [(4, .int (nI k - 1)), (0, .ref 0), (1, .int n), (2, .long v)] [] N h := by
  intro k
  induction k with
  | zero =>
    intro i h fs f hk h0 h43 hl hs ht h46 hp
    refine am_iload fd_X8_feed_38 (.head _) ?_
    refine am_if_lt (tgt := 68) fd_X8_feed_40 (by decide) (fun _ => ?_) (fun q => absurd (by decide) q)
    refine am_aload_n fd_X8_feed_68 rfl (.tail _ (.head _)) ?_
    refine am_get (ci := 8) (j := 7) (q := (RX8, TX8, 13)) fd_X8_feed_69 rfl (by decide) (ri_lw_in (pl := 358) (by decide +kernel)) (by omega) h0 hf8 ?_
    refine am_get (ci := 6) (j := 0) (q := (RX6, TX6, 10)) fd_X8_feed_72 rfl (by decide) (ri_lw_in (pl := 248) (by decide +kernel)) (by omega) h43 hs ?_
    refine am_iret fd_X8_feed_75 rfl rfl (Nat.le_refl _) (Nat.le_refl _) ?_
    have hq := hp h (fun _ _ _ => rfl)
    rw [Nat.zero_add] at hq
    exact hq
  | succ k ih =>
    intro i h fs f hk h0 h43 hl hs ht h46 hp
    refine am_iload fd_X8_feed_38 (.head _) ?_
    refine am_if_lt (tgt := 68) fd_X8_feed_40 (by decide) (fun q => absurd q (fd_nn k (by omega))) (fun _ => ?_)
    refine am_aload_n fd_X8_feed_43 rfl (.tail _ (.head _)) ?_
    refine am_get (ci := 8) (j := 7) (q := (RX8, TX8, 13)) fd_X8_feed_44 rfl (by decide) (ri_lw_in (pl := 358) (by decide +kernel)) (by omega) h0 hf8 ?_
    refine am_lload_n fd_X8_feed_47 rfl (.tail _ (.tail _ (.tail _ (.head _)))) ?_
    refine am_bipush (v := 8) fd_X8_feed_48 (by decide) ?_
    refine am_iload fd_X8_feed_50 (.head _) ?_
    refine am_imul fd_X8_feed_52 ?_
    refine am_lshr fd_X8_feed_53 ?_
    refine am_ldc2 (v := 255) fd_X8_feed_54 (ri_lw_in (pl := 511) (by decide +kernel)) ?_
    refine am_land fd_X8_feed_57 ?_
    refine am_l2i fd_X8_feed_58 ?_
    refine am_callV (y2 := m_X6_add) (n2 := 1) (d2 := d) (mc2 := 0) (ms2 := 0) (a := 43) (ci := 6) (q := (RX6, TX6, 10)) (fs := fs) (as := [.int _]) (rest := []) fd_X8_feed_59 fd_ok49 (ri_lw_in (pl := 512) (by decide +kernel)) ((ri_all 49).2.2.1 (by decide +kernel)).1 ((ri_all 49).2.2.1 (by decide +kernel)).2 rfl rfl (by omega) h43 rfl rfl (by decide) (Nat.le_refl _) (Nat.le_refl _) (Nat.le_refl _) (fd_add h43 hl hs ht h46 hN (fd_lt i (by omega)) (fd_vp i (by omega))) (fun r N2 h2 hq => ?_)
    obtain ⟨e1, e2, e3⟩ := hq
    subst e1 e2 e3
    refine am_iinc (lv' := [(4, .int (nI k - 1)), (0, .ref 0), (1, .int n), (2, .long v)]) fd_X8_feed_62 (.head _) (fd_dec k (by omega)) (by decide) rfl ?_
    refine am_goto (tgt := 38) fd_X8_feed_65 (by decide) ?_
    refine ih (i + 1) _ (fs.set 0 (.int (nI i + 1))) _ (by omega) ?_ (va_up_self _ _ _) ?_ ?_ ?_ ((va_up_ne _ _ (by decide)).trans (va_up_self _ _ _)) ?_
    · rw [va_up_ne _ _ (by decide), va_up_ne _ _ (by decide)]; exact h0
    · rw [List.length_set]; exact hl
    · rw [List.getElem?_set_self (by omega), nI_succ]
    · rw [List.getElem?_set_ne (by decide)]; exact ht
    · intro h3 hh
      have hq := hp h3 (fun a q1 q2 => by rw [hh a q1 q2, va_up_ne _ _ q1, va_up_ne _ _ q2])
      have e : k + 1 + i = k + (i + 1) := by omega
      rw [e] at hq
      exact hq
theorem fd_X {v : Int64} {n : Int32} {f8 fs : List Value} {f : Nat → Int32} (hf8 : f8[7]? = some (.ref 43)) (hN : 122 ≤ N) (h0 : h 0 = .inr (8, f8)) (h43 : h 43 = .inr (6, fs)) (hl : fs.length = 10) (hs : fs[0]? = some (.int 0)) (ht : fs[3]? = some (.ref 46)) (h46 : h 46 = .inl (0, 120, .inl f)) : am_C G (d + 1) m_X8_feed 0 0 [.ref 0, .int n, .long v] N h (fun r N' h' => some (.int (fd_r n)) = r ∧ N = N' ∧ ∀ a, a ≠ 43 → a ≠ 46 → h' a = h a) := by
  refine am_ofA fd_ok78 (Nat.le_of_ble_eq_true rfl) ?_
  show am_A G (d + 1) m_X8_feed 0 0 _ 0 0 0 [(0, .ref 0), (1, .int n), (2, .long v)] [] N h
  refine am_iload_n fd_X8_feed_0 rfl (.tail _ (.head _)) ?_
  refine am_iconst (v := 1) fd_X8_feed_1 (by decide) ?_
  refine am_icmp_lt (tgt := 11) fd_X8_feed_2 (by decide) (fun q => ?_) (fun q => ?_)
  · skip
    refine am_sipush (v := (-1002)) fd_X8_feed_11 (by decide) ?_
    refine am_iret fd_X8_feed_14 rfl rfl (Nat.le_refl _) (Nat.le_refl _) ⟨?_, rfl, fun _ _ _ => rfl⟩
    rw [fd_r, if_pos (.inl q)]
  · skip
    refine am_iload_n fd_X8_feed_5 rfl (.tail _ (.head _)) ?_
    refine am_bipush (v := 8) fd_X8_feed_6 (by decide) ?_
    refine am_icmp_le (tgt := 15) fd_X8_feed_8 (by decide) (fun q8 => ?_) (fun q8 => ?_)
    · obtain ⟨k, hk, hk1, rfl⟩ := fd_k q q8
      refine am_aload_n fd_X8_feed_15 rfl (.head _) ?_
      refine am_get (ci := 8) (j := 7) (q := (RX8, TX8, 13)) fd_X8_feed_16 rfl (by decide) (ri_lw_in (pl := 358) (by decide +kernel)) (by omega) h0 hf8 ?_
      refine am_get (ci := 6) (j := 0) (q := (RX6, TX6, 10)) fd_X8_feed_19 rfl (by decide) (ri_lw_in (pl := 248) (by decide +kernel)) (by omega) h43 hs ?_
      refine am_iload_n fd_X8_feed_22 rfl (.tail _ (.head _)) ?_
      refine am_iadd fd_X8_feed_23 ?_
      refine am_bipush (v := 120) fd_X8_feed_24 (by decide) ?_
      refine am_icmp_le (tgt := 33) fd_X8_feed_26 (by decide) (fun _ => ?_) (fun q9 => absurd (fd_sum k hk) q9)
      refine am_iload_n fd_X8_feed_33 rfl (.tail _ (.head _)) ?_
      refine am_iconst (v := 1) fd_X8_feed_34 (by decide) ?_
      refine am_isub fd_X8_feed_35 ?_
      refine am_istore (lv' := [(4, .int (nI k - 1)), (0, .ref 0), (1, .int (nI k)), (2, .long v)]) fd_X8_feed_36 (by decide) rfl ?_
      refine fd_lX hf8 hN k 0 h fs f (by omega) h0 h43 hl hs ht h46 (fun h3 hh => ⟨?_, rfl, hh⟩)
      rw [fd_r_in k hk hk1]; rfl
    · skip
      refine am_sipush (v := (-1002)) fd_X8_feed_11 (by decide) ?_
      refine am_iret fd_X8_feed_14 rfl rfl (Nat.le_refl _) (Nat.le_refl _) ⟨?_, rfl, fun _ _ _ => rfl⟩
      rw [fd_r, if_pos (.inr (Int32.not_le.mp q8))]
theorem fd_in {a b c : Int64} {r : Int32} (hr : (a < b ∧ r = 0) ∨ (¬ a < b ∧ c < a ∧ r = 0) ∨ (¬ a < b ∧ ¬ c < a ∧ r = 1)) : am_C G d m_X9_in 0 0 [.long a, .long b, .long c] N h (fun r2 N' h' => some (.int r) = r2 ∧ N = N' ∧ h = h') := by
  refine am_ofA fd_ok110 (Nat.le_of_ble_eq_true rfl) ?_
  show am_A G d m_X9_in 0 0 _ 0 0 0 [(0, .long a), (2, .long b), (4, .long c)] [] N h
  refine am_lload_n fd_X9_in_0 rfl (.head _) ?_
  refine am_lload_n fd_X9_in_1 rfl (.tail _ (.head _)) ?_
  refine am_lcmp fd_X9_in_2 ?_
  refine am_if_lt (tgt := 17) fd_X9_in_3 (by decide) (fun q => ?_) (fun q => ?_)
  · have q := (lg_cmp_lt a b).mp q
    have e : r = 0 := by rcases hr with ⟨_, e⟩ | ⟨_, _, e⟩ | ⟨e, _, _⟩; exact e; exact e; exact absurd q e
    subst e
    refine am_iconst (v := 0) fd_X9_in_17 (by decide) ?_
    refine am_iret (ty := .boolean) fd_X9_in_18 rfl rfl (Nat.le_refl _) (Nat.le_refl _) ⟨?_, rfl, rfl⟩
    rfl
  · have q : ¬ a < b := fun w => q ((lg_cmp_lt a b).mpr w)
    refine am_lload_n fd_X9_in_6 rfl (.head _) ?_
    refine am_lload fd_X9_in_7 (.tail _ (.tail _ (.head _))) ?_
    refine am_lcmp fd_X9_in_9 ?_
    refine am_if_gt (tgt := 17) fd_X9_in_10 (by decide) (fun q2 => ?_) (fun q2 => ?_)
    · have q2 := (lg_cmp_gt a c).mp q2
      have e : r = 0 := by rcases hr with ⟨_, e⟩ | ⟨_, _, e⟩ | ⟨_, e, _⟩; exact e; exact e; exact absurd q2 e
      subst e
      refine am_iconst (v := 0) fd_X9_in_17 (by decide) ?_
      refine am_iret (ty := .boolean) fd_X9_in_18 rfl rfl (Nat.le_refl _) (Nat.le_refl _) ⟨?_, rfl, rfl⟩
      rfl
    · have q2 : ¬ c < a := fun w => q2 ((lg_cmp_gt a c).mpr w)
      have e : r = 1 := by rcases hr with ⟨e, _⟩ | ⟨_, e, _⟩ | ⟨_, _, e⟩; exact absurd e q; exact absurd e q2; exact e
      subst e
      refine am_iconst (v := 1) fd_X9_in_13 (by decide) ?_
      refine am_goto (tgt := 18) fd_X9_in_14 (by decide) ?_
      refine am_iret (ty := .boolean) fd_X9_in_18 rfl rfl (Nat.le_refl _) (Nat.le_refl _) ⟨?_, rfl, rfl⟩
      rfl
theorem fd_lM {v : Int64} {n : Int32} {post : am_T} (hN : 122 ≤ N) : ∀ (k i : Nat) (h : am_H) (fs : List Value) (f : Nat → Int32), k + i ≤ 8 → h 106 = .inr (9, fs) → fs.length = 28 → fs[17]? = some (.int (nI i)) → fs[16]? = some (.ref 116) → h 116 = .inl (0, 120, .inl f) → (∀ h' : am_H, post (some (.int (nI (k + i)))) N h') → am_A G d m_X9_feed 0 0 post 0 0 36 [(4, .int (nI k - 1)), (0, .ref 106), (1, .int n), (2, .long v)] [] N h := by
  intro k
  induction k with
  | zero =>
    intro i h fs f hk h106 hl hs ht h116 hp
    refine am_iload fd_X9_feed_36 (.head _) ?_
    refine am_if_lt (tgt := 78) fd_X9_feed_38 (by decide) (fun _ => ?_) (fun q => absurd (by decide) q)
    refine am_aload_n fd_X9_feed_78 rfl (.tail _ (.head _)) ?_
    refine am_get (ci := 9) (j := 17) (q := (RX9, TX9, 28)) fd_X9_feed_79 rfl (by decide) (ri_lw_in (pl := 799) (by decide +kernel)) (by omega) h106 hs ?_
    refine am_iret fd_X9_feed_82 rfl rfl (Nat.le_refl _) (Nat.le_refl _) ?_
    have hq := hp h
    rw [Nat.zero_add] at hq
    exact hq
  | succ k ih =>
    intro i h fs f hk h106 hl hs ht h116 hp
    refine am_iload fd_X9_feed_36 (.head _) ?_
    refine am_if_lt (tgt := 78) fd_X9_feed_38 (by decide) (fun q => absurd q (fd_nn k (by omega))) (fun _ => ?_)
    refine am_aload_n fd_X9_feed_41 rfl (.tail _ (.head _)) ?_
    refine am_get (ci := 9) (j := 16) (q := (RX9, TX9, 28)) fd_X9_feed_42 rfl (by decide) (ri_lw_in (pl := 798) (by decide +kernel)) (by omega) h106 ht ?_
    refine am_aload_n fd_X9_feed_45 rfl (.tail _ (.head _)) ?_
    refine am_get (ci := 9) (j := 17) (q := (RX9, TX9, 28)) fd_X9_feed_46 rfl (by decide) (ri_lw_in (pl := 799) (by decide +kernel)) (by omega) h106 hs ?_
    refine am_lload_n fd_X9_feed_49 rfl (.tail _ (.tail _ (.tail _ (.head _)))) ?_
    refine am_bipush (v := 8) fd_X9_feed_50 (by decide) ?_
    refine am_iload fd_X9_feed_52 (.head _) ?_
    refine am_imul fd_X9_feed_54 ?_
    refine am_lshr fd_X9_feed_55 ?_
    refine am_ldc2 (v := 255) fd_X9_feed_56 (ri_lw_in (pl := 992) (by decide +kernel)) ?_
    refine am_land fd_X9_feed_59 ?_
    refine am_l2i fd_X9_feed_60 ?_
    refine am_iast fd_X9_feed_61 (by omega) h116 (fd_vp i (by omega)) ?_
    have g106 : ∀ e, va_up h 116 e 106 = .inr (9, fs) := fun e => (va_up_ne h e (by decide)).trans h106
    refine am_aload_n fd_X9_feed_62 rfl (.tail _ (.head _)) ?_
    refine am_dup fd_X9_feed_63 rfl ?_
    refine am_get (ci := 9) (j := 17) (q := (RX9, TX9, 28)) fd_X9_feed_64 rfl (by decide) (ri_lw_in (pl := 799) (by decide +kernel)) (by omega) (g106 _) hs ?_
    refine am_iconst (v := 1) fd_X9_feed_67 (by decide) ?_
    refine am_iadd fd_X9_feed_68 ?_
    refine am_put (ci := 9) (j := 17) (q := (RX9, TX9, 28)) (ty := .int) fd_X9_feed_69 rfl (by decide) (ri_lw_in (pl := 799) (by decide +kernel)) rfl (tyX9_ok 17 (by decide)) rfl rfl (by omega) (g106 _) (by omega) ?_
    refine am_iinc (lv' := [(4, .int (nI k - 1)), (0, .ref 106), (1, .int n), (2, .long v)]) fd_X9_feed_72 (.head _) (fd_dec k (by omega)) (by decide) rfl ?_
    refine am_goto (tgt := 36) fd_X9_feed_75 (by decide) ?_
    refine ih (i + 1) _ (fs.set 17 (.int (nI i + 1))) _ (by omega) (va_up_self _ _ _) ?_ ?_ ?_ ((va_up_ne _ _ (by decide)).trans (va_up_self _ _ _)) ?_
    · rw [List.length_set]; exact hl
    · rw [List.getElem?_set_self (by omega), nI_succ]
    · rw [List.getElem?_set_ne (by decide)]; exact ht
    · intro h3
      have hq := hp h3
      have e : k + 1 + i = k + (i + 1) := by omega
      rw [e] at hq
      exact hq
theorem fd_M {v : Int64} {n : Int32} {fs : List Value} {f : Nat → Int32} (hN : 122 ≤ N) (h106 : h 106 = .inr (9, fs)) (hl : fs.length = 28) (hs : fs[17]? = some (.int 0)) (ht : fs[16]? = some (.ref 116)) (h116 : h 116 = .inl (0, 120, .inl f)) : am_C G (d + 1) m_X9_feed 0 0 [.ref 106, .int n, .long v] N h (fun r N' h' => some (.int (fd_r n)) = r ∧ N = N') := by
  refine am_ofA fd_ok151 (Nat.le_of_ble_eq_true rfl) ?_
  show am_A G (d + 1) m_X9_feed 0 0 _ 0 0 0 [(0, .ref 106), (1, .int n), (2, .long v)] [] N h
  have t1 : (n.toInt64 < 1) ↔ n < 1 := by rw [Int64.lt_iff_toInt_lt, Int32.lt_iff_toInt_lt, Int32.toInt_toInt64]; exact Iff.rfl
  have t8 : (8 < n.toInt64) ↔ 8 < n := by rw [Int64.lt_iff_toInt_lt, Int32.lt_iff_toInt_lt, Int32.toInt_toInt64]; exact Iff.rfl
  refine am_iload_n fd_X9_feed_0 rfl (.tail _ (.head _)) ?_
  refine am_i2l fd_X9_feed_1 ?_
  refine am_lconst (v := 1) fd_X9_feed_2 (by decide) ?_
  refine am_ldc2 (v := 8) fd_X9_feed_3 (ri_lw_in (pl := 991) (by decide +kernel)) ?_
  have hr : ∃ r : Int32, ((n.toInt64 < 1 ∧ r = 0) ∨ (¬ n.toInt64 < 1 ∧ 8 < n.toInt64 ∧ r = 0) ∨ (¬ n.toInt64 < 1 ∧ ¬ 8 < n.toInt64 ∧ r = 1)) := by
    by_cases q1 : n.toInt64 < 1
    · exact ⟨0, .inl ⟨q1, rfl⟩⟩
    · by_cases q8 : 8 < n.toInt64
      · exact ⟨0, .inr (.inl ⟨q1, q8, rfl⟩)⟩
      · exact ⟨1, .inr (.inr ⟨q1, q8, rfl⟩)⟩
  obtain ⟨r, hr⟩ := hr
  refine am_callS (y2 := m_X9_in) (n2 := 3) (d2 := d) (mc2 := 0) (ms2 := 0) (as := [.long n.toInt64, .long 1, .long 8]) (rest := []) fd_X9_feed_6 fd_ok110 (ri_lw_in (pl := 873) (by decide +kernel)) ((ri_all 110).2.1 (by decide +kernel)) rfl rfl (by decide) (Nat.le_refl _) (Nat.le_refl _) (Nat.le_refl _) (fd_in hr) (fun r2 N2 h2 hq => ?_)
  obtain ⟨e1, e2, e3⟩ := hq
  subst e1 e2 e3
  show am_A G (d + 1) m_X9_feed 0 0 _ 0 0 9 [(0, .ref 106), (1, .int n), (2, .long v)] [.int r] N h
  refine am_if_ne (tgt := 16) fd_X9_feed_9 (by decide) (fun q => ?_) (fun q => ?_)
  · have q1 : ¬ n < 1 := by rcases hr with ⟨_, e⟩ | ⟨_, _, e⟩ | ⟨e, _, _⟩; exact absurd e q; exact absurd e q; exact fun w => e (t1.mpr w)
    have q8 : n ≤ 8 := by rcases hr with ⟨_, e⟩ | ⟨_, _, e⟩ | ⟨_, e, _⟩; exact absurd e q; exact absurd e q; exact Int32.not_lt.mp (fun w => e (t8.mpr w))
    obtain ⟨k, hk, hk1, rfl⟩ := fd_k q1 q8
    refine am_aload_n fd_X9_feed_16 rfl (.head _) ?_
    refine am_get (ci := 9) (j := 17) (q := (RX9, TX9, 28)) fd_X9_feed_17 rfl (by decide) (ri_lw_in (pl := 799) (by decide +kernel)) (by omega) h106 hs ?_
    refine am_iload_n fd_X9_feed_20 rfl (.tail _ (.head _)) ?_
    refine am_iadd fd_X9_feed_21 ?_
    refine am_bipush (v := 120) fd_X9_feed_22 (by decide) ?_
    refine am_icmp_le (tgt := 31) fd_X9_feed_24 (by decide) (fun _ => ?_) (fun q9 => absurd (fd_sum k hk) q9)
    refine am_iload_n fd_X9_feed_31 rfl (.tail _ (.head _)) ?_
    refine am_iconst (v := 1) fd_X9_feed_32 (by decide) ?_
    refine am_isub fd_X9_feed_33 ?_
    refine am_istore (lv' := [(4, .int (nI k - 1)), (0, .ref 106), (1, .int (nI k)), (2, .long v)]) fd_X9_feed_34 (by decide) rfl ?_
    refine fd_lM hN k 0 h fs f (by omega) h106 hl hs ht h116 (fun h3 => ⟨?_, rfl⟩)
    rw [fd_r_in k hk hk1]; rfl
  · have q1 : n < 1 ∨ 8 < n := by rcases hr with ⟨w, _⟩ | ⟨_, w, _⟩ | ⟨_, _, e⟩; exact .inl (t1.mp w); exact .inr (t8.mp w); rw [e] at q; exact absurd q (by decide)
    refine am_sipush (v := (-1002)) fd_X9_feed_12 (by decide) ?_
    refine am_iret fd_X9_feed_15 rfl rfl (Nat.le_refl _) (Nat.le_refl _) ⟨?_, rfl⟩
    rw [fd_r, if_pos q1]
end
end
