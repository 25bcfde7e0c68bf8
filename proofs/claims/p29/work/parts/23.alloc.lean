section
variable {G : am_G} {d : Nat} {y : am_M} {mc ms : Nat} {post : am_T} {k n pc N : Nat} {lv lv' : List (Nat × Value)} {st : List Value} {h : am_H}
theorem am_df_cv (G : am_G) (ci : Nat) : (am_df ci).map (am_cv G) = am_df ci := by
  unfold am_df
  split <;> rfl
theorem am_df_ok {ci : Nat} {q : vw_C} (hc : am_cl[ci]? = some q) : ∀ j, j < q.2.2 → (parseFieldDescriptor (q.2.1 j).2.2.1).map defaultValue = some (vp_V (am_df ci) j) := by
  match ci, hc with
  | 0, hc => cases hc; decide +kernel
  | 1, hc => cases hc; decide +kernel
  | 2, hc => cases hc; decide +kernel
  | 3, hc => cases hc; decide +kernel
  | 4, hc => cases hc; decide +kernel
  | 5, hc => cases hc; decide +kernel
  | 6, hc => cases hc; decide +kernel
  | 7, hc => cases hc; decide +kernel
  | 8, hc => cases hc; decide +kernel
  | 9, hc => cases hc; decide +kernel
  | ci + 10, hc => simp at hc
theorem am_new {ci idx : Nat} {q : vw_C} (hd : decode y.2.1 pc = .ok (.new idx, 3)) (hc : am_cl[ci]? = some q) (hlk : Cond.classLink y.1.cls idx q.1 ∈ am_tbl) (hin : Cond.instantiable q.1 q.2.2 ∈ am_tbl) (hini : Cond.initialized q.1 ∈ am_tbl) (hk : k + 1 ≤ mc) (hn : n + q.2.2 ≤ ms) (kk : am_A G d y mc ms post (k + 1) (n + q.2.2) (pc + 3) lv (.ref N :: st) (N + 1) (va_up h N (.inr (ci, am_df ci)))) : am_A G d y mc ms post (k) (n) (pc) lv (st) (N) (h) := by
  intro p e s m args below meth c H locs ls X hW hlo hl
  have hx := X.1
  have hb := X.2.1
  have hown := X.2.2.2.2.1
  have hts := X.2.2.2.2.2.1
  have hK := X.2.2.2.2.2.2.2.2
  obtain ⟨C, T, M⟩ := q
  obtain ⟨hin0, ⟨ty, hty⟩, -⟩ := am_cls hc
  have hKn := hK.1.1 ci _ hc
  refine W.newcK hx hb hown (hts _ hlk) (hts _ hin) (hts _ hini) rfl hd hk hn hKn.2.1 hW.1 fun H1 kC hkC e1 z1 o1 => ?_
  refine kk p e s m args below meth c H1 locs ls X (am_W_push hW ?_ (by rw [z1, hW.1]) (fun q hq => o1 q (by rw [← hW.1]; exact hq))) hlo hl
  refine ⟨_, hc, (u_born ty hts hin0 hKn hkC e1 hty).to (fun j hj => ?_)⟩
  show _ = vp_V ((am_df ci).map (am_cv G)) j
  rw [am_df_cv]
  have h2 := am_df_ok hc j hj
  rw [hty j hj] at h2
  exact Option.some.inj h2
theorem am_newi {x : Int32} {z : Nat} (hd : decode y.2.1 pc = .ok (.newarray .int, 2)) (harr : Cond.arrayClass .int ∈ am_tbl) (hx0 : ¬ x < 0) (hz : x.toNatClampNeg = z) (hby : z * 8 ≤ 536870912) (hk : k + 1 ≤ mc) (hn : n + z ≤ ms) (kk : am_A G d y mc ms post (k + 1) (n + z) (pc + 2) lv (.ref N :: st) (N + 1) (va_up h N (.inl (0, z, .inl (fun _ => 0))))) : am_A G d y mc ms post (k) (n) (pc) lv (.int x :: st) (N) (h) := by
  intro p e s m args below meth c H locs ls X hW hlo hl
  have hx := X.1
  have hb := X.2.1
  have hown := X.2.2.2.2.1
  have hts := X.2.2.2.2.2.1
  have hK := X.2.2.2.2.2.2.2.2
  refine va_newaK (atype := .int) hx hb (hts _ harr) rfl hd rfl hx0 hz (Nat.le_trans (Nat.mul_le_mul_left z (show componentBytes .int ≤ 8 by decide)) hby) hk hn hW.1 fun H1 cA e1 z1 o1 hAr hNm => ?_
  have hcA : cA = am_aC G 0 := Option.some.inj (hNm.symm.trans (show s.vm.findClass ("[" ++ (newarray.typeOf .int).toString) = some (am_aC G 0) from (hK.1.2 0 (am_aC G 0, .int) rfl).2))
  subst hcA
  refine kk p e s m args below meth c H1 locs ls X (am_W_push hW ?_ (by rw [z1, hW.1]) (fun q hq => o1 q (by rw [← hW.1]; exact hq))) hlo hl
  exact e1
theorem am_newl {x : Int32} {z : Nat} (hd : decode y.2.1 pc = .ok (.newarray .long, 2)) (harr : Cond.arrayClass .long ∈ am_tbl) (hx0 : ¬ x < 0) (hz : x.toNatClampNeg = z) (hby : z * 8 ≤ 536870912) (hk : k + 1 ≤ mc) (hn : n + z ≤ ms) (kk : am_A G d y mc ms post (k + 1) (n + z) (pc + 2) lv (.ref N :: st) (N + 1) (va_up h N (.inl (1, z, .inr (.inl (fun _ => 0)))))) : am_A G d y mc ms post (k) (n) (pc) lv (.int x :: st) (N) (h) := by
  intro p e s m args below meth c H locs ls X hW hlo hl
  have hx := X.1
  have hb := X.2.1
  have hown := X.2.2.2.2.1
  have hts := X.2.2.2.2.2.1
  have hK := X.2.2.2.2.2.2.2.2
  refine va_newaK (atype := .long) hx hb (hts _ harr) rfl hd rfl hx0 hz (Nat.le_trans (Nat.mul_le_mul_left z (show componentBytes .long ≤ 8 by decide)) hby) hk hn hW.1 fun H1 cA e1 z1 o1 hAr hNm => ?_
  have hcA : cA = am_aC G 1 := Option.some.inj (hNm.symm.trans (show s.vm.findClass ("[" ++ (newarray.typeOf .long).toString) = some (am_aC G 1) from (hK.1.2 1 (am_aC G 1, .long) rfl).2))
  subst hcA
  refine kk p e s m args below meth c H1 locs ls X (am_W_push hW ?_ (by rw [z1, hW.1]) (fun q hq => o1 q (by rw [← hW.1]; exact hq))) hlo hl
  exact e1
theorem am_AOt {G : am_G} {s : State} (hK : am_K G s) {t : Nat} {C : String} (ht : (am_tys (am_aC G))[t]? = some (am_aC G t, .object C)) : va_AO C s := by
  match t, ht with
  | 0, ht => simp [am_tys] at ht
  | 1, ht => simp [am_tys] at ht
  | 2, ht => simp [am_tys] at ht; rw [← ht]; exact hK.2.2.1
  | 3, ht => simp [am_tys] at ht; rw [← ht]; exact hK.2.2.2.1
  | 4, ht => simp [am_tys] at ht; rw [← ht]; exact hK.2.2.2.2
  | t + 5, ht => simp [am_tys] at ht
theorem am_newq {x : Int32} {z t idx : Nat} {C : String} (hd : decode y.2.1 pc = .ok (.anewarray idx, 3)) (ht : (am_tys (am_aC G))[t]? = some (am_aC G t, .object C)) (hlk : Cond.classLink y.1.cls idx C ∈ am_tbl) (hx0 : ¬ x < 0) (hz : x.toNatClampNeg = z) (hby : z * 4 ≤ 536870912) (hk : k + 1 ≤ mc) (hn : n + z ≤ ms) (kk : am_A G d y mc ms post (k + 1) (n + z) (pc + 3) lv (.ref N :: st) (N + 1) (va_up h N (.inl (t, z, .inr (.inr (.inr (.inr (fun _ => none)))))))) : am_A G d y mc ms post (k) (n) (pc) lv (.int x :: st) (N) (h) := by
  intro p e s m args below meth c H locs ls X hW hlo hl
  have hx := X.1
  have hb := X.2.1
  have hown := X.2.2.2.2.1
  have hts := X.2.2.2.2.2.1
  have hK := X.2.2.2.2.2.2.2.2
  subst hz
  refine W.anew hx hb hown (hts _ hlk) (va_AO.use (am_AOt hK ht)) rfl hd rfl hx0 hby hk hn fun cA kA comp f1 f2 f3 f4 => ?_
  obtain ⟨kA2, comp2, g1, g2, g3, g4⟩ := (hK.1.2 t _ ht).2
  have hcA : cA = am_aC G t := Option.some.inj (f1.symm.trans g4)
  subst hcA
  have hsz : H.size = am_B G + N := hW.1
  have hk2 := kk p e s m args below meth c (H.push ({ cls := am_aC G t, slots := Array.replicate x.toNatClampNeg .null, vm := .none } : Cell)) locs ls X (am_W_push hW (by
    have h9 : (H.push ({ cls := am_aC G t, slots := Array.replicate x.toNatClampNeg .null, vm := .none } : Cell))[am_B G + N]? = some (arrV (am_aC G t) x.toNatClampNeg (fun _ => .null)) := by rw [← hsz, Array.getElem?_push_size, ← arrV_new]
    exact h9) (by rw [Array.size_push]) (fun q hq => by rw [Array.getElem?_push, if_neg (Nat.ne_of_lt hq)])) hlo hl
  rw [hsz]
  exact hk2
theorem am_gets {idx : Nat} (hd : decode y.2.1 pc = .ok (.getstatic idx, 3)) (hlk : Cond.fieldLink y.1.cls idx RX1 "PLACES" "[I" ∈ am_tbl) (kk : am_A G d y mc ms post (k) (n) (pc + 3) lv (.float 4294967295 :: st) (N) (h)) : am_A G d y mc ms post (k) (n) (pc) lv (st) (N) (h) := by
  intro p e s m args below meth c H locs ls X hW hlo hl
  have hx := X.1
  have hb := X.2.1
  have hown := X.2.2.2.2.1
  have hts := X.2.2.2.2.2.1
  have hK := X.2.2.2.2.2.2.2.2
  obtain ⟨cf, kf, fi, f, a, cell, h1, h2, h3, h4, h5, h6, h7, h8⟩ := hK.2.1.1
  have ha : a < am_B G := Nat.lt_of_not_le h8
  exact W.gets hx hb hown (hts _ hlk) h1 h2 h3 h4 (by rw [hW.2.1 a ha]; exact h5) (fun e => by rw [e] at h6; cases h6) h7 rfl hd (kk p e s m args below meth c H locs ls X hW hlo hl)
theorem am_plald {i : Int32} (hd : decode y.2.1 pc = .ok (.iaload, 1)) (hi : vp_in i 13) (kk : am_A G d y mc ms post (k) (n) (pc + 1) lv (.int (am_PL i.toNatClampNeg) :: st) (N) (h)) : am_A G d y mc ms post (k) (n) (pc) lv (.int i :: .float 4294967295 :: st) (N) (h) := by
  intro p e s m args below meth c H locs ls X hW hlo hl
  have hx := X.1
  have hb := X.2.1
  have hown := X.2.2.2.2.1
  have hts := X.2.2.2.2.2.1
  have hK := X.2.2.2.2.2.2.2.2
  obtain ⟨cell, h1, h2, h3, h4, h5, h6, h7⟩ := hK.2.1.2.1
  have hlt : i.toNatClampNeg < 13 := Nat.not_le.mp fun q => hi (Or.inr q)
  have hin' : ¬ (i < 0 ∨ cell.slots.size ≤ i.toNatClampNeg) := by
    intro q
    rcases q with q | q
    · exact hi (Or.inl q)
    · omega
  exact W.iald (v := .int (am_PL i.toNatClampNeg)) hx hb (by rw [hW.2.1 _ hK.2.1.2.2.1]; exact h1) h2 h3 hin' (h6 _ hlt) rfl rfl hd (kk p e s m args below meth c H locs ls X hW hlo hl)
theorem am_plen (hd : decode y.2.1 pc = .ok (.arraylength, 1)) (kk : am_A G d y mc ms post (k) (n) (pc + 1) lv (.int 13 :: st) (N) (h)) : am_A G d y mc ms post (k) (n) (pc) lv (.float 4294967295 :: st) (N) (h) := by
  intro p e s m args below meth c H locs ls X hW hlo hl
  have hx := X.1
  have hb := X.2.1
  have hown := X.2.2.2.2.1
  have hts := X.2.2.2.2.2.1
  have hK := X.2.2.2.2.2.2.2.2
  obtain ⟨cell, h1, h2, h3, h4, h5, h6, h7⟩ := hK.2.1.2.1
  exact W.alen (n := 13) hx hb (by rw [hW.2.1 _ hK.2.1.2.2.1]; exact h1) h2 h5 rfl rfl hd (kk p e s m args below meth c H locs ls X hW hlo hl)
theorem am_copy {a b z1 z2 idx : Nat} {f g : Nat → Int32} {sp dp x : Int32} (hd : decode y.2.1 pc = .ok (.invokestatic idx, 3)) (hlk : Cond.methodLink y.1.cls idx arraycopyName ∈ am_tbl) (hnat : Cond.native arraycopyName ∈ am_tbl) (hstat : Cond.static arraycopyName ∈ am_tbl) (hini : Cond.initialized "java/lang/System" ∈ am_tbl) (ha : a < N) (hr : h a = .inl (0, z1, .inl f)) (hbN : b < N) (hrb : h b = .inl (0, z2, .inl g)) (h1 : ¬ sp < 0) (h2 : ¬ dp < 0) (h3 : ¬ x < 0) (h4 : sp.toNatClampNeg + x.toNatClampNeg ≤ z1) (h5 : dp.toNatClampNeg + x.toNatClampNeg ≤ z2) (hdd : 1 ≤ d) (hrest : (st.map fun v => v.category).sum ≤ 20) (kk : am_A G d y mc ms post (k) (n) (pc + 3) lv (st) (N) (va_up h b (.inl (0, z2, .inl (va_cpy f g sp.toNatClampNeg dp.toNatClampNeg x.toNatClampNeg))))) : am_A G d y mc ms post (k) (n) (pc) lv (.int x :: .int dp :: .ref b :: .int sp :: .ref a :: st) (N) (h) := by
  intro p e s m args below meth c H locs ls X hW hlo hl
  have hx := X.1
  have hb := X.2.1
  have hown := X.2.2.2.2.1
  have hts := X.2.2.2.2.2.1
  have hK := X.2.2.2.2.2.2.2.2
  have nn : ∀ z : Int32, ¬ z < 0 → z.toInt = (z.toNatClampNeg : Int) := by
    intro z hz
    have hz0 : (0 : Int) ≤ z.toInt := by
      have := Int32.not_lt.mp hz
      simpa using Int32.le_iff_toInt_le.mp this
    show z.toInt = ((z.toInt.toNat : Nat) : Int)
    omega
  intro T hT Xs
  have hc0 : H[am_B G + a]? = some (vp_cell (am_aC G 0) (z1, .inl f)) := hW.2.2 a _ (am_wsl ha hr)
  have hc1 : H[am_B G + b]? = some (vp_cell (am_aC G 0) (z2, .inl g)) := hW.2.2 b _ (am_wsl hbN hrb)
  obtain ⟨-, k0, hk0, cm0, hkk0⟩ := (hK.1.2 0 _ rfl).1 z1 (fun j => .int (f j))
  obtain ⟨-, k1, hk1, cm1, hkk1⟩ := (hK.1.2 0 _ rfl).1 z2 (fun j => .int (g j))
  obtain ⟨vm', X', step⟩ := Xs.arraycopy hx hown (hts _ hlk) (hts _ hnat) (hts _ hstat) (hts _ hini) (src := am_B G + a) (dst := am_B G + b) (cs := vp_cell (am_aC G 0) (z1, .inl f)) (cd := vp_cell (am_aC G 0) (z2, .inl g)) (srcPos := sp) (destPos := dp) (n := x) (by rw [hT]; exact hc0) (by rw [hT]; exact hc1)
    (fun _ h => by cases h) (fun _ h => by cases h) (fun h => by cases h) (fun h => by cases h) hk0 hk1 hkk0 hkk1 (by simp [refKind]) h1 h2 h3
    (by rw [nn sp h1, nn x h3]; show ¬ _ > ((arrV (am_aC G 0) z1 (fun j => .int (f j))).slots.size : Int); rw [arrV_size]; omega)
    (by rw [nn dp h2, nn x h3]; show ¬ _ > ((arrV (am_aC G 0) z2 (fun j => .int (g j))).slots.size : Int); rw [arrV_size]; omega)
    (fun vm₁ _ i hi => by
      have e : (vp_cell (am_aC G 0) (z1, .inl f)).slots.getD (sp.toNatClampNeg + i) .null = .int (f (sp.toNatClampNeg + i)) := by
        show (arrV (am_aC G 0) z1 (fun j => .int (f j))).slots.getD _ _ = _
        rw [Array.getD_eq_getD_getElem?, arrV_read _ _ (by omega)]
        rfl
      refine ⟨?_, ?_⟩
      · rw [e]; rfl
      · rw [e]
        exact trivial)
    (g := F0 m pc ls (.int x :: .int dp :: .ref (am_B G + b) :: .int sp :: .ref (am_B G + a) :: st.map (am_cv G))) rfl (by rw [X.2.2.2.1]; exact hl.1) (rest := st.map (am_cv G)) rfl (by rw [hb]; exact hd) hdd (by
      show 2 * 0 + _ + _ ≤ 100 * d
      rw [List.map_map, show ((fun v => v.category) ∘ am_cv G) = (fun v : Value => v.category) from funext (am_cat G)]
      have hw : nativeFrameWords "java/lang/System" "arraycopy" 5 + 11 ≤ 70 := by decide
      omega)
  have e1 : copied (vp_cell (am_aC G 0) (z1, .inl f)) (vp_cell (am_aC G 0) (z2, .inl g)) sp dp x = vp_cell (am_aC G 0) (z2, .inl (va_cpy f g sp.toNatClampNeg dp.toNatClampNeg x.toNatClampNeg)) := va_copied (fun z => .int z) (am_aC G 0) (am_aC G 0) f g h4
  rw [e1] at X' step
  have hlb : am_B G + b < H.size := (Array.getElem?_eq_some_iff.mp hc1).1
  have hheap : ((T.setVm vm').setCell (am_B G + b) (vp_cell (am_aC G 0) (z2, .inl (va_cpy f g sp.toNatClampNeg dp.toNatClampNeg x.toNatClampNeg)))).heap = H.setIfInBounds (am_B G + b) (vp_cell (am_aC G 0) (z2, .inl (va_cpy f g sp.toNatClampNeg dp.toNatClampNeg x.toNatClampNeg))) := by rw [← hT]; rfl
  have oq : ∀ q : Nat, q ≠ am_B G + b → (H.setIfInBounds (am_B G + b) (vp_cell (am_aC G 0) (z2, .inl (va_cpy f g sp.toNatClampNeg dp.toNatClampNeg x.toNatClampNeg))))[q]? = H[q]? := fun q hq => by simp [Array.getElem?_setIfInBounds, Ne.symm hq]
  obtain ⟨t, a1, b1⟩ := kk p e s m args below meth c _ _ ls X (am_W_set hW (show (H.setIfInBounds (am_B G + b) _)[am_B G + b]? = some _ by simp [Array.getElem?_setIfInBounds, hlb]; rfl) (by simp) oq) (fun q hq => by
      rcases List.mem_append.mp hq with h | h
      · exact hlo q h
      · obtain ⟨z, -, hz⟩ := List.mem_map.mp h
        rw [← hz]
        exact Nat.le_add_right _ _) hl _ hheap X'
  exact ⟨t, step t a1, b1⟩
end
