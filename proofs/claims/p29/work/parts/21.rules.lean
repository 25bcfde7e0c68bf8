section
variable {G : am_G} {d : Nat} {y : am_M} {mc ms : Nat} {post : am_T} {k n pc N : Nat} {lv lv' : List (Nat × Value)} {st : List Value} {h : am_H}
theorem am_ld (G : am_G) {ls : Array Slot} {nL : Nat} {lv : List (Nat × Value)} (hl : lv_has ls nL (am_lv G lv)) {i : Nat} {v : Value} (hv : (i, v) ∈ lv) : ls[i]? = some (.val (am_cv G v)) := hl.2.2 (i, am_cv G v) (List.mem_map.mpr ⟨(i, v), hv, rfl⟩)
def am_f1 (i : Nat) (q : Nat × Value) : Bool := !(q.1 == i) && !(q.1 + 1 == i && q.2.category == 2)
def am_f2 (i : Nat) (q : Nat × Value) : Bool := !(q.1 == i) && (!(q.1 == i + 1) && !(q.1 + 1 == i && q.2.category == 2))
theorem am_flt1 (G : am_G) (i : Nat) (v : Value) (lv : List (Nat × Value)) : (i, am_cv G v) :: (am_lv G lv).filter (fun q => !(q.1 == i) && !(q.1 + 1 == i && q.2.category == 2)) = am_lv G ((i, v) :: lv.filter (am_f1 i)) := by
  simp only [am_lv, List.filter_map, List.map_cons]
  congr 3
  funext q
  simp [Function.comp, am_cat, am_f1]
theorem am_flt2 (G : am_G) (i : Nat) (v : Value) (lv : List (Nat × Value)) : (i, am_cv G v) :: (am_lv G lv).filter (fun q => !(q.1 == i) && (!(q.1 == i + 1) && !(q.1 + 1 == i && q.2.category == 2))) = am_lv G ((i, v) :: lv.filter (am_f2 i)) := by
  simp only [am_lv, List.filter_map, List.map_cons]
  congr 3
  funext q
  simp [Function.comp, am_cat, am_f2]
theorem am_iconst {i : Int} {v : Int32} (hd : decode y.2.1 pc = .ok (.iconst i, 1)) (hv : Int32.ofInt i = v) (kk : am_A G d y mc ms post k n (pc + 1) lv (.int v :: st) N h) : am_A G d y mc ms post k n (pc) lv (st) N h := by
  intro p e s m args below meth c H locs ls X hW hlo hl
  exact lv_iconst X.1 X.2.1 hd hv (kk p e s m args below meth c H locs ls X hW hlo hl)
theorem am_bipush {i : Int} {v : Int32} (hd : decode y.2.1 pc = .ok (.bipush i, 2)) (hv : (Int8.ofInt i).toInt32 = v) (kk : am_A G d y mc ms post k n (pc + 2) lv (.int v :: st) N h) : am_A G d y mc ms post k n (pc) lv (st) N h := by
  intro p e s m args below meth c H locs ls X hW hlo hl
  exact lv_bipush X.1 X.2.1 hd hv (kk p e s m args below meth c H locs ls X hW hlo hl)
theorem am_sipush {i : Int} {v : Int32} (hd : decode y.2.1 pc = .ok (.sipush i, 3)) (hv : (Int16.ofInt i).toInt32 = v) (kk : am_A G d y mc ms post k n (pc + 3) lv (.int v :: st) N h) : am_A G d y mc ms post k n (pc) lv (st) N h := by
  intro p e s m args below meth c H locs ls X hW hlo hl
  exact lv_sipush X.1 X.2.1 hd hv (kk p e s m args below meth c H locs ls X hW hlo hl)
theorem am_lconst {i : Fin 2} {v : Int64} (hd : decode y.2.1 pc = .ok (.lconst i, 1)) (hv : Int64.ofNat (i : Nat) = v) (kk : am_A G d y mc ms post k n (pc + 1) lv (.long v :: st) N h) : am_A G d y mc ms post k n (pc) lv (st) N h := by
  intro p e s m args below meth c H locs ls X hW hlo hl
  exact lv_lconst X.1 X.2.1 hd hv (kk p e s m args below meth c H locs ls X hW hlo hl)
theorem am_iload_n {j : Fin 4} {i : Nat} {x : Int32} (hd : decode y.2.1 pc = .ok (.iload_n j, 1)) (hi : (j : Nat) = i) (hv : (i, Value.int x) ∈ lv) (kk : am_A G d y mc ms post k n (pc + 1) lv (.int x :: st) N h) : am_A G d y mc ms post k n (pc) lv (st) N h := by
  intro p e s m args below meth c H locs ls X hW hlo hl
  exact lv_iload_n X.1 X.2.1 hd hi (am_ld G hl hv) (kk p e s m args below meth c H locs ls X hW hlo hl)
theorem am_iload {i : Nat} {x : Int32} (hd : decode y.2.1 pc = .ok (.iload i, 2)) (hv : (i, Value.int x) ∈ lv) (kk : am_A G d y mc ms post k n (pc + 2) lv (.int x :: st) N h) : am_A G d y mc ms post k n (pc) lv (st) N h := by
  intro p e s m args below meth c H locs ls X hW hlo hl
  exact lv_iload X.1 X.2.1 hd (am_ld G hl hv) (kk p e s m args below meth c H locs ls X hW hlo hl)
theorem am_lload_n {j : Fin 4} {i : Nat} {x : Int64} (hd : decode y.2.1 pc = .ok (.lload_n j, 1)) (hi : (j : Nat) = i) (hv : (i, Value.long x) ∈ lv) (kk : am_A G d y mc ms post k n (pc + 1) lv (.long x :: st) N h) : am_A G d y mc ms post k n (pc) lv (st) N h := by
  intro p e s m args below meth c H locs ls X hW hlo hl
  exact lv_lload_n X.1 X.2.1 hd hi (am_ld G hl hv) (kk p e s m args below meth c H locs ls X hW hlo hl)
theorem am_lload {i : Nat} {x : Int64} (hd : decode y.2.1 pc = .ok (.lload i, 2)) (hv : (i, Value.long x) ∈ lv) (kk : am_A G d y mc ms post k n (pc + 2) lv (.long x :: st) N h) : am_A G d y mc ms post k n (pc) lv (st) N h := by
  intro p e s m args below meth c H locs ls X hW hlo hl
  exact lv_lload X.1 X.2.1 hd (am_ld G hl hv) (kk p e s m args below meth c H locs ls X hW hlo hl)
theorem am_aload_n {j : Fin 4} {i : Nat} {x : Nat} (hd : decode y.2.1 pc = .ok (.aload_n j, 1)) (hi : (j : Nat) = i) (hv : (i, Value.ref x) ∈ lv) (kk : am_A G d y mc ms post k n (pc + 1) lv (.ref x :: st) N h) : am_A G d y mc ms post k n (pc) lv (st) N h := by
  intro p e s m args below meth c H locs ls X hW hlo hl
  exact lv_aload_n X.1 X.2.1 hd hi (am_ld G hl hv) (kk p e s m args below meth c H locs ls X hW hlo hl)
theorem am_aload {i : Nat} {x : Nat} (hd : decode y.2.1 pc = .ok (.aload i, 2)) (hv : (i, Value.ref x) ∈ lv) (kk : am_A G d y mc ms post k n (pc + 2) lv (.ref x :: st) N h) : am_A G d y mc ms post k n (pc) lv (st) N h := by
  intro p e s m args below meth c H locs ls X hW hlo hl
  exact lv_aload X.1 X.2.1 hd (am_ld G hl hv) (kk p e s m args below meth c H locs ls X hW hlo hl)
theorem am_istore_n {j : Fin 4} {i : Nat} {x : Int32} (hd : decode y.2.1 pc = .ok (.istore_n j, 1)) (hi : (j : Nat) = i) (hn : i < y.2.2.1) (hlv : (i, Value.int x) :: lv.filter (am_f1 i) = lv') (kk : am_A G d y mc ms post k n (pc + 1) lv' (st) N h) : am_A G d y mc ms post k n (pc) lv (.int x :: st) N h := by
  intro p e s m args below meth c H locs ls X hW hlo hl
  subst hlv
  exact lv_istore_n X.1 X.2.1 hd hi hl hn (am_flt1 G i (.int x) lv) (fun ls' hl' => kk p e s m args below meth c H locs ls' X hW hlo hl')
theorem am_istore {i : Nat} {x : Int32} (hd : decode y.2.1 pc = .ok (.istore i, 2)) (hn : i < y.2.2.1) (hlv : (i, Value.int x) :: lv.filter (am_f1 i) = lv') (kk : am_A G d y mc ms post k n (pc + 2) lv' (st) N h) : am_A G d y mc ms post k n (pc) lv (.int x :: st) N h := by
  intro p e s m args below meth c H locs ls X hW hlo hl
  subst hlv
  exact lv_istore X.1 X.2.1 hd hl hn (am_flt1 G i (.int x) lv) (fun ls' hl' => kk p e s m args below meth c H locs ls' X hW hlo hl')
theorem am_lstore_n {j : Fin 4} {i : Nat} {x : Int64} (hd : decode y.2.1 pc = .ok (.lstore_n j, 1)) (hi : (j : Nat) = i) (hn : i + 1 < y.2.2.1) (hlv : (i, Value.long x) :: lv.filter (am_f2 i) = lv') (kk : am_A G d y mc ms post k n (pc + 1) lv' (st) N h) : am_A G d y mc ms post k n (pc) lv (.long x :: st) N h := by
  intro p e s m args below meth c H locs ls X hW hlo hl
  subst hlv
  exact lv_lstore_n X.1 X.2.1 hd hi hl hn (am_flt2 G i (.long x) lv) (fun ls' hl' => kk p e s m args below meth c H locs ls' X hW hlo hl')
theorem am_lstore {i : Nat} {x : Int64} (hd : decode y.2.1 pc = .ok (.lstore i, 2)) (hn : i + 1 < y.2.2.1) (hlv : (i, Value.long x) :: lv.filter (am_f2 i) = lv') (kk : am_A G d y mc ms post k n (pc + 2) lv' (st) N h) : am_A G d y mc ms post k n (pc) lv (.long x :: st) N h := by
  intro p e s m args below meth c H locs ls X hW hlo hl
  subst hlv
  exact lv_lstore X.1 X.2.1 hd hl hn (am_flt2 G i (.long x) lv) (fun ls' hl' => kk p e s m args below meth c H locs ls' X hW hlo hl')
theorem am_astore_n {j : Fin 4} {i : Nat} {x : Nat} (hd : decode y.2.1 pc = .ok (.astore_n j, 1)) (hi : (j : Nat) = i) (hn : i < y.2.2.1) (hlv : (i, Value.ref x) :: lv.filter (am_f1 i) = lv') (kk : am_A G d y mc ms post k n (pc + 1) lv' (st) N h) : am_A G d y mc ms post k n (pc) lv (.ref x :: st) N h := by
  intro p e s m args below meth c H locs ls X hW hlo hl
  subst hlv
  exact lv_astore_n X.1 X.2.1 hd hi hl hn (am_flt1 G i (.ref x) lv) (fun ls' hl' => kk p e s m args below meth c H locs ls' X hW hlo hl')
theorem am_astore {i : Nat} {x : Nat} (hd : decode y.2.1 pc = .ok (.astore i, 2)) (hn : i < y.2.2.1) (hlv : (i, Value.ref x) :: lv.filter (am_f1 i) = lv') (kk : am_A G d y mc ms post k n (pc + 2) lv' (st) N h) : am_A G d y mc ms post k n (pc) lv (.ref x :: st) N h := by
  intro p e s m args below meth c H locs ls X hW hlo hl
  subst hlv
  exact lv_astore X.1 X.2.1 hd hl hn (am_flt1 G i (.ref x) lv) (fun ls' hl' => kk p e s m args below meth c H locs ls' X hW hlo hl')
theorem am_iinc {i : Nat} {z : Int} {x v : Int32} (hd : decode y.2.1 pc = .ok (.iinc i z, 3)) (hv : (i, Value.int x) ∈ lv) (he : x + Int32.ofInt z = v) (hn : i < y.2.2.1) (hlv : (i, Value.int v) :: lv.filter (am_f1 i) = lv') (kk : am_A G d y mc ms post k n (pc + 3) lv' (st) N h) : am_A G d y mc ms post k n (pc) lv (st) N h := by
  intro p e s m args below meth c H locs ls X hW hlo hl
  subst hlv
  obtain ⟨j, hj⟩ := List.getElem?_of_mem hv
  exact lv_iinc (k := j) X.1 X.2.1 hd hl (by simp [am_lv, hj, am_cv]) he hn (am_flt1 G i (.int v) lv) (fun ls' hl' => kk p e s m args below meth c H locs ls' X hW hlo hl')
theorem am_iadd {x z : Int32} (hd : decode y.2.1 pc = .ok (.iadd, 1))  (kk : am_A G d y mc ms post k n (pc + 1) lv (.int (x + z) :: st) N h) : am_A G d y mc ms post k n (pc) lv (.int z :: .int x :: st) N h := by
  intro p e s m args below meth c H locs ls X hW hlo hl
  exact lv_iadd X.1 X.2.1 hd (kk p e s m args below meth c H locs ls X hW hlo hl)
theorem am_isub {x z : Int32} (hd : decode y.2.1 pc = .ok (.isub, 1))  (kk : am_A G d y mc ms post k n (pc + 1) lv (.int (x - z) :: st) N h) : am_A G d y mc ms post k n (pc) lv (.int z :: .int x :: st) N h := by
  intro p e s m args below meth c H locs ls X hW hlo hl
  exact lv_isub X.1 X.2.1 hd (kk p e s m args below meth c H locs ls X hW hlo hl)
theorem am_imul {x z : Int32} (hd : decode y.2.1 pc = .ok (.imul, 1))  (kk : am_A G d y mc ms post k n (pc + 1) lv (.int (x * z) :: st) N h) : am_A G d y mc ms post k n (pc) lv (.int z :: .int x :: st) N h := by
  intro p e s m args below meth c H locs ls X hW hlo hl
  exact lv_imul X.1 X.2.1 hd (kk p e s m args below meth c H locs ls X hW hlo hl)
theorem am_iand {x z : Int32} (hd : decode y.2.1 pc = .ok (.iand, 1))  (kk : am_A G d y mc ms post k n (pc + 1) lv (.int (x &&& z) :: st) N h) : am_A G d y mc ms post k n (pc) lv (.int z :: .int x :: st) N h := by
  intro p e s m args below meth c H locs ls X hW hlo hl
  exact lv_iand X.1 X.2.1 hd (kk p e s m args below meth c H locs ls X hW hlo hl)
theorem am_ior {x z : Int32} (hd : decode y.2.1 pc = .ok (.ior, 1))  (kk : am_A G d y mc ms post k n (pc + 1) lv (.int (x ||| z) :: st) N h) : am_A G d y mc ms post k n (pc) lv (.int z :: .int x :: st) N h := by
  intro p e s m args below meth c H locs ls X hW hlo hl
  exact lv_ior X.1 X.2.1 hd (kk p e s m args below meth c H locs ls X hW hlo hl)
theorem am_ixor {x z : Int32} (hd : decode y.2.1 pc = .ok (.ixor, 1))  (kk : am_A G d y mc ms post k n (pc + 1) lv (.int (x ^^^ z) :: st) N h) : am_A G d y mc ms post k n (pc) lv (.int z :: .int x :: st) N h := by
  intro p e s m args below meth c H locs ls X hW hlo hl
  exact lv_ixor X.1 X.2.1 hd (kk p e s m args below meth c H locs ls X hW hlo hl)
theorem am_ishl {x z : Int32} (hd : decode y.2.1 pc = .ok (.ishl, 1))  (kk : am_A G d y mc ms post k n (pc + 1) lv (.int (x <<< (z &&& 31)) :: st) N h) : am_A G d y mc ms post k n (pc) lv (.int z :: .int x :: st) N h := by
  intro p e s m args below meth c H locs ls X hW hlo hl
  exact lv_ishl X.1 X.2.1 hd (kk p e s m args below meth c H locs ls X hW hlo hl)
theorem am_ishr {x z : Int32} (hd : decode y.2.1 pc = .ok (.ishr, 1))  (kk : am_A G d y mc ms post k n (pc + 1) lv (.int (x >>> (z &&& 31)) :: st) N h) : am_A G d y mc ms post k n (pc) lv (.int z :: .int x :: st) N h := by
  intro p e s m args below meth c H locs ls X hW hlo hl
  exact lv_ishr X.1 X.2.1 hd (kk p e s m args below meth c H locs ls X hW hlo hl)
theorem am_idiv {x z : Int32} (hd : decode y.2.1 pc = .ok (.idiv, 1)) (hne : ¬ z = 0) (kk : am_A G d y mc ms post k n (pc + 1) lv (.int (x / z) :: st) N h) : am_A G d y mc ms post k n (pc) lv (.int z :: .int x :: st) N h := by
  intro p e s m args below meth c H locs ls X hW hlo hl
  exact lv_idiv X.1 X.2.1 hd hne (kk p e s m args below meth c H locs ls X hW hlo hl)
theorem am_irem {x z : Int32} (hd : decode y.2.1 pc = .ok (.irem, 1)) (hne : ¬ z = 0) (kk : am_A G d y mc ms post k n (pc + 1) lv (.int (x - x / z * z) :: st) N h) : am_A G d y mc ms post k n (pc) lv (.int z :: .int x :: st) N h := by
  intro p e s m args below meth c H locs ls X hW hlo hl
  exact lv_irem X.1 X.2.1 hd hne (kk p e s m args below meth c H locs ls X hW hlo hl)
theorem am_iushr {x z : Int32} (hd : decode y.2.1 pc = .ok (.iushr, 1))  (kk : am_A G d y mc ms post k n (pc + 1) lv (.int ((x.toUInt32 >>> (z.toUInt32 &&& Int32.toUInt32 31)).toInt32) :: st) N h) : am_A G d y mc ms post k n (pc) lv (.int z :: .int x :: st) N h := by
  intro p e s m args below meth c H locs ls X hW hlo hl
  exact lv_iushr X.1 X.2.1 hd rfl (kk p e s m args below meth c H locs ls X hW hlo hl)
theorem am_ineg {x : Int32} (hd : decode y.2.1 pc = .ok (.ineg, 1))  (kk : am_A G d y mc ms post k n (pc + 1) lv (.int (-x) :: st) N h) : am_A G d y mc ms post k n (pc) lv (.int x :: st) N h := by
  intro p e s m args below meth c H locs ls X hW hlo hl
  exact lv_ineg X.1 X.2.1 hd (kk p e s m args below meth c H locs ls X hW hlo hl)
theorem am_ladd {x z : Int64} (hd : decode y.2.1 pc = .ok (.ladd, 1))  (kk : am_A G d y mc ms post k n (pc + 1) lv (.long (x + z) :: st) N h) : am_A G d y mc ms post k n (pc) lv (.long z :: .long x :: st) N h := by
  intro p e s m args below meth c H locs ls X hW hlo hl
  exact lv_ladd X.1 X.2.1 hd (kk p e s m args below meth c H locs ls X hW hlo hl)
theorem am_lsub {x z : Int64} (hd : decode y.2.1 pc = .ok (.lsub, 1))  (kk : am_A G d y mc ms post k n (pc + 1) lv (.long (x - z) :: st) N h) : am_A G d y mc ms post k n (pc) lv (.long z :: .long x :: st) N h := by
  intro p e s m args below meth c H locs ls X hW hlo hl
  exact lv_lsub X.1 X.2.1 hd (kk p e s m args below meth c H locs ls X hW hlo hl)
theorem am_lmul {x z : Int64} (hd : decode y.2.1 pc = .ok (.lmul, 1))  (kk : am_A G d y mc ms post k n (pc + 1) lv (.long (x * z) :: st) N h) : am_A G d y mc ms post k n (pc) lv (.long z :: .long x :: st) N h := by
  intro p e s m args below meth c H locs ls X hW hlo hl
  exact lv_lmul X.1 X.2.1 hd (kk p e s m args below meth c H locs ls X hW hlo hl)
theorem am_land {x z : Int64} (hd : decode y.2.1 pc = .ok (.land, 1))  (kk : am_A G d y mc ms post k n (pc + 1) lv (.long (x &&& z) :: st) N h) : am_A G d y mc ms post k n (pc) lv (.long z :: .long x :: st) N h := by
  intro p e s m args below meth c H locs ls X hW hlo hl
  exact lv_land X.1 X.2.1 hd (kk p e s m args below meth c H locs ls X hW hlo hl)
theorem am_lor {x z : Int64} (hd : decode y.2.1 pc = .ok (.lor, 1))  (kk : am_A G d y mc ms post k n (pc + 1) lv (.long (x ||| z) :: st) N h) : am_A G d y mc ms post k n (pc) lv (.long z :: .long x :: st) N h := by
  intro p e s m args below meth c H locs ls X hW hlo hl
  exact lv_lor X.1 X.2.1 hd (kk p e s m args below meth c H locs ls X hW hlo hl)
theorem am_lshl {x : Int64} {z : Int32} (hd : decode y.2.1 pc = .ok (.lshl, 1))  (kk : am_A G d y mc ms post k n (pc + 1) lv (.long (x <<< (z.toInt64 &&& 63)) :: st) N h) : am_A G d y mc ms post k n (pc) lv (.int z :: .long x :: st) N h := by
  intro p e s m args below meth c H locs ls X hW hlo hl
  exact lv_lshl X.1 X.2.1 hd rfl (kk p e s m args below meth c H locs ls X hW hlo hl)
theorem am_lshr {x : Int64} {z : Int32} (hd : decode y.2.1 pc = .ok (.lshr, 1))  (kk : am_A G d y mc ms post k n (pc + 1) lv (.long (x >>> (z.toInt64 &&& 63)) :: st) N h) : am_A G d y mc ms post k n (pc) lv (.int z :: .long x :: st) N h := by
  intro p e s m args below meth c H locs ls X hW hlo hl
  exact lv_lshr X.1 X.2.1 hd rfl (kk p e s m args below meth c H locs ls X hW hlo hl)
theorem am_i2l {x : Int32} (hd : decode y.2.1 pc = .ok (.i2l, 1))  (kk : am_A G d y mc ms post k n (pc + 1) lv (.long x.toInt64 :: st) N h) : am_A G d y mc ms post k n (pc) lv (.int x :: st) N h := by
  intro p e s m args below meth c H locs ls X hW hlo hl
  exact lv_i2l X.1 X.2.1 hd rfl (kk p e s m args below meth c H locs ls X hW hlo hl)
theorem am_l2i {x : Int64} (hd : decode y.2.1 pc = .ok (.l2i, 1))  (kk : am_A G d y mc ms post k n (pc + 1) lv (.int x.toInt32 :: st) N h) : am_A G d y mc ms post k n (pc) lv (.long x :: st) N h := by
  intro p e s m args below meth c H locs ls X hW hlo hl
  exact lv_l2i X.1 X.2.1 hd rfl (kk p e s m args below meth c H locs ls X hW hlo hl)
theorem am_lcmp {x z : Int64} (hd : decode y.2.1 pc = .ok (.lcmp, 1))  (kk : am_A G d y mc ms post k n (pc + 1) lv (.int (lg_cmp x z) :: st) N h) : am_A G d y mc ms post k n (pc) lv (.long z :: .long x :: st) N h := by
  intro p e s m args below meth c H locs ls X hW hlo hl
  exact W.lcmp X.1 X.2.1 hd (kk p e s m args below meth c H locs ls X hW hlo hl)
theorem am_dup {v : Value} (hd : decode y.2.1 pc = .ok (.dup, 1)) (hv : v.category = 1) (kk : am_A G d y mc ms post k n (pc + 1) lv (v :: v :: st) N h) : am_A G d y mc ms post k n (pc) lv (v :: st) N h := by
  intro p e s m args below meth c H locs ls X hW hlo hl
  exact lv_dup X.1 X.2.1 hd ((am_cat G v).trans hv) (kk p e s m args below meth c H locs ls X hW hlo hl)
theorem am_dup2 {v w : Value} (hd : decode y.2.1 pc = .ok (.dup2, 1)) (hv : v.category = 1) (hw : w.category = 1) (kk : am_A G d y mc ms post k n (pc + 1) lv (v :: w :: v :: w :: st) N h) : am_A G d y mc ms post k n (pc) lv (v :: w :: st) N h := by
  intro p e s m args below meth c H locs ls X hW hlo hl
  exact lv_dup2_11 X.1 X.2.1 hd ((am_cat G v).trans hv) ((am_cat G w).trans hw) (kk p e s m args below meth c H locs ls X hW hlo hl)
theorem am_ldcw {i : Nat} {v : Int32} (hd : decode y.2.1 pc = .ok (.ldc_w i, 3)) (hc : Cond.constant y.1.cls i v ∈ am_tbl) (kk : am_A G d y mc ms post k n (pc + 3) lv (.int v :: st) N h) : am_A G d y mc ms post k n (pc) lv (st) N h := by
  intro p e s m args below meth c H locs ls X hW hlo hl
  exact lv_ldcw X.1 X.2.1 X.2.2.2.2.1 (X.2.2.2.2.2.1 _ hc) hd (kk p e s m args below meth c H locs ls X hW hlo hl)
theorem am_ldc2 {i : Nat} {v : Int64} (hd : decode y.2.1 pc = .ok (.ldc2_w i, 3)) (hc : Cond.constantLong y.1.cls i v ∈ am_tbl) (kk : am_A G d y mc ms post k n (pc + 3) lv (.long v :: st) N h) : am_A G d y mc ms post k n (pc) lv (st) N h := by
  intro p e s m args below meth c H locs ls X hW hlo hl
  exact lv_ldc2 X.1 X.2.1 X.2.2.2.2.1 (X.2.2.2.2.2.1 _ hc) hd (kk p e s m args below meth c H locs ls X hW hlo hl)
def am_cmp (c : ClassFile.Cond) (x z : Int32) : Prop := match c with
  | .eq => x = z
  | .ne => ¬ x = z
  | .lt => x < z
  | .ge => z ≤ x
  | .gt => z < x
  | .le => x ≤ z
def am_cmpb (c : ClassFile.Cond) (x z : Int32) : Bool := match c with
  | .eq => decide (x = z)
  | .ne => !decide (x = z)
  | .lt => decide (x < z)
  | .ge => decide (z ≤ x)
  | .gt => decide (z < x)
  | .le => decide (x ≤ z)
theorem am_cmpb_iff (c : ClassFile.Cond) (x z : Int32) : am_cmpb c x z = true ↔ am_cmp c x z := by cases c <;> simp [am_cmpb, am_cmp]
theorem am_icmp_eq {x z : Int32} {off : Int} {tgt : Nat} (hd : decode y.2.1 pc = .ok (.if_icmp .eq off, 3)) (ht : (pc : Int) + off = (tgt : Int)) (kt : x = z → am_A G d y mc ms post k n (tgt) lv (st) N h) (kf : ¬ x = z → am_A G d y mc ms post k n (pc + 3) lv (st) N h) : am_A G d y mc ms post k n (pc) lv (.int z :: .int x :: st) N h := by
  intro p e s m args below meth c H locs ls X hW hlo hl
  exact lv_icmp_eq X.1 X.2.1 hd ht (fun q => kt q p e s m args below meth c H locs ls X hW hlo hl) (fun q => kf q p e s m args below meth c H locs ls X hW hlo hl)
theorem am_if_eq {x : Int32} {off : Int} {tgt : Nat} (hd : decode y.2.1 pc = .ok (.ifCond .eq off, 3)) (ht : (pc : Int) + off = (tgt : Int)) (kt : x = 0 → am_A G d y mc ms post k n (tgt) lv (st) N h) (kf : ¬ x = 0 → am_A G d y mc ms post k n (pc + 3) lv (st) N h) : am_A G d y mc ms post k n (pc) lv (.int x :: st) N h := by
  intro p e s m args below meth c H locs ls X hW hlo hl
  exact lv_if_eq X.1 X.2.1 hd ht (fun q => kt q p e s m args below meth c H locs ls X hW hlo hl) (fun q => kf q p e s m args below meth c H locs ls X hW hlo hl)
theorem am_icmp_ne {x z : Int32} {off : Int} {tgt : Nat} (hd : decode y.2.1 pc = .ok (.if_icmp .ne off, 3)) (ht : (pc : Int) + off = (tgt : Int)) (kt : ¬ x = z → am_A G d y mc ms post k n (tgt) lv (st) N h) (kf : x = z → am_A G d y mc ms post k n (pc + 3) lv (st) N h) : am_A G d y mc ms post k n (pc) lv (.int z :: .int x :: st) N h := by
  intro p e s m args below meth c H locs ls X hW hlo hl
  exact lv_icmp_ne X.1 X.2.1 hd ht (fun q => kt q p e s m args below meth c H locs ls X hW hlo hl) (fun q => kf q p e s m args below meth c H locs ls X hW hlo hl)
theorem am_if_ne {x : Int32} {off : Int} {tgt : Nat} (hd : decode y.2.1 pc = .ok (.ifCond .ne off, 3)) (ht : (pc : Int) + off = (tgt : Int)) (kt : ¬ x = 0 → am_A G d y mc ms post k n (tgt) lv (st) N h) (kf : x = 0 → am_A G d y mc ms post k n (pc + 3) lv (st) N h) : am_A G d y mc ms post k n (pc) lv (.int x :: st) N h := by
  intro p e s m args below meth c H locs ls X hW hlo hl
  exact lv_if_ne X.1 X.2.1 hd ht (fun q => kt q p e s m args below meth c H locs ls X hW hlo hl) (fun q => kf q p e s m args below meth c H locs ls X hW hlo hl)
theorem am_icmp_lt {x z : Int32} {off : Int} {tgt : Nat} (hd : decode y.2.1 pc = .ok (.if_icmp .lt off, 3)) (ht : (pc : Int) + off = (tgt : Int)) (kt : x < z → am_A G d y mc ms post k n (tgt) lv (st) N h) (kf : ¬ x < z → am_A G d y mc ms post k n (pc + 3) lv (st) N h) : am_A G d y mc ms post k n (pc) lv (.int z :: .int x :: st) N h := by
  intro p e s m args below meth c H locs ls X hW hlo hl
  exact lv_icmp_lt X.1 X.2.1 hd ht (fun q => kt q p e s m args below meth c H locs ls X hW hlo hl) (fun q => kf q p e s m args below meth c H locs ls X hW hlo hl)
theorem am_if_lt {x : Int32} {off : Int} {tgt : Nat} (hd : decode y.2.1 pc = .ok (.ifCond .lt off, 3)) (ht : (pc : Int) + off = (tgt : Int)) (kt : x < 0 → am_A G d y mc ms post k n (tgt) lv (st) N h) (kf : ¬ x < 0 → am_A G d y mc ms post k n (pc + 3) lv (st) N h) : am_A G d y mc ms post k n (pc) lv (.int x :: st) N h := by
  intro p e s m args below meth c H locs ls X hW hlo hl
  exact lv_if_lt X.1 X.2.1 hd ht (fun q => kt q p e s m args below meth c H locs ls X hW hlo hl) (fun q => kf q p e s m args below meth c H locs ls X hW hlo hl)
theorem am_icmp_ge {x z : Int32} {off : Int} {tgt : Nat} (hd : decode y.2.1 pc = .ok (.if_icmp .ge off, 3)) (ht : (pc : Int) + off = (tgt : Int)) (kt : z ≤ x → am_A G d y mc ms post k n (tgt) lv (st) N h) (kf : ¬ z ≤ x → am_A G d y mc ms post k n (pc + 3) lv (st) N h) : am_A G d y mc ms post k n (pc) lv (.int z :: .int x :: st) N h := by
  intro p e s m args below meth c H locs ls X hW hlo hl
  exact lv_icmp_ge X.1 X.2.1 hd ht (fun q => kt q p e s m args below meth c H locs ls X hW hlo hl) (fun q => kf q p e s m args below meth c H locs ls X hW hlo hl)
theorem am_if_ge {x : Int32} {off : Int} {tgt : Nat} (hd : decode y.2.1 pc = .ok (.ifCond .ge off, 3)) (ht : (pc : Int) + off = (tgt : Int)) (kt : 0 ≤ x → am_A G d y mc ms post k n (tgt) lv (st) N h) (kf : ¬ 0 ≤ x → am_A G d y mc ms post k n (pc + 3) lv (st) N h) : am_A G d y mc ms post k n (pc) lv (.int x :: st) N h := by
  intro p e s m args below meth c H locs ls X hW hlo hl
  exact lv_if_ge X.1 X.2.1 hd ht (fun q => kt q p e s m args below meth c H locs ls X hW hlo hl) (fun q => kf q p e s m args below meth c H locs ls X hW hlo hl)
theorem am_icmp_gt {x z : Int32} {off : Int} {tgt : Nat} (hd : decode y.2.1 pc = .ok (.if_icmp .gt off, 3)) (ht : (pc : Int) + off = (tgt : Int)) (kt : z < x → am_A G d y mc ms post k n (tgt) lv (st) N h) (kf : ¬ z < x → am_A G d y mc ms post k n (pc + 3) lv (st) N h) : am_A G d y mc ms post k n (pc) lv (.int z :: .int x :: st) N h := by
  intro p e s m args below meth c H locs ls X hW hlo hl
  exact lv_icmp_gt X.1 X.2.1 hd ht (fun q => kt q p e s m args below meth c H locs ls X hW hlo hl) (fun q => kf q p e s m args below meth c H locs ls X hW hlo hl)
theorem am_if_gt {x : Int32} {off : Int} {tgt : Nat} (hd : decode y.2.1 pc = .ok (.ifCond .gt off, 3)) (ht : (pc : Int) + off = (tgt : Int)) (kt : 0 < x → am_A G d y mc ms post k n (tgt) lv (st) N h) (kf : ¬ 0 < x → am_A G d y mc ms post k n (pc + 3) lv (st) N h) : am_A G d y mc ms post k n (pc) lv (.int x :: st) N h := by
  intro p e s m args below meth c H locs ls X hW hlo hl
  exact lv_if_gt X.1 X.2.1 hd ht (fun q => kt q p e s m args below meth c H locs ls X hW hlo hl) (fun q => kf q p e s m args below meth c H locs ls X hW hlo hl)
theorem am_icmp_le {x z : Int32} {off : Int} {tgt : Nat} (hd : decode y.2.1 pc = .ok (.if_icmp .le off, 3)) (ht : (pc : Int) + off = (tgt : Int)) (kt : x ≤ z → am_A G d y mc ms post k n (tgt) lv (st) N h) (kf : ¬ x ≤ z → am_A G d y mc ms post k n (pc + 3) lv (st) N h) : am_A G d y mc ms post k n (pc) lv (.int z :: .int x :: st) N h := by
  intro p e s m args below meth c H locs ls X hW hlo hl
  exact lv_icmp_le X.1 X.2.1 hd ht (fun q => kt q p e s m args below meth c H locs ls X hW hlo hl) (fun q => kf q p e s m args below meth c H locs ls X hW hlo hl)
theorem am_if_le {x : Int32} {off : Int} {tgt : Nat} (hd : decode y.2.1 pc = .ok (.ifCond .le off, 3)) (ht : (pc : Int) + off = (tgt : Int)) (kt : x ≤ 0 → am_A G d y mc ms post k n (tgt) lv (st) N h) (kf : ¬ x ≤ 0 → am_A G d y mc ms post k n (pc + 3) lv (st) N h) : am_A G d y mc ms post k n (pc) lv (.int x :: st) N h := by
  intro p e s m args below meth c H locs ls X hW hlo hl
  exact lv_if_le X.1 X.2.1 hd ht (fun q => kt q p e s m args below meth c H locs ls X hW hlo hl) (fun q => kf q p e s m args below meth c H locs ls X hW hlo hl)
theorem am_icmp {c : ClassFile.Cond} {x z : Int32} {off : Int} {tgt : Nat} (hd : decode y.2.1 pc = .ok (.if_icmp c off, 3)) (ht : (pc : Int) + off = (tgt : Int)) (kt : am_cmp c x z → am_A G d y mc ms post k n (tgt) lv (st) N h) (kf : ¬ am_cmp c x z → am_A G d y mc ms post k n (pc + 3) lv (st) N h) : am_A G d y mc ms post k n (pc) lv (.int z :: .int x :: st) N h := by
  cases c
  · exact am_icmp_eq hd ht kt kf
  · exact am_icmp_ne hd ht kt (fun q => kf (fun w => w q))
  · exact am_icmp_lt hd ht kt kf
  · exact am_icmp_ge hd ht kt kf
  · exact am_icmp_gt hd ht kt kf
  · exact am_icmp_le hd ht kt kf
theorem am_ifc {c : ClassFile.Cond} {x : Int32} {off : Int} {tgt : Nat} (hd : decode y.2.1 pc = .ok (.ifCond c off, 3)) (ht : (pc : Int) + off = (tgt : Int)) (kt : am_cmp c x 0 → am_A G d y mc ms post k n (tgt) lv (st) N h) (kf : ¬ am_cmp c x 0 → am_A G d y mc ms post k n (pc + 3) lv (st) N h) : am_A G d y mc ms post k n (pc) lv (.int x :: st) N h := by
  cases c
  · exact am_if_eq hd ht kt kf
  · exact am_if_ne hd ht kt (fun q => kf (fun w => w q))
  · exact am_if_lt hd ht kt kf
  · exact am_if_ge hd ht kt kf
  · exact am_if_gt hd ht kt kf
  · exact am_if_le hd ht kt kf
theorem am_goto {off : Int} {tgt : Nat} (hd : decode y.2.1 pc = .ok (.goto off, 3)) (ht : (pc : Int) + off = (tgt : Int)) (kk : am_A G d y mc ms post k n (tgt) lv (st) N h) : am_A G d y mc ms post k n (pc) lv (st) N h := by
  intro p e s m args below meth c H locs ls X hW hlo hl
  exact lv_goto X.1 X.2.1 hd ht (kk p e s m args below meth c H locs ls X hW hlo hl)
theorem am_tblIn {dflt lo hi : Int} {offs : Array Int} {len : Nat} {x : Int32} {off : Int} {tgt : Nat} (hd : decode y.2.1 pc = .ok (.tableswitch dflt lo hi offs, len)) (h1 : ¬ x.toInt < lo) (h2 : ¬ hi < x.toInt) (ho : offs[(x.toInt - lo).toNat]? = some off) (ht : (pc : Int) + off = (tgt : Int)) (kk : am_A G d y mc ms post k n (tgt) lv (st) N h) : am_A G d y mc ms post k n (pc) lv (.int x :: st) N h := by
  intro p e s m args below meth c H locs ls X hW hlo hl
  exact lv_tableIn X.1 X.2.1 hd h1 h2 ho ht (kk p e s m args below meth c H locs ls X hW hlo hl)
theorem am_tblOut {dflt lo hi : Int} {offs : Array Int} {len : Nat} {x : Int32} {tgt : Nat} (hd : decode y.2.1 pc = .ok (.tableswitch dflt lo hi offs, len)) (h0 : x.toInt < lo ∨ hi < x.toInt) (ht : (pc : Int) + dflt = (tgt : Int)) (kk : am_A G d y mc ms post k n (tgt) lv (st) N h) : am_A G d y mc ms post k n (pc) lv (.int x :: st) N h := by
  intro p e s m args below meth c H locs ls X hW hlo hl
  exact lv_tableOut X.1 X.2.1 hd h0 ht (kk p e s m args below meth c H locs ls X hW hlo hl)
theorem am_lookup {dflt : Int} {ps : Array (Int × Int)} {len : Nat} {x : Int32} {off : Int} {tgt : Nat} (hd : decode y.2.1 pc = .ok (.lookupswitch dflt ps, len)) (hp : (ps.toList.zip (ps.toList.drop 1)).all (fun (a, next) => a.1 < next.1) = true) (ho : Op.lookupswitch.offset ps.toList dflt x.toInt = off) (ht : (pc : Int) + off = (tgt : Int)) (kk : am_A G d y mc ms post k n (tgt) lv (st) N h) : am_A G d y mc ms post k n (pc) lv (.int x :: st) N h := by
  intro p e s m args below meth c H locs ls X hW hlo hl
  exact lv_lookup X.1 X.2.1 hd hp ho ht (kk p e s m args below meth c H locs ls X hW hlo hl)
end
