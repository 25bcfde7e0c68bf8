noncomputable section
/-! ===== the machine over the two tables; one rule an instruction ===== -/
abbrev gs_T : Type := Option Value → gs_F → gs_F → Prop
def gs_li (post : gs_T) : am_T := fun r N' h' => ∃ F' A', N' = 122 ∧ h' = gs_en F' A' ∧ post r F' A'
def sC (y : am_M) (d : Nat) (as : List Value) (F A : gs_F) (post : gs_T) : Prop := ∀ G : am_G, am_C G d y 0 0 as 122 (gs_en F A) (gs_li post)
def sA (y : am_M) (d : Nat) (post : gs_T) (pc : Nat) (lv : List (Nat × Value)) (st : List Value) (F A : gs_F) : Prop := ∀ G : am_G, am_A G d y 0 0 (gs_li post) 0 0 pc lv st 122 (gs_en F A)
theorem gs_toI {z : Int} (h : -2147483648 ≤ z ∧ z ≤ 2147483647) : (Int32.ofInt z).toInt = z := Int32.toInt_ofInt_of_le (by omega) (by omega)
theorem gs_toN {z : Int} (h : -2147483648 ≤ z ∧ z ≤ 2147483647) : (Int32.ofInt z).toNatClampNeg = z.toNat := Int32.toNatClampNeg_ofInt_of_le (by omega) (by omega)
theorem gs_lt {x z : Int} (hx : -2147483648 ≤ x ∧ x ≤ 2147483647) (hz : -2147483648 ≤ z ∧ z ≤ 2147483647) : Int32.ofInt x < Int32.ofInt z ↔ x < z := by rw [Int32.lt_iff_toInt_lt, gs_toI hx, gs_toI hz]
theorem gs_le {x z : Int} (hx : -2147483648 ≤ x ∧ x ≤ 2147483647) (hz : -2147483648 ≤ z ∧ z ≤ 2147483647) : Int32.ofInt x ≤ Int32.ofInt z ↔ x ≤ z := by rw [Int32.le_iff_toInt_le, gs_toI hx, gs_toI hz]
theorem gs_eq {x z : Int} (hx : -2147483648 ≤ x ∧ x ≤ 2147483647) (hz : -2147483648 ≤ z ∧ z ≤ 2147483647) : Int32.ofInt x = Int32.ofInt z ↔ x = z := by rw [← Int32.toInt_inj, gs_toI hx, gs_toI hz]
theorem gs_0 : (0 : Int32) = Int32.ofInt 0 := by decide
theorem gs_vp {z : Int} {n : Nat} (h : 0 ≤ z ∧ z < n) (hn : n ≤ 2147483647) : vp_in (Int32.ofInt z) n := by
  unfold vp_in
  rw [gs_0, gs_lt (by omega) (by omega), gs_toN (by omega)]
  omega
def gs_w (z : Int) : Int := (Int32.ofInt z).toInt
theorem gs_w_rng (z : Int) : -2147483648 ≤ gs_w z ∧ gs_w z ≤ 2147483647 := by
  have h1 := Int32.le_toInt (Int32.ofInt z)
  have h2 := Int32.toInt_lt (Int32.ofInt z)
  unfold gs_w
  omega
theorem gs_w_id {z : Int} (h : -2147483648 ≤ z ∧ z ≤ 2147483647) : gs_w z = z := gs_toI h
theorem gs_w_iv (z : Int) : Int32.ofInt (gs_w z) = Int32.ofInt z := Int32.ofInt_toInt _
def gs_t (x : Int32) : Int := x.toInt
theorem gs_t_rng (x : Int32) : -2147483648 ≤ gs_t x ∧ gs_t x ≤ 2147483647 := by
  have h1 := Int32.le_toInt x
  have h2 := Int32.toInt_lt x
  unfold gs_t
  omega
theorem gs_t_iv (x : Int32) : Int32.ofInt (gs_t x) = x := Int32.ofInt_toInt _
section
variable {y : am_M} {d : Nat} {post : gs_T} {pc : Nat} {lv lv' : List (Nat × Value)} {st : List Value} {F A : gs_F}
theorem sA_sub {lv2 : List (Nat × Value)} (hs : ∀ q ∈ lv2, q ∈ lv) (kk : sA y d post pc lv2 st F A) : sA y d post pc lv st F A := fun G => am_lvs hs (kk G)
theorem sA_iconst {z : Int} (hd : decode y.2.1 pc = .ok (.iconst z, 1)) (kk : sA y d post (pc + 1) lv (gs_iv z :: st) (F) (A)) : sA y d post (pc) lv (st) (F) (A) := fun G => am_iconst hd rfl (kk G)
theorem sA_bipush {z : Int} (hd : decode y.2.1 pc = .ok (.bipush z, 2)) (hv : (Int8.ofInt z).toInt32 = Int32.ofInt z) (kk : sA y d post (pc + 2) lv (gs_iv z :: st) (F) (A)) : sA y d post (pc) lv (st) (F) (A) := fun G => am_bipush hd hv (kk G)
theorem sA_sipush {z : Int} (hd : decode y.2.1 pc = .ok (.sipush z, 3)) (hv : (Int16.ofInt z).toInt32 = Int32.ofInt z) (kk : sA y d post (pc + 3) lv (gs_iv z :: st) (F) (A)) : sA y d post (pc) lv (st) (F) (A) := fun G => am_sipush hd hv (kk G)
theorem sA_ldcw {i : Nat} {z : Int} (hd : decode y.2.1 pc = .ok (.ldc_w i, 3)) (hc : Cond.constant y.1.cls i (Int32.ofInt z) ∈ am_tbl) (kk : sA y d post (pc + 3) lv (gs_iv z :: st) (F) (A)) : sA y d post (pc) lv (st) (F) (A) := fun G => am_ldcw hd hc (kk G)
theorem sA_lconst {i : Fin 2} {z : Int} (hd : decode y.2.1 pc = .ok (.lconst i, 1)) (hv : Int64.ofNat (i : Nat) = Int64.ofInt z) (kk : sA y d post (pc + 1) lv (gs_lv z :: st) (F) (A)) : sA y d post (pc) lv (st) (F) (A) := fun G => am_lconst hd hv (kk G)
theorem sA_ldc2 {i : Nat} {z : Int} (hd : decode y.2.1 pc = .ok (.ldc2_w i, 3)) (hc : Cond.constantLong y.1.cls i (Int64.ofInt z) ∈ am_tbl) (kk : sA y d post (pc + 3) lv (gs_lv z :: st) (F) (A)) : sA y d post (pc) lv (st) (F) (A) := fun G => am_ldc2 hd hc (kk G)
theorem sA_iload_n {j : Fin 4} {i : Nat} {z : Int} (hd : decode y.2.1 pc = .ok (.iload_n j, 1)) (hi : (j : Nat) = i) (hv : (i, gs_iv z) ∈ lv) (kk : sA y d post (pc + 1) lv (gs_iv z :: st) (F) (A)) : sA y d post (pc) lv (st) (F) (A) := fun G => am_iload_n hd hi hv (kk G)
theorem sA_iload {i : Nat} {z : Int} (hd : decode y.2.1 pc = .ok (.iload i, 2)) (hv : (i, gs_iv z) ∈ lv) (kk : sA y d post (pc + 2) lv (gs_iv z :: st) (F) (A)) : sA y d post (pc) lv (st) (F) (A) := fun G => am_iload hd hv (kk G)
theorem sA_lload_n {j : Fin 4} {i : Nat} {z : Int64} (hd : decode y.2.1 pc = .ok (.lload_n j, 1)) (hi : (j : Nat) = i) (hv : (i, Value.long z) ∈ lv) (kk : sA y d post (pc + 1) lv (Value.long z :: st) (F) (A)) : sA y d post (pc) lv (st) (F) (A) := fun G => am_lload_n hd hi hv (kk G)
theorem sA_lload {i : Nat} {z : Int64} (hd : decode y.2.1 pc = .ok (.lload i, 2)) (hv : (i, Value.long z) ∈ lv) (kk : sA y d post (pc + 2) lv (Value.long z :: st) (F) (A)) : sA y d post (pc) lv (st) (F) (A) := fun G => am_lload hd hv (kk G)
theorem sA_aload_n {j : Fin 4} {i : Nat} {z : Nat} (hd : decode y.2.1 pc = .ok (.aload_n j, 1)) (hi : (j : Nat) = i) (hv : (i, Value.ref z) ∈ lv) (kk : sA y d post (pc + 1) lv (Value.ref z :: st) (F) (A)) : sA y d post (pc) lv (st) (F) (A) := fun G => am_aload_n hd hi hv (kk G)
theorem sA_aload {i : Nat} {z : Nat} (hd : decode y.2.1 pc = .ok (.aload i, 2)) (hv : (i, Value.ref z) ∈ lv) (kk : sA y d post (pc + 2) lv (Value.ref z :: st) (F) (A)) : sA y d post (pc) lv (st) (F) (A) := fun G => am_aload hd hv (kk G)
theorem sA_istore_n {j : Fin 4} {i : Nat} {z : Int} (hd : decode y.2.1 pc = .ok (.istore_n j, 1)) (hi : (j : Nat) = i) (hn : i < y.2.2.1) (hlv : (i, gs_iv z) :: lv.filter (am_f1 i) = lv') (kk : sA y d post (pc + 1) lv' (st) (F) (A)) : sA y d post (pc) lv (gs_iv z :: st) (F) (A) := fun G => am_istore_n hd hi hn hlv (kk G)
theorem sA_istore {i : Nat} {z : Int} (hd : decode y.2.1 pc = .ok (.istore i, 2)) (hn : i < y.2.2.1) (hlv : (i, gs_iv z) :: lv.filter (am_f1 i) = lv') (kk : sA y d post (pc + 2) lv' (st) (F) (A)) : sA y d post (pc) lv (gs_iv z :: st) (F) (A) := fun G => am_istore hd hn hlv (kk G)
theorem sA_lstore_n {j : Fin 4} {i : Nat} {z : Int64} (hd : decode y.2.1 pc = .ok (.lstore_n j, 1)) (hi : (j : Nat) = i) (hn : i + 1 < y.2.2.1) (hlv : (i, Value.long z) :: lv.filter (am_f2 i) = lv') (kk : sA y d post (pc + 1) lv' (st) (F) (A)) : sA y d post (pc) lv (Value.long z :: st) (F) (A) := fun G => am_lstore_n hd hi hn hlv (kk G)
theorem sA_lstore {i : Nat} {z : Int64} (hd : decode y.2.1 pc = .ok (.lstore i, 2)) (hn : i + 1 < y.2.2.1) (hlv : (i, Value.long z) :: lv.filter (am_f2 i) = lv') (kk : sA y d post (pc + 2) lv' (st) (F) (A)) : sA y d post (pc) lv (Value.long z :: st) (F) (A) := fun G => am_lstore hd hn hlv (kk G)
theorem sA_astore_n {j : Fin 4} {i : Nat} {z : Nat} (hd : decode y.2.1 pc = .ok (.astore_n j, 1)) (hi : (j : Nat) = i) (hn : i < y.2.2.1) (hlv : (i, Value.ref z) :: lv.filter (am_f1 i) = lv') (kk : sA y d post (pc + 1) lv' (st) (F) (A)) : sA y d post (pc) lv (Value.ref z :: st) (F) (A) := fun G => am_astore_n hd hi hn hlv (kk G)
theorem sA_astore {i : Nat} {z : Nat} (hd : decode y.2.1 pc = .ok (.astore i, 2)) (hn : i < y.2.2.1) (hlv : (i, Value.ref z) :: lv.filter (am_f1 i) = lv') (kk : sA y d post (pc + 2) lv' (st) (F) (A)) : sA y d post (pc) lv (Value.ref z :: st) (F) (A) := fun G => am_astore hd hn hlv (kk G)
theorem sA_iinc {i : Nat} {n z : Int} (hd : decode y.2.1 pc = .ok (.iinc i n, 3)) (hv : (i, gs_iv z) ∈ lv) (hn : i < y.2.2.1) (hlv : (i, gs_iv (z + n)) :: lv.filter (am_f1 i) = lv') (kk : sA y d post (pc + 3) lv' (st) (F) (A)) : sA y d post (pc) lv (st) (F) (A) := fun G => am_iinc hd hv (Int32.ofInt_add z n).symm hn hlv (kk G)
theorem sA_iadd {x z : Int} (hd : decode y.2.1 pc = .ok (.iadd, 1)) (kk : sA y d post (pc + 1) lv (gs_iv (x + z) :: st) (F) (A)) : sA y d post (pc) lv (gs_iv z :: gs_iv x :: st) (F) (A) := fun G => am_iadd hd (by have k := kk G; unfold gs_iv at k; rw [Int32.ofInt_add x z] at k; exact k)
theorem sA_isub {x z : Int} (hd : decode y.2.1 pc = .ok (.isub, 1)) (kk : sA y d post (pc + 1) lv (gs_iv (x - z) :: st) (F) (A)) : sA y d post (pc) lv (gs_iv z :: gs_iv x :: st) (F) (A) := fun G => am_isub hd (by have k := kk G; unfold gs_iv at k; rw [Int32.ofInt_sub x z] at k; exact k)
theorem sA_imul {x z : Int} (hd : decode y.2.1 pc = .ok (.imul, 1)) (kk : sA y d post (pc + 1) lv (gs_iv (x * z) :: st) (F) (A)) : sA y d post (pc) lv (gs_iv z :: gs_iv x :: st) (F) (A) := fun G => am_imul hd (by have k := kk G; unfold gs_iv at k; rw [Int32.ofInt_mul x z] at k; exact k)
theorem sA_ineg {x : Int} (hd : decode y.2.1 pc = .ok (.ineg, 1)) (kk : sA y d post (pc + 1) lv (gs_iv (-x) :: st) (F) (A)) : sA y d post (pc) lv (gs_iv x :: st) (F) (A) := fun G => am_ineg hd (by have k := kk G; unfold gs_iv at k; rw [Int32.ofInt_neg x] at k; exact k)
theorem sA_ladd {x z : Int} (hd : decode y.2.1 pc = .ok (.ladd, 1)) (kk : sA y d post (pc + 1) lv (gs_lv (x + z) :: st) (F) (A)) : sA y d post (pc) lv (gs_lv z :: gs_lv x :: st) (F) (A) := fun G => am_ladd hd (by have k := kk G; unfold gs_lv at k; rw [Int64.ofInt_add x z] at k; exact k)
theorem sA_lsub {x z : Int} (hd : decode y.2.1 pc = .ok (.lsub, 1)) (kk : sA y d post (pc + 1) lv (gs_lv (x - z) :: st) (F) (A)) : sA y d post (pc) lv (gs_lv z :: gs_lv x :: st) (F) (A) := fun G => am_lsub hd (by have k := kk G; unfold gs_lv at k; rw [Int64.ofInt_sub x z] at k; exact k)
theorem sA_lmul {x z : Int} (hd : decode y.2.1 pc = .ok (.lmul, 1)) (kk : sA y d post (pc + 1) lv (gs_lv (x * z) :: st) (F) (A)) : sA y d post (pc) lv (gs_lv z :: gs_lv x :: st) (F) (A) := fun G => am_lmul hd (by have k := kk G; unfold gs_lv at k; rw [Int64.ofInt_mul x z] at k; exact k)
theorem sA_idiv {x z : Int} (hd : decode y.2.1 pc = .ok (.idiv, 1)) (hx : -2147483648 ≤ x ∧ x ≤ 2147483647) (hz : -2147483648 ≤ z ∧ z ≤ 2147483647) (hne : z ≠ 0) (kk : sA y d post (pc + 1) lv (gs_iv (x.tdiv z) :: st) (F) (A)) : sA y d post (pc) lv (gs_iv z :: gs_iv x :: st) (F) (A) := fun G => am_idiv hd (fun q => hne ((gs_eq hz (by omega)).mp (q.trans gs_0))) (by have k := kk G; unfold gs_iv at k; rw [Int32.ofInt_tdiv (by rw [Int32.toInt_minValue]; omega) (by rw [Int32.toInt_maxValue]; omega) (by rw [Int32.toInt_minValue]; omega) (by rw [Int32.toInt_maxValue]; omega)] at k; exact k)
theorem gs_rem {x z : Int} (hx : -2147483648 ≤ x ∧ x ≤ 2147483647) (hz : -2147483648 ≤ z ∧ z ≤ 2147483647) : Int32.ofInt x - Int32.ofInt x / Int32.ofInt z * Int32.ofInt z = Int32.ofInt (x.tmod z) := by
  have e : x.tmod z = x - x.tdiv z * z := by have h := Int.tmod_add_mul_tdiv x z; rw [Int.mul_comm] at h; omega
  rw [e, Int32.ofInt_sub, Int32.ofInt_mul, Int32.ofInt_tdiv (by rw [Int32.toInt_minValue]; omega) (by rw [Int32.toInt_maxValue]; omega) (by rw [Int32.toInt_minValue]; omega) (by rw [Int32.toInt_maxValue]; omega)]
theorem sA_irem {x z : Int} (hd : decode y.2.1 pc = .ok (.irem, 1)) (hx : -2147483648 ≤ x ∧ x ≤ 2147483647) (hz : -2147483648 ≤ z ∧ z ≤ 2147483647) (hne : z ≠ 0) (kk : sA y d post (pc + 1) lv (gs_iv (x.tmod z) :: st) (F) (A)) : sA y d post (pc) lv (gs_iv z :: gs_iv x :: st) (F) (A) := fun G => am_irem hd (fun q => hne ((gs_eq hz (by omega)).mp (q.trans gs_0))) (by rw [gs_rem hx hz]; exact kk G)
theorem sA_wrap {z : Int} (kk : sA y d post (pc) lv (gs_iv (gs_w z) :: st) (F) (A)) : sA y d post (pc) lv (gs_iv z :: st) (F) (A) := fun G => by have k := kk G; unfold gs_iv at k; rw [gs_w_iv] at k; exact k
theorem sA_iand {x z : Int} (hd : decode y.2.1 pc = .ok (.iand, 1)) (kk : sA y d post (pc + 1) lv (gs_iv (gs_t (Int32.ofInt x &&& Int32.ofInt z)) :: st) (F) (A)) : sA y d post (pc) lv (gs_iv z :: gs_iv x :: st) (F) (A) := fun G => am_iand hd (by have k := kk G; unfold gs_iv at k; rw [gs_t_iv] at k; exact k)
theorem sA_ior {x z : Int} (hd : decode y.2.1 pc = .ok (.ior, 1)) (kk : sA y d post (pc + 1) lv (gs_iv (gs_t (Int32.ofInt x ||| Int32.ofInt z)) :: st) (F) (A)) : sA y d post (pc) lv (gs_iv z :: gs_iv x :: st) (F) (A) := fun G => am_ior hd (by have k := kk G; unfold gs_iv at k; rw [gs_t_iv] at k; exact k)
theorem sA_ixor {x z : Int} (hd : decode y.2.1 pc = .ok (.ixor, 1)) (kk : sA y d post (pc + 1) lv (gs_iv (gs_t (Int32.ofInt x ^^^ Int32.ofInt z)) :: st) (F) (A)) : sA y d post (pc) lv (gs_iv z :: gs_iv x :: st) (F) (A) := fun G => am_ixor hd (by have k := kk G; unfold gs_iv at k; rw [gs_t_iv] at k; exact k)
theorem sA_ishl {x z : Int} (hd : decode y.2.1 pc = .ok (.ishl, 1)) (kk : sA y d post (pc + 1) lv (gs_iv (gs_t (Int32.ofInt x <<< (Int32.ofInt z &&& 31))) :: st) (F) (A)) : sA y d post (pc) lv (gs_iv z :: gs_iv x :: st) (F) (A) := fun G => am_ishl hd (by have k := kk G; unfold gs_iv at k; rw [gs_t_iv] at k; exact k)
theorem sA_ishr {x z : Int} (hd : decode y.2.1 pc = .ok (.ishr, 1)) (kk : sA y d post (pc + 1) lv (gs_iv (gs_t (Int32.ofInt x >>> (Int32.ofInt z &&& 31))) :: st) (F) (A)) : sA y d post (pc) lv (gs_iv z :: gs_iv x :: st) (F) (A) := fun G => am_ishr hd (by have k := kk G; unfold gs_iv at k; rw [gs_t_iv] at k; exact k)
theorem sA_iushr {x z : Int} (hd : decode y.2.1 pc = .ok (.iushr, 1)) (kk : sA y d post (pc + 1) lv (gs_iv (gs_t (((Int32.ofInt x).toUInt32 >>> ((Int32.ofInt z).toUInt32 &&& Int32.toUInt32 31)).toInt32)) :: st) (F) (A)) : sA y d post (pc) lv (gs_iv z :: gs_iv x :: st) (F) (A) := fun G => am_iushr hd (by have k := kk G; unfold gs_iv at k; rw [gs_t_iv] at k; exact k)
theorem sA_i2l {x : Int} (hd : decode y.2.1 pc = .ok (.i2l, 1)) (hx : -2147483648 ≤ x ∧ x ≤ 2147483647) (kk : sA y d post (pc + 1) lv (gs_lv x :: st) (F) (A)) : sA y d post (pc) lv (gs_iv x :: st) (F) (A) := fun G => am_i2l hd (by have k := kk G; unfold gs_lv at k; rw [← Int32.toInt64_ofInt (by rw [Int32.toInt_minValue]; omega) (by rw [Int32.toInt_maxValue]; omega)] at k; exact k)
theorem sA_l2i {x : Int64} (hd : decode y.2.1 pc = .ok (.l2i, 1)) (kk : sA y d post (pc + 1) lv (gs_iv (gs_t x.toInt32) :: st) (F) (A)) : sA y d post (pc) lv (.long x :: st) (F) (A) := fun G => am_l2i hd (by have k := kk G; unfold gs_iv at k; rw [gs_t_iv] at k; exact k)
theorem sA_land {x z : Int64} (hd : decode y.2.1 pc = .ok (.land, 1)) (kk : sA y d post (pc + 1) lv (.long (x &&& z) :: st) (F) (A)) : sA y d post (pc) lv (.long z :: .long x :: st) (F) (A) := fun G => am_land hd (kk G)
theorem sA_lshr {x : Int64} {z : Int} (hd : decode y.2.1 pc = .ok (.lshr, 1)) (kk : sA y d post (pc + 1) lv (.long (x >>> ((Int32.ofInt z).toInt64 &&& 63)) :: st) (F) (A)) : sA y d post (pc) lv (gs_iv z :: .long x :: st) (F) (A) := fun G => am_lshr hd (kk G)
theorem gs_lcmp {x z : Int} (hx : -9223372036854775808 ≤ x ∧ x ≤ 9223372036854775807) (hz : -9223372036854775808 ≤ z ∧ z ≤ 9223372036854775807) : (z < x ∧ lg_cmp (Int64.ofInt x) (Int64.ofInt z) = Int32.ofInt 1) ∨ (x = z ∧ lg_cmp (Int64.ofInt x) (Int64.ofInt z) = Int32.ofInt 0) ∨ (x < z ∧ lg_cmp (Int64.ofInt x) (Int64.ofInt z) = Int32.ofInt (-1)) := by
  have ex : (Int64.ofInt x).toInt = x := Int64.toInt_ofInt_of_le (by omega) (by omega)
  have ez : (Int64.ofInt z).toInt = z := Int64.toInt_ofInt_of_le (by omega) (by omega)
  unfold lg_cmp
  have e1 : (Int64.ofInt x > Int64.ofInt z) ↔ z < x := by show Int64.ofInt z < Int64.ofInt x ↔ _; rw [Int64.lt_iff_toInt_lt, ex, ez]
  have e2 : (Int64.ofInt x = Int64.ofInt z) ↔ x = z := by rw [← Int64.toInt_inj, ex, ez]
  rcases Int.lt_trichotomy x z with h | h | h
  · right; right
    refine ⟨h, ?_⟩
    rw [if_neg (fun q => by have := e1.mp q; omega), if_neg (fun q => by have := e2.mp q; omega)]
    rfl
  · right; left
    refine ⟨h, ?_⟩
    rw [if_neg (fun q => by have := e1.mp q; omega), if_pos (e2.mpr h)]
    rfl
  · left
    refine ⟨h, ?_⟩
    rw [if_pos (e1.mpr h)]
    rfl
theorem sA_lcmp {x z : Int} (hd : decode y.2.1 pc = .ok (.lcmp, 1)) (hx : -9223372036854775808 ≤ x ∧ x ≤ 9223372036854775807) (hz : -9223372036854775808 ≤ z ∧ z ≤ 9223372036854775807) (kk : ∀ w : Int, (z < x ∧ w = 1) ∨ (x = z ∧ w = 0) ∨ (x < z ∧ w = -1) → sA y d post (pc + 1) lv (gs_iv w :: st) (F) (A)) : sA y d post (pc) lv (gs_lv z :: gs_lv x :: st) (F) (A) := fun G => am_lcmp hd (by
  rcases gs_lcmp hx hz with ⟨q, e⟩ | ⟨q, e⟩ | ⟨q, e⟩
  · rw [e]; exact kk 1 (.inl ⟨q, rfl⟩) G
  · rw [e]; exact kk 0 (.inr (.inl ⟨q, rfl⟩)) G
  · rw [e]; exact kk (-1) (.inr (.inr ⟨q, rfl⟩)) G)
theorem sA_dup {v : Value} (hd : decode y.2.1 pc = .ok (.dup, 1)) (hv : v.category = 1) (kk : sA y d post (pc + 1) lv (v :: v :: st) (F) (A)) : sA y d post (pc) lv (v :: st) (F) (A) := fun G => am_dup hd hv (kk G)
theorem sA_dup2 {v w : Value} (hd : decode y.2.1 pc = .ok (.dup2, 1)) (hv : v.category = 1) (hw : w.category = 1) (kk : sA y d post (pc + 1) lv (v :: w :: v :: w :: st) (F) (A)) : sA y d post (pc) lv (v :: w :: st) (F) (A) := fun G => am_dup2 hd hv hw (kk G)
theorem sA_icmp_eq {x z : Int} {off : Int} {tgt : Nat} (hd : decode y.2.1 pc = .ok (.if_icmp .eq off, 3)) (ht : (pc : Int) + off = (tgt : Int)) (hx : -2147483648 ≤ x ∧ x ≤ 2147483647) (hz : -2147483648 ≤ z ∧ z ≤ 2147483647) (kt : x = z → sA y d post (tgt) lv (st) (F) (A)) (kf : x ≠ z → sA y d post (pc + 3) lv (st) (F) (A)) : sA y d post (pc) lv (gs_iv z :: gs_iv x :: st) (F) (A) := fun G => am_icmp_eq hd ht (fun q => kt ((gs_eq hx hz).mp q) G) (fun q => kf (fun w => q ((gs_eq hx hz).mpr w)) G)
theorem sA_if_eq {x : Int} {off : Int} {tgt : Nat} (hd : decode y.2.1 pc = .ok (.ifCond .eq off, 3)) (ht : (pc : Int) + off = (tgt : Int)) (hx : -2147483648 ≤ x ∧ x ≤ 2147483647) (kt : x = 0 → sA y d post (tgt) lv (st) (F) (A)) (kf : x ≠ 0 → sA y d post (pc + 3) lv (st) (F) (A)) : sA y d post (pc) lv (gs_iv x :: st) (F) (A) := fun G => am_if_eq hd ht (fun q => by
    rw [gs_0] at q
    exact kt (by have q2 := (gs_eq hx (show -2147483648 ≤ (0 : Int) ∧ (0 : Int) ≤ 2147483647 by decide)).mp q; omega) G) (fun q => by
    rw [gs_0] at q
    exact kf (by have q2 := mt (gs_eq hx (show -2147483648 ≤ (0 : Int) ∧ (0 : Int) ≤ 2147483647 by decide)).mpr q; omega) G)
theorem sA_icmp_ne {x z : Int} {off : Int} {tgt : Nat} (hd : decode y.2.1 pc = .ok (.if_icmp .ne off, 3)) (ht : (pc : Int) + off = (tgt : Int)) (hx : -2147483648 ≤ x ∧ x ≤ 2147483647) (hz : -2147483648 ≤ z ∧ z ≤ 2147483647) (kt : x ≠ z → sA y d post (tgt) lv (st) (F) (A)) (kf : x = z → sA y d post (pc + 3) lv (st) (F) (A)) : sA y d post (pc) lv (gs_iv z :: gs_iv x :: st) (F) (A) := fun G => am_icmp_ne hd ht (fun q => kt (fun w => q ((gs_eq hx hz).mpr w)) G) (fun q => kf ((gs_eq hx hz).mp q) G)
theorem sA_if_ne {x : Int} {off : Int} {tgt : Nat} (hd : decode y.2.1 pc = .ok (.ifCond .ne off, 3)) (ht : (pc : Int) + off = (tgt : Int)) (hx : -2147483648 ≤ x ∧ x ≤ 2147483647) (kt : x ≠ 0 → sA y d post (tgt) lv (st) (F) (A)) (kf : x = 0 → sA y d post (pc + 3) lv (st) (F) (A)) : sA y d post (pc) lv (gs_iv x :: st) (F) (A) := fun G => am_if_ne hd ht (fun q => by
    rw [gs_0] at q
    exact kt (by have q2 := mt (gs_eq hx (show -2147483648 ≤ (0 : Int) ∧ (0 : Int) ≤ 2147483647 by decide)).mpr q; omega) G) (fun q => by
    rw [gs_0] at q
    exact kf (by have q2 := (gs_eq hx (show -2147483648 ≤ (0 : Int) ∧ (0 : Int) ≤ 2147483647 by decide)).mp q; omega) G)
theorem sA_icmp_lt {x z : Int} {off : Int} {tgt : Nat} (hd : decode y.2.1 pc = .ok (.if_icmp .lt off, 3)) (ht : (pc : Int) + off = (tgt : Int)) (hx : -2147483648 ≤ x ∧ x ≤ 2147483647) (hz : -2147483648 ≤ z ∧ z ≤ 2147483647) (kt : x < z → sA y d post (tgt) lv (st) (F) (A)) (kf : z ≤ x → sA y d post (pc + 3) lv (st) (F) (A)) : sA y d post (pc) lv (gs_iv z :: gs_iv x :: st) (F) (A) := fun G => am_icmp_lt hd ht (fun q => kt ((gs_lt hx hz).mp q) G) (fun q => kf (by have q2 := mt (gs_lt hx hz).mpr q; omega) G)
theorem sA_if_lt {x : Int} {off : Int} {tgt : Nat} (hd : decode y.2.1 pc = .ok (.ifCond .lt off, 3)) (ht : (pc : Int) + off = (tgt : Int)) (hx : -2147483648 ≤ x ∧ x ≤ 2147483647) (kt : x < 0 → sA y d post (tgt) lv (st) (F) (A)) (kf : 0 ≤ x → sA y d post (pc + 3) lv (st) (F) (A)) : sA y d post (pc) lv (gs_iv x :: st) (F) (A) := fun G => am_if_lt hd ht (fun q => by
    rw [gs_0] at q
    exact kt (by have q2 := (gs_lt hx (show -2147483648 ≤ (0 : Int) ∧ (0 : Int) ≤ 2147483647 by decide)).mp q; omega) G) (fun q => by
    rw [gs_0] at q
    exact kf (by have q2 := mt (gs_lt hx (show -2147483648 ≤ (0 : Int) ∧ (0 : Int) ≤ 2147483647 by decide)).mpr q; omega) G)
theorem sA_icmp_ge {x z : Int} {off : Int} {tgt : Nat} (hd : decode y.2.1 pc = .ok (.if_icmp .ge off, 3)) (ht : (pc : Int) + off = (tgt : Int)) (hx : -2147483648 ≤ x ∧ x ≤ 2147483647) (hz : -2147483648 ≤ z ∧ z ≤ 2147483647) (kt : z ≤ x → sA y d post (tgt) lv (st) (F) (A)) (kf : x < z → sA y d post (pc + 3) lv (st) (F) (A)) : sA y d post (pc) lv (gs_iv z :: gs_iv x :: st) (F) (A) := fun G => am_icmp_ge hd ht (fun q => kt ((gs_le hz hx).mp q) G) (fun q => kf (by have q2 := mt (gs_le hz hx).mpr q; omega) G)
theorem sA_if_ge {x : Int} {off : Int} {tgt : Nat} (hd : decode y.2.1 pc = .ok (.ifCond .ge off, 3)) (ht : (pc : Int) + off = (tgt : Int)) (hx : -2147483648 ≤ x ∧ x ≤ 2147483647) (kt : 0 ≤ x → sA y d post (tgt) lv (st) (F) (A)) (kf : x < 0 → sA y d post (pc + 3) lv (st) (F) (A)) : sA y d post (pc) lv (gs_iv x :: st) (F) (A) := fun G => am_if_ge hd ht (fun q => by
    rw [gs_0] at q
    exact kt (by have q2 := (gs_le (show -2147483648 ≤ (0 : Int) ∧ (0 : Int) ≤ 2147483647 by decide) hx).mp q; omega) G) (fun q => by
    rw [gs_0] at q
    exact kf (by have q2 := mt (gs_le (show -2147483648 ≤ (0 : Int) ∧ (0 : Int) ≤ 2147483647 by decide) hx).mpr q; omega) G)
theorem sA_icmp_gt {x z : Int} {off : Int} {tgt : Nat} (hd : decode y.2.1 pc = .ok (.if_icmp .gt off, 3)) (ht : (pc : Int) + off = (tgt : Int)) (hx : -2147483648 ≤ x ∧ x ≤ 2147483647) (hz : -2147483648 ≤ z ∧ z ≤ 2147483647) (kt : z < x → sA y d post (tgt) lv (st) (F) (A)) (kf : x ≤ z → sA y d post (pc + 3) lv (st) (F) (A)) : sA y d post (pc) lv (gs_iv z :: gs_iv x :: st) (F) (A) := fun G => am_icmp_gt hd ht (fun q => kt ((gs_lt hz hx).mp q) G) (fun q => kf (by have q2 := mt (gs_lt hz hx).mpr q; omega) G)
theorem sA_if_gt {x : Int} {off : Int} {tgt : Nat} (hd : decode y.2.1 pc = .ok (.ifCond .gt off, 3)) (ht : (pc : Int) + off = (tgt : Int)) (hx : -2147483648 ≤ x ∧ x ≤ 2147483647) (kt : 0 < x → sA y d post (tgt) lv (st) (F) (A)) (kf : x ≤ 0 → sA y d post (pc + 3) lv (st) (F) (A)) : sA y d post (pc) lv (gs_iv x :: st) (F) (A) := fun G => am_if_gt hd ht (fun q => by
    rw [gs_0] at q
    exact kt (by have q2 := (gs_lt (show -2147483648 ≤ (0 : Int) ∧ (0 : Int) ≤ 2147483647 by decide) hx).mp q; omega) G) (fun q => by
    rw [gs_0] at q
    exact kf (by have q2 := mt (gs_lt (show -2147483648 ≤ (0 : Int) ∧ (0 : Int) ≤ 2147483647 by decide) hx).mpr q; omega) G)
theorem sA_icmp_le {x z : Int} {off : Int} {tgt : Nat} (hd : decode y.2.1 pc = .ok (.if_icmp .le off, 3)) (ht : (pc : Int) + off = (tgt : Int)) (hx : -2147483648 ≤ x ∧ x ≤ 2147483647) (hz : -2147483648 ≤ z ∧ z ≤ 2147483647) (kt : x ≤ z → sA y d post (tgt) lv (st) (F) (A)) (kf : z < x → sA y d post (pc + 3) lv (st) (F) (A)) : sA y d post (pc) lv (gs_iv z :: gs_iv x :: st) (F) (A) := fun G => am_icmp_le hd ht (fun q => kt ((gs_le hx hz).mp q) G) (fun q => kf (by have q2 := mt (gs_le hx hz).mpr q; omega) G)
theorem sA_if_le {x : Int} {off : Int} {tgt : Nat} (hd : decode y.2.1 pc = .ok (.ifCond .le off, 3)) (ht : (pc : Int) + off = (tgt : Int)) (hx : -2147483648 ≤ x ∧ x ≤ 2147483647) (kt : x ≤ 0 → sA y d post (tgt) lv (st) (F) (A)) (kf : 0 < x → sA y d post (pc + 3) lv (st) (F) (A)) : sA y d post (pc) lv (gs_iv x :: st) (F) (A) := fun G => am_if_le hd ht (fun q => by
    rw [gs_0] at q
    exact kt (by have q2 := (gs_le hx (show -2147483648 ≤ (0 : Int) ∧ (0 : Int) ≤ 2147483647 by decide)).mp q; omega) G) (fun q => by
    rw [gs_0] at q
    exact kf (by have q2 := mt (gs_le hx (show -2147483648 ≤ (0 : Int) ∧ (0 : Int) ≤ 2147483647 by decide)).mpr q; omega) G)
theorem sA_icmpD {c : ClassFile.Cond} {x z : Int} {off : Int} {tgt : Nat} (hd : decode y.2.1 pc = .ok (.if_icmp c off, 3)) (ht : (pc : Int) + off = (tgt : Int)) (kt : sA y d post (tgt) lv (st) (F) (A)) (kf : sA y d post (pc + 3) lv (st) (F) (A)) : sA y d post (pc) lv (gs_iv z :: gs_iv x :: st) (F) (A) := fun G => am_icmp hd ht (fun _ => kt G) (fun _ => kf G)
theorem sA_ifD {c : ClassFile.Cond} {x : Int} {off : Int} {tgt : Nat} (hd : decode y.2.1 pc = .ok (.ifCond c off, 3)) (ht : (pc : Int) + off = (tgt : Int)) (kt : sA y d post (tgt) lv (st) (F) (A)) (kf : sA y d post (pc + 3) lv (st) (F) (A)) : sA y d post (pc) lv (gs_iv x :: st) (F) (A) := fun G => am_ifc hd ht (fun _ => kt G) (fun _ => kf G)
theorem sA_goto {off : Int} {tgt : Nat} (hd : decode y.2.1 pc = .ok (.goto off, 3)) (ht : (pc : Int) + off = (tgt : Int)) (kk : sA y d post (tgt) lv (st) (F) (A)) : sA y d post (pc) lv (st) (F) (A) := fun G => am_goto hd ht (kk G)
theorem sA_tblIn {dflt lo hi : Int} {offs : Array Int} {len : Nat} {x : Int} {off : Int} {tgt : Nat} (hd : decode y.2.1 pc = .ok (.tableswitch dflt lo hi offs, len)) (hx : -2147483648 ≤ x ∧ x ≤ 2147483647) (h1 : lo ≤ x ∧ x ≤ hi) (ho : offs[(x - lo).toNat]? = some off) (ht : (pc : Int) + off = (tgt : Int)) (kk : sA y d post (tgt) lv (st) (F) (A)) : sA y d post (pc) lv (gs_iv x :: st) (F) (A) := fun G => am_tblIn hd (by rw [gs_toI hx]; omega) (by rw [gs_toI hx]; omega) (by rw [gs_toI hx]; exact ho) ht (kk G)
theorem sA_tblOut {dflt lo hi : Int} {offs : Array Int} {len : Nat} {x : Int} {tgt : Nat} (hd : decode y.2.1 pc = .ok (.tableswitch dflt lo hi offs, len)) (hx : -2147483648 ≤ x ∧ x ≤ 2147483647) (h0 : x < lo ∨ hi < x) (ht : (pc : Int) + dflt = (tgt : Int)) (kk : sA y d post (tgt) lv (st) (F) (A)) : sA y d post (pc) lv (gs_iv x :: st) (F) (A) := fun G => am_tblOut hd (by rw [gs_toI hx]; exact h0) ht (kk G)
theorem sA_lookup {dflt : Int} {ps : Array (Int × Int)} {len : Nat} {x : Int} {off : Int} {tgt : Nat} (hd : decode y.2.1 pc = .ok (.lookupswitch dflt ps, len)) (hp : (ps.toList.zip (ps.toList.drop 1)).all (fun (a, next) => a.1 < next.1) = true) (hx : -2147483648 ≤ x ∧ x ≤ 2147483647) (ho : Op.lookupswitch.offset ps.toList dflt x = off) (ht : (pc : Int) + off = (tgt : Int)) (kk : sA y d post (tgt) lv (st) (F) (A)) : sA y d post (pc) lv (gs_iv x :: st) (F) (A) := fun G => am_lookup hd hp (by rw [gs_toI hx]; exact ho) ht (kk G)
theorem sA_geti {a ci j idx : Nat} {q : vw_C} {fs : List (Option Nat)} (hd : decode y.2.1 pc = .ok (.getfield idx, 3)) (hc : am_cl[ci]? = some q) (hj : j < q.2.2) (hlk : Cond.fieldLink y.1.cls idx (q.2.1 j).1 (q.2.1 j).2.1 (q.2.1 j).2.2.1 ∈ am_tbl) (ha : a < 122) (hs : gs_sh a = .inl (ci, fs)) (hf : fs[j]? = some none) (kk : sA y d post (pc + 3) lv (gs_iv (F a j) :: st) (F) (A)) : sA y d post (pc) lv (.ref a :: st) (F) (A) := fun G => am_get hd hc hj hlk ha (gs_en_obj F A hs) (by have e := gs_fl_int F a fs 0 j hf; rw [Nat.zero_add] at e; exact e) (kk G)
theorem sA_getr {a ci j idx r : Nat} {q : vw_C} {fs : List (Option Nat)} (hd : decode y.2.1 pc = .ok (.getfield idx, 3)) (hc : am_cl[ci]? = some q) (hj : j < q.2.2) (hlk : Cond.fieldLink y.1.cls idx (q.2.1 j).1 (q.2.1 j).2.1 (q.2.1 j).2.2.1 ∈ am_tbl) (ha : a < 122) (hs : gs_sh a = .inl (ci, fs)) (hf : fs[j]? = some (some r)) (kk : sA y d post (pc + 3) lv (.ref r :: st) (F) (A)) : sA y d post (pc) lv (.ref a :: st) (F) (A) := fun G => am_get hd hc hj hlk ha (gs_en_obj F A hs) (gs_fl_ref F a fs 0 j hf) (kk G)
theorem sA_put {a ci j idx : Nat} {q : vw_C} {fs : List (Option Nat)} {ty : FieldType} {z : Int} (hd : decode y.2.1 pc = .ok (.putfield idx, 3)) (hc : am_cl[ci]? = some q) (hj : j < q.2.2) (hlk : Cond.fieldLink y.1.cls idx (q.2.1 j).1 (q.2.1 j).2.1 (q.2.1 j).2.2.1 ∈ am_tbl) (hfin : (q.2.1 j).2.2.2 = false) (hty : parseFieldDescriptor (q.2.1 j).2.2.1 = some ty) (hnv : narrow ty (gs_iv z) = gs_iv z) (hfv : fits ty (gs_iv z) = true) (ha : a < 122) (hs : gs_sh a = .inl (ci, fs)) (hf : fs[j]? = some none) (kk : sA y d post (pc + 3) lv (st) (gs_up F a j z) (A)) : sA y d post (pc) lv (gs_iv z :: .ref a :: st) (F) (A) := fun G => am_put hd hc hj hlk hfin hty hnv hfv ha (gs_en_obj F A hs) (by rw [gs_fl_len]; exact (List.getElem?_eq_some_iff.mp hf).1) (by rw [gs_en_put F A z hs hf]; exact kk G)
theorem sA_iald {a n : Nat} {z : Int} (hd : decode y.2.1 pc = .ok (.iaload, 1)) (ha : a < 122) (hs : gs_sh a = .inr (.inl (0, n))) (hi : 0 ≤ z ∧ z < n) (hn : n ≤ 2147483647) (kk : sA y d post (pc + 1) lv (gs_iv (A a z.toNat) :: st) (F) (A)) : sA y d post (pc) lv (gs_iv z :: .ref a :: st) (F) (A) := fun G => am_iald hd ha (gs_en_ia F A hs) (gs_vp hi hn) (by rw [gs_toN (by omega)]; exact kk G)
theorem sA_iast {a n : Nat} {z x : Int} (hd : decode y.2.1 pc = .ok (.iastore, 1)) (ha : a < 122) (hs : gs_sh a = .inr (.inl (0, n))) (hi : 0 ≤ z ∧ z < n) (hn : n ≤ 2147483647) (kk : sA y d post (pc + 1) lv (st) (F) (gs_up A a z.toNat x)) : sA y d post (pc) lv (gs_iv x :: gs_iv z :: .ref a :: st) (F) (A) := fun G => am_iast hd ha (gs_en_ia F A hs) (gs_vp hi hn) (by rw [gs_toN (by omega), gs_en_ast F A x hs]; exact kk G)
theorem sA_lald {a n : Nat} {z : Int} (hd : decode y.2.1 pc = .ok (.laload, 1)) (ha : a < 122) (hs : gs_sh a = .inr (.inl (1, n))) (hi : 0 ≤ z ∧ z < n) (hn : n ≤ 2147483647) (kk : sA y d post (pc + 1) lv (gs_lv (A a z.toNat) :: st) (F) (A)) : sA y d post (pc) lv (gs_iv z :: .ref a :: st) (F) (A) := fun G => am_lald hd ha (gs_en_la F A hs) (gs_vp hi hn) (by rw [gs_toN (by omega)]; exact kk G)
theorem sA_last {a n : Nat} {z x : Int} (hd : decode y.2.1 pc = .ok (.lastore, 1)) (ha : a < 122) (hs : gs_sh a = .inr (.inl (1, n))) (hi : 0 ≤ z ∧ z < n) (hn : n ≤ 2147483647) (kk : sA y d post (pc + 1) lv (st) (F) (gs_up A a z.toNat x)) : sA y d post (pc) lv (gs_lv x :: gs_iv z :: .ref a :: st) (F) (A) := fun G => am_last hd ha (gs_en_la F A hs) (gs_vp hi hn) (by rw [gs_toN (by omega), gs_en_last F A x hs]; exact kk G)
theorem sA_aald {a t n b s : Nat} {z : Int} (hd : decode y.2.1 pc = .ok (.aaload, 1)) (h1 : 2 ≤ t) (h2 : t < 5) (ha : a < 122) (hs : gs_sh a = .inr (.inr (t, n, b, s))) (hi : 0 ≤ z ∧ z < n) (hn : n ≤ 2147483647) (kk : sA y d post (pc + 1) lv (.ref (b + s * z.toNat) :: st) (F) (A)) : sA y d post (pc) lv (gs_iv z :: .ref a :: st) (F) (A) := fun G => am_aald hd h1 h2 ha (gs_en_qa F A hs) (gs_vp hi hn) (b := b + s * z.toNat) (by rw [gs_toN (by omega), if_pos (by omega)]) (kk G)
theorem sA_alen {a n : Nat} (hd : decode y.2.1 pc = .ok (.arraylength, 1)) (ha : a < 122) (hs : gs_sh a = .inr (.inl (0, n))) (kk : sA y d post (pc + 1) lv (gs_iv (n : Int) :: st) (F) (A)) : sA y d post (pc) lv (.ref a :: st) (F) (A) := fun G => am_alen (t := 0) hd (by decide) ha (gs_en_ia F A hs) (by have k := kk G; unfold gs_iv at k; rw [Int32.ofInt_eq_ofNat] at k; exact k)
theorem sA_alenq {a t n b s : Nat} (hd : decode y.2.1 pc = .ok (.arraylength, 1)) (h2 : t < 5) (ha : a < 122) (hs : gs_sh a = .inr (.inr (t, n, b, s))) (kk : sA y d post (pc + 1) lv (gs_iv (n : Int) :: st) (F) (A)) : sA y d post (pc) lv (.ref a :: st) (F) (A) := fun G => am_alen hd h2 ha (gs_en_qa F A hs) (by have k := kk G; unfold gs_iv at k; rw [Int32.ofInt_eq_ofNat] at k; exact k)
theorem sA_gets {idx : Nat} (hd : decode y.2.1 pc = .ok (.getstatic idx, 3)) (hlk : Cond.fieldLink y.1.cls idx RX1 "PLACES" "[I" ∈ am_tbl) (kk : sA y d post (pc + 3) lv (.float 4294967295 :: st) (F) (A)) : sA y d post (pc) lv (st) (F) (A) := fun G => am_gets hd hlk (kk G)
theorem sA_plald {z : Int} (hd : decode y.2.1 pc = .ok (.iaload, 1)) (hi : 0 ≤ z ∧ z < 13) (kk : sA y d post (pc + 1) lv (gs_iv (gs_t (am_PL z.toNat)) :: st) (F) (A)) : sA y d post (pc) lv (gs_iv z :: .float 4294967295 :: st) (F) (A) := fun G => am_plald hd (gs_vp (n := 13) (by omega) (by decide)) (by have k := kk G; unfold gs_iv at k; rw [gs_t_iv] at k; rw [gs_toN (by omega)]; exact k)
theorem sA_plen (hd : decode y.2.1 pc = .ok (.arraylength, 1)) (kk : sA y d post (pc + 1) lv (gs_iv 13 :: st) (F) (A)) : sA y d post (pc) lv (.float 4294967295 :: st) (F) (A) := fun G => am_plen hd (kk G)
theorem sA_copy {a b n1 n2 idx : Nat} {sp dp x : Int} (hd : decode y.2.1 pc = .ok (.invokestatic idx, 3)) (hlk : Cond.methodLink y.1.cls idx arraycopyName ∈ am_tbl) (hw : Cond.native arraycopyName ∈ am_tbl ∧ Cond.static arraycopyName ∈ am_tbl ∧ Cond.initialized "java/lang/System" ∈ am_tbl) (ha : a < 122) (hs : gs_sh a = .inr (.inl (0, n1))) (hb : b < 122) (hsb : gs_sh b = .inr (.inl (0, n2))) (h1 : 0 ≤ sp) (h2 : 0 ≤ dp) (h3 : 0 ≤ x) (h4 : sp + x ≤ n1) (h5 : dp + x ≤ n2) (hn1 : n1 ≤ 2147483647) (hn2 : n2 ≤ 2147483647) (hdd : 1 ≤ d) (hrest : (st.map fun v => v.category).sum ≤ 20) (kk : sA y d post (pc + 3) lv (st) (F) (gs_cp A a b sp.toNat dp.toNat x.toNat)) : sA y d post (pc) lv (gs_iv x :: gs_iv dp :: .ref b :: gs_iv sp :: .ref a :: st) (F) (A) := fun G =>
  am_copy hd hlk hw.1 hw.2.1 hw.2.2 ha (gs_en_ia F A hs) hb (gs_en_ia F A hsb) (by rw [gs_0, gs_lt (by omega) (by omega)]; omega) (by rw [gs_0, gs_lt (by omega) (by omega)]; omega) (by rw [gs_0, gs_lt (by omega) (by omega)]; omega) (by rw [gs_toN (by omega), gs_toN (by omega)]; omega) (by rw [gs_toN (by omega), gs_toN (by omega)]; omega) hdd hrest (by rw [gs_toN (by omega), gs_toN (by omega), gs_toN (by omega), gs_en_cp F A hsb]; exact kk G)
theorem sA_callV {y2 : am_M} {n2 d2 idx a ci : Nat} {q : vw_C} {fs : List (Option Nat)} {as rest : List Value} {post2 : gs_T} (hd : decode y.2.1 pc = .ok (.invokevirtual idx, 3)) (ok : am_okM y2 n2 ∧ Cond.instanceMethod y2.1 ∈ am_tbl ∧ Cond.selects y2.1.cls y2.1 y2.1 ∈ am_tbl) (hlk : Cond.methodLink y.1.cls idx y2.1 ∈ am_tbl) (hc : am_cl[ci]? = some q) (hcq : q.1 = y2.1.cls) (ha : a < 122) (hs : gs_sh a = .inl (ci, fs)) (hst : st = as.reverse ++ .ref a :: rest) (hn2 : as.length = n2) (hrest : (rest.map fun v => v.category).sum ≤ 8) (hd2 : d2 + 1 ≤ d)
    (hC : sC y2 d2 (.ref a :: as) F A post2) (kk : ∀ r F' A', post2 r F' A' → sA y d post (pc + 3) lv (r.toList ++ rest) F' A') : sA y d post (pc) lv (st) (F) (A) := fun G =>
  am_callV (mc2 := 0) (ms2 := 0) hd ok.1 hlk ok.2.1 ok.2.2 hc hcq ha (gs_en_obj F A hs) hst hn2 hrest hd2 (Nat.le_refl _) (Nat.le_refl _) (hC G) (fun r N' h' hp => by
    obtain ⟨F', A', e1, e2, e3⟩ := hp
    subst e1 e2
    exact kk r F' A' e3 G)
theorem sA_callS {y2 : am_M} {n2 d2 idx : Nat} {as rest : List Value} {post2 : gs_T} (hd : decode y.2.1 pc = .ok (.invokestatic idx, 3)) (ok : am_okM y2 n2 ∧ Cond.static y2.1 ∈ am_tbl) (hlk : Cond.methodLink y.1.cls idx y2.1 ∈ am_tbl) (hst : st = as.reverse ++ rest) (hn2 : as.length = n2) (hrest : (rest.map fun v => v.category).sum ≤ 8) (hd2 : d2 + 1 ≤ d)
    (hC : sC y2 d2 as F A post2) (kk : ∀ r F' A', post2 r F' A' → sA y d post (pc + 3) lv (r.toList ++ rest) F' A') : sA y d post (pc) lv (st) (F) (A) := fun G =>
  am_callS (mc2 := 0) (ms2 := 0) hd ok.1 hlk ok.2 hst hn2 hrest hd2 (Nat.le_refl _) (Nat.le_refl _) (hC G) (fun r N' h' hp => by
    obtain ⟨F', A', e1, e2, e3⟩ := hp
    subst e1 e2
    exact kk r F' A' e3 G)
theorem sA_iret {z : Int} (hd : decode y.2.1 pc = .ok (.ireturn, 1)) (hrt : y.2.2.2 = some .int) (hp : post (some (gs_iv z)) F A) : sA y d post (pc) lv ([gs_iv z]) (F) (A) := fun G => am_iret (ty := .int) hd hrt rfl (Nat.le_refl _) (Nat.le_refl _) ⟨F, A, rfl, rfl, hp⟩
theorem gs_bool {z : Int} (h : z = 0 ∨ z = 1) : narrow .boolean (gs_iv z) = gs_iv z := by rcases h with rfl | rfl <;> rfl
theorem sA_bret {z : Int} (hd : decode y.2.1 pc = .ok (.ireturn, 1)) (hrt : y.2.2.2 = some .boolean) (hz : z = 0 ∨ z = 1) (hp : post (some (gs_iv z)) F A) : sA y d post (pc) lv ([gs_iv z]) (F) (A) := fun G => am_iret (ty := .boolean) hd hrt (gs_bool hz) (Nat.le_refl _) (Nat.le_refl _) ⟨F, A, rfl, rfl, hp⟩
theorem sA_lret {x : Int64} (hd : decode y.2.1 pc = .ok (.lreturn, 1)) (hrt : y.2.2.2 = some .long) (hp : post (some (.long x)) F A) : sA y d post (pc) lv ([.long x]) (F) (A) := fun G => am_lret hd hrt (Nat.le_refl _) (Nat.le_refl _) ⟨F, A, rfl, rfl, hp⟩
theorem sA_vret (hd : decode y.2.1 pc = .ok (.return_, 1)) (hrt : y.2.2.2 = none) (hp : post none F A) : sA y d post (pc) lv ([]) (F) (A) := fun G => am_vret hd hrt (Nat.le_refl _) (Nat.le_refl _) ⟨F, A, rfl, rfl, hp⟩
theorem sC_of {n2 : Nat} {as : List Value} (ok : am_okM y n2) (hlen : (lg_sl as).length ≤ y.2.2.1) (kk : sA y d post 0 (lv_args 0 as) [] F A) : sC y d as F A post := fun G => am_ofA ok hlen (kk G)
theorem sC.mono {as : List Value} {post2 : gs_T} (hC : sC y d as F A post) (hp : ∀ r F' A', post r F' A' → post2 r F' A') : sC y d as F A post2 := fun G => (hC G).mono (fun r N' h' q => by
  obtain ⟨F', A', e1, e2, e3⟩ := q
  exact ⟨F', A', e1, e2, hp _ _ _ e3⟩)
theorem sA_mmax {x z : Int} {idx : Nat} (hd : decode y.2.1 pc = .ok (.invokestatic idx, 3)) (hlk : Cond.methodLink y.1.cls idx Lib.Math.max.name ∈ am_tbl) (hdd : 1 ≤ d) (hx : -2147483648 ≤ x ∧ x ≤ 2147483647) (hz : -2147483648 ≤ z ∧ z ≤ 2147483647) (hrest : (st.map fun v => v.category).sum ≤ 20) (kk : ∀ w : Int, (w = x ∨ w = z) ∧ x ≤ w ∧ z ≤ w → sA y d post (pc + 3) lv (gs_iv w :: st) (F) (A)) : sA y d post (pc) lv (gs_iv z :: gs_iv x :: st) (F) (A) := fun G => am_mmax hd hlk hdd (Nat.le_refl _) (Nat.le_refl _) hrest (by
  by_cases q : x < z
  · rw [if_pos ((gs_lt hx hz).mpr q)]
    exact kk z ⟨.inr rfl, by omega⟩ G
  · rw [if_neg (fun w => q ((gs_lt hx hz).mp w))]
    exact kk x ⟨.inl rfl, by omega⟩ G)
theorem sA_mmin {x z : Int} {idx : Nat} (hd : decode y.2.1 pc = .ok (.invokestatic idx, 3)) (hlk : Cond.methodLink y.1.cls idx Lib.Math.min.name ∈ am_tbl) (hdd : 1 ≤ d) (hx : -2147483648 ≤ x ∧ x ≤ 2147483647) (hz : -2147483648 ≤ z ∧ z ≤ 2147483647) (hrest : (st.map fun v => v.category).sum ≤ 20) (kk : ∀ w : Int, (w = x ∨ w = z) ∧ w ≤ x ∧ w ≤ z → sA y d post (pc + 3) lv (gs_iv w :: st) (F) (A)) : sA y d post (pc) lv (gs_iv z :: gs_iv x :: st) (F) (A) := fun G => am_mmin hd hlk hdd (Nat.le_refl _) (Nat.le_refl _) hrest (by
  by_cases q : z < x
  · rw [if_pos ((gs_lt hz hx).mpr q)]
    exact kk z ⟨.inr rfl, by omega⟩ G
  · rw [if_neg (fun w => q ((gs_lt hz hx).mp w))]
    exact kk x ⟨.inl rfl, by omega⟩ G)
theorem sA_mabs {x : Int} {idx : Nat} (hd : decode y.2.1 pc = .ok (.invokestatic idx, 3)) (hlk : Cond.methodLink y.1.cls idx Lib.Math.abs.name ∈ am_tbl) (hdd : 1 ≤ d) (hx : -2147483648 ≤ x ∧ x ≤ 2147483647) (hrest : (st.map fun v => v.category).sum ≤ 20) (kk : ∀ w : Int, (0 ≤ x ∧ w = x) ∨ (x < 0 ∧ w = 0 - x) → sA y d post (pc + 3) lv (gs_iv w :: st) (F) (A)) : sA y d post (pc) lv (gs_iv x :: st) (F) (A) := fun G => am_mabs hd hlk hdd (Nat.le_refl _) (Nat.le_refl _) hrest (by
  by_cases q : 0 ≤ x
  · rw [if_pos (by rw [gs_0]; exact (gs_le (by omega) hx).mpr q)]
    exact kk x (.inl ⟨q, rfl⟩) G
  · rw [if_neg (fun w => q ((gs_le (by omega) hx).mp (by rw [gs_0] at w; exact w)))]
    have k := kk (0 - x) (.inr ⟨by omega, rfl⟩) G
    unfold gs_iv at k
    rw [Int32.ofInt_sub] at k
    exact k)
theorem sA_idivN {x z : Int} (hd : decode y.2.1 pc = .ok (.idiv, 1)) (h0 : 0 ≤ x) (hx : x ≤ 2147483647) (hz : 0 < z ∧ z ≤ 2147483647) (kk : sA y d post (pc + 1) lv (gs_iv (x / z) :: st) (F) (A)) : sA y d post (pc) lv (gs_iv z :: gs_iv x :: st) (F) (A) := sA_idiv hd (by omega) (by omega) (by omega) (by rw [Int.tdiv_eq_ediv_of_nonneg h0]; exact kk)
theorem sA_iremN {x z : Int} (hd : decode y.2.1 pc = .ok (.irem, 1)) (h0 : 0 ≤ x) (hx : x ≤ 2147483647) (hz : 0 < z ∧ z ≤ 2147483647) (kk : sA y d post (pc + 1) lv (gs_iv (x % z) :: st) (F) (A)) : sA y d post (pc) lv (gs_iv z :: gs_iv x :: st) (F) (A) := sA_irem hd (by omega) (by omega) (by omega) (by rw [Int.tmod_eq_emod_of_nonneg h0]; exact kk)
theorem sA_laddR {x z : Int64} (hd : decode y.2.1 pc = .ok (.ladd, 1)) (kk : sA y d post (pc + 1) lv (.long (x + z) :: st) (F) (A)) : sA y d post (pc) lv (.long z :: .long x :: st) (F) (A) := fun G => am_ladd hd (kk G)
theorem sA_lsubR {x z : Int64} (hd : decode y.2.1 pc = .ok (.lsub, 1)) (kk : sA y d post (pc + 1) lv (.long (x - z) :: st) (F) (A)) : sA y d post (pc) lv (.long z :: .long x :: st) (F) (A) := fun G => am_lsub hd (kk G)
theorem sA_lmulR {x z : Int64} (hd : decode y.2.1 pc = .ok (.lmul, 1)) (kk : sA y d post (pc + 1) lv (.long (x * z) :: st) (F) (A)) : sA y d post (pc) lv (.long z :: .long x :: st) (F) (A) := fun G => am_lmul hd (kk G)
theorem gs_l_rng (x : Int64) : -9223372036854775808 ≤ x.toInt ∧ x.toInt ≤ 9223372036854775807 := by
  have h1 := Int64.le_toInt x
  have h2 := Int64.toInt_lt x
  omega
theorem sA_lastR {a n : Nat} {z : Int} {x : Int64} (hd : decode y.2.1 pc = .ok (.lastore, 1)) (ha : a < 122) (hs : gs_sh a = .inr (.inl (1, n))) (hi : 0 ≤ z ∧ z < n) (hn : n ≤ 2147483647) (kk : sA y d post (pc + 1) lv (st) (F) (gs_up A a z.toNat x.toInt)) : sA y d post (pc) lv (.long x :: gs_iv z :: .ref a :: st) (F) (A) := by
  have e : Value.long x = gs_lv x.toInt := by unfold gs_lv; rw [Int64.ofInt_toInt]
  rw [e]
  exact sA_last hd ha hs hi hn kk
end
end
