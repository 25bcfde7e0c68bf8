noncomputable section
set_option maxRecDepth 1000000 in
theorem p1_k26_0_0 : p1_s2 (p1_chk 94 188) p1_t26 0 0 = true := by decide +kernel
set_option maxRecDepth 1000000 in
theorem p1_k26_1_0 : p1_s2 (p1_chk 94 188) p1_t26 1 0 = true := by decide +kernel
set_option maxRecDepth 1000000 in
theorem p1_k26_1_1 : p1_s2 (p1_chk 94 188) p1_t26 1 1 = true := by decide +kernel
set_option maxRecDepth 1000000 in
theorem p1_k26_1_2 : p1_s2 (p1_chk 94 188) p1_t26 1 2 = true := by decide +kernel
set_option maxRecDepth 1000000 in
theorem p1_k26_1_3 : p1_s2 (p1_chk 94 188) p1_t26 1 3 = true := by decide +kernel
set_option maxRecDepth 1000000 in
theorem p1_k26_1_4 : p1_s2 (p1_chk 94 188) p1_t26 1 4 = true := by decide +kernel
set_option maxRecDepth 1000000 in
theorem p1_k26_1_5 : p1_s2 (p1_chk 94 188) p1_t26 1 5 = true := by decide +kernel
set_option maxRecDepth 1000000 in
theorem p1_k26_1_6 : p1_s2 (p1_chk 94 188) p1_t26 1 6 = true := by decide +kernel
set_option maxRecDepth 1000000 in
theorem p1_k26_2_0 : p1_s2 (p1_chk 94 188) p1_t26 2 0 = true := by decide +kernel
set_option maxRecDepth 1000000 in
theorem p1_k26_2_1 : p1_s2 (p1_chk 94 188) p1_t26 2 1 = true := by decide +kernel
set_option maxRecDepth 1000000 in
theorem p1_k26_2_2 : p1_s2 (p1_chk 94 188) p1_t26 2 2 = true := by decide +kernel
set_option maxRecDepth 1000000 in
theorem p1_k26_2_3 : p1_s2 (p1_chk 94 188) p1_t26 2 3 = true := by decide +kernel
set_option maxRecDepth 1000000 in
theorem p1_k26_2_4 : p1_s2 (p1_chk 94 188) p1_t26 2 4 = true := by decide +kernel
set_option maxRecDepth 1000000 in
theorem p1_k26_2_5 : p1_s2 (p1_chk 94 188) p1_t26 2 5 = true := by decide +kernel
set_option maxRecDepth 1000000 in
theorem p1_k26_2_6 : p1_s2 (p1_chk 94 188) p1_t26 2 6 = true := by decide +kernel
set_option maxRecDepth 1000000 in
theorem p1_k26_3_0 : p1_s2 (p1_chk 94 188) p1_t26 3 0 = true := by decide +kernel
set_option maxRecDepth 1000000 in
theorem p1_k26_3_1 : p1_s2 (p1_chk 94 188) p1_t26 3 1 = true := by decide +kernel
set_option maxRecDepth 1000000 in
theorem p1_k26_3_2 : p1_s2 (p1_chk 94 188) p1_t26 3 2 = true := by decide +kernel
set_option maxRecDepth 1000000 in
theorem p1_k26_3_3 : p1_s2 (p1_chk 94 188) p1_t26 3 3 = true := by decide +kernel
set_option maxRecDepth 1000000 in
theorem p1_k26_3_4 : p1_s2 (p1_chk 94 188) p1_t26 3 4 = true := by decide +kernel
set_option maxRecDepth 1000000 in
theorem p1_k26_3_5 : p1_s2 (p1_chk 94 188) p1_t26 3 5 = true := by decide +kernel
set_option maxRecDepth 1000000 in
theorem p1_k26_3_6 : p1_s2 (p1_chk 94 188) p1_t26 3 6 = true := by decide +kernel
set_option maxRecDepth 1000000 in
theorem p1_k26_4_0 : p1_s2 (p1_chk 94 188) p1_t26 4 0 = true := by decide +kernel
set_option maxRecDepth 1000000 in
theorem p1_k26_4_1 : p1_s2 (p1_chk 94 188) p1_t26 4 1 = true := by decide +kernel
set_option maxRecDepth 1000000 in
theorem p1_k26_4_2 : p1_s2 (p1_chk 94 188) p1_t26 4 2 = true := by decide +kernel
set_option maxRecDepth 1000000 in
theorem p1_k26_4_3 : p1_s2 (p1_chk 94 188) p1_t26 4 3 = true := by decide +kernel
set_option maxRecDepth 1000000 in
theorem p1_k26_4_4 : p1_s2 (p1_chk 94 188) p1_t26 4 4 = true := by decide +kernel
set_option maxRecDepth 1000000 in
theorem p1_k26_4_5 : p1_s2 (p1_chk 94 188) p1_t26 4 5 = true := by decide +kernel
set_option maxRecDepth 1000000 in
theorem p1_k26_4_6 : p1_s2 (p1_chk 94 188) p1_t26 4 6 = true := by decide +kernel
set_option maxRecDepth 1000000 in
theorem p1_k26_5_0 : p1_s2 (p1_chk 94 188) p1_t26 5 0 = true := by decide +kernel
set_option maxRecDepth 1000000 in
theorem p1_k26_5_1 : p1_s2 (p1_chk 94 188) p1_t26 5 1 = true := by decide +kernel
set_option maxRecDepth 1000000 in
theorem p1_k26_5_2 : p1_s2 (p1_chk 94 188) p1_t26 5 2 = true := by decide +kernel
set_option maxRecDepth 1000000 in
theorem p1_k26_5_3 : p1_s2 (p1_chk 94 188) p1_t26 5 3 = true := by decide +kernel
set_option maxRecDepth 1000000 in
theorem p1_k26_5_4 : p1_s2 (p1_chk 94 188) p1_t26 5 4 = true := by decide +kernel
set_option maxRecDepth 1000000 in
theorem p1_k26_5_5 : p1_s2 (p1_chk 94 188) p1_t26 5 5 = true := by decide +kernel
set_option maxRecDepth 1000000 in
theorem p1_k26_5_6 : p1_s2 (p1_chk 94 188) p1_t26 5 6 = true := by decide +kernel
set_option maxRecDepth 1000000 in
theorem p1_k26_6_0 : p1_s2 (p1_chk 94 188) p1_t26 6 0 = true := by decide +kernel
theorem p1_k26 : p1_a2 (p1_chk 94 188) p1_t26 = true := p1_join2 (fun i q hi j hj => by
  match i, hi with
  | 0, hi =>
    cases hi
    match j, hj with
    | 0, _ => exact p1_k26_0_0
    | j + 1, hj => exact absurd hj (by simp)
  | 1, hi =>
    cases hi
    match j, hj with
    | 0, _ => exact p1_k26_1_0
    | 1, _ => exact p1_k26_1_1
    | 2, _ => exact p1_k26_1_2
    | 3, _ => exact p1_k26_1_3
    | 4, _ => exact p1_k26_1_4
    | 5, _ => exact p1_k26_1_5
    | 6, _ => exact p1_k26_1_6
    | j + 7, hj => exact absurd hj (by simp)
  | 2, hi =>
    cases hi
    match j, hj with
    | 0, _ => exact p1_k26_2_0
    | 1, _ => exact p1_k26_2_1
    | 2, _ => exact p1_k26_2_2
    | 3, _ => exact p1_k26_2_3
    | 4, _ => exact p1_k26_2_4
    | 5, _ => exact p1_k26_2_5
    | 6, _ => exact p1_k26_2_6
    | j + 7, hj => exact absurd hj (by simp)
  | 3, hi =>
    cases hi
    match j, hj with
    | 0, _ => exact p1_k26_3_0
    | 1, _ => exact p1_k26_3_1
    | 2, _ => exact p1_k26_3_2
    | 3, _ => exact p1_k26_3_3
    | 4, _ => exact p1_k26_3_4
    | 5, _ => exact p1_k26_3_5
    | 6, _ => exact p1_k26_3_6
    | j + 7, hj => exact absurd hj (by simp)
  | 4, hi =>
    cases hi
    match j, hj with
    | 0, _ => exact p1_k26_4_0
    | 1, _ => exact p1_k26_4_1
    | 2, _ => exact p1_k26_4_2
    | 3, _ => exact p1_k26_4_3
    | 4, _ => exact p1_k26_4_4
    | 5, _ => exact p1_k26_4_5
    | 6, _ => exact p1_k26_4_6
    | j + 7, hj => exact absurd hj (by simp)
  | 5, hi =>
    cases hi
    match j, hj with
    | 0, _ => exact p1_k26_5_0
    | 1, _ => exact p1_k26_5_1
    | 2, _ => exact p1_k26_5_2
    | 3, _ => exact p1_k26_5_3
    | 4, _ => exact p1_k26_5_4
    | 5, _ => exact p1_k26_5_5
    | 6, _ => exact p1_k26_5_6
    | j + 7, hj => exact absurd hj (by simp)
  | 6, hi =>
    cases hi
    match j, hj with
    | 0, _ => exact p1_k26_6_0
    | j + 1, hj => exact absurd hj (by simp)
  | i + 7, hi => simp [p1_t26] at hi)
end
