noncomputable section
set_option maxRecDepth 1000000 in
theorem p1_k24_0_0 : p1_s2 (p1_chk 92 183) p1_t24 0 0 = true := by decide +kernel
set_option maxRecDepth 1000000 in
theorem p1_k24_1_0 : p1_s2 (p1_chk 92 183) p1_t24 1 0 = true := by decide +kernel
set_option maxRecDepth 1000000 in
theorem p1_k24_1_1 : p1_s2 (p1_chk 92 183) p1_t24 1 1 = true := by decide +kernel
set_option maxRecDepth 1000000 in
theorem p1_k24_1_2 : p1_s2 (p1_chk 92 183) p1_t24 1 2 = true := by decide +kernel
set_option maxRecDepth 1000000 in
theorem p1_k24_1_3 : p1_s2 (p1_chk 92 183) p1_t24 1 3 = true := by decide +kernel
set_option maxRecDepth 1000000 in
theorem p1_k24_1_4 : p1_s2 (p1_chk 92 183) p1_t24 1 4 = true := by decide +kernel
set_option maxRecDepth 1000000 in
theorem p1_k24_1_5 : p1_s2 (p1_chk 92 183) p1_t24 1 5 = true := by decide +kernel
set_option maxRecDepth 1000000 in
theorem p1_k24_1_6 : p1_s2 (p1_chk 92 183) p1_t24 1 6 = true := by decide +kernel
set_option maxRecDepth 1000000 in
theorem p1_k24_1_7 : p1_s2 (p1_chk 92 183) p1_t24 1 7 = true := by decide +kernel
set_option maxRecDepth 1000000 in
theorem p1_k24_1_8 : p1_s2 (p1_chk 92 183) p1_t24 1 8 = true := by decide +kernel
set_option maxRecDepth 1000000 in
theorem p1_k24_1_9 : p1_s2 (p1_chk 92 183) p1_t24 1 9 = true := by decide +kernel
set_option maxRecDepth 1000000 in
theorem p1_k24_1_10 : p1_s2 (p1_chk 92 183) p1_t24 1 10 = true := by decide +kernel
set_option maxRecDepth 1000000 in
theorem p1_k24_1_11 : p1_s2 (p1_chk 92 183) p1_t24 1 11 = true := by decide +kernel
set_option maxRecDepth 1000000 in
theorem p1_k24_1_12 : p1_s2 (p1_chk 92 183) p1_t24 1 12 = true := by decide +kernel
set_option maxRecDepth 1000000 in
theorem p1_k24_1_13 : p1_s2 (p1_chk 92 183) p1_t24 1 13 = true := by decide +kernel
set_option maxRecDepth 1000000 in
theorem p1_k24_1_14 : p1_s2 (p1_chk 92 183) p1_t24 1 14 = true := by decide +kernel
set_option maxRecDepth 1000000 in
theorem p1_k24_1_15 : p1_s2 (p1_chk 92 183) p1_t24 1 15 = true := by decide +kernel
set_option maxRecDepth 1000000 in
theorem p1_k24_1_16 : p1_s2 (p1_chk 92 183) p1_t24 1 16 = true := by decide +kernel
set_option maxRecDepth 1000000 in
theorem p1_k24_1_17 : p1_s2 (p1_chk 92 183) p1_t24 1 17 = true := by decide +kernel
set_option maxRecDepth 1000000 in
theorem p1_k24_1_18 : p1_s2 (p1_chk 92 183) p1_t24 1 18 = true := by decide +kernel
set_option maxRecDepth 1000000 in
theorem p1_k24_1_19 : p1_s2 (p1_chk 92 183) p1_t24 1 19 = true := by decide +kernel
set_option maxRecDepth 1000000 in
theorem p1_k24_1_20 : p1_s2 (p1_chk 92 183) p1_t24 1 20 = true := by decide +kernel
set_option maxRecDepth 1000000 in
theorem p1_k24_1_21 : p1_s2 (p1_chk 92 183) p1_t24 1 21 = true := by decide +kernel
set_option maxRecDepth 1000000 in
theorem p1_k24_1_22 : p1_s2 (p1_chk 92 183) p1_t24 1 22 = true := by decide +kernel
set_option maxRecDepth 1000000 in
theorem p1_k24_1_23 : p1_s2 (p1_chk 92 183) p1_t24 1 23 = true := by decide +kernel
set_option maxRecDepth 1000000 in
theorem p1_k24_1_24 : p1_s2 (p1_chk 92 183) p1_t24 1 24 = true := by decide +kernel
set_option maxRecDepth 1000000 in
theorem p1_k24_1_25 : p1_s2 (p1_chk 92 183) p1_t24 1 25 = true := by decide +kernel
set_option maxRecDepth 1000000 in
theorem p1_k24_1_26 : p1_s2 (p1_chk 92 183) p1_t24 1 26 = true := by decide +kernel
set_option maxRecDepth 1000000 in
theorem p1_k24_2_0 : p1_s2 (p1_chk 92 183) p1_t24 2 0 = true := by decide +kernel
set_option maxRecDepth 1000000 in
theorem p1_k24_2_1 : p1_s2 (p1_chk 92 183) p1_t24 2 1 = true := by decide +kernel
set_option maxRecDepth 1000000 in
theorem p1_k24_2_2 : p1_s2 (p1_chk 92 183) p1_t24 2 2 = true := by decide +kernel
set_option maxRecDepth 1000000 in
theorem p1_k24_2_3 : p1_s2 (p1_chk 92 183) p1_t24 2 3 = true := by decide +kernel
set_option maxRecDepth 1000000 in
theorem p1_k24_2_4 : p1_s2 (p1_chk 92 183) p1_t24 2 4 = true := by decide +kernel
set_option maxRecDepth 1000000 in
theorem p1_k24_2_5 : p1_s2 (p1_chk 92 183) p1_t24 2 5 = true := by decide +kernel
set_option maxRecDepth 1000000 in
theorem p1_k24_2_6 : p1_s2 (p1_chk 92 183) p1_t24 2 6 = true := by decide +kernel
set_option maxRecDepth 1000000 in
theorem p1_k24_2_7 : p1_s2 (p1_chk 92 183) p1_t24 2 7 = true := by decide +kernel
set_option maxRecDepth 1000000 in
theorem p1_k24_2_8 : p1_s2 (p1_chk 92 183) p1_t24 2 8 = true := by decide +kernel
set_option maxRecDepth 1000000 in
theorem p1_k24_2_9 : p1_s2 (p1_chk 92 183) p1_t24 2 9 = true := by decide +kernel
set_option maxRecDepth 1000000 in
theorem p1_k24_2_10 : p1_s2 (p1_chk 92 183) p1_t24 2 10 = true := by decide +kernel
set_option maxRecDepth 1000000 in
theorem p1_k24_2_11 : p1_s2 (p1_chk 92 183) p1_t24 2 11 = true := by decide +kernel
set_option maxRecDepth 1000000 in
theorem p1_k24_2_12 : p1_s2 (p1_chk 92 183) p1_t24 2 12 = true := by decide +kernel
set_option maxRecDepth 1000000 in
theorem p1_k24_2_13 : p1_s2 (p1_chk 92 183) p1_t24 2 13 = true := by decide +kernel
set_option maxRecDepth 1000000 in
theorem p1_k24_2_14 : p1_s2 (p1_chk 92 183) p1_t24 2 14 = true := by decide +kernel
set_option maxRecDepth 1000000 in
theorem p1_k24_2_15 : p1_s2 (p1_chk 92 183) p1_t24 2 15 = true := by decide +kernel
set_option maxRecDepth 1000000 in
theorem p1_k24_2_16 : p1_s2 (p1_chk 92 183) p1_t24 2 16 = true := by decide +kernel
set_option maxRecDepth 1000000 in
theorem p1_k24_2_17 : p1_s2 (p1_chk 92 183) p1_t24 2 17 = true := by decide +kernel
set_option maxRecDepth 1000000 in
theorem p1_k24_2_18 : p1_s2 (p1_chk 92 183) p1_t24 2 18 = true := by decide +kernel
set_option maxRecDepth 1000000 in
theorem p1_k24_2_19 : p1_s2 (p1_chk 92 183) p1_t24 2 19 = true := by decide +kernel
set_option maxRecDepth 1000000 in
theorem p1_k24_2_20 : p1_s2 (p1_chk 92 183) p1_t24 2 20 = true := by decide +kernel
set_option maxRecDepth 1000000 in
theorem p1_k24_2_21 : p1_s2 (p1_chk 92 183) p1_t24 2 21 = true := by decide +kernel
set_option maxRecDepth 1000000 in
theorem p1_k24_2_22 : p1_s2 (p1_chk 92 183) p1_t24 2 22 = true := by decide +kernel
set_option maxRecDepth 1000000 in
theorem p1_k24_2_23 : p1_s2 (p1_chk 92 183) p1_t24 2 23 = true := by decide +kernel
set_option maxRecDepth 1000000 in
theorem p1_k24_2_24 : p1_s2 (p1_chk 92 183) p1_t24 2 24 = true := by decide +kernel
set_option maxRecDepth 1000000 in
theorem p1_k24_2_25 : p1_s2 (p1_chk 92 183) p1_t24 2 25 = true := by decide +kernel
set_option maxRecDepth 1000000 in
theorem p1_k24_2_26 : p1_s2 (p1_chk 92 183) p1_t24 2 26 = true := by decide +kernel
set_option maxRecDepth 1000000 in
theorem p1_k24_3_0 : p1_s2 (p1_chk 92 183) p1_t24 3 0 = true := by decide +kernel
set_option maxRecDepth 1000000 in
theorem p1_k24_3_1 : p1_s2 (p1_chk 92 183) p1_t24 3 1 = true := by decide +kernel
set_option maxRecDepth 1000000 in
theorem p1_k24_3_2 : p1_s2 (p1_chk 92 183) p1_t24 3 2 = true := by decide +kernel
set_option maxRecDepth 1000000 in
theorem p1_k24_3_3 : p1_s2 (p1_chk 92 183) p1_t24 3 3 = true := by decide +kernel
set_option maxRecDepth 1000000 in
theorem p1_k24_3_4 : p1_s2 (p1_chk 92 183) p1_t24 3 4 = true := by decide +kernel
set_option maxRecDepth 1000000 in
theorem p1_k24_3_5 : p1_s2 (p1_chk 92 183) p1_t24 3 5 = true := by decide +kernel
set_option maxRecDepth 1000000 in
theorem p1_k24_3_6 : p1_s2 (p1_chk 92 183) p1_t24 3 6 = true := by decide +kernel
set_option maxRecDepth 1000000 in
theorem p1_k24_3_7 : p1_s2 (p1_chk 92 183) p1_t24 3 7 = true := by decide +kernel
set_option maxRecDepth 1000000 in
theorem p1_k24_3_8 : p1_s2 (p1_chk 92 183) p1_t24 3 8 = true := by decide +kernel
set_option maxRecDepth 1000000 in
theorem p1_k24_3_9 : p1_s2 (p1_chk 92 183) p1_t24 3 9 = true := by decide +kernel
set_option maxRecDepth 1000000 in
theorem p1_k24_3_10 : p1_s2 (p1_chk 92 183) p1_t24 3 10 = true := by decide +kernel
set_option maxRecDepth 1000000 in
theorem p1_k24_3_11 : p1_s2 (p1_chk 92 183) p1_t24 3 11 = true := by decide +kernel
set_option maxRecDepth 1000000 in
theorem p1_k24_3_12 : p1_s2 (p1_chk 92 183) p1_t24 3 12 = true := by decide +kernel
set_option maxRecDepth 1000000 in
theorem p1_k24_3_13 : p1_s2 (p1_chk 92 183) p1_t24 3 13 = true := by decide +kernel
set_option maxRecDepth 1000000 in
theorem p1_k24_3_14 : p1_s2 (p1_chk 92 183) p1_t24 3 14 = true := by decide +kernel
set_option maxRecDepth 1000000 in
theorem p1_k24_3_15 : p1_s2 (p1_chk 92 183) p1_t24 3 15 = true := by decide +kernel
set_option maxRecDepth 1000000 in
theorem p1_k24_3_16 : p1_s2 (p1_chk 92 183) p1_t24 3 16 = true := by decide +kernel
set_option maxRecDepth 1000000 in
theorem p1_k24_3_17 : p1_s2 (p1_chk 92 183) p1_t24 3 17 = true := by decide +kernel
set_option maxRecDepth 1000000 in
theorem p1_k24_3_18 : p1_s2 (p1_chk 92 183) p1_t24 3 18 = true := by decide +kernel
set_option maxRecDepth 1000000 in
theorem p1_k24_3_19 : p1_s2 (p1_chk 92 183) p1_t24 3 19 = true := by decide +kernel
set_option maxRecDepth 1000000 in
theorem p1_k24_3_20 : p1_s2 (p1_chk 92 183) p1_t24 3 20 = true := by decide +kernel
set_option maxRecDepth 1000000 in
theorem p1_k24_3_21 : p1_s2 (p1_chk 92 183) p1_t24 3 21 = true := by decide +kernel
set_option maxRecDepth 1000000 in
theorem p1_k24_3_22 : p1_s2 (p1_chk 92 183) p1_t24 3 22 = true := by decide +kernel
set_option maxRecDepth 1000000 in
theorem p1_k24_3_23 : p1_s2 (p1_chk 92 183) p1_t24 3 23 = true := by decide +kernel
set_option maxRecDepth 1000000 in
theorem p1_k24_3_24 : p1_s2 (p1_chk 92 183) p1_t24 3 24 = true := by decide +kernel
set_option maxRecDepth 1000000 in
theorem p1_k24_3_25 : p1_s2 (p1_chk 92 183) p1_t24 3 25 = true := by decide +kernel
set_option maxRecDepth 1000000 in
theorem p1_k24_3_26 : p1_s2 (p1_chk 92 183) p1_t24 3 26 = true := by decide +kernel
set_option maxRecDepth 1000000 in
theorem p1_k24_4_0 : p1_s2 (p1_chk 92 183) p1_t24 4 0 = true := by decide +kernel
theorem p1_k24 : p1_a2 (p1_chk 92 183) p1_t24 = true := p1_join2 (fun i q hi j hj => by
  match i, hi with
  | 0, hi =>
    cases hi
    match j, hj with
    | 0, _ => exact p1_k24_0_0
    | j + 1, hj => exact absurd hj (by simp)
  | 1, hi =>
    cases hi
    match j, hj with
    | 0, _ => exact p1_k24_1_0
    | 1, _ => exact p1_k24_1_1
    | 2, _ => exact p1_k24_1_2
    | 3, _ => exact p1_k24_1_3
    | 4, _ => exact p1_k24_1_4
    | 5, _ => exact p1_k24_1_5
    | 6, _ => exact p1_k24_1_6
    | 7, _ => exact p1_k24_1_7
    | 8, _ => exact p1_k24_1_8
    | 9, _ => exact p1_k24_1_9
    | 10, _ => exact p1_k24_1_10
    | 11, _ => exact p1_k24_1_11
    | 12, _ => exact p1_k24_1_12
    | 13, _ => exact p1_k24_1_13
    | 14, _ => exact p1_k24_1_14
    | 15, _ => exact p1_k24_1_15
    | 16, _ => exact p1_k24_1_16
    | 17, _ => exact p1_k24_1_17
    | 18, _ => exact p1_k24_1_18
    | 19, _ => exact p1_k24_1_19
    | 20, _ => exact p1_k24_1_20
    | 21, _ => exact p1_k24_1_21
    | 22, _ => exact p1_k24_1_22
    | 23, _ => exact p1_k24_1_23
    | 24, _ => exact p1_k24_1_24
    | 25, _ => exact p1_k24_1_25
    | 26, _ => exact p1_k24_1_26
    | j + 27, hj => exact absurd hj (by simp)
  | 2, hi =>
    cases hi
    match j, hj with
    | 0, _ => exact p1_k24_2_0
    | 1, _ => exact p1_k24_2_1
    | 2, _ => exact p1_k24_2_2
    | 3, _ => exact p1_k24_2_3
    | 4, _ => exact p1_k24_2_4
    | 5, _ => exact p1_k24_2_5
    | 6, _ => exact p1_k24_2_6
    | 7, _ => exact p1_k24_2_7
    | 8, _ => exact p1_k24_2_8
    | 9, _ => exact p1_k24_2_9
    | 10, _ => exact p1_k24_2_10
    | 11, _ => exact p1_k24_2_11
    | 12, _ => exact p1_k24_2_12
    | 13, _ => exact p1_k24_2_13
    | 14, _ => exact p1_k24_2_14
    | 15, _ => exact p1_k24_2_15
    | 16, _ => exact p1_k24_2_16
    | 17, _ => exact p1_k24_2_17
    | 18, _ => exact p1_k24_2_18
    | 19, _ => exact p1_k24_2_19
    | 20, _ => exact p1_k24_2_20
    | 21, _ => exact p1_k24_2_21
    | 22, _ => exact p1_k24_2_22
    | 23, _ => exact p1_k24_2_23
    | 24, _ => exact p1_k24_2_24
    | 25, _ => exact p1_k24_2_25
    | 26, _ => exact p1_k24_2_26
    | j + 27, hj => exact absurd hj (by simp)
  | 3, hi =>
    cases hi
    match j, hj with
    | 0, _ => exact p1_k24_3_0
    | 1, _ => exact p1_k24_3_1
    | 2, _ => exact p1_k24_3_2
    | 3, _ => exact p1_k24_3_3
    | 4, _ => exact p1_k24_3_4
    | 5, _ => exact p1_k24_3_5
    | 6, _ => exact p1_k24_3_6
    | 7, _ => exact p1_k24_3_7
    | 8, _ => exact p1_k24_3_8
    | 9, _ => exact p1_k24_3_9
    | 10, _ => exact p1_k24_3_10
    | 11, _ => exact p1_k24_3_11
    | 12, _ => exact p1_k24_3_12
    | 13, _ => exact p1_k24_3_13
    | 14, _ => exact p1_k24_3_14
    | 15, _ => exact p1_k24_3_15
    | 16, _ => exact p1_k24_3_16
    | 17, _ => exact p1_k24_3_17
    | 18, _ => exact p1_k24_3_18
    | 19, _ => exact p1_k24_3_19
    | 20, _ => exact p1_k24_3_20
    | 21, _ => exact p1_k24_3_21
    | 22, _ => exact p1_k24_3_22
    | 23, _ => exact p1_k24_3_23
    | 24, _ => exact p1_k24_3_24
    | 25, _ => exact p1_k24_3_25
    | 26, _ => exact p1_k24_3_26
    | j + 27, hj => exact absurd hj (by simp)
  | 4, hi =>
    cases hi
    match j, hj with
    | 0, _ => exact p1_k24_4_0
    | j + 1, hj => exact absurd hj (by simp)
  | i + 5, hi => simp [p1_t24] at hi)
end
