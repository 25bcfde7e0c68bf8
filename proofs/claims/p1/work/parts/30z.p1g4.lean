noncomputable section
set_option maxRecDepth 1000000 in
theorem p1_k23_0_0 : p1_s2 (p1_chkM 91 181) p1_t23 0 0 = true := by decide +kernel
set_option maxRecDepth 1000000 in
theorem p1_k23_1_0 : p1_s2 (p1_chkM 91 181) p1_t23 1 0 = true := by decide +kernel
set_option maxRecDepth 1000000 in
theorem p1_k23_1_1 : p1_s2 (p1_chkM 91 181) p1_t23 1 1 = true := by decide +kernel
set_option maxRecDepth 1000000 in
theorem p1_k23_1_2 : p1_s2 (p1_chkM 91 181) p1_t23 1 2 = true := by decide +kernel
set_option maxRecDepth 1000000 in
theorem p1_k23_1_3 : p1_s2 (p1_chkM 91 181) p1_t23 1 3 = true := by decide +kernel
set_option maxRecDepth 1000000 in
theorem p1_k23_1_4 : p1_s2 (p1_chkM 91 181) p1_t23 1 4 = true := by decide +kernel
set_option maxRecDepth 1000000 in
theorem p1_k23_1_5 : p1_s2 (p1_chkM 91 181) p1_t23 1 5 = true := by decide +kernel
set_option maxRecDepth 1000000 in
theorem p1_k23_1_6 : p1_s2 (p1_chkM 91 181) p1_t23 1 6 = true := by decide +kernel
set_option maxRecDepth 1000000 in
theorem p1_k23_2_0 : p1_s2 (p1_chkM 91 181) p1_t23 2 0 = true := by decide +kernel
set_option maxRecDepth 1000000 in
theorem p1_k23_2_1 : p1_s2 (p1_chkM 91 181) p1_t23 2 1 = true := by decide +kernel
set_option maxRecDepth 1000000 in
theorem p1_k23_2_2 : p1_s2 (p1_chkM 91 181) p1_t23 2 2 = true := by decide +kernel
set_option maxRecDepth 1000000 in
theorem p1_k23_2_3 : p1_s2 (p1_chkM 91 181) p1_t23 2 3 = true := by decide +kernel
set_option maxRecDepth 1000000 in
theorem p1_k23_2_4 : p1_s2 (p1_chkM 91 181) p1_t23 2 4 = true := by decide +kernel
set_option maxRecDepth 1000000 in
theorem p1_k23_2_5 : p1_s2 (p1_chkM 91 181) p1_t23 2 5 = true := by decide +kernel
set_option maxRecDepth 1000000 in
theorem p1_k23_2_6 : p1_s2 (p1_chkM 91 181) p1_t23 2 6 = true := by decide +kernel
set_option maxRecDepth 1000000 in
theorem p1_k23_3_0 : p1_s2 (p1_chkM 91 181) p1_t23 3 0 = true := by decide +kernel
set_option maxRecDepth 1000000 in
theorem p1_k23_3_1 : p1_s2 (p1_chkM 91 181) p1_t23 3 1 = true := by decide +kernel
set_option maxRecDepth 1000000 in
theorem p1_k23_3_2 : p1_s2 (p1_chkM 91 181) p1_t23 3 2 = true := by decide +kernel
set_option maxRecDepth 1000000 in
theorem p1_k23_3_3 : p1_s2 (p1_chkM 91 181) p1_t23 3 3 = true := by decide +kernel
set_option maxRecDepth 1000000 in
theorem p1_k23_3_4 : p1_s2 (p1_chkM 91 181) p1_t23 3 4 = true := by decide +kernel
set_option maxRecDepth 1000000 in
theorem p1_k23_3_5 : p1_s2 (p1_chkM 91 181) p1_t23 3 5 = true := by decide +kernel
set_option maxRecDepth 1000000 in
theorem p1_k23_3_6 : p1_s2 (p1_chkM 91 181) p1_t23 3 6 = true := by decide +kernel
set_option maxRecDepth 1000000 in
theorem p1_k23_4_0 : p1_s2 (p1_chkM 91 181) p1_t23 4 0 = true := by decide +kernel
theorem p1_k23 : p1_a2 (p1_chkM 91 181) p1_t23 = true := p1_join2 (fun i q hi j hj => by
  match i, hi with
  | 0, hi =>
    cases hi
    match j, hj with
    | 0, _ => exact p1_k23_0_0
    | j + 1, hj => exact absurd hj (by simp)
  | 1, hi =>
    cases hi
    match j, hj with
    | 0, _ => exact p1_k23_1_0
    | 1, _ => exact p1_k23_1_1
    | 2, _ => exact p1_k23_1_2
    | 3, _ => exact p1_k23_1_3
    | 4, _ => exact p1_k23_1_4
    | 5, _ => exact p1_k23_1_5
    | 6, _ => exact p1_k23_1_6
    | j + 7, hj => exact absurd hj (by simp)
  | 2, hi =>
    cases hi
    match j, hj with
    | 0, _ => exact p1_k23_2_0
    | 1, _ => exact p1_k23_2_1
    | 2, _ => exact p1_k23_2_2
    | 3, _ => exact p1_k23_2_3
    | 4, _ => exact p1_k23_2_4
    | 5, _ => exact p1_k23_2_5
    | 6, _ => exact p1_k23_2_6
    | j + 7, hj => exact absurd hj (by simp)
  | 3, hi =>
    cases hi
    match j, hj with
    | 0, _ => exact p1_k23_3_0
    | 1, _ => exact p1_k23_3_1
    | 2, _ => exact p1_k23_3_2
    | 3, _ => exact p1_k23_3_3
    | 4, _ => exact p1_k23_3_4
    | 5, _ => exact p1_k23_3_5
    | 6, _ => exact p1_k23_3_6
    | j + 7, hj => exact absurd hj (by simp)
  | 4, hi =>
    cases hi
    match j, hj with
    | 0, _ => exact p1_k23_4_0
    | j + 1, hj => exact absurd hj (by simp)
  | i + 5, hi => simp [p1_t23] at hi)
end
