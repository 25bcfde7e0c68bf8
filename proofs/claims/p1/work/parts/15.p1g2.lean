noncomputable section
set_option maxRecDepth 1000000 in
theorem p1_k24_0 : p1_a2 (p1_chk 92 183) ((p1_t24.drop 0).take 1) = true := by decide +kernel
set_option maxRecDepth 1000000 in
theorem p1_k24_1 : p1_a2 (p1_chk 92 183) ((p1_t24.drop 1).take 1) = true := by decide +kernel
set_option maxRecDepth 1000000 in
theorem p1_k24_2 : p1_a2 (p1_chk 92 183) ((p1_t24.drop 2).take 1) = true := by decide +kernel
set_option maxRecDepth 1000000 in
theorem p1_k24_3 : p1_a2 (p1_chk 92 183) ((p1_t24.drop 3).take 1) = true := by decide +kernel
set_option maxRecDepth 1000000 in
theorem p1_k24_4 : p1_a2 (p1_chk 92 183) ((p1_t24.drop 4).take 1) = true := by decide +kernel
end
