noncomputable section
set_option maxRecDepth 1000000 in
theorem p1_k21 : p1_a2 (p1_chk 89 176) p1_t21 = true := by decide +kernel
set_option maxRecDepth 1000000 in
theorem p1_k22 : p1_a3 (p1_chk 90 178) p1_t22 = true := by decide +kernel
set_option maxRecDepth 1000000 in
theorem p1_k25 : p1_a2 (p1_chk 93 185) p1_t25 = true := by decide +kernel
set_option maxRecDepth 1000000 in
theorem p1_k28 : p1_a3 (p1_chk 96 193) p1_t28 = true := by decide +kernel
set_option maxRecDepth 1000000 in
theorem p1_k0 : p1_a1 (p1_chk 68 113) p1_t0 = true := by decide +kernel
end
