noncomputable section
set_option maxRecDepth 1000000 in
theorem p1_k2 : p1_chk 70 117 [] = true := by decide +kernel
set_option maxRecDepth 1000000 in
theorem p1_k3 : p1_a2 (p1_chk 71 139) p1_t3 = true := by decide +kernel
set_option maxRecDepth 1000000 in
theorem p1_k4 : p1_a2 (p1_chk 72 140) p1_t4 = true := by decide +kernel
set_option maxRecDepth 1000000 in
theorem p1_k5 : p1_a2 (p1_chk 73 138) p1_t5 = true := by decide +kernel
set_option maxRecDepth 1000000 in
theorem p1_k6 : p1_a2 (p1_chk 74 127) p1_t6 = true := by decide +kernel
set_option maxRecDepth 1000000 in
theorem p1_k7 : p1_a1 (p1_chk 75 141) p1_t7 = true := by decide +kernel
set_option maxRecDepth 1000000 in
theorem p1_k8 : p1_chk 76 119 [] = true := by decide +kernel
set_option maxRecDepth 1000000 in
theorem p1_k9 : p1_a1 (p1_chk 77 194) p1_t9 = true := by decide +kernel
set_option maxRecDepth 1000000 in
theorem p1_k11 : p1_a1 (p1_chk 79 158) p1_t11 = true := by decide +kernel
set_option maxRecDepth 1000000 in
theorem p1_k12 : p1_chk 80 159 [] = true := by decide +kernel
set_option maxRecDepth 1000000 in
theorem p1_k13 : p1_a2 (p1_chk 81 160) p1_t13 = true := by decide +kernel
set_option maxRecDepth 1000000 in
theorem p1_k1 : p1_a1 (p1_chk 69 116) p1_t1 = true := by decide +kernel
set_option maxRecDepth 1000000 in
theorem p1_k27 : p1_a4 (p1_chk 95 192) p1_t27 = true := by decide +kernel
set_option maxRecDepth 1000000 in
theorem p1_k14 : p1_a3 (p1_chk 82 161) p1_t14 = true := by decide +kernel
set_option maxRecDepth 1000000 in
theorem p1_k15 : p1_a2 (p1_chk 83 162) p1_t15 = true := by decide +kernel
set_option maxRecDepth 1000000 in
theorem p1_k16 : p1_a3 (p1_chk 84 163) p1_t16 = true := by decide +kernel
set_option maxRecDepth 1000000 in
theorem p1_k17 : p1_a3 (p1_chk 85 164) p1_t17 = true := by decide +kernel
set_option maxRecDepth 1000000 in
theorem p1_k18 : p1_a3 (p1_chk 86 165) p1_t18 = true := by decide +kernel
set_option maxRecDepth 1000000 in
theorem p1_k19 : p1_a2 (p1_chk 87 170) p1_t19 = true := by decide +kernel
set_option maxRecDepth 1000000 in
theorem p1_k20 : p1_a1 (p1_chk 88 174) p1_t20 = true := by decide +kernel
end
