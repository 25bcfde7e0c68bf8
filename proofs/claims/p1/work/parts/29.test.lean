noncomputable section
theorem tq_3 : (p1_a2 (p1_chk 71 139) p1_t3) = true := by decide +kernel
theorem tq_4 : (p1_a2 (p1_chk 72 140) p1_t4) = true := by decide +kernel
theorem tq_5 : (p1_a2 (p1_chk 73 138) p1_t5) = true := by decide +kernel
theorem tq_6 : (p1_a2 (p1_chk 74 127) p1_t6) = true := by decide +kernel
theorem tq_11 : (p1_a1 (p1_chk 79 158) p1_t11) = true := by decide +kernel
theorem tq_13 : (p1_a2 (p1_chk 81 160) p1_t13) = true := by decide +kernel
theorem tq_27 : (p1_a4 (p1_chk 95 192) p1_t27) = true := by decide +kernel
theorem tq_14 : (p1_a3 (p1_chk 82 161) p1_t14) = true := by decide +kernel
theorem tq_15 : (p1_a2 (p1_chk 83 162) p1_t15) = true := by decide +kernel
theorem tq_16 : (p1_a3 (p1_chk 84 163) p1_t16) = true := by decide +kernel
theorem tq_17 : (p1_a3 (p1_chk 85 164) p1_t17) = true := by decide +kernel
theorem tq_18 : (p1_a3 (p1_chk 86 165) p1_t18) = true := by decide +kernel
theorem tq_19 : (p1_a2 (p1_chk 87 170) p1_t19) = true := by decide +kernel
theorem tq_20 : (p1_a1 (p1_chk 88 174) p1_t20) = true := by decide +kernel
theorem tq_21 : (p1_a2 (p1_chk 89 176) p1_t21) = true := by decide +kernel
theorem tq_22 : (p1_a3 (p1_chk 90 178) p1_t22) = true := by decide +kernel
theorem tq_25 : (p1_a2 (p1_chk 93 185) p1_t25) = true := by decide +kernel
theorem tq_28 : (p1_a3 (p1_chk 96 193) p1_t28) = true := by decide +kernel
theorem tq_0 : (p1_a1 (p1_chk 68 113) p1_t0) = true := by decide +kernel
end
