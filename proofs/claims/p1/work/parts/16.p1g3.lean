noncomputable section
set_option maxRecDepth 1000000 in
theorem p1_k26_0 : p1_a2 (p1_chk 94 188) ((p1_t26.drop 0).take 1) = true := by decide +kernel
set_option maxRecDepth 1000000 in
theorem p1_k26_1 : p1_a2 (p1_chk 94 188) ((p1_t26.drop 1).take 1) = true := by decide +kernel
set_option maxRecDepth 1000000 in
theorem p1_k26_2 : p1_a2 (p1_chk 94 188) ((p1_t26.drop 2).take 1) = true := by decide +kernel
set_option maxRecDepth 1000000 in
theorem p1_k26_3 : p1_a2 (p1_chk 94 188) ((p1_t26.drop 3).take 1) = true := by decide +kernel
set_option maxRecDepth 1000000 in
theorem p1_k26_4 : p1_a2 (p1_chk 94 188) ((p1_t26.drop 4).take 1) = true := by decide +kernel
set_option maxRecDepth 1000000 in
theorem p1_k26_5 : p1_a2 (p1_chk 94 188) ((p1_t26.drop 5).take 1) = true := by decide +kernel
set_option maxRecDepth 1000000 in
theorem p1_k26_6 : p1_a2 (p1_chk 94 188) ((p1_t26.drop 6).take 1) = true := by decide +kernel
end
