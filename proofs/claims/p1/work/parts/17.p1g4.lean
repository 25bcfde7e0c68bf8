noncomputable section
set_option maxRecDepth 1000000 in
theorem p1_k23_0 : p1_a2 (p1_chkL 91 181) ((p1_t23.drop 0).take 1) = true := by decide +kernel
set_option maxRecDepth 1000000 in
theorem p1_k23_1 : p1_a2 (p1_chkL 91 181) ((p1_t23.drop 1).take 1) = true := by decide +kernel
set_option maxRecDepth 1000000 in
theorem p1_k23_2 : p1_a2 (p1_chkL 91 181) ((p1_t23.drop 2).take 1) = true := by decide +kernel
set_option maxRecDepth 1000000 in
theorem p1_k23_3 : p1_a2 (p1_chkL 91 181) ((p1_t23.drop 3).take 1) = true := by decide +kernel
set_option maxRecDepth 1000000 in
theorem p1_k23_4 : p1_a2 (p1_chkL 91 181) ((p1_t23.drop 4).take 1) = true := by decide +kernel
end
