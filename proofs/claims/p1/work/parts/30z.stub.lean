theorem p1_k24 : p1_a2 (p1_chk 92 183) p1_t24 = true := sorry
theorem p1_k26 : p1_a2 (p1_chk 94 188) p1_t26 = true := sorry
theorem p1_k23 : p1_a2 (p1_chkL 91 181) p1_t23 = true := sorry
