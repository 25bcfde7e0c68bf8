noncomputable section
def p1_g0 : Bool := p1_chk 70 117 [] && (p1_a2 (p1_chk 71 139) p1_t3 && (p1_a2 (p1_chk 72 140) p1_t4 && (p1_a2 (p1_chk 73 138) p1_t5 && (p1_a2 (p1_chk 74 127) p1_t6 && (p1_a1 (p1_chk 75 141) p1_t7 && (p1_chk 76 119 [] && (p1_a1 (p1_chk 77 194) p1_t9 && (p1_a1 (p1_chk 79 158) p1_t11 && (p1_chk 80 159 [] && (p1_a2 (p1_chk 81 160) p1_t13 && (p1_a1 (p1_chk 69 116) p1_t1 && (p1_a4 (p1_chk 95 192) p1_t27))))))))))))
set_option maxRecDepth 1000000 in
theorem p1_g0_ok : p1_g0 = true := by decide +kernel
end
