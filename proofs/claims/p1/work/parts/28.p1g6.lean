noncomputable section
def p1_g6 : Bool := p1_a2 (p1_chk 91 181) p1_t23
set_option maxRecDepth 1000000 in
theorem p1_g6_ok : p1_g6 = true := by decide +kernel
end
