noncomputable section
def p1_g5 : Bool := p1_a2 (p1_chk 94 188) p1_t26
set_option maxRecDepth 1000000 in
theorem p1_g5_ok : p1_g5 = true := by decide +kernel
end
