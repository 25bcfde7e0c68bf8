noncomputable section
def p1_g4 : Bool := p1_a2 (p1_chk 92 183) p1_t24
set_option maxRecDepth 1000000 in
theorem p1_g4_ok : p1_g4 = true := by decide +kernel
end
