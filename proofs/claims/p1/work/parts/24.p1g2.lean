noncomputable section
def p1_g2 : Bool := p1_a2 (p1_chk 89 176) p1_t21 && (p1_a3 (p1_chk 90 178) p1_t22 && (p1_a2 (p1_chk 93 185) p1_t25 && (p1_a3 (p1_chk 96 193) p1_t28)))
set_option maxRecDepth 1000000 in
theorem p1_g2_ok : p1_g2 = true := by decide +kernel
end
