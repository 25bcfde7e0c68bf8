noncomputable section
def p1_g3 : Bool := p1_a1 (p1_chk 68 113) p1_t0
set_option maxRecDepth 1000000 in
theorem p1_g3_ok : p1_g3 = true := by decide +kernel
end
