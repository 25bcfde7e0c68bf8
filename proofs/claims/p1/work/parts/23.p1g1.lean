noncomputable section
def p1_g1 : Bool := p1_a3 (p1_chk 82 161) p1_t14 && (p1_a2 (p1_chk 83 162) p1_t15 && (p1_a3 (p1_chk 84 163) p1_t16 && (p1_a3 (p1_chk 85 164) p1_t17 && (p1_a3 (p1_chk 86 165) p1_t18 && (p1_a2 (p1_chk 87 170) p1_t19 && (p1_a1 (p1_chk 88 174) p1_t20))))))
set_option maxRecDepth 1000000 in
theorem p1_g1_ok : p1_g1 = true := by decide +kernel
end
