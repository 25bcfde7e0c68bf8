noncomputable section
theorem gs_R1_0 : gs_R1 gs_F0 gs_A0 := by
  have e : gs_F0 3 1 = 0 := by decide +kernel
  have e2 : gs_F0 106 1 = 0 := by decide +kernel
  refine ⟨by decide +kernel, by decide +kernel, by decide +kernel, by decide +kernel, by decide +kernel, fun i hi => ?_, fun i hi => ?_, fun i hi => ?_⟩
  · rw [e] at hi
    omega
  · rw [e2] at hi
    omega
  · rw [e2] at hi
    omega
end
