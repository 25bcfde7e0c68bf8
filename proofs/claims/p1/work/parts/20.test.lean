noncomputable section
def ri_blank : List (List ri_E) := List.replicate 16 (List.replicate 8 (.inr (0, [])))
def ri_L0 : ri_L := (1, 13, ri_put ri_blank 0 (.inr (8, am_df 8)))
def tst2 : Bool := (ri_D [] ri_M 100000 20 67 [.ref 0] ri_L0).isSome
theorem tst2_ok : tst2 = true := by decide +kernel
end
