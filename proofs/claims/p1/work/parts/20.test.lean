def tst2 : Bool := (ri_D ri_M 100000 20 67 [.ref 0] [.inr (8, am_df 8)]).isSome
theorem tst2_ok : tst2 = true := by decide +kernel
