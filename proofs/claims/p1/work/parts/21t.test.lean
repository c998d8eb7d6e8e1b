set_option maxRecDepth 100000 in
theorem zop4 : zrun 6 2147483652 2147483652 = true := by decide +kernel
