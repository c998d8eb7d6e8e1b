set_option maxRecDepth 100000 in
theorem ke82 : bke (4, smT) ctb 131 sc82 0 1000000 nl82 = true := by decide +kernel
