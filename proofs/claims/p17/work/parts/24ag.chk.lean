set_option maxRecDepth 100000 in
theorem ke101 : bke (18, smT) ctb 160 sc101 402 1000000 nl101 = true := by decide +kernel
set_option maxRecDepth 100000 in
theorem kn101_0 : bkn (18, smT) ctb 160 sc101 1000000 nl101 nd101_0 = true := by decide +kernel
set_option maxRecDepth 100000 in
theorem kn101_1 : bkn (18, smT) ctb 160 sc101 1000000 nl101 nd101_1 = true := by decide +kernel
set_option maxRecDepth 100000 in
theorem kn101_2 : bkn (18, smT) ctb 160 sc101 1000000 nl101 nd101_2 = true := by decide +kernel
set_option maxRecDepth 100000 in
theorem kn101_3 : bkn (18, smT) ctb 160 sc101 1000000 nl101 nd101_3 = true := by decide +kernel
set_option maxRecDepth 100000 in
theorem kn101_4 : bkn (18, smT) ctb 160 sc101 1000000 nl101 nd101_4 = true := by decide +kernel
set_option maxRecDepth 100000 in
theorem ke102 : bke (18, smT) ctb 160 sc102 402 1000000 nl102 = true := by decide +kernel
set_option maxRecDepth 100000 in
theorem kn102_0 : bkn (18, smT) ctb 160 sc102 1000000 nl102 nd102_0 = true := by decide +kernel
set_option maxRecDepth 100000 in
theorem kn102_1 : bkn (18, smT) ctb 160 sc102 1000000 nl102 nd102_1 = true := by decide +kernel
set_option maxRecDepth 100000 in
theorem kn102_2 : bkn (18, smT) ctb 160 sc102 1000000 nl102 nd102_2 = true := by decide +kernel
set_option maxRecDepth 100000 in
theorem kn102_3 : bkn (18, smT) ctb 160 sc102 1000000 nl102 nd102_3 = true := by decide +kernel
set_option maxRecDepth 100000 in
theorem kn102_4 : bkn (18, smT) ctb 160 sc102 1000000 nl102 nd102_4 = true := by decide +kernel
