set_option maxRecDepth 100000 in
theorem ke340 : bke (8, smT) ctb 264 sc340 16 1000000 nl340 = true := by decide +kernel
set_option maxRecDepth 100000 in
theorem kn340_0 : bkn (8, smT) ctb 264 sc340 1000000 nl340 nd340_0 = true := by decide +kernel
set_option maxRecDepth 100000 in
theorem kn340_1 : bkn (8, smT) ctb 264 sc340 1000000 nl340 nd340_1 = true := by decide +kernel
set_option maxRecDepth 100000 in
theorem kn340_2 : bkn (8, smT) ctb 264 sc340 1000000 nl340 nd340_2 = true := by decide +kernel
set_option maxRecDepth 100000 in
theorem kn340_3 : bkn (8, smT) ctb 264 sc340 1000000 nl340 nd340_3 = true := by decide +kernel
set_option maxRecDepth 100000 in
theorem kn340_4 : bkn (8, smT) ctb 264 sc340 1000000 nl340 nd340_4 = true := by decide +kernel
set_option maxRecDepth 100000 in
theorem kn340_5 : bkn (8, smT) ctb 264 sc340 1000000 nl340 nd340_5 = true := by decide +kernel
set_option maxRecDepth 100000 in
theorem kn340_6 : bkn (8, smT) ctb 264 sc340 1000000 nl340 nd340_6 = true := by decide +kernel
set_option maxRecDepth 100000 in
theorem kn340_7 : bkn (8, smT) ctb 264 sc340 1000000 nl340 nd340_7 = true := by decide +kernel
set_option maxRecDepth 100000 in
theorem kn340_8 : bkn (8, smT) ctb 264 sc340 1000000 nl340 nd340_8 = true := by decide +kernel
set_option maxRecDepth 100000 in
theorem kn340_9 : bkn (8, smT) ctb 264 sc340 1000000 nl340 nd340_9 = true := by decide +kernel
set_option maxRecDepth 100000 in
theorem kn340_10 : bkn (8, smT) ctb 264 sc340 1000000 nl340 nd340_10 = true := by decide +kernel
set_option maxRecDepth 100000 in
theorem kn340_11 : bkn (8, smT) ctb 264 sc340 1000000 nl340 nd340_11 = true := by decide +kernel
set_option maxRecDepth 100000 in
theorem kn340_12 : bkn (8, smT) ctb 264 sc340 1000000 nl340 nd340_12 = true := by decide +kernel
set_option maxRecDepth 100000 in
theorem kn340_13 : bkn (8, smT) ctb 264 sc340 1000000 nl340 nd340_13 = true := by decide +kernel
set_option maxRecDepth 100000 in
theorem kn340_14 : bkn (8, smT) ctb 264 sc340 1000000 nl340 nd340_14 = true := by decide +kernel
