set_option maxRecDepth 100000 in
theorem ke276 : bke (5, smT) ctb 249 sc276 39 1000000 nl276 = true := by decide +kernel
set_option maxRecDepth 100000 in
theorem kn276_0 : bkn (5, smT) ctb 249 sc276 1000000 nl276 nd276_0 = true := by decide +kernel
set_option maxRecDepth 100000 in
theorem kn276_1 : bkn (5, smT) ctb 249 sc276 1000000 nl276 nd276_1 = true := by decide +kernel
set_option maxRecDepth 100000 in
theorem ke293 : bke (3, smT) ctb 256 sc293 0 1000000 nl293 = true := by decide +kernel
set_option maxRecDepth 100000 in
theorem ke294 : bke (4, smT) ctb 257 sc294 394 1000000 nl294 = true := by decide +kernel
set_option maxRecDepth 100000 in
theorem kn294_0 : bkn (4, smT) ctb 257 sc294 1000000 nl294 nd294_0 = true := by decide +kernel
set_option maxRecDepth 100000 in
theorem ke295 : bke (23, smT) ctb 259 sc295 0 1000000 nl295 = true := by decide +kernel
set_option maxRecDepth 100000 in
theorem ke296 : bke (20, smT) ctb 259 sc296 0 1000000 nl296 = true := by decide +kernel
set_option maxRecDepth 100000 in
theorem ke297 : bke (17, smT) ctb 259 sc297 0 1000000 nl297 = true := by decide +kernel
set_option maxRecDepth 100000 in
theorem ke298 : bke (14, smT) ctb 259 sc298 0 1000000 nl298 = true := by decide +kernel
