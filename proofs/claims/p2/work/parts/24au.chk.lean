set_option maxRecDepth 100000 in
theorem ke281 : bke (5, smT) ctb 249 sc281 39 1000000 nl281 = true := by decide +kernel
set_option maxRecDepth 100000 in
theorem kn281_0 : bkn (5, smT) ctb 249 sc281 1000000 nl281 nd281_0 = true := by decide +kernel
set_option maxRecDepth 100000 in
theorem kn281_1 : bkn (5, smT) ctb 249 sc281 1000000 nl281 nd281_1 = true := by decide +kernel
set_option maxRecDepth 100000 in
theorem ke298 : bke (3, smT) ctb 256 sc298 0 1000000 nl298 = true := by decide +kernel
set_option maxRecDepth 100000 in
theorem ke299 : bke (4, smT) ctb 257 sc299 394 1000000 nl299 = true := by decide +kernel
set_option maxRecDepth 100000 in
theorem kn299_0 : bkn (4, smT) ctb 257 sc299 1000000 nl299 nd299_0 = true := by decide +kernel
set_option maxRecDepth 100000 in
theorem ke300 : bke (23, smT) ctb 259 sc300 0 1000000 nl300 = true := by decide +kernel
set_option maxRecDepth 100000 in
theorem ke301 : bke (20, smT) ctb 259 sc301 0 1000000 nl301 = true := by decide +kernel
set_option maxRecDepth 100000 in
theorem ke302 : bke (17, smT) ctb 259 sc302 0 1000000 nl302 = true := by decide +kernel
set_option maxRecDepth 100000 in
theorem ke303 : bke (14, smT) ctb 259 sc303 0 1000000 nl303 = true := by decide +kernel
