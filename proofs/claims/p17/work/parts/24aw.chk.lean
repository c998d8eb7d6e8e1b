set_option maxRecDepth 100000 in
theorem ke323 : bke (26, smT) ctb 262 sc323 0 1000000 nl323 = true := by decide +kernel
set_option maxRecDepth 100000 in
theorem ke324 : bke (26, smT) ctb 262 sc324 0 1000000 nl324 = true := by decide +kernel
set_option maxRecDepth 100000 in
theorem ke325 : bke (26, smT) ctb 262 sc325 0 1000000 nl325 = true := by decide +kernel
set_option maxRecDepth 100000 in
theorem ke326 : bke (26, smT) ctb 262 sc326 0 1000000 nl326 = true := by decide +kernel
set_option maxRecDepth 100000 in
theorem ke327 : bke (26, smT) ctb 262 sc327 0 1000000 nl327 = true := by decide +kernel
