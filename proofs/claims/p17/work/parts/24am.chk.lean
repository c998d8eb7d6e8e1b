set_option maxRecDepth 100000 in
theorem ke121 : bke (6, smT) ctb 160 sc121 402 1000000 nl121 = true := by decide +kernel
set_option maxRecDepth 100000 in
theorem kn121_0 : bkn (6, smT) ctb 160 sc121 1000000 nl121 nd121_0 = true := by decide +kernel
set_option maxRecDepth 100000 in
theorem kn121_1 : bkn (6, smT) ctb 160 sc121 1000000 nl121 nd121_1 = true := by decide +kernel
set_option maxRecDepth 100000 in
theorem kn121_2 : bkn (6, smT) ctb 160 sc121 1000000 nl121 nd121_2 = true := by decide +kernel
set_option maxRecDepth 100000 in
theorem kn121_3 : bkn (6, smT) ctb 160 sc121 1000000 nl121 nd121_3 = true := by decide +kernel
set_option maxRecDepth 100000 in
theorem kn121_4 : bkn (6, smT) ctb 160 sc121 1000000 nl121 nd121_4 = true := by decide +kernel
set_option maxRecDepth 100000 in
theorem ke122 : bke (6, smT) ctb 160 sc122 402 1000000 nl122 = true := by decide +kernel
set_option maxRecDepth 100000 in
theorem kn122_0 : bkn (6, smT) ctb 160 sc122 1000000 nl122 nd122_0 = true := by decide +kernel
set_option maxRecDepth 100000 in
theorem kn122_1 : bkn (6, smT) ctb 160 sc122 1000000 nl122 nd122_1 = true := by decide +kernel
set_option maxRecDepth 100000 in
theorem kn122_2 : bkn (6, smT) ctb 160 sc122 1000000 nl122 nd122_2 = true := by decide +kernel
set_option maxRecDepth 100000 in
theorem kn122_3 : bkn (6, smT) ctb 160 sc122 1000000 nl122 nd122_3 = true := by decide +kernel
set_option maxRecDepth 100000 in
theorem kn122_4 : bkn (6, smT) ctb 160 sc122 1000000 nl122 nd122_4 = true := by decide +kernel
