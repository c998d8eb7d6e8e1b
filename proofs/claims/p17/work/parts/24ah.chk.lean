set_option maxRecDepth 100000 in
theorem ke103 : bke (18, smT) ctb 160 sc103 402 1000000 nl103 = true := by decide +kernel
set_option maxRecDepth 100000 in
theorem kn103_0 : bkn (18, smT) ctb 160 sc103 1000000 nl103 nd103_0 = true := by decide +kernel
set_option maxRecDepth 100000 in
theorem kn103_1 : bkn (18, smT) ctb 160 sc103 1000000 nl103 nd103_1 = true := by decide +kernel
set_option maxRecDepth 100000 in
theorem kn103_2 : bkn (18, smT) ctb 160 sc103 1000000 nl103 nd103_2 = true := by decide +kernel
set_option maxRecDepth 100000 in
theorem kn103_3 : bkn (18, smT) ctb 160 sc103 1000000 nl103 nd103_3 = true := by decide +kernel
set_option maxRecDepth 100000 in
theorem kn103_4 : bkn (18, smT) ctb 160 sc103 1000000 nl103 nd103_4 = true := by decide +kernel
set_option maxRecDepth 100000 in
theorem ke104 : bke (3, smT) ctb 160 sc104 2 1000000 nl104 = true := by decide +kernel
set_option maxRecDepth 100000 in
theorem kn104_0 : bkn (3, smT) ctb 160 sc104 1000000 nl104 nd104_0 = true := by decide +kernel
set_option maxRecDepth 100000 in
theorem ke105 : bke (3, smT) ctb 160 sc105 2 1000000 nl105 = true := by decide +kernel
set_option maxRecDepth 100000 in
theorem kn105_0 : bkn (3, smT) ctb 160 sc105 1000000 nl105 nd105_0 = true := by decide +kernel
set_option maxRecDepth 100000 in
theorem ke106 : bke (15, smT) ctb 160 sc106 402 1000000 nl106 = true := by decide +kernel
set_option maxRecDepth 100000 in
theorem kn106_0 : bkn (15, smT) ctb 160 sc106 1000000 nl106 nd106_0 = true := by decide +kernel
set_option maxRecDepth 100000 in
theorem kn106_1 : bkn (15, smT) ctb 160 sc106 1000000 nl106 nd106_1 = true := by decide +kernel
set_option maxRecDepth 100000 in
theorem kn106_2 : bkn (15, smT) ctb 160 sc106 1000000 nl106 nd106_2 = true := by decide +kernel
set_option maxRecDepth 100000 in
theorem kn106_3 : bkn (15, smT) ctb 160 sc106 1000000 nl106 nd106_3 = true := by decide +kernel
set_option maxRecDepth 100000 in
theorem kn106_4 : bkn (15, smT) ctb 160 sc106 1000000 nl106 nd106_4 = true := by decide +kernel
