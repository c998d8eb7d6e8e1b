set_option maxRecDepth 100000 in
theorem ke117 : bke (9, smT) ctb 160 sc117 402 1000000 nl117 = true := by decide +kernel
set_option maxRecDepth 100000 in
theorem kn117_0 : bkn (9, smT) ctb 160 sc117 1000000 nl117 nd117_0 = true := by decide +kernel
set_option maxRecDepth 100000 in
theorem kn117_1 : bkn (9, smT) ctb 160 sc117 1000000 nl117 nd117_1 = true := by decide +kernel
set_option maxRecDepth 100000 in
theorem kn117_2 : bkn (9, smT) ctb 160 sc117 1000000 nl117 nd117_2 = true := by decide +kernel
set_option maxRecDepth 100000 in
theorem kn117_3 : bkn (9, smT) ctb 160 sc117 1000000 nl117 nd117_3 = true := by decide +kernel
set_option maxRecDepth 100000 in
theorem kn117_4 : bkn (9, smT) ctb 160 sc117 1000000 nl117 nd117_4 = true := by decide +kernel
set_option maxRecDepth 100000 in
theorem ke118 : bke (9, smT) ctb 160 sc118 402 1000000 nl118 = true := by decide +kernel
set_option maxRecDepth 100000 in
theorem kn118_0 : bkn (9, smT) ctb 160 sc118 1000000 nl118 nd118_0 = true := by decide +kernel
set_option maxRecDepth 100000 in
theorem kn118_1 : bkn (9, smT) ctb 160 sc118 1000000 nl118 nd118_1 = true := by decide +kernel
set_option maxRecDepth 100000 in
theorem kn118_2 : bkn (9, smT) ctb 160 sc118 1000000 nl118 nd118_2 = true := by decide +kernel
set_option maxRecDepth 100000 in
theorem kn118_3 : bkn (9, smT) ctb 160 sc118 1000000 nl118 nd118_3 = true := by decide +kernel
set_option maxRecDepth 100000 in
theorem kn118_4 : bkn (9, smT) ctb 160 sc118 1000000 nl118 nd118_4 = true := by decide +kernel
set_option maxRecDepth 100000 in
theorem ke119 : bke (3, smT) ctb 160 sc119 2 1000000 nl119 = true := by decide +kernel
set_option maxRecDepth 100000 in
theorem kn119_0 : bkn (3, smT) ctb 160 sc119 1000000 nl119 nd119_0 = true := by decide +kernel
set_option maxRecDepth 100000 in
theorem ke120 : bke (3, smT) ctb 160 sc120 2 1000000 nl120 = true := by decide +kernel
set_option maxRecDepth 100000 in
theorem kn120_0 : bkn (3, smT) ctb 160 sc120 1000000 nl120 nd120_0 = true := by decide +kernel
