set_option maxRecDepth 100000 in
theorem ke107 : bke (15, smT) ctb 160 sc107 402 1000000 nl107 = true := by decide +kernel
set_option maxRecDepth 100000 in
theorem kn107_0 : bkn (15, smT) ctb 160 sc107 1000000 nl107 nd107_0 = true := by decide +kernel
set_option maxRecDepth 100000 in
theorem kn107_1 : bkn (15, smT) ctb 160 sc107 1000000 nl107 nd107_1 = true := by decide +kernel
set_option maxRecDepth 100000 in
theorem kn107_2 : bkn (15, smT) ctb 160 sc107 1000000 nl107 nd107_2 = true := by decide +kernel
set_option maxRecDepth 100000 in
theorem kn107_3 : bkn (15, smT) ctb 160 sc107 1000000 nl107 nd107_3 = true := by decide +kernel
set_option maxRecDepth 100000 in
theorem kn107_4 : bkn (15, smT) ctb 160 sc107 1000000 nl107 nd107_4 = true := by decide +kernel
set_option maxRecDepth 100000 in
theorem ke108 : bke (15, smT) ctb 160 sc108 402 1000000 nl108 = true := by decide +kernel
set_option maxRecDepth 100000 in
theorem kn108_0 : bkn (15, smT) ctb 160 sc108 1000000 nl108 nd108_0 = true := by decide +kernel
set_option maxRecDepth 100000 in
theorem kn108_1 : bkn (15, smT) ctb 160 sc108 1000000 nl108 nd108_1 = true := by decide +kernel
set_option maxRecDepth 100000 in
theorem kn108_2 : bkn (15, smT) ctb 160 sc108 1000000 nl108 nd108_2 = true := by decide +kernel
set_option maxRecDepth 100000 in
theorem kn108_3 : bkn (15, smT) ctb 160 sc108 1000000 nl108 nd108_3 = true := by decide +kernel
set_option maxRecDepth 100000 in
theorem kn108_4 : bkn (15, smT) ctb 160 sc108 1000000 nl108 nd108_4 = true := by decide +kernel
set_option maxRecDepth 100000 in
theorem ke109 : bke (3, smT) ctb 160 sc109 2 1000000 nl109 = true := by decide +kernel
set_option maxRecDepth 100000 in
theorem kn109_0 : bkn (3, smT) ctb 160 sc109 1000000 nl109 nd109_0 = true := by decide +kernel
set_option maxRecDepth 100000 in
theorem ke110 : bke (3, smT) ctb 160 sc110 2 1000000 nl110 = true := by decide +kernel
set_option maxRecDepth 100000 in
theorem kn110_0 : bkn (3, smT) ctb 160 sc110 1000000 nl110 nd110_0 = true := by decide +kernel
