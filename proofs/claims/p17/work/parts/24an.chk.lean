set_option maxRecDepth 100000 in
theorem ke123 : bke (6, smT) ctb 160 sc123 402 1000000 nl123 = true := by decide +kernel
set_option maxRecDepth 100000 in
theorem kn123_0 : bkn (6, smT) ctb 160 sc123 1000000 nl123 nd123_0 = true := by decide +kernel
set_option maxRecDepth 100000 in
theorem kn123_1 : bkn (6, smT) ctb 160 sc123 1000000 nl123 nd123_1 = true := by decide +kernel
set_option maxRecDepth 100000 in
theorem kn123_2 : bkn (6, smT) ctb 160 sc123 1000000 nl123 nd123_2 = true := by decide +kernel
set_option maxRecDepth 100000 in
theorem kn123_3 : bkn (6, smT) ctb 160 sc123 1000000 nl123 nd123_3 = true := by decide +kernel
set_option maxRecDepth 100000 in
theorem kn123_4 : bkn (6, smT) ctb 160 sc123 1000000 nl123 nd123_4 = true := by decide +kernel
set_option maxRecDepth 100000 in
theorem ke124 : bke (3, smT) ctb 160 sc124 2 1000000 nl124 = true := by decide +kernel
set_option maxRecDepth 100000 in
theorem kn124_0 : bkn (3, smT) ctb 160 sc124 1000000 nl124 nd124_0 = true := by decide +kernel
set_option maxRecDepth 100000 in
theorem ke125 : bke (3, smT) ctb 160 sc125 2 1000000 nl125 = true := by decide +kernel
set_option maxRecDepth 100000 in
theorem kn125_0 : bkn (3, smT) ctb 160 sc125 1000000 nl125 nd125_0 = true := by decide +kernel
set_option maxRecDepth 100000 in
theorem ke126 : bke (3, smT) ctb 160 sc126 402 1000000 nl126 = true := by decide +kernel
set_option maxRecDepth 100000 in
theorem kn126_0 : bkn (3, smT) ctb 160 sc126 1000000 nl126 nd126_0 = true := by decide +kernel
set_option maxRecDepth 100000 in
theorem kn126_1 : bkn (3, smT) ctb 160 sc126 1000000 nl126 nd126_1 = true := by decide +kernel
set_option maxRecDepth 100000 in
theorem kn126_2 : bkn (3, smT) ctb 160 sc126 1000000 nl126 nd126_2 = true := by decide +kernel
set_option maxRecDepth 100000 in
theorem kn126_3 : bkn (3, smT) ctb 160 sc126 1000000 nl126 nd126_3 = true := by decide +kernel
set_option maxRecDepth 100000 in
theorem kn126_4 : bkn (3, smT) ctb 160 sc126 1000000 nl126 nd126_4 = true := by decide +kernel
