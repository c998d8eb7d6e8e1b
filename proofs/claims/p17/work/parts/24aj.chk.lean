set_option maxRecDepth 100000 in
theorem ke111 : bke (12, smT) ctb 160 sc111 402 1000000 nl111 = true := by decide +kernel
set_option maxRecDepth 100000 in
theorem kn111_0 : bkn (12, smT) ctb 160 sc111 1000000 nl111 nd111_0 = true := by decide +kernel
set_option maxRecDepth 100000 in
theorem kn111_1 : bkn (12, smT) ctb 160 sc111 1000000 nl111 nd111_1 = true := by decide +kernel
set_option maxRecDepth 100000 in
theorem kn111_2 : bkn (12, smT) ctb 160 sc111 1000000 nl111 nd111_2 = true := by decide +kernel
set_option maxRecDepth 100000 in
theorem kn111_3 : bkn (12, smT) ctb 160 sc111 1000000 nl111 nd111_3 = true := by decide +kernel
set_option maxRecDepth 100000 in
theorem kn111_4 : bkn (12, smT) ctb 160 sc111 1000000 nl111 nd111_4 = true := by decide +kernel
set_option maxRecDepth 100000 in
theorem ke112 : bke (12, smT) ctb 160 sc112 402 1000000 nl112 = true := by decide +kernel
set_option maxRecDepth 100000 in
theorem kn112_0 : bkn (12, smT) ctb 160 sc112 1000000 nl112 nd112_0 = true := by decide +kernel
set_option maxRecDepth 100000 in
theorem kn112_1 : bkn (12, smT) ctb 160 sc112 1000000 nl112 nd112_1 = true := by decide +kernel
set_option maxRecDepth 100000 in
theorem kn112_2 : bkn (12, smT) ctb 160 sc112 1000000 nl112 nd112_2 = true := by decide +kernel
set_option maxRecDepth 100000 in
theorem kn112_3 : bkn (12, smT) ctb 160 sc112 1000000 nl112 nd112_3 = true := by decide +kernel
set_option maxRecDepth 100000 in
theorem kn112_4 : bkn (12, smT) ctb 160 sc112 1000000 nl112 nd112_4 = true := by decide +kernel
