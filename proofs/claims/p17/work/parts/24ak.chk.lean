set_option maxRecDepth 100000 in
theorem ke113 : bke (12, smT) ctb 160 sc113 402 1000000 nl113 = true := by decide +kernel
set_option maxRecDepth 100000 in
theorem kn113_0 : bkn (12, smT) ctb 160 sc113 1000000 nl113 nd113_0 = true := by decide +kernel
set_option maxRecDepth 100000 in
theorem kn113_1 : bkn (12, smT) ctb 160 sc113 1000000 nl113 nd113_1 = true := by decide +kernel
set_option maxRecDepth 100000 in
theorem kn113_2 : bkn (12, smT) ctb 160 sc113 1000000 nl113 nd113_2 = true := by decide +kernel
set_option maxRecDepth 100000 in
theorem kn113_3 : bkn (12, smT) ctb 160 sc113 1000000 nl113 nd113_3 = true := by decide +kernel
set_option maxRecDepth 100000 in
theorem kn113_4 : bkn (12, smT) ctb 160 sc113 1000000 nl113 nd113_4 = true := by decide +kernel
set_option maxRecDepth 100000 in
theorem ke114 : bke (3, smT) ctb 160 sc114 2 1000000 nl114 = true := by decide +kernel
set_option maxRecDepth 100000 in
theorem kn114_0 : bkn (3, smT) ctb 160 sc114 1000000 nl114 nd114_0 = true := by decide +kernel
set_option maxRecDepth 100000 in
theorem ke115 : bke (3, smT) ctb 160 sc115 2 1000000 nl115 = true := by decide +kernel
set_option maxRecDepth 100000 in
theorem kn115_0 : bkn (3, smT) ctb 160 sc115 1000000 nl115 nd115_0 = true := by decide +kernel
set_option maxRecDepth 100000 in
theorem ke116 : bke (9, smT) ctb 160 sc116 402 1000000 nl116 = true := by decide +kernel
set_option maxRecDepth 100000 in
theorem kn116_0 : bkn (9, smT) ctb 160 sc116 1000000 nl116 nd116_0 = true := by decide +kernel
set_option maxRecDepth 100000 in
theorem kn116_1 : bkn (9, smT) ctb 160 sc116 1000000 nl116 nd116_1 = true := by decide +kernel
set_option maxRecDepth 100000 in
theorem kn116_2 : bkn (9, smT) ctb 160 sc116 1000000 nl116 nd116_2 = true := by decide +kernel
set_option maxRecDepth 100000 in
theorem kn116_3 : bkn (9, smT) ctb 160 sc116 1000000 nl116 nd116_3 = true := by decide +kernel
set_option maxRecDepth 100000 in
theorem kn116_4 : bkn (9, smT) ctb 160 sc116 1000000 nl116 nd116_4 = true := by decide +kernel
