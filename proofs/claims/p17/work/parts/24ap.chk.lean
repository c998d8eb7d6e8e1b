set_option maxRecDepth 100000 in
theorem ke148 : bke (11, smT) ctb 161 sc148 0 1000000 nl148 = true := by decide +kernel
set_option maxRecDepth 100000 in
theorem ke149 : bke (2, smT) ctb 161 sc149 0 1000000 nl149 = true := by decide +kernel
set_option maxRecDepth 100000 in
theorem ke150 : bke (2, smT) ctb 161 sc150 0 1000000 nl150 = true := by decide +kernel
set_option maxRecDepth 100000 in
theorem ke151 : bke (2, smT) ctb 161 sc151 0 1000000 nl151 = true := by decide +kernel
set_option maxRecDepth 100000 in
theorem ke152 : bke (7, smT) ctb 161 sc152 0 1000000 nl152 = true := by decide +kernel
set_option maxRecDepth 100000 in
theorem ke153 : bke (8, smT) ctb 161 sc153 0 1000000 nl153 = true := by decide +kernel
set_option maxRecDepth 100000 in
theorem ke154 : bke (2, smT) ctb 161 sc154 0 1000000 nl154 = true := by decide +kernel
set_option maxRecDepth 100000 in
theorem ke155 : bke (2, smT) ctb 161 sc155 0 1000000 nl155 = true := by decide +kernel
set_option maxRecDepth 100000 in
theorem ke156 : bke (2, smT) ctb 161 sc156 0 1000000 nl156 = true := by decide +kernel
set_option maxRecDepth 100000 in
theorem ke157 : bke (4, smT) ctb 161 sc157 0 1000000 nl157 = true := by decide +kernel
set_option maxRecDepth 100000 in
theorem ke158 : bke (5, smT) ctb 161 sc158 0 1000000 nl158 = true := by decide +kernel
set_option maxRecDepth 100000 in
theorem ke159 : bke (2, smT) ctb 161 sc159 0 1000000 nl159 = true := by decide +kernel
set_option maxRecDepth 100000 in
theorem ke160 : bke (2, smT) ctb 161 sc160 0 1000000 nl160 = true := by decide +kernel
set_option maxRecDepth 100000 in
theorem ke161 : bke (2, smT) ctb 161 sc161 0 1000000 nl161 = true := by decide +kernel
set_option maxRecDepth 100000 in
theorem ke162 : bke (2, smT) ctb 161 sc162 0 1000000 nl162 = true := by decide +kernel
set_option maxRecDepth 100000 in
theorem ke163 : bke (2, smT) ctb 161 sc163 0 1000000 nl163 = true := by decide +kernel
set_option maxRecDepth 100000 in
theorem ke164 : bke (1, smT) ctb 164 sc164 2 1000000 nl164 = true := by decide +kernel
set_option maxRecDepth 100000 in
theorem kn164_0 : bkn (1, smT) ctb 164 sc164 1000000 nl164 nd164_0 = true := by decide +kernel
set_option maxRecDepth 100000 in
theorem ke165 : bke (1, smT) ctb 164 sc165 2 1000000 nl165 = true := by decide +kernel
set_option maxRecDepth 100000 in
theorem kn165_0 : bkn (1, smT) ctb 164 sc165 1000000 nl165 nd165_0 = true := by decide +kernel
