set_option maxRecDepth 100000 in
theorem ke167 : bke (1, smT) ctb 164 sc167 402 1000000 nl167 = true := by decide +kernel
set_option maxRecDepth 100000 in
theorem kn167_0 : bkn (1, smT) ctb 164 sc167 1000000 nl167 nd167_0 = true := by decide +kernel
set_option maxRecDepth 100000 in
theorem kn167_1 : bkn (1, smT) ctb 164 sc167 1000000 nl167 nd167_1 = true := by decide +kernel
set_option maxRecDepth 100000 in
theorem kn167_2 : bkn (1, smT) ctb 164 sc167 1000000 nl167 nd167_2 = true := by decide +kernel
set_option maxRecDepth 100000 in
theorem kn167_3 : bkn (1, smT) ctb 164 sc167 1000000 nl167 nd167_3 = true := by decide +kernel
set_option maxRecDepth 100000 in
theorem kn167_4 : bkn (1, smT) ctb 164 sc167 1000000 nl167 nd167_4 = true := by decide +kernel
set_option maxRecDepth 100000 in
theorem kn167_5 : bkn (1, smT) ctb 164 sc167 1000000 nl167 nd167_5 = true := by decide +kernel
set_option maxRecDepth 100000 in
theorem kn167_6 : bkn (1, smT) ctb 164 sc167 1000000 nl167 nd167_6 = true := by decide +kernel
set_option maxRecDepth 100000 in
theorem kn167_7 : bkn (1, smT) ctb 164 sc167 1000000 nl167 nd167_7 = true := by decide +kernel
set_option maxRecDepth 100000 in
theorem kn167_8 : bkn (1, smT) ctb 164 sc167 1000000 nl167 nd167_8 = true := by decide +kernel
set_option maxRecDepth 100000 in
theorem kn167_9 : bkn (1, smT) ctb 164 sc167 1000000 nl167 nd167_9 = true := by decide +kernel
set_option maxRecDepth 100000 in
theorem kn167_10 : bkn (1, smT) ctb 164 sc167 1000000 nl167 nd167_10 = true := by decide +kernel
set_option maxRecDepth 100000 in
theorem kn167_11 : bkn (1, smT) ctb 164 sc167 1000000 nl167 nd167_11 = true := by decide +kernel
set_option maxRecDepth 100000 in
theorem kn167_12 : bkn (1, smT) ctb 164 sc167 1000000 nl167 nd167_12 = true := by decide +kernel
set_option maxRecDepth 100000 in
theorem kn167_13 : bkn (1, smT) ctb 164 sc167 1000000 nl167 nd167_13 = true := by decide +kernel
set_option maxRecDepth 100000 in
theorem kn167_14 : bkn (1, smT) ctb 164 sc167 1000000 nl167 nd167_14 = true := by decide +kernel
set_option maxRecDepth 100000 in
theorem ke168 : bke (1, smT) ctb 164 sc168 2 1000000 nl168 = true := by decide +kernel
set_option maxRecDepth 100000 in
theorem kn168_0 : bkn (1, smT) ctb 164 sc168 1000000 nl168 nd168_0 = true := by decide +kernel
set_option maxRecDepth 100000 in
theorem ke171 : bke (0, smT) ctb 175 sc171 14 1000000 nl171 = true := by decide +kernel
set_option maxRecDepth 100000 in
theorem kn171_0 : bkn (0, smT) ctb 175 sc171 1000000 nl171 nd171_0 = true := by decide +kernel
set_option maxRecDepth 100000 in
theorem ke172 : bke (0, smT) ctb 176 sc172 14 1000000 nl172 = true := by decide +kernel
set_option maxRecDepth 100000 in
theorem kn172_0 : bkn (0, smT) ctb 176 sc172 1000000 nl172 nd172_0 = true := by decide +kernel
set_option maxRecDepth 100000 in
theorem ke173 : bke (0, smT) ctb 177 sc173 183 1000000 nl173 = true := by decide +kernel
set_option maxRecDepth 100000 in
theorem kn173_0 : bkn (0, smT) ctb 177 sc173 1000000 nl173 nd173_0 = true := by decide +kernel
set_option maxRecDepth 100000 in
theorem kn173_1 : bkn (0, smT) ctb 177 sc173 1000000 nl173 nd173_1 = true := by decide +kernel
set_option maxRecDepth 100000 in
theorem ke174 : bke (0, smT) ctb 181 sc174 1204 1000000 nl174 = true := by decide +kernel
set_option maxRecDepth 100000 in
theorem kn174_0 : bkn (0, smT) ctb 181 sc174 1000000 nl174 nd174_0 = true := by decide +kernel
set_option maxRecDepth 100000 in
theorem kn174_1 : bkn (0, smT) ctb 181 sc174 1000000 nl174 nd174_1 = true := by decide +kernel
set_option maxRecDepth 100000 in
theorem kn174_2 : bkn (0, smT) ctb 181 sc174 1000000 nl174 nd174_2 = true := by decide +kernel
set_option maxRecDepth 100000 in
theorem kn174_3 : bkn (0, smT) ctb 181 sc174 1000000 nl174 nd174_3 = true := by decide +kernel
set_option maxRecDepth 100000 in
theorem kn174_4 : bkn (0, smT) ctb 181 sc174 1000000 nl174 nd174_4 = true := by decide +kernel
set_option maxRecDepth 100000 in
theorem kn174_5 : bkn (0, smT) ctb 181 sc174 1000000 nl174 nd174_5 = true := by decide +kernel
set_option maxRecDepth 100000 in
theorem kn174_6 : bkn (0, smT) ctb 181 sc174 1000000 nl174 nd174_6 = true := by decide +kernel
set_option maxRecDepth 100000 in
theorem kn174_7 : bkn (0, smT) ctb 181 sc174 1000000 nl174 nd174_7 = true := by decide +kernel
set_option maxRecDepth 100000 in
theorem kn174_8 : bkn (0, smT) ctb 181 sc174 1000000 nl174 nd174_8 = true := by decide +kernel
set_option maxRecDepth 100000 in
theorem kn174_9 : bkn (0, smT) ctb 181 sc174 1000000 nl174 nd174_9 = true := by decide +kernel
set_option maxRecDepth 100000 in
theorem kn174_10 : bkn (0, smT) ctb 181 sc174 1000000 nl174 nd174_10 = true := by decide +kernel
set_option maxRecDepth 100000 in
theorem kn174_11 : bkn (0, smT) ctb 181 sc174 1000000 nl174 nd174_11 = true := by decide +kernel
set_option maxRecDepth 100000 in
theorem kn174_12 : bkn (0, smT) ctb 181 sc174 1000000 nl174 nd174_12 = true := by decide +kernel
set_option maxRecDepth 100000 in
theorem kn174_13 : bkn (0, smT) ctb 181 sc174 1000000 nl174 nd174_13 = true := by decide +kernel
set_option maxRecDepth 100000 in
theorem kn174_14 : bkn (0, smT) ctb 181 sc174 1000000 nl174 nd174_14 = true := by decide +kernel
set_option maxRecDepth 100000 in
theorem ke175 : bke (0, smT) ctb 185 sc175 0 1000000 nl175 = true := by decide +kernel
