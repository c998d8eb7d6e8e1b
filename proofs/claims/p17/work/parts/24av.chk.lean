set_option maxRecDepth 100000 in
theorem ke299 : bke (11, smT) ctb 259 sc299 0 1000000 nl299 = true := by decide +kernel
set_option maxRecDepth 100000 in
theorem ke300 : bke (8, smT) ctb 259 sc300 0 1000000 nl300 = true := by decide +kernel
set_option maxRecDepth 100000 in
theorem ke301 : bke (5, smT) ctb 259 sc301 0 1000000 nl301 = true := by decide +kernel
set_option maxRecDepth 100000 in
theorem ke302 : bke (24, smT) ctb 260 sc302 394 1000000 nl302 = true := by decide +kernel
set_option maxRecDepth 100000 in
theorem kn302_0 : bkn (24, smT) ctb 260 sc302 1000000 nl302 nd302_0 = true := by decide +kernel
set_option maxRecDepth 100000 in
theorem ke303 : bke (21, smT) ctb 260 sc303 394 1000000 nl303 = true := by decide +kernel
set_option maxRecDepth 100000 in
theorem kn303_0 : bkn (21, smT) ctb 260 sc303 1000000 nl303 nd303_0 = true := by decide +kernel
set_option maxRecDepth 100000 in
theorem ke304 : bke (18, smT) ctb 260 sc304 392 1000000 nl304 = true := by decide +kernel
set_option maxRecDepth 100000 in
theorem kn304_0 : bkn (18, smT) ctb 260 sc304 1000000 nl304 nd304_0 = true := by decide +kernel
set_option maxRecDepth 100000 in
theorem ke305 : bke (15, smT) ctb 260 sc305 392 1000000 nl305 = true := by decide +kernel
set_option maxRecDepth 100000 in
theorem kn305_0 : bkn (15, smT) ctb 260 sc305 1000000 nl305 nd305_0 = true := by decide +kernel
set_option maxRecDepth 100000 in
theorem ke306 : bke (12, smT) ctb 260 sc306 394 1000000 nl306 = true := by decide +kernel
set_option maxRecDepth 100000 in
theorem kn306_0 : bkn (12, smT) ctb 260 sc306 1000000 nl306 nd306_0 = true := by decide +kernel
set_option maxRecDepth 100000 in
theorem ke307 : bke (9, smT) ctb 260 sc307 394 1000000 nl307 = true := by decide +kernel
set_option maxRecDepth 100000 in
theorem kn307_0 : bkn (9, smT) ctb 260 sc307 1000000 nl307 nd307_0 = true := by decide +kernel
set_option maxRecDepth 100000 in
theorem ke308 : bke (6, smT) ctb 260 sc308 394 1000000 nl308 = true := by decide +kernel
set_option maxRecDepth 100000 in
theorem kn308_0 : bkn (6, smT) ctb 260 sc308 1000000 nl308 nd308_0 = true := by decide +kernel
set_option maxRecDepth 100000 in
theorem ke309 : bke (25, smT) ctb 261 sc309 394 1000000 nl309 = true := by decide +kernel
set_option maxRecDepth 100000 in
theorem kn309_0 : bkn (25, smT) ctb 261 sc309 1000000 nl309 nd309_0 = true := by decide +kernel
set_option maxRecDepth 100000 in
theorem ke310 : bke (22, smT) ctb 261 sc310 394 1000000 nl310 = true := by decide +kernel
set_option maxRecDepth 100000 in
theorem kn310_0 : bkn (22, smT) ctb 261 sc310 1000000 nl310 nd310_0 = true := by decide +kernel
set_option maxRecDepth 100000 in
theorem ke311 : bke (19, smT) ctb 261 sc311 393 1000000 nl311 = true := by decide +kernel
set_option maxRecDepth 100000 in
theorem kn311_0 : bkn (19, smT) ctb 261 sc311 1000000 nl311 nd311_0 = true := by decide +kernel
set_option maxRecDepth 100000 in
theorem ke312 : bke (16, smT) ctb 261 sc312 392 1000000 nl312 = true := by decide +kernel
set_option maxRecDepth 100000 in
theorem kn312_0 : bkn (16, smT) ctb 261 sc312 1000000 nl312 nd312_0 = true := by decide +kernel
set_option maxRecDepth 100000 in
theorem ke313 : bke (13, smT) ctb 261 sc313 393 1000000 nl313 = true := by decide +kernel
set_option maxRecDepth 100000 in
theorem kn313_0 : bkn (13, smT) ctb 261 sc313 1000000 nl313 nd313_0 = true := by decide +kernel
set_option maxRecDepth 100000 in
theorem ke314 : bke (10, smT) ctb 261 sc314 394 1000000 nl314 = true := by decide +kernel
set_option maxRecDepth 100000 in
theorem kn314_0 : bkn (10, smT) ctb 261 sc314 1000000 nl314 nd314_0 = true := by decide +kernel
set_option maxRecDepth 100000 in
theorem ke315 : bke (7, smT) ctb 261 sc315 394 1000000 nl315 = true := by decide +kernel
set_option maxRecDepth 100000 in
theorem kn315_0 : bkn (7, smT) ctb 261 sc315 1000000 nl315 nd315_0 = true := by decide +kernel
set_option maxRecDepth 100000 in
theorem ke316 : bke (26, smT) ctb 262 sc316 0 1000000 nl316 = true := by decide +kernel
set_option maxRecDepth 100000 in
theorem ke317 : bke (26, smT) ctb 262 sc317 0 1000000 nl317 = true := by decide +kernel
set_option maxRecDepth 100000 in
theorem ke318 : bke (26, smT) ctb 262 sc318 0 1000000 nl318 = true := by decide +kernel
set_option maxRecDepth 100000 in
theorem ke319 : bke (26, smT) ctb 262 sc319 0 1000000 nl319 = true := by decide +kernel
set_option maxRecDepth 100000 in
theorem ke320 : bke (26, smT) ctb 262 sc320 0 1000000 nl320 = true := by decide +kernel
set_option maxRecDepth 100000 in
theorem ke321 : bke (26, smT) ctb 262 sc321 0 1000000 nl321 = true := by decide +kernel
set_option maxRecDepth 100000 in
theorem ke322 : bke (26, smT) ctb 262 sc322 0 1000000 nl322 = true := by decide +kernel
