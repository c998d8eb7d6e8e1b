set_option maxRecDepth 100000 in
theorem ke394 : bke (10, smT) ctb 317 sc394 14 1000000 nl394 = true := by decide +kernel
set_option maxRecDepth 100000 in
theorem kn394_0 : bkn (10, smT) ctb 317 sc394 1000000 nl394 nd394_0 = true := by decide +kernel
set_option maxRecDepth 100000 in
theorem ke395 : bke (9, smT) ctb 318 sc395 10 1000000 nl395 = true := by decide +kernel
set_option maxRecDepth 100000 in
theorem kn395_0 : bkn (9, smT) ctb 318 sc395 1000000 nl395 nd395_0 = true := by decide +kernel
set_option maxRecDepth 100000 in
theorem ke396 : bke (7, smT) ctb 319 sc396 102 1000000 nl396 = true := by decide +kernel
set_option maxRecDepth 100000 in
theorem kn396_0 : bkn (7, smT) ctb 319 sc396 1000000 nl396 nd396_0 = true := by decide +kernel
set_option maxRecDepth 100000 in
theorem ke397 : bke (1, smT) ctb 320 sc397 10 1000000 nl397 = true := by decide +kernel
set_option maxRecDepth 100000 in
theorem kn397_0 : bkn (1, smT) ctb 320 sc397 1000000 nl397 nd397_0 = true := by decide +kernel
set_option maxRecDepth 100000 in
theorem ke398 : bke (1, smT) ctb 320 sc398 10 1000000 nl398 = true := by decide +kernel
set_option maxRecDepth 100000 in
theorem kn398_0 : bkn (1, smT) ctb 320 sc398 1000000 nl398 nd398_0 = true := by decide +kernel
set_option maxRecDepth 100000 in
theorem ke399 : bke (2, smT) ctb 321 sc399 10 1000000 nl399 = true := by decide +kernel
set_option maxRecDepth 100000 in
theorem kn399_0 : bkn (2, smT) ctb 321 sc399 1000000 nl399 nd399_0 = true := by decide +kernel
set_option maxRecDepth 100000 in
theorem ke400 : bke (2, smT) ctb 322 sc400 0 1000000 nl400 = true := by decide +kernel
set_option maxRecDepth 100000 in
theorem ke401 : bke (2, smT) ctb 323 sc401 0 1000000 nl401 = true := by decide +kernel
set_option maxRecDepth 100000 in
theorem ke402 : bke (2, smT) ctb 324 sc402 127 1000000 nl402 = true := by decide +kernel
set_option maxRecDepth 100000 in
theorem kn402_0 : bkn (2, smT) ctb 324 sc402 1000000 nl402 nd402_0 = true := by decide +kernel
set_option maxRecDepth 100000 in
theorem kn402_1 : bkn (2, smT) ctb 324 sc402 1000000 nl402 nd402_1 = true := by decide +kernel
set_option maxRecDepth 100000 in
theorem ke403 : bke (2, smT) ctb 325 sc403 14 1000000 nl403 = true := by decide +kernel
set_option maxRecDepth 100000 in
theorem kn403_0 : bkn (2, smT) ctb 325 sc403 1000000 nl403 nd403_0 = true := by decide +kernel
set_option maxRecDepth 100000 in
theorem ke404 : bke (2, smT) ctb 326 sc404 183 1000000 nl404 = true := by decide +kernel
set_option maxRecDepth 100000 in
theorem kn404_0 : bkn (2, smT) ctb 326 sc404 1000000 nl404 nd404_0 = true := by decide +kernel
set_option maxRecDepth 100000 in
theorem kn404_1 : bkn (2, smT) ctb 326 sc404 1000000 nl404 nd404_1 = true := by decide +kernel
set_option maxRecDepth 100000 in
theorem ke405 : bke (3, smT) ctb 328 sc405 147 1000000 nl405 = true := by decide +kernel
set_option maxRecDepth 100000 in
theorem kn405_0 : bkn (3, smT) ctb 328 sc405 1000000 nl405 nd405_0 = true := by decide +kernel
set_option maxRecDepth 100000 in
theorem ke406 : bke (3, smT) ctb 330 sc406 4401 1000000 nl406 = true := by decide +kernel
set_option maxRecDepth 100000 in
theorem kn406_0 : bkn (3, smT) ctb 330 sc406 1000000 nl406 nd406_0 = true := by decide +kernel
set_option maxRecDepth 100000 in
theorem kn406_1 : bkn (3, smT) ctb 330 sc406 1000000 nl406 nd406_1 = true := by decide +kernel
set_option maxRecDepth 100000 in
theorem kn406_2 : bkn (3, smT) ctb 330 sc406 1000000 nl406 nd406_2 = true := by decide +kernel
set_option maxRecDepth 100000 in
theorem kn406_3 : bkn (3, smT) ctb 330 sc406 1000000 nl406 nd406_3 = true := by decide +kernel
set_option maxRecDepth 100000 in
theorem ke407 : bke (1, smT) ctb 331 sc407 1067 1000000 nl407 = true := by decide +kernel
set_option maxRecDepth 100000 in
theorem kn407_0 : bkn (1, smT) ctb 331 sc407 1000000 nl407 nd407_0 = true := by decide +kernel
set_option maxRecDepth 100000 in
theorem kn407_1 : bkn (1, smT) ctb 331 sc407 1000000 nl407 nd407_1 = true := by decide +kernel
set_option maxRecDepth 100000 in
theorem ke408 : bke (1, smT) ctb 332 sc408 0 1000000 nl408 = true := by decide +kernel
set_option maxRecDepth 100000 in
theorem ke409 : bke (2, smT) ctb 333 sc409 176093659137 1000000 nl409 = true := by decide +kernel
set_option maxRecDepth 100000 in
theorem kn409_0 : bkn (2, smT) ctb 333 sc409 1000000 nl409 nd409_0 = true := by decide +kernel
set_option maxRecDepth 100000 in
theorem kn409_1 : bkn (2, smT) ctb 333 sc409 1000000 nl409 nd409_1 = true := by decide +kernel
set_option maxRecDepth 100000 in
theorem ke410 : bke (0, smT) ctb 334 sc410 0 1000000 nl410 = true := by decide +kernel
set_option maxRecDepth 100000 in
theorem ke411 : bke (3, smT) ctb 335 sc411 14 1000000 nl411 = true := by decide +kernel
set_option maxRecDepth 100000 in
theorem kn411_0 : bkn (3, smT) ctb 335 sc411 1000000 nl411 nd411_0 = true := by decide +kernel
set_option maxRecDepth 100000 in
theorem ke412 : bke (0, smT) ctb 338 sc412 0 1000000 nl412 = true := by decide +kernel
