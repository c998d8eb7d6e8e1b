set_option maxRecDepth 100000 in
theorem ke341 : bke (42, smT) ctb 264 sc341 14 1000000 nl341 = true := by decide +kernel
set_option maxRecDepth 100000 in
theorem kn341_0 : bkn (42, smT) ctb 264 sc341 1000000 nl341 nd341_0 = true := by decide +kernel
set_option maxRecDepth 100000 in
theorem kn341_1 : bkn (42, smT) ctb 264 sc341 1000000 nl341 nd341_1 = true := by decide +kernel
set_option maxRecDepth 100000 in
theorem kn341_2 : bkn (42, smT) ctb 264 sc341 1000000 nl341 nd341_2 = true := by decide +kernel
set_option maxRecDepth 100000 in
theorem kn341_3 : bkn (42, smT) ctb 264 sc341 1000000 nl341 nd341_3 = true := by decide +kernel
set_option maxRecDepth 100000 in
theorem kn341_4 : bkn (42, smT) ctb 264 sc341 1000000 nl341 nd341_4 = true := by decide +kernel
set_option maxRecDepth 100000 in
theorem kn341_5 : bkn (42, smT) ctb 264 sc341 1000000 nl341 nd341_5 = true := by decide +kernel
set_option maxRecDepth 100000 in
theorem kn341_6 : bkn (42, smT) ctb 264 sc341 1000000 nl341 nd341_6 = true := by decide +kernel
set_option maxRecDepth 100000 in
theorem kn341_7 : bkn (42, smT) ctb 264 sc341 1000000 nl341 nd341_7 = true := by decide +kernel
set_option maxRecDepth 100000 in
theorem kn341_8 : bkn (42, smT) ctb 264 sc341 1000000 nl341 nd341_8 = true := by decide +kernel
set_option maxRecDepth 100000 in
theorem kn341_9 : bkn (42, smT) ctb 264 sc341 1000000 nl341 nd341_9 = true := by decide +kernel
set_option maxRecDepth 100000 in
theorem kn341_10 : bkn (42, smT) ctb 264 sc341 1000000 nl341 nd341_10 = true := by decide +kernel
set_option maxRecDepth 100000 in
theorem kn341_11 : bkn (42, smT) ctb 264 sc341 1000000 nl341 nd341_11 = true := by decide +kernel
set_option maxRecDepth 100000 in
theorem kn341_12 : bkn (42, smT) ctb 264 sc341 1000000 nl341 nd341_12 = true := by decide +kernel
set_option maxRecDepth 100000 in
theorem ke342 : bke (9, smT) ctb 265 sc342 5 1000000 nl342 = true := by decide +kernel
set_option maxRecDepth 100000 in
theorem kn342_1 : bkn (9, smT) ctb 265 sc342 1000000 nl342 nd342_1 = true := by decide +kernel
set_option maxRecDepth 100000 in
theorem kn342_3 : bkn (9, smT) ctb 265 sc342 1000000 nl342 nd342_3 = true := by decide +kernel
set_option maxRecDepth 100000 in
theorem kn342_5 : bkn (9, smT) ctb 265 sc342 1000000 nl342 nd342_5 = true := by decide +kernel
set_option maxRecDepth 100000 in
theorem ke343 : bke (43, smT) ctb 266 sc343 3 1000000 nl343 = true := by decide +kernel
set_option maxRecDepth 100000 in
theorem kn343_1 : bkn (43, smT) ctb 266 sc343 1000000 nl343 nd343_1 = true := by decide +kernel
set_option maxRecDepth 100000 in
theorem kn343_3 : bkn (43, smT) ctb 266 sc343 1000000 nl343 nd343_3 = true := by decide +kernel
set_option maxRecDepth 100000 in
theorem kn343_5 : bkn (43, smT) ctb 266 sc343 1000000 nl343 nd343_5 = true := by decide +kernel
set_option maxRecDepth 100000 in
theorem kn343_7 : bkn (43, smT) ctb 266 sc343 1000000 nl343 nd343_7 = true := by decide +kernel
set_option maxRecDepth 100000 in
theorem kn343_9 : bkn (43, smT) ctb 266 sc343 1000000 nl343 nd343_9 = true := by decide +kernel
set_option maxRecDepth 100000 in
theorem kn343_11 : bkn (43, smT) ctb 266 sc343 1000000 nl343 nd343_11 = true := by decide +kernel
set_option maxRecDepth 100000 in
theorem kn343_13 : bkn (43, smT) ctb 266 sc343 1000000 nl343 nd343_13 = true := by decide +kernel
set_option maxRecDepth 100000 in
theorem kn343_15 : bkn (43, smT) ctb 266 sc343 1000000 nl343 nd343_15 = true := by decide +kernel
set_option maxRecDepth 100000 in
theorem kn343_17 : bkn (43, smT) ctb 266 sc343 1000000 nl343 nd343_17 = true := by decide +kernel
set_option maxRecDepth 100000 in
theorem kn343_19 : bkn (43, smT) ctb 266 sc343 1000000 nl343 nd343_19 = true := by decide +kernel
set_option maxRecDepth 100000 in
theorem kn343_21 : bkn (43, smT) ctb 266 sc343 1000000 nl343 nd343_21 = true := by decide +kernel
set_option maxRecDepth 100000 in
theorem kn343_23 : bkn (43, smT) ctb 266 sc343 1000000 nl343 nd343_23 = true := by decide +kernel
set_option maxRecDepth 100000 in
theorem kn343_25 : bkn (43, smT) ctb 266 sc343 1000000 nl343 nd343_25 = true := by decide +kernel
set_option maxRecDepth 100000 in
theorem ke345 : bke (4, smT) ctb 269 sc345 14 1000000 nl345 = true := by decide +kernel
set_option maxRecDepth 100000 in
theorem kn345_0 : bkn (4, smT) ctb 269 sc345 1000000 nl345 nd345_0 = true := by decide +kernel
set_option maxRecDepth 100000 in
theorem ke346 : bke (4, smT) ctb 269 sc346 14 1000000 nl346 = true := by decide +kernel
set_option maxRecDepth 100000 in
theorem kn346_0 : bkn (4, smT) ctb 269 sc346 1000000 nl346 nd346_0 = true := by decide +kernel
set_option maxRecDepth 100000 in
theorem ke347 : bke (4, smT) ctb 269 sc347 14 1000000 nl347 = true := by decide +kernel
set_option maxRecDepth 100000 in
theorem kn347_0 : bkn (4, smT) ctb 269 sc347 1000000 nl347 nd347_0 = true := by decide +kernel
set_option maxRecDepth 100000 in
theorem ke348 : bke (4, smT) ctb 269 sc348 14 1000000 nl348 = true := by decide +kernel
set_option maxRecDepth 100000 in
theorem kn348_0 : bkn (4, smT) ctb 269 sc348 1000000 nl348 nd348_0 = true := by decide +kernel
set_option maxRecDepth 100000 in
theorem ke349 : bke (4, smT) ctb 269 sc349 14 1000000 nl349 = true := by decide +kernel
set_option maxRecDepth 100000 in
theorem kn349_0 : bkn (4, smT) ctb 269 sc349 1000000 nl349 nd349_0 = true := by decide +kernel
set_option maxRecDepth 100000 in
theorem ke350 : bke (3, smT) ctb 270 sc350 10 1000000 nl350 = true := by decide +kernel
set_option maxRecDepth 100000 in
theorem kn350_0 : bkn (3, smT) ctb 270 sc350 1000000 nl350 nd350_0 = true := by decide +kernel
set_option maxRecDepth 100000 in
theorem ke351 : bke (1, smT) ctb 271 sc351 14 1000000 nl351 = true := by decide +kernel
set_option maxRecDepth 100000 in
theorem kn351_0 : bkn (1, smT) ctb 271 sc351 1000000 nl351 nd351_0 = true := by decide +kernel
set_option maxRecDepth 100000 in
theorem ke352 : bke (5, smT) ctb 272 sc352 0 1000000 nl352 = true := by decide +kernel
set_option maxRecDepth 100000 in
theorem ke353 : bke (2, smT) ctb 273 sc353 0 1000000 nl353 = true := by decide +kernel
set_option maxRecDepth 100000 in
theorem ke354 : bke (2, smT) ctb 274 sc354 14 1000000 nl354 = true := by decide +kernel
set_option maxRecDepth 100000 in
theorem kn354_0 : bkn (2, smT) ctb 274 sc354 1000000 nl354 nd354_0 = true := by decide +kernel
set_option maxRecDepth 100000 in
theorem ke355 : bke (3, smT) ctb 275 sc355 0 1000000 nl355 = true := by decide +kernel
set_option maxRecDepth 100000 in
theorem ke356 : bke (2, smT) ctb 276 sc356 0 1000000 nl356 = true := by decide +kernel
set_option maxRecDepth 100000 in
theorem ke357 : bke (2, smT) ctb 277 sc357 0 1000000 nl357 = true := by decide +kernel
set_option maxRecDepth 100000 in
theorem ke358 : bke (5, smT) ctb 278 sc358 0 1000000 nl358 = true := by decide +kernel
set_option maxRecDepth 100000 in
theorem ke359 : bke (0, smT) ctb 279 sc359 10 1000000 nl359 = true := by decide +kernel
set_option maxRecDepth 100000 in
theorem kn359_0 : bkn (0, smT) ctb 279 sc359 1000000 nl359 nd359_0 = true := by decide +kernel
set_option maxRecDepth 100000 in
theorem ke360 : bke (0, smT) ctb 279 sc360 10 1000000 nl360 = true := by decide +kernel
set_option maxRecDepth 100000 in
theorem kn360_0 : bkn (0, smT) ctb 279 sc360 1000000 nl360 nd360_0 = true := by decide +kernel
set_option maxRecDepth 100000 in
theorem ke361 : bke (0, smT) ctb 279 sc361 10 1000000 nl361 = true := by decide +kernel
set_option maxRecDepth 100000 in
theorem kn361_0 : bkn (0, smT) ctb 279 sc361 1000000 nl361 nd361_0 = true := by decide +kernel
set_option maxRecDepth 100000 in
theorem ke362 : bke (0, smT) ctb 279 sc362 10 1000000 nl362 = true := by decide +kernel
set_option maxRecDepth 100000 in
theorem kn362_0 : bkn (0, smT) ctb 279 sc362 1000000 nl362 nd362_0 = true := by decide +kernel
set_option maxRecDepth 100000 in
theorem ke363 : bke (0, smT) ctb 280 sc363 10 1000000 nl363 = true := by decide +kernel
set_option maxRecDepth 100000 in
theorem kn363_0 : bkn (0, smT) ctb 280 sc363 1000000 nl363 nd363_0 = true := by decide +kernel
set_option maxRecDepth 100000 in
theorem ke364 : bke (0, smT) ctb 281 sc364 397 1000000 nl364 = true := by decide +kernel
set_option maxRecDepth 100000 in
theorem kn364_0 : bkn (0, smT) ctb 281 sc364 1000000 nl364 nd364_0 = true := by decide +kernel
set_option maxRecDepth 100000 in
theorem ke365 : bke (5, smT) ctb 282 sc365 0 1000000 nl365 = true := by decide +kernel
set_option maxRecDepth 100000 in
theorem ke366 : bke (6, smT) ctb 283 sc366 23 1000000 nl366 = true := by decide +kernel
set_option maxRecDepth 100000 in
theorem kn366_0 : bkn (6, smT) ctb 283 sc366 1000000 nl366 nd366_0 = true := by decide +kernel
set_option maxRecDepth 100000 in
theorem kn366_1 : bkn (6, smT) ctb 283 sc366 1000000 nl366 nd366_1 = true := by decide +kernel
set_option maxRecDepth 100000 in
theorem ke367 : bke (7, smT) ctb 284 sc367 102 1000000 nl367 = true := by decide +kernel
set_option maxRecDepth 100000 in
theorem kn367_0 : bkn (7, smT) ctb 284 sc367 1000000 nl367 nd367_0 = true := by decide +kernel
set_option maxRecDepth 100000 in
theorem ke368 : bke (6, smT) ctb 287 sc368 0 1000000 nl368 = true := by decide +kernel
set_option maxRecDepth 100000 in
theorem ke369 : bke (2, smT) ctb 288 sc369 0 1000000 nl369 = true := by decide +kernel
set_option maxRecDepth 100000 in
theorem ke370 : bke (2, smT) ctb 290 sc370 0 1000000 nl370 = true := by decide +kernel
set_option maxRecDepth 100000 in
theorem ke371 : bke (2, smT) ctb 291 sc371 0 1000000 nl371 = true := by decide +kernel
set_option maxRecDepth 100000 in
theorem ke372 : bke (2, smT) ctb 292 sc372 0 1000000 nl372 = true := by decide +kernel
set_option maxRecDepth 100000 in
theorem ke373 : bke (0, smT) ctb 293 sc373 3 1000000 nl373 = true := by decide +kernel
set_option maxRecDepth 100000 in
theorem kn373_1 : bkn (0, smT) ctb 293 sc373 1000000 nl373 nd373_1 = true := by decide +kernel
set_option maxRecDepth 100000 in
theorem ke374 : bke (0, smT) ctb 294 sc374 3 1000000 nl374 = true := by decide +kernel
set_option maxRecDepth 100000 in
theorem kn374_1 : bkn (0, smT) ctb 294 sc374 1000000 nl374 nd374_1 = true := by decide +kernel
set_option maxRecDepth 100000 in
theorem ke375 : bke (7, smT) ctb 295 sc375 102 1000000 nl375 = true := by decide +kernel
set_option maxRecDepth 100000 in
theorem kn375_0 : bkn (7, smT) ctb 295 sc375 1000000 nl375 nd375_0 = true := by decide +kernel
set_option maxRecDepth 100000 in
theorem ke376 : bke (2, smT) ctb 296 sc376 14 1000000 nl376 = true := by decide +kernel
set_option maxRecDepth 100000 in
theorem kn376_0 : bkn (2, smT) ctb 296 sc376 1000000 nl376 nd376_0 = true := by decide +kernel
set_option maxRecDepth 100000 in
theorem ke377 : bke (3, smT) ctb 297 sc377 14 1000000 nl377 = true := by decide +kernel
set_option maxRecDepth 100000 in
theorem kn377_0 : bkn (3, smT) ctb 297 sc377 1000000 nl377 nd377_0 = true := by decide +kernel
set_option maxRecDepth 100000 in
theorem ke378 : bke (2, smT) ctb 298 sc378 10 1000000 nl378 = true := by decide +kernel
set_option maxRecDepth 100000 in
theorem kn378_0 : bkn (2, smT) ctb 298 sc378 1000000 nl378 nd378_0 = true := by decide +kernel
set_option maxRecDepth 100000 in
theorem ke379 : bke (8, smT) ctb 299 sc379 0 1000000 nl379 = true := by decide +kernel
set_option maxRecDepth 100000 in
theorem ke380 : bke (9, smT) ctb 301 sc380 0 1000000 nl380 = true := by decide +kernel
set_option maxRecDepth 100000 in
theorem ke381 : bke (9, smT) ctb 303 sc381 14 1000000 nl381 = true := by decide +kernel
set_option maxRecDepth 100000 in
theorem kn381_0 : bkn (9, smT) ctb 303 sc381 1000000 nl381 nd381_0 = true := by decide +kernel
set_option maxRecDepth 100000 in
theorem ke382 : bke (9, smT) ctb 304 sc382 170 1000000 nl382 = true := by decide +kernel
set_option maxRecDepth 100000 in
theorem kn382_0 : bkn (9, smT) ctb 304 sc382 1000000 nl382 nd382_0 = true := by decide +kernel
set_option maxRecDepth 100000 in
theorem kn382_1 : bkn (9, smT) ctb 304 sc382 1000000 nl382 nd382_1 = true := by decide +kernel
set_option maxRecDepth 100000 in
theorem ke383 : bke (9, smT) ctb 306 sc383 2571 1000000 nl383 = true := by decide +kernel
set_option maxRecDepth 100000 in
theorem kn383_0 : bkn (9, smT) ctb 306 sc383 1000000 nl383 nd383_0 = true := by decide +kernel
set_option maxRecDepth 100000 in
theorem kn383_1 : bkn (9, smT) ctb 306 sc383 1000000 nl383 nd383_1 = true := by decide +kernel
set_option maxRecDepth 100000 in
theorem ke384 : bke (5, smT) ctb 307 sc384 57372 1000000 nl384 = true := by decide +kernel
set_option maxRecDepth 100000 in
theorem kn384_0 : bkn (5, smT) ctb 307 sc384 1000000 nl384 nd384_0 = true := by decide +kernel
set_option maxRecDepth 100000 in
theorem kn384_1 : bkn (5, smT) ctb 307 sc384 1000000 nl384 nd384_1 = true := by decide +kernel
set_option maxRecDepth 100000 in
theorem kn384_2 : bkn (5, smT) ctb 307 sc384 1000000 nl384 nd384_2 = true := by decide +kernel
set_option maxRecDepth 100000 in
theorem ke385 : bke (6, smT) ctb 308 sc385 14 1000000 nl385 = true := by decide +kernel
set_option maxRecDepth 100000 in
theorem kn385_0 : bkn (6, smT) ctb 308 sc385 1000000 nl385 nd385_0 = true := by decide +kernel
set_option maxRecDepth 100000 in
theorem ke386 : bke (7, smT) ctb 309 sc386 26 1000000 nl386 = true := by decide +kernel
set_option maxRecDepth 100000 in
theorem kn386_0 : bkn (7, smT) ctb 309 sc386 1000000 nl386 nd386_0 = true := by decide +kernel
set_option maxRecDepth 100000 in
theorem ke387 : bke (8, smT) ctb 310 sc387 2147483646 1000000 nl387 = true := by decide +kernel
set_option maxRecDepth 100000 in
theorem kn387_0 : bkn (8, smT) ctb 310 sc387 1000000 nl387 nd387_0 = true := by decide +kernel
set_option maxRecDepth 100000 in
theorem ke388 : bke (7, smT) ctb 311 sc388 303 1000000 nl388 = true := by decide +kernel
set_option maxRecDepth 100000 in
theorem kn388_0 : bkn (7, smT) ctb 311 sc388 1000000 nl388 nd388_0 = true := by decide +kernel
set_option maxRecDepth 100000 in
theorem ke389 : bke (7, smT) ctb 312 sc389 303 1000000 nl389 = true := by decide +kernel
set_option maxRecDepth 100000 in
theorem kn389_0 : bkn (7, smT) ctb 312 sc389 1000000 nl389 nd389_0 = true := by decide +kernel
set_option maxRecDepth 100000 in
theorem ke390 : bke (7, smT) ctb 313 sc390 102 1000000 nl390 = true := by decide +kernel
set_option maxRecDepth 100000 in
theorem kn390_0 : bkn (7, smT) ctb 313 sc390 1000000 nl390 nd390_0 = true := by decide +kernel
set_option maxRecDepth 100000 in
theorem ke391 : bke (8, smT) ctb 314 sc391 27 1000000 nl391 = true := by decide +kernel
set_option maxRecDepth 100000 in
theorem kn391_0 : bkn (8, smT) ctb 314 sc391 1000000 nl391 nd391_0 = true := by decide +kernel
set_option maxRecDepth 100000 in
theorem ke392 : bke (9, smT) ctb 315 sc392 26 1000000 nl392 = true := by decide +kernel
set_option maxRecDepth 100000 in
theorem kn392_0 : bkn (9, smT) ctb 315 sc392 1000000 nl392 nd392_0 = true := by decide +kernel
set_option maxRecDepth 100000 in
theorem ke393 : bke (10, smT) ctb 316 sc393 0 1000000 nl393 = true := by decide +kernel
