def nd316_0 : bNd := (4, [some (.inr (.inl (.ref 84))), some (.inl (0, [(0, 1)])), some (.inl (0, [(1, 1)])), some (.inl (0, [(2, 1)]))], [(0, 11), (0, 255), (0, 8)], [], [], (0, []), (0, []), (8, [(2, (-1))]))
/-- SModel peopleIn -/
def nl316 : List bNd := [nd316_0]
set_option maxRecDepth 100000 in
theorem ke316 : bke (3, smT) ctb 270 sc316 10 100000 nl316 = true := by decide +kernel
set_option maxRecDepth 100000 in
theorem kn316_0 : bkn (3, smT) ctb 270 sc316 100000 nl316 nd316_0 = true := by decide +kernel
def nd317_0 : bNd := (4, [some (.inr (.inl (.ref 84))), some (.inl (0, [(0, 1)])), some (.inl (0, [(1, 1)])), some (.inl (0, [(2, 1)]))], [(0, 11), (0, 4095), (0, 12)], [], [], (0, []), (0, []), (12, [(2, (-1))]))
/-- SModel besideOf -/
def nl317 : List bNd := [nd317_0]
set_option maxRecDepth 100000 in
theorem ke317 : bke (1, smT) ctb 271 sc317 14 100000 nl317 = true := by decide +kernel
set_option maxRecDepth 100000 in
theorem kn317_0 : bkn (1, smT) ctb 271 sc317 100000 nl317 nd317_0 = true := by decide +kernel
/-- SModel room -/
def nl318 : List bNd := []
set_option maxRecDepth 100000 in
theorem ke318 : bke (5, smT) ctb 272 sc318 0 100000 nl318 = true := by decide +kernel
/-- SModel sand -/
def nl319 : List bNd := []
set_option maxRecDepth 100000 in
theorem ke319 : bke (2, smT) ctb 273 sc319 0 100000 nl319 = true := by decide +kernel
def nd320_0 : bNd := (4, [some (.inr (.inl (.ref 84))), some (.inl (0, [(0, 1)])), some (.inl (0, [(1, 1)])), some (.inl (0, [(2, 1)]))], [(0, 7), (0, 4095), (0, 12)], [], [], (0, []), (0, []), (12, [(2, (-1))]))
/-- SModel roams -/
def nl320 : List bNd := [nd320_0]
set_option maxRecDepth 100000 in
theorem ke320 : bke (2, smT) ctb 274 sc320 14 100000 nl320 = true := by decide +kernel
set_option maxRecDepth 100000 in
theorem kn320_0 : bkn (2, smT) ctb 274 sc320 100000 nl320 nd320_0 = true := by decide +kernel
/-- SModel person -/
def nl321 : List bNd := []
set_option maxRecDepth 100000 in
theorem ke321 : bke (3, smT) ctb 275 sc321 0 100000 nl321 = true := by decide +kernel
/-- SModel load -/
def nl322 : List bNd := []
set_option maxRecDepth 100000 in
theorem ke322 : bke (2, smT) ctb 276 sc322 0 100000 nl322 = true := by decide +kernel
/-- SModel habit -/
def nl323 : List bNd := []
set_option maxRecDepth 100000 in
theorem ke323 : bke (2, smT) ctb 277 sc323 0 100000 nl323 = true := by decide +kernel
/-- SModel rule -/
def nl324 : List bNd := []
set_option maxRecDepth 100000 in
theorem ke324 : bke (5, smT) ctb 278 sc324 0 100000 nl324 = true := by decide +kernel
def nd325_0 : bNd := (6, [some (.inr (.inl (.ref 84))), some (.inl (16, [(0, 11)])), some (.inl (0, [(2, 1)])), some (.inl (0, [(1, 1)])), some (.inl (0, [(3, 1)])), some (.inl (0, [(4, 1)])), none], [(0, 11), ((-2147483648), 100), ((-1), (-1)), ((-2147483648), 2147483647), (0, 8)], [], [], (0, []), (0, []), (8, [(4, (-1))]))
/-- SModel moves -/
def nl325 : List bNd := [nd325_0]
set_option maxRecDepth 100000 in
theorem ke325 : bke (0, smT) ctb 279 sc325 10 100000 nl325 = true := by decide +kernel
set_option maxRecDepth 100000 in
theorem kn325_0 : bkn (0, smT) ctb 279 sc325 100000 nl325 nd325_0 = true := by decide +kernel
def nd326_0 : bNd := (6, [some (.inr (.inl (.ref 84))), some (.inl (201, [(0, 24)])), some (.inl (0, [(2, 1)])), some (.inl (0, [(1, 1)])), some (.inl (0, [(3, 1)])), some (.inl (0, [(4, 1)])), none], [(0, 7), (1, 100), ((-1), (-1)), ((-2147483648), 2147483647), (0, 8)], [], [], (0, []), (0, []), (8, [(4, (-1))]))
/-- SModel moves -/
def nl326 : List bNd := [nd326_0]
set_option maxRecDepth 100000 in
theorem ke326 : bke (0, smT) ctb 279 sc326 10 100000 nl326 = true := by decide +kernel
set_option maxRecDepth 100000 in
theorem kn326_0 : bkn (0, smT) ctb 279 sc326 100000 nl326 nd326_0 = true := by decide +kernel
def nd327_0 : bNd := (6, [some (.inr (.inl (.ref 84))), some (.inl (201, [(0, 24)])), some (.inl (16, [(1, 11)])), some (.inl (0, [(2, 1)])), some (.inl (0, [(3, 1)])), some (.inl (0, [(4, 1)])), none], [(0, 7), (0, 11), ((-2147483648), 100), ((-2147483648), 2147483647), (0, 8)], [], [], (0, []), (0, []), (8, [(4, (-1))]))
/-- SModel moves -/
def nl327 : List bNd := [nd327_0]
set_option maxRecDepth 100000 in
theorem ke327 : bke (0, smT) ctb 279 sc327 10 100000 nl327 = true := by decide +kernel
set_option maxRecDepth 100000 in
theorem kn327_0 : bkn (0, smT) ctb 279 sc327 100000 nl327 nd327_0 = true := by decide +kernel
def nd328_0 : bNd := (6, [some (.inr (.inl (.ref 84))), some (.inl (16, [(0, 11)])), some (.inl (201, [(1, 24)])), some (.inl (0, [(2, 1)])), some (.inl (0, [(3, 1)])), some (.inl (0, [(4, 1)])), none], [(0, 11), (0, 7), ((-2147483648), 100), ((-2147483648), 2147483647), (0, 8)], [], [], (0, []), (0, []), (8, [(4, (-1))]))
/-- SModel moves -/
def nl328 : List bNd := [nd328_0]
set_option maxRecDepth 100000 in
theorem ke328 : bke (0, smT) ctb 279 sc328 10 100000 nl328 = true := by decide +kernel
set_option maxRecDepth 100000 in
theorem kn328_0 : bkn (0, smT) ctb 279 sc328 100000 nl328 nd328_0 = true := by decide +kernel
def nd329_0 : bNd := (5, [some (.inr (.inl (.ref 84))), some (.inl (16, [(0, 11)])), some (.inl (0, [(1, 1)])), some (.inl (0, [(2, 1)])), some (.inl (0, [(3, 1)]))], [(0, 11), ((-2147483648), 100), ((-2147483648), 2147483647), (0, 8)], [], [], (0, []), (0, []), (8, [(3, (-1))]))
/-- SModel partOf -/
def nl329 : List bNd := [nd329_0]
set_option maxRecDepth 100000 in
theorem ke329 : bke (0, smT) ctb 280 sc329 10 100000 nl329 = true := by decide +kernel
set_option maxRecDepth 100000 in
theorem kn329_0 : bkn (0, smT) ctb 280 sc329 100000 nl329 nd329_0 = true := by decide +kernel
def nd330_0 : bNd := (5, [some (.inr (.inl (.ref 84))), some (.inl (0, [(0, 1)])), some (.inl (0, [(1, 1)])), some (.inl (0, [(2, 1)])), some (.inl (0, [(3, 1)])), some (.inl (0, [(4, 1)]))], [(0, 7), (0, 11), (1, 2147483647), (0, 11), (4, 399)], [], [], (0, []), (0, []), ((-4), [(4, 1)]))
/-- SModel tells -/
def nl330 : List bNd := [nd330_0]
set_option maxRecDepth 100000 in
theorem ke330 : bke (0, smT) ctb 281 sc330 397 100000 nl330 = true := by decide +kernel
set_option maxRecDepth 100000 in
theorem kn330_0 : bkn (0, smT) ctb 281 sc330 100000 nl330 nd330_0 = true := by decide +kernel
/-- SModel goes -/
def nl331 : List bNd := []
set_option maxRecDepth 100000 in
theorem ke331 : bke (5, smT) ctb 282 sc331 0 100000 nl331 = true := by decide +kernel
def nd332_0 : bNd := (4, [some (.inr (.inl (.ref 84))), some (.inl (0, [(0, 1)])), some (.inl (0, [(1, 1)]))], [((-2147483648), 2147483647), (0, 8)], [], [], (0, []), (0, []), (21, [(1, (-1))]))
def nd332_1 : bNd := (28, [some (.inr (.inl (.ref 84))), some (.inl (0, [(0, 1)])), some (.inl (0, [(1, 1)]))], [((-2147483648), 2147483647), (0, 12)], [], [], (0, []), (0, []), (12, [(1, (-1))]))
/-- SModel round -/
def nl332 : List bNd := [nd332_0, nd332_1]
set_option maxRecDepth 100000 in
theorem ke332 : bke (6, smT) ctb 283 sc332 23 100000 nl332 = true := by decide +kernel
set_option maxRecDepth 100000 in
theorem kn332_0 : bkn (6, smT) ctb 283 sc332 100000 nl332 nd332_0 = true := by decide +kernel
set_option maxRecDepth 100000 in
theorem kn332_1 : bkn (6, smT) ctb 283 sc332 100000 nl332 nd332_1 = true := by decide +kernel
def nd333_0 : bNd := (38, [some (.inr (.inl (.ref 84))), some (.inl (0, [(0, 1)])), some (.inl (0, [(1, 1)])), some (.inl (0, [(2, 1)]))], [(1, 100), ((-2147483648), 2147483647), (0, 100)], [], [], (0, []), (0, []), (100, [(2, (-1))]))
/-- SModel rounds -/
def nl333 : List bNd := [nd333_0]
set_option maxRecDepth 100000 in
theorem ke333 : bke (7, smT) ctb 284 sc333 102 100000 nl333 = true := by decide +kernel
set_option maxRecDepth 100000 in
theorem kn333_0 : bkn (7, smT) ctb 284 sc333 100000 nl333 nd333_0 = true := by decide +kernel
/-- SModel sweep -/
def nl334 : List bNd := []
set_option maxRecDepth 100000 in
theorem ke334 : bke (6, smT) ctb 287 sc334 0 100000 nl334 = true := by decide +kernel
/-- SModel beat -/
def nl335 : List bNd := []
set_option maxRecDepth 100000 in
theorem ke335 : bke (2, smT) ctb 288 sc335 0 100000 nl335 = true := by decide +kernel
/-- SModel tool -/
def nl336 : List bNd := []
set_option maxRecDepth 100000 in
theorem ke336 : bke (2, smT) ctb 290 sc336 0 100000 nl336 = true := by decide +kernel
/-- SModel keep -/
def nl337 : List bNd := []
set_option maxRecDepth 100000 in
theorem ke337 : bke (2, smT) ctb 291 sc337 0 100000 nl337 = true := by decide +kernel
/-- SModel soak -/
def nl338 : List bNd := []
set_option maxRecDepth 100000 in
theorem ke338 : bke (2, smT) ctb 292 sc338 0 100000 nl338 = true := by decide +kernel
def nd339_0 : bNd := (2, [some (.inr (.inl (.ref 84))), some (.inl (0, []))], [], [], [], (0, []), (0, []), (1, []))
def nd339_1 : bNd := (27, [some (.inr (.inl (.ref 84))), some (.inl (777, []))], [], [], [], (0, []), (0, []), (0, []))
/-- SModel keepsAll -/
def nl339 : List bNd := [nd339_0, nd339_1]
set_option maxRecDepth 100000 in
theorem ke339 : bke (0, smT) ctb 293 sc339 3 100000 nl339 = true := by decide +kernel
set_option maxRecDepth 100000 in
theorem kn339_1 : bkn (0, smT) ctb 293 sc339 100000 nl339 nd339_1 = true := by decide +kernel
def nd340_0 : bNd := (2, [some (.inr (.inl (.ref 84))), some (.inl (0, []))], [], [], [], (0, []), (0, []), (1, []))
def nd340_1 : bNd := (27, [some (.inr (.inl (.ref 84))), some (.inl (777, []))], [], [], [], (0, []), (0, []), (0, []))
/-- SModel bringsBack -/
def nl340 : List bNd := [nd340_0, nd340_1]
set_option maxRecDepth 100000 in
theorem ke340 : bke (0, smT) ctb 294 sc340 3 100000 nl340 = true := by decide +kernel
set_option maxRecDepth 100000 in
theorem kn340_1 : bkn (0, smT) ctb 294 sc340 100000 nl340 nd340_1 = true := by decide +kernel
def nd341_0 : bNd := (2, [some (.inr (.inl (.ref 84))), some (.inl (0, [(0, 1)])), some (.inl (0, [(1, 1)]))], [((-128), 100), (0, 100)], [], [], (0, []), (0, []), (100, [(1, (-1))]))
/-- SModel runs -/
def nl341 : List bNd := [nd341_0]
set_option maxRecDepth 100000 in
theorem ke341 : bke (7, smT) ctb 295 sc341 102 100000 nl341 = true := by decide +kernel
set_option maxRecDepth 100000 in
theorem kn341_0 : bkn (7, smT) ctb 295 sc341 100000 nl341 nd341_0 = true := by decide +kernel
def nd342_0 : bNd := (4, [some (.inr (.inl (.ref 84))), some (.inl (0, [(0, 1)])), some (.inl (0, [(1, 1)]))], [((-2147483648), 2147483647), (0, 12)], [], [], (0, []), (0, []), (12, [(1, (-1))]))
/-- SModel beds -/
def nl342 : List bNd := [nd342_0]
set_option maxRecDepth 100000 in
theorem ke342 : bke (2, smT) ctb 296 sc342 14 100000 nl342 = true := by decide +kernel
set_option maxRecDepth 100000 in
theorem kn342_0 : bkn (2, smT) ctb 296 sc342 100000 nl342 nd342_0 = true := by decide +kernel
def nd343_0 : bNd := (4, [some (.inr (.inl (.ref 84))), some (.inl (0, [(0, 1)])), some (.inl (0, [(1, 1)]))], [((-2147483648), 2147483647), (0, 12)], [], [], (0, []), (0, []), (12, [(1, (-1))]))
/-- SModel indoors -/
def nl343 : List bNd := [nd343_0]
set_option maxRecDepth 100000 in
theorem ke343 : bke (3, smT) ctb 297 sc343 14 100000 nl343 = true := by decide +kernel
set_option maxRecDepth 100000 in
theorem kn343_0 : bkn (3, smT) ctb 297 sc343 100000 nl343 nd343_0 = true := by decide +kernel
def nd344_0 : bNd := (4, [some (.inr (.inl (.ref 84))), some (.inl (0, [(0, 1)])), some (.inl (0, [(1, 1)]))], [((-2147483648), 2147483647), (0, 8)], [], [], (0, []), (0, []), (8, [(1, (-1))]))
/-- SModel loads -/
def nl344 : List bNd := [nd344_0]
set_option maxRecDepth 100000 in
theorem ke344 : bke (2, smT) ctb 298 sc344 10 100000 nl344 = true := by decide +kernel
set_option maxRecDepth 100000 in
theorem kn344_0 : bkn (2, smT) ctb 298 sc344 100000 nl344 nd344_0 = true := by decide +kernel
/-- SModel trial -/
def nl345 : List bNd := []
set_option maxRecDepth 100000 in
theorem ke345 : bke (8, smT) ctb 299 sc345 0 100000 nl345 = true := by decide +kernel
/-- SModel worth -/
def nl346 : List bNd := []
set_option maxRecDepth 100000 in
theorem ke346 : bke (9, smT) ctb 301 sc346 0 100000 nl346 = true := by decide +kernel
def nd347_0 : bNd := (34, [some (.inr (.inl (.ref 84))), some (.inl (0, [(0, 1)])), some (.inl (0, [(1, 1)])), some (.inl (0, [(2, 1)])), some (.inl (0, [(3, 1)])), some (.inl (0, [(4, 1)])), some (.inl (0, [(5, 1)])), none], [(1, 100), (0, 24), (0, 1), ((-1), 11), ((-2147483648), 2147483647), (0, 12)], [], [], (0, []), (0, []), (12, [(5, (-1))]))
/-- SModel stand -/
def nl347 : List bNd := [nd347_0]
set_option maxRecDepth 100000 in
theorem ke347 : bke (9, smT) ctb 303 sc347 14 100000 nl347 = true := by decide +kernel
set_option maxRecDepth 100000 in
theorem kn347_0 : bkn (9, smT) ctb 303 sc347 100000 nl347 nd347_0 = true := by decide +kernel
def nd348_0 : bNd := (33, [some (.inr (.inl (.ref 84))), some (.inl (0, [(0, 1)])), some (.inl (0, [(1, 1)])), some (.inl (0, [(2, 1)])), some (.inl (0, [(3, 1)])), some (.inl (0, [(4, 1)])), none, none], [(1, 100), (0, 24), ((-1), 4095), ((-2147483648), 2147483647), (0, 12)], [], [], (0, []), (0, []), (168, [(4, (-13))]))
def nd348_1 : bNd := (45, [some (.inr (.inl (.ref 84))), some (.inl (0, [(0, 1)])), some (.inl (0, [(1, 1)])), some (.inl (0, [(2, 1)])), some (.inl (0, [(3, 1)])), some (.inl (0, [(4, 1)])), some (.inl (0, [(5, 1)])), none], [(1, 100), (0, 24), ((-1), 4095), ((-2147483648), 2147483647), (0, 11), (0, 11)], [], [], (0, []), (0, []), (167, [(4, (-13)), (5, (-1))]))
/-- SModel two -/
def nl348 : List bNd := [nd348_0, nd348_1]
set_option maxRecDepth 100000 in
theorem ke348 : bke (9, smT) ctb 304 sc348 170 100000 nl348 = true := by decide +kernel
set_option maxRecDepth 100000 in
theorem kn348_0 : bkn (9, smT) ctb 304 sc348 100000 nl348 nd348_0 = true := by decide +kernel
set_option maxRecDepth 100000 in
theorem kn348_1 : bkn (9, smT) ctb 304 sc348 100000 nl348 nd348_1 = true := by decide +kernel
def nd349_0 : bNd := (31, [some (.inr (.inl (.ref 84))), some (.inl (0, [(0, 1)])), some (.inl (0, [(1, 1)])), some (.inl (0, [(2, 1)])), some (.inl (0, [(3, 1)])), none], [(0, 2147483647), (0, 24), ((-1), 255), (0, 256)], [], [], (0, []), (0, []), (2569, [(3, (-10))]))
def nd349_1 : bNd := (64, [some (.inr (.inl (.ref 84))), some (.inl (0, [(0, 1)])), some (.inl (0, [(1, 1)])), some (.inl (0, [(2, 1)])), some (.inl (0, [(3, 1)])), some (.inl (0, [(4, 1)]))], [(0, 2147483647), (0, 24), ((-1), 255), (0, 255), (0, 8)], [], [], (0, []), (0, []), (2568, [(3, (-10)), (4, (-1))]))
/-- SModel keepers -/
def nl349 : List bNd := [nd349_0, nd349_1]
set_option maxRecDepth 100000 in
theorem ke349 : bke (9, smT) ctb 306 sc349 2571 100000 nl349 = true := by decide +kernel
set_option maxRecDepth 100000 in
theorem kn349_0 : bkn (9, smT) ctb 306 sc349 100000 nl349 nd349_0 = true := by decide +kernel
set_option maxRecDepth 100000 in
theorem kn349_1 : bkn (9, smT) ctb 306 sc349 100000 nl349 nd349_1 = true := by decide +kernel
def nd350_0 : bNd := (26, [some (.inr (.inl (.ref 84))), some (.inl (0, [(0, 1)])), some (.inl (0, [(1, 1)])), some (.inl (0, [(2, 1)])), none, none, none, none, none, none, none], [(0, 2147483647), (0, 1), (0, 12)], [], [], (0, []), (0, []), (57370, [(2, (-1))]))
def nd350_1 : bNd := (76, [some (.inr (.inl (.ref 84))), some (.inl (0, [(0, 1)])), some (.inl (0, [(1, 1)])), some (.inl (0, [(2, 1)])), some (.inl (0, [(3, 1)])), some (.inl (0, [(4, 1)])), some (.inl (0, [(5, 1)])), none, none, none, none], [(0, 2147483647), (0, 1), ((-2147483648), 2147483647), ((-1), 4095), ((-2147483648), 2147483647), (0, 4096)], [], [], (0, []), (0, []), (57357, [(5, (-14))]))
def nd350_2 : bNd := (99, [some (.inr (.inl (.ref 84))), some (.inl (0, [(0, 1)])), some (.inl (0, [(1, 1)])), some (.inl (0, [(2, 1)])), some (.inl (0, [(3, 1)])), some (.inl (0, [(4, 1)])), some (.inl (0, [(5, 1)])), some (.inl (0, [(6, 1)])), some (.inl (0, [(7, 1)])), some (.inl (0, [(8, 1)])), some (.inl (0, [(9, 1)]))], [(0, 2147483647), (0, 1), ((-2147483648), 2147483647), ((-1), 4095), ((-2147483648), 2147483647), (0, 4095), ((-2147483648), 2147483647), ((-2147483648), 2147483647), (0, 1), (0, 12)], [], [], (0, []), (0, []), (57356, [(5, (-14)), (9, (-1))]))
/-- SModel chores -/
def nl350 : List bNd := [nd350_0, nd350_1, nd350_2]
set_option maxRecDepth 100000 in
theorem ke350 : bke (5, smT) ctb 307 sc350 57372 100000 nl350 = true := by decide +kernel
set_option maxRecDepth 100000 in
theorem kn350_0 : bkn (5, smT) ctb 307 sc350 100000 nl350 nd350_0 = true := by decide +kernel
set_option maxRecDepth 100000 in
theorem kn350_1 : bkn (5, smT) ctb 307 sc350 100000 nl350 nd350_1 = true := by decide +kernel
set_option maxRecDepth 100000 in
theorem kn350_2 : bkn (5, smT) ctb 307 sc350 100000 nl350 nd350_2 = true := by decide +kernel
def nd351_0 : bNd := (2, [some (.inr (.inl (.ref 84))), some (.inl (0, [(0, 1)]))], [(0, 12)], [], [], (0, []), (0, []), (12, [(0, (-1))]))
/-- SModel sweepsAll -/
def nl351 : List bNd := [nd351_0]
set_option maxRecDepth 100000 in
theorem ke351 : bke (6, smT) ctb 308 sc351 14 100000 nl351 = true := by decide +kernel
set_option maxRecDepth 100000 in
theorem kn351_0 : bkn (6, smT) ctb 308 sc351 100000 nl351 nd351_0 = true := by decide +kernel
def nd352_0 : bNd := (6, [some (.inr (.inl (.ref 84))), some (.inl (0, [(0, 1)])), some (.inl (0, [(1, 1)])), some (.inl (0, [(2, 1)])), some (.inl (0, [(3, 1)])), some (.inl (0, [(4, 1)]))], [(0, 2147483647), (1, 24), (1, 2147483647), (0, 1), (1, 25)], [], [], (0, []), (0, []), (25, [(4, (-1))]))
/-- SModel isOften -/
def nl352 : List bNd := [nd352_0]
set_option maxRecDepth 100000 in
theorem ke352 : bke (7, smT) ctb 309 sc352 26 100000 nl352 = true := by decide +kernel
set_option maxRecDepth 100000 in
theorem kn352_0 : bkn (7, smT) ctb 309 sc352 100000 nl352 nd352_0 = true := by decide +kernel
def nd353_0 : bNd := (28, [some (.inr (.inl (.ref 84))), some (.inl (0, [(0, 1)])), some (.inl (0, [(1, 1)])), some (.inl (0, [(2, 1)]))], [(0, 2147483647), (1, 24), (0, 2147483644)], [], [], (0, []), (0, []), (0, [(2, 1)]))
/-- SModel often -/
def nl353 : List bNd := [nd353_0]
set_option maxRecDepth 100000 in
theorem ke353 : bke (8, smT) ctb 310 sc353 2147483646 100000 nl353 = true := by decide +kernel
set_option maxRecDepth 100000 in
theorem kn353_0 : bkn (8, smT) ctb 310 sc353 100000 nl353 nd353_0 = true := by decide +kernel
def nd354_0 : bNd := (36, [some (.inr (.inl (.ref 84))), some (.inl (0, [(0, 1)])), some (.inl (0, [(1, 1)]))], [(1, 99999), (0, 301)], [], [], (0, []), (0, []), (301, [(1, (-1))]))
/-- SModel when -/
def nl354 : List bNd := [nd354_0]
set_option maxRecDepth 100000 in
theorem ke354 : bke (7, smT) ctb 311 sc354 303 100000 nl354 = true := by decide +kernel
set_option maxRecDepth 100000 in
theorem kn354_0 : bkn (7, smT) ctb 311 sc354 100000 nl354 nd354_0 = true := by decide +kernel
def nd355_0 : bNd := (11, [some (.inr (.inl (.ref 84))), some (.inl (0, [(0, 1)]))], [(0, 301)], [], [], (0, []), (0, []), (301, [(0, (-1))]))
/-- SModel clogs -/
def nl355 : List bNd := [nd355_0]
set_option maxRecDepth 100000 in
theorem ke355 : bke (7, smT) ctb 312 sc355 303 100000 nl355 = true := by decide +kernel
set_option maxRecDepth 100000 in
theorem kn355_0 : bkn (7, smT) ctb 312 sc355 100000 nl355 nd355_0 = true := by decide +kernel
def nd356_0 : bNd := (30, [some (.inr (.inl (.ref 84))), some (.inl (0, [(0, 1)])), some (.inl (0, [(1, 1)]))], [(0, 2147483647), (0, 100)], [], [], (0, []), (0, []), (100, [(1, (-1))]))
/-- SModel fades -/
def nl356 : List bNd := [nd356_0]
set_option maxRecDepth 100000 in
theorem ke356 : bke (7, smT) ctb 313 sc356 102 100000 nl356 = true := by decide +kernel
set_option maxRecDepth 100000 in
theorem kn356_0 : bkn (7, smT) ctb 313 sc356 100000 nl356 nd356_0 = true := by decide +kernel
def nd357_0 : bNd := (55, [some (.inr (.inl (.ref 84))), some (.inl (0, [(0, 1)])), some (.inl (0, [(1, 1)])), some (.inl (0, [(2, 1)])), some (.inl (0, [(3, 1)])), some (.inl (0, [(4, 1)])), none], [(0, 11), (0, 24), ((-1), 24), ((-2147483648), 2147483647), (0, 25)], [], [], (0, []), (0, []), (25, [(4, (-1))]))
/-- SModel later -/
def nl357 : List bNd := [nd357_0]
set_option maxRecDepth 100000 in
theorem ke357 : bke (8, smT) ctb 314 sc357 27 100000 nl357 = true := by decide +kernel
set_option maxRecDepth 100000 in
theorem kn357_0 : bkn (8, smT) ctb 314 sc357 100000 nl357 nd357_0 = true := by decide +kernel
def nd358_0 : bNd := (11, [some (.inr (.inl (.ref 84))), some (.inl (0, [(0, 1)])), some (.inl (0, [(1, 1)])), some (.inl (0, [(2, 1)])), some (.inl (0, [(3, 1)])), some (.inl (0, [(4, 1)]))], [(0, 7), (0, 11), (0, 24), ((-2147483648), 2147483647), (0, 24)], [], [], (0, []), (0, []), (24, [(4, (-1))]))
/-- SModel towelOf -/
def nl358 : List bNd := [nd358_0]
set_option maxRecDepth 100000 in
theorem ke358 : bke (9, smT) ctb 315 sc358 26 100000 nl358 = true := by decide +kernel
set_option maxRecDepth 100000 in
theorem kn358_0 : bkn (9, smT) ctb 315 sc358 100000 nl358 nd358_0 = true := by decide +kernel
/-- SModel towel -/
def nl359 : List bNd := []
set_option maxRecDepth 100000 in
theorem ke359 : bke (10, smT) ctb 316 sc359 0 100000 nl359 = true := by decide +kernel
def nd360_0 : bNd := (62, [some (.inr (.inl (.ref 84))), some (.inl (0, [(0, 1)])), some (.inl (0, [(1, 1)])), some (.inl (0, [(2, 1)])), some (.inl (0, [(3, 1)])), some (.inl (0, [(4, 1)])), some (.inl (0, [(5, 1)])), none], [(0, 7), (0, 24), (0, 4095), ((-1), 11), ((-2147483648), 2147483647), (0, 12)], [], [], (0, []), (0, []), (12, [(5, (-1))]))
/-- SModel towelled -/
def nl360 : List bNd := [nd360_0]
set_option maxRecDepth 100000 in
theorem ke360 : bke (10, smT) ctb 317 sc360 14 100000 nl360 = true := by decide +kernel
set_option maxRecDepth 100000 in
theorem kn360_0 : bkn (10, smT) ctb 317 sc360 100000 nl360 nd360_0 = true := by decide +kernel
def nd361_0 : bNd := (39, [some (.inr (.inl (.ref 84))), some (.inl (0, [(0, 1)])), some (.inl (0, [(1, 1)])), some (.inl (0, [(2, 1)])), some (.inl (0, [(3, 1)])), none], [(0, 24), (0, 1), ((-2147483648), 2147483647), (1, 9)], [], [], (0, []), (0, []), (9, [(3, (-1))]))
/-- SModel span -/
def nl361 : List bNd := [nd361_0]
set_option maxRecDepth 100000 in
theorem ke361 : bke (9, smT) ctb 318 sc361 10 100000 nl361 = true := by decide +kernel
set_option maxRecDepth 100000 in
theorem kn361_0 : bkn (9, smT) ctb 318 sc361 100000 nl361 nd361_0 = true := by decide +kernel
def nd362_0 : bNd := (41, [some (.inr (.inl (.ref 84))), some (.inl (0, [(0, 1)])), some (.inl (0, [(1, 1)])), some (.inl (0, [(2, 1)])), some (.inl (0, [(3, 1)])), none, none], [(1, 100), ((-1), 100), ((-2147483648), 2147483647), (1, 101)], [], [], (0, []), (0, []), (101, [(3, (-1))]))
/-- SModel peak -/
def nl362 : List bNd := [nd362_0]
set_option maxRecDepth 100000 in
theorem ke362 : bke (7, smT) ctb 319 sc362 102 100000 nl362 = true := by decide +kernel
set_option maxRecDepth 100000 in
theorem kn362_0 : bkn (7, smT) ctb 319 sc362 100000 nl362 nd362_0 = true := by decide +kernel
def nd363_0 : bNd := (7, [some (.inr (.inl (.ref 84))), some (.inl (201, [(0, 24)])), some (.inl (0, [(1, 1)])), some (.inl (0, [(2, 1)])), some (.inl (0, [(3, 1)]))], [(0, 7), ((-1), 7), (0, 2147483647), (0, 8)], [], [], (0, []), (0, []), (8, [(3, (-1))]))
/-- SModel mostOf -/
def nl363 : List bNd := [nd363_0]
set_option maxRecDepth 100000 in
theorem ke363 : bke (1, smT) ctb 320 sc363 10 100000 nl363 = true := by decide +kernel
set_option maxRecDepth 100000 in
theorem kn363_0 : bkn (1, smT) ctb 320 sc363 100000 nl363 nd363_0 = true := by decide +kernel
def nd364_0 : bNd := (7, [some (.inr (.inl (.ref 84))), some (.inl (16, [(0, 11)])), some (.inl (0, [(1, 1)])), some (.inl (0, [(2, 1)])), some (.inl (0, [(3, 1)]))], [(0, 11), ((-1), 7), (0, 2147483647), (0, 8)], [], [], (0, []), (0, []), (8, [(3, (-1))]))
/-- SModel mostOf -/
def nl364 : List bNd := [nd364_0]
set_option maxRecDepth 100000 in
theorem ke364 : bke (1, smT) ctb 320 sc364 10 100000 nl364 = true := by decide +kernel
set_option maxRecDepth 100000 in
theorem kn364_0 : bkn (1, smT) ctb 320 sc364 100000 nl364 nd364_0 = true := by decide +kernel
def nd365_0 : bNd := (25, [some (.inr (.inl (.ref 84))), some (.inl (0, [(0, 1)])), some (.inl (0, [(1, 1)])), some (.inl (0, [(2, 1)])), some (.inl (0, [(3, 1)]))], [(0, 7), (0, 1), ((-2147483648), 2147483647), (0, 8)], [], [], (0, []), (0, []), (8, [(3, (-1))]))
/-- SModel carries -/
def nl365 : List bNd := [nd365_0]
set_option maxRecDepth 100000 in
theorem ke365 : bke (2, smT) ctb 321 sc365 10 100000 nl365 = true := by decide +kernel
set_option maxRecDepth 100000 in
theorem kn365_0 : bkn (2, smT) ctb 321 sc365 100000 nl365 nd365_0 = true := by decide +kernel
/-- SModel whose -/
def nl366 : List bNd := []
set_option maxRecDepth 100000 in
theorem ke366 : bke (2, smT) ctb 322 sc366 0 100000 nl366 = true := by decide +kernel
/-- SModel share -/
def nl367 : List bNd := []
set_option maxRecDepth 100000 in
theorem ke367 : bke (2, smT) ctb 323 sc367 0 100000 nl367 = true := by decide +kernel
def nd368_0 : bNd := (11, [some (.inr (.inl (.ref 84))), some (.inl (0, [(0, 1)])), some (.inl (0, [(1, 1)])), some (.inl (0, [(2, 1)])), none, none], [((-1), 7), (0, 2147483647), (0, 8)], [], [], (0, []), (0, []), (125, [(2, (-14))]))
def nd368_1 : bNd := (25, [some (.inr (.inl (.ref 84))), some (.inl (0, [(0, 1)])), some (.inl (0, [(1, 1)])), some (.inl (0, [(2, 1)])), some (.inl (0, [(3, 1)])), some (.inl (0, [(4, 1)]))], [((-1), 7), (0, 2147483647), (0, 7), ((-2147483648), 2147483647), (0, 12)], [], [], (0, []), (0, []), (124, [(2, (-14)), (4, (-1))]))
/-- SModel blame -/
def nl368 : List bNd := [nd368_0, nd368_1]
set_option maxRecDepth 100000 in
theorem ke368 : bke (2, smT) ctb 324 sc368 127 100000 nl368 = true := by decide +kernel
set_option maxRecDepth 100000 in
theorem kn368_0 : bkn (2, smT) ctb 324 sc368 100000 nl368 nd368_0 = true := by decide +kernel
set_option maxRecDepth 100000 in
theorem kn368_1 : bkn (2, smT) ctb 324 sc368 100000 nl368 nd368_1 = true := by decide +kernel
def nd369_0 : bNd := (28, [some (.inr (.inl (.ref 84))), some (.inl (0, [(0, 1)])), some (.inl (0, [(1, 1)])), some (.inl (0, [(2, 1)]))], [(0, 2147483647), (0, 4095), (0, 12)], [], [], (0, []), (0, []), (12, [(2, (-1))]))
/-- SModel itch -/
def nl369 : List bNd := [nd369_0]
set_option maxRecDepth 100000 in
theorem ke369 : bke (2, smT) ctb 325 sc369 14 100000 nl369 = true := by decide +kernel
set_option maxRecDepth 100000 in
theorem kn369_0 : bkn (2, smT) ctb 325 sc369 100000 nl369 nd369_0 = true := by decide +kernel
def nd370_0 : bNd := (43, [some (.inr (.inl (.ref 84))), some (.inl (0, [(0, 1)])), some (.inl (0, [(1, 1)])), some (.inl (0, [(2, 1)])), some (.inl (0, [(3, 1)])), none, none], [(0, 11), (0, 11), (0, 4095), (0, 12)], [], [], (0, []), (0, []), (181, [(3, (-14))]))
def nd370_1 : bNd := (69, [some (.inr (.inl (.ref 84))), some (.inl (0, [(0, 1)])), some (.inl (0, [(1, 1)])), some (.inl (0, [(2, 1)])), some (.inl (0, [(3, 1)])), some (.inl (0, [(4, 1)])), some (.inl (0, [(5, 1)]))], [(0, 11), (0, 11), (0, 4095), (0, 11), (0, 4095), (0, 12)], [], [], (0, []), (0, []), (180, [(3, (-14)), (5, (-1))]))
/-- SModel ways -/
def nl370 : List bNd := [nd370_0, nd370_1]
set_option maxRecDepth 100000 in
theorem ke370 : bke (2, smT) ctb 326 sc370 183 100000 nl370 = true := by decide +kernel
set_option maxRecDepth 100000 in
theorem kn370_0 : bkn (2, smT) ctb 326 sc370 100000 nl370 nd370_0 = true := by decide +kernel
set_option maxRecDepth 100000 in
theorem kn370_1 : bkn (2, smT) ctb 326 sc370 100000 nl370 nd370_1 = true := by decide +kernel
def nd371_0 : bNd := (56, [some (.inr (.inl (.ref 84))), some (.inl (0, [(0, 1)])), some (.inl (0, [(1, 1)])), some (.inl (0, [(2, 1)]))], [(0, 7), (0, 7), (0, 145), (1, 8)], [((-1), [(0, (-1)), (3, 1)]), ((-1), [(1, (-1)), (3, 1)])], [(85, 2, (0, [(3, 1)]))], (0, []), (0, []), (145, [(2, (-1))]))
/-- SModel cross -/
def nl371 : List bNd := [nd371_0]
set_option maxRecDepth 100000 in
theorem ke371 : bke (3, smT) ctb 328 sc371 147 100000 nl371 = true := by decide +kernel
set_option maxRecDepth 100000 in
theorem kn371_0 : bkn (3, smT) ctb 328 sc371 100000 nl371 nd371_0 = true := by decide +kernel
