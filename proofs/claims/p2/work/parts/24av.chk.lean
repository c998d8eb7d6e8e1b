/-- SModel readAtom -/
def nl289 : List bNd := []
set_option maxRecDepth 100000 in
theorem ke289 : bke (12, smT) ctb 259 sc289 0 100000 nl289 = true := by decide +kernel
/-- SModel readAtom -/
def nl290 : List bNd := []
set_option maxRecDepth 100000 in
theorem ke290 : bke (9, smT) ctb 259 sc290 0 100000 nl290 = true := by decide +kernel
/-- SModel readAtom -/
def nl291 : List bNd := []
set_option maxRecDepth 100000 in
theorem ke291 : bke (6, smT) ctb 259 sc291 0 100000 nl291 = true := by decide +kernel
def nd292_0 : bNd := (9, [some (.inr (.inl (.ref 84)))], [(6, 400), (7, 400)], [(0, [(0, (-1)), (1, 1)])], [(84, 10, (0, [(1, 1)])), (84, 13, (0, []))], (0, []), (0, []), (400, [(1, (-1))]))
/-- SModel readAllOf -/
def nl292 : List bNd := [nd292_0]
set_option maxRecDepth 100000 in
theorem ke292 : bke (25, smT) ctb 260 sc292 395 100000 nl292 = true := by decide +kernel
set_option maxRecDepth 100000 in
theorem kn292_0 : bkn (25, smT) ctb 260 sc292 100000 nl292 nd292_0 = true := by decide +kernel
def nd293_0 : bNd := (9, [some (.inr (.inl (.ref 84)))], [(7, 400), (8, 400)], [(0, [(0, (-1)), (1, 1)])], [(84, 10, (0, [(1, 1)])), (84, 13, (1, []))], (0, []), (0, []), (400, [(1, (-1))]))
/-- SModel readAllOf -/
def nl293 : List bNd := [nd293_0]
set_option maxRecDepth 100000 in
theorem ke293 : bke (22, smT) ctb 260 sc293 394 100000 nl293 = true := by decide +kernel
set_option maxRecDepth 100000 in
theorem kn293_0 : bkn (22, smT) ctb 260 sc293 100000 nl293 nd293_0 = true := by decide +kernel
def nd294_0 : bNd := (9, [some (.inr (.inl (.ref 84)))], [(8, 400), (9, 400)], [(0, [(0, (-1)), (1, 1)])], [(84, 10, (0, [(1, 1)])), (84, 13, (2, []))], (0, []), (0, []), (400, [(1, (-1))]))
/-- SModel readAllOf -/
def nl294 : List bNd := [nd294_0]
set_option maxRecDepth 100000 in
theorem ke294 : bke (19, smT) ctb 260 sc294 393 100000 nl294 = true := by decide +kernel
set_option maxRecDepth 100000 in
theorem kn294_0 : bkn (19, smT) ctb 260 sc294 100000 nl294 nd294_0 = true := by decide +kernel
def nd295_0 : bNd := (9, [some (.inr (.inl (.ref 84)))], [(9, 400), (10, 400)], [(0, [(0, (-1)), (1, 1)])], [(84, 10, (0, [(1, 1)])), (84, 13, (3, []))], (0, []), (0, []), (400, [(1, (-1))]))
/-- SModel readAllOf -/
def nl295 : List bNd := [nd295_0]
set_option maxRecDepth 100000 in
theorem ke295 : bke (16, smT) ctb 260 sc295 392 100000 nl295 = true := by decide +kernel
set_option maxRecDepth 100000 in
theorem kn295_0 : bkn (16, smT) ctb 260 sc295 100000 nl295 nd295_0 = true := by decide +kernel
def nd296_0 : bNd := (9, [some (.inr (.inl (.ref 84)))], [(10, 400), (10, 400)], [(0, [(0, (-1)), (1, 1)])], [(84, 10, (0, [(1, 1)])), (84, 13, (4, []))], (0, []), (0, []), (400, [(1, (-1))]))
/-- SModel readAllOf -/
def nl296 : List bNd := [nd296_0]
set_option maxRecDepth 100000 in
theorem ke296 : bke (13, smT) ctb 260 sc296 392 100000 nl296 = true := by decide +kernel
set_option maxRecDepth 100000 in
theorem kn296_0 : bkn (13, smT) ctb 260 sc296 100000 nl296 nd296_0 = true := by decide +kernel
def nd297_0 : bNd := (9, [some (.inr (.inl (.ref 84)))], [(8, 400), (8, 400)], [(0, [(0, (-1)), (1, 1)])], [(84, 10, (0, [(1, 1)])), (84, 13, (5, []))], (0, []), (0, []), (400, [(1, (-1))]))
/-- SModel readAllOf -/
def nl297 : List bNd := [nd297_0]
set_option maxRecDepth 100000 in
theorem ke297 : bke (10, smT) ctb 260 sc297 394 100000 nl297 = true := by decide +kernel
set_option maxRecDepth 100000 in
theorem kn297_0 : bkn (10, smT) ctb 260 sc297 100000 nl297 nd297_0 = true := by decide +kernel
def nd298_0 : bNd := (9, [some (.inr (.inl (.ref 84)))], [(8, 400), (8, 400)], [(0, [(0, (-1)), (1, 1)])], [(84, 10, (0, [(1, 1)])), (84, 13, (6, []))], (0, []), (0, []), (400, [(1, (-1))]))
/-- SModel readAllOf -/
def nl298 : List bNd := [nd298_0]
set_option maxRecDepth 100000 in
theorem ke298 : bke (7, smT) ctb 260 sc298 394 100000 nl298 = true := by decide +kernel
set_option maxRecDepth 100000 in
theorem kn298_0 : bkn (7, smT) ctb 260 sc298 100000 nl298 nd298_0 = true := by decide +kernel
def nd299_0 : bNd := (9, [some (.inr (.inl (.ref 84)))], [(6, 400), (7, 400)], [(0, [(0, (-1)), (1, 1)])], [(84, 10, (0, [(1, 1)])), (84, 13, (0, []))], (0, []), (0, []), (400, [(1, (-1))]))
/-- SModel readCond -/
def nl299 : List bNd := [nd299_0]
set_option maxRecDepth 100000 in
theorem ke299 : bke (26, smT) ctb 261 sc299 395 100000 nl299 = true := by decide +kernel
set_option maxRecDepth 100000 in
theorem kn299_0 : bkn (26, smT) ctb 261 sc299 100000 nl299 nd299_0 = true := by decide +kernel
def nd300_0 : bNd := (9, [some (.inr (.inl (.ref 84)))], [(7, 400), (8, 400)], [(0, [(0, (-1)), (1, 1)])], [(84, 10, (0, [(1, 1)])), (84, 13, (1, []))], (0, []), (0, []), (400, [(1, (-1))]))
/-- SModel readCond -/
def nl300 : List bNd := [nd300_0]
set_option maxRecDepth 100000 in
theorem ke300 : bke (23, smT) ctb 261 sc300 394 100000 nl300 = true := by decide +kernel
set_option maxRecDepth 100000 in
theorem kn300_0 : bkn (23, smT) ctb 261 sc300 100000 nl300 nd300_0 = true := by decide +kernel
def nd301_0 : bNd := (9, [some (.inr (.inl (.ref 84)))], [(8, 400), (9, 400)], [(0, [(0, (-1)), (1, 1)])], [(84, 10, (0, [(1, 1)])), (84, 13, (2, []))], (0, []), (0, []), (400, [(1, (-1))]))
/-- SModel readCond -/
def nl301 : List bNd := [nd301_0]
set_option maxRecDepth 100000 in
theorem ke301 : bke (20, smT) ctb 261 sc301 393 100000 nl301 = true := by decide +kernel
set_option maxRecDepth 100000 in
theorem kn301_0 : bkn (20, smT) ctb 261 sc301 100000 nl301 nd301_0 = true := by decide +kernel
def nd302_0 : bNd := (9, [some (.inr (.inl (.ref 84)))], [(9, 400), (10, 400)], [(0, [(0, (-1)), (1, 1)])], [(84, 10, (0, [(1, 1)])), (84, 13, (3, []))], (0, []), (0, []), (400, [(1, (-1))]))
/-- SModel readCond -/
def nl302 : List bNd := [nd302_0]
set_option maxRecDepth 100000 in
theorem ke302 : bke (17, smT) ctb 261 sc302 392 100000 nl302 = true := by decide +kernel
set_option maxRecDepth 100000 in
theorem kn302_0 : bkn (17, smT) ctb 261 sc302 100000 nl302 nd302_0 = true := by decide +kernel
def nd303_0 : bNd := (9, [some (.inr (.inl (.ref 84)))], [(10, 400), (10, 400)], [(0, [(0, (-1)), (1, 1)])], [(84, 10, (0, [(1, 1)])), (84, 13, (4, []))], (0, []), (0, []), (400, [(1, (-1))]))
/-- SModel readCond -/
def nl303 : List bNd := [nd303_0]
set_option maxRecDepth 100000 in
theorem ke303 : bke (14, smT) ctb 261 sc303 392 100000 nl303 = true := by decide +kernel
set_option maxRecDepth 100000 in
theorem kn303_0 : bkn (14, smT) ctb 261 sc303 100000 nl303 nd303_0 = true := by decide +kernel
def nd304_0 : bNd := (9, [some (.inr (.inl (.ref 84)))], [(8, 400), (8, 400)], [(0, [(0, (-1)), (1, 1)])], [(84, 10, (0, [(1, 1)])), (84, 13, (5, []))], (0, []), (0, []), (400, [(1, (-1))]))
/-- SModel readCond -/
def nl304 : List bNd := [nd304_0]
set_option maxRecDepth 100000 in
theorem ke304 : bke (11, smT) ctb 261 sc304 394 100000 nl304 = true := by decide +kernel
set_option maxRecDepth 100000 in
theorem kn304_0 : bkn (11, smT) ctb 261 sc304 100000 nl304 nd304_0 = true := by decide +kernel
def nd305_0 : bNd := (9, [some (.inr (.inl (.ref 84)))], [(8, 400), (8, 400)], [(0, [(0, (-1)), (1, 1)])], [(84, 10, (0, [(1, 1)])), (84, 13, (6, []))], (0, []), (0, []), (400, [(1, (-1))]))
/-- SModel readCond -/
def nl305 : List bNd := [nd305_0]
set_option maxRecDepth 100000 in
theorem ke305 : bke (8, smT) ctb 261 sc305 394 100000 nl305 = true := by decide +kernel
set_option maxRecDepth 100000 in
theorem kn305_0 : bkn (8, smT) ctb 261 sc305 100000 nl305 nd305_0 = true := by decide +kernel
def nd306_0 : bNd := (28, [some (.inr (.inl (.ref 84))), some (.inl (0, [(0, 1)])), some (.inl (0, [(1, 1)]))], [(1, 1), (0, 14)], [], [], (0, []), (0, []), (14, [(1, (-1))]))
/-- SModel readAll -/
def nl306 : List bNd := [nd306_0]
set_option maxRecDepth 100000 in
theorem ke306 : bke (8, smT) ctb 264 sc306 16 100000 nl306 = true := by decide +kernel
set_option maxRecDepth 100000 in
theorem kn306_0 : bkn (8, smT) ctb 264 sc306 100000 nl306 nd306_0 = true := by decide +kernel
def nd307_0 : bNd := (28, [some (.inr (.inl (.ref 84))), some (.inl (0, [(0, 1)])), some (.inl (0, [(1, 1)]))], [(0, 0), (0, 12)], [], [], (0, []), (0, []), (12, [(1, (-1))]))
/-- SModel readAll -/
def nl307 : List bNd := [nd307_0]
set_option maxRecDepth 100000 in
theorem ke307 : bke (29, smT) ctb 264 sc307 14 100000 nl307 = true := by decide +kernel
set_option maxRecDepth 100000 in
theorem kn307_0 : bkn (29, smT) ctb 264 sc307 100000 nl307 nd307_0 = true := by decide +kernel
def nd308_0 : bNd := (2, [some (.inr (.inl (.ref 84))), some (.inl (0, [(0, 1)])), none], [(0, 0)], [], [], (0, []), (0, []), (3, []))
def nd308_1 : bNd := (27, [some (.inr (.inl (.ref 84))), some (.inl (0, [(0, 1)])), none], [(1626, 1626)], [], [], (0, []), (0, []), (2, []))
def nd308_2 : bNd := (92, [some (.inr (.inl (.ref 84))), some (.inl (0, [(0, 1)])), some (.inl (0, []))], [((-1), 14)], [], [], (0, []), (0, []), (1, []))
def nd308_3 : bNd := (117, [some (.inr (.inl (.ref 84))), some (.inl (0, [(0, 1)])), some (.inl (1626, []))], [((-1), 14)], [], [], (0, []), (0, []), (0, []))
/-- SModel house -/
def nl308 : List bNd := [nd308_0, nd308_1, nd308_2, nd308_3]
set_option maxRecDepth 100000 in
theorem ke308 : bke (9, smT) ctb 265 sc308 5 100000 nl308 = true := by decide +kernel
set_option maxRecDepth 100000 in
theorem kn308_1 : bkn (9, smT) ctb 265 sc308 100000 nl308 nd308_1 = true := by decide +kernel
set_option maxRecDepth 100000 in
theorem kn308_3 : bkn (9, smT) ctb 265 sc308 100000 nl308 nd308_3 = true := by decide +kernel
def nd309_0 : bNd := (52, [some (.inr (.inl (.ref 84))), some (.inl (0, [(0, 1)])), some (.inl (0, []))], [(0, 12)], [], [], (0, []), (0, []), (1, []))
def nd309_1 : bNd := (85, [some (.inr (.inl (.ref 84))), some (.inl (0, [(0, 1)])), some (.inl (849, []))], [(0, 12)], [], [], (0, []), (0, []), (0, []))
/-- SModel law -/
def nl309 : List bNd := [nd309_0, nd309_1]
set_option maxRecDepth 100000 in
theorem ke309 : bke (30, smT) ctb 266 sc309 3 100000 nl309 = true := by decide +kernel
set_option maxRecDepth 100000 in
theorem kn309_1 : bkn (30, smT) ctb 266 sc309 100000 nl309 nd309_1 = true := by decide +kernel
def nd311_0 : bNd := (59, [some (.inr (.inl (.ref 84))), some (.inl (0, [(2, 1)])), some (.inl (0, [(0, 1)])), some (.inl (0, [(1, 1)])), some (.inl (0, [(3, 1)])), some (.inl (0, [(4, 1)]))], [(0, 0), (0, 11), (3, 3), ((-2147483648), 2147483647), (0, 12)], [], [], (0, []), (0, []), (12, [(4, (-1))]))
/-- SModel says -/
def nl311 : List bNd := [nd311_0]
set_option maxRecDepth 100000 in
theorem ke311 : bke (4, smT) ctb 269 sc311 14 100000 nl311 = true := by decide +kernel
set_option maxRecDepth 100000 in
theorem kn311_0 : bkn (4, smT) ctb 269 sc311 100000 nl311 nd311_0 = true := by decide +kernel
def nd312_0 : bNd := (59, [some (.inr (.inl (.ref 84))), some (.inl (0, [(2, 1)])), some (.inl (0, [(0, 1)])), some (.inl (0, [(1, 1)])), some (.inl (0, [(3, 1)])), some (.inl (0, [(4, 1)]))], [(0, 7), (0, 11), (0, 0), ((-2147483648), 2147483647), (0, 12)], [], [], (0, []), (0, []), (12, [(4, (-1))]))
/-- SModel says -/
def nl312 : List bNd := [nd312_0]
set_option maxRecDepth 100000 in
theorem ke312 : bke (4, smT) ctb 269 sc312 14 100000 nl312 = true := by decide +kernel
set_option maxRecDepth 100000 in
theorem kn312_0 : bkn (4, smT) ctb 269 sc312 100000 nl312 nd312_0 = true := by decide +kernel
def nd313_0 : bNd := (59, [some (.inr (.inl (.ref 84))), some (.inl (0, [(2, 1)])), some (.inl (0, [(0, 1)])), some (.inl (0, [(1, 1)])), some (.inl (0, [(3, 1)])), some (.inl (0, [(4, 1)]))], [(0, 7), (0, 11), (1, 1), ((-2147483648), 2147483647), (0, 12)], [], [], (0, []), (0, []), (12, [(4, (-1))]))
/-- SModel says -/
def nl313 : List bNd := [nd313_0]
set_option maxRecDepth 100000 in
theorem ke313 : bke (4, smT) ctb 269 sc313 14 100000 nl313 = true := by decide +kernel
set_option maxRecDepth 100000 in
theorem kn313_0 : bkn (4, smT) ctb 269 sc313 100000 nl313 nd313_0 = true := by decide +kernel
def nd314_0 : bNd := (59, [some (.inr (.inl (.ref 84))), some (.inl (0, [(2, 1)])), some (.inl (0, [(0, 1)])), some (.inl (0, [(1, 1)])), some (.inl (0, [(3, 1)])), some (.inl (0, [(4, 1)]))], [(0, 7), (0, 11), (2, 2), ((-2147483648), 2147483647), (0, 12)], [], [], (0, []), (0, []), (12, [(4, (-1))]))
/-- SModel says -/
def nl314 : List bNd := [nd314_0]
set_option maxRecDepth 100000 in
theorem ke314 : bke (4, smT) ctb 269 sc314 14 100000 nl314 = true := by decide +kernel
set_option maxRecDepth 100000 in
theorem kn314_0 : bkn (4, smT) ctb 269 sc314 100000 nl314 nd314_0 = true := by decide +kernel
def nd315_0 : bNd := (59, [some (.inr (.inl (.ref 84))), some (.inl (0, [(0, 1)])), some (.inl (0, [(1, 1)])), some (.inl (0, [(2, 1)])), some (.inl (0, [(3, 1)])), some (.inl (0, [(4, 1)]))], [(0, 2), (0, 7), (0, 11), ((-2147483648), 2147483647), (0, 12)], [], [], (0, []), (0, []), (12, [(4, (-1))]))
/-- SModel says -/
def nl315 : List bNd := [nd315_0]
set_option maxRecDepth 100000 in
theorem ke315 : bke (4, smT) ctb 269 sc315 14 100000 nl315 = true := by decide +kernel
set_option maxRecDepth 100000 in
theorem kn315_0 : bkn (4, smT) ctb 269 sc315 100000 nl315 nd315_0 = true := by decide +kernel
