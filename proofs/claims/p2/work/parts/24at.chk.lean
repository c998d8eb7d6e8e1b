def nd220_0 : bNd := (9, [some (.inr (.inl (.ref 53))), some (.inr (.inl (.ref 3))), some (.inr (.inl (.ref 18))), some (.inl (0, [(0, 1)])), some (.inl (0, [(1, 1)])), some (.inl (0, [(2, 1)])), some (.inl (0, [(3, 1)])), some (.inl (0, [(4, 1)])), some (.inl (0, [(5, 1)])), none, none], [(1, 100), (0, 24), (0, 1), ((-1), 11), ((-2147483648), 2147483647), (0, 12)], [], [], (0, []), (0, []), (12, [(5, (-1))]))
/-- S$Trials bestRoom -/
def nl220 : List bNd := [nd220_0]
set_option maxRecDepth 100000 in
theorem ke220 : bke (5, smT) ctb 193 sc220 14 100000 nl220 = true := by decide +kernel
set_option maxRecDepth 100000 in
theorem kn220_0 : bkn (5, smT) ctb 193 sc220 100000 nl220 nd220_0 = true := by decide +kernel
def nd221_0 : bNd := (9, [some (.inr (.inl (.ref 53))), some (.inr (.inl (.ref 3))), some (.inr (.inl (.ref 18))), some (.inl (0, [(0, 1)])), some (.inl (0, [(1, 1)])), some (.inl (0, [(2, 1)])), some (.inl (0, [(3, 1)])), some (.inl (0, [(4, 1)])), none, none], [(1, 100), (0, 24), ((-1), 4095), ((-2147483648), 2147483647), (1, 12)], [], [], (0, []), (0, []), (168, [(4, (-13))]))
def nd221_1 : bNd := (24, [some (.inr (.inl (.ref 53))), some (.inr (.inl (.ref 3))), some (.inr (.inl (.ref 18))), some (.inl (0, [(0, 1)])), some (.inl (0, [(1, 1)])), some (.inl (0, [(2, 1)])), some (.inl (0, [(3, 1)])), some (.inl (0, [(4, 1)])), some (.inl (0, [(5, 1)])), none], [(1, 100), (0, 24), ((-1), 4095), ((-2147483648), 2147483647), (1, 11), (0, 11)], [], [], (0, []), (0, []), (167, [(4, (-13)), (5, (-1))]))
/-- S$Trials bestPair -/
def nl221 : List bNd := [nd221_0, nd221_1]
set_option maxRecDepth 100000 in
theorem ke221 : bke (5, smT) ctb 194 sc221 157 100000 nl221 = true := by decide +kernel
set_option maxRecDepth 100000 in
theorem kn221_0 : bkn (5, smT) ctb 194 sc221 100000 nl221 nd221_0 = true := by decide +kernel
set_option maxRecDepth 100000 in
theorem kn221_1 : bkn (5, smT) ctb 194 sc221 100000 nl221 nd221_1 = true := by decide +kernel
def nd222_0 : bNd := (3, [some (.inr (.inl (.ref 53))), some (.inr (.inl (.ref 3))), some (.inr (.inl (.ref 18))), some (.inl (0, [(0, 1)])), some (.inl (0, [(1, 1)])), some (.inl (0, [(2, 1)])), none, none], [(0, 2147483647), (0, 24), (0, 9)], [], [], (0, []), (0, []), (25709, [(2, (-2571))]))
def nd222_1 : bNd := (18, [some (.inr (.inl (.ref 53))), some (.inr (.inl (.ref 3))), some (.inr (.inl (.ref 18))), some (.inl (0, [(0, 1)])), some (.inl (0, [(1, 1)])), some (.inl (0, [(2, 1)])), some (.inl (0, [(3, 1)])), none], [(0, 2147483647), (0, 24), (0, 8), (0, 256)], [], [], (0, []), (0, []), (25708, [(2, (-2571)), (3, (-10))]))
def nd222_2 : bNd := (54, [some (.inr (.inl (.ref 53))), some (.inr (.inl (.ref 3))), some (.inr (.inl (.ref 18))), some (.inl (0, [(0, 1)])), some (.inl (0, [(1, 1)])), some (.inl (0, [(2, 1)])), some (.inl (0, [(3, 1)])), some (.inl (0, [(4, 1)]))], [(0, 2147483647), (0, 24), (0, 8), (0, 255), (0, 8)], [], [], (0, []), (0, []), (25707, [(2, (-2571)), (3, (-10)), (4, (-1))]))
/-- S$Trials fewestKeepers -/
def nl222 : List bNd := [nd222_0, nd222_1, nd222_2]
set_option maxRecDepth 100000 in
theorem ke222 : bke (5, smT) ctb 195 sc222 25711 100000 nl222 = true := by decide +kernel
set_option maxRecDepth 100000 in
theorem kn222_0 : bkn (5, smT) ctb 195 sc222 100000 nl222 nd222_0 = true := by decide +kernel
set_option maxRecDepth 100000 in
theorem kn222_1 : bkn (5, smT) ctb 195 sc222 100000 nl222 nd222_1 = true := by decide +kernel
set_option maxRecDepth 100000 in
theorem kn222_2 : bkn (5, smT) ctb 195 sc222 100000 nl222 nd222_2 = true := by decide +kernel
def nd223_0 : bNd := (14, [some (.inr (.inl (.ref 53))), some (.inr (.inl (.ref 3))), some (.inr (.inl (.ref 18))), some (.inl (0, [(0, 1)])), some (.inl (0, [(1, 1)])), some (.inl (0, [(2, 1)])), none, none, none, none], [(0, 2147483647), (0, 4095), (0, 12)], [], [], (0, []), (0, []), (4109, [(2, (-1))]))
def nd223_1 : bNd := (87, [some (.inr (.inl (.ref 53))), some (.inr (.inl (.ref 3))), some (.inr (.inl (.ref 18))), some (.inl (0, [(0, 1)])), some (.inl (0, [(1, 1)])), some (.inl (0, [(2, 1)])), some (.inl (0, [(3, 1)])), some (.inl (0, [(4, 1)])), some (.inl (0, [(5, 1)])), none], [(0, 2147483647), (0, 4095), ((-2147483648), 2147483647), ((-1), 4095), ((-2147483648), 2147483647), (0, 4096)], [], [], (0, []), (0, []), (4096, [(5, (-1))]))
/-- S$Trials quickestRooms -/
def nl223 : List bNd := [nd223_0, nd223_1]
set_option maxRecDepth 100000 in
theorem ke223 : bke (4, smT) ctb 196 sc223 4111 100000 nl223 = true := by decide +kernel
set_option maxRecDepth 100000 in
theorem kn223_0 : bkn (4, smT) ctb 196 sc223 100000 nl223 nd223_0 = true := by decide +kernel
set_option maxRecDepth 100000 in
theorem kn223_1 : bkn (4, smT) ctb 196 sc223 100000 nl223 nd223_1 = true := by decide +kernel
def nd224_0 : bNd := (5, [some (.inr (.inl (.ref 53))), some (.inl (0, [(0, 1)])), some (.inl (0, [(1, 1)])), some (.inl (0, [(2, 1)])), some (.inl (0, [(3, 1)]))], [(0, 4095), (0, 12), ((-2147483648), 2147483647), (0, 12)], [], [], (0, []), (0, []), (12, [(3, (-1))]))
/-- S$Trials sweptOf -/
def nl224 : List bNd := [nd224_0]
set_option maxRecDepth 100000 in
theorem ke224 : bke (0, smT) ctb 197 sc224 14 100000 nl224 = true := by decide +kernel
set_option maxRecDepth 100000 in
theorem kn224_0 : bkn (0, smT) ctb 197 sc224 100000 nl224 nd224_0 = true := by decide +kernel
def nd225_0 : bNd := (4, [some (.inr (.inl (.ref 53))), some (.inr (.inl (.ref 3))), some (.inr (.inl (.ref 18))), some (.inl (0, [(0, 1)])), some (.inl (0, [(1, 1)])), some (.inl (0, [(2, 1)]))], [(0, 2147483647), (1, 24), (0, 24)], [], [], (0, []), (0, []), (0, [(2, 1)]))
/-- S$Trials seldomest -/
def nl225 : List bNd := [nd225_0]
set_option maxRecDepth 100000 in
theorem ke225 : bke (6, smT) ctb 198 sc225 26 100000 nl225 = true := by decide +kernel
set_option maxRecDepth 100000 in
theorem kn225_0 : bkn (6, smT) ctb 198 sc225 100000 nl225 nd225_0 = true := by decide +kernel
def nd226_0 : bNd := (14, [some (.inr (.inl (.ref 53))), some (.inr (.inl (.ref 3))), some (.inr (.inl (.ref 18))), some (.inl (0, [(0, 1)])), some (.inl (0, [(1, 1)])), some (.inl (0, [(2, 1)])), some (.inl (0, [(3, 1)])), some (.inl (0, [(4, 1)]))], [(0, 2147483647), (1, 24), (1, 24), ((-2147483648), 2147483647), (0, 24)], [], [], (0, []), (0, []), (24, [(4, (-1))]))
/-- S$Trials staysBelow -/
def nl226 : List bNd := [nd226_0]
set_option maxRecDepth 100000 in
theorem ke226 : bke (5, smT) ctb 199 sc226 26 100000 nl226 = true := by decide +kernel
set_option maxRecDepth 100000 in
theorem kn226_0 : bkn (5, smT) ctb 199 sc226 100000 nl226 nd226_0 = true := by decide +kernel
def nd227_0 : bNd := (11, [some (.inr (.inl (.ref 53))), some (.inr (.inl (.ref 3))), some (.inr (.inl (.ref 18))), some (.inl (0, [(0, 1)])), some (.inl (0, [(1, 1)]))], [(1, 99999), (0, 301)], [], [], (0, []), (0, []), (301, [(1, (-1))]))
/-- S$Trials firstInBeds -/
def nl227 : List bNd := [nd227_0]
set_option maxRecDepth 100000 in
theorem ke227 : bke (4, smT) ctb 200 sc227 303 100000 nl227 = true := by decide +kernel
set_option maxRecDepth 100000 in
theorem kn227_0 : bkn (4, smT) ctb 200 sc227 100000 nl227 nd227_0 = true := by decide +kernel
def nd228_0 : bNd := (10, [some (.inr (.inl (.ref 53))), some (.inr (.inl (.ref 3))), some (.inr (.inl (.ref 18))), some (.inl (0, [(0, 1)]))], [(0, 301)], [], [], (0, []), (0, []), (301, [(0, (-1))]))
/-- S$Trials firstClogged -/
def nl228 : List bNd := [nd228_0]
set_option maxRecDepth 100000 in
theorem ke228 : bke (4, smT) ctb 201 sc228 303 100000 nl228 = true := by decide +kernel
set_option maxRecDepth 100000 in
theorem kn228_0 : bkn (4, smT) ctb 201 sc228 100000 nl228 nd228_0 = true := by decide +kernel
def nd229_0 : bNd := (11, [some (.inr (.inl (.ref 53))), some (.inr (.inl (.ref 3))), some (.inr (.inl (.ref 18))), some (.inl (0, [(0, 1)])), some (.inl (0, [(1, 1)]))], [(0, 2147483647), (0, 100)], [], [], (0, []), (0, []), (100, [(1, (-1))]))
/-- S$Trials sweepingsTill -/
def nl229 : List bNd := [nd229_0]
set_option maxRecDepth 100000 in
theorem ke229 : bke (5, smT) ctb 202 sc229 102 100000 nl229 = true := by decide +kernel
set_option maxRecDepth 100000 in
theorem kn229_0 : bkn (5, smT) ctb 202 sc229 100000 nl229 nd229_0 = true := by decide +kernel
def nd230_0 : bNd := (9, [some (.inr (.inl (.ref 53))), some (.inr (.inl (.ref 3))), some (.inr (.inl (.ref 18))), some (.inl (0, [(0, 1)])), some (.inl (0, [(1, 1)])), some (.inl (0, [(2, 1)])), some (.inl (0, [(3, 1)])), some (.inl (0, [(4, 1)])), none], [(0, 11), (0, 24), (0, 24), ((-2147483648), 2147483647), (0, 25)], [], [], (0, []), (0, []), (25, [(4, (-1))]))
/-- S$Trials bestMoment -/
def nl230 : List bNd := [nd230_0]
set_option maxRecDepth 100000 in
theorem ke230 : bke (5, smT) ctb 203 sc230 27 100000 nl230 = true := by decide +kernel
set_option maxRecDepth 100000 in
theorem kn230_0 : bkn (5, smT) ctb 203 sc230 100000 nl230 nd230_0 = true := by decide +kernel
def nd231_0 : bNd := (28, [some (.inr (.inl (.ref 53))), some (.inr (.inl (.ref 3))), some (.inr (.inl (.ref 18))), some (.inl (0, [(0, 1)])), some (.inl (0, [(1, 1)])), some (.inl (0, [(2, 1)])), some (.inl (0, [(3, 1)])), some (.inl (0, [(4, 1)]))], [(0, 7), (0, 11), (0, 24), ((-2147483648), 2147483647), (0, 24)], [], [], (0, []), (0, []), (24, [(4, (-1))]))
/-- S$Trials towelWorth -/
def nl231 : List bNd := [nd231_0]
set_option maxRecDepth 100000 in
theorem ke231 : bke (5, smT) ctb 204 sc231 26 100000 nl231 = true := by decide +kernel
set_option maxRecDepth 100000 in
theorem kn231_0 : bkn (5, smT) ctb 204 sc231 100000 nl231 nd231_0 = true := by decide +kernel
def nd232_0 : bNd := (19, [some (.inr (.inl (.ref 53))), some (.inr (.inl (.ref 3))), some (.inr (.inl (.ref 18))), some (.inl (0, [(0, 1)])), some (.inl (0, [(1, 1)])), some (.inl (0, [(2, 1)])), some (.inl (0, [(3, 1)])), some (.inl (0, [(4, 1)])), some (.inl (0, [(5, 1)])), none], [(0, 7), (0, 24), (0, 4095), ((-1), 11), ((-2147483648), 2147483647), (0, 12)], [], [], (0, []), (0, []), (12, [(5, (-1))]))
/-- S$Trials bestTowel -/
def nl232 : List bNd := [nd232_0]
set_option maxRecDepth 100000 in
theorem ke232 : bke (6, smT) ctb 205 sc232 14 100000 nl232 = true := by decide +kernel
set_option maxRecDepth 100000 in
theorem kn232_0 : bkn (6, smT) ctb 205 sc232 100000 nl232 nd232_0 = true := by decide +kernel
def nd233_0 : bNd := (6, [some (.inr (.inl (.ref 53))), some (.inr (.inl (.ref 3))), some (.inr (.inl (.ref 18))), some (.inl (0, [(0, 1)])), some (.inl (0, [(1, 1)])), some (.inl (0, [(2, 1)])), some (.inl (0, [(3, 1)])), none], [(0, 24), (0, 1), ((-2147483648), 2147483647), (1, 9)], [], [], (0, []), (0, []), (9, [(3, (-1))]))
/-- S$Trials extreme -/
def nl233 : List bNd := [nd233_0]
set_option maxRecDepth 100000 in
theorem ke233 : bke (5, smT) ctb 206 sc233 10 100000 nl233 = true := by decide +kernel
set_option maxRecDepth 100000 in
theorem kn233_0 : bkn (5, smT) ctb 206 sc233 100000 nl233 nd233_0 = true := by decide +kernel
def nd234_0 : bNd := (27, [some (.inr (.inl (.ref 53))), some (.inr (.inl (.ref 3))), some (.inr (.inl (.ref 18))), some (.inl (0, [(0, 1)])), some (.inl (0, [(1, 1)])), some (.inl (0, [(2, 1)])), some (.inl (0, [(3, 1)])), some (.inl (0, [(4, 1)])), none], [(1, 100), ((-1), 100), ((-2147483648), 2147483647), ((-2147483648), 2147483647), (1, 101)], [], [], (0, []), (0, []), (101, [(4, (-1))]))
/-- S$Trials steepest -/
def nl234 : List bNd := [nd234_0]
set_option maxRecDepth 100000 in
theorem ke234 : bke (5, smT) ctb 207 sc234 102 100000 nl234 = true := by decide +kernel
set_option maxRecDepth 100000 in
theorem kn234_0 : bkn (5, smT) ctb 207 sc234 100000 nl234 nd234_0 = true := by decide +kernel
def nd235_0 : bNd := (7, [some (.inr (.inl (.ref 84))), some (.inl (0, []))], [], [], [], (0, []), (0, []), (1, []))
def nd235_1 : bNd := (32, [some (.inr (.inl (.ref 84))), some (.inl (1626, []))], [], [], [], (0, []), (0, []), (0, []))
/-- SModel image -/
def nl235 : List bNd := [nd235_0, nd235_1]
set_option maxRecDepth 100000 in
theorem ke235 : bke (0, smT) ctb 212 sc235 3 100000 nl235 = true := by decide +kernel
set_option maxRecDepth 100000 in
theorem kn235_1 : bkn (0, smT) ctb 212 sc235 100000 nl235 nd235_1 = true := by decide +kernel
def nd236_0 : bNd := (16, [some (.inr (.inl (.ref 84))), some (.inl (0, []))], [], [], [], (0, []), (0, []), (1, []))
def nd236_1 : bNd := (41, [some (.inr (.inl (.ref 84))), some (.inl (1626, []))], [], [], [], (0, []), (0, []), (0, []))
/-- SModel back -/
def nl236 : List bNd := [nd236_0, nd236_1]
set_option maxRecDepth 100000 in
theorem ke236 : bke (0, smT) ctb 213 sc236 3 100000 nl236 = true := by decide +kernel
set_option maxRecDepth 100000 in
theorem kn236_1 : bkn (0, smT) ctb 213 sc236 100000 nl236 nd236_1 = true := by decide +kernel
def nd237_0 : bNd := (55, [some (.inr (.inl (.ref 84))), some (.inl (0, []))], [], [], [], (0, []), (0, []), (1, []))
def nd237_1 : bNd := (11, [some (.inr (.inl (.ref 84))), some (.inl (0, []))], [], [], [], (0, []), (0, []), (3, []))
def nd237_2 : bNd := (91, [some (.inr (.inl (.ref 84))), some (.inl (777, []))], [], [], [], (0, []), (0, []), (0, []))
def nd237_3 : bNd := (40, [some (.inr (.inl (.ref 84))), some (.inl (8547, []))], [], [], [], (0, []), (0, []), (2, []))
/-- SModel remembers -/
def nl237 : List bNd := [nd237_0, nd237_1, nd237_2, nd237_3]
set_option maxRecDepth 100000 in
theorem ke237 : bke (0, smT) ctb 214 sc237 5 100000 nl237 = true := by decide +kernel
set_option maxRecDepth 100000 in
theorem kn237_2 : bkn (0, smT) ctb 214 sc237 100000 nl237 nd237_2 = true := by decide +kernel
set_option maxRecDepth 100000 in
theorem kn237_3 : bkn (0, smT) ctb 214 sc237 100000 nl237 nd237_3 = true := by decide +kernel
def nd238_0 : bNd := (26, [some (.inr (.inl (.ref 84))), some (.inl (0, []))], [], [], [], (0, []), (0, []), (1, []))
def nd238_1 : bNd := (60, [some (.inr (.inl (.ref 84))), some (.inl (777, []))], [], [], [], (0, []), (0, []), (0, []))
/-- SModel undo -/
def nl238 : List bNd := [nd238_0, nd238_1]
set_option maxRecDepth 100000 in
theorem ke238 : bke (0, smT) ctb 215 sc238 3 100000 nl238 = true := by decide +kernel
set_option maxRecDepth 100000 in
theorem kn238_1 : bkn (0, smT) ctb 215 sc238 100000 nl238 nd238_1 = true := by decide +kernel
def nd239_0 : bNd := (4, [some (.inr (.inl (.ref 84))), some (.inl (16, [(0, 11)])), some (.inl (0, [(1, 1)])), some (.inl (0, [(2, 1)]))], [(0, 11), ((-2147483648), 2147483647), (0, 8)], [], [], (0, []), (0, []), (8, [(2, (-1))]))
/-- SModel grains -/
def nl239 : List bNd := [nd239_0]
set_option maxRecDepth 100000 in
theorem ke239 : bke (0, smT) ctb 224 sc239 10 100000 nl239 = true := by decide +kernel
set_option maxRecDepth 100000 in
theorem kn239_0 : bkn (0, smT) ctb 224 sc239 100000 nl239 nd239_0 = true := by decide +kernel
def nd240_0 : bNd := (4, [some (.inr (.inl (.ref 84))), some (.inl (201, [(0, 24)])), some (.inl (0, [(1, 1)])), some (.inl (0, [(2, 1)]))], [(0, 7), ((-2147483648), 2147483647), (0, 8)], [], [], (0, []), (0, []), (8, [(2, (-1))]))
/-- SModel grains -/
def nl240 : List bNd := [nd240_0]
set_option maxRecDepth 100000 in
theorem ke240 : bke (0, smT) ctb 224 sc240 10 100000 nl240 = true := by decide +kernel
set_option maxRecDepth 100000 in
theorem kn240_0 : bkn (0, smT) ctb 224 sc240 100000 nl240 nd240_0 = true := by decide +kernel
def nd241_0 : bNd := (5, [some (.inr (.inl (.ref 84))), some (.inl (0, [(0, 1)])), some (.inl (0, [(1, 1)])), some (.inl (0, [(2, 1)])), some (.inl (0, [(3, 1)])), none, none], [(0, 11), (0, 11), (0, 1), (0, 20)], [], [], (0, []), (0, []), (20, [(3, (-1))]))
/-- SModel isDoor -/
def nl241 : List bNd := [nd241_0]
set_option maxRecDepth 100000 in
theorem ke241 : bke (0, smT) ctb 230 sc241 22 100000 nl241 = true := by decide +kernel
set_option maxRecDepth 100000 in
theorem kn241_0 : bkn (0, smT) ctb 230 sc241 100000 nl241 nd241_0 = true := by decide +kernel
/-- SModel feed -/
def nl242 : List bNd := []
set_option maxRecDepth 100000 in
theorem ke242 : bke (0, smT) ctb 232 sc242 0 100000 nl242 = true := by decide +kernel
/-- SModel end -/
def nl243 : List bNd := []
set_option maxRecDepth 100000 in
theorem ke243 : bke (0, smT) ctb 233 sc243 0 100000 nl243 = true := by decide +kernel
def nd244_0 : bNd := (0, [some (.inr (.inl (.ref 84)))], [(0, 399), (1, 400)], [(0, [(0, (-1)), (1, 1)])], [(84, 10, (0, [(1, 1)]))], (0, []), (0, []), (400, [(1, (-1))]))
/-- SModel blanks -/
def nl244 : List bNd := [nd244_0]
set_option maxRecDepth 100000 in
theorem ke244 : bke (1, smT) ctb 235 sc244 401 100000 nl244 = true := by decide +kernel
set_option maxRecDepth 100000 in
theorem kn244_0 : bkn (1, smT) ctb 235 sc244 100000 nl244 nd244_0 = true := by decide +kernel
def nd245_0 : bNd := (4, [some (.inr (.inl (.ref 84)))], [(0, 400), (0, 400), (0, 400)], [(0, [(0, (-1)), (2, 1)]), (0, [(1, 1), (2, (-1))])], [(84, 10, (0, [(1, 1)])), (84, 12, (0, [(2, 1)]))], (0, []), (0, []), (400, [(1, (-1))]))
/-- SModel letters -/
def nl245 : List bNd := [nd245_0]
set_option maxRecDepth 100000 in
theorem ke245 : bke (2, smT) ctb 236 sc245 402 100000 nl245 = true := by decide +kernel
set_option maxRecDepth 100000 in
theorem kn245_0 : bkn (2, smT) ctb 236 sc245 100000 nl245 nd245_0 = true := by decide +kernel
/-- SModel isWord -/
def nl246 : List bNd := []
set_option maxRecDepth 100000 in
theorem ke246 : bke (0, smT) ctb 237 sc246 0 100000 nl246 = true := by decide +kernel
/-- SModel isWord -/
def nl247 : List bNd := []
set_option maxRecDepth 100000 in
theorem ke247 : bke (0, smT) ctb 237 sc247 0 100000 nl247 = true := by decide +kernel
/-- SModel isWord -/
def nl248 : List bNd := []
set_option maxRecDepth 100000 in
theorem ke248 : bke (0, smT) ctb 237 sc248 0 100000 nl248 = true := by decide +kernel
/-- SModel isWord -/
def nl249 : List bNd := []
set_option maxRecDepth 100000 in
theorem ke249 : bke (0, smT) ctb 237 sc249 0 100000 nl249 = true := by decide +kernel
/-- SModel isWord -/
def nl250 : List bNd := []
set_option maxRecDepth 100000 in
theorem ke250 : bke (0, smT) ctb 237 sc250 0 100000 nl250 = true := by decide +kernel
/-- SModel isWord -/
def nl251 : List bNd := []
set_option maxRecDepth 100000 in
theorem ke251 : bke (0, smT) ctb 237 sc251 0 100000 nl251 = true := by decide +kernel
/-- SModel isWord -/
def nl252 : List bNd := []
set_option maxRecDepth 100000 in
theorem ke252 : bke (0, smT) ctb 237 sc252 0 100000 nl252 = true := by decide +kernel
/-- SModel isWord -/
def nl253 : List bNd := []
set_option maxRecDepth 100000 in
theorem ke253 : bke (0, smT) ctb 237 sc253 0 100000 nl253 = true := by decide +kernel
/-- SModel isWord -/
def nl254 : List bNd := []
set_option maxRecDepth 100000 in
theorem ke254 : bke (0, smT) ctb 237 sc254 0 100000 nl254 = true := by decide +kernel
/-- SModel isWord -/
def nl255 : List bNd := []
set_option maxRecDepth 100000 in
theorem ke255 : bke (0, smT) ctb 237 sc255 0 100000 nl255 = true := by decide +kernel
/-- SModel isWord -/
def nl256 : List bNd := []
set_option maxRecDepth 100000 in
theorem ke256 : bke (0, smT) ctb 237 sc256 0 100000 nl256 = true := by decide +kernel
/-- SModel isWord -/
def nl257 : List bNd := []
set_option maxRecDepth 100000 in
theorem ke257 : bke (0, smT) ctb 237 sc257 0 100000 nl257 = true := by decide +kernel
/-- SModel isWord -/
def nl258 : List bNd := []
set_option maxRecDepth 100000 in
theorem ke258 : bke (0, smT) ctb 237 sc258 0 100000 nl258 = true := by decide +kernel
/-- SModel isWord -/
def nl259 : List bNd := []
set_option maxRecDepth 100000 in
theorem ke259 : bke (0, smT) ctb 237 sc259 0 100000 nl259 = true := by decide +kernel
/-- SModel isWord -/
def nl260 : List bNd := []
set_option maxRecDepth 100000 in
theorem ke260 : bke (0, smT) ctb 237 sc260 0 100000 nl260 = true := by decide +kernel
/-- SModel isWord -/
def nl261 : List bNd := []
set_option maxRecDepth 100000 in
theorem ke261 : bke (0, smT) ctb 237 sc261 0 100000 nl261 = true := by decide +kernel
/-- SModel isWord -/
def nl262 : List bNd := []
set_option maxRecDepth 100000 in
theorem ke262 : bke (0, smT) ctb 237 sc262 0 100000 nl262 = true := by decide +kernel
/-- SModel isWord -/
def nl263 : List bNd := []
set_option maxRecDepth 100000 in
theorem ke263 : bke (0, smT) ctb 237 sc263 0 100000 nl263 = true := by decide +kernel
/-- SModel isWord -/
def nl264 : List bNd := []
set_option maxRecDepth 100000 in
theorem ke264 : bke (0, smT) ctb 237 sc264 0 100000 nl264 = true := by decide +kernel
/-- SModel isWord -/
def nl265 : List bNd := []
set_option maxRecDepth 100000 in
theorem ke265 : bke (0, smT) ctb 237 sc265 0 100000 nl265 = true := by decide +kernel
/-- SModel isWord -/
def nl266 : List bNd := []
set_option maxRecDepth 100000 in
theorem ke266 : bke (0, smT) ctb 237 sc266 0 100000 nl266 = true := by decide +kernel
/-- SModel isWord -/
def nl267 : List bNd := []
set_option maxRecDepth 100000 in
theorem ke267 : bke (0, smT) ctb 237 sc267 0 100000 nl267 = true := by decide +kernel
/-- SModel isWord -/
def nl268 : List bNd := []
set_option maxRecDepth 100000 in
theorem ke268 : bke (0, smT) ctb 237 sc268 0 100000 nl268 = true := by decide +kernel
/-- SModel isWord -/
def nl269 : List bNd := []
set_option maxRecDepth 100000 in
theorem ke269 : bke (0, smT) ctb 237 sc269 0 100000 nl269 = true := by decide +kernel
/-- SModel isWord -/
def nl270 : List bNd := []
set_option maxRecDepth 100000 in
theorem ke270 : bke (0, smT) ctb 237 sc270 0 100000 nl270 = true := by decide +kernel
def nd271_0 : bNd := (7, [some (.inr (.inl (.ref 84))), some (.inl (0, [(2, 1)])), some (.inl (0, [(0, 1)])), some (.inl (0, [(3, 1)])), some (.inl (0, [(4, 1)]))], [((-1), 7), (2, 400), (0, 0), (5, 5), ((-2147483648), 2147483647), (3, 400)], [(0, [(1, (-1)), (5, 1)])], [(84, 10, (0, [(5, 1)]))], (0, []), (0, []), (400, [(5, (-1))]))
/-- SModel figures -/
def nl271 : List bNd := [nd271_0]
set_option maxRecDepth 100000 in
theorem ke271 : bke (2, smT) ctb 240 sc271 399 100000 nl271 = true := by decide +kernel
set_option maxRecDepth 100000 in
theorem kn271_0 : bkn (2, smT) ctb 240 sc271 100000 nl271 nd271_0 = true := by decide +kernel
def nd272_0 : bNd := (7, [some (.inr (.inl (.ref 84))), some (.inl (0, [(2, 1)])), some (.inl (0, [(0, 1)])), some (.inl (0, [(3, 1)])), some (.inl (0, [(4, 1)]))], [((-1), 11), (0, 400), (0, 0), (5, 5), ((-2147483648), 2147483647), (0, 400)], [(0, [(1, (-1)), (5, 1)])], [(84, 10, (0, [(5, 1)]))], (0, []), (0, []), (400, [(5, (-1))]))
/-- SModel figures -/
def nl272 : List bNd := [nd272_0]
set_option maxRecDepth 100000 in
theorem ke272 : bke (2, smT) ctb 240 sc272 402 100000 nl272 = true := by decide +kernel
set_option maxRecDepth 100000 in
theorem kn272_0 : bkn (2, smT) ctb 240 sc272 100000 nl272 nd272_0 = true := by decide +kernel
def nd273_0 : bNd := (7, [some (.inr (.inl (.ref 84))), some (.inl (0, [(2, 1)])), some (.inl (0, [(0, 1)])), some (.inl (0, [(3, 1)])), some (.inl (0, [(4, 1)]))], [(99, 99), (3, 400), (1, 1), (5, 5), ((-2147483648), 2147483647), (3, 400)], [(0, [(1, (-1)), (5, 1)])], [(84, 10, (0, [(5, 1)]))], (0, []), (0, []), (400, [(5, (-1))]))
/-- SModel figures -/
def nl273 : List bNd := [nd273_0]
set_option maxRecDepth 100000 in
theorem ke273 : bke (2, smT) ctb 240 sc273 399 100000 nl273 = true := by decide +kernel
set_option maxRecDepth 100000 in
theorem kn273_0 : bkn (2, smT) ctb 240 sc273 100000 nl273 nd273_0 = true := by decide +kernel
def nd274_0 : bNd := (7, [some (.inr (.inl (.ref 84))), some (.inl (0, [(2, 1)])), some (.inl (0, [(0, 1)])), some (.inl (0, [(3, 1)])), some (.inl (0, [(4, 1)]))], [(99, 99), (2, 400), (0, 0), (5, 5), ((-2147483648), 2147483647), (3, 400)], [(0, [(1, (-1)), (5, 1)])], [(84, 10, (0, [(5, 1)]))], (0, []), (0, []), (400, [(5, (-1))]))
/-- SModel figures -/
def nl274 : List bNd := [nd274_0]
set_option maxRecDepth 100000 in
theorem ke274 : bke (2, smT) ctb 240 sc274 399 100000 nl274 = true := by decide +kernel
set_option maxRecDepth 100000 in
theorem kn274_0 : bkn (2, smT) ctb 240 sc274 100000 nl274 nd274_0 = true := by decide +kernel
def nd275_0 : bNd := (7, [some (.inr (.inl (.ref 84))), some (.inl (0, [(2, 1)])), some (.inl (0, [(0, 1)])), some (.inl (0, [(3, 1)])), some (.inl (0, [(4, 1)]))], [(100, 100), (4, 400), (0, 0), (5, 5), ((-2147483648), 2147483647), (4, 400)], [(0, [(1, (-1)), (5, 1)])], [(84, 10, (0, [(5, 1)]))], (0, []), (0, []), (400, [(5, (-1))]))
/-- SModel figures -/
def nl275 : List bNd := [nd275_0]
set_option maxRecDepth 100000 in
theorem ke275 : bke (2, smT) ctb 240 sc275 398 100000 nl275 = true := by decide +kernel
set_option maxRecDepth 100000 in
theorem kn275_0 : bkn (2, smT) ctb 240 sc275 100000 nl275 nd275_0 = true := by decide +kernel
def nd276_0 : bNd := (7, [some (.inr (.inl (.ref 84))), some (.inl (0, [(2, 1)])), some (.inl (0, [(0, 1)])), some (.inl (0, [(3, 1)])), some (.inl (0, [(4, 1)]))], [(999, 999), (4, 400), (0, 0), (3, 3), ((-2147483648), 2147483647), (4, 400)], [(0, [(1, (-1)), (5, 1)])], [(84, 10, (0, [(5, 1)]))], (0, []), (0, []), (400, [(5, (-1))]))
/-- SModel figures -/
def nl276 : List bNd := [nd276_0]
set_option maxRecDepth 100000 in
theorem ke276 : bke (2, smT) ctb 240 sc276 398 100000 nl276 = true := by decide +kernel
set_option maxRecDepth 100000 in
theorem kn276_0 : bkn (2, smT) ctb 240 sc276 100000 nl276 nd276_0 = true := by decide +kernel
def nd277_0 : bNd := (7, [some (.inr (.inl (.ref 84))), some (.inl (0, [(2, 1)])), some (.inl (0, [(0, 1)])), some (.inl (0, [(3, 1)])), some (.inl (0, [(4, 1)]))], [(9999, 9999), (4, 400), (0, 0), (5, 5), ((-2147483648), 2147483647), (4, 400)], [(0, [(1, (-1)), (5, 1)])], [(84, 10, (0, [(5, 1)]))], (0, []), (0, []), (400, [(5, (-1))]))
/-- SModel figures -/
def nl277 : List bNd := [nd277_0]
set_option maxRecDepth 100000 in
theorem ke277 : bke (2, smT) ctb 240 sc277 398 100000 nl277 = true := by decide +kernel
set_option maxRecDepth 100000 in
theorem kn277_0 : bkn (2, smT) ctb 240 sc277 100000 nl277 nd277_0 = true := by decide +kernel
def nd278_0 : bNd := (7, [some (.inr (.inl (.ref 84))), some (.inl (0, [(2, 1)])), some (.inl (0, [(0, 1)])), some (.inl (0, [(3, 1)])), some (.inl (0, [(4, 1)]))], [(99999, 99999), (4, 400), (0, 0), (5, 5), ((-2147483648), 2147483647), (4, 400)], [(0, [(1, (-1)), (5, 1)])], [(84, 10, (0, [(5, 1)]))], (0, []), (0, []), (400, [(5, (-1))]))
/-- SModel figures -/
def nl278 : List bNd := [nd278_0]
set_option maxRecDepth 100000 in
theorem ke278 : bke (2, smT) ctb 240 sc278 398 100000 nl278 = true := by decide +kernel
set_option maxRecDepth 100000 in
theorem kn278_0 : bkn (2, smT) ctb 240 sc278 100000 nl278 nd278_0 = true := by decide +kernel
/-- SModel fault -/
def nl279 : List bNd := []
set_option maxRecDepth 100000 in
theorem ke279 : bke (0, smT) ctb 243 sc279 0 100000 nl279 = true := by decide +kernel
def nd280_0 : bNd := (47, [some (.inr (.inl (.ref 84))), some (.inl (0, [(0, 1)])), some (.inl (0, [(1, 1)])), some (.inl (0, [(2, 1)])), some (.inl (0, [(3, 1)]))], [(0, 11), (0, 4), (0, 99), (0, 11)], [], [(85, 0, (0, [(0, 1)]))], (0, []), (0, []), (11, [(3, (-1))]))
/-- SModel readRoom -/
def nl280 : List bNd := [nd280_0]
set_option maxRecDepth 100000 in
theorem ke280 : bke (4, smT) ctb 247 sc280 13 100000 nl280 = true := by decide +kernel
set_option maxRecDepth 100000 in
theorem kn280_0 : bkn (4, smT) ctb 247 sc280 100000 nl280 nd280_0 = true := by decide +kernel
