/-- SLaw house -/
def nl0 : List bNd := []
set_option maxRecDepth 100000 in
theorem ke0 : bke (7, smT) ctb 1 sc0 0 100000 nl0 = true := by decide +kernel
/-- SLaw law -/
def nl1 : List bNd := []
set_option maxRecDepth 100000 in
theorem ke1 : bke (25, smT) ctb 2 sc1 0 100000 nl1 = true := by decide +kernel
/-- SLaw room -/
def nl2 : List bNd := []
set_option maxRecDepth 100000 in
theorem ke2 : bke (5, smT) ctb 3 sc2 0 100000 nl2 = true := by decide +kernel
/-- SLaw sand -/
def nl3 : List bNd := []
set_option maxRecDepth 100000 in
theorem ke3 : bke (2, smT) ctb 4 sc3 0 100000 nl3 = true := by decide +kernel
/-- SLaw person -/
def nl4 : List bNd := []
set_option maxRecDepth 100000 in
theorem ke4 : bke (2, smT) ctb 5 sc4 0 100000 nl4 = true := by decide +kernel
/-- SLaw load -/
def nl5 : List bNd := []
set_option maxRecDepth 100000 in
theorem ke5 : bke (2, smT) ctb 6 sc5 0 100000 nl5 = true := by decide +kernel
/-- SLaw habit -/
def nl6 : List bNd := []
set_option maxRecDepth 100000 in
theorem ke6 : bke (2, smT) ctb 7 sc6 0 100000 nl6 = true := by decide +kernel
/-- SLaw rule -/
def nl7 : List bNd := []
set_option maxRecDepth 100000 in
theorem ke7 : bke (4, smT) ctb 8 sc7 0 100000 nl7 = true := by decide +kernel
/-- SLaw rounds -/
def nl8 : List bNd := []
set_option maxRecDepth 100000 in
theorem ke8 : bke (5, smT) ctb 9 sc8 0 100000 nl8 = true := by decide +kernel
/-- SLaw sweep -/
def nl9 : List bNd := []
set_option maxRecDepth 100000 in
theorem ke9 : bke (5, smT) ctb 10 sc9 0 100000 nl9 = true := by decide +kernel
/-- SLaw beat -/
def nl10 : List bNd := []
set_option maxRecDepth 100000 in
theorem ke10 : bke (5, smT) ctb 11 sc10 0 100000 nl10 = true := by decide +kernel
/-- SLaw tool -/
def nl11 : List bNd := []
set_option maxRecDepth 100000 in
theorem ke11 : bke (5, smT) ctb 12 sc11 0 100000 nl11 = true := by decide +kernel
/-- SLaw keep -/
def nl12 : List bNd := []
set_option maxRecDepth 100000 in
theorem ke12 : bke (5, smT) ctb 13 sc12 0 100000 nl12 = true := by decide +kernel
/-- SLaw soak -/
def nl13 : List bNd := []
set_option maxRecDepth 100000 in
theorem ke13 : bke (5, smT) ctb 14 sc13 0 100000 nl13 = true := by decide +kernel
/-- SLaw trial -/
def nl14 : List bNd := []
set_option maxRecDepth 100000 in
theorem ke14 : bke (7, smT) ctb 15 sc14 0 100000 nl14 = true := by decide +kernel
/-- SLaw worth -/
def nl15 : List bNd := []
set_option maxRecDepth 100000 in
theorem ke15 : bke (7, smT) ctb 16 sc15 0 100000 nl15 = true := by decide +kernel
/-- SLaw stand -/
def nl16 : List bNd := []
set_option maxRecDepth 100000 in
theorem ke16 : bke (7, smT) ctb 17 sc16 0 100000 nl16 = true := by decide +kernel
/-- SLaw two -/
def nl17 : List bNd := []
set_option maxRecDepth 100000 in
theorem ke17 : bke (7, smT) ctb 18 sc17 0 100000 nl17 = true := by decide +kernel
/-- SLaw keepers -/
def nl18 : List bNd := []
set_option maxRecDepth 100000 in
theorem ke18 : bke (7, smT) ctb 19 sc18 0 100000 nl18 = true := by decide +kernel
/-- SLaw chores -/
def nl19 : List bNd := []
set_option maxRecDepth 100000 in
theorem ke19 : bke (6, smT) ctb 20 sc19 0 100000 nl19 = true := by decide +kernel
/-- SLaw often -/
def nl20 : List bNd := []
set_option maxRecDepth 100000 in
theorem ke20 : bke (8, smT) ctb 21 sc20 0 100000 nl20 = true := by decide +kernel
/-- SLaw when -/
def nl21 : List bNd := []
set_option maxRecDepth 100000 in
theorem ke21 : bke (6, smT) ctb 22 sc21 0 100000 nl21 = true := by decide +kernel
/-- SLaw fades -/
def nl22 : List bNd := []
set_option maxRecDepth 100000 in
theorem ke22 : bke (7, smT) ctb 23 sc22 0 100000 nl22 = true := by decide +kernel
/-- SLaw later -/
def nl23 : List bNd := []
set_option maxRecDepth 100000 in
theorem ke23 : bke (7, smT) ctb 24 sc23 0 100000 nl23 = true := by decide +kernel
/-- SLaw towel -/
def nl24 : List bNd := []
set_option maxRecDepth 100000 in
theorem ke24 : bke (7, smT) ctb 25 sc24 0 100000 nl24 = true := by decide +kernel
/-- SLaw towelled -/
def nl25 : List bNd := []
set_option maxRecDepth 100000 in
theorem ke25 : bke (8, smT) ctb 26 sc25 0 100000 nl25 = true := by decide +kernel
/-- SLaw span -/
def nl26 : List bNd := []
set_option maxRecDepth 100000 in
theorem ke26 : bke (7, smT) ctb 27 sc26 0 100000 nl26 = true := by decide +kernel
/-- SLaw peak -/
def nl27 : List bNd := []
set_option maxRecDepth 100000 in
theorem ke27 : bke (7, smT) ctb 28 sc27 0 100000 nl27 = true := by decide +kernel
/-- SLaw carries -/
def nl28 : List bNd := []
set_option maxRecDepth 100000 in
theorem ke28 : bke (2, smT) ctb 29 sc28 0 100000 nl28 = true := by decide +kernel
/-- SLaw whose -/
def nl29 : List bNd := []
set_option maxRecDepth 100000 in
theorem ke29 : bke (2, smT) ctb 30 sc29 0 100000 nl29 = true := by decide +kernel
/-- SLaw share -/
def nl30 : List bNd := []
set_option maxRecDepth 100000 in
theorem ke30 : bke (2, smT) ctb 31 sc30 0 100000 nl30 = true := by decide +kernel
/-- SLaw itch -/
def nl31 : List bNd := []
set_option maxRecDepth 100000 in
theorem ke31 : bke (3, smT) ctb 32 sc31 0 100000 nl31 = true := by decide +kernel
/-- SLaw ways -/
def nl32 : List bNd := []
set_option maxRecDepth 100000 in
theorem ke32 : bke (2, smT) ctb 33 sc32 0 100000 nl32 = true := by decide +kernel
/-- SLaw cross -/
def nl33 : List bNd := []
set_option maxRecDepth 100000 in
theorem ke33 : bke (4, smT) ctb 34 sc33 0 100000 nl33 = true := by decide +kernel
