/-- S$HouseReader line -/
def nl84 : List bNd := []
set_option maxRecDepth 100000 in
theorem ke84 : bke (4, smT) ctb 131 sc84 0 100000 nl84 = true := by decide +kernel
