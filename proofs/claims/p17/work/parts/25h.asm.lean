set_option maxRecDepth 100000 in
theorem bMT_m {E : zE} {tb : bTb} {B B' j : Nat} {c : bSm} (hB : B ≤ B') (h : bMT E tb B j c) : bMT E tb B' j c := fun Vc ss hh d f q hq hd hf => h Vc ss hh d f q hq hd (Nat.le_trans hB hf)
set_option maxRecDepth 100000 in
theorem bSO_m {E : zE} {tb : bTb} {B B' : Nat} {sm : bSt9} (hB : B ≤ B') (h : bSO E tb B sm) : bSO E tb B' sm := fun j l hl c hc hd => bMT_m hB (h j l hl c hc hd)
set_option maxRecDepth 100000 in
theorem bSO_s {E : zE} {tb : bTb} {B B' n : Nat} {t : List (List (List bSm))} (hB : B ≤ B') (h : bSO E tb B (n, t)) (h1 : ∀ j l, bg2 t j = some l → ∀ c, c ∈ l → c.1 = n → bMT E tb B' j c) : bSO E tb B' (n + 1, t) := fun j l hl c hc hd => by
  by_cases hn : c.1 < n
  · exact bMT_m hB (h j l hl c hc hn)
  · exact h1 j l hl c hc (by have : c.1 < n + 1 := hd; omega)
set_option maxRecDepth 100000 in
theorem bSO_0 {E : zE} {tb : bTb} {B : Nat} {t : List (List (List bSm))} : bSO E tb B (0, t) := fun j l hl c hc hd => absurd (show c.1 < 0 from hd) (by omega)
