set_option maxRecDepth 100000 in
theorem bSO_le {E : zE} {tb : bTb} {B m n : Nat} {t : List (List (List bSm))} (hm : m ≤ n) (h : bSO E tb B (n, t)) : bSO E tb B (m, t) := fun j l hl c hc hd => h j l hl c hc (Nat.lt_of_lt_of_le hd hm)
def bXX : Nat := 1000000000000000000
set_option maxRecDepth 100000 in
theorem tk0 {E : zE} (hE : E.1 ≤ 4000) {B n : Nat} (h : ∀ E9 : zE, E9.1 = E.1 → bSO E9 ctb B (n, smT)) (hn : 7 ≤ n) : bMT E ctb (B + bXX) 1 sc0 := bMT_m (Nat.add_le_add_left (show 1000000 * (0 + 1) ≤ bXX by decide) B) (st0 (by omega) (bSO_le hn (h E rfl)))
set_option maxRecDepth 100000 in
theorem tk1 {E : zE} (hE : E.1 ≤ 4000) {B n : Nat} (h : ∀ E9 : zE, E9.1 = E.1 → bSO E9 ctb B (n, smT)) (hn : 25 ≤ n) : bMT E ctb (B + bXX) 2 sc1 := bMT_m (Nat.add_le_add_left (show 1000000 * (0 + 1) ≤ bXX by decide) B) (st1 (by omega) (bSO_le hn (h E rfl)))
set_option maxRecDepth 100000 in
theorem tk2 {E : zE} (hE : E.1 ≤ 4000) {B n : Nat} (h : ∀ E9 : zE, E9.1 = E.1 → bSO E9 ctb B (n, smT)) (hn : 5 ≤ n) : bMT E ctb (B + bXX) 3 sc2 := bMT_m (Nat.add_le_add_left (show 1000000 * (0 + 1) ≤ bXX by decide) B) (st2 (by omega) (bSO_le hn (h E rfl)))
set_option maxRecDepth 100000 in
theorem tk3 {E : zE} (hE : E.1 ≤ 4000) {B n : Nat} (h : ∀ E9 : zE, E9.1 = E.1 → bSO E9 ctb B (n, smT)) (hn : 2 ≤ n) : bMT E ctb (B + bXX) 4 sc3 := bMT_m (Nat.add_le_add_left (show 1000000 * (0 + 1) ≤ bXX by decide) B) (st3 (by omega) (bSO_le hn (h E rfl)))
set_option maxRecDepth 100000 in
theorem tk4 {E : zE} (hE : E.1 ≤ 4000) {B n : Nat} (h : ∀ E9 : zE, E9.1 = E.1 → bSO E9 ctb B (n, smT)) (hn : 2 ≤ n) : bMT E ctb (B + bXX) 5 sc4 := bMT_m (Nat.add_le_add_left (show 1000000 * (0 + 1) ≤ bXX by decide) B) (st4 (by omega) (bSO_le hn (h E rfl)))
set_option maxRecDepth 100000 in
theorem tk5 {E : zE} (hE : E.1 ≤ 4000) {B n : Nat} (h : ∀ E9 : zE, E9.1 = E.1 → bSO E9 ctb B (n, smT)) (hn : 2 ≤ n) : bMT E ctb (B + bXX) 6 sc5 := bMT_m (Nat.add_le_add_left (show 1000000 * (0 + 1) ≤ bXX by decide) B) (st5 (by omega) (bSO_le hn (h E rfl)))
set_option maxRecDepth 100000 in
theorem tk6 {E : zE} (hE : E.1 ≤ 4000) {B n : Nat} (h : ∀ E9 : zE, E9.1 = E.1 → bSO E9 ctb B (n, smT)) (hn : 2 ≤ n) : bMT E ctb (B + bXX) 7 sc6 := bMT_m (Nat.add_le_add_left (show 1000000 * (0 + 1) ≤ bXX by decide) B) (st6 (by omega) (bSO_le hn (h E rfl)))
set_option maxRecDepth 100000 in
theorem tk7 {E : zE} (hE : E.1 ≤ 4000) {B n : Nat} (h : ∀ E9 : zE, E9.1 = E.1 → bSO E9 ctb B (n, smT)) (hn : 4 ≤ n) : bMT E ctb (B + bXX) 8 sc7 := bMT_m (Nat.add_le_add_left (show 1000000 * (0 + 1) ≤ bXX by decide) B) (st7 (by omega) (bSO_le hn (h E rfl)))
set_option maxRecDepth 100000 in
theorem tk8 {E : zE} (hE : E.1 ≤ 4000) {B n : Nat} (h : ∀ E9 : zE, E9.1 = E.1 → bSO E9 ctb B (n, smT)) (hn : 5 ≤ n) : bMT E ctb (B + bXX) 9 sc8 := bMT_m (Nat.add_le_add_left (show 1000000 * (0 + 1) ≤ bXX by decide) B) (st8 (by omega) (bSO_le hn (h E rfl)))
set_option maxRecDepth 100000 in
theorem tk9 {E : zE} (hE : E.1 ≤ 4000) {B n : Nat} (h : ∀ E9 : zE, E9.1 = E.1 → bSO E9 ctb B (n, smT)) (hn : 5 ≤ n) : bMT E ctb (B + bXX) 10 sc9 := bMT_m (Nat.add_le_add_left (show 1000000 * (0 + 1) ≤ bXX by decide) B) (st9 (by omega) (bSO_le hn (h E rfl)))
set_option maxRecDepth 100000 in
theorem tk10 {E : zE} (hE : E.1 ≤ 4000) {B n : Nat} (h : ∀ E9 : zE, E9.1 = E.1 → bSO E9 ctb B (n, smT)) (hn : 5 ≤ n) : bMT E ctb (B + bXX) 11 sc10 := bMT_m (Nat.add_le_add_left (show 1000000 * (0 + 1) ≤ bXX by decide) B) (st10 (by omega) (bSO_le hn (h E rfl)))
set_option maxRecDepth 100000 in
theorem tk11 {E : zE} (hE : E.1 ≤ 4000) {B n : Nat} (h : ∀ E9 : zE, E9.1 = E.1 → bSO E9 ctb B (n, smT)) (hn : 5 ≤ n) : bMT E ctb (B + bXX) 12 sc11 := bMT_m (Nat.add_le_add_left (show 1000000 * (0 + 1) ≤ bXX by decide) B) (st11 (by omega) (bSO_le hn (h E rfl)))
set_option maxRecDepth 100000 in
theorem tk12 {E : zE} (hE : E.1 ≤ 4000) {B n : Nat} (h : ∀ E9 : zE, E9.1 = E.1 → bSO E9 ctb B (n, smT)) (hn : 5 ≤ n) : bMT E ctb (B + bXX) 13 sc12 := bMT_m (Nat.add_le_add_left (show 1000000 * (0 + 1) ≤ bXX by decide) B) (st12 (by omega) (bSO_le hn (h E rfl)))
set_option maxRecDepth 100000 in
theorem tk13 {E : zE} (hE : E.1 ≤ 4000) {B n : Nat} (h : ∀ E9 : zE, E9.1 = E.1 → bSO E9 ctb B (n, smT)) (hn : 5 ≤ n) : bMT E ctb (B + bXX) 14 sc13 := bMT_m (Nat.add_le_add_left (show 1000000 * (0 + 1) ≤ bXX by decide) B) (st13 (by omega) (bSO_le hn (h E rfl)))
set_option maxRecDepth 100000 in
theorem tk14 {E : zE} (hE : E.1 ≤ 4000) {B n : Nat} (h : ∀ E9 : zE, E9.1 = E.1 → bSO E9 ctb B (n, smT)) (hn : 7 ≤ n) : bMT E ctb (B + bXX) 15 sc14 := bMT_m (Nat.add_le_add_left (show 1000000 * (0 + 1) ≤ bXX by decide) B) (st14 (by omega) (bSO_le hn (h E rfl)))
set_option maxRecDepth 100000 in
theorem tk15 {E : zE} (hE : E.1 ≤ 4000) {B n : Nat} (h : ∀ E9 : zE, E9.1 = E.1 → bSO E9 ctb B (n, smT)) (hn : 7 ≤ n) : bMT E ctb (B + bXX) 16 sc15 := bMT_m (Nat.add_le_add_left (show 1000000 * (0 + 1) ≤ bXX by decide) B) (st15 (by omega) (bSO_le hn (h E rfl)))
set_option maxRecDepth 100000 in
theorem tk16 {E : zE} (hE : E.1 ≤ 4000) {B n : Nat} (h : ∀ E9 : zE, E9.1 = E.1 → bSO E9 ctb B (n, smT)) (hn : 7 ≤ n) : bMT E ctb (B + bXX) 17 sc16 := bMT_m (Nat.add_le_add_left (show 1000000 * (0 + 1) ≤ bXX by decide) B) (st16 (by omega) (bSO_le hn (h E rfl)))
set_option maxRecDepth 100000 in
theorem tk17 {E : zE} (hE : E.1 ≤ 4000) {B n : Nat} (h : ∀ E9 : zE, E9.1 = E.1 → bSO E9 ctb B (n, smT)) (hn : 7 ≤ n) : bMT E ctb (B + bXX) 18 sc17 := bMT_m (Nat.add_le_add_left (show 1000000 * (0 + 1) ≤ bXX by decide) B) (st17 (by omega) (bSO_le hn (h E rfl)))
set_option maxRecDepth 100000 in
theorem tk18 {E : zE} (hE : E.1 ≤ 4000) {B n : Nat} (h : ∀ E9 : zE, E9.1 = E.1 → bSO E9 ctb B (n, smT)) (hn : 7 ≤ n) : bMT E ctb (B + bXX) 19 sc18 := bMT_m (Nat.add_le_add_left (show 1000000 * (0 + 1) ≤ bXX by decide) B) (st18 (by omega) (bSO_le hn (h E rfl)))
set_option maxRecDepth 100000 in
theorem tk19 {E : zE} (hE : E.1 ≤ 4000) {B n : Nat} (h : ∀ E9 : zE, E9.1 = E.1 → bSO E9 ctb B (n, smT)) (hn : 6 ≤ n) : bMT E ctb (B + bXX) 20 sc19 := bMT_m (Nat.add_le_add_left (show 1000000 * (0 + 1) ≤ bXX by decide) B) (st19 (by omega) (bSO_le hn (h E rfl)))
set_option maxRecDepth 100000 in
theorem tk20 {E : zE} (hE : E.1 ≤ 4000) {B n : Nat} (h : ∀ E9 : zE, E9.1 = E.1 → bSO E9 ctb B (n, smT)) (hn : 8 ≤ n) : bMT E ctb (B + bXX) 21 sc20 := bMT_m (Nat.add_le_add_left (show 1000000 * (0 + 1) ≤ bXX by decide) B) (st20 (by omega) (bSO_le hn (h E rfl)))
set_option maxRecDepth 100000 in
theorem tk21 {E : zE} (hE : E.1 ≤ 4000) {B n : Nat} (h : ∀ E9 : zE, E9.1 = E.1 → bSO E9 ctb B (n, smT)) (hn : 6 ≤ n) : bMT E ctb (B + bXX) 22 sc21 := bMT_m (Nat.add_le_add_left (show 1000000 * (0 + 1) ≤ bXX by decide) B) (st21 (by omega) (bSO_le hn (h E rfl)))
set_option maxRecDepth 100000 in
theorem tk22 {E : zE} (hE : E.1 ≤ 4000) {B n : Nat} (h : ∀ E9 : zE, E9.1 = E.1 → bSO E9 ctb B (n, smT)) (hn : 7 ≤ n) : bMT E ctb (B + bXX) 23 sc22 := bMT_m (Nat.add_le_add_left (show 1000000 * (0 + 1) ≤ bXX by decide) B) (st22 (by omega) (bSO_le hn (h E rfl)))
set_option maxRecDepth 100000 in
theorem tk23 {E : zE} (hE : E.1 ≤ 4000) {B n : Nat} (h : ∀ E9 : zE, E9.1 = E.1 → bSO E9 ctb B (n, smT)) (hn : 7 ≤ n) : bMT E ctb (B + bXX) 24 sc23 := bMT_m (Nat.add_le_add_left (show 1000000 * (0 + 1) ≤ bXX by decide) B) (st23 (by omega) (bSO_le hn (h E rfl)))
set_option maxRecDepth 100000 in
theorem tk24 {E : zE} (hE : E.1 ≤ 4000) {B n : Nat} (h : ∀ E9 : zE, E9.1 = E.1 → bSO E9 ctb B (n, smT)) (hn : 7 ≤ n) : bMT E ctb (B + bXX) 25 sc24 := bMT_m (Nat.add_le_add_left (show 1000000 * (0 + 1) ≤ bXX by decide) B) (st24 (by omega) (bSO_le hn (h E rfl)))
set_option maxRecDepth 100000 in
theorem tk25 {E : zE} (hE : E.1 ≤ 4000) {B n : Nat} (h : ∀ E9 : zE, E9.1 = E.1 → bSO E9 ctb B (n, smT)) (hn : 8 ≤ n) : bMT E ctb (B + bXX) 26 sc25 := bMT_m (Nat.add_le_add_left (show 1000000 * (0 + 1) ≤ bXX by decide) B) (st25 (by omega) (bSO_le hn (h E rfl)))
set_option maxRecDepth 100000 in
theorem tk26 {E : zE} (hE : E.1 ≤ 4000) {B n : Nat} (h : ∀ E9 : zE, E9.1 = E.1 → bSO E9 ctb B (n, smT)) (hn : 7 ≤ n) : bMT E ctb (B + bXX) 27 sc26 := bMT_m (Nat.add_le_add_left (show 1000000 * (0 + 1) ≤ bXX by decide) B) (st26 (by omega) (bSO_le hn (h E rfl)))
set_option maxRecDepth 100000 in
theorem tk27 {E : zE} (hE : E.1 ≤ 4000) {B n : Nat} (h : ∀ E9 : zE, E9.1 = E.1 → bSO E9 ctb B (n, smT)) (hn : 7 ≤ n) : bMT E ctb (B + bXX) 28 sc27 := bMT_m (Nat.add_le_add_left (show 1000000 * (0 + 1) ≤ bXX by decide) B) (st27 (by omega) (bSO_le hn (h E rfl)))
set_option maxRecDepth 100000 in
theorem tk28 {E : zE} (hE : E.1 ≤ 4000) {B n : Nat} (h : ∀ E9 : zE, E9.1 = E.1 → bSO E9 ctb B (n, smT)) (hn : 2 ≤ n) : bMT E ctb (B + bXX) 29 sc28 := bMT_m (Nat.add_le_add_left (show 1000000 * (0 + 1) ≤ bXX by decide) B) (st28 (by omega) (bSO_le hn (h E rfl)))
set_option maxRecDepth 100000 in
theorem tk29 {E : zE} (hE : E.1 ≤ 4000) {B n : Nat} (h : ∀ E9 : zE, E9.1 = E.1 → bSO E9 ctb B (n, smT)) (hn : 2 ≤ n) : bMT E ctb (B + bXX) 30 sc29 := bMT_m (Nat.add_le_add_left (show 1000000 * (0 + 1) ≤ bXX by decide) B) (st29 (by omega) (bSO_le hn (h E rfl)))
set_option maxRecDepth 100000 in
theorem tk30 {E : zE} (hE : E.1 ≤ 4000) {B n : Nat} (h : ∀ E9 : zE, E9.1 = E.1 → bSO E9 ctb B (n, smT)) (hn : 2 ≤ n) : bMT E ctb (B + bXX) 31 sc30 := bMT_m (Nat.add_le_add_left (show 1000000 * (0 + 1) ≤ bXX by decide) B) (st30 (by omega) (bSO_le hn (h E rfl)))
set_option maxRecDepth 100000 in
theorem tk31 {E : zE} (hE : E.1 ≤ 4000) {B n : Nat} (h : ∀ E9 : zE, E9.1 = E.1 → bSO E9 ctb B (n, smT)) (hn : 3 ≤ n) : bMT E ctb (B + bXX) 32 sc31 := bMT_m (Nat.add_le_add_left (show 1000000 * (0 + 1) ≤ bXX by decide) B) (st31 (by omega) (bSO_le hn (h E rfl)))
set_option maxRecDepth 100000 in
theorem tk32 {E : zE} (hE : E.1 ≤ 4000) {B n : Nat} (h : ∀ E9 : zE, E9.1 = E.1 → bSO E9 ctb B (n, smT)) (hn : 2 ≤ n) : bMT E ctb (B + bXX) 33 sc32 := bMT_m (Nat.add_le_add_left (show 1000000 * (0 + 1) ≤ bXX by decide) B) (st32 (by omega) (bSO_le hn (h E rfl)))
set_option maxRecDepth 100000 in
theorem tk33 {E : zE} (hE : E.1 ≤ 4000) {B n : Nat} (h : ∀ E9 : zE, E9.1 = E.1 → bSO E9 ctb B (n, smT)) (hn : 4 ≤ n) : bMT E ctb (B + bXX) 34 sc33 := bMT_m (Nat.add_le_add_left (show 1000000 * (0 + 1) ≤ bXX by decide) B) (st33 (by omega) (bSO_le hn (h E rfl)))
set_option maxRecDepth 100000 in
theorem tk34 {E : zE} (hE : E.1 ≤ 4000) {B n : Nat} (h : ∀ E9 : zE, E9.1 = E.1 → bSO E9 ctb B (n, smT)) (hn : 4 ≤ n) : bMT E ctb (B + bXX) 35 sc34 := bMT_m (Nat.add_le_add_left (show 1000000 * (0 + 1) ≤ bXX by decide) B) (st34 (by omega) (bSO_le hn (h E rfl)))
set_option maxRecDepth 100000 in
theorem tk35 {E : zE} (hE : E.1 ≤ 4000) {B n : Nat} (h : ∀ E9 : zE, E9.1 = E.1 → bSO E9 ctb B (n, smT)) (hn : 3 ≤ n) : bMT E ctb (B + bXX) 36 sc35 := bMT_m (Nat.add_le_add_left (show 1000000 * (0 + 1) ≤ bXX by decide) B) (st35 (by omega) (bSO_le hn (h E rfl)))
set_option maxRecDepth 100000 in
theorem tk36 {E : zE} (hE : E.1 ≤ 4000) {B n : Nat} (h : ∀ E9 : zE, E9.1 = E.1 → bSO E9 ctb B (n, smT)) (hn : 4 ≤ n) : bMT E ctb (B + bXX) 37 sc36 := bMT_m (Nat.add_le_add_left (show 1000000 * (0 + 1) ≤ bXX by decide) B) (st36 (by omega) (bSO_le hn (h E rfl)))
set_option maxRecDepth 100000 in
theorem tk37 {E : zE} (hE : E.1 ≤ 4000) {B n : Nat} (h : ∀ E9 : zE, E9.1 = E.1 → bSO E9 ctb B (n, smT)) (hn : 0 ≤ n) : bMT E ctb (B + bXX) 43 sc37 := bMT_m (Nat.add_le_add_left (show 1000000 * (0 + 1) ≤ bXX by decide) B) (st37 (by omega) (bSO_le hn (h E rfl)))
set_option maxRecDepth 100000 in
theorem tk38 {E : zE} (hE : E.1 ≤ 4000) {B n : Nat} (h : ∀ E9 : zE, E9.1 = E.1 → bSO E9 ctb B (n, smT)) (hn : 5 ≤ n) : bMT E ctb (B + bXX) 64 sc38 := bMT_m (Nat.add_le_add_left (show 1000000 * (0 + 1) ≤ bXX by decide) B) (st38 (by omega) (bSO_le hn (h E rfl)))
set_option maxRecDepth 100000 in
theorem tk39 {E : zE} (hE : E.1 ≤ 4000) {B n : Nat} (h : ∀ E9 : zE, E9.1 = E.1 → bSO E9 ctb B (n, smT)) (hn : 1 ≤ n) : bMT E ctb (B + bXX) 74 sc39 := bMT_m (Nat.add_le_add_left (show 1000000 * (0 + 1) ≤ bXX by decide) B) (st39 (by omega) (bSO_le hn (h E rfl)))
set_option maxRecDepth 100000 in
theorem tk40 {E : zE} (hE : E.1 ≤ 4000) {B n : Nat} (h : ∀ E9 : zE, E9.1 = E.1 → bSO E9 ctb B (n, smT)) (hn : 3 ≤ n) : bMT E ctb (B + bXX) 79 sc40 := bMT_m (Nat.add_le_add_left (show 1000000 * (14 + 1) ≤ bXX by decide) B) (st40 (by omega) (bSO_le hn (h E rfl)))
set_option maxRecDepth 100000 in
theorem tk41 {E : zE} (hE : E.1 ≤ 4000) {B n : Nat} (h : ∀ E9 : zE, E9.1 = E.1 → bSO E9 ctb B (n, smT)) (hn : 0 ≤ n) : bMT E ctb (B + bXX) 82 sc41 := bMT_m (Nat.add_le_add_left (show 1000000 * (0 + 1) ≤ bXX by decide) B) (st41 (by omega) (bSO_le hn (h E rfl)))
set_option maxRecDepth 100000 in
theorem tk42 {E : zE} (hE : E.1 ≤ 4000) {B n : Nat} (h : ∀ E9 : zE, E9.1 = E.1 → bSO E9 ctb B (n, smT)) (hn : 4 ≤ n) : bMT E ctb (B + bXX) 83 sc42 := bMT_m (Nat.add_le_add_left (show 1000000 * (0 + 1) ≤ bXX by decide) B) (st42 (by omega) (bSO_le hn (h E rfl)))
set_option maxRecDepth 100000 in
theorem tk43 {E : zE} (hE : E.1 ≤ 4000) {B n : Nat} (h : ∀ E9 : zE, E9.1 = E.1 → bSO E9 ctb B (n, smT)) (hn : 2 ≤ n) : bMT E ctb (B + bXX) 84 sc43 := bMT_m (Nat.add_le_add_left (show 1000000 * (0 + 1) ≤ bXX by decide) B) (st43 (by omega) (bSO_le hn (h E rfl)))
set_option maxRecDepth 100000 in
theorem tk44 {E : zE} (hE : E.1 ≤ 4000) {B n : Nat} (h : ∀ E9 : zE, E9.1 = E.1 → bSO E9 ctb B (n, smT)) (hn : 2 ≤ n) : bMT E ctb (B + bXX) 85 sc44 := bMT_m (Nat.add_le_add_left (show 1000000 * (0 + 1) ≤ bXX by decide) B) (st44 (by omega) (bSO_le hn (h E rfl)))
set_option maxRecDepth 100000 in
theorem tk45 {E : zE} (hE : E.1 ≤ 4000) {B n : Nat} (h : ∀ E9 : zE, E9.1 = E.1 → bSO E9 ctb B (n, smT)) (hn : 2 ≤ n) : bMT E ctb (B + bXX) 86 sc45 := bMT_m (Nat.add_le_add_left (show 1000000 * (0 + 1) ≤ bXX by decide) B) (st45 (by omega) (bSO_le hn (h E rfl)))
set_option maxRecDepth 100000 in
theorem tk46 {E : zE} (hE : E.1 ≤ 4000) {B n : Nat} (h : ∀ E9 : zE, E9.1 = E.1 → bSO E9 ctb B (n, smT)) (hn : 0 ≤ n) : bMT E ctb (B + bXX) 92 sc46 := bMT_m (Nat.add_le_add_left (show 1000000 * (98 + 1) ≤ bXX by decide) B) (st46 (by omega) (bSO_le hn (h E rfl)))
set_option maxRecDepth 100000 in
theorem tk47 {E : zE} (hE : E.1 ≤ 4000) {B n : Nat} (h : ∀ E9 : zE, E9.1 = E.1 → bSO E9 ctb B (n, smT)) (hn : 0 ≤ n) : bMT E ctb (B + bXX) 92 sc47 := bMT_m (Nat.add_le_add_left (show 1000000 * (98 + 1) ≤ bXX by decide) B) (st47 (by omega) (bSO_le hn (h E rfl)))
set_option maxRecDepth 100000 in
theorem tk48 {E : zE} (hE : E.1 ≤ 4000) {B n : Nat} (h : ∀ E9 : zE, E9.1 = E.1 → bSO E9 ctb B (n, smT)) (hn : 0 ≤ n) : bMT E ctb (B + bXX) 93 sc48 := bMT_m (Nat.add_le_add_left (show 1000000 * (66 + 1) ≤ bXX by decide) B) (st48 (by omega) (bSO_le hn (h E rfl)))
set_option maxRecDepth 100000 in
theorem tk49 {E : zE} (hE : E.1 ≤ 4000) {B n : Nat} (h : ∀ E9 : zE, E9.1 = E.1 → bSO E9 ctb B (n, smT)) (hn : 0 ≤ n) : bMT E ctb (B + bXX) 93 sc49 := bMT_m (Nat.add_le_add_left (show 1000000 * (66 + 1) ≤ bXX by decide) B) (st49 (by omega) (bSO_le hn (h E rfl)))
set_option maxRecDepth 100000 in
theorem tk50 {E : zE} (hE : E.1 ≤ 4000) {B n : Nat} (h : ∀ E9 : zE, E9.1 = E.1 → bSO E9 ctb B (n, smT)) (hn : 0 ≤ n) : bMT E ctb (B + bXX) 93 sc50 := bMT_m (Nat.add_le_add_left (show 1000000 * (66 + 1) ≤ bXX by decide) B) (st50 (by omega) (bSO_le hn (h E rfl)))
set_option maxRecDepth 100000 in
theorem tk51 {E : zE} (hE : E.1 ≤ 4000) {B n : Nat} (h : ∀ E9 : zE, E9.1 = E.1 → bSO E9 ctb B (n, smT)) (hn : 1 ≤ n) : bMT E ctb (B + bXX) 94 sc51 := bMT_m (Nat.add_le_add_left (show 1000000 * (14 + 1) ≤ bXX by decide) B) (st51 (by omega) (bSO_le hn (h E rfl)))
set_option maxRecDepth 100000 in
theorem tk52 {E : zE} (hE : E.1 ≤ 4000) {B n : Nat} (h : ∀ E9 : zE, E9.1 = E.1 → bSO E9 ctb B (n, smT)) (hn : 1 ≤ n) : bMT E ctb (B + bXX) 95 sc52 := bMT_m (Nat.add_le_add_left (show 1000000 * (10 + 1) ≤ bXX by decide) B) (st52 (by omega) (bSO_le hn (h E rfl)))
set_option maxRecDepth 100000 in
theorem tk53 {E : zE} (hE : E.1 ≤ 4000) {B n : Nat} (h : ∀ E9 : zE, E9.1 = E.1 → bSO E9 ctb B (n, smT)) (hn : 1 ≤ n) : bMT E ctb (B + bXX) 95 sc53 := bMT_m (Nat.add_le_add_left (show 1000000 * (10 + 1) ≤ bXX by decide) B) (st53 (by omega) (bSO_le hn (h E rfl)))
set_option maxRecDepth 100000 in
theorem tk54 {E : zE} (hE : E.1 ≤ 4000) {B n : Nat} (h : ∀ E9 : zE, E9.1 = E.1 → bSO E9 ctb B (n, smT)) (hn : 1 ≤ n) : bMT E ctb (B + bXX) 100 sc54 := bMT_m (Nat.add_le_add_left (show 1000000 * (10 + 1) ≤ bXX by decide) B) (st54 (by omega) (bSO_le hn (h E rfl)))
set_option maxRecDepth 100000 in
theorem tk55 {E : zE} (hE : E.1 ≤ 4000) {B n : Nat} (h : ∀ E9 : zE, E9.1 = E.1 → bSO E9 ctb B (n, smT)) (hn : 1 ≤ n) : bMT E ctb (B + bXX) 100 sc55 := bMT_m (Nat.add_le_add_left (show 1000000 * (10 + 1) ≤ bXX by decide) B) (st55 (by omega) (bSO_le hn (h E rfl)))
set_option maxRecDepth 100000 in
theorem tk56 {E : zE} (hE : E.1 ≤ 4000) {B n : Nat} (h : ∀ E9 : zE, E9.1 = E.1 → bSO E9 ctb B (n, smT)) (hn : 1 ≤ n) : bMT E ctb (B + bXX) 102 sc56 := bMT_m (Nat.add_le_add_left (show 1000000 * (10 + 1) ≤ bXX by decide) B) (st56 (by omega) (bSO_le hn (h E rfl)))
set_option maxRecDepth 100000 in
theorem tk57 {E : zE} (hE : E.1 ≤ 4000) {B n : Nat} (h : ∀ E9 : zE, E9.1 = E.1 → bSO E9 ctb B (n, smT)) (hn : 1 ≤ n) : bMT E ctb (B + bXX) 102 sc57 := bMT_m (Nat.add_le_add_left (show 1000000 * (10 + 1) ≤ bXX by decide) B) (st57 (by omega) (bSO_le hn (h E rfl)))
set_option maxRecDepth 100000 in
theorem tk58 {E : zE} (hE : E.1 ≤ 4000) {B n : Nat} (h : ∀ E9 : zE, E9.1 = E.1 → bSO E9 ctb B (n, smT)) (hn : 1 ≤ n) : bMT E ctb (B + bXX) 103 sc58 := bMT_m (Nat.add_le_add_left (show 1000000 * (10 + 1) ≤ bXX by decide) B) (st58 (by omega) (bSO_le hn (h E rfl)))
set_option maxRecDepth 100000 in
theorem tk59 {E : zE} (hE : E.1 ≤ 4000) {B n : Nat} (h : ∀ E9 : zE, E9.1 = E.1 → bSO E9 ctb B (n, smT)) (hn : 1 ≤ n) : bMT E ctb (B + bXX) 103 sc59 := bMT_m (Nat.add_le_add_left (show 1000000 * (10 + 1) ≤ bXX by decide) B) (st59 (by omega) (bSO_le hn (h E rfl)))
set_option maxRecDepth 100000 in
theorem tk60 {E : zE} (hE : E.1 ≤ 4000) {B n : Nat} (h : ∀ E9 : zE, E9.1 = E.1 → bSO E9 ctb B (n, smT)) (hn : 1 ≤ n) : bMT E ctb (B + bXX) 104 sc60 := bMT_m (Nat.add_le_add_left (show 1000000 * (19 + 1) ≤ bXX by decide) B) (st60 (by omega) (bSO_le hn (h E rfl)))
set_option maxRecDepth 100000 in
theorem tk61 {E : zE} (hE : E.1 ≤ 4000) {B n : Nat} (h : ∀ E9 : zE, E9.1 = E.1 → bSO E9 ctb B (n, smT)) (hn : 1 ≤ n) : bMT E ctb (B + bXX) 104 sc61 := bMT_m (Nat.add_le_add_left (show 1000000 * (19 + 1) ≤ bXX by decide) B) (st61 (by omega) (bSO_le hn (h E rfl)))
set_option maxRecDepth 100000 in
theorem tk62 {E : zE} (hE : E.1 ≤ 4000) {B n : Nat} (h : ∀ E9 : zE, E9.1 = E.1 → bSO E9 ctb B (n, smT)) (hn : 0 ≤ n) : bMT E ctb (B + bXX) 105 sc62 := bMT_m (Nat.add_le_add_left (show 1000000 * (10 + 1) ≤ bXX by decide) B) (st62 (by omega) (bSO_le hn (h E rfl)))
set_option maxRecDepth 100000 in
theorem tk63 {E : zE} (hE : E.1 ≤ 4000) {B n : Nat} (h : ∀ E9 : zE, E9.1 = E.1 → bSO E9 ctb B (n, smT)) (hn : 0 ≤ n) : bMT E ctb (B + bXX) 105 sc63 := bMT_m (Nat.add_le_add_left (show 1000000 * (10 + 1) ≤ bXX by decide) B) (st63 (by omega) (bSO_le hn (h E rfl)))
set_option maxRecDepth 100000 in
theorem tk64 {E : zE} (hE : E.1 ≤ 4000) {B n : Nat} (h : ∀ E9 : zE, E9.1 = E.1 → bSO E9 ctb B (n, smT)) (hn : 0 ≤ n) : bMT E ctb (B + bXX) 106 sc64 := bMT_m (Nat.add_le_add_left (show 1000000 * (10 + 1) ≤ bXX by decide) B) (st64 (by omega) (bSO_le hn (h E rfl)))
set_option maxRecDepth 100000 in
theorem tk65 {E : zE} (hE : E.1 ≤ 4000) {B n : Nat} (h : ∀ E9 : zE, E9.1 = E.1 → bSO E9 ctb B (n, smT)) (hn : 2 ≤ n) : bMT E ctb (B + bXX) 111 sc65 := bMT_m (Nat.add_le_add_left (show 1000000 * (82 + 1) ≤ bXX by decide) B) (st65 (by omega) (bSO_le hn (h E rfl)))
set_option maxRecDepth 100000 in
theorem tk66 {E : zE} (hE : E.1 ≤ 4000) {B n : Nat} (h : ∀ E9 : zE, E9.1 = E.1 → bSO E9 ctb B (n, smT)) (hn : 2 ≤ n) : bMT E ctb (B + bXX) 112 sc66 := bMT_m (Nat.add_le_add_left (show 1000000 * (82 + 1) ≤ bXX by decide) B) (st66 (by omega) (bSO_le hn (h E rfl)))
set_option maxRecDepth 100000 in
theorem tk67 {E : zE} (hE : E.1 ≤ 4000) {B n : Nat} (h : ∀ E9 : zE, E9.1 = E.1 → bSO E9 ctb B (n, smT)) (hn : 1 ≤ n) : bMT E ctb (B + bXX) 114 sc67 := bMT_m (Nat.add_le_add_left (show 1000000 * (7 + 1) ≤ bXX by decide) B) (st67 (by omega) (bSO_le hn (h E rfl)))
set_option maxRecDepth 100000 in
theorem tk68 {E : zE} (hE : E.1 ≤ 4000) {B n : Nat} (h : ∀ E9 : zE, E9.1 = E.1 → bSO E9 ctb B (n, smT)) (hn : 1 ≤ n) : bMT E ctb (B + bXX) 114 sc68 := bMT_m (Nat.add_le_add_left (show 1000000 * (7 + 1) ≤ bXX by decide) B) (st68 (by omega) (bSO_le hn (h E rfl)))
set_option maxRecDepth 100000 in
theorem tk69 {E : zE} (hE : E.1 ≤ 4000) {B n : Nat} (h : ∀ E9 : zE, E9.1 = E.1 → bSO E9 ctb B (n, smT)) (hn : 3 ≤ n) : bMT E ctb (B + bXX) 117 sc69 := bMT_m (Nat.add_le_add_left (show 1000000 * (23 + 1) ≤ bXX by decide) B) (st69 (by omega) (bSO_le hn (h E rfl)))
set_option maxRecDepth 100000 in
theorem tk70 {E : zE} (hE : E.1 ≤ 4000) {B n : Nat} (h : ∀ E9 : zE, E9.1 = E.1 → bSO E9 ctb B (n, smT)) (hn : 3 ≤ n) : bMT E ctb (B + bXX) 117 sc70 := bMT_m (Nat.add_le_add_left (show 1000000 * (23 + 1) ≤ bXX by decide) B) (st70 (by omega) (bSO_le hn (h E rfl)))
set_option maxRecDepth 100000 in
theorem tk71 {E : zE} (hE : E.1 ≤ 4000) {B n : Nat} (h : ∀ E9 : zE, E9.1 = E.1 → bSO E9 ctb B (n, smT)) (hn : 4 ≤ n) : bMT E ctb (B + bXX) 120 sc71 := bMT_m (Nat.add_le_add_left (show 1000000 * (14 + 1) ≤ bXX by decide) B) (st71 (by omega) (bSO_le hn (h E rfl)))
set_option maxRecDepth 100000 in
theorem tk72 {E : zE} (hE : E.1 ≤ 4000) {B n : Nat} (h : ∀ E9 : zE, E9.1 = E.1 → bSO E9 ctb B (n, smT)) (hn : 1 ≤ n) : bMT E ctb (B + bXX) 121 sc72 := bMT_m (Nat.add_le_add_left (show 1000000 * (14 + 1) ≤ bXX by decide) B) (st72 (by omega) (bSO_le hn (h E rfl)))
set_option maxRecDepth 100000 in
theorem tk73 {E : zE} (hE : E.1 ≤ 4000) {B n : Nat} (h : ∀ E9 : zE, E9.1 = E.1 → bSO E9 ctb B (n, smT)) (hn : 1 ≤ n) : bMT E ctb (B + bXX) 122 sc73 := bMT_m (Nat.add_le_add_left (show 1000000 * (14 + 1) ≤ bXX by decide) B) (st73 (by omega) (bSO_le hn (h E rfl)))
set_option maxRecDepth 100000 in
theorem tk74 {E : zE} (hE : E.1 ≤ 4000) {B n : Nat} (h : ∀ E9 : zE, E9.1 = E.1 → bSO E9 ctb B (n, smT)) (hn : 1 ≤ n) : bMT E ctb (B + bXX) 122 sc74 := bMT_m (Nat.add_le_add_left (show 1000000 * (14 + 1) ≤ bXX by decide) B) (st74 (by omega) (bSO_le hn (h E rfl)))
set_option maxRecDepth 100000 in
theorem tk75 {E : zE} (hE : E.1 ≤ 4000) {B n : Nat} (h : ∀ E9 : zE, E9.1 = E.1 → bSO E9 ctb B (n, smT)) (hn : 0 ≤ n) : bMT E ctb (B + bXX) 123 sc75 := bMT_m (Nat.add_le_add_left (show 1000000 * (127 + 1) ≤ bXX by decide) B) (st75 (by omega) (bSO_le hn (h E rfl)))
set_option maxRecDepth 100000 in
theorem tk76 {E : zE} (hE : E.1 ≤ 4000) {B n : Nat} (h : ∀ E9 : zE, E9.1 = E.1 → bSO E9 ctb B (n, smT)) (hn : 1 ≤ n) : bMT E ctb (B + bXX) 124 sc76 := bMT_m (Nat.add_le_add_left (show 1000000 * (14 + 1) ≤ bXX by decide) B) (st76 (by omega) (bSO_le hn (h E rfl)))
set_option maxRecDepth 100000 in
theorem tk77 {E : zE} (hE : E.1 ≤ 4000) {B n : Nat} (h : ∀ E9 : zE, E9.1 = E.1 → bSO E9 ctb B (n, smT)) (hn : 2 ≤ n) : bMT E ctb (B + bXX) 126 sc77 := bMT_m (Nat.add_le_add_left (show 1000000 * (10 + 1) ≤ bXX by decide) B) (st77 (by omega) (bSO_le hn (h E rfl)))
set_option maxRecDepth 100000 in
theorem tk78 {E : zE} (hE : E.1 ≤ 4000) {B n : Nat} (h : ∀ E9 : zE, E9.1 = E.1 → bSO E9 ctb B (n, smT)) (hn : 2 ≤ n) : bMT E ctb (B + bXX) 127 sc78 := bMT_m (Nat.add_le_add_left (show 1000000 * (147 + 1) ≤ bXX by decide) B) (st78 (by omega) (bSO_le hn (h E rfl)))
set_option maxRecDepth 100000 in
theorem tk79 {E : zE} (hE : E.1 ≤ 4000) {B n : Nat} (h : ∀ E9 : zE, E9.1 = E.1 → bSO E9 ctb B (n, smT)) (hn : 5 ≤ n) : bMT E ctb (B + bXX) 129 sc79 := bMT_m (Nat.add_le_add_left (show 1000000 * (16 + 1) ≤ bXX by decide) B) (st79 (by omega) (bSO_le hn (h E rfl)))
set_option maxRecDepth 100000 in
theorem tk80 {E : zE} (hE : E.1 ≤ 4000) {B n : Nat} (h : ∀ E9 : zE, E9.1 = E.1 → bSO E9 ctb B (n, smT)) (hn : 1 ≤ n) : bMT E ctb (B + bXX) 131 sc80 := bMT_m (Nat.add_le_add_left (show 1000000 * (0 + 1) ≤ bXX by decide) B) (st80 (by omega) (bSO_le hn (h E rfl)))
set_option maxRecDepth 100000 in
theorem tk81 {E : zE} (hE : E.1 ≤ 4000) {B n : Nat} (h : ∀ E9 : zE, E9.1 = E.1 → bSO E9 ctb B (n, smT)) (hn : 1 ≤ n) : bMT E ctb (B + bXX) 131 sc81 := bMT_m (Nat.add_le_add_left (show 1000000 * (0 + 1) ≤ bXX by decide) B) (st81 (by omega) (bSO_le hn (h E rfl)))
set_option maxRecDepth 100000 in
theorem tk82 {E : zE} (hE : E.1 ≤ 4000) {B n : Nat} (h : ∀ E9 : zE, E9.1 = E.1 → bSO E9 ctb B (n, smT)) (hn : 4 ≤ n) : bMT E ctb (B + bXX) 131 sc82 := bMT_m (Nat.add_le_add_left (show 1000000 * (0 + 1) ≤ bXX by decide) B) (st82 (by omega) (bSO_le hn (h E rfl)))
set_option maxRecDepth 100000 in
theorem tk83 {E : zE} (hE : E.1 ≤ 4000) {B n : Nat} (h : ∀ E9 : zE, E9.1 = E.1 → bSO E9 ctb B (n, smT)) (hn : 1 ≤ n) : bMT E ctb (B + bXX) 131 sc83 := bMT_m (Nat.add_le_add_left (show 1000000 * (0 + 1) ≤ bXX by decide) B) (st83 (by omega) (bSO_le hn (h E rfl)))
set_option maxRecDepth 100000 in
theorem tk84 {E : zE} (hE : E.1 ≤ 4000) {B n : Nat} (h : ∀ E9 : zE, E9.1 = E.1 → bSO E9 ctb B (n, smT)) (hn : 1 ≤ n) : bMT E ctb (B + bXX) 131 sc84 := bMT_m (Nat.add_le_add_left (show 1000000 * (0 + 1) ≤ bXX by decide) B) (st84 (by omega) (bSO_le hn (h E rfl)))
set_option maxRecDepth 100000 in
theorem tk85 {E : zE} (hE : E.1 ≤ 4000) {B n : Nat} (h : ∀ E9 : zE, E9.1 = E.1 → bSO E9 ctb B (n, smT)) (hn : 3 ≤ n) : bMT E ctb (B + bXX) 137 sc85 := bMT_m (Nat.add_le_add_left (show 1000000 * (14 + 1) ≤ bXX by decide) B) (st85 (by omega) (bSO_le hn (h E rfl)))
set_option maxRecDepth 100000 in
theorem tk86 {E : zE} (hE : E.1 ≤ 4000) {B n : Nat} (h : ∀ E9 : zE, E9.1 = E.1 → bSO E9 ctb B (n, smT)) (hn : 1 ≤ n) : bMT E ctb (B + bXX) 153 sc86 := bMT_m (Nat.add_le_add_left (show 1000000 * (14 + 1) ≤ bXX by decide) B) (st86 (by omega) (bSO_le hn (h E rfl)))
set_option maxRecDepth 100000 in
theorem tk87 {E : zE} (hE : E.1 ≤ 4000) {B n : Nat} (h : ∀ E9 : zE, E9.1 = E.1 → bSO E9 ctb B (n, smT)) (hn : 0 ≤ n) : bMT E ctb (B + bXX) 155 sc87 := bMT_m (Nat.add_le_add_left (show 1000000 * (402 + 1) ≤ bXX by decide) B) (st87 (by omega) (bSO_le hn (h E rfl)))
set_option maxRecDepth 100000 in
theorem tk88 {E : zE} (hE : E.1 ≤ 4000) {B n : Nat} (h : ∀ E9 : zE, E9.1 = E.1 → bSO E9 ctb B (n, smT)) (hn : 23 ≤ n) : bMT E ctb (B + bXX) 157 sc88 := bMT_m (Nat.add_le_add_left (show 1000000 * (14 + 1) ≤ bXX by decide) B) (st88 (by omega) (bSO_le hn (h E rfl)))
set_option maxRecDepth 100000 in
theorem tk89 {E : zE} (hE : E.1 ≤ 4000) {B n : Nat} (h : ∀ E9 : zE, E9.1 = E.1 → bSO E9 ctb B (n, smT)) (hn : 1 ≤ n) : bMT E ctb (B + bXX) 159 sc89 := bMT_m (Nat.add_le_add_left (show 1000000 * (0 + 1) ≤ bXX by decide) B) (st89 (by omega) (bSO_le hn (h E rfl)))
set_option maxRecDepth 100000 in
theorem tk90 {E : zE} (hE : E.1 ≤ 4000) {B n : Nat} (h : ∀ E9 : zE, E9.1 = E.1 → bSO E9 ctb B (n, smT)) (hn : 1 ≤ n) : bMT E ctb (B + bXX) 159 sc90 := bMT_m (Nat.add_le_add_left (show 1000000 * (0 + 1) ≤ bXX by decide) B) (st90 (by omega) (bSO_le hn (h E rfl)))
set_option maxRecDepth 100000 in
theorem tk91 {E : zE} (hE : E.1 ≤ 4000) {B n : Nat} (h : ∀ E9 : zE, E9.1 = E.1 → bSO E9 ctb B (n, smT)) (hn : 22 ≤ n) : bMT E ctb (B + bXX) 159 sc91 := bMT_m (Nat.add_le_add_left (show 1000000 * (0 + 1) ≤ bXX by decide) B) (st91 (by omega) (bSO_le hn (h E rfl)))
set_option maxRecDepth 100000 in
theorem tk92 {E : zE} (hE : E.1 ≤ 4000) {B n : Nat} (h : ∀ E9 : zE, E9.1 = E.1 → bSO E9 ctb B (n, smT)) (hn : 1 ≤ n) : bMT E ctb (B + bXX) 159 sc92 := bMT_m (Nat.add_le_add_left (show 1000000 * (0 + 1) ≤ bXX by decide) B) (st92 (by omega) (bSO_le hn (h E rfl)))
set_option maxRecDepth 100000 in
theorem tk93 {E : zE} (hE : E.1 ≤ 4000) {B n : Nat} (h : ∀ E9 : zE, E9.1 = E.1 → bSO E9 ctb B (n, smT)) (hn : 1 ≤ n) : bMT E ctb (B + bXX) 159 sc93 := bMT_m (Nat.add_le_add_left (show 1000000 * (0 + 1) ≤ bXX by decide) B) (st93 (by omega) (bSO_le hn (h E rfl)))
set_option maxRecDepth 100000 in
theorem tk94 {E : zE} (hE : E.1 ≤ 4000) {B n : Nat} (h : ∀ E9 : zE, E9.1 = E.1 → bSO E9 ctb B (n, smT)) (hn : 3 ≤ n) : bMT E ctb (B + bXX) 160 sc94 := bMT_m (Nat.add_le_add_left (show 1000000 * (2 + 1) ≤ bXX by decide) B) (st94 (by omega) (bSO_le hn (h E rfl)))
set_option maxRecDepth 100000 in
theorem tk95 {E : zE} (hE : E.1 ≤ 4000) {B n : Nat} (h : ∀ E9 : zE, E9.1 = E.1 → bSO E9 ctb B (n, smT)) (hn : 3 ≤ n) : bMT E ctb (B + bXX) 160 sc95 := bMT_m (Nat.add_le_add_left (show 1000000 * (2 + 1) ≤ bXX by decide) B) (st95 (by omega) (bSO_le hn (h E rfl)))
set_option maxRecDepth 100000 in
theorem tk96 {E : zE} (hE : E.1 ≤ 4000) {B n : Nat} (h : ∀ E9 : zE, E9.1 = E.1 → bSO E9 ctb B (n, smT)) (hn : 21 ≤ n) : bMT E ctb (B + bXX) 160 sc96 := bMT_m (Nat.add_le_add_left (show 1000000 * (402 + 1) ≤ bXX by decide) B) (st96 (by omega) (bSO_le hn (h E rfl)))
set_option maxRecDepth 100000 in
theorem tk97 {E : zE} (hE : E.1 ≤ 4000) {B n : Nat} (h : ∀ E9 : zE, E9.1 = E.1 → bSO E9 ctb B (n, smT)) (hn : 21 ≤ n) : bMT E ctb (B + bXX) 160 sc97 := bMT_m (Nat.add_le_add_left (show 1000000 * (402 + 1) ≤ bXX by decide) B) (st97 (by omega) (bSO_le hn (h E rfl)))
set_option maxRecDepth 100000 in
theorem tk98 {E : zE} (hE : E.1 ≤ 4000) {B n : Nat} (h : ∀ E9 : zE, E9.1 = E.1 → bSO E9 ctb B (n, smT)) (hn : 21 ≤ n) : bMT E ctb (B + bXX) 160 sc98 := bMT_m (Nat.add_le_add_left (show 1000000 * (402 + 1) ≤ bXX by decide) B) (st98 (by omega) (bSO_le hn (h E rfl)))
set_option maxRecDepth 100000 in
theorem tk99 {E : zE} (hE : E.1 ≤ 4000) {B n : Nat} (h : ∀ E9 : zE, E9.1 = E.1 → bSO E9 ctb B (n, smT)) (hn : 3 ≤ n) : bMT E ctb (B + bXX) 160 sc99 := bMT_m (Nat.add_le_add_left (show 1000000 * (2 + 1) ≤ bXX by decide) B) (st99 (by omega) (bSO_le hn (h E rfl)))
set_option maxRecDepth 100000 in
theorem tk100 {E : zE} (hE : E.1 ≤ 4000) {B n : Nat} (h : ∀ E9 : zE, E9.1 = E.1 → bSO E9 ctb B (n, smT)) (hn : 3 ≤ n) : bMT E ctb (B + bXX) 160 sc100 := bMT_m (Nat.add_le_add_left (show 1000000 * (2 + 1) ≤ bXX by decide) B) (st100 (by omega) (bSO_le hn (h E rfl)))
set_option maxRecDepth 100000 in
theorem tk101 {E : zE} (hE : E.1 ≤ 4000) {B n : Nat} (h : ∀ E9 : zE, E9.1 = E.1 → bSO E9 ctb B (n, smT)) (hn : 18 ≤ n) : bMT E ctb (B + bXX) 160 sc101 := bMT_m (Nat.add_le_add_left (show 1000000 * (402 + 1) ≤ bXX by decide) B) (st101 (by omega) (bSO_le hn (h E rfl)))
set_option maxRecDepth 100000 in
theorem tk102 {E : zE} (hE : E.1 ≤ 4000) {B n : Nat} (h : ∀ E9 : zE, E9.1 = E.1 → bSO E9 ctb B (n, smT)) (hn : 18 ≤ n) : bMT E ctb (B + bXX) 160 sc102 := bMT_m (Nat.add_le_add_left (show 1000000 * (402 + 1) ≤ bXX by decide) B) (st102 (by omega) (bSO_le hn (h E rfl)))
set_option maxRecDepth 100000 in
theorem tk103 {E : zE} (hE : E.1 ≤ 4000) {B n : Nat} (h : ∀ E9 : zE, E9.1 = E.1 → bSO E9 ctb B (n, smT)) (hn : 18 ≤ n) : bMT E ctb (B + bXX) 160 sc103 := bMT_m (Nat.add_le_add_left (show 1000000 * (402 + 1) ≤ bXX by decide) B) (st103 (by omega) (bSO_le hn (h E rfl)))
set_option maxRecDepth 100000 in
theorem tk104 {E : zE} (hE : E.1 ≤ 4000) {B n : Nat} (h : ∀ E9 : zE, E9.1 = E.1 → bSO E9 ctb B (n, smT)) (hn : 3 ≤ n) : bMT E ctb (B + bXX) 160 sc104 := bMT_m (Nat.add_le_add_left (show 1000000 * (2 + 1) ≤ bXX by decide) B) (st104 (by omega) (bSO_le hn (h E rfl)))
set_option maxRecDepth 100000 in
theorem tk105 {E : zE} (hE : E.1 ≤ 4000) {B n : Nat} (h : ∀ E9 : zE, E9.1 = E.1 → bSO E9 ctb B (n, smT)) (hn : 3 ≤ n) : bMT E ctb (B + bXX) 160 sc105 := bMT_m (Nat.add_le_add_left (show 1000000 * (2 + 1) ≤ bXX by decide) B) (st105 (by omega) (bSO_le hn (h E rfl)))
set_option maxRecDepth 100000 in
theorem tk106 {E : zE} (hE : E.1 ≤ 4000) {B n : Nat} (h : ∀ E9 : zE, E9.1 = E.1 → bSO E9 ctb B (n, smT)) (hn : 15 ≤ n) : bMT E ctb (B + bXX) 160 sc106 := bMT_m (Nat.add_le_add_left (show 1000000 * (402 + 1) ≤ bXX by decide) B) (st106 (by omega) (bSO_le hn (h E rfl)))
set_option maxRecDepth 100000 in
theorem tk107 {E : zE} (hE : E.1 ≤ 4000) {B n : Nat} (h : ∀ E9 : zE, E9.1 = E.1 → bSO E9 ctb B (n, smT)) (hn : 15 ≤ n) : bMT E ctb (B + bXX) 160 sc107 := bMT_m (Nat.add_le_add_left (show 1000000 * (402 + 1) ≤ bXX by decide) B) (st107 (by omega) (bSO_le hn (h E rfl)))
set_option maxRecDepth 100000 in
theorem tk108 {E : zE} (hE : E.1 ≤ 4000) {B n : Nat} (h : ∀ E9 : zE, E9.1 = E.1 → bSO E9 ctb B (n, smT)) (hn : 15 ≤ n) : bMT E ctb (B + bXX) 160 sc108 := bMT_m (Nat.add_le_add_left (show 1000000 * (402 + 1) ≤ bXX by decide) B) (st108 (by omega) (bSO_le hn (h E rfl)))
set_option maxRecDepth 100000 in
theorem tk109 {E : zE} (hE : E.1 ≤ 4000) {B n : Nat} (h : ∀ E9 : zE, E9.1 = E.1 → bSO E9 ctb B (n, smT)) (hn : 3 ≤ n) : bMT E ctb (B + bXX) 160 sc109 := bMT_m (Nat.add_le_add_left (show 1000000 * (2 + 1) ≤ bXX by decide) B) (st109 (by omega) (bSO_le hn (h E rfl)))
set_option maxRecDepth 100000 in
theorem tk110 {E : zE} (hE : E.1 ≤ 4000) {B n : Nat} (h : ∀ E9 : zE, E9.1 = E.1 → bSO E9 ctb B (n, smT)) (hn : 3 ≤ n) : bMT E ctb (B + bXX) 160 sc110 := bMT_m (Nat.add_le_add_left (show 1000000 * (2 + 1) ≤ bXX by decide) B) (st110 (by omega) (bSO_le hn (h E rfl)))
set_option maxRecDepth 100000 in
theorem tk111 {E : zE} (hE : E.1 ≤ 4000) {B n : Nat} (h : ∀ E9 : zE, E9.1 = E.1 → bSO E9 ctb B (n, smT)) (hn : 12 ≤ n) : bMT E ctb (B + bXX) 160 sc111 := bMT_m (Nat.add_le_add_left (show 1000000 * (402 + 1) ≤ bXX by decide) B) (st111 (by omega) (bSO_le hn (h E rfl)))
set_option maxRecDepth 100000 in
theorem tk112 {E : zE} (hE : E.1 ≤ 4000) {B n : Nat} (h : ∀ E9 : zE, E9.1 = E.1 → bSO E9 ctb B (n, smT)) (hn : 12 ≤ n) : bMT E ctb (B + bXX) 160 sc112 := bMT_m (Nat.add_le_add_left (show 1000000 * (402 + 1) ≤ bXX by decide) B) (st112 (by omega) (bSO_le hn (h E rfl)))
set_option maxRecDepth 100000 in
theorem tk113 {E : zE} (hE : E.1 ≤ 4000) {B n : Nat} (h : ∀ E9 : zE, E9.1 = E.1 → bSO E9 ctb B (n, smT)) (hn : 12 ≤ n) : bMT E ctb (B + bXX) 160 sc113 := bMT_m (Nat.add_le_add_left (show 1000000 * (402 + 1) ≤ bXX by decide) B) (st113 (by omega) (bSO_le hn (h E rfl)))
set_option maxRecDepth 100000 in
theorem tk114 {E : zE} (hE : E.1 ≤ 4000) {B n : Nat} (h : ∀ E9 : zE, E9.1 = E.1 → bSO E9 ctb B (n, smT)) (hn : 3 ≤ n) : bMT E ctb (B + bXX) 160 sc114 := bMT_m (Nat.add_le_add_left (show 1000000 * (2 + 1) ≤ bXX by decide) B) (st114 (by omega) (bSO_le hn (h E rfl)))
set_option maxRecDepth 100000 in
theorem tk115 {E : zE} (hE : E.1 ≤ 4000) {B n : Nat} (h : ∀ E9 : zE, E9.1 = E.1 → bSO E9 ctb B (n, smT)) (hn : 3 ≤ n) : bMT E ctb (B + bXX) 160 sc115 := bMT_m (Nat.add_le_add_left (show 1000000 * (2 + 1) ≤ bXX by decide) B) (st115 (by omega) (bSO_le hn (h E rfl)))
set_option maxRecDepth 100000 in
theorem tk116 {E : zE} (hE : E.1 ≤ 4000) {B n : Nat} (h : ∀ E9 : zE, E9.1 = E.1 → bSO E9 ctb B (n, smT)) (hn : 9 ≤ n) : bMT E ctb (B + bXX) 160 sc116 := bMT_m (Nat.add_le_add_left (show 1000000 * (402 + 1) ≤ bXX by decide) B) (st116 (by omega) (bSO_le hn (h E rfl)))
set_option maxRecDepth 100000 in
theorem tk117 {E : zE} (hE : E.1 ≤ 4000) {B n : Nat} (h : ∀ E9 : zE, E9.1 = E.1 → bSO E9 ctb B (n, smT)) (hn : 9 ≤ n) : bMT E ctb (B + bXX) 160 sc117 := bMT_m (Nat.add_le_add_left (show 1000000 * (402 + 1) ≤ bXX by decide) B) (st117 (by omega) (bSO_le hn (h E rfl)))
set_option maxRecDepth 100000 in
theorem tk118 {E : zE} (hE : E.1 ≤ 4000) {B n : Nat} (h : ∀ E9 : zE, E9.1 = E.1 → bSO E9 ctb B (n, smT)) (hn : 9 ≤ n) : bMT E ctb (B + bXX) 160 sc118 := bMT_m (Nat.add_le_add_left (show 1000000 * (402 + 1) ≤ bXX by decide) B) (st118 (by omega) (bSO_le hn (h E rfl)))
set_option maxRecDepth 100000 in
theorem tk119 {E : zE} (hE : E.1 ≤ 4000) {B n : Nat} (h : ∀ E9 : zE, E9.1 = E.1 → bSO E9 ctb B (n, smT)) (hn : 3 ≤ n) : bMT E ctb (B + bXX) 160 sc119 := bMT_m (Nat.add_le_add_left (show 1000000 * (2 + 1) ≤ bXX by decide) B) (st119 (by omega) (bSO_le hn (h E rfl)))
set_option maxRecDepth 100000 in
theorem tk120 {E : zE} (hE : E.1 ≤ 4000) {B n : Nat} (h : ∀ E9 : zE, E9.1 = E.1 → bSO E9 ctb B (n, smT)) (hn : 3 ≤ n) : bMT E ctb (B + bXX) 160 sc120 := bMT_m (Nat.add_le_add_left (show 1000000 * (2 + 1) ≤ bXX by decide) B) (st120 (by omega) (bSO_le hn (h E rfl)))
set_option maxRecDepth 100000 in
theorem tk121 {E : zE} (hE : E.1 ≤ 4000) {B n : Nat} (h : ∀ E9 : zE, E9.1 = E.1 → bSO E9 ctb B (n, smT)) (hn : 6 ≤ n) : bMT E ctb (B + bXX) 160 sc121 := bMT_m (Nat.add_le_add_left (show 1000000 * (402 + 1) ≤ bXX by decide) B) (st121 (by omega) (bSO_le hn (h E rfl)))
set_option maxRecDepth 100000 in
theorem tk122 {E : zE} (hE : E.1 ≤ 4000) {B n : Nat} (h : ∀ E9 : zE, E9.1 = E.1 → bSO E9 ctb B (n, smT)) (hn : 6 ≤ n) : bMT E ctb (B + bXX) 160 sc122 := bMT_m (Nat.add_le_add_left (show 1000000 * (402 + 1) ≤ bXX by decide) B) (st122 (by omega) (bSO_le hn (h E rfl)))
set_option maxRecDepth 100000 in
theorem tk123 {E : zE} (hE : E.1 ≤ 4000) {B n : Nat} (h : ∀ E9 : zE, E9.1 = E.1 → bSO E9 ctb B (n, smT)) (hn : 6 ≤ n) : bMT E ctb (B + bXX) 160 sc123 := bMT_m (Nat.add_le_add_left (show 1000000 * (402 + 1) ≤ bXX by decide) B) (st123 (by omega) (bSO_le hn (h E rfl)))
set_option maxRecDepth 100000 in
theorem tk124 {E : zE} (hE : E.1 ≤ 4000) {B n : Nat} (h : ∀ E9 : zE, E9.1 = E.1 → bSO E9 ctb B (n, smT)) (hn : 3 ≤ n) : bMT E ctb (B + bXX) 160 sc124 := bMT_m (Nat.add_le_add_left (show 1000000 * (2 + 1) ≤ bXX by decide) B) (st124 (by omega) (bSO_le hn (h E rfl)))
set_option maxRecDepth 100000 in
theorem tk125 {E : zE} (hE : E.1 ≤ 4000) {B n : Nat} (h : ∀ E9 : zE, E9.1 = E.1 → bSO E9 ctb B (n, smT)) (hn : 3 ≤ n) : bMT E ctb (B + bXX) 160 sc125 := bMT_m (Nat.add_le_add_left (show 1000000 * (2 + 1) ≤ bXX by decide) B) (st125 (by omega) (bSO_le hn (h E rfl)))
set_option maxRecDepth 100000 in
theorem tk126 {E : zE} (hE : E.1 ≤ 4000) {B n : Nat} (h : ∀ E9 : zE, E9.1 = E.1 → bSO E9 ctb B (n, smT)) (hn : 3 ≤ n) : bMT E ctb (B + bXX) 160 sc126 := bMT_m (Nat.add_le_add_left (show 1000000 * (402 + 1) ≤ bXX by decide) B) (st126 (by omega) (bSO_le hn (h E rfl)))
set_option maxRecDepth 100000 in
theorem tk127 {E : zE} (hE : E.1 ≤ 4000) {B n : Nat} (h : ∀ E9 : zE, E9.1 = E.1 → bSO E9 ctb B (n, smT)) (hn : 3 ≤ n) : bMT E ctb (B + bXX) 160 sc127 := bMT_m (Nat.add_le_add_left (show 1000000 * (402 + 1) ≤ bXX by decide) B) (st127 (by omega) (bSO_le hn (h E rfl)))
set_option maxRecDepth 100000 in
theorem tk128 {E : zE} (hE : E.1 ≤ 4000) {B n : Nat} (h : ∀ E9 : zE, E9.1 = E.1 → bSO E9 ctb B (n, smT)) (hn : 3 ≤ n) : bMT E ctb (B + bXX) 160 sc128 := bMT_m (Nat.add_le_add_left (show 1000000 * (2 + 1) ≤ bXX by decide) B) (st128 (by omega) (bSO_le hn (h E rfl)))
set_option maxRecDepth 100000 in
theorem tk129 {E : zE} (hE : E.1 ≤ 4000) {B n : Nat} (h : ∀ E9 : zE, E9.1 = E.1 → bSO E9 ctb B (n, smT)) (hn : 2 ≤ n) : bMT E ctb (B + bXX) 161 sc129 := bMT_m (Nat.add_le_add_left (show 1000000 * (0 + 1) ≤ bXX by decide) B) (st129 (by omega) (bSO_le hn (h E rfl)))
set_option maxRecDepth 100000 in
theorem tk130 {E : zE} (hE : E.1 ≤ 4000) {B n : Nat} (h : ∀ E9 : zE, E9.1 = E.1 → bSO E9 ctb B (n, smT)) (hn : 2 ≤ n) : bMT E ctb (B + bXX) 161 sc130 := bMT_m (Nat.add_le_add_left (show 1000000 * (0 + 1) ≤ bXX by decide) B) (st130 (by omega) (bSO_le hn (h E rfl)))
set_option maxRecDepth 100000 in
theorem tk131 {E : zE} (hE : E.1 ≤ 4000) {B n : Nat} (h : ∀ E9 : zE, E9.1 = E.1 → bSO E9 ctb B (n, smT)) (hn : 2 ≤ n) : bMT E ctb (B + bXX) 161 sc131 := bMT_m (Nat.add_le_add_left (show 1000000 * (0 + 1) ≤ bXX by decide) B) (st131 (by omega) (bSO_le hn (h E rfl)))
set_option maxRecDepth 100000 in
theorem tk132 {E : zE} (hE : E.1 ≤ 4000) {B n : Nat} (h : ∀ E9 : zE, E9.1 = E.1 → bSO E9 ctb B (n, smT)) (hn : 19 ≤ n) : bMT E ctb (B + bXX) 161 sc132 := bMT_m (Nat.add_le_add_left (show 1000000 * (0 + 1) ≤ bXX by decide) B) (st132 (by omega) (bSO_le hn (h E rfl)))
set_option maxRecDepth 100000 in
theorem tk133 {E : zE} (hE : E.1 ≤ 4000) {B n : Nat} (h : ∀ E9 : zE, E9.1 = E.1 → bSO E9 ctb B (n, smT)) (hn : 20 ≤ n) : bMT E ctb (B + bXX) 161 sc133 := bMT_m (Nat.add_le_add_left (show 1000000 * (0 + 1) ≤ bXX by decide) B) (st133 (by omega) (bSO_le hn (h E rfl)))
set_option maxRecDepth 100000 in
theorem tk134 {E : zE} (hE : E.1 ≤ 4000) {B n : Nat} (h : ∀ E9 : zE, E9.1 = E.1 → bSO E9 ctb B (n, smT)) (hn : 2 ≤ n) : bMT E ctb (B + bXX) 161 sc134 := bMT_m (Nat.add_le_add_left (show 1000000 * (0 + 1) ≤ bXX by decide) B) (st134 (by omega) (bSO_le hn (h E rfl)))
set_option maxRecDepth 100000 in
theorem tk135 {E : zE} (hE : E.1 ≤ 4000) {B n : Nat} (h : ∀ E9 : zE, E9.1 = E.1 → bSO E9 ctb B (n, smT)) (hn : 2 ≤ n) : bMT E ctb (B + bXX) 161 sc135 := bMT_m (Nat.add_le_add_left (show 1000000 * (0 + 1) ≤ bXX by decide) B) (st135 (by omega) (bSO_le hn (h E rfl)))
set_option maxRecDepth 100000 in
theorem tk136 {E : zE} (hE : E.1 ≤ 4000) {B n : Nat} (h : ∀ E9 : zE, E9.1 = E.1 → bSO E9 ctb B (n, smT)) (hn : 2 ≤ n) : bMT E ctb (B + bXX) 161 sc136 := bMT_m (Nat.add_le_add_left (show 1000000 * (0 + 1) ≤ bXX by decide) B) (st136 (by omega) (bSO_le hn (h E rfl)))
set_option maxRecDepth 100000 in
theorem tk137 {E : zE} (hE : E.1 ≤ 4000) {B n : Nat} (h : ∀ E9 : zE, E9.1 = E.1 → bSO E9 ctb B (n, smT)) (hn : 16 ≤ n) : bMT E ctb (B + bXX) 161 sc137 := bMT_m (Nat.add_le_add_left (show 1000000 * (0 + 1) ≤ bXX by decide) B) (st137 (by omega) (bSO_le hn (h E rfl)))
set_option maxRecDepth 100000 in
theorem tk138 {E : zE} (hE : E.1 ≤ 4000) {B n : Nat} (h : ∀ E9 : zE, E9.1 = E.1 → bSO E9 ctb B (n, smT)) (hn : 17 ≤ n) : bMT E ctb (B + bXX) 161 sc138 := bMT_m (Nat.add_le_add_left (show 1000000 * (0 + 1) ≤ bXX by decide) B) (st138 (by omega) (bSO_le hn (h E rfl)))
set_option maxRecDepth 100000 in
theorem tk139 {E : zE} (hE : E.1 ≤ 4000) {B n : Nat} (h : ∀ E9 : zE, E9.1 = E.1 → bSO E9 ctb B (n, smT)) (hn : 2 ≤ n) : bMT E ctb (B + bXX) 161 sc139 := bMT_m (Nat.add_le_add_left (show 1000000 * (0 + 1) ≤ bXX by decide) B) (st139 (by omega) (bSO_le hn (h E rfl)))
set_option maxRecDepth 100000 in
theorem tk140 {E : zE} (hE : E.1 ≤ 4000) {B n : Nat} (h : ∀ E9 : zE, E9.1 = E.1 → bSO E9 ctb B (n, smT)) (hn : 2 ≤ n) : bMT E ctb (B + bXX) 161 sc140 := bMT_m (Nat.add_le_add_left (show 1000000 * (0 + 1) ≤ bXX by decide) B) (st140 (by omega) (bSO_le hn (h E rfl)))
set_option maxRecDepth 100000 in
theorem tk141 {E : zE} (hE : E.1 ≤ 4000) {B n : Nat} (h : ∀ E9 : zE, E9.1 = E.1 → bSO E9 ctb B (n, smT)) (hn : 2 ≤ n) : bMT E ctb (B + bXX) 161 sc141 := bMT_m (Nat.add_le_add_left (show 1000000 * (0 + 1) ≤ bXX by decide) B) (st141 (by omega) (bSO_le hn (h E rfl)))
set_option maxRecDepth 100000 in
theorem tk142 {E : zE} (hE : E.1 ≤ 4000) {B n : Nat} (h : ∀ E9 : zE, E9.1 = E.1 → bSO E9 ctb B (n, smT)) (hn : 13 ≤ n) : bMT E ctb (B + bXX) 161 sc142 := bMT_m (Nat.add_le_add_left (show 1000000 * (0 + 1) ≤ bXX by decide) B) (st142 (by omega) (bSO_le hn (h E rfl)))
set_option maxRecDepth 100000 in
theorem tk143 {E : zE} (hE : E.1 ≤ 4000) {B n : Nat} (h : ∀ E9 : zE, E9.1 = E.1 → bSO E9 ctb B (n, smT)) (hn : 14 ≤ n) : bMT E ctb (B + bXX) 161 sc143 := bMT_m (Nat.add_le_add_left (show 1000000 * (0 + 1) ≤ bXX by decide) B) (st143 (by omega) (bSO_le hn (h E rfl)))
set_option maxRecDepth 100000 in
theorem tk144 {E : zE} (hE : E.1 ≤ 4000) {B n : Nat} (h : ∀ E9 : zE, E9.1 = E.1 → bSO E9 ctb B (n, smT)) (hn : 2 ≤ n) : bMT E ctb (B + bXX) 161 sc144 := bMT_m (Nat.add_le_add_left (show 1000000 * (0 + 1) ≤ bXX by decide) B) (st144 (by omega) (bSO_le hn (h E rfl)))
set_option maxRecDepth 100000 in
theorem tk145 {E : zE} (hE : E.1 ≤ 4000) {B n : Nat} (h : ∀ E9 : zE, E9.1 = E.1 → bSO E9 ctb B (n, smT)) (hn : 2 ≤ n) : bMT E ctb (B + bXX) 161 sc145 := bMT_m (Nat.add_le_add_left (show 1000000 * (0 + 1) ≤ bXX by decide) B) (st145 (by omega) (bSO_le hn (h E rfl)))
set_option maxRecDepth 100000 in
theorem tk146 {E : zE} (hE : E.1 ≤ 4000) {B n : Nat} (h : ∀ E9 : zE, E9.1 = E.1 → bSO E9 ctb B (n, smT)) (hn : 2 ≤ n) : bMT E ctb (B + bXX) 161 sc146 := bMT_m (Nat.add_le_add_left (show 1000000 * (0 + 1) ≤ bXX by decide) B) (st146 (by omega) (bSO_le hn (h E rfl)))
set_option maxRecDepth 100000 in
theorem tk147 {E : zE} (hE : E.1 ≤ 4000) {B n : Nat} (h : ∀ E9 : zE, E9.1 = E.1 → bSO E9 ctb B (n, smT)) (hn : 10 ≤ n) : bMT E ctb (B + bXX) 161 sc147 := bMT_m (Nat.add_le_add_left (show 1000000 * (0 + 1) ≤ bXX by decide) B) (st147 (by omega) (bSO_le hn (h E rfl)))
set_option maxRecDepth 100000 in
theorem tk148 {E : zE} (hE : E.1 ≤ 4000) {B n : Nat} (h : ∀ E9 : zE, E9.1 = E.1 → bSO E9 ctb B (n, smT)) (hn : 11 ≤ n) : bMT E ctb (B + bXX) 161 sc148 := bMT_m (Nat.add_le_add_left (show 1000000 * (0 + 1) ≤ bXX by decide) B) (st148 (by omega) (bSO_le hn (h E rfl)))
set_option maxRecDepth 100000 in
theorem tk149 {E : zE} (hE : E.1 ≤ 4000) {B n : Nat} (h : ∀ E9 : zE, E9.1 = E.1 → bSO E9 ctb B (n, smT)) (hn : 2 ≤ n) : bMT E ctb (B + bXX) 161 sc149 := bMT_m (Nat.add_le_add_left (show 1000000 * (0 + 1) ≤ bXX by decide) B) (st149 (by omega) (bSO_le hn (h E rfl)))
set_option maxRecDepth 100000 in
theorem tk150 {E : zE} (hE : E.1 ≤ 4000) {B n : Nat} (h : ∀ E9 : zE, E9.1 = E.1 → bSO E9 ctb B (n, smT)) (hn : 2 ≤ n) : bMT E ctb (B + bXX) 161 sc150 := bMT_m (Nat.add_le_add_left (show 1000000 * (0 + 1) ≤ bXX by decide) B) (st150 (by omega) (bSO_le hn (h E rfl)))
set_option maxRecDepth 100000 in
theorem tk151 {E : zE} (hE : E.1 ≤ 4000) {B n : Nat} (h : ∀ E9 : zE, E9.1 = E.1 → bSO E9 ctb B (n, smT)) (hn : 2 ≤ n) : bMT E ctb (B + bXX) 161 sc151 := bMT_m (Nat.add_le_add_left (show 1000000 * (0 + 1) ≤ bXX by decide) B) (st151 (by omega) (bSO_le hn (h E rfl)))
set_option maxRecDepth 100000 in
theorem tk152 {E : zE} (hE : E.1 ≤ 4000) {B n : Nat} (h : ∀ E9 : zE, E9.1 = E.1 → bSO E9 ctb B (n, smT)) (hn : 7 ≤ n) : bMT E ctb (B + bXX) 161 sc152 := bMT_m (Nat.add_le_add_left (show 1000000 * (0 + 1) ≤ bXX by decide) B) (st152 (by omega) (bSO_le hn (h E rfl)))
set_option maxRecDepth 100000 in
theorem tk153 {E : zE} (hE : E.1 ≤ 4000) {B n : Nat} (h : ∀ E9 : zE, E9.1 = E.1 → bSO E9 ctb B (n, smT)) (hn : 8 ≤ n) : bMT E ctb (B + bXX) 161 sc153 := bMT_m (Nat.add_le_add_left (show 1000000 * (0 + 1) ≤ bXX by decide) B) (st153 (by omega) (bSO_le hn (h E rfl)))
set_option maxRecDepth 100000 in
theorem tk154 {E : zE} (hE : E.1 ≤ 4000) {B n : Nat} (h : ∀ E9 : zE, E9.1 = E.1 → bSO E9 ctb B (n, smT)) (hn : 2 ≤ n) : bMT E ctb (B + bXX) 161 sc154 := bMT_m (Nat.add_le_add_left (show 1000000 * (0 + 1) ≤ bXX by decide) B) (st154 (by omega) (bSO_le hn (h E rfl)))
set_option maxRecDepth 100000 in
theorem tk155 {E : zE} (hE : E.1 ≤ 4000) {B n : Nat} (h : ∀ E9 : zE, E9.1 = E.1 → bSO E9 ctb B (n, smT)) (hn : 2 ≤ n) : bMT E ctb (B + bXX) 161 sc155 := bMT_m (Nat.add_le_add_left (show 1000000 * (0 + 1) ≤ bXX by decide) B) (st155 (by omega) (bSO_le hn (h E rfl)))
set_option maxRecDepth 100000 in
theorem tk156 {E : zE} (hE : E.1 ≤ 4000) {B n : Nat} (h : ∀ E9 : zE, E9.1 = E.1 → bSO E9 ctb B (n, smT)) (hn : 2 ≤ n) : bMT E ctb (B + bXX) 161 sc156 := bMT_m (Nat.add_le_add_left (show 1000000 * (0 + 1) ≤ bXX by decide) B) (st156 (by omega) (bSO_le hn (h E rfl)))
set_option maxRecDepth 100000 in
theorem tk157 {E : zE} (hE : E.1 ≤ 4000) {B n : Nat} (h : ∀ E9 : zE, E9.1 = E.1 → bSO E9 ctb B (n, smT)) (hn : 4 ≤ n) : bMT E ctb (B + bXX) 161 sc157 := bMT_m (Nat.add_le_add_left (show 1000000 * (0 + 1) ≤ bXX by decide) B) (st157 (by omega) (bSO_le hn (h E rfl)))
set_option maxRecDepth 100000 in
theorem tk158 {E : zE} (hE : E.1 ≤ 4000) {B n : Nat} (h : ∀ E9 : zE, E9.1 = E.1 → bSO E9 ctb B (n, smT)) (hn : 5 ≤ n) : bMT E ctb (B + bXX) 161 sc158 := bMT_m (Nat.add_le_add_left (show 1000000 * (0 + 1) ≤ bXX by decide) B) (st158 (by omega) (bSO_le hn (h E rfl)))
set_option maxRecDepth 100000 in
theorem tk159 {E : zE} (hE : E.1 ≤ 4000) {B n : Nat} (h : ∀ E9 : zE, E9.1 = E.1 → bSO E9 ctb B (n, smT)) (hn : 2 ≤ n) : bMT E ctb (B + bXX) 161 sc159 := bMT_m (Nat.add_le_add_left (show 1000000 * (0 + 1) ≤ bXX by decide) B) (st159 (by omega) (bSO_le hn (h E rfl)))
set_option maxRecDepth 100000 in
theorem tk160 {E : zE} (hE : E.1 ≤ 4000) {B n : Nat} (h : ∀ E9 : zE, E9.1 = E.1 → bSO E9 ctb B (n, smT)) (hn : 2 ≤ n) : bMT E ctb (B + bXX) 161 sc160 := bMT_m (Nat.add_le_add_left (show 1000000 * (0 + 1) ≤ bXX by decide) B) (st160 (by omega) (bSO_le hn (h E rfl)))
set_option maxRecDepth 100000 in
theorem tk161 {E : zE} (hE : E.1 ≤ 4000) {B n : Nat} (h : ∀ E9 : zE, E9.1 = E.1 → bSO E9 ctb B (n, smT)) (hn : 2 ≤ n) : bMT E ctb (B + bXX) 161 sc161 := bMT_m (Nat.add_le_add_left (show 1000000 * (0 + 1) ≤ bXX by decide) B) (st161 (by omega) (bSO_le hn (h E rfl)))
set_option maxRecDepth 100000 in
theorem tk162 {E : zE} (hE : E.1 ≤ 4000) {B n : Nat} (h : ∀ E9 : zE, E9.1 = E.1 → bSO E9 ctb B (n, smT)) (hn : 2 ≤ n) : bMT E ctb (B + bXX) 161 sc162 := bMT_m (Nat.add_le_add_left (show 1000000 * (0 + 1) ≤ bXX by decide) B) (st162 (by omega) (bSO_le hn (h E rfl)))
set_option maxRecDepth 100000 in
theorem tk163 {E : zE} (hE : E.1 ≤ 4000) {B n : Nat} (h : ∀ E9 : zE, E9.1 = E.1 → bSO E9 ctb B (n, smT)) (hn : 2 ≤ n) : bMT E ctb (B + bXX) 161 sc163 := bMT_m (Nat.add_le_add_left (show 1000000 * (0 + 1) ≤ bXX by decide) B) (st163 (by omega) (bSO_le hn (h E rfl)))
set_option maxRecDepth 100000 in
theorem tk164 {E : zE} (hE : E.1 ≤ 4000) {B n : Nat} (h : ∀ E9 : zE, E9.1 = E.1 → bSO E9 ctb B (n, smT)) (hn : 1 ≤ n) : bMT E ctb (B + bXX) 164 sc164 := bMT_m (Nat.add_le_add_left (show 1000000 * (2 + 1) ≤ bXX by decide) B) (st164 (by omega) (bSO_le hn (h E rfl)))
set_option maxRecDepth 100000 in
theorem tk165 {E : zE} (hE : E.1 ≤ 4000) {B n : Nat} (h : ∀ E9 : zE, E9.1 = E.1 → bSO E9 ctb B (n, smT)) (hn : 1 ≤ n) : bMT E ctb (B + bXX) 164 sc165 := bMT_m (Nat.add_le_add_left (show 1000000 * (2 + 1) ≤ bXX by decide) B) (st165 (by omega) (bSO_le hn (h E rfl)))
set_option maxRecDepth 100000 in
theorem tk166 {E : zE} (hE : E.1 ≤ 4000) {B n : Nat} (h : ∀ E9 : zE, E9.1 = E.1 → bSO E9 ctb B (n, smT)) (hn : 1 ≤ n) : bMT E ctb (B + bXX) 164 sc166 := bMT_m (Nat.add_le_add_left (show 1000000 * (402 + 1) ≤ bXX by decide) B) (st166 (by omega) (bSO_le hn (h E rfl)))
set_option maxRecDepth 100000 in
theorem tk167 {E : zE} (hE : E.1 ≤ 4000) {B n : Nat} (h : ∀ E9 : zE, E9.1 = E.1 → bSO E9 ctb B (n, smT)) (hn : 1 ≤ n) : bMT E ctb (B + bXX) 164 sc167 := bMT_m (Nat.add_le_add_left (show 1000000 * (402 + 1) ≤ bXX by decide) B) (st167 (by omega) (bSO_le hn (h E rfl)))
set_option maxRecDepth 100000 in
theorem tk168 {E : zE} (hE : E.1 ≤ 4000) {B n : Nat} (h : ∀ E9 : zE, E9.1 = E.1 → bSO E9 ctb B (n, smT)) (hn : 1 ≤ n) : bMT E ctb (B + bXX) 164 sc168 := bMT_m (Nat.add_le_add_left (show 1000000 * (2 + 1) ≤ bXX by decide) B) (st168 (by omega) (bSO_le hn (h E rfl)))
set_option maxRecDepth 100000 in
theorem tk171 {E : zE} (hE : E.1 ≤ 4000) {B n : Nat} (h : ∀ E9 : zE, E9.1 = E.1 → bSO E9 ctb B (n, smT)) (hn : 0 ≤ n) : bMT E ctb (B + bXX) 175 sc171 := bMT_m (Nat.add_le_add_left (show 1000000 * (14 + 1) ≤ bXX by decide) B) (st171 (by omega) (bSO_le hn (h E rfl)))
set_option maxRecDepth 100000 in
theorem tk172 {E : zE} (hE : E.1 ≤ 4000) {B n : Nat} (h : ∀ E9 : zE, E9.1 = E.1 → bSO E9 ctb B (n, smT)) (hn : 0 ≤ n) : bMT E ctb (B + bXX) 176 sc172 := bMT_m (Nat.add_le_add_left (show 1000000 * (14 + 1) ≤ bXX by decide) B) (st172 (by omega) (bSO_le hn (h E rfl)))
set_option maxRecDepth 100000 in
theorem tk173 {E : zE} (hE : E.1 ≤ 4000) {B n : Nat} (h : ∀ E9 : zE, E9.1 = E.1 → bSO E9 ctb B (n, smT)) (hn : 0 ≤ n) : bMT E ctb (B + bXX) 177 sc173 := bMT_m (Nat.add_le_add_left (show 1000000 * (183 + 1) ≤ bXX by decide) B) (st173 (by omega) (bSO_le hn (h E rfl)))
set_option maxRecDepth 100000 in
theorem tk174 {E : zE} (hE : E.1 ≤ 4000) {B n : Nat} (h : ∀ E9 : zE, E9.1 = E.1 → bSO E9 ctb B (n, smT)) (hn : 0 ≤ n) : bMT E ctb (B + bXX) 181 sc174 := bMT_m (Nat.add_le_add_left (show 1000000 * (1204 + 1) ≤ bXX by decide) B) (st174 (by omega) (bSO_le hn (h E rfl)))
set_option maxRecDepth 100000 in
theorem tk175 {E : zE} (hE : E.1 ≤ 4000) {B n : Nat} (h : ∀ E9 : zE, E9.1 = E.1 → bSO E9 ctb B (n, smT)) (hn : 0 ≤ n) : bMT E ctb (B + bXX) 185 sc175 := bMT_m (Nat.add_le_add_left (show 1000000 * (0 + 1) ≤ bXX by decide) B) (st175 (by omega) (bSO_le hn (h E rfl)))
set_option maxRecDepth 100000 in
theorem tk176 {E : zE} (hE : E.1 ≤ 4000) {B n : Nat} (h : ∀ E9 : zE, E9.1 = E.1 → bSO E9 ctb B (n, smT)) (hn : 0 ≤ n) : bMT E ctb (B + bXX) 185 sc176 := bMT_m (Nat.add_le_add_left (show 1000000 * (24 + 1) ≤ bXX by decide) B) (st176 (by omega) (bSO_le hn (h E rfl)))
set_option maxRecDepth 100000 in
theorem tk177 {E : zE} (hE : E.1 ≤ 4000) {B n : Nat} (h : ∀ E9 : zE, E9.1 = E.1 → bSO E9 ctb B (n, smT)) (hn : 0 ≤ n) : bMT E ctb (B + bXX) 185 sc177 := bMT_m (Nat.add_le_add_left (show 1000000 * (0 + 1) ≤ bXX by decide) B) (st177 (by omega) (bSO_le hn (h E rfl)))
set_option maxRecDepth 100000 in
theorem tk178 {E : zE} (hE : E.1 ≤ 4000) {B n : Nat} (h : ∀ E9 : zE, E9.1 = E.1 → bSO E9 ctb B (n, smT)) (hn : 0 ≤ n) : bMT E ctb (B + bXX) 185 sc178 := bMT_m (Nat.add_le_add_left (show 1000000 * (0 + 1) ≤ bXX by decide) B) (st178 (by omega) (bSO_le hn (h E rfl)))
set_option maxRecDepth 100000 in
theorem tk179 {E : zE} (hE : E.1 ≤ 4000) {B n : Nat} (h : ∀ E9 : zE, E9.1 = E.1 → bSO E9 ctb B (n, smT)) (hn : 0 ≤ n) : bMT E ctb (B + bXX) 185 sc179 := bMT_m (Nat.add_le_add_left (show 1000000 * (49 + 1) ≤ bXX by decide) B) (st179 (by omega) (bSO_le hn (h E rfl)))
set_option maxRecDepth 100000 in
theorem tk180 {E : zE} (hE : E.1 ≤ 4000) {B n : Nat} (h : ∀ E9 : zE, E9.1 = E.1 → bSO E9 ctb B (n, smT)) (hn : 0 ≤ n) : bMT E ctb (B + bXX) 185 sc180 := bMT_m (Nat.add_le_add_left (show 1000000 * (0 + 1) ≤ bXX by decide) B) (st180 (by omega) (bSO_le hn (h E rfl)))
set_option maxRecDepth 100000 in
theorem tk181 {E : zE} (hE : E.1 ≤ 4000) {B n : Nat} (h : ∀ E9 : zE, E9.1 = E.1 → bSO E9 ctb B (n, smT)) (hn : 0 ≤ n) : bMT E ctb (B + bXX) 185 sc181 := bMT_m (Nat.add_le_add_left (show 1000000 * (0 + 1) ≤ bXX by decide) B) (st181 (by omega) (bSO_le hn (h E rfl)))
set_option maxRecDepth 100000 in
theorem tk182 {E : zE} (hE : E.1 ≤ 4000) {B n : Nat} (h : ∀ E9 : zE, E9.1 = E.1 → bSO E9 ctb B (n, smT)) (hn : 0 ≤ n) : bMT E ctb (B + bXX) 185 sc182 := bMT_m (Nat.add_le_add_left (show 1000000 * (0 + 1) ≤ bXX by decide) B) (st182 (by omega) (bSO_le hn (h E rfl)))
set_option maxRecDepth 100000 in
theorem tk183 {E : zE} (hE : E.1 ≤ 4000) {B n : Nat} (h : ∀ E9 : zE, E9.1 = E.1 → bSO E9 ctb B (n, smT)) (hn : 0 ≤ n) : bMT E ctb (B + bXX) 185 sc183 := bMT_m (Nat.add_le_add_left (show 1000000 * (5 + 1) ≤ bXX by decide) B) (st183 (by omega) (bSO_le hn (h E rfl)))
set_option maxRecDepth 100000 in
theorem tk184 {E : zE} (hE : E.1 ≤ 4000) {B n : Nat} (h : ∀ E9 : zE, E9.1 = E.1 → bSO E9 ctb B (n, smT)) (hn : 0 ≤ n) : bMT E ctb (B + bXX) 185 sc184 := bMT_m (Nat.add_le_add_left (show 1000000 * (0 + 1) ≤ bXX by decide) B) (st184 (by omega) (bSO_le hn (h E rfl)))
set_option maxRecDepth 100000 in
theorem tk185 {E : zE} (hE : E.1 ≤ 4000) {B n : Nat} (h : ∀ E9 : zE, E9.1 = E.1 → bSO E9 ctb B (n, smT)) (hn : 0 ≤ n) : bMT E ctb (B + bXX) 185 sc185 := bMT_m (Nat.add_le_add_left (show 1000000 * (0 + 1) ≤ bXX by decide) B) (st185 (by omega) (bSO_le hn (h E rfl)))
set_option maxRecDepth 100000 in
theorem tk186 {E : zE} (hE : E.1 ≤ 4000) {B n : Nat} (h : ∀ E9 : zE, E9.1 = E.1 → bSO E9 ctb B (n, smT)) (hn : 0 ≤ n) : bMT E ctb (B + bXX) 185 sc186 := bMT_m (Nat.add_le_add_left (show 1000000 * (0 + 1) ≤ bXX by decide) B) (st186 (by omega) (bSO_le hn (h E rfl)))
set_option maxRecDepth 100000 in
theorem tk187 {E : zE} (hE : E.1 ≤ 4000) {B n : Nat} (h : ∀ E9 : zE, E9.1 = E.1 → bSO E9 ctb B (n, smT)) (hn : 0 ≤ n) : bMT E ctb (B + bXX) 185 sc187 := bMT_m (Nat.add_le_add_left (show 1000000 * (29 + 1) ≤ bXX by decide) B) (st187 (by omega) (bSO_le hn (h E rfl)))
set_option maxRecDepth 100000 in
theorem tk188 {E : zE} (hE : E.1 ≤ 4000) {B n : Nat} (h : ∀ E9 : zE, E9.1 = E.1 → bSO E9 ctb B (n, smT)) (hn : 0 ≤ n) : bMT E ctb (B + bXX) 185 sc188 := bMT_m (Nat.add_le_add_left (show 1000000 * (0 + 1) ≤ bXX by decide) B) (st188 (by omega) (bSO_le hn (h E rfl)))
set_option maxRecDepth 100000 in
theorem tk189 {E : zE} (hE : E.1 ≤ 4000) {B n : Nat} (h : ∀ E9 : zE, E9.1 = E.1 → bSO E9 ctb B (n, smT)) (hn : 0 ≤ n) : bMT E ctb (B + bXX) 185 sc189 := bMT_m (Nat.add_le_add_left (show 1000000 * (0 + 1) ≤ bXX by decide) B) (st189 (by omega) (bSO_le hn (h E rfl)))
set_option maxRecDepth 100000 in
theorem tk190 {E : zE} (hE : E.1 ≤ 4000) {B n : Nat} (h : ∀ E9 : zE, E9.1 = E.1 → bSO E9 ctb B (n, smT)) (hn : 0 ≤ n) : bMT E ctb (B + bXX) 185 sc190 := bMT_m (Nat.add_le_add_left (show 1000000 * (0 + 1) ≤ bXX by decide) B) (st190 (by omega) (bSO_le hn (h E rfl)))
set_option maxRecDepth 100000 in
theorem tk191 {E : zE} (hE : E.1 ≤ 4000) {B n : Nat} (h : ∀ E9 : zE, E9.1 = E.1 → bSO E9 ctb B (n, smT)) (hn : 0 ≤ n) : bMT E ctb (B + bXX) 185 sc191 := bMT_m (Nat.add_le_add_left (show 1000000 * (0 + 1) ≤ bXX by decide) B) (st191 (by omega) (bSO_le hn (h E rfl)))
set_option maxRecDepth 100000 in
theorem tk192 {E : zE} (hE : E.1 ≤ 4000) {B n : Nat} (h : ∀ E9 : zE, E9.1 = E.1 → bSO E9 ctb B (n, smT)) (hn : 0 ≤ n) : bMT E ctb (B + bXX) 185 sc192 := bMT_m (Nat.add_le_add_left (show 1000000 * (6 + 1) ≤ bXX by decide) B) (st192 (by omega) (bSO_le hn (h E rfl)))
set_option maxRecDepth 100000 in
theorem tk193 {E : zE} (hE : E.1 ≤ 4000) {B n : Nat} (h : ∀ E9 : zE, E9.1 = E.1 → bSO E9 ctb B (n, smT)) (hn : 0 ≤ n) : bMT E ctb (B + bXX) 185 sc193 := bMT_m (Nat.add_le_add_left (show 1000000 * (0 + 1) ≤ bXX by decide) B) (st193 (by omega) (bSO_le hn (h E rfl)))
set_option maxRecDepth 100000 in
theorem tk194 {E : zE} (hE : E.1 ≤ 4000) {B n : Nat} (h : ∀ E9 : zE, E9.1 = E.1 → bSO E9 ctb B (n, smT)) (hn : 0 ≤ n) : bMT E ctb (B + bXX) 185 sc194 := bMT_m (Nat.add_le_add_left (show 1000000 * (0 + 1) ≤ bXX by decide) B) (st194 (by omega) (bSO_le hn (h E rfl)))
set_option maxRecDepth 100000 in
theorem tk195 {E : zE} (hE : E.1 ≤ 4000) {B n : Nat} (h : ∀ E9 : zE, E9.1 = E.1 → bSO E9 ctb B (n, smT)) (hn : 0 ≤ n) : bMT E ctb (B + bXX) 185 sc195 := bMT_m (Nat.add_le_add_left (show 1000000 * (0 + 1) ≤ bXX by decide) B) (st195 (by omega) (bSO_le hn (h E rfl)))
set_option maxRecDepth 100000 in
theorem tk196 {E : zE} (hE : E.1 ≤ 4000) {B n : Nat} (h : ∀ E9 : zE, E9.1 = E.1 → bSO E9 ctb B (n, smT)) (hn : 0 ≤ n) : bMT E ctb (B + bXX) 185 sc196 := bMT_m (Nat.add_le_add_left (show 1000000 * (0 + 1) ≤ bXX by decide) B) (st196 (by omega) (bSO_le hn (h E rfl)))
set_option maxRecDepth 100000 in
theorem tk197 {E : zE} (hE : E.1 ≤ 4000) {B n : Nat} (h : ∀ E9 : zE, E9.1 = E.1 → bSO E9 ctb B (n, smT)) (hn : 0 ≤ n) : bMT E ctb (B + bXX) 185 sc197 := bMT_m (Nat.add_le_add_left (show 1000000 * (29 + 1) ≤ bXX by decide) B) (st197 (by omega) (bSO_le hn (h E rfl)))
set_option maxRecDepth 100000 in
theorem tk198 {E : zE} (hE : E.1 ≤ 4000) {B n : Nat} (h : ∀ E9 : zE, E9.1 = E.1 → bSO E9 ctb B (n, smT)) (hn : 0 ≤ n) : bMT E ctb (B + bXX) 185 sc198 := bMT_m (Nat.add_le_add_left (show 1000000 * (0 + 1) ≤ bXX by decide) B) (st198 (by omega) (bSO_le hn (h E rfl)))
set_option maxRecDepth 100000 in
theorem tk199 {E : zE} (hE : E.1 ≤ 4000) {B n : Nat} (h : ∀ E9 : zE, E9.1 = E.1 → bSO E9 ctb B (n, smT)) (hn : 0 ≤ n) : bMT E ctb (B + bXX) 185 sc199 := bMT_m (Nat.add_le_add_left (show 1000000 * (0 + 1) ≤ bXX by decide) B) (st199 (by omega) (bSO_le hn (h E rfl)))
set_option maxRecDepth 100000 in
theorem tk200 {E : zE} (hE : E.1 ≤ 4000) {B n : Nat} (h : ∀ E9 : zE, E9.1 = E.1 → bSO E9 ctb B (n, smT)) (hn : 0 ≤ n) : bMT E ctb (B + bXX) 185 sc200 := bMT_m (Nat.add_le_add_left (show 1000000 * (0 + 1) ≤ bXX by decide) B) (st200 (by omega) (bSO_le hn (h E rfl)))
set_option maxRecDepth 100000 in
theorem tk201 {E : zE} (hE : E.1 ≤ 4000) {B n : Nat} (h : ∀ E9 : zE, E9.1 = E.1 → bSO E9 ctb B (n, smT)) (hn : 0 ≤ n) : bMT E ctb (B + bXX) 185 sc201 := bMT_m (Nat.add_le_add_left (show 1000000 * (6 + 1) ≤ bXX by decide) B) (st201 (by omega) (bSO_le hn (h E rfl)))
set_option maxRecDepth 100000 in
theorem tk202 {E : zE} (hE : E.1 ≤ 4000) {B n : Nat} (h : ∀ E9 : zE, E9.1 = E.1 → bSO E9 ctb B (n, smT)) (hn : 0 ≤ n) : bMT E ctb (B + bXX) 185 sc202 := bMT_m (Nat.add_le_add_left (show 1000000 * (0 + 1) ≤ bXX by decide) B) (st202 (by omega) (bSO_le hn (h E rfl)))
set_option maxRecDepth 100000 in
theorem tk203 {E : zE} (hE : E.1 ≤ 4000) {B n : Nat} (h : ∀ E9 : zE, E9.1 = E.1 → bSO E9 ctb B (n, smT)) (hn : 0 ≤ n) : bMT E ctb (B + bXX) 185 sc203 := bMT_m (Nat.add_le_add_left (show 1000000 * (0 + 1) ≤ bXX by decide) B) (st203 (by omega) (bSO_le hn (h E rfl)))
set_option maxRecDepth 100000 in
theorem tk204 {E : zE} (hE : E.1 ≤ 4000) {B n : Nat} (h : ∀ E9 : zE, E9.1 = E.1 → bSO E9 ctb B (n, smT)) (hn : 0 ≤ n) : bMT E ctb (B + bXX) 185 sc204 := bMT_m (Nat.add_le_add_left (show 1000000 * (6 + 1) ≤ bXX by decide) B) (st204 (by omega) (bSO_le hn (h E rfl)))
set_option maxRecDepth 100000 in
theorem tk205 {E : zE} (hE : E.1 ≤ 4000) {B n : Nat} (h : ∀ E9 : zE, E9.1 = E.1 → bSO E9 ctb B (n, smT)) (hn : 0 ≤ n) : bMT E ctb (B + bXX) 185 sc205 := bMT_m (Nat.add_le_add_left (show 1000000 * (0 + 1) ≤ bXX by decide) B) (st205 (by omega) (bSO_le hn (h E rfl)))
set_option maxRecDepth 100000 in
theorem tk206 {E : zE} (hE : E.1 ≤ 4000) {B n : Nat} (h : ∀ E9 : zE, E9.1 = E.1 → bSO E9 ctb B (n, smT)) (hn : 0 ≤ n) : bMT E ctb (B + bXX) 185 sc206 := bMT_m (Nat.add_le_add_left (show 1000000 * (0 + 1) ≤ bXX by decide) B) (st206 (by omega) (bSO_le hn (h E rfl)))
set_option maxRecDepth 100000 in
theorem tk207 {E : zE} (hE : E.1 ≤ 4000) {B n : Nat} (h : ∀ E9 : zE, E9.1 = E.1 → bSO E9 ctb B (n, smT)) (hn : 0 ≤ n) : bMT E ctb (B + bXX) 185 sc207 := bMT_m (Nat.add_le_add_left (show 1000000 * (0 + 1) ≤ bXX by decide) B) (st207 (by omega) (bSO_le hn (h E rfl)))
set_option maxRecDepth 100000 in
theorem tk208 {E : zE} (hE : E.1 ≤ 4000) {B n : Nat} (h : ∀ E9 : zE, E9.1 = E.1 → bSO E9 ctb B (n, smT)) (hn : 0 ≤ n) : bMT E ctb (B + bXX) 185 sc208 := bMT_m (Nat.add_le_add_left (show 1000000 * (0 + 1) ≤ bXX by decide) B) (st208 (by omega) (bSO_le hn (h E rfl)))
set_option maxRecDepth 100000 in
theorem tk209 {E : zE} (hE : E.1 ≤ 4000) {B n : Nat} (h : ∀ E9 : zE, E9.1 = E.1 → bSO E9 ctb B (n, smT)) (hn : 0 ≤ n) : bMT E ctb (B + bXX) 185 sc209 := bMT_m (Nat.add_le_add_left (show 1000000 * (5 + 1) ≤ bXX by decide) B) (st209 (by omega) (bSO_le hn (h E rfl)))
set_option maxRecDepth 100000 in
theorem tk210 {E : zE} (hE : E.1 ≤ 4000) {B n : Nat} (h : ∀ E9 : zE, E9.1 = E.1 → bSO E9 ctb B (n, smT)) (hn : 0 ≤ n) : bMT E ctb (B + bXX) 185 sc210 := bMT_m (Nat.add_le_add_left (show 1000000 * (0 + 1) ≤ bXX by decide) B) (st210 (by omega) (bSO_le hn (h E rfl)))
set_option maxRecDepth 100000 in
theorem tk211 {E : zE} (hE : E.1 ≤ 4000) {B n : Nat} (h : ∀ E9 : zE, E9.1 = E.1 → bSO E9 ctb B (n, smT)) (hn : 0 ≤ n) : bMT E ctb (B + bXX) 185 sc211 := bMT_m (Nat.add_le_add_left (show 1000000 * (0 + 1) ≤ bXX by decide) B) (st211 (by omega) (bSO_le hn (h E rfl)))
set_option maxRecDepth 100000 in
theorem tk212 {E : zE} (hE : E.1 ≤ 4000) {B n : Nat} (h : ∀ E9 : zE, E9.1 = E.1 → bSO E9 ctb B (n, smT)) (hn : 0 ≤ n) : bMT E ctb (B + bXX) 185 sc212 := bMT_m (Nat.add_le_add_left (show 1000000 * (0 + 1) ≤ bXX by decide) B) (st212 (by omega) (bSO_le hn (h E rfl)))
set_option maxRecDepth 100000 in
theorem tk213 {E : zE} (hE : E.1 ≤ 4000) {B n : Nat} (h : ∀ E9 : zE, E9.1 = E.1 → bSO E9 ctb B (n, smT)) (hn : 0 ≤ n) : bMT E ctb (B + bXX) 185 sc213 := bMT_m (Nat.add_le_add_left (show 1000000 * (35 + 1) ≤ bXX by decide) B) (st213 (by omega) (bSO_le hn (h E rfl)))
set_option maxRecDepth 100000 in
theorem tk214 {E : zE} (hE : E.1 ≤ 4000) {B n : Nat} (h : ∀ E9 : zE, E9.1 = E.1 → bSO E9 ctb B (n, smT)) (hn : 0 ≤ n) : bMT E ctb (B + bXX) 185 sc214 := bMT_m (Nat.add_le_add_left (show 1000000 * (0 + 1) ≤ bXX by decide) B) (st214 (by omega) (bSO_le hn (h E rfl)))
set_option maxRecDepth 100000 in
theorem tk215 {E : zE} (hE : E.1 ≤ 4000) {B n : Nat} (h : ∀ E9 : zE, E9.1 = E.1 → bSO E9 ctb B (n, smT)) (hn : 1 ≤ n) : bMT E ctb (B + bXX) 186 sc215 := bMT_m (Nat.add_le_add_left (show 1000000 * (402 + 1) ≤ bXX by decide) B) (st215 (by omega) (bSO_le hn (h E rfl)))
set_option maxRecDepth 100000 in
theorem tk216 {E : zE} (hE : E.1 ≤ 4000) {B n : Nat} (h : ∀ E9 : zE, E9.1 = E.1 → bSO E9 ctb B (n, smT)) (hn : 4 ≤ n) : bMT E ctb (B + bXX) 190 sc216 := bMT_m (Nat.add_le_add_left (show 1000000 * (102 + 1) ≤ bXX by decide) B) (st216 (by omega) (bSO_le hn (h E rfl)))
set_option maxRecDepth 100000 in
theorem tk217 {E : zE} (hE : E.1 ≤ 4000) {B n : Nat} (h : ∀ E9 : zE, E9.1 = E.1 → bSO E9 ctb B (n, smT)) (hn : 5 ≤ n) : bMT E ctb (B + bXX) 193 sc217 := bMT_m (Nat.add_le_add_left (show 1000000 * (14 + 1) ≤ bXX by decide) B) (st217 (by omega) (bSO_le hn (h E rfl)))
set_option maxRecDepth 100000 in
theorem tk218 {E : zE} (hE : E.1 ≤ 4000) {B n : Nat} (h : ∀ E9 : zE, E9.1 = E.1 → bSO E9 ctb B (n, smT)) (hn : 5 ≤ n) : bMT E ctb (B + bXX) 194 sc218 := bMT_m (Nat.add_le_add_left (show 1000000 * (157 + 1) ≤ bXX by decide) B) (st218 (by omega) (bSO_le hn (h E rfl)))
set_option maxRecDepth 100000 in
theorem tk219 {E : zE} (hE : E.1 ≤ 4000) {B n : Nat} (h : ∀ E9 : zE, E9.1 = E.1 → bSO E9 ctb B (n, smT)) (hn : 5 ≤ n) : bMT E ctb (B + bXX) 195 sc219 := bMT_m (Nat.add_le_add_left (show 1000000 * (25711 + 1) ≤ bXX by decide) B) (st219 (by omega) (bSO_le hn (h E rfl)))
set_option maxRecDepth 100000 in
theorem tk220 {E : zE} (hE : E.1 ≤ 4000) {B n : Nat} (h : ∀ E9 : zE, E9.1 = E.1 → bSO E9 ctb B (n, smT)) (hn : 4 ≤ n) : bMT E ctb (B + bXX) 196 sc220 := bMT_m (Nat.add_le_add_left (show 1000000 * (4111 + 1) ≤ bXX by decide) B) (st220 (by omega) (bSO_le hn (h E rfl)))
set_option maxRecDepth 100000 in
theorem tk221 {E : zE} (hE : E.1 ≤ 4000) {B n : Nat} (h : ∀ E9 : zE, E9.1 = E.1 → bSO E9 ctb B (n, smT)) (hn : 0 ≤ n) : bMT E ctb (B + bXX) 197 sc221 := bMT_m (Nat.add_le_add_left (show 1000000 * (14 + 1) ≤ bXX by decide) B) (st221 (by omega) (bSO_le hn (h E rfl)))
set_option maxRecDepth 100000 in
theorem tk222 {E : zE} (hE : E.1 ≤ 4000) {B n : Nat} (h : ∀ E9 : zE, E9.1 = E.1 → bSO E9 ctb B (n, smT)) (hn : 6 ≤ n) : bMT E ctb (B + bXX) 198 sc222 := bMT_m (Nat.add_le_add_left (show 1000000 * (26 + 1) ≤ bXX by decide) B) (st222 (by omega) (bSO_le hn (h E rfl)))
set_option maxRecDepth 100000 in
theorem tk223 {E : zE} (hE : E.1 ≤ 4000) {B n : Nat} (h : ∀ E9 : zE, E9.1 = E.1 → bSO E9 ctb B (n, smT)) (hn : 5 ≤ n) : bMT E ctb (B + bXX) 199 sc223 := bMT_m (Nat.add_le_add_left (show 1000000 * (26 + 1) ≤ bXX by decide) B) (st223 (by omega) (bSO_le hn (h E rfl)))
set_option maxRecDepth 100000 in
theorem tk224 {E : zE} (hE : E.1 ≤ 4000) {B n : Nat} (h : ∀ E9 : zE, E9.1 = E.1 → bSO E9 ctb B (n, smT)) (hn : 4 ≤ n) : bMT E ctb (B + bXX) 200 sc224 := bMT_m (Nat.add_le_add_left (show 1000000 * (303 + 1) ≤ bXX by decide) B) (st224 (by omega) (bSO_le hn (h E rfl)))
set_option maxRecDepth 100000 in
theorem tk225 {E : zE} (hE : E.1 ≤ 4000) {B n : Nat} (h : ∀ E9 : zE, E9.1 = E.1 → bSO E9 ctb B (n, smT)) (hn : 4 ≤ n) : bMT E ctb (B + bXX) 201 sc225 := bMT_m (Nat.add_le_add_left (show 1000000 * (303 + 1) ≤ bXX by decide) B) (st225 (by omega) (bSO_le hn (h E rfl)))
set_option maxRecDepth 100000 in
theorem tk226 {E : zE} (hE : E.1 ≤ 4000) {B n : Nat} (h : ∀ E9 : zE, E9.1 = E.1 → bSO E9 ctb B (n, smT)) (hn : 5 ≤ n) : bMT E ctb (B + bXX) 202 sc226 := bMT_m (Nat.add_le_add_left (show 1000000 * (102 + 1) ≤ bXX by decide) B) (st226 (by omega) (bSO_le hn (h E rfl)))
set_option maxRecDepth 100000 in
theorem tk227 {E : zE} (hE : E.1 ≤ 4000) {B n : Nat} (h : ∀ E9 : zE, E9.1 = E.1 → bSO E9 ctb B (n, smT)) (hn : 5 ≤ n) : bMT E ctb (B + bXX) 203 sc227 := bMT_m (Nat.add_le_add_left (show 1000000 * (27 + 1) ≤ bXX by decide) B) (st227 (by omega) (bSO_le hn (h E rfl)))
set_option maxRecDepth 100000 in
theorem tk228 {E : zE} (hE : E.1 ≤ 4000) {B n : Nat} (h : ∀ E9 : zE, E9.1 = E.1 → bSO E9 ctb B (n, smT)) (hn : 5 ≤ n) : bMT E ctb (B + bXX) 204 sc228 := bMT_m (Nat.add_le_add_left (show 1000000 * (26 + 1) ≤ bXX by decide) B) (st228 (by omega) (bSO_le hn (h E rfl)))
set_option maxRecDepth 100000 in
theorem tk229 {E : zE} (hE : E.1 ≤ 4000) {B n : Nat} (h : ∀ E9 : zE, E9.1 = E.1 → bSO E9 ctb B (n, smT)) (hn : 6 ≤ n) : bMT E ctb (B + bXX) 205 sc229 := bMT_m (Nat.add_le_add_left (show 1000000 * (14 + 1) ≤ bXX by decide) B) (st229 (by omega) (bSO_le hn (h E rfl)))
set_option maxRecDepth 100000 in
theorem tk230 {E : zE} (hE : E.1 ≤ 4000) {B n : Nat} (h : ∀ E9 : zE, E9.1 = E.1 → bSO E9 ctb B (n, smT)) (hn : 5 ≤ n) : bMT E ctb (B + bXX) 206 sc230 := bMT_m (Nat.add_le_add_left (show 1000000 * (10 + 1) ≤ bXX by decide) B) (st230 (by omega) (bSO_le hn (h E rfl)))
set_option maxRecDepth 100000 in
theorem tk231 {E : zE} (hE : E.1 ≤ 4000) {B n : Nat} (h : ∀ E9 : zE, E9.1 = E.1 → bSO E9 ctb B (n, smT)) (hn : 5 ≤ n) : bMT E ctb (B + bXX) 207 sc231 := bMT_m (Nat.add_le_add_left (show 1000000 * (102 + 1) ≤ bXX by decide) B) (st231 (by omega) (bSO_le hn (h E rfl)))
set_option maxRecDepth 100000 in
theorem tk232 {E : zE} (hE : E.1 ≤ 4000) {B n : Nat} (h : ∀ E9 : zE, E9.1 = E.1 → bSO E9 ctb B (n, smT)) (hn : 0 ≤ n) : bMT E ctb (B + bXX) 212 sc232 := bMT_m (Nat.add_le_add_left (show 1000000 * (3 + 1) ≤ bXX by decide) B) (st232 (by omega) (bSO_le hn (h E rfl)))
set_option maxRecDepth 100000 in
theorem tk233 {E : zE} (hE : E.1 ≤ 4000) {B n : Nat} (h : ∀ E9 : zE, E9.1 = E.1 → bSO E9 ctb B (n, smT)) (hn : 0 ≤ n) : bMT E ctb (B + bXX) 213 sc233 := bMT_m (Nat.add_le_add_left (show 1000000 * (3 + 1) ≤ bXX by decide) B) (st233 (by omega) (bSO_le hn (h E rfl)))
set_option maxRecDepth 100000 in
theorem tk234 {E : zE} (hE : E.1 ≤ 4000) {B n : Nat} (h : ∀ E9 : zE, E9.1 = E.1 → bSO E9 ctb B (n, smT)) (hn : 0 ≤ n) : bMT E ctb (B + bXX) 214 sc234 := bMT_m (Nat.add_le_add_left (show 1000000 * (5 + 1) ≤ bXX by decide) B) (st234 (by omega) (bSO_le hn (h E rfl)))
set_option maxRecDepth 100000 in
theorem tk235 {E : zE} (hE : E.1 ≤ 4000) {B n : Nat} (h : ∀ E9 : zE, E9.1 = E.1 → bSO E9 ctb B (n, smT)) (hn : 0 ≤ n) : bMT E ctb (B + bXX) 215 sc235 := bMT_m (Nat.add_le_add_left (show 1000000 * (3 + 1) ≤ bXX by decide) B) (st235 (by omega) (bSO_le hn (h E rfl)))
set_option maxRecDepth 100000 in
theorem tk236 {E : zE} (hE : E.1 ≤ 4000) {B n : Nat} (h : ∀ E9 : zE, E9.1 = E.1 → bSO E9 ctb B (n, smT)) (hn : 0 ≤ n) : bMT E ctb (B + bXX) 224 sc236 := bMT_m (Nat.add_le_add_left (show 1000000 * (10 + 1) ≤ bXX by decide) B) (st236 (by omega) (bSO_le hn (h E rfl)))
set_option maxRecDepth 100000 in
theorem tk237 {E : zE} (hE : E.1 ≤ 4000) {B n : Nat} (h : ∀ E9 : zE, E9.1 = E.1 → bSO E9 ctb B (n, smT)) (hn : 0 ≤ n) : bMT E ctb (B + bXX) 224 sc237 := bMT_m (Nat.add_le_add_left (show 1000000 * (10 + 1) ≤ bXX by decide) B) (st237 (by omega) (bSO_le hn (h E rfl)))
set_option maxRecDepth 100000 in
theorem tk238 {E : zE} (hE : E.1 ≤ 4000) {B n : Nat} (h : ∀ E9 : zE, E9.1 = E.1 → bSO E9 ctb B (n, smT)) (hn : 0 ≤ n) : bMT E ctb (B + bXX) 230 sc238 := bMT_m (Nat.add_le_add_left (show 1000000 * (22 + 1) ≤ bXX by decide) B) (st238 (by omega) (bSO_le hn (h E rfl)))
set_option maxRecDepth 100000 in
theorem tk239 {E : zE} (hE : E.1 ≤ 4000) {B n : Nat} (h : ∀ E9 : zE, E9.1 = E.1 → bSO E9 ctb B (n, smT)) (hn : 1 ≤ n) : bMT E ctb (B + bXX) 235 sc239 := bMT_m (Nat.add_le_add_left (show 1000000 * (401 + 1) ≤ bXX by decide) B) (st239 (by omega) (bSO_le hn (h E rfl)))
set_option maxRecDepth 100000 in
theorem tk240 {E : zE} (hE : E.1 ≤ 4000) {B n : Nat} (h : ∀ E9 : zE, E9.1 = E.1 → bSO E9 ctb B (n, smT)) (hn : 2 ≤ n) : bMT E ctb (B + bXX) 236 sc240 := bMT_m (Nat.add_le_add_left (show 1000000 * (402 + 1) ≤ bXX by decide) B) (st240 (by omega) (bSO_le hn (h E rfl)))
set_option maxRecDepth 100000 in
theorem tk241 {E : zE} (hE : E.1 ≤ 4000) {B n : Nat} (h : ∀ E9 : zE, E9.1 = E.1 → bSO E9 ctb B (n, smT)) (hn : 0 ≤ n) : bMT E ctb (B + bXX) 237 sc241 := bMT_m (Nat.add_le_add_left (show 1000000 * (0 + 1) ≤ bXX by decide) B) (st241 (by omega) (bSO_le hn (h E rfl)))
set_option maxRecDepth 100000 in
theorem tk242 {E : zE} (hE : E.1 ≤ 4000) {B n : Nat} (h : ∀ E9 : zE, E9.1 = E.1 → bSO E9 ctb B (n, smT)) (hn : 0 ≤ n) : bMT E ctb (B + bXX) 237 sc242 := bMT_m (Nat.add_le_add_left (show 1000000 * (0 + 1) ≤ bXX by decide) B) (st242 (by omega) (bSO_le hn (h E rfl)))
set_option maxRecDepth 100000 in
theorem tk243 {E : zE} (hE : E.1 ≤ 4000) {B n : Nat} (h : ∀ E9 : zE, E9.1 = E.1 → bSO E9 ctb B (n, smT)) (hn : 0 ≤ n) : bMT E ctb (B + bXX) 237 sc243 := bMT_m (Nat.add_le_add_left (show 1000000 * (0 + 1) ≤ bXX by decide) B) (st243 (by omega) (bSO_le hn (h E rfl)))
set_option maxRecDepth 100000 in
theorem tk244 {E : zE} (hE : E.1 ≤ 4000) {B n : Nat} (h : ∀ E9 : zE, E9.1 = E.1 → bSO E9 ctb B (n, smT)) (hn : 0 ≤ n) : bMT E ctb (B + bXX) 237 sc244 := bMT_m (Nat.add_le_add_left (show 1000000 * (0 + 1) ≤ bXX by decide) B) (st244 (by omega) (bSO_le hn (h E rfl)))
set_option maxRecDepth 100000 in
theorem tk245 {E : zE} (hE : E.1 ≤ 4000) {B n : Nat} (h : ∀ E9 : zE, E9.1 = E.1 → bSO E9 ctb B (n, smT)) (hn : 0 ≤ n) : bMT E ctb (B + bXX) 237 sc245 := bMT_m (Nat.add_le_add_left (show 1000000 * (0 + 1) ≤ bXX by decide) B) (st245 (by omega) (bSO_le hn (h E rfl)))
set_option maxRecDepth 100000 in
theorem tk246 {E : zE} (hE : E.1 ≤ 4000) {B n : Nat} (h : ∀ E9 : zE, E9.1 = E.1 → bSO E9 ctb B (n, smT)) (hn : 0 ≤ n) : bMT E ctb (B + bXX) 237 sc246 := bMT_m (Nat.add_le_add_left (show 1000000 * (0 + 1) ≤ bXX by decide) B) (st246 (by omega) (bSO_le hn (h E rfl)))
set_option maxRecDepth 100000 in
theorem tk247 {E : zE} (hE : E.1 ≤ 4000) {B n : Nat} (h : ∀ E9 : zE, E9.1 = E.1 → bSO E9 ctb B (n, smT)) (hn : 0 ≤ n) : bMT E ctb (B + bXX) 237 sc247 := bMT_m (Nat.add_le_add_left (show 1000000 * (0 + 1) ≤ bXX by decide) B) (st247 (by omega) (bSO_le hn (h E rfl)))
set_option maxRecDepth 100000 in
theorem tk248 {E : zE} (hE : E.1 ≤ 4000) {B n : Nat} (h : ∀ E9 : zE, E9.1 = E.1 → bSO E9 ctb B (n, smT)) (hn : 0 ≤ n) : bMT E ctb (B + bXX) 237 sc248 := bMT_m (Nat.add_le_add_left (show 1000000 * (0 + 1) ≤ bXX by decide) B) (st248 (by omega) (bSO_le hn (h E rfl)))
set_option maxRecDepth 100000 in
theorem tk249 {E : zE} (hE : E.1 ≤ 4000) {B n : Nat} (h : ∀ E9 : zE, E9.1 = E.1 → bSO E9 ctb B (n, smT)) (hn : 0 ≤ n) : bMT E ctb (B + bXX) 237 sc249 := bMT_m (Nat.add_le_add_left (show 1000000 * (0 + 1) ≤ bXX by decide) B) (st249 (by omega) (bSO_le hn (h E rfl)))
set_option maxRecDepth 100000 in
theorem tk250 {E : zE} (hE : E.1 ≤ 4000) {B n : Nat} (h : ∀ E9 : zE, E9.1 = E.1 → bSO E9 ctb B (n, smT)) (hn : 0 ≤ n) : bMT E ctb (B + bXX) 237 sc250 := bMT_m (Nat.add_le_add_left (show 1000000 * (0 + 1) ≤ bXX by decide) B) (st250 (by omega) (bSO_le hn (h E rfl)))
set_option maxRecDepth 100000 in
theorem tk251 {E : zE} (hE : E.1 ≤ 4000) {B n : Nat} (h : ∀ E9 : zE, E9.1 = E.1 → bSO E9 ctb B (n, smT)) (hn : 0 ≤ n) : bMT E ctb (B + bXX) 237 sc251 := bMT_m (Nat.add_le_add_left (show 1000000 * (0 + 1) ≤ bXX by decide) B) (st251 (by omega) (bSO_le hn (h E rfl)))
set_option maxRecDepth 100000 in
theorem tk252 {E : zE} (hE : E.1 ≤ 4000) {B n : Nat} (h : ∀ E9 : zE, E9.1 = E.1 → bSO E9 ctb B (n, smT)) (hn : 0 ≤ n) : bMT E ctb (B + bXX) 237 sc252 := bMT_m (Nat.add_le_add_left (show 1000000 * (0 + 1) ≤ bXX by decide) B) (st252 (by omega) (bSO_le hn (h E rfl)))
set_option maxRecDepth 100000 in
theorem tk253 {E : zE} (hE : E.1 ≤ 4000) {B n : Nat} (h : ∀ E9 : zE, E9.1 = E.1 → bSO E9 ctb B (n, smT)) (hn : 0 ≤ n) : bMT E ctb (B + bXX) 237 sc253 := bMT_m (Nat.add_le_add_left (show 1000000 * (0 + 1) ≤ bXX by decide) B) (st253 (by omega) (bSO_le hn (h E rfl)))
set_option maxRecDepth 100000 in
theorem tk254 {E : zE} (hE : E.1 ≤ 4000) {B n : Nat} (h : ∀ E9 : zE, E9.1 = E.1 → bSO E9 ctb B (n, smT)) (hn : 0 ≤ n) : bMT E ctb (B + bXX) 237 sc254 := bMT_m (Nat.add_le_add_left (show 1000000 * (0 + 1) ≤ bXX by decide) B) (st254 (by omega) (bSO_le hn (h E rfl)))
set_option maxRecDepth 100000 in
theorem tk255 {E : zE} (hE : E.1 ≤ 4000) {B n : Nat} (h : ∀ E9 : zE, E9.1 = E.1 → bSO E9 ctb B (n, smT)) (hn : 0 ≤ n) : bMT E ctb (B + bXX) 237 sc255 := bMT_m (Nat.add_le_add_left (show 1000000 * (0 + 1) ≤ bXX by decide) B) (st255 (by omega) (bSO_le hn (h E rfl)))
set_option maxRecDepth 100000 in
theorem tk256 {E : zE} (hE : E.1 ≤ 4000) {B n : Nat} (h : ∀ E9 : zE, E9.1 = E.1 → bSO E9 ctb B (n, smT)) (hn : 0 ≤ n) : bMT E ctb (B + bXX) 237 sc256 := bMT_m (Nat.add_le_add_left (show 1000000 * (0 + 1) ≤ bXX by decide) B) (st256 (by omega) (bSO_le hn (h E rfl)))
set_option maxRecDepth 100000 in
theorem tk257 {E : zE} (hE : E.1 ≤ 4000) {B n : Nat} (h : ∀ E9 : zE, E9.1 = E.1 → bSO E9 ctb B (n, smT)) (hn : 0 ≤ n) : bMT E ctb (B + bXX) 237 sc257 := bMT_m (Nat.add_le_add_left (show 1000000 * (0 + 1) ≤ bXX by decide) B) (st257 (by omega) (bSO_le hn (h E rfl)))
set_option maxRecDepth 100000 in
theorem tk258 {E : zE} (hE : E.1 ≤ 4000) {B n : Nat} (h : ∀ E9 : zE, E9.1 = E.1 → bSO E9 ctb B (n, smT)) (hn : 0 ≤ n) : bMT E ctb (B + bXX) 237 sc258 := bMT_m (Nat.add_le_add_left (show 1000000 * (0 + 1) ≤ bXX by decide) B) (st258 (by omega) (bSO_le hn (h E rfl)))
set_option maxRecDepth 100000 in
theorem tk259 {E : zE} (hE : E.1 ≤ 4000) {B n : Nat} (h : ∀ E9 : zE, E9.1 = E.1 → bSO E9 ctb B (n, smT)) (hn : 0 ≤ n) : bMT E ctb (B + bXX) 237 sc259 := bMT_m (Nat.add_le_add_left (show 1000000 * (0 + 1) ≤ bXX by decide) B) (st259 (by omega) (bSO_le hn (h E rfl)))
set_option maxRecDepth 100000 in
theorem tk260 {E : zE} (hE : E.1 ≤ 4000) {B n : Nat} (h : ∀ E9 : zE, E9.1 = E.1 → bSO E9 ctb B (n, smT)) (hn : 0 ≤ n) : bMT E ctb (B + bXX) 237 sc260 := bMT_m (Nat.add_le_add_left (show 1000000 * (0 + 1) ≤ bXX by decide) B) (st260 (by omega) (bSO_le hn (h E rfl)))
set_option maxRecDepth 100000 in
theorem tk261 {E : zE} (hE : E.1 ≤ 4000) {B n : Nat} (h : ∀ E9 : zE, E9.1 = E.1 → bSO E9 ctb B (n, smT)) (hn : 0 ≤ n) : bMT E ctb (B + bXX) 237 sc261 := bMT_m (Nat.add_le_add_left (show 1000000 * (0 + 1) ≤ bXX by decide) B) (st261 (by omega) (bSO_le hn (h E rfl)))
set_option maxRecDepth 100000 in
theorem tk262 {E : zE} (hE : E.1 ≤ 4000) {B n : Nat} (h : ∀ E9 : zE, E9.1 = E.1 → bSO E9 ctb B (n, smT)) (hn : 0 ≤ n) : bMT E ctb (B + bXX) 237 sc262 := bMT_m (Nat.add_le_add_left (show 1000000 * (0 + 1) ≤ bXX by decide) B) (st262 (by omega) (bSO_le hn (h E rfl)))
set_option maxRecDepth 100000 in
theorem tk263 {E : zE} (hE : E.1 ≤ 4000) {B n : Nat} (h : ∀ E9 : zE, E9.1 = E.1 → bSO E9 ctb B (n, smT)) (hn : 0 ≤ n) : bMT E ctb (B + bXX) 237 sc263 := bMT_m (Nat.add_le_add_left (show 1000000 * (0 + 1) ≤ bXX by decide) B) (st263 (by omega) (bSO_le hn (h E rfl)))
set_option maxRecDepth 100000 in
theorem tk264 {E : zE} (hE : E.1 ≤ 4000) {B n : Nat} (h : ∀ E9 : zE, E9.1 = E.1 → bSO E9 ctb B (n, smT)) (hn : 0 ≤ n) : bMT E ctb (B + bXX) 237 sc264 := bMT_m (Nat.add_le_add_left (show 1000000 * (0 + 1) ≤ bXX by decide) B) (st264 (by omega) (bSO_le hn (h E rfl)))
set_option maxRecDepth 100000 in
theorem tk265 {E : zE} (hE : E.1 ≤ 4000) {B n : Nat} (h : ∀ E9 : zE, E9.1 = E.1 → bSO E9 ctb B (n, smT)) (hn : 0 ≤ n) : bMT E ctb (B + bXX) 237 sc265 := bMT_m (Nat.add_le_add_left (show 1000000 * (0 + 1) ≤ bXX by decide) B) (st265 (by omega) (bSO_le hn (h E rfl)))
set_option maxRecDepth 100000 in
theorem tk266 {E : zE} (hE : E.1 ≤ 4000) {B n : Nat} (h : ∀ E9 : zE, E9.1 = E.1 → bSO E9 ctb B (n, smT)) (hn : 2 ≤ n) : bMT E ctb (B + bXX) 240 sc266 := bMT_m (Nat.add_le_add_left (show 1000000 * (399 + 1) ≤ bXX by decide) B) (st266 (by omega) (bSO_le hn (h E rfl)))
set_option maxRecDepth 100000 in
theorem tk267 {E : zE} (hE : E.1 ≤ 4000) {B n : Nat} (h : ∀ E9 : zE, E9.1 = E.1 → bSO E9 ctb B (n, smT)) (hn : 2 ≤ n) : bMT E ctb (B + bXX) 240 sc267 := bMT_m (Nat.add_le_add_left (show 1000000 * (402 + 1) ≤ bXX by decide) B) (st267 (by omega) (bSO_le hn (h E rfl)))
set_option maxRecDepth 100000 in
theorem tk268 {E : zE} (hE : E.1 ≤ 4000) {B n : Nat} (h : ∀ E9 : zE, E9.1 = E.1 → bSO E9 ctb B (n, smT)) (hn : 2 ≤ n) : bMT E ctb (B + bXX) 240 sc268 := bMT_m (Nat.add_le_add_left (show 1000000 * (399 + 1) ≤ bXX by decide) B) (st268 (by omega) (bSO_le hn (h E rfl)))
set_option maxRecDepth 100000 in
theorem tk269 {E : zE} (hE : E.1 ≤ 4000) {B n : Nat} (h : ∀ E9 : zE, E9.1 = E.1 → bSO E9 ctb B (n, smT)) (hn : 2 ≤ n) : bMT E ctb (B + bXX) 240 sc269 := bMT_m (Nat.add_le_add_left (show 1000000 * (398 + 1) ≤ bXX by decide) B) (st269 (by omega) (bSO_le hn (h E rfl)))
set_option maxRecDepth 100000 in
theorem tk270 {E : zE} (hE : E.1 ≤ 4000) {B n : Nat} (h : ∀ E9 : zE, E9.1 = E.1 → bSO E9 ctb B (n, smT)) (hn : 2 ≤ n) : bMT E ctb (B + bXX) 240 sc270 := bMT_m (Nat.add_le_add_left (show 1000000 * (397 + 1) ≤ bXX by decide) B) (st270 (by omega) (bSO_le hn (h E rfl)))
set_option maxRecDepth 100000 in
theorem tk271 {E : zE} (hE : E.1 ≤ 4000) {B n : Nat} (h : ∀ E9 : zE, E9.1 = E.1 → bSO E9 ctb B (n, smT)) (hn : 2 ≤ n) : bMT E ctb (B + bXX) 240 sc271 := bMT_m (Nat.add_le_add_left (show 1000000 * (398 + 1) ≤ bXX by decide) B) (st271 (by omega) (bSO_le hn (h E rfl)))
set_option maxRecDepth 100000 in
theorem tk272 {E : zE} (hE : E.1 ≤ 4000) {B n : Nat} (h : ∀ E9 : zE, E9.1 = E.1 → bSO E9 ctb B (n, smT)) (hn : 2 ≤ n) : bMT E ctb (B + bXX) 240 sc272 := bMT_m (Nat.add_le_add_left (show 1000000 * (397 + 1) ≤ bXX by decide) B) (st272 (by omega) (bSO_le hn (h E rfl)))
set_option maxRecDepth 100000 in
theorem tk273 {E : zE} (hE : E.1 ≤ 4000) {B n : Nat} (h : ∀ E9 : zE, E9.1 = E.1 → bSO E9 ctb B (n, smT)) (hn : 2 ≤ n) : bMT E ctb (B + bXX) 240 sc273 := bMT_m (Nat.add_le_add_left (show 1000000 * (398 + 1) ≤ bXX by decide) B) (st273 (by omega) (bSO_le hn (h E rfl)))
set_option maxRecDepth 100000 in
theorem tk274 {E : zE} (hE : E.1 ≤ 4000) {B n : Nat} (h : ∀ E9 : zE, E9.1 = E.1 → bSO E9 ctb B (n, smT)) (hn : 0 ≤ n) : bMT E ctb (B + bXX) 243 sc274 := bMT_m (Nat.add_le_add_left (show 1000000 * (0 + 1) ≤ bXX by decide) B) (st274 (by omega) (bSO_le hn (h E rfl)))
set_option maxRecDepth 100000 in
theorem tk275 {E : zE} (hE : E.1 ≤ 4000) {B n : Nat} (h : ∀ E9 : zE, E9.1 = E.1 → bSO E9 ctb B (n, smT)) (hn : 4 ≤ n) : bMT E ctb (B + bXX) 247 sc275 := bMT_m (Nat.add_le_add_left (show 1000000 * (13 + 1) ≤ bXX by decide) B) (st275 (by omega) (bSO_le hn (h E rfl)))
set_option maxRecDepth 100000 in
theorem tk276 {E : zE} (hE : E.1 ≤ 4000) {B n : Nat} (h : ∀ E9 : zE, E9.1 = E.1 → bSO E9 ctb B (n, smT)) (hn : 5 ≤ n) : bMT E ctb (B + bXX) 249 sc276 := bMT_m (Nat.add_le_add_left (show 1000000 * (39 + 1) ≤ bXX by decide) B) (st276 (by omega) (bSO_le hn (h E rfl)))
set_option maxRecDepth 100000 in
theorem tk293 {E : zE} (hE : E.1 ≤ 4000) {B n : Nat} (h : ∀ E9 : zE, E9.1 = E.1 → bSO E9 ctb B (n, smT)) (hn : 3 ≤ n) : bMT E ctb (B + bXX) 256 sc293 := bMT_m (Nat.add_le_add_left (show 1000000 * (0 + 1) ≤ bXX by decide) B) (st293 (by omega) (bSO_le hn (h E rfl)))
set_option maxRecDepth 100000 in
theorem tk294 {E : zE} (hE : E.1 ≤ 4000) {B n : Nat} (h : ∀ E9 : zE, E9.1 = E.1 → bSO E9 ctb B (n, smT)) (hn : 4 ≤ n) : bMT E ctb (B + bXX) 257 sc294 := bMT_m (Nat.add_le_add_left (show 1000000 * (394 + 1) ≤ bXX by decide) B) (st294 (by omega) (bSO_le hn (h E rfl)))
set_option maxRecDepth 100000 in
theorem tk295 {E : zE} (hE : E.1 ≤ 4000) {B n : Nat} (h : ∀ E9 : zE, E9.1 = E.1 → bSO E9 ctb B (n, smT)) (hn : 23 ≤ n) : bMT E ctb (B + bXX) 259 sc295 := bMT_m (Nat.add_le_add_left (show 1000000 * (0 + 1) ≤ bXX by decide) B) (st295 (by omega) (bSO_le hn (h E rfl)))
set_option maxRecDepth 100000 in
theorem tk296 {E : zE} (hE : E.1 ≤ 4000) {B n : Nat} (h : ∀ E9 : zE, E9.1 = E.1 → bSO E9 ctb B (n, smT)) (hn : 20 ≤ n) : bMT E ctb (B + bXX) 259 sc296 := bMT_m (Nat.add_le_add_left (show 1000000 * (0 + 1) ≤ bXX by decide) B) (st296 (by omega) (bSO_le hn (h E rfl)))
set_option maxRecDepth 100000 in
theorem tk297 {E : zE} (hE : E.1 ≤ 4000) {B n : Nat} (h : ∀ E9 : zE, E9.1 = E.1 → bSO E9 ctb B (n, smT)) (hn : 17 ≤ n) : bMT E ctb (B + bXX) 259 sc297 := bMT_m (Nat.add_le_add_left (show 1000000 * (0 + 1) ≤ bXX by decide) B) (st297 (by omega) (bSO_le hn (h E rfl)))
set_option maxRecDepth 100000 in
theorem tk298 {E : zE} (hE : E.1 ≤ 4000) {B n : Nat} (h : ∀ E9 : zE, E9.1 = E.1 → bSO E9 ctb B (n, smT)) (hn : 14 ≤ n) : bMT E ctb (B + bXX) 259 sc298 := bMT_m (Nat.add_le_add_left (show 1000000 * (0 + 1) ≤ bXX by decide) B) (st298 (by omega) (bSO_le hn (h E rfl)))
set_option maxRecDepth 100000 in
theorem tk299 {E : zE} (hE : E.1 ≤ 4000) {B n : Nat} (h : ∀ E9 : zE, E9.1 = E.1 → bSO E9 ctb B (n, smT)) (hn : 11 ≤ n) : bMT E ctb (B + bXX) 259 sc299 := bMT_m (Nat.add_le_add_left (show 1000000 * (0 + 1) ≤ bXX by decide) B) (st299 (by omega) (bSO_le hn (h E rfl)))
set_option maxRecDepth 100000 in
theorem tk300 {E : zE} (hE : E.1 ≤ 4000) {B n : Nat} (h : ∀ E9 : zE, E9.1 = E.1 → bSO E9 ctb B (n, smT)) (hn : 8 ≤ n) : bMT E ctb (B + bXX) 259 sc300 := bMT_m (Nat.add_le_add_left (show 1000000 * (0 + 1) ≤ bXX by decide) B) (st300 (by omega) (bSO_le hn (h E rfl)))
set_option maxRecDepth 100000 in
theorem tk301 {E : zE} (hE : E.1 ≤ 4000) {B n : Nat} (h : ∀ E9 : zE, E9.1 = E.1 → bSO E9 ctb B (n, smT)) (hn : 5 ≤ n) : bMT E ctb (B + bXX) 259 sc301 := bMT_m (Nat.add_le_add_left (show 1000000 * (0 + 1) ≤ bXX by decide) B) (st301 (by omega) (bSO_le hn (h E rfl)))
set_option maxRecDepth 100000 in
theorem tk302 {E : zE} (hE : E.1 ≤ 4000) {B n : Nat} (h : ∀ E9 : zE, E9.1 = E.1 → bSO E9 ctb B (n, smT)) (hn : 24 ≤ n) : bMT E ctb (B + bXX) 260 sc302 := bMT_m (Nat.add_le_add_left (show 1000000 * (394 + 1) ≤ bXX by decide) B) (st302 (by omega) (bSO_le hn (h E rfl)))
set_option maxRecDepth 100000 in
theorem tk303 {E : zE} (hE : E.1 ≤ 4000) {B n : Nat} (h : ∀ E9 : zE, E9.1 = E.1 → bSO E9 ctb B (n, smT)) (hn : 21 ≤ n) : bMT E ctb (B + bXX) 260 sc303 := bMT_m (Nat.add_le_add_left (show 1000000 * (394 + 1) ≤ bXX by decide) B) (st303 (by omega) (bSO_le hn (h E rfl)))
set_option maxRecDepth 100000 in
theorem tk304 {E : zE} (hE : E.1 ≤ 4000) {B n : Nat} (h : ∀ E9 : zE, E9.1 = E.1 → bSO E9 ctb B (n, smT)) (hn : 18 ≤ n) : bMT E ctb (B + bXX) 260 sc304 := bMT_m (Nat.add_le_add_left (show 1000000 * (392 + 1) ≤ bXX by decide) B) (st304 (by omega) (bSO_le hn (h E rfl)))
set_option maxRecDepth 100000 in
theorem tk305 {E : zE} (hE : E.1 ≤ 4000) {B n : Nat} (h : ∀ E9 : zE, E9.1 = E.1 → bSO E9 ctb B (n, smT)) (hn : 15 ≤ n) : bMT E ctb (B + bXX) 260 sc305 := bMT_m (Nat.add_le_add_left (show 1000000 * (392 + 1) ≤ bXX by decide) B) (st305 (by omega) (bSO_le hn (h E rfl)))
set_option maxRecDepth 100000 in
theorem tk306 {E : zE} (hE : E.1 ≤ 4000) {B n : Nat} (h : ∀ E9 : zE, E9.1 = E.1 → bSO E9 ctb B (n, smT)) (hn : 12 ≤ n) : bMT E ctb (B + bXX) 260 sc306 := bMT_m (Nat.add_le_add_left (show 1000000 * (394 + 1) ≤ bXX by decide) B) (st306 (by omega) (bSO_le hn (h E rfl)))
set_option maxRecDepth 100000 in
theorem tk307 {E : zE} (hE : E.1 ≤ 4000) {B n : Nat} (h : ∀ E9 : zE, E9.1 = E.1 → bSO E9 ctb B (n, smT)) (hn : 9 ≤ n) : bMT E ctb (B + bXX) 260 sc307 := bMT_m (Nat.add_le_add_left (show 1000000 * (394 + 1) ≤ bXX by decide) B) (st307 (by omega) (bSO_le hn (h E rfl)))
set_option maxRecDepth 100000 in
theorem tk308 {E : zE} (hE : E.1 ≤ 4000) {B n : Nat} (h : ∀ E9 : zE, E9.1 = E.1 → bSO E9 ctb B (n, smT)) (hn : 6 ≤ n) : bMT E ctb (B + bXX) 260 sc308 := bMT_m (Nat.add_le_add_left (show 1000000 * (394 + 1) ≤ bXX by decide) B) (st308 (by omega) (bSO_le hn (h E rfl)))
set_option maxRecDepth 100000 in
theorem tk309 {E : zE} (hE : E.1 ≤ 4000) {B n : Nat} (h : ∀ E9 : zE, E9.1 = E.1 → bSO E9 ctb B (n, smT)) (hn : 25 ≤ n) : bMT E ctb (B + bXX) 261 sc309 := bMT_m (Nat.add_le_add_left (show 1000000 * (394 + 1) ≤ bXX by decide) B) (st309 (by omega) (bSO_le hn (h E rfl)))
set_option maxRecDepth 100000 in
theorem tk310 {E : zE} (hE : E.1 ≤ 4000) {B n : Nat} (h : ∀ E9 : zE, E9.1 = E.1 → bSO E9 ctb B (n, smT)) (hn : 22 ≤ n) : bMT E ctb (B + bXX) 261 sc310 := bMT_m (Nat.add_le_add_left (show 1000000 * (394 + 1) ≤ bXX by decide) B) (st310 (by omega) (bSO_le hn (h E rfl)))
set_option maxRecDepth 100000 in
theorem tk311 {E : zE} (hE : E.1 ≤ 4000) {B n : Nat} (h : ∀ E9 : zE, E9.1 = E.1 → bSO E9 ctb B (n, smT)) (hn : 19 ≤ n) : bMT E ctb (B + bXX) 261 sc311 := bMT_m (Nat.add_le_add_left (show 1000000 * (393 + 1) ≤ bXX by decide) B) (st311 (by omega) (bSO_le hn (h E rfl)))
set_option maxRecDepth 100000 in
theorem tk312 {E : zE} (hE : E.1 ≤ 4000) {B n : Nat} (h : ∀ E9 : zE, E9.1 = E.1 → bSO E9 ctb B (n, smT)) (hn : 16 ≤ n) : bMT E ctb (B + bXX) 261 sc312 := bMT_m (Nat.add_le_add_left (show 1000000 * (392 + 1) ≤ bXX by decide) B) (st312 (by omega) (bSO_le hn (h E rfl)))
set_option maxRecDepth 100000 in
theorem tk313 {E : zE} (hE : E.1 ≤ 4000) {B n : Nat} (h : ∀ E9 : zE, E9.1 = E.1 → bSO E9 ctb B (n, smT)) (hn : 13 ≤ n) : bMT E ctb (B + bXX) 261 sc313 := bMT_m (Nat.add_le_add_left (show 1000000 * (393 + 1) ≤ bXX by decide) B) (st313 (by omega) (bSO_le hn (h E rfl)))
set_option maxRecDepth 100000 in
theorem tk314 {E : zE} (hE : E.1 ≤ 4000) {B n : Nat} (h : ∀ E9 : zE, E9.1 = E.1 → bSO E9 ctb B (n, smT)) (hn : 10 ≤ n) : bMT E ctb (B + bXX) 261 sc314 := bMT_m (Nat.add_le_add_left (show 1000000 * (394 + 1) ≤ bXX by decide) B) (st314 (by omega) (bSO_le hn (h E rfl)))
set_option maxRecDepth 100000 in
theorem tk315 {E : zE} (hE : E.1 ≤ 4000) {B n : Nat} (h : ∀ E9 : zE, E9.1 = E.1 → bSO E9 ctb B (n, smT)) (hn : 7 ≤ n) : bMT E ctb (B + bXX) 261 sc315 := bMT_m (Nat.add_le_add_left (show 1000000 * (394 + 1) ≤ bXX by decide) B) (st315 (by omega) (bSO_le hn (h E rfl)))
set_option maxRecDepth 100000 in
theorem tk316 {E : zE} (hE : E.1 ≤ 4000) {B n : Nat} (h : ∀ E9 : zE, E9.1 = E.1 → bSO E9 ctb B (n, smT)) (hn : 26 ≤ n) : bMT E ctb (B + bXX) 262 sc316 := bMT_m (Nat.add_le_add_left (show 1000000 * (0 + 1) ≤ bXX by decide) B) (st316 (by omega) (bSO_le hn (h E rfl)))
set_option maxRecDepth 100000 in
theorem tk317 {E : zE} (hE : E.1 ≤ 4000) {B n : Nat} (h : ∀ E9 : zE, E9.1 = E.1 → bSO E9 ctb B (n, smT)) (hn : 26 ≤ n) : bMT E ctb (B + bXX) 262 sc317 := bMT_m (Nat.add_le_add_left (show 1000000 * (0 + 1) ≤ bXX by decide) B) (st317 (by omega) (bSO_le hn (h E rfl)))
set_option maxRecDepth 100000 in
theorem tk318 {E : zE} (hE : E.1 ≤ 4000) {B n : Nat} (h : ∀ E9 : zE, E9.1 = E.1 → bSO E9 ctb B (n, smT)) (hn : 26 ≤ n) : bMT E ctb (B + bXX) 262 sc318 := bMT_m (Nat.add_le_add_left (show 1000000 * (0 + 1) ≤ bXX by decide) B) (st318 (by omega) (bSO_le hn (h E rfl)))
set_option maxRecDepth 100000 in
theorem tk319 {E : zE} (hE : E.1 ≤ 4000) {B n : Nat} (h : ∀ E9 : zE, E9.1 = E.1 → bSO E9 ctb B (n, smT)) (hn : 26 ≤ n) : bMT E ctb (B + bXX) 262 sc319 := bMT_m (Nat.add_le_add_left (show 1000000 * (0 + 1) ≤ bXX by decide) B) (st319 (by omega) (bSO_le hn (h E rfl)))
set_option maxRecDepth 100000 in
theorem tk320 {E : zE} (hE : E.1 ≤ 4000) {B n : Nat} (h : ∀ E9 : zE, E9.1 = E.1 → bSO E9 ctb B (n, smT)) (hn : 26 ≤ n) : bMT E ctb (B + bXX) 262 sc320 := bMT_m (Nat.add_le_add_left (show 1000000 * (0 + 1) ≤ bXX by decide) B) (st320 (by omega) (bSO_le hn (h E rfl)))
set_option maxRecDepth 100000 in
theorem tk321 {E : zE} (hE : E.1 ≤ 4000) {B n : Nat} (h : ∀ E9 : zE, E9.1 = E.1 → bSO E9 ctb B (n, smT)) (hn : 26 ≤ n) : bMT E ctb (B + bXX) 262 sc321 := bMT_m (Nat.add_le_add_left (show 1000000 * (0 + 1) ≤ bXX by decide) B) (st321 (by omega) (bSO_le hn (h E rfl)))
set_option maxRecDepth 100000 in
theorem tk322 {E : zE} (hE : E.1 ≤ 4000) {B n : Nat} (h : ∀ E9 : zE, E9.1 = E.1 → bSO E9 ctb B (n, smT)) (hn : 26 ≤ n) : bMT E ctb (B + bXX) 262 sc322 := bMT_m (Nat.add_le_add_left (show 1000000 * (0 + 1) ≤ bXX by decide) B) (st322 (by omega) (bSO_le hn (h E rfl)))
set_option maxRecDepth 100000 in
theorem tk323 {E : zE} (hE : E.1 ≤ 4000) {B n : Nat} (h : ∀ E9 : zE, E9.1 = E.1 → bSO E9 ctb B (n, smT)) (hn : 26 ≤ n) : bMT E ctb (B + bXX) 262 sc323 := bMT_m (Nat.add_le_add_left (show 1000000 * (0 + 1) ≤ bXX by decide) B) (st323 (by omega) (bSO_le hn (h E rfl)))
set_option maxRecDepth 100000 in
theorem tk324 {E : zE} (hE : E.1 ≤ 4000) {B n : Nat} (h : ∀ E9 : zE, E9.1 = E.1 → bSO E9 ctb B (n, smT)) (hn : 26 ≤ n) : bMT E ctb (B + bXX) 262 sc324 := bMT_m (Nat.add_le_add_left (show 1000000 * (0 + 1) ≤ bXX by decide) B) (st324 (by omega) (bSO_le hn (h E rfl)))
set_option maxRecDepth 100000 in
theorem tk325 {E : zE} (hE : E.1 ≤ 4000) {B n : Nat} (h : ∀ E9 : zE, E9.1 = E.1 → bSO E9 ctb B (n, smT)) (hn : 26 ≤ n) : bMT E ctb (B + bXX) 262 sc325 := bMT_m (Nat.add_le_add_left (show 1000000 * (0 + 1) ≤ bXX by decide) B) (st325 (by omega) (bSO_le hn (h E rfl)))
set_option maxRecDepth 100000 in
theorem tk326 {E : zE} (hE : E.1 ≤ 4000) {B n : Nat} (h : ∀ E9 : zE, E9.1 = E.1 → bSO E9 ctb B (n, smT)) (hn : 26 ≤ n) : bMT E ctb (B + bXX) 262 sc326 := bMT_m (Nat.add_le_add_left (show 1000000 * (0 + 1) ≤ bXX by decide) B) (st326 (by omega) (bSO_le hn (h E rfl)))
set_option maxRecDepth 100000 in
theorem tk327 {E : zE} (hE : E.1 ≤ 4000) {B n : Nat} (h : ∀ E9 : zE, E9.1 = E.1 → bSO E9 ctb B (n, smT)) (hn : 26 ≤ n) : bMT E ctb (B + bXX) 262 sc327 := bMT_m (Nat.add_le_add_left (show 1000000 * (0 + 1) ≤ bXX by decide) B) (st327 (by omega) (bSO_le hn (h E rfl)))
set_option maxRecDepth 100000 in
theorem tk340 {E : zE} (hE : E.1 ≤ 4000) {B n : Nat} (h : ∀ E9 : zE, E9.1 = E.1 → bSO E9 ctb B (n, smT)) (hn : 8 ≤ n) : bMT E ctb (B + bXX) 264 sc340 := bMT_m (Nat.add_le_add_left (show 1000000 * (16 + 1) ≤ bXX by decide) B) (st340 (by omega) (bSO_le hn (h E rfl)))
set_option maxRecDepth 100000 in
theorem tk341 {E : zE} (hE : E.1 ≤ 4000) {B n : Nat} (h : ∀ E9 : zE, E9.1 = E.1 → bSO E9 ctb B (n, smT)) (hn : 42 ≤ n) : bMT E ctb (B + bXX) 264 sc341 := bMT_m (Nat.add_le_add_left (show 1000000 * (14 + 1) ≤ bXX by decide) B) (st341 (by omega) (bSO_le hn (h E rfl)))
set_option maxRecDepth 100000 in
theorem tk342 {E : zE} (hE : E.1 ≤ 4000) {B n : Nat} (h : ∀ E9 : zE, E9.1 = E.1 → bSO E9 ctb B (n, smT)) (hn : 9 ≤ n) : bMT E ctb (B + bXX) 265 sc342 := bMT_m (Nat.add_le_add_left (show 1000000 * (5 + 1) ≤ bXX by decide) B) (st342 (by omega) (bSO_le hn (h E rfl)))
set_option maxRecDepth 100000 in
theorem tk343 {E : zE} (hE : E.1 ≤ 4000) {B n : Nat} (h : ∀ E9 : zE, E9.1 = E.1 → bSO E9 ctb B (n, smT)) (hn : 43 ≤ n) : bMT E ctb (B + bXX) 266 sc343 := bMT_m (Nat.add_le_add_left (show 1000000 * (3 + 1) ≤ bXX by decide) B) (st343 (by omega) (bSO_le hn (h E rfl)))
set_option maxRecDepth 100000 in
theorem tk345 {E : zE} (hE : E.1 ≤ 4000) {B n : Nat} (h : ∀ E9 : zE, E9.1 = E.1 → bSO E9 ctb B (n, smT)) (hn : 4 ≤ n) : bMT E ctb (B + bXX) 269 sc345 := bMT_m (Nat.add_le_add_left (show 1000000 * (14 + 1) ≤ bXX by decide) B) (st345 (by omega) (bSO_le hn (h E rfl)))
set_option maxRecDepth 100000 in
theorem tk346 {E : zE} (hE : E.1 ≤ 4000) {B n : Nat} (h : ∀ E9 : zE, E9.1 = E.1 → bSO E9 ctb B (n, smT)) (hn : 4 ≤ n) : bMT E ctb (B + bXX) 269 sc346 := bMT_m (Nat.add_le_add_left (show 1000000 * (14 + 1) ≤ bXX by decide) B) (st346 (by omega) (bSO_le hn (h E rfl)))
set_option maxRecDepth 100000 in
theorem tk347 {E : zE} (hE : E.1 ≤ 4000) {B n : Nat} (h : ∀ E9 : zE, E9.1 = E.1 → bSO E9 ctb B (n, smT)) (hn : 4 ≤ n) : bMT E ctb (B + bXX) 269 sc347 := bMT_m (Nat.add_le_add_left (show 1000000 * (14 + 1) ≤ bXX by decide) B) (st347 (by omega) (bSO_le hn (h E rfl)))
set_option maxRecDepth 100000 in
theorem tk348 {E : zE} (hE : E.1 ≤ 4000) {B n : Nat} (h : ∀ E9 : zE, E9.1 = E.1 → bSO E9 ctb B (n, smT)) (hn : 4 ≤ n) : bMT E ctb (B + bXX) 269 sc348 := bMT_m (Nat.add_le_add_left (show 1000000 * (14 + 1) ≤ bXX by decide) B) (st348 (by omega) (bSO_le hn (h E rfl)))
set_option maxRecDepth 100000 in
theorem tk349 {E : zE} (hE : E.1 ≤ 4000) {B n : Nat} (h : ∀ E9 : zE, E9.1 = E.1 → bSO E9 ctb B (n, smT)) (hn : 4 ≤ n) : bMT E ctb (B + bXX) 269 sc349 := bMT_m (Nat.add_le_add_left (show 1000000 * (14 + 1) ≤ bXX by decide) B) (st349 (by omega) (bSO_le hn (h E rfl)))
set_option maxRecDepth 100000 in
theorem tk350 {E : zE} (hE : E.1 ≤ 4000) {B n : Nat} (h : ∀ E9 : zE, E9.1 = E.1 → bSO E9 ctb B (n, smT)) (hn : 3 ≤ n) : bMT E ctb (B + bXX) 270 sc350 := bMT_m (Nat.add_le_add_left (show 1000000 * (10 + 1) ≤ bXX by decide) B) (st350 (by omega) (bSO_le hn (h E rfl)))
set_option maxRecDepth 100000 in
theorem tk351 {E : zE} (hE : E.1 ≤ 4000) {B n : Nat} (h : ∀ E9 : zE, E9.1 = E.1 → bSO E9 ctb B (n, smT)) (hn : 1 ≤ n) : bMT E ctb (B + bXX) 271 sc351 := bMT_m (Nat.add_le_add_left (show 1000000 * (14 + 1) ≤ bXX by decide) B) (st351 (by omega) (bSO_le hn (h E rfl)))
set_option maxRecDepth 100000 in
theorem tk352 {E : zE} (hE : E.1 ≤ 4000) {B n : Nat} (h : ∀ E9 : zE, E9.1 = E.1 → bSO E9 ctb B (n, smT)) (hn : 5 ≤ n) : bMT E ctb (B + bXX) 272 sc352 := bMT_m (Nat.add_le_add_left (show 1000000 * (0 + 1) ≤ bXX by decide) B) (st352 (by omega) (bSO_le hn (h E rfl)))
set_option maxRecDepth 100000 in
theorem tk353 {E : zE} (hE : E.1 ≤ 4000) {B n : Nat} (h : ∀ E9 : zE, E9.1 = E.1 → bSO E9 ctb B (n, smT)) (hn : 2 ≤ n) : bMT E ctb (B + bXX) 273 sc353 := bMT_m (Nat.add_le_add_left (show 1000000 * (0 + 1) ≤ bXX by decide) B) (st353 (by omega) (bSO_le hn (h E rfl)))
set_option maxRecDepth 100000 in
theorem tk354 {E : zE} (hE : E.1 ≤ 4000) {B n : Nat} (h : ∀ E9 : zE, E9.1 = E.1 → bSO E9 ctb B (n, smT)) (hn : 2 ≤ n) : bMT E ctb (B + bXX) 274 sc354 := bMT_m (Nat.add_le_add_left (show 1000000 * (14 + 1) ≤ bXX by decide) B) (st354 (by omega) (bSO_le hn (h E rfl)))
set_option maxRecDepth 100000 in
theorem tk355 {E : zE} (hE : E.1 ≤ 4000) {B n : Nat} (h : ∀ E9 : zE, E9.1 = E.1 → bSO E9 ctb B (n, smT)) (hn : 3 ≤ n) : bMT E ctb (B + bXX) 275 sc355 := bMT_m (Nat.add_le_add_left (show 1000000 * (0 + 1) ≤ bXX by decide) B) (st355 (by omega) (bSO_le hn (h E rfl)))
set_option maxRecDepth 100000 in
theorem tk356 {E : zE} (hE : E.1 ≤ 4000) {B n : Nat} (h : ∀ E9 : zE, E9.1 = E.1 → bSO E9 ctb B (n, smT)) (hn : 2 ≤ n) : bMT E ctb (B + bXX) 276 sc356 := bMT_m (Nat.add_le_add_left (show 1000000 * (0 + 1) ≤ bXX by decide) B) (st356 (by omega) (bSO_le hn (h E rfl)))
set_option maxRecDepth 100000 in
theorem tk357 {E : zE} (hE : E.1 ≤ 4000) {B n : Nat} (h : ∀ E9 : zE, E9.1 = E.1 → bSO E9 ctb B (n, smT)) (hn : 2 ≤ n) : bMT E ctb (B + bXX) 277 sc357 := bMT_m (Nat.add_le_add_left (show 1000000 * (0 + 1) ≤ bXX by decide) B) (st357 (by omega) (bSO_le hn (h E rfl)))
set_option maxRecDepth 100000 in
theorem tk358 {E : zE} (hE : E.1 ≤ 4000) {B n : Nat} (h : ∀ E9 : zE, E9.1 = E.1 → bSO E9 ctb B (n, smT)) (hn : 5 ≤ n) : bMT E ctb (B + bXX) 278 sc358 := bMT_m (Nat.add_le_add_left (show 1000000 * (0 + 1) ≤ bXX by decide) B) (st358 (by omega) (bSO_le hn (h E rfl)))
set_option maxRecDepth 100000 in
theorem tk359 {E : zE} (hE : E.1 ≤ 4000) {B n : Nat} (h : ∀ E9 : zE, E9.1 = E.1 → bSO E9 ctb B (n, smT)) (hn : 0 ≤ n) : bMT E ctb (B + bXX) 279 sc359 := bMT_m (Nat.add_le_add_left (show 1000000 * (10 + 1) ≤ bXX by decide) B) (st359 (by omega) (bSO_le hn (h E rfl)))
set_option maxRecDepth 100000 in
theorem tk360 {E : zE} (hE : E.1 ≤ 4000) {B n : Nat} (h : ∀ E9 : zE, E9.1 = E.1 → bSO E9 ctb B (n, smT)) (hn : 0 ≤ n) : bMT E ctb (B + bXX) 279 sc360 := bMT_m (Nat.add_le_add_left (show 1000000 * (10 + 1) ≤ bXX by decide) B) (st360 (by omega) (bSO_le hn (h E rfl)))
set_option maxRecDepth 100000 in
theorem tk361 {E : zE} (hE : E.1 ≤ 4000) {B n : Nat} (h : ∀ E9 : zE, E9.1 = E.1 → bSO E9 ctb B (n, smT)) (hn : 0 ≤ n) : bMT E ctb (B + bXX) 279 sc361 := bMT_m (Nat.add_le_add_left (show 1000000 * (10 + 1) ≤ bXX by decide) B) (st361 (by omega) (bSO_le hn (h E rfl)))
set_option maxRecDepth 100000 in
theorem tk362 {E : zE} (hE : E.1 ≤ 4000) {B n : Nat} (h : ∀ E9 : zE, E9.1 = E.1 → bSO E9 ctb B (n, smT)) (hn : 0 ≤ n) : bMT E ctb (B + bXX) 279 sc362 := bMT_m (Nat.add_le_add_left (show 1000000 * (10 + 1) ≤ bXX by decide) B) (st362 (by omega) (bSO_le hn (h E rfl)))
set_option maxRecDepth 100000 in
theorem tk363 {E : zE} (hE : E.1 ≤ 4000) {B n : Nat} (h : ∀ E9 : zE, E9.1 = E.1 → bSO E9 ctb B (n, smT)) (hn : 0 ≤ n) : bMT E ctb (B + bXX) 280 sc363 := bMT_m (Nat.add_le_add_left (show 1000000 * (10 + 1) ≤ bXX by decide) B) (st363 (by omega) (bSO_le hn (h E rfl)))
set_option maxRecDepth 100000 in
theorem tk364 {E : zE} (hE : E.1 ≤ 4000) {B n : Nat} (h : ∀ E9 : zE, E9.1 = E.1 → bSO E9 ctb B (n, smT)) (hn : 0 ≤ n) : bMT E ctb (B + bXX) 281 sc364 := bMT_m (Nat.add_le_add_left (show 1000000 * (397 + 1) ≤ bXX by decide) B) (st364 (by omega) (bSO_le hn (h E rfl)))
set_option maxRecDepth 100000 in
theorem tk365 {E : zE} (hE : E.1 ≤ 4000) {B n : Nat} (h : ∀ E9 : zE, E9.1 = E.1 → bSO E9 ctb B (n, smT)) (hn : 5 ≤ n) : bMT E ctb (B + bXX) 282 sc365 := bMT_m (Nat.add_le_add_left (show 1000000 * (0 + 1) ≤ bXX by decide) B) (st365 (by omega) (bSO_le hn (h E rfl)))
set_option maxRecDepth 100000 in
theorem tk366 {E : zE} (hE : E.1 ≤ 4000) {B n : Nat} (h : ∀ E9 : zE, E9.1 = E.1 → bSO E9 ctb B (n, smT)) (hn : 6 ≤ n) : bMT E ctb (B + bXX) 283 sc366 := bMT_m (Nat.add_le_add_left (show 1000000 * (23 + 1) ≤ bXX by decide) B) (st366 (by omega) (bSO_le hn (h E rfl)))
set_option maxRecDepth 100000 in
theorem tk367 {E : zE} (hE : E.1 ≤ 4000) {B n : Nat} (h : ∀ E9 : zE, E9.1 = E.1 → bSO E9 ctb B (n, smT)) (hn : 7 ≤ n) : bMT E ctb (B + bXX) 284 sc367 := bMT_m (Nat.add_le_add_left (show 1000000 * (102 + 1) ≤ bXX by decide) B) (st367 (by omega) (bSO_le hn (h E rfl)))
set_option maxRecDepth 100000 in
theorem tk368 {E : zE} (hE : E.1 ≤ 4000) {B n : Nat} (h : ∀ E9 : zE, E9.1 = E.1 → bSO E9 ctb B (n, smT)) (hn : 6 ≤ n) : bMT E ctb (B + bXX) 287 sc368 := bMT_m (Nat.add_le_add_left (show 1000000 * (0 + 1) ≤ bXX by decide) B) (st368 (by omega) (bSO_le hn (h E rfl)))
set_option maxRecDepth 100000 in
theorem tk369 {E : zE} (hE : E.1 ≤ 4000) {B n : Nat} (h : ∀ E9 : zE, E9.1 = E.1 → bSO E9 ctb B (n, smT)) (hn : 2 ≤ n) : bMT E ctb (B + bXX) 288 sc369 := bMT_m (Nat.add_le_add_left (show 1000000 * (0 + 1) ≤ bXX by decide) B) (st369 (by omega) (bSO_le hn (h E rfl)))
set_option maxRecDepth 100000 in
theorem tk370 {E : zE} (hE : E.1 ≤ 4000) {B n : Nat} (h : ∀ E9 : zE, E9.1 = E.1 → bSO E9 ctb B (n, smT)) (hn : 2 ≤ n) : bMT E ctb (B + bXX) 290 sc370 := bMT_m (Nat.add_le_add_left (show 1000000 * (0 + 1) ≤ bXX by decide) B) (st370 (by omega) (bSO_le hn (h E rfl)))
set_option maxRecDepth 100000 in
theorem tk371 {E : zE} (hE : E.1 ≤ 4000) {B n : Nat} (h : ∀ E9 : zE, E9.1 = E.1 → bSO E9 ctb B (n, smT)) (hn : 2 ≤ n) : bMT E ctb (B + bXX) 291 sc371 := bMT_m (Nat.add_le_add_left (show 1000000 * (0 + 1) ≤ bXX by decide) B) (st371 (by omega) (bSO_le hn (h E rfl)))
set_option maxRecDepth 100000 in
theorem tk372 {E : zE} (hE : E.1 ≤ 4000) {B n : Nat} (h : ∀ E9 : zE, E9.1 = E.1 → bSO E9 ctb B (n, smT)) (hn : 2 ≤ n) : bMT E ctb (B + bXX) 292 sc372 := bMT_m (Nat.add_le_add_left (show 1000000 * (0 + 1) ≤ bXX by decide) B) (st372 (by omega) (bSO_le hn (h E rfl)))
set_option maxRecDepth 100000 in
theorem tk373 {E : zE} (hE : E.1 ≤ 4000) {B n : Nat} (h : ∀ E9 : zE, E9.1 = E.1 → bSO E9 ctb B (n, smT)) (hn : 0 ≤ n) : bMT E ctb (B + bXX) 293 sc373 := bMT_m (Nat.add_le_add_left (show 1000000 * (3 + 1) ≤ bXX by decide) B) (st373 (by omega) (bSO_le hn (h E rfl)))
set_option maxRecDepth 100000 in
theorem tk374 {E : zE} (hE : E.1 ≤ 4000) {B n : Nat} (h : ∀ E9 : zE, E9.1 = E.1 → bSO E9 ctb B (n, smT)) (hn : 0 ≤ n) : bMT E ctb (B + bXX) 294 sc374 := bMT_m (Nat.add_le_add_left (show 1000000 * (3 + 1) ≤ bXX by decide) B) (st374 (by omega) (bSO_le hn (h E rfl)))
set_option maxRecDepth 100000 in
theorem tk375 {E : zE} (hE : E.1 ≤ 4000) {B n : Nat} (h : ∀ E9 : zE, E9.1 = E.1 → bSO E9 ctb B (n, smT)) (hn : 7 ≤ n) : bMT E ctb (B + bXX) 295 sc375 := bMT_m (Nat.add_le_add_left (show 1000000 * (102 + 1) ≤ bXX by decide) B) (st375 (by omega) (bSO_le hn (h E rfl)))
set_option maxRecDepth 100000 in
theorem tk376 {E : zE} (hE : E.1 ≤ 4000) {B n : Nat} (h : ∀ E9 : zE, E9.1 = E.1 → bSO E9 ctb B (n, smT)) (hn : 2 ≤ n) : bMT E ctb (B + bXX) 296 sc376 := bMT_m (Nat.add_le_add_left (show 1000000 * (14 + 1) ≤ bXX by decide) B) (st376 (by omega) (bSO_le hn (h E rfl)))
set_option maxRecDepth 100000 in
theorem tk377 {E : zE} (hE : E.1 ≤ 4000) {B n : Nat} (h : ∀ E9 : zE, E9.1 = E.1 → bSO E9 ctb B (n, smT)) (hn : 3 ≤ n) : bMT E ctb (B + bXX) 297 sc377 := bMT_m (Nat.add_le_add_left (show 1000000 * (14 + 1) ≤ bXX by decide) B) (st377 (by omega) (bSO_le hn (h E rfl)))
set_option maxRecDepth 100000 in
theorem tk378 {E : zE} (hE : E.1 ≤ 4000) {B n : Nat} (h : ∀ E9 : zE, E9.1 = E.1 → bSO E9 ctb B (n, smT)) (hn : 2 ≤ n) : bMT E ctb (B + bXX) 298 sc378 := bMT_m (Nat.add_le_add_left (show 1000000 * (10 + 1) ≤ bXX by decide) B) (st378 (by omega) (bSO_le hn (h E rfl)))
set_option maxRecDepth 100000 in
theorem tk379 {E : zE} (hE : E.1 ≤ 4000) {B n : Nat} (h : ∀ E9 : zE, E9.1 = E.1 → bSO E9 ctb B (n, smT)) (hn : 8 ≤ n) : bMT E ctb (B + bXX) 299 sc379 := bMT_m (Nat.add_le_add_left (show 1000000 * (0 + 1) ≤ bXX by decide) B) (st379 (by omega) (bSO_le hn (h E rfl)))
set_option maxRecDepth 100000 in
theorem tk380 {E : zE} (hE : E.1 ≤ 4000) {B n : Nat} (h : ∀ E9 : zE, E9.1 = E.1 → bSO E9 ctb B (n, smT)) (hn : 9 ≤ n) : bMT E ctb (B + bXX) 301 sc380 := bMT_m (Nat.add_le_add_left (show 1000000 * (0 + 1) ≤ bXX by decide) B) (st380 (by omega) (bSO_le hn (h E rfl)))
set_option maxRecDepth 100000 in
theorem tk381 {E : zE} (hE : E.1 ≤ 4000) {B n : Nat} (h : ∀ E9 : zE, E9.1 = E.1 → bSO E9 ctb B (n, smT)) (hn : 9 ≤ n) : bMT E ctb (B + bXX) 303 sc381 := bMT_m (Nat.add_le_add_left (show 1000000 * (14 + 1) ≤ bXX by decide) B) (st381 (by omega) (bSO_le hn (h E rfl)))
set_option maxRecDepth 100000 in
theorem tk382 {E : zE} (hE : E.1 ≤ 4000) {B n : Nat} (h : ∀ E9 : zE, E9.1 = E.1 → bSO E9 ctb B (n, smT)) (hn : 9 ≤ n) : bMT E ctb (B + bXX) 304 sc382 := bMT_m (Nat.add_le_add_left (show 1000000 * (170 + 1) ≤ bXX by decide) B) (st382 (by omega) (bSO_le hn (h E rfl)))
set_option maxRecDepth 100000 in
theorem tk383 {E : zE} (hE : E.1 ≤ 4000) {B n : Nat} (h : ∀ E9 : zE, E9.1 = E.1 → bSO E9 ctb B (n, smT)) (hn : 9 ≤ n) : bMT E ctb (B + bXX) 306 sc383 := bMT_m (Nat.add_le_add_left (show 1000000 * (2571 + 1) ≤ bXX by decide) B) (st383 (by omega) (bSO_le hn (h E rfl)))
set_option maxRecDepth 100000 in
theorem tk384 {E : zE} (hE : E.1 ≤ 4000) {B n : Nat} (h : ∀ E9 : zE, E9.1 = E.1 → bSO E9 ctb B (n, smT)) (hn : 5 ≤ n) : bMT E ctb (B + bXX) 307 sc384 := bMT_m (Nat.add_le_add_left (show 1000000 * (57372 + 1) ≤ bXX by decide) B) (st384 (by omega) (bSO_le hn (h E rfl)))
set_option maxRecDepth 100000 in
theorem tk385 {E : zE} (hE : E.1 ≤ 4000) {B n : Nat} (h : ∀ E9 : zE, E9.1 = E.1 → bSO E9 ctb B (n, smT)) (hn : 6 ≤ n) : bMT E ctb (B + bXX) 308 sc385 := bMT_m (Nat.add_le_add_left (show 1000000 * (14 + 1) ≤ bXX by decide) B) (st385 (by omega) (bSO_le hn (h E rfl)))
set_option maxRecDepth 100000 in
theorem tk386 {E : zE} (hE : E.1 ≤ 4000) {B n : Nat} (h : ∀ E9 : zE, E9.1 = E.1 → bSO E9 ctb B (n, smT)) (hn : 7 ≤ n) : bMT E ctb (B + bXX) 309 sc386 := bMT_m (Nat.add_le_add_left (show 1000000 * (26 + 1) ≤ bXX by decide) B) (st386 (by omega) (bSO_le hn (h E rfl)))
set_option maxRecDepth 100000 in
theorem tk387 {E : zE} (hE : E.1 ≤ 4000) {B n : Nat} (h : ∀ E9 : zE, E9.1 = E.1 → bSO E9 ctb B (n, smT)) (hn : 8 ≤ n) : bMT E ctb (B + bXX) 310 sc387 := bMT_m (Nat.add_le_add_left (show 1000000 * (2147483646 + 1) ≤ bXX by decide) B) (st387 (by omega) (bSO_le hn (h E rfl)))
set_option maxRecDepth 100000 in
theorem tk388 {E : zE} (hE : E.1 ≤ 4000) {B n : Nat} (h : ∀ E9 : zE, E9.1 = E.1 → bSO E9 ctb B (n, smT)) (hn : 7 ≤ n) : bMT E ctb (B + bXX) 311 sc388 := bMT_m (Nat.add_le_add_left (show 1000000 * (303 + 1) ≤ bXX by decide) B) (st388 (by omega) (bSO_le hn (h E rfl)))
set_option maxRecDepth 100000 in
theorem tk389 {E : zE} (hE : E.1 ≤ 4000) {B n : Nat} (h : ∀ E9 : zE, E9.1 = E.1 → bSO E9 ctb B (n, smT)) (hn : 7 ≤ n) : bMT E ctb (B + bXX) 312 sc389 := bMT_m (Nat.add_le_add_left (show 1000000 * (303 + 1) ≤ bXX by decide) B) (st389 (by omega) (bSO_le hn (h E rfl)))
set_option maxRecDepth 100000 in
theorem tk390 {E : zE} (hE : E.1 ≤ 4000) {B n : Nat} (h : ∀ E9 : zE, E9.1 = E.1 → bSO E9 ctb B (n, smT)) (hn : 7 ≤ n) : bMT E ctb (B + bXX) 313 sc390 := bMT_m (Nat.add_le_add_left (show 1000000 * (102 + 1) ≤ bXX by decide) B) (st390 (by omega) (bSO_le hn (h E rfl)))
set_option maxRecDepth 100000 in
theorem tk391 {E : zE} (hE : E.1 ≤ 4000) {B n : Nat} (h : ∀ E9 : zE, E9.1 = E.1 → bSO E9 ctb B (n, smT)) (hn : 8 ≤ n) : bMT E ctb (B + bXX) 314 sc391 := bMT_m (Nat.add_le_add_left (show 1000000 * (27 + 1) ≤ bXX by decide) B) (st391 (by omega) (bSO_le hn (h E rfl)))
set_option maxRecDepth 100000 in
theorem tk392 {E : zE} (hE : E.1 ≤ 4000) {B n : Nat} (h : ∀ E9 : zE, E9.1 = E.1 → bSO E9 ctb B (n, smT)) (hn : 9 ≤ n) : bMT E ctb (B + bXX) 315 sc392 := bMT_m (Nat.add_le_add_left (show 1000000 * (26 + 1) ≤ bXX by decide) B) (st392 (by omega) (bSO_le hn (h E rfl)))
set_option maxRecDepth 100000 in
theorem tk393 {E : zE} (hE : E.1 ≤ 4000) {B n : Nat} (h : ∀ E9 : zE, E9.1 = E.1 → bSO E9 ctb B (n, smT)) (hn : 10 ≤ n) : bMT E ctb (B + bXX) 316 sc393 := bMT_m (Nat.add_le_add_left (show 1000000 * (0 + 1) ≤ bXX by decide) B) (st393 (by omega) (bSO_le hn (h E rfl)))
set_option maxRecDepth 100000 in
theorem tk394 {E : zE} (hE : E.1 ≤ 4000) {B n : Nat} (h : ∀ E9 : zE, E9.1 = E.1 → bSO E9 ctb B (n, smT)) (hn : 10 ≤ n) : bMT E ctb (B + bXX) 317 sc394 := bMT_m (Nat.add_le_add_left (show 1000000 * (14 + 1) ≤ bXX by decide) B) (st394 (by omega) (bSO_le hn (h E rfl)))
set_option maxRecDepth 100000 in
theorem tk395 {E : zE} (hE : E.1 ≤ 4000) {B n : Nat} (h : ∀ E9 : zE, E9.1 = E.1 → bSO E9 ctb B (n, smT)) (hn : 9 ≤ n) : bMT E ctb (B + bXX) 318 sc395 := bMT_m (Nat.add_le_add_left (show 1000000 * (10 + 1) ≤ bXX by decide) B) (st395 (by omega) (bSO_le hn (h E rfl)))
set_option maxRecDepth 100000 in
theorem tk396 {E : zE} (hE : E.1 ≤ 4000) {B n : Nat} (h : ∀ E9 : zE, E9.1 = E.1 → bSO E9 ctb B (n, smT)) (hn : 7 ≤ n) : bMT E ctb (B + bXX) 319 sc396 := bMT_m (Nat.add_le_add_left (show 1000000 * (102 + 1) ≤ bXX by decide) B) (st396 (by omega) (bSO_le hn (h E rfl)))
set_option maxRecDepth 100000 in
theorem tk397 {E : zE} (hE : E.1 ≤ 4000) {B n : Nat} (h : ∀ E9 : zE, E9.1 = E.1 → bSO E9 ctb B (n, smT)) (hn : 1 ≤ n) : bMT E ctb (B + bXX) 320 sc397 := bMT_m (Nat.add_le_add_left (show 1000000 * (10 + 1) ≤ bXX by decide) B) (st397 (by omega) (bSO_le hn (h E rfl)))
set_option maxRecDepth 100000 in
theorem tk398 {E : zE} (hE : E.1 ≤ 4000) {B n : Nat} (h : ∀ E9 : zE, E9.1 = E.1 → bSO E9 ctb B (n, smT)) (hn : 1 ≤ n) : bMT E ctb (B + bXX) 320 sc398 := bMT_m (Nat.add_le_add_left (show 1000000 * (10 + 1) ≤ bXX by decide) B) (st398 (by omega) (bSO_le hn (h E rfl)))
set_option maxRecDepth 100000 in
theorem tk399 {E : zE} (hE : E.1 ≤ 4000) {B n : Nat} (h : ∀ E9 : zE, E9.1 = E.1 → bSO E9 ctb B (n, smT)) (hn : 2 ≤ n) : bMT E ctb (B + bXX) 321 sc399 := bMT_m (Nat.add_le_add_left (show 1000000 * (10 + 1) ≤ bXX by decide) B) (st399 (by omega) (bSO_le hn (h E rfl)))
set_option maxRecDepth 100000 in
theorem tk400 {E : zE} (hE : E.1 ≤ 4000) {B n : Nat} (h : ∀ E9 : zE, E9.1 = E.1 → bSO E9 ctb B (n, smT)) (hn : 2 ≤ n) : bMT E ctb (B + bXX) 322 sc400 := bMT_m (Nat.add_le_add_left (show 1000000 * (0 + 1) ≤ bXX by decide) B) (st400 (by omega) (bSO_le hn (h E rfl)))
set_option maxRecDepth 100000 in
theorem tk401 {E : zE} (hE : E.1 ≤ 4000) {B n : Nat} (h : ∀ E9 : zE, E9.1 = E.1 → bSO E9 ctb B (n, smT)) (hn : 2 ≤ n) : bMT E ctb (B + bXX) 323 sc401 := bMT_m (Nat.add_le_add_left (show 1000000 * (0 + 1) ≤ bXX by decide) B) (st401 (by omega) (bSO_le hn (h E rfl)))
set_option maxRecDepth 100000 in
theorem tk402 {E : zE} (hE : E.1 ≤ 4000) {B n : Nat} (h : ∀ E9 : zE, E9.1 = E.1 → bSO E9 ctb B (n, smT)) (hn : 2 ≤ n) : bMT E ctb (B + bXX) 324 sc402 := bMT_m (Nat.add_le_add_left (show 1000000 * (127 + 1) ≤ bXX by decide) B) (st402 (by omega) (bSO_le hn (h E rfl)))
set_option maxRecDepth 100000 in
theorem tk403 {E : zE} (hE : E.1 ≤ 4000) {B n : Nat} (h : ∀ E9 : zE, E9.1 = E.1 → bSO E9 ctb B (n, smT)) (hn : 2 ≤ n) : bMT E ctb (B + bXX) 325 sc403 := bMT_m (Nat.add_le_add_left (show 1000000 * (14 + 1) ≤ bXX by decide) B) (st403 (by omega) (bSO_le hn (h E rfl)))
set_option maxRecDepth 100000 in
theorem tk404 {E : zE} (hE : E.1 ≤ 4000) {B n : Nat} (h : ∀ E9 : zE, E9.1 = E.1 → bSO E9 ctb B (n, smT)) (hn : 2 ≤ n) : bMT E ctb (B + bXX) 326 sc404 := bMT_m (Nat.add_le_add_left (show 1000000 * (183 + 1) ≤ bXX by decide) B) (st404 (by omega) (bSO_le hn (h E rfl)))
set_option maxRecDepth 100000 in
theorem tk405 {E : zE} (hE : E.1 ≤ 4000) {B n : Nat} (h : ∀ E9 : zE, E9.1 = E.1 → bSO E9 ctb B (n, smT)) (hn : 3 ≤ n) : bMT E ctb (B + bXX) 328 sc405 := bMT_m (Nat.add_le_add_left (show 1000000 * (147 + 1) ≤ bXX by decide) B) (st405 (by omega) (bSO_le hn (h E rfl)))
set_option maxRecDepth 100000 in
theorem tk406 {E : zE} (hE : E.1 ≤ 4000) {B n : Nat} (h : ∀ E9 : zE, E9.1 = E.1 → bSO E9 ctb B (n, smT)) (hn : 3 ≤ n) : bMT E ctb (B + bXX) 330 sc406 := bMT_m (Nat.add_le_add_left (show 1000000 * (4401 + 1) ≤ bXX by decide) B) (st406 (by omega) (bSO_le hn (h E rfl)))
set_option maxRecDepth 100000 in
theorem tk407 {E : zE} (hE : E.1 ≤ 4000) {B n : Nat} (h : ∀ E9 : zE, E9.1 = E.1 → bSO E9 ctb B (n, smT)) (hn : 1 ≤ n) : bMT E ctb (B + bXX) 331 sc407 := bMT_m (Nat.add_le_add_left (show 1000000 * (1067 + 1) ≤ bXX by decide) B) (st407 (by omega) (bSO_le hn (h E rfl)))
set_option maxRecDepth 100000 in
theorem tk408 {E : zE} (hE : E.1 ≤ 4000) {B n : Nat} (h : ∀ E9 : zE, E9.1 = E.1 → bSO E9 ctb B (n, smT)) (hn : 1 ≤ n) : bMT E ctb (B + bXX) 332 sc408 := bMT_m (Nat.add_le_add_left (show 1000000 * (0 + 1) ≤ bXX by decide) B) (st408 (by omega) (bSO_le hn (h E rfl)))
set_option maxRecDepth 100000 in
theorem tk409 {E : zE} (hE : E.1 ≤ 4000) {B n : Nat} (h : ∀ E9 : zE, E9.1 = E.1 → bSO E9 ctb B (n, smT)) (hn : 2 ≤ n) : bMT E ctb (B + bXX) 333 sc409 := bMT_m (Nat.add_le_add_left (show 1000000 * (176093659137 + 1) ≤ bXX by decide) B) (st409 (by omega) (bSO_le hn (h E rfl)))
set_option maxRecDepth 100000 in
theorem tk410 {E : zE} (hE : E.1 ≤ 4000) {B n : Nat} (h : ∀ E9 : zE, E9.1 = E.1 → bSO E9 ctb B (n, smT)) (hn : 0 ≤ n) : bMT E ctb (B + bXX) 334 sc410 := bMT_m (Nat.add_le_add_left (show 1000000 * (0 + 1) ≤ bXX by decide) B) (st410 (by omega) (bSO_le hn (h E rfl)))
set_option maxRecDepth 100000 in
theorem tk411 {E : zE} (hE : E.1 ≤ 4000) {B n : Nat} (h : ∀ E9 : zE, E9.1 = E.1 → bSO E9 ctb B (n, smT)) (hn : 3 ≤ n) : bMT E ctb (B + bXX) 335 sc411 := bMT_m (Nat.add_le_add_left (show 1000000 * (14 + 1) ≤ bXX by decide) B) (st411 (by omega) (bSO_le hn (h E rfl)))
set_option maxRecDepth 100000 in
theorem tk412 {E : zE} (hE : E.1 ≤ 4000) {B n : Nat} (h : ∀ E9 : zE, E9.1 = E.1 → bSO E9 ctb B (n, smT)) (hn : 0 ≤ n) : bMT E ctb (B + bXX) 338 sc412 := bMT_m (Nat.add_le_add_left (show 1000000 * (0 + 1) ≤ bXX by decide) B) (st412 (by omega) (bSO_le hn (h E rfl)))
set_option maxRecDepth 100000 in
theorem tk169 {E : zE} (hE : E.1 ≤ 4000) {B n : Nat} (h : ∀ E9 : zE, E9.1 = E.1 → bSO E9 ctb B (n, smT)) (hn : 3 ≤ n) : bMT E ctb (B + bXX) 167 sc169 := st169 hE (Nat.le_trans (show 3000000 ≤ bXX by decide) (Nat.le_add_left _ _))
set_option maxRecDepth 100000 in
theorem tk170 {E : zE} (hE : E.1 ≤ 4000) {B n : Nat} (h : ∀ E9 : zE, E9.1 = E.1 → bSO E9 ctb B (n, smT)) (hn : 3 ≤ n) : bMT E ctb (B + bXX) 168 sc170 := st170 hE (Nat.le_trans (show 3000000 ≤ bXX by decide) (Nat.le_add_left _ _))
set_option maxRecDepth 100000 in
theorem tk277 {E : zE} (hE : E.1 ≤ 4000) {B n : Nat} (h : ∀ E9 : zE, E9.1 = E.1 → bSO E9 ctb B (n, smT)) (hn : 0 ≤ n) : bMT E ctb (B + bXX) 255 sc277 := gv277 (Nat.le_trans (show 29 ≤ bXX by decide) (Nat.le_add_left _ _))
set_option maxRecDepth 100000 in
theorem tk278 {E : zE} (hE : E.1 ≤ 4000) {B n : Nat} (h : ∀ E9 : zE, E9.1 = E.1 → bSO E9 ctb B (n, smT)) (hn : 0 ≤ n) : bMT E ctb (B + bXX) 255 sc278 := gv278 (Nat.le_trans (show 29 ≤ bXX by decide) (Nat.le_add_left _ _))
set_option maxRecDepth 100000 in
theorem tk279 {E : zE} (hE : E.1 ≤ 4000) {B n : Nat} (h : ∀ E9 : zE, E9.1 = E.1 → bSO E9 ctb B (n, smT)) (hn : 0 ≤ n) : bMT E ctb (B + bXX) 255 sc279 := gv279 (Nat.le_trans (show 29 ≤ bXX by decide) (Nat.le_add_left _ _))
set_option maxRecDepth 100000 in
theorem tk280 {E : zE} (hE : E.1 ≤ 4000) {B n : Nat} (h : ∀ E9 : zE, E9.1 = E.1 → bSO E9 ctb B (n, smT)) (hn : 0 ≤ n) : bMT E ctb (B + bXX) 255 sc280 := gv280 (Nat.le_trans (show 29 ≤ bXX by decide) (Nat.le_add_left _ _))
set_option maxRecDepth 100000 in
theorem tk281 {E : zE} (hE : E.1 ≤ 4000) {B n : Nat} (h : ∀ E9 : zE, E9.1 = E.1 → bSO E9 ctb B (n, smT)) (hn : 0 ≤ n) : bMT E ctb (B + bXX) 255 sc281 := gv281 (Nat.le_trans (show 29 ≤ bXX by decide) (Nat.le_add_left _ _))
set_option maxRecDepth 100000 in
theorem tk282 {E : zE} (hE : E.1 ≤ 4000) {B n : Nat} (h : ∀ E9 : zE, E9.1 = E.1 → bSO E9 ctb B (n, smT)) (hn : 0 ≤ n) : bMT E ctb (B + bXX) 255 sc282 := gv282 (Nat.le_trans (show 29 ≤ bXX by decide) (Nat.le_add_left _ _))
set_option maxRecDepth 100000 in
theorem tk283 {E : zE} (hE : E.1 ≤ 4000) {B n : Nat} (h : ∀ E9 : zE, E9.1 = E.1 → bSO E9 ctb B (n, smT)) (hn : 0 ≤ n) : bMT E ctb (B + bXX) 255 sc283 := gv283 (Nat.le_trans (show 29 ≤ bXX by decide) (Nat.le_add_left _ _))
set_option maxRecDepth 100000 in
theorem tk284 {E : zE} (hE : E.1 ≤ 4000) {B n : Nat} (h : ∀ E9 : zE, E9.1 = E.1 → bSO E9 ctb B (n, smT)) (hn : 0 ≤ n) : bMT E ctb (B + bXX) 255 sc284 := gv284 (Nat.le_trans (show 29 ≤ bXX by decide) (Nat.le_add_left _ _))
set_option maxRecDepth 100000 in
theorem tk285 {E : zE} (hE : E.1 ≤ 4000) {B n : Nat} (h : ∀ E9 : zE, E9.1 = E.1 → bSO E9 ctb B (n, smT)) (hn : 0 ≤ n) : bMT E ctb (B + bXX) 255 sc285 := gv285 (Nat.le_trans (show 29 ≤ bXX by decide) (Nat.le_add_left _ _))
set_option maxRecDepth 100000 in
theorem tk286 {E : zE} (hE : E.1 ≤ 4000) {B n : Nat} (h : ∀ E9 : zE, E9.1 = E.1 → bSO E9 ctb B (n, smT)) (hn : 0 ≤ n) : bMT E ctb (B + bXX) 255 sc286 := gv286 (Nat.le_trans (show 29 ≤ bXX by decide) (Nat.le_add_left _ _))
set_option maxRecDepth 100000 in
theorem tk287 {E : zE} (hE : E.1 ≤ 4000) {B n : Nat} (h : ∀ E9 : zE, E9.1 = E.1 → bSO E9 ctb B (n, smT)) (hn : 0 ≤ n) : bMT E ctb (B + bXX) 255 sc287 := gv287 (Nat.le_trans (show 29 ≤ bXX by decide) (Nat.le_add_left _ _))
set_option maxRecDepth 100000 in
theorem tk288 {E : zE} (hE : E.1 ≤ 4000) {B n : Nat} (h : ∀ E9 : zE, E9.1 = E.1 → bSO E9 ctb B (n, smT)) (hn : 0 ≤ n) : bMT E ctb (B + bXX) 255 sc288 := gv288 (Nat.le_trans (show 29 ≤ bXX by decide) (Nat.le_add_left _ _))
set_option maxRecDepth 100000 in
theorem tk289 {E : zE} (hE : E.1 ≤ 4000) {B n : Nat} (h : ∀ E9 : zE, E9.1 = E.1 → bSO E9 ctb B (n, smT)) (hn : 0 ≤ n) : bMT E ctb (B + bXX) 255 sc289 := gv289 (Nat.le_trans (show 29 ≤ bXX by decide) (Nat.le_add_left _ _))
set_option maxRecDepth 100000 in
theorem tk290 {E : zE} (hE : E.1 ≤ 4000) {B n : Nat} (h : ∀ E9 : zE, E9.1 = E.1 → bSO E9 ctb B (n, smT)) (hn : 0 ≤ n) : bMT E ctb (B + bXX) 255 sc290 := gv290 (Nat.le_trans (show 29 ≤ bXX by decide) (Nat.le_add_left _ _))
set_option maxRecDepth 100000 in
theorem tk291 {E : zE} (hE : E.1 ≤ 4000) {B n : Nat} (h : ∀ E9 : zE, E9.1 = E.1 → bSO E9 ctb B (n, smT)) (hn : 0 ≤ n) : bMT E ctb (B + bXX) 255 sc291 := gv291 (Nat.le_trans (show 29 ≤ bXX by decide) (Nat.le_add_left _ _))
set_option maxRecDepth 100000 in
theorem tk292 {E : zE} (hE : E.1 ≤ 4000) {B n : Nat} (h : ∀ E9 : zE, E9.1 = E.1 → bSO E9 ctb B (n, smT)) (hn : 0 ≤ n) : bMT E ctb (B + bXX) 255 sc292 := gv292 (Nat.le_trans (show 29 ≤ bXX by decide) (Nat.le_add_left _ _))
set_option maxRecDepth 100000 in
theorem tk328 {E : zE} (hE : E.1 ≤ 4000) {B n : Nat} (h : ∀ E9 : zE, E9.1 = E.1 → bSO E9 ctb B (n, smT)) (hn : 40 ≤ n) : bMT E ctb (B + bXX) 262 sc328 := gv328 hE (fun E9 h9 => tk316 (E := E9) (by omega) (fun E8 h8 => h E8 (h8.trans h9)) (Nat.le_trans (show 26 ≤ 40 by decide) hn))
set_option maxRecDepth 100000 in
theorem tk329 {E : zE} (hE : E.1 ≤ 4000) {B n : Nat} (h : ∀ E9 : zE, E9.1 = E.1 → bSO E9 ctb B (n, smT)) (hn : 40 ≤ n) : bMT E ctb (B + bXX) 262 sc329 := gv329 hE (fun E9 h9 => tk317 (E := E9) (by omega) (fun E8 h8 => h E8 (h8.trans h9)) (Nat.le_trans (show 26 ≤ 40 by decide) hn))
set_option maxRecDepth 100000 in
theorem tk330 {E : zE} (hE : E.1 ≤ 4000) {B n : Nat} (h : ∀ E9 : zE, E9.1 = E.1 → bSO E9 ctb B (n, smT)) (hn : 40 ≤ n) : bMT E ctb (B + bXX) 262 sc330 := gv330 hE (fun E9 h9 => tk318 (E := E9) (by omega) (fun E8 h8 => h E8 (h8.trans h9)) (Nat.le_trans (show 26 ≤ 40 by decide) hn))
set_option maxRecDepth 100000 in
theorem tk331 {E : zE} (hE : E.1 ≤ 4000) {B n : Nat} (h : ∀ E9 : zE, E9.1 = E.1 → bSO E9 ctb B (n, smT)) (hn : 40 ≤ n) : bMT E ctb (B + bXX) 262 sc331 := gv331 hE (fun E9 h9 => tk319 (E := E9) (by omega) (fun E8 h8 => h E8 (h8.trans h9)) (Nat.le_trans (show 26 ≤ 40 by decide) hn))
set_option maxRecDepth 100000 in
theorem tk332 {E : zE} (hE : E.1 ≤ 4000) {B n : Nat} (h : ∀ E9 : zE, E9.1 = E.1 → bSO E9 ctb B (n, smT)) (hn : 40 ≤ n) : bMT E ctb (B + bXX) 262 sc332 := gv332 hE (fun E9 h9 => tk320 (E := E9) (by omega) (fun E8 h8 => h E8 (h8.trans h9)) (Nat.le_trans (show 26 ≤ 40 by decide) hn))
set_option maxRecDepth 100000 in
theorem tk333 {E : zE} (hE : E.1 ≤ 4000) {B n : Nat} (h : ∀ E9 : zE, E9.1 = E.1 → bSO E9 ctb B (n, smT)) (hn : 40 ≤ n) : bMT E ctb (B + bXX) 262 sc333 := gv333 hE (fun E9 h9 => tk321 (E := E9) (by omega) (fun E8 h8 => h E8 (h8.trans h9)) (Nat.le_trans (show 26 ≤ 40 by decide) hn))
set_option maxRecDepth 100000 in
theorem tk334 {E : zE} (hE : E.1 ≤ 4000) {B n : Nat} (h : ∀ E9 : zE, E9.1 = E.1 → bSO E9 ctb B (n, smT)) (hn : 40 ≤ n) : bMT E ctb (B + bXX) 262 sc334 := gv334 hE (fun E9 h9 => tk322 (E := E9) (by omega) (fun E8 h8 => h E8 (h8.trans h9)) (Nat.le_trans (show 26 ≤ 40 by decide) hn))
set_option maxRecDepth 100000 in
theorem tk335 {E : zE} (hE : E.1 ≤ 4000) {B n : Nat} (h : ∀ E9 : zE, E9.1 = E.1 → bSO E9 ctb B (n, smT)) (hn : 40 ≤ n) : bMT E ctb (B + bXX) 262 sc335 := gv335 hE (fun E9 h9 => tk323 (E := E9) (by omega) (fun E8 h8 => h E8 (h8.trans h9)) (Nat.le_trans (show 26 ≤ 40 by decide) hn))
set_option maxRecDepth 100000 in
theorem tk336 {E : zE} (hE : E.1 ≤ 4000) {B n : Nat} (h : ∀ E9 : zE, E9.1 = E.1 → bSO E9 ctb B (n, smT)) (hn : 40 ≤ n) : bMT E ctb (B + bXX) 262 sc336 := gv336 hE (fun E9 h9 => tk324 (E := E9) (by omega) (fun E8 h8 => h E8 (h8.trans h9)) (Nat.le_trans (show 26 ≤ 40 by decide) hn))
set_option maxRecDepth 100000 in
theorem tk337 {E : zE} (hE : E.1 ≤ 4000) {B n : Nat} (h : ∀ E9 : zE, E9.1 = E.1 → bSO E9 ctb B (n, smT)) (hn : 40 ≤ n) : bMT E ctb (B + bXX) 262 sc337 := gv337 hE (fun E9 h9 => tk325 (E := E9) (by omega) (fun E8 h8 => h E8 (h8.trans h9)) (Nat.le_trans (show 26 ≤ 40 by decide) hn))
set_option maxRecDepth 100000 in
theorem tk338 {E : zE} (hE : E.1 ≤ 4000) {B n : Nat} (h : ∀ E9 : zE, E9.1 = E.1 → bSO E9 ctb B (n, smT)) (hn : 40 ≤ n) : bMT E ctb (B + bXX) 262 sc338 := gv338 hE (fun E9 h9 => tk326 (E := E9) (by omega) (fun E8 h8 => h E8 (h8.trans h9)) (Nat.le_trans (show 26 ≤ 40 by decide) hn))
set_option maxRecDepth 100000 in
theorem tk339 {E : zE} (hE : E.1 ≤ 4000) {B n : Nat} (h : ∀ E9 : zE, E9.1 = E.1 → bSO E9 ctb B (n, smT)) (hn : 40 ≤ n) : bMT E ctb (B + bXX) 262 sc339 := gv339 hE (fun E9 h9 => tk327 (E := E9) (by omega) (fun E8 h8 => h E8 (h8.trans h9)) (Nat.le_trans (show 26 ≤ 40 by decide) hn))
set_option maxRecDepth 100000 in
theorem tk344 {E : zE} (hE : E.1 ≤ 4000) {B n : Nat} (h : ∀ E9 : zE, E9.1 = E.1 → bSO E9 ctb B (n, smT)) (hn : 3 ≤ n) : bMT E ctb (B + bXX) 268 sc344 := bMT_m (Nat.add_le_add_left (show 1000000 * 402 ≤ bXX by decide) B) (st344 hE (bSO_le hn (h E rfl)))
set_option maxRecDepth 100000 in
theorem rw0 {E : zE} (hE : E.1 ≤ 4000) {B n : Nat} (h : ∀ E9 : zE, E9.1 = E.1 → bSO E9 ctb B (n, smT)) : ∀ q l, zat smR0 q = some l → ∀ c, c ∈ l → c.1 ≤ n → bMT E ctb (B + bXX) (16 * 0 + q) c
  | 0, l, hl, c, hc, hn => by
    have hl : some [] = some l := hl
    cases hl
    exact absurd hc List.not_mem_nil
  | 1, l, hl, c, hc, hn => by
    have hl : some [sc0] = some l := hl
    cases hl
    cases hc with
    | head => exact tk0 hE h hn
    | tail _ hc =>
      exact absurd hc List.not_mem_nil
  | 2, l, hl, c, hc, hn => by
    have hl : some [sc1] = some l := hl
    cases hl
    cases hc with
    | head => exact tk1 hE h hn
    | tail _ hc =>
      exact absurd hc List.not_mem_nil
  | 3, l, hl, c, hc, hn => by
    have hl : some [sc2] = some l := hl
    cases hl
    cases hc with
    | head => exact tk2 hE h hn
    | tail _ hc =>
      exact absurd hc List.not_mem_nil
  | 4, l, hl, c, hc, hn => by
    have hl : some [sc3] = some l := hl
    cases hl
    cases hc with
    | head => exact tk3 hE h hn
    | tail _ hc =>
      exact absurd hc List.not_mem_nil
  | 5, l, hl, c, hc, hn => by
    have hl : some [sc4] = some l := hl
    cases hl
    cases hc with
    | head => exact tk4 hE h hn
    | tail _ hc =>
      exact absurd hc List.not_mem_nil
  | 6, l, hl, c, hc, hn => by
    have hl : some [sc5] = some l := hl
    cases hl
    cases hc with
    | head => exact tk5 hE h hn
    | tail _ hc =>
      exact absurd hc List.not_mem_nil
  | 7, l, hl, c, hc, hn => by
    have hl : some [sc6] = some l := hl
    cases hl
    cases hc with
    | head => exact tk6 hE h hn
    | tail _ hc =>
      exact absurd hc List.not_mem_nil
  | 8, l, hl, c, hc, hn => by
    have hl : some [sc7] = some l := hl
    cases hl
    cases hc with
    | head => exact tk7 hE h hn
    | tail _ hc =>
      exact absurd hc List.not_mem_nil
  | 9, l, hl, c, hc, hn => by
    have hl : some [sc8] = some l := hl
    cases hl
    cases hc with
    | head => exact tk8 hE h hn
    | tail _ hc =>
      exact absurd hc List.not_mem_nil
  | 10, l, hl, c, hc, hn => by
    have hl : some [sc9] = some l := hl
    cases hl
    cases hc with
    | head => exact tk9 hE h hn
    | tail _ hc =>
      exact absurd hc List.not_mem_nil
  | 11, l, hl, c, hc, hn => by
    have hl : some [sc10] = some l := hl
    cases hl
    cases hc with
    | head => exact tk10 hE h hn
    | tail _ hc =>
      exact absurd hc List.not_mem_nil
  | 12, l, hl, c, hc, hn => by
    have hl : some [sc11] = some l := hl
    cases hl
    cases hc with
    | head => exact tk11 hE h hn
    | tail _ hc =>
      exact absurd hc List.not_mem_nil
  | 13, l, hl, c, hc, hn => by
    have hl : some [sc12] = some l := hl
    cases hl
    cases hc with
    | head => exact tk12 hE h hn
    | tail _ hc =>
      exact absurd hc List.not_mem_nil
  | 14, l, hl, c, hc, hn => by
    have hl : some [sc13] = some l := hl
    cases hl
    cases hc with
    | head => exact tk13 hE h hn
    | tail _ hc =>
      exact absurd hc List.not_mem_nil
  | 15, l, hl, c, hc, hn => by
    have hl : some [sc14] = some l := hl
    cases hl
    cases hc with
    | head => exact tk14 hE h hn
    | tail _ hc =>
      exact absurd hc List.not_mem_nil
  | q + 16, l, hl, c, hc, hn => by
    have hl : (none : Option (List bSm)) = some l := hl
    cases hl
set_option maxRecDepth 100000 in
theorem rw1 {E : zE} (hE : E.1 ≤ 4000) {B n : Nat} (h : ∀ E9 : zE, E9.1 = E.1 → bSO E9 ctb B (n, smT)) : ∀ q l, zat smR1 q = some l → ∀ c, c ∈ l → c.1 ≤ n → bMT E ctb (B + bXX) (16 * 1 + q) c
  | 0, l, hl, c, hc, hn => by
    have hl : some [sc15] = some l := hl
    cases hl
    cases hc with
    | head => exact tk15 hE h hn
    | tail _ hc =>
      exact absurd hc List.not_mem_nil
  | 1, l, hl, c, hc, hn => by
    have hl : some [sc16] = some l := hl
    cases hl
    cases hc with
    | head => exact tk16 hE h hn
    | tail _ hc =>
      exact absurd hc List.not_mem_nil
  | 2, l, hl, c, hc, hn => by
    have hl : some [sc17] = some l := hl
    cases hl
    cases hc with
    | head => exact tk17 hE h hn
    | tail _ hc =>
      exact absurd hc List.not_mem_nil
  | 3, l, hl, c, hc, hn => by
    have hl : some [sc18] = some l := hl
    cases hl
    cases hc with
    | head => exact tk18 hE h hn
    | tail _ hc =>
      exact absurd hc List.not_mem_nil
  | 4, l, hl, c, hc, hn => by
    have hl : some [sc19] = some l := hl
    cases hl
    cases hc with
    | head => exact tk19 hE h hn
    | tail _ hc =>
      exact absurd hc List.not_mem_nil
  | 5, l, hl, c, hc, hn => by
    have hl : some [sc20] = some l := hl
    cases hl
    cases hc with
    | head => exact tk20 hE h hn
    | tail _ hc =>
      exact absurd hc List.not_mem_nil
  | 6, l, hl, c, hc, hn => by
    have hl : some [sc21] = some l := hl
    cases hl
    cases hc with
    | head => exact tk21 hE h hn
    | tail _ hc =>
      exact absurd hc List.not_mem_nil
  | 7, l, hl, c, hc, hn => by
    have hl : some [sc22] = some l := hl
    cases hl
    cases hc with
    | head => exact tk22 hE h hn
    | tail _ hc =>
      exact absurd hc List.not_mem_nil
  | 8, l, hl, c, hc, hn => by
    have hl : some [sc23] = some l := hl
    cases hl
    cases hc with
    | head => exact tk23 hE h hn
    | tail _ hc =>
      exact absurd hc List.not_mem_nil
  | 9, l, hl, c, hc, hn => by
    have hl : some [sc24] = some l := hl
    cases hl
    cases hc with
    | head => exact tk24 hE h hn
    | tail _ hc =>
      exact absurd hc List.not_mem_nil
  | 10, l, hl, c, hc, hn => by
    have hl : some [sc25] = some l := hl
    cases hl
    cases hc with
    | head => exact tk25 hE h hn
    | tail _ hc =>
      exact absurd hc List.not_mem_nil
  | 11, l, hl, c, hc, hn => by
    have hl : some [sc26] = some l := hl
    cases hl
    cases hc with
    | head => exact tk26 hE h hn
    | tail _ hc =>
      exact absurd hc List.not_mem_nil
  | 12, l, hl, c, hc, hn => by
    have hl : some [sc27] = some l := hl
    cases hl
    cases hc with
    | head => exact tk27 hE h hn
    | tail _ hc =>
      exact absurd hc List.not_mem_nil
  | 13, l, hl, c, hc, hn => by
    have hl : some [sc28] = some l := hl
    cases hl
    cases hc with
    | head => exact tk28 hE h hn
    | tail _ hc =>
      exact absurd hc List.not_mem_nil
  | 14, l, hl, c, hc, hn => by
    have hl : some [sc29] = some l := hl
    cases hl
    cases hc with
    | head => exact tk29 hE h hn
    | tail _ hc =>
      exact absurd hc List.not_mem_nil
  | 15, l, hl, c, hc, hn => by
    have hl : some [sc30] = some l := hl
    cases hl
    cases hc with
    | head => exact tk30 hE h hn
    | tail _ hc =>
      exact absurd hc List.not_mem_nil
  | q + 16, l, hl, c, hc, hn => by
    have hl : (none : Option (List bSm)) = some l := hl
    cases hl
set_option maxRecDepth 100000 in
theorem rw2 {E : zE} (hE : E.1 ≤ 4000) {B n : Nat} (h : ∀ E9 : zE, E9.1 = E.1 → bSO E9 ctb B (n, smT)) : ∀ q l, zat smR2 q = some l → ∀ c, c ∈ l → c.1 ≤ n → bMT E ctb (B + bXX) (16 * 2 + q) c
  | 0, l, hl, c, hc, hn => by
    have hl : some [sc31] = some l := hl
    cases hl
    cases hc with
    | head => exact tk31 hE h hn
    | tail _ hc =>
      exact absurd hc List.not_mem_nil
  | 1, l, hl, c, hc, hn => by
    have hl : some [sc32] = some l := hl
    cases hl
    cases hc with
    | head => exact tk32 hE h hn
    | tail _ hc =>
      exact absurd hc List.not_mem_nil
  | 2, l, hl, c, hc, hn => by
    have hl : some [sc33] = some l := hl
    cases hl
    cases hc with
    | head => exact tk33 hE h hn
    | tail _ hc =>
      exact absurd hc List.not_mem_nil
  | 3, l, hl, c, hc, hn => by
    have hl : some [sc34] = some l := hl
    cases hl
    cases hc with
    | head => exact tk34 hE h hn
    | tail _ hc =>
      exact absurd hc List.not_mem_nil
  | 4, l, hl, c, hc, hn => by
    have hl : some [sc35] = some l := hl
    cases hl
    cases hc with
    | head => exact tk35 hE h hn
    | tail _ hc =>
      exact absurd hc List.not_mem_nil
  | 5, l, hl, c, hc, hn => by
    have hl : some [sc36] = some l := hl
    cases hl
    cases hc with
    | head => exact tk36 hE h hn
    | tail _ hc =>
      exact absurd hc List.not_mem_nil
  | 6, l, hl, c, hc, hn => by
    have hl : some [] = some l := hl
    cases hl
    exact absurd hc List.not_mem_nil
  | 7, l, hl, c, hc, hn => by
    have hl : some [] = some l := hl
    cases hl
    exact absurd hc List.not_mem_nil
  | 8, l, hl, c, hc, hn => by
    have hl : some [] = some l := hl
    cases hl
    exact absurd hc List.not_mem_nil
  | 9, l, hl, c, hc, hn => by
    have hl : some [] = some l := hl
    cases hl
    exact absurd hc List.not_mem_nil
  | 10, l, hl, c, hc, hn => by
    have hl : some [] = some l := hl
    cases hl
    exact absurd hc List.not_mem_nil
  | 11, l, hl, c, hc, hn => by
    have hl : some [sc37] = some l := hl
    cases hl
    cases hc with
    | head => exact tk37 hE h hn
    | tail _ hc =>
      exact absurd hc List.not_mem_nil
  | 12, l, hl, c, hc, hn => by
    have hl : some [] = some l := hl
    cases hl
    exact absurd hc List.not_mem_nil
  | 13, l, hl, c, hc, hn => by
    have hl : some [] = some l := hl
    cases hl
    exact absurd hc List.not_mem_nil
  | 14, l, hl, c, hc, hn => by
    have hl : some [] = some l := hl
    cases hl
    exact absurd hc List.not_mem_nil
  | 15, l, hl, c, hc, hn => by
    have hl : some [] = some l := hl
    cases hl
    exact absurd hc List.not_mem_nil
  | q + 16, l, hl, c, hc, hn => by
    have hl : (none : Option (List bSm)) = some l := hl
    cases hl
set_option maxRecDepth 100000 in
theorem rw3 {E : zE} (hE : E.1 ≤ 4000) {B n : Nat} (h : ∀ E9 : zE, E9.1 = E.1 → bSO E9 ctb B (n, smT)) : ∀ q l, zat smR3 q = some l → ∀ c, c ∈ l → c.1 ≤ n → bMT E ctb (B + bXX) (16 * 3 + q) c
  | 0, l, hl, c, hc, hn => by
    have hl : some [] = some l := hl
    cases hl
    exact absurd hc List.not_mem_nil
  | 1, l, hl, c, hc, hn => by
    have hl : some [] = some l := hl
    cases hl
    exact absurd hc List.not_mem_nil
  | 2, l, hl, c, hc, hn => by
    have hl : some [] = some l := hl
    cases hl
    exact absurd hc List.not_mem_nil
  | 3, l, hl, c, hc, hn => by
    have hl : some [] = some l := hl
    cases hl
    exact absurd hc List.not_mem_nil
  | 4, l, hl, c, hc, hn => by
    have hl : some [] = some l := hl
    cases hl
    exact absurd hc List.not_mem_nil
  | 5, l, hl, c, hc, hn => by
    have hl : some [] = some l := hl
    cases hl
    exact absurd hc List.not_mem_nil
  | 6, l, hl, c, hc, hn => by
    have hl : some [] = some l := hl
    cases hl
    exact absurd hc List.not_mem_nil
  | 7, l, hl, c, hc, hn => by
    have hl : some [] = some l := hl
    cases hl
    exact absurd hc List.not_mem_nil
  | 8, l, hl, c, hc, hn => by
    have hl : some [] = some l := hl
    cases hl
    exact absurd hc List.not_mem_nil
  | 9, l, hl, c, hc, hn => by
    have hl : some [] = some l := hl
    cases hl
    exact absurd hc List.not_mem_nil
  | 10, l, hl, c, hc, hn => by
    have hl : some [] = some l := hl
    cases hl
    exact absurd hc List.not_mem_nil
  | 11, l, hl, c, hc, hn => by
    have hl : some [] = some l := hl
    cases hl
    exact absurd hc List.not_mem_nil
  | 12, l, hl, c, hc, hn => by
    have hl : some [] = some l := hl
    cases hl
    exact absurd hc List.not_mem_nil
  | 13, l, hl, c, hc, hn => by
    have hl : some [] = some l := hl
    cases hl
    exact absurd hc List.not_mem_nil
  | 14, l, hl, c, hc, hn => by
    have hl : some [] = some l := hl
    cases hl
    exact absurd hc List.not_mem_nil
  | 15, l, hl, c, hc, hn => by
    have hl : some [] = some l := hl
    cases hl
    exact absurd hc List.not_mem_nil
  | q + 16, l, hl, c, hc, hn => by
    have hl : (none : Option (List bSm)) = some l := hl
    cases hl
set_option maxRecDepth 100000 in
theorem rw4 {E : zE} (hE : E.1 ≤ 4000) {B n : Nat} (h : ∀ E9 : zE, E9.1 = E.1 → bSO E9 ctb B (n, smT)) : ∀ q l, zat smR4 q = some l → ∀ c, c ∈ l → c.1 ≤ n → bMT E ctb (B + bXX) (16 * 4 + q) c
  | 0, l, hl, c, hc, hn => by
    have hl : some [sc38] = some l := hl
    cases hl
    cases hc with
    | head => exact tk38 hE h hn
    | tail _ hc =>
      exact absurd hc List.not_mem_nil
  | 1, l, hl, c, hc, hn => by
    have hl : some [] = some l := hl
    cases hl
    exact absurd hc List.not_mem_nil
  | 2, l, hl, c, hc, hn => by
    have hl : some [] = some l := hl
    cases hl
    exact absurd hc List.not_mem_nil
  | 3, l, hl, c, hc, hn => by
    have hl : some [] = some l := hl
    cases hl
    exact absurd hc List.not_mem_nil
  | 4, l, hl, c, hc, hn => by
    have hl : some [] = some l := hl
    cases hl
    exact absurd hc List.not_mem_nil
  | 5, l, hl, c, hc, hn => by
    have hl : some [] = some l := hl
    cases hl
    exact absurd hc List.not_mem_nil
  | 6, l, hl, c, hc, hn => by
    have hl : some [] = some l := hl
    cases hl
    exact absurd hc List.not_mem_nil
  | 7, l, hl, c, hc, hn => by
    have hl : some [] = some l := hl
    cases hl
    exact absurd hc List.not_mem_nil
  | 8, l, hl, c, hc, hn => by
    have hl : some [] = some l := hl
    cases hl
    exact absurd hc List.not_mem_nil
  | 9, l, hl, c, hc, hn => by
    have hl : some [] = some l := hl
    cases hl
    exact absurd hc List.not_mem_nil
  | 10, l, hl, c, hc, hn => by
    have hl : some [sc39] = some l := hl
    cases hl
    cases hc with
    | head => exact tk39 hE h hn
    | tail _ hc =>
      exact absurd hc List.not_mem_nil
  | 11, l, hl, c, hc, hn => by
    have hl : some [] = some l := hl
    cases hl
    exact absurd hc List.not_mem_nil
  | 12, l, hl, c, hc, hn => by
    have hl : some [] = some l := hl
    cases hl
    exact absurd hc List.not_mem_nil
  | 13, l, hl, c, hc, hn => by
    have hl : some [] = some l := hl
    cases hl
    exact absurd hc List.not_mem_nil
  | 14, l, hl, c, hc, hn => by
    have hl : some [] = some l := hl
    cases hl
    exact absurd hc List.not_mem_nil
  | 15, l, hl, c, hc, hn => by
    have hl : some [sc40] = some l := hl
    cases hl
    cases hc with
    | head => exact tk40 hE h hn
    | tail _ hc =>
      exact absurd hc List.not_mem_nil
  | q + 16, l, hl, c, hc, hn => by
    have hl : (none : Option (List bSm)) = some l := hl
    cases hl
set_option maxRecDepth 100000 in
theorem rw5 {E : zE} (hE : E.1 ≤ 4000) {B n : Nat} (h : ∀ E9 : zE, E9.1 = E.1 → bSO E9 ctb B (n, smT)) : ∀ q l, zat smR5 q = some l → ∀ c, c ∈ l → c.1 ≤ n → bMT E ctb (B + bXX) (16 * 5 + q) c
  | 0, l, hl, c, hc, hn => by
    have hl : some [] = some l := hl
    cases hl
    exact absurd hc List.not_mem_nil
  | 1, l, hl, c, hc, hn => by
    have hl : some [] = some l := hl
    cases hl
    exact absurd hc List.not_mem_nil
  | 2, l, hl, c, hc, hn => by
    have hl : some [sc41] = some l := hl
    cases hl
    cases hc with
    | head => exact tk41 hE h hn
    | tail _ hc =>
      exact absurd hc List.not_mem_nil
  | 3, l, hl, c, hc, hn => by
    have hl : some [sc42] = some l := hl
    cases hl
    cases hc with
    | head => exact tk42 hE h hn
    | tail _ hc =>
      exact absurd hc List.not_mem_nil
  | 4, l, hl, c, hc, hn => by
    have hl : some [sc43] = some l := hl
    cases hl
    cases hc with
    | head => exact tk43 hE h hn
    | tail _ hc =>
      exact absurd hc List.not_mem_nil
  | 5, l, hl, c, hc, hn => by
    have hl : some [sc44] = some l := hl
    cases hl
    cases hc with
    | head => exact tk44 hE h hn
    | tail _ hc =>
      exact absurd hc List.not_mem_nil
  | 6, l, hl, c, hc, hn => by
    have hl : some [sc45] = some l := hl
    cases hl
    cases hc with
    | head => exact tk45 hE h hn
    | tail _ hc =>
      exact absurd hc List.not_mem_nil
  | 7, l, hl, c, hc, hn => by
    have hl : some [] = some l := hl
    cases hl
    exact absurd hc List.not_mem_nil
  | 8, l, hl, c, hc, hn => by
    have hl : some [] = some l := hl
    cases hl
    exact absurd hc List.not_mem_nil
  | 9, l, hl, c, hc, hn => by
    have hl : some [] = some l := hl
    cases hl
    exact absurd hc List.not_mem_nil
  | 10, l, hl, c, hc, hn => by
    have hl : some [] = some l := hl
    cases hl
    exact absurd hc List.not_mem_nil
  | 11, l, hl, c, hc, hn => by
    have hl : some [] = some l := hl
    cases hl
    exact absurd hc List.not_mem_nil
  | 12, l, hl, c, hc, hn => by
    have hl : some [sc46, sc47] = some l := hl
    cases hl
    cases hc with
    | head => exact tk46 hE h hn
    | tail _ hc =>
      cases hc with
      | head => exact tk47 hE h hn
      | tail _ hc =>
        exact absurd hc List.not_mem_nil
  | 13, l, hl, c, hc, hn => by
    have hl : some [sc48, sc49, sc50] = some l := hl
    cases hl
    cases hc with
    | head => exact tk48 hE h hn
    | tail _ hc =>
      cases hc with
      | head => exact tk49 hE h hn
      | tail _ hc =>
        cases hc with
        | head => exact tk50 hE h hn
        | tail _ hc =>
          exact absurd hc List.not_mem_nil
  | 14, l, hl, c, hc, hn => by
    have hl : some [sc51] = some l := hl
    cases hl
    cases hc with
    | head => exact tk51 hE h hn
    | tail _ hc =>
      exact absurd hc List.not_mem_nil
  | 15, l, hl, c, hc, hn => by
    have hl : some [sc52, sc53] = some l := hl
    cases hl
    cases hc with
    | head => exact tk52 hE h hn
    | tail _ hc =>
      cases hc with
      | head => exact tk53 hE h hn
      | tail _ hc =>
        exact absurd hc List.not_mem_nil
  | q + 16, l, hl, c, hc, hn => by
    have hl : (none : Option (List bSm)) = some l := hl
    cases hl
set_option maxRecDepth 100000 in
theorem rw6 {E : zE} (hE : E.1 ≤ 4000) {B n : Nat} (h : ∀ E9 : zE, E9.1 = E.1 → bSO E9 ctb B (n, smT)) : ∀ q l, zat smR6 q = some l → ∀ c, c ∈ l → c.1 ≤ n → bMT E ctb (B + bXX) (16 * 6 + q) c
  | 0, l, hl, c, hc, hn => by
    have hl : some [] = some l := hl
    cases hl
    exact absurd hc List.not_mem_nil
  | 1, l, hl, c, hc, hn => by
    have hl : some [] = some l := hl
    cases hl
    exact absurd hc List.not_mem_nil
  | 2, l, hl, c, hc, hn => by
    have hl : some [] = some l := hl
    cases hl
    exact absurd hc List.not_mem_nil
  | 3, l, hl, c, hc, hn => by
    have hl : some [] = some l := hl
    cases hl
    exact absurd hc List.not_mem_nil
  | 4, l, hl, c, hc, hn => by
    have hl : some [sc54, sc55] = some l := hl
    cases hl
    cases hc with
    | head => exact tk54 hE h hn
    | tail _ hc =>
      cases hc with
      | head => exact tk55 hE h hn
      | tail _ hc =>
        exact absurd hc List.not_mem_nil
  | 5, l, hl, c, hc, hn => by
    have hl : some [] = some l := hl
    cases hl
    exact absurd hc List.not_mem_nil
  | 6, l, hl, c, hc, hn => by
    have hl : some [sc56, sc57] = some l := hl
    cases hl
    cases hc with
    | head => exact tk56 hE h hn
    | tail _ hc =>
      cases hc with
      | head => exact tk57 hE h hn
      | tail _ hc =>
        exact absurd hc List.not_mem_nil
  | 7, l, hl, c, hc, hn => by
    have hl : some [sc58, sc59] = some l := hl
    cases hl
    cases hc with
    | head => exact tk58 hE h hn
    | tail _ hc =>
      cases hc with
      | head => exact tk59 hE h hn
      | tail _ hc =>
        exact absurd hc List.not_mem_nil
  | 8, l, hl, c, hc, hn => by
    have hl : some [sc60, sc61] = some l := hl
    cases hl
    cases hc with
    | head => exact tk60 hE h hn
    | tail _ hc =>
      cases hc with
      | head => exact tk61 hE h hn
      | tail _ hc =>
        exact absurd hc List.not_mem_nil
  | 9, l, hl, c, hc, hn => by
    have hl : some [sc62, sc63] = some l := hl
    cases hl
    cases hc with
    | head => exact tk62 hE h hn
    | tail _ hc =>
      cases hc with
      | head => exact tk63 hE h hn
      | tail _ hc =>
        exact absurd hc List.not_mem_nil
  | 10, l, hl, c, hc, hn => by
    have hl : some [sc64] = some l := hl
    cases hl
    cases hc with
    | head => exact tk64 hE h hn
    | tail _ hc =>
      exact absurd hc List.not_mem_nil
  | 11, l, hl, c, hc, hn => by
    have hl : some [] = some l := hl
    cases hl
    exact absurd hc List.not_mem_nil
  | 12, l, hl, c, hc, hn => by
    have hl : some [] = some l := hl
    cases hl
    exact absurd hc List.not_mem_nil
  | 13, l, hl, c, hc, hn => by
    have hl : some [] = some l := hl
    cases hl
    exact absurd hc List.not_mem_nil
  | 14, l, hl, c, hc, hn => by
    have hl : some [] = some l := hl
    cases hl
    exact absurd hc List.not_mem_nil
  | 15, l, hl, c, hc, hn => by
    have hl : some [sc65] = some l := hl
    cases hl
    cases hc with
    | head => exact tk65 hE h hn
    | tail _ hc =>
      exact absurd hc List.not_mem_nil
  | q + 16, l, hl, c, hc, hn => by
    have hl : (none : Option (List bSm)) = some l := hl
    cases hl
set_option maxRecDepth 100000 in
theorem rw7 {E : zE} (hE : E.1 ≤ 4000) {B n : Nat} (h : ∀ E9 : zE, E9.1 = E.1 → bSO E9 ctb B (n, smT)) : ∀ q l, zat smR7 q = some l → ∀ c, c ∈ l → c.1 ≤ n → bMT E ctb (B + bXX) (16 * 7 + q) c
  | 0, l, hl, c, hc, hn => by
    have hl : some [sc66] = some l := hl
    cases hl
    cases hc with
    | head => exact tk66 hE h hn
    | tail _ hc =>
      exact absurd hc List.not_mem_nil
  | 1, l, hl, c, hc, hn => by
    have hl : some [] = some l := hl
    cases hl
    exact absurd hc List.not_mem_nil
  | 2, l, hl, c, hc, hn => by
    have hl : some [sc67, sc68] = some l := hl
    cases hl
    cases hc with
    | head => exact tk67 hE h hn
    | tail _ hc =>
      cases hc with
      | head => exact tk68 hE h hn
      | tail _ hc =>
        exact absurd hc List.not_mem_nil
  | 3, l, hl, c, hc, hn => by
    have hl : some [] = some l := hl
    cases hl
    exact absurd hc List.not_mem_nil
  | 4, l, hl, c, hc, hn => by
    have hl : some [] = some l := hl
    cases hl
    exact absurd hc List.not_mem_nil
  | 5, l, hl, c, hc, hn => by
    have hl : some [sc69, sc70] = some l := hl
    cases hl
    cases hc with
    | head => exact tk69 hE h hn
    | tail _ hc =>
      cases hc with
      | head => exact tk70 hE h hn
      | tail _ hc =>
        exact absurd hc List.not_mem_nil
  | 6, l, hl, c, hc, hn => by
    have hl : some [] = some l := hl
    cases hl
    exact absurd hc List.not_mem_nil
  | 7, l, hl, c, hc, hn => by
    have hl : some [] = some l := hl
    cases hl
    exact absurd hc List.not_mem_nil
  | 8, l, hl, c, hc, hn => by
    have hl : some [sc71] = some l := hl
    cases hl
    cases hc with
    | head => exact tk71 hE h hn
    | tail _ hc =>
      exact absurd hc List.not_mem_nil
  | 9, l, hl, c, hc, hn => by
    have hl : some [sc72] = some l := hl
    cases hl
    cases hc with
    | head => exact tk72 hE h hn
    | tail _ hc =>
      exact absurd hc List.not_mem_nil
  | 10, l, hl, c, hc, hn => by
    have hl : some [sc73, sc74] = some l := hl
    cases hl
    cases hc with
    | head => exact tk73 hE h hn
    | tail _ hc =>
      cases hc with
      | head => exact tk74 hE h hn
      | tail _ hc =>
        exact absurd hc List.not_mem_nil
  | 11, l, hl, c, hc, hn => by
    have hl : some [sc75] = some l := hl
    cases hl
    cases hc with
    | head => exact tk75 hE h hn
    | tail _ hc =>
      exact absurd hc List.not_mem_nil
  | 12, l, hl, c, hc, hn => by
    have hl : some [sc76] = some l := hl
    cases hl
    cases hc with
    | head => exact tk76 hE h hn
    | tail _ hc =>
      exact absurd hc List.not_mem_nil
  | 13, l, hl, c, hc, hn => by
    have hl : some [] = some l := hl
    cases hl
    exact absurd hc List.not_mem_nil
  | 14, l, hl, c, hc, hn => by
    have hl : some [sc77] = some l := hl
    cases hl
    cases hc with
    | head => exact tk77 hE h hn
    | tail _ hc =>
      exact absurd hc List.not_mem_nil
  | 15, l, hl, c, hc, hn => by
    have hl : some [sc78] = some l := hl
    cases hl
    cases hc with
    | head => exact tk78 hE h hn
    | tail _ hc =>
      exact absurd hc List.not_mem_nil
  | q + 16, l, hl, c, hc, hn => by
    have hl : (none : Option (List bSm)) = some l := hl
    cases hl
set_option maxRecDepth 100000 in
theorem rw8 {E : zE} (hE : E.1 ≤ 4000) {B n : Nat} (h : ∀ E9 : zE, E9.1 = E.1 → bSO E9 ctb B (n, smT)) : ∀ q l, zat smR8 q = some l → ∀ c, c ∈ l → c.1 ≤ n → bMT E ctb (B + bXX) (16 * 8 + q) c
  | 0, l, hl, c, hc, hn => by
    have hl : some [] = some l := hl
    cases hl
    exact absurd hc List.not_mem_nil
  | 1, l, hl, c, hc, hn => by
    have hl : some [sc79] = some l := hl
    cases hl
    cases hc with
    | head => exact tk79 hE h hn
    | tail _ hc =>
      exact absurd hc List.not_mem_nil
  | 2, l, hl, c, hc, hn => by
    have hl : some [] = some l := hl
    cases hl
    exact absurd hc List.not_mem_nil
  | 3, l, hl, c, hc, hn => by
    have hl : some [sc80, sc81, sc82, sc83, sc84] = some l := hl
    cases hl
    cases hc with
    | head => exact tk80 hE h hn
    | tail _ hc =>
      cases hc with
      | head => exact tk81 hE h hn
      | tail _ hc =>
        cases hc with
        | head => exact tk82 hE h hn
        | tail _ hc =>
          cases hc with
          | head => exact tk83 hE h hn
          | tail _ hc =>
            cases hc with
            | head => exact tk84 hE h hn
            | tail _ hc =>
              exact absurd hc List.not_mem_nil
  | 4, l, hl, c, hc, hn => by
    have hl : some [] = some l := hl
    cases hl
    exact absurd hc List.not_mem_nil
  | 5, l, hl, c, hc, hn => by
    have hl : some [] = some l := hl
    cases hl
    exact absurd hc List.not_mem_nil
  | 6, l, hl, c, hc, hn => by
    have hl : some [] = some l := hl
    cases hl
    exact absurd hc List.not_mem_nil
  | 7, l, hl, c, hc, hn => by
    have hl : some [] = some l := hl
    cases hl
    exact absurd hc List.not_mem_nil
  | 8, l, hl, c, hc, hn => by
    have hl : some [] = some l := hl
    cases hl
    exact absurd hc List.not_mem_nil
  | 9, l, hl, c, hc, hn => by
    have hl : some [sc85] = some l := hl
    cases hl
    cases hc with
    | head => exact tk85 hE h hn
    | tail _ hc =>
      exact absurd hc List.not_mem_nil
  | 10, l, hl, c, hc, hn => by
    have hl : some [] = some l := hl
    cases hl
    exact absurd hc List.not_mem_nil
  | 11, l, hl, c, hc, hn => by
    have hl : some [] = some l := hl
    cases hl
    exact absurd hc List.not_mem_nil
  | 12, l, hl, c, hc, hn => by
    have hl : some [] = some l := hl
    cases hl
    exact absurd hc List.not_mem_nil
  | 13, l, hl, c, hc, hn => by
    have hl : some [] = some l := hl
    cases hl
    exact absurd hc List.not_mem_nil
  | 14, l, hl, c, hc, hn => by
    have hl : some [] = some l := hl
    cases hl
    exact absurd hc List.not_mem_nil
  | 15, l, hl, c, hc, hn => by
    have hl : some [] = some l := hl
    cases hl
    exact absurd hc List.not_mem_nil
  | q + 16, l, hl, c, hc, hn => by
    have hl : (none : Option (List bSm)) = some l := hl
    cases hl
set_option maxRecDepth 100000 in
theorem rw9 {E : zE} (hE : E.1 ≤ 4000) {B n : Nat} (h : ∀ E9 : zE, E9.1 = E.1 → bSO E9 ctb B (n, smT)) : ∀ q l, zat smR9 q = some l → ∀ c, c ∈ l → c.1 ≤ n → bMT E ctb (B + bXX) (16 * 9 + q) c
  | 0, l, hl, c, hc, hn => by
    have hl : some [] = some l := hl
    cases hl
    exact absurd hc List.not_mem_nil
  | 1, l, hl, c, hc, hn => by
    have hl : some [] = some l := hl
    cases hl
    exact absurd hc List.not_mem_nil
  | 2, l, hl, c, hc, hn => by
    have hl : some [] = some l := hl
    cases hl
    exact absurd hc List.not_mem_nil
  | 3, l, hl, c, hc, hn => by
    have hl : some [] = some l := hl
    cases hl
    exact absurd hc List.not_mem_nil
  | 4, l, hl, c, hc, hn => by
    have hl : some [] = some l := hl
    cases hl
    exact absurd hc List.not_mem_nil
  | 5, l, hl, c, hc, hn => by
    have hl : some [] = some l := hl
    cases hl
    exact absurd hc List.not_mem_nil
  | 6, l, hl, c, hc, hn => by
    have hl : some [] = some l := hl
    cases hl
    exact absurd hc List.not_mem_nil
  | 7, l, hl, c, hc, hn => by
    have hl : some [] = some l := hl
    cases hl
    exact absurd hc List.not_mem_nil
  | 8, l, hl, c, hc, hn => by
    have hl : some [] = some l := hl
    cases hl
    exact absurd hc List.not_mem_nil
  | 9, l, hl, c, hc, hn => by
    have hl : some [sc86] = some l := hl
    cases hl
    cases hc with
    | head => exact tk86 hE h hn
    | tail _ hc =>
      exact absurd hc List.not_mem_nil
  | 10, l, hl, c, hc, hn => by
    have hl : some [] = some l := hl
    cases hl
    exact absurd hc List.not_mem_nil
  | 11, l, hl, c, hc, hn => by
    have hl : some [sc87] = some l := hl
    cases hl
    cases hc with
    | head => exact tk87 hE h hn
    | tail _ hc =>
      exact absurd hc List.not_mem_nil
  | 12, l, hl, c, hc, hn => by
    have hl : some [] = some l := hl
    cases hl
    exact absurd hc List.not_mem_nil
  | 13, l, hl, c, hc, hn => by
    have hl : some [sc88] = some l := hl
    cases hl
    cases hc with
    | head => exact tk88 hE h hn
    | tail _ hc =>
      exact absurd hc List.not_mem_nil
  | 14, l, hl, c, hc, hn => by
    have hl : some [] = some l := hl
    cases hl
    exact absurd hc List.not_mem_nil
  | 15, l, hl, c, hc, hn => by
    have hl : some [sc89, sc90, sc91, sc92, sc93] = some l := hl
    cases hl
    cases hc with
    | head => exact tk89 hE h hn
    | tail _ hc =>
      cases hc with
      | head => exact tk90 hE h hn
      | tail _ hc =>
        cases hc with
        | head => exact tk91 hE h hn
        | tail _ hc =>
          cases hc with
          | head => exact tk92 hE h hn
          | tail _ hc =>
            cases hc with
            | head => exact tk93 hE h hn
            | tail _ hc =>
              exact absurd hc List.not_mem_nil
  | q + 16, l, hl, c, hc, hn => by
    have hl : (none : Option (List bSm)) = some l := hl
    cases hl
set_option maxRecDepth 100000 in
theorem rw10 {E : zE} (hE : E.1 ≤ 4000) {B n : Nat} (h : ∀ E9 : zE, E9.1 = E.1 → bSO E9 ctb B (n, smT)) : ∀ q l, zat smR10 q = some l → ∀ c, c ∈ l → c.1 ≤ n → bMT E ctb (B + bXX) (16 * 10 + q) c
  | 0, l, hl, c, hc, hn => by
    have hl : some [sc94, sc95, sc96, sc97, sc98, sc99, sc100, sc101, sc102, sc103, sc104, sc105, sc106, sc107, sc108, sc109, sc110, sc111, sc112, sc113, sc114, sc115, sc116, sc117, sc118, sc119, sc120, sc121, sc122, sc123, sc124, sc125, sc126, sc127, sc128] = some l := hl
    cases hl
    cases hc with
    | head => exact tk94 hE h hn
    | tail _ hc =>
      cases hc with
      | head => exact tk95 hE h hn
      | tail _ hc =>
        cases hc with
        | head => exact tk96 hE h hn
        | tail _ hc =>
          cases hc with
          | head => exact tk97 hE h hn
          | tail _ hc =>
            cases hc with
            | head => exact tk98 hE h hn
            | tail _ hc =>
              cases hc with
              | head => exact tk99 hE h hn
              | tail _ hc =>
                cases hc with
                | head => exact tk100 hE h hn
                | tail _ hc =>
                  cases hc with
                  | head => exact tk101 hE h hn
                  | tail _ hc =>
                    cases hc with
                    | head => exact tk102 hE h hn
                    | tail _ hc =>
                      cases hc with
                      | head => exact tk103 hE h hn
                      | tail _ hc =>
                        cases hc with
                        | head => exact tk104 hE h hn
                        | tail _ hc =>
                          cases hc with
                          | head => exact tk105 hE h hn
                          | tail _ hc =>
                            cases hc with
                            | head => exact tk106 hE h hn
                            | tail _ hc =>
                              cases hc with
                              | head => exact tk107 hE h hn
                              | tail _ hc =>
                                cases hc with
                                | head => exact tk108 hE h hn
                                | tail _ hc =>
                                  cases hc with
                                  | head => exact tk109 hE h hn
                                  | tail _ hc =>
                                    cases hc with
                                    | head => exact tk110 hE h hn
                                    | tail _ hc =>
                                      cases hc with
                                      | head => exact tk111 hE h hn
                                      | tail _ hc =>
                                        cases hc with
                                        | head => exact tk112 hE h hn
                                        | tail _ hc =>
                                          cases hc with
                                          | head => exact tk113 hE h hn
                                          | tail _ hc =>
                                            cases hc with
                                            | head => exact tk114 hE h hn
                                            | tail _ hc =>
                                              cases hc with
                                              | head => exact tk115 hE h hn
                                              | tail _ hc =>
                                                cases hc with
                                                | head => exact tk116 hE h hn
                                                | tail _ hc =>
                                                  cases hc with
                                                  | head => exact tk117 hE h hn
                                                  | tail _ hc =>
                                                    cases hc with
                                                    | head => exact tk118 hE h hn
                                                    | tail _ hc =>
                                                      cases hc with
                                                      | head => exact tk119 hE h hn
                                                      | tail _ hc =>
                                                        cases hc with
                                                        | head => exact tk120 hE h hn
                                                        | tail _ hc =>
                                                          cases hc with
                                                          | head => exact tk121 hE h hn
                                                          | tail _ hc =>
                                                            cases hc with
                                                            | head => exact tk122 hE h hn
                                                            | tail _ hc =>
                                                              cases hc with
                                                              | head => exact tk123 hE h hn
                                                              | tail _ hc =>
                                                                cases hc with
                                                                | head => exact tk124 hE h hn
                                                                | tail _ hc =>
                                                                  cases hc with
                                                                  | head => exact tk125 hE h hn
                                                                  | tail _ hc =>
                                                                    cases hc with
                                                                    | head => exact tk126 hE h hn
                                                                    | tail _ hc =>
                                                                      cases hc with
                                                                      | head => exact tk127 hE h hn
                                                                      | tail _ hc =>
                                                                        cases hc with
                                                                        | head => exact tk128 hE h hn
                                                                        | tail _ hc =>
                                                                          exact absurd hc List.not_mem_nil
  | 1, l, hl, c, hc, hn => by
    have hl : some [sc129, sc130, sc131, sc132, sc133, sc134, sc135, sc136, sc137, sc138, sc139, sc140, sc141, sc142, sc143, sc144, sc145, sc146, sc147, sc148, sc149, sc150, sc151, sc152, sc153, sc154, sc155, sc156, sc157, sc158, sc159, sc160, sc161, sc162, sc163] = some l := hl
    cases hl
    cases hc with
    | head => exact tk129 hE h hn
    | tail _ hc =>
      cases hc with
      | head => exact tk130 hE h hn
      | tail _ hc =>
        cases hc with
        | head => exact tk131 hE h hn
        | tail _ hc =>
          cases hc with
          | head => exact tk132 hE h hn
          | tail _ hc =>
            cases hc with
            | head => exact tk133 hE h hn
            | tail _ hc =>
              cases hc with
              | head => exact tk134 hE h hn
              | tail _ hc =>
                cases hc with
                | head => exact tk135 hE h hn
                | tail _ hc =>
                  cases hc with
                  | head => exact tk136 hE h hn
                  | tail _ hc =>
                    cases hc with
                    | head => exact tk137 hE h hn
                    | tail _ hc =>
                      cases hc with
                      | head => exact tk138 hE h hn
                      | tail _ hc =>
                        cases hc with
                        | head => exact tk139 hE h hn
                        | tail _ hc =>
                          cases hc with
                          | head => exact tk140 hE h hn
                          | tail _ hc =>
                            cases hc with
                            | head => exact tk141 hE h hn
                            | tail _ hc =>
                              cases hc with
                              | head => exact tk142 hE h hn
                              | tail _ hc =>
                                cases hc with
                                | head => exact tk143 hE h hn
                                | tail _ hc =>
                                  cases hc with
                                  | head => exact tk144 hE h hn
                                  | tail _ hc =>
                                    cases hc with
                                    | head => exact tk145 hE h hn
                                    | tail _ hc =>
                                      cases hc with
                                      | head => exact tk146 hE h hn
                                      | tail _ hc =>
                                        cases hc with
                                        | head => exact tk147 hE h hn
                                        | tail _ hc =>
                                          cases hc with
                                          | head => exact tk148 hE h hn
                                          | tail _ hc =>
                                            cases hc with
                                            | head => exact tk149 hE h hn
                                            | tail _ hc =>
                                              cases hc with
                                              | head => exact tk150 hE h hn
                                              | tail _ hc =>
                                                cases hc with
                                                | head => exact tk151 hE h hn
                                                | tail _ hc =>
                                                  cases hc with
                                                  | head => exact tk152 hE h hn
                                                  | tail _ hc =>
                                                    cases hc with
                                                    | head => exact tk153 hE h hn
                                                    | tail _ hc =>
                                                      cases hc with
                                                      | head => exact tk154 hE h hn
                                                      | tail _ hc =>
                                                        cases hc with
                                                        | head => exact tk155 hE h hn
                                                        | tail _ hc =>
                                                          cases hc with
                                                          | head => exact tk156 hE h hn
                                                          | tail _ hc =>
                                                            cases hc with
                                                            | head => exact tk157 hE h hn
                                                            | tail _ hc =>
                                                              cases hc with
                                                              | head => exact tk158 hE h hn
                                                              | tail _ hc =>
                                                                cases hc with
                                                                | head => exact tk159 hE h hn
                                                                | tail _ hc =>
                                                                  cases hc with
                                                                  | head => exact tk160 hE h hn
                                                                  | tail _ hc =>
                                                                    cases hc with
                                                                    | head => exact tk161 hE h hn
                                                                    | tail _ hc =>
                                                                      cases hc with
                                                                      | head => exact tk162 hE h hn
                                                                      | tail _ hc =>
                                                                        cases hc with
                                                                        | head => exact tk163 hE h hn
                                                                        | tail _ hc =>
                                                                          exact absurd hc List.not_mem_nil
  | 2, l, hl, c, hc, hn => by
    have hl : some [] = some l := hl
    cases hl
    exact absurd hc List.not_mem_nil
  | 3, l, hl, c, hc, hn => by
    have hl : some [] = some l := hl
    cases hl
    exact absurd hc List.not_mem_nil
  | 4, l, hl, c, hc, hn => by
    have hl : some [sc164, sc165, sc166, sc167, sc168] = some l := hl
    cases hl
    cases hc with
    | head => exact tk164 hE h hn
    | tail _ hc =>
      cases hc with
      | head => exact tk165 hE h hn
      | tail _ hc =>
        cases hc with
        | head => exact tk166 hE h hn
        | tail _ hc =>
          cases hc with
          | head => exact tk167 hE h hn
          | tail _ hc =>
            cases hc with
            | head => exact tk168 hE h hn
            | tail _ hc =>
              exact absurd hc List.not_mem_nil
  | 5, l, hl, c, hc, hn => by
    have hl : some [] = some l := hl
    cases hl
    exact absurd hc List.not_mem_nil
  | 6, l, hl, c, hc, hn => by
    have hl : some [] = some l := hl
    cases hl
    exact absurd hc List.not_mem_nil
  | 7, l, hl, c, hc, hn => by
    have hl : some [sc169] = some l := hl
    cases hl
    cases hc with
    | head => exact tk169 hE h hn
    | tail _ hc =>
      exact absurd hc List.not_mem_nil
  | 8, l, hl, c, hc, hn => by
    have hl : some [sc170] = some l := hl
    cases hl
    cases hc with
    | head => exact tk170 hE h hn
    | tail _ hc =>
      exact absurd hc List.not_mem_nil
  | 9, l, hl, c, hc, hn => by
    have hl : some [] = some l := hl
    cases hl
    exact absurd hc List.not_mem_nil
  | 10, l, hl, c, hc, hn => by
    have hl : some [] = some l := hl
    cases hl
    exact absurd hc List.not_mem_nil
  | 11, l, hl, c, hc, hn => by
    have hl : some [] = some l := hl
    cases hl
    exact absurd hc List.not_mem_nil
  | 12, l, hl, c, hc, hn => by
    have hl : some [] = some l := hl
    cases hl
    exact absurd hc List.not_mem_nil
  | 13, l, hl, c, hc, hn => by
    have hl : some [] = some l := hl
    cases hl
    exact absurd hc List.not_mem_nil
  | 14, l, hl, c, hc, hn => by
    have hl : some [] = some l := hl
    cases hl
    exact absurd hc List.not_mem_nil
  | 15, l, hl, c, hc, hn => by
    have hl : some [sc171] = some l := hl
    cases hl
    cases hc with
    | head => exact tk171 hE h hn
    | tail _ hc =>
      exact absurd hc List.not_mem_nil
  | q + 16, l, hl, c, hc, hn => by
    have hl : (none : Option (List bSm)) = some l := hl
    cases hl
set_option maxRecDepth 100000 in
theorem rw11 {E : zE} (hE : E.1 ≤ 4000) {B n : Nat} (h : ∀ E9 : zE, E9.1 = E.1 → bSO E9 ctb B (n, smT)) : ∀ q l, zat smR11 q = some l → ∀ c, c ∈ l → c.1 ≤ n → bMT E ctb (B + bXX) (16 * 11 + q) c
  | 0, l, hl, c, hc, hn => by
    have hl : some [sc172] = some l := hl
    cases hl
    cases hc with
    | head => exact tk172 hE h hn
    | tail _ hc =>
      exact absurd hc List.not_mem_nil
  | 1, l, hl, c, hc, hn => by
    have hl : some [sc173] = some l := hl
    cases hl
    cases hc with
    | head => exact tk173 hE h hn
    | tail _ hc =>
      exact absurd hc List.not_mem_nil
  | 2, l, hl, c, hc, hn => by
    have hl : some [] = some l := hl
    cases hl
    exact absurd hc List.not_mem_nil
  | 3, l, hl, c, hc, hn => by
    have hl : some [] = some l := hl
    cases hl
    exact absurd hc List.not_mem_nil
  | 4, l, hl, c, hc, hn => by
    have hl : some [] = some l := hl
    cases hl
    exact absurd hc List.not_mem_nil
  | 5, l, hl, c, hc, hn => by
    have hl : some [sc174] = some l := hl
    cases hl
    cases hc with
    | head => exact tk174 hE h hn
    | tail _ hc =>
      exact absurd hc List.not_mem_nil
  | 6, l, hl, c, hc, hn => by
    have hl : some [] = some l := hl
    cases hl
    exact absurd hc List.not_mem_nil
  | 7, l, hl, c, hc, hn => by
    have hl : some [] = some l := hl
    cases hl
    exact absurd hc List.not_mem_nil
  | 8, l, hl, c, hc, hn => by
    have hl : some [] = some l := hl
    cases hl
    exact absurd hc List.not_mem_nil
  | 9, l, hl, c, hc, hn => by
    have hl : some [sc175, sc176, sc177, sc178, sc179, sc180, sc181, sc182, sc183, sc184, sc185, sc186, sc187, sc188, sc189, sc190, sc191, sc192, sc193, sc194, sc195, sc196, sc197, sc198, sc199, sc200, sc201, sc202, sc203, sc204, sc205, sc206, sc207, sc208, sc209, sc210, sc211, sc212, sc213, sc214] = some l := hl
    cases hl
    cases hc with
    | head => exact tk175 hE h hn
    | tail _ hc =>
      cases hc with
      | head => exact tk176 hE h hn
      | tail _ hc =>
        cases hc with
        | head => exact tk177 hE h hn
        | tail _ hc =>
          cases hc with
          | head => exact tk178 hE h hn
          | tail _ hc =>
            cases hc with
            | head => exact tk179 hE h hn
            | tail _ hc =>
              cases hc with
              | head => exact tk180 hE h hn
              | tail _ hc =>
                cases hc with
                | head => exact tk181 hE h hn
                | tail _ hc =>
                  cases hc with
                  | head => exact tk182 hE h hn
                  | tail _ hc =>
                    cases hc with
                    | head => exact tk183 hE h hn
                    | tail _ hc =>
                      cases hc with
                      | head => exact tk184 hE h hn
                      | tail _ hc =>
                        cases hc with
                        | head => exact tk185 hE h hn
                        | tail _ hc =>
                          cases hc with
                          | head => exact tk186 hE h hn
                          | tail _ hc =>
                            cases hc with
                            | head => exact tk187 hE h hn
                            | tail _ hc =>
                              cases hc with
                              | head => exact tk188 hE h hn
                              | tail _ hc =>
                                cases hc with
                                | head => exact tk189 hE h hn
                                | tail _ hc =>
                                  cases hc with
                                  | head => exact tk190 hE h hn
                                  | tail _ hc =>
                                    cases hc with
                                    | head => exact tk191 hE h hn
                                    | tail _ hc =>
                                      cases hc with
                                      | head => exact tk192 hE h hn
                                      | tail _ hc =>
                                        cases hc with
                                        | head => exact tk193 hE h hn
                                        | tail _ hc =>
                                          cases hc with
                                          | head => exact tk194 hE h hn
                                          | tail _ hc =>
                                            cases hc with
                                            | head => exact tk195 hE h hn
                                            | tail _ hc =>
                                              cases hc with
                                              | head => exact tk196 hE h hn
                                              | tail _ hc =>
                                                cases hc with
                                                | head => exact tk197 hE h hn
                                                | tail _ hc =>
                                                  cases hc with
                                                  | head => exact tk198 hE h hn
                                                  | tail _ hc =>
                                                    cases hc with
                                                    | head => exact tk199 hE h hn
                                                    | tail _ hc =>
                                                      cases hc with
                                                      | head => exact tk200 hE h hn
                                                      | tail _ hc =>
                                                        cases hc with
                                                        | head => exact tk201 hE h hn
                                                        | tail _ hc =>
                                                          cases hc with
                                                          | head => exact tk202 hE h hn
                                                          | tail _ hc =>
                                                            cases hc with
                                                            | head => exact tk203 hE h hn
                                                            | tail _ hc =>
                                                              cases hc with
                                                              | head => exact tk204 hE h hn
                                                              | tail _ hc =>
                                                                cases hc with
                                                                | head => exact tk205 hE h hn
                                                                | tail _ hc =>
                                                                  cases hc with
                                                                  | head => exact tk206 hE h hn
                                                                  | tail _ hc =>
                                                                    cases hc with
                                                                    | head => exact tk207 hE h hn
                                                                    | tail _ hc =>
                                                                      cases hc with
                                                                      | head => exact tk208 hE h hn
                                                                      | tail _ hc =>
                                                                        cases hc with
                                                                        | head => exact tk209 hE h hn
                                                                        | tail _ hc =>
                                                                          cases hc with
                                                                          | head => exact tk210 hE h hn
                                                                          | tail _ hc =>
                                                                            cases hc with
                                                                            | head => exact tk211 hE h hn
                                                                            | tail _ hc =>
                                                                              cases hc with
                                                                              | head => exact tk212 hE h hn
                                                                              | tail _ hc =>
                                                                                cases hc with
                                                                                | head => exact tk213 hE h hn
                                                                                | tail _ hc =>
                                                                                  cases hc with
                                                                                  | head => exact tk214 hE h hn
                                                                                  | tail _ hc =>
                                                                                    exact absurd hc List.not_mem_nil
  | 10, l, hl, c, hc, hn => by
    have hl : some [sc215] = some l := hl
    cases hl
    cases hc with
    | head => exact tk215 hE h hn
    | tail _ hc =>
      exact absurd hc List.not_mem_nil
  | 11, l, hl, c, hc, hn => by
    have hl : some [] = some l := hl
    cases hl
    exact absurd hc List.not_mem_nil
  | 12, l, hl, c, hc, hn => by
    have hl : some [] = some l := hl
    cases hl
    exact absurd hc List.not_mem_nil
  | 13, l, hl, c, hc, hn => by
    have hl : some [] = some l := hl
    cases hl
    exact absurd hc List.not_mem_nil
  | 14, l, hl, c, hc, hn => by
    have hl : some [sc216] = some l := hl
    cases hl
    cases hc with
    | head => exact tk216 hE h hn
    | tail _ hc =>
      exact absurd hc List.not_mem_nil
  | 15, l, hl, c, hc, hn => by
    have hl : some [] = some l := hl
    cases hl
    exact absurd hc List.not_mem_nil
  | q + 16, l, hl, c, hc, hn => by
    have hl : (none : Option (List bSm)) = some l := hl
    cases hl
set_option maxRecDepth 100000 in
theorem rw12 {E : zE} (hE : E.1 ≤ 4000) {B n : Nat} (h : ∀ E9 : zE, E9.1 = E.1 → bSO E9 ctb B (n, smT)) : ∀ q l, zat smR12 q = some l → ∀ c, c ∈ l → c.1 ≤ n → bMT E ctb (B + bXX) (16 * 12 + q) c
  | 0, l, hl, c, hc, hn => by
    have hl : some [] = some l := hl
    cases hl
    exact absurd hc List.not_mem_nil
  | 1, l, hl, c, hc, hn => by
    have hl : some [sc217] = some l := hl
    cases hl
    cases hc with
    | head => exact tk217 hE h hn
    | tail _ hc =>
      exact absurd hc List.not_mem_nil
  | 2, l, hl, c, hc, hn => by
    have hl : some [sc218] = some l := hl
    cases hl
    cases hc with
    | head => exact tk218 hE h hn
    | tail _ hc =>
      exact absurd hc List.not_mem_nil
  | 3, l, hl, c, hc, hn => by
    have hl : some [sc219] = some l := hl
    cases hl
    cases hc with
    | head => exact tk219 hE h hn
    | tail _ hc =>
      exact absurd hc List.not_mem_nil
  | 4, l, hl, c, hc, hn => by
    have hl : some [sc220] = some l := hl
    cases hl
    cases hc with
    | head => exact tk220 hE h hn
    | tail _ hc =>
      exact absurd hc List.not_mem_nil
  | 5, l, hl, c, hc, hn => by
    have hl : some [sc221] = some l := hl
    cases hl
    cases hc with
    | head => exact tk221 hE h hn
    | tail _ hc =>
      exact absurd hc List.not_mem_nil
  | 6, l, hl, c, hc, hn => by
    have hl : some [sc222] = some l := hl
    cases hl
    cases hc with
    | head => exact tk222 hE h hn
    | tail _ hc =>
      exact absurd hc List.not_mem_nil
  | 7, l, hl, c, hc, hn => by
    have hl : some [sc223] = some l := hl
    cases hl
    cases hc with
    | head => exact tk223 hE h hn
    | tail _ hc =>
      exact absurd hc List.not_mem_nil
  | 8, l, hl, c, hc, hn => by
    have hl : some [sc224] = some l := hl
    cases hl
    cases hc with
    | head => exact tk224 hE h hn
    | tail _ hc =>
      exact absurd hc List.not_mem_nil
  | 9, l, hl, c, hc, hn => by
    have hl : some [sc225] = some l := hl
    cases hl
    cases hc with
    | head => exact tk225 hE h hn
    | tail _ hc =>
      exact absurd hc List.not_mem_nil
  | 10, l, hl, c, hc, hn => by
    have hl : some [sc226] = some l := hl
    cases hl
    cases hc with
    | head => exact tk226 hE h hn
    | tail _ hc =>
      exact absurd hc List.not_mem_nil
  | 11, l, hl, c, hc, hn => by
    have hl : some [sc227] = some l := hl
    cases hl
    cases hc with
    | head => exact tk227 hE h hn
    | tail _ hc =>
      exact absurd hc List.not_mem_nil
  | 12, l, hl, c, hc, hn => by
    have hl : some [sc228] = some l := hl
    cases hl
    cases hc with
    | head => exact tk228 hE h hn
    | tail _ hc =>
      exact absurd hc List.not_mem_nil
  | 13, l, hl, c, hc, hn => by
    have hl : some [sc229] = some l := hl
    cases hl
    cases hc with
    | head => exact tk229 hE h hn
    | tail _ hc =>
      exact absurd hc List.not_mem_nil
  | 14, l, hl, c, hc, hn => by
    have hl : some [sc230] = some l := hl
    cases hl
    cases hc with
    | head => exact tk230 hE h hn
    | tail _ hc =>
      exact absurd hc List.not_mem_nil
  | 15, l, hl, c, hc, hn => by
    have hl : some [sc231] = some l := hl
    cases hl
    cases hc with
    | head => exact tk231 hE h hn
    | tail _ hc =>
      exact absurd hc List.not_mem_nil
  | q + 16, l, hl, c, hc, hn => by
    have hl : (none : Option (List bSm)) = some l := hl
    cases hl
set_option maxRecDepth 100000 in
theorem rw13 {E : zE} (hE : E.1 ≤ 4000) {B n : Nat} (h : ∀ E9 : zE, E9.1 = E.1 → bSO E9 ctb B (n, smT)) : ∀ q l, zat smR13 q = some l → ∀ c, c ∈ l → c.1 ≤ n → bMT E ctb (B + bXX) (16 * 13 + q) c
  | 0, l, hl, c, hc, hn => by
    have hl : some [] = some l := hl
    cases hl
    exact absurd hc List.not_mem_nil
  | 1, l, hl, c, hc, hn => by
    have hl : some [] = some l := hl
    cases hl
    exact absurd hc List.not_mem_nil
  | 2, l, hl, c, hc, hn => by
    have hl : some [] = some l := hl
    cases hl
    exact absurd hc List.not_mem_nil
  | 3, l, hl, c, hc, hn => by
    have hl : some [] = some l := hl
    cases hl
    exact absurd hc List.not_mem_nil
  | 4, l, hl, c, hc, hn => by
    have hl : some [sc232] = some l := hl
    cases hl
    cases hc with
    | head => exact tk232 hE h hn
    | tail _ hc =>
      exact absurd hc List.not_mem_nil
  | 5, l, hl, c, hc, hn => by
    have hl : some [sc233] = some l := hl
    cases hl
    cases hc with
    | head => exact tk233 hE h hn
    | tail _ hc =>
      exact absurd hc List.not_mem_nil
  | 6, l, hl, c, hc, hn => by
    have hl : some [sc234] = some l := hl
    cases hl
    cases hc with
    | head => exact tk234 hE h hn
    | tail _ hc =>
      exact absurd hc List.not_mem_nil
  | 7, l, hl, c, hc, hn => by
    have hl : some [sc235] = some l := hl
    cases hl
    cases hc with
    | head => exact tk235 hE h hn
    | tail _ hc =>
      exact absurd hc List.not_mem_nil
  | 8, l, hl, c, hc, hn => by
    have hl : some [] = some l := hl
    cases hl
    exact absurd hc List.not_mem_nil
  | 9, l, hl, c, hc, hn => by
    have hl : some [] = some l := hl
    cases hl
    exact absurd hc List.not_mem_nil
  | 10, l, hl, c, hc, hn => by
    have hl : some [] = some l := hl
    cases hl
    exact absurd hc List.not_mem_nil
  | 11, l, hl, c, hc, hn => by
    have hl : some [] = some l := hl
    cases hl
    exact absurd hc List.not_mem_nil
  | 12, l, hl, c, hc, hn => by
    have hl : some [] = some l := hl
    cases hl
    exact absurd hc List.not_mem_nil
  | 13, l, hl, c, hc, hn => by
    have hl : some [] = some l := hl
    cases hl
    exact absurd hc List.not_mem_nil
  | 14, l, hl, c, hc, hn => by
    have hl : some [] = some l := hl
    cases hl
    exact absurd hc List.not_mem_nil
  | 15, l, hl, c, hc, hn => by
    have hl : some [] = some l := hl
    cases hl
    exact absurd hc List.not_mem_nil
  | q + 16, l, hl, c, hc, hn => by
    have hl : (none : Option (List bSm)) = some l := hl
    cases hl
set_option maxRecDepth 100000 in
theorem rw14 {E : zE} (hE : E.1 ≤ 4000) {B n : Nat} (h : ∀ E9 : zE, E9.1 = E.1 → bSO E9 ctb B (n, smT)) : ∀ q l, zat smR14 q = some l → ∀ c, c ∈ l → c.1 ≤ n → bMT E ctb (B + bXX) (16 * 14 + q) c
  | 0, l, hl, c, hc, hn => by
    have hl : some [sc236, sc237] = some l := hl
    cases hl
    cases hc with
    | head => exact tk236 hE h hn
    | tail _ hc =>
      cases hc with
      | head => exact tk237 hE h hn
      | tail _ hc =>
        exact absurd hc List.not_mem_nil
  | 1, l, hl, c, hc, hn => by
    have hl : some [] = some l := hl
    cases hl
    exact absurd hc List.not_mem_nil
  | 2, l, hl, c, hc, hn => by
    have hl : some [] = some l := hl
    cases hl
    exact absurd hc List.not_mem_nil
  | 3, l, hl, c, hc, hn => by
    have hl : some [] = some l := hl
    cases hl
    exact absurd hc List.not_mem_nil
  | 4, l, hl, c, hc, hn => by
    have hl : some [] = some l := hl
    cases hl
    exact absurd hc List.not_mem_nil
  | 5, l, hl, c, hc, hn => by
    have hl : some [] = some l := hl
    cases hl
    exact absurd hc List.not_mem_nil
  | 6, l, hl, c, hc, hn => by
    have hl : some [sc238] = some l := hl
    cases hl
    cases hc with
    | head => exact tk238 hE h hn
    | tail _ hc =>
      exact absurd hc List.not_mem_nil
  | 7, l, hl, c, hc, hn => by
    have hl : some [] = some l := hl
    cases hl
    exact absurd hc List.not_mem_nil
  | 8, l, hl, c, hc, hn => by
    have hl : some [] = some l := hl
    cases hl
    exact absurd hc List.not_mem_nil
  | 9, l, hl, c, hc, hn => by
    have hl : some [] = some l := hl
    cases hl
    exact absurd hc List.not_mem_nil
  | 10, l, hl, c, hc, hn => by
    have hl : some [] = some l := hl
    cases hl
    exact absurd hc List.not_mem_nil
  | 11, l, hl, c, hc, hn => by
    have hl : some [sc239] = some l := hl
    cases hl
    cases hc with
    | head => exact tk239 hE h hn
    | tail _ hc =>
      exact absurd hc List.not_mem_nil
  | 12, l, hl, c, hc, hn => by
    have hl : some [sc240] = some l := hl
    cases hl
    cases hc with
    | head => exact tk240 hE h hn
    | tail _ hc =>
      exact absurd hc List.not_mem_nil
  | 13, l, hl, c, hc, hn => by
    have hl : some [sc241, sc242, sc243, sc244, sc245, sc246, sc247, sc248, sc249, sc250, sc251, sc252, sc253, sc254, sc255, sc256, sc257, sc258, sc259, sc260, sc261, sc262, sc263, sc264, sc265] = some l := hl
    cases hl
    cases hc with
    | head => exact tk241 hE h hn
    | tail _ hc =>
      cases hc with
      | head => exact tk242 hE h hn
      | tail _ hc =>
        cases hc with
        | head => exact tk243 hE h hn
        | tail _ hc =>
          cases hc with
          | head => exact tk244 hE h hn
          | tail _ hc =>
            cases hc with
            | head => exact tk245 hE h hn
            | tail _ hc =>
              cases hc with
              | head => exact tk246 hE h hn
              | tail _ hc =>
                cases hc with
                | head => exact tk247 hE h hn
                | tail _ hc =>
                  cases hc with
                  | head => exact tk248 hE h hn
                  | tail _ hc =>
                    cases hc with
                    | head => exact tk249 hE h hn
                    | tail _ hc =>
                      cases hc with
                      | head => exact tk250 hE h hn
                      | tail _ hc =>
                        cases hc with
                        | head => exact tk251 hE h hn
                        | tail _ hc =>
                          cases hc with
                          | head => exact tk252 hE h hn
                          | tail _ hc =>
                            cases hc with
                            | head => exact tk253 hE h hn
                            | tail _ hc =>
                              cases hc with
                              | head => exact tk254 hE h hn
                              | tail _ hc =>
                                cases hc with
                                | head => exact tk255 hE h hn
                                | tail _ hc =>
                                  cases hc with
                                  | head => exact tk256 hE h hn
                                  | tail _ hc =>
                                    cases hc with
                                    | head => exact tk257 hE h hn
                                    | tail _ hc =>
                                      cases hc with
                                      | head => exact tk258 hE h hn
                                      | tail _ hc =>
                                        cases hc with
                                        | head => exact tk259 hE h hn
                                        | tail _ hc =>
                                          cases hc with
                                          | head => exact tk260 hE h hn
                                          | tail _ hc =>
                                            cases hc with
                                            | head => exact tk261 hE h hn
                                            | tail _ hc =>
                                              cases hc with
                                              | head => exact tk262 hE h hn
                                              | tail _ hc =>
                                                cases hc with
                                                | head => exact tk263 hE h hn
                                                | tail _ hc =>
                                                  cases hc with
                                                  | head => exact tk264 hE h hn
                                                  | tail _ hc =>
                                                    cases hc with
                                                    | head => exact tk265 hE h hn
                                                    | tail _ hc =>
                                                      exact absurd hc List.not_mem_nil
  | 14, l, hl, c, hc, hn => by
    have hl : some [] = some l := hl
    cases hl
    exact absurd hc List.not_mem_nil
  | 15, l, hl, c, hc, hn => by
    have hl : some [] = some l := hl
    cases hl
    exact absurd hc List.not_mem_nil
  | q + 16, l, hl, c, hc, hn => by
    have hl : (none : Option (List bSm)) = some l := hl
    cases hl
set_option maxRecDepth 100000 in
theorem rw15 {E : zE} (hE : E.1 ≤ 4000) {B n : Nat} (h : ∀ E9 : zE, E9.1 = E.1 → bSO E9 ctb B (n, smT)) : ∀ q l, zat smR15 q = some l → ∀ c, c ∈ l → c.1 ≤ n → bMT E ctb (B + bXX) (16 * 15 + q) c
  | 0, l, hl, c, hc, hn => by
    have hl : some [sc266, sc267, sc268, sc269, sc270, sc271, sc272, sc273] = some l := hl
    cases hl
    cases hc with
    | head => exact tk266 hE h hn
    | tail _ hc =>
      cases hc with
      | head => exact tk267 hE h hn
      | tail _ hc =>
        cases hc with
        | head => exact tk268 hE h hn
        | tail _ hc =>
          cases hc with
          | head => exact tk269 hE h hn
          | tail _ hc =>
            cases hc with
            | head => exact tk270 hE h hn
            | tail _ hc =>
              cases hc with
              | head => exact tk271 hE h hn
              | tail _ hc =>
                cases hc with
                | head => exact tk272 hE h hn
                | tail _ hc =>
                  cases hc with
                  | head => exact tk273 hE h hn
                  | tail _ hc =>
                    exact absurd hc List.not_mem_nil
  | 1, l, hl, c, hc, hn => by
    have hl : some [] = some l := hl
    cases hl
    exact absurd hc List.not_mem_nil
  | 2, l, hl, c, hc, hn => by
    have hl : some [] = some l := hl
    cases hl
    exact absurd hc List.not_mem_nil
  | 3, l, hl, c, hc, hn => by
    have hl : some [sc274] = some l := hl
    cases hl
    cases hc with
    | head => exact tk274 hE h hn
    | tail _ hc =>
      exact absurd hc List.not_mem_nil
  | 4, l, hl, c, hc, hn => by
    have hl : some [] = some l := hl
    cases hl
    exact absurd hc List.not_mem_nil
  | 5, l, hl, c, hc, hn => by
    have hl : some [] = some l := hl
    cases hl
    exact absurd hc List.not_mem_nil
  | 6, l, hl, c, hc, hn => by
    have hl : some [] = some l := hl
    cases hl
    exact absurd hc List.not_mem_nil
  | 7, l, hl, c, hc, hn => by
    have hl : some [sc275] = some l := hl
    cases hl
    cases hc with
    | head => exact tk275 hE h hn
    | tail _ hc =>
      exact absurd hc List.not_mem_nil
  | 8, l, hl, c, hc, hn => by
    have hl : some [] = some l := hl
    cases hl
    exact absurd hc List.not_mem_nil
  | 9, l, hl, c, hc, hn => by
    have hl : some [sc276] = some l := hl
    cases hl
    cases hc with
    | head => exact tk276 hE h hn
    | tail _ hc =>
      exact absurd hc List.not_mem_nil
  | 10, l, hl, c, hc, hn => by
    have hl : some [] = some l := hl
    cases hl
    exact absurd hc List.not_mem_nil
  | 11, l, hl, c, hc, hn => by
    have hl : some [] = some l := hl
    cases hl
    exact absurd hc List.not_mem_nil
  | 12, l, hl, c, hc, hn => by
    have hl : some [] = some l := hl
    cases hl
    exact absurd hc List.not_mem_nil
  | 13, l, hl, c, hc, hn => by
    have hl : some [] = some l := hl
    cases hl
    exact absurd hc List.not_mem_nil
  | 14, l, hl, c, hc, hn => by
    have hl : some [] = some l := hl
    cases hl
    exact absurd hc List.not_mem_nil
  | 15, l, hl, c, hc, hn => by
    have hl : some [sc277, sc278, sc279, sc280, sc281, sc282, sc283, sc284, sc285, sc286, sc287, sc288, sc289, sc290, sc291, sc292] = some l := hl
    cases hl
    cases hc with
    | head => exact tk277 hE h hn
    | tail _ hc =>
      cases hc with
      | head => exact tk278 hE h hn
      | tail _ hc =>
        cases hc with
        | head => exact tk279 hE h hn
        | tail _ hc =>
          cases hc with
          | head => exact tk280 hE h hn
          | tail _ hc =>
            cases hc with
            | head => exact tk281 hE h hn
            | tail _ hc =>
              cases hc with
              | head => exact tk282 hE h hn
              | tail _ hc =>
                cases hc with
                | head => exact tk283 hE h hn
                | tail _ hc =>
                  cases hc with
                  | head => exact tk284 hE h hn
                  | tail _ hc =>
                    cases hc with
                    | head => exact tk285 hE h hn
                    | tail _ hc =>
                      cases hc with
                      | head => exact tk286 hE h hn
                      | tail _ hc =>
                        cases hc with
                        | head => exact tk287 hE h hn
                        | tail _ hc =>
                          cases hc with
                          | head => exact tk288 hE h hn
                          | tail _ hc =>
                            cases hc with
                            | head => exact tk289 hE h hn
                            | tail _ hc =>
                              cases hc with
                              | head => exact tk290 hE h hn
                              | tail _ hc =>
                                cases hc with
                                | head => exact tk291 hE h hn
                                | tail _ hc =>
                                  cases hc with
                                  | head => exact tk292 hE h hn
                                  | tail _ hc =>
                                    exact absurd hc List.not_mem_nil
  | q + 16, l, hl, c, hc, hn => by
    have hl : (none : Option (List bSm)) = some l := hl
    cases hl
set_option maxRecDepth 100000 in
theorem rw16 {E : zE} (hE : E.1 ≤ 4000) {B n : Nat} (h : ∀ E9 : zE, E9.1 = E.1 → bSO E9 ctb B (n, smT)) : ∀ q l, zat smR16 q = some l → ∀ c, c ∈ l → c.1 ≤ n → bMT E ctb (B + bXX) (16 * 16 + q) c
  | 0, l, hl, c, hc, hn => by
    have hl : some [sc293] = some l := hl
    cases hl
    cases hc with
    | head => exact tk293 hE h hn
    | tail _ hc =>
      exact absurd hc List.not_mem_nil
  | 1, l, hl, c, hc, hn => by
    have hl : some [sc294] = some l := hl
    cases hl
    cases hc with
    | head => exact tk294 hE h hn
    | tail _ hc =>
      exact absurd hc List.not_mem_nil
  | 2, l, hl, c, hc, hn => by
    have hl : some [] = some l := hl
    cases hl
    exact absurd hc List.not_mem_nil
  | 3, l, hl, c, hc, hn => by
    have hl : some [sc295, sc296, sc297, sc298, sc299, sc300, sc301] = some l := hl
    cases hl
    cases hc with
    | head => exact tk295 hE h hn
    | tail _ hc =>
      cases hc with
      | head => exact tk296 hE h hn
      | tail _ hc =>
        cases hc with
        | head => exact tk297 hE h hn
        | tail _ hc =>
          cases hc with
          | head => exact tk298 hE h hn
          | tail _ hc =>
            cases hc with
            | head => exact tk299 hE h hn
            | tail _ hc =>
              cases hc with
              | head => exact tk300 hE h hn
              | tail _ hc =>
                cases hc with
                | head => exact tk301 hE h hn
                | tail _ hc =>
                  exact absurd hc List.not_mem_nil
  | 4, l, hl, c, hc, hn => by
    have hl : some [sc302, sc303, sc304, sc305, sc306, sc307, sc308] = some l := hl
    cases hl
    cases hc with
    | head => exact tk302 hE h hn
    | tail _ hc =>
      cases hc with
      | head => exact tk303 hE h hn
      | tail _ hc =>
        cases hc with
        | head => exact tk304 hE h hn
        | tail _ hc =>
          cases hc with
          | head => exact tk305 hE h hn
          | tail _ hc =>
            cases hc with
            | head => exact tk306 hE h hn
            | tail _ hc =>
              cases hc with
              | head => exact tk307 hE h hn
              | tail _ hc =>
                cases hc with
                | head => exact tk308 hE h hn
                | tail _ hc =>
                  exact absurd hc List.not_mem_nil
  | 5, l, hl, c, hc, hn => by
    have hl : some [sc309, sc310, sc311, sc312, sc313, sc314, sc315] = some l := hl
    cases hl
    cases hc with
    | head => exact tk309 hE h hn
    | tail _ hc =>
      cases hc with
      | head => exact tk310 hE h hn
      | tail _ hc =>
        cases hc with
        | head => exact tk311 hE h hn
        | tail _ hc =>
          cases hc with
          | head => exact tk312 hE h hn
          | tail _ hc =>
            cases hc with
            | head => exact tk313 hE h hn
            | tail _ hc =>
              cases hc with
              | head => exact tk314 hE h hn
              | tail _ hc =>
                cases hc with
                | head => exact tk315 hE h hn
                | tail _ hc =>
                  exact absurd hc List.not_mem_nil
  | 6, l, hl, c, hc, hn => by
    have hl : some [sc316, sc317, sc318, sc319, sc320, sc321, sc322, sc323, sc324, sc325, sc326, sc327, sc328, sc329, sc330, sc331, sc332, sc333, sc334, sc335, sc336, sc337, sc338, sc339] = some l := hl
    cases hl
    cases hc with
    | head => exact tk316 hE h hn
    | tail _ hc =>
      cases hc with
      | head => exact tk317 hE h hn
      | tail _ hc =>
        cases hc with
        | head => exact tk318 hE h hn
        | tail _ hc =>
          cases hc with
          | head => exact tk319 hE h hn
          | tail _ hc =>
            cases hc with
            | head => exact tk320 hE h hn
            | tail _ hc =>
              cases hc with
              | head => exact tk321 hE h hn
              | tail _ hc =>
                cases hc with
                | head => exact tk322 hE h hn
                | tail _ hc =>
                  cases hc with
                  | head => exact tk323 hE h hn
                  | tail _ hc =>
                    cases hc with
                    | head => exact tk324 hE h hn
                    | tail _ hc =>
                      cases hc with
                      | head => exact tk325 hE h hn
                      | tail _ hc =>
                        cases hc with
                        | head => exact tk326 hE h hn
                        | tail _ hc =>
                          cases hc with
                          | head => exact tk327 hE h hn
                          | tail _ hc =>
                            cases hc with
                            | head => exact tk328 hE h hn
                            | tail _ hc =>
                              cases hc with
                              | head => exact tk329 hE h hn
                              | tail _ hc =>
                                cases hc with
                                | head => exact tk330 hE h hn
                                | tail _ hc =>
                                  cases hc with
                                  | head => exact tk331 hE h hn
                                  | tail _ hc =>
                                    cases hc with
                                    | head => exact tk332 hE h hn
                                    | tail _ hc =>
                                      cases hc with
                                      | head => exact tk333 hE h hn
                                      | tail _ hc =>
                                        cases hc with
                                        | head => exact tk334 hE h hn
                                        | tail _ hc =>
                                          cases hc with
                                          | head => exact tk335 hE h hn
                                          | tail _ hc =>
                                            cases hc with
                                            | head => exact tk336 hE h hn
                                            | tail _ hc =>
                                              cases hc with
                                              | head => exact tk337 hE h hn
                                              | tail _ hc =>
                                                cases hc with
                                                | head => exact tk338 hE h hn
                                                | tail _ hc =>
                                                  cases hc with
                                                  | head => exact tk339 hE h hn
                                                  | tail _ hc =>
                                                    exact absurd hc List.not_mem_nil
  | 7, l, hl, c, hc, hn => by
    have hl : some [] = some l := hl
    cases hl
    exact absurd hc List.not_mem_nil
  | 8, l, hl, c, hc, hn => by
    have hl : some [sc340, sc341] = some l := hl
    cases hl
    cases hc with
    | head => exact tk340 hE h hn
    | tail _ hc =>
      cases hc with
      | head => exact tk341 hE h hn
      | tail _ hc =>
        exact absurd hc List.not_mem_nil
  | 9, l, hl, c, hc, hn => by
    have hl : some [sc342] = some l := hl
    cases hl
    cases hc with
    | head => exact tk342 hE h hn
    | tail _ hc =>
      exact absurd hc List.not_mem_nil
  | 10, l, hl, c, hc, hn => by
    have hl : some [sc343] = some l := hl
    cases hl
    cases hc with
    | head => exact tk343 hE h hn
    | tail _ hc =>
      exact absurd hc List.not_mem_nil
  | 11, l, hl, c, hc, hn => by
    have hl : some [] = some l := hl
    cases hl
    exact absurd hc List.not_mem_nil
  | 12, l, hl, c, hc, hn => by
    have hl : some [sc344] = some l := hl
    cases hl
    cases hc with
    | head => exact tk344 hE h hn
    | tail _ hc =>
      exact absurd hc List.not_mem_nil
  | 13, l, hl, c, hc, hn => by
    have hl : some [sc345, sc346, sc347, sc348, sc349] = some l := hl
    cases hl
    cases hc with
    | head => exact tk345 hE h hn
    | tail _ hc =>
      cases hc with
      | head => exact tk346 hE h hn
      | tail _ hc =>
        cases hc with
        | head => exact tk347 hE h hn
        | tail _ hc =>
          cases hc with
          | head => exact tk348 hE h hn
          | tail _ hc =>
            cases hc with
            | head => exact tk349 hE h hn
            | tail _ hc =>
              exact absurd hc List.not_mem_nil
  | 14, l, hl, c, hc, hn => by
    have hl : some [sc350] = some l := hl
    cases hl
    cases hc with
    | head => exact tk350 hE h hn
    | tail _ hc =>
      exact absurd hc List.not_mem_nil
  | 15, l, hl, c, hc, hn => by
    have hl : some [sc351] = some l := hl
    cases hl
    cases hc with
    | head => exact tk351 hE h hn
    | tail _ hc =>
      exact absurd hc List.not_mem_nil
  | q + 16, l, hl, c, hc, hn => by
    have hl : (none : Option (List bSm)) = some l := hl
    cases hl
set_option maxRecDepth 100000 in
theorem rw17 {E : zE} (hE : E.1 ≤ 4000) {B n : Nat} (h : ∀ E9 : zE, E9.1 = E.1 → bSO E9 ctb B (n, smT)) : ∀ q l, zat smR17 q = some l → ∀ c, c ∈ l → c.1 ≤ n → bMT E ctb (B + bXX) (16 * 17 + q) c
  | 0, l, hl, c, hc, hn => by
    have hl : some [sc352] = some l := hl
    cases hl
    cases hc with
    | head => exact tk352 hE h hn
    | tail _ hc =>
      exact absurd hc List.not_mem_nil
  | 1, l, hl, c, hc, hn => by
    have hl : some [sc353] = some l := hl
    cases hl
    cases hc with
    | head => exact tk353 hE h hn
    | tail _ hc =>
      exact absurd hc List.not_mem_nil
  | 2, l, hl, c, hc, hn => by
    have hl : some [sc354] = some l := hl
    cases hl
    cases hc with
    | head => exact tk354 hE h hn
    | tail _ hc =>
      exact absurd hc List.not_mem_nil
  | 3, l, hl, c, hc, hn => by
    have hl : some [sc355] = some l := hl
    cases hl
    cases hc with
    | head => exact tk355 hE h hn
    | tail _ hc =>
      exact absurd hc List.not_mem_nil
  | 4, l, hl, c, hc, hn => by
    have hl : some [sc356] = some l := hl
    cases hl
    cases hc with
    | head => exact tk356 hE h hn
    | tail _ hc =>
      exact absurd hc List.not_mem_nil
  | 5, l, hl, c, hc, hn => by
    have hl : some [sc357] = some l := hl
    cases hl
    cases hc with
    | head => exact tk357 hE h hn
    | tail _ hc =>
      exact absurd hc List.not_mem_nil
  | 6, l, hl, c, hc, hn => by
    have hl : some [sc358] = some l := hl
    cases hl
    cases hc with
    | head => exact tk358 hE h hn
    | tail _ hc =>
      exact absurd hc List.not_mem_nil
  | 7, l, hl, c, hc, hn => by
    have hl : some [sc359, sc360, sc361, sc362] = some l := hl
    cases hl
    cases hc with
    | head => exact tk359 hE h hn
    | tail _ hc =>
      cases hc with
      | head => exact tk360 hE h hn
      | tail _ hc =>
        cases hc with
        | head => exact tk361 hE h hn
        | tail _ hc =>
          cases hc with
          | head => exact tk362 hE h hn
          | tail _ hc =>
            exact absurd hc List.not_mem_nil
  | 8, l, hl, c, hc, hn => by
    have hl : some [sc363] = some l := hl
    cases hl
    cases hc with
    | head => exact tk363 hE h hn
    | tail _ hc =>
      exact absurd hc List.not_mem_nil
  | 9, l, hl, c, hc, hn => by
    have hl : some [sc364] = some l := hl
    cases hl
    cases hc with
    | head => exact tk364 hE h hn
    | tail _ hc =>
      exact absurd hc List.not_mem_nil
  | 10, l, hl, c, hc, hn => by
    have hl : some [sc365] = some l := hl
    cases hl
    cases hc with
    | head => exact tk365 hE h hn
    | tail _ hc =>
      exact absurd hc List.not_mem_nil
  | 11, l, hl, c, hc, hn => by
    have hl : some [sc366] = some l := hl
    cases hl
    cases hc with
    | head => exact tk366 hE h hn
    | tail _ hc =>
      exact absurd hc List.not_mem_nil
  | 12, l, hl, c, hc, hn => by
    have hl : some [sc367] = some l := hl
    cases hl
    cases hc with
    | head => exact tk367 hE h hn
    | tail _ hc =>
      exact absurd hc List.not_mem_nil
  | 13, l, hl, c, hc, hn => by
    have hl : some [] = some l := hl
    cases hl
    exact absurd hc List.not_mem_nil
  | 14, l, hl, c, hc, hn => by
    have hl : some [] = some l := hl
    cases hl
    exact absurd hc List.not_mem_nil
  | 15, l, hl, c, hc, hn => by
    have hl : some [sc368] = some l := hl
    cases hl
    cases hc with
    | head => exact tk368 hE h hn
    | tail _ hc =>
      exact absurd hc List.not_mem_nil
  | q + 16, l, hl, c, hc, hn => by
    have hl : (none : Option (List bSm)) = some l := hl
    cases hl
set_option maxRecDepth 100000 in
theorem rw18 {E : zE} (hE : E.1 ≤ 4000) {B n : Nat} (h : ∀ E9 : zE, E9.1 = E.1 → bSO E9 ctb B (n, smT)) : ∀ q l, zat smR18 q = some l → ∀ c, c ∈ l → c.1 ≤ n → bMT E ctb (B + bXX) (16 * 18 + q) c
  | 0, l, hl, c, hc, hn => by
    have hl : some [sc369] = some l := hl
    cases hl
    cases hc with
    | head => exact tk369 hE h hn
    | tail _ hc =>
      exact absurd hc List.not_mem_nil
  | 1, l, hl, c, hc, hn => by
    have hl : some [] = some l := hl
    cases hl
    exact absurd hc List.not_mem_nil
  | 2, l, hl, c, hc, hn => by
    have hl : some [sc370] = some l := hl
    cases hl
    cases hc with
    | head => exact tk370 hE h hn
    | tail _ hc =>
      exact absurd hc List.not_mem_nil
  | 3, l, hl, c, hc, hn => by
    have hl : some [sc371] = some l := hl
    cases hl
    cases hc with
    | head => exact tk371 hE h hn
    | tail _ hc =>
      exact absurd hc List.not_mem_nil
  | 4, l, hl, c, hc, hn => by
    have hl : some [sc372] = some l := hl
    cases hl
    cases hc with
    | head => exact tk372 hE h hn
    | tail _ hc =>
      exact absurd hc List.not_mem_nil
  | 5, l, hl, c, hc, hn => by
    have hl : some [sc373] = some l := hl
    cases hl
    cases hc with
    | head => exact tk373 hE h hn
    | tail _ hc =>
      exact absurd hc List.not_mem_nil
  | 6, l, hl, c, hc, hn => by
    have hl : some [sc374] = some l := hl
    cases hl
    cases hc with
    | head => exact tk374 hE h hn
    | tail _ hc =>
      exact absurd hc List.not_mem_nil
  | 7, l, hl, c, hc, hn => by
    have hl : some [sc375] = some l := hl
    cases hl
    cases hc with
    | head => exact tk375 hE h hn
    | tail _ hc =>
      exact absurd hc List.not_mem_nil
  | 8, l, hl, c, hc, hn => by
    have hl : some [sc376] = some l := hl
    cases hl
    cases hc with
    | head => exact tk376 hE h hn
    | tail _ hc =>
      exact absurd hc List.not_mem_nil
  | 9, l, hl, c, hc, hn => by
    have hl : some [sc377] = some l := hl
    cases hl
    cases hc with
    | head => exact tk377 hE h hn
    | tail _ hc =>
      exact absurd hc List.not_mem_nil
  | 10, l, hl, c, hc, hn => by
    have hl : some [sc378] = some l := hl
    cases hl
    cases hc with
    | head => exact tk378 hE h hn
    | tail _ hc =>
      exact absurd hc List.not_mem_nil
  | 11, l, hl, c, hc, hn => by
    have hl : some [sc379] = some l := hl
    cases hl
    cases hc with
    | head => exact tk379 hE h hn
    | tail _ hc =>
      exact absurd hc List.not_mem_nil
  | 12, l, hl, c, hc, hn => by
    have hl : some [] = some l := hl
    cases hl
    exact absurd hc List.not_mem_nil
  | 13, l, hl, c, hc, hn => by
    have hl : some [sc380] = some l := hl
    cases hl
    cases hc with
    | head => exact tk380 hE h hn
    | tail _ hc =>
      exact absurd hc List.not_mem_nil
  | 14, l, hl, c, hc, hn => by
    have hl : some [] = some l := hl
    cases hl
    exact absurd hc List.not_mem_nil
  | 15, l, hl, c, hc, hn => by
    have hl : some [sc381] = some l := hl
    cases hl
    cases hc with
    | head => exact tk381 hE h hn
    | tail _ hc =>
      exact absurd hc List.not_mem_nil
  | q + 16, l, hl, c, hc, hn => by
    have hl : (none : Option (List bSm)) = some l := hl
    cases hl
set_option maxRecDepth 100000 in
theorem rw19 {E : zE} (hE : E.1 ≤ 4000) {B n : Nat} (h : ∀ E9 : zE, E9.1 = E.1 → bSO E9 ctb B (n, smT)) : ∀ q l, zat smR19 q = some l → ∀ c, c ∈ l → c.1 ≤ n → bMT E ctb (B + bXX) (16 * 19 + q) c
  | 0, l, hl, c, hc, hn => by
    have hl : some [sc382] = some l := hl
    cases hl
    cases hc with
    | head => exact tk382 hE h hn
    | tail _ hc =>
      exact absurd hc List.not_mem_nil
  | 1, l, hl, c, hc, hn => by
    have hl : some [] = some l := hl
    cases hl
    exact absurd hc List.not_mem_nil
  | 2, l, hl, c, hc, hn => by
    have hl : some [sc383] = some l := hl
    cases hl
    cases hc with
    | head => exact tk383 hE h hn
    | tail _ hc =>
      exact absurd hc List.not_mem_nil
  | 3, l, hl, c, hc, hn => by
    have hl : some [sc384] = some l := hl
    cases hl
    cases hc with
    | head => exact tk384 hE h hn
    | tail _ hc =>
      exact absurd hc List.not_mem_nil
  | 4, l, hl, c, hc, hn => by
    have hl : some [sc385] = some l := hl
    cases hl
    cases hc with
    | head => exact tk385 hE h hn
    | tail _ hc =>
      exact absurd hc List.not_mem_nil
  | 5, l, hl, c, hc, hn => by
    have hl : some [sc386] = some l := hl
    cases hl
    cases hc with
    | head => exact tk386 hE h hn
    | tail _ hc =>
      exact absurd hc List.not_mem_nil
  | 6, l, hl, c, hc, hn => by
    have hl : some [sc387] = some l := hl
    cases hl
    cases hc with
    | head => exact tk387 hE h hn
    | tail _ hc =>
      exact absurd hc List.not_mem_nil
  | 7, l, hl, c, hc, hn => by
    have hl : some [sc388] = some l := hl
    cases hl
    cases hc with
    | head => exact tk388 hE h hn
    | tail _ hc =>
      exact absurd hc List.not_mem_nil
  | 8, l, hl, c, hc, hn => by
    have hl : some [sc389] = some l := hl
    cases hl
    cases hc with
    | head => exact tk389 hE h hn
    | tail _ hc =>
      exact absurd hc List.not_mem_nil
  | 9, l, hl, c, hc, hn => by
    have hl : some [sc390] = some l := hl
    cases hl
    cases hc with
    | head => exact tk390 hE h hn
    | tail _ hc =>
      exact absurd hc List.not_mem_nil
  | 10, l, hl, c, hc, hn => by
    have hl : some [sc391] = some l := hl
    cases hl
    cases hc with
    | head => exact tk391 hE h hn
    | tail _ hc =>
      exact absurd hc List.not_mem_nil
  | 11, l, hl, c, hc, hn => by
    have hl : some [sc392] = some l := hl
    cases hl
    cases hc with
    | head => exact tk392 hE h hn
    | tail _ hc =>
      exact absurd hc List.not_mem_nil
  | 12, l, hl, c, hc, hn => by
    have hl : some [sc393] = some l := hl
    cases hl
    cases hc with
    | head => exact tk393 hE h hn
    | tail _ hc =>
      exact absurd hc List.not_mem_nil
  | 13, l, hl, c, hc, hn => by
    have hl : some [sc394] = some l := hl
    cases hl
    cases hc with
    | head => exact tk394 hE h hn
    | tail _ hc =>
      exact absurd hc List.not_mem_nil
  | 14, l, hl, c, hc, hn => by
    have hl : some [sc395] = some l := hl
    cases hl
    cases hc with
    | head => exact tk395 hE h hn
    | tail _ hc =>
      exact absurd hc List.not_mem_nil
  | 15, l, hl, c, hc, hn => by
    have hl : some [sc396] = some l := hl
    cases hl
    cases hc with
    | head => exact tk396 hE h hn
    | tail _ hc =>
      exact absurd hc List.not_mem_nil
  | q + 16, l, hl, c, hc, hn => by
    have hl : (none : Option (List bSm)) = some l := hl
    cases hl
set_option maxRecDepth 100000 in
theorem rw20 {E : zE} (hE : E.1 ≤ 4000) {B n : Nat} (h : ∀ E9 : zE, E9.1 = E.1 → bSO E9 ctb B (n, smT)) : ∀ q l, zat smR20 q = some l → ∀ c, c ∈ l → c.1 ≤ n → bMT E ctb (B + bXX) (16 * 20 + q) c
  | 0, l, hl, c, hc, hn => by
    have hl : some [sc397, sc398] = some l := hl
    cases hl
    cases hc with
    | head => exact tk397 hE h hn
    | tail _ hc =>
      cases hc with
      | head => exact tk398 hE h hn
      | tail _ hc =>
        exact absurd hc List.not_mem_nil
  | 1, l, hl, c, hc, hn => by
    have hl : some [sc399] = some l := hl
    cases hl
    cases hc with
    | head => exact tk399 hE h hn
    | tail _ hc =>
      exact absurd hc List.not_mem_nil
  | 2, l, hl, c, hc, hn => by
    have hl : some [sc400] = some l := hl
    cases hl
    cases hc with
    | head => exact tk400 hE h hn
    | tail _ hc =>
      exact absurd hc List.not_mem_nil
  | 3, l, hl, c, hc, hn => by
    have hl : some [sc401] = some l := hl
    cases hl
    cases hc with
    | head => exact tk401 hE h hn
    | tail _ hc =>
      exact absurd hc List.not_mem_nil
  | 4, l, hl, c, hc, hn => by
    have hl : some [sc402] = some l := hl
    cases hl
    cases hc with
    | head => exact tk402 hE h hn
    | tail _ hc =>
      exact absurd hc List.not_mem_nil
  | 5, l, hl, c, hc, hn => by
    have hl : some [sc403] = some l := hl
    cases hl
    cases hc with
    | head => exact tk403 hE h hn
    | tail _ hc =>
      exact absurd hc List.not_mem_nil
  | 6, l, hl, c, hc, hn => by
    have hl : some [sc404] = some l := hl
    cases hl
    cases hc with
    | head => exact tk404 hE h hn
    | tail _ hc =>
      exact absurd hc List.not_mem_nil
  | 7, l, hl, c, hc, hn => by
    have hl : some [] = some l := hl
    cases hl
    exact absurd hc List.not_mem_nil
  | 8, l, hl, c, hc, hn => by
    have hl : some [sc405] = some l := hl
    cases hl
    cases hc with
    | head => exact tk405 hE h hn
    | tail _ hc =>
      exact absurd hc List.not_mem_nil
  | 9, l, hl, c, hc, hn => by
    have hl : some [] = some l := hl
    cases hl
    exact absurd hc List.not_mem_nil
  | 10, l, hl, c, hc, hn => by
    have hl : some [sc406] = some l := hl
    cases hl
    cases hc with
    | head => exact tk406 hE h hn
    | tail _ hc =>
      exact absurd hc List.not_mem_nil
  | 11, l, hl, c, hc, hn => by
    have hl : some [sc407] = some l := hl
    cases hl
    cases hc with
    | head => exact tk407 hE h hn
    | tail _ hc =>
      exact absurd hc List.not_mem_nil
  | 12, l, hl, c, hc, hn => by
    have hl : some [sc408] = some l := hl
    cases hl
    cases hc with
    | head => exact tk408 hE h hn
    | tail _ hc =>
      exact absurd hc List.not_mem_nil
  | 13, l, hl, c, hc, hn => by
    have hl : some [sc409] = some l := hl
    cases hl
    cases hc with
    | head => exact tk409 hE h hn
    | tail _ hc =>
      exact absurd hc List.not_mem_nil
  | 14, l, hl, c, hc, hn => by
    have hl : some [sc410] = some l := hl
    cases hl
    cases hc with
    | head => exact tk410 hE h hn
    | tail _ hc =>
      exact absurd hc List.not_mem_nil
  | 15, l, hl, c, hc, hn => by
    have hl : some [sc411] = some l := hl
    cases hl
    cases hc with
    | head => exact tk411 hE h hn
    | tail _ hc =>
      exact absurd hc List.not_mem_nil
  | q + 16, l, hl, c, hc, hn => by
    have hl : (none : Option (List bSm)) = some l := hl
    cases hl
set_option maxRecDepth 100000 in
theorem rw21 {E : zE} (hE : E.1 ≤ 4000) {B n : Nat} (h : ∀ E9 : zE, E9.1 = E.1 → bSO E9 ctb B (n, smT)) : ∀ q l, zat smR21 q = some l → ∀ c, c ∈ l → c.1 ≤ n → bMT E ctb (B + bXX) (16 * 21 + q) c
  | 0, l, hl, c, hc, hn => by
    have hl : some [] = some l := hl
    cases hl
    exact absurd hc List.not_mem_nil
  | 1, l, hl, c, hc, hn => by
    have hl : some [] = some l := hl
    cases hl
    exact absurd hc List.not_mem_nil
  | 2, l, hl, c, hc, hn => by
    have hl : some [sc412] = some l := hl
    cases hl
    cases hc with
    | head => exact tk412 hE h hn
    | tail _ hc =>
      exact absurd hc List.not_mem_nil
  | 3, l, hl, c, hc, hn => by
    have hl : some [] = some l := hl
    cases hl
    exact absurd hc List.not_mem_nil
  | 4, l, hl, c, hc, hn => by
    have hl : some [] = some l := hl
    cases hl
    exact absurd hc List.not_mem_nil
  | 5, l, hl, c, hc, hn => by
    have hl : some [] = some l := hl
    cases hl
    exact absurd hc List.not_mem_nil
  | 6, l, hl, c, hc, hn => by
    have hl : some [] = some l := hl
    cases hl
    exact absurd hc List.not_mem_nil
  | 7, l, hl, c, hc, hn => by
    have hl : some [] = some l := hl
    cases hl
    exact absurd hc List.not_mem_nil
  | 8, l, hl, c, hc, hn => by
    have hl : some [] = some l := hl
    cases hl
    exact absurd hc List.not_mem_nil
  | 9, l, hl, c, hc, hn => by
    have hl : some [] = some l := hl
    cases hl
    exact absurd hc List.not_mem_nil
  | 10, l, hl, c, hc, hn => by
    have hl : some [] = some l := hl
    cases hl
    exact absurd hc List.not_mem_nil
  | 11, l, hl, c, hc, hn => by
    have hl : some [] = some l := hl
    cases hl
    exact absurd hc List.not_mem_nil
  | 12, l, hl, c, hc, hn => by
    have hl : some [] = some l := hl
    cases hl
    exact absurd hc List.not_mem_nil
  | 13, l, hl, c, hc, hn => by
    have hl : some [] = some l := hl
    cases hl
    exact absurd hc List.not_mem_nil
  | 14, l, hl, c, hc, hn => by
    have hl : some [] = some l := hl
    cases hl
    exact absurd hc List.not_mem_nil
  | 15, l, hl, c, hc, hn => by
    have hl : some [] = some l := hl
    cases hl
    exact absurd hc List.not_mem_nil
  | q + 16, l, hl, c, hc, hn => by
    have hl : (none : Option (List bSm)) = some l := hl
    cases hl
set_option maxRecDepth 100000 in
theorem rwT {E : zE} (hE : E.1 ≤ 4000) {B n : Nat} (h : ∀ E9 : zE, E9.1 = E.1 → bSO E9 ctb B (n, smT)) : ∀ i r, zat smT i = some r → ∀ q l, zat r q = some l → ∀ c, c ∈ l → c.1 ≤ n → bMT E ctb (B + bXX) (16 * i + q) c
  | 0, r, hr => by
    have hr : some smR0 = some r := hr
    cases hr
    exact rw0 hE h
  | 1, r, hr => by
    have hr : some smR1 = some r := hr
    cases hr
    exact rw1 hE h
  | 2, r, hr => by
    have hr : some smR2 = some r := hr
    cases hr
    exact rw2 hE h
  | 3, r, hr => by
    have hr : some smR3 = some r := hr
    cases hr
    exact rw3 hE h
  | 4, r, hr => by
    have hr : some smR4 = some r := hr
    cases hr
    exact rw4 hE h
  | 5, r, hr => by
    have hr : some smR5 = some r := hr
    cases hr
    exact rw5 hE h
  | 6, r, hr => by
    have hr : some smR6 = some r := hr
    cases hr
    exact rw6 hE h
  | 7, r, hr => by
    have hr : some smR7 = some r := hr
    cases hr
    exact rw7 hE h
  | 8, r, hr => by
    have hr : some smR8 = some r := hr
    cases hr
    exact rw8 hE h
  | 9, r, hr => by
    have hr : some smR9 = some r := hr
    cases hr
    exact rw9 hE h
  | 10, r, hr => by
    have hr : some smR10 = some r := hr
    cases hr
    exact rw10 hE h
  | 11, r, hr => by
    have hr : some smR11 = some r := hr
    cases hr
    exact rw11 hE h
  | 12, r, hr => by
    have hr : some smR12 = some r := hr
    cases hr
    exact rw12 hE h
  | 13, r, hr => by
    have hr : some smR13 = some r := hr
    cases hr
    exact rw13 hE h
  | 14, r, hr => by
    have hr : some smR14 = some r := hr
    cases hr
    exact rw14 hE h
  | 15, r, hr => by
    have hr : some smR15 = some r := hr
    cases hr
    exact rw15 hE h
  | 16, r, hr => by
    have hr : some smR16 = some r := hr
    cases hr
    exact rw16 hE h
  | 17, r, hr => by
    have hr : some smR17 = some r := hr
    cases hr
    exact rw17 hE h
  | 18, r, hr => by
    have hr : some smR18 = some r := hr
    cases hr
    exact rw18 hE h
  | 19, r, hr => by
    have hr : some smR19 = some r := hr
    cases hr
    exact rw19 hE h
  | 20, r, hr => by
    have hr : some smR20 = some r := hr
    cases hr
    exact rw20 hE h
  | 21, r, hr => by
    have hr : some smR21 = some r := hr
    cases hr
    exact rw21 hE h
  | i + 22, r, hr => by
    have hr : (none : Option (List (List bSm))) = some r := hr
    cases hr
set_option maxRecDepth 100000 in
theorem asm : ∀ n : Nat, ∃ B, ∀ E : zE, E.1 ≤ 4000 → bSO E ctb B (n, smT)
  | 0 => ⟨0, fun E _ => bSO_0⟩
  | n + 1 => by
    obtain ⟨B, hB⟩ := asm n
    refine ⟨B + bXX, fun E hE => bSO_s (Nat.le_add_right _ _) (hB E hE) fun j l hl c hc hcn => ?_⟩
    unfold bg2 at hl
    split at hl
    · rename_i r hr
      rw [agt_eq] at hr hl
      have key := rwT hE (fun E9 h9 => hB E9 (by omega)) (j / 16) r hr (j % 16) l hl c hc (Nat.le_of_eq hcn)
      rw [show 16 * (j / 16) + j % 16 = j by omega] at key
      exact key
    · cases hl
